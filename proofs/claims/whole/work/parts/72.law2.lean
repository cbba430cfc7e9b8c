/-! The law: rows of its own. -/
section LawRows
variable {X : jx_X} {l : Launch} {E : jx_E} {b : Nat} {y : MethodName} {cc : ByteArray} {nL : Nat} {ret : Option FieldType} {R : Room} {Q : State → Prop} {pc : Nat} {L L' : List (Option Value)} {rest st : List Value} {G : jx_H} {sz ce sl : Nat}
theorem jx_sld (k : jx_ok X l E b y cc nL ret R) {a N p : Nat} {xs : Nat → Int32} {i : Int32} (hX : va_X a N xs (jx_s X) (jx_s X).heap) (hbl : a < (jx_s X).heap.size) (hab : a < b) (hN : N < 2 ^ 31) (dd : decode cc pc = .ok (.iaload, 1)) (hi : i = nI p) (hp : p < N) (kk : jx_w X E b Q (pc + 1) L (.int (xs p) :: rest) G sz ce sl) : jx_w X E b Q pc L (.int i :: .ref a :: rest) G sz ce sl := by
  subst hi
  obtain ⟨p0, l0, e, R0, s, m, args, below, meth, c⟩ := X
  intro H locs ls hr hS hl
  refine va_sld k.1 k.2.1 hX hbl (fun h => ?_) hS (vp_in_nI hp hN) dd ?_
  · have : b ≤ a := h
    omega
  · rw [nI_clamp (by omega)]
    exact kk H locs ls hr hS hl
theorem jx_slen (k : jx_ok X l E b y cc nL ret R) {a N : Nat} {xs : Nat → Int32} (hX : va_X a N xs (jx_s X) (jx_s X).heap) (hbl : a < (jx_s X).heap.size) (hab : a < b) (dd : decode cc pc = .ok (.arraylength, 1)) (kk : jx_w X E b Q (pc + 1) L (.int (nI N) :: rest) G sz ce sl) : jx_w X E b Q pc L (.ref a :: rest) G sz ce sl := by
  obtain ⟨p0, l0, e, R0, s, m, args, below, meth, c⟩ := X
  intro H locs ls hr hS hl
  refine va_slen k.1 k.2.1 hX hbl (fun h => ?_) hS dd (kk H locs ls hr hS hl)
  have : b ≤ a := h
  omega
theorem jx_tabIn (k : jx_ok X l E b y cc nL ret R) {dflt lo hi : Int} {offs : Array Int} {len : Nat} {x : Int32} {off : Int} {tgt : Nat} (dd : decode cc pc = .ok (.tableswitch dflt lo hi offs, len)) (h1 : ¬ x.toInt < lo) (h2 : ¬ hi < x.toInt) (ho : offs[(x.toInt - lo).toNat]? = some off) (ht : (pc : Int) + off = (tgt : Int)) (kk : jx_w X E b Q tgt L rest G sz ce sl) : jx_w X E b Q pc L (.int x :: rest) G sz ce sl := by
  obtain ⟨p0, l0, e, R0, s, m, args, below, meth, c⟩ := X
  exact fun H locs ls hr hS hl => lv_tableIn k.1 k.2.1 dd h1 h2 ho ht (kk H locs ls hr hS hl)
theorem jx_tabOut (k : jx_ok X l E b y cc nL ret R) {dflt lo hi : Int} {offs : Array Int} {len : Nat} {x : Int32} {tgt : Nat} (dd : decode cc pc = .ok (.tableswitch dflt lo hi offs, len)) (h : x.toInt < lo ∨ hi < x.toInt) (ht : (pc : Int) + dflt = (tgt : Int)) (kk : jx_w X E b Q tgt L rest G sz ce sl) : jx_w X E b Q pc L (.int x :: rest) G sz ce sl := by
  obtain ⟨p0, l0, e, R0, s, m, args, below, meth, c⟩ := X
  exact fun H locs ls hr hS hl => lv_tableOut k.1 k.2.1 dd h ht (kk H locs ls hr hS hl)
theorem jx_callSW (k : jx_ok X l E b y cc nL ret R) {idx n d' mc' ms' nL' : Nat} {y' : MethodName} {cc' : ByteArray} {ret' : Option FieldType} {hh : List (Nat × Nat × Nat × Nat)} {As : List Value} {Q' : Option Value → jx_H → Nat → Prop} (w1 : Cond.codeWith y' cc' nL' ret' hh ∈ jn_TB) (w2 : Cond.initialized y'.cls ∈ jn_TB) (w3 : y'.cls ≠ "java/lang/invoke/MethodHandle" ∧ y'.cls ≠ "java/lang/invoke/VarHandle") (w4 : (parseMethodDescriptor y'.desc).map (fun d => d.parameters.length) = some n) (w5 : Cond.methodLink y.cls idx y' ∈ jn_TB) (w6 : Cond.static y' ∈ jn_TB) (hM : jx_cw l E b y' cc' nL' ret' hh d' mc' ms' As G sz Q') (dd : decode cc pc = .ok (.invokestatic idx, 3)) (hn : As.length = n) (hLn : L.length = nL) (hst : st = As.reverse ++ rest) (hrm : (rest.map fun v => v.category).sum ≤ 8) (hR : d' + 1 ≤ R.frames ∧ 8 + (nL' + 11) + 30 * d' ≤ R.locals) (hf : ce + mc' ≤ R.cells ∧ sl + ms' ≤ R.slots)
    (kk : ∀ (v : Option Value) (G' : jx_H) (sz' : Nat), Q' v G' sz' → jx_w X E b Q (pc + 3) L (v.toList ++ rest) G' sz' (ce + mc') (sl + ms')) : jx_w X E b Q pc L st G sz ce sl := by
  obtain ⟨p, l0, e, R0, s, m, args, below, meth, c⟩ := X
  intro H locs ls hr hS hl
  obtain ⟨hx, hb, hml, hown, hg, -, -, rfl, rfl, -⟩ := k
  have htb := hg.1
  have hsz : ls.size = nL := hl.1.trans hLn
  refine jx_run (Q' := Q') (a := As.toArray) ?_ hS hl kk
  have hK : Back l0 R0 p e below s args y' 3 8 (PreOf R0 mc' ms' (jx_P E b As G sz)) (PostOf (jx_Q E b Q') mc' ms' (jx_A b)) := va_backW (hh := hh) (bytes := cc') (maxL := nL') (ret := ret') hM jx_P_blind rfl rfl hR.1 hR.2 (fun w hw a' U hW => by
    rw [List.mem_singleton.mp hw]
    exact jx_word (List.mem_filter.mp w1).2 hW (htb _ w1 args)) (List.mem_singleton.mpr rfl) (fun a' U hW => jx_word (List.mem_filter.mp w2).2 hW (htb _ w2 args))
  intro T hT X
  obtain ⟨mk, methM, cM, hnamed, hmethM, -, -, -, -, -, -, hsigM⟩ := Cond.codeWith_spec (htb _ w1 args)
  have hstatic : methM.isStatic = true := Cond.static_spec hnamed hmethM (htb _ w6 args)
  obtain ⟨kP, hkP, -⟩ := className_of_methodNamed hnamed
  have hinitP : kP.init = .initialized := Cond.initialized_spec (findClass_of_methodNamed hnamed) hkP (htb _ w2 args)
  obtain ⟨vm₁, X₁, hstep₁⟩ := X.invokestatic hx hown (htb _ w5 args) hnamed hmethM hstatic hkP hinitP w3 (g := F0 m pc ls st) rfl (argsL := As) (rest := rest) (hn.trans (jx_par w4 _ hsigM)) hst (by rw [show c.code = cc from hb]; exact dd)
  obtain ⟨v, ⟨U', l2, c2, s2⟩, X', ⟨g', mk', t, L1, e1, e2, hq, h1, hL, h2, h3⟩, hsteps⟩ := hK m meth c ⟨T.setVm vm₁, locs, ce, sl⟩ { F0 m pc ls st with stack := rest } (.invokestatic idx) mk As.toArray X₁ rfl (hsz.trans hml.symm) (by rw [show c.code = cc from hb]; exact dd) (lv_room hrm) (X₁.named hnamed) ⟨hf.1, hf.2, jx_pre hg hr hS (T.setVm vm₁) hT X₁.warmed⟩
  dsimp only [Pt.U, Pt.locs, Pt.cells, Pt.slots] at X' e1 e2 h1 h2 h3 hsteps
  subst h1; subst h2; subst h3
  exact ⟨v, (T.setVm vm₁).calling g' mk' As.toArray, t, U', L1, hT, X', hL, e1, e2, hq, fun target h => hstep₁ _ fun acts => by rw [doInvoke_state]; exact hsteps.trans h⟩
theorem jx_callSW1 (k : jx_ok X l E b y cc nL ret R) {idx n d' mc' ms' nL' : Nat} {y' : MethodName} {cc' : ByteArray} {ret' : Option FieldType} {hh : List (Nat × Nat × Nat × Nat)} {As : List Value} {r : Value} {G1 : jx_H} {sz1 : Nat} (w1 : Cond.codeWith y' cc' nL' ret' hh ∈ jn_TB) (w2 : Cond.initialized y'.cls ∈ jn_TB) (w3 : y'.cls ≠ "java/lang/invoke/MethodHandle" ∧ y'.cls ≠ "java/lang/invoke/VarHandle") (w4 : (parseMethodDescriptor y'.desc).map (fun d => d.parameters.length) = some n) (w5 : Cond.methodLink y.cls idx y' ∈ jn_TB) (w6 : Cond.static y' ∈ jn_TB) (hM : jx_cw l E b y' cc' nL' ret' hh d' mc' ms' As G sz (fun v G' sz' => v = some r ∧ G' = G1 ∧ sz' = sz1)) (dd : decode cc pc = .ok (.invokestatic idx, 3)) (hn : As.length = n) (hLn : L.length = nL) (hst : st = As.reverse ++ rest) (hrm : (rest.map fun v => v.category).sum ≤ 8) (hR : d' + 1 ≤ R.frames ∧ 8 + (nL' + 11) + 30 * d' ≤ R.locals) (hf : ce + mc' ≤ R.cells ∧ sl + ms' ≤ R.slots)
    (kk : jx_w X E b Q (pc + 3) L (r :: rest) G1 sz1 (ce + mc') (sl + ms')) : jx_w X E b Q pc L st G sz ce sl := by
  refine jx_callSW k w1 w2 w3 w4 w5 w6 hM dd hn hLn hst hrm hR hf ?_
  rintro v G' sz' ⟨rfl, rfl, rfl⟩
  exact kk
end LawRows
