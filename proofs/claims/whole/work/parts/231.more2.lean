section MoreRows2
variable {X : jx_X} {l : Launch} {E : jx_E} {b : Nat} {y : MethodName} {cc : ByteArray} {nL : Nat} {ret : Option FieldType} {R : Room} {Q : State → Prop} {pc : Nat} {L L' : List (Option Value)} {rest st : List Value} {G : jx_H} {sz ce sl : Nat}
theorem jx_istN (k : jx_ok X l E b y cc nL ret R) {a n p : Nat} {f : Nat → Int32} {i x : Int32} (dd : decode cc pc = .ok (.iastore, 1)) (hG : G a = some (ja_i E n f)) (hi : i = nI p) (hp : p < n) (hn : n < 2 ^ 31) (kk : jx_w X E b Q (pc + 1) L rest (va_up G a (some (ja_i E n (upd f p x)))) sz ce sl) : jx_w X E b Q pc L (.int x :: .int i :: .ref a :: rest) G sz ce sl := by
  subst hi
  refine jx_iast k dd hG (vp_in_nI hp hn) ?_
  rw [nI_clamp (by omega)]
  exact kk
theorem jx_zstN (k : jx_ok X l E b y cc nL ret R) {a n p : Nat} {f : Nat → Int32} {i x : Int32} (dd : decode cc pc = .ok (.bastore, 1)) (hG : G a = some (ja_z E n f)) (hi : i = nI p) (hp : p < n) (hn : n < 2 ^ 31) (hx : narrow .boolean (.int x) = .int x) (kk : jx_w X E b Q (pc + 1) L rest (va_up G a (some (ja_z E n (upd f p x)))) sz ce sl) : jx_w X E b Q pc L (.int x :: .int i :: .ref a :: rest) G sz ce sl := by
  subst hi
  refine jx_zast k dd hG (vp_in_nI hp hn) hx ?_
  rw [nI_clamp (by omega)]
  exact kk
theorem jx_lstN (k : jx_ok X l E b y cc nL ret R) {a n p : Nat} {f : Nat → Int64} {i : Int32} {x : Int64} (dd : decode cc pc = .ok (.lastore, 1)) (hG : G a = some (ja_l E n f)) (hi : i = nI p) (hp : p < n) (hn : n < 2 ^ 31) (kk : jx_w X E b Q (pc + 1) L rest (va_up G a (some (ja_l E n (vp_updL f p x)))) sz ce sl) : jx_w X E b Q pc L (.long x :: .int i :: .ref a :: rest) G sz ce sl := by
  subst hi
  refine jx_last k dd hG (vp_in_nI hp hn) ?_
  rw [nI_clamp (by omega)]
  exact kk
theorem jx_aldS (k : jx_ok X l E b y cc nL ret R) {a n p t v : Nat} {C : String} {f : Nat → Option Nat} {i : Int32} (dd : decode cc pc = .ok (.aaload, 1)) (hG : G a = some (ja_q E t n f)) (ht : (jx_tys E)[t]? = some (E.2 t, .object C)) (hi : i = nI p) (hp : p < n) (hn : n < 2 ^ 31) (hf : f p = some v) (kk : jx_w X E b Q (pc + 1) L (.ref v :: rest) G sz ce sl) : jx_w X E b Q pc L (.int i :: .ref a :: rest) G sz ce sl := by
  subst hi
  refine jx_aald k dd hG ht (vp_in_nI hp hn) ?_
  rw [nI_clamp (by omega), hf]
  exact kk
theorem jx_ald0 (k : jx_ok X l E b y cc nL ret R) {a n p t : Nat} {C : String} {f : Nat → Option Nat} {i : Int32} (dd : decode cc pc = .ok (.aaload, 1)) (hG : G a = some (ja_q E t n f)) (ht : (jx_tys E)[t]? = some (E.2 t, .object C)) (hi : i = nI p) (hp : p < n) (hn : n < 2 ^ 31) (hf : f p = none) (kk : jx_w X E b Q (pc + 1) L (.null :: rest) G sz ce sl) : jx_w X E b Q pc L (.int i :: .ref a :: rest) G sz ce sl := by
  subst hi
  refine jx_aald k dd hG ht (vp_in_nI hp hn) ?_
  rw [nI_clamp (by omega), hf]
  exact kk
theorem jx_astS (k : jx_ok X l E b y cc nL ret R) {a v n p t ci : Nat} {r : vw_C} {f : Nat → Option Nat} {fs : List Value} {i : Int32} (dd : decode cc pc = .ok (.aastore, 1)) (hG : G a = some (ja_q E t n f)) (hc : vwCl[ci]? = some r) (ht : (jx_tys E)[t]? = some (E.2 t, .object r.1)) (hv : G v = some (.inr (ci, fs))) (hi : i = nI p) (hp : p < n) (hn : n < 2 ^ 31) (kk : jx_w X E b Q (pc + 1) L rest (va_up G a (some (ja_q E t n (va_up f p (some v))))) sz ce sl) : jx_w X E b Q pc L (.ref v :: .int i :: .ref a :: rest) G sz ce sl := by
  subst hi
  refine jx_aast k dd hG ht hv hc (vp_in_nI hp hn) ?_
  rw [nI_clamp (by omega)]
  exact kk
theorem jx_ast0 (k : jx_ok X l E b y cc nL ret R) {a n p t : Nat} {C : String} {f : Nat → Option Nat} {i : Int32} (dd : decode cc pc = .ok (.aastore, 1)) (hG : G a = some (ja_q E t n f)) (ht : (jx_tys E)[t]? = some (E.2 t, .object C)) (hi : i = nI p) (hp : p < n) (hn : n < 2 ^ 31) (kk : jx_w X E b Q (pc + 1) L rest (va_up G a (some (ja_q E t n (va_up f p none)))) sz ce sl) : jx_w X E b Q pc L (.null :: .int i :: .ref a :: rest) G sz ce sl := by
  subst hi
  refine jx_aastN k dd hG ht (vp_in_nI hp hn) ?_
  rw [nI_clamp (by omega)]
  exact kk
theorem jx_acopy (k : jx_ok X l E b y cc nL ret R) {idx a0 a1 n0 n1 ns nd nn : Nat} {f g : Nat → Int32} {sp dp n : Int32} (w1 : Cond.methodLink y.cls idx arraycopyName ∈ jn_TB) (w2 : Cond.native arraycopyName ∈ jn_TB) (w3 : Cond.static arraycopyName ∈ jn_TB) (w4 : Cond.initialized "java/lang/System" ∈ jn_TB) (dd : decode cc pc = .ok (.invokestatic idx, 3)) (hG0 : G a0 = some (ja_i E n0 f)) (hG1 : G a1 = some (ja_i E n1 g)) (hsp : sp = nI ns) (hdp : dp = nI nd) (hnn : n = nI nn) (h4 : ns + nn ≤ n0) (h5 : nd + nn ≤ n1) (hb0 : n0 < 2 ^ 31) (hb1 : n1 < 2 ^ 31) (hLn : L.length = nL) (hR : 1 ≤ R.frames) (hrm : (rest.map fun v => v.category).sum + (nativeFrameWords "java/lang/System" "arraycopy" 5 + 11) ≤ R.locals)
    (kk : jx_w X E b Q (pc + 3) L rest (va_up G a1 (some (ja_i E n1 (va_cpy f g ns nd nn)))) sz ce sl) : jx_w X E b Q pc L (.int n :: .int dp :: .ref a1 :: .int sp :: .ref a0 :: rest) G sz ce sl := by
  obtain ⟨p, l0, e, R0, s, m, args, below, meth, c⟩ := X
  intro H locs ls hr hS hl
  obtain ⟨hx, hb, hml, hown, hg, -, -, rfl, rfl, -⟩ := k
  have htb := hg.1
  have hK := hg.2.1
  have hc0 : H[a0]? = some (vp_cell (E.2 0) (n0, .inl f)) := (hr.2.2 a0 _ hG0).2
  have hc1 : H[a1]? = some (vp_cell (E.2 0) (n1, .inl g)) := (hr.2.2 a1 _ hG1).2
  have cs : sp.toNatClampNeg = ns := by rw [hsp]; exact nI_clamp (by omega)
  have cd : dp.toNatClampNeg = nd := by rw [hdp]; exact nI_clamp (by omega)
  have cn : n.toNatClampNeg = nn := by rw [hnn]; exact nI_clamp (by omega)
  have ts : sp.toInt = (ns : Int) := by rw [hsp]; exact nI_toInt (by omega)
  have td : dp.toInt = (nd : Int) := by rw [hdp]; exact nI_toInt (by omega)
  have tn : n.toInt = (nn : Int) := by rw [hnn]; exact nI_toInt (by omega)
  have h1 : ¬ sp < 0 := by rw [hsp]; exact nI_pos (by omega)
  have h2 : ¬ dp < 0 := by rw [hdp]; exact nI_pos (by omega)
  have h3 : ¬ n < 0 := by rw [hnn]; exact nI_pos (by omega)
  intro T hT Xs
  obtain ⟨-, k0, hk0, cm0, hkk0⟩ := (hK.2 0 (E.2 0, .int) rfl).1 n0 (fun j => .int (f j))
  obtain ⟨-, k1, hk1, cm1, hkk1⟩ := (hK.2 0 (E.2 0, .int) rfl).1 n1 (fun j => .int (g j))
  obtain ⟨vm', X', step⟩ := Xs.arraycopy hx hown (htb _ w1 args) (htb _ w2 args) (htb _ w3 args) (htb _ w4 args) (src := a0) (dst := a1) (cs := vp_cell (E.2 0) (n0, .inl f)) (cd := vp_cell (E.2 0) (n1, .inl g)) (srcPos := sp) (destPos := dp) (n := n) (by rw [hT]; exact hc0) (by rw [hT]; exact hc1)
    (fun _ h => by cases h) (fun _ h => by cases h) (fun h => by cases h) (fun h => by cases h) hk0 hk1 hkk0 hkk1 (by simp [refKind]) h1 h2 h3
    (by rw [ts, tn]; show ¬ _ > ((arrV (E.2 0) n0 (fun j => .int (f j))).slots.size : Int); rw [arrV_size]; omega)
    (by rw [td, tn]; show ¬ _ > ((arrV (E.2 0) n1 (fun j => .int (g j))).slots.size : Int); rw [arrV_size]; omega)
    (fun vm₁ _ i hi => by
      have e0 : (vp_cell (E.2 0) (n0, .inl f)).slots.getD (sp.toNatClampNeg + i) .null = .int (f (sp.toNatClampNeg + i)) := by
        show (arrV (E.2 0) n0 (fun j => .int (f j))).slots.getD _ _ = _
        rw [Array.getD_eq_getD_getElem?, arrV_read _ _ (by omega)]
        rfl
      refine ⟨?_, ?_⟩
      · rw [e0]
        rfl
      · rw [e0]
        exact trivial)
    (g := F0 m pc ls (.int n :: .int dp :: .ref a1 :: .int sp :: .ref a0 :: rest)) rfl (by show ls.size = c.maxLocals; rw [show c.maxLocals = nL from hml]; exact hl.1.trans hLn) (rest := rest) rfl (by show decode c.code pc = _; rw [show c.code = cc from hb]; exact dd) hR (by show 2 * 0 + _ + _ ≤ _; omega)
  have e1 : copied (vp_cell (E.2 0) (n0, .inl f)) (vp_cell (E.2 0) (n1, .inl g)) sp dp n = vp_cell (E.2 0) (n1, .inl (va_cpy f g sp.toNatClampNeg dp.toNatClampNeg n.toNatClampNeg)) := va_copied (fun z => .int z) (E.2 0) (E.2 0) f g (by omega)
  rw [e1, cs, cd, cn] at X' step
  have hl1 : a1 < H.size := (Array.getElem?_eq_some_iff.mp hc1).1
  have hheap : ((T.setVm vm').setCell a1 (vp_cell (E.2 0) (n1, .inl (va_cpy f g ns nd nn)))).heap = H.setIfInBounds a1 (vp_cell (E.2 0) (n1, .inl (va_cpy f g ns nd nn))) := by rw [← hT]; rfl
  have oq : ∀ q : Nat, q ≠ a1 → (H.setIfInBounds a1 (vp_cell (E.2 0) (n1, .inl (va_cpy f g ns nd nn))))[q]? = H[q]? := fun q hq => by simp [Array.getElem?_setIfInBounds, Ne.symm hq]
  have hz : (H.setIfInBounds a1 (vp_cell (E.2 0) (n1, .inl (va_cpy f g ns nd nn)))).size = H.size := by simp
  obtain ⟨t, a2, b2⟩ := kk _ _ ls (hr.set hG1 (show (H.setIfInBounds a1 _)[a1]? = some _ by simp [Array.getElem?_setIfInBounds, hl1]) hz oq) ⟨by rw [hz]; exact hS.1, fun q g1 g2 => by
      rw [oq q (fun e => g2 (by rw [e]; exact (hr.2.2 a1 _ hG1).1))]
      exact hS.2.1 q g1 g2, fun q hq => by
      rcases List.mem_append.mp hq with h | h
      · exact hS.2.2 q h
      · obtain ⟨z, -, hzz⟩ := List.mem_map.mp h
        rw [← hzz]
        exact (hr.2.2 a1 _ hG1).1⟩ hl _ hheap X'
  exact ⟨t, step t a2, b2⟩
end MoreRows2
/-- updates of the abstract heap -/
theorem va_uu {α : Type} (f : Nat → α) (k : Nat) (v w : α) : va_up (va_up f k v) k w = va_up f k w := by
  funext q
  by_cases h : q = k
  · subst h; rw [va_up_self, va_up_self]
  · rw [va_up_ne _ _ h, va_up_ne _ _ h, va_up_ne _ _ h]
theorem va_uc {α : Type} (f : Nat → α) {k j : Nat} (v w : α) (h : k ≠ j) : va_up (va_up f k v) j w = va_up (va_up f j w) k v := by
  funext q
  by_cases h1 : q = k
  · subst h1
    rw [va_up_self, va_up_ne _ _ h, va_up_self]
  · by_cases h2 : q = j
    · subst h2
      rw [va_up_self, va_up_ne _ _ h1, va_up_self]
    · rw [va_up_ne _ _ h2, va_up_ne _ _ h1, va_up_ne _ _ h1, va_up_ne _ _ h2]
theorem va_us {α : Type} {f : Nat → α} {k : Nat} {v : α} (h : f k = v) : va_up f k v = f := by
  funext q
  by_cases h1 : q = k
  · subst h1; rw [va_up_self, h]
  · rw [va_up_ne _ _ h1]
abbrev cJ_max : ByteArray := prog_12_method_65_code
abbrev cJ_min : ByteArray := prog_12_method_69_code
abbrev cJ_floorMod : ByteArray := prog_12_method_50_code
def yJ_max : MethodName := ⟨"java/lang/Math", "max", "(II)I"⟩
def yJ_min : MethodName := ⟨"java/lang/Math", "min", "(II)I"⟩
def yJ_floorMod : MethodName := ⟨"java/lang/Math", "floorMod", "(II)I"⟩
theorem mS_88 : jx_ms "VoyageKeeper$Store" 88 yJ_max cJ_max 2 (some .int) 2 := ⟨⟨jn_239, jn_47, ⟨by decide +kernel, by decide +kernel⟩, by decide +kernel, Or.inl jn_237⟩, jn_238⟩
theorem mK_123 : jx_ms "VoyageKeeper" 123 yJ_max cJ_max 2 (some .int) 2 := ⟨⟨jn_239, jn_47, ⟨by decide +kernel, by decide +kernel⟩, by decide +kernel, Or.inl jn_604⟩, jn_238⟩
theorem mS_83 : jx_ms "VoyageKeeper$Store" 83 yJ_min cJ_min 2 (some .int) 2 := ⟨⟨jn_249, jn_47, ⟨by decide +kernel, by decide +kernel⟩, by decide +kernel, Or.inl jn_247⟩, jn_248⟩
theorem mB_69 : jx_ms "VoyageKeeper$Bundle" 69 yJ_min cJ_min 2 (some .int) 2 := ⟨⟨jn_249, jn_47, ⟨by decide +kernel, by decide +kernel⟩, by decide +kernel, Or.inl jn_543⟩, jn_248⟩
theorem mS_107 : jx_ms "VoyageKeeper$Store" 107 yJ_floorMod cJ_floorMod 3 (some .int) 2 := ⟨⟨jn_282, jn_47, ⟨by decide +kernel, by decide +kernel⟩, by decide +kernel, Or.inl jn_280⟩, jn_281⟩
theorem jx_metF {l : Launch} {E : jx_E} {b : Nat} {y : MethodName} {cc : ByteArray} {nL : Nat} {ret : Option FieldType} {d mc ms : Nat} {A : List Value} {G : jx_H} {sz : Nat} {Q : Option Value → jx_H → Nat → Prop} {L0 : List (Option Value)}
    (hy : plainFor y = true) (hA : (lg_sl A).length ≤ nL) (hL : jx_L0 nL A = L0)
    (body : ∀ X : jx_X, jx_ok X l E b y cc nL ret (jx_rm d mc ms) → jx_w X E b (jx_fin X E b Q mc ms) 0 L0 [] G sz 0 0) : jx_ct l E b y cc nL ret d mc ms A G sz Q := by
  unfold jx_ct Met
  refine MetFree.of_bodySF (code := cc) (maxLocals := nL) (ret := ret) hy ?_ ?_
  · intro args s m h hn
    obtain ⟨meth, c, h1, h2, h3, h4, h5, h6, -⟩ := Cond.code_spec hn (atoms_spec (ws := [Cond.code y cc nL ret]) h _ List.mem_cons_self)
    exact ⟨meth, c, h1, h2, h3, h4, h5, h6⟩
  · intro p e s m args below meth c s₁ B hml hP _
    have hh0 : s₁.heap = s.heap := by rw [B.state]; rfl
    obtain ⟨rfl, hr, hg⟩ := hP
    have hown : s.vm.findClass y.cls = some m.cls := findClass_of_methodNamed B.named
    have hnm : meth.name = y.name := (name_of_methodNamed B.named B.method).1
    have hbs : b ≤ s.heap.size := by rw [hr.1]; exact hr.2.1.1
    have hl := jx_entry A hA
    rw [hL] at hl
    obtain ⟨t, a1, o, b1, b2, b3⟩ := body (p, l, e, jx_rm d mc ms, s, m, A.toArray, below, meth, c) ⟨B.exec, B.bytes, hml, hown, hg, B.notSynchronized, B.returns, rfl, rfl, hnm, hbs, hr.2.1.2⟩ s.heap [] _ hr va_S.rf hl s₁ hh0 (Stand.of_body B)
    exact ⟨t, o, by rw [lg_entry_eq]; exact a1, b1, b2, ⟨b3.1, b3.2⟩⟩
