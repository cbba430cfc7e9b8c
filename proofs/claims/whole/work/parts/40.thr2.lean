/-- a contract of a method that throws an object of cls -/
def jt_Q (E : jx_E) (b : Nat) (cls : String) (G : jx_H) (sz : Nat) : Array Value → State → Outcome → State → Prop := fun _ st o t => ∃ ad : Nat, o = .threw ad ∧ jx_rep E b G (sz + 1) t.heap ∧ va_F (jx_A b) st t ∧ ∃ ce : Cell, t.heap[ad]? = some ce ∧ st.vm.findClass cls = some ce.cls ∧ ce.vm = .none
def jt_E (E : jx_E) (b : Nat) (cls : String) (G : jx_H) (sz : Nat) : Array Value → State → Outcome → State → Prop := fun a st o t => jt_Q E b cls G sz a st o t ∧ ∃ L, FrameEndT st o t L 1 6 ∧ ∀ q ∈ L, jx_A b q.base
def jt_ct (l : Launch) (E : jx_E) (b : Nat) (y : MethodName) (cc : ByteArray) (nL : Nat) (ret : Option FieldType) (d : Nat) (A : List Value) (G : jx_H) (sz : Nat) (cls : String) : Prop :=
  MetFree l y (headSpec [Cond.code y cc nL ret] (jx_rm d 1 6)) (jx_P E b A G sz) (fun _ _ _ _ _ => True) (jt_E E b cls G sz)
def jt_fin (X : jx_X) (E : jx_E) (b : Nat) (cls : String) (G : jx_H) (sz : Nat) : State → Prop := fun t => ∃ o, t.status = .running ∧ Ended t (jx_be X) o ∧ jt_E E b cls G sz (jx_ar X) (jx_s X) o t
theorem jt_met {l : Launch} {E : jx_E} {b : Nat} {y : MethodName} {cc : ByteArray} {nL : Nat} {ret : Option FieldType} {d : Nat} {A : List Value} {G : jx_H} {sz : Nat} {cls : String} {L0 : List (Option Value)}
    (hy : plainFor y = true) (hA : (lg_sl A).length ≤ nL) (hL : jx_L0 nL A = L0)
    (body : ∀ X : jx_X, jx_ok X l E b y cc nL ret (jx_rm d 1 6) → (jx_c X).exceptionTable.toList = [] → jx_w X E b (jt_fin X E b cls G sz) 0 L0 [] G sz 0 0) : jt_ct l E b y cc nL ret d A G sz cls := by
  unfold jt_ct
  refine MetFree.of_bodySF (code := cc) (maxLocals := nL) (ret := ret) hy ?_ ?_
  · intro args s m h hn
    obtain ⟨meth, c, h1, h2, h3, h4, h5, h6, -⟩ := Cond.code_spec hn (atoms_spec (ws := [Cond.code y cc nL ret]) h _ List.mem_cons_self)
    exact ⟨meth, c, h1, h2, h3, h4, h5, h6⟩
  · intro p e s m args below meth c s₁ B hml hP _
    have hh0 : s₁.heap = s.heap := by rw [B.state]; rfl
    obtain ⟨rfl, hr, hg⟩ := hP
    have hown : s.vm.findClass y.cls = some m.cls := findClass_of_methodNamed B.named
    have hnm : meth.name = y.name := (name_of_methodNamed B.named B.method).1
    have hbs : b ≤ s.heap.size := by rw [hr.1]; exact hr.2.1.1
    have hl := jx_entry A hA
    rw [hL] at hl
    have X0 := Stand.of_body B
    have htab : c.exceptionTable.toList = [] := by
      obtain ⟨meth', c', h1, h2, -, -, -, -, h7, -⟩ := Cond.code_spec B.named (atoms_spec (ws := [Cond.code y cc nL ret]) B.pre _ List.mem_cons_self)
      cases h1.symm.trans B.method
      cases h2.symm.trans X0.code
      simpa using h7
    obtain ⟨t, a1, o, b1, b2, b3⟩ := body (p, l, e, jx_rm d 1 6, s, m, A.toArray, below, meth, c) ⟨B.exec, B.bytes, hml, hown, hg, B.notSynchronized, B.returns, rfl, rfl, hnm, hbs, hr.2.1.2⟩ htab s.heap [] _ hr va_S.rf hl s₁ hh0 X0
    exact ⟨t, o, by rw [lg_entry_eq]; exact a1, b1, b2, b3⟩
section ThrowRow2
variable {X : jx_X} {l : Launch} {E : jx_E} {b : Nat} {y : MethodName} {cc : ByteArray} {nL : Nat} {ret : Option FieldType} {R : Room} {pc : Nat} {L : List (Option Value)} {G : jx_H} {sz : Nat}
set_option maxHeartbeats 2000000 in
theorem jx_throwNew (k : jx_ok X l E b y cc nL ret R) (hxt : (jx_c X).exceptionTable.toList = []) (htr : ∀ e : Env, l.admits e → e.platform.stackTraces = false) {cls : String} {i1 ic : Nat} (hcls : Bundle.fit cls = true)
    (w1 : Cond.classLink y.cls i1 cls ∈ jn_TB) (w2 : Cond.instantiable cls 6 ∈ jn_TB) (w3 : Cond.initialized cls ∈ jn_TB) (hat : ∀ (args : Array Value) (s : State), jx_gl E b s s.heap → ∀ a ∈ Bundle.ownAtoms0 y.cls ic cls jt_N, a.before args s = true)
    (d1 : decode cc pc = .ok (.new i1, 3)) (d2 : decode cc (pc + 3) = .ok (.dup, 1)) (d3 : decode cc (pc + 3 + 1) = .ok (.invokespecial ic, 3)) (d4 : decode cc (pc + 3 + 1 + 3) = .ok (.athrow, 1)) (hLn : L.length = nL) (hR : 5 < R.frames ∧ 90 ≤ R.locals ∧ 1 ≤ R.cells ∧ 6 ≤ R.slots) : jx_w X E b (jt_fin X E b cls G sz) pc L [] G sz 0 0 := by
  obtain ⟨p, l0, e, R0, s, m, args, below, meth, c⟩ := X
  intro H locs ls hr hS hl
  obtain ⟨hx, hb, hml, hown, hg, hlk, -, rfl, rfl, -, hbs, hns⟩ := k
  have hts : ∀ w ∈ jn_TB, w.before args s = true := fun w h => hg.1 w h args
  obtain ⟨cC, kC0, hfc, hk0, -⟩ := Cond.instantiable_spec (hts _ w2)
  refine W.newcK hx hb hown (hts _ w1) (hts _ w2) (hts _ w3) rfl d1 (by show 0 + 1 ≤ _; exact hR.2.2.1) (by show 0 + 6 ≤ _; exact hR.2.2.2) hfc hr.1 fun H1 kC hkC e1 z1 o1 => ?_
  refine lv_dup hx hb d2 rfl ?_
  intro T hT Xs
  have hsz : s.heap.size ≤ sz := by rw [← hr.1]; exact hS.1
  have hbz : b ≤ sz := hr.2.1.1
  obtain ⟨vm', cell', LL, hc1, hc2, hLL, X2, st2⟩ := jt_ctor Xs hx (htr e Xs.admits) hown hcls (hat args s hg) (fun x hx cell hc => hns _ _ (hS.2.2 x hx) hc) hfc hkC (a := sz) (by rw [hT]; exact e1) hsz (g := F0 m (pc + 3 + 1) ls [.ref sz, .ref sz]) rfl (by show ls.size = c.maxLocals; rw [show c.maxLocals = nL from hml]; exact hl.1.trans hLn) (rest := []) rfl (by show decode c.code (pc + 3 + 1) = _; rw [show c.code = cc from hb]; exact d3) hR.1 (by show 2 * 0 + 1 + 80 ≤ _; have := hR.2.1; omega)
  obtain ⟨hwalk, hrun, hended, hWU, hsame⟩ := X2.athrowLeaves hx (g := F0 m (pc + 3 + 1 + 3) ls [.ref sz]) rfl rfl rfl (fun x hx => by rw [show c.exceptionTable.toList = [] from hxt] at hx; cases hx) (a := sz) (rest := []) rfl (by show decode c.code (pc + 3 + 1 + 3) = _; rw [show c.code = cc from hb]; exact d4) hlk
  have hlt : sz < H1.size := by omega
  have hheap : (((T.setVm vm').setCell sz cell').setFrames (.throwing sz :: below)).heap = H1.setIfInBounds sz cell' := by rw [← hT]; rfl
  have ho : ∀ q : Nat, q < sz → (H1.setIfInBounds sz cell')[q]? = H[q]? := fun q hq => by
    rw [← o1 q hq]
    simp [Array.getElem?_setIfInBounds, show ¬ sz = q by omega]
  have hself : (H1.setIfInBounds sz cell')[sz]? = some cell' := by simp [Array.getElem?_setIfInBounds, hlt]
  refine ⟨_, st2 _ hwalk, .threw sz, hrun, hended, ⟨sz, rfl, ?_, ?_, cell', by rw [hheap]; exact hself, by rw [hc1]; exact hfc, hc2⟩, locs ++ LL, ⟨⟨sz, rfl⟩, hWU, hsame⟩, fun q hq => ?_⟩
  · rw [hheap]
    exact hr.skip (by simp [z1]) ho (fun c hc => by
      cases hself.symm.trans hc
      rw [hc2]
      rfl)
  · refine ⟨by show s.heap.size ≤ _; rw [hheap, Array.size_setIfInBounds, z1]; omega, fun q h1 h2 => ?_⟩
    have h1' : q < s.heap.size := h1
    rw [hheap, ho q (by omega)]
    exact hS.2.1 q h1 h2
  · rcases List.mem_append.mp hq with h | h
    · exact hS.2.2 q h
    · rw [hLL q h]
      exact hbz
end ThrowRow2
