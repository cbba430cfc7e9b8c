/-- a contract of a method with handlers -/
def jx_cw (l : Launch) (E : jx_E) (b : Nat) (y : MethodName) (cc : ByteArray) (nL : Nat) (ret : Option FieldType) (hh : List (Nat × Nat × Nat × Nat)) (d mc ms : Nat) (A : List Value) (G : jx_H) (sz : Nat) (Q : Option Value → jx_H → Nat → Prop) : Prop :=
  Met l y [Cond.codeWith y cc nL ret hh] (jx_rm d mc ms) (jx_P E b A G sz) (jx_Q E b Q) mc ms (jx_A b)
theorem jx_metW {l : Launch} {E : jx_E} {b : Nat} {y : MethodName} {cc : ByteArray} {nL : Nat} {ret : Option FieldType} {hh : List (Nat × Nat × Nat × Nat)} {d mc ms : Nat} {A : List Value} {G : jx_H} {sz : Nat} {Q : Option Value → jx_H → Nat → Prop} {L0 : List (Option Value)}
    (hy : plainFor y = true) (hA : (lg_sl A).length ≤ nL) (hL : jx_L0 nL A = L0)
    (body : ∀ X : jx_X, jx_ok X l E b y cc nL ret (jx_rm d mc ms) → (jx_c X).exceptionTable.toList.map (fun h => (h.startPc, h.endPc, h.handlerPc, h.catchType)) = hh → jx_w X E b (jx_fin X E b Q mc ms) 0 L0 [] G sz 0 0) : jx_cw l E b y cc nL ret hh d mc ms A G sz Q := by
  unfold jx_cw Met
  refine MetFree.of_bodySF (code := cc) (maxLocals := nL) (ret := ret) hy ?_ ?_
  · intro args s m h hn
    obtain ⟨m9, meth, c, hn9, h1, h2, h3, h4, -, h5, h6, -⟩ := Cond.codeWith_spec (atoms_spec (ws := [Cond.codeWith y cc nL ret hh]) h _ List.mem_cons_self)
    cases hn.symm.trans hn9
    exact ⟨meth, c, h1, h2, h3, h4, h5, h6⟩
  · intro p e s m args below meth c s₁ B hml hP _
    have hh0 : s₁.heap = s.heap := by rw [B.state]; rfl
    obtain ⟨rfl, hr, hg⟩ := hP
    have hown : s.vm.findClass y.cls = some m.cls := findClass_of_methodNamed B.named
    have hnm : meth.name = y.name := (name_of_methodNamed B.named B.method).1
    have hbs : b ≤ s.heap.size := by rw [hr.1]; exact hr.2.1.1
    have hl := jx_entry A hA
    rw [hL] at hl
    have X0 := Stand.of_body B
    have htab : c.exceptionTable.toList.map (fun h => (h.startPc, h.endPc, h.handlerPc, h.catchType)) = hh := by
      obtain ⟨m9, meth', c', hn9, h1, h2, -, -, h7, -⟩ := Cond.codeWith_spec (atoms_spec (ws := [Cond.codeWith y cc nL ret hh]) B.pre _ List.mem_cons_self)
      cases B.named.symm.trans hn9
      cases h1.symm.trans B.method
      cases h2.symm.trans X0.code
      exact h7
    obtain ⟨t, a1, o, b1, b2, b3⟩ := body (p, l, e, jx_rm d mc ms, s, m, A.toArray, below, meth, c) ⟨B.exec, B.bytes, hml, hown, hg, B.notSynchronized, B.returns, rfl, rfl, hnm, hbs, hr.2.1.2⟩ htab s.heap [] _ hr va_S.rf hl s₁ hh0 X0
    exact ⟨t, o, by rw [lg_entry_eq]; exact a1, b1, b2, ⟨b3.1, b3.2⟩⟩
