section ThrowCall
variable {p : Program} {l : Launch} {e : Env} {R : Room} {s : State} {m : MethodId} {args : Array Value} {below : List Frame} {meth : Method} {c : Code} {T : State} {locs : List Loc} {ce sl : Nat} {E : jx_E} {b : Nat} {G : jx_H} {sz : Nat}
theorem jt_thr (Xs : Stand p l e R s m args below meth c T locs ce sl) (hx : p.tables.exec = Jvm.exec) {own : String} (hown : s.vm.findClass own = some m.cls) (hg : jx_gl E b s s.heap) (hr : jx_rep E b G sz T.heap) (hS : va_S (jx_A b) s.heap T.heap locs)
    {idx n d' nL' a0 ci pc : Nat} {y' : MethodName} {cc' : ByteArray} {ret' : Option FieldType} {As rest st : List Value} {fs : List Value} {cls : String} {ls : Array Slot} (w1 : Cond.code y' cc' nL' ret' ∈ jn_TB) (w2 : Cond.initialized y'.cls ∈ jn_TB) (w3 : y'.cls ≠ "java/lang/invoke/MethodHandle" ∧ y'.cls ≠ "java/lang/invoke/VarHandle") (w4 : (parseMethodDescriptor y'.desc).map (fun d => d.parameters.length) = some n) (w5 : Cond.methodLink own idx y' ∈ jn_TB) (w6 : Cond.instanceMethod y' ∈ jn_TB) (w7 : Cond.selects y'.cls y' y' ∈ jn_TB)
    (hM : jt_ct l E b y' cc' nL' ret' d' (.ref a0 :: As) G sz cls) (hG : G a0 = some (.inr (ci, fs))) (hc : (vwCl[ci]?).map (fun q => q.1) = some y'.cls) (dd : decode c.code pc = .ok (.invokevirtual idx, 3)) (hn : As.length = n) (hsz : ls.size = c.maxLocals) (hst : st = As.reverse ++ .ref a0 :: rest) (hrm : (rest.map fun v => v.category).sum ≤ 8) (hR : d' + 1 ≤ R.frames ∧ 8 + (nL' + 11) + 30 * d' ≤ R.locals) (hf : ce + 1 ≤ R.cells ∧ sl + 6 ≤ R.slots) :
    ∃ (ad : Nat) (T' : State) (L : List Loc), Stand p l e R s m args below meth c T' (locs ++ L) (ce + 1) (sl + 6) ∧ (∀ q ∈ L, jx_A b q.base) ∧ jx_rep E b G (sz + 1) T'.heap ∧ (T.heap.size ≤ T'.heap.size ∧ ∀ q : Nat, q < T.heap.size → ¬ jx_A b q → T'.heap[q]? = T.heap[q]?) ∧ (∃ ce' : Cell, T'.heap[ad]? = some ce' ∧ s.vm.findClass cls = some ce'.cls ∧ ce'.vm = .none) ∧
      Steps p.tables e below (T.setTop (F0 m pc ls st)) ((T'.setTop (F0 m pc ls rest)).pushFrame (.throwing ad)) := by
  have htb := hg.1
  obtain ⟨cellB, hcB, hobj, hcls⟩ : ∃ cellB : Cell, T.heap[a0]? = some cellB ∧ cellB.vm.isStatics = false ∧ s.vm.findClass y'.cls = some cellB.cls := by
    cases hq : vwCl[ci]? with
    | none => rw [hq] at hc; cases hc
    | some q =>
      rw [hq] at hc
      have hc2 : q.1 = y'.cls := Option.some.inj hc
      rw [← hc2]
      exact va_recv (D := E.1) hg.2.1 (hr.P hG) hq (q0 := 0) rfl
  obtain ⟨mk, methM, hnamed, hmethM, hstM, habM⟩ := Cond.instanceMethod_spec (htb _ w6 args)
  obtain ⟨methM', cM, hmethM', -, -, -, -, -, -, hsigM⟩ := Cond.code_spec hnamed (htb _ w1 args)
  cases hmethM.symm.trans hmethM'
  obtain ⟨c2, r2, m2, q1, q2, q3, q4, kP, hkP, hkPi⟩ := Cond.selects_spec (htb _ w7 args)
  cases hcls.symm.trans q1
  cases (State.methodFound?_of_named hnamed w3).symm.trans q2
  cases hnamed.symm.trans q3
  have hselP : selectMethod e.platform s.vm cellB.cls mk = .method mk := by rw [Launch.admits_selectMethod Xs.admits]; exact q4
  obtain ⟨vm₁, X₁, hstep₁⟩ := Xs.invokevirtual hx hown (htb _ w5 args) hnamed hmethM hstM hkP hkPi w3 (a := a0) (cell := cellB) hcB
    (fun z h => by rw [h] at hobj; cases hobj) hselP hmethM habM hkP hkPi (g := F0 m pc ls st) rfl (argsL := As) (rest := rest) (by rw [hn]; exact jx_par w4 _ hsigM) hst dd
  have hK : BackT l R p e below s args y' 3 8 (fun A a => A.cells + 1 ≤ R.cells ∧ A.slots + 6 ≤ R.slots ∧ jx_P E b (.ref a0 :: As) G sz a A.U) (fun A a x B => ∃ (g : JFrame) (mk : MethodId) (t : State) (L : List Loc), B.U.heap = t.heap ∧ jt_Q E b cls G sz a (A.U.calling g mk a) (.threw x) t ∧ B.locs = A.locs ++ L ∧ (∀ q ∈ L, jx_A b q.base) ∧ B.cells = A.cells + 1 ∧ B.slots = A.slots + 6) := by
    refine BackT.of_free (S := headSpec [Cond.code y' cc' nL' ret'] (jx_rm d' 1 6)) (P := jx_P E b (.ref a0 :: As) G sz) (K := fun _ _ _ _ _ => True) (Q := jt_E E b cls G sz) (bytes := cc') (maxL := nL') (ret := ret') (E := fun a st o t L k n => k = 1 ∧ n = 6 ∧ ∀ q ∈ L, jx_A b q.base) hM hR.1 hR.2 ?_ ?_ (fun _ _ _ _ _ _ _ _ _ => trivial) ?_ ?_
    · intro m meth c A a X hp
      exact ⟨atoms_intro fun w hw => jx_words htb w1 w hw _ _ X.warmed, htb.moved X.warmed _ w1 _, htb.moved X.warmed _ w2 _, hp.1, hp.2.1⟩
    · intro m meth c A a g mk X hp
      exact jx_P_blind _ _ _ _ hp.2.2
    · rintro a st o t ⟨hq, L, hF, hL⟩
      exact ⟨L, 1, 6, hF, rfl, rfl, hL⟩
    · rintro m meth c A a g mk v t L k n X hp hq hF ⟨rfl, rfl, hL⟩
      exact ⟨g, mk, t, L, rfl, hq.1, rfl, hL, rfl, rfl⟩
  obtain ⟨v, B, X', ⟨g9, mk9, t9, L9, e1, ⟨ad, hv, hrep, hF, cc9, hc9, hc10, hc11⟩, e2, hL9, e3, e4⟩, hsteps⟩ := hK m meth c ⟨T.setVm vm₁, locs, ce, sl⟩ (F0 m pc ls rest) (.invokevirtual idx) mk (Value.ref a0 :: As).toArray X₁ rfl hsz dd (by show 2 * 0 + (rest.map fun v => v.category).sum ≤ 8; omega) (X₁.named hnamed) ⟨hf.1, hf.2, jx_pre hg hr hS _ rfl X₁.warmed⟩
  cases hv
  refine ⟨v, B.U, L9, ?_, hL9, by rw [e1]; exact hrep, ⟨by rw [e1]; exact hF.1, fun q h1 h2 => by rw [e1]; exact hF.2 q h1 h2⟩, ⟨cc9, by rw [e1]; exact hc9, ?_, hc11⟩, hstep₁ _ fun acts => by rw [doInvoke_state]; exact hsteps⟩
  · rw [e2, e3, e4] at X'
    exact X'
  · rw [← hc10]
    exact (X₁.warmed.alike.findClass _ _).symm
end ThrowCall
