theorem jt_isRef {args : Array Value} {s : State} {C n d : String} {A : Nat → Prop} (h : va_Zq C n d A s s.heap) : (Cond.isRef (.static C n d)).before args s = true := by
  have key : ∀ v, va_Z C n d v A s s.heap → (Term.static C n d).eval args s none [] s = some v := by
    rintro v ⟨cf, kf, fi, f, a, cell, h1, h2, h3, h4, h5, h6, h7, h8⟩
    simp only [Term.eval, State.fieldNamed?, h1, Option.bind_eq_bind, Option.bind_some, h2, beq_self_eq_true, if_true, Option.pure_def, h4, h5, h6, h7]
  rcases h with h | ⟨t, h⟩
  · simp [Cond.before, Cond.holds, Cond.value, key _ h]
  · simp [Cond.before, Cond.holds, Cond.value, key _ h]
theorem jt_decl {args : Array Value} {s : State} {x : MethodName} {bytes : ByteArray} {mL : Nat} {ret : Option FieldType} (h1 : (Cond.instanceMethod x).before args s = true) (h2 : (Cond.code x bytes mL ret).before args s = true) : (Cond.declares x).before args s = true := by
  obtain ⟨m, meth, hn, hm, hs, -⟩ := Cond.instanceMethod_spec h1
  obtain ⟨meth', c, hm', -, -, -, -, -, -, hp⟩ := Cond.code_spec hn h2
  cases hm.symm.trans hm'
  simp [Cond.before, Cond.holds, Cond.value, hn, hm, hs, hp]
/-- the word 'laysStatic', carried -/
def jt_ls (C n d : String) (A : Nat → Prop) (U : State) (H : Heap) : Prop := ∃ (c : ClassId) (k : Class) (i : Nat) (f : Field) (a : Nat) (cell : Cell), U.vm.findClass C = some c ∧ U.fieldFound? C n d = some (c, k, i, f) ∧ f.isStatic = true ∧ k.statics = some a ∧ H[a]? = some cell ∧ cell.vm.isStatics = true ∧ cell.cls = c ∧ f.slot < cell.slots.size ∧ k.staticTypes[f.slot]? = some f.type ∧ ¬ A a
theorem jt_ls.of {C n d : String} {A : Nat → Prop} {args : Array Value} {s : State} (h : (Cond.laysStatic C n d).before args s = true) (hA : ∀ a : Nat, a < s.heap.size → ¬ A a) : jt_ls C n d A s s.heap := by
  obtain ⟨c, k, i, f, a, cell, h1, h2, h3, h4, h5, h6, h7, h8, h9⟩ := Cond.laysStatic_spec h
  exact ⟨c, k, i, f, a, cell, h1, h2, h3, h4, h5, h6, h7, h8, h9, hA a (Array.getElem?_eq_some_iff.mp h5).1⟩
theorem jt_ls.use {C n d : String} {A : Nat → Prop} {args : Array Value} {s : State} (h : jt_ls C n d A s s.heap) : (Cond.laysStatic C n d).before args s = true := by
  obtain ⟨c, k, i, f, a, cell, h1, h2, h3, h4, h5, h6, h7, h8, h9, -⟩ := h
  simp [Cond.before, Cond.holds, Cond.value, h1, h2, h3, h4, h5, h6, h7, h8, h9]
theorem jt_ls.kept {C n d : String} {A : Nat → Prop} {U : State} {H H1 : Heap} (h : jt_ls C n d A U H) (hq : ∀ a : Nat, a < H.size → ¬ A a → H1[a]? = H[a]?) : jt_ls C n d A U H1 := by
  obtain ⟨c, k, i, f, a, cell, h1, h2, h3, h4, h5, h6, h7, h8, h9, h10⟩ := h
  exact ⟨c, k, i, f, a, cell, h1, h2, h3, h4, (hq a (Array.getElem?_eq_some_iff.mp h5).1 h10).trans h5, h6, h7, h8, h9, h10⟩
theorem jt_ls.moved {C n d : String} {A : Nat → Prop} {u U : State} {H : Heap} (hvm : u.vm.Alike U.vm) (h : jt_ls C n d A u H) : jt_ls C n d A U H := by
  obtain ⟨c, k, i, f, a, cell, h1, h2, h3, h4, h5, h6, h7, h8, h9, h10⟩ := h
  obtain ⟨k', hi', he⟩ := State.fieldFound?_setVm hvm h2
  exact ⟨c, k', i, f, a, cell, (hvm.findClass _ _).trans h1, hi', h3, by rw [he]; exact h4, h5, h6, h7, h8, by rw [he]; exact h9, h10⟩
abbrev jt_N : List String := ["java/lang/RuntimeException", "java/lang/Exception"]
abbrev jt_S : String := "java/lang/IllegalStateException"
abbrev jt_A : String := "java/lang/IllegalArgumentException"
def jt_x (w : Cond) : Bool := match w with
  | .isRef _ => true
  | .laysStatic _ _ _ => true
  | .declares _ => true
  | _ => false
theorem jt_a1 : (Bundle.ownAtoms0 "VoyageKeeper" 212 jt_S jt_N).all (fun w => (lw_tbl.contains w && jx_good w) || jt_x w) = true := by decide +kernel
theorem jt_a2 : (Bundle.ownAtoms0 "VoyageKeeper" 99 jt_A jt_N).all (fun w => (lw_tbl.contains w && jx_good w) || jt_x w) = true := by decide +kernel
theorem jt_x1 : (Bundle.ownAtoms0 "VoyageKeeper" 212 jt_S jt_N).filter jt_x = [.laysStatic Bundle.tN "UNASSIGNED_STACK" Bundle.steD, .laysStatic Bundle.tN "SUPPRESSED_SENTINEL" Bundle.listD, .declares ⟨"java/lang/RuntimeException", "<init>", "()V"⟩, .declares ⟨"java/lang/Exception", "<init>", "()V"⟩, .declares ⟨"java/lang/Throwable", "<init>", "()V"⟩, .isRef (.static Bundle.tN "UNASSIGNED_STACK" Bundle.steD), .isRef (.static Bundle.tN "SUPPRESSED_SENTINEL" Bundle.listD)] := by rfl
theorem jt_x2 : (Bundle.ownAtoms0 "VoyageKeeper" 99 jt_A jt_N).filter jt_x = [.laysStatic Bundle.tN "UNASSIGNED_STACK" Bundle.steD, .laysStatic Bundle.tN "SUPPRESSED_SENTINEL" Bundle.listD, .declares ⟨"java/lang/RuntimeException", "<init>", "()V"⟩, .declares ⟨"java/lang/Exception", "<init>", "()V"⟩, .declares ⟨"java/lang/Throwable", "<init>", "()V"⟩, .isRef (.static Bundle.tN "UNASSIGNED_STACK" Bundle.steD), .isRef (.static Bundle.tN "SUPPRESSED_SENTINEL" Bundle.listD)] := by rfl
theorem jt_fit : Bundle.fit jt_S = true ∧ Bundle.fit jt_A = true ∧ ∀ n ∈ jt_N, Bundle.fit n = true := ⟨by decide, by decide, by decide⟩
