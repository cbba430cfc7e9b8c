theorem jt_isRef {args : Array Value} {s : State} {C n d : String} {A : Nat → Prop} (h : va_Zq C n d A s s.heap) : (Cond.isRef (.static C n d)).before args s = true := by
  have key : ∀ v, va_Z C n d v A s s.heap → (Term.static C n d).eval args s none [] s = some v := by
    rintro v ⟨cf, kf, fi, f, a, cell, h1, h2, h3, h4, h5, h6, h7, h8⟩
    simp only [Term.eval, State.fieldNamed?, h1, Option.bind_eq_bind, Option.bind_some, h2, beq_self_eq_true, if_true, Option.pure_def, h4, h5, h6, h7]
  rcases h with h | ⟨t, h⟩
  · simp [Cond.before, Cond.holds, Cond.value, key _ h]
  · simp [Cond.before, Cond.holds, Cond.value, key _ h]
theorem jt_decl {args : Array Value} {s : State} {x : MethodName} {bytes : ByteArray} {mL : Nat} {ret : Option FieldType} (h1 : (Cond.instanceMethod x).before args s = true) (h2 : (Cond.code x bytes mL ret).before args s = true) : (Cond.declares x).before args s = true := by
  obtain ⟨m, meth, hn, hm, hs, -⟩ := Cond.instanceMethod_spec h1
  obtain ⟨meth', c, hm', -, -, -, -, -, -, hp⟩ := Cond.code_spec hn h2
  cases hm.symm.trans hm'
  simp [Cond.before, Cond.holds, Cond.value, hn, hm, hs, hp]
abbrev jt_N : List String := ["java/lang/RuntimeException", "java/lang/Exception"]
abbrev jt_S : String := "java/lang/IllegalStateException"
abbrev jt_A : String := "java/lang/IllegalArgumentException"
def jt_x (w : Cond) : Bool := match w with
  | .isRef _ => true
  | .laysStatic _ _ _ => true
  | .declares _ => true
  | _ => false
theorem jt_a1 : (Bundle.ownAtoms0 "VoyageKeeper" 212 jt_S jt_N).all (fun w => (lw_tbl.contains w && jx_good w) || jt_x w) = true := by decide +kernel
theorem jt_a2 : (Bundle.ownAtoms0 "VoyageKeeper" 99 jt_A jt_N).all (fun w => (lw_tbl.contains w && jx_good w) || jt_x w) = true := by decide +kernel
theorem jt_x1 : (Bundle.ownAtoms0 "VoyageKeeper" 212 jt_S jt_N).filter jt_x = [.laysStatic Bundle.tN "UNASSIGNED_STACK" Bundle.steD, .laysStatic Bundle.tN "SUPPRESSED_SENTINEL" Bundle.listD, .declares ⟨"java/lang/RuntimeException", "<init>", "()V"⟩, .declares ⟨"java/lang/Exception", "<init>", "()V"⟩, .declares ⟨"java/lang/Throwable", "<init>", "()V"⟩, .isRef (.static Bundle.tN "UNASSIGNED_STACK" Bundle.steD), .isRef (.static Bundle.tN "SUPPRESSED_SENTINEL" Bundle.listD)] := by rfl
theorem jt_x2 : (Bundle.ownAtoms0 "VoyageKeeper" 99 jt_A jt_N).filter jt_x = [.laysStatic Bundle.tN "UNASSIGNED_STACK" Bundle.steD, .laysStatic Bundle.tN "SUPPRESSED_SENTINEL" Bundle.listD, .declares ⟨"java/lang/RuntimeException", "<init>", "()V"⟩, .declares ⟨"java/lang/Exception", "<init>", "()V"⟩, .declares ⟨"java/lang/Throwable", "<init>", "()V"⟩, .isRef (.static Bundle.tN "UNASSIGNED_STACK" Bundle.steD), .isRef (.static Bundle.tN "SUPPRESSED_SENTINEL" Bundle.listD)] := by rfl
theorem jt_fit : Bundle.fit jt_S = true ∧ Bundle.fit jt_A = true ∧ ∀ n ∈ jt_N, Bundle.fit n = true := ⟨by decide, by decide, by decide⟩
