theorem jt_tb {own cls : String} {ic : Nat} (ha : (Bundle.ownAtoms0 own ic cls jt_N).all (fun w => (lw_tbl.contains w && jx_good w) || jt_x w) = true) {E : jx_E} {b : Nat} {args : Array Value} {s : State} (hg : jx_gl E b s s.heap) : ∀ w ∈ Bundle.ownAtoms0 own ic cls jt_N, jt_x w = false → w.before args s = true := by
  intro w hw hx
  have h1 := List.all_eq_true.mp ha w hw
  rw [hx, Bool.or_false, Bool.and_eq_true] at h1
  exact hg.1 w (List.mem_filter.mpr ⟨by simpa using h1.1, h1.2⟩) args
theorem jt_hat {own cls : String} {ic : Nat} (ha : (Bundle.ownAtoms0 own ic cls jt_N).all (fun w => (lw_tbl.contains w && jx_good w) || jt_x w) = true) (hx : (Bundle.ownAtoms0 own ic cls jt_N).filter jt_x = [.laysStatic Bundle.tN "UNASSIGNED_STACK" Bundle.steD, .laysStatic Bundle.tN "SUPPRESSED_SENTINEL" Bundle.listD, .declares ⟨"java/lang/RuntimeException", "<init>", "()V"⟩, .declares ⟨"java/lang/Exception", "<init>", "()V"⟩, .declares ⟨"java/lang/Throwable", "<init>", "()V"⟩, .isRef (.static Bundle.tN "UNASSIGNED_STACK" Bundle.steD), .isRef (.static Bundle.tN "SUPPRESSED_SENTINEL" Bundle.listD)]) {E : jx_E} {b : Nat} (args : Array Value) (s : State) (hg : jx_gl E b s s.heap) : ∀ w ∈ Bundle.ownAtoms0 own ic cls jt_N, w.before args s = true := by
  intro w hw
  have tb := jt_tb ha (args := args) hg
  cases e : jt_x w with
  | false => exact tb w hw e
  | true =>
    have h1 : w ∈ (Bundle.ownAtoms0 own ic cls jt_N).filter jt_x := List.mem_filter.mpr ⟨hw, e⟩
    rw [hx] at h1
    simp only [List.mem_cons, List.not_mem_nil, or_false] at h1
    rcases h1 with rfl | rfl | rfl | rfl | rfl | rfl | rfl
    · exact jt_ls.use hg.2.2.2.2.1
    · exact jt_ls.use hg.2.2.2.2.2.1
    · exact jt_decl (bytes := Bundle.five) (mL := 1) (ret := none) (tb _ (by simp [Bundle.ownAtoms0, Bundle.chain0Atoms, Bundle.passAtoms, Bundle.init0]) rfl) (tb _ (by simp [Bundle.ownAtoms0, Bundle.chain0Atoms, Bundle.passAtoms, Bundle.init0]) rfl)
    · exact jt_decl (bytes := Bundle.five) (mL := 1) (ret := none) (tb _ (by simp [Bundle.ownAtoms0, Bundle.chain0Atoms, Bundle.passAtoms, Bundle.init0]) rfl) (tb _ (by simp [Bundle.ownAtoms0, Bundle.chain0Atoms, Bundle.passAtoms, Bundle.init0]) rfl)
    · exact jt_decl (bytes := LibCode.Throwable.Init0.code) (mL := 1) (ret := none) (tb (.instanceMethod Bundle.tInit0) (by simp [Bundle.ownAtoms0, Bundle.throwableAtoms]) rfl) (tb (.code Bundle.tInit0 LibCode.Throwable.Init0.code 1 none) (by simp [Bundle.ownAtoms0, Bundle.throwableAtoms]) rfl)
    · exact jt_isRef hg.2.2.1
    · exact jt_isRef hg.2.2.2.1
