def mo_i (o : Option Nat) : Int32 := match o with | none => -1 | some p => nI p
theorem mo_n {p : Nat} (h : p < 2 ^ 31) : ¬ mo_i (some p) < 0 := nI_pos h
theorem mo_l : mo_i none < 0 := by decide
set_option maxRecDepth 100000 in
theorem q_now (l : Launch) (E : jx_E) (b : Nat) (G0 : jx_H) (sz mb : Nat) (σ : rs_S) : jx_ct l E b yM_now cM_now 1 (some .int) 0 0 0 [.ref mb] (rm_G E mb σ G0) sz (rm_q E mb G0 sz (.int (σ.1 1)) (rs_f σ 0 0)) := by
  refine jx_met (by decide) (Nat.le_of_ble_eq_true rfl) (L0 := [_]) rfl (fun X k => ?_)
  refine jx_aload_n k dM_now_0 rfl ?_
  refine jx_iconst k dM_now_1 (v := 0) (by decide) ?_
  refine rm_put k (j := 0) fM_83 dM_now_2 rfl rfl (Nat.le_of_ble_eq_true rfl) rfl ?_
  refine jx_aload_n k dM_now_5 rfl ?_
  refine rm_get k fM_105 dM_now_6 rfl ?_
  exact jx_iret k dM_now_9 (Nat.le_refl _) (Nat.le_refl _) ⟨rfl, rfl, rfl⟩
def ms_release (σ : rs_S) (f : Int32) : Int32 × rs_S :=
  if σ.1 2 = 0 then (0, rs_f σ 0 1)
  else if (0 ≤ f ∧ f < 3) ∧ σ.2.1 17 f.toNatClampNeg ≠ 0 then (1, rs_a (rs_f σ 0 0) 17 (upd (σ.2.1 17) f.toNatClampNeg 0))
  else (0, rs_f σ 0 0)
set_option maxRecDepth 100000 in
set_option maxHeartbeats 4000000 in
theorem q_release (l : Launch) (E : jx_E) (b : Nat) (G0 : jx_H) (sz mb : Nat) (σ : rs_S) (f : Int32) : jx_ct l E b yM_release cM_release 2 (some .boolean) 1 0 0 [.ref mb, .int f] (rm_G E mb σ G0) sz (rm_q E mb G0 sz (.int (ms_release σ f).1) (ms_release σ f).2) := by
  refine jx_met (by decide) (Nat.le_of_ble_eq_true rfl) (L0 := [_, _]) rfl (fun X k => ?_)
  refine jx_aload_n k dM_release_0 rfl ?_
  refine jx_aload_n k dM_release_1 rfl ?_
  refine rm_get k fM_7 dM_release_2 rfl ?_
  refine jx_if_eq k dM_release_5 (tgt := 12) rfl (fun h1 => ?_) (fun h1 => ?_)
  · have e : ms_release σ f = (0, rs_f σ 0 1) := by rw [ms_release, if_pos h1]
    refine jx_iconst k dM_release_12 (v := 1) (by decide) ?_
    refine rm_put k (j := 0) fM_83 dM_release_13 rfl rfl (Nat.le_of_ble_eq_true rfl) rfl ?_
    refine jx_aload_n k dM_release_16 rfl ?_
    refine rm_get k fM_83 dM_release_17 rfl ?_
    refine jx_if_gt k dM_release_20 (tgt := 40) rfl (fun _ => ?_) (fun hh => absurd (by show (0 : Int32) < 1; decide) hh)
    refine jx_iconst k dM_release_40 (v := 0) (by decide) ?_
    exact jx_zret k dM_release_41 rfl (Nat.le_refl _) (Nat.le_refl _) ⟨by rw [e], by rw [e], rfl⟩
  · refine jx_iconst k dM_release_8 (v := 0) (by decide) ?_
    refine jx_goto k dM_release_9 (tgt := 13) rfl ?_
    refine rm_put k (j := 0) fM_83 dM_release_13 rfl rfl (Nat.le_of_ble_eq_true rfl) rfl ?_
    refine jx_aload_n k dM_release_16 rfl ?_
    refine rm_get k fM_83 dM_release_17 rfl ?_
    refine jx_if_gt k dM_release_20 (tgt := 40) rfl (fun hh => absurd hh (by show ¬ ((0 : Int32) < 0); decide)) (fun _ => ?_)
    refine jx_iload_n k dM_release_23 rfl ?_
    refine jx_iconst k dM_release_24 (v := 3) (by decide) ?_
    refine jx_callSP k mM_96 (q_isIn _ _ _ _ _ f 3) dM_release_25 rfl rfl rfl (Nat.le_of_ble_eq_true rfl) ⟨Nat.le_of_ble_eq_true rfl, Nat.le_of_ble_eq_true rfl⟩ ⟨Nat.le_of_ble_eq_true rfl, Nat.le_of_ble_eq_true rfl⟩ ?_
    refine jx_if_eq k dM_release_28 (tgt := 40) rfl (fun h2 => ?_) (fun h2 => ?_)
    · have e : ms_release σ f = (0, rs_f σ 0 0) := by rw [ms_release, if_neg h1, if_neg (fun h => jb_e0.mp h2 h.1)]
      refine jx_iconst k dM_release_40 (v := 0) (by decide) ?_
      exact jx_zret k dM_release_41 rfl (Nat.le_refl _) (Nat.le_refl _) ⟨by rw [e], by rw [e], rfl⟩
    · have g2 := Decidable.byContradiction (fun h => h2 (jb_f h))
      obtain ⟨j, hj, rfl⟩ := nI_lift (n := 3) g2.1 g2.2 (by decide)
      refine jx_aload_n k dM_release_31 rfl ?_
      refine rm_get k fM_71 dM_release_32 rfl ?_
      refine jx_iload_n k dM_release_35 rfl ?_
      refine rm_zld k dM_release_36 (by decide) rfl (p := j) rfl (by omega) (by decide) ?_
      refine jx_if_ne k dM_release_37 (tgt := 42) rfl (fun h3 => ?_) (fun h3 => ?_)
      · have e : ms_release σ (nI j) = (1, rs_a (rs_f σ 0 0) 17 (upd (σ.2.1 17) j 0)) := by
          rw [ms_release, if_neg h1, if_pos ⟨g2, by rw [nI_clamp (by omega)]; exact h3⟩, nI_clamp (by omega)]
        refine jx_aload_n k dM_release_42 rfl ?_
        refine rm_get k fM_71 dM_release_43 rfl ?_
        refine jx_iload_n k dM_release_46 rfl ?_
        refine jx_iconst k dM_release_47 (v := 0) (by decide) ?_
        refine rm_zst k dM_release_48 (by decide) (fun _ => rfl) (p := j) rfl (by omega) (by decide) rfl ?_
        refine jx_iconst k dM_release_49 (v := 1) (by decide) ?_
        exact jx_zret k dM_release_50 rfl (Nat.le_refl _) (Nat.le_refl _) ⟨by rw [e], by rw [e], rfl⟩
      · have e : ms_release σ (nI j) = (0, rs_f σ 0 0) := by rw [ms_release, if_neg h1, if_neg (fun h => h.2 (by rw [nI_clamp (by omega)]; exact h3))]
        refine jx_iconst k dM_release_40 (v := 0) (by decide) ?_
        exact jx_zret k dM_release_41 rfl (Nat.le_refl _) (Nat.le_refl _) ⟨by rw [e], by rw [e], rfl⟩
def ms_frozen (σ : rs_S) (f last : Int32) : Int32 :=
  if (0 ≤ f ∧ f < 3) ∧ σ.2.1 17 f.toNatClampNeg ≠ 0 then (if last = 0 then σ.2.1 18 f.toNatClampNeg else σ.2.1 19 f.toNatClampNeg) else -1
set_option maxRecDepth 100000 in
set_option maxHeartbeats 4000000 in
theorem q_frozen (l : Launch) (E : jx_E) (b : Nat) (G0 : jx_H) (sz mb : Nat) (σ : rs_S) (f last : Int32) : jx_ct l E b yM_frozen cM_frozen 3 (some .int) 1 0 0 [.ref mb, .int f, .int last] (rm_G E mb σ G0) sz (rm_q E mb G0 sz (.int (ms_frozen σ f last)) (rs_f σ 0 0)) := by
  refine jx_met (by decide) (Nat.le_of_ble_eq_true rfl) (L0 := [_, _, _]) rfl (fun X k => ?_)
  refine jx_aload_n k dM_frozen_0 rfl ?_
  refine jx_iconst k dM_frozen_1 (v := 0) (by decide) ?_
  refine rm_put k (j := 0) fM_83 dM_frozen_2 rfl rfl (Nat.le_of_ble_eq_true rfl) rfl ?_
  refine jx_iload_n k dM_frozen_5 rfl ?_
  refine jx_iconst k dM_frozen_6 (v := 3) (by decide) ?_
  refine jx_callSP k mM_96 (q_isIn _ _ _ _ _ f 3) dM_frozen_7 rfl rfl rfl (Nat.le_of_ble_eq_true rfl) ⟨Nat.le_of_ble_eq_true rfl, Nat.le_of_ble_eq_true rfl⟩ ⟨Nat.le_of_ble_eq_true rfl, Nat.le_of_ble_eq_true rfl⟩ ?_
  refine jx_if_eq k dM_frozen_10 (tgt := 22) rfl (fun h2 => ?_) (fun h2 => ?_)
  · refine jx_iconst k dM_frozen_22 (v := (-1)) (by decide) ?_
    refine jx_goto k dM_frozen_23 (tgt := 45) rfl ?_
    exact jx_iret k dM_frozen_45 (Nat.le_refl _) (Nat.le_refl _) ⟨by rw [ms_frozen, if_neg (fun h => jb_e0.mp h2 h.1)], rfl, rfl⟩
  · have g2 := Decidable.byContradiction (fun h => h2 (jb_f h))
    obtain ⟨j, hj, rfl⟩ := nI_lift (n := 3) g2.1 g2.2 (by decide)
    refine jx_aload_n k dM_frozen_13 rfl ?_
    refine rm_get k fM_71 dM_frozen_14 rfl ?_
    refine jx_iload_n k dM_frozen_17 rfl ?_
    refine rm_zld k dM_frozen_18 (by decide) rfl (p := j) rfl (by omega) (by decide) ?_
    refine jx_if_ne k dM_frozen_19 (tgt := 26) rfl (fun h3 => ?_) (fun h3 => ?_)
    · have g3 : (0 ≤ nI j ∧ nI j < 3) ∧ σ.2.1 17 (nI j).toNatClampNeg ≠ 0 := ⟨g2, by rw [nI_clamp (by omega)]; exact h3⟩
      refine jx_iload_n k dM_frozen_26 rfl ?_
      refine jx_if_eq k dM_frozen_27 (tgt := 39) rfl (fun h4 => ?_) (fun h4 => ?_)
      · refine jx_aload_n k dM_frozen_39 rfl ?_
        refine rm_get k fM_74 dM_frozen_40 rfl ?_
        refine jx_iload_n k dM_frozen_43 rfl ?_
        refine rm_ild k dM_frozen_44 (by decide) rfl (p := j) rfl (by omega) (by decide) ?_
        exact jx_iret k dM_frozen_45 (Nat.le_refl _) (Nat.le_refl _) ⟨by rw [ms_frozen, if_pos g3, if_pos h4, nI_clamp (by omega)], rfl, rfl⟩
      · refine jx_aload_n k dM_frozen_30 rfl ?_
        refine rm_get k fM_77 dM_frozen_31 rfl ?_
        refine jx_iload_n k dM_frozen_34 rfl ?_
        refine rm_ild k dM_frozen_35 (by decide) rfl (p := j) rfl (by omega) (by decide) ?_
        refine jx_goto k dM_frozen_36 (tgt := 45) rfl ?_
        exact jx_iret k dM_frozen_45 (Nat.le_refl _) (Nat.le_refl _) ⟨by rw [ms_frozen, if_pos g3, if_neg h4, nI_clamp (by omega)], rfl, rfl⟩
    · refine jx_iconst k dM_frozen_22 (v := (-1)) (by decide) ?_
      refine jx_goto k dM_frozen_23 (tgt := 45) rfl ?_
      exact jx_iret k dM_frozen_45 (Nat.le_refl _) (Nat.le_refl _) ⟨by rw [ms_frozen, if_neg (fun h => h.2 (by rw [nI_clamp (by omega)]; exact h3))], rfl, rfl⟩
/-- the earliest or latest second that is kept -/
def mk_f (σ : rs_S) (last : Int32) (p : Nat) (r : Int32) : Int32 := if 0 ≤ σ.2.1 4 p ∧ (r < 0 ∨ (if last = 0 then σ.2.1 4 p < r else r < σ.2.1 4 p)) then σ.2.1 4 p else r
def mk_k (σ : rs_S) (st last : Int32) : Int32 := if 0 ≤ st ∧ st < 3 then fo_f (mk_f σ last) (mb_lo st) (mb_hi st - mb_lo st) (-1) else -1
set_option maxRecDepth 100000 in
set_option maxHeartbeats 4000000 in
theorem q_kept (l : Launch) (E : jx_E) (b : Nat) (G0 : jx_H) (sz mb : Nat) (σ : rs_S) (st last : Int32) : jx_ct l E b yM_kept cM_kept 6 (some .int) 2 0 0 [.ref mb, .int st, .int last] (rm_G E mb σ G0) sz (rm_q E mb G0 sz (.int (mk_k σ st last)) (rs_f σ 0 0)) := by
  refine jx_met (by decide) (Nat.le_of_ble_eq_true rfl) (L0 := [_, _, _, _, _, _]) rfl (fun X k => ?_)
  have hb := mb_le st
  refine jx_aload_n k dM_kept_0 rfl ?_
  refine jx_iconst k dM_kept_1 (v := 0) (by decide) ?_
  refine rm_put k (j := 0) fM_83 dM_kept_2 rfl rfl (Nat.le_of_ble_eq_true rfl) rfl ?_
  refine jx_iconst k dM_kept_5 (v := (-1)) (by decide) ?_
  refine jx_istore_n k dM_kept_6 (Nat.le_of_ble_eq_true rfl) rfl (L' := [_, _, _, _, _, _]) rfl ?_
  refine jx_iload_n k dM_kept_7 rfl ?_
  refine jx_callSP k mM_112 (q_base _ _ _ _ _ st) dM_kept_8 rfl rfl rfl (Nat.le_of_ble_eq_true rfl) ⟨Nat.le_of_ble_eq_true rfl, Nat.le_of_ble_eq_true rfl⟩ ⟨Nat.le_of_ble_eq_true rfl, Nat.le_of_ble_eq_true rfl⟩ ?_
  refine jx_istore k dM_kept_11 (Nat.le_of_ble_eq_true rfl) rfl (L' := [_, _, _, _, _, _]) rfl ?_
  by_cases hs : 0 ≤ st ∧ st < 3
  · have hs1 : ¬ jb_z (0 ≤ st ∧ st < 3) = 0 := fun h => jb_e0.mp h hs
    have ek : mk_k σ st last = fo_f (mk_f σ last) (mb_lo st) (mb_hi st - mb_lo st) (-1) := by rw [mk_k, if_pos hs]
    refine fo_l (fun p r => jx_w X E b (jx_fin X E b (rm_q E mb G0 sz (.int (mk_k σ st last)) (rs_f σ 0 0)) 0 0) 13 [some (.ref mb), some (.int st), some (.int last), some (.int r), some (.int (nI p)), none] [] (rm_G E mb (rs_f σ 0 0) G0) sz 0 0) (mk_f σ last) (lo := mb_lo st) (hi := mb_hi st) hb.1 (-1) ?_ ?_
    · intro p h1 h2
      generalize fo_f (mk_f σ last) (mb_lo st) (p - mb_lo st) (-1) = r
      intro kk
      have k68 : ∀ v : Int32, v = jb_z (r < 0 ∨ (if last = 0 then σ.2.1 4 p < r else r < σ.2.1 4 p)) → jx_w X E b (jx_fin X E b (rm_q E mb G0 sz (.int (mk_k σ st last)) (rs_f σ 0 0)) 0 0) 68 [some (.ref mb), some (.int st), some (.int last), some (.int r), some (.int (nI p)), none] [.int v] (rm_G E mb (rs_f σ 0 0) G0) sz 0 0 := by
        rintro v rfl
        refine jx_istore k dM_kept_68 (Nat.le_of_ble_eq_true rfl) rfl (L' := [_, _, _, _, _, _]) rfl ?_
        refine jx_aload_n k dM_kept_70 rfl ?_
        refine rm_get k fM_28 dM_kept_71 rfl ?_
        refine jx_iload k dM_kept_74 rfl ?_
        refine rm_ild k dM_kept_76 (by decide) rfl (p := p) rfl (by omega) (by decide) ?_
        refine jx_if_lt k dM_kept_77 (tgt := 95) rfl (fun h4 => ?_) (fun h4 => ?_)
        · rw [mk_f, if_neg (fun h => absurd h.1 (Int32.not_le.mpr h4))] at kk
          refine jx_iload_n k dM_kept_95 rfl ?_
          refine jx_istore_n k dM_kept_96 (Nat.le_of_ble_eq_true rfl) rfl (L' := [_, _, _, _, _, _]) rfl ?_
          refine jx_iinc k dM_kept_97 rfl (nI_1 p) rfl (L' := [_, _, _, _, _, _]) rfl ?_
          refine jx_goto k dM_kept_100 (tgt := 13) rfl ?_
          refine jx_fg (jx_ls (jx_ls (jx_ls (jx_ls (jx_ls (jx_ln jx_l0)))))) ?_
          exact kk
        · refine jx_iload k dM_kept_80 rfl ?_
          refine jx_if_eq k dM_kept_82 (tgt := 95) rfl (fun h5 => ?_) (fun h5 => ?_)
          · rw [mk_f, if_neg (fun h => jb_e0.mp h5 h.2)] at kk
            refine jx_iload_n k dM_kept_95 rfl ?_
            refine jx_istore_n k dM_kept_96 (Nat.le_of_ble_eq_true rfl) rfl (L' := [_, _, _, _, _, _]) rfl ?_
            refine jx_iinc k dM_kept_97 rfl (nI_1 p) rfl (L' := [_, _, _, _, _, _]) rfl ?_
            refine jx_goto k dM_kept_100 (tgt := 13) rfl ?_
            refine jx_fg (jx_ls (jx_ls (jx_ls (jx_ls (jx_ls (jx_ln jx_l0)))))) ?_
            exact kk
          · rw [mk_f, if_pos ⟨Int32.not_lt.mp h4, Decidable.byContradiction (fun h => h5 (jb_f h))⟩] at kk
            refine jx_aload_n k dM_kept_85 rfl ?_
            refine rm_get k fM_28 dM_kept_86 rfl ?_
            refine jx_iload k dM_kept_89 rfl ?_
            refine rm_ild k dM_kept_91 (by decide) rfl (p := p) rfl (by omega) (by decide) ?_
            refine jx_goto k dM_kept_92 (tgt := 96) rfl ?_
            refine jx_istore_n k dM_kept_96 (Nat.le_of_ble_eq_true rfl) rfl (L' := [_, _, _, _, _, _]) rfl ?_
            refine jx_iinc k dM_kept_97 rfl (nI_1 p) rfl (L' := [_, _, _, _, _, _]) rfl ?_
            refine jx_goto k dM_kept_100 (tgt := 13) rfl ?_
            refine jx_fg (jx_ls (jx_ls (jx_ls (jx_ls (jx_ls (jx_ln jx_l0)))))) ?_
            exact kk
      refine jx_aload_n k dM_kept_13 rfl ?_
      refine jx_iload_n k dM_kept_14 rfl ?_
      refine jx_callVP k mM_160 (q_isStore _ _ _ _ _ mb st) rm_a0 rfl dM_kept_15 rfl rfl rfl (Nat.le_of_ble_eq_true rfl) ⟨Nat.le_of_ble_eq_true rfl, Nat.le_of_ble_eq_true rfl⟩ ⟨Nat.le_of_ble_eq_true rfl, Nat.le_of_ble_eq_true rfl⟩ ?_
      refine jx_if_eq k dM_kept_18 (tgt := 103) rfl (fun hh => absurd hh hs1) (fun _ => ?_)
      refine jx_iload k dM_kept_21 rfl ?_
      refine jx_iload_n k dM_kept_23 rfl ?_
      refine jx_callSP k mM_116 (q_end _ _ _ _ _ st) dM_kept_24 rfl rfl rfl (Nat.le_of_ble_eq_true rfl) ⟨Nat.le_of_ble_eq_true rfl, Nat.le_of_ble_eq_true rfl⟩ ⟨Nat.le_of_ble_eq_true rfl, Nat.le_of_ble_eq_true rfl⟩ ?_
      refine jx_icmp_ge k dM_kept_27 (tgt := 103) rfl (fun hh => absurd hh (nI_ge h2 (by omega))) (fun _ => ?_)
      refine jx_iload_n k dM_kept_30 rfl ?_
      refine jx_if_lt k dM_kept_31 (tgt := 63) rfl (fun h3 => ?_) (fun h3 => ?_)
      · refine jx_iconst k dM_kept_63 (v := 1) (by decide) ?_
        refine jx_goto k dM_kept_64 (tgt := 68) rfl ?_
        exact k68 _ (by rw [jb_t (Or.inl h3)])
      · refine jx_iload_n k dM_kept_34 rfl ?_
        refine jx_if_eq k dM_kept_35 (tgt := 52) rfl (fun h6 => ?_) (fun h6 => ?_)
        · refine jx_aload_n k dM_kept_52 rfl ?_
          refine rm_get k fM_28 dM_kept_53 rfl ?_
          refine jx_iload k dM_kept_56 rfl ?_
          refine rm_ild k dM_kept_58 (by decide) rfl (p := p) rfl (by omega) (by decide) ?_
          refine jx_iload_n k dM_kept_59 rfl ?_
          refine jx_icmp_ge k dM_kept_60 (tgt := 67) rfl (fun h7 => ?_) (fun h7 => ?_)
          · refine jx_iconst k dM_kept_67 (v := 0) (by decide) ?_
            exact k68 _ (by rw [jb_f (fun h => h.elim h3 (fun h => by rw [if_pos h6] at h; exact absurd h (Int32.not_lt.mpr h7)))])
          · refine jx_iconst k dM_kept_63 (v := 1) (by decide) ?_
            refine jx_goto k dM_kept_64 (tgt := 68) rfl ?_
            exact k68 _ (by rw [jb_t (Or.inr (by rw [if_pos h6]; exact Int32.not_le.mp h7))])
        · refine jx_aload_n k dM_kept_38 rfl ?_
          refine rm_get k fM_28 dM_kept_39 rfl ?_
          refine jx_iload k dM_kept_42 rfl ?_
          refine rm_ild k dM_kept_44 (by decide) rfl (p := p) rfl (by omega) (by decide) ?_
          refine jx_iload_n k dM_kept_45 rfl ?_
          refine jx_icmp_le k dM_kept_46 (tgt := 67) rfl (fun h7 => ?_) (fun h7 => ?_)
          · refine jx_iconst k dM_kept_67 (v := 0) (by decide) ?_
            exact k68 _ (by rw [jb_f (fun h => h.elim h3 (fun h => by rw [if_neg h6] at h; exact absurd h (Int32.not_lt.mpr h7)))])
          · refine jx_goto k dM_kept_49 (tgt := 63) rfl ?_
            refine jx_iconst k dM_kept_63 (v := 1) (by decide) ?_
            refine jx_goto k dM_kept_64 (tgt := 68) rfl ?_
            exact k68 _ (by rw [jb_t (Or.inr (by rw [if_neg h6]; exact Int32.not_le.mp h7))])
    · refine jx_aload_n k dM_kept_13 rfl ?_
      refine jx_iload_n k dM_kept_14 rfl ?_
      refine jx_callVP k mM_160 (q_isStore _ _ _ _ _ mb st) rm_a0 rfl dM_kept_15 rfl rfl rfl (Nat.le_of_ble_eq_true rfl) ⟨Nat.le_of_ble_eq_true rfl, Nat.le_of_ble_eq_true rfl⟩ ⟨Nat.le_of_ble_eq_true rfl, Nat.le_of_ble_eq_true rfl⟩ ?_
      refine jx_if_eq k dM_kept_18 (tgt := 103) rfl (fun hh => absurd hh hs1) (fun _ => ?_)
      refine jx_iload k dM_kept_21 rfl ?_
      refine jx_iload_n k dM_kept_23 rfl ?_
      refine jx_callSP k mM_116 (q_end _ _ _ _ _ st) dM_kept_24 rfl rfl rfl (Nat.le_of_ble_eq_true rfl) ⟨Nat.le_of_ble_eq_true rfl, Nat.le_of_ble_eq_true rfl⟩ ⟨Nat.le_of_ble_eq_true rfl, Nat.le_of_ble_eq_true rfl⟩ ?_
      refine jx_icmp_ge k dM_kept_27 (tgt := 103) rfl (fun _ => ?_) (fun hh => absurd (nI_le (Nat.le_refl _) (by omega)) hh)
      refine jx_iload_n k dM_kept_103 rfl ?_
      exact jx_iret k dM_kept_104 (Nat.le_refl _) (Nat.le_refl _) ⟨by rw [ek], rfl, rfl⟩
  · refine jx_aload_n k dM_kept_13 rfl ?_
    refine jx_iload_n k dM_kept_14 rfl ?_
    refine jx_callVP k mM_160 (q_isStore _ _ _ _ _ mb st) rm_a0 rfl dM_kept_15 rfl rfl rfl (Nat.le_of_ble_eq_true rfl) ⟨Nat.le_of_ble_eq_true rfl, Nat.le_of_ble_eq_true rfl⟩ ⟨Nat.le_of_ble_eq_true rfl, Nat.le_of_ble_eq_true rfl⟩ ?_
    refine jx_if_eq k dM_kept_18 (tgt := 103) rfl (fun _ => ?_) (fun hh => absurd (jb_f hs) hh)
    refine jx_iload_n k dM_kept_103 rfl ?_
    exact jx_iret k dM_kept_104 (Nat.le_refl _) (Nat.le_refl _) ⟨by rw [mk_k, if_neg hs], rfl, rfl⟩
def ms_free (σ : rs_S) (st : Int32) : Int32 := if 0 ≤ st ∧ st < 3 then nI (mf_fp σ st) else -1
set_option maxRecDepth 100000 in
set_option maxHeartbeats 4000000 in
theorem q_free (l : Launch) (E : jx_E) (b : Nat) (G0 : jx_H) (sz mb : Nat) (σ : rs_S) (st : Int32) : jx_ct l E b yM_free cM_free 2 (some .int) 2 0 0 [.ref mb, .int st] (rm_G E mb σ G0) sz (rm_q E mb G0 sz (.int (ms_free σ st)) (rs_f σ 0 0)) := by
  refine jx_met (by decide) (Nat.le_of_ble_eq_true rfl) (L0 := [_, _]) rfl (fun X k => ?_)
  refine jx_aload_n k dM_free_0 rfl ?_
  refine jx_iconst k dM_free_1 (v := 0) (by decide) ?_
  refine rm_put k (j := 0) fM_83 dM_free_2 rfl rfl (Nat.le_of_ble_eq_true rfl) rfl ?_
  refine jx_aload_n k dM_free_5 rfl ?_
  refine jx_iload_n k dM_free_6 rfl ?_
  refine jx_callVP k mM_160 (q_isStore _ _ _ _ _ mb st) rm_a0 rfl dM_free_7 rfl rfl rfl (Nat.le_of_ble_eq_true rfl) ⟨Nat.le_of_ble_eq_true rfl, Nat.le_of_ble_eq_true rfl⟩ ⟨Nat.le_of_ble_eq_true rfl, Nat.le_of_ble_eq_true rfl⟩ ?_
  refine jx_if_eq k dM_free_10 (tgt := 21) rfl (fun h1 => ?_) (fun h1 => ?_)
  · refine jx_iconst k dM_free_21 (v := (-1)) (by decide) ?_
    exact jx_iret k dM_free_22 (Nat.le_refl _) (Nat.le_refl _) ⟨by rw [ms_free, if_neg (jb_e0.mp h1)], rfl, rfl⟩
  · refine jx_aload_n k dM_free_13 rfl ?_
    refine jx_iload_n k dM_free_14 rfl ?_
    refine jx_callVP k mM_119 (q_freePages _ _ _ _ _ _ (rs_f σ 0 0) st) rm_a0 rfl dM_free_15 rfl rfl rfl (Nat.le_of_ble_eq_true rfl) ⟨Nat.le_of_ble_eq_true rfl, Nat.le_of_ble_eq_true rfl⟩ ⟨Nat.le_of_ble_eq_true rfl, Nat.le_of_ble_eq_true rfl⟩ ?_
    refine jx_goto k dM_free_18 (tgt := 22) rfl ?_
    exact jx_iret k dM_free_22 (Nat.le_refl _) (Nat.le_refl _) ⟨by rw [ms_free, if_pos (Decidable.byContradiction (fun h => h1 (jb_f h)))]; rfl, rfl, rfl⟩
/-- whether a bundle is readable -/
def mi_f (σ : rs_S) (o p : Nat) (g : Bool) : Bool := g && (!decide (σ.2.1 2 p = nI (o + 1)) || decide (σ.2.1 3 p = 0))
def mi_r (σ : rs_S) (o : Nat) : Bool := fo_f (mi_f σ o) 0 70 (decide (0 ≤ σ.2.1 4 o))
set_option maxRecDepth 100000 in
set_option maxHeartbeats 4000000 in
theorem q_isReadable (l : Launch) (E : jx_E) (b : Nat) (G0 : jx_H) (sz mb : Nat) (σ : rs_S) (o : Nat) (ho : o < 72) : jx_ct l E b yM_isReadable cM_isReadable 4 (some .boolean) 0 0 0 [.ref mb, .int (nI o)] (rm_G E mb σ G0) sz (jx_pu (.int (jb_z (mi_r σ o = true))) (rm_G E mb σ G0) sz) := by
  refine jx_met (by decide) (Nat.le_of_ble_eq_true rfl) (L0 := [_, _, _, _]) rfl (fun X k => ?_)
  have k14 : ∀ v : Int32, v = jb_z (decide (0 ≤ σ.2.1 4 o) = true) → jx_w X E b (jx_fin X E b (jx_pu (.int (jb_z (mi_r σ o = true))) (rm_G E mb σ G0) sz) 0 0) 14 [some (.ref mb), some (.int (nI o)), none, none] [.int v] (rm_G E mb σ G0) sz 0 0 := by
    rintro v rfl
    refine jx_istore_n k dM_isReadable_14 (Nat.le_of_ble_eq_true rfl) rfl (L' := [_, _, _, _]) rfl ?_
    refine jx_iconst k dM_isReadable_15 (v := 0) (by decide) ?_
    refine jx_istore_n k dM_isReadable_16 (Nat.le_of_ble_eq_true rfl) rfl (L' := [_, _, _, _]) rfl ?_
    refine fo_l (fun p g => jx_w X E b (jx_fin X E b (jx_pu (.int (jb_z (mi_r σ o = true))) (rm_G E mb σ G0) sz) 0 0) 17 [some (.ref mb), some (.int (nI o)), some (.int (jb_z (g = true))), some (.int (nI p))] [] (rm_G E mb σ G0) sz 0 0) (mi_f σ o) (lo := 0) (hi := 70) (by decide) (decide (0 ≤ σ.2.1 4 o)) ?_ ?_
    · intro p h1 h2
      generalize fo_f (mi_f σ o) 0 (p - 0) (decide (0 ≤ σ.2.1 4 o)) = g
      intro kk
      have k53 : ∀ v : Int32, v = jb_z (mi_f σ o p g = true) → jx_w X E b (jx_fin X E b (jx_pu (.int (jb_z (mi_r σ o = true))) (rm_G E mb σ G0) sz) 0 0) 53 [some (.ref mb), some (.int (nI o)), some (.int (jb_z (g = true))), some (.int (nI p))] [.int v] (rm_G E mb σ G0) sz 0 0 := by
        rintro v rfl
        refine jx_istore_n k dM_isReadable_53 (Nat.le_of_ble_eq_true rfl) rfl (L' := [_, _, _, _]) rfl ?_
        refine jx_iinc k dM_isReadable_54 rfl (nI_1 p) rfl (L' := [_, _, _, _]) rfl ?_
        refine jx_goto k dM_isReadable_57 (tgt := 17) rfl ?_
        exact kk
      refine jx_iload_n k dM_isReadable_17 rfl ?_
      refine jx_bipush k dM_isReadable_18 (v := 70) (by decide) ?_
      refine jx_icmp_ge k dM_isReadable_20 (tgt := 60) rfl (fun hh => absurd hh (nI_ge (b := 70) h2 (by decide))) (fun _ => ?_)
      refine jx_iload_n k dM_isReadable_23 rfl ?_
      refine jx_if_eq k dM_isReadable_24 (tgt := 52) rfl (fun h3 => ?_) (fun h3 => ?_)
      · have hg : g = false := by cases g with | false => rfl | true => exact absurd h3 (by decide)
        subst hg
        refine jx_iconst k dM_isReadable_52 (v := 0) (by decide) ?_
        exact k53 _ (by rw [jb_f (by simp [mi_f])])
      · have hg : g = true := by cases g with | true => rfl | false => exact absurd rfl h3
        subst hg
        refine jx_aload_n k dM_isReadable_27 rfl ?_
        refine rm_get k fM_21 dM_isReadable_28 rfl ?_
        refine jx_iload_n k dM_isReadable_31 rfl ?_
        refine rm_ild k dM_isReadable_32 (by decide) rfl (p := p) rfl (by omega) (by decide) ?_
        refine jx_iload_n k dM_isReadable_33 rfl ?_
        refine jx_iconst k dM_isReadable_34 (v := 1) (by decide) ?_
        refine jx_iadd k dM_isReadable_35 ?_
        rw [nI_1]
        refine jx_icmp_ne k dM_isReadable_36 (tgt := 48) rfl (fun h4 => ?_) (fun h4 => ?_)
        · refine jx_iconst k dM_isReadable_48 (v := 1) (by decide) ?_
          refine jx_goto k dM_isReadable_49 (tgt := 53) rfl ?_
          exact k53 _ (by rw [jb_t (by simp [mi_f, h4])])
        · refine jx_aload_n k dM_isReadable_39 rfl ?_
          refine rm_get k fM_25 dM_isReadable_40 rfl ?_
          refine jx_iload_n k dM_isReadable_43 rfl ?_
          refine rm_zld k dM_isReadable_44 (by decide) rfl (p := p) rfl (by omega) (by decide) ?_
          refine jx_if_ne k dM_isReadable_45 (tgt := 52) rfl (fun h5 => ?_) (fun h5 => ?_)
          · refine jx_iconst k dM_isReadable_52 (v := 0) (by decide) ?_
            exact k53 _ (by rw [jb_f (by simp [mi_f, h4, h5])])
          · refine jx_iconst k dM_isReadable_48 (v := 1) (by decide) ?_
            refine jx_goto k dM_isReadable_49 (tgt := 53) rfl ?_
            exact k53 _ (by rw [jb_t (by simp [mi_f, h5])])
    · refine jx_iload_n k dM_isReadable_17 rfl ?_
      refine jx_bipush k dM_isReadable_18 (v := 70) (by decide) ?_
      refine jx_icmp_ge k dM_isReadable_20 (tgt := 60) rfl (fun _ => ?_) (fun hh => absurd (nI_le (a := 70) (b := 70) (by decide) (by decide)) hh)
      refine jx_iload_n k dM_isReadable_60 rfl ?_
      exact jx_zret k dM_isReadable_61 (jb_n _) (Nat.le_refl _) (Nat.le_refl _) ⟨rfl, rfl, rfl⟩
  refine jx_aload_n k dM_isReadable_0 rfl ?_
  refine rm_get k fM_28 dM_isReadable_1 rfl ?_
  refine jx_iload_n k dM_isReadable_4 rfl ?_
  refine rm_ild k dM_isReadable_5 (by decide) rfl (p := o) rfl (by omega) (by decide) ?_
  refine jx_if_lt k dM_isReadable_6 (tgt := 13) rfl (fun h1 => ?_) (fun h1 => ?_)
  · refine jx_iconst k dM_isReadable_13 (v := 0) (by decide) ?_
    exact k14 _ (by rw [jb_f (by simp [Int32.not_le.mpr h1])])
  · refine jx_iconst k dM_isReadable_9 (v := 1) (by decide) ?_
    refine jx_goto k dM_isReadable_10 (tgt := 14) rfl ?_
    exact k14 _ (by rw [jb_t (by simp [Int32.not_lt.mp h1])])
/-- the readable bundle of a second -/
def mu_f (σ : rs_S) (t : Int32) (p : Nat) (o : Option Nat) : Option Nat := if 0 ≤ t ∧ σ.2.1 4 p = t ∧ mi_r σ p = true then some p else o
def mu_b (σ : rs_S) (st t : Int32) : Option Nat := if 0 ≤ st ∧ st < 3 then fo_f (mu_f σ t) (mb_lo st) (mb_hi st - mb_lo st) none else none
theorem mu_in (σ : rs_S) (t : Int32) (lo : Nat) : ∀ n q, fo_f (mu_f σ t) lo n none = some q → lo ≤ q ∧ q < lo + n ∧ 0 ≤ t ∧ σ.2.1 4 q = t ∧ mi_r σ q = true := by
  intro n
  induction n with
  | zero => intro q h; cases h
  | succ n ih =>
    intro q h
    rw [fo_s, mu_f] at h
    split at h
    · next hc =>
      cases h
      exact ⟨by omega, by omega, hc⟩
    · obtain ⟨a1, a2, a3⟩ := ih q h
      exact ⟨a1, by omega, a3⟩
theorem mu_lt {σ : rs_S} {st t : Int32} {q : Nat} (h : mu_b σ st t = some q) : mb_lo st ≤ q ∧ q < mb_hi st := by
  unfold mu_b at h
  split at h
  · have h1 := mu_in σ t (mb_lo st) _ q h
    have h2 := mb_le st
    omega
  · cases h
set_option maxRecDepth 100000 in
set_option maxHeartbeats 4000000 in
theorem q_bundle (l : Launch) (E : jx_E) (b : Nat) (G0 : jx_H) (sz mb : Nat) (σ : rs_S) (st t : Int32) : jx_ct l E b yM_bundle cM_bundle 5 (some .int) 2 0 0 [.ref mb, .int st, .int t] (rm_G E mb σ G0) sz (jx_pu (.int (mo_i (mu_b σ st t))) (rm_G E mb σ G0) sz) := by
  refine jx_met (by decide) (Nat.le_of_ble_eq_true rfl) (L0 := [_, _, _, _, _]) rfl (fun X k => ?_)
  have hb := mb_le st
  refine jx_iconst k dM_bundle_0 (v := (-1)) (by decide) ?_
  refine jx_istore_n k dM_bundle_1 (Nat.le_of_ble_eq_true rfl) rfl (L' := [_, _, _, _, _]) rfl ?_
  refine jx_iload_n k dM_bundle_2 rfl ?_
  refine jx_callSP k mM_112 (q_base _ _ _ _ _ st) dM_bundle_3 rfl rfl rfl (Nat.le_of_ble_eq_true rfl) ⟨Nat.le_of_ble_eq_true rfl, Nat.le_of_ble_eq_true rfl⟩ ⟨Nat.le_of_ble_eq_true rfl, Nat.le_of_ble_eq_true rfl⟩ ?_
  refine jx_istore k dM_bundle_6 (Nat.le_of_ble_eq_true rfl) rfl (L' := [_, _, _, _, _]) rfl ?_
  by_cases hs : 0 ≤ st ∧ st < 3
  · have hs1 : ¬ jb_z (0 ≤ st ∧ st < 3) = 0 := fun h => jb_e0.mp h hs
    have ek : mu_b σ st t = fo_f (mu_f σ t) (mb_lo st) (mb_hi st - mb_lo st) none := by rw [mu_b, if_pos hs]
    refine fo_l (fun p o => jx_w X E b (jx_fin X E b (jx_pu (.int (mo_i (mu_b σ st t))) (rm_G E mb σ G0) sz) 0 0) 8 [some (.ref mb), some (.int st), some (.int t), some (.int (mo_i o)), some (.int (nI p))] [] (rm_G E mb σ G0) sz 0 0) (mu_f σ t) (lo := mb_lo st) (hi := mb_hi st) hb.1 none ?_ ?_
    · intro p h1 h2
      generalize fo_f (mu_f σ t) (mb_lo st) (p - mb_lo st) none = o
      intro kk
      refine jx_aload_n k dM_bundle_8 rfl ?_
      refine jx_iload_n k dM_bundle_9 rfl ?_
      refine jx_callVP k mM_160 (q_isStore _ _ _ _ _ mb st) rm_a0 rfl dM_bundle_10 rfl rfl rfl (Nat.le_of_ble_eq_true rfl) ⟨Nat.le_of_ble_eq_true rfl, Nat.le_of_ble_eq_true rfl⟩ ⟨Nat.le_of_ble_eq_true rfl, Nat.le_of_ble_eq_true rfl⟩ ?_
      refine jx_if_eq k dM_bundle_13 (tgt := 62) rfl (fun hh => absurd hh hs1) (fun _ => ?_)
      refine jx_iload k dM_bundle_16 rfl ?_
      refine jx_iload_n k dM_bundle_18 rfl ?_
      refine jx_callSP k mM_116 (q_end _ _ _ _ _ st) dM_bundle_19 rfl rfl rfl (Nat.le_of_ble_eq_true rfl) ⟨Nat.le_of_ble_eq_true rfl, Nat.le_of_ble_eq_true rfl⟩ ⟨Nat.le_of_ble_eq_true rfl, Nat.le_of_ble_eq_true rfl⟩ ?_
      refine jx_icmp_ge k dM_bundle_22 (tgt := 62) rfl (fun hh => absurd hh (nI_ge h2 (by omega))) (fun _ => ?_)
      refine jx_iload_n k dM_bundle_25 rfl ?_
      refine jx_if_lt k dM_bundle_26 (tgt := 54) rfl (fun h3 => ?_) (fun h3 => ?_)
      · rw [mu_f, if_neg (fun h => absurd h.1 (Int32.not_le.mpr h3))] at kk
        refine jx_iload_n k dM_bundle_54 rfl ?_
        refine jx_istore_n k dM_bundle_55 (Nat.le_of_ble_eq_true rfl) rfl (L' := [_, _, _, _, _]) rfl ?_
        refine jx_iinc k dM_bundle_56 rfl (nI_1 p) rfl (L' := [_, _, _, _, _]) rfl ?_
        refine jx_goto k dM_bundle_59 (tgt := 8) rfl ?_
        exact kk
      · refine jx_aload_n k dM_bundle_29 rfl ?_
        refine rm_get k fM_28 dM_bundle_30 rfl ?_
        refine jx_iload k dM_bundle_33 rfl ?_
        refine rm_ild k dM_bundle_35 (by decide) rfl (p := p) rfl (by omega) (by decide) ?_
        refine jx_iload_n k dM_bundle_36 rfl ?_
        refine jx_icmp_ne k dM_bundle_37 (tgt := 54) rfl (fun h4 => ?_) (fun h4 => ?_)
        · rw [mu_f, if_neg (fun h => h4 h.2.1)] at kk
          refine jx_iload_n k dM_bundle_54 rfl ?_
          refine jx_istore_n k dM_bundle_55 (Nat.le_of_ble_eq_true rfl) rfl (L' := [_, _, _, _, _]) rfl ?_
          refine jx_iinc k dM_bundle_56 rfl (nI_1 p) rfl (L' := [_, _, _, _, _]) rfl ?_
          refine jx_goto k dM_bundle_59 (tgt := 8) rfl ?_
          exact kk
        · refine jx_aload_n k dM_bundle_40 rfl ?_
          refine jx_iload k dM_bundle_41 rfl ?_
          refine jx_callVP k mM_163 (q_isReadable _ _ _ _ _ _ σ p (by omega)) rm_a0 rfl dM_bundle_43 rfl rfl rfl (Nat.le_of_ble_eq_true rfl) ⟨Nat.le_of_ble_eq_true rfl, Nat.le_of_ble_eq_true rfl⟩ ⟨Nat.le_of_ble_eq_true rfl, Nat.le_of_ble_eq_true rfl⟩ ?_
          refine jx_if_eq k dM_bundle_46 (tgt := 54) rfl (fun h5 => ?_) (fun h5 => ?_)
          · rw [mu_f, if_neg (fun h => jb_e0.mp h5 h.2.2)] at kk
            refine jx_iload_n k dM_bundle_54 rfl ?_
            refine jx_istore_n k dM_bundle_55 (Nat.le_of_ble_eq_true rfl) rfl (L' := [_, _, _, _, _]) rfl ?_
            refine jx_iinc k dM_bundle_56 rfl (nI_1 p) rfl (L' := [_, _, _, _, _]) rfl ?_
            refine jx_goto k dM_bundle_59 (tgt := 8) rfl ?_
            exact kk
          · rw [mu_f, if_pos ⟨Int32.not_lt.mp h3, h4, Decidable.byContradiction (fun h => h5 (jb_f h))⟩] at kk
            refine jx_iload k dM_bundle_49 rfl ?_
            refine jx_goto k dM_bundle_51 (tgt := 55) rfl ?_
            refine jx_istore_n k dM_bundle_55 (Nat.le_of_ble_eq_true rfl) rfl (L' := [_, _, _, _, _]) rfl ?_
            refine jx_iinc k dM_bundle_56 rfl (nI_1 p) rfl (L' := [_, _, _, _, _]) rfl ?_
            refine jx_goto k dM_bundle_59 (tgt := 8) rfl ?_
            exact kk
    · refine jx_aload_n k dM_bundle_8 rfl ?_
      refine jx_iload_n k dM_bundle_9 rfl ?_
      refine jx_callVP k mM_160 (q_isStore _ _ _ _ _ mb st) rm_a0 rfl dM_bundle_10 rfl rfl rfl (Nat.le_of_ble_eq_true rfl) ⟨Nat.le_of_ble_eq_true rfl, Nat.le_of_ble_eq_true rfl⟩ ⟨Nat.le_of_ble_eq_true rfl, Nat.le_of_ble_eq_true rfl⟩ ?_
      refine jx_if_eq k dM_bundle_13 (tgt := 62) rfl (fun hh => absurd hh hs1) (fun _ => ?_)
      refine jx_iload k dM_bundle_16 rfl ?_
      refine jx_iload_n k dM_bundle_18 rfl ?_
      refine jx_callSP k mM_116 (q_end _ _ _ _ _ st) dM_bundle_19 rfl rfl rfl (Nat.le_of_ble_eq_true rfl) ⟨Nat.le_of_ble_eq_true rfl, Nat.le_of_ble_eq_true rfl⟩ ⟨Nat.le_of_ble_eq_true rfl, Nat.le_of_ble_eq_true rfl⟩ ?_
      refine jx_icmp_ge k dM_bundle_22 (tgt := 62) rfl (fun _ => ?_) (fun hh => absurd (nI_le (Nat.le_refl _) (by omega)) hh)
      refine jx_iload_n k dM_bundle_62 rfl ?_
      exact jx_iret k dM_bundle_63 (Nat.le_refl _) (Nat.le_refl _) ⟨by rw [ek], rfl, rfl⟩
  · refine jx_aload_n k dM_bundle_8 rfl ?_
    refine jx_iload_n k dM_bundle_9 rfl ?_
    refine jx_callVP k mM_160 (q_isStore _ _ _ _ _ mb st) rm_a0 rfl dM_bundle_10 rfl rfl rfl (Nat.le_of_ble_eq_true rfl) ⟨Nat.le_of_ble_eq_true rfl, Nat.le_of_ble_eq_true rfl⟩ ⟨Nat.le_of_ble_eq_true rfl, Nat.le_of_ble_eq_true rfl⟩ ?_
    refine jx_if_eq k dM_bundle_13 (tgt := 62) rfl (fun _ => ?_) (fun hh => absurd (jb_f hs) hh)
    refine jx_iload_n k dM_bundle_62 rfl ?_
    exact jx_iret k dM_bundle_63 (Nat.le_refl _) (Nat.le_refl _) ⟨by rw [mu_b, if_neg hs]; rfl, rfl, rfl⟩
set_option maxRecDepth 100000 in
set_option maxHeartbeats 4000000 in
theorem q_has (l : Launch) (E : jx_E) (b : Nat) (G0 : jx_H) (sz mb : Nat) (σ : rs_S) (st t : Int32) : jx_ct l E b yM_has cM_has 3 (some .boolean) 3 0 0 [.ref mb, .int st, .int t] (rm_G E mb σ G0) sz (rm_q E mb G0 sz (.int (jb_z ((mu_b σ st t).isSome = true))) (rs_f σ 0 0)) := by
  refine jx_met (by decide) (Nat.le_of_ble_eq_true rfl) (L0 := [_, _, _]) rfl (fun X k => ?_)
  refine jx_aload_n k dM_has_0 rfl ?_
  refine jx_iconst k dM_has_1 (v := 0) (by decide) ?_
  refine rm_put k (j := 0) fM_83 dM_has_2 rfl rfl (Nat.le_of_ble_eq_true rfl) rfl ?_
  refine jx_aload_n k dM_has_5 rfl ?_
  refine jx_iload_n k dM_has_6 rfl ?_
  refine jx_iload_n k dM_has_7 rfl ?_
  refine jx_callVP k mM_166 (q_bundle _ _ _ _ _ _ (rs_f σ 0 0) st t) rm_a0 rfl dM_has_8 rfl rfl rfl (Nat.le_of_ble_eq_true rfl) ⟨Nat.le_of_ble_eq_true rfl, Nat.le_of_ble_eq_true rfl⟩ ⟨Nat.le_of_ble_eq_true rfl, Nat.le_of_ble_eq_true rfl⟩ ?_
  have eb : mu_b (rs_f σ 0 0) st t = mu_b σ st t := rfl
  rw [eb]
  cases ho : mu_b σ st t with
  | none =>
    refine jx_if_lt k dM_has_11 (tgt := 18) rfl (fun _ => ?_) (fun hh => absurd mo_l hh)
    refine jx_iconst k dM_has_18 (v := 0) (by decide) ?_
    exact jx_zret k dM_has_19 rfl (Nat.le_refl _) (Nat.le_refl _) ⟨rfl, rfl, rfl⟩
  | some q =>
    have hq := mu_lt ho
    have hb := mb_le st
    refine jx_if_lt k dM_has_11 (tgt := 18) rfl (fun hh => absurd hh (mo_n (by omega))) (fun _ => ?_)
    refine jx_iconst k dM_has_14 (v := 1) (by decide) ?_
    refine jx_goto k dM_has_15 (tgt := 19) rfl ?_
    exact jx_zret k dM_has_19 rfl (Nat.le_refl _) (Nat.le_refl _) ⟨rfl, rfl, rfl⟩
