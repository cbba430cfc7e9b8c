def ms_sentence (σ : rs_S) (j : Nat) (src : Int32) (txt : Int64) : Int32 × rs_S :=
  if σ.1 2 = 0 then (0, rs_f σ 0 1)
  else if (0 ≤ src ∧ src < 4) ∧ mt_x txt = true ∧ j ≠ 4 then (nI (j + 1), rs_a (rs_t (rs_a (rs_f σ 0 0) 7 (upd (σ.2.1 7) (280 + j) src)) (vp_updL σ.2.2 (280 + j) txt)) 6 (upd (σ.2.1 6) 70 (nI (j + 1))))
  else (-1, rs_f σ 0 0)
set_option maxRecDepth 100000 in
set_option maxHeartbeats 4000000 in
theorem q_sentence (l : Launch) (E : jx_E) (b : Nat) (G0 : jx_H) (sz mb : Nat) (σ : rs_S) (j : Nat) (src : Int32) (txt : Int64) (hn : σ.2.1 6 70 = nI j) (hj : j ≤ 4) : jx_ct l E b yM_sentence cM_sentence 5 (some .int) 2 0 0 [.ref mb, .int src, .long txt] (rm_G E mb σ G0) sz (rm_q E mb G0 sz (.int (ms_sentence σ j src txt).1) (ms_sentence σ j src txt).2) := by
  refine jx_met (by decide) (Nat.le_of_ble_eq_true rfl) (L0 := [_, _, _, _, _]) rfl (fun X k => ?_)
  refine jx_aload_n k dM_sentence_0 rfl ?_
  refine jx_aload_n k dM_sentence_1 rfl ?_
  refine rm_get k fM_7 dM_sentence_2 rfl ?_
  refine jx_if_eq k dM_sentence_5 (tgt := 12) rfl (fun h1 => ?_) (fun h1 => ?_)
  · refine jx_iconst k dM_sentence_12 (v := 1) (by decide) ?_
    refine rm_put k (j := 0) fM_83 dM_sentence_13 rfl rfl (Nat.le_of_ble_eq_true rfl) rfl ?_
    refine jx_aload_n k dM_sentence_16 rfl ?_
    refine rm_get k fM_83 dM_sentence_17 rfl ?_
    refine jx_if_le k dM_sentence_20 (tgt := 25) rfl (fun hh => absurd hh (by show ¬ ((1 : Int32) ≤ 0); decide)) (fun _ => ?_)
    refine jx_iconst k dM_sentence_23 (v := 0) (by decide) ?_
    have e : ms_sentence σ j src txt = (0, rs_f σ 0 1) := by rw [ms_sentence, if_pos h1]
    exact jx_iret k dM_sentence_24 (Nat.le_refl _) (Nat.le_refl _) ⟨by rw [e], by rw [e], rfl⟩
  · refine jx_iconst k dM_sentence_8 (v := 0) (by decide) ?_
    refine jx_goto k dM_sentence_9 (tgt := 13) rfl ?_
    refine rm_put k (j := 0) fM_83 dM_sentence_13 rfl rfl (Nat.le_of_ble_eq_true rfl) rfl ?_
    refine jx_aload_n k dM_sentence_16 rfl ?_
    refine rm_get k fM_83 dM_sentence_17 rfl ?_
    refine jx_if_le k dM_sentence_20 (tgt := 25) rfl (fun _ => ?_) (fun hh => absurd (by show ((0 : Int32) ≤ 0); decide) hh)
    refine jx_aload_n k dM_sentence_25 rfl ?_
    refine rm_get k fM_34 dM_sentence_26 rfl ?_
    refine jx_bipush k dM_sentence_29 (v := 70) (by decide) ?_
    refine rm_ildV k dM_sentence_31 (by decide) rfl (p := 70) rfl (by omega) (by decide) hn ?_
    refine jx_istore k dM_sentence_32 (Nat.le_of_ble_eq_true rfl) rfl (L' := [_, _, _, _, _]) rfl ?_
    refine jx_iload_n k dM_sentence_34 rfl ?_
    refine jx_iconst k dM_sentence_35 (v := 4) (by decide) ?_
    refine jx_callSP k mM_96 (q_isIn _ _ _ _ _ src 4) dM_sentence_36 rfl rfl rfl (Nat.le_of_ble_eq_true rfl) ⟨Nat.le_of_ble_eq_true rfl, Nat.le_of_ble_eq_true rfl⟩ ⟨Nat.le_of_ble_eq_true rfl, Nat.le_of_ble_eq_true rfl⟩ ?_
    refine jx_if_eq k dM_sentence_39 (tgt := 55) rfl (fun h2 => ?_) (fun h2 => ?_)
    · have e : ms_sentence σ j src txt = (-1, rs_f σ 0 0) := by rw [ms_sentence, if_neg h1, if_neg (fun h => jb_e0.mp h2 h.1)]
      refine jx_iconst k dM_sentence_55 (v := (-1)) (by decide) ?_
      exact jx_iret k dM_sentence_56 (Nat.le_refl _) (Nat.le_refl _) ⟨by rw [e], by rw [e], rfl⟩
    · refine jx_lload_n k dM_sentence_42 rfl ?_
      refine jx_callSP k mM_100 (q_isText _ _ _ _ _ txt) dM_sentence_43 rfl rfl rfl (Nat.le_of_ble_eq_true rfl) ⟨Nat.le_of_ble_eq_true rfl, Nat.le_of_ble_eq_true rfl⟩ ⟨Nat.le_of_ble_eq_true rfl, Nat.le_of_ble_eq_true rfl⟩ ?_
      refine jx_if_eq k dM_sentence_46 (tgt := 55) rfl (fun h3 => ?_) (fun h3 => ?_)
      · have e : ms_sentence σ j src txt = (-1, rs_f σ 0 0) := by rw [ms_sentence, if_neg h1, if_neg (fun h => jb_e0.mp h3 h.2.1)]
        refine jx_iconst k dM_sentence_55 (v := (-1)) (by decide) ?_
        exact jx_iret k dM_sentence_56 (Nat.le_refl _) (Nat.le_refl _) ⟨by rw [e], by rw [e], rfl⟩
      · refine jx_iload k dM_sentence_49 rfl ?_
        refine jx_iconst k dM_sentence_51 (v := 4) (by decide) ?_
        refine jx_icmp_ne k dM_sentence_52 (tgt := 57) rfl (fun h4 => ?_) (fun h4 => ?_)
        · have h5 : j ≠ 4 := fun h => h4 (by rw [h]; rfl)
          have e : ms_sentence σ j src txt = (nI (j + 1), rs_a (rs_t (rs_a (rs_f σ 0 0) 7 (upd (σ.2.1 7) (280 + j) src)) (vp_updL σ.2.2 (280 + j) txt)) 6 (upd (σ.2.1 6) 70 (nI (j + 1)))) := by
            rw [ms_sentence, if_neg h1, if_pos ⟨Decidable.byContradiction (fun h => h2 (jb_f h)), Decidable.byContradiction (fun h => h3 (jb_f h)), h5⟩]
          refine jx_aload_n k dM_sentence_57 rfl ?_
          refine rm_get k fM_37 dM_sentence_58 rfl ?_
          refine jx_sipush k dM_sentence_61 (v := 280) (by decide) ?_
          refine jx_iload k dM_sentence_64 rfl ?_
          refine jx_iadd k dM_sentence_66 ?_
          refine jx_iload_n k dM_sentence_67 rfl ?_
          refine rm_ist k dM_sentence_68 (by decide) (fun _ => rfl) (p := 280 + j) (nI_add 280 j) (by omega) (by decide) ?_
          refine jx_aload_n k dM_sentence_69 rfl ?_
          refine rm_get k fM_40 dM_sentence_70 rfl ?_
          refine jx_sipush k dM_sentence_73 (v := 280) (by decide) ?_
          refine jx_iload k dM_sentence_76 rfl ?_
          refine jx_iadd k dM_sentence_78 ?_
          refine jx_lload_n k dM_sentence_79 rfl ?_
          refine rm_lst k dM_sentence_80 (by decide) rfl (p := 280 + j) (nI_add 280 j) (by omega) (by decide) ?_
          refine jx_aload_n k dM_sentence_81 rfl ?_
          refine rm_get k fM_34 dM_sentence_82 rfl ?_
          refine jx_bipush k dM_sentence_85 (v := 70) (by decide) ?_
          refine jx_iload k dM_sentence_87 rfl ?_
          refine jx_iconst k dM_sentence_89 (v := 1) (by decide) ?_
          refine jx_iadd k dM_sentence_90 ?_
          rw [nI_1]
          refine rm_ist k dM_sentence_91 (by decide) (fun _ => rfl) (p := 70) rfl (by omega) (by decide) ?_
          refine jx_iload k dM_sentence_92 rfl ?_
          refine jx_iconst k dM_sentence_94 (v := 1) (by decide) ?_
          refine jx_iadd k dM_sentence_95 ?_
          rw [nI_1]
          exact jx_iret k dM_sentence_96 (Nat.le_refl _) (Nat.le_refl _) ⟨by rw [e], by rw [e]; rfl, rfl⟩
        · have h5 : j = 4 := (nI_eq (by omega) (by decide)).mp h4
          have e : ms_sentence σ j src txt = (-1, rs_f σ 0 0) := by rw [ms_sentence, if_neg h1, if_neg (fun h => h.2.2 h5)]
          refine jx_iconst k dM_sentence_55 (v := (-1)) (by decide) ?_
          exact jx_iret k dM_sentence_56 (Nat.le_refl _) (Nat.le_refl _) ⟨by rw [e], by rw [e], rfl⟩
def ms_sound (σ : rs_S) (ch kk v : Int32) : Int32 × rs_S :=
  if σ.1 2 = 0 then (0, rs_f σ 0 1)
  else if (0 ≤ ch ∧ ch < 2) ∧ (0 ≤ kk ∧ kk < 4) ∧ (0 ≤ v ∧ v < 256) then (1, rs_a (rs_a (rs_f σ 0 0) 9 (upd (σ.2.1 9) (140 + ch.toNatClampNeg) 1)) 10 (upd (σ.2.1 10) (560 + 4 * ch.toNatClampNeg + kk.toNatClampNeg) v))
  else (0, rs_f σ 0 0)
theorem nI_lift {x : Int32} {n : Nat} (h0 : 0 ≤ x) (h1 : x < nI n) (hn : n < 2 ^ 31) : ∃ j : Nat, j < n ∧ x = nI j := by
  obtain ⟨j, hj, rfl⟩ := nI_of (Int32.not_lt.mpr h0)
  exact ⟨j, (nI_ltI hj hn).mp h1, rfl⟩
set_option maxRecDepth 100000 in
set_option maxHeartbeats 4000000 in
theorem q_sound (l : Launch) (E : jx_E) (b : Nat) (G0 : jx_H) (sz mb : Nat) (σ : rs_S) (ch kk v : Int32) : jx_ct l E b yM_sound cM_sound 4 (some .boolean) 2 0 0 [.ref mb, .int ch, .int kk, .int v] (rm_G E mb σ G0) sz (rm_q E mb G0 sz (.int (ms_sound σ ch kk v).1) (ms_sound σ ch kk v).2) := by
  refine jx_met (by decide) (Nat.le_of_ble_eq_true rfl) (L0 := [_, _, _, _]) rfl (fun X k => ?_)
  refine jx_aload_n k dM_sound_0 rfl ?_
  refine jx_aload_n k dM_sound_1 rfl ?_
  refine rm_get k fM_7 dM_sound_2 rfl ?_
  refine jx_if_eq k dM_sound_5 (tgt := 12) rfl (fun h1 => ?_) (fun h1 => ?_)
  · have e : ms_sound σ ch kk v = (0, rs_f σ 0 1) := by rw [ms_sound, if_pos h1]
    refine jx_iconst k dM_sound_12 (v := 1) (by decide) ?_
    refine rm_put k (j := 0) fM_83 dM_sound_13 rfl rfl (Nat.le_of_ble_eq_true rfl) rfl ?_
    refine jx_aload_n k dM_sound_16 rfl ?_
    refine rm_get k fM_83 dM_sound_17 rfl ?_
    refine jx_if_gt k dM_sound_20 (tgt := 49) rfl (fun _ => ?_) (fun hh => absurd (by show (0 : Int32) < 1; decide) hh)
    refine jx_iconst k dM_sound_49 (v := 0) (by decide) ?_
    exact jx_zret k dM_sound_50 rfl (Nat.le_refl _) (Nat.le_refl _) ⟨by rw [e], by rw [e], rfl⟩
  · refine jx_iconst k dM_sound_8 (v := 0) (by decide) ?_
    refine jx_goto k dM_sound_9 (tgt := 13) rfl ?_
    refine rm_put k (j := 0) fM_83 dM_sound_13 rfl rfl (Nat.le_of_ble_eq_true rfl) rfl ?_
    refine jx_aload_n k dM_sound_16 rfl ?_
    refine rm_get k fM_83 dM_sound_17 rfl ?_
    refine jx_if_gt k dM_sound_20 (tgt := 49) rfl (fun hh => absurd hh (by show ¬ ((0 : Int32) < 0); decide)) (fun _ => ?_)
    refine jx_iload_n k dM_sound_23 rfl ?_
    refine jx_iconst k dM_sound_24 (v := 2) (by decide) ?_
    refine jx_callSP k mM_96 (q_isIn _ _ _ _ _ ch 2) dM_sound_25 rfl rfl rfl (Nat.le_of_ble_eq_true rfl) ⟨Nat.le_of_ble_eq_true rfl, Nat.le_of_ble_eq_true rfl⟩ ⟨Nat.le_of_ble_eq_true rfl, Nat.le_of_ble_eq_true rfl⟩ ?_
    refine jx_if_eq k dM_sound_28 (tgt := 49) rfl (fun h2 => ?_) (fun h2 => ?_)
    · have e : ms_sound σ ch kk v = (0, rs_f σ 0 0) := by rw [ms_sound, if_neg h1, if_neg (fun h => jb_e0.mp h2 h.1)]
      refine jx_iconst k dM_sound_49 (v := 0) (by decide) ?_
      exact jx_zret k dM_sound_50 rfl (Nat.le_refl _) (Nat.le_refl _) ⟨by rw [e], by rw [e], rfl⟩
    · refine jx_iload_n k dM_sound_31 rfl ?_
      refine jx_iconst k dM_sound_32 (v := 4) (by decide) ?_
      refine jx_callSP k mM_96 (q_isIn _ _ _ _ _ kk 4) dM_sound_33 rfl rfl rfl (Nat.le_of_ble_eq_true rfl) ⟨Nat.le_of_ble_eq_true rfl, Nat.le_of_ble_eq_true rfl⟩ ⟨Nat.le_of_ble_eq_true rfl, Nat.le_of_ble_eq_true rfl⟩ ?_
      refine jx_if_eq k dM_sound_36 (tgt := 49) rfl (fun h3 => ?_) (fun h3 => ?_)
      · have e : ms_sound σ ch kk v = (0, rs_f σ 0 0) := by rw [ms_sound, if_neg h1, if_neg (fun h => jb_e0.mp h3 h.2.1)]
        refine jx_iconst k dM_sound_49 (v := 0) (by decide) ?_
        exact jx_zret k dM_sound_50 rfl (Nat.le_refl _) (Nat.le_refl _) ⟨by rw [e], by rw [e], rfl⟩
      · refine jx_iload_n k dM_sound_39 rfl ?_
        refine jx_sipush k dM_sound_40 (v := 256) (by decide) ?_
        refine jx_callSP k mM_96 (q_isIn _ _ _ _ _ v 256) dM_sound_43 rfl rfl rfl (Nat.le_of_ble_eq_true rfl) ⟨Nat.le_of_ble_eq_true rfl, Nat.le_of_ble_eq_true rfl⟩ ⟨Nat.le_of_ble_eq_true rfl, Nat.le_of_ble_eq_true rfl⟩ ?_
        refine jx_if_ne k dM_sound_46 (tgt := 51) rfl (fun h4 => ?_) (fun h4 => ?_)
        · have g2 := Decidable.byContradiction (fun h => h2 (jb_f h))
          have g3 := Decidable.byContradiction (fun h => h3 (jb_f h))
          have g4 := Decidable.byContradiction (fun h => h4 (jb_f h))
          have e : ms_sound σ ch kk v = (1, rs_a (rs_a (rs_f σ 0 0) 9 (upd (σ.2.1 9) (140 + ch.toNatClampNeg) 1)) 10 (upd (σ.2.1 10) (560 + 4 * ch.toNatClampNeg + kk.toNatClampNeg) v)) := by
            rw [ms_sound, if_neg h1, if_pos ⟨g2, g3, g4⟩]
          obtain ⟨jc, hc, rfl⟩ := nI_lift (n := 2) g2.1 g2.2 (by decide)
          obtain ⟨jk, hk, rfl⟩ := nI_lift (n := 4) g3.1 g3.2 (by decide)
          rw [nI_clamp (by omega), nI_clamp (by omega)] at e
          have ei : (560 : Int32) + 4 * nI jc + nI jk = nI (560 + 4 * jc + jk) := by
            rw [show (4 : Int32) = nI 4 from rfl, show (560 : Int32) = nI 560 from rfl, pk_mul, nI_add, nI_add]
          refine jx_aload_n k dM_sound_51 rfl ?_
          refine rm_get k fM_44 dM_sound_52 rfl ?_
          refine jx_sipush k dM_sound_55 (v := 140) (by decide) ?_
          refine jx_iload_n k dM_sound_58 rfl ?_
          refine jx_iadd k dM_sound_59 ?_
          refine jx_iconst k dM_sound_60 (v := 1) (by decide) ?_
          refine rm_zst k dM_sound_61 (by decide) (fun _ => rfl) (p := 140 + jc) (nI_add 140 jc) (by omega) (by decide) rfl ?_
          refine jx_aload_n k dM_sound_62 rfl ?_
          refine rm_get k fM_47 dM_sound_63 rfl ?_
          refine jx_sipush k dM_sound_66 (v := 560) (by decide) ?_
          refine jx_iconst k dM_sound_69 (v := 4) (by decide) ?_
          refine jx_iload_n k dM_sound_70 rfl ?_
          refine jx_imul k dM_sound_71 ?_
          refine jx_iadd k dM_sound_72 ?_
          refine jx_iload_n k dM_sound_73 rfl ?_
          refine jx_iadd k dM_sound_74 ?_
          refine jx_iload_n k dM_sound_75 rfl ?_
          refine rm_ist k dM_sound_76 (by decide) (fun _ => rfl) (p := 560 + 4 * jc + jk) ei (by omega) (by decide) ?_
          refine jx_iconst k dM_sound_77 (v := 1) (by decide) ?_
          exact jx_zret k dM_sound_78 rfl (Nat.le_refl _) (Nat.le_refl _) ⟨by rw [e], by rw [e]; rfl, rfl⟩
        · have e : ms_sound σ ch kk v = (0, rs_f σ 0 0) := by rw [ms_sound, if_neg h1, if_neg (fun h => jb_e0.mp h4 h.2.2)]
          refine jx_iconst k dM_sound_49 (v := 0) (by decide) ?_
          exact jx_zret k dM_sound_50 rfl (Nat.le_refl _) (Nat.le_refl _) ⟨by rw [e], by rw [e], rfl⟩
def ms_paint (σ : rs_S) (r c : Int32) : Int32 × rs_S :=
  if σ.1 2 = 0 then (0, rs_f σ 0 1)
  else if (0 ≤ r ∧ r < 8) ∧ (0 ≤ c ∧ c < 65536) then (1, rs_a (rs_f σ 0 0) 15 (upd (σ.2.1 15) r.toNatClampNeg c))
  else (0, rs_f σ 0 0)
set_option maxRecDepth 100000 in
set_option maxHeartbeats 4000000 in
theorem q_paint (l : Launch) (E : jx_E) (b : Nat) (G0 : jx_H) (sz mb : Nat) (σ : rs_S) (r c : Int32) : jx_ct l E b yM_paint cM_paint 3 (some .boolean) 2 0 0 [.ref mb, .int r, .int c] (rm_G E mb σ G0) sz (rm_q E mb G0 sz (.int (ms_paint σ r c).1) (ms_paint σ r c).2) := by
  refine jx_met (by decide) (Nat.le_of_ble_eq_true rfl) (L0 := [_, _, _]) rfl (fun X k => ?_)
  refine jx_aload_n k dM_paint_0 rfl ?_
  refine jx_aload_n k dM_paint_1 rfl ?_
  refine rm_get k fM_7 dM_paint_2 rfl ?_
  refine jx_if_eq k dM_paint_5 (tgt := 12) rfl (fun h1 => ?_) (fun h1 => ?_)
  · have e : ms_paint σ r c = (0, rs_f σ 0 1) := by rw [ms_paint, if_pos h1]
    refine jx_iconst k dM_paint_12 (v := 1) (by decide) ?_
    refine rm_put k (j := 0) fM_83 dM_paint_13 rfl rfl (Nat.le_of_ble_eq_true rfl) rfl ?_
    refine jx_aload_n k dM_paint_16 rfl ?_
    refine rm_get k fM_83 dM_paint_17 rfl ?_
    refine jx_if_gt k dM_paint_20 (tgt := 41) rfl (fun _ => ?_) (fun hh => absurd (by show (0 : Int32) < 1; decide) hh)
    refine jx_iconst k dM_paint_41 (v := 0) (by decide) ?_
    exact jx_zret k dM_paint_42 rfl (Nat.le_refl _) (Nat.le_refl _) ⟨by rw [e], by rw [e], rfl⟩
  · refine jx_iconst k dM_paint_8 (v := 0) (by decide) ?_
    refine jx_goto k dM_paint_9 (tgt := 13) rfl ?_
    refine rm_put k (j := 0) fM_83 dM_paint_13 rfl rfl (Nat.le_of_ble_eq_true rfl) rfl ?_
    refine jx_aload_n k dM_paint_16 rfl ?_
    refine rm_get k fM_83 dM_paint_17 rfl ?_
    refine jx_if_gt k dM_paint_20 (tgt := 41) rfl (fun hh => absurd hh (by show ¬ ((0 : Int32) < 0); decide)) (fun _ => ?_)
    refine jx_iload_n k dM_paint_23 rfl ?_
    refine jx_bipush k dM_paint_24 (v := 8) (by decide) ?_
    refine jx_callSP k mM_96 (q_isIn _ _ _ _ _ r 8) dM_paint_26 rfl rfl rfl (Nat.le_of_ble_eq_true rfl) ⟨Nat.le_of_ble_eq_true rfl, Nat.le_of_ble_eq_true rfl⟩ ⟨Nat.le_of_ble_eq_true rfl, Nat.le_of_ble_eq_true rfl⟩ ?_
    refine jx_if_eq k dM_paint_29 (tgt := 41) rfl (fun h2 => ?_) (fun h2 => ?_)
    · have e : ms_paint σ r c = (0, rs_f σ 0 0) := by rw [ms_paint, if_neg h1, if_neg (fun h => jb_e0.mp h2 h.1)]
      refine jx_iconst k dM_paint_41 (v := 0) (by decide) ?_
      exact jx_zret k dM_paint_42 rfl (Nat.le_refl _) (Nat.le_refl _) ⟨by rw [e], by rw [e], rfl⟩
    · refine jx_iload_n k dM_paint_32 rfl ?_
      refine jx_ldc k jn_745 dM_paint_33 ?_
      refine jx_callSP k mM_96 (q_isIn _ _ _ _ _ c 65536) dM_paint_35 rfl rfl rfl (Nat.le_of_ble_eq_true rfl) ⟨Nat.le_of_ble_eq_true rfl, Nat.le_of_ble_eq_true rfl⟩ ⟨Nat.le_of_ble_eq_true rfl, Nat.le_of_ble_eq_true rfl⟩ ?_
      refine jx_if_ne k dM_paint_38 (tgt := 43) rfl (fun h3 => ?_) (fun h3 => ?_)
      · have g2 := Decidable.byContradiction (fun h => h2 (jb_f h))
        have g3 := Decidable.byContradiction (fun h => h3 (jb_f h))
        have e : ms_paint σ r c = (1, rs_a (rs_f σ 0 0) 15 (upd (σ.2.1 15) r.toNatClampNeg c)) := by rw [ms_paint, if_neg h1, if_pos ⟨g2, g3⟩]
        obtain ⟨jr, hr, rfl⟩ := nI_lift (n := 8) g2.1 g2.2 (by decide)
        rw [nI_clamp (by omega)] at e
        refine jx_aload_n k dM_paint_43 rfl ?_
        refine rm_get k fM_62 dM_paint_44 rfl ?_
        refine jx_iload_n k dM_paint_47 rfl ?_
        refine jx_iload_n k dM_paint_48 rfl ?_
        refine rm_ist k dM_paint_49 (by decide) (fun _ => rfl) (p := jr) rfl (by omega) (by decide) ?_
        refine jx_iconst k dM_paint_50 (v := 1) (by decide) ?_
        exact jx_zret k dM_paint_51 rfl (Nat.le_refl _) (Nat.le_refl _) ⟨by rw [e], by rw [e], rfl⟩
      · have e : ms_paint σ r c = (0, rs_f σ 0 0) := by rw [ms_paint, if_neg h1, if_neg (fun h => jb_e0.mp h3 h.2)]
        refine jx_iconst k dM_paint_41 (v := 0) (by decide) ?_
        exact jx_zret k dM_paint_42 rfl (Nat.le_refl _) (Nat.le_refl _) ⟨by rw [e], by rw [e], rfl⟩
def ms_rows (f g : Nat → Int32) (lo : Nat) : Nat → Int32 := fo_f (fun p h => upd h (lo + p) (g p)) 0 8 f
def ms_show (σ : rs_S) : Int32 × rs_S :=
  if σ.1 2 = 0 then (0, rs_f σ 0 1)
  else if σ.2.1 11 70 = 0 then (1, rs_a (rs_a (rs_f σ 0 0) 11 (upd (σ.2.1 11) 70 1)) 13 (ms_rows (σ.2.1 13) (σ.2.1 15) 560))
  else (0, rs_f σ 0 0)
theorem rs_aa (σ : rs_S) (k : Nat) (f g : Nat → Int32) : rs_a (rs_a σ k f) k g = rs_a σ k g := by
  simp only [rs_a]
  congr 2
  funext q
  by_cases hq : q = k
  · subst hq; rw [va_up_self, va_up_self]
  · rw [va_up_ne _ _ hq, va_up_ne _ _ hq, va_up_ne _ _ hq]
theorem rs_av (σ : rs_S) (k : Nat) (f : Nat → Int32) : (rs_a σ k f).2.1 k = f := by
  show va_up σ.2.1 k f k = f
  rw [va_up_self]
theorem rs_an (σ : rs_S) {k j : Nat} (f : Nat → Int32) (h : j ≠ k) : (rs_a σ k f).2.1 j = σ.2.1 j := by
  show va_up σ.2.1 k f j = _
  rw [va_up_ne _ _ h]
theorem rs_as (σ : rs_S) (k : Nat) : rs_a σ k (σ.2.1 k) = σ := by
  have : va_up σ.2.1 k (σ.2.1 k) = σ.2.1 := by
    funext q
    by_cases hq : q = k
    · subst hq; rw [va_up_self]
    · rw [va_up_ne _ _ hq]
  simp only [rs_a, this]
set_option maxRecDepth 100000 in
set_option maxHeartbeats 4000000 in
theorem q_show (l : Launch) (E : jx_E) (b : Nat) (G0 : jx_H) (sz mb : Nat) (σ : rs_S) : jx_ct l E b yM_show cM_show 2 (some .boolean) 1 0 0 [.ref mb] (rm_G E mb σ G0) sz (rm_q E mb G0 sz (.int (ms_show σ).1) (ms_show σ).2) := by
  refine jx_met (by decide) (Nat.le_of_ble_eq_true rfl) (L0 := [_, _]) rfl (fun X k => ?_)
  refine jx_aload_n k dM_show_0 rfl ?_
  refine jx_aload_n k dM_show_1 rfl ?_
  refine rm_get k fM_7 dM_show_2 rfl ?_
  refine jx_if_eq k dM_show_5 (tgt := 12) rfl (fun h1 => ?_) (fun h1 => ?_)
  · have e : ms_show σ = (0, rs_f σ 0 1) := by rw [ms_show, if_pos h1]
    refine jx_iconst k dM_show_12 (v := 1) (by decide) ?_
    refine rm_put k (j := 0) fM_83 dM_show_13 rfl rfl (Nat.le_of_ble_eq_true rfl) rfl ?_
    refine jx_aload_n k dM_show_16 rfl ?_
    refine rm_get k fM_83 dM_show_17 rfl ?_
    refine jx_if_gt k dM_show_20 (tgt := 33) rfl (fun _ => ?_) (fun hh => absurd (by show (0 : Int32) < 1; decide) hh)
    refine jx_iconst k dM_show_33 (v := 0) (by decide) ?_
    exact jx_zret k dM_show_34 rfl (Nat.le_refl _) (Nat.le_refl _) ⟨by rw [e], by rw [e], rfl⟩
  · refine jx_iconst k dM_show_8 (v := 0) (by decide) ?_
    refine jx_goto k dM_show_9 (tgt := 13) rfl ?_
    refine rm_put k (j := 0) fM_83 dM_show_13 rfl rfl (Nat.le_of_ble_eq_true rfl) rfl ?_
    refine jx_aload_n k dM_show_16 rfl ?_
    refine rm_get k fM_83 dM_show_17 rfl ?_
    refine jx_if_gt k dM_show_20 (tgt := 33) rfl (fun hh => absurd hh (by show ¬ ((0 : Int32) < 0); decide)) (fun _ => ?_)
    refine jx_aload_n k dM_show_23 rfl ?_
    refine rm_get k fM_50 dM_show_24 rfl ?_
    refine jx_bipush k dM_show_27 (v := 70) (by decide) ?_
    refine rm_zld k dM_show_29 (by decide) rfl (p := 70) rfl (by omega) (by decide) ?_
    refine jx_if_eq k dM_show_30 (tgt := 35) rfl (fun h2 => ?_) (fun h2 => ?_)
    · have h2 : σ.2.1 11 70 = 0 := h2
      have e : ms_show σ = (1, rs_a (rs_a (rs_f σ 0 0) 11 (upd (σ.2.1 11) 70 1)) 13 (ms_rows (σ.2.1 13) (σ.2.1 15) 560)) := by rw [ms_show, if_neg h1, if_pos h2]
      refine jx_aload_n k dM_show_35 rfl ?_
      refine rm_get k fM_50 dM_show_36 rfl ?_
      refine jx_bipush k dM_show_39 (v := 70) (by decide) ?_
      refine jx_iconst k dM_show_41 (v := 1) (by decide) ?_
      refine rm_zst k dM_show_42 (by decide) (fun _ => rfl) (p := 70) rfl (by omega) (by decide) rfl ?_
      refine jx_iconst k dM_show_43 (v := 0) (by decide) ?_
      refine jx_istore_n k dM_show_44 (Nat.le_of_ble_eq_true rfl) rfl (L' := [_, _]) rfl ?_
      generalize hσ : rs_a (rs_f σ 0 0) 11 (upd (σ.2.1 11) 70 1) = τ at e
      have t13 : τ.2.1 13 = σ.2.1 13 := by rw [← hσ]; rfl
      have t15 : τ.2.1 15 = σ.2.1 15 := by rw [← hσ]; rfl
      have kx : jx_w X E b (jx_fin X E b (rm_q E mb G0 sz (.int (ms_show σ).1) (ms_show σ).2) 0 0) 45 [some (.ref mb), some (.int (nI 0))] [] (rm_G E mb (rs_a τ 13 (τ.2.1 13)) G0) sz 0 0 := by
        refine fo_l (fun p f => jx_w X E b (jx_fin X E b (rm_q E mb G0 sz (.int (ms_show σ).1) (ms_show σ).2) 0 0) 45 [some (.ref mb), some (.int (nI p))] [] (rm_G E mb (rs_a τ 13 f) G0) sz 0 0) (fun p h => upd h (560 + p) (σ.2.1 15 p)) (lo := 0) (hi := 8) (by decide) (τ.2.1 13) ?_ ?_
        · intro p g1 g2
          generalize fo_f (fun p h => upd h (560 + p) (σ.2.1 15 p)) 0 (p - 0) (τ.2.1 13) = f
          intro kk
          have t15' : (rs_a τ 13 f).2.1 15 p = σ.2.1 15 p := by
            show va_up τ.2.1 13 f 15 p = _
            rw [va_up_ne _ _ (by decide), t15]
          refine jx_iload_n k dM_show_45 rfl ?_
          refine jx_bipush k dM_show_46 (v := 8) (by decide) ?_
          refine jx_icmp_ge k dM_show_48 (tgt := 73) rfl (fun hh => absurd hh (nI_ge (b := 8) g2 (by decide))) (fun _ => ?_)
          refine jx_aload_n k dM_show_51 rfl ?_
          refine rm_get k fM_56 dM_show_52 rfl ?_
          refine jx_sipush k dM_show_55 (v := 560) (by decide) ?_
          refine jx_iload_n k dM_show_58 rfl ?_
          refine jx_iadd k dM_show_59 ?_
          refine jx_aload_n k dM_show_60 rfl ?_
          refine rm_get k fM_62 dM_show_61 rfl ?_
          refine jx_iload_n k dM_show_64 rfl ?_
          refine rm_ildV k dM_show_65 (by decide) rfl (p := p) rfl (by omega) (by decide) t15' ?_
          refine rm_ist k dM_show_66 (by decide) (fun _ => rfl) (p := 560 + p) (nI_add 560 p) (by omega) (by decide) ?_
          rw [rs_aa, rs_av]
          refine jx_iinc k dM_show_67 rfl (nI_1 p) rfl (L' := [_, _]) rfl ?_
          refine jx_goto k dM_show_70 (tgt := 45) rfl ?_
          exact kk
        · refine jx_iload_n k dM_show_45 rfl ?_
          refine jx_bipush k dM_show_46 (v := 8) (by decide) ?_
          refine jx_icmp_ge k dM_show_48 (tgt := 73) rfl (fun _ => ?_) (fun hh => absurd (nI_le (a := 8) (b := 8) (by decide) (by decide)) hh)
          refine jx_iconst k dM_show_73 (v := 1) (by decide) ?_
          exact jx_zret k dM_show_74 rfl (Nat.le_refl _) (Nat.le_refl _) ⟨by rw [e], by rw [e, ms_rows, ← t13], rfl⟩
      rw [rs_as] at kx
      exact kx
    · have h2 : ¬ σ.2.1 11 70 = 0 := h2
      have e : ms_show σ = (0, rs_f σ 0 0) := by rw [ms_show, if_neg h1, if_neg h2]
      refine jx_iconst k dM_show_33 (v := 0) (by decide) ?_
      exact jx_zret k dM_show_34 rfl (Nat.le_refl _) (Nat.le_refl _) ⟨by rw [e], by rw [e], rfl⟩
def ms_contact (σ : rs_S) (i on : Int32) : Int32 × rs_S :=
  if σ.1 2 = 0 then (0, rs_f σ 0 1)
  else if (0 ≤ i ∧ i < 16) then (1, rs_a (rs_f σ 0 0) 14 (upd (σ.2.1 14) 70 (if on = 0 then σ.2.1 14 70 &&& (((1 : Int32) <<< (i &&& 31)) ^^^ (-1)) else σ.2.1 14 70 ||| ((1 : Int32) <<< (i &&& 31)))))
  else (0, rs_f σ 0 0)
set_option maxRecDepth 100000 in
set_option maxHeartbeats 4000000 in
theorem q_contact (l : Launch) (E : jx_E) (b : Nat) (G0 : jx_H) (sz mb : Nat) (σ : rs_S) (i on : Int32) : jx_ct l E b yM_contact cM_contact 3 (some .boolean) 2 0 0 [.ref mb, .int i, .int on] (rm_G E mb σ G0) sz (rm_q E mb G0 sz (.int (ms_contact σ i on).1) (ms_contact σ i on).2) := by
  refine jx_met (by decide) (Nat.le_of_ble_eq_true rfl) (L0 := [_, _, _]) rfl (fun X k => ?_)
  refine jx_aload_n k dM_contact_0 rfl ?_
  refine jx_aload_n k dM_contact_1 rfl ?_
  refine rm_get k fM_7 dM_contact_2 rfl ?_
  refine jx_if_eq k dM_contact_5 (tgt := 12) rfl (fun h1 => ?_) (fun h1 => ?_)
  · have e : ms_contact σ i on = (0, rs_f σ 0 1) := by rw [ms_contact, if_pos h1]
    refine jx_iconst k dM_contact_12 (v := 1) (by decide) ?_
    refine rm_put k (j := 0) fM_83 dM_contact_13 rfl rfl (Nat.le_of_ble_eq_true rfl) rfl ?_
    refine jx_aload_n k dM_contact_16 rfl ?_
    refine rm_get k fM_83 dM_contact_17 rfl ?_
    refine jx_if_gt k dM_contact_20 (tgt := 32) rfl (fun _ => ?_) (fun hh => absurd (by show (0 : Int32) < 1; decide) hh)
    refine jx_iconst k dM_contact_32 (v := 0) (by decide) ?_
    exact jx_zret k dM_contact_33 rfl (Nat.le_refl _) (Nat.le_refl _) ⟨by rw [e], by rw [e], rfl⟩
  · refine jx_iconst k dM_contact_8 (v := 0) (by decide) ?_
    refine jx_goto k dM_contact_9 (tgt := 13) rfl ?_
    refine rm_put k (j := 0) fM_83 dM_contact_13 rfl rfl (Nat.le_of_ble_eq_true rfl) rfl ?_
    refine jx_aload_n k dM_contact_16 rfl ?_
    refine rm_get k fM_83 dM_contact_17 rfl ?_
    refine jx_if_gt k dM_contact_20 (tgt := 32) rfl (fun hh => absurd hh (by show ¬ ((0 : Int32) < 0); decide)) (fun _ => ?_)
    refine jx_iload_n k dM_contact_23 rfl ?_
    refine jx_bipush k dM_contact_24 (v := 16) (by decide) ?_
    refine jx_callSP k mM_96 (q_isIn _ _ _ _ _ i 16) dM_contact_26 rfl rfl rfl (Nat.le_of_ble_eq_true rfl) ⟨Nat.le_of_ble_eq_true rfl, Nat.le_of_ble_eq_true rfl⟩ ⟨Nat.le_of_ble_eq_true rfl, Nat.le_of_ble_eq_true rfl⟩ ?_
    refine jx_if_ne k dM_contact_29 (tgt := 34) rfl (fun h2 => ?_) (fun h2 => ?_)
    · have g2 := Decidable.byContradiction (fun h => h2 (jb_f h))
      have e : ms_contact σ i on = (1, rs_a (rs_f σ 0 0) 14 (upd (σ.2.1 14) 70 (if on = 0 then σ.2.1 14 70 &&& (((1 : Int32) <<< (i &&& 31)) ^^^ (-1)) else σ.2.1 14 70 ||| ((1 : Int32) <<< (i &&& 31))))) := by rw [ms_contact, if_neg h1, if_pos g2]
      refine jx_aload_n k dM_contact_34 rfl ?_
      refine rm_get k fM_59 dM_contact_35 rfl ?_
      refine jx_bipush k dM_contact_38 (v := 70) (by decide) ?_
      refine jx_iload_n k dM_contact_40 rfl ?_
      refine jx_if_eq k dM_contact_41 (tgt := 58) rfl (fun h3 => ?_) (fun h3 => ?_)
      · rw [if_pos h3] at e
        refine jx_aload_n k dM_contact_58 rfl ?_
        refine rm_get k fM_59 dM_contact_59 rfl ?_
        refine jx_bipush k dM_contact_62 (v := 70) (by decide) ?_
        refine rm_ild k dM_contact_64 (by decide) rfl (p := 70) rfl (by omega) (by decide) ?_
        refine jx_iconst k dM_contact_65 (v := 1) (by decide) ?_
        refine jx_iload_n k dM_contact_66 rfl ?_
        refine jx_ishl k dM_contact_67 ?_
        refine jx_iconst k dM_contact_68 (v := (-1)) (by decide) ?_
        refine jx_ixor k dM_contact_69 ?_
        refine jx_iand k dM_contact_70 ?_
        refine rm_ist k dM_contact_71 (by decide) (fun _ => rfl) (p := 70) rfl (by omega) (by decide) ?_
        refine jx_iconst k dM_contact_72 (v := 1) (by decide) ?_
        exact jx_zret k dM_contact_73 rfl (Nat.le_refl _) (Nat.le_refl _) ⟨by rw [e], by rw [e], rfl⟩
      · rw [if_neg h3] at e
        refine jx_aload_n k dM_contact_44 rfl ?_
        refine rm_get k fM_59 dM_contact_45 rfl ?_
        refine jx_bipush k dM_contact_48 (v := 70) (by decide) ?_
        refine rm_ild k dM_contact_50 (by decide) rfl (p := 70) rfl (by omega) (by decide) ?_
        refine jx_iconst k dM_contact_51 (v := 1) (by decide) ?_
        refine jx_iload_n k dM_contact_52 rfl ?_
        refine jx_ishl k dM_contact_53 ?_
        refine jx_ior k dM_contact_54 ?_
        refine jx_goto k dM_contact_55 (tgt := 71) rfl ?_
        refine rm_ist k dM_contact_71 (by decide) (fun _ => rfl) (p := 70) rfl (by omega) (by decide) ?_
        refine jx_iconst k dM_contact_72 (v := 1) (by decide) ?_
        exact jx_zret k dM_contact_73 rfl (Nat.le_refl _) (Nat.le_refl _) ⟨by rw [e], by rw [e], rfl⟩
    · have e : ms_contact σ i on = (0, rs_f σ 0 0) := by rw [ms_contact, if_neg h1, if_neg (jb_e0.mp h2)]
      refine jx_iconst k dM_contact_32 (v := 0) (by decide) ?_
      exact jx_zret k dM_contact_33 rfl (Nat.le_refl _) (Nat.le_refl _) ⟨by rw [e], by rw [e], rfl⟩
