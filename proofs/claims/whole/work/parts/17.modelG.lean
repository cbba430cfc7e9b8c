def mw_l (σ : rs_S) (q : Int32) : Prop := σ.1 5 ≠ 0 ∧ 0 ≤ q ∧ q < σ.2.1 6 71
noncomputable def mw_b (σ : rs_S) (q : Int32) : Bool := !decide (σ.1 5 = 0) && (decide (0 ≤ q) && decide (q < σ.2.1 6 71))
set_option maxRecDepth 100000 in
theorem q_isLoaded (l : Launch) (E : jx_E) (b : Nat) (G0 : jx_H) (sz mb : Nat) (σ : rs_S) (q : Int32) : jx_ct l E b yM_isLoaded cM_isLoaded 2 (some .boolean) 0 0 0 [.ref mb, .int q] (rm_G E mb σ G0) sz (jx_pu (.int (jb_z (mw_b σ q = true))) (rm_G E mb σ G0) sz) := by
  refine jx_met (by decide) (Nat.le_of_ble_eq_true rfl) (L0 := [_, _]) rfl (fun X k => ?_)
  refine jx_aload_n k dM_isLoaded_0 rfl ?_
  refine rm_get k fM_172 dM_isLoaded_1 rfl ?_
  refine jx_if_eq k dM_isLoaded_4 (tgt := 26) rfl (fun h1 => ?_) (fun h1 => ?_)
  · refine jx_iconst k dM_isLoaded_26 (v := 0) (by decide) ?_
    exact jx_zret k dM_isLoaded_27 rfl (Nat.le_refl _) (Nat.le_refl _) ⟨by rw [jb_f (by simp [mw_b, h1])], rfl, rfl⟩
  · refine jx_iload_n k dM_isLoaded_7 rfl ?_
    refine jx_if_lt k dM_isLoaded_8 (tgt := 26) rfl (fun h2 => ?_) (fun h2 => ?_)
    · refine jx_iconst k dM_isLoaded_26 (v := 0) (by decide) ?_
      exact jx_zret k dM_isLoaded_27 rfl (Nat.le_refl _) (Nat.le_refl _) ⟨by rw [jb_f (by simp [mw_b, Int32.not_le.mpr h2])], rfl, rfl⟩
    · refine jx_iload_n k dM_isLoaded_11 rfl ?_
      refine jx_aload_n k dM_isLoaded_12 rfl ?_
      refine rm_get k fM_34 dM_isLoaded_13 rfl ?_
      refine jx_bipush k dM_isLoaded_16 (v := 71) (by decide) ?_
      refine rm_ild k dM_isLoaded_18 (by decide) rfl (p := 71) rfl (by omega) (by decide) ?_
      refine jx_icmp_ge k dM_isLoaded_19 (tgt := 26) rfl (fun h3 => ?_) (fun h3 => ?_)
      · refine jx_iconst k dM_isLoaded_26 (v := 0) (by decide) ?_
        exact jx_zret k dM_isLoaded_27 rfl (Nat.le_refl _) (Nat.le_refl _) ⟨by rw [jb_f (by simp [mw_b, Int32.not_lt.mpr h3])], rfl, rfl⟩
      · refine jx_iconst k dM_isLoaded_22 (v := 1) (by decide) ?_
        refine jx_goto k dM_isLoaded_23 (tgt := 27) rfl ?_
        exact jx_zret k dM_isLoaded_27 rfl (Nat.le_refl _) (Nat.le_refl _) ⟨by rw [jb_t (by simp [mw_b, h1, Int32.not_lt.mp h2, Int32.not_le.mp h3])], rfl, rfl⟩
noncomputable def ms_outSentence (σ : rs_S) (q : Int32) : Int64 := if mw_b σ q = true then σ.2.2 (284 + q.toNatClampNeg) else 0
set_option maxRecDepth 100000 in
theorem q_outSentence (l : Launch) (E : jx_E) (b : Nat) (G0 : jx_H) (sz mb : Nat) (σ : rs_S) (q : Int32) (j : Nat) (hn : σ.2.1 6 71 = nI j) (hj : j ≤ 4) : jx_ct l E b yM_outSentence cM_outSentence 2 (some .long) 1 0 0 [.ref mb, .int q] (rm_G E mb σ G0) sz (rm_q E mb G0 sz (.long (ms_outSentence σ q)) (rs_f σ 0 0)) := by
  refine jx_met (by decide) (Nat.le_of_ble_eq_true rfl) (L0 := [_, _]) rfl (fun X k => ?_)
  refine jx_aload_n k dM_outSentence_0 rfl ?_
  refine jx_iconst k dM_outSentence_1 (v := 0) (by decide) ?_
  refine rm_put k (j := 0) fM_83 dM_outSentence_2 rfl rfl (Nat.le_of_ble_eq_true rfl) rfl ?_
  refine jx_aload_n k dM_outSentence_5 rfl ?_
  refine jx_iload_n k dM_outSentence_6 rfl ?_
  refine jx_callVP k mM_178 (q_isLoaded _ _ _ _ _ _ (rs_f σ 0 0) q) rm_a0 rfl dM_outSentence_7 rfl rfl rfl (Nat.le_of_ble_eq_true rfl) ⟨Nat.le_of_ble_eq_true rfl, Nat.le_of_ble_eq_true rfl⟩ ⟨Nat.le_of_ble_eq_true rfl, Nat.le_of_ble_eq_true rfl⟩ ?_
  refine jx_if_eq k dM_outSentence_10 (tgt := 26) rfl (fun h1 => ?_) (fun h1 => ?_)
  · have h2 : ¬ mw_b σ q = true := jb_e0.mp h1
    refine jx_lconst k dM_outSentence_26 (v := 0) (by decide) ?_
    exact jx_lret k dM_outSentence_27 (Nat.le_refl _) (Nat.le_refl _) ⟨by rw [ms_outSentence, if_neg h2], rfl, rfl⟩
  · have h2 : mw_b σ q = true := Decidable.byContradiction (fun h => h1 (jb_f h))
    have h3 := h2
    simp only [mw_b, Bool.and_eq_true, decide_eq_true_eq, hn] at h3
    obtain ⟨i, hi, rfl⟩ := nI_lift h3.2.1 h3.2.2 (by omega)
    refine jx_aload_n k dM_outSentence_13 rfl ?_
    refine rm_get k fM_40 dM_outSentence_14 rfl ?_
    refine jx_sipush k dM_outSentence_17 (v := 284) (by decide) ?_
    refine jx_iload_n k dM_outSentence_20 rfl ?_
    refine jx_iadd k dM_outSentence_21 ?_
    refine rm_lld k dM_outSentence_22 (by decide) rfl (p := 284 + i) (nI_add 284 i) (by omega) (by decide) ?_
    refine jx_goto k dM_outSentence_23 (tgt := 27) rfl ?_
    exact jx_lret k dM_outSentence_27 (Nat.le_refl _) (Nat.le_refl _) ⟨by rw [ms_outSentence, if_pos h2, nI_clamp (by omega)], rfl, rfl⟩
noncomputable def ms_outSource (σ : rs_S) (q : Int32) : Int32 := if mw_b σ q = true then σ.2.1 7 (284 + q.toNatClampNeg) else -1
set_option maxRecDepth 100000 in
theorem q_outSource (l : Launch) (E : jx_E) (b : Nat) (G0 : jx_H) (sz mb : Nat) (σ : rs_S) (q : Int32) (j : Nat) (hn : σ.2.1 6 71 = nI j) (hj : j ≤ 4) : jx_ct l E b yM_outSource cM_outSource 2 (some .int) 1 0 0 [.ref mb, .int q] (rm_G E mb σ G0) sz (rm_q E mb G0 sz (.int (ms_outSource σ q)) (rs_f σ 0 0)) := by
  refine jx_met (by decide) (Nat.le_of_ble_eq_true rfl) (L0 := [_, _]) rfl (fun X k => ?_)
  refine jx_aload_n k dM_outSource_0 rfl ?_
  refine jx_iconst k dM_outSource_1 (v := 0) (by decide) ?_
  refine rm_put k (j := 0) fM_83 dM_outSource_2 rfl rfl (Nat.le_of_ble_eq_true rfl) rfl ?_
  refine jx_aload_n k dM_outSource_5 rfl ?_
  refine jx_iload_n k dM_outSource_6 rfl ?_
  refine jx_callVP k mM_178 (q_isLoaded _ _ _ _ _ _ (rs_f σ 0 0) q) rm_a0 rfl dM_outSource_7 rfl rfl rfl (Nat.le_of_ble_eq_true rfl) ⟨Nat.le_of_ble_eq_true rfl, Nat.le_of_ble_eq_true rfl⟩ ⟨Nat.le_of_ble_eq_true rfl, Nat.le_of_ble_eq_true rfl⟩ ?_
  refine jx_if_eq k dM_outSource_10 (tgt := 26) rfl (fun h1 => ?_) (fun h1 => ?_)
  · have h2 : ¬ mw_b σ q = true := jb_e0.mp h1
    refine jx_iconst k dM_outSource_26 (v := (-1)) (by decide) ?_
    exact jx_iret k dM_outSource_27 (Nat.le_refl _) (Nat.le_refl _) ⟨by rw [ms_outSource, if_neg h2], rfl, rfl⟩
  · have h2 : mw_b σ q = true := Decidable.byContradiction (fun h => h1 (jb_f h))
    have h3 := h2
    simp only [mw_b, Bool.and_eq_true, decide_eq_true_eq, hn] at h3
    obtain ⟨i, hi, rfl⟩ := nI_lift h3.2.1 h3.2.2 (by omega)
    refine jx_aload_n k dM_outSource_13 rfl ?_
    refine rm_get k fM_37 dM_outSource_14 rfl ?_
    refine jx_sipush k dM_outSource_17 (v := 284) (by decide) ?_
    refine jx_iload_n k dM_outSource_20 rfl ?_
    refine jx_iadd k dM_outSource_21 ?_
    refine rm_ild k dM_outSource_22 (by decide) rfl (p := 284 + i) (nI_add 284 i) (by omega) (by decide) ?_
    refine jx_goto k dM_outSource_23 (tgt := 27) rfl ?_
    exact jx_iret k dM_outSource_27 (Nat.le_refl _) (Nat.le_refl _) ⟨by rw [ms_outSource, if_pos h2, nI_clamp (by omega)], rfl, rfl⟩
def ms_outSound (σ : rs_S) (c q : Int32) : Int32 := if (0 ≤ c ∧ c < 2) ∧ (0 ≤ q ∧ q < 4) then (if σ.1 5 = 0 then 0 else σ.2.1 10 (568 + 4 * c.toNatClampNeg + q.toNatClampNeg)) else -1
set_option maxRecDepth 100000 in
theorem q_outSound (l : Launch) (E : jx_E) (b : Nat) (G0 : jx_H) (sz mb : Nat) (σ : rs_S) (c q : Int32) : jx_ct l E b yM_outSound cM_outSound 3 (some .int) 1 0 0 [.ref mb, .int c, .int q] (rm_G E mb σ G0) sz (rm_q E mb G0 sz (.int (ms_outSound σ c q)) (rs_f σ 0 0)) := by
  refine jx_met (by decide) (Nat.le_of_ble_eq_true rfl) (L0 := [_, _, _]) rfl (fun X k => ?_)
  refine jx_aload_n k dM_outSound_0 rfl ?_
  refine jx_iconst k dM_outSound_1 (v := 0) (by decide) ?_
  refine rm_put k (j := 0) fM_83 dM_outSound_2 rfl rfl (Nat.le_of_ble_eq_true rfl) rfl ?_
  refine jx_iload_n k dM_outSound_5 rfl ?_
  refine jx_iconst k dM_outSound_6 (v := 2) (by decide) ?_
  refine jx_callSP k mM_96 (q_isIn _ _ _ _ _ c 2) dM_outSound_7 rfl rfl rfl (Nat.le_of_ble_eq_true rfl) ⟨Nat.le_of_ble_eq_true rfl, Nat.le_of_ble_eq_true rfl⟩ ⟨Nat.le_of_ble_eq_true rfl, Nat.le_of_ble_eq_true rfl⟩ ?_
  refine jx_if_eq k dM_outSound_10 (tgt := 21) rfl (fun h1 => ?_) (fun h1 => ?_)
  · refine jx_iconst k dM_outSound_21 (v := (-1)) (by decide) ?_
    refine jx_goto k dM_outSound_22 (tgt := 50) rfl ?_
    exact jx_iret k dM_outSound_50 (Nat.le_refl _) (Nat.le_refl _) ⟨by rw [ms_outSound, if_neg (fun h => jb_e0.mp h1 h.1)], rfl, rfl⟩
  · refine jx_iload_n k dM_outSound_13 rfl ?_
    refine jx_iconst k dM_outSound_14 (v := 4) (by decide) ?_
    refine jx_callSP k mM_96 (q_isIn _ _ _ _ _ q 4) dM_outSound_15 rfl rfl rfl (Nat.le_of_ble_eq_true rfl) ⟨Nat.le_of_ble_eq_true rfl, Nat.le_of_ble_eq_true rfl⟩ ⟨Nat.le_of_ble_eq_true rfl, Nat.le_of_ble_eq_true rfl⟩ ?_
    refine jx_if_ne k dM_outSound_18 (tgt := 25) rfl (fun h2 => ?_) (fun h2 => ?_)
    · have g1 := Decidable.byContradiction (fun h => h1 (jb_f h))
      have g2 := Decidable.byContradiction (fun h => h2 (jb_f h))
      obtain ⟨i, hi, rfl⟩ := nI_lift (n := 2) g1.1 g1.2 (by decide)
      obtain ⟨j, hj, rfl⟩ := nI_lift (n := 4) g2.1 g2.2 (by decide)
      have ei : (568 : Int32) + 4 * nI i + nI j = nI (568 + 4 * i + j) := by
        rw [show (4 : Int32) = nI 4 from rfl, show (568 : Int32) = nI 568 from rfl, pk_mul, nI_add, nI_add]
      have e : ms_outSound σ (nI i) (nI j) = if σ.1 5 = 0 then 0 else σ.2.1 10 (568 + 4 * i + j) := by
        rw [ms_outSound, if_pos ⟨g1, g2⟩, nI_clamp (by omega), nI_clamp (by omega)]
      refine jx_aload_n k dM_outSound_25 rfl ?_
      refine rm_get k fM_172 dM_outSound_26 rfl ?_
      refine jx_if_eq k dM_outSound_29 (tgt := 49) rfl (fun (h3 : σ.1 5 = 0) => ?_) (fun (h3 : ¬ (σ.1 5 = 0)) => ?_)
      · refine jx_iconst k dM_outSound_49 (v := 0) (by decide) ?_
        exact jx_iret k dM_outSound_50 (Nat.le_refl _) (Nat.le_refl _) ⟨by rw [e, if_pos h3], rfl, rfl⟩
      · refine jx_aload_n k dM_outSound_32 rfl ?_
        refine rm_get k fM_47 dM_outSound_33 rfl ?_
        refine jx_sipush k dM_outSound_36 (v := 568) (by decide) ?_
        refine jx_iconst k dM_outSound_39 (v := 4) (by decide) ?_
        refine jx_iload_n k dM_outSound_40 rfl ?_
        refine jx_imul k dM_outSound_41 ?_
        refine jx_iadd k dM_outSound_42 ?_
        refine jx_iload_n k dM_outSound_43 rfl ?_
        refine jx_iadd k dM_outSound_44 ?_
        refine rm_ild k dM_outSound_45 (by decide) rfl (p := 568 + 4 * i + j) ei (by omega) (by decide) ?_
        refine jx_goto k dM_outSound_46 (tgt := 50) rfl ?_
        exact jx_iret k dM_outSound_50 (Nat.le_refl _) (Nat.le_refl _) ⟨by rw [e, if_neg h3], rfl, rfl⟩
    · refine jx_iconst k dM_outSound_21 (v := (-1)) (by decide) ?_
      refine jx_goto k dM_outSound_22 (tgt := 50) rfl ?_
      exact jx_iret k dM_outSound_50 (Nat.le_refl _) (Nat.le_refl _) ⟨by rw [ms_outSound, if_neg (fun h => jb_e0.mp h2 h.2)], rfl, rfl⟩
def ms_outContacts (σ : rs_S) : Int32 := if σ.1 5 = 0 then 0 else σ.2.1 14 71
set_option maxRecDepth 100000 in
theorem q_outContacts (l : Launch) (E : jx_E) (b : Nat) (G0 : jx_H) (sz mb : Nat) (σ : rs_S) : jx_ct l E b yM_outContacts cM_outContacts 1 (some .int) 0 0 0 [.ref mb] (rm_G E mb σ G0) sz (rm_q E mb G0 sz (.int (ms_outContacts σ)) (rs_f σ 0 0)) := by
  refine jx_met (by decide) (Nat.le_of_ble_eq_true rfl) (L0 := [_]) rfl (fun X k => ?_)
  refine jx_aload_n k dM_outContacts_0 rfl ?_
  refine jx_iconst k dM_outContacts_1 (v := 0) (by decide) ?_
  refine rm_put k (j := 0) fM_83 dM_outContacts_2 rfl rfl (Nat.le_of_ble_eq_true rfl) rfl ?_
  refine jx_aload_n k dM_outContacts_5 rfl ?_
  refine rm_get k fM_172 dM_outContacts_6 rfl ?_
  refine jx_if_eq k dM_outContacts_9 (tgt := 22) rfl (fun (h1 : σ.1 5 = 0) => ?_) (fun (h1 : ¬ (σ.1 5 = 0)) => ?_)
  · refine jx_iconst k dM_outContacts_22 (v := 0) (by decide) ?_
    exact jx_iret k dM_outContacts_23 (Nat.le_refl _) (Nat.le_refl _) ⟨by rw [ms_outContacts, if_pos h1], rfl, rfl⟩
  · refine jx_aload_n k dM_outContacts_12 rfl ?_
    refine rm_get k fM_59 dM_outContacts_13 rfl ?_
    refine jx_bipush k dM_outContacts_16 (v := 71) (by decide) ?_
    refine rm_ild k dM_outContacts_18 (by decide) rfl (p := 71) rfl (by omega) (by decide) ?_
    refine jx_goto k dM_outContacts_19 (tgt := 23) rfl ?_
    exact jx_iret k dM_outContacts_23 (Nat.le_refl _) (Nat.le_refl _) ⟨by rw [ms_outContacts, if_neg h1], rfl, rfl⟩
def ms_outRow (σ : rs_S) (r : Int32) : Int32 := if 0 ≤ r ∧ r < 8 then (if σ.1 5 = 0 then 0 else if σ.1 6 = 0 then -1 else σ.2.1 20 r.toNatClampNeg) else -1
set_option maxRecDepth 100000 in
theorem q_outRow (l : Launch) (E : jx_E) (b : Nat) (G0 : jx_H) (sz mb : Nat) (σ : rs_S) (r : Int32) : jx_ct l E b yM_outRow cM_outRow 2 (some .int) 1 0 0 [.ref mb, .int r] (rm_G E mb σ G0) sz (rm_q E mb G0 sz (.int (ms_outRow σ r)) (rs_f σ 0 0)) := by
  refine jx_met (by decide) (Nat.le_of_ble_eq_true rfl) (L0 := [_, _]) rfl (fun X k => ?_)
  refine jx_aload_n k dM_outRow_0 rfl ?_
  refine jx_iconst k dM_outRow_1 (v := 0) (by decide) ?_
  refine rm_put k (j := 0) fM_83 dM_outRow_2 rfl rfl (Nat.le_of_ble_eq_true rfl) rfl ?_
  refine jx_iload_n k dM_outRow_5 rfl ?_
  refine jx_bipush k dM_outRow_6 (v := 8) (by decide) ?_
  refine jx_callSP k mM_96 (q_isIn _ _ _ _ _ r 8) dM_outRow_8 rfl rfl rfl (Nat.le_of_ble_eq_true rfl) ⟨Nat.le_of_ble_eq_true rfl, Nat.le_of_ble_eq_true rfl⟩ ⟨Nat.le_of_ble_eq_true rfl, Nat.le_of_ble_eq_true rfl⟩ ?_
  refine jx_if_ne k dM_outRow_11 (tgt := 18) rfl (fun h1 => ?_) (fun h1 => ?_)
  · have g1 := Decidable.byContradiction (fun h => h1 (jb_f h))
    obtain ⟨i, hi, rfl⟩ := nI_lift (n := 8) g1.1 g1.2 (by decide)
    refine jx_aload_n k dM_outRow_18 rfl ?_
    refine rm_get k fM_172 dM_outRow_19 rfl ?_
    refine jx_if_ne k dM_outRow_22 (tgt := 29) rfl (fun (h2 : ¬ (σ.1 5 = 0)) => ?_) (fun (h2 : σ.1 5 = 0) => ?_)
    · refine jx_aload_n k dM_outRow_29 rfl ?_
      refine rm_get k fM_169 dM_outRow_30 rfl ?_
      refine jx_if_eq k dM_outRow_33 (tgt := 45) rfl (fun (h3 : σ.1 6 = 0) => ?_) (fun (h3 : ¬ (σ.1 6 = 0)) => ?_)
      · refine jx_iconst k dM_outRow_45 (v := (-1)) (by decide) ?_
        exact jx_iret k dM_outRow_46 (Nat.le_refl _) (Nat.le_refl _) ⟨by rw [ms_outRow, if_pos g1, if_neg h2, if_pos h3], rfl, rfl⟩
      · refine jx_aload_n k dM_outRow_36 rfl ?_
        refine rm_get k fM_80 dM_outRow_37 rfl ?_
        refine jx_iload_n k dM_outRow_40 rfl ?_
        refine rm_ild k dM_outRow_41 (by decide) rfl (p := i) rfl (by omega) (by decide) ?_
        refine jx_goto k dM_outRow_42 (tgt := 46) rfl ?_
        exact jx_iret k dM_outRow_46 (Nat.le_refl _) (Nat.le_refl _) ⟨by rw [ms_outRow, if_pos g1, if_neg h2, if_neg h3, nI_clamp (by omega)], rfl, rfl⟩
    · refine jx_iconst k dM_outRow_25 (v := 0) (by decide) ?_
      refine jx_goto k dM_outRow_26 (tgt := 46) rfl ?_
      exact jx_iret k dM_outRow_46 (Nat.le_refl _) (Nat.le_refl _) ⟨by rw [ms_outRow, if_pos g1, if_pos h2], rfl, rfl⟩
  · refine jx_iconst k dM_outRow_14 (v := (-1)) (by decide) ?_
    refine jx_goto k dM_outRow_15 (tgt := 46) rfl ?_
    exact jx_iret k dM_outRow_46 (Nat.le_refl _) (Nat.le_refl _) ⟨by rw [ms_outRow, if_neg (jb_e0.mp h1)], rfl, rfl⟩
def ms_fail (σ : rs_S) (st fl : Int32) : Int32 × rs_S := if (0 ≤ st ∧ st < 3) ∧ ¬ σ.2.1 1 st.toNatClampNeg = fl then (1, rs_a (rs_f σ 0 0) 1 (upd (σ.2.1 1) st.toNatClampNeg fl)) else (0, rs_f σ 0 0)
set_option maxRecDepth 100000 in
theorem q_fail (l : Launch) (E : jx_E) (b : Nat) (G0 : jx_H) (sz mb : Nat) (σ : rs_S) (st fl : Int32) (hfl : fl = 0 ∨ fl = 1) : jx_ct l E b yM_fail cM_fail 3 (some .boolean) 2 0 0 [.ref mb, .int st, .int fl] (rm_G E mb σ G0) sz (rm_q E mb G0 sz (.int (ms_fail σ st fl).1) (ms_fail σ st fl).2) := by
  refine jx_met (by decide) (Nat.le_of_ble_eq_true rfl) (L0 := [_, _, _]) rfl (fun X k => ?_)
  refine jx_aload_n k dM_fail_0 rfl ?_
  refine jx_iconst k dM_fail_1 (v := 0) (by decide) ?_
  refine rm_put k (j := 0) fM_83 dM_fail_2 rfl rfl (Nat.le_of_ble_eq_true rfl) rfl ?_
  refine jx_aload_n k dM_fail_5 rfl ?_
  refine jx_iload_n k dM_fail_6 rfl ?_
  refine jx_callVP k mM_160 (q_isStore _ _ _ _ _ mb st) rm_a0 rfl dM_fail_7 rfl rfl rfl (Nat.le_of_ble_eq_true rfl) ⟨Nat.le_of_ble_eq_true rfl, Nat.le_of_ble_eq_true rfl⟩ ⟨Nat.le_of_ble_eq_true rfl, Nat.le_of_ble_eq_true rfl⟩ ?_
  refine jx_if_eq k dM_fail_10 (tgt := 23) rfl (fun h1 => ?_) (fun h1 => ?_)
  · have e : ms_fail σ st fl = (0, rs_f σ 0 0) := by rw [ms_fail, if_neg (fun h => jb_e0.mp h1 h.1)]
    refine jx_iconst k dM_fail_23 (v := 0) (by decide) ?_
    exact jx_zret k dM_fail_24 rfl (Nat.le_refl _) (Nat.le_refl _) ⟨by rw [e], by rw [e], rfl⟩
  · have g1 := Decidable.byContradiction (fun h => h1 (jb_f h))
    obtain ⟨i, hi, rfl⟩ := nI_lift (n := 3) g1.1 g1.2 (by decide)
    refine jx_aload_n k dM_fail_13 rfl ?_
    refine rm_get k fM_17 dM_fail_14 rfl ?_
    refine jx_iload_n k dM_fail_17 rfl ?_
    refine rm_zld k dM_fail_18 (by decide) rfl (p := i) rfl (by omega) (by decide) ?_
    refine jx_iload_n k dM_fail_19 rfl ?_
    refine jx_icmp_ne k dM_fail_20 (tgt := 25) rfl (fun h2 => ?_) (fun h2 => ?_)
    · have e : ms_fail σ (nI i) fl = (1, rs_a (rs_f σ 0 0) 1 (upd (σ.2.1 1) i fl)) := by rw [ms_fail, if_pos ⟨g1, by rw [nI_clamp (by omega)]; exact h2⟩, nI_clamp (by omega)]
      refine jx_aload_n k dM_fail_25 rfl ?_
      refine rm_get k fM_17 dM_fail_26 rfl ?_
      refine jx_iload_n k dM_fail_29 rfl ?_
      refine jx_iload_n k dM_fail_30 rfl ?_
      refine rm_zst k dM_fail_31 (by decide) (fun _ => rfl) (p := i) rfl (by omega) (by decide) (jb_01 hfl) ?_
      refine jx_iconst k dM_fail_32 (v := 1) (by decide) ?_
      exact jx_zret k dM_fail_33 rfl (Nat.le_refl _) (Nat.le_refl _) ⟨by rw [e], by rw [e], rfl⟩
    · have e : ms_fail σ (nI i) fl = (0, rs_f σ 0 0) := by rw [ms_fail, if_neg (fun h => h.2 (by rw [nI_clamp (by omega)]; exact h2))]
      refine jx_iconst k dM_fail_23 (v := 0) (by decide) ?_
      exact jx_zret k dM_fail_24 rfl (Nat.le_refl _) (Nat.le_refl _) ⟨by rw [e], by rw [e], rfl⟩
def ms_cutAfter (σ : rs_S) (n : Int32) : Int32 × rs_S := if 0 ≤ n ∧ n ≤ 100 ∧ ¬ σ.1 2 = 0 then (1, rs_f (rs_f σ 0 0) 3 n) else (0, rs_f σ 0 0)
set_option maxRecDepth 100000 in
theorem q_cutAfter (l : Launch) (E : jx_E) (b : Nat) (G0 : jx_H) (sz mb : Nat) (σ : rs_S) (n : Int32) : jx_ct l E b yM_cutAfter cM_cutAfter 2 (some .boolean) 0 0 0 [.ref mb, .int n] (rm_G E mb σ G0) sz (rm_q E mb G0 sz (.int (ms_cutAfter σ n).1) (ms_cutAfter σ n).2) := by
  refine jx_met (by decide) (Nat.le_of_ble_eq_true rfl) (L0 := [_, _]) rfl (fun X k => ?_)
  refine jx_aload_n k dM_cutAfter_0 rfl ?_
  refine jx_iconst k dM_cutAfter_1 (v := 0) (by decide) ?_
  refine rm_put k (j := 0) fM_83 dM_cutAfter_2 rfl rfl (Nat.le_of_ble_eq_true rfl) rfl ?_
  refine jx_iload_n k dM_cutAfter_5 rfl ?_
  refine jx_if_lt k dM_cutAfter_6 (tgt := 22) rfl (fun h1 => ?_) (fun h1 => ?_)
  · have e : ms_cutAfter σ n = (0, rs_f σ 0 0) := by rw [ms_cutAfter, if_neg (fun h => absurd h.1 (Int32.not_le.mpr h1))]
    refine jx_iconst k dM_cutAfter_22 (v := 0) (by decide) ?_
    exact jx_zret k dM_cutAfter_23 rfl (Nat.le_refl _) (Nat.le_refl _) ⟨by rw [e], by rw [e], rfl⟩
  · refine jx_iload_n k dM_cutAfter_9 rfl ?_
    refine jx_bipush k dM_cutAfter_10 (v := 100) (by decide) ?_
    refine jx_icmp_gt k dM_cutAfter_12 (tgt := 22) rfl (fun h2 => ?_) (fun h2 => ?_)
    · have e : ms_cutAfter σ n = (0, rs_f σ 0 0) := by rw [ms_cutAfter, if_neg (fun h => absurd h.2.1 (Int32.not_le.mpr h2))]
      refine jx_iconst k dM_cutAfter_22 (v := 0) (by decide) ?_
      exact jx_zret k dM_cutAfter_23 rfl (Nat.le_refl _) (Nat.le_refl _) ⟨by rw [e], by rw [e], rfl⟩
    · refine jx_aload_n k dM_cutAfter_15 rfl ?_
      refine rm_get k fM_7 dM_cutAfter_16 rfl ?_
      refine jx_if_ne k dM_cutAfter_19 (tgt := 24) rfl (fun (h3 : ¬ (σ.1 2 = 0)) => ?_) (fun (h3 : σ.1 2 = 0) => ?_)
      · have e : ms_cutAfter σ n = (1, rs_f (rs_f σ 0 0) 3 n) := by rw [ms_cutAfter, if_pos ⟨Int32.not_lt.mp h1, Int32.not_lt.mp h2, h3⟩]
        refine jx_aload_n k dM_cutAfter_24 rfl ?_
        refine jx_iload_n k dM_cutAfter_25 rfl ?_
        refine rm_put k (j := 3) fM_13 dM_cutAfter_26 rfl rfl (Nat.le_of_ble_eq_true rfl) rfl ?_
        refine jx_iconst k dM_cutAfter_29 (v := 1) (by decide) ?_
        exact jx_zret k dM_cutAfter_30 rfl (Nat.le_refl _) (Nat.le_refl _) ⟨by rw [e], by rw [e], rfl⟩
      · have e : ms_cutAfter σ n = (0, rs_f σ 0 0) := by rw [ms_cutAfter, if_neg (fun h => h.2.2 h3)]
        refine jx_iconst k dM_cutAfter_22 (v := 0) (by decide) ?_
        exact jx_zret k dM_cutAfter_23 rfl (Nat.le_refl _) (Nat.le_refl _) ⟨by rw [e], by rw [e], rfl⟩
def ms_start (σ : rs_S) : Int32 × rs_S := if σ.1 2 = 0 then (1, rs_f (rs_f σ 0 0) 2 1) else (0, rs_f σ 0 0)
set_option maxRecDepth 100000 in
theorem q_start (l : Launch) (E : jx_E) (b : Nat) (G0 : jx_H) (sz mb : Nat) (σ : rs_S) : jx_ct l E b yM_start cM_start 1 (some .boolean) 0 0 0 [.ref mb] (rm_G E mb σ G0) sz (rm_q E mb G0 sz (.int (ms_start σ).1) (ms_start σ).2) := by
  refine jx_met (by decide) (Nat.le_of_ble_eq_true rfl) (L0 := [_]) rfl (fun X k => ?_)
  refine jx_aload_n k dM_start_0 rfl ?_
  refine jx_iconst k dM_start_1 (v := 0) (by decide) ?_
  refine rm_put k (j := 0) fM_83 dM_start_2 rfl rfl (Nat.le_of_ble_eq_true rfl) rfl ?_
  refine jx_aload_n k dM_start_5 rfl ?_
  refine rm_get k fM_7 dM_start_6 rfl ?_
  refine jx_if_eq k dM_start_9 (tgt := 14) rfl (fun (h1 : σ.1 2 = 0) => ?_) (fun (h1 : ¬ (σ.1 2 = 0)) => ?_)
  · have e : ms_start σ = (1, rs_f (rs_f σ 0 0) 2 1) := by rw [ms_start, if_pos h1]
    refine jx_aload_n k dM_start_14 rfl ?_
    refine jx_iconst k dM_start_15 (v := 1) (by decide) ?_
    refine rm_put k (j := 2) fM_7 dM_start_16 rfl rfl (Nat.le_of_ble_eq_true rfl) rfl ?_
    refine jx_iconst k dM_start_19 (v := 1) (by decide) ?_
    exact jx_zret k dM_start_20 rfl (Nat.le_refl _) (Nat.le_refl _) ⟨by rw [e], by rw [e], rfl⟩
  · have e : ms_start σ = (0, rs_f σ 0 0) := by rw [ms_start, if_neg h1]
    refine jx_iconst k dM_start_12 (v := 0) (by decide) ?_
    exact jx_zret k dM_start_13 rfl (Nat.le_refl _) (Nat.le_refl _) ⟨by rw [e], by rw [e], rfl⟩
def ms_spoil (σ : rs_S) (st p : Int32) : Int32 × rs_S :=
  if (0 ≤ st ∧ st < 3) ∧ (0 ≤ p ∧ p < nI (mb_hi st - mb_lo st)) ∧ σ.2.1 3 (mb_lo st + p.toNatClampNeg) = 0 then (1, rs_a (rs_f σ 0 0) 3 (upd (σ.2.1 3) (mb_lo st + p.toNatClampNeg) 1)) else (0, rs_f σ 0 0)
set_option maxRecDepth 100000 in
set_option maxHeartbeats 4000000 in
theorem q_spoil (l : Launch) (E : jx_E) (b : Nat) (G0 : jx_H) (sz mb : Nat) (σ : rs_S) (st p : Int32) : jx_ct l E b yM_spoil cM_spoil 3 (some .boolean) 2 0 0 [.ref mb, .int st, .int p] (rm_G E mb σ G0) sz (rm_q E mb G0 sz (.int (ms_spoil σ st p).1) (ms_spoil σ st p).2) := by
  refine jx_met (by decide) (Nat.le_of_ble_eq_true rfl) (L0 := [_, _, _]) rfl (fun X k => ?_)
  have hb := mb_le st
  refine jx_aload_n k dM_spoil_0 rfl ?_
  refine jx_iconst k dM_spoil_1 (v := 0) (by decide) ?_
  refine rm_put k (j := 0) fM_83 dM_spoil_2 rfl rfl (Nat.le_of_ble_eq_true rfl) rfl ?_
  refine jx_aload_n k dM_spoil_5 rfl ?_
  refine jx_iload_n k dM_spoil_6 rfl ?_
  refine jx_callVP k mM_160 (q_isStore _ _ _ _ _ mb st) rm_a0 rfl dM_spoil_7 rfl rfl rfl (Nat.le_of_ble_eq_true rfl) ⟨Nat.le_of_ble_eq_true rfl, Nat.le_of_ble_eq_true rfl⟩ ⟨Nat.le_of_ble_eq_true rfl, Nat.le_of_ble_eq_true rfl⟩ ?_
  refine jx_if_eq k dM_spoil_10 (tgt := 43) rfl (fun h1 => ?_) (fun h1 => ?_)
  · have e : ms_spoil σ st p = (0, rs_f σ 0 0) := by rw [ms_spoil, if_neg (fun h => jb_e0.mp h1 h.1)]
    refine jx_iconst k dM_spoil_43 (v := 0) (by decide) ?_
    exact jx_zret k dM_spoil_44 rfl (Nat.le_refl _) (Nat.le_refl _) ⟨by rw [e], by rw [e], rfl⟩
  · have g1 := Decidable.byContradiction (fun h => h1 (jb_f h))
    refine jx_iload_n k dM_spoil_13 rfl ?_
    refine jx_iload_n k dM_spoil_14 rfl ?_
    refine jx_callSP k mM_116 (q_end _ _ _ _ _ st) dM_spoil_15 rfl rfl rfl (Nat.le_of_ble_eq_true rfl) ⟨Nat.le_of_ble_eq_true rfl, Nat.le_of_ble_eq_true rfl⟩ ⟨Nat.le_of_ble_eq_true rfl, Nat.le_of_ble_eq_true rfl⟩ ?_
    refine jx_iload_n k dM_spoil_18 rfl ?_
    refine jx_callSP k mM_112 (q_base _ _ _ _ _ st) dM_spoil_19 rfl rfl rfl (Nat.le_of_ble_eq_true rfl) ⟨Nat.le_of_ble_eq_true rfl, Nat.le_of_ble_eq_true rfl⟩ ⟨Nat.le_of_ble_eq_true rfl, Nat.le_of_ble_eq_true rfl⟩ ?_
    refine jx_isub k dM_spoil_22 ?_
    rw [pk_sub hb.1]
    refine jx_callSP k mM_96 (q_isIn _ _ _ _ _ p (nI (mb_hi st - mb_lo st))) dM_spoil_23 rfl rfl rfl (Nat.le_of_ble_eq_true rfl) ⟨Nat.le_of_ble_eq_true rfl, Nat.le_of_ble_eq_true rfl⟩ ⟨Nat.le_of_ble_eq_true rfl, Nat.le_of_ble_eq_true rfl⟩ ?_
    refine jx_if_eq k dM_spoil_26 (tgt := 43) rfl (fun h2 => ?_) (fun h2 => ?_)
    · have e : ms_spoil σ st p = (0, rs_f σ 0 0) := by rw [ms_spoil, if_neg (fun h => jb_e0.mp h2 h.2.1)]
      refine jx_iconst k dM_spoil_43 (v := 0) (by decide) ?_
      exact jx_zret k dM_spoil_44 rfl (Nat.le_refl _) (Nat.le_refl _) ⟨by rw [e], by rw [e], rfl⟩
    · have g2 := Decidable.byContradiction (fun h => h2 (jb_f h))
      obtain ⟨i, hi, rfl⟩ := nI_lift g2.1 g2.2 (by omega)
      refine jx_aload_n k dM_spoil_29 rfl ?_
      refine rm_get k fM_25 dM_spoil_30 rfl ?_
      refine jx_iload_n k dM_spoil_33 rfl ?_
      refine jx_callSP k mM_112 (q_base _ _ _ _ _ st) dM_spoil_34 rfl rfl rfl (Nat.le_of_ble_eq_true rfl) ⟨Nat.le_of_ble_eq_true rfl, Nat.le_of_ble_eq_true rfl⟩ ⟨Nat.le_of_ble_eq_true rfl, Nat.le_of_ble_eq_true rfl⟩ ?_
      refine jx_iload_n k dM_spoil_37 rfl ?_
      refine jx_iadd k dM_spoil_38 ?_
      refine rm_zld k dM_spoil_39 (by decide) rfl (p := mb_lo st + i) (nI_add _ i) (by omega) (by decide) ?_
      refine jx_if_eq k dM_spoil_40 (tgt := 45) rfl (fun h3 => ?_) (fun h3 => ?_)
      · have e : ms_spoil σ st (nI i) = (1, rs_a (rs_f σ 0 0) 3 (upd (σ.2.1 3) (mb_lo st + i) 1)) := by rw [ms_spoil, if_pos ⟨g1, g2, by rw [nI_clamp (by omega)]; exact h3⟩, nI_clamp (by omega)]
        refine jx_aload_n k dM_spoil_45 rfl ?_
        refine rm_get k fM_25 dM_spoil_46 rfl ?_
        refine jx_iload_n k dM_spoil_49 rfl ?_
        refine jx_callSP k mM_112 (q_base _ _ _ _ _ st) dM_spoil_50 rfl rfl rfl (Nat.le_of_ble_eq_true rfl) ⟨Nat.le_of_ble_eq_true rfl, Nat.le_of_ble_eq_true rfl⟩ ⟨Nat.le_of_ble_eq_true rfl, Nat.le_of_ble_eq_true rfl⟩ ?_
        refine jx_iload_n k dM_spoil_53 rfl ?_
        refine jx_iadd k dM_spoil_54 ?_
        refine jx_iconst k dM_spoil_55 (v := 1) (by decide) ?_
        refine rm_zst k dM_spoil_56 (by decide) (fun _ => rfl) (p := mb_lo st + i) (nI_add _ i) (by omega) (by decide) rfl ?_
        refine jx_iconst k dM_spoil_57 (v := 1) (by decide) ?_
        exact jx_zret k dM_spoil_58 rfl (Nat.le_refl _) (Nat.le_refl _) ⟨by rw [e], by rw [e], rfl⟩
      · have e : ms_spoil σ st (nI i) = (0, rs_f σ 0 0) := by rw [ms_spoil, if_neg (fun h => h3 (by have := h.2.2; rw [nI_clamp (by omega)] at this; exact this))]
        refine jx_iconst k dM_spoil_43 (v := 0) (by decide) ?_
        exact jx_zret k dM_spoil_44 rfl (Nat.le_refl _) (Nat.le_refl _) ⟨by rw [e], by rw [e], rfl⟩
def mj_f (σ : rs_S) (p n : Nat) : Nat := if 0 ≤ σ.2.1 4 p ∧ ¬ mi_r σ p = true then n + 1 else n
def mj_u (σ : rs_S) (st : Int32) : Nat := fo_f (mj_f σ) (mb_lo st) (mb_hi st - mb_lo st) 0
def ms_unreadable (σ : rs_S) (st : Int32) : Int32 := if 0 ≤ st ∧ st < 3 then nI (mj_u σ st) else -1
set_option maxRecDepth 100000 in
set_option maxHeartbeats 4000000 in
theorem q_unreadable (l : Launch) (E : jx_E) (b : Nat) (G0 : jx_H) (sz mb : Nat) (σ : rs_S) (st : Int32) : jx_ct l E b yM_unreadable cM_unreadable 4 (some .int) 2 0 0 [.ref mb, .int st] (rm_G E mb σ G0) sz (rm_q E mb G0 sz (.int (ms_unreadable σ st)) (rs_f σ 0 0)) := by
  refine jx_met (by decide) (Nat.le_of_ble_eq_true rfl) (L0 := [_, _, _, _]) rfl (fun X k => ?_)
  have hb := mb_le st
  refine jx_aload_n k dM_unreadable_0 rfl ?_
  refine jx_iconst k dM_unreadable_1 (v := 0) (by decide) ?_
  refine rm_put k (j := 0) fM_83 dM_unreadable_2 rfl rfl (Nat.le_of_ble_eq_true rfl) rfl ?_
  refine jx_aload_n k dM_unreadable_5 rfl ?_
  refine jx_iload_n k dM_unreadable_6 rfl ?_
  refine jx_callVP k mM_160 (q_isStore _ _ _ _ _ mb st) rm_a0 rfl dM_unreadable_7 rfl rfl rfl (Nat.le_of_ble_eq_true rfl) ⟨Nat.le_of_ble_eq_true rfl, Nat.le_of_ble_eq_true rfl⟩ ⟨Nat.le_of_ble_eq_true rfl, Nat.le_of_ble_eq_true rfl⟩ ?_
  refine jx_if_ne k dM_unreadable_10 (tgt := 15) rfl (fun h1 => ?_) (fun h1 => ?_)
  · have g1 := Decidable.byContradiction (fun h => h1 (jb_f h))
    refine jx_iconst k dM_unreadable_15 (v := 0) (by decide) ?_
    refine jx_istore_n k dM_unreadable_16 (Nat.le_of_ble_eq_true rfl) rfl (L' := [_, _, _, _]) rfl ?_
    refine jx_iload_n k dM_unreadable_17 rfl ?_
    refine jx_callSP k mM_112 (q_base _ _ _ _ _ st) dM_unreadable_18 rfl rfl rfl (Nat.le_of_ble_eq_true rfl) ⟨Nat.le_of_ble_eq_true rfl, Nat.le_of_ble_eq_true rfl⟩ ⟨Nat.le_of_ble_eq_true rfl, Nat.le_of_ble_eq_true rfl⟩ ?_
    refine jx_istore_n k dM_unreadable_21 (Nat.le_of_ble_eq_true rfl) rfl (L' := [_, _, _, _]) rfl ?_
    refine fo_l (fun p n => jx_w X E b (jx_fin X E b (rm_q E mb G0 sz (.int (ms_unreadable σ st)) (rs_f σ 0 0)) 0 0) 22 [some (.ref mb), some (.int st), some (.int (nI n)), some (.int (nI p))] [] (rm_G E mb (rs_f σ 0 0) G0) sz 0 0) (mj_f σ) (lo := mb_lo st) (hi := mb_hi st) hb.1 0 ?_ ?_
    · intro p h2 h3
      generalize fo_f (mj_f σ) (mb_lo st) (p - mb_lo st) 0 = n
      intro kk
      refine jx_iload_n k dM_unreadable_22 rfl ?_
      refine jx_iload_n k dM_unreadable_23 rfl ?_
      refine jx_callSP k mM_116 (q_end _ _ _ _ _ st) dM_unreadable_24 rfl rfl rfl (Nat.le_of_ble_eq_true rfl) ⟨Nat.le_of_ble_eq_true rfl, Nat.le_of_ble_eq_true rfl⟩ ⟨Nat.le_of_ble_eq_true rfl, Nat.le_of_ble_eq_true rfl⟩ ?_
      refine jx_icmp_ge k dM_unreadable_27 (tgt := 61) rfl (fun hh => absurd hh (nI_ge h3 (by omega))) (fun _ => ?_)
      refine jx_aload_n k dM_unreadable_30 rfl ?_
      refine rm_get k fM_28 dM_unreadable_31 rfl ?_
      refine jx_iload_n k dM_unreadable_34 rfl ?_
      refine rm_ild k dM_unreadable_35 (by decide) rfl (p := p) rfl (by omega) (by decide) ?_
      refine jx_if_lt k dM_unreadable_36 (tgt := 53) rfl (fun h4 => ?_) (fun h4 => ?_)
      · rw [mj_f, if_neg (fun h => absurd h.1 (Int32.not_le.mpr h4))] at kk
        refine jx_iload_n k dM_unreadable_53 rfl ?_
        refine jx_istore_n k dM_unreadable_54 (Nat.le_of_ble_eq_true rfl) rfl (L' := [_, _, _, _]) rfl ?_
        refine jx_iinc k dM_unreadable_55 rfl (nI_1 p) rfl (L' := [_, _, _, _]) rfl ?_
        refine jx_goto k dM_unreadable_58 (tgt := 22) rfl ?_
        exact kk
      · refine jx_aload_n k dM_unreadable_39 rfl ?_
        refine jx_iload_n k dM_unreadable_40 rfl ?_
        refine jx_callVP k mM_163 (q_isReadable _ _ _ _ _ _ (rs_f σ 0 0) p (by omega)) rm_a0 rfl dM_unreadable_41 rfl rfl rfl (Nat.le_of_ble_eq_true rfl) ⟨Nat.le_of_ble_eq_true rfl, Nat.le_of_ble_eq_true rfl⟩ ⟨Nat.le_of_ble_eq_true rfl, Nat.le_of_ble_eq_true rfl⟩ ?_
        refine jx_if_ne k dM_unreadable_44 (tgt := 53) rfl (fun h5 => ?_) (fun h5 => ?_)
        · rw [mj_f, if_neg (fun h => h5 (jb_f h.2))] at kk
          refine jx_iload_n k dM_unreadable_53 rfl ?_
          refine jx_istore_n k dM_unreadable_54 (Nat.le_of_ble_eq_true rfl) rfl (L' := [_, _, _, _]) rfl ?_
          refine jx_iinc k dM_unreadable_55 rfl (nI_1 p) rfl (L' := [_, _, _, _]) rfl ?_
          refine jx_goto k dM_unreadable_58 (tgt := 22) rfl ?_
          exact kk
        · rw [mj_f, if_pos ⟨Int32.not_lt.mp h4, jb_e0.mp h5⟩] at kk
          refine jx_iload_n k dM_unreadable_47 rfl ?_
          refine jx_iconst k dM_unreadable_48 (v := 1) (by decide) ?_
          refine jx_iadd k dM_unreadable_49 ?_
          rw [nI_1]
          refine jx_goto k dM_unreadable_50 (tgt := 54) rfl ?_
          refine jx_istore_n k dM_unreadable_54 (Nat.le_of_ble_eq_true rfl) rfl (L' := [_, _, _, _]) rfl ?_
          refine jx_iinc k dM_unreadable_55 rfl (nI_1 p) rfl (L' := [_, _, _, _]) rfl ?_
          refine jx_goto k dM_unreadable_58 (tgt := 22) rfl ?_
          exact kk
    · refine jx_iload_n k dM_unreadable_22 rfl ?_
      refine jx_iload_n k dM_unreadable_23 rfl ?_
      refine jx_callSP k mM_116 (q_end _ _ _ _ _ st) dM_unreadable_24 rfl rfl rfl (Nat.le_of_ble_eq_true rfl) ⟨Nat.le_of_ble_eq_true rfl, Nat.le_of_ble_eq_true rfl⟩ ⟨Nat.le_of_ble_eq_true rfl, Nat.le_of_ble_eq_true rfl⟩ ?_
      refine jx_icmp_ge k dM_unreadable_27 (tgt := 61) rfl (fun _ => ?_) (fun hh => absurd (nI_le (Nat.le_refl _) (by omega)) hh)
      refine jx_iload_n k dM_unreadable_61 rfl ?_
      exact jx_iret k dM_unreadable_62 (Nat.le_refl _) (Nat.le_refl _) ⟨by rw [ms_unreadable, if_pos g1]; rfl, rfl, rfl⟩
  · refine jx_iconst k dM_unreadable_13 (v := (-1)) (by decide) ?_
    exact jx_iret k dM_unreadable_14 (Nat.le_refl _) (Nat.le_refl _) ⟨by rw [ms_unreadable, if_neg (jb_e0.mp h1)], rfl, rfl⟩
