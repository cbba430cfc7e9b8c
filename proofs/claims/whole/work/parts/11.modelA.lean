set_option maxRecDepth 100000 in
theorem q_isIn (l : Launch) (E : jx_E) (b : Nat) (G : jx_H) (sz : Nat) (v e : Int32) : jx_ct l E b yM_isIn cM_isIn 2 (some .boolean) 0 0 0 [.int v, .int e] G sz (jx_pu (.int (jb_z (0 ≤ v ∧ v < e))) G sz) := by
  refine jx_met (by decide) (Nat.le_of_ble_eq_true rfl) (L0 := [_, _]) rfl (fun X k => ?_)
  refine jx_iload_n k dM_isIn_0 rfl ?_
  refine jx_if_lt k dM_isIn_1 (tgt := 13) rfl (fun h1 => ?_) (fun h1 => ?_)
  · refine jx_iconst k dM_isIn_13 (v := 0) (by decide) ?_
    refine jx_zret k dM_isIn_14 rfl (Nat.le_refl _) (Nat.le_refl _) ⟨?_, rfl, rfl⟩
    rw [jb_f (fun h => absurd h1 (Int32.not_lt.mpr h.1))]
  · refine jx_iload_n k dM_isIn_4 rfl ?_
    refine jx_iload_n k dM_isIn_5 rfl ?_
    refine jx_icmp_ge k dM_isIn_6 (tgt := 13) rfl (fun h2 => ?_) (fun h2 => ?_)
    · refine jx_iconst k dM_isIn_13 (v := 0) (by decide) ?_
      refine jx_zret k dM_isIn_14 rfl (Nat.le_refl _) (Nat.le_refl _) ⟨?_, rfl, rfl⟩
      rw [jb_f (fun h => absurd h.2 (Int32.not_lt.mpr h2))]
    · refine jx_iconst k dM_isIn_9 (v := 1) (by decide) ?_
      refine jx_goto k dM_isIn_10 (tgt := 14) rfl ?_
      refine jx_zret k dM_isIn_14 rfl (Nat.le_refl _) (Nat.le_refl _) ⟨?_, rfl, rfl⟩
      rw [jb_t ⟨Int32.not_lt.mp h1, Int32.not_le.mp h2⟩]
def mb_lo (st : Int32) : Nat := if st = 0 then 0 else if st = 1 then 40 else 60
def mb_hi (st : Int32) : Nat := if st = 0 then 40 else if st = 1 then 60 else 70
theorem mb_le (st : Int32) : mb_lo st ≤ mb_hi st ∧ mb_hi st ≤ 70 := by
  unfold mb_lo mb_hi
  split
  · exact ⟨by decide, by decide⟩
  · split <;> exact ⟨by decide, by decide⟩
set_option maxRecDepth 100000 in
theorem q_base (l : Launch) (E : jx_E) (b : Nat) (G : jx_H) (sz : Nat) (st : Int32) : jx_ct l E b yM_base cM_base 1 (some .int) 0 0 0 [.int st] G sz (jx_pu (.int (nI (mb_lo st))) G sz) := by
  refine jx_met (by decide) (Nat.le_of_ble_eq_true rfl) (L0 := [_]) rfl (fun X k => ?_)
  refine jx_iload_n k dM_base_0 rfl ?_
  refine jx_if_ne k dM_base_1 (tgt := 8) rfl (fun h1 => ?_) (fun h1 => ?_)
  · refine jx_iload_n k dM_base_8 rfl ?_
    refine jx_iconst k dM_base_9 (v := 1) (by decide) ?_
    refine jx_icmp_ne k dM_base_10 (tgt := 18) rfl (fun h2 => ?_) (fun h2 => ?_)
    · refine jx_bipush k dM_base_18 (v := 60) (by decide) ?_
      exact jx_iret k dM_base_20 (Nat.le_refl _) (Nat.le_refl _) ⟨by rw [mb_lo, if_neg h1, if_neg h2]; rfl, rfl, rfl⟩
    · refine jx_bipush k dM_base_13 (v := 40) (by decide) ?_
      refine jx_goto k dM_base_15 (tgt := 20) rfl ?_
      exact jx_iret k dM_base_20 (Nat.le_refl _) (Nat.le_refl _) ⟨by rw [mb_lo, if_neg h1, if_pos h2]; rfl, rfl, rfl⟩
  · refine jx_iconst k dM_base_4 (v := 0) (by decide) ?_
    refine jx_goto k dM_base_5 (tgt := 20) rfl ?_
    exact jx_iret k dM_base_20 (Nat.le_refl _) (Nat.le_refl _) ⟨by rw [mb_lo, if_pos h1]; rfl, rfl, rfl⟩
set_option maxRecDepth 100000 in
theorem q_end (l : Launch) (E : jx_E) (b : Nat) (G : jx_H) (sz : Nat) (st : Int32) : jx_ct l E b yM_end cM_end 1 (some .int) 0 0 0 [.int st] G sz (jx_pu (.int (nI (mb_hi st))) G sz) := by
  refine jx_met (by decide) (Nat.le_of_ble_eq_true rfl) (L0 := [_]) rfl (fun X k => ?_)
  refine jx_iload_n k dM_end_0 rfl ?_
  refine jx_if_ne k dM_end_1 (tgt := 9) rfl (fun h1 => ?_) (fun h1 => ?_)
  · refine jx_iload_n k dM_end_9 rfl ?_
    refine jx_iconst k dM_end_10 (v := 1) (by decide) ?_
    refine jx_icmp_ne k dM_end_11 (tgt := 19) rfl (fun h2 => ?_) (fun h2 => ?_)
    · refine jx_bipush k dM_end_19 (v := 70) (by decide) ?_
      exact jx_iret k dM_end_21 (Nat.le_refl _) (Nat.le_refl _) ⟨by rw [mb_hi, if_neg h1, if_neg h2]; rfl, rfl, rfl⟩
    · refine jx_bipush k dM_end_14 (v := 60) (by decide) ?_
      refine jx_goto k dM_end_16 (tgt := 21) rfl ?_
      exact jx_iret k dM_end_21 (Nat.le_refl _) (Nat.le_refl _) ⟨by rw [mb_hi, if_neg h1, if_pos h2]; rfl, rfl, rfl⟩
  · refine jx_bipush k dM_end_4 (v := 40) (by decide) ?_
    refine jx_goto k dM_end_6 (tgt := 21) rfl ?_
    exact jx_iret k dM_end_21 (Nat.le_refl _) (Nat.le_refl _) ⟨by rw [mb_hi, if_pos h1]; rfl, rfl, rfl⟩
/-- free pages of a store -/
def mf_fp (σ : rs_S) (st : Int32) : Nat := fo_f (fun p n => if σ.2.1 2 p = 0 then n + 1 else n) (mb_lo st) (mb_hi st - mb_lo st) 0
set_option maxRecDepth 100000 in
set_option maxHeartbeats 4000000 in
theorem q_freePages (l : Launch) (E : jx_E) (b : Nat) (G0 : jx_H) (sz mb : Nat) (σ : rs_S) (st : Int32) : jx_ct l E b yM_freePages cM_freePages 4 (some .int) 1 0 0 [.ref mb, .int st] (rm_G E mb σ G0) sz (jx_pu (.int (nI (mf_fp σ st))) (rm_G E mb σ G0) sz) := by
  refine jx_met (by decide) (Nat.le_of_ble_eq_true rfl) (L0 := [_, _, _, _]) rfl (fun X k => ?_)
  have hb := mb_le st
  refine jx_iconst k dM_freePages_0 (v := 0) (by decide) ?_
  refine jx_istore_n k dM_freePages_1 (Nat.le_of_ble_eq_true rfl) rfl (L' := [_, _, _, _]) rfl ?_
  refine jx_iload_n k dM_freePages_2 rfl ?_
  refine jx_callSP k mM_112 (q_base _ _ _ _ _ st) dM_freePages_3 rfl rfl rfl (Nat.le_of_ble_eq_true rfl) ⟨Nat.le_of_ble_eq_true rfl, Nat.le_of_ble_eq_true rfl⟩ ⟨Nat.le_of_ble_eq_true rfl, Nat.le_of_ble_eq_true rfl⟩ ?_
  refine jx_istore_n k dM_freePages_6 (Nat.le_of_ble_eq_true rfl) rfl (L' := [_, _, _, _]) rfl ?_
  refine fo_l (fun p n => jx_w X E b (jx_fin X E b (jx_pu (.int (nI (mf_fp σ st))) (rm_G E mb σ G0) sz) 0 0) 7 [some (.ref mb), some (.int st), some (.int (nI n)), some (.int (nI p))] [] (rm_G E mb σ G0) sz 0 0) (fun p n => if σ.2.1 2 p = 0 then n + 1 else n) hb.1 0 ?_ ?_
  · intro p h1 h2
    generalize fo_f (fun p n => if σ.2.1 2 p = 0 then n + 1 else n) (mb_lo st) (p - mb_lo st) 0 = n
    intro kk
    refine jx_iload_n k dM_freePages_7 rfl ?_
    refine jx_iload_n k dM_freePages_8 rfl ?_
    refine jx_callSP k mM_116 (q_end _ _ _ _ _ st) dM_freePages_9 rfl rfl rfl (Nat.le_of_ble_eq_true rfl) ⟨Nat.le_of_ble_eq_true rfl, Nat.le_of_ble_eq_true rfl⟩ ⟨Nat.le_of_ble_eq_true rfl, Nat.le_of_ble_eq_true rfl⟩ ?_
    refine jx_icmp_ge k dM_freePages_12 (tgt := 38) rfl (fun hh => absurd hh (nI_ge h2 (by omega))) (fun _ => ?_)
    refine jx_aload_n k dM_freePages_15 rfl ?_
    refine rm_get k fM_21 dM_freePages_16 rfl ?_
    refine jx_iload_n k dM_freePages_19 rfl ?_
    refine rm_ild k dM_freePages_20 (by decide) rfl (p := p) rfl (by omega) (by decide) ?_
    refine jx_if_ne k dM_freePages_21 (tgt := 30) rfl (fun h3 => ?_) (fun h3 => ?_)
    · rw [if_neg h3] at kk
      refine jx_iload_n k dM_freePages_30 rfl ?_
      refine jx_istore_n k dM_freePages_31 (Nat.le_of_ble_eq_true rfl) rfl (L' := [_, _, _, _]) rfl ?_
      refine jx_iinc k dM_freePages_32 rfl (nI_1 p) rfl (L' := [_, _, _, _]) rfl ?_
      refine jx_goto k dM_freePages_35 (tgt := 7) rfl ?_
      exact kk
    · rw [if_pos h3] at kk
      refine jx_iload_n k dM_freePages_24 rfl ?_
      refine jx_iconst k dM_freePages_25 (v := 1) (by decide) ?_
      refine jx_iadd k dM_freePages_26 ?_
      rw [nI_1]
      refine jx_goto k dM_freePages_27 (tgt := 31) rfl ?_
      refine jx_istore_n k dM_freePages_31 (Nat.le_of_ble_eq_true rfl) rfl (L' := [_, _, _, _]) rfl ?_
      refine jx_iinc k dM_freePages_32 rfl (nI_1 p) rfl (L' := [_, _, _, _]) rfl ?_
      refine jx_goto k dM_freePages_35 (tgt := 7) rfl ?_
      exact kk
  · refine jx_iload_n k dM_freePages_7 rfl ?_
    refine jx_iload_n k dM_freePages_8 rfl ?_
    refine jx_callSP k mM_116 (q_end _ _ _ _ _ st) dM_freePages_9 rfl rfl rfl (Nat.le_of_ble_eq_true rfl) ⟨Nat.le_of_ble_eq_true rfl, Nat.le_of_ble_eq_true rfl⟩ ⟨Nat.le_of_ble_eq_true rfl, Nat.le_of_ble_eq_true rfl⟩ ?_
    refine jx_icmp_ge k dM_freePages_12 (tgt := 38) rfl (fun _ => ?_) (fun hh => absurd (nI_le (Nat.le_refl _) (by omega)) hh)
    refine jx_iload_n k dM_freePages_38 rfl ?_
    exact jx_iret k dM_freePages_39 (Nat.le_refl _) (Nat.le_refl _) ⟨rfl, rfl, rfl⟩
