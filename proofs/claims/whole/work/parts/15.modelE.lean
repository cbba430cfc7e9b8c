/-- the pages of a bundle are freed, and its place -/
def mo_f (o : Nat) (p : Nat) (σ : rs_S) : rs_S := rs_a σ 2 (upd (σ.2.1 2) p (if σ.2.1 2 p = nI (o + 1) then 0 else σ.2.1 2 p))
def mo_t (σ : rs_S) (o : Nat) : rs_S := rs_a (fo_f (mo_f o) 0 70 σ) 4 (upd ((fo_f (mo_f o) 0 70 σ).2.1 4) o (-1))
set_option maxRecDepth 100000 in
set_option maxHeartbeats 4000000 in
theorem q_takeOut (l : Launch) (E : jx_E) (b : Nat) (G0 : jx_H) (sz mb : Nat) (σ : rs_S) (o : Nat) (ho : o < 72) : jx_ct l E b yM_takeOut cM_takeOut 3 none 0 0 0 [.ref mb, .int (nI o)] (rm_G E mb σ G0) sz (rm_n E mb G0 sz (mo_t σ o)) := by
  refine jx_met (by decide) (Nat.le_of_ble_eq_true rfl) (L0 := [_, _, _]) rfl (fun X k => ?_)
  refine jx_iconst k dM_takeOut_0 (v := 0) (by decide) ?_
  refine jx_istore_n k dM_takeOut_1 (Nat.le_of_ble_eq_true rfl) rfl (L' := [_, _, _]) rfl ?_
  refine fo_l (fun p τ => jx_w X E b (jx_fin X E b (rm_n E mb G0 sz (mo_t σ o)) 0 0) 2 [some (.ref mb), some (.int (nI o)), some (.int (nI p))] [] (rm_G E mb τ G0) sz 0 0) (mo_f o) (lo := 0) (hi := 70) (by decide) σ ?_ ?_
  · intro p h1 h2
    generalize fo_f (mo_f o) 0 (p - 0) σ = τ
    intro kk
    refine jx_iload_n k dM_takeOut_2 rfl ?_
    refine jx_bipush k dM_takeOut_3 (v := 70) (by decide) ?_
    refine jx_icmp_ge k dM_takeOut_5 (tgt := 42) rfl (fun hh => absurd hh (nI_ge (b := 70) h2 (by decide))) (fun _ => ?_)
    refine jx_aload_n k dM_takeOut_8 rfl ?_
    refine rm_get k fM_21 dM_takeOut_9 rfl ?_
    refine jx_iload_n k dM_takeOut_12 rfl ?_
    refine jx_aload_n k dM_takeOut_13 rfl ?_
    refine rm_get k fM_21 dM_takeOut_14 rfl ?_
    refine jx_iload_n k dM_takeOut_17 rfl ?_
    refine rm_ild k dM_takeOut_18 (by decide) rfl (p := p) rfl (by omega) (by decide) ?_
    refine jx_iload_n k dM_takeOut_19 rfl ?_
    refine jx_iconst k dM_takeOut_20 (v := 1) (by decide) ?_
    refine jx_iadd k dM_takeOut_21 ?_
    rw [nI_1]
    refine jx_icmp_ne k dM_takeOut_22 (tgt := 29) rfl (fun h3 => ?_) (fun h3 => ?_)
    · rw [mo_f, if_neg h3] at kk
      refine jx_aload_n k dM_takeOut_29 rfl ?_
      refine rm_get k fM_21 dM_takeOut_30 rfl ?_
      refine jx_iload_n k dM_takeOut_33 rfl ?_
      refine rm_ild k dM_takeOut_34 (by decide) rfl (p := p) rfl (by omega) (by decide) ?_
      refine rm_ist k dM_takeOut_35 (by decide) (fun _ => rfl) (p := p) rfl (by omega) (by decide) ?_
      refine jx_iinc k dM_takeOut_36 rfl (nI_1 p) rfl (L' := [_, _, _]) rfl ?_
      refine jx_goto k dM_takeOut_39 (tgt := 2) rfl ?_
      exact kk
    · rw [mo_f, if_pos h3] at kk
      refine jx_iconst k dM_takeOut_25 (v := 0) (by decide) ?_
      refine jx_goto k dM_takeOut_26 (tgt := 35) rfl ?_
      refine rm_ist k dM_takeOut_35 (by decide) (fun _ => rfl) (p := p) rfl (by omega) (by decide) ?_
      refine jx_iinc k dM_takeOut_36 rfl (nI_1 p) rfl (L' := [_, _, _]) rfl ?_
      refine jx_goto k dM_takeOut_39 (tgt := 2) rfl ?_
      exact kk
  · refine jx_iload_n k dM_takeOut_2 rfl ?_
    refine jx_bipush k dM_takeOut_3 (v := 70) (by decide) ?_
    refine jx_icmp_ge k dM_takeOut_5 (tgt := 42) rfl (fun _ => ?_) (fun hh => absurd (nI_le (a := 70) (b := 70) (by decide) (by decide)) hh)
    refine jx_aload_n k dM_takeOut_42 rfl ?_
    refine rm_get k fM_28 dM_takeOut_43 rfl ?_
    refine jx_iload_n k dM_takeOut_46 rfl ?_
    refine jx_iconst k dM_takeOut_47 (v := (-1)) (by decide) ?_
    refine rm_ist k dM_takeOut_48 (by decide) (fun _ => rfl) (p := o) rfl (by omega) (by decide) ?_
    exact jx_vret k dM_takeOut_49 (Nat.le_refl _) (Nat.le_refl _) ⟨rfl, rfl, rfl⟩
/-- what is under way is cleared -/
def mc_h (σ : rs_S) : rs_S := rs_a (rs_a (rs_a (rs_a σ 6 (upd (σ.2.1 6) 70 0)) 11 (upd (σ.2.1 11) 70 0)) 9 (upd (σ.2.1 9) 140 0)) 9 (upd (upd (σ.2.1 9) 140 0) 141 0)
def mc_z (lo : Nat) (k : Nat) (p : Nat) (σ : rs_S) : rs_S := rs_a σ k (upd (σ.2.1 k) (lo + p) 0)
def mc_l (σ : rs_S) : rs_S := fo_f (mc_z 560 10) 0 8 (mc_h σ)
set_option maxRecDepth 100000 in
set_option maxHeartbeats 4000000 in
theorem q_clear (l : Launch) (E : jx_E) (b : Nat) (G0 : jx_H) (sz mb : Nat) (σ : rs_S) : jx_ct l E b yM_clear cM_clear 2 none 0 0 0 [.ref mb] (rm_G E mb σ G0) sz (rm_n E mb G0 sz (mc_l σ)) := by
  refine jx_met (by decide) (Nat.le_of_ble_eq_true rfl) (L0 := [_, _]) rfl (fun X k => ?_)
  refine jx_aload_n k dM_clear_0 rfl ?_
  refine rm_get k fM_34 dM_clear_1 rfl ?_
  refine jx_bipush k dM_clear_4 (v := 70) (by decide) ?_
  refine jx_iconst k dM_clear_6 (v := 0) (by decide) ?_
  refine rm_ist k dM_clear_7 (by decide) (fun _ => rfl) (p := 70) rfl (by omega) (by decide) ?_
  refine jx_aload_n k dM_clear_8 rfl ?_
  refine rm_get k fM_50 dM_clear_9 rfl ?_
  refine jx_bipush k dM_clear_12 (v := 70) (by decide) ?_
  refine jx_iconst k dM_clear_14 (v := 0) (by decide) ?_
  refine rm_zst k dM_clear_15 (by decide) (fun _ => rfl) (p := 70) rfl (by omega) (by decide) rfl ?_
  refine jx_aload_n k dM_clear_16 rfl ?_
  refine rm_get k fM_44 dM_clear_17 rfl ?_
  refine jx_sipush k dM_clear_20 (v := 140) (by decide) ?_
  refine jx_iconst k dM_clear_23 (v := 0) (by decide) ?_
  refine rm_zst k dM_clear_24 (by decide) (fun _ => rfl) (p := 140) rfl (by omega) (by decide) rfl ?_
  refine jx_aload_n k dM_clear_25 rfl ?_
  refine rm_get k fM_44 dM_clear_26 rfl ?_
  refine jx_sipush k dM_clear_29 (v := 141) (by decide) ?_
  refine jx_iconst k dM_clear_32 (v := 0) (by decide) ?_
  refine rm_zst k dM_clear_33 (by decide) (fun _ => rfl) (p := 141) rfl (by omega) (by decide) rfl ?_
  refine jx_iconst k dM_clear_34 (v := 0) (by decide) ?_
  refine jx_istore_n k dM_clear_35 (Nat.le_of_ble_eq_true rfl) rfl (L' := [_, _]) rfl ?_
  refine fo_l (fun p τ => jx_w X E b (jx_fin X E b (rm_n E mb G0 sz (mc_l σ)) 0 0) 36 [some (.ref mb), some (.int (nI p))] [] (rm_G E mb τ G0) sz 0 0) (mc_z 560 10) (lo := 0) (hi := 8) (by decide) (mc_h σ) ?_ ?_
  · intro p h1 h2
    generalize fo_f (mc_z 560 10) 0 (p - 0) (mc_h σ) = τ
    intro kk
    refine jx_iload_n k dM_clear_36 rfl ?_
    refine jx_bipush k dM_clear_37 (v := 8) (by decide) ?_
    refine jx_icmp_ge k dM_clear_39 (tgt := 59) rfl (fun hh => absurd hh (nI_ge (b := 8) h2 (by decide))) (fun _ => ?_)
    refine jx_aload_n k dM_clear_42 rfl ?_
    refine rm_get k fM_47 dM_clear_43 rfl ?_
    refine jx_sipush k dM_clear_46 (v := 560) (by decide) ?_
    refine jx_iload_n k dM_clear_49 rfl ?_
    refine jx_iadd k dM_clear_50 ?_
    refine jx_iconst k dM_clear_51 (v := 0) (by decide) ?_
    refine rm_ist k dM_clear_52 (by decide) (fun _ => rfl) (p := 560 + p) (nI_add 560 p) (by omega) (by decide) ?_
    refine jx_iinc k dM_clear_53 rfl (nI_1 p) rfl (L' := [_, _]) rfl ?_
    refine jx_goto k dM_clear_56 (tgt := 36) rfl ?_
    exact kk
  · refine jx_iload_n k dM_clear_36 rfl ?_
    refine jx_bipush k dM_clear_37 (v := 8) (by decide) ?_
    refine jx_icmp_ge k dM_clear_39 (tgt := 59) rfl (fun _ => ?_) (fun hh => absurd (nI_le (a := 8) (b := 8) (by decide) (by decide)) hh)
    exact jx_vret k dM_clear_59 (Nat.le_refl _) (Nat.le_refl _) ⟨rfl, rfl, rfl⟩
/-- what goes with the power -/
def ml_h (σ : rs_S) : rs_S := mc_l (rs_f (rs_f σ 2 0) 3 (-1))
def ml_g (σ : rs_S) : rs_S := rs_f (rs_a (ml_h σ) 14 (upd ((ml_h σ).2.1 14) 70 0)) 4 (-1)
def ml_l (σ : rs_S) : rs_S := fo_f (mc_z 0 15) 0 8 (ml_g σ)
set_option maxRecDepth 100000 in
set_option maxHeartbeats 4000000 in
theorem q_lose (l : Launch) (E : jx_E) (b : Nat) (G0 : jx_H) (sz mb : Nat) (σ : rs_S) : jx_ct l E b yM_lose cM_lose 2 none 1 0 0 [.ref mb] (rm_G E mb σ G0) sz (rm_n E mb G0 sz (ml_l σ)) := by
  refine jx_met (by decide) (Nat.le_of_ble_eq_true rfl) (L0 := [_, _]) rfl (fun X k => ?_)
  refine jx_aload_n k dM_lose_0 rfl ?_
  refine jx_iconst k dM_lose_1 (v := 0) (by decide) ?_
  refine rm_put k (j := 2) fM_7 dM_lose_2 rfl rfl (Nat.le_of_ble_eq_true rfl) rfl ?_
  refine jx_aload_n k dM_lose_5 rfl ?_
  refine jx_iconst k dM_lose_6 (v := (-1)) (by decide) ?_
  refine rm_put k (j := 3) fM_13 dM_lose_7 rfl rfl (Nat.le_of_ble_eq_true rfl) rfl ?_
  refine jx_aload_n k dM_lose_10 rfl ?_
  refine jx_callV0 k mM_137 (q_clear _ _ _ _ _ _ (rs_f (rs_f σ 2 0) 3 (-1))) rm_a0 rfl dM_lose_11 rfl rfl rfl (Nat.le_of_ble_eq_true rfl) ⟨Nat.le_of_ble_eq_true rfl, Nat.le_of_ble_eq_true rfl⟩ ⟨Nat.le_of_ble_eq_true rfl, Nat.le_of_ble_eq_true rfl⟩ ?_
  refine jx_aload_n k dM_lose_14 rfl ?_
  refine rm_get k fM_59 dM_lose_15 rfl ?_
  refine jx_bipush k dM_lose_18 (v := 70) (by decide) ?_
  refine jx_iconst k dM_lose_20 (v := 0) (by decide) ?_
  refine rm_ist k dM_lose_21 (by decide) (fun _ => rfl) (p := 70) rfl (by omega) (by decide) ?_
  refine jx_aload_n k dM_lose_22 rfl ?_
  refine jx_iconst k dM_lose_23 (v := (-1)) (by decide) ?_
  refine rm_put k (j := 4) fM_68 dM_lose_24 rfl rfl (Nat.le_of_ble_eq_true rfl) rfl ?_
  refine jx_iconst k dM_lose_27 (v := 0) (by decide) ?_
  refine jx_istore_n k dM_lose_28 (Nat.le_of_ble_eq_true rfl) rfl (L' := [_, _]) rfl ?_
  refine fo_l (fun p τ => jx_w X E b (jx_fin X E b (rm_n E mb G0 sz (ml_l σ)) 0 0) 29 [some (.ref mb), some (.int (nI p))] [] (rm_G E mb τ G0) sz 0 0) (mc_z 0 15) (lo := 0) (hi := 8) (by decide) (ml_g σ) ?_ ?_
  · intro p h1 h2
    generalize fo_f (mc_z 0 15) 0 (p - 0) (ml_g σ) = τ
    intro kk
    rw [mc_z, Nat.zero_add] at kk
    refine jx_iload_n k dM_lose_29 rfl ?_
    refine jx_bipush k dM_lose_30 (v := 8) (by decide) ?_
    refine jx_icmp_ge k dM_lose_32 (tgt := 48) rfl (fun hh => absurd hh (nI_ge (b := 8) h2 (by decide))) (fun _ => ?_)
    refine jx_aload_n k dM_lose_35 rfl ?_
    refine rm_get k fM_62 dM_lose_36 rfl ?_
    refine jx_iload_n k dM_lose_39 rfl ?_
    refine jx_iconst k dM_lose_40 (v := 0) (by decide) ?_
    refine rm_ist k dM_lose_41 (by decide) (fun _ => rfl) (p := p) rfl (by omega) (by decide) ?_
    refine jx_iinc k dM_lose_42 rfl (nI_1 p) rfl (L' := [_, _]) rfl ?_
    refine jx_goto k dM_lose_45 (tgt := 29) rfl ?_
    exact kk
  · refine jx_iload_n k dM_lose_29 rfl ?_
    refine jx_bipush k dM_lose_30 (v := 8) (by decide) ?_
    refine jx_icmp_ge k dM_lose_32 (tgt := 48) rfl (fun _ => ?_) (fun hh => absurd (nI_le (a := 8) (b := 8) (by decide) (by decide)) hh)
    exact jx_vret k dM_lose_48 (Nat.le_refl _) (Nat.le_refl _) ⟨rfl, rfl, rfl⟩
/-- a bundle's data go to another place -/
def my_a (σ : rs_S) (k fr to : Nat) : rs_S := rs_a σ k (upd (σ.2.1 k) to (σ.2.1 k fr))
def my_h (σ : rs_S) (fr to : Nat) : rs_S := my_a (my_a (my_a (my_a (my_a (my_a σ 4 fr to) 5 fr to) 6 fr to) 11 fr to) 12 fr to) 14 fr to
def my_8 (fr to : Nat) (p : Nat) (σ : rs_S) : rs_S := my_a (my_a σ 13 (8 * fr + p) (8 * to + p)) 10 (8 * fr + p) (8 * to + p)
def my_4 (fr to : Nat) (p : Nat) (σ : rs_S) : rs_S := rs_t (my_a σ 7 (4 * fr + p) (4 * to + p)) (vp_updL σ.2.2 (4 * to + p) (σ.2.2 (4 * fr + p)))
def my_m (σ : rs_S) (fr to : Nat) : rs_S := fo_f (my_4 fr to) 0 4 (fo_f (my_8 fr to) 0 8 (my_h σ fr to))
def my_c (σ : rs_S) (fr to : Nat) : rs_S := my_a (my_a (my_m σ fr to) 9 (2 * fr) (2 * to)) 9 (2 * fr + 1) (2 * to + 1)
theorem my_8k (fr to : Nat) : ∀ n σ, (fo_f (my_8 fr to) 0 n σ).2.1 9 = σ.2.1 9 := by
  intro n
  induction n with
  | zero => intro σ; rfl
  | succ n ih => intro σ; rw [fo_s]; exact ih σ
theorem my_4k (fr to : Nat) : ∀ n σ, (fo_f (my_4 fr to) 0 n σ).2.1 9 = σ.2.1 9 := by
  intro n
  induction n with
  | zero => intro σ; rfl
  | succ n ih => intro σ; rw [fo_s]; exact ih σ
theorem my_m9 (σ : rs_S) (fr to : Nat) : (my_m σ fr to).2.1 9 = σ.2.1 9 := by
  rw [my_m, my_4k, my_8k]
  rfl
theorem nI_ml (a b c : Nat) : nI a * nI b + nI c = nI (a * b + c) := by rw [pk_mul, nI_add]
set_option maxRecDepth 100000 in
set_option maxHeartbeats 8000000 in
theorem q_copyBundle (l : Launch) (E : jx_E) (b : Nat) (G0 : jx_H) (sz mb : Nat) (σ : rs_S) (fr to : Nat) (hf : fr < 72) (ht : to < 72) (w11 : ∀ i, σ.2.1 11 i = 0 ∨ σ.2.1 11 i = 1) (w9 : ∀ i, σ.2.1 9 i = 0 ∨ σ.2.1 9 i = 1) : jx_ct l E b yM_copyBundle cM_copyBundle 4 none 0 0 0 [.ref mb, .int (nI fr), .int (nI to)] (rm_G E mb σ G0) sz (rm_n E mb G0 sz (my_c σ fr to)) := by
  refine jx_met (by decide) (Nat.le_of_ble_eq_true rfl) (L0 := [_, _, _, _]) rfl (fun X k => ?_)
  refine jx_aload_n k dM_copyBundle_0 rfl ?_
  refine rm_get k fM_28 dM_copyBundle_1 rfl ?_
  refine jx_iload_n k dM_copyBundle_4 rfl ?_
  refine jx_aload_n k dM_copyBundle_5 rfl ?_
  refine rm_get k fM_28 dM_copyBundle_6 rfl ?_
  refine jx_iload_n k dM_copyBundle_9 rfl ?_
  refine rm_ild k dM_copyBundle_10 (by decide) rfl (p := fr) rfl (by omega) (by decide) ?_
  refine rm_ist k dM_copyBundle_11 (by decide) (fun _ => rfl) (p := to) rfl (by omega) (by decide) ?_
  refine jx_aload_n k dM_copyBundle_12 rfl ?_
  refine rm_get k fM_31 dM_copyBundle_13 rfl ?_
  refine jx_iload_n k dM_copyBundle_16 rfl ?_
  refine jx_aload_n k dM_copyBundle_17 rfl ?_
  refine rm_get k fM_31 dM_copyBundle_18 rfl ?_
  refine jx_iload_n k dM_copyBundle_21 rfl ?_
  refine rm_ild k dM_copyBundle_22 (by decide) rfl (p := fr) rfl (by omega) (by decide) ?_
  refine rm_ist k dM_copyBundle_23 (by decide) (fun _ => rfl) (p := to) rfl (by omega) (by decide) ?_
  refine jx_aload_n k dM_copyBundle_24 rfl ?_
  refine rm_get k fM_34 dM_copyBundle_25 rfl ?_
  refine jx_iload_n k dM_copyBundle_28 rfl ?_
  refine jx_aload_n k dM_copyBundle_29 rfl ?_
  refine rm_get k fM_34 dM_copyBundle_30 rfl ?_
  refine jx_iload_n k dM_copyBundle_33 rfl ?_
  refine rm_ild k dM_copyBundle_34 (by decide) rfl (p := fr) rfl (by omega) (by decide) ?_
  refine rm_ist k dM_copyBundle_35 (by decide) (fun _ => rfl) (p := to) rfl (by omega) (by decide) ?_
  refine jx_aload_n k dM_copyBundle_36 rfl ?_
  refine rm_get k fM_50 dM_copyBundle_37 rfl ?_
  refine jx_iload_n k dM_copyBundle_40 rfl ?_
  refine jx_aload_n k dM_copyBundle_41 rfl ?_
  refine rm_get k fM_50 dM_copyBundle_42 rfl ?_
  refine jx_iload_n k dM_copyBundle_45 rfl ?_
  refine rm_zld k dM_copyBundle_46 (by decide) rfl (p := fr) rfl (by omega) (by decide) ?_
  refine rm_zst k dM_copyBundle_47 (by decide) (fun _ => rfl) (p := to) rfl (by omega) (by decide) (jb_01 (w11 fr)) ?_
  refine jx_aload_n k dM_copyBundle_48 rfl ?_
  refine rm_get k fM_53 dM_copyBundle_49 rfl ?_
  refine jx_iload_n k dM_copyBundle_52 rfl ?_
  refine jx_aload_n k dM_copyBundle_53 rfl ?_
  refine rm_get k fM_53 dM_copyBundle_54 rfl ?_
  refine jx_iload_n k dM_copyBundle_57 rfl ?_
  refine rm_ild k dM_copyBundle_58 (by decide) rfl (p := fr) rfl (by omega) (by decide) ?_
  refine rm_ist k dM_copyBundle_59 (by decide) (fun _ => rfl) (p := to) rfl (by omega) (by decide) ?_
  refine jx_aload_n k dM_copyBundle_60 rfl ?_
  refine rm_get k fM_59 dM_copyBundle_61 rfl ?_
  refine jx_iload_n k dM_copyBundle_64 rfl ?_
  refine jx_aload_n k dM_copyBundle_65 rfl ?_
  refine rm_get k fM_59 dM_copyBundle_66 rfl ?_
  refine jx_iload_n k dM_copyBundle_69 rfl ?_
  refine rm_ild k dM_copyBundle_70 (by decide) rfl (p := fr) rfl (by omega) (by decide) ?_
  refine rm_ist k dM_copyBundle_71 (by decide) (fun _ => rfl) (p := to) rfl (by omega) (by decide) ?_
  refine jx_iconst k dM_copyBundle_72 (v := 0) (by decide) ?_
  refine jx_istore_n k dM_copyBundle_73 (Nat.le_of_ble_eq_true rfl) rfl (L' := [_, _, _, _]) rfl ?_
  refine fo_l (fun p τ => jx_w X E b (jx_fin X E b (rm_n E mb G0 sz (my_c σ fr to)) 0 0) 74 [some (.ref mb), some (.int (nI fr)), some (.int (nI to)), some (.int (nI p))] [] (rm_G E mb τ G0) sz 0 0) (my_8 fr to) (lo := 0) (hi := 8) (by decide) (my_h σ fr to) ?_ ?_
  · intro p h1 h2
    generalize fo_f (my_8 fr to) 0 (p - 0) (my_h σ fr to) = τ
    intro kk
    refine jx_iload_n k dM_copyBundle_74 rfl ?_
    refine jx_bipush k dM_copyBundle_75 (v := 8) (by decide) ?_
    refine jx_icmp_ge k dM_copyBundle_77 (tgt := 130) rfl (fun hh => absurd hh (nI_ge (b := 8) h2 (by decide))) (fun _ => ?_)
    refine jx_aload_n k dM_copyBundle_80 rfl ?_
    refine rm_get k fM_56 dM_copyBundle_81 rfl ?_
    refine jx_bipush k dM_copyBundle_84 (v := 8) (by decide) ?_
    refine jx_iload_n k dM_copyBundle_86 rfl ?_
    refine jx_imul k dM_copyBundle_87 ?_
    refine jx_iload_n k dM_copyBundle_88 rfl ?_
    refine jx_iadd k dM_copyBundle_89 ?_
    refine jx_aload_n k dM_copyBundle_90 rfl ?_
    refine rm_get k fM_56 dM_copyBundle_91 rfl ?_
    refine jx_bipush k dM_copyBundle_94 (v := 8) (by decide) ?_
    refine jx_iload_n k dM_copyBundle_96 rfl ?_
    refine jx_imul k dM_copyBundle_97 ?_
    refine jx_iload_n k dM_copyBundle_98 rfl ?_
    refine jx_iadd k dM_copyBundle_99 ?_
    refine rm_ild k dM_copyBundle_100 (by decide) rfl (p := 8 * fr + p) (nI_ml 8 fr p) (by omega) (by decide) ?_
    refine rm_ist k dM_copyBundle_101 (by decide) (fun _ => rfl) (p := 8 * to + p) (nI_ml 8 to p) (by omega) (by decide) ?_
    refine jx_aload_n k dM_copyBundle_102 rfl ?_
    refine rm_get k fM_47 dM_copyBundle_103 rfl ?_
    refine jx_bipush k dM_copyBundle_106 (v := 8) (by decide) ?_
    refine jx_iload_n k dM_copyBundle_108 rfl ?_
    refine jx_imul k dM_copyBundle_109 ?_
    refine jx_iload_n k dM_copyBundle_110 rfl ?_
    refine jx_iadd k dM_copyBundle_111 ?_
    refine jx_aload_n k dM_copyBundle_112 rfl ?_
    refine rm_get k fM_47 dM_copyBundle_113 rfl ?_
    refine jx_bipush k dM_copyBundle_116 (v := 8) (by decide) ?_
    refine jx_iload_n k dM_copyBundle_118 rfl ?_
    refine jx_imul k dM_copyBundle_119 ?_
    refine jx_iload_n k dM_copyBundle_120 rfl ?_
    refine jx_iadd k dM_copyBundle_121 ?_
    refine rm_ild k dM_copyBundle_122 (by decide) rfl (p := 8 * fr + p) (nI_ml 8 fr p) (by omega) (by decide) ?_
    refine rm_ist k dM_copyBundle_123 (by decide) (fun _ => rfl) (p := 8 * to + p) (nI_ml 8 to p) (by omega) (by decide) ?_
    refine jx_iinc k dM_copyBundle_124 rfl (nI_1 p) rfl (L' := [_, _, _, _]) rfl ?_
    refine jx_goto k dM_copyBundle_127 (tgt := 74) rfl ?_
    exact kk
  · refine jx_iload_n k dM_copyBundle_74 rfl ?_
    refine jx_bipush k dM_copyBundle_75 (v := 8) (by decide) ?_
    refine jx_icmp_ge k dM_copyBundle_77 (tgt := 130) rfl (fun _ => ?_) (fun hh => absurd (nI_le (a := 8) (b := 8) (by decide) (by decide)) hh)
    refine jx_iconst k dM_copyBundle_130 (v := 0) (by decide) ?_
    refine jx_istore_n k dM_copyBundle_131 (Nat.le_of_ble_eq_true rfl) rfl (L' := [_, _, _, _]) rfl ?_
    generalize hτ0 : fo_f (my_8 fr to) 0 (8 - 0) (my_h σ fr to) = τ0
    refine fo_l (fun p τ => jx_w X E b (jx_fin X E b (rm_n E mb G0 sz (my_c σ fr to)) 0 0) 132 [some (.ref mb), some (.int (nI fr)), some (.int (nI to)), some (.int (nI p))] [] (rm_G E mb τ G0) sz 0 0) (my_4 fr to) (lo := 0) (hi := 4) (by decide) τ0 ?_ ?_
    · intro p h1 h2
      generalize fo_f (my_4 fr to) 0 (p - 0) τ0 = τ
      intro kk
      refine jx_iload_n k dM_copyBundle_132 rfl ?_
      refine jx_iconst k dM_copyBundle_133 (v := 4) (by decide) ?_
      refine jx_icmp_ge k dM_copyBundle_134 (tgt := 183) rfl (fun hh => absurd hh (nI_ge (b := 4) h2 (by decide))) (fun _ => ?_)
      refine jx_aload_n k dM_copyBundle_137 rfl ?_
      refine rm_get k fM_37 dM_copyBundle_138 rfl ?_
      refine jx_iconst k dM_copyBundle_141 (v := 4) (by decide) ?_
      refine jx_iload_n k dM_copyBundle_142 rfl ?_
      refine jx_imul k dM_copyBundle_143 ?_
      refine jx_iload_n k dM_copyBundle_144 rfl ?_
      refine jx_iadd k dM_copyBundle_145 ?_
      refine jx_aload_n k dM_copyBundle_146 rfl ?_
      refine rm_get k fM_37 dM_copyBundle_147 rfl ?_
      refine jx_iconst k dM_copyBundle_150 (v := 4) (by decide) ?_
      refine jx_iload_n k dM_copyBundle_151 rfl ?_
      refine jx_imul k dM_copyBundle_152 ?_
      refine jx_iload_n k dM_copyBundle_153 rfl ?_
      refine jx_iadd k dM_copyBundle_154 ?_
      refine rm_ild k dM_copyBundle_155 (by decide) rfl (p := 4 * fr + p) (nI_ml 4 fr p) (by omega) (by decide) ?_
      refine rm_ist k dM_copyBundle_156 (by decide) (fun _ => rfl) (p := 4 * to + p) (nI_ml 4 to p) (by omega) (by decide) ?_
      refine jx_aload_n k dM_copyBundle_157 rfl ?_
      refine rm_get k fM_40 dM_copyBundle_158 rfl ?_
      refine jx_iconst k dM_copyBundle_161 (v := 4) (by decide) ?_
      refine jx_iload_n k dM_copyBundle_162 rfl ?_
      refine jx_imul k dM_copyBundle_163 ?_
      refine jx_iload_n k dM_copyBundle_164 rfl ?_
      refine jx_iadd k dM_copyBundle_165 ?_
      refine jx_aload_n k dM_copyBundle_166 rfl ?_
      refine rm_get k fM_40 dM_copyBundle_167 rfl ?_
      refine jx_iconst k dM_copyBundle_170 (v := 4) (by decide) ?_
      refine jx_iload_n k dM_copyBundle_171 rfl ?_
      refine jx_imul k dM_copyBundle_172 ?_
      refine jx_iload_n k dM_copyBundle_173 rfl ?_
      refine jx_iadd k dM_copyBundle_174 ?_
      refine rm_lld k dM_copyBundle_175 (by decide) rfl (p := 4 * fr + p) (nI_ml 4 fr p) (by omega) (by decide) ?_
      refine rm_lst k dM_copyBundle_176 (by decide) rfl (p := 4 * to + p) (nI_ml 4 to p) (by omega) (by decide) ?_
      refine jx_iinc k dM_copyBundle_177 rfl (nI_1 p) rfl (L' := [_, _, _, _]) rfl ?_
      refine jx_goto k dM_copyBundle_180 (tgt := 132) rfl ?_
      exact kk
    · have hm : fo_f (my_4 fr to) 0 (4 - 0) τ0 = my_m σ fr to := by rw [← hτ0]; rfl
      rw [hm]
      have e9 : (my_m σ fr to).2.1 9 = σ.2.1 9 := my_m9 σ fr to
      refine jx_iload_n k dM_copyBundle_132 rfl ?_
      refine jx_iconst k dM_copyBundle_133 (v := 4) (by decide) ?_
      refine jx_icmp_ge k dM_copyBundle_134 (tgt := 183) rfl (fun _ => ?_) (fun hh => absurd (nI_le (a := 4) (b := 4) (by decide) (by decide)) hh)
      refine jx_aload_n k dM_copyBundle_183 rfl ?_
      refine rm_get k fM_44 dM_copyBundle_184 rfl ?_
      refine jx_iconst k dM_copyBundle_187 (v := 2) (by decide) ?_
      refine jx_iload_n k dM_copyBundle_188 rfl ?_
      refine jx_imul k dM_copyBundle_189 ?_
      refine jx_aload_n k dM_copyBundle_190 rfl ?_
      refine rm_get k fM_44 dM_copyBundle_191 rfl ?_
      refine jx_iconst k dM_copyBundle_194 (v := 2) (by decide) ?_
      refine jx_iload_n k dM_copyBundle_195 rfl ?_
      refine jx_imul k dM_copyBundle_196 ?_
      refine rm_zld k dM_copyBundle_197 (by decide) rfl (p := 2 * fr) (pk_mul 2 fr) (by omega) (by decide) ?_
      refine rm_zst k dM_copyBundle_198 (by decide) (fun _ => rfl) (p := 2 * to) (pk_mul 2 to) (by omega) (by decide) (jb_01 (by rw [e9]; exact w9 _)) ?_
      have e9b : ∀ i, (my_a (my_m σ fr to) 9 (2 * fr) (2 * to)).2.1 9 i = 0 ∨ (my_a (my_m σ fr to) 9 (2 * fr) (2 * to)).2.1 9 i = 1 := by
        intro i
        rw [my_a, rs_av, e9]
        unfold upd
        split
        · exact w9 _
        · exact w9 _
      refine jx_aload_n k dM_copyBundle_199 rfl ?_
      refine rm_get k fM_44 dM_copyBundle_200 rfl ?_
      refine jx_iconst k dM_copyBundle_203 (v := 2) (by decide) ?_
      refine jx_iload_n k dM_copyBundle_204 rfl ?_
      refine jx_imul k dM_copyBundle_205 ?_
      refine jx_iconst k dM_copyBundle_206 (v := 1) (by decide) ?_
      refine jx_iadd k dM_copyBundle_207 ?_
      refine jx_aload_n k dM_copyBundle_208 rfl ?_
      refine rm_get k fM_44 dM_copyBundle_209 rfl ?_
      refine jx_iconst k dM_copyBundle_212 (v := 2) (by decide) ?_
      refine jx_iload_n k dM_copyBundle_213 rfl ?_
      refine jx_imul k dM_copyBundle_214 ?_
      refine jx_iconst k dM_copyBundle_215 (v := 1) (by decide) ?_
      refine jx_iadd k dM_copyBundle_216 ?_
      refine rm_zld k dM_copyBundle_217 (by decide) rfl (p := 2 * fr + 1) (nI_ml 2 fr 1) (by omega) (by decide) ?_
      refine rm_zst k dM_copyBundle_218 (by decide) (fun _ => rfl) (p := 2 * to + 1) (nI_ml 2 to 1) (by omega) (by decide) (jb_01 (e9b _)) ?_
      exact jx_vret k dM_copyBundle_219 (Nat.le_refl _) (Nat.le_refl _) ⟨rfl, rfl, rfl⟩
/-- the first free place for a bundle -/
def mq_f (σ : rs_S) : Nat → Nat → Nat
  | 0, b => b
  | f + 1, b => if σ.2.1 4 b < 0 then b else mq_f σ f (b + 1)
set_option maxRecDepth 100000 in
set_option maxHeartbeats 4000000 in
theorem q_freeBundle (l : Launch) (E : jx_E) (b : Nat) (G0 : jx_H) (sz mb : Nat) (σ : rs_S) (st : Int32) (b0 : Nat) (h0 : mb_lo st ≤ b0) (h1 : b0 < 72) (h2 : σ.2.1 4 b0 < 0) : jx_ct l E b yM_freeBundle cM_freeBundle 3 (some .int) 1 0 0 [.ref mb, .int st] (rm_G E mb σ G0) sz (jx_pu (.int (nI (mq_f σ 72 (mb_lo st)))) (rm_G E mb σ G0) sz) := by
  refine jx_met (by decide) (Nat.le_of_ble_eq_true rfl) (L0 := [_, _, _]) rfl (fun X k => ?_)
  refine jx_iload_n k dM_freeBundle_0 rfl ?_
  refine jx_callSP k mM_112 (q_base _ _ _ _ _ st) dM_freeBundle_1 rfl rfl rfl (Nat.le_of_ble_eq_true rfl) ⟨Nat.le_of_ble_eq_true rfl, Nat.le_of_ble_eq_true rfl⟩ ⟨Nat.le_of_ble_eq_true rfl, Nat.le_of_ble_eq_true rfl⟩ ?_
  refine jx_istore_n k dM_freeBundle_4 (Nat.le_of_ble_eq_true rfl) rfl (L' := [_, _, _]) rfl ?_
  have key : ∀ f q, q ≤ b0 → b0 - q < f → mq_f σ f q = mq_f σ 72 (mb_lo st) → jx_w X E b (jx_fin X E b (jx_pu (.int (nI (mq_f σ 72 (mb_lo st)))) (rm_G E mb σ G0) sz) 0 0) 5 [some (.ref mb), some (.int st), some (.int (nI q))] [] (rm_G E mb σ G0) sz 0 0 := by
    intro f
    induction f with
    | zero => intro q g1 g2; omega
    | succ f ih =>
      intro q g1 g2 he
      refine jx_aload_n k dM_freeBundle_5 rfl ?_
      refine rm_get k fM_28 dM_freeBundle_6 rfl ?_
      refine jx_iload_n k dM_freeBundle_9 rfl ?_
      refine rm_ild k dM_freeBundle_10 (by decide) rfl (p := q) rfl (by omega) (by decide) ?_
      refine jx_if_lt k dM_freeBundle_11 (tgt := 21) rfl (fun h3 => ?_) (fun h3 => ?_)
      · refine jx_iload_n k dM_freeBundle_21 rfl ?_
        exact jx_iret k dM_freeBundle_22 (Nat.le_refl _) (Nat.le_refl _) ⟨by rw [← he, mq_f, if_pos h3], rfl, rfl⟩
      · have hq : q ≠ b0 := fun h => h3 (by rw [h]; exact h2)
        refine jx_iload_n k dM_freeBundle_14 rfl ?_
        refine jx_iconst k dM_freeBundle_15 (v := 1) (by decide) ?_
        refine jx_iadd k dM_freeBundle_16 ?_
        rw [nI_1]
        refine jx_istore_n k dM_freeBundle_17 (Nat.le_of_ble_eq_true rfl) rfl (L' := [_, _, _]) rfl ?_
        refine jx_goto k dM_freeBundle_18 (tgt := 5) rfl ?_
        exact ih (q + 1) (by omega) (by omega) (by rw [← he, mq_f, if_neg h3])
  exact key 72 (mb_lo st) h0 (by omega) rfl
