set_option maxRecDepth 100000 in
theorem q_thrown (l : Launch) (E : jx_E) (b : Nat) (G0 : jx_H) (sz mb : Nat) (σ : rs_S) : jx_ct l E b yM_thrown cM_thrown 1 (some .int) 0 0 0 [.ref mb] (rm_G E mb σ G0) sz (jx_pu (.int (σ.1 0)) (rm_G E mb σ G0) sz) := by
  refine jx_met (by decide) (Nat.le_of_ble_eq_true rfl) (L0 := [_]) rfl (fun X k => ?_)
  refine jx_aload_n k dM_thrown_0 rfl ?_
  refine rm_get k fM_83 dM_thrown_1 rfl ?_
  exact jx_iret k dM_thrown_4 (Nat.le_refl _) (Nat.le_refl _) ⟨rfl, rfl, rfl⟩
set_option maxRecDepth 100000 in
theorem q_isStore (l : Launch) (E : jx_E) (b : Nat) (G : jx_H) (sz mb : Nat) (st : Int32) : jx_ct l E b yM_isStore cM_isStore 2 (some .boolean) 1 0 0 [.ref mb, .int st] G sz (jx_pu (.int (jb_z (0 ≤ st ∧ st < 3))) G sz) := by
  refine jx_met (by decide) (Nat.le_of_ble_eq_true rfl) (L0 := [_, _]) rfl (fun X k => ?_)
  refine jx_iload_n k dM_isStore_0 rfl ?_
  refine jx_iconst k dM_isStore_1 (v := 3) (by decide) ?_
  refine jx_callSP k mM_96 (q_isIn _ _ _ _ _ st 3) dM_isStore_2 rfl rfl rfl (Nat.le_of_ble_eq_true rfl) ⟨Nat.le_of_ble_eq_true rfl, Nat.le_of_ble_eq_true rfl⟩ ⟨Nat.le_of_ble_eq_true rfl, Nat.le_of_ble_eq_true rfl⟩ ?_
  exact jx_zret k dM_isStore_5 (jb_n _) (Nat.le_refl _) (Nat.le_refl _) ⟨rfl, rfl, rfl⟩
/-- a text's signs, as the reference reads them -/
def mg_r (x : Int64) (n : Nat) : Int64 := (x.toUInt64 >>> (((8 : Int32) * nI n).toInt64.toUInt64 &&& Int64.toUInt64 63)).toInt64
def mg_b (x : Int64) (n : Nat) : Int64 := mg_r x n &&& 255
def mg_s (x : Int64) : Nat → Nat → Nat
  | 0, n => n
  | f + 1, n => if mg_b x n = 0 then n else mg_s x f (n + 1)
def mg_n (x : Int64) : Nat := mg_s x 8 0
theorem mg_s_le (x : Int64) : ∀ f n, mg_s x f n ≤ n + f := by
  intro f
  induction f with
  | zero => intro n; exact Nat.le_refl _
  | succ f ih =>
    intro n
    unfold mg_s
    split
    · omega
    · have := ih (n + 1); omega
theorem mg_n_le (x : Int64) : mg_n x ≤ 8 := mg_s_le x 8 0
set_option maxRecDepth 100000 in
set_option maxHeartbeats 4000000 in
theorem q_signs (l : Launch) (E : jx_E) (b : Nat) (G : jx_H) (sz : Nat) (x : Int64) : jx_ct l E b yM_signs cM_signs 3 (some .int) 0 0 0 [.long x] G sz (jx_pu (.int (nI (mg_n x))) G sz) := by
  refine jx_met (by decide) (Nat.le_of_ble_eq_true rfl) (L0 := [_, _, _]) rfl (fun X k => ?_)
  refine jx_iconst k dM_signs_0 (v := 0) (by decide) ?_
  refine jx_istore_n k dM_signs_1 (Nat.le_of_ble_eq_true rfl) rfl (L' := [_, _, _]) rfl ?_
  have key : ∀ f n, n + f = 8 → mg_s x f n = mg_n x → jx_w X E b (jx_fin X E b (jx_pu (.int (nI (mg_n x))) G sz) 0 0) 2 [some (.long x), none, some (.int (nI n))] [] G sz 0 0 := by
    intro f
    induction f with
    | zero =>
      intro n hn he
      refine jx_iload_n k dM_signs_2 rfl ?_
      refine jx_bipush k dM_signs_3 (v := 8) (by decide) ?_
      refine jx_icmp_ge k dM_signs_5 (tgt := 30) rfl (fun _ => ?_) (fun hh => absurd (nI_le (a := 8) (by omega) (by omega)) hh)
      refine jx_iload_n k dM_signs_30 rfl ?_
      exact jx_iret k dM_signs_31 (Nat.le_refl _) (Nat.le_refl _) ⟨by rw [← he]; rfl, rfl, rfl⟩
    | succ f ih =>
      intro n hn he
      refine jx_iload_n k dM_signs_2 rfl ?_
      refine jx_bipush k dM_signs_3 (v := 8) (by decide) ?_
      refine jx_icmp_ge k dM_signs_5 (tgt := 30) rfl (fun hh => absurd hh (nI_ge (b := 8) (by omega) (by omega))) (fun _ => ?_)
      refine jx_lload_n k dM_signs_8 rfl ?_
      refine jx_bipush k dM_signs_9 (v := 8) (by decide) ?_
      refine jx_iload_n k dM_signs_11 rfl ?_
      refine jx_imul k dM_signs_12 ?_
      refine jx_lushr k dM_signs_13 ?_
      refine jx_ldc2 k jn_734 dM_signs_14 ?_
      refine jx_land k dM_signs_17 ?_
      refine jx_lconst k dM_signs_18 (v := 0) (by decide) ?_
      refine jx_lcmp k dM_signs_19 ?_
      refine jx_if_eq k dM_signs_20 (tgt := 30) rfl (fun h1 => ?_) (fun h1 => ?_)
      · have h2 : mg_b x n = 0 := lc_eq.mp h1
        refine jx_iload_n k dM_signs_30 rfl ?_
        exact jx_iret k dM_signs_31 (Nat.le_refl _) (Nat.le_refl _) ⟨by rw [← he]; unfold mg_s; rw [if_pos h2], rfl, rfl⟩
      · have h2 : ¬ mg_b x n = 0 := fun h => h1 (lc_eq.mpr h)
        refine jx_iload_n k dM_signs_23 rfl ?_
        refine jx_iconst k dM_signs_24 (v := 1) (by decide) ?_
        refine jx_iadd k dM_signs_25 ?_
        rw [nI_1]
        refine jx_istore_n k dM_signs_26 (Nat.le_of_ble_eq_true rfl) rfl (L' := [_, _, _]) rfl ?_
        refine jx_goto k dM_signs_27 (tgt := 2) rfl ?_
        exact ih (n + 1) (by omega) (by rw [← he]; rw [mg_s, if_neg h2])
  exact key 8 0 rfl rfl
/-- whether it is a text -/
def mt_f (x : Int64) (n : Nat) (g : Bool) : Bool := g && (decide (31 < mg_b x n) && decide (mg_b x n < 127))
def mt_0 (x : Int64) : Bool := decide (0 < mg_n x) && (decide (mg_n x = 8) || decide (mg_r x (mg_n x) = 0))
def mt_x (x : Int64) : Bool := fo_f (mt_f x) 0 (mg_n x) (mt_0 x)
set_option maxRecDepth 100000 in
set_option maxHeartbeats 4000000 in
theorem q_isText (l : Launch) (E : jx_E) (b : Nat) (G : jx_H) (sz : Nat) (x : Int64) : jx_ct l E b yM_isText cM_isText 7 (some .boolean) 1 0 0 [.long x] G sz (jx_pu (.int (jb_z (mt_x x = true))) G sz) := by
  refine jx_met (by decide) (Nat.le_of_ble_eq_true rfl) (L0 := [_, _, _, _, _, _, _]) rfl (fun X k => ?_)
  have hn8 := mg_n_le x
  have k31 : ∀ v : Int32, v = jb_z (mt_0 x = true) → jx_w X E b (jx_fin X E b (jx_pu (.int (jb_z (mt_x x = true))) G sz) 0 0) 31 [some (.long x), none, some (.int (nI (mg_n x))), none, none, none, none] [.int v] G sz 0 0 := by
    rintro v rfl
    refine jx_istore_n k dM_isText_31 (Nat.le_of_ble_eq_true rfl) rfl (L' := [_, _, _, _, _, _, _]) rfl ?_
    refine jx_iconst k dM_isText_32 (v := 0) (by decide) ?_
    refine jx_istore k dM_isText_33 (Nat.le_of_ble_eq_true rfl) rfl (L' := [_, _, _, _, _, _, _]) rfl ?_
    refine fo_l (fun p g => jx_w X E b (jx_fin X E b (jx_pu (.int (jb_z (mt_x x = true))) G sz) 0 0) 35 [some (.long x), none, some (.int (nI (mg_n x))), some (.int (jb_z (g = true))), some (.int (nI p)), none, none] [] G sz 0 0) (mt_f x) (lo := 0) (hi := mg_n x) (Nat.zero_le _) (mt_0 x) ?_ ?_
    · intro p h1 h2
      generalize fo_f (mt_f x) 0 (p - 0) (mt_0 x) = g
      intro kk
      have k81 : ∀ v : Int32, v = jb_z (mt_f x p g = true) → jx_w X E b (jx_fin X E b (jx_pu (.int (jb_z (mt_x x = true))) G sz) 0 0) 81 [some (.long x), none, some (.int (nI (mg_n x))), some (.int (jb_z (g = true))), some (.int (nI p)), some (.long (mg_b x p)), none] [.int v] G sz 0 0 := by
        rintro v rfl
        refine jx_istore_n k dM_isText_81 (Nat.le_of_ble_eq_true rfl) rfl (L' := [_, _, _, _, _, _, _]) rfl ?_
        refine jx_iinc k dM_isText_82 rfl (nI_1 p) rfl (L' := [_, _, _, _, _, _, _]) rfl ?_
        refine jx_goto k dM_isText_85 (tgt := 35) rfl ?_
        refine jx_fg (jx_ls (jx_ls (jx_ls (jx_ls (jx_ls (jx_ln (jx_ls jx_l0))))))) ?_
        exact kk
      refine jx_iload k dM_isText_35 rfl ?_
      refine jx_iload_n k dM_isText_37 rfl ?_
      refine jx_icmp_ge k dM_isText_38 (tgt := 88) rfl (fun hh => absurd hh (nI_ge h2 (by omega))) (fun _ => ?_)
      refine jx_lload_n k dM_isText_41 rfl ?_
      refine jx_bipush k dM_isText_42 (v := 8) (by decide) ?_
      refine jx_iload k dM_isText_44 rfl ?_
      refine jx_imul k dM_isText_46 ?_
      refine jx_lushr k dM_isText_47 ?_
      refine jx_ldc2 k jn_734 dM_isText_48 ?_
      refine jx_land k dM_isText_51 ?_
      refine jx_lstore k dM_isText_52 (Nat.le_of_ble_eq_true rfl) rfl (L' := [_, _, _, _, _, _, _]) rfl ?_
      refine jx_iload_n k dM_isText_54 rfl ?_
      refine jx_if_eq k dM_isText_55 (tgt := 80) rfl (fun h3 => ?_) (fun h3 => ?_)
      · refine jx_iconst k dM_isText_80 (v := 0) (by decide) ?_
        refine k81 _ ?_
        have : g = false := by cases g with | false => rfl | true => exact absurd h3 (by decide)
        subst this
        rw [jb_f (by simp [mt_f])]
      · have hg : g = true := by cases g with | true => rfl | false => exact absurd rfl h3
        subst hg
        refine jx_lload k dM_isText_58 rfl ?_
        refine jx_ldc2 k jn_735 dM_isText_60 ?_
        refine jx_lcmp k dM_isText_63 ?_
        refine jx_if_le k dM_isText_64 (tgt := 80) rfl (fun h4 => ?_) (fun h4 => ?_)
        · refine jx_iconst k dM_isText_80 (v := 0) (by decide) ?_
          refine k81 _ ?_
          have h5 : mg_b x p ≤ 31 := lc_le.mp h4
          rw [jb_f (by simp [mt_f, Int64.not_lt.mpr h5])]
        · have h5 : 31 < mg_b x p := Int64.not_le.mp (fun h => h4 (lc_le.mpr h))
          refine jx_lload k dM_isText_67 rfl ?_
          refine jx_ldc2 k jn_736 dM_isText_69 ?_
          refine jx_lcmp k dM_isText_72 ?_
          refine jx_if_ge k dM_isText_73 (tgt := 80) rfl (fun h6 => ?_) (fun h6 => ?_)
          · refine jx_iconst k dM_isText_80 (v := 0) (by decide) ?_
            refine k81 _ ?_
            have h7 : 127 ≤ mg_b x p := lc_ge.mp h6
            rw [jb_f (by simp [mt_f, Int64.not_lt.mpr h7])]
          · have h7 : mg_b x p < 127 := Int64.not_le.mp (fun h => h6 (lc_ge.mpr h))
            refine jx_iconst k dM_isText_76 (v := 1) (by decide) ?_
            refine jx_goto k dM_isText_77 (tgt := 81) rfl ?_
            refine k81 _ ?_
            rw [jb_t (by simp [mt_f, h5, h7])]
    · refine jx_iload k dM_isText_35 rfl ?_
      refine jx_iload_n k dM_isText_37 rfl ?_
      refine jx_icmp_ge k dM_isText_38 (tgt := 88) rfl (fun _ => ?_) (fun hh => absurd (nI_le (Nat.le_refl _) (by omega)) hh)
      refine jx_iload_n k dM_isText_88 rfl ?_
      exact jx_zret k dM_isText_89 (jb_n _) (Nat.le_refl _) (Nat.le_refl _) ⟨rfl, rfl, rfl⟩
  refine jx_lload_n k dM_isText_0 rfl ?_
  refine jx_callSP k mM_88 (q_signs _ _ _ _ _ x) dM_isText_1 rfl rfl rfl (Nat.le_of_ble_eq_true rfl) ⟨Nat.le_of_ble_eq_true rfl, Nat.le_of_ble_eq_true rfl⟩ ⟨Nat.le_of_ble_eq_true rfl, Nat.le_of_ble_eq_true rfl⟩ ?_
  refine jx_istore_n k dM_isText_4 (Nat.le_of_ble_eq_true rfl) rfl (L' := [_, _, _, _, _, _, _]) rfl ?_
  refine jx_iload_n k dM_isText_5 rfl ?_
  refine jx_if_le k dM_isText_6 (tgt := 30) rfl (fun h1 => ?_) (fun h1 => ?_)
  · refine jx_iconst k dM_isText_30 (v := 0) (by decide) ?_
    refine k31 _ ?_
    have h2 : mg_n x = 0 := by
      have h3 := Int32.le_iff_toInt_le.mp h1
      rw [nI_toInt (by omega)] at h3
      simp at h3
      exact h3
    rw [jb_f (by simp [mt_0, h2])]
  · have h2 : 0 < mg_n x := by
      rcases Nat.eq_zero_or_pos (mg_n x) with h | h
      · rw [h] at h1; exact absurd (by decide) h1
      · exact h
    refine jx_iload_n k dM_isText_9 rfl ?_
    refine jx_bipush k dM_isText_10 (v := 8) (by decide) ?_
    refine jx_icmp_eq k dM_isText_12 (tgt := 26) rfl (fun h3 => ?_) (fun h3 => ?_)
    · refine jx_iconst k dM_isText_26 (v := 1) (by decide) ?_
      refine jx_goto k dM_isText_27 (tgt := 31) rfl ?_
      refine k31 _ ?_
      have h4 : mg_n x = 8 := (nI_eq (by omega) (by decide)).mp h3
      rw [jb_t (by simp [mt_0, h4])]
    · have h4 : ¬ mg_n x = 8 := fun h => h3 (by rw [h]; rfl)
      refine jx_lload_n k dM_isText_15 rfl ?_
      refine jx_bipush k dM_isText_16 (v := 8) (by decide) ?_
      refine jx_iload_n k dM_isText_18 rfl ?_
      refine jx_imul k dM_isText_19 ?_
      refine jx_lushr k dM_isText_20 ?_
      refine jx_lconst k dM_isText_21 (v := 0) (by decide) ?_
      refine jx_lcmp k dM_isText_22 ?_
      refine jx_if_ne k dM_isText_23 (tgt := 30) rfl (fun h5 => ?_) (fun h5 => ?_)
      · refine jx_iconst k dM_isText_30 (v := 0) (by decide) ?_
        refine k31 _ ?_
        have h6 : ¬ mg_r x (mg_n x) = 0 := fun h => h5 (lc_eq.mpr h)
        rw [jb_f (by simp [mt_0, h4, h6])]
      · refine jx_iconst k dM_isText_26 (v := 1) (by decide) ?_
        refine jx_goto k dM_isText_27 (tgt := 31) rfl ?_
        refine k31 _ ?_
        have h6 : mg_r x (mg_n x) = 0 := lc_eq.mp h5
        rw [jb_t (by simp [mt_0, h2, h6])]
