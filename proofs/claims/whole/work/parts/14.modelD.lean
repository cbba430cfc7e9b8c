/-- a cell of the picture under way (xored with the former one) -/
def mr_c (σ : rs_S) (ch : Int32) (c : Nat) : Int32 := ((σ.2.1 13 (560 + c / 8) ^^^ (if ch = 0 then 0 else σ.2.1 16 (c / 8))) >>> (((2 : Int32) * nI (c % 8)) &&& 31)) &&& 3
def mr_f (σ : rs_S) (ch : Int32) (c : Nat) (x : Nat × Int32) : Nat × Int32 := (if mr_c σ ch c = x.2 then x.1 else x.1 + 1, mr_c σ ch c)
def mr_n (σ : rs_S) (ch : Int32) : Nat := (fo_f (mr_f σ ch) 0 64 (0, -1)).1
theorem mr_le (σ : rs_S) (ch : Int32) : ∀ n, (fo_f (mr_f σ ch) 0 n (0, -1)).1 ≤ n := by
  intro n
  induction n with
  | zero => exact Nat.le_refl _
  | succ n ih =>
    rw [fo_s, mr_f]
    dsimp only
    split <;> omega
theorem nI_rem8 (c : Nat) (hc : c < 64) : nI c - nI c / 8 * 8 = nI (c % 8) := pk_rem (d := 8) (by omega) (by decide) (by decide)
theorem nI_div8 (c : Nat) (hc : c < 64) : nI c / 8 = nI (c / 8) := pk_div (d := 8) (by omega) (by decide) (by decide)
set_option maxRecDepth 100000 in
set_option maxHeartbeats 4000000 in
theorem q_runs (l : Launch) (E : jx_E) (b : Nat) (G0 : jx_H) (sz mb : Nat) (σ : rs_S) (ch : Int32) : jx_ct l E b yM_runs cM_runs 7 (some .int) 0 0 0 [.ref mb, .int ch] (rm_G E mb σ G0) sz (jx_pu (.int (nI (mr_n σ ch))) (rm_G E mb σ G0) sz) := by
  refine jx_met (by decide) (Nat.le_of_ble_eq_true rfl) (L0 := [_, _, _, _, _, _, _]) rfl (fun X k => ?_)
  refine jx_iconst k dM_runs_0 (v := 0) (by decide) ?_
  refine jx_istore_n k dM_runs_1 (Nat.le_of_ble_eq_true rfl) rfl (L' := [_, _, _, _, _, _, _]) rfl ?_
  refine jx_iconst k dM_runs_2 (v := (-1)) (by decide) ?_
  refine jx_istore_n k dM_runs_3 (Nat.le_of_ble_eq_true rfl) rfl (L' := [_, _, _, _, _, _, _]) rfl ?_
  refine jx_iconst k dM_runs_4 (v := 0) (by decide) ?_
  refine jx_istore k dM_runs_5 (Nat.le_of_ble_eq_true rfl) rfl (L' := [_, _, _, _, _, _, _]) rfl ?_
  refine fo_l (fun p x => jx_w X E b (jx_fin X E b (jx_pu (.int (nI (mr_n σ ch))) (rm_G E mb σ G0) sz) 0 0) 7 [some (.ref mb), some (.int ch), some (.int (nI x.1)), some (.int x.2), some (.int (nI p)), none, none] [] (rm_G E mb σ G0) sz 0 0) (mr_f σ ch) (lo := 0) (hi := 64) (by decide) (0, -1) ?_ ?_
  · intro p h1 h2
    generalize fo_f (mr_f σ ch) 0 (p - 0) (0, -1) = x
    intro kk
    have k46 : ∀ v : Int32, v = (if ch = 0 then 0 else σ.2.1 16 (p / 8)) → jx_w X E b (jx_fin X E b (jx_pu (.int (nI (mr_n σ ch))) (rm_G E mb σ G0) sz) 0 0) 46 [some (.ref mb), some (.int ch), some (.int (nI x.1)), some (.int x.2), some (.int (nI p)), none, none] [.int v, .int (σ.2.1 13 (560 + p / 8))] (rm_G E mb σ G0) sz 0 0 := by
      rintro v rfl
      refine jx_ixor k dM_runs_46 ?_
      refine jx_istore k dM_runs_47 (Nat.le_of_ble_eq_true rfl) rfl (L' := [_, _, _, _, _, _, _]) rfl ?_
      refine jx_iload k dM_runs_49 rfl ?_
      refine jx_iconst k dM_runs_51 (v := 2) (by decide) ?_
      refine jx_iload k dM_runs_52 rfl ?_
      refine jx_bipush k dM_runs_54 (v := 8) (by decide) ?_
      refine jx_irem k dM_runs_56 (by decide) ?_
      rw [nI_rem8 p h2]
      refine jx_imul k dM_runs_57 ?_
      refine jx_ishr k dM_runs_58 ?_
      refine jx_iconst k dM_runs_59 (v := 3) (by decide) ?_
      refine jx_iand k dM_runs_60 ?_
      refine jx_istore k dM_runs_61 (Nat.le_of_ble_eq_true rfl) rfl (L' := [_, _, _, _, _, _, _]) rfl ?_
      refine jx_iload k dM_runs_63 rfl ?_
      refine jx_iload_n k dM_runs_65 rfl ?_
      refine jx_icmp_eq k dM_runs_66 (tgt := 75) rfl (fun h3 => ?_) (fun h3 => ?_)
      · have h3 : mr_c σ ch p = x.2 := h3
        have e : mr_f σ ch p x = (x.1, mr_c σ ch p) := by rw [mr_f, if_pos h3]
        rw [e] at kk
        refine jx_iload_n k dM_runs_75 rfl ?_
        refine jx_istore_n k dM_runs_76 (Nat.le_of_ble_eq_true rfl) rfl (L' := [_, _, _, _, _, _, _]) rfl ?_
        refine jx_iload k dM_runs_77 rfl ?_
        refine jx_istore_n k dM_runs_79 (Nat.le_of_ble_eq_true rfl) rfl (L' := [_, _, _, _, _, _, _]) rfl ?_
        refine jx_iinc k dM_runs_80 rfl (nI_1 p) rfl (L' := [_, _, _, _, _, _, _]) rfl ?_
        refine jx_goto k dM_runs_83 (tgt := 7) rfl ?_
        refine jx_fg (jx_ls (jx_ls (jx_ls (jx_ls (jx_ls (jx_ln (jx_ln jx_l0))))))) ?_
        exact kk
      · have h3 : ¬ mr_c σ ch p = x.2 := h3
        have e : mr_f σ ch p x = (x.1 + 1, mr_c σ ch p) := by rw [mr_f, if_neg h3]
        rw [e] at kk
        refine jx_iload_n k dM_runs_69 rfl ?_
        refine jx_iconst k dM_runs_70 (v := 1) (by decide) ?_
        refine jx_iadd k dM_runs_71 ?_
        rw [nI_1]
        refine jx_goto k dM_runs_72 (tgt := 76) rfl ?_
        refine jx_istore_n k dM_runs_76 (Nat.le_of_ble_eq_true rfl) rfl (L' := [_, _, _, _, _, _, _]) rfl ?_
        refine jx_iload k dM_runs_77 rfl ?_
        refine jx_istore_n k dM_runs_79 (Nat.le_of_ble_eq_true rfl) rfl (L' := [_, _, _, _, _, _, _]) rfl ?_
        refine jx_iinc k dM_runs_80 rfl (nI_1 p) rfl (L' := [_, _, _, _, _, _, _]) rfl ?_
        refine jx_goto k dM_runs_83 (tgt := 7) rfl ?_
        refine jx_fg (jx_ls (jx_ls (jx_ls (jx_ls (jx_ls (jx_ln (jx_ln jx_l0))))))) ?_
        exact kk
    refine jx_iload k dM_runs_7 rfl ?_
    refine jx_bipush k dM_runs_9 (v := 64) (by decide) ?_
    refine jx_icmp_ge k dM_runs_11 (tgt := 86) rfl (fun hh => absurd hh (nI_ge (b := 64) h2 (by decide))) (fun _ => ?_)
    refine jx_aload_n k dM_runs_14 rfl ?_
    refine rm_get k fM_56 dM_runs_15 rfl ?_
    refine jx_sipush k dM_runs_18 (v := 560) (by decide) ?_
    refine jx_iload k dM_runs_21 rfl ?_
    refine jx_bipush k dM_runs_23 (v := 8) (by decide) ?_
    refine jx_idiv k dM_runs_25 (by decide) ?_
    rw [nI_div8 p h2]
    refine jx_iadd k dM_runs_26 ?_
    refine rm_ild k dM_runs_27 (by decide) rfl (p := 560 + p / 8) (nI_add 560 (p / 8)) (by omega) (by decide) ?_
    refine jx_iload_n k dM_runs_28 rfl ?_
    refine jx_if_eq k dM_runs_29 (tgt := 45) rfl (fun h3 => ?_) (fun h3 => ?_)
    · refine jx_iconst k dM_runs_45 (v := 0) (by decide) ?_
      exact k46 _ (by rw [if_pos h3])
    · refine jx_aload_n k dM_runs_32 rfl ?_
      refine rm_get k fM_65 dM_runs_33 rfl ?_
      refine jx_iload k dM_runs_36 rfl ?_
      refine jx_bipush k dM_runs_38 (v := 8) (by decide) ?_
      refine jx_idiv k dM_runs_40 (by decide) ?_
      rw [nI_div8 p h2]
      refine rm_ild k dM_runs_41 (by decide) rfl (p := p / 8) rfl (by omega) (by decide) ?_
      refine jx_goto k dM_runs_42 (tgt := 46) rfl ?_
      exact k46 _ (by rw [if_neg h3])
  · refine jx_iload k dM_runs_7 rfl ?_
    refine jx_bipush k dM_runs_9 (v := 64) (by decide) ?_
    refine jx_icmp_ge k dM_runs_11 (tgt := 86) rfl (fun _ => ?_) (fun hh => absurd (nI_le (a := 64) (b := 64) (by decide) (by decide)) hh)
    refine jx_iload_n k dM_runs_86 rfl ?_
    exact jx_iret k dM_runs_87 (Nat.le_refl _) (Nat.le_refl _) ⟨rfl, rfl, rfl⟩
/-- how the picture is coded: its bytes, and against which second -/
def mp_can (σ : rs_S) : Prop := 0 ≤ σ.1 4 ∧ σ.1 4 / 10 = σ.1 1 / 10
def mp_b0 (σ : rs_S) : Nat := if mr_n σ 0 < 16 then mr_n σ 0 else 16
def mp_code (σ : rs_S) (c : Bool) : Nat × rs_S :=
  if c = true ∧ mr_n σ 1 < mp_b0 σ then (mr_n σ 1, rs_a σ 12 (upd (σ.2.1 12) 70 (σ.1 4))) else (mp_b0 σ, rs_a σ 12 (upd (σ.2.1 12) 70 (-1)))
theorem mr_cong (σ : rs_S) (f : Nat → Int32) (ch : Int32) : mr_n (rs_a σ 12 f) ch = mr_n σ ch := rfl
theorem upd_upd (f : Nat → Int32) (i : Nat) (x y : Int32) : upd (upd f i x) i y = upd f i y := by
  funext q
  unfold upd
  split <;> rfl
set_option maxRecDepth 100000 in
set_option maxHeartbeats 4000000 in
theorem q_codePicture (l : Launch) (E : jx_E) (b : Nat) (G0 : jx_H) (sz mb : Nat) (σ : rs_S) (c : Bool) (hcan : mp_can σ ↔ c = true) : jx_ct l E b yM_codePicture cM_codePicture 3 (some .int) 1 0 0 [.ref mb] (rm_G E mb σ G0) sz (rm_q E mb G0 sz (.int (nI (mp_code σ c).1)) (mp_code σ c).2) := by
  refine jx_met (by decide) (Nat.le_of_ble_eq_true rfl) (L0 := [_, _, _]) rfl (fun X k => ?_)
  have r0 := mr_le σ 0 64
  have r1 := mr_le σ 1 64
  have hr0 : mr_n σ 0 ≤ 64 := r0
  have hr1 : mr_n σ 1 ≤ 64 := r1
  have hb0 : mp_b0 σ ≤ 16 := by unfold mp_b0; split <;> omega
  have k59 : jx_w X E b (jx_fin X E b (rm_q E mb G0 sz (.int (nI (mp_code σ c).1)) (mp_code σ c).2) 0 0) 59 [some (.ref mb), some (.int (jb_z (c = true))), some (.int 16)] [.int (nI (mp_b0 σ))] (rm_G E mb (rs_a σ 12 (upd (σ.2.1 12) 70 (-1))) G0) sz 0 0 := by
    have fin0 : (¬ (c = true ∧ mr_n σ 1 < mp_b0 σ)) → jx_w X E b (jx_fin X E b (rm_q E mb G0 sz (.int (nI (mp_code σ c).1)) (mp_code σ c).2) 0 0) 90 [some (.ref mb), some (.int (jb_z (c = true))), some (.int (nI (mp_b0 σ)))] [] (rm_G E mb (rs_a σ 12 (upd (σ.2.1 12) 70 (-1))) G0) sz 0 0 := by
      intro hno
      refine jx_iload_n k dM_codePicture_90 rfl ?_
      exact jx_iret k dM_codePicture_91 (Nat.le_refl _) (Nat.le_refl _) ⟨by rw [mp_code, if_neg hno], by rw [mp_code, if_neg hno], rfl⟩
    refine jx_istore_n k dM_codePicture_59 (Nat.le_of_ble_eq_true rfl) rfl (L' := [_, _, _]) rfl ?_
    refine jx_iload_n k dM_codePicture_60 rfl ?_
    refine jx_if_eq k dM_codePicture_61 (tgt := 90) rfl (fun h1 => ?_) (fun h1 => ?_)
    · exact fin0 (fun h => jb_e0.mp h1 h.1)
    · refine jx_aload_n k dM_codePicture_64 rfl ?_
      refine jx_iconst k dM_codePicture_65 (v := 1) (by decide) ?_
      refine jx_callVP k mM_108 (q_runs _ _ _ _ _ _ (rs_a σ 12 (upd (σ.2.1 12) 70 (-1))) 1) rm_a0 rfl dM_codePicture_66 rfl rfl rfl (Nat.le_of_ble_eq_true rfl) ⟨Nat.le_of_ble_eq_true rfl, Nat.le_of_ble_eq_true rfl⟩ ⟨Nat.le_of_ble_eq_true rfl, Nat.le_of_ble_eq_true rfl⟩ ?_
      refine jx_iload_n k dM_codePicture_69 rfl ?_
      refine jx_icmp_ge k dM_codePicture_70 (tgt := 90) rfl (fun h2 => ?_) (fun h2 => ?_)
      · exact fin0 (fun h => absurd h.2 (Nat.not_lt.mpr ((nI_leI (by omega) (by omega)).mp h2)))
      · have hyes : c = true ∧ mr_n σ 1 < mp_b0 σ := ⟨Decidable.byContradiction (fun h => h1 (jb_f h)), Nat.not_le.mp (fun h => h2 (nI_le (b := mr_n σ 1) h (by omega)))⟩
        refine jx_aload_n k dM_codePicture_73 rfl ?_
        refine jx_iconst k dM_codePicture_74 (v := 1) (by decide) ?_
        refine jx_callVP k mM_108 (q_runs _ _ _ _ _ _ (rs_a σ 12 (upd (σ.2.1 12) 70 (-1))) 1) rm_a0 rfl dM_codePicture_75 rfl rfl rfl (Nat.le_of_ble_eq_true rfl) ⟨Nat.le_of_ble_eq_true rfl, Nat.le_of_ble_eq_true rfl⟩ ⟨Nat.le_of_ble_eq_true rfl, Nat.le_of_ble_eq_true rfl⟩ ?_
        refine jx_istore_n k dM_codePicture_78 (Nat.le_of_ble_eq_true rfl) rfl (L' := [_, _, _]) rfl ?_
        refine jx_aload_n k dM_codePicture_79 rfl ?_
        refine rm_get k fM_53 dM_codePicture_80 rfl ?_
        refine jx_bipush k dM_codePicture_83 (v := 70) (by decide) ?_
        refine jx_aload_n k dM_codePicture_85 rfl ?_
        refine rm_get k fM_68 dM_codePicture_86 rfl ?_
        refine rm_ist k dM_codePicture_89 (by decide) (fun _ => rfl) (p := 70) rfl (by omega) (by decide) ?_
        refine jx_iload_n k dM_codePicture_90 rfl ?_
        refine jx_iret k dM_codePicture_91 (Nat.le_refl _) (Nat.le_refl _) ⟨by rw [mp_code, if_pos hyes]; rfl, ?_, rfl⟩
        rw [mp_code, if_pos hyes, rs_aa, rs_av, upd_upd]
  have k29 : jx_w X E b (jx_fin X E b (rm_q E mb G0 sz (.int (nI (mp_code σ c).1)) (mp_code σ c).2) 0 0) 29 [some (.ref mb), none, none] [.int (jb_z (c = true))] (rm_G E mb σ G0) sz 0 0 := by
    refine jx_istore_n k dM_codePicture_29 (Nat.le_of_ble_eq_true rfl) rfl (L' := [_, _, _]) rfl ?_
    refine jx_bipush k dM_codePicture_30 (v := 16) (by decide) ?_
    refine jx_istore_n k dM_codePicture_32 (Nat.le_of_ble_eq_true rfl) rfl (L' := [_, _, _]) rfl ?_
    refine jx_aload_n k dM_codePicture_33 rfl ?_
    refine rm_get k fM_53 dM_codePicture_34 rfl ?_
    refine jx_bipush k dM_codePicture_37 (v := 70) (by decide) ?_
    refine jx_iconst k dM_codePicture_39 (v := (-1)) (by decide) ?_
    refine rm_ist k dM_codePicture_40 (by decide) (fun _ => rfl) (p := 70) rfl (by omega) (by decide) ?_
    refine jx_aload_n k dM_codePicture_41 rfl ?_
    refine jx_iconst k dM_codePicture_42 (v := 0) (by decide) ?_
    refine jx_callVP k mM_108 (q_runs _ _ _ _ _ _ (rs_a σ 12 (upd (σ.2.1 12) 70 (-1))) 0) rm_a0 rfl dM_codePicture_43 rfl rfl rfl (Nat.le_of_ble_eq_true rfl) ⟨Nat.le_of_ble_eq_true rfl, Nat.le_of_ble_eq_true rfl⟩ ⟨Nat.le_of_ble_eq_true rfl, Nat.le_of_ble_eq_true rfl⟩ ?_
    refine jx_iload_n k dM_codePicture_46 rfl ?_
    refine jx_icmp_ge k dM_codePicture_47 (tgt := 58) rfl (fun h1 => ?_) (fun h1 => ?_)
    · have h2 : ¬ mr_n σ 0 < 16 := Nat.not_lt.mpr ((nI_leI (a := 16) (by decide) (by omega)).mp h1)
      refine jx_iload_n k dM_codePicture_58 rfl ?_
      have := k59
      rw [mp_b0, if_neg h2] at this
      exact this
    · have h2 : mr_n σ 0 < 16 := Nat.not_le.mp (fun h => h1 (nI_le (a := 16) (b := mr_n σ 0) h (by omega)))
      refine jx_aload_n k dM_codePicture_50 rfl ?_
      refine jx_iconst k dM_codePicture_51 (v := 0) (by decide) ?_
      refine jx_callVP k mM_108 (q_runs _ _ _ _ _ _ (rs_a σ 12 (upd (σ.2.1 12) 70 (-1))) 0) rm_a0 rfl dM_codePicture_52 rfl rfl rfl (Nat.le_of_ble_eq_true rfl) ⟨Nat.le_of_ble_eq_true rfl, Nat.le_of_ble_eq_true rfl⟩ ⟨Nat.le_of_ble_eq_true rfl, Nat.le_of_ble_eq_true rfl⟩ ?_
      refine jx_goto k dM_codePicture_55 (tgt := 59) rfl ?_
      have := k59
      rw [mp_b0, if_pos h2] at this
      exact this
  refine jx_aload_n k dM_codePicture_0 rfl ?_
  refine rm_get k fM_68 dM_codePicture_1 rfl ?_
  refine jx_if_lt k dM_codePicture_4 (tgt := 28) rfl (fun h1 => ?_) (fun h1 => ?_)
  · refine jx_iconst k dM_codePicture_28 (v := 0) (by decide) ?_
    have hc : ¬ c = true := fun h => absurd (hcan.mpr h).1 (Int32.not_le.mpr h1)
    rw [jb_f hc] at k29
    exact k29
  · refine jx_aload_n k dM_codePicture_7 rfl ?_
    refine rm_get k fM_68 dM_codePicture_8 rfl ?_
    refine jx_bipush k dM_codePicture_11 (v := 10) (by decide) ?_
    refine jx_idiv k dM_codePicture_13 (by decide) ?_
    refine jx_aload_n k dM_codePicture_14 rfl ?_
    refine rm_get k fM_105 dM_codePicture_15 rfl ?_
    refine jx_bipush k dM_codePicture_18 (v := 10) (by decide) ?_
    refine jx_idiv k dM_codePicture_20 (by decide) ?_
    refine jx_icmp_ne k dM_codePicture_21 (tgt := 28) rfl (fun h2 => ?_) (fun h2 => ?_)
    · refine jx_iconst k dM_codePicture_28 (v := 0) (by decide) ?_
      have hc : ¬ c = true := fun h => h2 (hcan.mpr h).2
      rw [jb_f hc] at k29
      exact k29
    · refine jx_iconst k dM_codePicture_24 (v := 1) (by decide) ?_
      refine jx_goto k dM_codePicture_25 (tgt := 29) rfl ?_
      have hc : c = true := hcan.mp ⟨Int32.not_lt.mp h1, h2⟩
      rw [jb_t hc] at k29
      exact k29
/-- the bundle's bytes for a store -/
def mb_s (σ : rs_S) (j : Nat) : Nat := fo_f (fun q n => n + 2 + mg_n (σ.2.2 (280 + q))) 0 j 6
def mb_y (σ : rs_S) (j : Nat) (st : Int32) (pc : Nat) : Nat := (if σ.2.1 11 70 = 0 then 0 else 1 + pc) + ((if σ.2.1 9 141 = 0 ∨ ¬ st < 2 then 0 else 5) + ((if σ.2.1 9 140 = 0 then 0 else 5) + mb_s σ j))
theorem mb_s_le (σ : rs_S) : ∀ j, mb_s σ j ≤ 6 + 10 * j := by
  intro j
  induction j with
  | zero => exact Nat.le_refl _
  | succ j ih =>
    unfold mb_s at ih ⊢
    rw [fo_s]
    have := mg_n_le (σ.2.2 (280 + (0 + j)))
    omega
set_option maxRecDepth 100000 in
set_option maxHeartbeats 4000000 in
theorem q_bytesFor (l : Launch) (E : jx_E) (b : Nat) (G0 : jx_H) (sz mb : Nat) (σ : rs_S) (st : Int32) (pc j : Nat) (hn : σ.2.1 6 70 = nI j) (hj : j ≤ 4) : jx_ct l E b yM_bytesFor cM_bytesFor 5 (some .int) 1 0 0 [.ref mb, .int st, .int (nI pc)] (rm_G E mb σ G0) sz (jx_pu (.int (nI (mb_y σ j st pc))) (rm_G E mb σ G0) sz) := by
  refine jx_met (by decide) (Nat.le_of_ble_eq_true rfl) (L0 := [_, _, _, _, _]) rfl (fun X k => ?_)
  have k85 : ∀ n3, n3 = (if σ.2.1 9 141 = 0 ∨ ¬ st < 2 then 0 else 5) + ((if σ.2.1 9 140 = 0 then 0 else 5) + mb_s σ j) → jx_w X E b (jx_fin X E b (jx_pu (.int (nI (mb_y σ j st pc))) (rm_G E mb σ G0) sz) 0 0) 85 [some (.ref mb), some (.int st), some (.int (nI pc)), none, none] [.int (nI n3)] (rm_G E mb σ G0) sz 0 0 := by
    intro n3 e3
    refine jx_istore_n k dM_bytesFor_85 (Nat.le_of_ble_eq_true rfl) rfl (L' := [_, _, _, _, _]) rfl ?_
    refine jx_aload_n k dM_bytesFor_86 rfl ?_
    refine rm_get k fM_50 dM_bytesFor_87 rfl ?_
    refine jx_bipush k dM_bytesFor_90 (v := 70) (by decide) ?_
    refine rm_zld k dM_bytesFor_92 (by decide) rfl (p := 70) rfl (by omega) (by decide) ?_
    refine jx_if_eq k dM_bytesFor_93 (tgt := 104) rfl (fun h1 => ?_) (fun h1 => ?_)
    · refine jx_iload_n k dM_bytesFor_104 rfl ?_
      exact jx_iret k dM_bytesFor_105 (Nat.le_refl _) (Nat.le_refl _) ⟨by rw [mb_y, if_pos h1, ← e3, Nat.zero_add], rfl, rfl⟩
    · refine jx_iload_n k dM_bytesFor_96 rfl ?_
      refine jx_iconst k dM_bytesFor_97 (v := 1) (by decide) ?_
      refine jx_iadd k dM_bytesFor_98 ?_
      refine jx_iload_n k dM_bytesFor_99 rfl ?_
      refine jx_iadd k dM_bytesFor_100 ?_
      rw [nI_1, nI_add]
      refine jx_goto k dM_bytesFor_101 (tgt := 105) rfl ?_
      exact jx_iret k dM_bytesFor_105 (Nat.le_refl _) (Nat.le_refl _) ⟨by rw [mb_y, if_neg h1, ← e3, show n3 + 1 + pc = 1 + pc + n3 by omega], rfl, rfl⟩
  have k61 : ∀ n2, n2 = (if σ.2.1 9 140 = 0 then 0 else 5) + mb_s σ j → jx_w X E b (jx_fin X E b (jx_pu (.int (nI (mb_y σ j st pc))) (rm_G E mb σ G0) sz) 0 0) 61 [some (.ref mb), some (.int st), some (.int (nI pc)), none, none] [.int (nI n2)] (rm_G E mb σ G0) sz 0 0 := by
    intro n2 e2
    refine jx_istore_n k dM_bytesFor_61 (Nat.le_of_ble_eq_true rfl) rfl (L' := [_, _, _, _, _]) rfl ?_
    refine jx_aload_n k dM_bytesFor_62 rfl ?_
    refine rm_get k fM_44 dM_bytesFor_63 rfl ?_
    refine jx_sipush k dM_bytesFor_66 (v := 141) (by decide) ?_
    refine rm_zld k dM_bytesFor_69 (by decide) rfl (p := 141) rfl (by omega) (by decide) ?_
    refine jx_if_eq k dM_bytesFor_70 (tgt := 84) rfl (fun h1 => ?_) (fun h1 => ?_)
    · refine jx_iload_n k dM_bytesFor_84 rfl ?_
      refine jx_fg (jx_ls (jx_ls (jx_ls (jx_ln (jx_ls jx_l0))))) ?_
      exact k85 n2 (by rw [if_pos (Or.inl h1), ← e2, Nat.zero_add])
    · refine jx_iload_n k dM_bytesFor_73 rfl ?_
      refine jx_iconst k dM_bytesFor_74 (v := 2) (by decide) ?_
      refine jx_icmp_ge k dM_bytesFor_75 (tgt := 84) rfl (fun h2 => ?_) (fun h2 => ?_)
      · refine jx_iload_n k dM_bytesFor_84 rfl ?_
        refine jx_fg (jx_ls (jx_ls (jx_ls (jx_ln (jx_ls jx_l0))))) ?_
        exact k85 n2 (by rw [if_pos (Or.inr (Int32.not_lt.mpr h2)), ← e2, Nat.zero_add])
      · refine jx_iload_n k dM_bytesFor_78 rfl ?_
        refine jx_iconst k dM_bytesFor_79 (v := 5) (by decide) ?_
        refine jx_iadd k dM_bytesFor_80 ?_
        rw [show (5 : Int32) = nI 5 from rfl, nI_add]
        refine jx_goto k dM_bytesFor_81 (tgt := 85) rfl ?_
        refine jx_fg (jx_ls (jx_ls (jx_ls (jx_ln (jx_ls jx_l0))))) ?_
        exact k85 (n2 + 5) (by rw [if_neg (fun h => h.elim h1 (fun h => h (Int32.not_le.mp h2))), ← e2, Nat.add_comm])
  refine jx_bipush k dM_bytesFor_0 (v := 6) (by decide) ?_
  refine jx_istore_n k dM_bytesFor_2 (Nat.le_of_ble_eq_true rfl) rfl (L' := [_, _, _, _, _]) rfl ?_
  refine jx_iconst k dM_bytesFor_3 (v := 0) (by decide) ?_
  refine jx_istore k dM_bytesFor_4 (Nat.le_of_ble_eq_true rfl) rfl (L' := [_, _, _, _, _]) rfl ?_
  refine fo_l (fun p n => jx_w X E b (jx_fin X E b (jx_pu (.int (nI (mb_y σ j st pc))) (rm_G E mb σ G0) sz) 0 0) 6 [some (.ref mb), some (.int st), some (.int (nI pc)), some (.int (nI n)), some (.int (nI p))] [] (rm_G E mb σ G0) sz 0 0) (fun q n => n + 2 + mg_n (σ.2.2 (280 + q))) (lo := 0) (hi := j) (Nat.zero_le _) 6 ?_ ?_
  · intro p h1 h2
    generalize fo_f (fun q n => n + 2 + mg_n (σ.2.2 (280 + q))) 0 (p - 0) 6 = n
    intro kk
    refine jx_iload k dM_bytesFor_6 rfl ?_
    refine jx_aload_n k dM_bytesFor_8 rfl ?_
    refine rm_get k fM_34 dM_bytesFor_9 rfl ?_
    refine jx_bipush k dM_bytesFor_12 (v := 70) (by decide) ?_
    refine rm_ildV k dM_bytesFor_14 (by decide) rfl (p := 70) rfl (by omega) (by decide) hn ?_
    refine jx_icmp_ge k dM_bytesFor_15 (tgt := 43) rfl (fun hh => absurd hh (nI_ge h2 (by omega))) (fun _ => ?_)
    refine jx_iload_n k dM_bytesFor_18 rfl ?_
    refine jx_iconst k dM_bytesFor_19 (v := 2) (by decide) ?_
    refine jx_iadd k dM_bytesFor_20 ?_
    refine jx_aload_n k dM_bytesFor_21 rfl ?_
    refine rm_get k fM_40 dM_bytesFor_22 rfl ?_
    refine jx_sipush k dM_bytesFor_25 (v := 280) (by decide) ?_
    refine jx_iload k dM_bytesFor_28 rfl ?_
    refine jx_iadd k dM_bytesFor_30 ?_
    refine rm_lld k dM_bytesFor_31 (by decide) rfl (p := 280 + p) (nI_add 280 p) (by omega) (by decide) ?_
    refine jx_callSP k mM_88 (q_signs _ _ _ _ _ (σ.2.2 (280 + p))) dM_bytesFor_32 rfl rfl rfl (Nat.le_of_ble_eq_true rfl) ⟨Nat.le_of_ble_eq_true rfl, Nat.le_of_ble_eq_true rfl⟩ ⟨Nat.le_of_ble_eq_true rfl, Nat.le_of_ble_eq_true rfl⟩ ?_
    rw [show (2 : Int32) = nI 2 from rfl, nI_add]
    refine jx_iadd k dM_bytesFor_35 ?_
    rw [nI_add]
    refine jx_istore_n k dM_bytesFor_36 (Nat.le_of_ble_eq_true rfl) rfl (L' := [_, _, _, _, _]) rfl ?_
    refine jx_iinc k dM_bytesFor_37 rfl (nI_1 p) rfl (L' := [_, _, _, _, _]) rfl ?_
    refine jx_goto k dM_bytesFor_40 (tgt := 6) rfl ?_
    exact kk
  · refine jx_iload k dM_bytesFor_6 rfl ?_
    refine jx_aload_n k dM_bytesFor_8 rfl ?_
    refine rm_get k fM_34 dM_bytesFor_9 rfl ?_
    refine jx_bipush k dM_bytesFor_12 (v := 70) (by decide) ?_
    refine rm_ildV k dM_bytesFor_14 (by decide) rfl (p := 70) rfl (by omega) (by decide) hn ?_
    refine jx_icmp_ge k dM_bytesFor_15 (tgt := 43) rfl (fun _ => ?_) (fun hh => absurd (nI_le (Nat.le_refl _) (by omega)) hh)
    refine jx_aload_n k dM_bytesFor_43 rfl ?_
    refine rm_get k fM_44 dM_bytesFor_44 rfl ?_
    refine jx_sipush k dM_bytesFor_47 (v := 140) (by decide) ?_
    refine rm_zld k dM_bytesFor_50 (by decide) rfl (p := 140) rfl (by omega) (by decide) ?_
    refine jx_if_eq k dM_bytesFor_51 (tgt := 60) rfl (fun h1 => ?_) (fun h1 => ?_)
    · refine jx_iload_n k dM_bytesFor_60 rfl ?_
      refine jx_fg (jx_ls (jx_ls (jx_ls (jx_ln (jx_ln jx_l0))))) ?_
      exact k61 (mb_s σ j) (by rw [if_pos h1, Nat.zero_add])
    · refine jx_iload_n k dM_bytesFor_54 rfl ?_
      refine jx_iconst k dM_bytesFor_55 (v := 5) (by decide) ?_
      refine jx_iadd k dM_bytesFor_56 ?_
      rw [show (5 : Int32) = nI 5 from rfl, nI_add]
      refine jx_goto k dM_bytesFor_57 (tgt := 61) rfl ?_
      refine jx_fg (jx_ls (jx_ls (jx_ls (jx_ln (jx_ln jx_l0))))) ?_
      exact k61 (mb_s σ j + 5) (by rw [if_neg h1, Nat.add_comm])
/-- whether a second is frozen -/
def mz_f (σ : rs_S) (t : Int32) (f : Nat) (g : Bool) : Bool := g || (!decide (σ.2.1 17 f = 0) && (decide (σ.2.1 18 f ≤ t) && decide (t ≤ σ.2.1 19 f)))
def mz_t (σ : rs_S) (t : Int32) : Bool := fo_f (mz_f σ t) 0 3 false
set_option maxRecDepth 100000 in
set_option maxHeartbeats 4000000 in
theorem q_isFrozen (l : Launch) (E : jx_E) (b : Nat) (G0 : jx_H) (sz mb : Nat) (σ : rs_S) (t : Int32) : jx_ct l E b yM_isFrozen cM_isFrozen 4 (some .boolean) 0 0 0 [.ref mb, .int t] (rm_G E mb σ G0) sz (jx_pu (.int (jb_z (mz_t σ t = true))) (rm_G E mb σ G0) sz) := by
  refine jx_met (by decide) (Nat.le_of_ble_eq_true rfl) (L0 := [_, _, _, _]) rfl (fun X k => ?_)
  refine jx_iconst k dM_isFrozen_0 (v := 0) (by decide) ?_
  refine jx_istore_n k dM_isFrozen_1 (Nat.le_of_ble_eq_true rfl) rfl (L' := [_, _, _, _]) rfl ?_
  refine jx_iconst k dM_isFrozen_2 (v := 0) (by decide) ?_
  refine jx_istore_n k dM_isFrozen_3 (Nat.le_of_ble_eq_true rfl) rfl (L' := [_, _, _, _]) rfl ?_
  refine fo_l (fun p g => jx_w X E b (jx_fin X E b (jx_pu (.int (jb_z (mz_t σ t = true))) (rm_G E mb σ G0) sz) 0 0) 4 [some (.ref mb), some (.int t), some (.int (jb_z (g = true))), some (.int (nI p))] [] (rm_G E mb σ G0) sz 0 0) (mz_f σ t) (lo := 0) (hi := 3) (by decide) false ?_ ?_
  · intro p h1 h2
    generalize fo_f (mz_f σ t) 0 (p - 0) false = g
    intro kk
    have k47 : ∀ v : Int32, v = jb_z (mz_f σ t p g = true) → jx_w X E b (jx_fin X E b (jx_pu (.int (jb_z (mz_t σ t = true))) (rm_G E mb σ G0) sz) 0 0) 47 [some (.ref mb), some (.int t), some (.int (jb_z (g = true))), some (.int (nI p))] [.int v] (rm_G E mb σ G0) sz 0 0 := by
      rintro v rfl
      refine jx_istore_n k dM_isFrozen_47 (Nat.le_of_ble_eq_true rfl) rfl (L' := [_, _, _, _]) rfl ?_
      refine jx_iinc k dM_isFrozen_48 rfl (nI_1 p) rfl (L' := [_, _, _, _]) rfl ?_
      refine jx_goto k dM_isFrozen_51 (tgt := 4) rfl ?_
      exact kk
    refine jx_iload_n k dM_isFrozen_4 rfl ?_
    refine jx_iconst k dM_isFrozen_5 (v := 3) (by decide) ?_
    refine jx_icmp_ge k dM_isFrozen_6 (tgt := 54) rfl (fun hh => absurd hh (nI_ge (b := 3) h2 (by decide))) (fun _ => ?_)
    refine jx_iload_n k dM_isFrozen_9 rfl ?_
    refine jx_if_ne k dM_isFrozen_10 (tgt := 42) rfl (fun h3 => ?_) (fun h3 => ?_)
    · have hg : g = true := by cases g with | true => rfl | false => exact absurd rfl h3
      subst hg
      refine jx_iconst k dM_isFrozen_42 (v := 1) (by decide) ?_
      refine jx_goto k dM_isFrozen_43 (tgt := 47) rfl ?_
      exact k47 _ (by rw [jb_t (by simp [mz_f])])
    · have hg : g = false := by cases g with | false => rfl | true => exact absurd h3 (by decide)
      subst hg
      refine jx_aload_n k dM_isFrozen_13 rfl ?_
      refine rm_get k fM_71 dM_isFrozen_14 rfl ?_
      refine jx_iload_n k dM_isFrozen_17 rfl ?_
      refine rm_zld k dM_isFrozen_18 (by decide) rfl (p := p) rfl (by omega) (by decide) ?_
      refine jx_if_eq k dM_isFrozen_19 (tgt := 46) rfl (fun h4 => ?_) (fun h4 => ?_)
      · refine jx_iconst k dM_isFrozen_46 (v := 0) (by decide) ?_
        exact k47 _ (by rw [jb_f (by simp [mz_f, h4])])
      · refine jx_iload_n k dM_isFrozen_22 rfl ?_
        refine jx_aload_n k dM_isFrozen_23 rfl ?_
        refine rm_get k fM_74 dM_isFrozen_24 rfl ?_
        refine jx_iload_n k dM_isFrozen_27 rfl ?_
        refine rm_ild k dM_isFrozen_28 (by decide) rfl (p := p) rfl (by omega) (by decide) ?_
        refine jx_icmp_lt k dM_isFrozen_29 (tgt := 46) rfl (fun h5 => ?_) (fun h5 => ?_)
        · refine jx_iconst k dM_isFrozen_46 (v := 0) (by decide) ?_
          exact k47 _ (by rw [jb_f (by simp [mz_f, Int32.not_le.mpr h5])])
        · have h5 := Int32.not_lt.mp h5
          refine jx_iload_n k dM_isFrozen_32 rfl ?_
          refine jx_aload_n k dM_isFrozen_33 rfl ?_
          refine rm_get k fM_77 dM_isFrozen_34 rfl ?_
          refine jx_iload_n k dM_isFrozen_37 rfl ?_
          refine rm_ild k dM_isFrozen_38 (by decide) rfl (p := p) rfl (by omega) (by decide) ?_
          refine jx_icmp_gt k dM_isFrozen_39 (tgt := 46) rfl (fun h6 => ?_) (fun h6 => ?_)
          · refine jx_iconst k dM_isFrozen_46 (v := 0) (by decide) ?_
            exact k47 _ (by rw [jb_f (by simp [mz_f, Int32.not_le.mpr h6])])
          · have h6 := Int32.not_lt.mp h6
            refine jx_iconst k dM_isFrozen_42 (v := 1) (by decide) ?_
            refine jx_goto k dM_isFrozen_43 (tgt := 47) rfl ?_
            exact k47 _ (by rw [jb_t (by simp [mz_f, h4, h5, h6])])
  · refine jx_iload_n k dM_isFrozen_4 rfl ?_
    refine jx_iconst k dM_isFrozen_5 (v := 3) (by decide) ?_
    refine jx_icmp_ge k dM_isFrozen_6 (tgt := 54) rfl (fun _ => ?_) (fun hh => absurd (nI_le (a := 3) (b := 3) (by decide) (by decide)) hh)
    refine jx_iload_n k dM_isFrozen_54 rfl ?_
    exact jx_zret k dM_isFrozen_55 (jb_n _) (Nat.le_refl _) (Nat.le_refl _) ⟨rfl, rfl, rfl⟩
