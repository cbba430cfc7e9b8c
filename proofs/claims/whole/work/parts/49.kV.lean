/-- a helper's end where nothing was thrown -/
def hq (E : jx_E) (x : Nat) (G : jx_H) (w : Nat → Int64) (Ps : Int64 → jx_H → Nat → Prop) : Option Value → jx_H → Nat → Prop := fun v G' sz' => v = some (.int 0) ∧ ∃ (r : Int64) (G1 : jx_H), fr x G G1 ∧ G' = va_up G1 (x + 51) (some (ja_l E 1 (vp_updL w 0 r))) ∧ Ps r G1 sz'
def jb_l (c : Prop) [Decidable c] : Int64 := if c then 1 else 0
set_option maxRecDepth 100000 in
theorem h1_sentence (l : Launch) (E : jx_E) (b : Nat) (G : jx_H) (sz : Nat) (x : Nat) (uw : Nat) (fo : Option Nat) (ca : Nat) (co : Int32) (lo : Nat) (lc : Int32) (kn : Option Nat) (on cut : Int32) (u f g fl : Nat → Int32) (h : Nat → Nat → Option Nat) (sp : Nat → Nat → Int32) (β : Nat → bd_T) (ρ : Nat → Nat → Int32) (D P : Nat → Prop) (hC : Cl E x G sz uw fo ca co lo lc kn on cut u f g fl h sp β ρ D P) (h1 : on = 1) (w : Nat → Int64) (hO : G (x + 51) = some (ja_l E 1 w)) (src : Int32) (y : Int64) : jx_cw l E b yL_sentence cL_sentence 6 (some .int) [(0, 11, 14, 13)] 3 0 0 [.ref x, .int src, .long y, .ref (x + 51)] G sz (hq E x G w (fun r G1 sz1 => r = (if ka_se β uw src y then nI (d_sn β uw + 1) else -1).toInt64 ∧ sz1 = sz ∧ Cl E x G1 sz uw fo ca co lo lc kn on cut u f g fl h sp (if ka_se β uw src y then va_up β uw (bd_se (β uw) src y) else β) ρ D P)) := by
  refine jx_metW (by decide +kernel) (Nat.le_of_ble_eq_true rfl) (L0 := [_, _, _, _, _, _]) rfl (fun X k _ => ?_)
  refine jx_aload k dL_sentence_0 rfl ?_
  refine jx_iconst k dL_sentence_2 (v := 0) (by decide) ?_
  refine jx_aload_n k dL_sentence_3 rfl ?_
  refine jx_iload_n k dL_sentence_4 rfl ?_
  refine jx_lload_n k dL_sentence_5 rfl ?_
  refine jx_callV k mL_7 (k_sentence _ _ _ _ _ x uw fo ca co lo lc kn on cut u f g fl h sp β ρ D P hC h1 src y) hC.1.1 rfl dL_sentence_6 rfl rfl rfl (Nat.le_of_ble_eq_true rfl) ⟨Nat.le_of_ble_eq_true rfl, Nat.le_of_ble_eq_true rfl⟩ ⟨Nat.le_of_ble_eq_true rfl, Nat.le_of_ble_eq_true rfl⟩ ?_
  rintro v G1 sz1 ⟨rfl, rfl, hC1, hf⟩
  refine jx_i2l k dL_sentence_9 ?_
  refine jx_lstN k dL_sentence_10 ((hf _ (by omega) (by omega)).trans hO) (p := 0) rfl (by omega) (by decide) ?_
  refine jx_goto k dL_sentence_11 (tgt := 18) rfl ?_
  refine jx_iconst k dL_sentence_18 (v := 0) (by decide) ?_
  exact jx_iret k dL_sentence_19 (Nat.le_refl _) (Nat.le_refl _) ⟨rfl, _, G1, hf, rfl, rfl, rfl, hC1⟩
set_option maxRecDepth 100000 in
theorem h1_freeze0 (l : Launch) (E : jx_E) (b : Nat) (G : jx_H) (sz : Nat) (x : Nat) (uw : Nat) (fo : Option Nat) (ca : Nat) (co : Int32) (lo : Nat) (lc : Int32) (kn : Option Nat) (on cut : Int32) (u f g fl : Nat → Int32) (h : Nat → Nat → Option Nat) (sp : Nat → Nat → Int32) (β : Nat → bd_T) (ρ : Nat → Nat → Int32) (D P : Nat → Prop) (hC : Cl E x G sz uw fo ca co lo lc kn on cut u f g fl h sp β ρ D P) (h1 : on = 1) (w : Nat → Int64) (hO : G (x + 51) = some (ja_l E 1 w)) (bf af : Int32) (hr : ¬ ka_fr bf af ∨ fz_un u = -1) : jx_cw l E b yL_freeze cL_freeze 5 (some .int) [(0, 10, 13, 13)] 3 0 0 [.ref x, .int bf, .int af, .ref (x + 51)] G sz (hq E x G w (fun r G1 sz1 => r = (-1 : Int32).toInt64 ∧ sz1 = sz ∧ G1 = G)) := by
  refine jx_metW (by decide +kernel) (Nat.le_of_ble_eq_true rfl) (L0 := [_, _, _, _, _]) rfl (fun X k _ => ?_)
  refine jx_aload_n k dL_freeze_0 rfl ?_
  refine jx_iconst k dL_freeze_1 (v := 0) (by decide) ?_
  refine jx_aload_n k dL_freeze_2 rfl ?_
  refine jx_iload_n k dL_freeze_3 rfl ?_
  refine jx_iload_n k dL_freeze_4 rfl ?_
  refine jx_callV k mL_37 (k_freeze0 _ _ _ _ _ x uw fo ca co lo lc kn on cut u f g fl h sp β ρ D P hC h1 bf af hr) hC.1.1 rfl dL_freeze_5 rfl rfl rfl (Nat.le_of_ble_eq_true rfl) ⟨Nat.le_of_ble_eq_true rfl, Nat.le_of_ble_eq_true rfl⟩ ⟨Nat.le_of_ble_eq_true rfl, Nat.le_of_ble_eq_true rfl⟩ ?_
  rintro v G1 sz1 ⟨rfl, rfl, rfl⟩
  refine jx_i2l k dL_freeze_8 ?_
  refine jx_lstN k dL_freeze_9 hO (p := 0) rfl (by omega) (by decide) ?_
  refine jx_goto k dL_freeze_10 (tgt := 17) rfl ?_
  refine jx_iconst k dL_freeze_17 (v := 0) (by decide) ?_
  exact jx_iret k dL_freeze_18 (Nat.le_refl _) (Nat.le_refl _) ⟨rfl, _, _, fr_rf, rfl, rfl, rfl, rfl⟩
set_option maxRecDepth 100000 in
theorem h1_freeze1 (l : Launch) (E : jx_E) (b : Nat) (G : jx_H) (sz : Nat) (x : Nat) (uw : Nat) (fo : Option Nat) (ca : Nat) (co : Int32) (lo : Nat) (lc : Int32) (kn : Option Nat) (on cut : Int32) (u f g fl : Nat → Int32) (h : Nat → Nat → Option Nat) (sp : Nat → Nat → Int32) (β : Nat → bd_T) (ρ : Nat → Nat → Int32) (D P : Nat → Prop) (hC : Cl E x G sz uw fo ca co lo lc kn on cut u f g fl h sp β ρ D P) (h1 : on = 1) (w : Nat → Int64) (hO : G (x + 51) = some (ja_l E 1 w)) (bf af : Int32) (hr : ka_fr bf af) (j : Nat) (hj3 : j < 3) (hu : fz_un u = nI j) : jx_cw l E b yL_freeze cL_freeze 5 (some .int) [(0, 10, 13, 13)] 5 0 0 [.ref x, .int bf, .int af, .ref (x + 51)] G sz (hq E x G w (fun r G1 sz1 => sz1 = sz ∧ if 20 < kf_n (upd u j 1) (ka_f1 f β uw j bf) (ka_g1 g β uw j af) β uw h then r = (-1 : Int32).toInt64 ∧ Cl E x G1 sz uw fo ca co lo lc kn on cut (upd (upd u j 1) j 0) (ka_f1 f β uw j bf) (ka_g1 g β uw j af) fl h sp β ρ D P else r = (nI j).toInt64 ∧ Cl E x G1 sz uw fo ca co lo lc kn on cut (upd u j 1) (ka_f1 f β uw j bf) (ka_g1 g β uw j af) fl h sp β ρ D P)) := by
  refine jx_metW (by decide +kernel) (Nat.le_of_ble_eq_true rfl) (L0 := [_, _, _, _, _]) rfl (fun X k _ => ?_)
  refine jx_aload_n k dL_freeze_0 rfl ?_
  refine jx_iconst k dL_freeze_1 (v := 0) (by decide) ?_
  refine jx_aload_n k dL_freeze_2 rfl ?_
  refine jx_iload_n k dL_freeze_3 rfl ?_
  refine jx_iload_n k dL_freeze_4 rfl ?_
  refine jx_callV k mL_37 (k_freeze1 _ _ _ _ _ x uw fo ca co lo lc kn on cut u f g fl h sp β ρ D P hC h1 bf af hr j hj3 hu) hC.1.1 rfl dL_freeze_5 rfl rfl rfl (Nat.le_of_ble_eq_true rfl) ⟨Nat.le_of_ble_eq_true rfl, Nat.le_of_ble_eq_true rfl⟩ ⟨Nat.le_of_ble_eq_true rfl, Nat.le_of_ble_eq_true rfl⟩ ?_
  rintro v G1 sz1 ⟨rfl, hf, hq1⟩
  by_cases hk : 20 < kf_n (upd u j 1) (ka_f1 f β uw j bf) (ka_g1 g β uw j af) β uw h
  · rw [if_pos hk] at hq1
    obtain ⟨rfl, hC1⟩ := hq1
    refine jx_i2l k dL_freeze_8 ?_
    refine jx_lstN k dL_freeze_9 ((hf _ (by omega) (by omega)).trans hO) (p := 0) rfl (by omega) (by decide) ?_
    refine jx_goto k dL_freeze_10 (tgt := 17) rfl ?_
    refine jx_iconst k dL_freeze_17 (v := 0) (by decide) ?_
    exact jx_iret k dL_freeze_18 (Nat.le_refl _) (Nat.le_refl _) ⟨rfl, _, G1, hf, rfl, rfl, by rw [if_pos hk]; exact ⟨rfl, hC1⟩⟩
  · rw [if_neg hk] at hq1
    obtain ⟨rfl, hC1⟩ := hq1
    refine jx_i2l k dL_freeze_8 ?_
    refine jx_lstN k dL_freeze_9 ((hf _ (by omega) (by omega)).trans hO) (p := 0) rfl (by omega) (by decide) ?_
    refine jx_goto k dL_freeze_10 (tgt := 17) rfl ?_
    refine jx_iconst k dL_freeze_17 (v := 0) (by decide) ?_
    exact jx_iret k dL_freeze_18 (Nat.le_refl _) (Nat.le_refl _) ⟨rfl, _, G1, hf, rfl, rfl, by rw [if_neg hk]; exact ⟨rfl, hC1⟩⟩
set_option maxRecDepth 100000 in
theorem h1_second (l : Launch) (E : jx_E) (b : Nat) (G : jx_H) (sz : Nat) (x : Nat) (uw : Nat) (fo : Option Nat) (ca : Nat) (co : Int32) (lo : Nat) (lc : Int32) (kn : Option Nat) (on cut : Int32) (u f g fl : Nat → Int32) (h : Nat → Nat → Option Nat) (sp : Nat → Nat → Int32) (β : Nat → bd_T) (ρ : Nat → Nat → Int32) (D P : Nat → Prop) (hC : Cl E x G sz uw fo ca co lo lc kn on cut u f g fl h sp β ρ D P) (h1 : on = 1) (w : Nat → Int64) (hO : G (x + 51) = some (ja_l E 1 w)) (t : Int32) (ht1 : ¬ t ≤ d_tm β uw) (ht2 : t ≤ 9999) : jx_cw l E b yL_second cL_second 4 (some .int) [(0, 9, 12, 13), (0, 9, 15, 35)] 7 9 47 [.ref x, .int t, .ref (x + 51)] G sz (hq E x G w (fun r G1 sz1 => ∃ r0 : Int32, r = r0.toInt64 ∧ k2_Q E x G sz t uw fo ca co lo lc kn u f g fl β ρ D P (k2_b fo β ρ uw co) (k2_f fo β uw) (kw_s u f g fl (k2_b fo β ρ uw co) uw 3 0 (0, h, sp, on, cut)) (some (.int r0)) G1 sz1)) := by
  refine jx_metW (by decide +kernel) (Nat.le_of_ble_eq_true rfl) (L0 := [_, _, _, _]) rfl (fun X k _ => ?_)
  refine jx_aload_n k dL_second_0 rfl ?_
  refine jx_iconst k dL_second_1 (v := 0) (by decide) ?_
  refine jx_aload_n k dL_second_2 rfl ?_
  refine jx_iload_n k dL_second_3 rfl ?_
  refine jx_callV k mL_31 (k_second1 _ _ _ _ _ x uw fo ca co lo lc kn on cut u f g fl h sp β ρ D P hC h1 t ht1 ht2) hC.1.1 rfl dL_second_4 rfl rfl rfl (Nat.le_of_ble_eq_true rfl) ⟨Nat.le_of_ble_eq_true rfl, Nat.le_of_ble_eq_true rfl⟩ ⟨Nat.le_of_ble_eq_true rfl, Nat.le_of_ble_eq_true rfl⟩ ?_
  intro v G1 sz1 hq1
  have hv : ∃ r0 : Int32, v = some (.int r0) := by
    obtain ⟨z0, ρ', P', _, _, _, hh⟩ := hq1
    split at hh
    · exact ⟨_, hh.1⟩
    · exact ⟨_, hh.1⟩
  obtain ⟨r0, rfl⟩ := hv
  have hf : fr x G G1 := by
    obtain ⟨z0, ρ', P', _, hf, _, _⟩ := hq1
    exact hf
  refine jx_i2l k dL_second_7 ?_
  refine jx_lstN k dL_second_8 ((hf _ (by omega) (by omega)).trans hO) (p := 0) rfl (by omega) (by decide) ?_
  refine jx_goto k dL_second_9 (tgt := 18) rfl ?_
  refine jx_iconst k dL_second_18 (v := 0) (by decide) ?_
  exact jx_iret k dL_second_19 (Nat.le_refl _) (Nat.le_refl _) ⟨rfl, _, G1, hf, rfl, r0, rfl, hq1⟩
theorem jb_10 : ¬ (1 : Int32) = 0 := by decide
set_option maxRecDepth 100000 in
theorem h1_sound (l : Launch) (E : jx_E) (b : Nat) (G : jx_H) (sz : Nat) (x : Nat) (uw : Nat) (fo : Option Nat) (ca : Nat) (co : Int32) (lo : Nat) (lc : Int32) (kn : Option Nat) (on cut : Int32) (u f g fl : Nat → Int32) (h : Nat → Nat → Option Nat) (sp : Nat → Nat → Int32) (β : Nat → bd_T) (ρ : Nat → Nat → Int32) (D P : Nat → Prop) (hC : Cl E x G sz uw fo ca co lo lc kn on cut u f g fl h sp β ρ D P) (h1 : on = 1) (w : Nat → Int64) (hO : G (x + 51) = some (ja_l E 1 w)) (c q v : Int32) : jx_cw l E b yL_sound cL_sound 6 (some .int) [(0, 19, 22, 13)] 4 0 0 [.ref x, .int c, .int q, .int v, .ref (x + 51)] G sz (hq E x G w (fun r G1 sz1 => r = jb_l (ka_sd c q v) ∧ sz1 = sz ∧ Cl E x G1 sz uw fo ca co lo lc kn on cut u f g fl h sp (if ka_sd c q v then va_up β uw (bd_sd (β uw) c.toNatClampNeg q.toNatClampNeg v) else β) ρ D P)) := by
  refine jx_metW (by decide +kernel) (Nat.le_of_ble_eq_true rfl) (L0 := [_, _, _, _, _, _]) rfl (fun X k _ => ?_)
  refine jx_aload k dL_sound_0 rfl ?_
  refine jx_iconst k dL_sound_2 (v := 0) (by decide) ?_
  refine jx_aload_n k dL_sound_3 rfl ?_
  refine jx_iload_n k dL_sound_4 rfl ?_
  refine jx_iload_n k dL_sound_5 rfl ?_
  refine jx_iload_n k dL_sound_6 rfl ?_
  refine jx_callV k mL_15 (k_sound _ _ _ _ _ x uw fo ca co lo lc kn on cut u f g fl h sp β ρ D P hC h1 c q v) hC.1.1 rfl dL_sound_7 rfl rfl rfl (Nat.le_of_ble_eq_true rfl) ⟨Nat.le_of_ble_eq_true rfl, Nat.le_of_ble_eq_true rfl⟩ ⟨Nat.le_of_ble_eq_true rfl, Nat.le_of_ble_eq_true rfl⟩ ?_
  rintro v G1 sz1 ⟨rfl, rfl, hC1, hf⟩
  by_cases hk : ka_sd c q v
  · rw [jb_t hk]
    refine jx_if_eq k dL_sound_10 (tgt := 17) rfl (fun hh => absurd hh jb_10) (fun _ => ?_)
    refine jx_lconst k dL_sound_13 (v := 1) (by decide) ?_
    refine jx_goto k dL_sound_14 (tgt := 18) rfl ?_
    refine jx_lstN k dL_sound_18 ((hf _ (by omega) (by omega)).trans hO) (p := 0) rfl (by omega) (by decide) ?_
    refine jx_goto k dL_sound_19 (tgt := 26) rfl ?_
    refine jx_iconst k dL_sound_26 (v := 0) (by decide) ?_
    exact jx_iret k dL_sound_27 (Nat.le_refl _) (Nat.le_refl _) ⟨rfl, _, G1, hf, rfl, (if_pos hk).symm, rfl, hC1⟩
  · rw [jb_f hk]
    refine jx_if_eq k dL_sound_10 (tgt := 17) rfl (fun _ => ?_) (fun hh => absurd rfl hh)
    refine jx_lconst k dL_sound_17 (v := 0) (by decide) ?_
    refine jx_lstN k dL_sound_18 ((hf _ (by omega) (by omega)).trans hO) (p := 0) rfl (by omega) (by decide) ?_
    refine jx_goto k dL_sound_19 (tgt := 26) rfl ?_
    refine jx_iconst k dL_sound_26 (v := 0) (by decide) ?_
    exact jx_iret k dL_sound_27 (Nat.le_refl _) (Nat.le_refl _) ⟨rfl, _, G1, hf, rfl, (if_neg hk).symm, rfl, hC1⟩
set_option maxRecDepth 100000 in
theorem h1_paint (l : Launch) (E : jx_E) (b : Nat) (G : jx_H) (sz : Nat) (x : Nat) (uw : Nat) (fo : Option Nat) (ca : Nat) (co : Int32) (lo : Nat) (lc : Int32) (kn : Option Nat) (on cut : Int32) (u f g fl : Nat → Int32) (h : Nat → Nat → Option Nat) (sp : Nat → Nat → Int32) (β : Nat → bd_T) (ρ : Nat → Nat → Int32) (D P : Nat → Prop) (hC : Cl E x G sz uw fo ca co lo lc kn on cut u f g fl h sp β ρ D P) (h1 : on = 1) (w : Nat → Int64) (hO : G (x + 51) = some (ja_l E 1 w)) (i c : Int32) : jx_cw l E b yL_paint cL_paint 5 (some .int) [(0, 17, 20, 13)] 3 0 0 [.ref x, .int i, .int c, .ref (x + 51)] G sz (hq E x G w (fun r G1 sz1 => r = jb_l (ka_pa i c) ∧ sz1 = sz ∧ Cl E x G1 sz uw fo ca co lo lc kn on cut u f g fl h sp β (if ka_pa i c then va_up ρ ca (upd (ρ ca) i.toNatClampNeg c) else ρ) D P)) := by
  refine jx_metW (by decide +kernel) (Nat.le_of_ble_eq_true rfl) (L0 := [_, _, _, _, _]) rfl (fun X k _ => ?_)
  refine jx_aload_n k dL_paint_0 rfl ?_
  refine jx_iconst k dL_paint_1 (v := 0) (by decide) ?_
  refine jx_aload_n k dL_paint_2 rfl ?_
  refine jx_iload_n k dL_paint_3 rfl ?_
  refine jx_iload_n k dL_paint_4 rfl ?_
  refine jx_callV k mL_19 (k_paint _ _ _ _ _ x uw fo ca co lo lc kn on cut u f g fl h sp β ρ D P hC h1 i c) hC.1.1 rfl dL_paint_5 rfl rfl rfl (Nat.le_of_ble_eq_true rfl) ⟨Nat.le_of_ble_eq_true rfl, Nat.le_of_ble_eq_true rfl⟩ ⟨Nat.le_of_ble_eq_true rfl, Nat.le_of_ble_eq_true rfl⟩ ?_
  rintro v G1 sz1 ⟨rfl, rfl, hC1, hf⟩
  by_cases hk : ka_pa i c
  · rw [jb_t hk]
    refine jx_if_eq k dL_paint_8 (tgt := 15) rfl (fun hh => absurd hh jb_10) (fun _ => ?_)
    refine jx_lconst k dL_paint_11 (v := 1) (by decide) ?_
    refine jx_goto k dL_paint_12 (tgt := 16) rfl ?_
    refine jx_lstN k dL_paint_16 ((hf _ (by omega) (by omega)).trans hO) (p := 0) rfl (by omega) (by decide) ?_
    refine jx_goto k dL_paint_17 (tgt := 24) rfl ?_
    refine jx_iconst k dL_paint_24 (v := 0) (by decide) ?_
    exact jx_iret k dL_paint_25 (Nat.le_refl _) (Nat.le_refl _) ⟨rfl, _, G1, hf, rfl, (if_pos hk).symm, rfl, hC1⟩
  · rw [jb_f hk]
    refine jx_if_eq k dL_paint_8 (tgt := 15) rfl (fun _ => ?_) (fun hh => absurd rfl hh)
    refine jx_lconst k dL_paint_15 (v := 0) (by decide) ?_
    refine jx_lstN k dL_paint_16 ((hf _ (by omega) (by omega)).trans hO) (p := 0) rfl (by omega) (by decide) ?_
    refine jx_goto k dL_paint_17 (tgt := 24) rfl ?_
    refine jx_iconst k dL_paint_24 (v := 0) (by decide) ?_
    exact jx_iret k dL_paint_25 (Nat.le_refl _) (Nat.le_refl _) ⟨rfl, _, G1, hf, rfl, (if_neg hk).symm, rfl, hC1⟩
set_option maxRecDepth 100000 in
theorem h1_contact (l : Launch) (E : jx_E) (b : Nat) (G : jx_H) (sz : Nat) (x : Nat) (uw : Nat) (fo : Option Nat) (ca : Nat) (co : Int32) (lo : Nat) (lc : Int32) (kn : Option Nat) (on cut : Int32) (u f g fl : Nat → Int32) (h : Nat → Nat → Option Nat) (sp : Nat → Nat → Int32) (β : Nat → bd_T) (ρ : Nat → Nat → Int32) (D P : Nat → Prop) (hC : Cl E x G sz uw fo ca co lo lc kn on cut u f g fl h sp β ρ D P) (h1 : on = 1) (w : Nat → Int64) (hO : G (x + 51) = some (ja_l E 1 w)) (i z : Int32) : jx_cw l E b yL_contact cL_contact 5 (some .int) [(0, 17, 20, 13)] 3 0 0 [.ref x, .int i, .int z, .ref (x + 51)] G sz (hq E x G w (fun r G1 sz1 => r = jb_l (0 ≤ i ∧ i < 16) ∧ sz1 = sz ∧ Cl E x G1 sz uw fo ca (ka_ct co i z) lo lc kn on cut u f g fl h sp β ρ D P)) := by
  refine jx_metW (by decide +kernel) (Nat.le_of_ble_eq_true rfl) (L0 := [_, _, _, _, _]) rfl (fun X k _ => ?_)
  refine jx_aload_n k dL_contact_0 rfl ?_
  refine jx_iconst k dL_contact_1 (v := 0) (by decide) ?_
  refine jx_aload_n k dL_contact_2 rfl ?_
  refine jx_iload_n k dL_contact_3 rfl ?_
  refine jx_iload_n k dL_contact_4 rfl ?_
  refine jx_callV k mL_27 (k_contact _ _ _ _ _ x uw fo ca co lo lc kn on cut u f g fl h sp β ρ D P hC h1 i z) hC.1.1 rfl dL_contact_5 rfl rfl rfl (Nat.le_of_ble_eq_true rfl) ⟨Nat.le_of_ble_eq_true rfl, Nat.le_of_ble_eq_true rfl⟩ ⟨Nat.le_of_ble_eq_true rfl, Nat.le_of_ble_eq_true rfl⟩ ?_
  rintro v G1 sz1 ⟨rfl, rfl, hC1, hf⟩
  by_cases hk : 0 ≤ i ∧ i < 16
  · rw [jb_t hk]
    refine jx_if_eq k dL_contact_8 (tgt := 15) rfl (fun hh => absurd hh jb_10) (fun _ => ?_)
    refine jx_lconst k dL_contact_11 (v := 1) (by decide) ?_
    refine jx_goto k dL_contact_12 (tgt := 16) rfl ?_
    refine jx_lstN k dL_contact_16 ((hf _ (by omega) (by omega)).trans hO) (p := 0) rfl (by omega) (by decide) ?_
    refine jx_goto k dL_contact_17 (tgt := 24) rfl ?_
    refine jx_iconst k dL_contact_24 (v := 0) (by decide) ?_
    exact jx_iret k dL_contact_25 (Nat.le_refl _) (Nat.le_refl _) ⟨rfl, _, G1, hf, rfl, (if_pos hk).symm, rfl, hC1⟩
  · rw [jb_f hk]
    refine jx_if_eq k dL_contact_8 (tgt := 15) rfl (fun _ => ?_) (fun hh => absurd rfl hh)
    refine jx_lconst k dL_contact_15 (v := 0) (by decide) ?_
    refine jx_lstN k dL_contact_16 ((hf _ (by omega) (by omega)).trans hO) (p := 0) rfl (by omega) (by decide) ?_
    refine jx_goto k dL_contact_17 (tgt := 24) rfl ?_
    refine jx_iconst k dL_contact_24 (v := 0) (by decide) ?_
    exact jx_iret k dL_contact_25 (Nat.le_refl _) (Nat.le_refl _) ⟨rfl, _, G1, hf, rfl, (if_neg hk).symm, rfl, hC1⟩
set_option maxRecDepth 100000 in
theorem h1_release (l : Launch) (E : jx_E) (b : Nat) (G : jx_H) (sz : Nat) (x : Nat) (uw : Nat) (fo : Option Nat) (ca : Nat) (co : Int32) (lo : Nat) (lc : Int32) (kn : Option Nat) (on cut : Int32) (u f g fl : Nat → Int32) (h : Nat → Nat → Option Nat) (sp : Nat → Nat → Int32) (β : Nat → bd_T) (ρ : Nat → Nat → Int32) (D P : Nat → Prop) (hC : Cl E x G sz uw fo ca co lo lc kn on cut u f g fl h sp β ρ D P) (h1 : on = 1) (w : Nat → Int64) (hO : G (x + 51) = some (ja_l E 1 w)) (i : Int32) : jx_cw l E b yL_release cL_release 4 (some .int) [(0, 16, 19, 13)] 3 0 0 [.ref x, .int i, .ref (x + 51)] G sz (hq E x G w (fun r G1 sz1 => r = jb_l (ka_us u i) ∧ sz1 = sz ∧ Cl E x G1 sz uw fo ca co lo lc kn on cut (if ka_us u i then upd u i.toNatClampNeg 0 else u) f g fl h sp β ρ D P)) := by
  refine jx_metW (by decide +kernel) (Nat.le_of_ble_eq_true rfl) (L0 := [_, _, _, _]) rfl (fun X k _ => ?_)
  refine jx_aload_n k dL_release_0 rfl ?_
  refine jx_iconst k dL_release_1 (v := 0) (by decide) ?_
  refine jx_aload_n k dL_release_2 rfl ?_
  refine jx_iload_n k dL_release_3 rfl ?_
  refine jx_callV k mL_41 (k_release _ _ _ _ _ x uw fo ca co lo lc kn on cut u f g fl h sp β ρ D P hC h1 i) hC.1.1 rfl dL_release_4 rfl rfl rfl (Nat.le_of_ble_eq_true rfl) ⟨Nat.le_of_ble_eq_true rfl, Nat.le_of_ble_eq_true rfl⟩ ⟨Nat.le_of_ble_eq_true rfl, Nat.le_of_ble_eq_true rfl⟩ ?_
  rintro v G1 sz1 ⟨rfl, rfl, hC1, hf⟩
  by_cases hk : ka_us u i
  · rw [jb_t hk]
    refine jx_if_eq k dL_release_7 (tgt := 14) rfl (fun hh => absurd hh jb_10) (fun _ => ?_)
    refine jx_lconst k dL_release_10 (v := 1) (by decide) ?_
    refine jx_goto k dL_release_11 (tgt := 15) rfl ?_
    refine jx_lstN k dL_release_15 ((hf _ (by omega) (by omega)).trans hO) (p := 0) rfl (by omega) (by decide) ?_
    refine jx_goto k dL_release_16 (tgt := 22) rfl ?_
    refine jx_iconst k dL_release_22 (v := 0) (by decide) ?_
    exact jx_iret k dL_release_23 (Nat.le_refl _) (Nat.le_refl _) ⟨rfl, _, G1, hf, rfl, (if_pos hk).symm, rfl, hC1⟩
  · rw [jb_f hk]
    refine jx_if_eq k dL_release_7 (tgt := 14) rfl (fun _ => ?_) (fun hh => absurd rfl hh)
    refine jx_lconst k dL_release_14 (v := 0) (by decide) ?_
    refine jx_lstN k dL_release_15 ((hf _ (by omega) (by omega)).trans hO) (p := 0) rfl (by omega) (by decide) ?_
    refine jx_goto k dL_release_16 (tgt := 22) rfl ?_
    refine jx_iconst k dL_release_22 (v := 0) (by decide) ?_
    exact jx_iret k dL_release_23 (Nat.le_refl _) (Nat.le_refl _) ⟨rfl, _, G1, hf, rfl, (if_neg hk).symm, rfl, hC1⟩
set_option maxRecDepth 100000 in
theorem h1_show0 (l : Launch) (E : jx_E) (b : Nat) (G : jx_H) (sz : Nat) (x : Nat) (uw : Nat) (fo : Option Nat) (ca : Nat) (co : Int32) (lo : Nat) (lc : Int32) (kn : Option Nat) (on cut : Int32) (u f g fl : Nat → Int32) (h : Nat → Nat → Option Nat) (sp : Nat → Nat → Int32) (β : Nat → bd_T) (ρ : Nat → Nat → Int32) (D P : Nat → Prop) (hC : Cl E x G sz uw fo ca co lo lc kn on cut u f g fl h sp β ρ D P) (h1 : on = 1) (w : Nat → Int64) (hO : G (x + 51) = some (ja_l E 1 w)) (hp : d_po β uw ≠ none) : jx_cw l E b yL_show cL_show 3 (some .int) [(0, 15, 18, 13)] 3 0 0 [.ref x, .ref (x + 51)] G sz (hq E x G w (fun r G1 sz1 => r = 0 ∧ sz1 = sz ∧ G1 = G)) := by
  refine jx_metW (by decide +kernel) (Nat.le_of_ble_eq_true rfl) (L0 := [_, _, _]) rfl (fun X k _ => ?_)
  refine jx_aload_n k dL_show_0 rfl ?_
  refine jx_iconst k dL_show_1 (v := 0) (by decide) ?_
  refine jx_aload_n k dL_show_2 rfl ?_
  refine jx_callV k mL_23 (k_show0 _ _ _ _ _ x uw fo ca co lo lc kn on cut u f g fl h sp β ρ D P hC h1 hp) hC.1.1 rfl dL_show_3 rfl rfl rfl (Nat.le_of_ble_eq_true rfl) ⟨Nat.le_of_ble_eq_true rfl, Nat.le_of_ble_eq_true rfl⟩ ⟨Nat.le_of_ble_eq_true rfl, Nat.le_of_ble_eq_true rfl⟩ ?_
  rintro v G1 sz1 ⟨rfl, rfl, rfl⟩
  refine jx_if_eq k dL_show_6 (tgt := 13) rfl (fun _ => ?_) (fun hh => absurd rfl hh)
  refine jx_lconst k dL_show_13 (v := 0) (by decide) ?_
  refine jx_lstN k dL_show_14 hO (p := 0) rfl (by omega) (by decide) ?_
  refine jx_goto k dL_show_15 (tgt := 21) rfl ?_
  refine jx_iconst k dL_show_21 (v := 0) (by decide) ?_
  exact jx_iret k dL_show_22 (Nat.le_refl _) (Nat.le_refl _) ⟨rfl, _, _, fr_rf, rfl, rfl, rfl, rfl⟩
set_option maxRecDepth 100000 in
theorem h1_show1 (l : Launch) (E : jx_E) (b : Nat) (G : jx_H) (sz : Nat) (x : Nat) (uw : Nat) (fo : Option Nat) (ca : Nat) (co : Int32) (lo : Nat) (lc : Int32) (kn : Option Nat) (on cut : Int32) (u f g fl : Nat → Int32) (h : Nat → Nat → Option Nat) (sp : Nat → Nat → Int32) (β : Nat → bd_T) (ρ : Nat → Nat → Int32) (D P : Nat → Prop) (hC : Cl E x G sz uw fo ca co lo lc kn on cut u f g fl h sp β ρ D P) (h1 : on = 1) (w : Nat → Int64) (hO : G (x + 51) = some (ja_l E 1 w)) (hp : d_po β uw = none) : jx_cw l E b yL_show cL_show 3 (some .int) [(0, 15, 18, 13)] 4 2 9 [.ref x, .ref (x + 51)] G sz (hq E x G w (fun r G1 sz1 => r = 1 ∧ sz1 = sz + 2 ∧ Cl E x G1 (sz + 2) uw fo ca co lo lc kn on cut u f g fl h sp (va_up β uw (bd_po (β uw) (some sz))) (va_up ρ sz (va_cpy (ρ ca) (fun _ => 0) 0 0 8)) D (fun p => P p ∨ p = sz))) := by
  refine jx_metW (by decide +kernel) (Nat.le_of_ble_eq_true rfl) (L0 := [_, _, _]) rfl (fun X k _ => ?_)
  refine jx_aload_n k dL_show_0 rfl ?_
  refine jx_iconst k dL_show_1 (v := 0) (by decide) ?_
  refine jx_aload_n k dL_show_2 rfl ?_
  refine jx_callV k mL_23 (k_show1 _ _ _ _ _ x uw fo ca co lo lc kn on cut u f g fl h sp β ρ D P hC h1 hp) hC.1.1 rfl dL_show_3 rfl rfl rfl (Nat.le_of_ble_eq_true rfl) ⟨Nat.le_of_ble_eq_true rfl, Nat.le_of_ble_eq_true rfl⟩ ⟨Nat.le_of_ble_eq_true rfl, Nat.le_of_ble_eq_true rfl⟩ ?_
  rintro v G1 sz1 ⟨rfl, rfl, hC1, hf⟩
  refine jx_if_eq k dL_show_6 (tgt := 13) rfl (fun hh => absurd hh jb_10) (fun _ => ?_)
  refine jx_lconst k dL_show_9 (v := 1) (by decide) ?_
  refine jx_goto k dL_show_10 (tgt := 14) rfl ?_
  refine jx_lstN k dL_show_14 ((hf _ (by omega) (by omega)).trans hO) (p := 0) rfl (by omega) (by decide) ?_
  refine jx_goto k dL_show_15 (tgt := 21) rfl ?_
  refine jx_iconst k dL_show_21 (v := 0) (by decide) ?_
  exact jx_iret k dL_show_22 (Nat.le_refl _) (Nat.le_refl _) ⟨rfl, _, G1, hf, rfl, rfl, rfl, hC1⟩
theorem jt_csa : Cond.castable jt_A jt_A ∈ jn_TB := by
  have h1 := List.all_eq_true.mp jt_a2 (.castable jt_A jt_A) (by simp [Bundle.ownAtoms0])
  rw [show jt_x (.castable jt_A jt_A) = false from rfl, Bool.or_false, Bool.and_eq_true] at h1
  exact List.mem_filter.mpr ⟨by simpa using h1.1, h1.2⟩
theorem jt_tab2 {t : List ExceptionTableEntry} {a b c d a' b' c' d' : Nat} {r : List (Nat × Nat × Nat × Nat)} (h : t.map (fun h => (h.startPc, h.endPc, h.handlerPc, h.catchType)) = (a, b, c, d) :: (a', b', c', d') :: r) : ∃ x y xs, t = x :: y :: xs ∧ x.catchType = d ∧ y.startPc = a' ∧ y.endPc = b' ∧ y.handlerPc = c' ∧ y.catchType = d' := by
  cases t with
  | nil => cases h
  | cons x t =>
    cases t with
    | nil => simp at h
    | cons y xs =>
      simp only [List.map_cons, List.cons.injEq, Prod.mk.injEq] at h
      exact ⟨x, y, xs, rfl, h.1.2.2.2, h.2.1.1, h.2.1.2.1, h.2.1.2.2.1, h.2.1.2.2.2⟩
set_option maxRecDepth 100000 in
theorem h2_second (l : Launch) (E : jx_E) (b : Nat) (G : jx_H) (sz : Nat) (htr : ∀ e : Env, l.admits e → e.platform.stackTraces = false) (x o : Nat) (uw : Nat) (fo : Option Nat) (ca : Nat) (co : Int32) (lo : Nat) (lc : Int32) (kn : Option Nat) (on cut : Int32) (u f g fl : Nat → Int32) (h : Nat → Nat → Option Nat) (sp : Nat → Nat → Int32) (β : Nat → bd_T) (ρ : Nat → Nat → Int32) (D P : Nat → Prop) (hC : Cl E x G sz uw fo ca co lo lc kn on cut u f g fl h sp β ρ D P) (h1 : on = 1) (t : Int32) (ht : t ≤ d_tm β uw ∨ ¬ t ≤ 9999) : jx_cw l E b yL_second cL_second 4 (some .int) [(0, 9, 12, 13), (0, 9, 15, 35)] 8 1 6 [.ref x, .int t, .ref o] G sz (fun v G' sz' => v = some (.int 2) ∧ G' = G ∧ sz' = sz + 1) := by
  refine jx_metW (by decide +kernel) (Nat.le_of_ble_eq_true rfl) (L0 := [_, _, _, _]) rfl (fun X k htab => ?_)
  obtain ⟨xe, ye, xs, hxt, e0, e1, e2, e3, e4⟩ := jt_tab2 htab
  refine jx_aload_n k dL_second_0 rfl ?_
  refine jx_iconst k dL_second_1 (v := 0) (by decide) ?_
  refine jx_aload_n k dL_second_2 rfl ?_
  refine jx_iload_n k dL_second_3 rfl ?_
  refine jt_caught2 k hxt e0 (by decide) jn_377 rfl (by unfold covers; rw [e1, e2]; decide) e3 e4 (by decide) jn_507 jt_csa mL_31 jn_508 (k_second0 _ _ _ _ _ htr x uw fo ca co lo lc kn on cut u f g fl h sp β ρ D P hC h1 t ht) hC.1.1 rfl dL_second_4 rfl rfl rfl (Nat.le_of_ble_eq_true rfl) ⟨by decide, by decide⟩ ⟨by decide, by decide⟩ (fun ad => ?_)
  refine jx_astore_n k dL_second_15 (Nat.le_of_ble_eq_true rfl) rfl (L' := [_, _, _, _]) rfl ?_
  refine jx_iconst k dL_second_16 (v := 2) (by decide) ?_
  exact jx_iret k dL_second_17 (Nat.le_refl _) (Nat.le_refl _) ⟨rfl, rfl, rfl⟩
