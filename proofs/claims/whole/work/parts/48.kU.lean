theorem jt_cst : Cond.castable jt_S jt_S ∈ jn_TB := by
  have h1 := List.all_eq_true.mp jt_a1 (.castable jt_S jt_S) (by simp [Bundle.ownAtoms0])
  rw [show jt_x (.castable jt_S jt_S) = false from rfl, Bool.or_false, Bool.and_eq_true] at h1
  exact List.mem_filter.mpr ⟨by simpa using h1.1, h1.2⟩
theorem jt_tab {t : List ExceptionTableEntry} {a b c d : Nat} {r : List (Nat × Nat × Nat × Nat)} (h : t.map (fun h => (h.startPc, h.endPc, h.handlerPc, h.catchType)) = (a, b, c, d) :: r) : ∃ x xs, t = x :: xs ∧ x.startPc = a ∧ x.endPc = b ∧ x.handlerPc = c ∧ x.catchType = d := by
  cases t with
  | nil => cases h
  | cons x xs =>
    simp only [List.map_cons, List.cons.injEq, Prod.mk.injEq] at h
    exact ⟨x, xs, rfl, h.1.1, h.1.2.1, h.1.2.2.1, h.1.2.2.2⟩
set_option maxRecDepth 100000 in
theorem h0_sentence (l : Launch) (E : jx_E) (b : Nat) (G : jx_H) (sz : Nat) (htr : ∀ e : Env, l.admits e → e.platform.stackTraces = false) (x o : Nat) (uw : Nat) (fo : Option Nat) (ca : Nat) (co : Int32) (lo : Nat) (lc : Int32) (kn : Option Nat) (on cut : Int32) (u f g fl : Nat → Int32) (h : Nat → Nat → Option Nat) (sp : Nat → Nat → Int32) (β : Nat → bd_T) (ρ : Nat → Nat → Int32) (D P : Nat → Prop) (hC : Cl E x G sz uw fo ca co lo lc kn on cut u f g fl h sp β ρ D P) (h0 : on = 0) (src : Int32) (y : Int64) : jx_cw l E b yL_sentence cL_sentence 6 (some .int) [(0, 11, 14, 13)] 8 1 6 [.ref x, .int src, .long y, .ref o] G sz (fun v G' sz' => v = some (.int 1) ∧ G' = G ∧ sz' = sz + 1) := by
  refine jx_metW (by decide +kernel) (Nat.le_of_ble_eq_true rfl) (L0 := [_, _, _, _, _, _]) rfl (fun X k htab => ?_)
  obtain ⟨xe, xs, hxt, e1, e2, e3, e4⟩ := jt_tab htab
  refine jx_aload k dL_sentence_0 rfl ?_
  refine jx_iconst k dL_sentence_2 (v := 0) (by decide) ?_
  refine jx_aload_n k dL_sentence_3 rfl ?_
  refine jx_iload_n k dL_sentence_4 rfl ?_
  refine jx_lload_n k dL_sentence_5 rfl ?_
  refine jt_caught k hxt (by unfold covers; rw [e1, e2]; decide) e3 e4 (by decide) jn_377 jt_cst mL_7 jn_378 (kt_sentence _ _ _ _ _ htr x uw fo ca co lo lc kn on cut u f g fl h sp β ρ D P hC h0 src y) hC.1.1 rfl dL_sentence_6 rfl rfl rfl (Nat.le_of_ble_eq_true rfl) ⟨by decide, by decide⟩ ⟨by decide, by decide⟩ (fun ad => ?_)
  refine jx_astore k dL_sentence_14 (Nat.le_of_ble_eq_true rfl) rfl (L' := [_, _, _, _, _, _]) rfl ?_
  refine jx_iconst k dL_sentence_16 (v := 1) (by decide) ?_
  exact jx_iret k dL_sentence_17 (Nat.le_refl _) (Nat.le_refl _) ⟨rfl, rfl, rfl⟩
set_option maxRecDepth 100000 in
theorem h0_sound (l : Launch) (E : jx_E) (b : Nat) (G : jx_H) (sz : Nat) (htr : ∀ e : Env, l.admits e → e.platform.stackTraces = false) (x o : Nat) (uw : Nat) (fo : Option Nat) (ca : Nat) (co : Int32) (lo : Nat) (lc : Int32) (kn : Option Nat) (on cut : Int32) (u f g fl : Nat → Int32) (h : Nat → Nat → Option Nat) (sp : Nat → Nat → Int32) (β : Nat → bd_T) (ρ : Nat → Nat → Int32) (D P : Nat → Prop) (hC : Cl E x G sz uw fo ca co lo lc kn on cut u f g fl h sp β ρ D P) (h0 : on = 0) (c q v : Int32) : jx_cw l E b yL_sound cL_sound 6 (some .int) [(0, 19, 22, 13)] 8 1 6 [.ref x, .int c, .int q, .int v, .ref o] G sz (fun v G' sz' => v = some (.int 1) ∧ G' = G ∧ sz' = sz + 1) := by
  refine jx_metW (by decide +kernel) (Nat.le_of_ble_eq_true rfl) (L0 := [_, _, _, _, _, _]) rfl (fun X k htab => ?_)
  obtain ⟨xe, xs, hxt, e1, e2, e3, e4⟩ := jt_tab htab
  refine jx_aload k dL_sound_0 rfl ?_
  refine jx_iconst k dL_sound_2 (v := 0) (by decide) ?_
  refine jx_aload_n k dL_sound_3 rfl ?_
  refine jx_iload_n k dL_sound_4 rfl ?_
  refine jx_iload_n k dL_sound_5 rfl ?_
  refine jx_iload_n k dL_sound_6 rfl ?_
  refine jt_caught k hxt (by unfold covers; rw [e1, e2]; decide) e3 e4 (by decide) jn_377 jt_cst mL_15 jn_461 (kt_sound _ _ _ _ _ htr x uw fo ca co lo lc kn on cut u f g fl h sp β ρ D P hC h0 c q v) hC.1.1 rfl dL_sound_7 rfl rfl rfl (Nat.le_of_ble_eq_true rfl) ⟨by decide, by decide⟩ ⟨by decide, by decide⟩ (fun ad => ?_)
  refine jx_astore k dL_sound_22 (Nat.le_of_ble_eq_true rfl) rfl (L' := [_, _, _, _, _, _]) rfl ?_
  refine jx_iconst k dL_sound_24 (v := 1) (by decide) ?_
  exact jx_iret k dL_sound_25 (Nat.le_refl _) (Nat.le_refl _) ⟨rfl, rfl, rfl⟩
set_option maxRecDepth 100000 in
theorem h0_paint (l : Launch) (E : jx_E) (b : Nat) (G : jx_H) (sz : Nat) (htr : ∀ e : Env, l.admits e → e.platform.stackTraces = false) (x o : Nat) (uw : Nat) (fo : Option Nat) (ca : Nat) (co : Int32) (lo : Nat) (lc : Int32) (kn : Option Nat) (on cut : Int32) (u f g fl : Nat → Int32) (h : Nat → Nat → Option Nat) (sp : Nat → Nat → Int32) (β : Nat → bd_T) (ρ : Nat → Nat → Int32) (D P : Nat → Prop) (hC : Cl E x G sz uw fo ca co lo lc kn on cut u f g fl h sp β ρ D P) (h0 : on = 0) (i c : Int32) : jx_cw l E b yL_paint cL_paint 5 (some .int) [(0, 17, 20, 13)] 8 1 6 [.ref x, .int i, .int c, .ref o] G sz (fun v G' sz' => v = some (.int 1) ∧ G' = G ∧ sz' = sz + 1) := by
  refine jx_metW (by decide +kernel) (Nat.le_of_ble_eq_true rfl) (L0 := [_, _, _, _, _]) rfl (fun X k htab => ?_)
  obtain ⟨xe, xs, hxt, e1, e2, e3, e4⟩ := jt_tab htab
  refine jx_aload_n k dL_paint_0 rfl ?_
  refine jx_iconst k dL_paint_1 (v := 0) (by decide) ?_
  refine jx_aload_n k dL_paint_2 rfl ?_
  refine jx_iload_n k dL_paint_3 rfl ?_
  refine jx_iload_n k dL_paint_4 rfl ?_
  refine jt_caught k hxt (by unfold covers; rw [e1, e2]; decide) e3 e4 (by decide) jn_377 jt_cst mL_19 jn_472 (kt_paint _ _ _ _ _ htr x uw fo ca co lo lc kn on cut u f g fl h sp β ρ D P hC h0 i c) hC.1.1 rfl dL_paint_5 rfl rfl rfl (Nat.le_of_ble_eq_true rfl) ⟨by decide, by decide⟩ ⟨by decide, by decide⟩ (fun ad => ?_)
  refine jx_astore k dL_paint_20 (Nat.le_of_ble_eq_true rfl) rfl (L' := [_, _, _, _, _]) rfl ?_
  refine jx_iconst k dL_paint_22 (v := 1) (by decide) ?_
  exact jx_iret k dL_paint_23 (Nat.le_refl _) (Nat.le_refl _) ⟨rfl, rfl, rfl⟩
set_option maxRecDepth 100000 in
theorem h0_show (l : Launch) (E : jx_E) (b : Nat) (G : jx_H) (sz : Nat) (htr : ∀ e : Env, l.admits e → e.platform.stackTraces = false) (x o : Nat) (uw : Nat) (fo : Option Nat) (ca : Nat) (co : Int32) (lo : Nat) (lc : Int32) (kn : Option Nat) (on cut : Int32) (u f g fl : Nat → Int32) (h : Nat → Nat → Option Nat) (sp : Nat → Nat → Int32) (β : Nat → bd_T) (ρ : Nat → Nat → Int32) (D P : Nat → Prop) (hC : Cl E x G sz uw fo ca co lo lc kn on cut u f g fl h sp β ρ D P) (h0 : on = 0)  : jx_cw l E b yL_show cL_show 3 (some .int) [(0, 15, 18, 13)] 8 1 6 [.ref x, .ref o] G sz (fun v G' sz' => v = some (.int 1) ∧ G' = G ∧ sz' = sz + 1) := by
  refine jx_metW (by decide +kernel) (Nat.le_of_ble_eq_true rfl) (L0 := [_, _, _]) rfl (fun X k htab => ?_)
  obtain ⟨xe, xs, hxt, e1, e2, e3, e4⟩ := jt_tab htab
  refine jx_aload_n k dL_show_0 rfl ?_
  refine jx_iconst k dL_show_1 (v := 0) (by decide) ?_
  refine jx_aload_n k dL_show_2 rfl ?_
  refine jt_caught k hxt (by unfold covers; rw [e1, e2]; decide) e3 e4 (by decide) jn_377 jt_cst mL_23 jn_484 (kt_show _ _ _ _ _ htr x uw fo ca co lo lc kn on cut u f g fl h sp β ρ D P hC h0 ) hC.1.1 rfl dL_show_3 rfl rfl rfl (Nat.le_of_ble_eq_true rfl) ⟨by decide, by decide⟩ ⟨by decide, by decide⟩ (fun ad => ?_)
  refine jx_astore_n k dL_show_18 (Nat.le_of_ble_eq_true rfl) rfl (L' := [_, _, _]) rfl ?_
  refine jx_iconst k dL_show_19 (v := 1) (by decide) ?_
  exact jx_iret k dL_show_20 (Nat.le_refl _) (Nat.le_refl _) ⟨rfl, rfl, rfl⟩
set_option maxRecDepth 100000 in
theorem h0_contact (l : Launch) (E : jx_E) (b : Nat) (G : jx_H) (sz : Nat) (htr : ∀ e : Env, l.admits e → e.platform.stackTraces = false) (x o : Nat) (uw : Nat) (fo : Option Nat) (ca : Nat) (co : Int32) (lo : Nat) (lc : Int32) (kn : Option Nat) (on cut : Int32) (u f g fl : Nat → Int32) (h : Nat → Nat → Option Nat) (sp : Nat → Nat → Int32) (β : Nat → bd_T) (ρ : Nat → Nat → Int32) (D P : Nat → Prop) (hC : Cl E x G sz uw fo ca co lo lc kn on cut u f g fl h sp β ρ D P) (h0 : on = 0) (i z : Int32) : jx_cw l E b yL_contact cL_contact 5 (some .int) [(0, 17, 20, 13)] 8 1 6 [.ref x, .int i, .int z, .ref o] G sz (fun v G' sz' => v = some (.int 1) ∧ G' = G ∧ sz' = sz + 1) := by
  refine jx_metW (by decide +kernel) (Nat.le_of_ble_eq_true rfl) (L0 := [_, _, _, _, _]) rfl (fun X k htab => ?_)
  obtain ⟨xe, xs, hxt, e1, e2, e3, e4⟩ := jt_tab htab
  refine jx_aload_n k dL_contact_0 rfl ?_
  refine jx_iconst k dL_contact_1 (v := 0) (by decide) ?_
  refine jx_aload_n k dL_contact_2 rfl ?_
  refine jx_iload_n k dL_contact_3 rfl ?_
  refine jx_iload_n k dL_contact_4 rfl ?_
  refine jt_caught k hxt (by unfold covers; rw [e1, e2]; decide) e3 e4 (by decide) jn_377 jt_cst mL_27 jn_500 (kt_contact _ _ _ _ _ htr x uw fo ca co lo lc kn on cut u f g fl h sp β ρ D P hC h0 i z) hC.1.1 rfl dL_contact_5 rfl rfl rfl (Nat.le_of_ble_eq_true rfl) ⟨by decide, by decide⟩ ⟨by decide, by decide⟩ (fun ad => ?_)
  refine jx_astore k dL_contact_20 (Nat.le_of_ble_eq_true rfl) rfl (L' := [_, _, _, _, _]) rfl ?_
  refine jx_iconst k dL_contact_22 (v := 1) (by decide) ?_
  exact jx_iret k dL_contact_23 (Nat.le_refl _) (Nat.le_refl _) ⟨rfl, rfl, rfl⟩
set_option maxRecDepth 100000 in
theorem h0_second (l : Launch) (E : jx_E) (b : Nat) (G : jx_H) (sz : Nat) (htr : ∀ e : Env, l.admits e → e.platform.stackTraces = false) (x o : Nat) (uw : Nat) (fo : Option Nat) (ca : Nat) (co : Int32) (lo : Nat) (lc : Int32) (kn : Option Nat) (on cut : Int32) (u f g fl : Nat → Int32) (h : Nat → Nat → Option Nat) (sp : Nat → Nat → Int32) (β : Nat → bd_T) (ρ : Nat → Nat → Int32) (D P : Nat → Prop) (hC : Cl E x G sz uw fo ca co lo lc kn on cut u f g fl h sp β ρ D P) (h0 : on = 0) (t : Int32) : jx_cw l E b yL_second cL_second 4 (some .int) [(0, 9, 12, 13), (0, 9, 15, 35)] 8 1 6 [.ref x, .int t, .ref o] G sz (fun v G' sz' => v = some (.int 1) ∧ G' = G ∧ sz' = sz + 1) := by
  refine jx_metW (by decide +kernel) (Nat.le_of_ble_eq_true rfl) (L0 := [_, _, _, _]) rfl (fun X k htab => ?_)
  obtain ⟨xe, xs, hxt, e1, e2, e3, e4⟩ := jt_tab htab
  refine jx_aload_n k dL_second_0 rfl ?_
  refine jx_iconst k dL_second_1 (v := 0) (by decide) ?_
  refine jx_aload_n k dL_second_2 rfl ?_
  refine jx_iload_n k dL_second_3 rfl ?_
  refine jt_caught k hxt (by unfold covers; rw [e1, e2]; decide) e3 e4 (by decide) jn_377 jt_cst mL_31 jn_508 (kt_second _ _ _ _ _ htr x uw fo ca co lo lc kn on cut u f g fl h sp β ρ D P hC h0 t) hC.1.1 rfl dL_second_4 rfl rfl rfl (Nat.le_of_ble_eq_true rfl) ⟨by decide, by decide⟩ ⟨by decide, by decide⟩ (fun ad => ?_)
  refine jx_astore_n k dL_second_12 (Nat.le_of_ble_eq_true rfl) rfl (L' := [_, _, _, _]) rfl ?_
  refine jx_iconst k dL_second_13 (v := 1) (by decide) ?_
  exact jx_iret k dL_second_14 (Nat.le_refl _) (Nat.le_refl _) ⟨rfl, rfl, rfl⟩
set_option maxRecDepth 100000 in
theorem h0_freeze (l : Launch) (E : jx_E) (b : Nat) (G : jx_H) (sz : Nat) (htr : ∀ e : Env, l.admits e → e.platform.stackTraces = false) (x o : Nat) (uw : Nat) (fo : Option Nat) (ca : Nat) (co : Int32) (lo : Nat) (lc : Int32) (kn : Option Nat) (on cut : Int32) (u f g fl : Nat → Int32) (h : Nat → Nat → Option Nat) (sp : Nat → Nat → Int32) (β : Nat → bd_T) (ρ : Nat → Nat → Int32) (D P : Nat → Prop) (hC : Cl E x G sz uw fo ca co lo lc kn on cut u f g fl h sp β ρ D P) (h0 : on = 0) (bf af : Int32) : jx_cw l E b yL_freeze cL_freeze 5 (some .int) [(0, 10, 13, 13)] 8 1 6 [.ref x, .int bf, .int af, .ref o] G sz (fun v G' sz' => v = some (.int 1) ∧ G' = G ∧ sz' = sz + 1) := by
  refine jx_metW (by decide +kernel) (Nat.le_of_ble_eq_true rfl) (L0 := [_, _, _, _, _]) rfl (fun X k htab => ?_)
  obtain ⟨xe, xs, hxt, e1, e2, e3, e4⟩ := jt_tab htab
  refine jx_aload_n k dL_freeze_0 rfl ?_
  refine jx_iconst k dL_freeze_1 (v := 0) (by decide) ?_
  refine jx_aload_n k dL_freeze_2 rfl ?_
  refine jx_iload_n k dL_freeze_3 rfl ?_
  refine jx_iload_n k dL_freeze_4 rfl ?_
  refine jt_caught k hxt (by unfold covers; rw [e1, e2]; decide) e3 e4 (by decide) jn_377 jt_cst mL_37 jn_596 (kt_freeze _ _ _ _ _ htr x uw fo ca co lo lc kn on cut u f g fl h sp β ρ D P hC h0 bf af) hC.1.1 rfl dL_freeze_5 rfl rfl rfl (Nat.le_of_ble_eq_true rfl) ⟨by decide, by decide⟩ ⟨by decide, by decide⟩ (fun ad => ?_)
  refine jx_astore k dL_freeze_13 (Nat.le_of_ble_eq_true rfl) rfl (L' := [_, _, _, _, _]) rfl ?_
  refine jx_iconst k dL_freeze_15 (v := 1) (by decide) ?_
  exact jx_iret k dL_freeze_16 (Nat.le_refl _) (Nat.le_refl _) ⟨rfl, rfl, rfl⟩
set_option maxRecDepth 100000 in
theorem h0_release (l : Launch) (E : jx_E) (b : Nat) (G : jx_H) (sz : Nat) (htr : ∀ e : Env, l.admits e → e.platform.stackTraces = false) (x o : Nat) (uw : Nat) (fo : Option Nat) (ca : Nat) (co : Int32) (lo : Nat) (lc : Int32) (kn : Option Nat) (on cut : Int32) (u f g fl : Nat → Int32) (h : Nat → Nat → Option Nat) (sp : Nat → Nat → Int32) (β : Nat → bd_T) (ρ : Nat → Nat → Int32) (D P : Nat → Prop) (hC : Cl E x G sz uw fo ca co lo lc kn on cut u f g fl h sp β ρ D P) (h0 : on = 0) (i : Int32) : jx_cw l E b yL_release cL_release 4 (some .int) [(0, 16, 19, 13)] 8 1 6 [.ref x, .int i, .ref o] G sz (fun v G' sz' => v = some (.int 1) ∧ G' = G ∧ sz' = sz + 1) := by
  refine jx_metW (by decide +kernel) (Nat.le_of_ble_eq_true rfl) (L0 := [_, _, _, _]) rfl (fun X k htab => ?_)
  obtain ⟨xe, xs, hxt, e1, e2, e3, e4⟩ := jt_tab htab
  refine jx_aload_n k dL_release_0 rfl ?_
  refine jx_iconst k dL_release_1 (v := 0) (by decide) ?_
  refine jx_aload_n k dL_release_2 rfl ?_
  refine jx_iload_n k dL_release_3 rfl ?_
  refine jt_caught k hxt (by unfold covers; rw [e1, e2]; decide) e3 e4 (by decide) jn_377 jt_cst mL_41 jn_625 (kt_release _ _ _ _ _ htr x uw fo ca co lo lc kn on cut u f g fl h sp β ρ D P hC h0 i) hC.1.1 rfl dL_release_4 rfl rfl rfl (Nat.le_of_ble_eq_true rfl) ⟨by decide, by decide⟩ ⟨by decide, by decide⟩ (fun ad => ?_)
  refine jx_astore_n k dL_release_19 (Nat.le_of_ble_eq_true rfl) rfl (L' := [_, _, _, _]) rfl ?_
  refine jx_iconst k dL_release_20 (v := 1) (by decide) ?_
  exact jx_iret k dL_release_21 (Nat.le_refl _) (Nat.le_refl _) ⟨rfl, rfl, rfl⟩
