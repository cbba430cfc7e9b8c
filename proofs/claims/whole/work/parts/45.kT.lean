set_option maxRecDepth 100000 in
theorem kt_sentence (l : Launch) (E : jx_E) (b : Nat) (G : jx_H) (sz : Nat) (htr : ∀ e : Env, l.admits e → e.platform.stackTraces = false) (x : Nat) (uw : Nat) (fo : Option Nat) (ca : Nat) (co : Int32) (lo : Nat) (lc : Int32) (kn : Option Nat) (on cut : Int32) (u f g fl : Nat → Int32) (h : Nat → Nat → Option Nat) (sp : Nat → Nat → Int32) (β : Nat → bd_T) (ρ : Nat → Nat → Int32) (D P : Nat → Prop) (hC : Cl E x G sz uw fo ca co lo lc kn on cut u f g fl h sp β ρ D P) (h0 : on = 0) (src : Int32) (y : Int64) : jt_ct l E b yK_sentence cK_sentence 4 (some .int) 7 [.ref x, .int src, .long y] G sz jt_S := by
  refine jt_met (by decide +kernel) (Nat.le_of_ble_eq_true rfl) (L0 := [_, _, _, _]) rfl (fun X k hxt => ?_)
  refine jx_aload_n k dK_sentence_0 rfl ?_
  exact jt_pass k hxt mK_64 jn_382 (k_req0 _ _ _ _ _ htr x uw fo ca co lo lc kn on cut u f g fl h sp β ρ D P hC h0) hC.1.1 rfl dK_sentence_1 rfl rfl rfl (by decide) ⟨by decide, by decide⟩ ⟨by decide, by decide⟩
set_option maxRecDepth 100000 in
theorem kt_sound (l : Launch) (E : jx_E) (b : Nat) (G : jx_H) (sz : Nat) (htr : ∀ e : Env, l.admits e → e.platform.stackTraces = false) (x : Nat) (uw : Nat) (fo : Option Nat) (ca : Nat) (co : Int32) (lo : Nat) (lc : Int32) (kn : Option Nat) (on cut : Int32) (u f g fl : Nat → Int32) (h : Nat → Nat → Option Nat) (sp : Nat → Nat → Int32) (β : Nat → bd_T) (ρ : Nat → Nat → Int32) (D P : Nat → Prop) (hC : Cl E x G sz uw fo ca co lo lc kn on cut u f g fl h sp β ρ D P) (h0 : on = 0) (c q v : Int32) : jt_ct l E b yK_sound cK_sound 4 (some .boolean) 7 [.ref x, .int c, .int q, .int v] G sz jt_S := by
  refine jt_met (by decide +kernel) (Nat.le_of_ble_eq_true rfl) (L0 := [_, _, _, _]) rfl (fun X k hxt => ?_)
  refine jx_aload_n k dK_sound_0 rfl ?_
  exact jt_pass k hxt mK_64 jn_382 (k_req0 _ _ _ _ _ htr x uw fo ca co lo lc kn on cut u f g fl h sp β ρ D P hC h0) hC.1.1 rfl dK_sound_1 rfl rfl rfl (by decide) ⟨by decide, by decide⟩ ⟨by decide, by decide⟩
set_option maxRecDepth 100000 in
theorem kt_paint (l : Launch) (E : jx_E) (b : Nat) (G : jx_H) (sz : Nat) (htr : ∀ e : Env, l.admits e → e.platform.stackTraces = false) (x : Nat) (uw : Nat) (fo : Option Nat) (ca : Nat) (co : Int32) (lo : Nat) (lc : Int32) (kn : Option Nat) (on cut : Int32) (u f g fl : Nat → Int32) (h : Nat → Nat → Option Nat) (sp : Nat → Nat → Int32) (β : Nat → bd_T) (ρ : Nat → Nat → Int32) (D P : Nat → Prop) (hC : Cl E x G sz uw fo ca co lo lc kn on cut u f g fl h sp β ρ D P) (h0 : on = 0) (i c : Int32) : jt_ct l E b yK_paint cK_paint 3 (some .boolean) 7 [.ref x, .int i, .int c] G sz jt_S := by
  refine jt_met (by decide +kernel) (Nat.le_of_ble_eq_true rfl) (L0 := [_, _, _]) rfl (fun X k hxt => ?_)
  refine jx_aload_n k dK_paint_0 rfl ?_
  exact jt_pass k hxt mK_64 jn_382 (k_req0 _ _ _ _ _ htr x uw fo ca co lo lc kn on cut u f g fl h sp β ρ D P hC h0) hC.1.1 rfl dK_paint_1 rfl rfl rfl (by decide) ⟨by decide, by decide⟩ ⟨by decide, by decide⟩
set_option maxRecDepth 100000 in
theorem kt_show (l : Launch) (E : jx_E) (b : Nat) (G : jx_H) (sz : Nat) (htr : ∀ e : Env, l.admits e → e.platform.stackTraces = false) (x : Nat) (uw : Nat) (fo : Option Nat) (ca : Nat) (co : Int32) (lo : Nat) (lc : Int32) (kn : Option Nat) (on cut : Int32) (u f g fl : Nat → Int32) (h : Nat → Nat → Option Nat) (sp : Nat → Nat → Int32) (β : Nat → bd_T) (ρ : Nat → Nat → Int32) (D P : Nat → Prop) (hC : Cl E x G sz uw fo ca co lo lc kn on cut u f g fl h sp β ρ D P) (h0 : on = 0)  : jt_ct l E b yK_show cK_show 1 (some .boolean) 7 [.ref x] G sz jt_S := by
  refine jt_met (by decide +kernel) (Nat.le_of_ble_eq_true rfl) (L0 := [_]) rfl (fun X k hxt => ?_)
  refine jx_aload_n k dK_show_0 rfl ?_
  exact jt_pass k hxt mK_64 jn_382 (k_req0 _ _ _ _ _ htr x uw fo ca co lo lc kn on cut u f g fl h sp β ρ D P hC h0) hC.1.1 rfl dK_show_1 rfl rfl rfl (by decide) ⟨by decide, by decide⟩ ⟨by decide, by decide⟩
set_option maxRecDepth 100000 in
theorem kt_contact (l : Launch) (E : jx_E) (b : Nat) (G : jx_H) (sz : Nat) (htr : ∀ e : Env, l.admits e → e.platform.stackTraces = false) (x : Nat) (uw : Nat) (fo : Option Nat) (ca : Nat) (co : Int32) (lo : Nat) (lc : Int32) (kn : Option Nat) (on cut : Int32) (u f g fl : Nat → Int32) (h : Nat → Nat → Option Nat) (sp : Nat → Nat → Int32) (β : Nat → bd_T) (ρ : Nat → Nat → Int32) (D P : Nat → Prop) (hC : Cl E x G sz uw fo ca co lo lc kn on cut u f g fl h sp β ρ D P) (h0 : on = 0) (i z : Int32) : jt_ct l E b yK_contact cK_contact 3 (some .boolean) 7 [.ref x, .int i, .int z] G sz jt_S := by
  refine jt_met (by decide +kernel) (Nat.le_of_ble_eq_true rfl) (L0 := [_, _, _]) rfl (fun X k hxt => ?_)
  refine jx_aload_n k dK_contact_0 rfl ?_
  exact jt_pass k hxt mK_64 jn_382 (k_req0 _ _ _ _ _ htr x uw fo ca co lo lc kn on cut u f g fl h sp β ρ D P hC h0) hC.1.1 rfl dK_contact_1 rfl rfl rfl (by decide) ⟨by decide, by decide⟩ ⟨by decide, by decide⟩
set_option maxRecDepth 100000 in
theorem kt_second (l : Launch) (E : jx_E) (b : Nat) (G : jx_H) (sz : Nat) (htr : ∀ e : Env, l.admits e → e.platform.stackTraces = false) (x : Nat) (uw : Nat) (fo : Option Nat) (ca : Nat) (co : Int32) (lo : Nat) (lc : Int32) (kn : Option Nat) (on cut : Int32) (u f g fl : Nat → Int32) (h : Nat → Nat → Option Nat) (sp : Nat → Nat → Int32) (β : Nat → bd_T) (ρ : Nat → Nat → Int32) (D P : Nat → Prop) (hC : Cl E x G sz uw fo ca co lo lc kn on cut u f g fl h sp β ρ D P) (h0 : on = 0) (t : Int32) : jt_ct l E b yK_second cK_second 3 (some .int) 7 [.ref x, .int t] G sz jt_S := by
  refine jt_met (by decide +kernel) (Nat.le_of_ble_eq_true rfl) (L0 := [_, _, _]) rfl (fun X k hxt => ?_)
  refine jx_aload_n k dK_second_0 rfl ?_
  exact jt_pass k hxt mK_64 jn_382 (k_req0 _ _ _ _ _ htr x uw fo ca co lo lc kn on cut u f g fl h sp β ρ D P hC h0) hC.1.1 rfl dK_second_1 rfl rfl rfl (by decide) ⟨by decide, by decide⟩ ⟨by decide, by decide⟩
set_option maxRecDepth 100000 in
theorem kt_freeze (l : Launch) (E : jx_E) (b : Nat) (G : jx_H) (sz : Nat) (htr : ∀ e : Env, l.admits e → e.platform.stackTraces = false) (x : Nat) (uw : Nat) (fo : Option Nat) (ca : Nat) (co : Int32) (lo : Nat) (lc : Int32) (kn : Option Nat) (on cut : Int32) (u f g fl : Nat → Int32) (h : Nat → Nat → Option Nat) (sp : Nat → Nat → Int32) (β : Nat → bd_T) (ρ : Nat → Nat → Int32) (D P : Nat → Prop) (hC : Cl E x G sz uw fo ca co lo lc kn on cut u f g fl h sp β ρ D P) (h0 : on = 0) (bf af : Int32) : jt_ct l E b yK_freeze cK_freeze 4 (some .int) 7 [.ref x, .int bf, .int af] G sz jt_S := by
  refine jt_met (by decide +kernel) (Nat.le_of_ble_eq_true rfl) (L0 := [_, _, _, _]) rfl (fun X k hxt => ?_)
  refine jx_aload_n k dK_freeze_0 rfl ?_
  exact jt_pass k hxt mK_64 jn_382 (k_req0 _ _ _ _ _ htr x uw fo ca co lo lc kn on cut u f g fl h sp β ρ D P hC h0) hC.1.1 rfl dK_freeze_1 rfl rfl rfl (by decide) ⟨by decide, by decide⟩ ⟨by decide, by decide⟩
set_option maxRecDepth 100000 in
theorem kt_release (l : Launch) (E : jx_E) (b : Nat) (G : jx_H) (sz : Nat) (htr : ∀ e : Env, l.admits e → e.platform.stackTraces = false) (x : Nat) (uw : Nat) (fo : Option Nat) (ca : Nat) (co : Int32) (lo : Nat) (lc : Int32) (kn : Option Nat) (on cut : Int32) (u f g fl : Nat → Int32) (h : Nat → Nat → Option Nat) (sp : Nat → Nat → Int32) (β : Nat → bd_T) (ρ : Nat → Nat → Int32) (D P : Nat → Prop) (hC : Cl E x G sz uw fo ca co lo lc kn on cut u f g fl h sp β ρ D P) (h0 : on = 0) (i : Int32) : jt_ct l E b yK_release cK_release 2 (some .boolean) 7 [.ref x, .int i] G sz jt_S := by
  refine jt_met (by decide +kernel) (Nat.le_of_ble_eq_true rfl) (L0 := [_, _]) rfl (fun X k hxt => ?_)
  refine jx_aload_n k dK_release_0 rfl ?_
  exact jt_pass k hxt mK_64 jn_382 (k_req0 _ _ _ _ _ htr x uw fo ca co lo lc kn on cut u f g fl h sp β ρ D P hC h0) hC.1.1 rfl dK_release_1 rfl rfl rfl (by decide) ⟨by decide, by decide⟩ ⟨by decide, by decide⟩
