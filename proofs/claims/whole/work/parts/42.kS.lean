theorem jn_387 : Cond.instantiable jt_S 6 ∈ jn_TB := jn_in (i := 387) (by decide +kernel) (by decide +kernel)
theorem jn_44 : Cond.initialized jt_S ∈ jn_TB := jn_in (i := 44) (by decide +kernel) (by decide +kernel)
theorem jn_513 : Cond.instantiable jt_A 6 ∈ jn_TB := jn_in (i := 513) (by decide +kernel) (by decide +kernel)
theorem jn_46 : Cond.initialized jt_A ∈ jn_TB := jn_in (i := 46) (by decide +kernel) (by decide +kernel)
set_option maxRecDepth 100000 in
theorem k_req0 (l : Launch) (E : jx_E) (b : Nat) (G : jx_H) (sz : Nat) (htr : ∀ e : Env, l.admits e → e.platform.stackTraces = false) (x : Nat) (uw : Nat) (fo : Option Nat) (ca : Nat) (co : Int32) (lo : Nat) (lc : Int32) (kn : Option Nat) (on cut : Int32) (u f g fl : Nat → Int32) (h : Nat → Nat → Option Nat) (sp : Nat → Nat → Int32) (β : Nat → bd_T) (ρ : Nat → Nat → Int32) (D P : Nat → Prop) (hC : Cl E x G sz uw fo ca co lo lc kn on cut u f g fl h sp β ρ D P) (h0 : on = 0) : jt_ct l E b yK_requirePower cK_requirePower 1 none 6 [.ref x] G sz jt_S := by
  obtain ⟨⟨hK, hW, ho, hF, hU, hA, hL, hR, hSt⟩, hHD, hUw, hDb, hPp, hj, hdy, hbd, hsz⟩ := hC
  subst h0
  refine jt_met (by decide +kernel) (Nat.le_of_ble_eq_true rfl) (L0 := [_]) rfl (fun X k hxt => ?_)
  refine jx_aload_n k dK_requirePower_0 rfl ?_
  refine jx_get k fK_10 dK_requirePower_1 hK rfl ?_
  refine jx_callVP k mK_112 (k_isOn _ _ _ _ _ (x + 1) 0 cut hW (.inl rfl)) hW rfl dK_requirePower_4 rfl rfl rfl (Nat.le_of_ble_eq_true rfl) ⟨Nat.le_of_ble_eq_true rfl, Nat.le_of_ble_eq_true rfl⟩ ⟨Nat.le_of_ble_eq_true rfl, Nat.le_of_ble_eq_true rfl⟩ ?_
  refine jx_if_ne k dK_requirePower_7 (tgt := 18) rfl (fun hh => absurd rfl hh) (fun _ => ?_)
  exact jx_throwNew k hxt htr jt_fit.1 jn_386 jn_387 jn_44 (fun args s hg => jt_hat jt_a1 jt_x1 args s hg) dK_requirePower_10 dK_requirePower_13 dK_requirePower_14 dK_requirePower_17 rfl ⟨by decide, by decide, by decide, by decide⟩
set_option maxRecDepth 100000 in
theorem k_second0 (l : Launch) (E : jx_E) (b : Nat) (G : jx_H) (sz : Nat) (htr : ∀ e : Env, l.admits e → e.platform.stackTraces = false) (x : Nat) (uw : Nat) (fo : Option Nat) (ca : Nat) (co : Int32) (lo : Nat) (lc : Int32) (kn : Option Nat) (on cut : Int32) (u f g fl : Nat → Int32) (h : Nat → Nat → Option Nat) (sp : Nat → Nat → Int32) (β : Nat → bd_T) (ρ : Nat → Nat → Int32) (D P : Nat → Prop) (hC : Cl E x G sz uw fo ca co lo lc kn on cut u f g fl h sp β ρ D P) (h1 : on = 1) (t : Int32) (ht : t ≤ d_tm β uw ∨ ¬ t ≤ 9999) : jt_ct l E b yK_second cK_second 3 (some .int) 6 [.ref x, .int t] G sz jt_A := by
  have hC0 := hC
  obtain ⟨⟨hK, hW, ho, hF, hU, hA, hL, hR, hSt⟩, hHD, hUw, hDb, hPp, hj, hdy, hbd, hsz⟩ := hC
  refine jt_met (by decide +kernel) (Nat.le_of_ble_eq_true rfl) (L0 := [_, _, _]) rfl (fun X k hxt => ?_)
  have thr : jx_w X E b (jt_fin X E b jt_A G sz) 22 [some (.ref x), some (.int t), none] [] G sz 0 0 := jx_throwNew k hxt htr jt_fit.2.1 jn_512 jn_513 jn_46 (fun args s hg => jt_hat jt_a2 jt_x2 args s hg) dK_second_22 dK_second_25 dK_second_26 dK_second_29 rfl ⟨by decide, by decide, by decide, by decide⟩
  refine jx_aload_n k dK_second_0 rfl ?_
  refine jx_callV0 k mK_64 (k_req1 _ _ _ _ _ x uw fo ca co lo lc kn on cut u f g fl h sp β ρ D P hC0 h1) hK rfl dK_second_1 rfl rfl rfl (Nat.le_of_ble_eq_true rfl) ⟨Nat.le_of_ble_eq_true rfl, Nat.le_of_ble_eq_true rfl⟩ ⟨Nat.le_of_ble_eq_true rfl, Nat.le_of_ble_eq_true rfl⟩ ?_
  refine jx_iload_n k dK_second_4 rfl ?_
  refine jx_aload_n k dK_second_5 rfl ?_
  refine jx_get k fK_37 dK_second_6 hK rfl ?_
  refine jx_get k fK_94 dK_second_9 hUw.1 rfl ?_
  refine jx_icmp_le k dK_second_12 (tgt := 22) rfl (fun h2 => ?_) (fun h2 => ?_)
  · exact thr
  · refine jx_iload_n k dK_second_15 rfl ?_
    refine jx_sipush k dK_second_16 (v := 9999) (by decide) ?_
    refine jx_icmp_le k dK_second_19 (tgt := 30) rfl (fun hh => absurd hh (ht.resolve_left h2)) (fun _ => ?_)
    exact thr
