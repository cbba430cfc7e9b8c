def fr (x : Nat) (G G' : jx_H) : Prop := ∀ q, x + 30 ≤ q → q < x + 52 → G' q = G q
theorem fr_up {x q : Nat} {G : jx_H} {c : Option va_E} (h : q < x + 30 ∨ x + 52 ≤ q) : fr x G (va_up G q c) := fun p h1 h2 => va_up_ne _ _ (by omega)
theorem fr_tr {x : Nat} {G G1 G2 : jx_H} (h1 : fr x G G1) (h2 : fr x G1 G2) : fr x G G2 := fun q a c => (h2 q a c).trans (h1 q a c)
theorem fr_rf {x : Nat} {G : jx_H} : fr x G G := fun _ _ _ => rfl
theorem cB_eq {E : jx_E} {G G' : jx_H} {β β' : Nat → bd_T} {z : Nat} (h : cB E G β z) (hb : β' z = β z) (he : ∀ q, z ≤ q → q < z + 5 → G' q = G q) : cB E G' β' z := by
  unfold cB at h ⊢
  unfold d_tm d_cs d_ba d_tx d_so d_sd d_he d_po d_sn d_pb d_sb at h ⊢
  rw [hb]
  exact ⟨(he _ (by omega) (by omega)).trans h.1, (he _ (by omega) (by omega)).trans h.2.1, (he _ (by omega) (by omega)).trans h.2.2.1, (he _ (by omega) (by omega)).trans h.2.2.2.1, (he _ (by omega) (by omega)).trans h.2.2.2.2.1, h.2.2.2.2.2⟩
theorem cP_eq {E : jx_E} {G G' : jx_H} {ρ ρ' : Nat → Nat → Int32} {p : Nat} (h : cP E G ρ p) (hb : ρ' p = ρ p) (he : ∀ q, p ≤ q → q < p + 2 → G' q = G q) : cP E G' ρ' p := by
  unfold cP at h ⊢
  rw [hb]
  exact ⟨(he _ (by omega) (by omega)).trans h.1, (he _ (by omega) (by omega)).trans h.2⟩
theorem cS_eq {E : jx_E} {x : Nat} {G G' : jx_H} {fl fl' : Nat → Int32} {h h' : Nat → Nat → Option Nat} {sp sp' : Nat → Nat → Int32} {i : Nat} (c : cS E x G fl h sp i) (e1 : fl' i = fl i) (e2 : h' i = h i) (e3 : sp' i = sp i) (he : ∀ q, sA x i ≤ q → q < sA x i + 3 → G' q = G q) : cS E x G' fl' h' sp' i := by
  unfold cS at c ⊢
  rw [e1, e2, e3]
  exact ⟨(he _ (by omega) (by omega)).trans c.1, (he _ (by omega) (by omega)).trans c.2.1, (he _ (by omega) (by omega)).trans c.2.2⟩
theorem Cst_eq {E : jx_E} {x : Nat} {G G' : jx_H} {uw : Nat} {fo : Option Nat} {ca : Nat} {co : Int32} {lo : Nat} {lc : Int32} {kn : Option Nat} {on cut : Int32} {u f g fl : Nat → Int32} {h : Nat → Nat → Option Nat} {sp : Nat → Nat → Int32} (hC : Cst E x G uw fo ca co lo lc kn on cut u f g fl h sp) (he : ∀ q, x ≤ q → q < x + 16 → G' q = G q) : Cst E x G' uw fo ca co lo lc kn on cut u f g fl h sp := by
  obtain ⟨hK, hW, ho, hF, hU, hA, hL, hR, hSt⟩ := hC
  exact ⟨(he _ (by omega) (by omega)).trans hK, (he _ (by omega) (by omega)).trans hW, ho, (he _ (by omega) (by omega)).trans hF, (he _ (by omega) (by omega)).trans hU, (he _ (by omega) (by omega)).trans hA, (he _ (by omega) (by omega)).trans hL, (he _ (by omega) (by omega)).trans hR, fun i hi => cS_eq (hSt i hi) rfl rfl rfl (fun q h1 h2 => he q (by unfold sA at h1; omega) (by unfold sA at h2; omega))⟩
theorem dy_m {x sz sz' z n : Nat} (h : dy x sz z n) (hs : sz ≤ sz') : dy x sz' z n := by
  unfold dy at h ⊢
  omega
theorem Cdy_eq {E : jx_E} {x : Nat} {G G' : jx_H} {sz sz' : Nat} {uw : Nat} {fo : Option Nat} {ca lo : Nat} {kn : Option Nat} {h : Nat → Nat → Option Nat} {β : Nat → bd_T} {ρ : Nat → Nat → Int32} {D P : Nat → Prop} (hC : Cdy E x G sz uw fo ca lo kn h β ρ D P) (he : ∀ q, x + 16 ≤ q → (q < x + 30 ∨ x + 52 ≤ q) → q < sz → G' q = G q) (hs : sz ≤ sz') (hb : jx_bd G' sz') : Cdy E x G' sz' uw fo ca lo kn h β ρ D P := by
  obtain ⟨hHD, hUw, hDb, hPp, hj, hdy, hbd, hsz⟩ := hC
  refine ⟨hHD, cB_eq hUw rfl (fun q h1 h2 => ?_), fun z hz => cB_eq (hDb z hz) rfl (fun q h1 h2 => ?_), fun p hp => cP_eq (hPp p hp) rfl (fun q h1 h2 => ?_), hj, ⟨dy_m hdy.1 hs, fun z hz => ⟨dy_m (hdy.2.1 z hz).1 hs, (hdy.2.1 z hz).2⟩, fun p hp => ⟨dy_m (hdy.2.2 p hp).1 hs, (hdy.2.2 p hp).2⟩⟩, hb, by omega⟩
  · have := hdy.1
    unfold dy at this
    exact he q (by omega) (by omega) (by omega)
  · have := (hdy.2.1 z hz).1
    unfold dy at this
    exact he q (by omega) (by omega) (by omega)
  · have := (hdy.2.2 p hp).1
    unfold dy at this
    exact he q (by omega) (by omega) (by omega)
theorem bd_up {G : jx_H} {sz q : Nat} {c : Option va_E} (h : jx_bd G sz) (hq : q < sz) : jx_bd (va_up G q c) sz := fun p hp => (va_up_ne _ _ (by omega)).trans (h p hp)
/-- a change below x + 16 -/
theorem Cl_st {E : jx_E} {x : Nat} {G G' : jx_H} {sz : Nat} {uw : Nat} {fo : Option Nat} {ca : Nat} {co co' : Int32} {lo : Nat} {lc lc' : Int32} {kn : Option Nat} {on cut on' cut' : Int32} {u f g fl u' f' g' fl' : Nat → Int32} {h : Nat → Nat → Option Nat} {sp sp' : Nat → Nat → Int32} {β : Nat → bd_T} {ρ : Nat → Nat → Int32} {D P : Nat → Prop} (hC : Cl E x G sz uw fo ca co lo lc kn on cut u f g fl h sp β ρ D P) (he : ∀ q, x + 16 ≤ q → G' q = G q) (hn : Cst E x G' uw fo ca co' lo lc' kn on' cut' u' f' g' fl' h sp') : Cl E x G' sz uw fo ca co' lo lc' kn on' cut' u' f' g' fl' h sp' β ρ D P ∧ fr x G G' := by
  have hsz := hC.2.2.2.2.2.2.2.2
  exact ⟨⟨hn, Cdy_eq hC.2 (fun q h1 _ _ => he q h1) (Nat.le_refl _) (fun q hq => (he q (by omega)).trans (hC.2.2.2.2.2.2.2.1 q hq))⟩, fun q h1 _ => he q (by omega)⟩
theorem Cst_pw {E : jx_E} {x : Nat} {G : jx_H} {uw : Nat} {fo : Option Nat} {ca : Nat} {co : Int32} {lo : Nat} {lc : Int32} {kn : Option Nat} {on cut : Int32} {u f g fl : Nat → Int32} {h : Nat → Nat → Option Nat} {sp : Nat → Nat → Int32} {on' cut' : Int32} (hC : Cst E x G uw fo ca co lo lc kn on cut u f g fl h sp) (ho' : on' = 0 ∨ on' = 1) : Cst E x (va_up G (x + 1) (pw_o on' cut')) uw fo ca co lo lc kn on' cut' u f g fl h sp := by
  obtain ⟨hK, hW, ho, hF, hU, hA, hL, hR, hSt⟩ := hC
  have ne : ∀ q, q ≠ x + 1 → va_up G (x + 1) (pw_o on' cut') q = G q := fun q hq => va_up_ne _ _ hq
  exact ⟨(ne _ (by omega)).trans hK, va_up_self _ _ _, ho', (ne _ (by omega)).trans hF, (ne _ (by omega)).trans hU, (ne _ (by omega)).trans hA, (ne _ (by omega)).trans hL, (ne _ (by omega)).trans hR, fun i hi => cS_eq (hSt i hi) rfl rfl rfl (fun q h1 h2 => ne q (by unfold sA at h1; omega))⟩
theorem Cst_k {E : jx_E} {x : Nat} {G : jx_H} {uw : Nat} {fo : Option Nat} {ca : Nat} {co : Int32} {lo : Nat} {lc : Int32} {kn : Option Nat} {on cut : Int32} {u f g fl : Nat → Int32} {h : Nat → Nat → Option Nat} {sp : Nat → Nat → Int32} {uw' : Nat} {fo' : Option Nat} {ca' : Nat} {co' : Int32} {lo' : Nat} {lc' : Int32} {kn' : Option Nat} (hC : Cst E x G uw fo ca co lo lc kn on cut u f g fl h sp) : Cst E x (va_up G x (kp_o x uw' fo' ca' co' lo' lc' kn')) uw' fo' ca' co' lo' lc' kn' on cut u f g fl h sp := by
  obtain ⟨hK, hW, ho, hF, hU, hA, hL, hR, hSt⟩ := hC
  have ne : ∀ q, q ≠ x → va_up G x (kp_o x uw' fo' ca' co' lo' lc' kn') q = G q := fun q hq => va_up_ne _ _ hq
  exact ⟨va_up_self _ _ _, (ne _ (by omega)).trans hW, ho, (ne _ (by omega)).trans hF, (ne _ (by omega)).trans hU, (ne _ (by omega)).trans hA, (ne _ (by omega)).trans hL, (ne _ (by omega)).trans hR, fun i hi => cS_eq (hSt i hi) rfl rfl rfl (fun q h1 h2 => ne q (by unfold sA at h1; omega))⟩
def fz_3 (E : jx_E) (x : Nat) (G : jx_H) (u f g : Nat → Int32) : jx_H := va_up (va_up (va_up G (x + 3) (some (ja_z E 3 u))) (x + 4) (some (ja_i E 3 f))) (x + 5) (some (ja_i E 3 g))
theorem fz_3n {E : jx_E} {x q : Nat} {G : jx_H} {u f g : Nat → Int32} (h1 : q ≠ x + 3) (h2 : q ≠ x + 4) (h3 : q ≠ x + 5) : fz_3 E x G u f g q = G q := by
  unfold fz_3
  rw [va_up_ne _ _ h3, va_up_ne _ _ h2, va_up_ne _ _ h1]
theorem Cst_fz {E : jx_E} {x : Nat} {G : jx_H} {uw : Nat} {fo : Option Nat} {ca : Nat} {co : Int32} {lo : Nat} {lc : Int32} {kn : Option Nat} {on cut : Int32} {u f g fl : Nat → Int32} {h : Nat → Nat → Option Nat} {sp : Nat → Nat → Int32} {u' f' g' : Nat → Int32} (hC : Cst E x G uw fo ca co lo lc kn on cut u f g fl h sp) : Cst E x (fz_3 E x G u' f' g') uw fo ca co lo lc kn on cut u' f' g' fl h sp := by
  obtain ⟨hK, hW, ho, hF, hU, hA, hL, hR, hSt⟩ := hC
  refine ⟨(fz_3n (by omega) (by omega) (by omega)).trans hK, (fz_3n (by omega) (by omega) (by omega)).trans hW, ho, (fz_3n (by omega) (by omega) (by omega)).trans hF, ?_, ?_, va_up_self _ _ _, (fz_3n (by omega) (by omega) (by omega)).trans hR, fun i hi => cS_eq (hSt i hi) rfl rfl rfl (fun q h1 h2 => fz_3n (by unfold sA at h1; omega) (by unfold sA at h1; omega) (by unfold sA at h1; omega))⟩
  · unfold fz_3
    rw [va_up_ne _ _ (by omega), va_up_ne _ _ (by omega), va_up_self]
  · unfold fz_3
    rw [va_up_ne _ _ (by omega), va_up_self]
theorem fz_3u {E : jx_E} {x : Nat} {G : jx_H} {u' f g : Nat → Int32} (hA : G (x + 4) = some (ja_i E 3 f)) (hL : G (x + 5) = some (ja_i E 3 g)) : va_up G (x + 3) (some (ja_z E 3 u')) = fz_3 E x G u' f g := by
  unfold fz_3
  rw [va_us (f := va_up G (x + 3) _) (k := x + 4) ((va_up_ne _ _ (by omega)).trans hA), va_us (f := va_up G (x + 3) _) (k := x + 5) ((va_up_ne _ _ (by omega)).trans hL)]
set_option maxRecDepth 100000 in
theorem k_req1 (l : Launch) (E : jx_E) (b : Nat) (G : jx_H) (sz : Nat) (x : Nat) (uw : Nat) (fo : Option Nat) (ca : Nat) (co : Int32) (lo : Nat) (lc : Int32) (kn : Option Nat) (on cut : Int32) (u f g fl : Nat → Int32) (h : Nat → Nat → Option Nat) (sp : Nat → Nat → Int32) (β : Nat → bd_T) (ρ : Nat → Nat → Int32) (D P : Nat → Prop) (hC : Cl E x G sz uw fo ca co lo lc kn on cut u f g fl h sp β ρ D P) (h1 : on = 1) : jx_ct l E b yK_requirePower cK_requirePower 1 none 1 0 0 [.ref x] G sz (fun v G' sz' => v = none ∧ G' = G ∧ sz' = sz) := by
  obtain ⟨⟨hK, hW, ho, hF, hU, hA, hL, hR, hSt⟩, hHD, hUw, hDb, hPp, hj, hdy, hbd, hsz⟩ := hC
  subst h1
  refine jx_met (by decide) (Nat.le_of_ble_eq_true rfl) (L0 := [_]) rfl (fun X k => ?_)
  refine jx_aload_n k dK_requirePower_0 rfl ?_
  refine jx_get k fK_10 dK_requirePower_1 hK rfl ?_
  refine jx_callVP k mK_112 (k_isOn _ _ _ _ _ (x + 1) 1 cut hW (.inr rfl)) hW rfl dK_requirePower_4 rfl rfl rfl (Nat.le_of_ble_eq_true rfl) ⟨Nat.le_of_ble_eq_true rfl, Nat.le_of_ble_eq_true rfl⟩ ⟨Nat.le_of_ble_eq_true rfl, Nat.le_of_ble_eq_true rfl⟩ ?_
  refine jx_if_ne k dK_requirePower_7 (tgt := 18) rfl (fun _ => ?_) (fun hh => absurd hh (by decide))
  exact jx_vret k dK_requirePower_18 (Nat.le_refl _) (Nat.le_refl _) ⟨rfl, rfl, rfl⟩
set_option maxRecDepth 100000 in
theorem k_start (l : Launch) (E : jx_E) (b : Nat) (G : jx_H) (sz : Nat) (x : Nat) (uw : Nat) (fo : Option Nat) (ca : Nat) (co : Int32) (lo : Nat) (lc : Int32) (kn : Option Nat) (on cut : Int32) (u f g fl : Nat → Int32) (h : Nat → Nat → Option Nat) (sp : Nat → Nat → Int32) (β : Nat → bd_T) (ρ : Nat → Nat → Int32) (D P : Nat → Prop) (hC : Cl E x G sz uw fo ca co lo lc kn on cut u f g fl h sp β ρ D P) : jx_ct l E b yK_start cK_start 1 (some .boolean) 1 0 0 [.ref x] G sz (fun v G' sz' => v = some (.int (jb_z (on = 0))) ∧ sz' = sz ∧ Cl E x G' sz uw fo ca co lo lc kn 1 cut u f g fl h sp β ρ D P ∧ fr x G G') := by
  have hC0 := hC
  obtain ⟨⟨hK, hW, ho, hF, hU, hA, hL, hR, hSt⟩, hHD, hUw, hDb, hPp, hj, hdy, hbd, hsz⟩ := hC
  refine jx_met (by decide) (Nat.le_of_ble_eq_true rfl) (L0 := [_]) rfl (fun X k => ?_)
  refine jx_aload_n k dK_start_0 rfl ?_
  refine jx_get k fK_10 dK_start_1 hK rfl ?_
  refine jx_callV1 k mK_201 (k_turnOn _ _ _ _ _ (x + 1) on cut hW) hW rfl dK_start_4 rfl rfl rfl (Nat.le_of_ble_eq_true rfl) ⟨Nat.le_of_ble_eq_true rfl, Nat.le_of_ble_eq_true rfl⟩ ⟨Nat.le_of_ble_eq_true rfl, Nat.le_of_ble_eq_true rfl⟩ ?_
  exact jx_zret k dK_start_7 (jb_n _) (Nat.le_refl _) (Nat.le_refl _) ⟨rfl, rfl, Cl_st hC0 (fun q hq => va_up_ne _ _ (by omega)) (Cst_pw hC0.1 (.inr rfl))⟩
set_option maxRecDepth 100000 in
theorem k_cut (l : Launch) (E : jx_E) (b : Nat) (G : jx_H) (sz : Nat) (x : Nat) (uw : Nat) (fo : Option Nat) (ca : Nat) (co : Int32) (lo : Nat) (lc : Int32) (kn : Option Nat) (on cut : Int32) (u f g fl : Nat → Int32) (h : Nat → Nat → Option Nat) (sp : Nat → Nat → Int32) (β : Nat → bd_T) (ρ : Nat → Nat → Int32) (D P : Nat → Prop) (hC : Cl E x G sz uw fo ca co lo lc kn on cut u f g fl h sp β ρ D P) (n : Int32) : jx_ct l E b yK_cutAfter cK_cutAfter 2 (some .boolean) 1 0 0 [.ref x, .int n] G sz (fun v G' sz' => v = some (.int (jb_z (on ≠ 0 ∧ 0 ≤ n ∧ n < 101))) ∧ sz' = sz ∧ Cl E x G' sz uw fo ca co lo lc kn on (if on ≠ 0 ∧ 0 ≤ n ∧ n < 101 then n else cut) u f g fl h sp β ρ D P ∧ fr x G G') := by
  have hC0 := hC
  obtain ⟨⟨hK, hW, ho, hF, hU, hA, hL, hR, hSt⟩, hHD, hUw, hDb, hPp, hj, hdy, hbd, hsz⟩ := hC
  refine jx_met (by decide) (Nat.le_of_ble_eq_true rfl) (L0 := [_, _]) rfl (fun X k => ?_)
  refine jx_aload_n k dK_cutAfter_0 rfl ?_
  refine jx_get k fK_10 dK_cutAfter_1 hK rfl ?_
  refine jx_callVP k mK_112 (k_isOn _ _ _ _ _ (x + 1) on cut hW ho) hW rfl dK_cutAfter_4 rfl rfl rfl (Nat.le_of_ble_eq_true rfl) ⟨Nat.le_of_ble_eq_true rfl, Nat.le_of_ble_eq_true rfl⟩ ⟨Nat.le_of_ble_eq_true rfl, Nat.le_of_ble_eq_true rfl⟩ ?_
  refine jx_if_eq k dK_cutAfter_7 (tgt := 19) rfl (fun h1 => ?_) (fun h1 => ?_)
  · refine jx_iconst k dK_cutAfter_19 (v := 0) (by decide) ?_
    exact jx_zret k dK_cutAfter_20 rfl (Nat.le_refl _) (Nat.le_refl _) ⟨by rw [jb_f (fun h => h.1 h1)], rfl, by rw [if_neg (fun h => h.1 h1)]; exact ⟨hC0, fr_rf⟩⟩
  · refine jx_iload_n k dK_cutAfter_10 rfl ?_
    refine jx_bipush k dK_cutAfter_11 (v := 101) (by decide) ?_
    refine jx_callSP k mK_67 (k_isBelow _ _ _ _ _ n 101) dK_cutAfter_13 rfl rfl rfl (Nat.le_of_ble_eq_true rfl) ⟨Nat.le_of_ble_eq_true rfl, Nat.le_of_ble_eq_true rfl⟩ ⟨Nat.le_of_ble_eq_true rfl, Nat.le_of_ble_eq_true rfl⟩ ?_
    refine jx_if_ne k dK_cutAfter_16 (tgt := 21) rfl (fun h2 => ?_) (fun h2 => ?_)
    · have g2 := Decidable.byContradiction (fun h => h2 (jb_f h))
      refine jx_aload_n k dK_cutAfter_21 rfl ?_
      refine jx_get k fK_10 dK_cutAfter_22 hK rfl ?_
      refine jx_iload_n k dK_cutAfter_25 rfl ?_
      refine jx_callV0 k mK_198 (k_planCut _ _ _ _ _ (x + 1) on cut n hW) hW rfl dK_cutAfter_26 rfl rfl rfl (Nat.le_of_ble_eq_true rfl) ⟨Nat.le_of_ble_eq_true rfl, Nat.le_of_ble_eq_true rfl⟩ ⟨Nat.le_of_ble_eq_true rfl, Nat.le_of_ble_eq_true rfl⟩ ?_
      refine jx_iconst k dK_cutAfter_29 (v := 1) (by decide) ?_
      exact jx_zret k dK_cutAfter_30 rfl (Nat.le_refl _) (Nat.le_refl _) ⟨by rw [jb_t ⟨h1, g2⟩], rfl, by rw [if_pos ⟨h1, g2⟩]; exact Cl_st hC0 (fun q hq => va_up_ne _ _ (by omega)) (Cst_pw hC0.1 ho)⟩
    · have g2 := jb_e0.mp h2
      refine jx_iconst k dK_cutAfter_19 (v := 0) (by decide) ?_
      exact jx_zret k dK_cutAfter_20 rfl (Nat.le_refl _) (Nat.le_refl _) ⟨by rw [jb_f (fun h => g2 h.2)], rfl, by rw [if_neg (fun h => g2 h.2)]; exact ⟨hC0, fr_rf⟩⟩
def ka_ct (co i z : Int32) : Int32 := if 0 ≤ i ∧ i < 16 then (if z = 0 then co &&& (((1 : Int32) <<< (i &&& 31)) ^^^ (-1)) else co ||| ((1 : Int32) <<< (i &&& 31))) else co
set_option maxRecDepth 100000 in
theorem k_contact (l : Launch) (E : jx_E) (b : Nat) (G : jx_H) (sz : Nat) (x : Nat) (uw : Nat) (fo : Option Nat) (ca : Nat) (co : Int32) (lo : Nat) (lc : Int32) (kn : Option Nat) (on cut : Int32) (u f g fl : Nat → Int32) (h : Nat → Nat → Option Nat) (sp : Nat → Nat → Int32) (β : Nat → bd_T) (ρ : Nat → Nat → Int32) (D P : Nat → Prop) (hC : Cl E x G sz uw fo ca co lo lc kn on cut u f g fl h sp β ρ D P) (h1 : on = 1) (i z : Int32) : jx_ct l E b yK_contact cK_contact 3 (some .boolean) 2 0 0 [.ref x, .int i, .int z] G sz (fun v G' sz' => v = some (.int (jb_z (0 ≤ i ∧ i < 16))) ∧ sz' = sz ∧ Cl E x G' sz uw fo ca (ka_ct co i z) lo lc kn on cut u f g fl h sp β ρ D P ∧ fr x G G') := by
  have hC0 := hC
  obtain ⟨⟨hK, hW, ho, hF, hU, hA, hL, hR, hSt⟩, hHD, hUw, hDb, hPp, hj, hdy, hbd, hsz⟩ := hC
  refine jx_met (by decide) (Nat.le_of_ble_eq_true rfl) (L0 := [_, _, _]) rfl (fun X k => ?_)
  refine jx_aload_n k dK_contact_0 rfl ?_
  refine jx_callV0 k mK_64 (k_req1 _ _ _ _ _ x uw fo ca co lo lc kn on cut u f g fl h sp β ρ D P hC0 h1) hK rfl dK_contact_1 rfl rfl rfl (Nat.le_of_ble_eq_true rfl) ⟨Nat.le_of_ble_eq_true rfl, Nat.le_of_ble_eq_true rfl⟩ ⟨Nat.le_of_ble_eq_true rfl, Nat.le_of_ble_eq_true rfl⟩ ?_
  refine jx_iload_n k dK_contact_4 rfl ?_
  refine jx_bipush k dK_contact_5 (v := 16) (by decide) ?_
  refine jx_callSP k mK_67 (k_isBelow _ _ _ _ _ i 16) dK_contact_7 rfl rfl rfl (Nat.le_of_ble_eq_true rfl) ⟨Nat.le_of_ble_eq_true rfl, Nat.le_of_ble_eq_true rfl⟩ ⟨Nat.le_of_ble_eq_true rfl, Nat.le_of_ble_eq_true rfl⟩ ?_
  refine jx_if_ne k dK_contact_10 (tgt := 15) rfl (fun h2 => ?_) (fun h2 => ?_)
  · have g2 := Decidable.byContradiction (fun h => h2 (jb_f h))
    refine jx_aload_n k dK_contact_15 rfl ?_
    refine jx_iload_n k dK_contact_16 rfl ?_
    refine jx_if_eq k dK_contact_17 (tgt := 31) rfl (fun h3 => ?_) (fun h3 => ?_)
    · refine jx_aload_n k dK_contact_31 rfl ?_
      refine jx_get k fK_51 dK_contact_32 hK rfl ?_
      refine jx_iconst k dK_contact_35 (v := 1) (by decide) ?_
      refine jx_iload_n k dK_contact_36 rfl ?_
      refine jx_ishl k dK_contact_37 ?_
      refine jx_iconst k dK_contact_38 (v := (-1)) (by decide) ?_
      refine jx_ixor k dK_contact_39 ?_
      refine jx_iand k dK_contact_40 ?_
      refine jx_put k fK_51 dK_contact_41 hK rfl rfl (Nat.le_of_ble_eq_true rfl) (fs' := [_, _, _, _, _, _, _, _, _, _]) rfl ?_
      refine jx_iconst k dK_contact_44 (v := 1) (by decide) ?_
      exact jx_zret k dK_contact_45 rfl (Nat.le_refl _) (Nat.le_refl _) ⟨by rw [jb_t g2], rfl, by rw [ka_ct, if_pos g2, if_pos h3]; exact Cl_st hC0 (fun q hq => va_up_ne _ _ (by omega)) (Cst_k hC0.1)⟩
    · refine jx_aload_n k dK_contact_20 rfl ?_
      refine jx_get k fK_51 dK_contact_21 hK rfl ?_
      refine jx_iconst k dK_contact_24 (v := 1) (by decide) ?_
      refine jx_iload_n k dK_contact_25 rfl ?_
      refine jx_ishl k dK_contact_26 ?_
      refine jx_ior k dK_contact_27 ?_
      refine jx_goto k dK_contact_28 (tgt := 41) rfl ?_
      refine jx_put k fK_51 dK_contact_41 hK rfl rfl (Nat.le_of_ble_eq_true rfl) (fs' := [_, _, _, _, _, _, _, _, _, _]) rfl ?_
      refine jx_iconst k dK_contact_44 (v := 1) (by decide) ?_
      exact jx_zret k dK_contact_45 rfl (Nat.le_refl _) (Nat.le_refl _) ⟨by rw [jb_t g2], rfl, by rw [ka_ct, if_pos g2, if_neg h3]; exact Cl_st hC0 (fun q hq => va_up_ne _ _ (by omega)) (Cst_k hC0.1)⟩
  · have g2 := jb_e0.mp h2
    refine jx_iconst k dK_contact_13 (v := 0) (by decide) ?_
    exact jx_zret k dK_contact_14 rfl (Nat.le_refl _) (Nat.le_refl _) ⟨by rw [jb_f g2], rfl, by rw [ka_ct, if_neg g2]; exact ⟨hC0, fr_rf⟩⟩
theorem Cst_fl {E : jx_E} {x : Nat} {G : jx_H} {uw : Nat} {fo : Option Nat} {ca : Nat} {co : Int32} {lo : Nat} {lc : Int32} {kn : Option Nat} {on cut : Int32} {u f g fl : Nat → Int32} {h : Nat → Nat → Option Nat} {sp : Nat → Nat → Int32} {j : Nat} {v : Int32} (hC : Cst E x G uw fo ca co lo lc kn on cut u f g fl h sp) (hj3 : j < 3) : Cst E x (va_up G (sA x j) (so_o (sA x j) (nI (sC j)) v (sO j))) uw fo ca co lo lc kn on cut u f g (upd fl j v) h sp := by
  obtain ⟨hK, hW, ho, hF, hU, hA, hL, hR, hSt⟩ := hC
  have ne : ∀ q, q ≠ sA x j → va_up G (sA x j) (so_o (sA x j) (nI (sC j)) v (sO j)) q = G q := fun q hq => va_up_ne _ _ hq
  refine ⟨(ne _ (by unfold sA; omega)).trans hK, (ne _ (by unfold sA; omega)).trans hW, ho, (ne _ (by unfold sA; omega)).trans hF, (ne _ (by unfold sA; omega)).trans hU, (ne _ (by unfold sA; omega)).trans hA, (ne _ (by unfold sA; omega)).trans hL, (ne _ (by unfold sA; omega)).trans hR, fun i hi => ?_⟩
  by_cases e : i = j
  · subst e
    refine ⟨?_, (ne _ (by omega)).trans (hSt i hi).2.1, (ne _ (by omega)).trans (hSt i hi).2.2⟩
    rw [va_up_self, pk_us]
  · exact cS_eq (hSt i hi) (pk_un e) rfl rfl (fun q a c => ne q (by unfold sA at a c ⊢; omega))
abbrev ka_fl (fl : Nat → Int32) (i z : Int32) : Prop := (0 ≤ i ∧ i < 3) ∧ fl i.toNatClampNeg ≠ z
set_option maxRecDepth 100000 in
theorem k_fail (l : Launch) (E : jx_E) (b : Nat) (G : jx_H) (sz : Nat) (x : Nat) (uw : Nat) (fo : Option Nat) (ca : Nat) (co : Int32) (lo : Nat) (lc : Int32) (kn : Option Nat) (on cut : Int32) (u f g fl : Nat → Int32) (h : Nat → Nat → Option Nat) (sp : Nat → Nat → Int32) (β : Nat → bd_T) (ρ : Nat → Nat → Int32) (D P : Nat → Prop) (hC : Cl E x G sz uw fo ca co lo lc kn on cut u f g fl h sp β ρ D P) (i z : Int32) (hz : z = 0 ∨ z = 1) : jx_ct l E b yK_fail cK_fail 4 (some .boolean) 2 0 0 [.ref x, .int i, .int z] G sz (fun v G' sz' => v = some (.int (jb_z (ka_fl fl i z))) ∧ sz' = sz ∧ Cl E x G' sz uw fo ca co lo lc kn on cut u f g (if ka_fl fl i z then upd fl i.toNatClampNeg z else fl) h sp β ρ D P ∧ fr x G G') := by
  have hC0 := hC
  obtain ⟨⟨hK, hW, ho, hF, hU, hA, hL, hR, hSt⟩, hHD, hUw, hDb, hPp, hj, hdy, hbd, hsz⟩ := hC
  refine jx_met (by decide) (Nat.le_of_ble_eq_true rfl) (L0 := [_, _, _, _]) rfl (fun X k => ?_)
  have hfi : fits .boolean (.int z) = true := by rcases hz with rfl | rfl <;> rfl
  by_cases g1 : 0 ≤ i ∧ i < 3
  · obtain ⟨j, hj3, rfl⟩ := nI_lift (n := 3) g1.1 g1.2 (by decide)
    have hS := (hSt j hj3).1
    have ej : (nI j).toNatClampNeg = j := nI_clamp (by omega)
    refine jx_aload_n k dK_fail_0 rfl ?_
    refine jx_iload_n k dK_fail_1 rfl ?_
    refine jx_callVP k mK_146 (k_storeAt1 _ _ _ _ _ x uw fo ca co lo lc kn on cut u f g fl h sp β ρ D P hC0 j hj3) hK rfl dK_fail_2 rfl rfl rfl (Nat.le_of_ble_eq_true rfl) ⟨Nat.le_of_ble_eq_true rfl, Nat.le_of_ble_eq_true rfl⟩ ⟨Nat.le_of_ble_eq_true rfl, Nat.le_of_ble_eq_true rfl⟩ ?_
    refine jx_astore_n k dK_fail_5 (Nat.le_of_ble_eq_true rfl) rfl (L' := [_, _, _, _]) rfl ?_
    refine jx_aload_n k dK_fail_6 rfl ?_
    refine jx_ifnull k dK_fail_7 ?_
    refine jx_aload_n k dK_fail_10 rfl ?_
    refine jx_get k fK_194 dK_fail_11 hS rfl ?_
    refine jx_iload_n k dK_fail_14 rfl ?_
    refine jx_icmp_ne k dK_fail_15 (tgt := 20) rfl (fun h2 => ?_) (fun h2 => ?_)
    · have g2 : ka_fl fl (nI j) z := ⟨g1, by rw [ej]; exact h2⟩
      refine jx_aload_n k dK_fail_20 rfl ?_
      refine jx_iload_n k dK_fail_21 rfl ?_
      refine jx_put k fK_194 dK_fail_22 hS (jb_01 hz) hfi (Nat.le_of_ble_eq_true rfl) (fs' := [_, _, _, _, _]) rfl ?_
      refine jx_iconst k dK_fail_25 (v := 1) (by decide) ?_
      exact jx_zret k dK_fail_26 rfl (Nat.le_refl _) (Nat.le_refl _) ⟨by rw [jb_t g2], rfl, by rw [if_pos g2, ej]; exact Cl_st hC0 (fun q hq => va_up_ne _ _ (by unfold sA; omega)) (Cst_fl hC0.1 hj3)⟩
    · have g2 : ¬ ka_fl fl (nI j) z := fun h => h.2 (by rw [ej]; exact h2)
      refine jx_iconst k dK_fail_18 (v := 0) (by decide) ?_
      exact jx_zret k dK_fail_19 rfl (Nat.le_refl _) (Nat.le_refl _) ⟨by rw [jb_f g2], rfl, by rw [if_neg g2]; exact ⟨hC0, fr_rf⟩⟩
  · have g2 : ¬ ka_fl fl i z := fun h => g1 h.1
    refine jx_aload_n k dK_fail_0 rfl ?_
    refine jx_iload_n k dK_fail_1 rfl ?_
    refine jx_callVP k mK_146 (k_storeAt0 _ _ _ _ _ x uw fo ca co lo lc kn on cut u f g fl h sp β ρ D P hC0 i g1) hK rfl dK_fail_2 rfl rfl rfl (Nat.le_of_ble_eq_true rfl) ⟨Nat.le_of_ble_eq_true rfl, Nat.le_of_ble_eq_true rfl⟩ ⟨Nat.le_of_ble_eq_true rfl, Nat.le_of_ble_eq_true rfl⟩ ?_
    refine jx_astore_nN k dK_fail_5 (Nat.le_of_ble_eq_true rfl) rfl (L' := [_, _, _, _]) rfl ?_
    refine jx_aload_nN k dK_fail_6 rfl ?_
    refine jx_ifnullN k dK_fail_7 (tgt := 18) rfl ?_
    refine jx_iconst k dK_fail_18 (v := 0) (by decide) ?_
    exact jx_zret k dK_fail_19 rfl (Nat.le_refl _) (Nat.le_refl _) ⟨by rw [jb_f g2], rfl, by rw [if_neg g2]; exact ⟨hC0, fr_rf⟩⟩
theorem Cst_sp {E : jx_E} {x : Nat} {G : jx_H} {uw : Nat} {fo : Option Nat} {ca : Nat} {co : Int32} {lo : Nat} {lc : Int32} {kn : Option Nat} {on cut : Int32} {u f g fl : Nat → Int32} {h : Nat → Nat → Option Nat} {sp : Nat → Nat → Int32} {j : Nat} {s' : Nat → Int32} (hC : Cst E x G uw fo ca co lo lc kn on cut u f g fl h sp) (hj3 : j < 3) : Cst E x (va_up G (sA x j + 2) (some (ja_z E (sN j) s'))) uw fo ca co lo lc kn on cut u f g fl h (va_up sp j s') := by
  obtain ⟨hK, hW, ho, hF, hU, hA, hL, hR, hSt⟩ := hC
  have ne : ∀ q, q ≠ sA x j + 2 → va_up G (sA x j + 2) (some (ja_z E (sN j) s')) q = G q := fun q hq => va_up_ne _ _ hq
  refine ⟨(ne _ (by unfold sA; omega)).trans hK, (ne _ (by unfold sA; omega)).trans hW, ho, (ne _ (by unfold sA; omega)).trans hF, (ne _ (by unfold sA; omega)).trans hU, (ne _ (by unfold sA; omega)).trans hA, (ne _ (by unfold sA; omega)).trans hL, (ne _ (by unfold sA; omega)).trans hR, fun i hi => ?_⟩
  by_cases e : i = j
  · subst e
    refine ⟨(ne _ (by omega)).trans (hSt i hi).1, (ne _ (by omega)).trans (hSt i hi).2.1, ?_⟩
    rw [va_up_self, va_up_self]
  · exact cS_eq (hSt i hi) rfl rfl (va_up_ne _ _ e) (fun q a c => ne q (by unfold sA at a c ⊢; omega))
abbrev ka_sp (sp : Nat → Nat → Int32) (i p : Int32) : Prop := (0 ≤ i ∧ i < 3) ∧ (0 ≤ p ∧ p < nI (sN i.toNatClampNeg)) ∧ sp i.toNatClampNeg p.toNatClampNeg = 0
set_option maxRecDepth 100000 in
theorem k_spoil (l : Launch) (E : jx_E) (b : Nat) (G : jx_H) (sz : Nat) (x : Nat) (uw : Nat) (fo : Option Nat) (ca : Nat) (co : Int32) (lo : Nat) (lc : Int32) (kn : Option Nat) (on cut : Int32) (u f g fl : Nat → Int32) (h : Nat → Nat → Option Nat) (sp : Nat → Nat → Int32) (β : Nat → bd_T) (ρ : Nat → Nat → Int32) (D P : Nat → Prop) (hC : Cl E x G sz uw fo ca co lo lc kn on cut u f g fl h sp β ρ D P) (i p : Int32) : jx_ct l E b yK_spoil cK_spoil 4 (some .boolean) 2 0 0 [.ref x, .int i, .int p] G sz (fun v G' sz' => v = some (.int (jb_z (ka_sp sp i p))) ∧ sz' = sz ∧ Cl E x G' sz uw fo ca co lo lc kn on cut u f g fl h (if ka_sp sp i p then va_up sp i.toNatClampNeg (upd (sp i.toNatClampNeg) p.toNatClampNeg 1) else sp) β ρ D P ∧ fr x G G') := by
  have hC0 := hC
  obtain ⟨⟨hK, hW, ho, hF, hU, hA, hL, hR, hSt⟩, hHD, hUw, hDb, hPp, hj, hdy, hbd, hsz⟩ := hC
  refine jx_met (by decide) (Nat.le_of_ble_eq_true rfl) (L0 := [_, _, _, _]) rfl (fun X k => ?_)
  by_cases g1 : 0 ≤ i ∧ i < 3
  · obtain ⟨j, hj3, rfl⟩ := nI_lift (n := 3) g1.1 g1.2 (by decide)
    have hS := hSt j hj3
    have ej : (nI j).toNatClampNeg = j := nI_clamp (by omega)
    by_cases g2 : ka_sp sp (nI j) p
    · have g3 := g2.2
      rw [ej] at g3
      obtain ⟨m, hm, rfl⟩ := nI_lift (n := sN j) g3.1.1 g3.1.2 (by have := sN_le j; omega)
      have em : (nI m).toNatClampNeg = m := nI_clamp (by have := sN_le j; omega)
      rw [em] at g3
      refine jx_aload_n k dK_spoil_0 rfl ?_
      refine jx_iload_n k dK_spoil_1 rfl ?_
      refine jx_callVP k mK_146 (k_storeAt1 _ _ _ _ _ x uw fo ca co lo lc kn on cut u f g fl h sp β ρ D P hC0 j hj3) hK rfl dK_spoil_2 rfl rfl rfl (Nat.le_of_ble_eq_true rfl) ⟨Nat.le_of_ble_eq_true rfl, Nat.le_of_ble_eq_true rfl⟩ ⟨Nat.le_of_ble_eq_true rfl, Nat.le_of_ble_eq_true rfl⟩ ?_
      refine jx_astore_n k dK_spoil_5 (Nat.le_of_ble_eq_true rfl) rfl (L' := [_, _, _, _]) rfl ?_
      refine jx_aload_n k dK_spoil_6 rfl ?_
      refine jx_ifnull k dK_spoil_7 ?_
      refine jx_aload_n k dK_spoil_10 rfl ?_
      refine jx_iload_n k dK_spoil_11 rfl ?_
      refine jx_callV1 k mK_204 (k_spoil1 _ _ _ _ _ (sA x j) (sN j) _ _ _ hS.1 (sN_le j) (sp j) hS.2.2 m hm g3.2) hS.1 rfl dK_spoil_12 rfl rfl rfl (Nat.le_of_ble_eq_true rfl) ⟨Nat.le_of_ble_eq_true rfl, Nat.le_of_ble_eq_true rfl⟩ ⟨Nat.le_of_ble_eq_true rfl, Nat.le_of_ble_eq_true rfl⟩ ?_
      refine jx_if_eq k dK_spoil_15 (tgt := 22) rfl (fun hh => absurd hh (by decide)) (fun _ => ?_)
      refine jx_iconst k dK_spoil_18 (v := 1) (by decide) ?_
      refine jx_goto k dK_spoil_19 (tgt := 23) rfl ?_
      exact jx_zret k dK_spoil_23 rfl (Nat.le_refl _) (Nat.le_refl _) ⟨by rw [jb_t g2], rfl, by rw [if_pos g2, ej, em]; exact Cl_st hC0 (fun q hq => va_up_ne _ _ (by unfold sA; omega)) (Cst_sp hC0.1 hj3)⟩
    · have g3 : ¬ ((0 ≤ p ∧ p < nI (sN j)) ∧ sp j p.toNatClampNeg = 0) := fun h => g2 ⟨g1, by rw [ej]; exact h⟩
      refine jx_aload_n k dK_spoil_0 rfl ?_
      refine jx_iload_n k dK_spoil_1 rfl ?_
      refine jx_callVP k mK_146 (k_storeAt1 _ _ _ _ _ x uw fo ca co lo lc kn on cut u f g fl h sp β ρ D P hC0 j hj3) hK rfl dK_spoil_2 rfl rfl rfl (Nat.le_of_ble_eq_true rfl) ⟨Nat.le_of_ble_eq_true rfl, Nat.le_of_ble_eq_true rfl⟩ ⟨Nat.le_of_ble_eq_true rfl, Nat.le_of_ble_eq_true rfl⟩ ?_
      refine jx_astore_n k dK_spoil_5 (Nat.le_of_ble_eq_true rfl) rfl (L' := [_, _, _, _]) rfl ?_
      refine jx_aload_n k dK_spoil_6 rfl ?_
      refine jx_ifnull k dK_spoil_7 ?_
      refine jx_aload_n k dK_spoil_10 rfl ?_
      refine jx_iload_n k dK_spoil_11 rfl ?_
      refine jx_callVP k mK_204 (k_spoil0 _ _ _ _ _ (sA x j) (sN j) _ _ _ hS.1 (sN_le j) (sp j) hS.2.2 p g3) hS.1 rfl dK_spoil_12 rfl rfl rfl (Nat.le_of_ble_eq_true rfl) ⟨Nat.le_of_ble_eq_true rfl, Nat.le_of_ble_eq_true rfl⟩ ⟨Nat.le_of_ble_eq_true rfl, Nat.le_of_ble_eq_true rfl⟩ ?_
      refine jx_if_eq k dK_spoil_15 (tgt := 22) rfl (fun _ => ?_) (fun hh => absurd rfl hh)
      refine jx_iconst k dK_spoil_22 (v := 0) (by decide) ?_
      exact jx_zret k dK_spoil_23 rfl (Nat.le_refl _) (Nat.le_refl _) ⟨by rw [jb_f g2], rfl, by rw [if_neg g2]; exact ⟨hC0, fr_rf⟩⟩
  · have g2 : ¬ ka_sp sp i p := fun h => g1 h.1
    refine jx_aload_n k dK_spoil_0 rfl ?_
    refine jx_iload_n k dK_spoil_1 rfl ?_
    refine jx_callVP k mK_146 (k_storeAt0 _ _ _ _ _ x uw fo ca co lo lc kn on cut u f g fl h sp β ρ D P hC0 i g1) hK rfl dK_spoil_2 rfl rfl rfl (Nat.le_of_ble_eq_true rfl) ⟨Nat.le_of_ble_eq_true rfl, Nat.le_of_ble_eq_true rfl⟩ ⟨Nat.le_of_ble_eq_true rfl, Nat.le_of_ble_eq_true rfl⟩ ?_
    refine jx_astore_nN k dK_spoil_5 (Nat.le_of_ble_eq_true rfl) rfl (L' := [_, _, _, _]) rfl ?_
    refine jx_aload_nN k dK_spoil_6 rfl ?_
    refine jx_ifnullN k dK_spoil_7 (tgt := 22) rfl ?_
    refine jx_iconst k dK_spoil_22 (v := 0) (by decide) ?_
    exact jx_zret k dK_spoil_23 rfl (Nat.le_refl _) (Nat.le_refl _) ⟨by rw [jb_f g2], rfl, by rw [if_neg g2]; exact ⟨hC0, fr_rf⟩⟩
abbrev ka_us (u : Nat → Int32) (i : Int32) : Prop := (0 ≤ i ∧ i < 3) ∧ u i.toNatClampNeg ≠ 0
set_option maxRecDepth 100000 in
theorem k_release (l : Launch) (E : jx_E) (b : Nat) (G : jx_H) (sz : Nat) (x : Nat) (uw : Nat) (fo : Option Nat) (ca : Nat) (co : Int32) (lo : Nat) (lc : Int32) (kn : Option Nat) (on cut : Int32) (u f g fl : Nat → Int32) (h : Nat → Nat → Option Nat) (sp : Nat → Nat → Int32) (β : Nat → bd_T) (ρ : Nat → Nat → Int32) (D P : Nat → Prop) (hC : Cl E x G sz uw fo ca co lo lc kn on cut u f g fl h sp β ρ D P) (h1 : on = 1) (i : Int32) : jx_ct l E b yK_release cK_release 2 (some .boolean) 2 0 0 [.ref x, .int i] G sz (fun v G' sz' => v = some (.int (jb_z (ka_us u i))) ∧ sz' = sz ∧ Cl E x G' sz uw fo ca co lo lc kn on cut (if ka_us u i then upd u i.toNatClampNeg 0 else u) f g fl h sp β ρ D P ∧ fr x G G') := by
  have hC0 := hC
  obtain ⟨⟨hK, hW, ho, hF, hU, hA, hL, hR, hSt⟩, hHD, hUw, hDb, hPp, hj, hdy, hbd, hsz⟩ := hC
  refine jx_met (by decide) (Nat.le_of_ble_eq_true rfl) (L0 := [_, _]) rfl (fun X k => ?_)
  refine jx_aload_n k dK_release_0 rfl ?_
  refine jx_callV0 k mK_64 (k_req1 _ _ _ _ _ x uw fo ca co lo lc kn on cut u f g fl h sp β ρ D P hC0 h1) hK rfl dK_release_1 rfl rfl rfl (Nat.le_of_ble_eq_true rfl) ⟨Nat.le_of_ble_eq_true rfl, Nat.le_of_ble_eq_true rfl⟩ ⟨Nat.le_of_ble_eq_true rfl, Nat.le_of_ble_eq_true rfl⟩ ?_
  refine jx_aload_n k dK_release_4 rfl ?_
  refine jx_get k fK_19 dK_release_5 hK rfl ?_
  refine jx_iload_n k dK_release_8 rfl ?_
  refine jx_callVP k mK_138 (k_isInUse _ _ _ _ _ (x + 2) u i hF hU) hF rfl dK_release_9 rfl rfl rfl (Nat.le_of_ble_eq_true rfl) ⟨Nat.le_of_ble_eq_true rfl, Nat.le_of_ble_eq_true rfl⟩ ⟨Nat.le_of_ble_eq_true rfl, Nat.le_of_ble_eq_true rfl⟩ ?_
  refine jx_if_ne k dK_release_12 (tgt := 17) rfl (fun h2 => ?_) (fun h2 => ?_)
  · have g2 : ka_us u i := Decidable.byContradiction (fun h => h2 (jb_f h))
    obtain ⟨j, hj3, rfl⟩ := nI_lift (n := 3) g2.1.1 g2.1.2 (by decide)
    have ej : (nI j).toNatClampNeg = j := nI_clamp (by omega)
    refine jx_aload_n k dK_release_17 rfl ?_
    refine jx_get k fK_19 dK_release_18 hK rfl ?_
    refine jx_iload_n k dK_release_21 rfl ?_
    refine jx_callV0 k mK_135 (k_Fend _ _ _ _ _ (x + 2) u hF hU j hj3) hF rfl dK_release_22 rfl rfl rfl (Nat.le_of_ble_eq_true rfl) ⟨Nat.le_of_ble_eq_true rfl, Nat.le_of_ble_eq_true rfl⟩ ⟨Nat.le_of_ble_eq_true rfl, Nat.le_of_ble_eq_true rfl⟩ ?_
    refine jx_iconst k dK_release_25 (v := 1) (by decide) ?_
    exact jx_zret k dK_release_26 rfl (Nat.le_refl _) (Nat.le_refl _) ⟨by rw [jb_t g2], rfl, by rw [if_pos g2, ej, show x + 2 + 1 = x + 3 from rfl, fz_3u hA hL]; exact Cl_st hC0 (fun q hq => fz_3n (by omega) (by omega) (by omega)) (Cst_fz hC0.1)⟩
  · have g2 : ¬ ka_us u i := jb_e0.mp h2
    refine jx_iconst k dK_release_15 (v := 0) (by decide) ?_
    exact jx_zret k dK_release_16 rfl (Nat.le_refl _) (Nat.le_refl _) ⟨by rw [jb_f g2], rfl, by rw [if_neg g2]; exact ⟨hC0, fr_rf⟩⟩
