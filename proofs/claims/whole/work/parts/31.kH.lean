/-- the class's state: numbers, texts, arrays, picture, small numbers of a bundle -/
abbrev bd_T : Type := (Nat → Int32) × (Nat → Int64) × (Nat → Nat → Int32) × Option Nat × (Nat → Nat)
abbrev d_tm (β : Nat → bd_T) (z : Nat) : Int32 := (β z).1 0
abbrev d_cs (β : Nat → bd_T) (z : Nat) : Int32 := (β z).1 1
abbrev d_ba (β : Nat → bd_T) (z : Nat) : Int32 := (β z).1 2
abbrev d_tx (β : Nat → bd_T) (z : Nat) : Nat → Int64 := (β z).2.1
abbrev d_so (β : Nat → bd_T) (z : Nat) : Nat → Int32 := (β z).2.2.1 0
abbrev d_sd (β : Nat → bd_T) (z : Nat) : Nat → Int32 := (β z).2.2.1 1
abbrev d_he (β : Nat → bd_T) (z : Nat) : Nat → Int32 := (β z).2.2.1 2
abbrev d_po (β : Nat → bd_T) (z : Nat) : Option Nat := (β z).2.2.2.1
abbrev d_sn (β : Nat → bd_T) (z : Nat) : Nat := (β z).2.2.2.2 0
abbrev d_pb (β : Nat → bd_T) (z : Nat) : Nat := (β z).2.2.2.2 1
abbrev d_sb (β : Nat → bd_T) (z : Nat) : Nat := (β z).2.2.2.2 2
def cB (E : jx_E) (G : jx_H) (β : Nat → bd_T) (z : Nat) : Prop := G z = bn_o z (d_tm β z) (nI (d_sn β z)) (d_cs β z) (bv (d_po β z)) (d_ba β z) (nI (d_pb β z)) (nI (d_sb β z)) ∧ G (z + 1) = some (ja_l E 4 (d_tx β z)) ∧ G (z + 2) = some (ja_i E 4 (d_so β z)) ∧ G (z + 3) = some (ja_i E 8 (d_sd β z)) ∧ G (z + 4) = some (ja_z E 2 (d_he β z)) ∧ d_sn β z ≤ 4 ∧ d_pb β z ≤ 64 ∧ d_sb β z ≤ 10 * d_sn β z
def sA (x i : Nat) : Nat := x + 7 + 3 * i
def sN (i : Nat) : Nat := if i = 0 then 40 else if i = 1 then 20 else 10
def sC (i : Nat) : Nat := if i = 2 then 1 else 2
def sO (i : Nat) : Int32 := if i = 0 then 1 else 0
def sV (x : Nat) : Nat → Option Nat := va_up (va_up (va_up (fun _ => none) 0 (some (sA x 0))) 1 (some (sA x 1))) 2 (some (sA x 2))
theorem sV_i {x i : Nat} (h : i < 3) : sV x i = some (sA x i) := by
  rcases (show i = 0 ∨ i = 1 ∨ i = 2 by omega) with rfl | rfl | rfl <;> rfl
theorem sN_le (i : Nat) : sN i < 100 := by
  unfold sN
  split
  · omega
  · split <;> omega
theorem sC_12 (i : Nat) : sC i = 1 ∨ sC i = 2 := by
  unfold sC
  split
  · exact .inl rfl
  · exact .inr rfl
abbrev kp_o (x uw : Nat) (fo : Option Nat) (ca : Nat) (co : Int32) (lo : Nat) (lc : Int32) (kn : Option Nat) : Option va_E := some (.inr (5, [.ref (x + 1), .ref (x + 2), .ref (x + 6), .ref uw, bv fo, .ref ca, .int co, .ref lo, .int lc, bv kn]))
def dy (x sz z n : Nat) : Prop := (x + 16 ≤ z ∧ z + n ≤ x + 30) ∨ (x + 52 ≤ z ∧ z + n ≤ sz)
def ap (z n q m : Nat) : Prop := z + n ≤ q ∨ q + m ≤ z
def cS (E : jx_E) (x : Nat) (G : jx_H) (fl : Nat → Int32) (h : Nat → Nat → Option Nat) (sp : Nat → Nat → Int32) (i : Nat) : Prop := G (sA x i) = so_o (sA x i) (nI (sC i)) (fl i) (sO i) ∧ G (sA x i + 1) = some (ja_q E 4 (sN i) (h i)) ∧ G (sA x i + 2) = some (ja_z E (sN i) (sp i))
def cP (E : jx_E) (G : jx_H) (ρ : Nat → Nat → Int32) (p : Nat) : Prop := G p = pc_o p ∧ G (p + 1) = some (ja_i E 8 (ρ p))
/-- the class's heap: the cells made once, and the others -/
def Cst (E : jx_E) (x : Nat) (G : jx_H) (uw : Nat) (fo : Option Nat) (ca : Nat) (co : Int32) (lo : Nat) (lc : Int32) (kn : Option Nat) (on cut : Int32) (u f g fl : Nat → Int32) (h : Nat → Nat → Option Nat) (sp : Nat → Nat → Int32) : Prop :=
  G x = kp_o x uw fo ca co lo lc kn ∧ G (x + 1) = pw_o on cut ∧ (on = 0 ∨ on = 1) ∧
  G (x + 2) = fz_o (x + 2) ∧ G (x + 3) = some (ja_z E 3 u) ∧ G (x + 4) = some (ja_i E 3 f) ∧ G (x + 5) = some (ja_i E 3 g) ∧
  G (x + 6) = some (ja_q E 3 3 (sV x)) ∧ (∀ i, i < 3 → cS E x G fl h sp i)
def Cdy (E : jx_E) (x : Nat) (G : jx_H) (sz uw : Nat) (fo : Option Nat) (ca lo : Nat) (kn : Option Nat) (h : Nat → Nat → Option Nat) (β : Nat → bd_T) (ρ : Nat → Nat → Int32) (D P : Nat → Prop) : Prop :=
  (∀ i, i < 3 → ∀ p, p < sN i → ∀ z, h i p = some z → D z) ∧
  cB E G β uw ∧ (∀ z, D z → cB E G β z) ∧ (∀ p, P p → cP E G ρ p) ∧
  (P ca ∧ D lo ∧ (∀ z, fo = some z → D z ∧ d_po β z ≠ none) ∧ (∀ p, kn = some p → P p ∧ p ≠ ca) ∧ (∀ z, (D z ∨ z = uw) → ∀ p, d_po β z = some p → P p ∧ p ≠ ca)) ∧
  (dy x sz uw 5 ∧ (∀ z, D z → dy x sz z 5 ∧ ap z 5 uw 5 ∧ ap z 5 ca 2) ∧ (∀ p, P p → dy x sz p 2 ∧ ap p 2 uw 5 ∧ (p = ca ∨ ap p 2 ca 2))) ∧ jx_bd G sz ∧ x + 52 ≤ sz
def Cl (E : jx_E) (x : Nat) (G : jx_H) (sz : Nat) (uw : Nat) (fo : Option Nat) (ca : Nat) (co : Int32) (lo : Nat) (lc : Int32) (kn : Option Nat) (on cut : Int32) (u f g fl : Nat → Int32) (h : Nat → Nat → Option Nat) (sp : Nat → Nat → Int32) (β : Nat → bd_T) (ρ : Nat → Nat → Int32) (D P : Nat → Prop) : Prop := Cst E x G uw fo ca co lo lc kn on cut u f g fl h sp ∧ Cdy E x G sz uw fo ca lo kn h β ρ D P
theorem cB_k {E : jx_E} {G : jx_H} {β : Nat → bd_T} {z : Nat} (h : cB E G β z) : bn_k G z (d_tm β z) := ⟨_, _, _, _, _, _, h.1⟩
set_option maxRecDepth 100000 in
theorem k_storeAt0 (l : Launch) (E : jx_E) (b : Nat) (G : jx_H) (sz : Nat) (x : Nat) (uw : Nat) (fo : Option Nat) (ca : Nat) (co : Int32) (lo : Nat) (lc : Int32) (kn : Option Nat) (on cut : Int32) (u f g fl : Nat → Int32) (h : Nat → Nat → Option Nat) (sp : Nat → Nat → Int32) (β : Nat → bd_T) (ρ : Nat → Nat → Int32) (D P : Nat → Prop) (hC : Cl E x G sz uw fo ca co lo lc kn on cut u f g fl h sp β ρ D P) (i : Int32) (hi : ¬ (0 ≤ i ∧ i < 3)) : jx_ct l E b yK_storeAt cK_storeAt 2 (some (.object "VoyageKeeper$Store")) 1 0 0 [.ref x, .int i] G sz (jx_pu .null G sz) := by
  obtain ⟨⟨hK, hW, ho, hF, hU, hA, hL, hR, hSt⟩, hHD, hUw, hDb, hPp, hj, hdy, hbd, hsz⟩ := hC
  refine jx_met (by decide) (Nat.le_of_ble_eq_true rfl) (L0 := [_, _]) rfl (fun X k => ?_)
  refine jx_iload_n k dK_storeAt_0 rfl ?_
  refine jx_aload_n k dK_storeAt_1 rfl ?_
  refine jx_get k fK_28 dK_storeAt_2 hK rfl ?_
  refine jx_alen k dK_storeAt_5 hR (t := 3) rfl ?_
  refine jx_callSP k mK_67 (k_isBelow _ _ _ _ _ i 3) dK_storeAt_6 rfl rfl rfl (Nat.le_of_ble_eq_true rfl) ⟨Nat.le_of_ble_eq_true rfl, Nat.le_of_ble_eq_true rfl⟩ ⟨Nat.le_of_ble_eq_true rfl, Nat.le_of_ble_eq_true rfl⟩ ?_
  refine jx_if_eq k dK_storeAt_9 (tgt := 21) rfl (fun _ => ?_) (fun hh => absurd (jb_f hi) hh)
  refine jx_null k dK_storeAt_21 ?_
  exact jx_aret k (.inl rfl) dK_storeAt_22 (Nat.le_refl _) (Nat.le_refl _) ⟨rfl, rfl, rfl⟩
set_option maxRecDepth 100000 in
theorem k_storeAt1 (l : Launch) (E : jx_E) (b : Nat) (G : jx_H) (sz : Nat) (x : Nat) (uw : Nat) (fo : Option Nat) (ca : Nat) (co : Int32) (lo : Nat) (lc : Int32) (kn : Option Nat) (on cut : Int32) (u f g fl : Nat → Int32) (h : Nat → Nat → Option Nat) (sp : Nat → Nat → Int32) (β : Nat → bd_T) (ρ : Nat → Nat → Int32) (D P : Nat → Prop) (hC : Cl E x G sz uw fo ca co lo lc kn on cut u f g fl h sp β ρ D P) (j : Nat) (hj3 : j < 3) : jx_ct l E b yK_storeAt cK_storeAt 2 (some (.object "VoyageKeeper$Store")) 1 0 0 [.ref x, .int (nI j)] G sz (jx_pu (.ref (sA x j)) G sz) := by
  obtain ⟨⟨hK, hW, ho, hF, hU, hA, hL, hR, hSt⟩, hHD, hUw, hDb, hPp, hj, hdy, hbd, hsz⟩ := hC
  refine jx_met (by decide) (Nat.le_of_ble_eq_true rfl) (L0 := [_, _]) rfl (fun X k => ?_)
  have g1 : 0 ≤ nI j ∧ nI j < 3 := ⟨nI_pos' (by omega), nI_lt (b := 3) hj3 (by decide)⟩
  refine jx_iload_n k dK_storeAt_0 rfl ?_
  refine jx_aload_n k dK_storeAt_1 rfl ?_
  refine jx_get k fK_28 dK_storeAt_2 hK rfl ?_
  refine jx_alen k dK_storeAt_5 hR (t := 3) rfl ?_
  refine jx_callSP k mK_67 (k_isBelow _ _ _ _ _ (nI j) 3) dK_storeAt_6 rfl rfl rfl (Nat.le_of_ble_eq_true rfl) ⟨Nat.le_of_ble_eq_true rfl, Nat.le_of_ble_eq_true rfl⟩ ⟨Nat.le_of_ble_eq_true rfl, Nat.le_of_ble_eq_true rfl⟩ ?_
  refine jx_if_eq k dK_storeAt_9 (tgt := 21) rfl (fun hh => absurd hh (fun h => jb_e0.mp h g1)) (fun _ => ?_)
  refine jx_aload_n k dK_storeAt_12 rfl ?_
  refine jx_get k fK_28 dK_storeAt_13 hK rfl ?_
  refine jx_iload_n k dK_storeAt_16 rfl ?_
  refine jx_aldS k dK_storeAt_17 hR (t := 3) rfl (p := j) rfl (by omega) (by decide) (sV_i hj3) ?_
  refine jx_goto k dK_storeAt_18 (tgt := 22) rfl ?_
  exact jx_aret k (.inr ⟨_, rfl⟩) dK_storeAt_22 (Nat.le_refl _) (Nat.le_refl _) ⟨rfl, rfl, rfl⟩
set_option maxRecDepth 100000 in
theorem k_now (l : Launch) (E : jx_E) (b : Nat) (G : jx_H) (sz : Nat) (x : Nat) (uw : Nat) (fo : Option Nat) (ca : Nat) (co : Int32) (lo : Nat) (lc : Int32) (kn : Option Nat) (on cut : Int32) (u f g fl : Nat → Int32) (h : Nat → Nat → Option Nat) (sp : Nat → Nat → Int32) (β : Nat → bd_T) (ρ : Nat → Nat → Int32) (D P : Nat → Prop) (hC : Cl E x G sz uw fo ca co lo lc kn on cut u f g fl h sp β ρ D P) : jx_ct l E b yK_now cK_now 1 (some .int) 0 0 0 [.ref x] G sz (jx_pu (.int (d_tm β uw)) G sz) := by
  obtain ⟨⟨hK, hW, ho, hF, hU, hA, hL, hR, hSt⟩, hHD, hUw, hDb, hPp, hj, hdy, hbd, hsz⟩ := hC
  refine jx_met (by decide) (Nat.le_of_ble_eq_true rfl) (L0 := [_]) rfl (fun X k => ?_)
  refine jx_aload_n k dK_now_0 rfl ?_
  refine jx_get k fK_37 dK_now_1 hK rfl ?_
  refine jx_get k fK_94 dK_now_4 hUw.1 rfl ?_
  exact jx_iret k dK_now_7 (Nat.le_refl _) (Nat.le_refl _) ⟨rfl, rfl, rfl⟩
def ka_frozen (u f g : Nat → Int32) (i z : Int32) : Int32 := if (0 ≤ i ∧ i < 3) ∧ u i.toNatClampNeg ≠ 0 then (if z = 0 then f i.toNatClampNeg else g i.toNatClampNeg) else -1
set_option maxRecDepth 100000 in
theorem k_frozen (l : Launch) (E : jx_E) (b : Nat) (G : jx_H) (sz : Nat) (x : Nat) (uw : Nat) (fo : Option Nat) (ca : Nat) (co : Int32) (lo : Nat) (lc : Int32) (kn : Option Nat) (on cut : Int32) (u f g fl : Nat → Int32) (h : Nat → Nat → Option Nat) (sp : Nat → Nat → Int32) (β : Nat → bd_T) (ρ : Nat → Nat → Int32) (D P : Nat → Prop) (hC : Cl E x G sz uw fo ca co lo lc kn on cut u f g fl h sp β ρ D P) (i z : Int32) : jx_ct l E b yK_frozen cK_frozen 3 (some .int) 2 0 0 [.ref x, .int i, .int z] G sz (jx_pu (.int (ka_frozen u f g i z)) G sz) := by
  obtain ⟨⟨hK, hW, ho, hF, hU, hA, hL, hR, hSt⟩, hHD, hUw, hDb, hPp, hj, hdy, hbd, hsz⟩ := hC
  refine jx_met (by decide) (Nat.le_of_ble_eq_true rfl) (L0 := [_, _, _]) rfl (fun X k => ?_)
  refine jx_aload_n k dK_frozen_0 rfl ?_
  refine jx_get k fK_19 dK_frozen_1 hK rfl ?_
  refine jx_iload_n k dK_frozen_4 rfl ?_
  refine jx_callVP k mK_138 (k_isInUse _ _ _ _ _ (x + 2) u i hF hU) hF rfl dK_frozen_5 rfl rfl rfl (Nat.le_of_ble_eq_true rfl) ⟨Nat.le_of_ble_eq_true rfl, Nat.le_of_ble_eq_true rfl⟩ ⟨Nat.le_of_ble_eq_true rfl, Nat.le_of_ble_eq_true rfl⟩ ?_
  refine jx_if_eq k dK_frozen_8 (tgt := 23) rfl (fun h1 => ?_) (fun h1 => ?_)
  · refine jx_iconst k dK_frozen_23 (v := (-1)) (by decide) ?_
    exact jx_iret k dK_frozen_24 (Nat.le_refl _) (Nat.le_refl _) ⟨by rw [ka_frozen, if_neg (jb_e0.mp h1)], rfl, rfl⟩
  · have g1 := Decidable.byContradiction (fun h => h1 (jb_f h))
    obtain ⟨j, hj, rfl⟩ := nI_lift (n := 3) g1.1.1 g1.1.2 (by decide)
    refine jx_aload_n k dK_frozen_11 rfl ?_
    refine jx_get k fK_19 dK_frozen_12 hK rfl ?_
    refine jx_iload_n k dK_frozen_15 rfl ?_
    refine jx_iload_n k dK_frozen_16 rfl ?_
    refine jx_callVP k mK_142 (k_edge _ _ _ _ _ (x + 2) u f g hF hU hA hL j hj z) hF rfl dK_frozen_17 rfl rfl rfl (Nat.le_of_ble_eq_true rfl) ⟨Nat.le_of_ble_eq_true rfl, Nat.le_of_ble_eq_true rfl⟩ ⟨Nat.le_of_ble_eq_true rfl, Nat.le_of_ble_eq_true rfl⟩ ?_
    refine jx_goto k dK_frozen_20 (tgt := 24) rfl ?_
    exact jx_iret k dK_frozen_24 (Nat.le_refl _) (Nat.le_refl _) ⟨by rw [ka_frozen, if_pos g1, nI_clamp (by omega)], rfl, rfl⟩
def ka_kept (h : Nat → Nat → Option Nat) (tm : Nat → Int32) (i z : Int32) : Int32 := if 0 ≤ i ∧ i < 3 then (if z = 0 then so_l (h i.toNatClampNeg) tm (sN i.toNatClampNeg) else so_m (h i.toNatClampNeg) tm (sN i.toNatClampNeg)) else -1
set_option maxRecDepth 100000 in
theorem k_kept (l : Launch) (E : jx_E) (b : Nat) (G : jx_H) (sz : Nat) (x : Nat) (uw : Nat) (fo : Option Nat) (ca : Nat) (co : Int32) (lo : Nat) (lc : Int32) (kn : Option Nat) (on cut : Int32) (u f g fl : Nat → Int32) (h : Nat → Nat → Option Nat) (sp : Nat → Nat → Int32) (β : Nat → bd_T) (ρ : Nat → Nat → Int32) (D P : Nat → Prop) (hC : Cl E x G sz uw fo ca co lo lc kn on cut u f g fl h sp β ρ D P) (i z : Int32) : jx_ct l E b yK_kept cK_kept 4 (some .int) 3 0 0 [.ref x, .int i, .int z] G sz (jx_pu (.int (ka_kept h (d_tm β) i z)) G sz) := by
  have hC0 := hC
  obtain ⟨⟨hK, hW, ho, hF, hU, hA, hL, hR, hSt⟩, hHD, hUw, hDb, hPp, hj, hdy, hbd, hsz⟩ := hC
  refine jx_met (by decide) (Nat.le_of_ble_eq_true rfl) (L0 := [_, _, _, _]) rfl (fun X k => ?_)
  by_cases g1 : 0 ≤ i ∧ i < 3
  · obtain ⟨j, hj3, rfl⟩ := nI_lift (n := 3) g1.1 g1.2 (by decide)
    have hS := hSt j hj3
    have hT : ∀ z, D z → bn_k G z (d_tm β z) := fun z hz => cB_k (hDb z hz)
    rw [ka_kept, if_pos g1, nI_clamp (by omega)]
    refine jx_aload_n k dK_kept_0 rfl ?_
    refine jx_iload_n k dK_kept_1 rfl ?_
    refine jx_callVP k mK_146 (k_storeAt1 _ _ _ _ _ x uw fo ca co lo lc kn on cut u f g fl h sp β ρ D P hC0 j hj3) hK rfl dK_kept_2 rfl rfl rfl (Nat.le_of_ble_eq_true rfl) ⟨Nat.le_of_ble_eq_true rfl, Nat.le_of_ble_eq_true rfl⟩ ⟨Nat.le_of_ble_eq_true rfl, Nat.le_of_ble_eq_true rfl⟩ ?_
    refine jx_astore_n k dK_kept_5 (Nat.le_of_ble_eq_true rfl) rfl (L' := [_, _, _, _]) rfl ?_
    refine jx_aload_n k dK_kept_6 rfl ?_
    refine jx_ifnonnull k dK_kept_7 (tgt := 12) rfl ?_
    refine jx_iload_n k dK_kept_12 rfl ?_
    refine jx_if_eq k dK_kept_13 (tgt := 23) rfl (fun h1 => ?_) (fun h1 => ?_)
    · refine jx_aload_n k dK_kept_23 rfl ?_
      refine jx_callVP k mK_153 (k_earliest _ _ _ _ _ (sA x j) (sN j) _ _ _ (h j) (d_tm β) D hS.1 hS.2.1 (sN_le j) (hHD j hj3) hT) hS.1 rfl dK_kept_24 rfl rfl rfl (Nat.le_of_ble_eq_true rfl) ⟨Nat.le_of_ble_eq_true rfl, Nat.le_of_ble_eq_true rfl⟩ ⟨Nat.le_of_ble_eq_true rfl, Nat.le_of_ble_eq_true rfl⟩ ?_
      exact jx_iret k dK_kept_27 (Nat.le_refl _) (Nat.le_refl _) ⟨by rw [if_pos h1], rfl, rfl⟩
    · refine jx_aload_n k dK_kept_16 rfl ?_
      refine jx_callVP k mK_150 (k_latest _ _ _ _ _ (sA x j) (sN j) _ _ _ (h j) (d_tm β) D hS.1 hS.2.1 (sN_le j) (hHD j hj3) hT) hS.1 rfl dK_kept_17 rfl rfl rfl (Nat.le_of_ble_eq_true rfl) ⟨Nat.le_of_ble_eq_true rfl, Nat.le_of_ble_eq_true rfl⟩ ⟨Nat.le_of_ble_eq_true rfl, Nat.le_of_ble_eq_true rfl⟩ ?_
      refine jx_goto k dK_kept_20 (tgt := 27) rfl ?_
      exact jx_iret k dK_kept_27 (Nat.le_refl _) (Nat.le_refl _) ⟨by rw [if_neg h1], rfl, rfl⟩
  · rw [ka_kept, if_neg g1]
    refine jx_aload_n k dK_kept_0 rfl ?_
    refine jx_iload_n k dK_kept_1 rfl ?_
    refine jx_callVP k mK_146 (k_storeAt0 _ _ _ _ _ x uw fo ca co lo lc kn on cut u f g fl h sp β ρ D P hC0 i g1) hK rfl dK_kept_2 rfl rfl rfl (Nat.le_of_ble_eq_true rfl) ⟨Nat.le_of_ble_eq_true rfl, Nat.le_of_ble_eq_true rfl⟩ ⟨Nat.le_of_ble_eq_true rfl, Nat.le_of_ble_eq_true rfl⟩ ?_
    refine jx_astore_nN k dK_kept_5 (Nat.le_of_ble_eq_true rfl) rfl (L' := [_, _, _, _]) rfl ?_
    refine jx_aload_nN k dK_kept_6 rfl ?_
    refine jx_ifnonnullN k dK_kept_7 ?_
    refine jx_iconst k dK_kept_10 (v := (-1)) (by decide) ?_
    exact jx_iret k dK_kept_11 (Nat.le_refl _) (Nat.le_refl _) ⟨rfl, rfl, rfl⟩
def ka_free (h : Nat → Nat → Option Nat) (i : Int32) : Int32 := if 0 ≤ i ∧ i < 3 then nI (so_f (h i.toNatClampNeg) (sN i.toNatClampNeg)) else -1
set_option maxRecDepth 100000 in
theorem k_free (l : Launch) (E : jx_E) (b : Nat) (G : jx_H) (sz : Nat) (x : Nat) (uw : Nat) (fo : Option Nat) (ca : Nat) (co : Int32) (lo : Nat) (lc : Int32) (kn : Option Nat) (on cut : Int32) (u f g fl : Nat → Int32) (h : Nat → Nat → Option Nat) (sp : Nat → Nat → Int32) (β : Nat → bd_T) (ρ : Nat → Nat → Int32) (D P : Nat → Prop) (hC : Cl E x G sz uw fo ca co lo lc kn on cut u f g fl h sp β ρ D P) (i : Int32) : jx_ct l E b yK_free cK_free 3 (some .int) 2 0 0 [.ref x, .int i] G sz (jx_pu (.int (ka_free h i)) G sz) := by
  have hC0 := hC
  obtain ⟨⟨hK, hW, ho, hF, hU, hA, hL, hR, hSt⟩, hHD, hUw, hDb, hPp, hj, hdy, hbd, hsz⟩ := hC
  refine jx_met (by decide) (Nat.le_of_ble_eq_true rfl) (L0 := [_, _, _]) rfl (fun X k => ?_)
  by_cases g1 : 0 ≤ i ∧ i < 3
  · obtain ⟨j, hj3, rfl⟩ := nI_lift (n := 3) g1.1 g1.2 (by decide)
    have hS := hSt j hj3
    rw [ka_free, if_pos g1, nI_clamp (by omega)]
    refine jx_aload_n k dK_free_0 rfl ?_
    refine jx_iload_n k dK_free_1 rfl ?_
    refine jx_callVP k mK_146 (k_storeAt1 _ _ _ _ _ x uw fo ca co lo lc kn on cut u f g fl h sp β ρ D P hC0 j hj3) hK rfl dK_free_2 rfl rfl rfl (Nat.le_of_ble_eq_true rfl) ⟨Nat.le_of_ble_eq_true rfl, Nat.le_of_ble_eq_true rfl⟩ ⟨Nat.le_of_ble_eq_true rfl, Nat.le_of_ble_eq_true rfl⟩ ?_
    refine jx_astore_n k dK_free_5 (Nat.le_of_ble_eq_true rfl) rfl (L' := [_, _, _]) rfl ?_
    refine jx_aload_n k dK_free_6 rfl ?_
    refine jx_ifnonnull k dK_free_7 (tgt := 14) rfl ?_
    refine jx_aload_n k dK_free_14 rfl ?_
    refine jx_callVP k mK_156 (k_freePages _ _ _ _ _ (sA x j) (sN j) _ _ _ (h j) hS.1 hS.2.1 (sN_le j)) hS.1 rfl dK_free_15 rfl rfl rfl (Nat.le_of_ble_eq_true rfl) ⟨Nat.le_of_ble_eq_true rfl, Nat.le_of_ble_eq_true rfl⟩ ⟨Nat.le_of_ble_eq_true rfl, Nat.le_of_ble_eq_true rfl⟩ ?_
    exact jx_iret k dK_free_18 (Nat.le_refl _) (Nat.le_refl _) ⟨rfl, rfl, rfl⟩
  · rw [ka_free, if_neg g1]
    refine jx_aload_n k dK_free_0 rfl ?_
    refine jx_iload_n k dK_free_1 rfl ?_
    refine jx_callVP k mK_146 (k_storeAt0 _ _ _ _ _ x uw fo ca co lo lc kn on cut u f g fl h sp β ρ D P hC0 i g1) hK rfl dK_free_2 rfl rfl rfl (Nat.le_of_ble_eq_true rfl) ⟨Nat.le_of_ble_eq_true rfl, Nat.le_of_ble_eq_true rfl⟩ ⟨Nat.le_of_ble_eq_true rfl, Nat.le_of_ble_eq_true rfl⟩ ?_
    refine jx_astore_nN k dK_free_5 (Nat.le_of_ble_eq_true rfl) rfl (L' := [_, _, _]) rfl ?_
    refine jx_aload_nN k dK_free_6 rfl ?_
    refine jx_ifnonnullN k dK_free_7 ?_
    refine jx_iconst k dK_free_10 (v := (-1)) (by decide) ?_
    refine jx_goto k dK_free_11 (tgt := 18) rfl ?_
    exact jx_iret k dK_free_18 (Nat.le_refl _) (Nat.le_refl _) ⟨rfl, rfl, rfl⟩
abbrev ka_r (h : Nat → Nat → Option Nat) (sp : Nat → Nat → Int32) (tm : Nat → Int32) (j : Nat) (t : Int32) : Option Nat := so_r (h j) tm (sp j) (sN j) t
def ka_has (h : Nat → Nat → Option Nat) (sp : Nat → Nat → Int32) (tm : Nat → Int32) (i t : Int32) : Int32 := if 0 ≤ i ∧ i < 3 then jb_z (ka_r h sp tm i.toNatClampNeg t ≠ none) else 0
set_option maxRecDepth 100000 in
theorem k_has (l : Launch) (E : jx_E) (b : Nat) (G : jx_H) (sz : Nat) (x : Nat) (uw : Nat) (fo : Option Nat) (ca : Nat) (co : Int32) (lo : Nat) (lc : Int32) (kn : Option Nat) (on cut : Int32) (u f g fl : Nat → Int32) (h : Nat → Nat → Option Nat) (sp : Nat → Nat → Int32) (β : Nat → bd_T) (ρ : Nat → Nat → Int32) (D P : Nat → Prop) (hC : Cl E x G sz uw fo ca co lo lc kn on cut u f g fl h sp β ρ D P) (i t : Int32) : jx_ct l E b yK_has cK_has 4 (some .boolean) 2 0 0 [.ref x, .int i, .int t] G sz (jx_pu (.int (ka_has h sp (d_tm β) i t)) G sz) := by
  have hC0 := hC
  obtain ⟨⟨hK, hW, ho, hF, hU, hA, hL, hR, hSt⟩, hHD, hUw, hDb, hPp, hj, hdy, hbd, hsz⟩ := hC
  refine jx_met (by decide) (Nat.le_of_ble_eq_true rfl) (L0 := [_, _, _, _]) rfl (fun X k => ?_)
  by_cases g1 : 0 ≤ i ∧ i < 3
  · obtain ⟨j, hj3, rfl⟩ := nI_lift (n := 3) g1.1 g1.2 (by decide)
    have hS := hSt j hj3
    have hT : ∀ z, D z → bn_k G z (d_tm β z) := fun z hz => cB_k (hDb z hz)
    rw [ka_has, if_pos g1, nI_clamp (by omega)]
    refine jx_aload_n k dK_has_0 rfl ?_
    refine jx_iload_n k dK_has_1 rfl ?_
    refine jx_callVP k mK_146 (k_storeAt1 _ _ _ _ _ x uw fo ca co lo lc kn on cut u f g fl h sp β ρ D P hC0 j hj3) hK rfl dK_has_2 rfl rfl rfl (Nat.le_of_ble_eq_true rfl) ⟨Nat.le_of_ble_eq_true rfl, Nat.le_of_ble_eq_true rfl⟩ ⟨Nat.le_of_ble_eq_true rfl, Nat.le_of_ble_eq_true rfl⟩ ?_
    refine jx_astore_n k dK_has_5 (Nat.le_of_ble_eq_true rfl) rfl (L' := [_, _, _, _]) rfl ?_
    refine jx_aload_n k dK_has_6 rfl ?_
    refine jx_ifnull k dK_has_7 ?_
    refine jx_aload_n k dK_has_10 rfl ?_
    refine jx_iload_n k dK_has_11 rfl ?_
    refine jx_callVP k mK_159 (k_readable _ _ _ _ _ (sA x j) (sN j) _ _ _ (h j) (d_tm β) D hS.1 hS.2.1 (sN_le j) (hHD j hj3) hT (sp j) hS.2.2 t) hS.1 rfl dK_has_12 rfl rfl rfl (Nat.le_of_ble_eq_true rfl) ⟨Nat.le_of_ble_eq_true rfl, Nat.le_of_ble_eq_true rfl⟩ ⟨Nat.le_of_ble_eq_true rfl, Nat.le_of_ble_eq_true rfl⟩ ?_
    rcases op_c (ka_r h sp (d_tm β) j t) with e | ⟨z, e⟩
    · rw [show so_r (h j) (d_tm β) (sp j) (sN j) t = none from e]
      refine jx_ifnullN k dK_has_15 (tgt := 22) rfl ?_
      refine jx_iconst k dK_has_22 (v := 0) (by decide) ?_
      exact jx_zret k dK_has_23 rfl (Nat.le_refl _) (Nat.le_refl _) ⟨by rw [jb_f (fun h => h e)], rfl, rfl⟩
    · rw [show so_r (h j) (d_tm β) (sp j) (sN j) t = some z from e]
      refine jx_ifnull k dK_has_15 ?_
      refine jx_iconst k dK_has_18 (v := 1) (by decide) ?_
      refine jx_goto k dK_has_19 (tgt := 23) rfl ?_
      exact jx_zret k dK_has_23 rfl (Nat.le_refl _) (Nat.le_refl _) ⟨by rw [jb_t (by rw [e]; exact fun h => by cases h)], rfl, rfl⟩
  · rw [ka_has, if_neg g1]
    refine jx_aload_n k dK_has_0 rfl ?_
    refine jx_iload_n k dK_has_1 rfl ?_
    refine jx_callVP k mK_146 (k_storeAt0 _ _ _ _ _ x uw fo ca co lo lc kn on cut u f g fl h sp β ρ D P hC0 i g1) hK rfl dK_has_2 rfl rfl rfl (Nat.le_of_ble_eq_true rfl) ⟨Nat.le_of_ble_eq_true rfl, Nat.le_of_ble_eq_true rfl⟩ ⟨Nat.le_of_ble_eq_true rfl, Nat.le_of_ble_eq_true rfl⟩ ?_
    refine jx_astore_nN k dK_has_5 (Nat.le_of_ble_eq_true rfl) rfl (L' := [_, _, _, _]) rfl ?_
    refine jx_aload_nN k dK_has_6 rfl ?_
    refine jx_ifnullN k dK_has_7 (tgt := 22) rfl ?_
    refine jx_iconst k dK_has_22 (v := 0) (by decide) ?_
    exact jx_zret k dK_has_23 rfl (Nat.le_refl _) (Nat.le_refl _) ⟨rfl, rfl, rfl⟩
def ka_find (h : Nat → Nat → Option Nat) (sp : Nat → Nat → Int32) (β : Nat → bd_T) (i src fr : Int32) : Int32 := if 0 ≤ i ∧ i < 3 then so_q (h i.toNatClampNeg) (d_tm β) (sp i.toNatClampNeg) (sN i.toNatClampNeg) (d_so β) (d_sn β) src fr else -1
set_option maxRecDepth 100000 in
theorem k_find (l : Launch) (E : jx_E) (b : Nat) (G : jx_H) (sz : Nat) (x : Nat) (uw : Nat) (fo : Option Nat) (ca : Nat) (co : Int32) (lo : Nat) (lc : Int32) (kn : Option Nat) (on cut : Int32) (u f g fl : Nat → Int32) (h : Nat → Nat → Option Nat) (sp : Nat → Nat → Int32) (β : Nat → bd_T) (ρ : Nat → Nat → Int32) (D P : Nat → Prop) (hC : Cl E x G sz uw fo ca co lo lc kn on cut u f g fl h sp β ρ D P) (i src fr : Int32) : jx_ct l E b yK_find cK_find 5 (some .int) 3 0 0 [.ref x, .int i, .int src, .int fr] G sz (jx_pu (.int (ka_find h sp β i src fr)) G sz) := by
  have hC0 := hC
  obtain ⟨⟨hK, hW, ho, hF, hU, hA, hL, hR, hSt⟩, hHD, hUw, hDb, hPp, hj, hdy, hbd, hsz⟩ := hC
  refine jx_met (by decide) (Nat.le_of_ble_eq_true rfl) (L0 := [_, _, _, _, _]) rfl (fun X k => ?_)
  by_cases g1 : 0 ≤ i ∧ i < 3
  · obtain ⟨j, hj3, rfl⟩ := nI_lift (n := 3) g1.1 g1.2 (by decide)
    have hS := hSt j hj3
    have hT : ∀ z, D z → bn_k G z (d_tm β z) := fun z hz => cB_k (hDb z hz)
    rw [ka_find, if_pos g1, nI_clamp (by omega)]
    refine jx_aload_n k dK_find_0 rfl ?_
    refine jx_iload_n k dK_find_1 rfl ?_
    refine jx_callVP k mK_146 (k_storeAt1 _ _ _ _ _ x uw fo ca co lo lc kn on cut u f g fl h sp β ρ D P hC0 j hj3) hK rfl dK_find_2 rfl rfl rfl (Nat.le_of_ble_eq_true rfl) ⟨Nat.le_of_ble_eq_true rfl, Nat.le_of_ble_eq_true rfl⟩ ⟨Nat.le_of_ble_eq_true rfl, Nat.le_of_ble_eq_true rfl⟩ ?_
    refine jx_astore k dK_find_5 (Nat.le_of_ble_eq_true rfl) rfl (L' := [_, _, _, _, _]) rfl ?_
    refine jx_aload k dK_find_7 rfl ?_
    refine jx_ifnonnull k dK_find_9 (tgt := 16) rfl ?_
    refine jx_aload k dK_find_16 rfl ?_
    refine jx_iload_n k dK_find_18 rfl ?_
    refine jx_iload_n k dK_find_19 rfl ?_
    refine jx_callVP k mK_191 (k_ofSource _ _ _ _ _ (sA x j) (sN j) _ _ _ (h j) (d_tm β) D hS.1 hS.2.1 (sN_le j) (hHD j hj3) hT (sp j) hS.2.2 (d_so β) (d_sn β) (fun z hz => ⟨_, _, _, _, _, (hDb z hz).1, (hDb z hz).2.2.1, (hDb z hz).2.2.2.2.2.1⟩) src fr) hS.1 rfl dK_find_20 rfl rfl rfl (Nat.le_of_ble_eq_true rfl) ⟨Nat.le_of_ble_eq_true rfl, Nat.le_of_ble_eq_true rfl⟩ ⟨Nat.le_of_ble_eq_true rfl, Nat.le_of_ble_eq_true rfl⟩ ?_
    exact jx_iret k dK_find_23 (Nat.le_refl _) (Nat.le_refl _) ⟨rfl, rfl, rfl⟩
  · rw [ka_find, if_neg g1]
    refine jx_aload_n k dK_find_0 rfl ?_
    refine jx_iload_n k dK_find_1 rfl ?_
    refine jx_callVP k mK_146 (k_storeAt0 _ _ _ _ _ x uw fo ca co lo lc kn on cut u f g fl h sp β ρ D P hC0 i g1) hK rfl dK_find_2 rfl rfl rfl (Nat.le_of_ble_eq_true rfl) ⟨Nat.le_of_ble_eq_true rfl, Nat.le_of_ble_eq_true rfl⟩ ⟨Nat.le_of_ble_eq_true rfl, Nat.le_of_ble_eq_true rfl⟩ ?_
    refine jx_astoreN k dK_find_5 (Nat.le_of_ble_eq_true rfl) rfl (L' := [_, _, _, _, _]) rfl ?_
    refine jx_aloadN k dK_find_7 rfl ?_
    refine jx_ifnonnullN k dK_find_9 ?_
    refine jx_iconst k dK_find_12 (v := (-1)) (by decide) ?_
    refine jx_goto k dK_find_13 (tgt := 23) rfl ?_
    exact jx_iret k dK_find_23 (Nat.le_refl _) (Nat.le_refl _) ⟨rfl, rfl, rfl⟩
def ka_unreadable (h : Nat → Nat → Option Nat) (sp : Nat → Nat → Int32) (tm : Nat → Int32) (i : Int32) : Int32 := if 0 ≤ i ∧ i < 3 then nI (so_u (h i.toNatClampNeg) tm (sp i.toNatClampNeg) (sN i.toNatClampNeg)) else -1
set_option maxRecDepth 100000 in
theorem k_Kunreadable (l : Launch) (E : jx_E) (b : Nat) (G : jx_H) (sz : Nat) (x : Nat) (uw : Nat) (fo : Option Nat) (ca : Nat) (co : Int32) (lo : Nat) (lc : Int32) (kn : Option Nat) (on cut : Int32) (u f g fl : Nat → Int32) (h : Nat → Nat → Option Nat) (sp : Nat → Nat → Int32) (β : Nat → bd_T) (ρ : Nat → Nat → Int32) (D P : Nat → Prop) (hC : Cl E x G sz uw fo ca co lo lc kn on cut u f g fl h sp β ρ D P) (i : Int32) : jx_ct l E b yK_unreadable cK_unreadable 3 (some .int) 3 0 0 [.ref x, .int i] G sz (jx_pu (.int (ka_unreadable h sp (d_tm β) i)) G sz) := by
  have hC0 := hC
  obtain ⟨⟨hK, hW, ho, hF, hU, hA, hL, hR, hSt⟩, hHD, hUw, hDb, hPp, hj, hdy, hbd, hsz⟩ := hC
  refine jx_met (by decide) (Nat.le_of_ble_eq_true rfl) (L0 := [_, _, _]) rfl (fun X k => ?_)
  by_cases g1 : 0 ≤ i ∧ i < 3
  · obtain ⟨j, hj3, rfl⟩ := nI_lift (n := 3) g1.1 g1.2 (by decide)
    have hS := hSt j hj3
    have hT : ∀ z, D z → bn_k G z (d_tm β z) := fun z hz => cB_k (hDb z hz)
    rw [ka_unreadable, if_pos g1, nI_clamp (by omega)]
    refine jx_aload_n k dK_unreadable_0 rfl ?_
    refine jx_iload_n k dK_unreadable_1 rfl ?_
    refine jx_callVP k mK_146 (k_storeAt1 _ _ _ _ _ x uw fo ca co lo lc kn on cut u f g fl h sp β ρ D P hC0 j hj3) hK rfl dK_unreadable_2 rfl rfl rfl (Nat.le_of_ble_eq_true rfl) ⟨Nat.le_of_ble_eq_true rfl, Nat.le_of_ble_eq_true rfl⟩ ⟨Nat.le_of_ble_eq_true rfl, Nat.le_of_ble_eq_true rfl⟩ ?_
    refine jx_astore_n k dK_unreadable_5 (Nat.le_of_ble_eq_true rfl) rfl (L' := [_, _, _]) rfl ?_
    refine jx_aload_n k dK_unreadable_6 rfl ?_
    refine jx_ifnonnull k dK_unreadable_7 (tgt := 14) rfl ?_
    refine jx_aload_n k dK_unreadable_14 rfl ?_
    refine jx_callVP k mK_207 (k_unreadable _ _ _ _ _ (sA x j) (sN j) _ _ _ (h j) (d_tm β) D hS.1 hS.2.1 (sN_le j) (hHD j hj3) hT (sp j) hS.2.2) hS.1 rfl dK_unreadable_15 rfl rfl rfl (Nat.le_of_ble_eq_true rfl) ⟨Nat.le_of_ble_eq_true rfl, Nat.le_of_ble_eq_true rfl⟩ ⟨Nat.le_of_ble_eq_true rfl, Nat.le_of_ble_eq_true rfl⟩ ?_
    exact jx_iret k dK_unreadable_18 (Nat.le_refl _) (Nat.le_refl _) ⟨rfl, rfl, rfl⟩
  · rw [ka_unreadable, if_neg g1]
    refine jx_aload_n k dK_unreadable_0 rfl ?_
    refine jx_iload_n k dK_unreadable_1 rfl ?_
    refine jx_callVP k mK_146 (k_storeAt0 _ _ _ _ _ x uw fo ca co lo lc kn on cut u f g fl h sp β ρ D P hC0 i g1) hK rfl dK_unreadable_2 rfl rfl rfl (Nat.le_of_ble_eq_true rfl) ⟨Nat.le_of_ble_eq_true rfl, Nat.le_of_ble_eq_true rfl⟩ ⟨Nat.le_of_ble_eq_true rfl, Nat.le_of_ble_eq_true rfl⟩ ?_
    refine jx_astore_nN k dK_unreadable_5 (Nat.le_of_ble_eq_true rfl) rfl (L' := [_, _, _]) rfl ?_
    refine jx_aload_nN k dK_unreadable_6 rfl ?_
    refine jx_ifnonnullN k dK_unreadable_7 ?_
    refine jx_iconst k dK_unreadable_10 (v := (-1)) (by decide) ?_
    refine jx_goto k dK_unreadable_11 (tgt := 18) rfl ?_
    exact jx_iret k dK_unreadable_18 (Nat.le_refl _) (Nat.le_refl _) ⟨rfl, rfl, rfl⟩
def ka_outS (β : Nat → bd_T) (lo : Nat) (i : Int32) : Int64 := if 0 ≤ i ∧ i < nI (d_sn β lo) then d_tx β lo i.toNatClampNeg else 0
set_option maxRecDepth 100000 in
theorem k_outSentence (l : Launch) (E : jx_E) (b : Nat) (G : jx_H) (sz : Nat) (x : Nat) (uw : Nat) (fo : Option Nat) (ca : Nat) (co : Int32) (lo : Nat) (lc : Int32) (kn : Option Nat) (on cut : Int32) (u f g fl : Nat → Int32) (h : Nat → Nat → Option Nat) (sp : Nat → Nat → Int32) (β : Nat → bd_T) (ρ : Nat → Nat → Int32) (D P : Nat → Prop) (hC : Cl E x G sz uw fo ca co lo lc kn on cut u f g fl h sp β ρ D P) (i : Int32) : jx_ct l E b yK_outSentence cK_outSentence 2 (some .long) 1 0 0 [.ref x, .int i] G sz (jx_pu (.long (ka_outS β lo i)) G sz) := by
  obtain ⟨⟨hK, hW, ho, hF, hU, hA, hL, hR, hSt⟩, hHD, hUw, hDb, hPp, hj, hdy, hbd, hsz⟩ := hC
  refine jx_met (by decide) (Nat.le_of_ble_eq_true rfl) (L0 := [_, _]) rfl (fun X k => ?_)
  have hB := hDb lo hj.2.1
  have h4 := hB.2.2.2.2.2.1
  refine jx_iload_n k dK_outSentence_0 rfl ?_
  refine jx_aload_n k dK_outSentence_1 rfl ?_
  refine jx_get k fK_55 dK_outSentence_2 hK rfl ?_
  refine jx_get k fK_170 dK_outSentence_5 hB.1 rfl ?_
  refine jx_callSP k mK_67 (k_isBelow _ _ _ _ _ i (nI (d_sn β lo))) dK_outSentence_8 rfl rfl rfl (Nat.le_of_ble_eq_true rfl) ⟨Nat.le_of_ble_eq_true rfl, Nat.le_of_ble_eq_true rfl⟩ ⟨Nat.le_of_ble_eq_true rfl, Nat.le_of_ble_eq_true rfl⟩ ?_
  refine jx_if_eq k dK_outSentence_11 (tgt := 26) rfl (fun h1 => ?_) (fun h1 => ?_)
  · refine jx_lconst k dK_outSentence_26 (v := 0) (by decide) ?_
    exact jx_lret k dK_outSentence_27 (Nat.le_refl _) (Nat.le_refl _) ⟨by rw [ka_outS, if_neg (jb_e0.mp h1)], rfl, rfl⟩
  · have g1 := Decidable.byContradiction (fun h => h1 (jb_f h))
    obtain ⟨j, hj2, rfl⟩ := nI_lift (n := d_sn β lo) g1.1 g1.2 (by omega)
    refine jx_aload_n k dK_outSentence_14 rfl ?_
    refine jx_get k fK_55 dK_outSentence_15 hK rfl ?_
    refine jx_get k fK_173 dK_outSentence_18 hB.1 rfl ?_
    refine jx_iload_n k dK_outSentence_21 rfl ?_
    refine jx_lldN k dK_outSentence_22 hB.2.1 (p := j) rfl (by omega) (by decide) ?_
    refine jx_goto k dK_outSentence_23 (tgt := 27) rfl ?_
    exact jx_lret k dK_outSentence_27 (Nat.le_refl _) (Nat.le_refl _) ⟨by rw [ka_outS, if_pos g1, nI_clamp (by omega)], rfl, rfl⟩
def ka_outO (β : Nat → bd_T) (lo : Nat) (i : Int32) : Int32 := if 0 ≤ i ∧ i < nI (d_sn β lo) then d_so β lo i.toNatClampNeg else -1
set_option maxRecDepth 100000 in
theorem k_outSource (l : Launch) (E : jx_E) (b : Nat) (G : jx_H) (sz : Nat) (x : Nat) (uw : Nat) (fo : Option Nat) (ca : Nat) (co : Int32) (lo : Nat) (lc : Int32) (kn : Option Nat) (on cut : Int32) (u f g fl : Nat → Int32) (h : Nat → Nat → Option Nat) (sp : Nat → Nat → Int32) (β : Nat → bd_T) (ρ : Nat → Nat → Int32) (D P : Nat → Prop) (hC : Cl E x G sz uw fo ca co lo lc kn on cut u f g fl h sp β ρ D P) (i : Int32) : jx_ct l E b yK_outSource cK_outSource 2 (some .int) 1 0 0 [.ref x, .int i] G sz (jx_pu (.int (ka_outO β lo i)) G sz) := by
  obtain ⟨⟨hK, hW, ho, hF, hU, hA, hL, hR, hSt⟩, hHD, hUw, hDb, hPp, hj, hdy, hbd, hsz⟩ := hC
  refine jx_met (by decide) (Nat.le_of_ble_eq_true rfl) (L0 := [_, _]) rfl (fun X k => ?_)
  have hB := hDb lo hj.2.1
  have h4 := hB.2.2.2.2.2.1
  refine jx_iload_n k dK_outSource_0 rfl ?_
  refine jx_aload_n k dK_outSource_1 rfl ?_
  refine jx_get k fK_55 dK_outSource_2 hK rfl ?_
  refine jx_get k fK_170 dK_outSource_5 hB.1 rfl ?_
  refine jx_callSP k mK_67 (k_isBelow _ _ _ _ _ i (nI (d_sn β lo))) dK_outSource_8 rfl rfl rfl (Nat.le_of_ble_eq_true rfl) ⟨Nat.le_of_ble_eq_true rfl, Nat.le_of_ble_eq_true rfl⟩ ⟨Nat.le_of_ble_eq_true rfl, Nat.le_of_ble_eq_true rfl⟩ ?_
  refine jx_if_eq k dK_outSource_11 (tgt := 26) rfl (fun h1 => ?_) (fun h1 => ?_)
  · refine jx_iconst k dK_outSource_26 (v := (-1)) (by decide) ?_
    exact jx_iret k dK_outSource_27 (Nat.le_refl _) (Nat.le_refl _) ⟨by rw [ka_outO, if_neg (jb_e0.mp h1)], rfl, rfl⟩
  · have g1 := Decidable.byContradiction (fun h => h1 (jb_f h))
    obtain ⟨j, hj2, rfl⟩ := nI_lift (n := d_sn β lo) g1.1 g1.2 (by omega)
    refine jx_aload_n k dK_outSource_14 rfl ?_
    refine jx_get k fK_55 dK_outSource_15 hK rfl ?_
    refine jx_get k fK_177 dK_outSource_18 hB.1 rfl ?_
    refine jx_iload_n k dK_outSource_21 rfl ?_
    refine jx_ildN k dK_outSource_22 hB.2.2.1 (p := j) rfl (by omega) (by decide) ?_
    refine jx_goto k dK_outSource_23 (tgt := 27) rfl ?_
    exact jx_iret k dK_outSource_27 (Nat.le_refl _) (Nat.le_refl _) ⟨by rw [ka_outO, if_pos g1, nI_clamp (by omega)], rfl, rfl⟩
def ka_outD (β : Nat → bd_T) (lo : Nat) (lc c q : Int32) : Int32 := if (0 ≤ c ∧ c < 2) ∧ (0 ≤ q ∧ q < 4) then (if c < lc then d_sd β lo (c.toNatClampNeg * 4 + q.toNatClampNeg) else 0) else -1
set_option maxRecDepth 100000 in
theorem k_outSound (l : Launch) (E : jx_E) (b : Nat) (G : jx_H) (sz : Nat) (x : Nat) (uw : Nat) (fo : Option Nat) (ca : Nat) (co : Int32) (lo : Nat) (lc : Int32) (kn : Option Nat) (on cut : Int32) (u f g fl : Nat → Int32) (h : Nat → Nat → Option Nat) (sp : Nat → Nat → Int32) (β : Nat → bd_T) (ρ : Nat → Nat → Int32) (D P : Nat → Prop) (hC : Cl E x G sz uw fo ca co lo lc kn on cut u f g fl h sp β ρ D P) (c q : Int32) : jx_ct l E b yK_outSound cK_outSound 3 (some .int) 3 0 0 [.ref x, .int c, .int q] G sz (jx_pu (.int (ka_outD β lo lc c q)) G sz) := by
  obtain ⟨⟨hK, hW, ho, hF, hU, hA, hL, hR, hSt⟩, hHD, hUw, hDb, hPp, hj, hdy, hbd, hsz⟩ := hC
  refine jx_met (by decide) (Nat.le_of_ble_eq_true rfl) (L0 := [_, _, _]) rfl (fun X k => ?_)
  have hB := hDb lo hj.2.1
  refine jx_iload_n k dK_outSound_0 rfl ?_
  refine jx_iload_n k dK_outSound_1 rfl ?_
  refine jx_callSP k mK_75 (k_isSoundByte _ _ _ _ _ c q) dK_outSound_2 rfl rfl rfl (Nat.le_of_ble_eq_true rfl) ⟨Nat.le_of_ble_eq_true rfl, Nat.le_of_ble_eq_true rfl⟩ ⟨Nat.le_of_ble_eq_true rfl, Nat.le_of_ble_eq_true rfl⟩ ?_
  refine jx_if_ne k dK_outSound_5 (tgt := 10) rfl (fun h1 => ?_) (fun h1 => ?_)
  · have g1 := Decidable.byContradiction (fun h => h1 (jb_f h))
    obtain ⟨c, hc, rfl⟩ := nI_lift (n := 2) g1.1.1 g1.1.2 (by decide)
    obtain ⟨q, hq, rfl⟩ := nI_lift (n := 4) g1.2.1 g1.2.2 (by decide)
    rw [ka_outD, if_pos g1, nI_clamp (by omega), nI_clamp (by omega)]
    refine jx_iload_n k dK_outSound_10 rfl ?_
    refine jx_aload_n k dK_outSound_11 rfl ?_
    refine jx_get k fK_58 dK_outSound_12 hK rfl ?_
    refine jx_icmp_ge k dK_outSound_15 (tgt := 30) rfl (fun h2 => ?_) (fun h2 => ?_)
    · refine jx_iconst k dK_outSound_30 (v := 0) (by decide) ?_
      exact jx_iret k dK_outSound_31 (Nat.le_refl _) (Nat.le_refl _) ⟨by rw [if_neg (Int32.not_lt.mpr h2)], rfl, rfl⟩
    · refine jx_aload_n k dK_outSound_18 rfl ?_
      refine jx_get k fK_55 dK_outSound_19 hK rfl ?_
      refine jx_iload_n k dK_outSound_22 rfl ?_
      refine jx_iload_n k dK_outSound_23 rfl ?_
      refine jx_callVP k mK_181 (k_soundByte _ _ _ _ _ lo _ _ _ _ _ _ _ hB.1 (d_sd β lo) hB.2.2.2.1 c q hc hq) hB.1 rfl dK_outSound_24 rfl rfl rfl (Nat.le_of_ble_eq_true rfl) ⟨Nat.le_of_ble_eq_true rfl, Nat.le_of_ble_eq_true rfl⟩ ⟨Nat.le_of_ble_eq_true rfl, Nat.le_of_ble_eq_true rfl⟩ ?_
      refine jx_goto k dK_outSound_27 (tgt := 31) rfl ?_
      exact jx_iret k dK_outSound_31 (Nat.le_refl _) (Nat.le_refl _) ⟨by rw [if_pos (Int32.not_le.mp h2)], rfl, rfl⟩
  · refine jx_iconst k dK_outSound_8 (v := (-1)) (by decide) ?_
    exact jx_iret k dK_outSound_9 (Nat.le_refl _) (Nat.le_refl _) ⟨by rw [ka_outD, if_neg (jb_e0.mp h1)], rfl, rfl⟩
set_option maxRecDepth 100000 in
theorem k_outContacts (l : Launch) (E : jx_E) (b : Nat) (G : jx_H) (sz : Nat) (x : Nat) (uw : Nat) (fo : Option Nat) (ca : Nat) (co : Int32) (lo : Nat) (lc : Int32) (kn : Option Nat) (on cut : Int32) (u f g fl : Nat → Int32) (h : Nat → Nat → Option Nat) (sp : Nat → Nat → Int32) (β : Nat → bd_T) (ρ : Nat → Nat → Int32) (D P : Nat → Prop) (hC : Cl E x G sz uw fo ca co lo lc kn on cut u f g fl h sp β ρ D P) : jx_ct l E b yK_outContacts cK_outContacts 1 (some .int) 0 0 0 [.ref x] G sz (jx_pu (.int (d_cs β lo)) G sz) := by
  obtain ⟨⟨hK, hW, ho, hF, hU, hA, hL, hR, hSt⟩, hHD, hUw, hDb, hPp, hj, hdy, hbd, hsz⟩ := hC
  refine jx_met (by decide) (Nat.le_of_ble_eq_true rfl) (L0 := [_]) rfl (fun X k => ?_)
  refine jx_aload_n k dK_outContacts_0 rfl ?_
  refine jx_get k fK_55 dK_outContacts_1 hK rfl ?_
  refine jx_get k fK_184 dK_outContacts_4 (hDb lo hj.2.1).1 rfl ?_
  exact jx_iret k dK_outContacts_7 (Nat.le_refl _) (Nat.le_refl _) ⟨rfl, rfl, rfl⟩
def ka_outR (ρ : Nat → Nat → Int32) (kn : Option Nat) (i : Int32) : Int32 := match kn with
  | none => -1
  | some p => if 0 ≤ i ∧ i < 8 then ρ p i.toNatClampNeg else -1
set_option maxRecDepth 100000 in
theorem k_outRow (l : Launch) (E : jx_E) (b : Nat) (G : jx_H) (sz : Nat) (x : Nat) (uw : Nat) (fo : Option Nat) (ca : Nat) (co : Int32) (lo : Nat) (lc : Int32) (kn : Option Nat) (on cut : Int32) (u f g fl : Nat → Int32) (h : Nat → Nat → Option Nat) (sp : Nat → Nat → Int32) (β : Nat → bd_T) (ρ : Nat → Nat → Int32) (D P : Nat → Prop) (hC : Cl E x G sz uw fo ca co lo lc kn on cut u f g fl h sp β ρ D P) (i : Int32) : jx_ct l E b yK_outRow cK_outRow 2 (some .int) 2 0 0 [.ref x, .int i] G sz (jx_pu (.int (ka_outR ρ kn i)) G sz) := by
  obtain ⟨⟨hK, hW, ho, hF, hU, hA, hL, hR, hSt⟩, hHD, hUw, hDb, hPp, hj, hdy, hbd, hsz⟩ := hC
  refine jx_met (by decide) (Nat.le_of_ble_eq_true rfl) (L0 := [_, _]) rfl (fun X k => ?_)
  cases kn with
  | none =>
    refine jx_aload_n k dK_outRow_0 rfl ?_
    refine jx_get k fK_61 dK_outRow_1 hK rfl ?_
    refine jx_ifnullN k dK_outRow_4 (tgt := 27) rfl ?_
    refine jx_iconst k dK_outRow_27 (v := (-1)) (by decide) ?_
    exact jx_iret k dK_outRow_28 (Nat.le_refl _) (Nat.le_refl _) ⟨rfl, rfl, rfl⟩
  | some p =>
    have hp := hPp p (hj.2.2.2.1 p rfl).1
    show jx_w X E b (jx_fin X E b (jx_pu (.int (if 0 ≤ i ∧ i < 8 then ρ p i.toNatClampNeg else -1)) G sz) 0 0) 0 [some (.ref x), some (.int i)] [] G sz 0 0
    refine jx_aload_n k dK_outRow_0 rfl ?_
    refine jx_get k fK_61 dK_outRow_1 hK rfl ?_
    refine jx_ifnull k dK_outRow_4 ?_
    refine jx_iload_n k dK_outRow_7 rfl ?_
    refine jx_bipush k dK_outRow_8 (v := 8) (by decide) ?_
    refine jx_callSP k mK_67 (k_isBelow _ _ _ _ _ i 8) dK_outRow_10 rfl rfl rfl (Nat.le_of_ble_eq_true rfl) ⟨Nat.le_of_ble_eq_true rfl, Nat.le_of_ble_eq_true rfl⟩ ⟨Nat.le_of_ble_eq_true rfl, Nat.le_of_ble_eq_true rfl⟩ ?_
    refine jx_if_eq k dK_outRow_13 (tgt := 27) rfl (fun h1 => ?_) (fun h1 => ?_)
    · refine jx_iconst k dK_outRow_27 (v := (-1)) (by decide) ?_
      exact jx_iret k dK_outRow_28 (Nat.le_refl _) (Nat.le_refl _) ⟨by rw [if_neg (jb_e0.mp h1)], rfl, rfl⟩
    · have g1 := Decidable.byContradiction (fun h => h1 (jb_f h))
      refine jx_aload_n k dK_outRow_16 rfl ?_
      refine jx_get k fK_61 dK_outRow_17 hK rfl ?_
      refine jx_iload_n k dK_outRow_20 rfl ?_
      refine jx_callVP k mK_187 (k_row _ _ _ _ _ p (ρ p) i hp.1 hp.2) hp.1 rfl dK_outRow_21 rfl rfl rfl (Nat.le_of_ble_eq_true rfl) ⟨Nat.le_of_ble_eq_true rfl, Nat.le_of_ble_eq_true rfl⟩ ⟨Nat.le_of_ble_eq_true rfl, Nat.le_of_ble_eq_true rfl⟩ ?_
      refine jx_goto k dK_outRow_24 (tgt := 28) rfl ?_
      exact jx_iret k dK_outRow_28 (Nat.le_refl _) (Nat.le_refl _) ⟨by rw [if_pos g1], rfl, rfl⟩
