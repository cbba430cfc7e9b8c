/-! Pure rows: a store takes the bundle. -/
def cn (β : Nat → bd_T) (ρ : Nat → Nat → Int32) (σ : rs_S) (b z i : Nat) : Prop :=
  σ.2.1 6 b = nI (d_sn β z) ∧ d_sn β z ≤ 4 ∧ (∀ q, q < d_sn β z → σ.2.1 7 (4 * b + q) = d_so β z q ∧ σ.2.2 (4 * b + q) = d_tx β z q) ∧ (∀ k, k < 8 → σ.2.1 10 (8 * b + k) = if k < 4 * sC i then d_sd β z k else 0) ∧ (σ.2.1 11 b = if d_po β z = none then 0 else 1) ∧ (∀ pa, d_po β z = some pa → σ.2.1 12 b = d_ba β z ∧ (d_ba β z = -1 ∨ 0 ≤ d_ba β z) ∧ ∀ r, r < 8 → σ.2.1 13 (8 * b + r) = ρ pa r) ∧ σ.2.1 14 b = d_cs β z
theorem cn_k {β : Nat → bd_T} {ρ : Nat → Nat → Int32} {σ τ : rs_S} {b z i : Nat} (h1 : ∀ k, 5 < k → k < 15 → k ≠ 9 → τ.2.1 k = σ.2.1 k) (h2 : τ.2.2 = σ.2.2) (h : cn β ρ σ b z i) : cn β ρ τ b z i := by
  obtain ⟨a1, a2, a3, a4, a5, a6, a7⟩ := h
  refine ⟨?_, a2, ?_, ?_, ?_, ?_, ?_⟩
  · rw [h1 6 (by decide) (by decide) (by decide)]; exact a1
  · rw [h1 7 (by decide) (by decide) (by decide), h2]; exact a3
  · rw [h1 10 (by decide) (by decide) (by decide)]; exact a4
  · rw [h1 11 (by decide) (by decide) (by decide)]; exact a5
  · rw [h1 12 (by decide) (by decide) (by decide), h1 13 (by decide) (by decide) (by decide)]; exact a6
  · rw [h1 14 (by decide) (by decide) (by decide)]; exact a7
theorem cn_w {β : Nat → bd_T} {ρ : Nat → Nat → Int32} {σ τ : rs_S} {b z i j b0 pg : Nat} (hw : whS σ τ j b0 pg) (hb : b ≠ b0) (h : cn β ρ σ b z i) : cn β ρ τ b z i := by
  obtain ⟨a1, a2, a3, a4, a5, a6, a7⟩ := h
  obtain ⟨w1, w2, w3, w4, w5, w6, w7, w8, w9, w10, w11, w12⟩ := hw
  refine ⟨?_, a2, fun q hq => ?_, fun k hk => ?_, ?_, fun pa hp => ?_, ?_⟩
  · rw [w2 6 (by omega), pk_un hb]; exact a1
  · rw [w8, w9, cpA_out _ _ _ _ _ (by omega), cpA_out _ _ _ _ _ (by omega)]; exact a3 q hq
  · rw [w7 _ (by omega)]; exact a4 k hk
  · rw [w2 11 (by omega), pk_un hb]; exact a5
  · obtain ⟨p1, p2, p3⟩ := a6 pa hp
    refine ⟨by rw [w2 12 (by omega), pk_un hb]; exact p1, p2, fun r hr => ?_⟩
    rw [w5, cpA_out _ _ _ _ _ (by omega)]; exact p3 r hr
  · rw [w2 14 (by omega), pk_un hb]; exact a7
theorem cn_b {β : Nat → bd_T} {ρ : Nat → Nat → Int32} {σ τ : rs_S} {z i b0 pg : Nat} (hw : whS σ τ i b0 pg) (h : cn β ρ σ 70 z 0) : cn β ρ τ b0 z i := by
  obtain ⟨a1, a2, a3, a4, a5, a6, a7⟩ := h
  obtain ⟨w1, w2, w3, w4, w5, w6, w7, w8, w9, w10, w11, w12⟩ := hw
  refine ⟨?_, a2, fun q hq => ?_, fun k hk => ?_, ?_, fun pa hp => ?_, ?_⟩
  · rw [w2 6 (by omega), pk_us]; exact a1
  · rw [w8, w9, cpA_in _ _ _ _ _ (by omega), cpA_in _ _ _ _ _ (by omega)]; exact a3 q hq
  · rw [w6 k hk]
    by_cases x : k < 4 * sC i
    · rw [if_pos x, if_pos x]
      have := a4 k hk
      rw [if_pos (show k < 4 * sC 0 by show k < 4 * 2; omega)] at this
      exact this
    · rw [if_neg x, if_neg x]
  · rw [w2 11 (by omega), pk_us]; exact a5
  · obtain ⟨p1, p2, p3⟩ := a6 pa hp
    refine ⟨by rw [w2 12 (by omega), pk_us]; exact p1, p2, fun r hr => ?_⟩
    rw [w5, cpA_in _ _ _ _ _ hr]; exact p3 r hr
  · rw [w2 14 (by omega), pk_us]; exact a7
def gC (A : Nat → Nat) (β : Nat → bd_T) (ρ : Nat → Nat → Int32) (σ : rs_S) : Prop := ∀ b, b < 70 → 0 ≤ σ.2.1 4 b → cn β ρ σ b (A b) (stp b)
def gR (A : Nat → Nat) (β : Nat → bd_T) (ρ : Nat → Nat → Int32) (h : Nat → Nat → Option Nat) (sp : Nat → Nat → Int32) (σ : rs_S) : Prop := gJ σ ∧ gL A (d_tm β) h sp σ ∧ gS σ ∧ gC A β ρ σ
def gW1 (σ : rs_S) : Prop := (∀ i, σ.2.1 9 i = 0 ∨ σ.2.1 9 i = 1) ∧ (∀ i, σ.2.1 11 i = 0 ∨ σ.2.1 11 i = 1) ∧ (∀ p, p < 72 → ∃ j, j ≤ 4 ∧ σ.2.1 6 p = nI j)
/-- what a store's turn leaves as it is -/
def gF (σ τ : rs_S) : Prop := (∀ j, j ≠ 3 → τ.1 j = σ.1 j) ∧ (∀ k, (k < 2 ∨ 14 < k) → τ.2.1 k = σ.2.1 k) ∧ (∀ k j, 70 ≤ j → (k = 6 ∨ k = 11 ∨ k = 12 ∨ k = 14) → τ.2.1 k j = σ.2.1 k j) ∧ (∀ j, 560 ≤ j → τ.2.1 13 j = σ.2.1 13 j ∧ τ.2.1 10 j = σ.2.1 10 j) ∧ (∀ j, 280 ≤ j → τ.2.1 7 j = σ.2.1 7 j ∧ τ.2.2 j = σ.2.2 j) ∧ (∀ j, 140 ≤ j → τ.2.1 9 j = σ.2.1 9 j) ∧ (gW1 σ → gW1 τ)
theorem gF_r (σ : rs_S) : gF σ σ := ⟨fun _ _ => rfl, fun _ _ => rfl, fun _ _ _ _ => rfl, fun _ _ => ⟨rfl, rfl⟩, fun _ _ => ⟨rfl, rfl⟩, fun _ _ => rfl, fun h => h⟩
theorem gF_t {σ τ υ : rs_S} (a : gF σ τ) (b : gF τ υ) : gF σ υ :=
  ⟨fun j hj => (b.1 j hj).trans (a.1 j hj), fun k hk => (b.2.1 k hk).trans (a.2.1 k hk), fun k j hj hk => (b.2.2.1 k j hj hk).trans (a.2.2.1 k j hj hk), fun j hj => ⟨(b.2.2.2.1 j hj).1.trans (a.2.2.2.1 j hj).1, (b.2.2.2.1 j hj).2.trans (a.2.2.2.1 j hj).2⟩, fun j hj => ⟨(b.2.2.2.2.1 j hj).1.trans (a.2.2.2.2.1 j hj).1, (b.2.2.2.2.1 j hj).2.trans (a.2.2.2.2.1 j hj).2⟩, fun j hj => (b.2.2.2.2.2.1 j hj).trans (a.2.2.2.2.2.1 j hj), fun h => b.2.2.2.2.2.2 (a.2.2.2.2.2.2 h)⟩
theorem gF_e {σ τ : rs_S} (h1 : ∀ j, j ≠ 3 → τ.1 j = σ.1 j) (h2 : ∀ k, k ≠ 2 → k ≠ 3 → k ≠ 4 → τ.2.1 k = σ.2.1 k) (h3 : τ.2.2 = σ.2.2) : gF σ τ := by
  refine ⟨h1, fun k hk => h2 k (by omega) (by omega) (by omega), fun k j _ hk => by rw [h2 k (by omega) (by omega) (by omega)], fun j _ => ⟨by rw [h2 13 (by decide) (by decide) (by decide)], by rw [h2 10 (by decide) (by decide) (by decide)]⟩, fun j _ => ⟨by rw [h2 7 (by decide) (by decide) (by decide)], by rw [h3]⟩, fun j _ => by rw [h2 9 (by decide) (by decide) (by decide)], fun h => ?_⟩
  unfold gW1 at h ⊢
  rw [h2 9 (by decide) (by decide) (by decide), h2 11 (by decide) (by decide) (by decide), h2 6 (by decide) (by decide) (by decide)]
  exact h
theorem gF_k {σ τ : rs_S} (k : gK σ τ) : gF σ τ := gF_e (fun j _ => by rw [k.1]) (fun j j1 _ j3 => k.2.1 j j1 j3) k.2.2.1
theorem gF_m {b0 : Nat} {σ τ : rs_S} (k : gM b0 σ τ) : gF σ τ := gF_e k.1 k.2.1 k.2.2.1
theorem gF_w {σ τ : rs_S} {i b0 pg : Nat} (hb : b0 < 70) (hw : whS σ τ i b0 pg) : gF σ τ := by
  obtain ⟨w1, w2, w3, w4, w5, w6, w7, w8, w9, w10, w11, w12⟩ := hw
  refine ⟨fun j _ => by rw [w1], fun k hk => w12 k (by omega), fun k j hj hk => by rw [w2 k hk, pk_un (by omega)], fun j hj => ⟨by rw [w5, cpA_out _ _ _ _ _ (by omega)], w7 j (by omega)⟩, fun j hj => ⟨by rw [w8, cpA_out _ _ _ _ _ (by omega)], by rw [w9, cpA_out _ _ _ _ _ (by omega)]⟩, fun j hj => w11 j (by omega), fun h => ⟨w10 h.1, ?_, fun p hp => ?_⟩⟩
  · rw [w2 11 (by omega)]
    exact w9_u h.2.1 (h.2.1 _)
  · rw [w2 6 (by omega)]
    by_cases e : p = b0
    · subst e; rw [pk_us]; exact h.2.2 70 (by decide)
    · rw [pk_un e]; exact h.2.2 p hp
theorem gC_k {A : Nat → Nat} {β : Nat → bd_T} {ρ : Nat → Nat → Int32} {σ τ : rs_S} (hC : gC A β ρ σ) (k : gK σ τ) : gC A β ρ τ := by
  intro b hb h0
  obtain ⟨e, _⟩ := k.2.2.2 b hb h0
  exact cn_k (fun j j1 _ _ => k.2.1 j (by omega) (by omega)) k.2.2.1 (hC b hb (by rw [← e]; exact h0))
theorem cn_F {β : Nat → bd_T} {ρ : Nat → Nat → Int32} {σ τ : rs_S} {z i : Nat} (hF : gF σ τ) (h : cn β ρ σ 70 z i) : cn β ρ τ 70 z i := by
  obtain ⟨a1, a2, a3, a4, a5, a6, a7⟩ := h
  refine ⟨?_, a2, fun q hq => ?_, fun k hk => ?_, ?_, fun pa hp => ?_, ?_⟩
  · rw [hF.2.2.1 6 70 (by omega) (by omega)]; exact a1
  · rw [(hF.2.2.2.2.1 _ (by omega)).1, (hF.2.2.2.2.1 _ (by omega)).2]; exact a3 q hq
  · rw [(hF.2.2.2.1 _ (by omega)).2]; exact a4 k hk
  · rw [hF.2.2.1 11 70 (by omega) (by omega)]; exact a5
  · obtain ⟨p1, p2, p3⟩ := a6 pa hp
    refine ⟨by rw [hF.2.2.1 12 70 (by omega) (by omega)]; exact p1, p2, fun r hr => ?_⟩
    rw [(hF.2.2.2.1 _ (by omega)).1]; exact p3 r hr
  · rw [hF.2.2.1 14 70 (by omega) (by omega)]; exact a7
/- the slot for a new bundle -/
theorem g_new {A : Nat → Nat} {β : Nat → bd_T} {ρ : Nat → Nat → Int32} {h : Nat → Nat → Option Nat} {sp : Nat → Nat → Int32} {σ τ : rs_S} {i b0 pg z : Nat} (hi : i < 3) (hb : b0 < 70) (hs : stp b0 = i) (hn : σ.2.1 4 b0 < 0) (hR : gR A β ρ h sp σ) (hw : whS σ τ i b0 pg) (hz : cn β ρ σ 70 z 0) (ht : d_tm β z = σ.1 1) (h0 : 0 ≤ σ.1 1) (hlt : ∀ b, b < 70 → stp b = i → 0 ≤ σ.2.1 4 b → σ.2.1 4 b ≠ σ.1 1) :
    gO τ ∧ gN τ ∧ gX b0 τ ∧ 0 ≤ τ.2.1 4 b0 ∧ gL (va_up A b0 z) (d_tm β) h sp τ ∧ gC (va_up A b0 z) β ρ τ ∧ (∀ p, p < 70 → τ.2.1 2 p ≠ nI (b0 + 1)) := by
  obtain ⟨hJ, hL, hS, hC⟩ := hR
  have hw' := hw
  obtain ⟨w1, w2, w3, w4, w5, w6, w7, w8, w9, w10, w11, w12⟩ := hw
  have e2 : τ.2.1 2 = σ.2.1 2 := w12 2 (by omega)
  have e3 : τ.2.1 3 = σ.2.1 3 := w12 3 (by omega)
  have ho : ∀ p, p < 70 → σ.2.1 2 p ≠ nI (b0 + 1) := by
    intro p hp e
    rcases hJ.1 p hp with c | ⟨c, c1, c2, c3, c4⟩
    · rw [e] at c; exact ow_0 hb c
    · obtain rfl : b0 = c := ow_i hb c1 (by rw [← e, ← c3])
      exact absurd hn (Int32.not_lt.mpr c4)
  refine ⟨fun p hp => ?_, fun b h1 => ?_, fun b h1 h2 h3 => ?_, ?_, ⟨fun b h1 h2 => ?_, fun j hj p hp => ?_, fun j hj p hp => ?_, fun b c h1 h2 h3 h4 h5 => ?_⟩, fun b h1 h2 => ?_, ?_⟩
  · rw [e2, w3]
    rcases hJ.1 p hp with c | ⟨c, c1, c2, c3, c4⟩
    · exact .inl c
    · refine .inr ⟨c, c1, c2, c3, ?_⟩
      rw [pk_un (fun e => ho p hp (by rw [c3, e]))]
      exact c4
  · rw [w3]
    by_cases e : b = b0
    · subst e; rw [pk_us]; exact .inl h0
    · rw [pk_un e]; exact hJ.2.1 b h1
  · rw [w3, pk_un h2] at h3
    rw [e2]
    exact hJ.2.2 b h1 h3
  · rw [w3, pk_us]; exact h0
  · rw [w3] at h2 ⊢
    by_cases e : b = b0
    · subst e; rw [pk_us, va_up_self]; exact ht
    · rw [pk_un e] at h2 ⊢
      rw [va_up_ne _ _ e]
      exact hL.1 b h1 h2
  · rw [e2]
    rcases hL.2.1 j hj p hp with a | ⟨b, b1, b2, b3⟩
    · exact .inl a
    · refine .inr ⟨b, b1, b2, ?_⟩
      rw [va_up_ne _ _ (fun e => ho (sL j + p) (by have := sN_70 hj; omega) (by rw [b2, e]))]
      exact b3
  · rw [e3]; exact hL.2.2.1 j hj p hp
  · rw [w3] at h4 h5
    by_cases eb : b = b0
    · by_cases ec : c = b0
      · rw [eb, ec]
      · subst eb
        rw [pk_us, pk_un ec] at h5
        exact absurd h5.symm (hlt c h2 (h3.symm.trans hs) (by rw [← h5]; exact h0))
    · rw [pk_un eb] at h4 h5
      by_cases ec : c = b0
      · subst ec
        rw [pk_us] at h5
        exact absurd h5 (hlt b h1 (h3.trans hs) h4)
      · rw [pk_un ec] at h5
        exact hL.2.2.2 b c h1 h2 h3 h4 h5
  · rw [w3] at h2
    by_cases e : b = b0
    · subst e; rw [va_up_self, hs]; exact cn_b hw' hz
    · rw [pk_un e] at h2
      rw [va_up_ne _ _ e]
      exact cn_w hw' e (hC b h1 h2)
  · rw [e2]; exact ho
