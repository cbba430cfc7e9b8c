/-! Pure rows: the relation. -/
def gNu (uw ca : Nat) (on cut : Int32) (u f g fl : Nat → Int32) (β : Nat → bd_T) (ρ : Nat → Nat → Int32) (σ : rs_S) : Prop :=
  σ.1 1 = d_tm β uw ∧ (∃ nw, nw ≤ 9999 ∧ d_tm β uw = nI nw) ∧ σ.1 2 = on ∧ σ.1 3 = cut ∧ (cut = -1 ∨ 0 ≤ cut) ∧ (∀ i, i < 3 → σ.2.1 1 i = fl i) ∧ (∀ i, i < 3 → σ.2.1 17 i = u i) ∧ (∀ i, i < 3 → σ.2.1 18 i = f i) ∧ (∀ i, i < 3 → σ.2.1 19 i = g i) ∧ (∀ r, r < 8 → σ.2.1 15 r = ρ ca r)
def gLo (lo : Nat) (lc : Int32) (kn : Option Nat) (β : Nat → bd_T) (ρ : Nat → Nat → Int32) (σ : rs_S) : Prop :=
  (σ.1 5 = 0 ∧ d_sn β lo = 0 ∧ (∀ k, k < 8 → d_sd β lo k = 0) ∧ d_cs β lo = 0 ∧ (∃ p, kn = some p ∧ ∀ r, r < 8 → ρ p r = 0)) ∨
  (σ.1 5 ≠ 0 ∧ σ.2.1 6 71 = nI (d_sn β lo) ∧ d_sn β lo ≤ 4 ∧ (∀ q, q < d_sn β lo → σ.2.1 7 (284 + q) = d_so β lo q ∧ σ.2.2 (284 + q) = d_tx β lo q) ∧ (∀ c q, c < 2 → q < 4 → σ.2.1 10 (568 + 4 * c + q) = if nI c < lc then d_sd β lo (c * 4 + q) else 0) ∧ σ.2.1 14 71 = d_cs β lo ∧ (σ.1 6 = 0 ↔ kn = none) ∧ (∀ p, kn = some p → ∀ r, r < 8 → σ.2.1 20 r = ρ p r))
def gB (σ : rs_S) : Prop := ∀ b, b < 70 → 0 ≤ σ.2.1 4 b → σ.2.1 4 b < σ.1 1
def RR (uw : Nat) (fo : Option Nat) (ca : Nat) (co : Int32) (lo : Nat) (lc : Int32) (kn : Option Nat) (on cut : Int32) (u f g fl : Nat → Int32) (h : Nat → Nat → Option Nat) (sp : Nat → Nat → Int32) (β : Nat → bd_T) (ρ : Nat → Nat → Int32) (σ : rs_S) : Prop := (∃ A, gR A β ρ h sp σ) ∧ gB σ ∧ gH β ρ uw co σ ∧ gFo β ρ fo σ ∧ gW1 σ ∧ gNu uw ca on cut u f g fl β ρ σ ∧ gLo lo lc kn β ρ σ
/-- what the class's heap says beside its cells -/
def Cp (sz uw : Nat) (fo : Option Nat) (ca lo : Nat) (kn : Option Nat) (on : Int32) (h : Nat → Nat → Option Nat) (β : Nat → bd_T) (D P : Nat → Prop) : Prop := (∀ i, i < 3 → ∀ p, p < sN i → ∀ z, h i p = some z → D z) ∧ P ca ∧ D lo ∧ (∀ z, fo = some z → D z) ∧ (∀ p, kn = some p → P p ∧ p ≠ ca) ∧ (∀ z, (D z ∨ z = uw) → ∀ p, d_po β z = some p → P p ∧ p ≠ ca) ∧ (∀ z, D z → z ≠ uw) ∧ (∀ p, P p → p < sz) ∧ (on = 0 ∨ on = 1)
/- zones of the reference's state -/
def zS (σ τ : rs_S) : Prop := (∀ k, 1 < k → k < 6 → τ.2.1 k = σ.2.1 k) ∧ (∀ k b, b < 70 → (k = 6 ∨ k = 11 ∨ k = 12 ∨ k = 14) → τ.2.1 k b = σ.2.1 k b) ∧ (∀ j, j < 560 → τ.2.1 10 j = σ.2.1 10 j ∧ τ.2.1 13 j = σ.2.1 13 j) ∧ (∀ j, j < 280 → τ.2.1 7 j = σ.2.1 7 j ∧ τ.2.2 j = σ.2.2 j)
def zH (σ τ : rs_S) : Prop := τ.2.1 6 70 = σ.2.1 6 70 ∧ τ.2.1 11 70 = σ.2.1 11 70 ∧ τ.2.1 14 70 = σ.2.1 14 70 ∧ (∀ k, k < 8 → τ.2.1 10 (560 + k) = σ.2.1 10 (560 + k) ∧ τ.2.1 13 (560 + k) = σ.2.1 13 (560 + k)) ∧ (∀ q, q < 4 → τ.2.1 7 (280 + q) = σ.2.1 7 (280 + q) ∧ τ.2.2 (280 + q) = σ.2.2 (280 + q)) ∧ (∀ c, c < 2 → τ.2.1 9 (140 + c) = σ.2.1 9 (140 + c))
def zF (σ τ : rs_S) : Prop := τ.1 4 = σ.1 4 ∧ τ.2.1 16 = σ.2.1 16
def zN (σ τ : rs_S) : Prop := (∀ j, 0 < j → j < 4 → τ.1 j = σ.1 j) ∧ τ.2.1 1 = σ.2.1 1 ∧ τ.2.1 15 = σ.2.1 15 ∧ (∀ k, 16 < k → k < 20 → τ.2.1 k = σ.2.1 k)
def zL (σ τ : rs_S) : Prop := τ.1 5 = σ.1 5 ∧ τ.1 6 = σ.1 6 ∧ τ.2.1 6 71 = σ.2.1 6 71 ∧ τ.2.1 14 71 = σ.2.1 14 71 ∧ (∀ k, k < 8 → τ.2.1 10 (568 + k) = σ.2.1 10 (568 + k)) ∧ (∀ q, q < 4 → τ.2.1 7 (284 + q) = σ.2.1 7 (284 + q) ∧ τ.2.2 (284 + q) = σ.2.2 (284 + q)) ∧ τ.2.1 20 = σ.2.1 20
section Zones
variable {A : Nat → Nat} {uw : Nat} {fo : Option Nat} {ca : Nat} {co : Int32} {lo : Nat} {lc : Int32} {kn : Option Nat} {on cut : Int32} {u f g fl : Nat → Int32} {h : Nat → Nat → Option Nat} {sp : Nat → Nat → Int32} {β β' : Nat → bd_T} {ρ ρ' : Nat → Nat → Int32} {D P : Nat → Prop} {σ τ : rs_S} {sz : Nat}
theorem zS_R (z : zS σ τ) (hR : gR A β ρ h sp σ) : gR A β ρ h sp τ := by
  obtain ⟨hJ, hL, hS, hC⟩ := hR
  have e2 := z.1 2 (by decide) (by decide)
  have e3 := z.1 3 (by decide) (by decide)
  have e4 := z.1 4 (by decide) (by decide)
  have e5 := z.1 5 (by decide) (by decide)
  refine ⟨?_, ?_, ?_, fun b hb h0 => ?_⟩
  · unfold gJ gO gN at hJ ⊢; rw [e2, e4]; exact hJ
  · unfold gL at hL ⊢; rw [e2, e3, e4]; exact hL
  · unfold gS at hS ⊢; rw [e2, e4, e5]; exact hS
  · rw [e4] at h0
    obtain ⟨a1, a2, a3, a4, a5, a6, a7⟩ := hC b hb h0
    refine ⟨?_, a2, fun q hq => ?_, fun k hk => ?_, ?_, fun pa hp => ?_, ?_⟩
    · rw [z.2.1 6 b hb (by omega)]; exact a1
    · rw [(z.2.2.2 _ (by omega)).1, (z.2.2.2 _ (by omega)).2]; exact a3 q hq
    · rw [(z.2.2.1 _ (by omega)).1]; exact a4 k hk
    · rw [z.2.1 11 b hb (by omega)]; exact a5
    · obtain ⟨p1, p2, p3⟩ := a6 pa hp
      refine ⟨by rw [z.2.1 12 b hb (by omega)]; exact p1, p2, fun r hr => ?_⟩
      rw [(z.2.2.1 _ (by omega)).2]; exact p3 r hr
    · rw [z.2.1 14 b hb (by omega)]; exact a7
theorem zH_H (z : zH σ τ) (hH : gH β ρ uw co σ) : gH β ρ uw co τ := by
  obtain ⟨a1, a2, a3, a4, a5, a6, a7, a8, a9, a10⟩ := hH
  obtain ⟨z1, z2, z3, z4, z5, z6⟩ := z
  refine ⟨z1.trans a1, a2, fun q hq => ?_, fun k hk => by rw [(z4 k hk).1]; exact a4 k hk, z2.trans a5, fun pa hp r hr => by rw [(z4 r hr).2]; exact a6 pa hp r hr, z3.trans a7, fun c hc => by rw [z6 c hc]; exact a8 c hc, a9, a10⟩
  rw [(z5 q (by omega)).1, (z5 q (by omega)).2]; exact a3 q hq
theorem zF_F (z : zF σ τ) (hF : gFo β ρ fo σ) : gFo β ρ fo τ := by
  cases fo with
  | none => exact z.1.trans hF
  | some y =>
    obtain ⟨a, b, pa, c, d⟩ := hF
    exact ⟨z.1.trans a, b, pa, c, by rw [z.2]; exact d⟩
theorem zN_N (z : zN σ τ) (hN : gNu uw ca on cut u f g fl β ρ σ) : gNu uw ca on cut u f g fl β ρ τ := by
  unfold gNu at hN ⊢
  rw [z.1 1 (by decide) (by decide), z.1 2 (by decide) (by decide), z.1 3 (by decide) (by decide), z.2.1, z.2.2.1, z.2.2.2 17 (by decide) (by decide), z.2.2.2 18 (by decide) (by decide), z.2.2.2 19 (by decide) (by decide)]
  exact hN
theorem zL_L (z : zL σ τ) (hL : gLo lo lc kn β ρ σ) : gLo lo lc kn β ρ τ := by
  obtain ⟨z1, z2, z3, z4, z5, z6, z7⟩ := z
  rcases hL with ⟨a, b⟩ | ⟨a1, a2, a3, a4, a5, a6, a7, a8⟩
  · exact .inl ⟨z1.trans a, b⟩
  · refine .inr ⟨by rw [z1]; exact a1, z3.trans a2, a3, fun q hq => ?_, fun c q hc hq => ?_, z4.trans a6, by rw [z2]; exact a7, by rw [z7]; exact a8⟩
    · rw [(z6 q (by omega)).1, (z6 q (by omega)).2]; exact a4 q hq
    · rw [show 568 + 4 * c + q = 568 + (4 * c + q) by omega, z5 (4 * c + q) (by omega), show 568 + (4 * c + q) = 568 + 4 * c + q by omega]; exact a5 c q hc hq
theorem zB (z : zS σ τ) (e : τ.1 1 = σ.1 1) (hB : gB σ) : gB τ := by
  unfold gB at hB ⊢
  rw [z.1 4 (by decide) (by decide), e]
  exact hB
theorem RR_z (z1 : zS σ τ) (z2 : zH σ τ) (z3 : zF σ τ) (z4 : zN σ τ) (z5 : zL σ τ) (hw : gW1 τ) (hR : RR uw fo ca co lo lc kn on cut u f g fl h sp β ρ σ) : RR uw fo ca co lo lc kn on cut u f g fl h sp β ρ τ := by
  obtain ⟨⟨A, a1⟩, a2, a3, a4, a5, a6, a7⟩ := hR
  exact ⟨⟨A, zS_R z1 a1⟩, zB z1 (z4.1 1 (by decide) (by decide)) a2, zH_H z2 a3, zF_F z3 a4, hw, zN_N z4 a6, zL_L z5 a7⟩
theorem z_S (σ : rs_S) : zS σ σ := ⟨fun _ _ _ => rfl, fun _ _ _ _ => rfl, fun _ _ => ⟨rfl, rfl⟩, fun _ _ => ⟨rfl, rfl⟩⟩
theorem z_H (σ : rs_S) : zH σ σ := ⟨rfl, rfl, rfl, fun _ _ => ⟨rfl, rfl⟩, fun _ _ => ⟨rfl, rfl⟩, fun _ _ => rfl⟩
theorem z_L (σ : rs_S) : zL σ σ := ⟨rfl, rfl, rfl, rfl, fun _ _ => rfl, fun _ _ => ⟨rfl, rfl⟩, rfl⟩
theorem z_N (σ : rs_S) : zN σ σ := ⟨fun _ _ _ => rfl, rfl, rfl, fun _ _ _ => rfl⟩
/-- only the code of what was thrown -/
theorem RR_0 (x : Int32) (hR : RR uw fo ca co lo lc kn on cut u f g fl h sp β ρ σ) : RR uw fo ca co lo lc kn on cut u f g fl h sp β ρ (rs_f σ 0 x) := by
  have e : ∀ j, j ≠ 0 → (rs_f σ 0 x).1 j = σ.1 j := fun j hj => va_up_ne _ _ hj
  exact RR_z (σ := σ) (τ := rs_f σ 0 x) ⟨fun _ _ _ => rfl, fun _ _ _ _ => rfl, fun _ _ => ⟨rfl, rfl⟩, fun _ _ => ⟨rfl, rfl⟩⟩ ⟨rfl, rfl, rfl, fun _ _ => ⟨rfl, rfl⟩, fun _ _ => ⟨rfl, rfl⟩, fun _ _ => rfl⟩ ⟨e 4 (by decide), rfl⟩ ⟨fun j h1 _ => e j (by omega), rfl, rfl, fun _ _ _ => rfl⟩ ⟨e 5 (by decide), e 6 (by decide), rfl, rfl, fun _ _ => rfl, fun _ _ => ⟨rfl, rfl⟩, rfl⟩ hR.2.2.2.2.1 hR
/- the class's side -/
theorem gA_D (hR : gR A β ρ h sp σ) (hD : ∀ i, i < 3 → ∀ p, p < sN i → ∀ z, h i p = some z → D z) {b : Nat} (hb : b < 70) (h0 : 0 ≤ σ.2.1 4 b) : D (A b) := by
  obtain ⟨q, q1, _, q3⟩ := gW hR.1 hR.2.1 (stp_lt b) hb rfl h0
  exact hD _ (stp_lt b) q q1 _ q3
theorem gR_b (hR : gR A β ρ h sp σ) (e : ∀ b, b < 70 → 0 ≤ σ.2.1 4 b → β' (A b) = β (A b) ∧ ∀ pa, d_po β (A b) = some pa → ρ' pa = ρ pa) : gR A β' ρ' h sp σ := by
  obtain ⟨hJ, hL, hS, hC⟩ := hR
  refine ⟨hJ, ⟨fun b hb h0 => ?_, hL.2⟩, hS, fun b hb h0 => ?_⟩
  · have := hL.1 b hb h0
    unfold d_tm at this ⊢
    rw [(e b hb h0).1]
    exact this
  · obtain ⟨a1, a2, a3, a4, a5, a6, a7⟩ := hC b hb h0
    obtain ⟨e1, e2⟩ := e b hb h0
    unfold cn d_sn d_so d_tx d_sd d_po d_ba d_cs
    rw [e1]
    refine ⟨a1, a2, a3, a4, a5, fun pa hp => ?_, a7⟩
    rw [e2 pa hp]
    exact a6 pa hp
theorem gFo_b (hF : gFo β ρ fo σ) (e : ∀ z, fo = some z → β' z = β z ∧ ∀ pa, d_po β z = some pa → ρ' pa = ρ pa) : gFo β' ρ' fo σ := by
  cases fo with
  | none => exact hF
  | some y =>
    obtain ⟨a, b, pa, c, d⟩ := hF
    obtain ⟨e1, e2⟩ := e y rfl
    have et : d_tm β' y = d_tm β y := congrArg (fun d => d.1 0) e1
    have ep : d_po β' y = d_po β y := congrArg (fun d => d.2.2.2.1) e1
    exact ⟨a.trans et.symm, by rw [et]; exact b, pa, ep.trans c, by rw [e2 pa c]; exact d⟩
theorem gLo_b (hL : gLo lo lc kn β ρ σ) (e1 : β' lo = β lo) (e2 : ∀ p, kn = some p → ρ' p = ρ p) : gLo lo lc kn β' ρ' σ := by
  unfold gLo d_sn d_sd d_cs d_so d_tx
  rw [e1]
  rcases hL with ⟨a1, a2, a3, a4, p, a5, a6⟩ | ⟨a1, a2, a3, a4, a5, a6, a7, a8⟩
  · exact .inl ⟨a1, a2, a3, a4, p, a5, by rw [e2 p a5]; exact a6⟩
  · exact .inr ⟨a1, a2, a3, a4, a5, a6, a7, fun p hp => by rw [e2 p hp]; exact a8 p hp⟩
theorem RR_b (hC : Cp sz uw fo ca lo kn on h β D P) (hR : RR uw fo ca co lo lc kn on cut u f g fl h sp β ρ σ) (eb : ∀ z, D z → β' z = β z) (er : ∀ p, P p → p ≠ ca → ρ' p = ρ p) : (∃ A, gR A β' ρ' h sp σ) ∧ gFo β' ρ' fo σ ∧ gLo lo lc kn β' ρ' σ := by
  obtain ⟨⟨A, a1⟩, a2, a3, a4, a5, a6, a7⟩ := hR
  obtain ⟨c1, c2, c3, c4, c5, c6, c7, c8, c9⟩ := hC
  refine ⟨⟨A, gR_b a1 (fun b hb h0 => ?_)⟩, gFo_b a4 (fun z hz => ⟨eb z (c4 z hz), fun pa hp => ?_⟩), gLo_b a7 (eb lo c3) (fun p hp => er p (c5 p hp).1 (c5 p hp).2)⟩
  · have hd := gA_D a1 c1 hb h0
    refine ⟨eb _ hd, fun pa hp => ?_⟩
    obtain ⟨p1, p2⟩ := c6 _ (.inl hd) pa hp
    exact er pa p1 p2
  · obtain ⟨p1, p2⟩ := c6 _ (.inl (c4 z hz)) pa hp
    exact er pa p1 p2
end Zones
