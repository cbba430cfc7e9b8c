/-! Pure rows: second. -/
theorem sc_cs : ∀ (n : Nat) (τ : rs_S), (fo_f sc_c 0 n τ).1 = τ.1 ∧ (∀ k, k ≠ 16 → (fo_f sc_c 0 n τ).2.1 k = τ.2.1 k) ∧ (fo_f sc_c 0 n τ).2.2 = τ.2.2 ∧ ∀ j, (fo_f sc_c 0 n τ).2.1 16 j = if j < n then τ.2.1 13 (560 + j) else τ.2.1 16 j := by
  intro n
  induction n with
  | zero => intro τ; exact ⟨rfl, fun _ _ => rfl, rfl, fun j => rfl⟩
  | succ n ih =>
    intro τ
    obtain ⟨a1, a2, a3, a4⟩ := ih τ
    rw [fo_s, Nat.zero_add]
    generalize fo_f sc_c 0 n τ = υ at a1 a2 a3 a4
    refine ⟨a1, fun k hk => ?_, a3, fun j => ?_⟩
    · rw [sc_c, rs_an _ _ hk]; exact a2 k hk
    · rw [sc_c, rs_av]
      by_cases e : j = n
      · rw [e, pk_us, if_pos (by omega), a2 13 (by decide)]
      · rw [pk_un e, a4]
        by_cases y : j < n
        · rw [if_pos y, if_pos (by omega)]
        · rw [if_neg y, if_neg (by omega)]
theorem sc_hs (τ : rs_S) : (sc_h τ).1 = τ.1 ∧ (∀ k, k ≠ 16 → (sc_h τ).2.1 k = τ.2.1 k) ∧ (sc_h τ).2.2 = τ.2.2 ∧ (τ.2.1 11 70 = 0 → (sc_h τ).2.1 16 = τ.2.1 16) ∧ (τ.2.1 11 70 ≠ 0 → ∀ j, j < 8 → (sc_h τ).2.1 16 j = τ.2.1 13 (560 + j)) := by
  rw [sc_h]
  by_cases e : τ.2.1 11 70 = 0
  · rw [if_pos e]
    exact ⟨rfl, fun _ _ => rfl, rfl, fun _ => rfl, fun x => absurd e x⟩
  · rw [if_neg e]
    obtain ⟨a1, a2, a3, a4⟩ := sc_cs 8 τ
    exact ⟨a1, a2, a3, fun x => absurd x e, fun _ j hj => by rw [a4, if_pos hj]⟩
def mcS (τ υ : rs_S) : Prop := υ.1 = τ.1 ∧ υ.2.2 = τ.2.2 ∧ υ.2.1 6 = upd (τ.2.1 6) 70 0 ∧ υ.2.1 11 = upd (τ.2.1 11) 70 0 ∧ υ.2.1 9 = upd (upd (τ.2.1 9) 140 0) 141 0 ∧ (∀ j, υ.2.1 10 j = if 560 ≤ j ∧ j < 568 then 0 else τ.2.1 10 j) ∧ (∀ k, k ≠ 6 → k ≠ 11 → k ≠ 9 → k ≠ 10 → υ.2.1 k = τ.2.1 k)
theorem mc_hs (τ : rs_S) : (mc_h τ).1 = τ.1 ∧ (mc_h τ).2.2 = τ.2.2 ∧ (mc_h τ).2.1 6 = upd (τ.2.1 6) 70 0 ∧ (mc_h τ).2.1 11 = upd (τ.2.1 11) 70 0 ∧ (mc_h τ).2.1 9 = upd (upd (τ.2.1 9) 140 0) 141 0 ∧ (∀ k, k ≠ 6 → k ≠ 11 → k ≠ 9 → (mc_h τ).2.1 k = τ.2.1 k) := by
  rw [mc_h]
  refine ⟨rfl, rfl, ?_, ?_, ?_, fun k k1 k2 k3 => ?_⟩
  · rw [rs_an _ _ (by decide), rs_an _ _ (by decide), rs_an _ _ (by decide), rs_av]
  · rw [rs_an _ _ (by decide), rs_an _ _ (by decide), rs_av]
  · rw [rs_av]
  · rw [rs_an _ _ k3, rs_an _ _ k3, rs_an _ _ k2, rs_an _ _ k1]
theorem mc_ls (τ : rs_S) : mcS τ (mc_l τ) := by
  obtain ⟨a1, a2, a3, a4, a5, a6⟩ := mc_hs τ
  obtain ⟨z1, z2, z3, z4⟩ := mc_zs 560 10 8 0 (mc_h τ)
  rw [mc_l]
  refine ⟨z3.trans a1, z4.trans a2, (z2 6 (by decide)).trans a3, (z2 11 (by decide)).trans a4, (z2 9 (by decide)).trans a5, fun j => ?_, fun k k1 k2 k3 k4 => (z2 k k4).trans (a6 k k1 k2 k3)⟩
  rw [z1, a6 10 (by decide) (by decide) (by decide)]
/- the reference's own invariant, for its second -/
theorem mv_J {s pg : Nat} (hs : s < 3) : ∀ (e : Nat) (τ : rs_S), gJ τ → gJ (mv_r (nI s) pg e τ).2 ∧ gK τ (mv_r (nI s) pg e τ).2 ∧ (mv_n τ (nI s) < e → (mv_r (nI s) pg e τ).1 = true → pg ≤ mf_fp (mv_r (nI s) pg e τ).2 (nI s)) := by
  intro e
  induction e with
  | zero => intro τ hJ; exact ⟨hJ, gK_r τ, fun h => absurd h (by omega)⟩
  | succ e ih =>
    intro τ hJ
    rw [mv_r]
    by_cases hp : pg ≤ mf_fp τ (nI s)
    · rw [if_pos hp]; exact ⟨hJ, gK_r τ, fun _ _ => hp⟩
    · rw [if_neg hp]
      cases ho : mv_o τ (nI s) with
      | none => exact ⟨hJ, gK_r τ, fun _ x => by cases x⟩
      | some q =>
        obtain ⟨q1, q2, _⟩ := mv_lt ho
        have hq : q < 70 := by rw [sL_hi hs] at q2; have := sN_70 hs; omega
        have hd := mv_dec ho
        obtain ⟨k1, k2, k3⟩ := ih (mo_t τ q) (gJ_out hJ.1 hJ.2.1 (gJ_x q hJ) hq)
        exact ⟨k1, gK_t (gK_o hq) k2, fun h => k3 (by omega)⟩
def Iv (j : Nat) (τ : rs_S) : Prop := gJ τ ∧ gW1 τ ∧ τ.2.1 6 70 = nI j ∧ 0 ≤ τ.1 1
theorem Iv_F {j : Nat} {σ τ : rs_S} (h : Iv j σ) (hJ : gJ τ) (hF : gF σ τ) : Iv j τ := ⟨hJ, hF.2.2.2.2.2.2 h.2.1, (hF.2.2.1 6 70 (by omega) (by omega)).trans h.2.2.1, by rw [hF.1 1 (by decide)]; exact h.2.2.2⟩
theorem Iv_2 {j s pg : Nat} {τ : rs_S} (h : Iv j τ) (hs : s < 3) : Iv j (mv_r (nI s) pg 71 τ).2 := by
  obtain ⟨k1, k2, _⟩ := mv_J (pg := pg) hs 71 τ h.1
  exact Iv_F h k1 (gF_k k2)
theorem g_newJ {σ τ : rs_S} {i b0 pg : Nat} (hb : b0 < 70) (hn : σ.2.1 4 b0 < 0) (hJ : gJ σ) (hw : whS σ τ i b0 pg) (h0 : 0 ≤ σ.1 1) : gO τ ∧ gN τ ∧ gX b0 τ ∧ 0 ≤ τ.2.1 4 b0 := by
  obtain ⟨w1, w2, w3, w4, w5, w6, w7, w8, w9, w10, w11, w12⟩ := hw
  have e2 : τ.2.1 2 = σ.2.1 2 := w12 2 (by omega)
  have ho : ∀ p, p < 70 → σ.2.1 2 p ≠ nI (b0 + 1) := by
    intro p hp e
    rcases hJ.1 p hp with c | ⟨c, c1, c2, c3, c4⟩
    · rw [e] at c; exact ow_0 hb c
    · obtain rfl : b0 = c := ow_i hb c1 (by rw [← e, ← c3])
      exact absurd hn (Int32.not_lt.mpr c4)
  refine ⟨fun p hp => ?_, fun b h1 => ?_, fun b h1 h2 h3 => ?_, ?_⟩
  · rw [e2, w3]
    rcases hJ.1 p hp with c | ⟨c, c1, c2, c3, c4⟩
    · exact .inl c
    · refine .inr ⟨c, c1, c2, c3, ?_⟩
      rw [pk_un (fun e => ho p hp (by rw [c3, e]))]
      exact c4
  · rw [w3]
    by_cases e : b = b0
    · subst e; rw [pk_us]; exact .inl h0
    · rw [pk_un e]; exact hJ.2.1 b h1
  · rw [w3, pk_un h2] at h3
    rw [e2]
    exact hJ.2.2 b h1 h3
  · rw [w3, pk_us]; exact h0
theorem Iv_3 {j s pg : Nat} {τ : rs_S} (h : Iv j τ) (hs : s < 3) (hp : 1 ≤ pg) (ht : (mv_r (nI s) pg 71 τ).1 = true) : mw_pre (mv_r (nI s) pg 71 τ).2 (nI s) pg ∧ Iv j (mw_r (mv_r (nI s) pg 71 τ).2 (nI s) pg).2 := by
  have h2 := Iv_2 (pg := pg) h hs
  have hf := (mv_J (pg := pg) hs 71 τ h.1).2.2 (by have := mv_n_le τ hs; have := sN_70 hs; omega) ht
  generalize (mv_r (nI s) pg 71 τ).2 = υ at h2 hf
  obtain ⟨b, b1, b2, b3⟩ := g_slot h2.1 hs (by omega)
  refine ⟨⟨⟨b, by rw [sL_lo hs]; exact b1, by rw [sL_hi hs]; exact b2, b3⟩, h2.2.1.1, h2.2.1.2.1, fun p hp => ?_, hf⟩, ?_⟩
  · rcases h2.1.1 p hp with c | ⟨c, c1, c2, c3, c4⟩
    · rw [c]; exact Int32.le_refl _
    · rw [c3]; exact nI_pos' (by omega)
  · have hb0 := mq_f_in υ 72 (sL s) b b1 (by have := sN_70 hs; omega) b3
    obtain ⟨s1, s2⟩ := stp_of hs hb0.1 (by omega)
    have er : mw_r υ (nI s) pg = mw_p (mq_f υ 72 (sL s)) (sL s) pg (mw_h υ (nI s) (mq_f υ 72 (sL s)) pg) := by rw [mw_r, sL_lo hs]
    rw [er]
    generalize mq_f υ 72 (sL s) = b0 at hb0 s1 s2
    have hw := mw_hs υ b0 pg s2 hs
    obtain ⟨n1, n2, n3, n4⟩ := g_newJ s2 hb0.2.2 h2.1 hw h2.2.2.2
    have hF := gF_w s2 hw
    have hfp : pg ≤ mf_fp (mw_h υ (nI s) b0 pg) (nI s) := by
      have : mf_fp (mw_h υ (nI s) b0 pg) (nI s) = mf_fp υ (nI s) := by rw [mf_ct, mf_ct, hw.2.2.2.2.2.2.2.2.2.2.2 2 (by omega)]
      omega
    generalize mw_h υ (nI s) b0 pg = ω at n1 n2 n3 n4 hF hfp
    obtain ⟨p1, p2, p3⟩ := g_wp hs s2 s1 pg ω n1 n2 n3 n4 hfp
    refine Iv_F h2 ?_ (gF_t hF (gF_m p3))
    cases hx : (mw_p b0 (sL s) pg ω).1 with
    | true =>
      obtain ⟨r1, r2, r3, r4, r5, r6, r7⟩ := p1 hx
      refine ⟨r1, r2, fun d hd h1 => ?_⟩
      by_cases eb : d = b0
      · subst eb; exact r6 hp
      · exact r3 d hd eb h1
    | false => exact (p2 hx).1
section Calls5
variable {uw : Nat} {fo : Option Nat} {ca : Nat} {co : Int32} {lo : Nat} {lc : Int32} {kn : Option Nat} {on cut : Int32} {u f g fl : Nat → Int32} {h : Nat → Nat → Option Nat} {sp : Nat → Nat → Int32} {β : Nat → bd_T} {ρ : Nat → Nat → Int32} {D P : Nat → Prop} {σ : rs_S} {sz : Nat}
theorem R_nw (hR : RR uw fo ca co lo lc kn on cut u f g fl h sp β ρ σ) : 0 ≤ σ.1 1 := by
  obtain ⟨c1, ⟨nw, c2, c3⟩, _⟩ := hR.2.2.2.2.2.1
  rw [c1, c3]; exact nI_pos' (by omega)
theorem R_Iv (hR : RR uw fo ca co lo lc kn on cut u f g fl h sp β ρ σ) (c : Bool) (hc : ∀ k, k ≠ 12 → (sc_p σ c).2.2.1 k = σ.2.1 k) (h1 : (sc_p σ c).2.1 1 = σ.1 1) : Iv (d_sn β uw) (sc_p σ c).2 := by
  obtain ⟨A, hJ, _⟩ := hR.1
  refine ⟨?_, ?_, ?_, by rw [h1]; exact R_nw hR⟩
  · unfold gJ gO gN at hJ ⊢; rw [hc 2 (by decide), hc 4 (by decide)]; exact hJ
  · unfold gW1; rw [hc 9 (by decide), hc 11 (by decide), hc 6 (by decide)]; exact hR.2.2.2.2.1
  · rw [hc 6 (by decide)]; exact (R_sn hR).1
theorem R_second2 (hR : RR uw fo ca co lo lc kn on cut u f g fl h sp β ρ σ) (h1 : on = 1) (j : Nat) (c : Bool) (t : Int32) (ht : t ≤ d_tm β uw ∨ ¬ t ≤ 9999) : RR uw fo ca co lo lc kn on cut u f g fl h sp β ρ (ms_second σ j c t).2 ∧ (ms_second σ j c t).2.1 0 = 2 := by
  rw [ms_second, if_neg (R_n1 hR h1), if_pos]
  · exact ⟨RR_0 2 hR, rfl⟩
  · rw [← R_now hR]
    exact ht.imp id Int32.not_le.mp
end Calls5
