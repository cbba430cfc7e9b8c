/-! Pure rows: a store's turn in a second. -/
theorem g_take {A : Nat → Nat} {β : Nat → bd_T} {ρ : Nat → Nat → Int32} {h : Nat → Nat → Option Nat} {sp : Nat → Nat → Int32} {σ : rs_S} {u f g : Nat → Int32} {i pg z : Nat} {on cut : Int32} (hi : i < 3) (hR : gR A β ρ h sp σ) (hpg : 1 ≤ pg) (hz : cn β ρ σ 70 z 0) (ht : d_tm β z = σ.1 1) (h0 : 0 ≤ σ.1 1) (hlt : ∀ b, b < 70 → stp b = i → 0 ≤ σ.2.1 4 b → σ.2.1 4 b ≠ σ.1 1) (hc : σ.1 3 = cut) (hc2 : cut = -1 ∨ 0 ≤ cut) (hfz : ∀ t, fz_h (σ.2.1 17) (σ.2.1 18) (σ.2.1 19) t ↔ fz_h u f g t) :
    ((mv_r (nI i) pg 71 σ).1 = false ∧ (so_tk (sO i) u f g (d_tm β) z (sN i) pg (h i) (sp i) on cut).1 = false ∧ (so_tk (sO i) u f g (d_tm β) z (sN i) pg (h i) (sp i) on cut).2.2.2.1 = on ∧ (so_tk (sO i) u f g (d_tm β) z (sN i) pg (h i) (sp i) on cut).2.2.2.2 = cut ∧ (∃ A', gR A' β ρ (va_up h i (so_tk (sO i) u f g (d_tm β) z (sN i) pg (h i) (sp i) on cut).2.1) (va_up sp i (so_tk (sO i) u f g (d_tm β) z (sN i) pg (h i) (sp i) on cut).2.2.1) (mv_r (nI i) pg 71 σ).2) ∧ (mv_r (nI i) pg 71 σ).2.1 3 = cut ∧ gF σ (mv_r (nI i) pg 71 σ).2 ∧ (∀ b, b < 70 → 0 ≤ (mv_r (nI i) pg 71 σ).2.2.1 4 b → (mv_r (nI i) pg 71 σ).2.2.1 4 b = σ.2.1 4 b)) ∨
    ((mv_r (nI i) pg 71 σ).1 = true ∧ (mw_r (mv_r (nI i) pg 71 σ).2 (nI i) pg).1 = true ∧ (so_tk (sO i) u f g (d_tm β) z (sN i) pg (h i) (sp i) on cut).1 = true ∧ (so_tk (sO i) u f g (d_tm β) z (sN i) pg (h i) (sp i) on cut).2.2.2.1 = on ∧ (∃ A', gR A' β ρ (va_up h i (so_tk (sO i) u f g (d_tm β) z (sN i) pg (h i) (sp i) on cut).2.1) (va_up sp i (so_tk (sO i) u f g (d_tm β) z (sN i) pg (h i) (sp i) on cut).2.2.1) (mw_r (mv_r (nI i) pg 71 σ).2 (nI i) pg).2) ∧ (mw_r (mv_r (nI i) pg 71 σ).2 (nI i) pg).2.1 3 = (so_tk (sO i) u f g (d_tm β) z (sN i) pg (h i) (sp i) on cut).2.2.2.2 ∧ ((so_tk (sO i) u f g (d_tm β) z (sN i) pg (h i) (sp i) on cut).2.2.2.2 = -1 ∨ 0 ≤ (so_tk (sO i) u f g (d_tm β) z (sN i) pg (h i) (sp i) on cut).2.2.2.2) ∧ gF σ (mw_r (mv_r (nI i) pg 71 σ).2 (nI i) pg).2 ∧ (∀ b, b < 70 → 0 ≤ (mw_r (mv_r (nI i) pg 71 σ).2 (nI i) pg).2.2.1 4 b → (mw_r (mv_r (nI i) pg 71 σ).2 (nI i) pg).2.2.1 4 b = σ.2.1 4 b ∨ (stp b = i ∧ (mw_r (mv_r (nI i) pg 71 σ).2 (nI i) pg).2.2.1 4 b = σ.1 1))) ∨
    ((mv_r (nI i) pg 71 σ).1 = true ∧ (mw_r (mv_r (nI i) pg 71 σ).2 (nI i) pg).1 = false ∧ (so_tk (sO i) u f g (d_tm β) z (sN i) pg (h i) (sp i) on cut).1 = false ∧ (so_tk (sO i) u f g (d_tm β) z (sN i) pg (h i) (sp i) on cut).2.2.2.1 = 0 ∧ (so_tk (sO i) u f g (d_tm β) z (sN i) pg (h i) (sp i) on cut).2.2.2.2 = -1 ∧ (∃ A', gR A' β ρ (va_up h i (so_tk (sO i) u f g (d_tm β) z (sN i) pg (h i) (sp i) on cut).2.1) (va_up sp i (so_tk (sO i) u f g (d_tm β) z (sN i) pg (h i) (sp i) on cut).2.2.1) (mw_r (mv_r (nI i) pg 71 σ).2 (nI i) pg).2) ∧ gF σ (mw_r (mv_r (nI i) pg 71 σ).2 (nI i) pg).2 ∧ (∀ b, b < 70 → 0 ≤ (mw_r (mv_r (nI i) pg 71 σ).2 (nI i) pg).2.2.1 4 b → (mw_r (mv_r (nI i) pg 71 σ).2 (nI i) pg).2.2.1 4 b = σ.2.1 4 b)) := by
  obtain ⟨hJ, hL, hS, hC⟩ := hR
  obtain ⟨k1, k2, k3, k4, k5⟩ := g_ks (A := A) (tm := d_tm β) (sp := sp) (u := u) (f := f) (g := g) (pg := pg) hi (mv_n σ (nI i)) (sN i) 71 σ h rfl (mv_n_le σ hi) (by have := mv_n_le σ hi; have := sN_70 hi; omega) hJ hL hfz
  cases hm : (mv_r (nI i) pg 71 σ).1 with
  | false =>
    rw [hm] at k1
    have e : so_tk (sO i) u f g (d_tm β) z (sN i) pg (h i) (sp i) on cut = (false, (so_ks (sO i) u f g (d_tm β) (sN i) pg (sN i) (h i)).2, sp i, on, cut) := by
      rw [so_tk, k1, if_neg (by decide)]
    rw [e]
    refine .inl ⟨rfl, rfl, rfl, rfl, ⟨A, k2, ?_, gS_k hS k4, gC_k hC k4⟩, ?_, gF_k k4, fun b hb h0 => (k4.2.2.2 b hb h0).1⟩
    · show gL A (d_tm β) (va_up h i (so_ks (sO i) u f g (d_tm β) (sN i) pg (sN i) (h i)).2) (va_up sp i (sp i)) _
      rw [va_us (f := sp) rfl]
      exact k3
    · rw [k4.1]; exact hc
  | true =>
    rw [hm] at k1
    have hfp := k5 hm
    generalize hτ : (mv_r (nI i) pg 71 σ).2 = τ at k2 k3 k4 hfp
    obtain ⟨c0, c1, c2, c3⟩ := g_slot k2 hi (by omega)
    have hb0 := mq_f_in τ 72 (sL i) c0 c1 (by have := sN_70 hi; omega) c3
    obtain ⟨s1, s2⟩ := stp_of hi hb0.1 (by omega)
    have eb : mb_lo (nI i) = sL i := sL_lo hi
    have er : mw_r τ (nI i) pg = mw_p (mq_f τ 72 (sL i)) (sL i) pg (mw_h τ (nI i) (mq_f τ 72 (sL i)) pg) := by rw [mw_r, eb]
    generalize mq_f τ 72 (sL i) = b0 at hb0 s1 s2 er
    have hw := mw_hs τ b0 pg s2 hi
    have en : τ.1 1 = σ.1 1 := by rw [k4.1]
    obtain ⟨n1, n2, n3, n4, n5, n6, n7⟩ := g_new hi s2 s1 hb0.2.2 ⟨k2, k3, gS_k hS k4, gC_k hC k4⟩ hw (cn_F (gF_k k4) hz) (by rw [en]; exact ht) (by rw [en]; exact h0) (fun b b1 b2 b3 => by
      rw [en]
      obtain ⟨e1, _⟩ := k4.2.2.2 b b1 b3
      rw [e1] at b3 ⊢
      exact hlt b b1 b2 b3)
    have hwS := hw
    obtain ⟨w1, w2, w3, w4, w5, w6, w7, w8, w9, w10, w11, w12⟩ := hw
    have hfp2 : pg ≤ mf_fp (mw_h τ (nI i) b0 pg) (nI i) := by
      have : mf_fp (mw_h τ (nI i) b0 pg) (nI i) = mf_fp τ (nI i) := by rw [mf_ct, mf_ct, w12 2 (by omega)]
      omega
    have hS1 : gS τ := gS_k hS k4
    have hF1 : gF σ (mw_h τ (nI i) b0 pg) := gF_t (gF_k k4) (gF_w s2 hwS)
    have hcut : (mw_h τ (nI i) b0 pg).1 3 = cut := by rw [w1, k4.1]; exact hc
    have n8 : sm (fun p => if (mw_h τ (nI i) b0 pg).2.1 2 p = nI (b0 + 1) then 1 else 0) (sL i) (sN i) = 0 := sm_0 _ (fun p _ hp => if_neg (n7 p (by have := sN_70 hi; omega)))
    have e2 : (mw_h τ (nI i) b0 pg).2.1 2 = τ.2.1 2 := w12 2 (by omega)
    generalize mw_h τ (nI i) b0 pg = υ at er w1 w2 w3 w4 w5 w6 w7 w8 w9 w10 w11 w12 n1 n2 n3 n4 n5 n6 n7 n8 hfp2 hF1 hcut e2
    obtain ⟨p1, p2, p3⟩ := g_wp hi s2 s1 pg υ n1 n2 n3 n4 hfp2
    have q := g_ws (A := va_up A b0 z) (tm := d_tm β) (z := z) (kn := pg) hi s2 s1 (va_up_self _ _ _) (sN i) 0 0 (va_up h i (so_ks (sO i) u f g (d_tm β) (sN i) pg (sN i) (h i)).2) sp on cut υ (by omega) (by omega) n1 n4 n5 (fun q hq => absurd hq (by omega)) (by omega) hcut hc2
    rw [Nat.sub_zero, va_up_self, va_uu] at q
    have e : so_tk (sO i) u f g (d_tm β) z (sN i) pg (h i) (sp i) on cut = so_ws (d_tm β) z (sN i) pg (sN i) 0 0 (so_ks (sO i) u f g (d_tm β) (sN i) pg (sN i) (h i)).2 (sp i) on cut := by
      rw [so_tk, k1, if_pos rfl, so_w]
    rw [er, e]
    generalize so_ws (d_tm β) z (sN i) pg (sN i) 0 0 (so_ks (sO i) u f g (d_tm β) (sN i) pg (sN i) (h i)).2 (sp i) on cut = r at q
    generalize mw_p b0 (sL i) pg υ = x at q p1 p2 p3
    obtain ⟨q1, q2, q3, q4⟩ := q
    have hFx : gF σ x.2 := gF_t hF1 (gF_m p3)
    have tK : ∀ b, b < 70 → b ≠ b0 → 0 ≤ x.2.2.1 4 b → x.2.2.1 4 b = σ.2.1 4 b := by
      intro b hb hne hx
      have e1 := (p3.2.2.2 b hb hne).1
      rw [w3, pk_un hne] at e1
      rw [e1] at hx ⊢
      exact (k4.2.2.2 b hb hx).1
    have hSo : ∀ b, b < 40 → b ≠ b0 → 0 ≤ x.2.2.1 4 b → x.2.2.1 5 b = nI (sm (fun p => if x.2.2.1 2 p = nI (b + 1) then 1 else 0) 0 40) := by
      intro b hb hne hx
      obtain ⟨e1, e2'⟩ := p3.2.2.2 b (by omega) hne
      rw [w3, pk_un hne] at e1
      rw [e1] at hx
      rw [p3.2.1 5 (by decide) (by decide) (by decide), w4, pk_un hne, hS1 b hb hx]
      congr 1
      refine sm_c _ (fun p _ _ => ?_)
      have := e2' p
      rw [e2] at this
      by_cases y : τ.2.1 2 p = nI (b + 1)
      · rw [if_pos y, if_pos (this.mpr y)]
      · rw [if_neg y, if_neg (fun w => y (this.mp w))]
    have hCo : ∀ b, b < 70 → 0 ≤ υ.2.1 4 b → cn β ρ x.2 b (va_up A b0 z b) (stp b) := fun b hb hx => cn_k (fun j j1 _ _ => p3.2.1 j (by omega) (by omega) (by omega)) p3.2.2.1 (n6 b hb hx)
    cases hx : x.1 with
    | true =>
      refine .inr (.inl ⟨rfl, rfl, q1.trans hx, (q3 hx).1, ⟨va_up A b0 z, ?_, q2, ?_, ?_⟩, (q3 hx).2.1, (q3 hx).2.2, hFx, ?_⟩)
      · obtain ⟨r1, r2, r3, r4, r5, r6, r7⟩ := p1 hx
        refine ⟨r1, r2, fun b hb h1 => ?_⟩
        by_cases eb : b = b0
        · subst eb; exact r6 hpg
        · exact r3 b hb eb h1
      · obtain ⟨r1, r2, r3, r4, r5, r6, r7⟩ := p1 hx
        intro b hb h1
        by_cases eb : b = b0
        · subst eb
          have hi0 : i = 0 := by rw [← s1, stp, if_pos hb]
          subst hi0
          rw [p3.2.1 5 (by decide) (by decide) (by decide), w4, pk_us]
          rw [n8, Nat.zero_add] at r7
          exact congrArg nI r7.symm
        · exact hSo b hb eb h1
      · obtain ⟨r1, r2, r3, r4, r5, r6, r7⟩ := p1 hx
        intro b hb h1
        rw [r4] at h1
        exact hCo b hb h1
      · obtain ⟨r1, r2, r3, r4, r5, r6, r7⟩ := p1 hx
        intro b hb h1
        by_cases eb : b = b0
        · subst eb
          refine .inr ⟨s1, ?_⟩
          rw [r4, w3, pk_us, en]
        · exact .inl (tK b hb eb h1)
    | false =>
      have ne : ∀ b, 0 ≤ x.2.2.1 4 b → b ≠ b0 := fun b h1 e => by
        subst e; rw [(p2 hx).2] at h1; exact m1_neg h1
      refine .inr (.inr ⟨rfl, rfl, q1.trans hx, (q4 hx).1, (q4 hx).2, ⟨va_up A b0 z, (p2 hx).1, q2, ?_, ?_⟩, hFx, fun b hb h1 => tK b hb (ne b h1) h1⟩)
      · exact fun b hb h1 => hSo b hb (ne b h1) h1
      · intro b hb h1
        refine hCo b hb ?_
        rw [← (p3.2.2.2 b hb (ne b h1)).1]; exact h1
