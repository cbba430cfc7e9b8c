/-! Pure rows: both writings beside each other. -/
theorem gL_w {A : Nat → Nat} {tm : Nat → Int32} {h : Nat → Nat → Option Nat} {sp : Nat → Nat → Int32} {τ : rs_S} {i b0 p z : Nat} (hi : i < 3) (hb : b0 < 70) (hA : A b0 = z) (hL : gL A tm h sp τ) (hp : p < sN i) : gL A tm (va_up h i (va_up (h i) p (some z))) (va_up sp i (upd (sp i) p 0)) (mw_w (mw_c τ) b0 (sL i + p)) := by
  have e4 : (mw_w (mw_c τ) b0 (sL i + p)).2.1 4 = τ.2.1 4 := mw_wk _ _ _ (by decide) (by decide)
  have uq : ∀ j q, j < 3 → q < sN j → sL j + q = sL i + p → j = i ∧ q = p := by
    intro j q hj hq e
    have a := stp_of hj (Nat.le_add_right (sL j) q) (by omega)
    have b := stp_of hi (Nat.le_add_right (sL i) p) (by omega)
    rw [e] at a
    obtain rfl : j = i := a.1.symm.trans b.1
    exact ⟨rfl, by omega⟩
  refine ⟨fun b h1 h2 => ?_, fun j hj q hq => ?_, fun j hj q hq => ?_, fun b c h1 h2 h3 h4 h5 => ?_⟩
  · rw [e4] at h2 ⊢; exact hL.1 b h1 h2
  · rw [mw_w2]
    by_cases e : sL j + q = sL i + p
    · obtain ⟨rfl, rfl⟩ := uq j q hj hq e
      refine .inr ⟨b0, hb, by rw [pk_us], ?_⟩
      rw [va_up_self, va_up_self, hA]
    · rw [pk_un e]
      have eh : va_up h i (va_up (h i) p (some z)) j q = h j q := by
        by_cases ej : j = i
        · subst ej
          rw [va_up_self, va_up_ne _ _ (fun x => e (by rw [x]))]
        · rw [va_up_ne _ _ ej]
      rw [eh]
      exact hL.2.1 j hj q hq
  · rw [mw_w3]
    by_cases e : sL j + q = sL i + p
    · obtain ⟨rfl, rfl⟩ := uq j q hj hq e
      rw [pk_us, va_up_self, pk_us]
    · rw [pk_un e, hL.2.2.1 j hj q hq]
      by_cases ej : j = i
      · subst ej
        rw [va_up_self, pk_un (fun x => e (by rw [x]))]
      · rw [va_up_ne _ _ ej]
  · rw [e4] at h4 h5; exact hL.2.2.2 b c h1 h2 h3 h4 h5
theorem g_ws {A : Nat → Nat} {tm : Nat → Int32} {i b0 z kn : Nat} (hi : i < 3) (hb : b0 < 70) (hs : stp b0 = i) (hA : A b0 = z) : ∀ (e p w : Nat) (h : Nat → Nat → Option Nat) (sp : Nat → Nat → Int32) (on cut : Int32) (τ : rs_S), p + e = sN i → w ≤ kn → gO τ → 0 ≤ τ.2.1 4 b0 → gL A tm h sp τ → (∀ q, q < p → h i q ≠ none) → kn - w ≤ mf_fp τ (nI i) → τ.1 3 = cut → (cut = -1 ∨ 0 ≤ cut) →
    (so_ws tm z (sN i) kn e p w (h i) (sp i) on cut).1 = (mw_p b0 (sL i) (kn - w) τ).1 ∧ gL A tm (va_up h i (so_ws tm z (sN i) kn e p w (h i) (sp i) on cut).2.1) (va_up sp i (so_ws tm z (sN i) kn e p w (h i) (sp i) on cut).2.2.1) (mw_p b0 (sL i) (kn - w) τ).2 ∧ ((mw_p b0 (sL i) (kn - w) τ).1 = true → (so_ws tm z (sN i) kn e p w (h i) (sp i) on cut).2.2.2.1 = on ∧ (mw_p b0 (sL i) (kn - w) τ).2.1 3 = (so_ws tm z (sN i) kn e p w (h i) (sp i) on cut).2.2.2.2 ∧ ((so_ws tm z (sN i) kn e p w (h i) (sp i) on cut).2.2.2.2 = -1 ∨ 0 ≤ (so_ws tm z (sN i) kn e p w (h i) (sp i) on cut).2.2.2.2)) ∧ ((mw_p b0 (sL i) (kn - w) τ).1 = false → (so_ws tm z (sN i) kn e p w (h i) (sp i) on cut).2.2.2.1 = 0 ∧ (so_ws tm z (sN i) kn e p w (h i) (sp i) on cut).2.2.2.2 = -1) := by
  intro e
  induction e with
  | zero =>
    intro p w h sp on cut τ hpe hw hO h0 hL hf hk hc hc2
    have hz : kn - w = 0 := by
      refine Classical.byContradiction (fun hne => ?_)
      obtain ⟨d, d1, d2, _⟩ := mf_ex (σ := τ) hi (by omega)
      rcases hL.2.1 i hi d d1 with a | ⟨b, b1, b2, b3⟩
      · exact hf d (by omega) a.2
      · rw [d2] at b2; exact ow_0 b1 b2.symm
    rw [hz, mw_p, so_ws]
    refine ⟨rfl, ?_, fun _ => ⟨rfl, hc, hc2⟩, fun x => by cases x⟩
    rw [va_us rfl, va_us rfl]
    exact hL
  | succ e ih =>
    intro p w h sp on cut τ hpe hw hO h0 hL hf hk hc hc2
    by_cases hwk : w < kn
    · by_cases hn : h i p = none
      · have hp : p < sN i := by omega
        have d2 : τ.2.1 2 (sL i + p) = 0 := by
          rcases hL.2.1 i hi p hp with a | ⟨b, b1, b2, b3⟩
          · exact a.1
          · rw [hn] at b3; cases b3
        have d3 : ∀ q, q < p → τ.2.1 2 (sL i + q) ≠ 0 := by
          intro q hq x
          rcases hL.2.1 i hi q (by omega) with a | ⟨b, b1, b2, b3⟩
          · exact hf q hq a.2
          · rw [x] at b2; exact ow_0 b1 b2.symm
        have em : mw_p b0 (sL i) (kn - w) τ = if τ.1 3 = 0 then (false, mo_t τ b0) else mw_p b0 (sL i) (kn - (w + 1)) (mw_w (mw_c τ) b0 (sL i + p)) := by
          rw [show kn - w = (kn - (w + 1)) + 1 by omega, mw_p, mq_p_o hO hi hp d2 d3]
        by_cases hz : cut = 0
        · have ec : pw_c on cut = (true, 0, -1) := by
            rw [pw_c, if_neg (by rw [hz]; decide), if_neg (by rw [hz]; decide)]
          have es : so_ws tm z (sN i) kn (e + 1) p w (h i) (sp i) on cut = (false, so_t tm (tm z) (sN i) (h i), sp i, 0, -1) := by
            rw [so_ws, if_pos hwk, if_pos hn, ec, if_pos rfl]
          rw [em, if_pos (hc.trans hz), es]
          refine ⟨rfl, ?_, (fun x => by cases x), fun _ => ⟨rfl, rfl⟩⟩
          have et := hL.1 b0 hb h0
          rw [hA] at et
          show gL A tm (va_up h i (so_t tm (tm z) (sN i) (h i))) (va_up sp i (sp i)) (mo_t τ b0)
          rw [va_us rfl, et]
          exact gL_out hO hL hi hb hs h0
        · have hcc : ∃ c', pw_c on cut = (false, on, c') ∧ (if τ.1 3 ≤ 0 then τ.1 3 else τ.1 3 - 1) = c' ∧ (c' = -1 ∨ 0 ≤ c') := by
            rcases hc2 with hc2 | hc2
            · refine ⟨-1, by rw [pw_c, if_pos hc2, hc2], by rw [hc, hc2, if_pos (by decide)], .inl rfl⟩
            · have hpos : 0 < cut := by
                rw [Int32.lt_iff_toInt_lt, tI0]
                rw [Int32.le_iff_toInt_le, tI0] at hc2
                have : cut.toInt ≠ 0 := fun x => hz (Int32.toInt_inj.mp x)
                omega
              refine ⟨cut - 1, ?_, ?_, .inr ?_⟩
              · rw [pw_c, if_neg (fun x => by rw [x] at hc2; exact m1_neg hc2), if_pos hpos]
              · rw [hc, if_neg (Int32.not_le.mpr hpos)]
              · obtain ⟨j, j1, rfl⟩ := nI_of (Int32.not_lt.mpr hc2)
                have : 0 < j := by
                  refine Classical.byContradiction (fun x => hz ?_)
                  rw [show j = 0 by omega]; rfl
                have e1 : nI j - 1 = nI (j - 1) := by
                  have := nI_1 (j - 1)
                  rw [show j - 1 + 1 = j by omega] at this
                  rw [← this, Int32.add_sub_cancel]
                rw [e1]
                exact nI_pos' (by omega)
          obtain ⟨c', c1, c2, c3⟩ := hcc
          have es : so_ws tm z (sN i) kn (e + 1) p w (h i) (sp i) on cut = so_ws tm z (sN i) kn e (p + 1) (w + 1) (va_up (h i) p (some z)) (upd (sp i) p 0) on c' := by
            rw [so_ws, if_pos hwk, if_pos hn, c1, if_neg (fun x => by cases x)]
          rw [em, if_neg (fun x => hz (hc.symm.trans x)), es]
          obtain ⟨s1, s2⟩ := stp_of hi (Nat.le_add_right (sL i) p) (by omega)
          have hfp : mf_fp τ (nI i) = mf_fp (mw_w (mw_c τ) b0 (sL i + p)) (nI i) + 1 := by
            have := mw_fp (τ := mw_c τ) (st := nI i) (b0 := b0) (p := sL i + p) (by omega) (by rw [sL_lo hi]; omega) (by rw [sL_hi hi]; omega) d2
            exact this
          have e4 : (mw_w (mw_c τ) b0 (sL i + p)).2.1 4 = τ.2.1 4 := mw_wk _ _ _ (by decide) (by decide)
          have k := ih (p + 1) (w + 1) (va_up h i (va_up (h i) p (some z))) (va_up sp i (upd (sp i) p 0)) on c' (mw_w (mw_c τ) b0 (sL i + p)) (by omega) (by omega) (gO_w hO hb h0 (by rw [hs, s1])) (by rw [e4]; exact h0) (gL_w hi hb hA hL hp) (fun q hq => by
            rw [va_up_self]
            by_cases x : q = p
            · subst x; rw [va_up_self]; exact fun y => by cases y
            · rw [va_up_ne _ _ x]; exact hf q (by omega)) (by omega) (by rw [mw_w1, va_up_self]; exact c2) c3
          rw [va_up_self, va_up_self, va_uu, va_uu] at k
          exact k
      · have es : so_ws tm z (sN i) kn (e + 1) p w (h i) (sp i) on cut = so_ws tm z (sN i) kn e (p + 1) w (h i) (sp i) on cut := by
          rw [so_ws, if_pos hwk, if_neg hn]
        rw [es]
        exact ih (p + 1) w h sp on cut τ (by omega) hw hO h0 hL (fun q hq => by
          by_cases x : q = p
          · subst x; exact hn
          · exact hf q (by omega)) hk hc hc2
    · have es : so_ws tm z (sN i) kn (e + 1) p w (h i) (sp i) on cut = (true, h i, sp i, on, cut) := by
        rw [so_ws, if_neg hwk]
      rw [es, show kn - w = 0 by omega, mw_p]
      refine ⟨rfl, ?_, fun _ => ⟨rfl, hc, hc2⟩, fun x => by cases x⟩
      show gL A tm (va_up h i (h i)) (va_up sp i (sp i)) τ
      rw [va_us rfl, va_us rfl]
      exact hL
