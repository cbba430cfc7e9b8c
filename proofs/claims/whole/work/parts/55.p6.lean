/-! Pure rows: writing the pages. -/
theorem g_slot {σ : rs_S} {i : Nat} (hJ : gJ σ) (hi : i < 3) (hf : 1 ≤ mf_fp σ (nI i)) : ∃ b, sL i ≤ b ∧ b < sL i + sN i ∧ σ.2.1 4 b < 0 := by
  refine Classical.byContradiction (fun hc => ?_)
  have ha : ∀ b, sL i ≤ b → b < sL i + sN i → 0 ≤ σ.2.1 4 b := fun b b1 b2 => Int32.not_lt.mp (fun e => hc ⟨b, b1, b2, e⟩)
  have h1 : sm (fun _ => 1) (sL i) (sN i) ≤ sm (fun b => sm (fun p => if σ.2.1 2 p = nI (b + 1) then 1 else 0) (sL i) (sN i)) (sL i) (sN i) := by
    refine sm_le _ (fun b b1 b2 => ?_)
    obtain ⟨s1, s2⟩ := stp_of hi b1 b2
    obtain ⟨p, p1, p2⟩ := hJ.2.2 b s2 (ha b b1 b2)
    rcases hJ.1 p p1 with c | ⟨c, c1, c2, c3, c4⟩
    · rw [p2] at c; exact absurd c (ow_0 s2)
    · obtain rfl : b = c := ow_i s2 c1 (by rw [← p2, ← c3])
      have hp := stp_in p1
      rw [← c2, s1] at hp
      have := sm_dl (f := fun p => if σ.2.1 2 p = nI (b + 1) then 1 else 0) (lo := sL i) (sN i) p hp.1 hp.2
      rw [if_pos p2] at this
      exact this
  rw [sm_sw] at h1
  have h2 : sm (fun p => sm (fun b => if σ.2.1 2 p = nI (b + 1) then 1 else 0) (sL i) (sN i)) (sL i) (sN i) ≤ sm (fun p => if σ.2.1 2 p = 0 then 0 else 1) (sL i) (sN i) := by
    refine sm_le _ (fun p p1 p2 => ?_)
    obtain ⟨s1, s2⟩ := stp_of hi p1 p2
    rcases hJ.1 p s2 with c | ⟨c, c1, c2, c3, c4⟩
    · rw [if_pos c]
      refine Nat.le_of_eq (sm_0 _ (fun b b1 b2 => ?_))
      rw [c, if_neg (fun e => ow_0 (stp_of hi b1 b2).2 e.symm)]
    · rw [c3, if_neg (ow_0 c1)]
      have hb := stp_in c1
      rw [c2, s1] at hb
      rw [sm_1 (q := c) _ hb.1 hb.2, if_pos rfl]
      · exact Nat.le_refl _
      · intro d d1 d2 d3
        rw [if_neg (fun e => d3 (ow_i c1 (stp_of hi d1 d2).2 e).symm)]
  have h3 : mf_fp σ (nI i) = sm (fun p => if σ.2.1 2 p = 0 then 1 else 0) (sL i) (sN i) := by
    rw [mf_ct, sL_n hi, sL_lo hi, ct_sm]
    refine sm_c _ (fun p _ _ => ?_)
    by_cases e : σ.2.1 2 p = 0
    · rw [if_pos e, if_pos (decide_eq_true e)]
    · rw [if_neg e, if_neg (fun x => e (of_decide_eq_true x))]
  have h4 : sm (fun p => (if σ.2.1 2 p = 0 then 0 else 1) + (if σ.2.1 2 p = 0 then 1 else 0)) (sL i) (sN i) = sm (fun _ => 1) (sL i) (sN i) := sm_c _ (fun p _ _ => by split <;> rfl)
  rw [sm_add] at h4
  omega
theorem mq_p_e (σ : rs_S) : ∀ (f lo d : Nat), d < f → (∀ q, lo ≤ q → q < lo + d → ¬ σ.2.1 2 q ≤ 0) → σ.2.1 2 (lo + d) ≤ 0 → mq_p σ f lo = lo + d := by
  intro f
  induction f with
  | zero => intro lo d h; omega
  | succ f ih =>
    intro lo d h1 h2 h3
    rw [mq_p]
    by_cases e : d = 0
    · subst e
      rw [Nat.add_zero] at h3
      rw [if_pos h3]
      rfl
    · rw [if_neg (h2 lo (Nat.le_refl _) (by omega)), ih (lo + 1) (d - 1) (by omega) (fun q q1 q2 => h2 q (by omega) (by omega)) (by rw [show lo + 1 + (d - 1) = lo + d by omega]; exact h3)]
      omega
theorem nI_pos2 {b : Nat} (hb : b < 70) : ¬ nI (b + 1) ≤ 0 := by
  have := nI_ge (a := 0) (b := b + 1) (by omega) (by omega)
  exact this
/- one page written -/
theorem mw_w2 (σ : rs_S) (b0 p : Nat) : (mw_w (mw_c σ) b0 p).2.1 2 = upd (σ.2.1 2) p (nI (b0 + 1)) := by rw [mw_w, rs_an _ _ (by decide), rs_av]; rfl
theorem mw_w3 (σ : rs_S) (b0 p : Nat) : (mw_w (mw_c σ) b0 p).2.1 3 = upd (σ.2.1 3) p 0 := by rw [mw_w, rs_av]; rfl
theorem mw_wk (σ : rs_S) (b0 p : Nat) {k : Nat} (h2 : k ≠ 2) (h3 : k ≠ 3) : (mw_w (mw_c σ) b0 p).2.1 k = σ.2.1 k := by rw [mw_w, rs_an _ _ h3, rs_an _ _ h2]; rfl
theorem mw_w1 (σ : rs_S) (b0 p : Nat) : (mw_w (mw_c σ) b0 p).1 = va_up σ.1 3 (if σ.1 3 ≤ 0 then σ.1 3 else σ.1 3 - 1) := rfl
theorem mw_wx (σ : rs_S) (b0 p : Nat) : (mw_w (mw_c σ) b0 p).2.2 = σ.2.2 := rfl
theorem gO_w {σ : rs_S} {b0 p : Nat} (hO : gO σ) (hb : b0 < 70) (h0 : 0 ≤ σ.2.1 4 b0) (hs : stp b0 = stp p) : gO (mw_w (mw_c σ) b0 p) := by
  intro q hq
  rw [mw_w2, mw_wk _ _ _ (by decide) (by decide)]
  by_cases e : q = p
  · subst e; rw [pk_us]; exact .inr ⟨b0, hb, hs, rfl, h0⟩
  · rw [pk_un e]; exact hO q hq
theorem gX_w {σ : rs_S} {b0 p : Nat} (hX : gX b0 σ) (h0 : σ.2.1 2 p = 0) : gX b0 (mw_w (mw_c σ) b0 p) := by
  intro b hb hc hx
  rw [mw_wk _ _ _ (by decide) (by decide)] at hx
  obtain ⟨q, q1, q2⟩ := hX b hb hc hx
  refine ⟨q, q1, ?_⟩
  rw [mw_w2, pk_un (fun e => by subst e; rw [h0] at q2; exact ow_0 hb q2.symm)]
  exact q2
theorem gN_w {σ : rs_S} {b0 p : Nat} (hN : gN σ) : gN (mw_w (mw_c σ) b0 p) := by
  intro b hb
  rw [mw_wk _ _ _ (by decide) (by decide)]
  exact hN b hb
theorem mf_ex {σ : rs_S} {i : Nat} (hi : i < 3) (hf : 1 ≤ mf_fp σ (nI i)) : ∃ d, d < sN i ∧ σ.2.1 2 (sL i + d) = 0 ∧ ∀ e, e < d → σ.2.1 2 (sL i + e) ≠ 0 := by
  rw [mf_ct, sL_n hi, sL_lo hi, ct_sm] at hf
  obtain ⟨p, p1, p2, p3⟩ := sm_ex _ hf
  have hp : σ.2.1 2 p = 0 := by
    refine Classical.byContradiction (fun e => ?_)
    rw [if_neg (fun x => e (of_decide_eq_true x))] at p3
    exact absurd p3 (by omega)
  obtain ⟨d, d1, d2⟩ := pk_least (fun d => σ.2.1 2 (sL i + d) = 0) ⟨p - sL i, by rw [show sL i + (p - sL i) = p by omega]; exact hp⟩
  refine ⟨d, ?_, d1, d2⟩
  refine Classical.byContradiction (fun e => d2 (p - sL i) (by omega) ?_)
  rw [show sL i + (p - sL i) = p by omega]; exact hp
theorem mq_p_o {σ : rs_S} {i d : Nat} (hO : gO σ) (hi : i < 3) (hd : d < sN i) (h0 : σ.2.1 2 (sL i + d) = 0) (hn : ∀ e, e < d → σ.2.1 2 (sL i + e) ≠ 0) : mq_p (mw_c σ) 70 (sL i) = sL i + d := by
  have h70 := sN_70 hi
  refine mq_p_e (mw_c σ) 70 (sL i) d (by omega) (fun q q1 q2 => ?_) ?_
  · show ¬ σ.2.1 2 q ≤ 0
    have e := hn (q - sL i) (by omega)
    rw [show sL i + (q - sL i) = q by omega] at e
    rcases hO q (by omega) with c | ⟨c, c1, c2, c3, c4⟩
    · exact absurd c e
    · rw [c3]; exact nI_pos2 c1
  · show σ.2.1 2 (sL i + d) ≤ 0
    rw [h0]; exact Int32.le_refl _
/- what the writing keeps -/
def gM (b0 : Nat) (σ τ : rs_S) : Prop := (∀ j, j ≠ 3 → τ.1 j = σ.1 j) ∧ (∀ k, k ≠ 2 → k ≠ 3 → k ≠ 4 → τ.2.1 k = σ.2.1 k) ∧ τ.2.2 = σ.2.2 ∧ (∀ b, b < 70 → b ≠ b0 → τ.2.1 4 b = σ.2.1 4 b ∧ ∀ p, (τ.2.1 2 p = nI (b + 1) ↔ σ.2.1 2 p = nI (b + 1)))
theorem gM_r (b0 : Nat) (σ : rs_S) : gM b0 σ σ := ⟨fun _ _ => rfl, fun _ _ _ _ => rfl, rfl, fun _ _ _ => ⟨rfl, fun _ => Iff.rfl⟩⟩
theorem gM_t {b0 : Nat} {σ τ υ : rs_S} (a : gM b0 σ τ) (b : gM b0 τ υ) : gM b0 σ υ := by
  refine ⟨fun j hj => (b.1 j hj).trans (a.1 j hj), fun k k1 k2 k3 => (b.2.1 k k1 k2 k3).trans (a.2.1 k k1 k2 k3), b.2.2.1.trans a.2.2.1, fun c hc h0 => ?_⟩
  obtain ⟨e1, e2⟩ := b.2.2.2 c hc h0
  obtain ⟨e3, e4⟩ := a.2.2.2 c hc h0
  exact ⟨e1.trans e3, fun p => (e2 p).trans (e4 p)⟩
theorem gM_w {σ : rs_S} {b0 p : Nat} (hb : b0 < 70) (h0 : σ.2.1 2 p = 0) : gM b0 σ (mw_w (mw_c σ) b0 p) := by
  refine ⟨fun j hj => ?_, fun k k1 k2 _ => mw_wk _ _ _ k1 k2, rfl, fun b h1 h2 => ⟨by rw [mw_wk _ _ _ (by decide) (by decide)], fun q => ?_⟩⟩
  · rw [mw_w1, va_up_ne _ _ hj]
  · rw [mw_w2]
    by_cases e : q = p
    · subst e; rw [pk_us, h0]
      exact ⟨fun y => absurd (ow_i hb h1 y).symm h2, fun y => absurd y.symm (ow_0 h1)⟩
    · rw [pk_un e]
theorem gM_o {σ : rs_S} {b0 : Nat} (hb : b0 < 70) : gM b0 σ (mo_t σ b0) := by
  refine ⟨fun j _ => by rw [mo_1], fun k k1 _ k3 => mo_k σ b0 k1 k3, mo_x σ b0, fun b h1 h2 => ⟨by rw [mo_t4, pk_un h2], fun q => ?_⟩⟩
  rw [mo_2]
  by_cases x : q < 70 ∧ σ.2.1 2 q = nI (b0 + 1)
  · rw [if_pos x, x.2]
    exact ⟨fun y => absurd y.symm (ow_0 h1), fun y => absurd (ow_i hb h1 y).symm h2⟩
  · rw [if_neg x]
/- the reference alone -/
theorem g_wp {i b0 : Nat} (hi : i < 3) (hb : b0 < 70) (hs : stp b0 = i) : ∀ (n : Nat) (τ : rs_S), gO τ → gN τ → gX b0 τ → 0 ≤ τ.2.1 4 b0 → n ≤ mf_fp τ (nI i) → ((mw_p b0 (sL i) n τ).1 = true → gO (mw_p b0 (sL i) n τ).2 ∧ gN (mw_p b0 (sL i) n τ).2 ∧ gX b0 (mw_p b0 (sL i) n τ).2 ∧ (mw_p b0 (sL i) n τ).2.2.1 4 = τ.2.1 4 ∧ (∀ p, τ.2.1 2 p = nI (b0 + 1) → (mw_p b0 (sL i) n τ).2.2.1 2 p = nI (b0 + 1)) ∧ (1 ≤ n → ∃ p, p < 70 ∧ (mw_p b0 (sL i) n τ).2.2.1 2 p = nI (b0 + 1)) ∧ sm (fun p => if (mw_p b0 (sL i) n τ).2.2.1 2 p = nI (b0 + 1) then 1 else 0) (sL i) (sN i) = sm (fun p => if τ.2.1 2 p = nI (b0 + 1) then 1 else 0) (sL i) (sN i) + n) ∧ ((mw_p b0 (sL i) n τ).1 = false → gJ (mw_p b0 (sL i) n τ).2 ∧ (mw_p b0 (sL i) n τ).2.2.1 4 b0 = -1) ∧ gM b0 τ (mw_p b0 (sL i) n τ).2 := by
  intro n
  induction n with
  | zero =>
    intro τ hO hN hX h0 _
    rw [mw_p]
    exact ⟨fun _ => ⟨hO, hN, hX, rfl, fun _ h => h, fun h => absurd h (by omega), rfl⟩, (fun h => by cases h), gM_r b0 τ⟩
  | succ n ih =>
    intro τ hO hN hX h0 hf
    rw [mw_p]
    by_cases hc : τ.1 3 = 0
    · rw [if_pos hc]
      exact ⟨(fun h => by cases h), fun _ => ⟨gJ_out hO hN hX hb, by show (mo_t τ b0).2.1 4 b0 = -1; rw [mo_t4, pk_us]⟩, gM_o hb⟩
    · rw [if_neg hc]
      obtain ⟨d, d1, d2, d3⟩ := mf_ex (σ := τ) hi (by omega)
      rw [mq_p_o hO hi d1 d2 d3]
      obtain ⟨s1, s2⟩ := stp_of hi (Nat.le_add_right (sL i) d) (by omega)
      have e4 : (mw_w (mw_c τ) b0 (sL i + d)).2.1 4 = τ.2.1 4 := mw_wk _ _ _ (by decide) (by decide)
      have hfp : mf_fp τ (nI i) = mf_fp (mw_w (mw_c τ) b0 (sL i + d)) (nI i) + 1 := by
        have := mw_fp (τ := mw_c τ) (st := nI i) (b0 := b0) (p := sL i + d) (by omega) (by rw [sL_lo hi]; omega) (by rw [sL_hi hi]; omega) d2
        exact this
      have k := ih (mw_w (mw_c τ) b0 (sL i + d)) (gO_w hO hb h0 (by rw [hs, s1])) (gN_w hN) (gX_w hX d2) (by rw [e4]; exact h0) (by omega)
      have hM := gM_t (gM_w (p := sL i + d) hb d2) k.2.2
      refine ⟨fun hr => ?_, k.2.1, hM⟩
      obtain ⟨k1, k2, k3, k4, k5, _, k6⟩ := k.1 hr
      refine ⟨k1, k2, k3, k4.trans e4, fun p hp => k5 p ?_, fun _ => ⟨sL i + d, s2, k5 _ (by rw [mw_w2, pk_us])⟩, ?_⟩
      · rw [mw_w2]
        by_cases e : p = sL i + d
        · subst e; rw [pk_us]
        · rw [pk_un e]; exact hp
      · rw [k6, mw_w2]
        have : sm (fun p => if upd (τ.2.1 2) (sL i + d) (nI (b0 + 1)) p = nI (b0 + 1) then 1 else 0) (sL i) (sN i) = sm (fun p => (if τ.2.1 2 p = nI (b0 + 1) then 1 else 0) + (if p = sL i + d then 1 else 0)) (sL i) (sN i) := by
          refine sm_c _ (fun p _ _ => ?_)
          by_cases e : p = sL i + d
          · subst e; rw [pk_us, if_pos rfl, if_pos rfl, d2, if_neg (fun x => ow_0 hb x.symm)]
          · rw [pk_un e, if_neg (c := p = sL i + d) e]
            rfl
        rw [this, sm_add, sm_1 (f := fun p => if p = sL i + d then 1 else 0) (q := sL i + d) _ (by omega) (by omega) (fun p _ _ e => if_neg e), if_pos rfl]
        omega
