/-! Pure rows: second, with power. -/
section Calls6
variable {uw : Nat} {fo : Option Nat} {ca : Nat} {co : Int32} {lo : Nat} {lc : Int32} {kn : Option Nat} {on cut : Int32} {u f g fl : Nat → Int32} {h : Nat → Nat → Option Nat} {sp : Nat → Nat → Int32} {β : Nat → bd_T} {ρ : Nat → Nat → Int32} {D P : Nat → Prop} {σ : rs_S} {sz : Nat}
theorem b1_tm (fo : Option Nat) (β : Nat → bd_T) (ρ : Nat → Nat → Int32) (uw : Nat) (co : Int32) (z : Nat) : d_tm (k2_b fo β ρ uw co) z = d_tm β z := by
  unfold d_tm
  by_cases e : z = uw
  · rw [e, show k2_b fo β ρ uw co uw = bd_cl (β uw) co (ka_cl β ρ uw (ka_fm fo β uw)).1 (ka_cl β ρ uw (ka_fm fo β uw)).2 from va_up_self _ _ _, cl_tm]
  · rw [show k2_b fo β ρ uw co z = β z from va_up_ne _ _ e]
theorem b1_po (fo : Option Nat) (β : Nat → bd_T) (ρ : Nat → Nat → Int32) (uw : Nat) (co : Int32) (z : Nat) : d_po (k2_b fo β ρ uw co) z = d_po β z := by
  unfold d_po
  by_cases e : z = uw
  · rw [e, show k2_b fo β ρ uw co uw = bd_cl (β uw) co (ka_cl β ρ uw (ka_fm fo β uw)).1 (ka_cl β ρ uw (ka_fm fo β uw)).2 from va_up_self _ _ _]
    rfl
  · rw [show k2_b fo β ρ uw co z = β z from va_up_ne _ _ e]
theorem R_secondA (hC : Cp sz uw fo ca lo kn on h β D P) (hR : RR uw fo ca co lo lc kn on cut u f g fl h sp β ρ σ) (h1 : on = 1) {c : Bool} (hcan : mp_can σ ↔ c = true) : gI (k2_b fo β ρ uw co) ρ (sc_p σ c).2 3 (kw_s u f g fl (k2_b fo β ρ uw co) uw 3 0 (0, h, sp, on, cut)) (fo_f (sc_f (d_sn β uw) (sc_p σ c).1) 0 3 (0, true, (sc_p σ c).2)) := by
  obtain ⟨⟨A, hg⟩, a2, a3, a4, a5, a6, a7⟩ := id hR
  obtain ⟨c1, c2, c3, c4, c5, c6, c7, c8, c9, c10⟩ := id a6
  obtain ⟨p1, p2, p3, p4, p5, p6⟩ := g_cls a3 a4 c1 (fun z hz => hC.2.2.2.2.2.2.1 z (hC.2.2.2.1 z hz)) hcan
  have e1 : (sc_p σ c).2.1 1 = σ.1 1 := p3 1 (by decide)
  refine g_all (σ := (sc_p σ c).2) p1 ?_ ?_ ?_ ?_ ?_ 3 0 _ _ (by decide) ⟨gF_r _, ⟨A, ?_⟩, fun b hb h0 => ?_, .inl ⟨h1, rfl, rfl, ?_, c5⟩⟩
  · rw [b1_tm, e1, c1]
  · rw [e1]; exact R_nw hR
  · rw [p4 1 (by decide)]; exact c6
  · intro t
    rw [p4 17 (by decide), p4 18 (by decide), p4 19 (by decide)]
    exact fz_cg c7 c8 c9
  · intro i hi τ hF
    exact g_pg hi a3 (p4 9 (by decide)) (p4 11 (by decide)) p5 hF p2
  · have zs : zS σ (sc_p σ c).2 := ⟨fun k k1 k2 => p4 k (by omega), fun k b hb hk => by
      by_cases e : k = 12
      · rw [e]; exact p6 b (by omega)
      · rw [p4 k e], fun j _ => ⟨by rw [p4 10 (by decide)], by rw [p4 13 (by decide)]⟩, fun j _ => ⟨by rw [p4 7 (by decide)], by rw [p5]⟩⟩
    refine zS_R zs (gR_b (β := β) (ρ := ρ) hg (fun b hb h0 => ⟨?_, fun _ _ => rfl⟩))
    exact va_up_ne _ _ (hC.2.2.2.2.2.2.1 _ (gA_D hg hC.1 hb h0))
  · have h0' : 0 ≤ (sc_p σ c).2.2.1 4 b := h0
    show (sc_p σ c).2.2.1 4 b < _ ∨ _
    rw [p4 4 (by decide)] at h0' ⊢
    rw [e1]
    exact .inl (a2 b hb h0')
  · show (sc_p σ c).2.1 3 = cut
    rw [p3 3 (by decide)]; exact c4
/- what is left of the hand, and the other zones -/
theorem R_secondB (hC : Cp sz uw fo ca lo kn on h β D P) (hR : RR uw fo ca co lo lc kn on cut u f g fl h sp β ρ σ) (h1 : on = 1) {c : Bool} (hcan : mp_can σ ↔ c = true) {t : Int32} (ht1 : ¬ t ≤ d_tm β uw) (ht2 : t ≤ 9999) : (ms_second σ (d_sn β uw) c t).2.1 0 = 0 ∧
    ((kw_s u f g fl (k2_b fo β ρ uw co) uw 3 0 (0, h, sp, on, cut)).2.2.2.1 = 0 → (ms_second σ (d_sn β uw) c t).1 = -1 ∧ ∀ (z0 : Nat) (ρ' : Nat → Nat → Int32) (ca' : Nat), (∀ p, P p → ρ' p = ρ p) → (∀ z, D z ∨ z = uw → z ≠ z0) → (∀ i, i < 3 → ∀ p, p < sN i → ∀ z, (kw_s u f g fl (k2_b fo β ρ uw co) uw 3 0 (0, h, sp, on, cut)).2.1 i p = some z → D z ∨ z = uw) → ρ' ca' = (fun _ => 0) → RR z0 none ca' 0 lo lc kn 0 (kw_s u f g fl (k2_b fo β ρ uw co) uw 3 0 (0, h, sp, on, cut)).2.2.2.2 u f g fl (kw_s u f g fl (k2_b fo β ρ uw co) uw 3 0 (0, h, sp, on, cut)).2.1 (kw_s u f g fl (k2_b fo β ρ uw co) uw 3 0 (0, h, sp, on, cut)).2.2.1 (va_up (k2_b fo β ρ uw co) z0 (bd_0 t)) ρ' (ms_second σ (d_sn β uw) c t).2) ∧
    ((kw_s u f g fl (k2_b fo β ρ uw co) uw 3 0 (0, h, sp, on, cut)).2.2.2.1 ≠ 0 → (ms_second σ (d_sn β uw) c t).1 = nI (kw_s u f g fl (k2_b fo β ρ uw co) uw 3 0 (0, h, sp, on, cut)).1 ∧ ∀ (z0 : Nat) (ρ' : Nat → Nat → Int32), (∀ p, P p → ρ' p = ρ p) → (∀ z, D z ∨ z = uw → z ≠ z0) → (∀ i, i < 3 → ∀ p, p < sN i → ∀ z, (kw_s u f g fl (k2_b fo β ρ uw co) uw 3 0 (0, h, sp, on, cut)).2.1 i p = some z → D z ∨ z = uw) → RR z0 (k2_f fo β uw) ca co lo lc kn (kw_s u f g fl (k2_b fo β ρ uw co) uw 3 0 (0, h, sp, on, cut)).2.2.2.1 (kw_s u f g fl (k2_b fo β ρ uw co) uw 3 0 (0, h, sp, on, cut)).2.2.2.2 u f g fl (kw_s u f g fl (k2_b fo β ρ uw co) uw 3 0 (0, h, sp, on, cut)).2.1 (kw_s u f g fl (k2_b fo β ρ uw co) uw 3 0 (0, h, sp, on, cut)).2.2.1 (va_up (k2_b fo β ρ uw co) z0 (bd_0 t)) ρ' (ms_second σ (d_sn β uw) c t).2) := by
  have hI := R_secondA hC hR h1 hcan
  obtain ⟨⟨A0, hg⟩, a2, a3, a4, a5, a6, a7⟩ := id hR
  obtain ⟨c1, c2, c3, c4, c5, c6, c7, c8, c9, c10⟩ := id a6
  obtain ⟨p1, p2, p3, p4, p5, p6⟩ := g_cls a3 a4 c1 (fun z hz => hC.2.2.2.2.2.2.1 z (hC.2.2.2.1 z hz)) hcan
  have hm : ms_second σ (d_sn β uw) c t = sc_e (fo_f (sc_f (d_sn β uw) (sc_p σ c).1) 0 3 (0, true, (sc_p σ c).2)) t := by
    rw [ms_second, if_neg (R_n1 hR h1), if_neg]
    rw [← R_now hR]
    rintro (e | e)
    · exact ht1 e
    · exact absurd ht2 (Int32.not_le.mpr e)
  have p0 : (sc_p σ c).2.1 0 = 0 := by
    rw [sc_p]
    split
    · rfl
    · rw [mp_code]
      split <;> rfl
  rw [hm]
  generalize kw_s u f g fl (k2_b fo β ρ uw co) uw 3 0 (0, h, sp, on, cut) = st at hI
  generalize fo_f (sc_f (d_sn β uw) (sc_p σ c).1) 0 3 (0, true, (sc_p σ c).2) = x at hI
  obtain ⟨hF, ⟨A, hg2⟩, hB, hP⟩ := hI
  have n1 : ∀ j, j ≠ 3 → j ≠ 0 → x.2.2.1 j = σ.1 j := fun j h3 h0 => (hF.1 j h3).trans (p3 j h0)
  have n0 : x.2.2.1 0 = 0 := (hF.1 0 (by decide)).trans p0
  have k70 : ∀ k, (k = 6 ∨ k = 11 ∨ k = 14) → ∀ j, 70 ≤ j → x.2.2.2.1 k j = σ.2.1 k j := fun k hk j hj => (hF.2.2.1 k j hj (by omega)).trans (by rw [p4 k (by omega)])
  have k0 : ∀ k, (k < 2 ∨ 14 < k) → x.2.2.2.1 k = σ.2.1 k := fun k hk => (hF.2.1 k hk).trans (p4 k (by omega))
  have k560 : ∀ j, 560 ≤ j → x.2.2.2.1 13 j = σ.2.1 13 j ∧ x.2.2.2.1 10 j = σ.2.1 10 j := fun j hj => ⟨(hF.2.2.2.1 j hj).1.trans (by rw [p4 13 (by decide)]), (hF.2.2.2.1 j hj).2.trans (by rw [p4 10 (by decide)])⟩
  have k280 : ∀ j, 280 ≤ j → x.2.2.2.1 7 j = σ.2.1 7 j ∧ x.2.2.2.2 j = σ.2.2 j := fun j hj => ⟨(hF.2.2.2.2.1 j hj).1.trans (by rw [p4 7 (by decide)]), (hF.2.2.2.2.1 j hj).2.trans (by rw [p5])⟩
  have hW : gW1 x.2.2 := hF.2.2.2.2.2.2 (by unfold gW1; rw [p4 9 (by decide), p4 11 (by decide), p4 6 (by decide)]; exact a5)
  have nt : ∃ nw, nw ≤ 9999 ∧ t = nI nw := by
    obtain ⟨nw, w1, w2⟩ := c2
    have hge : ¬ t < 0 := by
      intro e
      refine ht1 (Int32.le_of_lt (Int32.lt_of_lt_of_le e ?_))
      rw [w2]; exact nI_pos' (by omega)
    exact nI_of2 (M := 9999) (n := 9999) (by decide) hge ht2
  have hlt : d_tm β uw < t := Int32.not_le.mp ht1
  have hB2 : ∀ b, b < 70 → 0 ≤ x.2.2.2.1 4 b → x.2.2.2.1 4 b < t := by
    intro b hb h0
    have e1 : (sc_p σ c).2.1 1 = d_tm β uw := (p3 1 (by decide)).trans c1
    rcases hB b hb h0 with e | ⟨_, e⟩
    · rw [e1] at e; exact Int32.lt_trans e hlt
    · rw [e, e1]; exact hlt
  have hbd : ∀ (z0 : Nat) (ρ' : Nat → Nat → Int32), (∀ p, P p → ρ' p = ρ p) → (∀ z, D z ∨ z = uw → z ≠ z0) → (∀ i, i < 3 → ∀ p, p < sN i → ∀ z, st.2.1 i p = some z → D z ∨ z = uw) → gR A (va_up (k2_b fo β ρ uw co) z0 (bd_0 t)) ρ' st.2.1 st.2.2.1 x.2.2 ∧ gLo lo lc kn (va_up (k2_b fo β ρ uw co) z0 (bd_0 t)) ρ' σ := by
    intro z0 ρ' e1 e2 e3
    refine ⟨gR_b hg2 (fun b hb h0 => ?_), gLo_b a7 ?_ (fun p hp => e1 p (hC.2.2.2.2.1 p hp).1)⟩
    · have hd := gA_D hg2 e3 hb h0
      refine ⟨va_up_ne _ _ (e2 _ hd), fun pa hp => e1 pa ?_⟩
      rw [b1_po] at hp
      exact (hC.2.2.2.2.2.1 _ hd pa hp).1
    · rw [va_up_ne _ _ (e2 lo (.inl hC.2.2.1))]
      exact va_up_ne _ _ (hC.2.2.2.2.2.2.1 lo hC.2.2.1)
  have dz : ∀ (z0 : Nat), d_tm (va_up (k2_b fo β ρ uw co) z0 (bd_0 t)) z0 = t ∧ d_sn (va_up (k2_b fo β ρ uw co) z0 (bd_0 t)) z0 = 0 ∧ (∀ k, d_sd (va_up (k2_b fo β ρ uw co) z0 (bd_0 t)) z0 k = 0) ∧ (∀ k, d_he (va_up (k2_b fo β ρ uw co) z0 (bd_0 t)) z0 k = 0) ∧ d_po (va_up (k2_b fo β ρ uw co) z0 (bd_0 t)) z0 = none ∧ d_ba (va_up (k2_b fo β ρ uw co) z0 (bd_0 t)) z0 = -1 ∧ d_sb (va_up (k2_b fo β ρ uw co) z0 (bd_0 t)) z0 = 0 := by
    intro z0
    have e : va_up (k2_b fo β ρ uw co) z0 (bd_0 t) z0 = bd_0 t := va_up_self _ _ _
    unfold d_tm d_sn d_sd d_he d_po d_ba d_sb
    rw [e]
    exact ⟨rfl, rfl, fun _ => rfl, fun _ => rfl, rfl, rfl, rfl⟩
  generalize hx : x.2.2 = τ at *
  -- the clearing of the hand
  have clr : ∀ (ω : rs_S) (z0 : Nat) (ρ' : Nat → Nat → Int32) (co' : Int32), ω.2.1 6 70 = 0 → (∀ k, k < 8 → ω.2.1 10 (560 + k) = 0) → ω.2.1 11 70 = 0 → (∀ c, c < 2 → ω.2.1 9 (140 + c) = 0) → ω.2.1 14 70 = co' → gH (va_up (k2_b fo β ρ uw co) z0 (bd_0 t)) ρ' z0 co' ω := by
    intro ω z0 ρ' co' m6 m10 m11 m9 e14
    obtain ⟨d1, d2, d3, d4, d5, d6, d7⟩ := dz z0
    unfold gH
    rw [d2, d5, d6, d7]
    exact ⟨m6, by decide, (fun q hq => absurd hq (by omega)), (fun k hk => by rw [m10 k hk, d3]), m11, (fun pa hp => by cases hp), e14, (fun c hc => by rw [m9 c hc, d4]), rfl, rfl⟩
  have cz : ∀ (υ ω : rs_S), mcS υ ω → ω.2.1 6 70 = 0 ∧ (∀ k, k < 8 → ω.2.1 10 (560 + k) = 0) ∧ ω.2.1 11 70 = 0 ∧ (∀ c, c < 2 → ω.2.1 9 (140 + c) = 0) := by
    intro υ ω m
    obtain ⟨m1, m2, m3, m4, m5, m6, m7⟩ := m
    refine ⟨by rw [m3, pk_us], fun k hk => by rw [m6, if_pos ⟨by omega, by omega⟩], by rw [m4, pk_us], fun c hc => ?_⟩
    rw [m5]
    by_cases e : c = 1
    · rw [e, pk_us]
    · rw [pk_un (by omega), show 140 + c = 140 by omega, pk_us]
  have clw : ∀ (υ ω : rs_S), mcS υ ω → gW1 υ → gW1 ω := by
    intro υ ω m w
    obtain ⟨m1, m2, m3, m4, m5, m6, m7⟩ := m
    refine ⟨by rw [m5]; exact w9_u (w9_u w.1 (.inl rfl)) (.inl rfl), by rw [m4]; exact w9_u w.2.1 (.inl rfl), fun p hp => ?_⟩
    rw [m3]
    by_cases e : p = 70
    · rw [e, pk_us]; exact ⟨0, by decide, rfl⟩
    · rw [pk_un e]; exact w.2.2 p hp
  have clS : ∀ (υ ω : rs_S), mcS υ ω → zS υ ω := by
    intro υ ω m
    obtain ⟨m1, m2, m3, m4, m5, m6, m7⟩ := m
    refine ⟨fun k k1 k2 => m7 k (by omega) (by omega) (by omega) (by omega), fun k b hb hk => ?_, fun j hj => ⟨by rw [m6, if_neg (fun e => by omega)], by rw [m7 13 (by decide) (by decide) (by decide) (by decide)]⟩, fun j hj => ⟨by rw [m7 7 (by decide) (by decide) (by decide) (by decide)], by rw [m2]⟩⟩
    rcases hk with rfl | rfl | rfl | rfl
    · rw [m3, pk_un (by omega)]
    · rw [m4, pk_un (by omega)]
    · rw [m7 12 (by decide) (by decide) (by decide) (by decide)]
    · rw [m7 14 (by decide) (by decide) (by decide) (by decide)]
  rcases hP with ⟨o1, o2, o3, o4, o5⟩ | ⟨o1, o2, o3⟩
  · have es : sc_e x t = (nI x.1, rs_f (mc_l (rs_f (sc_h τ) 4 (if τ.2.1 11 70 = 0 then (sc_h τ).1 4 else (sc_h τ).1 1))) 1 t) := by
      rw [sc_e, if_pos o2, hx]
    rw [es]
    obtain ⟨s1, s2, s3, s4, s5⟩ := sc_hs τ
    generalize sc_h τ = υ at s1 s2 s3 s4 s5
    generalize hv : (if τ.2.1 11 70 = 0 then υ.1 4 else υ.1 1) = v
    have hmc := mc_ls (rs_f υ 4 v)
    generalize mc_l (rs_f υ 4 v) = ω at hmc
    have q1 : ∀ j, j ≠ 1 → j ≠ 4 → (rs_f ω 1 t).1 j = τ.1 j := fun j j1 j4 => by
      rw [rs_fn _ _ j1, hmc.1, rs_fn _ _ j4, s1]
    have q4 : (rs_f ω 1 t).1 4 = v := by rw [rs_fn _ _ (by decide), hmc.1, rs_fv]
    have q2 : ∀ k, k ≠ 6 → k ≠ 11 → k ≠ 9 → k ≠ 10 → k ≠ 16 → ω.2.1 k = τ.2.1 k := fun k k6 k11 k9 k10 k16 => (hmc.2.2.2.2.2.2 k k6 k11 k9 k10).trans (s2 k k16)
    refine ⟨(q1 0 (by decide) (by decide)).trans n0, fun e => by rw [o1] at e; exact absurd e (by decide), fun _ => ⟨by rw [o3], fun z0 ρ' e1 e2 e3 => ?_⟩⟩
    obtain ⟨g1, g2⟩ := hbd z0 ρ' e1 e2 e3
    have zs : zS τ (rs_f ω 1 t) := by
      have a := clS _ _ hmc
      refine ⟨fun k k1 k2 => (a.1 k k1 k2).trans (s2 k (by omega)), fun k b hb hk => (a.2.1 k b hb hk).trans (by rw [s2 k (by omega)]), fun j hj => ⟨((a.2.2.1 j hj).1).trans (by rw [s2 10 (by decide)]), ((a.2.2.1 j hj).2).trans (by rw [s2 13 (by decide)])⟩, fun j hj => ⟨((a.2.2.2 j hj).1).trans (by rw [s2 7 (by decide)]), ((a.2.2.2 j hj).2).trans (by rw [s3])⟩⟩
    refine ⟨⟨A, zS_R zs g1⟩, fun b hb h0 => ?_, clr (rs_f ω 1 t) z0 ρ' co (cz _ _ hmc).1 (cz _ _ hmc).2.1 (cz _ _ hmc).2.2.1 (cz _ _ hmc).2.2.2 ?_, ?_, clw (rs_f υ 4 v) ω hmc ?_, ?_, zL_L (σ := σ) ?_ g2⟩
    · have e4 : (rs_f ω 1 t).2.1 4 = τ.2.1 4 := zs.1 4 (by decide) (by decide)
      rw [e4] at h0 ⊢
      rw [rs_fv]
      exact hB2 b hb h0
    · show ω.2.1 14 70 = co
      rw [q2 14 (by decide) (by decide) (by decide) (by decide) (by decide), k70 14 (by omega) 70 (by omega)]
      exact a3.2.2.2.2.2.2.1
    · have e11 : τ.2.1 11 70 = if d_po β uw = none then 0 else 1 := by rw [k70 11 (by omega) 70 (by omega)]; exact a3.2.2.2.2.1
      by_cases hp : d_po β uw = none
      · have ef : k2_f fo β uw = fo := by rw [k2_f, if_pos hp]
        have t0 : τ.2.1 11 70 = 0 := by rw [e11, if_pos hp]
        rw [ef]
        refine zF_F (σ := σ) ⟨?_, ?_⟩ (gFo_b a4 (fun z hz => ⟨?_, fun pa hpa => e1 pa (hC.2.2.2.2.2.1 z (.inl (hC.2.2.2.1 z hz)) pa hpa).1⟩))
        · rw [q4, ← hv, if_pos t0, s1]; exact n1 4 (by decide) (by decide)
        · show ω.2.1 16 = _
          rw [hmc.2.2.2.2.2.2 16 (by decide) (by decide) (by decide) (by decide)]
          exact (s4 t0).trans (k0 16 (by omega))
        · rw [va_up_ne _ _ (e2 z (.inl (hC.2.2.2.1 z hz)))]
          exact va_up_ne _ _ (hC.2.2.2.2.2.2.1 z (hC.2.2.2.1 z hz))
      · have ef : k2_f fo β uw = some uw := by rw [k2_f, if_neg hp]
        have t0 : τ.2.1 11 70 ≠ 0 := by rw [e11, if_neg hp]; decide
        have eB : va_up (k2_b fo β ρ uw co) z0 (bd_0 t) uw = k2_b fo β ρ uw co uw := va_up_ne _ _ (e2 uw (.inr rfl))
        have et : d_tm (va_up (k2_b fo β ρ uw co) z0 (bd_0 t)) uw = d_tm β uw := by
          have := b1_tm fo β ρ uw co uw
          unfold d_tm at this ⊢
          rw [eB]; exact this
        have eo : d_po (va_up (k2_b fo β ρ uw co) z0 (bd_0 t)) uw = d_po β uw := by
          have := b1_po fo β ρ uw co uw
          unfold d_po at this ⊢
          rw [eB]; exact this
        obtain ⟨pa, hpa⟩ : ∃ pa, d_po β uw = some pa := by
          cases e : d_po β uw with
          | none => exact absurd e hp
          | some pa => exact ⟨pa, rfl⟩
        rw [ef]
        refine ⟨?_, ?_, pa, eo.trans hpa, fun r hr => ?_⟩
        · rw [q4, ← hv, if_neg t0, s1, et, ← c1]; exact n1 1 (by decide) (by decide)
        · rw [et, ← c1]; exact R_nw hR
        · show ω.2.1 16 r = _
          rw [hmc.2.2.2.2.2.2 16 (by decide) (by decide) (by decide) (by decide)]
          show υ.2.1 16 r = _
          rw [s5 t0 r hr, (k560 _ (by omega)).1, e1 pa (hC.2.2.2.2.2.1 uw (.inr rfl) pa hpa).1]
          exact a3.2.2.2.2.2.1 pa hpa r hr
    · show gW1 υ
      unfold gW1
      rw [s2 9 (by decide), s2 11 (by decide), s2 6 (by decide)]
      exact hW
    · refine ⟨by rw [rs_fv, (dz z0).1], by rw [(dz z0).1]; exact nt, ?_, ?_, o5, ?_, ?_, ?_, ?_, ?_⟩
      · rw [q1 2 (by decide) (by decide), n1 2 (by decide) (by decide), c3, h1]; exact o1.symm
      · rw [q1 3 (by decide) (by decide)]; exact o4
      · show ∀ i, i < 3 → ω.2.1 1 i = fl i
        rw [q2 1 (by decide) (by decide) (by decide) (by decide) (by decide), k0 1 (by omega)]; exact c6
      · show ∀ i, i < 3 → ω.2.1 17 i = u i
        rw [q2 17 (by decide) (by decide) (by decide) (by decide) (by decide), k0 17 (by omega)]; exact c7
      · show ∀ i, i < 3 → ω.2.1 18 i = f i
        rw [q2 18 (by decide) (by decide) (by decide) (by decide) (by decide), k0 18 (by omega)]; exact c8
      · show ∀ i, i < 3 → ω.2.1 19 i = g i
        rw [q2 19 (by decide) (by decide) (by decide) (by decide) (by decide), k0 19 (by omega)]; exact c9
      · show ∀ r, r < 8 → ω.2.1 15 r = ρ' ca r
        rw [q2 15 (by decide) (by decide) (by decide) (by decide) (by decide), k0 15 (by omega), e1 ca hC.2.1]; exact c10
    · refine ⟨?_, ?_, ?_, ?_, fun k hk => ?_, fun k hk => ⟨?_, ?_⟩, ?_⟩
      · rw [q1 5 (by decide) (by decide)]; exact n1 5 (by decide) (by decide)
      · rw [q1 6 (by decide) (by decide)]; exact n1 6 (by decide) (by decide)
      · show ω.2.1 6 71 = _
        rw [hmc.2.2.1, pk_un (by decide)]
        show υ.2.1 6 71 = _
        rw [s2 6 (by decide)]; exact k70 6 (by omega) 71 (by omega)
      · show ω.2.1 14 71 = _
        rw [q2 14 (by decide) (by decide) (by decide) (by decide) (by decide)]; exact k70 14 (by omega) 71 (by omega)
      · show ω.2.1 10 (568 + k) = _
        rw [hmc.2.2.2.2.2.1, if_neg (fun e => by omega)]
        show υ.2.1 10 _ = _
        rw [s2 10 (by decide)]; exact (k560 _ (by omega)).2
      · show ω.2.1 7 _ = _
        rw [q2 7 (by decide) (by decide) (by decide) (by decide) (by decide)]; exact (k280 _ (by omega)).1
      · show ω.2.2 _ = _
        rw [hmc.2.1]
        show υ.2.2 _ = _
        rw [s3]; exact (k280 _ (by omega)).2
      · show ω.2.1 20 = _
        rw [q2 20 (by decide) (by decide) (by decide) (by decide) (by decide)]; exact k0 20 (by omega)
  · have es : sc_e x t = (-1, rs_f (ml_l τ) 1 t) := by
      rw [sc_e, if_neg (by rw [o3]; decide), hx]
    rw [es, ml_l]
    have hmc := mc_ls (rs_f (rs_f τ 2 0) 3 (-1))
    have hgl : ml_g τ = rs_f (rs_a (ml_h τ) 14 (upd ((ml_h τ).2.1 14) 70 0)) 4 (-1) := rfl
    have hhl : ml_h τ = mc_l (rs_f (rs_f τ 2 0) 3 (-1)) := rfl
    rw [hgl, hhl]
    generalize mc_l (rs_f (rs_f τ 2 0) 3 (-1)) = ω at hmc
    obtain ⟨z1, z2, z3, z4⟩ := mc_zs 0 15 8 0 (rs_f (rs_a ω 14 (upd (ω.2.1 14) 70 0)) 4 (-1))
    generalize fo_f (mc_z 0 15) 0 8 (rs_f (rs_a ω 14 (upd (ω.2.1 14) 70 0)) 4 (-1)) = θ at z1 z2 z3 z4
    have y2 : ∀ k, k ≠ 15 → k ≠ 14 → θ.2.1 k = ω.2.1 k := fun k k1 k2 => (z2 k k1).trans (rs_an _ _ k2)
    have y14 : θ.2.1 14 = upd (ω.2.1 14) 70 0 := (z2 14 (by decide)).trans (rs_av _ _ _)
    have yx : θ.2.2 = τ.2.2 := z4.trans hmc.2.1
    have q1 : ∀ j, j ≠ 1 → j ≠ 4 → j ≠ 2 → j ≠ 3 → (rs_f θ 1 t).1 j = τ.1 j := fun j j1 j4 j2 j3 => by
      rw [rs_fn _ _ j1, z3, rs_fn _ _ j4, rs_a1, hmc.1, rs_fn _ _ j3, rs_fn _ _ j2]
    have q2 : ∀ k, k ≠ 6 → k ≠ 11 → k ≠ 9 → k ≠ 10 → k ≠ 14 → k ≠ 15 → θ.2.1 k = τ.2.1 k := fun k k6 k11 k9 k10 k14 k15 => (y2 k k15 k14).trans (hmc.2.2.2.2.2.2 k k6 k11 k9 k10)
    refine ⟨(q1 0 (by decide) (by decide) (by decide) (by decide)).trans n0, fun _ => ⟨rfl, fun z0 ρ' ca' e1 e2 e3 e4 => ?_⟩, fun e => absurd o1 e⟩
    obtain ⟨g1, g2⟩ := hbd z0 ρ' e1 e2 e3
    have zs : zS τ (rs_f θ 1 t) := by
      have a := clS _ _ hmc
      refine ⟨fun k k1 k2 => (y2 k (by omega) (by omega)).trans (a.1 k k1 k2), fun k b hb hk => ?_, fun j hj => ⟨?_, ?_⟩, fun j hj => ⟨?_, ?_⟩⟩
      · show θ.2.1 k b = _
        by_cases e : k = 14
        · rw [e, y14, pk_un (by omega)]; exact a.2.1 14 b hb (by omega)
        · rw [y2 k (by omega) e]; exact a.2.1 k b hb hk
      · show θ.2.1 10 j = _
        rw [y2 10 (by decide) (by decide)]; exact (a.2.2.1 j hj).1
      · show θ.2.1 13 j = _
        rw [y2 13 (by decide) (by decide)]; exact (a.2.2.1 j hj).2
      · show θ.2.1 7 j = _
        rw [y2 7 (by decide) (by decide)]; exact (a.2.2.2 j hj).1
      · show θ.2.2 j = _
        rw [yx]
    obtain ⟨x1, x2, x3, x4⟩ := cz _ _ hmc
    refine ⟨⟨A, zS_R zs g1⟩, fun b hb h0 => ?_, clr (rs_f θ 1 t) z0 ρ' 0 ?_ ?_ ?_ ?_ ?_, ?_, ?_, ?_, zL_L (σ := σ) ?_ g2⟩
    · have e4 : (rs_f θ 1 t).2.1 4 = τ.2.1 4 := zs.1 4 (by decide) (by decide)
      rw [e4] at h0 ⊢
      rw [rs_fv]
      exact hB2 b hb h0
    · show θ.2.1 6 70 = 0
      rw [y2 6 (by decide) (by decide)]; exact x1
    · show ∀ k, k < 8 → θ.2.1 10 (560 + k) = 0
      rw [y2 10 (by decide) (by decide)]; exact x2
    · show θ.2.1 11 70 = 0
      rw [y2 11 (by decide) (by decide)]; exact x3
    · show ∀ c, c < 2 → θ.2.1 9 (140 + c) = 0
      rw [y2 9 (by decide) (by decide)]; exact x4
    · show θ.2.1 14 70 = 0
      rw [y14, pk_us]
    · show (rs_f θ 1 t).1 4 = -1
      rw [rs_fn _ _ (by decide), z3, rs_fv]
    · have w := clw _ _ hmc hW
      show gW1 θ
      unfold gW1 at w ⊢
      rw [y2 9 (by decide) (by decide), y2 11 (by decide) (by decide), y2 6 (by decide) (by decide)]
      exact w
    · refine ⟨by rw [rs_fv, (dz z0).1], by rw [(dz z0).1]; exact nt, ?_, ?_, .inl o2, ?_, ?_, ?_, ?_, ?_⟩
      · rw [rs_fn _ _ (by decide), z3, rs_fn _ _ (by decide), rs_a1, hmc.1, rs_fn _ _ (by decide), rs_fv]
      · rw [rs_fn _ _ (by decide), z3, rs_fn _ _ (by decide), rs_a1, hmc.1, rs_fv]; exact o2.symm
      · show ∀ i, i < 3 → θ.2.1 1 i = fl i
        rw [q2 1 (by decide) (by decide) (by decide) (by decide) (by decide) (by decide), k0 1 (by omega)]; exact c6
      · show ∀ i, i < 3 → θ.2.1 17 i = u i
        rw [q2 17 (by decide) (by decide) (by decide) (by decide) (by decide) (by decide), k0 17 (by omega)]; exact c7
      · show ∀ i, i < 3 → θ.2.1 18 i = f i
        rw [q2 18 (by decide) (by decide) (by decide) (by decide) (by decide) (by decide), k0 18 (by omega)]; exact c8
      · show ∀ i, i < 3 → θ.2.1 19 i = g i
        rw [q2 19 (by decide) (by decide) (by decide) (by decide) (by decide) (by decide), k0 19 (by omega)]; exact c9
      · intro r hr
        show θ.2.1 15 r = ρ' ca' r
        rw [z1, if_pos ⟨by omega, by omega⟩, e4]
    · refine ⟨?_, ?_, ?_, ?_, fun k hk => ?_, fun k hk => ⟨?_, ?_⟩, ?_⟩
      · rw [q1 5 (by decide) (by decide) (by decide) (by decide)]; exact n1 5 (by decide) (by decide)
      · rw [q1 6 (by decide) (by decide) (by decide) (by decide)]; exact n1 6 (by decide) (by decide)
      · show θ.2.1 6 71 = _
        rw [y2 6 (by decide) (by decide), hmc.2.2.1, pk_un (by decide)]; exact k70 6 (by omega) 71 (by omega)
      · show θ.2.1 14 71 = _
        rw [y14, pk_un (by decide), hmc.2.2.2.2.2.2 14 (by decide) (by decide) (by decide) (by decide)]; exact k70 14 (by omega) 71 (by omega)
      · show θ.2.1 10 (568 + k) = _
        rw [y2 10 (by decide) (by decide), hmc.2.2.2.2.2.1, if_neg (fun e => by omega)]; exact (k560 _ (by omega)).2
      · show θ.2.1 7 _ = _
        rw [q2 7 (by decide) (by decide) (by decide) (by decide) (by decide) (by decide)]; exact (k280 _ (by omega)).1
      · show θ.2.2 _ = _
        rw [yx]; exact (k280 _ (by omega)).2
      · show θ.2.1 20 = _
        rw [q2 20 (by decide) (by decide) (by decide) (by decide) (by decide) (by decide)]; exact k0 20 (by omega)
end Calls6
