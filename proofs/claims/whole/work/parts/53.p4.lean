/-! Pure rows: a store of the class beside one of the reference. -/
def gO (σ : rs_S) : Prop := ∀ p, p < 70 → σ.2.1 2 p = 0 ∨ ∃ b, b < 70 ∧ stp b = stp p ∧ σ.2.1 2 p = nI (b + 1) ∧ 0 ≤ σ.2.1 4 b
def gN (σ : rs_S) : Prop := ∀ b, b < 70 → 0 ≤ σ.2.1 4 b ∨ σ.2.1 4 b = -1
def gX (c : Nat) (σ : rs_S) : Prop := ∀ b, b < 70 → b ≠ c → 0 ≤ σ.2.1 4 b → ∃ p, p < 70 ∧ σ.2.1 2 p = nI (b + 1)
def gJ (σ : rs_S) : Prop := gO σ ∧ gN σ ∧
  (∀ b, b < 70 → 0 ≤ σ.2.1 4 b → ∃ p, p < 70 ∧ σ.2.1 2 p = nI (b + 1))
def gL (A : Nat → Nat) (tm : Nat → Int32) (h : Nat → Nat → Option Nat) (sp : Nat → Nat → Int32) (σ : rs_S) : Prop :=
  (∀ b, b < 70 → 0 ≤ σ.2.1 4 b → tm (A b) = σ.2.1 4 b) ∧
  (∀ i, i < 3 → ∀ p, p < sN i → (σ.2.1 2 (sL i + p) = 0 ∧ h i p = none) ∨ (∃ b, b < 70 ∧ σ.2.1 2 (sL i + p) = nI (b + 1) ∧ h i p = some (A b))) ∧
  (∀ i, i < 3 → ∀ p, p < sN i → σ.2.1 3 (sL i + p) = sp i p) ∧
  (∀ b c, b < 70 → c < 70 → stp b = stp c → 0 ≤ σ.2.1 4 b → σ.2.1 4 b = σ.2.1 4 c → b = c)
theorem ow_i {b c : Nat} (hb : b < 70) (hc : c < 70) (h : nI (b + 1) = nI (c + 1)) : b = c := by
  have := (nI_eq (by omega) (by omega)).mp h
  omega
theorem ow_0 {b : Nat} (hb : b < 70) : nI (b + 1) ≠ 0 := nI_ne0 (by omega) (by omega)
section Store
variable {A : Nat → Nat} {tm : Nat → Int32} {h : Nat → Nat → Option Nat} {sp : Nat → Nat → Int32} {σ : rs_S} {i : Nat}
theorem sN_70 (hi : i < 3) : sL i + sN i ≤ 70 := by rcases i3 hi with rfl | rfl | rfl <;> decide
theorem gV (hO : gO σ) (hL : gL A tm h sp σ) (hi : i < 3) {p : Nat} (hp : p < sN i) : (σ.2.1 2 (sL i + p) = 0 ∧ h i p = none) ∨ ∃ b, b < 70 ∧ stp b = i ∧ σ.2.1 2 (sL i + p) = nI (b + 1) ∧ h i p = some (A b) ∧ 0 ≤ σ.2.1 4 b ∧ tm (A b) = σ.2.1 4 b := by
  obtain ⟨e1, e2⟩ := stp_of hi (Nat.le_add_right _ p) (by omega : sL i + p < sL i + sN i)
  rcases hL.2.1 i hi p hp with a | ⟨b, b1, b2, b3⟩
  · exact .inl a
  · rcases hO _ e2 with c | ⟨c, c1, c2, c3, c4⟩
    · rw [b2] at c; exact absurd c (ow_0 b1)
    · obtain rfl : b = c := ow_i b1 c1 (by rw [← b2, ← c3])
      exact .inr ⟨b, b1, c2.trans e1, b2, b3, c4, hL.1 b b1 c4⟩
theorem gU (hO : gO σ) (hL : gL A tm h sp σ) (hi : i < 3) {b : Nat} (hb : b < 70) (hs : stp b = i) {p : Nat} (hp : p < 70) (ho : σ.2.1 2 p = nI (b + 1)) : ∃ q, q < sN i ∧ p = sL i + q ∧ h i q = some (A b) := by
  rcases hO _ hp with c | ⟨c, c1, c2, c3, c4⟩
  · rw [ho] at c; exact absurd c (ow_0 hb)
  · obtain rfl : b = c := ow_i hb c1 (by rw [← ho, ← c3])
    have := stp_in hp
    rw [← c2, hs] at this
    refine ⟨p - sL i, by omega, by omega, ?_⟩
    rcases hL.2.1 i hi (p - sL i) (by omega) with a | ⟨d, d1, d2, d3⟩
    · rw [show sL i + (p - sL i) = p by omega, ho] at a
      exact absurd a.1 (ow_0 hb)
    · rw [show sL i + (p - sL i) = p by omega, ho] at d2
      obtain rfl : b = d := ow_i hb d1 d2
      exact d3
theorem gW (hJ : gJ σ) (hL : gL A tm h sp σ) (hi : i < 3) {b : Nat} (hb : b < 70) (hs : stp b = i) (h0 : 0 ≤ σ.2.1 4 b) : ∃ q, q < sN i ∧ σ.2.1 2 (sL i + q) = nI (b + 1) ∧ h i q = some (A b) := by
  obtain ⟨p, p1, p2⟩ := hJ.2.2 b hb h0
  obtain ⟨q, q1, q2, q3⟩ := gU hJ.1 hL hi hb hs p1 p2
  exact ⟨q, q1, by rw [← q2, p2], q3⟩
theorem gP (hJ : gJ σ) (hL : gL A tm h sp σ) (hi : i < 3) : ∀ p, p < sN i → ∀ z, h i p = some z → 0 ≤ tm z := by
  intro p hp z hz
  rcases gV hJ.1 hL hi hp with a | ⟨b, b1, b2, b3, b4, b5, b6⟩
  · rw [a.2] at hz; cases hz
  · rw [b4] at hz; cases hz; rw [b6]; exact b5
theorem gT (hJ : gJ σ) (hL : gL A tm h sp σ) (hi : i < 3) (t : Int32) : (∃ p, p < sN i ∧ ∃ z, h i p = some z ∧ tm z = t) ↔ ∃ p, sL i ≤ p ∧ p < sL i + sN i ∧ (0 ≤ σ.2.1 4 p ∧ σ.2.1 4 p = t) := by
  constructor
  · rintro ⟨p, hp, z, hz, rfl⟩
    rcases gV hJ.1 hL hi hp with a | ⟨b, b1, b2, b3, b4, b5, b6⟩
    · rw [a.2] at hz; cases hz
    · rw [b4] at hz; cases hz
      have := stp_in b1
      rw [b2] at this
      exact ⟨b, this.1, this.2, b5, b6.symm⟩
  · rintro ⟨b, b1, b2, b3, rfl⟩
    obtain ⟨e1, e2⟩ := stp_of hi b1 b2
    obtain ⟨q, q1, q2, q3⟩ := gW hJ hL hi e2 e1 b3
    exact ⟨q, q1, _, q3, hL.1 b e2 b3⟩
theorem g_kept0 (hJ : gJ σ) (hL : gL A tm h sp σ) (hi : i < 3) : so_l (h i) tm (sN i) = fo_f (mk_f σ 0) (sL i) (sN i) (-1) :=
  is_mn_u (is_mn_c (gT hJ hL hi) (so_l_mn (gP hJ hL hi))) (mk_mn σ (sL i) (sN i))
theorem g_kept1 (hJ : gJ σ) (hL : gL A tm h sp σ) (hi : i < 3) {z : Int32} (hz : z ≠ 0) : so_m (h i) tm (sN i) = fo_f (mk_f σ z) (sL i) (sN i) (-1) :=
  is_mx_u (is_mx_c (gT hJ hL hi) (so_m_mx (gP hJ hL hi))) (mk_mx σ z hz (sL i) (sN i))
theorem g_fp (hJ : gJ σ) (hL : gL A tm h sp σ) (hi : i < 3) : so_f (h i) (sN i) = mf_fp σ (nI i) := by
  rw [so_f_sm, mf_ct, sL_n hi, sL_lo hi, ct_sm, sm_sh (lo := sL i)]
  refine sm_c _ (fun p _ hp => ?_)
  rcases gV hJ.1 hL hi (p := p) (by omega) with a | ⟨b, b1, b2, b3, b4, b5, b6⟩
  · rw [if_pos a.2, if_pos (decide_eq_true a.1)]
  · rw [b4, if_neg (fun e => by cases e), b3, if_neg (fun e => ow_0 b1 (of_decide_eq_true e))]
theorem g_r (hJ : gJ σ) (hL : gL A tm h sp σ) (hi : i < 3) (t : Int32) : (so_r (h i) tm (sp i) (sN i) t = none ∧ mu_b σ (nI i) t = none) ∨ ∃ b, b < 70 ∧ stp b = i ∧ mu_b σ (nI i) t = some b ∧ so_r (h i) tm (sp i) (sN i) t = some (A b) ∧ 0 ≤ t ∧ σ.2.1 4 b = t ∧ tm (A b) = t ∧ mi_r σ b = true := by
  have e0 : mu_b σ (nI i) t = fo_f (mu_f σ t) (sL i) (sN i) none := by
    rw [mu_b, sL_n hi, sL_lo hi, if_pos]
    rcases i3 hi with rfl | rfl | rfl <;> decide
  cases hm : mu_b σ (nI i) t with
  | none =>
    rw [e0] at hm
    refine .inl ⟨?_, rfl⟩
    cases hr : so_r (h i) tm (sp i) (sN i) t with
    | none => rfl
    | some z =>
      exfalso
      obtain ⟨q, q1, q2⟩ := so_r_D hr
      have ht := so_r_t hr
      rcases gV hJ.1 hL hi q1 with a | ⟨b, b1, b2, b3, b4, b5, b6⟩
      · rw [a.2] at q2; cases q2
      · rw [b4] at q2; cases q2
        have hb := stp_in b1
        rw [b2] at hb
        have hn := mu_no σ t _ _ hm b hb.1 hb.2
        have hm' : ¬ mi_r σ b = true := fun e => hn ⟨by rw [← ht, b6]; exact b5, by rw [← ht, b6], e⟩
        rw [mi_c] at hm'
        have hx : ∃ p, p < 70 ∧ σ.2.1 2 p = nI (b + 1) ∧ σ.2.1 3 p ≠ 0 := by
          refine Classical.byContradiction (fun hc => hm' ⟨b5, fun p p1 p2 => Classical.byContradiction (fun p3 => hc ⟨p, p1, p2, p3⟩)⟩)
        obtain ⟨p, p1, p2, p3⟩ := hx
        obtain ⟨r, r1, r2, r3⟩ := gU hJ.1 hL hi b1 b2 p1 p2
        rw [so_r_n ⟨r, r1, so_i_c.mpr ⟨_, r3, ht⟩, by rw [← hL.2.2.1 i hi r r1, ← r2]; exact p3⟩] at hr
        cases hr
  | some b =>
    rw [e0] at hm
    obtain ⟨b1, b2, b3, b4, b5⟩ := mu_in σ t _ _ _ hm
    obtain ⟨s1, s2⟩ := stp_of hi b1 b2
    have hb0 : 0 ≤ σ.2.1 4 b := by rw [b4]; exact b3
    have uq : ∀ q z, q < sN i → h i q = some z → tm z = t → z = A b ∧ σ.2.1 2 (sL i + q) = nI (b + 1) := by
      intro q z q1 q2 q3
      rcases gV hJ.1 hL hi q1 with a | ⟨c, c1, c2, c3, c4, c5, c6⟩
      · rw [a.2] at q2; cases q2
      · rw [c4] at q2; cases q2
        obtain rfl : b = c := hL.2.2.2 b c s2 c1 (s1.trans c2.symm) hb0 (by rw [b4, ← q3, c6])
        exact ⟨rfl, c3⟩
    have hne : so_r (h i) tm (sp i) (sN i) t ≠ none := by
      refine so_r_s (fun q q1 q2 => ?_) ?_
      · obtain ⟨z, z1, z2⟩ := so_i_c.mp q2
        have := (uq q z q1 z1 z2).2
        rw [← hL.2.2.1 i hi q q1]
        exact ((mi_c σ b).mp b5).2 _ (by have := sN_70 hi; omega) this
      · obtain ⟨q, q1, q2, q3⟩ := gW hJ hL hi s2 s1 hb0
        exact ⟨q, q1, so_i_c.mpr ⟨_, q3, by rw [hL.1 b s2 hb0, b4]⟩⟩
    cases hr : so_r (h i) tm (sp i) (sN i) t with
    | none => exact absurd hr hne
    | some z =>
      obtain ⟨q, q1, q2⟩ := so_r_D hr
      have := (uq q z q1 q2 (so_r_t hr)).1
      subst this
      exact .inr ⟨b, s2, s1, rfl, rfl, b3, b4, so_r_t hr, b5⟩
theorem g_rm (hJ : gJ σ) (hL : gL A tm h sp σ) (hi : i < 3) {b : Nat} (hb : b < 70) (hs : stp b = i) (h0 : 0 ≤ σ.2.1 4 b) : so_r (h i) tm (sp i) (sN i) (σ.2.1 4 b) ≠ none ↔ mi_r σ b = true := by
  rcases g_r hJ hL hi (σ.2.1 4 b) with ⟨a1, a2⟩ | ⟨c, c1, c2, c3, c4, c5, c6, c7, c8⟩
  · refine ⟨fun e => absurd a1 e, fun e => ?_⟩
    exfalso
    have e0 : mu_b σ (nI i) (σ.2.1 4 b) = fo_f (mu_f σ (σ.2.1 4 b)) (sL i) (sN i) none := by
      rw [mu_b, sL_n hi, sL_lo hi, if_pos]
      rcases i3 hi with rfl | rfl | rfl <;> decide
    rw [e0] at a2
    have hb2 := stp_in hb
    rw [hs] at hb2
    exact mu_no σ _ _ _ a2 b hb2.1 hb2.2 ⟨h0, rfl, e⟩
  · obtain rfl : c = b := hL.2.2.2 c b c1 hb (c2.trans hs.symm) (by rw [c6]; exact h0) c6
    exact ⟨fun _ => c8, fun _ e => by rw [c4] at e; cases e⟩
theorem g_find (hJ : gJ σ) (hL : gL A tm h sp σ) (hi : i < 3) {so : Nat → Nat → Int32} {sn nj : Nat → Nat} {src fr : Int32} (hc : ∀ b, b < 70 → 0 ≤ σ.2.1 4 b → nj b = sn (A b) ∧ ∀ q, q < sn (A b) → σ.2.1 7 (4 * b + q) = so (A b) q) : so_q (h i) tm (sp i) (sN i) so sn src fr = fo_f (mn_f σ nj src fr) (sL i) (sN i) (-1) := by
  have eb : ∀ b, b < 70 → 0 ≤ σ.2.1 4 b → bs_h (fun q => σ.2.1 7 (4 * b + q)) src (nj b) = bs_h (so (A b)) src (sn (A b)) := by
    intro b b1 b2
    obtain ⟨c1, c2⟩ := hc b b1 b2
    rw [c1]
    have : ∀ s, s ≤ sn (A b) → bs_h (fun q => σ.2.1 7 (4 * b + q)) src s = bs_h (so (A b)) src s := by
      intro s
      induction s with
      | zero => intro _; rfl
      | succ s ih => intro hs; rw [bs_h_s, bs_h_s, ih (by omega), c2 s (by omega)]
    exact this _ (Nat.le_refl _)
  refine is_mn_u (is_mn_c (fun t => ?_) (so_q_mn (gP hJ hL hi))) (mn_mn σ nj src fr (sL i) (sN i))
  constructor
  · rintro ⟨p, hp, z, hz, ⟨z1, z2, z3⟩, rfl⟩
    rcases gV hJ.1 hL hi hp with a | ⟨b, b1, b2, b3, b4, b5, b6⟩
    · rw [a.2] at hz; cases hz
    · rw [b4] at hz; cases hz
      have := stp_in b1
      rw [b2] at this
      rw [b6] at z1 z3
      exact ⟨b, this.1, this.2, by rw [eb b b1 b5]; exact z2, z1, (g_rm hJ hL hi b1 b2 b5).mp z3, b6.symm⟩
  · rintro ⟨b, b1, b2, c1, c2, c3, rfl⟩
    obtain ⟨s1, s2⟩ := stp_of hi b1 b2
    have b5 := ((mi_c σ b).mp c3).1
    obtain ⟨q, q1, q2, q3⟩ := gW hJ hL hi s2 s1 b5
    have et := hL.1 b s2 b5
    refine ⟨q, q1, A b, q3, ⟨by rw [et]; exact c2, by rw [← eb b s2 b5]; exact c1, ?_⟩, et⟩
    rw [et]
    exact (g_rm hJ hL hi s2 s1 b5).mpr c3
theorem g_u (hJ : gJ σ) (hL : gL A tm h sp σ) (hi : i < 3) : so_u (h i) tm (sp i) (sN i) = mj_u σ (nI i) := by
  have em : mj_u σ (nI i) = sm (fun b => if 0 ≤ σ.2.1 4 b ∧ ¬ mi_r σ b = true then 1 else 0) (sL i) (sN i) := by
    rw [mj_u, sL_n hi, sL_lo hi]
    have e := fo_sm (fun b => if 0 ≤ σ.2.1 4 b ∧ ¬ mi_r σ b = true then 1 else 0) (sL i) (mj_f σ) (fun p c => by rw [mj_f]; split <;> rfl) (sN i) 0
    rw [e, Nat.zero_add]
  have hF : ∀ p, p < sN i → so_uf (h i) tm (sp i) p 0 = sm (fun b => if σ.2.1 2 (sL i + p) = nI (b + 1) then so_uf (h i) tm (sp i) p 0 else 0) (sL i) (sN i) := by
    intro p hp
    rcases gV hJ.1 hL hi hp with a | ⟨b, b1, b2, b3, b4, b5, b6⟩
    · rw [so_uf, a.2]
      exact (sm_0 _ (fun b _ _ => by split <;> rfl)).symm
    · have hb := stp_in b1
      rw [b2] at hb
      rw [sm_1 (q := b) _ hb.1 hb.2, if_pos b3]
      intro c c1 c2 c3
      rw [b3, if_neg (fun e => c3 (ow_i b1 (by have := sN_70 hi; omega) e).symm)]
  rw [so_u_sm, em, sm_c _ (fun p _ hp => hF p (by omega)), sm_sw]
  refine sm_c _ (fun b b1 b2 => ?_)
  obtain ⟨s1, s2⟩ := stp_of hi b1 b2
  by_cases hb : 0 ≤ σ.2.1 4 b ∧ ¬ mi_r σ b = true
  · rw [if_pos hb]
    obtain ⟨h0, hm⟩ := hb
    have et := hL.1 b s2 h0
    rw [mi_c] at hm
    have hx : ∃ p, p < sN i ∧ σ.2.1 2 (sL i + p) = nI (b + 1) ∧ sp i p ≠ 0 := by
      have hx : ∃ p, p < 70 ∧ σ.2.1 2 p = nI (b + 1) ∧ σ.2.1 3 p ≠ 0 := by
        refine Classical.byContradiction (fun hc => hm ⟨h0, fun p p1 p2 => Classical.byContradiction (fun p3 => hc ⟨p, p1, p2, p3⟩)⟩)
      obtain ⟨p, p1, p2, p3⟩ := hx
      obtain ⟨r, r1, r2, r3⟩ := gU hJ.1 hL hi s2 s1 p1 p2
      exact ⟨r, r1, by rw [← r2, p2], by rw [← hL.2.2.1 i hi r r1, ← r2]; exact p3⟩
    obtain ⟨p, ⟨p1, p2, p3⟩, pl⟩ := pk_least _ hx
    have hh : ∀ q, q < sN i → σ.2.1 2 (sL i + q) = nI (b + 1) → h i q = some (A b) := by
      intro q q1 q2
      obtain ⟨r, r1, r2, r3⟩ := gU hJ.1 hL hi s2 s1 (by have := sN_70 hi; omega) q2
      obtain rfl : q = r := by omega
      exact r3
    have ho : ∀ q, q < sN i → so_i (h i) tm q (tm (A b)) → σ.2.1 2 (sL i + q) = nI (b + 1) := by
      intro q q1 q2
      obtain ⟨z, z1, z2⟩ := so_i_c.mp q2
      rcases gV hJ.1 hL hi q1 with a | ⟨c, c1, c2, c3, c4, c5, c6⟩
      · rw [a.2] at z1; cases z1
      · rw [c4] at z1; cases z1
        obtain rfl : b = c := hL.2.2.2 b c s2 c1 (s1.trans c2.symm) h0 (by rw [← et, ← z2, c6])
        exact c3
    have one : so_uf (h i) tm (sp i) p 0 = 1 := by
      rw [so_uf, hh p p1 p2]
      refine if_pos ⟨p3, ?_⟩
      cases hq : so_b (h i) tm (sp i) (tm (A b)) p with
      | false => rfl
      | true =>
        obtain ⟨q, q1, q2, q3⟩ := (so_b_s p).mp hq
        exact absurd ⟨by omega, ho q (by omega) q3, q2⟩ (pl q q1)
    rw [sm_1 (q := p) _ (Nat.zero_le _) (by omega), if_pos p2, one]
    intro q _ q1 q2
    split
    · rename_i hq
      rw [so_uf, hh q (by omega) hq]
      refine if_neg (fun e => ?_)
      by_cases hlt : q < p
      · exact pl q hlt ⟨by omega, hq, e.1⟩
      · have : so_b (h i) tm (sp i) (tm (A b)) q = true := (so_b_s q).mpr ⟨p, by omega, p3, so_i_c.mpr ⟨_, hh p p1 p2, rfl⟩⟩
        rw [this] at e
        exact absurd e.2 (by decide)
    · rfl
  · rw [if_neg hb]
    refine sm_0 _ (fun q _ q1 => ?_)
    split
    · rename_i hq
      rcases hJ.1 (sL i + q) (by have := sN_70 hi; omega) with c | ⟨c, c1, c2, c3, c4⟩
      · rw [hq] at c; exact absurd c (ow_0 s2)
      · obtain rfl : b = c := ow_i s2 c1 (by rw [← hq, ← c3])
        have hm : mi_r σ b = true := Classical.byContradiction (fun e => hb ⟨c4, e⟩)
        have h3 := ((mi_c σ b).mp hm).2 _ (by have := sN_70 hi; omega) hq
        rw [hL.2.2.1 i hi q (by omega)] at h3
        rw [so_uf]
        cases h i q with
        | none => rfl
        | some z => exact if_neg (fun e => e.1 h3)
    · rfl
end Store
