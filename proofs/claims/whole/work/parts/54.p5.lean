/-! Pure rows: taking out, making room, what freezes hold. -/
theorem m1_neg : ¬ (0 : Int32) ≤ -1 := by decide
theorem gJ_x {σ : rs_S} (c : Nat) (hJ : gJ σ) : gX c σ := fun b hb _ h0 => hJ.2.2 b hb h0
theorem gJ_out {σ : rs_S} {q : Nat} (hO : gO σ) (hN : gN σ) (hX : gX q σ) (hq : q < 70) : gJ (mo_t σ q) := by
  refine ⟨fun p hp => ?_, fun b hb => ?_, fun b hb h0 => ?_⟩
  · rw [mo_2]
    by_cases ho : σ.2.1 2 p = nI (q + 1)
    · rw [if_pos ⟨hp, ho⟩]; exact .inl rfl
    · rw [if_neg (fun e => ho e.2)]
      rcases hO p hp with a | ⟨b, b1, b2, b3, b4⟩
      · exact .inl a
      · refine .inr ⟨b, b1, b2, b3, ?_⟩
        rw [mo_t4, pk_un (fun e => ho (by rw [b3, e]))]
        exact b4
  · rw [mo_t4]
    by_cases e : b = q
    · subst e; rw [pk_us]; exact .inr rfl
    · rw [pk_un e]; exact hN b hb
  · rw [mo_t4] at h0
    have e : b ≠ q := fun e => by subst e; rw [pk_us] at h0; exact m1_neg h0
    rw [pk_un e] at h0
    obtain ⟨p, p1, p2⟩ := hX b hb e h0
    refine ⟨p, p1, ?_⟩
    rw [mo_2, if_neg (fun x => e (ow_i hb hq (by rw [← p2, x.2])))]
    exact p2
theorem gL_out {A : Nat → Nat} {tm : Nat → Int32} {h : Nat → Nat → Option Nat} {sp : Nat → Nat → Int32} {σ : rs_S} {i q : Nat} (hO : gO σ) (hL : gL A tm h sp σ) (hi : i < 3) (hq : q < 70) (hs : stp q = i) (h0 : 0 ≤ σ.2.1 4 q) : gL A tm (va_up h i (so_t tm (σ.2.1 4 q) (sN i) (h i))) sp (mo_t σ q) := by
  have un : ∀ b, 0 ≤ (mo_t σ q).2.1 4 b → b ≠ q ∧ (mo_t σ q).2.1 4 b = σ.2.1 4 b := by
    intro b hb
    rw [mo_t4] at hb
    have e : b ≠ q := fun e => by subst e; rw [pk_us] at hb; exact m1_neg hb
    exact ⟨e, by rw [mo_t4, pk_un e]⟩
  refine ⟨fun b hb hx => ?_, fun j hj p hp => ?_, fun j hj p hp => ?_, fun b c hb hc hbc hx he => ?_⟩
  · obtain ⟨e1, e2⟩ := un b hx
    rw [e2]
    exact hL.1 b hb (by rw [← e2]; exact hx)
  · rw [mo_2]
    have h70 : sL j + p < 70 := by have := sN_70 hj; omega
    rcases gV hO hL hj hp with a | ⟨b, b1, b2, b3, b4, b5, b6⟩
    · refine .inl ⟨by rw [a.1]; split <;> rfl, ?_⟩
      by_cases e : j = i
      · subst e
        rw [va_up_self, so_t_c]
        split
        · rfl
        · exact a.2
      · rw [va_up_ne _ _ e]; exact a.2
    · by_cases e : b = q
      · subst e
        obtain rfl : j = i := b2.symm.trans hs
        refine .inl ⟨if_pos ⟨h70, b3⟩, ?_⟩
        rw [va_up_self, so_t_c]
        exact if_pos ⟨hp, so_i_c.mpr ⟨_, b4, b6⟩⟩
      · refine .inr ⟨b, b1, ?_, ?_⟩
        · rw [if_neg (fun x => e (ow_i b1 hq (by rw [← b3, x.2])))]; exact b3
        · by_cases ej : j = i
          · subst ej
            rw [va_up_self, so_t_c, if_neg]
            · exact b4
            · rintro ⟨_, x⟩
              obtain ⟨z, z1, z2⟩ := so_i_c.mp x
              rw [b4] at z1
              cases z1
              exact e (hL.2.2.2 b q b1 hq (b2.trans hs.symm) b5 (by rw [← b6, z2]))
          · rw [va_up_ne _ _ ej]; exact b4
  · rw [mo_k _ _ (by decide) (by decide)]
    exact hL.2.2.1 j hj p hp
  · obtain ⟨e1, e2⟩ := un b hx
    have hx' : 0 ≤ (mo_t σ q).2.1 4 c := by rw [← he]; exact hx
    obtain ⟨e3, e4⟩ := un c hx'
    exact hL.2.2.2 b c hb hc hbc (by rw [← e2]; exact hx) (by rw [← e2, ← e4]; exact he)
def gK (σ τ : rs_S) : Prop := τ.1 = σ.1 ∧ (∀ k, k ≠ 2 → k ≠ 4 → τ.2.1 k = σ.2.1 k) ∧ τ.2.2 = σ.2.2 ∧ (∀ b, b < 70 → 0 ≤ τ.2.1 4 b → τ.2.1 4 b = σ.2.1 4 b ∧ ∀ p, (τ.2.1 2 p = nI (b + 1) ↔ σ.2.1 2 p = nI (b + 1)))
theorem gK_r (σ : rs_S) : gK σ σ := ⟨rfl, fun _ _ _ => rfl, rfl, fun _ _ _ => ⟨rfl, fun _ => Iff.rfl⟩⟩
theorem gK_t {σ τ υ : rs_S} (a : gK σ τ) (b : gK τ υ) : gK σ υ := by
  refine ⟨b.1.trans a.1, fun k k1 k2 => (b.2.1 k k1 k2).trans (a.2.1 k k1 k2), b.2.2.1.trans a.2.2.1, fun c hc h0 => ?_⟩
  obtain ⟨e1, e2⟩ := b.2.2.2 c hc h0
  obtain ⟨e3, e4⟩ := a.2.2.2 c hc (by rw [← e1]; exact h0)
  exact ⟨e1.trans e3, fun p => (e2 p).trans (e4 p)⟩
theorem gK_o {σ : rs_S} {q : Nat} (hq : q < 70) : gK σ (mo_t σ q) := by
  refine ⟨mo_1 σ q, fun k k1 k2 => mo_k σ q k1 k2, mo_x σ q, fun b hb h0 => ?_⟩
  rw [mo_t4] at h0 ⊢
  have e : b ≠ q := fun e => by subst e; rw [pk_us] at h0; exact m1_neg h0
  refine ⟨pk_un e, fun p => ?_⟩
  rw [mo_2]
  by_cases x : p < 70 ∧ σ.2.1 2 p = nI (q + 1)
  · rw [if_pos x, x.2]
    exact ⟨fun y => absurd y.symm (ow_0 hb), fun y => absurd (ow_i hq hb y).symm e⟩
  · rw [if_neg x]
theorem g_n {A : Nat → Nat} {tm : Nat → Int32} {h : Nat → Nat → Option Nat} {sp : Nat → Nat → Int32} {σ : rs_S} {i : Nat} {u f g : Nat → Int32} (hJ : gJ σ) (hL : gL A tm h sp σ) (hi : i < 3) (hz : ∀ t, fz_h (σ.2.1 17) (σ.2.1 18) (σ.2.1 19) t ↔ fz_h u f g t) : (so_n (sO i) u f g (h i) tm (sN i) = -1 ∧ mv_o σ (nI i) = none) ∨ ∃ q, q < 70 ∧ stp q = i ∧ 0 ≤ σ.2.1 4 q ∧ so_n (sO i) u f g (h i) tm (sN i) = σ.2.1 4 q ∧ mv_o σ (nI i) = some q := by
  have em : ∀ b, mv_m σ (nI i) b = true ↔ 0 ≤ σ.2.1 4 b ∧ ¬ so_z (sO i) u f g (σ.2.1 4 b) := by
    intro b
    simp only [mv_m, Bool.and_eq_true, Bool.or_eq_true, decide_eq_true_eq, Bool.not_eq_true', so_z, ← hz, ← mz_c]
    rcases i3 hi with rfl | rfl | rfl
    · have e1 : ¬ (0 : Int32) < nI 0 := by decide
      have e2 : sO 0 ≠ 0 := by decide
      cases mz_t σ (σ.2.1 4 b) <;> simp [e1, e2]
    · have e1 : (0 : Int32) < nI 1 := by decide
      have e2 : ¬ sO 1 ≠ 0 := by decide
      simp [e1, e2]
    · have e1 : (0 : Int32) < nI 2 := by decide
      have e2 : ¬ sO 2 ≠ 0 := by decide
      simp [e1, e2]
  have eo : mv_o σ (nI i) = fo_f (mv_f σ (nI i)) (sL i) (sN i) none := by rw [mv_o, sL_n hi, sL_lo hi]
  have hS : ∀ t, (∃ p, p < sN i ∧ ∃ z, h i p = some z ∧ ¬ so_z (sO i) u f g (tm z) ∧ tm z = t) ↔ ∃ b, sL i ≤ b ∧ b < sL i + sN i ∧ mv_m σ (nI i) b = true ∧ σ.2.1 4 b = t := by
    intro t
    constructor
    · rintro ⟨p, hp, z, hz1, hz2, rfl⟩
      rcases gV hJ.1 hL hi hp with a | ⟨b, b1, b2, b3, b4, b5, b6⟩
      · rw [a.2] at hz1; cases hz1
      · rw [b4] at hz1; cases hz1
        have := stp_in b1
        rw [b2] at this
        exact ⟨b, this.1, this.2, (em b).mpr ⟨b5, by rw [← b6]; exact hz2⟩, b6.symm⟩
    · rintro ⟨b, b1, b2, b3, rfl⟩
      obtain ⟨c1, c2⟩ := (em b).mp b3
      obtain ⟨s1, s2⟩ := stp_of hi b1 b2
      obtain ⟨p, q1, q2, q3⟩ := gW hJ hL hi s2 s1 c1
      have et := hL.1 b s2 c1
      exact ⟨p, q1, _, q3, by rw [et]; exact c2, et⟩
  have hM := is_mn_c hS (so_n_mn (ob := sO i) (u := u) (f := f) (g := g) (gP hJ hL hi))
  cases ho : mv_o σ (nI i) with
  | none =>
    refine .inl ⟨?_, rfl⟩
    rcases hM with ⟨a, _⟩ | ⟨⟨b, b1, b2, b3, _⟩, _⟩
    · exact a
    · exact absurd b3 (mv_no σ (nI i) _ _ (eo.symm.trans ho) b b1 b2)
  | some q =>
    rw [eo] at ho
    obtain ⟨q1, q2, q3⟩ := mv_in σ (nI i) _ _ _ ho
    obtain ⟨s1, s2⟩ := stp_of hi q1 q2
    refine .inr ⟨q, s2, s1, ((em q).mp q3).1, ?_, rfl⟩
    refine is_mn_u hM (.inr ⟨⟨q, q1, q2, q3, rfl⟩, ?_⟩)
    rintro t ⟨b, b1, b2, b3, rfl⟩
    exact mv_mn σ (nI i) _ _ _ ho b b1 b2 b3
theorem g_ks {A : Nat → Nat} {tm : Nat → Int32} {sp : Nat → Nat → Int32} {i : Nat} {u f g : Nat → Int32} {pg : Nat} (hi : i < 3) : ∀ (m e e' : Nat) (σ : rs_S) (h : Nat → Nat → Option Nat), mv_n σ (nI i) = m → m ≤ e → m < e' → gJ σ → gL A tm h sp σ → (∀ t, fz_h (σ.2.1 17) (σ.2.1 18) (σ.2.1 19) t ↔ fz_h u f g t) →
    (so_ks (sO i) u f g tm (sN i) pg e (h i)).1 = (mv_r (nI i) pg e' σ).1 ∧ gJ (mv_r (nI i) pg e' σ).2 ∧ gL A tm (va_up h i (so_ks (sO i) u f g tm (sN i) pg e (h i)).2) sp (mv_r (nI i) pg e' σ).2 ∧ gK σ (mv_r (nI i) pg e' σ).2 ∧ ((mv_r (nI i) pg e' σ).1 = true → pg ≤ mf_fp (mv_r (nI i) pg e' σ).2 (nI i)) := by
  intro m
  induction m with
  | zero =>
    intro e e' σ h hm he he' hJ hL hz
    obtain ⟨e', rfl⟩ : ∃ k, e' = k + 1 := ⟨e' - 1, by omega⟩
    have hf := g_fp hJ hL hi
    have hn : mv_o σ (nI i) = none := by
      cases ho : mv_o σ (nI i) with
      | none => rfl
      | some q => have := mv_dec ho; omega
    have hn2 : so_n (sO i) u f g (h i) tm (sN i) = -1 := by
      rcases g_n hJ hL hi hz with ⟨a, _⟩ | ⟨q, _, _, _, _, a⟩
      · exact a
      · rw [hn] at a; cases a
    have hv : va_up h i (h i) = h := va_us rfl
    by_cases hp : pg ≤ mf_fp σ (nI i)
    · have e1 : mv_r (nI i) pg (e' + 1) σ = (true, σ) := by rw [mv_r, if_pos hp]
      have e2 : so_ks (sO i) u f g tm (sN i) pg e (h i) = (true, h i) := by
        cases e with
        | zero => rw [so_ks, hf, decide_eq_true hp]
        | succ e => rw [so_ks, hf, if_neg (by omega)]
      rw [e1, e2, hv]
      exact ⟨rfl, hJ, hL, gK_r σ, fun _ => hp⟩
    · have e1 : mv_r (nI i) pg (e' + 1) σ = (false, σ) := by rw [mv_r, if_neg hp, hn]
      have e2 : so_ks (sO i) u f g tm (sN i) pg e (h i) = (false, h i) := by
        cases e with
        | zero => rw [so_ks, hf, decide_eq_false hp]
        | succ e => rw [so_ks, hf, if_pos (by omega), if_pos hn2]
      rw [e1, e2, hv]
      exact ⟨rfl, hJ, hL, gK_r σ, fun x => by cases x⟩
  | succ m ih =>
    intro e e' σ h hm he he' hJ hL hz
    obtain ⟨e, rfl⟩ : ∃ k, e = k + 1 := ⟨e - 1, by omega⟩
    obtain ⟨e', rfl⟩ : ∃ k, e' = k + 1 := ⟨e' - 1, by omega⟩
    have hf := g_fp hJ hL hi
    have hv : va_up h i (h i) = h := va_us rfl
    by_cases hp : pg ≤ mf_fp σ (nI i)
    · have e1 : mv_r (nI i) pg (e' + 1) σ = (true, σ) := by rw [mv_r, if_pos hp]
      have e2 : so_ks (sO i) u f g tm (sN i) pg (e + 1) (h i) = (true, h i) := by rw [so_ks, hf, if_neg (by omega)]
      rw [e1, e2, hv]
      exact ⟨rfl, hJ, hL, gK_r σ, fun _ => hp⟩
    · rcases g_n hJ hL hi hz with ⟨a, b⟩ | ⟨q, q1, q2, q3, q4, q5⟩
      · have e1 : mv_r (nI i) pg (e' + 1) σ = (false, σ) := by rw [mv_r, if_neg hp, b]
        have e2 : so_ks (sO i) u f g tm (sN i) pg (e + 1) (h i) = (false, h i) := by rw [so_ks, hf, if_pos (by omega), if_pos a]
        rw [e1, e2, hv]
        exact ⟨rfl, hJ, hL, gK_r σ, fun x => by cases x⟩
      · have e1 : mv_r (nI i) pg (e' + 1) σ = mv_r (nI i) pg e' (mo_t σ q) := by rw [mv_r, if_neg hp, q5]
        have e2 : so_ks (sO i) u f g tm (sN i) pg (e + 1) (h i) = so_ks (sO i) u f g tm (sN i) pg e (so_t tm (σ.2.1 4 q) (sN i) (h i)) := by
          rw [so_ks, hf, if_pos (by omega), if_neg (fun x => by rw [q4] at x; rw [x] at q3; exact m1_neg q3), q4]
        have hd := mv_dec q5
        have k := ih e e' (mo_t σ q) (va_up h i (so_t tm (σ.2.1 4 q) (sN i) (h i))) (by omega) (by omega) (by omega) (gJ_out hJ.1 hJ.2.1 (gJ_x q hJ) q1) (gL_out hJ.1 hL hi q1 q2 q3) (fun t => by rw [mo_k _ _ (by decide) (by decide), mo_k _ _ (by decide) (by decide), mo_k _ _ (by decide) (by decide)]; exact hz t)
        rw [va_up_self, va_uu] at k
        rw [e1, e2]
        exact ⟨k.1, k.2.1, k.2.2.1, gK_t (gK_o q1) k.2.2.2.1, k.2.2.2.2⟩
theorem mv_n_le (σ : rs_S) {i : Nat} (hi : i < 3) : mv_n σ (nI i) ≤ sN i := by
  rw [mv_n, sL_n hi]
  exact ct_le _ _ _
/- what the freezes hold -/
def gS (σ : rs_S) : Prop := ∀ b, b < 40 → 0 ≤ σ.2.1 4 b → σ.2.1 5 b = nI (sm (fun p => if σ.2.1 2 p = nI (b + 1) then 1 else 0) 0 40)
theorem gS_k {σ τ : rs_S} (hS : gS σ) (k : gK σ τ) : gS τ := by
  intro b hb h0
  obtain ⟨e1, e2⟩ := k.2.2.2 b (by omega) h0
  rw [k.2.1 5 (by decide) (by decide), hS b hb (by rw [← e1]; exact h0)]
  congr 1
  refine sm_c _ (fun p _ _ => ?_)
  by_cases x : σ.2.1 2 p = nI (b + 1)
  · rw [if_pos x, if_pos ((e2 p).mpr x)]
  · rw [if_neg x, if_neg (fun y => x ((e2 p).mp y))]
theorem g_held {A : Nat → Nat} {tm : Nat → Int32} {h : Nat → Nat → Option Nat} {sp : Nat → Nat → Int32} {σ : rs_S} {u f g : Nat → Int32} (hJ : gJ σ) (hL : gL A tm h sp σ) (hS : gS σ) (hz : ∀ t, fz_h (σ.2.1 17) (σ.2.1 18) (σ.2.1 19) t ↔ fz_h u f g t) : fo_f (me_1 σ) 0 40 0 = nI (so_h (sO 0) u f g (h 0) tm (sN 0)) := by
  have hi : 0 < 3 := by decide
  have a1 : ∀ n, n ≤ 40 → fo_f (me_1 σ) 0 n 0 = nI (sm (fun b => if 0 ≤ σ.2.1 4 b ∧ mz_t σ (σ.2.1 4 b) = true then sm (fun p => if σ.2.1 2 p = nI (b + 1) then 1 else 0) 0 40 else 0) 0 n) := by
    intro n
    induction n with
    | zero => intro _; rfl
    | succ n ih =>
      intro hn
      rw [fo_s, me_1, ih (by omega), sm, Nat.zero_add]
      by_cases x : 0 ≤ σ.2.1 4 n ∧ mz_t σ (σ.2.1 4 n) = true
      · rw [if_pos x, if_pos x, hS n (by omega) x.1, nI_add]
      · rw [if_neg x, if_neg x, Nat.add_zero]
  rw [a1 40 (Nat.le_refl _), so_h_sm]
  congr 1
  have e1 : sm (fun b => if 0 ≤ σ.2.1 4 b ∧ mz_t σ (σ.2.1 4 b) = true then sm (fun p => if σ.2.1 2 p = nI (b + 1) then 1 else 0) 0 40 else 0) 0 40 = sm (fun b => sm (fun p => if 0 ≤ σ.2.1 4 b ∧ mz_t σ (σ.2.1 4 b) = true then (if σ.2.1 2 p = nI (b + 1) then 1 else 0) else 0) 0 40) 0 40 := by
    refine sm_c _ (fun b _ _ => ?_)
    by_cases x : 0 ≤ σ.2.1 4 b ∧ mz_t σ (σ.2.1 4 b) = true
    · rw [if_pos x]
      exact sm_c _ (fun p _ _ => by rw [if_pos x])
    · rw [if_neg x]
      exact (sm_0 _ (fun p _ _ => if_neg x)).symm
  rw [e1, sm_sw]
  refine sm_c (g := fun p => so_hf (sO 0) u f g (h 0) tm p 0) _ (fun p _ hp => ?_)
  have l0 : sL 0 = 0 := rfl
  rcases gV hJ.1 hL hi (p := p) (by show p < 40; omega) with a | ⟨b, b1, b2, b3, b4, b5, b6⟩
  · rw [so_hf, a.2]
    rw [l0, Nat.zero_add] at a
    refine sm_0 _ (fun b _ hb => ?_)
    rw [a.1]
    by_cases x : 0 ≤ σ.2.1 4 b ∧ mz_t σ (σ.2.1 4 b) = true
    · rw [if_pos x, if_neg (fun e => ow_0 (by omega) e.symm)]
    · rw [if_neg x]
  · have hb := stp_in b1
    rw [b2] at hb
    have hb40 : b < 40 := hb.2
    rw [l0, Nat.zero_add] at b3
    rw [sm_1 (q := b) _ (Nat.zero_le _) (by omega), so_hf, b4]
    · have ez : mz_t σ (σ.2.1 4 b) = true ↔ so_z (sO 0) u f g (tm (A b)) := by
        rw [mz_c, hz, b6]
        exact ⟨fun e => ⟨by decide, e⟩, fun e => e.2⟩
      by_cases x : so_z (sO 0) u f g (tm (A b))
      · rw [if_pos ⟨b5, ez.mpr x⟩, if_pos b3]
        exact (if_pos x).symm
      · rw [if_neg (fun e => x (ez.mp e.2))]
        exact (if_neg x).symm
    · intro c _ c1 c2
      rw [b3, if_neg (c := nI (b + 1) = nI (c + 1)) (fun e => c2 (ow_i b1 (by omega) e).symm)]
      split <;> rfl
theorem g_kf {A : Nat → Nat} {h : Nat → Nat → Option Nat} {sp : Nat → Nat → Int32} {σ : rs_S} {u f g : Nat → Int32} {β : Nat → bd_T} {uw nw : Nat} (hJ : gJ σ) (hL : gL A (d_tm β) h sp σ) (hS : gS σ) (hz : ∀ t, fz_h (σ.2.1 17) (σ.2.1 18) (σ.2.1 19) t ↔ fz_h u f g t) (hw : d_tm β uw = nI nw) : me_n σ nw = nI (kf_n u f g β uw h) := by
  rw [me_n, g_held hJ hL hS hz, kf_n]
  generalize so_h (sO 0) u f g (h 0) (d_tm β) (sN 0) = c
  have : ∀ n, fo_f (me_2 σ) nw n (nI c) = nI (fo_f (kf_f u f g (d_tm β uw)) 0 n c) := by
    intro n
    induction n with
    | zero => rfl
    | succ n ih =>
      rw [fo_s, fo_s, ih, me_2, kf_f, hw, Nat.zero_add, nI_add]
      by_cases x : fz_h u f g (nI (nw + n))
      · rw [if_pos x, if_pos ((mz_c σ _).mpr ((hz _).mpr x))]
        exact nI_add _ 5
      · rw [if_neg x, if_neg (fun e => x ((hz _).mp ((mz_c σ _).mp e)))]
  exact this 10
