/-! Pure rows: replay. -/
theorem rs_fv (σ : rs_S) (j : Nat) (x : Int32) : (rs_f σ j x).1 j = x := by
  show va_up σ.1 j x j = x
  rw [va_up_self]
theorem rs_fn (σ : rs_S) {j i : Nat} (x : Int32) (h : i ≠ j) : (rs_f σ j x).1 i = σ.1 i := by
  show va_up σ.1 j x i = _
  rw [va_up_ne _ _ h]
theorem gR_p {A : Nat → Nat} {β : Nat → bd_T} {ρ : Nat → Nat → Int32} {h : Nat → Nat → Option Nat} {sp : Nat → Nat → Int32} {σ τ : rs_S} (e2 : τ.2.1 2 = σ.2.1 2) (e3 : τ.2.1 3 = σ.2.1 3) (eb : ∀ k b, b < 70 → (k = 4 ∨ k = 5 ∨ k = 6 ∨ k = 11 ∨ k = 12 ∨ k = 14) → τ.2.1 k b = σ.2.1 k b) (e8 : ∀ j, j < 560 → τ.2.1 10 j = σ.2.1 10 j ∧ τ.2.1 13 j = σ.2.1 13 j) (e7 : ∀ j, j < 280 → τ.2.1 7 j = σ.2.1 7 j ∧ τ.2.2 j = σ.2.2 j) (hR : gR A β ρ h sp σ) : gR A β ρ h sp τ := by
  obtain ⟨⟨hO, hN, hX⟩, hL, hS, hC⟩ := hR
  have e4 : ∀ b, b < 70 → τ.2.1 4 b = σ.2.1 4 b := fun b hb => eb 4 b hb (by omega)
  refine ⟨⟨fun p hp => ?_, fun b hb => ?_, fun b hb h0 => ?_⟩, ⟨fun b hb h0 => ?_, ?_, ?_, fun b c hb hc h1 h2 h3 => ?_⟩, fun b hb h0 => ?_, fun b hb h0 => ?_⟩
  · rw [e2]
    rcases hO p hp with a | ⟨c, c1, c2, c3, c4⟩
    · exact .inl a
    · exact .inr ⟨c, c1, c2, c3, by rw [e4 c c1]; exact c4⟩
  · rw [e4 b hb]; exact hN b hb
  · rw [e4 b hb] at h0; rw [e2]; exact hX b hb h0
  · rw [e4 b hb] at h0 ⊢; exact hL.1 b hb h0
  · rw [e2]; exact hL.2.1
  · rw [e3]; exact hL.2.2.1
  · rw [e4 b hb] at h2 h3; rw [e4 c hc] at h3; exact hL.2.2.2 b c hb hc h1 h2 h3
  · rw [e4 b (by omega)] at h0; rw [eb 5 b (by omega) (by omega), e2]; exact hS b hb h0
  · rw [e4 b hb] at h0
    obtain ⟨a1, a2, a3, a4, a5, a6, a7⟩ := hC b hb h0
    refine ⟨?_, a2, fun q hq => ?_, fun k hk => ?_, ?_, fun pa hp => ?_, ?_⟩
    · rw [eb 6 b hb (by omega)]; exact a1
    · rw [(e7 _ (by omega)).1, (e7 _ (by omega)).2]; exact a3 q hq
    · rw [(e8 _ (by omega)).1]; exact a4 k hk
    · rw [eb 11 b hb (by omega)]; exact a5
    · obtain ⟨p1, p2, p3⟩ := a6 pa hp
      refine ⟨by rw [eb 12 b hb (by omega)]; exact p1, p2, fun r hr => ?_⟩
      rw [(e8 _ (by omega)).2]; exact p3 r hr
    · rw [eb 14 b hb (by omega)]; exact a7
/- the reference's look keeps all but what it shows -/
def lkS (σ τ : rs_S) : Prop := (∀ j, j ≠ 6 → τ.1 j = σ.1 j) ∧ (∀ k, k ≠ 20 → τ.2.1 k = σ.2.1 k) ∧ τ.2.2 = σ.2.2
theorem lkS_t {σ τ υ : rs_S} (a : lkS σ τ) (b : lkS τ υ) : lkS σ υ := ⟨fun j hj => (b.1 j hj).trans (a.1 j hj), fun k hk => (b.2.1 k hk).trans (a.2.1 k hk), b.2.2.trans a.2.2⟩
theorem lk_cs (q : Nat) : ∀ (n : Nat) (τ : rs_S), lkS τ (fo_f (lk_c q) 0 n τ) ∧ (fo_f (lk_c q) 0 n τ).1 = τ.1 ∧ ∀ j, (fo_f (lk_c q) 0 n τ).2.1 20 j = if j < n then τ.2.1 13 (8 * q + j) else τ.2.1 20 j := by
  intro n
  induction n with
  | zero => intro τ; exact ⟨⟨fun _ _ => rfl, fun _ _ => rfl, rfl⟩, rfl, fun j => rfl⟩
  | succ n ih =>
    intro τ
    obtain ⟨⟨a1, a2, a3⟩, a4, a5⟩ := ih τ
    rw [fo_s, Nat.zero_add]
    generalize fo_f (lk_c q) 0 n τ = υ at a1 a2 a3 a4 a5
    refine ⟨⟨a1, fun k hk => ?_, a3⟩, a4, fun j => ?_⟩
    · rw [lk_c, rs_an _ _ hk]; exact a2 k hk
    · rw [lk_c, rs_av]
      by_cases e : j = n
      · rw [e, pk_us, if_pos (by omega), a2 13 (by decide)]
      · rw [pk_un e, a5]
        by_cases y : j < n
        · rw [if_pos y, if_pos (by omega)]
        · rw [if_neg y, if_neg (by omega)]
theorem mi_cg {σ τ : rs_S} {o : Nat} (h : ∀ k, k ≠ 20 → τ.2.1 k = σ.2.1 k) : mi_r τ o = mi_r σ o := by
  rw [Bool.eq_iff_iff, mi_c, mi_c, h 2 (by decide), h 3 (by decide), h 4 (by decide)]
theorem mu_cg {σ τ : rs_S} {st t : Int32} (h : ∀ k, k ≠ 20 → τ.2.1 k = σ.2.1 k) : mu_b τ st t = mu_b σ st t := by
  have e : mu_f τ t = mu_f σ t := by
    funext p o
    rw [mu_f, mu_f, mi_cg h, h 4 (by decide)]
  rw [mu_b, mu_b, e]
/-- what is known while looking: the class's and the reference's -/
def lkR (ρ : Nat → Nat → Int32) (c : Option Nat × Int32) (x : Int32 × rs_S) : Prop := (x.2.1 6 = 0 ↔ c.1 = none) ∧ (x.2.1 6 ≠ 0 → c.2 = x.1) ∧ (x.2.1 6 = 0 → c.2 = -1) ∧ (∀ p, c.1 = some p → ∀ r, r < 8 → x.2.2.1 20 r = ρ p r)
theorem lk_step {A : Nat → Nat} {β : Nat → bd_T} {ρ ρ' : Nat → Nat → Int32} {h : Nat → Nat → Option Nat} {sp : Nat → Nat → Int32} {σ : rs_S} {i s : Nat} {c : Option Nat × Int32} {x : Int32 × rs_S} (hi : i < 3) (hR : gR A β ρ h sp σ) (hs : ∀ b, b < 70 → 0 ≤ σ.2.1 4 b → ∀ pa, d_po β (A b) = some pa → ρ' pa = ρ pa) (hk : lkS σ x.2) (hl : lkR ρ' c x) : lkS σ (lk_f (nI i) s x).2 ∧ lkR ρ' (so_pf (h i) (d_tm β) (sp i) (sN i) (d_po β) (d_ba β) (nI s) c) (lk_f (nI i) s x) := by
  obtain ⟨hJ, hL, hS, hC⟩ := hR
  have em : mu_b x.2 (nI i) (nI s) = mu_b σ (nI i) (nI s) := mu_cg hk.2.1
  rcases g_r hJ hL hi (nI s) with ⟨a, b⟩ | ⟨q, q1, q2, q3, q4, q5, q6, q7, q8⟩
  · have e1 : lk_f (nI i) s x = x := by rw [lk_f, em, b]
    have e2 : so_pf (h i) (d_tm β) (sp i) (sN i) (d_po β) (d_ba β) (nI s) c = c := by rw [so_pf, a]
    rw [e1, e2]
    exact ⟨hk, hl⟩
  · have h0 : 0 ≤ σ.2.1 4 q := by rw [q6]; exact q5
    obtain ⟨a1, a2, a3, a4, a5, a6, a7⟩ := hC q q1 h0
    have e11 : x.2.2.1 11 q = σ.2.1 11 q := by rw [hk.2.1 11 (by decide)]
    cases hp : d_po β (A q) with
    | none =>
      have e1 : lk_f (nI i) s x = x := by
        rw [lk_f, em, q3]
        exact if_pos (by rw [e11, a5, if_pos hp])
      have e2 : so_pf (h i) (d_tm β) (sp i) (sN i) (d_po β) (d_ba β) (nI s) c = c := by rw [so_pf, q4]; show (match d_po β (A q) with | none => c | some pa => _) = c; rw [hp]
      rw [e1, e2]
      exact ⟨hk, hl⟩
    | some pa =>
      obtain ⟨p1, p2, p3⟩ := a6 pa hp
      have hn : ¬ x.2.2.1 11 q = 0 := by rw [e11, a5, if_neg (by rw [hp]; exact fun e => by cases e)]; decide
      have e1 : lk_f (nI i) s x = (nI s, fo_f (lk_c q) 0 8 (rs_f x.2 6 (lk_k x.2 x.1 q))) := by
        rw [lk_f, em, q3]
        exact if_neg hn
      have e2 : so_pf (h i) (d_tm β) (sp i) (sN i) (d_po β) (d_ba β) (nI s) c = if d_ba β (A q) = -1 ∨ d_ba β (A q) = c.2 then (some pa, d_tm β (A q)) else (none, -1) := by
        rw [so_pf, q4]
        show (match d_po β (A q) with | none => c | some pa => if d_ba β (A q) = -1 ∨ d_ba β (A q) = c.2 then (some pa, d_tm β (A q)) else (none, -1)) = _
        rw [hp]
      have e12 : x.2.2.1 12 q = d_ba β (A q) := by rw [hk.2.1 12 (by decide)]; exact p1
      have hd : (d_ba β (A q) = -1 ∨ d_ba β (A q) = c.2) ↔ (x.2.2.1 12 q < 0 ∨ (x.2.1 6 ≠ 0 ∧ x.1 = x.2.2.1 12 q)) := by
        rw [e12]
        constructor
        · rintro (e | e)
          · rw [e]; exact .inl (by decide)
          · rcases p2 with y | y
            · rw [y]; exact .inl (by decide)
            · by_cases z : x.2.1 6 = 0
              · rw [hl.2.2.1 z] at e; rw [e] at y; exact absurd y m1_neg
              · exact .inr ⟨z, by rw [e, hl.2.1 z]⟩
        · rintro (e | ⟨e, e'⟩)
          · rcases p2 with y | y
            · exact .inl y
            · exact absurd e (Int32.not_lt.mpr y)
          · exact .inr (by rw [← e', hl.2.1 e])
      obtain ⟨⟨f1, f2, f3⟩, f4, f5⟩ := lk_cs q 8 (rs_f x.2 6 (lk_k x.2 x.1 q))
      rw [e1, e2]
      generalize fo_f (lk_c q) 0 8 (rs_f x.2 6 (lk_k x.2 x.1 q)) = υ at f1 f2 f3 f4 f5
      have g6 : υ.1 6 = lk_k x.2 x.1 q := by rw [f4]; exact rs_fv _ _ _
      have g20 : ∀ r, r < 8 → υ.2.1 20 r = ρ' pa r := fun r hr => by
        rw [f5, if_pos hr]
        show x.2.2.1 13 (8 * q + r) = _
        rw [hk.2.1 13 (by decide), p3 r hr, hs q q1 h0 pa hp]
      refine ⟨⟨fun j hj => ?_, fun k hk' => ?_, ?_⟩, ?_⟩
      · show υ.1 j = σ.1 j
        rw [f4]
        show va_up x.2.1 6 _ j = _
        rw [va_up_ne _ _ hj]; exact hk.1 j hj
      · exact (f2 k hk').trans (hk.2.1 k hk')
      · exact f3.trans hk.2.2
      · by_cases y : d_ba β (A q) = -1 ∨ d_ba β (A q) = c.2
        · have k1 : υ.1 6 = 1 := by rw [g6, lk_k, if_pos (hd.mp y)]
          rw [if_pos y]
          refine ⟨⟨fun e => ?_, fun e => by cases e⟩, fun _ => q7, fun e => ?_, fun p hp' r hr => ?_⟩
          · have : υ.1 6 = 0 := e
            rw [k1] at this; exact absurd this (by decide)
          · have : υ.1 6 = 0 := e
            rw [k1] at this; exact absurd this (by decide)
          · cases hp'; exact g20 r hr
        · have k0 : υ.1 6 = 0 := by rw [g6, lk_k, if_neg (fun e => y (hd.mpr e))]
          rw [if_neg y]
          refine ⟨⟨fun _ => rfl, fun _ => k0⟩, fun e => absurd k0 e, fun _ => rfl, fun p hp' => by cases hp'⟩
theorem lk_all {A : Nat → Nat} {β : Nat → bd_T} {ρ ρ' : Nat → Nat → Int32} {h : Nat → Nat → Option Nat} {sp : Nat → Nat → Int32} {σ : rs_S} {i T : Nat} (hi : i < 3) (hR : gR A β ρ h sp σ) (hs : ∀ b, b < 70 → 0 ≤ σ.2.1 4 b → ∀ pa, d_po β (A b) = some pa → ρ' pa = ρ pa) : ∀ (n s : Nat) (c : Option Nat × Int32) (x : Int32 × rs_S), s + n = T + 1 → lkS σ x.2 → lkR ρ' c x → lkS σ (fo_f (lk_f (nI i)) s n x).2 ∧ lkR ρ' (so_ps (h i) (d_tm β) (sp i) (sN i) (d_po β) (d_ba β) T n c) (fo_f (lk_f (nI i)) s n x) := by
  intro n
  induction n with
  | zero => intro s c x _ a b; exact ⟨a, b⟩
  | succ n ih =>
    intro s c x hn a b
    have step : ∀ (n : Nat) (y : Int32 × rs_S), fo_f (lk_f (nI i)) s (n + 1) y = fo_f (lk_f (nI i)) (s + 1) n (lk_f (nI i) s y) := by
      intro n
      induction n with
      | zero => intro y; rfl
      | succ n ihn => intro y; rw [fo_s, ihn, fo_s, show s + (n + 1) = s + 1 + n by omega]
    rw [step, so_ps, show T - n = s by omega]
    obtain ⟨k1, k2⟩ := lk_step (s := s) hi hR hs a b
    exact ih (s + 1) _ _ (by omega) k1 k2
section Calls4
variable {uw : Nat} {fo : Option Nat} {ca : Nat} {co : Int32} {lo : Nat} {lc : Int32} {kn : Option Nat} {on cut : Int32} {u f g fl : Nat → Int32} {h : Nat → Nat → Option Nat} {sp : Nat → Nat → Int32} {β : Nat → bd_T} {ρ : Nat → Nat → Int32} {D P : Nat → Prop} {σ : rs_S} {sz : Nat}
theorem R_replay0 (hR : RR uw fo ca co lo lc kn on cut u f g fl h sp β ρ σ) (i t : Int32) (hr : (0 ≤ i ∧ i < 3) → ka_r h sp (d_tm β) i.toNatClampNeg t = none) : (-1 : Int32) = (ms_replay σ i t).1 ∧ RR uw fo ca co lo lc kn on cut u f g fl h sp β ρ (ms_replay σ i t).2 := by
  have e : mu_b σ i t = none := by
    obtain ⟨A, hJ, hL, hS, hC⟩ := hR.1
    by_cases a : 0 ≤ i ∧ i < 3
    · have hr' := hr a
      obtain ⟨j, j1, rfl⟩ := nI_lift (n := 3) a.1 a.2 (by decide)
      rw [nI_clamp (by omega)] at hr'
      rcases g_r hJ hL j1 t with ⟨x, y⟩ | ⟨b, b1, b2, b3, b4, _⟩
      · exact y
      · rw [ka_r, b4] at hr'; cases hr'
    · exact mu_no3 σ a
  rw [ms_replay, e]
  exact ⟨rfl, RR_0 0 hR⟩
theorem R_replay1 (hC : Cp sz uw fo ca lo kn on h β D P) (hR : RR uw fo ca co lo lc kn on cut u f g fl h sp β ρ σ) {j : Nat} (hj : j < 3) {T : Nat} (hT : T < 10000) {z : Nat} (hr : ka_r h sp (d_tm β) j (nI T) = some z) : nI (d_sn β z) = (ms_replay σ (nI j) (nI T)).1 ∧ RR uw fo ca co z (nI (sC j)) (so_p (h j) (d_tm β) (sp j) (sN j) (d_po β) (d_ba β) T sz) on cut u f g fl h sp β (va_up ρ sz (fun _ => 0)) (ms_replay σ (nI j) (nI T)).2 := by
  have pne : ∀ p, P p → va_up ρ sz (fun _ => 0) p = ρ p := fun p hp => va_up_ne _ _ (by have := hC.2.2.2.2.2.2.2.1 p hp; omega)
  obtain ⟨⟨A, gRr⟩, r2, r3⟩ := RR_b (β' := β) (ρ' := va_up ρ sz (fun _ => 0)) hC hR (fun _ _ => rfl) (fun p hp _ => pne p hp)
  obtain ⟨A0, gR0⟩ := hR.1
  obtain ⟨_, a2, a3, a4, a5, a6, a7⟩ := hR
  obtain ⟨hJ, hL, hS, hCn⟩ := id gRr
  rcases g_r hJ hL hj (nI T) with ⟨x, y⟩ | ⟨q, q1, q2, q3, q4, q5, q6, q7, q8⟩
  · rw [ka_r, x] at hr; cases hr
  · rw [ka_r, q4] at hr
    cases hr
    have h0 : 0 ≤ σ.2.1 4 q := by rw [q6]; exact q5
    obtain ⟨n1, n2, n3, n4, n5, n6, n7⟩ := hCn q q1 h0
    obtain ⟨m1, m2, m3, m4, m5, m6, m7, m8⟩ := my_cs (rs_f σ 0 0) q 71 (by omega)
    have em : ms_replay σ (nI j) (nI T) = ((my_c σ q 71).2.1 6 q, lk_r (rs_f (my_c (rs_f σ 0 0) q 71) 5 1) (nI j) T) := by
      rw [ms_replay, q3, nI_clamp (by omega)]
    have ea : (my_c σ q 71).2.1 6 q = nI (d_sn β (A q)) := by
      rw [(my_cs σ q 71 (by omega)).2.1 6 (by omega), pk_un (by omega)]; exact n1
    rw [em, ea]
    refine ⟨rfl, ?_⟩
    generalize my_c (rs_f σ 0 0) q 71 = υ at m1 m2 m3 m4 m5 m6 m7 m8
    have mn : ∀ k, (k = 4 ∨ k = 5 ∨ k = 6 ∨ k = 11 ∨ k = 12 ∨ k = 14) → υ.2.1 k = upd (σ.2.1 k) 71 (σ.2.1 k q) := m2
    have mo : ∀ k, (k < 4 ∨ 14 < k) → υ.2.1 k = σ.2.1 k := m8
    have m3' : υ.2.1 13 = cpA (σ.2.1 13) (8 * q) 568 8 := m3
    have m4' : υ.2.1 10 = cpA (σ.2.1 10) (8 * q) 568 8 := m4
    have m5' : υ.2.1 7 = cpA (σ.2.1 7) (4 * q) 284 4 := m5
    have m6' : υ.2.2 = cpA σ.2.2 (4 * q) 284 4 := m6
    have m7' : υ.2.1 9 = upd (upd (σ.2.1 9) 142 (σ.2.1 9 (2 * q))) 143 (σ.2.1 9 (2 * q + 1)) := m7
    -- the state before looking
    have v1 : ∀ k, k ≠ 0 → k ≠ 5 → (rs_f υ 5 1).1 k = σ.1 k := fun k k0 k5 => by
      show va_up υ.1 5 1 k = _
      rw [va_up_ne _ _ k5, m1]
      exact va_up_ne _ _ k0
    have gRu : gR A β (va_up ρ sz (fun _ => 0)) h sp (rs_f υ 5 1) := by
      refine gR_p (σ := σ) (mo 2 (by omega)) (mo 3 (by omega)) (fun k b hb hk => ?_) (fun j hj => ⟨?_, ?_⟩) (fun j hj => ⟨?_, ?_⟩) gRr
      · show υ.2.1 k b = _
        rw [mn k hk, pk_un (by omega)]
      · show υ.2.1 10 j = _
        rw [m4', cpA_out _ _ _ _ _ (by omega)]
      · show υ.2.1 13 j = _
        rw [m3', cpA_out _ _ _ _ _ (by omega)]
      · show υ.2.1 7 j = _
        rw [m5', cpA_out _ _ _ _ _ (by omega)]
      · show υ.2.2 j = _
        rw [m6', cpA_out _ _ _ _ _ (by omega)]
    obtain ⟨z1, z2, z3, z4⟩ := mc_zs 0 20 8 0 (rs_f (rs_f υ 5 1) 6 1)
    have look := lk_all (T := T) (ρ' := va_up ρ sz (fun _ => 0)) hj gRu (fun _ _ _ _ _ => rfl) (T % 10 + 1) (T / 10 * 10) (some sz, -1) (-1, lk_0 (rs_f υ 5 1)) (by omega) (by
      rw [lk_0]
      refine ⟨fun k hk => ?_, fun k hk => z2 k hk, z4⟩
      show (fo_f (mc_z 0 20) 0 8 (rs_f (rs_f υ 5 1) 6 1)).1 k = _
      rw [z3]
      exact va_up_ne _ _ hk) (by
      have k6 : (lk_0 (rs_f υ 5 1)).1 6 = 1 := by
        rw [lk_0, z3]
        exact rs_fv _ _ _
      refine ⟨⟨fun e => ?_, fun e => by cases e⟩, fun _ => rfl, fun _ => rfl, fun p hp r hr => ?_⟩
      · have : (lk_0 (rs_f υ 5 1)).1 6 = 0 := e
        rw [k6] at this; exact absurd this (by decide)
      · cases hp
        show (lk_0 (rs_f υ 5 1)).2.1 20 r = _
        rw [lk_0, z1, if_pos ⟨by omega, by omega⟩, va_up_self])
    have el : lk_r (rs_f υ 5 1) (nI j) T = (fo_f (lk_f (nI j)) (T / 10 * 10) (T % 10 + 1) (-1, lk_0 (rs_f υ 5 1))).2 := by
      rw [lk_r, show T + 1 - T / 10 * 10 = T % 10 + 1 by omega]
    have ep : so_p (h j) (d_tm β) (sp j) (sN j) (d_po β) (d_ba β) T sz = (so_ps (h j) (d_tm β) (sp j) (sN j) (d_po β) (d_ba β) T (T % 10 + 1) (some sz, -1)).1 := rfl
    rw [el, ep]
    generalize fo_f (lk_f (nI j)) (T / 10 * 10) (T % 10 + 1) (-1, lk_0 (rs_f υ 5 1)) = y at look
    generalize so_ps (h j) (d_tm β) (sp j) (sN j) (d_po β) (d_ba β) T (T % 10 + 1) (some sz, -1) = kc at look
    obtain ⟨⟨l1, l2, l3⟩, l4, l5, l6, l7⟩ := look
    have w1 : ∀ k, k ≠ 0 → k ≠ 5 → k ≠ 6 → y.2.1 k = σ.1 k := fun k k0 k5 k6 => (l1 k k6).trans (v1 k k0 k5)
    have w2 : ∀ k, k ≠ 20 → y.2.2.1 k = υ.2.1 k := fun k hk => l2 k hk
    have w3 : y.2.2.2 = υ.2.2 := l3
    have w5 : y.2.1 5 = 1 := (l1 5 (by decide)).trans (rs_fv _ _ _)
    refine ⟨⟨A, ?_⟩, ?_, ?_, ?_, ?_, ?_, .inr ⟨?_, ?_, n2, fun k hk => ?_, fun c k hc hk => ?_, ?_, l4, l7⟩⟩
    · exact gR_p (σ := rs_f υ 5 1) (w2 2 (by decide)) (w2 3 (by decide)) (fun k b _ hk => by rw [w2 k (by omega)]) (fun j _ => ⟨by rw [w2 10 (by decide)], by rw [w2 13 (by decide)]⟩) (fun j _ => ⟨by rw [w2 7 (by decide)], by rw [w3]⟩) gRu
    · intro b hb hx
      rw [w2 4 (by decide), mn 4 (by omega), pk_un (by omega)] at hx ⊢
      rw [w1 1 (by decide) (by decide) (by decide)]
      exact a2 b hb hx
    · obtain ⟨b1, b2, b3, b4, b5, b6, b7, b8, b9, b10⟩ := a3
      refine ⟨?_, b2, fun k hk => ⟨?_, ?_⟩, fun k hk => ?_, ?_, fun pa hp r hr => ?_, ?_, fun c hc => ?_, b9, b10⟩
      · rw [w2 6 (by decide), mn 6 (by omega), pk_un (by decide)]; exact b1
      · rw [w2 7 (by decide), m5', cpA_out _ _ _ _ _ (by omega)]; exact (b3 k hk).1
      · rw [w3, m6', cpA_out _ _ _ _ _ (by omega)]; exact (b3 k hk).2
      · rw [w2 10 (by decide), m4', cpA_out _ _ _ _ _ (by omega)]; exact b4 k hk
      · rw [w2 11 (by decide), mn 11 (by omega), pk_un (by decide)]; exact b5
      · rw [w2 13 (by decide), m3', cpA_out _ _ _ _ _ (by omega), pne pa (hC.2.2.2.2.2.1 uw (.inr rfl) pa hp).1]; exact b6 pa hp r hr
      · rw [w2 14 (by decide), mn 14 (by omega), pk_un (by decide)]; exact b7
      · rw [w2 9 (by decide), m7', pk_un (by omega), pk_un (by omega)]; exact b8 c hc
    · exact zF_F (σ := σ) ⟨w1 4 (by decide) (by decide) (by decide), (w2 16 (by decide)).trans (mo 16 (by omega))⟩ r2
    · obtain ⟨x1, x2, x3⟩ := a5
      refine ⟨?_, ?_, fun p hp => ?_⟩
      · rw [w2 9 (by decide), m7']; exact w9_u (w9_u x1 (x1 _)) (x1 _)
      · rw [w2 11 (by decide), mn 11 (by omega)]; exact w9_u x2 (x2 _)
      · rw [w2 6 (by decide), mn 6 (by omega)]
        by_cases e : p = 71
        · rw [e, pk_us]; exact x3 q (by omega)
        · rw [pk_un e]; exact x3 p hp
    · unfold gNu at a6 ⊢
      rw [w1 1 (by decide) (by decide) (by decide), w1 2 (by decide) (by decide) (by decide), w1 3 (by decide) (by decide) (by decide), w2 1 (by decide), w2 15 (by decide), w2 17 (by decide), w2 18 (by decide), w2 19 (by decide), mo 1 (by omega), mo 15 (by omega), mo 17 (by omega), mo 18 (by omega), mo 19 (by omega), pne ca hC.2.1]
      exact a6
    · rw [w5]; decide
    · rw [w2 6 (by decide), mn 6 (by omega), pk_us]; exact n1
    · rw [w2 7 (by decide), w3, m5', m6', cpA_in _ _ _ _ _ (by omega), cpA_in _ _ _ _ _ (by omega)]; exact n3 k hk
    · rw [w2 10 (by decide), m4', show 568 + 4 * c + k = 568 + (4 * c + k) by omega, cpA_in _ _ _ _ _ (by omega), n4 _ (by omega), q2]
      have ec : (4 * c + k < 4 * sC j) ↔ nI c < nI (sC j) := by
        rw [nI_ltI (by omega) (by have := sC_12 j; omega)]
        have := sC_12 j
        omega
      rw [show c * 4 + k = 4 * c + k by omega]
      by_cases e : nI c < nI (sC j)
      · rw [if_pos e, if_pos (ec.mpr e)]
      · rw [if_neg e, if_neg (fun x => e (ec.mp x))]
    · rw [w2 14 (by decide), mn 14 (by omega), pk_us]; exact n7
end Calls4
