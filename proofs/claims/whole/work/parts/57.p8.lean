/-! Pure rows: copying a bundle in the reference. -/
def cpA {α : Type} (f : Nat → α) (a b n : Nat) : Nat → α := fun j => if b ≤ j ∧ j < b + n then f (a + (j - b)) else f j
theorem cpA_0 {α : Type} (f : Nat → α) (a b : Nat) : cpA f a b 0 = f := by
  funext j
  exact if_neg (fun e => by omega)
theorem cpA_in {α : Type} (f : Nat → α) (a b n k : Nat) (h : k < n) : cpA f a b n (b + k) = f (a + k) := by
  unfold cpA
  rw [if_pos ⟨by omega, by omega⟩, show b + k - b = k by omega]
theorem cpA_out {α : Type} (f : Nat → α) (a b n j : Nat) (h : j < b ∨ b + n ≤ j) : cpA f a b n j = f j := by
  unfold cpA
  rw [if_neg (fun e => by omega)]
theorem cpA_s (f : Nat → Int32) (a b n : Nat) (hd : a + n < b ∨ b + n ≤ a + n) (_hd2 : a + n < b ∨ b + n ≤ a) : upd (cpA f a b n) (b + n) (cpA f a b n (a + n)) = cpA f a b (n + 1) := by
  funext j
  by_cases e : j = b + n
  · subst e
    rw [pk_us, cpA_in _ _ _ _ _ (by omega), cpA_out _ _ _ _ _ (by omega)]
  · rw [pk_un e]
    unfold cpA
    by_cases x : b ≤ j ∧ j < b + n
    · rw [if_pos x, if_pos ⟨by omega, by omega⟩]
    · rw [if_neg x, if_neg (fun y => by omega)]
theorem cpA_t (f : Nat → Int64) (a b n : Nat) (hd2 : a + n < b ∨ b + n ≤ a) : vp_updL (cpA f a b n) (b + n) (cpA f a b n (a + n)) = cpA f a b (n + 1) := by
  funext j
  unfold vp_updL
  by_cases e : j = b + n
  · rw [if_pos e]
    subst e
    rw [cpA_in _ _ _ _ _ (by omega), cpA_out _ _ _ _ _ (by omega)]
  · rw [if_neg e]
    unfold cpA
    by_cases x : b ≤ j ∧ j < b + n
    · rw [if_pos x, if_pos ⟨by omega, by omega⟩]
    · rw [if_neg x, if_neg (fun y => by omega)]
theorem my_an (σ : rs_S) (k fr to : Nat) {j : Nat} (h : j ≠ k) : (my_a σ k fr to).2.1 j = σ.2.1 j := rs_an _ _ h
theorem my_av (σ : rs_S) (k fr to : Nat) : (my_a σ k fr to).2.1 k = upd (σ.2.1 k) to (σ.2.1 k fr) := rs_av _ _ _
theorem my_hk (σ : rs_S) (fr to k : Nat) (hk : k = 4 ∨ k = 5 ∨ k = 6 ∨ k = 11 ∨ k = 12 ∨ k = 14) : (my_h σ fr to).2.1 k = upd (σ.2.1 k) to (σ.2.1 k fr) := by
  rw [my_h]
  rcases hk with rfl | rfl | rfl | rfl | rfl | rfl
  · rw [my_an _ _ _ _ (by decide), my_an _ _ _ _ (by decide), my_an _ _ _ _ (by decide), my_an _ _ _ _ (by decide), my_an _ _ _ _ (by decide), my_av]
  · rw [my_an _ _ _ _ (by decide), my_an _ _ _ _ (by decide), my_an _ _ _ _ (by decide), my_an _ _ _ _ (by decide), my_av, my_an _ _ _ _ (by decide)]
  · rw [my_an _ _ _ _ (by decide), my_an _ _ _ _ (by decide), my_an _ _ _ _ (by decide), my_av, my_an _ _ _ _ (by decide), my_an _ _ _ _ (by decide)]
  · rw [my_an _ _ _ _ (by decide), my_an _ _ _ _ (by decide), my_av, my_an _ _ _ _ (by decide), my_an _ _ _ _ (by decide), my_an _ _ _ _ (by decide)]
  · rw [my_an _ _ _ _ (by decide), my_av, my_an _ _ _ _ (by decide), my_an _ _ _ _ (by decide), my_an _ _ _ _ (by decide), my_an _ _ _ _ (by decide)]
  · rw [my_av, my_an _ _ _ _ (by decide), my_an _ _ _ _ (by decide), my_an _ _ _ _ (by decide), my_an _ _ _ _ (by decide), my_an _ _ _ _ (by decide)]
theorem my_a1 (σ : rs_S) (k fr to : Nat) : (my_a σ k fr to).1 = σ.1 := rfl
theorem my_ax (σ : rs_S) (k fr to : Nat) : (my_a σ k fr to).2.2 = σ.2.2 := rfl
theorem my_8s (fr to : Nat) (hne : fr ≠ to) : ∀ n, n ≤ 8 → ∀ σ : rs_S, (fo_f (my_8 fr to) 0 n σ).2.1 13 = cpA (σ.2.1 13) (8 * fr) (8 * to) n ∧ (fo_f (my_8 fr to) 0 n σ).2.1 10 = cpA (σ.2.1 10) (8 * fr) (8 * to) n ∧ (∀ k, k ≠ 13 → k ≠ 10 → (fo_f (my_8 fr to) 0 n σ).2.1 k = σ.2.1 k) ∧ (fo_f (my_8 fr to) 0 n σ).1 = σ.1 ∧ (fo_f (my_8 fr to) 0 n σ).2.2 = σ.2.2 := by
  intro n
  induction n with
  | zero => intro _ σ; exact ⟨(cpA_0 _ _ _).symm, (cpA_0 _ _ _).symm, fun _ _ _ => rfl, rfl, rfl⟩
  | succ n ih =>
    intro hn σ
    obtain ⟨a, b, c, d, e⟩ := ih (by omega) σ
    rw [fo_s, Nat.zero_add]
    generalize fo_f (my_8 fr to) 0 n σ = τ at a b c d e
    refine ⟨?_, ?_, fun k k1 k2 => ?_, d, e⟩
    · have : (my_8 fr to n τ).2.1 13 = upd (τ.2.1 13) (8 * to + n) (τ.2.1 13 (8 * fr + n)) := by
        rw [my_8, my_a, rs_an _ _ (by decide), my_a, rs_av]
      rw [this, a]
      exact cpA_s _ _ _ _ (by omega) (by omega)
    · have : (my_8 fr to n τ).2.1 10 = upd (τ.2.1 10) (8 * to + n) (τ.2.1 10 (8 * fr + n)) := by
        rw [my_8, my_a, rs_av, my_a, rs_an _ _ (by decide)]
      rw [this, b]
      exact cpA_s _ _ _ _ (by omega) (by omega)
    · rw [my_8, my_a, rs_an _ _ k2, my_a, rs_an _ _ k1]
      exact c k k1 k2
theorem my_4s (fr to : Nat) (hne : fr ≠ to) : ∀ n, n ≤ 4 → ∀ σ : rs_S, (fo_f (my_4 fr to) 0 n σ).2.1 7 = cpA (σ.2.1 7) (4 * fr) (4 * to) n ∧ (fo_f (my_4 fr to) 0 n σ).2.2 = cpA σ.2.2 (4 * fr) (4 * to) n ∧ (∀ k, k ≠ 7 → (fo_f (my_4 fr to) 0 n σ).2.1 k = σ.2.1 k) ∧ (fo_f (my_4 fr to) 0 n σ).1 = σ.1 := by
  intro n
  induction n with
  | zero => intro _ σ; exact ⟨(cpA_0 _ _ _).symm, (cpA_0 _ _ _).symm, fun _ _ => rfl, rfl⟩
  | succ n ih =>
    intro hn σ
    obtain ⟨a, b, c, d⟩ := ih (by omega) σ
    rw [fo_s, Nat.zero_add]
    generalize fo_f (my_4 fr to) 0 n σ = τ at a b c d
    refine ⟨?_, ?_, fun k k1 => ?_, d⟩
    · have : (my_4 fr to n τ).2.1 7 = upd (τ.2.1 7) (4 * to + n) (τ.2.1 7 (4 * fr + n)) := by
        show (my_a τ 7 (4 * fr + n) (4 * to + n)).2.1 7 = _
        rw [my_a, rs_av]
      rw [this, a]
      exact cpA_s _ _ _ _ (by omega) (by omega)
    · have : (my_4 fr to n τ).2.2 = vp_updL τ.2.2 (4 * to + n) (τ.2.2 (4 * fr + n)) := rfl
      rw [this, b]
      exact cpA_t _ _ _ _ (by omega)
    · show (my_a τ 7 (4 * fr + n) (4 * to + n)).2.1 k = _
      rw [my_a, rs_an _ _ k1]
      exact c k k1
theorem my_ms (σ : rs_S) (fr to : Nat) (hne : fr ≠ to) : (my_m σ fr to).2.1 13 = cpA (σ.2.1 13) (8 * fr) (8 * to) 8 ∧ (my_m σ fr to).2.1 10 = cpA (σ.2.1 10) (8 * fr) (8 * to) 8 ∧ (my_m σ fr to).2.1 7 = cpA (σ.2.1 7) (4 * fr) (4 * to) 4 ∧ (my_m σ fr to).2.2 = cpA σ.2.2 (4 * fr) (4 * to) 4 ∧ (my_m σ fr to).1 = σ.1 ∧ (∀ k, k ≠ 13 → k ≠ 10 → k ≠ 7 → (my_m σ fr to).2.1 k = (my_h σ fr to).2.1 k) := by
  obtain ⟨a1, a2, a3, a4, a5⟩ := my_8s fr to hne 8 (Nat.le_refl _) (my_h σ fr to)
  obtain ⟨b1, b2, b3, b4⟩ := my_4s fr to hne 4 (Nat.le_refl _) (fo_f (my_8 fr to) 0 8 (my_h σ fr to))
  rw [my_m]
  refine ⟨by rw [b3 13 (by decide), a1]; rfl, by rw [b3 10 (by decide), a2]; rfl, by rw [b1, a3 7 (by decide) (by decide)]; rfl, by rw [b2, a5]; rfl, by rw [b4, a4]; rfl, fun k k1 k2 k3 => by rw [b3 k k3, a3 k k1 k2]⟩
def cpS (σ τ : rs_S) (fr to : Nat) : Prop := τ.1 = σ.1 ∧ (∀ k, (k = 4 ∨ k = 5 ∨ k = 6 ∨ k = 11 ∨ k = 12 ∨ k = 14) → τ.2.1 k = upd (σ.2.1 k) to (σ.2.1 k fr)) ∧ τ.2.1 13 = cpA (σ.2.1 13) (8 * fr) (8 * to) 8 ∧ τ.2.1 10 = cpA (σ.2.1 10) (8 * fr) (8 * to) 8 ∧ τ.2.1 7 = cpA (σ.2.1 7) (4 * fr) (4 * to) 4 ∧ τ.2.2 = cpA σ.2.2 (4 * fr) (4 * to) 4 ∧ τ.2.1 9 = upd (upd (σ.2.1 9) (2 * to) (σ.2.1 9 (2 * fr))) (2 * to + 1) (σ.2.1 9 (2 * fr + 1)) ∧ (∀ k, (k < 4 ∨ 14 < k) → τ.2.1 k = σ.2.1 k)
theorem my_cs (σ : rs_S) (fr to : Nat) (hne : fr ≠ to) : cpS σ (my_c σ fr to) fr to := by
  obtain ⟨a1, a2, a3, a4, a5, a6⟩ := my_ms σ fr to hne
  rw [my_c]
  generalize my_m σ fr to = τ at a1 a2 a3 a4 a5 a6
  have h9 : τ.2.1 9 = σ.2.1 9 := by
    rw [a6 9 (by decide) (by decide) (by decide), my_h, my_an _ _ _ _ (by decide), my_an _ _ _ _ (by decide), my_an _ _ _ _ (by decide), my_an _ _ _ _ (by decide), my_an _ _ _ _ (by decide), my_an _ _ _ _ (by decide)]
  refine ⟨(my_a1 _ _ _ _).trans ((my_a1 _ _ _ _).trans a5), fun k hk => ?_, ?_, ?_, ?_, (my_ax _ _ _ _).trans ((my_ax _ _ _ _).trans a4), ?_, fun k hk => ?_⟩
  · rw [my_a, rs_an _ _ (by omega), my_a, rs_an _ _ (by omega), a6 k (by omega) (by omega) (by omega)]
    exact my_hk σ fr to k hk
  · rw [my_a, rs_an _ _ (by decide), my_a, rs_an _ _ (by decide), a1]
  · rw [my_a, rs_an _ _ (by decide), my_a, rs_an _ _ (by decide), a2]
  · rw [my_a, rs_an _ _ (by decide), my_a, rs_an _ _ (by decide), a3]
  · rw [my_a, rs_av, my_a, rs_av, h9, pk_un (by omega)]
  · rw [my_a, rs_an _ _ (by omega), my_a, rs_an _ _ (by omega), a6 k (by omega) (by omega) (by omega)]
    rw [my_h, my_an _ _ _ _ (by omega), my_an _ _ _ _ (by omega), my_an _ _ _ _ (by omega), my_an _ _ _ _ (by omega), my_an _ _ _ _ (by omega), my_an _ _ _ _ (by omega)]
/- the head of writing -/
theorem mc_zs (lo k : Nat) : ∀ (n a : Nat) (σ : rs_S), (∀ j, (fo_f (mc_z lo k) a n σ).2.1 k j = if lo + a ≤ j ∧ j < lo + a + n then 0 else σ.2.1 k j) ∧ (∀ q, q ≠ k → (fo_f (mc_z lo k) a n σ).2.1 q = σ.2.1 q) ∧ (fo_f (mc_z lo k) a n σ).1 = σ.1 ∧ (fo_f (mc_z lo k) a n σ).2.2 = σ.2.2 := by
  intro n
  induction n with
  | zero => intro a σ; exact ⟨fun j => (if_neg (fun e => by omega)).symm, fun _ _ => rfl, rfl, rfl⟩
  | succ n ih =>
    intro a σ
    obtain ⟨b, c, d, e⟩ := ih a σ
    rw [fo_s]
    generalize fo_f (mc_z lo k) a n σ = τ at b c d e
    refine ⟨fun j => ?_, fun q hq => ?_, d, e⟩
    · rw [mc_z, rs_av]
      by_cases x : j = lo + (a + n)
      · rw [x, pk_us, if_pos ⟨by omega, by omega⟩]
      · rw [pk_un x, b]
        by_cases y : lo + a ≤ j ∧ j < lo + a + n
        · rw [if_pos y, if_pos ⟨by omega, by omega⟩]
        · rw [if_neg y, if_neg (fun z => by omega)]
    · rw [mc_z, rs_an _ _ hq]; exact c q hq
def whS (σ τ : rs_S) (i b0 pg : Nat) : Prop := τ.1 = σ.1 ∧ (∀ k, (k = 6 ∨ k = 11 ∨ k = 12 ∨ k = 14) → τ.2.1 k = upd (σ.2.1 k) b0 (σ.2.1 k 70)) ∧ τ.2.1 4 = upd (σ.2.1 4) b0 (σ.1 1) ∧ τ.2.1 5 = upd (σ.2.1 5) b0 (nI pg) ∧ τ.2.1 13 = cpA (σ.2.1 13) 560 (8 * b0) 8 ∧ (∀ k, k < 8 → τ.2.1 10 (8 * b0 + k) = if k < 4 * sC i then σ.2.1 10 (560 + k) else 0) ∧ (∀ j, (j < 8 * b0 ∨ 8 * b0 + 8 ≤ j) → τ.2.1 10 j = σ.2.1 10 j) ∧ τ.2.1 7 = cpA (σ.2.1 7) 280 (4 * b0) 4 ∧ τ.2.2 = cpA σ.2.2 280 (4 * b0) 4 ∧ ((∀ j, σ.2.1 9 j = 0 ∨ σ.2.1 9 j = 1) → ∀ j, τ.2.1 9 j = 0 ∨ τ.2.1 9 j = 1) ∧ (∀ j, (j < 2 * b0 ∨ 2 * b0 + 2 ≤ j) → τ.2.1 9 j = σ.2.1 9 j) ∧ (∀ k, (k < 4 ∨ 14 < k) → τ.2.1 k = σ.2.1 k)
theorem w9_u {f : Nat → Int32} {k : Nat} {x : Int32} (h : ∀ j, f j = 0 ∨ f j = 1) (hx : x = 0 ∨ x = 1) : ∀ j, upd f k x j = 0 ∨ upd f k x j = 1 := by
  intro j
  by_cases e : j = k
  · subst e; rw [pk_us]; exact hx
  · rw [pk_un e]; exact h j
theorem mw_1s (σ : rs_S) (b0 pg : Nat) (hb : b0 < 70) : whS σ (mw_1 σ b0 pg) 0 b0 pg := by
  obtain ⟨a1, a2, a3, a4, a5, a6, a7, a8⟩ := my_cs σ 70 b0 (by omega)
  rw [mw_1]
  generalize my_c σ 70 b0 = τ at a1 a2 a3 a4 a5 a6 a7 a8
  have ng : ∀ k, k ≠ 4 → k ≠ 5 → (rs_a (rs_a τ 4 (upd (τ.2.1 4) b0 (τ.1 1))) 5 (upd (τ.2.1 5) b0 (nI pg))).2.1 k = τ.2.1 k := fun k k1 k2 => by rw [rs_an _ _ k2, rs_an _ _ k1]
  refine ⟨(rs_a1 _ _ _).trans ((rs_a1 _ _ _).trans a1), fun k hk => ?_, ?_, ?_, ?_, fun k hk => ?_, fun j hj => ?_, ?_, (rs_ax _ _ _).trans ((rs_ax _ _ _).trans a6), fun h => ?_, fun j hj => ?_, fun k hk => ?_⟩
  · rw [ng k (by omega) (by omega)]; exact a2 k (by omega)
  · rw [rs_an _ _ (by decide), rs_av, a2 4 (by omega), a1, upd_upd]
  · rw [rs_av, a2 5 (by omega), upd_upd]
  · rw [ng 13 (by decide) (by decide)]; exact a3
  · rw [ng 10 (by decide) (by decide), a4, cpA_in _ _ _ _ _ hk, if_pos (by show k < 4 * 2; omega)]
  · rw [ng 10 (by decide) (by decide), a4, cpA_out _ _ _ _ _ hj]
  · rw [ng 7 (by decide) (by decide)]; exact a5
  · rw [ng 9 (by decide) (by decide), a7]
    exact w9_u (w9_u h (h _)) (h _)
  · rw [ng 9 (by decide) (by decide), a7, pk_un (by omega), pk_un (by omega)]
  · rw [ng k (by omega) (by omega)]; exact a8 k hk
theorem mw_hs (σ : rs_S) {i : Nat} (b0 pg : Nat) (hb : b0 < 70) (hi : i < 3) : whS σ (mw_h σ (nI i) b0 pg) i b0 pg := by
  have h1 := mw_1s σ b0 pg hb
  rw [mw_h]
  by_cases h2 : i = 2
  · subst h2
    rw [if_pos (show nI 2 = 2 from rfl), mw_2]
    generalize mw_1 σ b0 pg = υ at h1
    obtain ⟨a1, a2, a3, a4, a5, a6, a6b, a7, a8, a9, a9b, a10⟩ := h1
    obtain ⟨z1, z2, z3, z4⟩ := mc_zs (8 * b0) 10 4 4 (rs_a υ 9 (upd (υ.2.1 9) (2 * b0 + 1) 0))
    generalize fo_f (mc_z (8 * b0) 10) 4 4 (rs_a υ 9 (upd (υ.2.1 9) (2 * b0 + 1) 0)) = τ at z1 z2 z3 z4
    have ng : ∀ k, k ≠ 10 → k ≠ 9 → τ.2.1 k = υ.2.1 k := fun k k1 k2 => by rw [z2 k k1, rs_an _ _ k2]
    have h10 : (rs_a υ 9 (upd (υ.2.1 9) (2 * b0 + 1) 0)).2.1 10 = υ.2.1 10 := rs_an _ _ (by decide)
    have h9 : τ.2.1 9 = upd (υ.2.1 9) (2 * b0 + 1) 0 := by rw [z2 9 (by decide), rs_av]
    refine ⟨z3.trans ((rs_a1 _ _ _).trans a1), fun k hk => ?_, ?_, ?_, ?_, fun k hk => ?_, fun j hj => ?_, ?_, z4.trans ((rs_ax _ _ _).trans a8), fun h => ?_, fun j hj => ?_, fun k hk => ?_⟩
    · rw [ng k (by omega) (by omega)]; exact a2 k hk
    · rw [ng 4 (by decide) (by decide)]; exact a3
    · rw [ng 5 (by decide) (by decide)]; exact a4
    · rw [ng 13 (by decide) (by decide)]; exact a5
    · rw [z1, h10, a6 k hk]
      show (if 8 * b0 + 4 ≤ 8 * b0 + k ∧ 8 * b0 + k < 8 * b0 + 4 + 4 then (0 : Int32) else if k < 4 * 2 then σ.2.1 10 (560 + k) else 0) = if k < 4 * 1 then σ.2.1 10 (560 + k) else 0
      by_cases x : k < 4
      · rw [if_neg (fun y => by omega), if_pos (by omega), if_pos (by omega)]
      · rw [if_pos ⟨by omega, by omega⟩, if_neg (by omega)]
    · rw [z1, if_neg (fun y => by omega), h10]; exact a6b j hj
    · rw [ng 7 (by decide) (by decide)]; exact a7
    · rw [h9]; exact w9_u (a9 h) (.inl rfl)
    · rw [h9, pk_un (by omega)]; exact a9b j hj
    · rw [ng k (by omega) (by omega)]; exact a10 k hk
  · rw [if_neg (show ¬ nI i = 2 from fun e => h2 ((nI_eq (a := i) (b := 2) (by omega) (by decide)).mp e))]
    obtain ⟨a1, a2, a3, a4, a5, a6, a6b, a7, a8, a9, a9b, a10⟩ := h1
    refine ⟨a1, a2, a3, a4, a5, fun k hk => ?_, a6b, a7, a8, a9, a9b, a10⟩
    rw [a6 k hk]
    have : sC i = sC 0 := by
      rcases i3 hi with rfl | rfl | rfl
      · rfl
      · rfl
      · exact absurd rfl h2
    rw [this]
