/-! Pure rows: the reference's loops. -/
theorem mo_f2 (o : Nat) : ∀ (n : Nat) (σ : rs_S) (p : Nat), (fo_f (mo_f o) 0 n σ).2.1 2 p = if p < n ∧ σ.2.1 2 p = nI (o + 1) then 0 else σ.2.1 2 p := by
  intro n
  induction n with
  | zero => intro σ p; rw [if_neg (fun e => absurd e.1 (by omega))]; rfl
  | succ n ih =>
    intro σ p
    rw [fo_s, mo_f, rs_av, Nat.zero_add]
    by_cases hp : p = n
    · subst hp
      have e0 : (if p < p ∧ σ.2.1 2 p = nI (o + 1) then 0 else σ.2.1 2 p) = σ.2.1 2 p := if_neg (fun e => absurd e.1 (by omega))
      rw [pk_us, ih, e0]
      by_cases h : σ.2.1 2 p = nI (o + 1)
      · rw [if_pos h, if_pos ⟨by omega, h⟩]
      · rw [if_neg h, if_neg (fun e => h e.2)]
    · rw [pk_un hp, ih]
      by_cases h : p < n ∧ σ.2.1 2 p = nI (o + 1)
      · rw [if_pos h, if_pos ⟨by omega, h.2⟩]
      · rw [if_neg h, if_neg (fun e => h ⟨by omega, e.2⟩)]
theorem mo_fk (o : Nat) {k : Nat} (hk : k ≠ 2) : ∀ (n : Nat) (σ : rs_S), (fo_f (mo_f o) 0 n σ).2.1 k = σ.2.1 k := by
  intro n
  induction n with
  | zero => intro σ; rfl
  | succ n ih => intro σ; rw [fo_s, mo_f, rs_an _ _ hk]; exact ih σ
theorem mo_f1 (o : Nat) : ∀ (n : Nat) (σ : rs_S), (fo_f (mo_f o) 0 n σ).1 = σ.1 ∧ (fo_f (mo_f o) 0 n σ).2.2 = σ.2.2 := by
  intro n
  induction n with
  | zero => intro σ; exact ⟨rfl, rfl⟩
  | succ n ih => intro σ; rw [fo_s]; exact ih σ
theorem mo_2 (σ : rs_S) (o p : Nat) : (mo_t σ o).2.1 2 p = if p < 70 ∧ σ.2.1 2 p = nI (o + 1) then 0 else σ.2.1 2 p := by
  rw [mo_t, rs_an _ _ (by decide), mo_f2]
theorem mo_k (σ : rs_S) (o : Nat) {k : Nat} (h2 : k ≠ 2) (h4 : k ≠ 4) : (mo_t σ o).2.1 k = σ.2.1 k := by
  rw [mo_t, rs_an _ _ h4, mo_fk _ h2]
theorem rs_a1 (σ : rs_S) (k : Nat) (f : Nat → Int32) : (rs_a σ k f).1 = σ.1 := rfl
theorem rs_ax (σ : rs_S) (k : Nat) (f : Nat → Int32) : (rs_a σ k f).2.2 = σ.2.2 := rfl
theorem mo_1 (σ : rs_S) (o : Nat) : (mo_t σ o).1 = σ.1 := by
  have h := (mo_f1 o 70 σ).1
  unfold mo_t
  rw [rs_a1, h]
theorem mo_x (σ : rs_S) (o : Nat) : (mo_t σ o).2.2 = σ.2.2 := by
  have h := (mo_f1 o 70 σ).2
  unfold mo_t
  rw [rs_ax, h]
theorem mi_c0 (σ : rs_S) (o : Nat) (g : Bool) : ∀ n, fo_f (mi_f σ o) 0 n g = true ↔ g = true ∧ ∀ p, p < n → σ.2.1 2 p = nI (o + 1) → σ.2.1 3 p = 0 := by
  intro n
  induction n with
  | zero => exact ⟨fun h => ⟨h, fun p hp => absurd hp (by omega)⟩, fun h => h.1⟩
  | succ n ih =>
    rw [fo_s, mi_f, Nat.zero_add]
    simp only [Bool.and_eq_true, Bool.or_eq_true, Bool.not_eq_true', decide_eq_true_eq, decide_eq_false_iff_not, ih]
    constructor
    · rintro ⟨⟨a, b⟩, c⟩
      refine ⟨a, fun p hp e => ?_⟩
      by_cases hq : p = n
      · subst hq; rcases c with c | c
        · exact absurd e c
        · exact c
      · exact b p (by omega) e
    · rintro ⟨a, b⟩
      refine ⟨⟨a, fun p hp e => b p (by omega) e⟩, ?_⟩
      by_cases e : σ.2.1 2 n = nI (o + 1)
      · exact .inr (b n (by omega) e)
      · exact .inl e
theorem mi_c (σ : rs_S) (o : Nat) : mi_r σ o = true ↔ 0 ≤ σ.2.1 4 o ∧ ∀ p, p < 70 → σ.2.1 2 p = nI (o + 1) → σ.2.1 3 p = 0 := by
  rw [mi_r, mi_c0, decide_eq_true_eq]
theorem mu_no (σ : rs_S) (t : Int32) (lo : Nat) : ∀ n, fo_f (mu_f σ t) lo n none = none → ∀ q, lo ≤ q → q < lo + n → ¬ (0 ≤ t ∧ σ.2.1 4 q = t ∧ mi_r σ q = true) := by
  intro n
  induction n with
  | zero => intro _ q a b; omega
  | succ n ih =>
    intro h q a b c
    rw [fo_s, mu_f] at h
    split at h
    · cases h
    · rename_i h1
      by_cases hq : q = lo + n
      · subst hq; exact h1 c
      · exact ih h q a (by omega) c
theorem mk_mn (σ : rs_S) (lo n : Nat) : is_mn (fun t => ∃ p, lo ≤ p ∧ p < lo + n ∧ (0 ≤ σ.2.1 4 p ∧ σ.2.1 4 p = t)) (fo_f (mk_f σ 0) lo n (-1)) := by
  refine fo_mn (mk_f σ 0) (fun p t => 0 ≤ σ.2.1 4 p ∧ σ.2.1 4 p = t) lo n ?_ ?_ ?_ ?_ n (Nat.le_refl _)
  · rintro p _ _ t ⟨h1, rfl⟩; exact h1
  · intro p m _ _ h; rw [mk_f, if_neg (fun e => h _ ⟨e.1, rfl⟩)]
  · rintro p t _ _ ⟨h1, rfl⟩; rw [mk_f, if_pos ⟨h1, .inl (by decide)⟩]
  · rintro p m t _ _ ⟨h1, rfl⟩ hm
    simp only [mk_f, if_true]
    by_cases h : σ.2.1 4 p < m
    · rw [if_pos ⟨h1, .inr h⟩, if_pos h]
    · rw [if_neg h, if_neg (fun e => e.2.elim (fun q => absurd q (Int32.not_lt.mpr hm)) h)]
theorem mk_mx (σ : rs_S) (last : Int32) (hl : last ≠ 0) (lo n : Nat) : is_mx (fun t => ∃ p, lo ≤ p ∧ p < lo + n ∧ (0 ≤ σ.2.1 4 p ∧ σ.2.1 4 p = t)) (fo_f (mk_f σ last) lo n (-1)) := by
  refine fo_mx (mk_f σ last) (fun p t => 0 ≤ σ.2.1 4 p ∧ σ.2.1 4 p = t) lo n ?_ ?_ ?_ ?_ n (Nat.le_refl _)
  · rintro p _ _ t ⟨h1, rfl⟩; exact h1
  · intro p m _ _ h; rw [mk_f, if_neg (fun e => h _ ⟨e.1, rfl⟩)]
  · rintro p t _ _ ⟨h1, rfl⟩; rw [mk_f, if_pos ⟨h1, .inl (by decide)⟩]
  · rintro p m t _ _ ⟨h1, rfl⟩ hm
    simp only [mk_f, if_neg hl]
    by_cases h : m < σ.2.1 4 p
    · rw [if_pos ⟨h1, .inr h⟩, if_pos h]
    · rw [if_neg h, if_neg (fun e => e.2.elim (fun q => absurd q (Int32.not_lt.mpr hm)) h)]
theorem mn_mn (σ : rs_S) (nj : Nat → Nat) (src fr : Int32) (lo n : Nat) : is_mn (fun t => ∃ p, lo ≤ p ∧ p < lo + n ∧ (bs_h (fun q => σ.2.1 7 (4 * p + q)) src (nj p) = true ∧ fr ≤ σ.2.1 4 p ∧ mi_r σ p = true ∧ σ.2.1 4 p = t)) (fo_f (mn_f σ nj src fr) lo n (-1)) := by
  have e : ∀ p, fo_f (mn_s σ src p) 0 (nj p) false = bs_h (fun q => σ.2.1 7 (4 * p + q)) src (nj p) := fun p => rfl
  refine fo_mn (mn_f σ nj src fr) (fun p t => bs_h (fun q => σ.2.1 7 (4 * p + q)) src (nj p) = true ∧ fr ≤ σ.2.1 4 p ∧ mi_r σ p = true ∧ σ.2.1 4 p = t) lo n ?_ ?_ ?_ ?_ n (Nat.le_refl _)
  · rintro p _ _ t ⟨_, _, h1, rfl⟩; exact ((mi_c σ p).mp h1).1
  · intro p m _ _ h; rw [mn_f, e, if_neg (fun e => h _ ⟨e.1.1, e.1.2, e.2.1, rfl⟩)]
  · rintro p t _ _ ⟨h1, h2, h3, rfl⟩; rw [mn_f, e, if_pos ⟨⟨h1, h2⟩, h3, .inl (by decide)⟩]
  · rintro p m t _ _ ⟨h1, h2, h3, rfl⟩ hm
    rw [mn_f, e]
    by_cases h : σ.2.1 4 p < m
    · rw [if_pos ⟨⟨h1, h2⟩, h3, .inr h⟩, if_pos h]
    · rw [if_neg h, if_neg (fun e => e.2.2.elim (fun q => absurd q (Int32.not_lt.mpr hm)) h)]
theorem mv_no (σ : rs_S) (st : Int32) (lo : Nat) : ∀ n, fo_f (mv_f σ st) lo n none = none → ∀ q, lo ≤ q → q < lo + n → ¬ mv_m σ st q = true := by
  intro n
  induction n with
  | zero => intro _ q a b; omega
  | succ n ih =>
    intro h q a b c
    rw [fo_s] at h
    cases h1 : fo_f (mv_f σ st) lo n none with
    | none =>
      rw [h1, mv_f] at h
      by_cases hm : mv_m σ st (lo + n) = true
      · simp [hm] at h
      · by_cases hq : q = lo + n
        · subst hq; exact hm c
        · exact ih h1 q a (by omega) c
    | some y =>
      rw [h1, mv_f] at h
      split at h <;> cases h
theorem mv_mn (σ : rs_S) (st : Int32) (lo : Nat) : ∀ n q, fo_f (mv_f σ st) lo n none = some q → ∀ p, lo ≤ p → p < lo + n → mv_m σ st p = true → σ.2.1 4 q ≤ σ.2.1 4 p := by
  intro n
  induction n with
  | zero => intro q h; cases h
  | succ n ih =>
    intro q h p a b c
    rw [fo_s] at h
    cases h1 : fo_f (mv_f σ st) lo n none with
    | none =>
      rw [h1, mv_f] at h
      by_cases hq : p = lo + n
      · subst hq
        simp [c] at h
        rw [h]; exact Int32.le_refl _
      · exact absurd c (mv_no σ st lo n h1 p a (by omega))
    | some y =>
      rw [h1, mv_f] at h
      split at h
      · rename_i hx
        cases h
        by_cases hq : p = lo + n
        · subst hq; exact Int32.le_refl _
        · exact Int32.le_trans (Int32.le_of_lt hx.2) (ih _ h1 p a (by omega) c)
      · rename_i hx
        cases h
        by_cases hq : p = lo + n
        · subst hq
          exact Int32.not_lt.mp (fun e => hx ⟨c, e⟩)
        · exact ih _ h1 p a (by omega) c
theorem mz_c (σ : rs_S) (t : Int32) : mz_t σ t = true ↔ fz_h (σ.2.1 17) (σ.2.1 18) (σ.2.1 19) t := by
  show (mz_f σ t 2 (mz_f σ t 1 (mz_f σ t 0 false))) = true ↔ _
  simp only [mz_f, fz_h, fz_hit, Bool.or_eq_true, Bool.and_eq_true, Bool.not_eq_true', decide_eq_true_eq, decide_eq_false_iff_not, Bool.false_eq_true, false_or, or_assoc, ne_eq]
theorem fz_cg {u f g u' f' g' : Nat → Int32} {t : Int32} (h1 : ∀ i, i < 3 → u i = u' i) (h2 : ∀ i, i < 3 → f i = f' i) (h3 : ∀ i, i < 3 → g i = g' i) : fz_h u f g t ↔ fz_h u' f' g' t := by
  simp only [fz_h, fz_hit, h1 0 (by decide), h1 1 (by decide), h1 2 (by decide), h2 0 (by decide), h2 1 (by decide), h2 2 (by decide), h3 0 (by decide), h3 1 (by decide), h3 2 (by decide)]
