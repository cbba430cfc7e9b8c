/-! Pure rows: the class's loops. -/
theorem so_e_1 (t : Int32) : so_e (-1) t = t := by rw [so_e, if_pos rfl]
theorem so_e_2 {m t : Int32} (h : 0 ≤ m) : so_e m t = if t < m then t else m := by
  rw [so_e, if_neg (fun e => by rw [e] at h; exact absurd h (by decide))]
theorem so_l_mn {h : Nat → Option Nat} {tm : Nat → Int32} {n : Nat} (hv : ∀ p, p < n → ∀ z, h p = some z → 0 ≤ tm z) : is_mn (fun t => ∃ p, p < n ∧ ∃ z, h p = some z ∧ tm z = t) (so_l h tm n) := by
  refine is_mn_c (fun t => ⟨fun ⟨p, _, a, b⟩ => ⟨p, by omega, b⟩, fun ⟨p, a, b⟩ => ⟨p, Nat.zero_le _, by omega, b⟩⟩) (fo_mn (so_lf h tm) (fun p t => ∃ z, h p = some z ∧ tm z = t) 0 n ?_ ?_ ?_ ?_ n (Nat.le_refl _))
  · rintro p _ hp t ⟨z, h1, rfl⟩; exact hv p (by omega) z h1
  · intro p m _ _ hx
    rw [so_lf]
    cases hh : h p with
    | none => rfl
    | some z => exact absurd ⟨z, hh, rfl⟩ (hx (tm z))
  · rintro p t _ _ ⟨z, h1, rfl⟩; rw [so_lf, h1]; exact so_e_1 _
  · rintro p m t _ _ ⟨z, h1, rfl⟩ hm; rw [so_lf, h1]; exact so_e_2 hm
theorem so_m_mx {h : Nat → Option Nat} {tm : Nat → Int32} {n : Nat} (hv : ∀ p, p < n → ∀ z, h p = some z → 0 ≤ tm z) : is_mx (fun t => ∃ p, p < n ∧ ∃ z, h p = some z ∧ tm z = t) (so_m h tm n) := by
  refine is_mx_c (fun t => ⟨fun ⟨p, _, a, b⟩ => ⟨p, by omega, b⟩, fun ⟨p, a, b⟩ => ⟨p, Nat.zero_le _, by omega, b⟩⟩) (fo_mx (so_mf h tm) (fun p t => ∃ z, h p = some z ∧ tm z = t) 0 n ?_ ?_ ?_ ?_ n (Nat.le_refl _))
  · rintro p _ hp t ⟨z, h1, rfl⟩; exact hv p (by omega) z h1
  · intro p m _ _ hx
    rw [so_mf]
    cases hh : h p with
    | none => rfl
    | some z => exact absurd ⟨z, hh, rfl⟩ (hx (tm z))
  · rintro p t _ hp ⟨z, h1, rfl⟩
    rw [so_mf, h1]
    exact if_pos (by have h2 := hv p (by omega) z h1; rw [Int32.lt_iff_toInt_lt]; rw [Int32.le_iff_toInt_le] at h2; rw [tIm]; rw [tI0] at h2; omega)
  · rintro p m t _ _ ⟨z, h1, rfl⟩ hm; rw [so_mf, h1]
theorem so_n_mn {ob : Int32} {u f g : Nat → Int32} {h : Nat → Option Nat} {tm : Nat → Int32} {n : Nat} (hv : ∀ p, p < n → ∀ z, h p = some z → 0 ≤ tm z) : is_mn (fun t => ∃ p, p < n ∧ ∃ z, h p = some z ∧ ¬ so_z ob u f g (tm z) ∧ tm z = t) (so_n ob u f g h tm n) := by
  refine is_mn_c (fun t => ⟨fun ⟨p, _, a, b⟩ => ⟨p, by omega, b⟩, fun ⟨p, a, b⟩ => ⟨p, Nat.zero_le _, by omega, b⟩⟩) (fo_mn (so_nf ob u f g h tm) (fun p t => ∃ z, h p = some z ∧ ¬ so_z ob u f g (tm z) ∧ tm z = t) 0 n ?_ ?_ ?_ ?_ n (Nat.le_refl _))
  · rintro p _ hp t ⟨z, h1, h2, rfl⟩; exact hv p (by omega) z h1
  · intro p m _ _ hx
    rw [so_nf]
    cases hh : h p with
    | none => rfl
    | some z =>
      show (if so_z ob u f g (tm z) then m else so_e m (tm z)) = m
      by_cases hz : so_z ob u f g (tm z)
      · exact if_pos hz
      · exact absurd ⟨z, hh, hz, rfl⟩ (hx (tm z))
  · rintro p t _ _ ⟨z, h1, h2, rfl⟩; rw [so_nf, h1]; exact (if_neg h2).trans (so_e_1 _)
  · rintro p m t _ _ ⟨z, h1, h2, rfl⟩ hm; rw [so_nf, h1]; exact (if_neg h2).trans (so_e_2 hm)
theorem so_q_mn {h : Nat → Option Nat} {tm sp : Nat → Int32} {n : Nat} {so : Nat → Nat → Int32} {sn : Nat → Nat} {src fr : Int32} (hv : ∀ p, p < n → ∀ z, h p = some z → 0 ≤ tm z) : is_mn (fun t => ∃ p, p < n ∧ ∃ z, h p = some z ∧ (fr ≤ tm z ∧ bs_h (so z) src (sn z) = true ∧ so_r h tm sp n (tm z) ≠ none) ∧ tm z = t) (so_q h tm sp n so sn src fr) := by
  refine is_mn_c (fun t => ⟨fun ⟨p, _, a, b⟩ => ⟨p, by omega, b⟩, fun ⟨p, a, b⟩ => ⟨p, Nat.zero_le _, by omega, b⟩⟩) (fo_mn (so_qf h tm sp n so sn src fr) (fun p t => ∃ z, h p = some z ∧ (fr ≤ tm z ∧ bs_h (so z) src (sn z) = true ∧ so_r h tm sp n (tm z) ≠ none) ∧ tm z = t) 0 n ?_ ?_ ?_ ?_ n (Nat.le_refl _))
  · rintro p _ hp t ⟨z, h1, h2, rfl⟩; exact hv p (by omega) z h1
  · intro p m _ _ hx
    rw [so_qf]
    cases hh : h p with
    | none => rfl
    | some z =>
      show (if _ then so_e m (tm z) else m) = m
      exact if_neg (fun hz => absurd ⟨z, hh, hz, rfl⟩ (hx (tm z)))
  · rintro p t _ _ ⟨z, h1, h2, rfl⟩; rw [so_qf, h1]; exact (if_pos h2).trans (so_e_1 _)
  · rintro p m t _ _ ⟨z, h1, h2, rfl⟩ hm; rw [so_qf, h1]; exact (if_pos h2).trans (so_e_2 hm)
theorem so_rs_n {h : Nat → Option Nat} {tm sp : Nat → Int32} {t : Int32} : ∀ (f p : Nat) (o : Option Nat), (∃ q, p ≤ q ∧ q < p + f ∧ so_i h tm q t ∧ sp q ≠ 0) → so_rs h tm sp t f p o = none := by
  intro f
  induction f with
  | zero => rintro p o ⟨q, a, b, _⟩; omega
  | succ f ih =>
    rintro p o ⟨q, a, b, c, d⟩
    rw [so_rs]
    by_cases hq : q = p
    · subst hq; rw [if_pos c, if_pos d]
    · have hx := fun o' => ih (p + 1) o' ⟨q, by omega, by omega, c, d⟩
      split
      · split
        · rfl
        · exact hx _
      · exact hx _
theorem so_rs_s {h : Nat → Option Nat} {tm sp : Nat → Int32} {t : Int32} : ∀ (f p : Nat) (o : Option Nat), (∀ q, p ≤ q → q < p + f → so_i h tm q t → sp q = 0) → (o ≠ none ∨ ∃ q, p ≤ q ∧ q < p + f ∧ so_i h tm q t) → so_rs h tm sp t f p o ≠ none := by
  intro f
  induction f with
  | zero =>
    rintro p o _ (h1 | ⟨q, a, b, _⟩)
    · exact h1
    · omega
  | succ f ih =>
    intro p o h1 h2
    rw [so_rs]
    have k1 : ∀ q, p + 1 ≤ q → q < p + 1 + f → so_i h tm q t → sp q = 0 := fun q a b c => h1 q (by omega) (by omega) c
    by_cases hi : so_i h tm p t
    · have h0 := h1 p (Nat.le_refl _) (by omega) hi
      rw [if_pos hi, if_neg (fun e => e h0)]
      refine ih (p + 1) _ k1 (.inl ?_)
      intro e
      rw [so_i, e] at hi
      cases hi
    · rw [if_neg hi]
      refine ih (p + 1) _ k1 ?_
      rcases h2 with h2 | ⟨q, a, b, c⟩
      · exact .inl h2
      · by_cases hq : q = p
        · subst hq; exact absurd c hi
        · exact .inr ⟨q, by omega, by omega, c⟩
theorem so_r_n {h : Nat → Option Nat} {tm sp : Nat → Int32} {t : Int32} {n : Nat} (hx : ∃ q, q < n ∧ so_i h tm q t ∧ sp q ≠ 0) : so_r h tm sp n t = none := by
  obtain ⟨q, a, b⟩ := hx
  exact so_rs_n n 0 none ⟨q, Nat.zero_le _, by omega, b⟩
theorem so_r_s {h : Nat → Option Nat} {tm sp : Nat → Int32} {t : Int32} {n : Nat} (h1 : ∀ q, q < n → so_i h tm q t → sp q = 0) (h2 : ∃ q, q < n ∧ so_i h tm q t) : so_r h tm sp n t ≠ none := by
  obtain ⟨q, a, b⟩ := h2
  exact so_rs_s n 0 none (fun q _ b => h1 q (by omega)) (.inr ⟨q, Nat.zero_le _, by omega, b⟩)
theorem so_i_c {h : Nat → Option Nat} {tm : Nat → Int32} {p : Nat} {t : Int32} : so_i h tm p t ↔ ∃ z, h p = some z ∧ tm z = t := by
  unfold so_i
  cases h p with
  | none => simp
  | some z => simp
theorem so_f_sm (h : Nat → Option Nat) (n : Nat) : so_f h n = sm (fun p => if h p = none then 1 else 0) 0 n := by
  have e := fo_sm (fun p => if h p = none then 1 else 0) 0 (so_ff h) (fun p c => by rw [so_ff]; split <;> rfl) n 0
  rw [so_f, e, Nat.zero_add]
theorem so_h_sm (ob : Int32) (u f g : Nat → Int32) (h : Nat → Option Nat) (tm : Nat → Int32) (n : Nat) : so_h ob u f g h tm n = sm (fun p => so_hf ob u f g h tm p 0) 0 n := by
  have e := fo_sm (fun p => so_hf ob u f g h tm p 0) 0 (so_hf ob u f g h tm) (fun p c => by
    rw [so_hf, so_hf]
    cases h p with
    | none => rfl
    | some z =>
      show (if _ then c + 1 else c) = c + (if _ then 0 + 1 else 0)
      split <;> rfl) n 0
  rw [so_h, e, Nat.zero_add]
theorem so_u_sm (h : Nat → Option Nat) (tm sp : Nat → Int32) (n : Nat) : so_u h tm sp n = sm (fun p => so_uf h tm sp p 0) 0 n := by
  have e := fo_sm (fun p => so_uf h tm sp p 0) 0 (so_uf h tm sp) (fun p c => by
    rw [so_uf, so_uf]
    cases h p with
    | none => rfl
    | some z =>
      show (if _ then c + 1 else c) = c + (if _ then 0 + 1 else 0)
      split <;> rfl) n 0
  rw [so_u, e, Nat.zero_add]
theorem so_t_c (tm : Nat → Int32) (t : Int32) (n : Nat) (h : Nat → Option Nat) (q : Nat) : so_t tm t n h q = if q < n ∧ so_i h tm q t then none else h q := so_t_s n q
