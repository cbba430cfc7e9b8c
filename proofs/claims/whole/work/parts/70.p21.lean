/-! Pure rows: the beginning. -/
theorem rs_ns : ∀ (n : Nat) (τ : rs_S), (fo_f rs_n 0 n τ).1 = τ.1 ∧ (∀ k, k ≠ 4 → (fo_f rs_n 0 n τ).2.1 k = τ.2.1 k) ∧ (fo_f rs_n 0 n τ).2.2 = τ.2.2 ∧ ∀ j, (fo_f rs_n 0 n τ).2.1 4 j = if j < n then -1 else τ.2.1 4 j := by
  intro n
  induction n with
  | zero => intro τ; exact ⟨rfl, fun _ _ => rfl, rfl, fun j => rfl⟩
  | succ n ih =>
    intro τ
    obtain ⟨a1, a2, a3, a4⟩ := ih τ
    rw [fo_s, Nat.zero_add]
    generalize fo_f rs_n 0 n τ = υ at a1 a2 a3 a4
    refine ⟨a1, fun k hk => ?_, a3, fun j => ?_⟩
    · rw [rs_n, rs_an _ _ hk]; exact a2 k hk
    · rw [rs_n, rs_av]
      by_cases e : j = n
      · rw [e, pk_us, if_pos (by omega)]
      · rw [pk_un e, a4]
        by_cases y : j < n
        · rw [if_pos y, if_pos (by omega)]
        · rw [if_neg y, if_neg (by omega)]
theorem RR_init (x : Nat) : RR (x + 16) none (x + 21) 0 (x + 23) 2 (some (x + 28)) 1 (-1) (fun _ => 0) (fun _ => 0) (fun _ => 0) (fun _ => 0) (fun _ _ => none) (fun _ _ => 0) (kk_0 x) (fun _ _ => 0) rs_1 := by
  obtain ⟨a1, a2, a3, a4⟩ := rs_ns 72 rs_0
  have e : rs_1 = fo_f rs_n 0 72 rs_0 := rfl
  rw [← e] at a1 a2 a3 a4
  generalize rs_1 = σ at a1 a2 a3 a4
  have z : ∀ k, k ≠ 4 → ∀ j, σ.2.1 k j = 0 := fun k hk j => by rw [a2 k hk]; rfl
  have z4 : ∀ b, b < 70 → σ.2.1 4 b = -1 := fun b hb => by rw [a4, if_pos (by omega)]
  have no : ∀ b, b < 70 → ¬ 0 ≤ σ.2.1 4 b := fun b hb => by rw [z4 b hb]; exact m1_neg
  have b0 : ∀ y, kk_0 x y = bd_0 0 := fun _ => rfl
  refine ⟨⟨fun _ => 0, ⟨fun p hp => .inl (z 2 (by decide) p), fun b hb => .inr (z4 b hb), fun b hb h0 => absurd h0 (no b hb)⟩, ⟨fun b hb h0 => absurd h0 (no b hb), fun i _ p _ => .inl ⟨z 2 (by decide) _, rfl⟩, fun i _ p _ => z 3 (by decide) _, fun b c hb _ _ h0 => absurd h0 (no b hb)⟩, fun b hb h0 => absurd h0 (no b (by omega)), fun b hb h0 => absurd h0 (no b hb)⟩, fun b hb h0 => absurd h0 (no b hb), ?_, ?_, ⟨fun i => .inl (z 9 (by decide) i), fun i => .inl (z 11 (by decide) i), fun p _ => ⟨0, by decide, z 6 (by decide) p⟩⟩, ?_, .inl ?_⟩
  · refine ⟨z 6 (by decide) 70, Nat.zero_le _, fun q hq => absurd hq (Nat.not_lt_zero q), fun k _ => z 10 (by decide) _, z 11 (by decide) 70, (fun pa hp => by cases hp), z 14 (by decide) 70, fun c _ => z 9 (by decide) _, rfl, rfl⟩
  · show σ.1 4 = -1
    rw [a1]; rfl
  · refine ⟨by rw [a1]; rfl, ⟨0, by decide, rfl⟩, by rw [a1]; rfl, by rw [a1]; rfl, .inl rfl, fun i _ => z 1 (by decide) i, fun i _ => z 17 (by decide) i, fun i _ => z 18 (by decide) i, fun i _ => z 19 (by decide) i, fun r _ => z 15 (by decide) r⟩
  · exact ⟨by rw [a1]; rfl, rfl, fun _ _ => rfl, rfl, x + 28, rfl, fun _ _ => rfl⟩
