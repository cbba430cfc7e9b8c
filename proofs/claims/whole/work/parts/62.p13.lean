/-! Pure rows: texts. -/
theorem mg_rr (x : Int64) {n : Nat} (hn : n < 7) : ks_r (mg_r x n) = mg_r x (n + 1) := by
  have e : ∀ (a : Nat) (s : UInt64), a < 56 → s.toNat = a → (((x.toUInt64 >>> s).toInt64.toUInt64 >>> ((8 : Int32).toInt64.toUInt64 &&& Int64.toUInt64 63)).toInt64) = (x.toUInt64 >>> (UInt64.ofNat (a + 8))).toInt64 := by
    intro a s ha hs
    congr 1
    apply UInt64.toNat_inj.mp
    rw [UInt64.toNat_shiftRight, UInt64.toNat_shiftRight]
    have e8 : ((8 : Int32).toInt64.toUInt64 &&& Int64.toUInt64 63).toNat = 8 := by decide
    have er : (x.toUInt64 >>> s).toInt64.toUInt64 = x.toUInt64 >>> s := by simp
    have ea : (UInt64.ofNat (a + 8)).toNat = a + 8 := by
      rw [UInt64.toNat_ofNat']
      exact Nat.mod_eq_of_lt (by omega)
    rw [er, UInt64.toNat_shiftRight, e8, ea, hs, Nat.mod_eq_of_lt (show a < 64 by omega), Nat.mod_eq_of_lt (show a + 8 < 64 by omega), Nat.mod_eq_of_lt (show 8 < 64 by omega), Nat.shiftRight_add]
  unfold ks_r mg_r
  have hc : n = 0 ∨ n = 1 ∨ n = 2 ∨ n = 3 ∨ n = 4 ∨ n = 5 ∨ n = 6 := by omega
  rcases hc with rfl | rfl | rfl | rfl | rfl | rfl | rfl
  · exact e 0 _ (by decide) (by decide)
  · exact e 8 _ (by decide) (by decide)
  · exact e 16 _ (by decide) (by decide)
  · exact e 24 _ (by decide) (by decide)
  · exact e 32 _ (by decide) (by decide)
  · exact e 40 _ (by decide) (by decide)
  · exact e 48 _ (by decide) (by decide)
theorem mg_0 (x : Int64) : mg_r x 0 = x := by
  unfold mg_r
  have e : (((8 : Int32) * nI 0).toInt64.toUInt64 &&& Int64.toUInt64 63) = 0 := by decide
  rw [e, UInt64.shiftRight_zero]
  simp
abbrev mg_ok (x : Int64) (k : Nat) : Prop := 31 < mg_b x k ∧ mg_b x k < 127
def mg_cd (x : Int64) (n m : Nat) : Prop := (m = 8 ∨ mg_r x m = 0) ∧ ∀ k, n ≤ k → k < m → mg_ok x k
theorem mg_s_ge (x : Int64) : ∀ f n, n ≤ mg_s x f n := by
  intro f
  induction f with
  | zero => intro n; exact Nat.le_refl _
  | succ f ih =>
    intro n
    rw [mg_s]
    split
    · exact Nat.le_refl _
    · have := ih (n + 1); omega
theorem b64 {a : Int64} : (a < 32 ↔ ¬ 31 < a) ∧ (126 < a ↔ ¬ a < 127) := by
  have h31 : (31 : Int64).toInt = 31 := by decide
  have h32 : (32 : Int64).toInt = 32 := by decide
  have h126 : (126 : Int64).toInt = 126 := by decide
  have h127 : (127 : Int64).toInt = 127 := by decide
  rw [Int64.lt_iff_toInt_lt, Int64.lt_iff_toInt_lt, Int64.lt_iff_toInt_lt, Int64.lt_iff_toInt_lt, h31, h32, h126, h127]
  omega
theorem ks_K (x : Int64) : ∀ (f n : Nat) (r : Int64), n + f = 8 → (f ≠ 0 → r = mg_r x n) → (mg_cd x n (mg_s x f n) → ks_s f n r = mg_s x f n) ∧ (¬ mg_cd x n (mg_s x f n) → ks_s f n r = 0) := by
  intro f
  induction f with
  | zero =>
    intro n r hn _
    refine ⟨fun _ => rfl, fun h => absurd ⟨.inl ?_, fun k k1 k2 => ?_⟩ h⟩
    · show n = 8; omega
    · have : mg_s x 0 n = n := rfl
      omega
  | succ f ih =>
    intro n r hn hr
    have hr' := hr (by omega)
    have hb : mg_b x n = r &&& 255 := by rw [mg_b, hr']
    rw [ks_s, mg_s]
    by_cases h0 : r = 0
    · have b0 : mg_b x n = 0 := by rw [hb, h0]; decide
      rw [if_pos h0, if_pos b0]
      refine ⟨fun _ => rfl, fun h => absurd ⟨.inr (by rw [← hr']; exact h0), fun k k1 k2 => ?_⟩ h⟩
      omega
    · rw [if_neg h0]
      by_cases b0 : mg_b x n = 0
      · rw [if_pos b0, if_pos (show r &&& 255 < 32 by rw [← hb, b0]; decide)]
        refine ⟨fun h => ?_, fun _ => rfl⟩
        rcases h.1 with e | e
        · omega
        · exact absurd (hr'.trans e) h0
      · rw [if_neg b0, ← hb]
        have hge := mg_s_ge x f (n + 1)
        by_cases h1 : mg_b x n < 32
        · rw [if_pos h1]
          refine ⟨fun h => ?_, fun _ => rfl⟩
          exact absurd (h.2 n (Nat.le_refl _) (by omega)).1 (b64.1.mp h1)
        · rw [if_neg h1]
          by_cases h2 : 126 < mg_b x n
          · rw [if_pos h2]
            refine ⟨fun h => ?_, fun _ => rfl⟩
            exact absurd (h.2 n (Nat.le_refl _) (by omega)).2 (b64.2.mp h2)
          · rw [if_neg h2]
            have ok : mg_ok x n := ⟨Classical.byContradiction (fun e => h1 (b64.1.mpr e)), Classical.byContradiction (fun e => h2 (b64.2.mpr e))⟩
            have k := ih (n + 1) (ks_r r) (by omega) (fun hf => by rw [hr']; exact mg_rr x (by omega))
            refine ⟨fun h => k.1 ⟨h.1, fun q q1 q2 => h.2 q (by omega) q2⟩, fun h => k.2 (fun h' => h ⟨h'.1, fun q q1 q2 => ?_⟩)⟩
            by_cases e : q = n
            · rw [e]; exact ok
            · exact h'.2 q (by omega) q2
theorem mt_c (x : Int64) : mt_x x = true ↔ 0 < mg_n x ∧ mg_cd x 0 (mg_n x) := by
  have e : ∀ n g, fo_f (mt_f x) 0 n g = true ↔ g = true ∧ ∀ k, k < n → mg_ok x k := by
    intro n
    induction n with
    | zero => intro g; exact ⟨fun h => ⟨h, fun k hk => absurd hk (by omega)⟩, fun h => h.1⟩
    | succ n ih =>
      intro g
      rw [fo_s, mt_f, Nat.zero_add]
      simp only [Bool.and_eq_true, decide_eq_true_eq, ih]
      constructor
      · rintro ⟨⟨a, b⟩, c⟩
        refine ⟨a, fun k hk => ?_⟩
        by_cases q : k = n
        · rw [q]; exact c
        · exact b k (by omega)
      · rintro ⟨a, b⟩
        exact ⟨⟨a, fun k hk => b k (by omega)⟩, b n (by omega)⟩
  rw [mt_x, e, mt_0]
  simp only [Bool.and_eq_true, Bool.or_eq_true, decide_eq_true_eq, mg_cd]
  exact ⟨fun h => ⟨h.1.1, h.1.2, fun k _ hk => h.2 k hk⟩, fun h => ⟨⟨h.1, h.2.1⟩, fun k hk => h.2.2 k (Nat.zero_le _) hk⟩⟩
theorem ks_mt (x : Int64) : (mt_x x = true ↔ ks_n x ≠ 0) ∧ (ks_n x ≠ 0 → ks_n x = mg_n x) := by
  have k := ks_K x 8 0 x rfl (fun _ => (mg_0 x).symm)
  have e : mg_s x 8 0 = mg_n x := rfl
  rw [e] at k
  have e2 : ks_s 8 0 x = ks_n x := rfl
  rw [e2] at k
  rw [mt_c]
  by_cases h : mg_cd x 0 (mg_n x)
  · have h1 := k.1 h
    exact ⟨⟨fun a => by rw [h1]; omega, fun a => ⟨by rw [h1] at a; omega, h⟩⟩, fun _ => h1⟩
  · have h1 := k.2 h
    exact ⟨⟨fun a => absurd a.2 h, fun a => absurd h1 a⟩, fun a => absurd h1 a⟩
