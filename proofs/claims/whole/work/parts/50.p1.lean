/-! Pure rows: least and greatest, sums, stores. -/
theorem tI0 : (0 : Int32).toInt = 0 := rfl
theorem tIm : (-1 : Int32).toInt = -1 := rfl
theorem tI1 : (1 : Int32).toInt = 1 := rfl
def is_mn (S : Int32 → Prop) (r : Int32) : Prop := (r = -1 ∧ ∀ t, ¬ S t) ∨ (S r ∧ ∀ t, S t → r ≤ t)
def is_mx (S : Int32 → Prop) (r : Int32) : Prop := (r = -1 ∧ ∀ t, ¬ S t) ∨ (S r ∧ ∀ t, S t → t ≤ r)
theorem is_mn_u {S : Int32 → Prop} {r s : Int32} (a : is_mn S r) (b : is_mn S s) : r = s := by
  rcases a with ⟨a1, a2⟩ | ⟨a1, a2⟩
  · rcases b with ⟨b1, _⟩ | ⟨b1, _⟩
    · rw [a1, b1]
    · exact absurd b1 (a2 _)
  · rcases b with ⟨_, b2⟩ | ⟨b1, b2⟩
    · exact absurd a1 (b2 _)
    · exact Int32.le_antisymm (a2 _ b1) (b2 _ a1)
theorem is_mx_u {S : Int32 → Prop} {r s : Int32} (a : is_mx S r) (b : is_mx S s) : r = s := by
  rcases a with ⟨a1, a2⟩ | ⟨a1, a2⟩
  · rcases b with ⟨b1, _⟩ | ⟨b1, _⟩
    · rw [a1, b1]
    · exact absurd b1 (a2 _)
  · rcases b with ⟨_, b2⟩ | ⟨b1, b2⟩
    · exact absurd a1 (b2 _)
    · exact Int32.le_antisymm (b2 _ a1) (a2 _ b1)
theorem is_mn_c {S T : Int32 → Prop} {r : Int32} (h : ∀ t, S t ↔ T t) (a : is_mn S r) : is_mn T r := by
  rcases a with ⟨a1, a2⟩ | ⟨a1, a2⟩
  · exact .inl ⟨a1, fun t ht => a2 t ((h t).mpr ht)⟩
  · exact .inr ⟨(h _).mp a1, fun t ht => a2 t ((h t).mpr ht)⟩
theorem is_mx_c {S T : Int32 → Prop} {r : Int32} (h : ∀ t, S t ↔ T t) (a : is_mx S r) : is_mx T r := by
  rcases a with ⟨a1, a2⟩ | ⟨a1, a2⟩
  · exact .inl ⟨a1, fun t ht => a2 t ((h t).mpr ht)⟩
  · exact .inr ⟨(h _).mp a1, fun t ht => a2 t ((h t).mpr ht)⟩
theorem fo_mn (step : Nat → Int32 → Int32) (v : Nat → Int32 → Prop) (lo N : Nat) (hv : ∀ p, lo ≤ p → p < lo + N → ∀ t, v p t → 0 ≤ t)
    (h0 : ∀ p m, lo ≤ p → p < lo + N → (∀ t, ¬ v p t) → step p m = m) (h1 : ∀ p t, lo ≤ p → p < lo + N → v p t → step p (-1) = t)
    (h2 : ∀ p m t, lo ≤ p → p < lo + N → v p t → 0 ≤ m → step p m = if t < m then t else m) :
    ∀ n, n ≤ N → is_mn (fun t => ∃ p, lo ≤ p ∧ p < lo + n ∧ v p t) (fo_f step lo n (-1)) := by
  intro n
  induction n with
  | zero => intro _; exact .inl ⟨rfl, fun t ⟨p, a, b, _⟩ => by omega⟩
  | succ n ih =>
    intro hn
    rw [fo_s]
    by_cases hx : ∃ t, v (lo + n) t
    · obtain ⟨t, ht⟩ := hx
      rcases ih (by omega) with ⟨a1, a2⟩ | ⟨a1, a2⟩
      · rw [a1, h1 _ _ (by omega) (by omega) ht]
        refine .inr ⟨⟨lo + n, by omega, by omega, ht⟩, ?_⟩
        rintro s ⟨p, p1, p2, hs⟩
        by_cases hp : p < lo + n
        · exact absurd ⟨p, p1, hp, hs⟩ (a2 s)
        · obtain rfl : p = lo + n := by omega
          have e := h1 _ _ (by omega) (by omega) ht
          rw [h1 _ _ (by omega) (by omega) hs] at e
          rw [e]; exact Int32.le_refl _
      · obtain ⟨p0, q1, q2, q3⟩ := a1
        have hm := hv _ q1 (by omega) _ q3
        rw [h2 _ _ _ (by omega) (by omega) ht hm]
        refine .inr ?_
        split
        · rename_i hlt
          refine ⟨⟨lo + n, by omega, by omega, ht⟩, ?_⟩
          rintro s ⟨p, p1, p2, hs⟩
          by_cases hp : p < lo + n
          · exact Int32.le_trans (Int32.le_of_lt hlt) (a2 s ⟨p, p1, hp, hs⟩)
          · obtain rfl : p = lo + n := by omega
            have e := h1 _ _ (by omega) (by omega) ht
            rw [h1 _ _ (by omega) (by omega) hs] at e
            rw [e]; exact Int32.le_refl _
        · rename_i hlt
          refine ⟨⟨p0, q1, by omega, q3⟩, ?_⟩
          rintro s ⟨p, p1, p2, hs⟩
          by_cases hp : p < lo + n
          · exact a2 s ⟨p, p1, hp, hs⟩
          · obtain rfl : p = lo + n := by omega
            have e := h1 _ _ (by omega) (by omega) ht
            rw [h1 _ _ (by omega) (by omega) hs] at e
            rw [e]; exact Int32.not_lt.mp hlt
    · have hx' : ∀ t, ¬ v (lo + n) t := fun t ht => hx ⟨t, ht⟩
      rw [h0 _ _ (by omega) (by omega) hx']
      refine is_mn_c (fun t => ⟨fun ⟨p, a, b, c⟩ => ⟨p, a, by omega, c⟩, fun ⟨p, a, b, c⟩ => ⟨p, a, ?_, c⟩⟩) (ih (by omega))
      by_cases hp : p < lo + n
      · exact hp
      · obtain rfl : p = lo + n := by omega
        exact absurd c (hx' t)
theorem fo_mx (step : Nat → Int32 → Int32) (v : Nat → Int32 → Prop) (lo N : Nat) (hv : ∀ p, lo ≤ p → p < lo + N → ∀ t, v p t → 0 ≤ t)
    (h0 : ∀ p m, lo ≤ p → p < lo + N → (∀ t, ¬ v p t) → step p m = m) (h1 : ∀ p t, lo ≤ p → p < lo + N → v p t → step p (-1) = t)
    (h2 : ∀ p m t, lo ≤ p → p < lo + N → v p t → 0 ≤ m → step p m = if m < t then t else m) :
    ∀ n, n ≤ N → is_mx (fun t => ∃ p, lo ≤ p ∧ p < lo + n ∧ v p t) (fo_f step lo n (-1)) := by
  intro n
  induction n with
  | zero => intro _; exact .inl ⟨rfl, fun t ⟨p, a, b, _⟩ => by omega⟩
  | succ n ih =>
    intro hn
    rw [fo_s]
    by_cases hx : ∃ t, v (lo + n) t
    · obtain ⟨t, ht⟩ := hx
      rcases ih (by omega) with ⟨a1, a2⟩ | ⟨a1, a2⟩
      · rw [a1, h1 _ _ (by omega) (by omega) ht]
        refine .inr ⟨⟨lo + n, by omega, by omega, ht⟩, ?_⟩
        rintro s ⟨p, p1, p2, hs⟩
        by_cases hp : p < lo + n
        · exact absurd ⟨p, p1, hp, hs⟩ (a2 s)
        · obtain rfl : p = lo + n := by omega
          have e := h1 _ _ (by omega) (by omega) ht
          rw [h1 _ _ (by omega) (by omega) hs] at e
          rw [e]; exact Int32.le_refl _
      · obtain ⟨p0, q1, q2, q3⟩ := a1
        have hm := hv _ q1 (by omega) _ q3
        rw [h2 _ _ _ (by omega) (by omega) ht hm]
        refine .inr ?_
        split
        · rename_i hlt
          refine ⟨⟨lo + n, by omega, by omega, ht⟩, ?_⟩
          rintro s ⟨p, p1, p2, hs⟩
          by_cases hp : p < lo + n
          · exact Int32.le_trans (a2 s ⟨p, p1, hp, hs⟩) (Int32.le_of_lt hlt)
          · obtain rfl : p = lo + n := by omega
            have e := h1 _ _ (by omega) (by omega) ht
            rw [h1 _ _ (by omega) (by omega) hs] at e
            rw [e]; exact Int32.le_refl _
        · rename_i hlt
          refine ⟨⟨p0, q1, by omega, q3⟩, ?_⟩
          rintro s ⟨p, p1, p2, hs⟩
          by_cases hp : p < lo + n
          · exact a2 s ⟨p, p1, hp, hs⟩
          · obtain rfl : p = lo + n := by omega
            have e := h1 _ _ (by omega) (by omega) ht
            rw [h1 _ _ (by omega) (by omega) hs] at e
            rw [e]; exact Int32.not_lt.mp hlt
    · have hx' : ∀ t, ¬ v (lo + n) t := fun t ht => hx ⟨t, ht⟩
      rw [h0 _ _ (by omega) (by omega) hx']
      refine is_mx_c (fun t => ⟨fun ⟨p, a, b, c⟩ => ⟨p, a, by omega, c⟩, fun ⟨p, a, b, c⟩ => ⟨p, a, ?_, c⟩⟩) (ih (by omega))
      by_cases hp : p < lo + n
      · exact hp
      · obtain rfl : p = lo + n := by omega
        exact absurd c (hx' t)
/- sums -/
def sm (f : Nat → Nat) (lo : Nat) : Nat → Nat
  | 0 => 0
  | n + 1 => sm f lo n + f (lo + n)
theorem sm_c {f g : Nat → Nat} {lo : Nat} : ∀ n, (∀ p, lo ≤ p → p < lo + n → f p = g p) → sm f lo n = sm g lo n := by
  intro n
  induction n with
  | zero => intro _; rfl
  | succ n ih => intro h; rw [sm, sm, ih (fun p a b => h p a (by omega)), h _ (by omega) (by omega)]
theorem sm_le {f g : Nat → Nat} {lo : Nat} : ∀ n, (∀ p, lo ≤ p → p < lo + n → f p ≤ g p) → sm f lo n ≤ sm g lo n := by
  intro n
  induction n with
  | zero => intro _; exact Nat.le_refl _
  | succ n ih => intro h; exact Nat.add_le_add (ih (fun p a b => h p a (by omega))) (h _ (by omega) (by omega))
theorem sm_0 {f : Nat → Nat} {lo : Nat} : ∀ n, (∀ p, lo ≤ p → p < lo + n → f p = 0) → sm f lo n = 0 := by
  intro n
  induction n with
  | zero => intro _; rfl
  | succ n ih => intro h; rw [sm, ih (fun p a b => h p a (by omega)), h _ (by omega) (by omega)]
theorem sm_1 {f : Nat → Nat} {lo q : Nat} : ∀ n, lo ≤ q → q < lo + n → (∀ p, lo ≤ p → p < lo + n → p ≠ q → f p = 0) → sm f lo n = f q := by
  intro n
  induction n with
  | zero => intro a b _; omega
  | succ n ih =>
    intro a b h
    rw [sm]
    by_cases hq : q = lo + n
    · rw [sm_0 n (fun p c d => h p c (by omega) (by omega)), hq, Nat.zero_add]
    · rw [ih a (by omega) (fun p c d e => h p c (by omega) e), h (lo + n) (by omega) (by omega) (fun e => hq e.symm), Nat.add_zero]
theorem sm_add {f g : Nat → Nat} {lo : Nat} : ∀ n, sm (fun p => f p + g p) lo n = sm f lo n + sm g lo n := by
  intro n
  induction n with
  | zero => rfl
  | succ n ih => rw [sm, sm, sm, ih]; omega
theorem sm_sw {F : Nat → Nat → Nat} {a b m : Nat} : ∀ n, sm (fun i => sm (fun j => F i j) b m) a n = sm (fun j => sm (fun i => F i j) a n) b m := by
  intro n
  induction n with
  | zero => rw [sm]; exact (sm_0 m (fun _ _ _ => rfl)).symm
  | succ n ih =>
    rw [sm, ih, ← sm_add]
    rfl
theorem sm_n {f : Nat → Nat} {lo : Nat} : ∀ n, (∀ p, lo ≤ p → p < lo + n → f p ≤ 1) → sm f lo n ≤ n := by
  intro n
  induction n with
  | zero => intro _; exact Nat.le_refl _
  | succ n ih => intro h; have := ih (fun p a b => h p a (by omega)); have := h (lo + n) (by omega) (by omega); rw [sm]; omega
theorem sm_ex {f : Nat → Nat} {lo : Nat} : ∀ n, 0 < sm f lo n → ∃ p, lo ≤ p ∧ p < lo + n ∧ 0 < f p := by
  intro n
  induction n with
  | zero => intro h; exact absurd h (Nat.lt_irrefl 0)
  | succ n ih =>
    intro h
    rw [sm] at h
    by_cases hf : 0 < f (lo + n)
    · exact ⟨_, by omega, by omega, hf⟩
    · obtain ⟨p, a, b, c⟩ := ih (by omega)
      exact ⟨p, a, by omega, c⟩
theorem sm_sh {f : Nat → Nat} {lo : Nat} : ∀ n, sm f lo n = sm (fun p => f (lo + p)) 0 n := by
  intro n
  induction n with
  | zero => rfl
  | succ n ih => rw [sm, sm, ih, Nat.zero_add]
theorem fo_sm (f : Nat → Nat) (lo : Nat) (step : Nat → Nat → Nat) (h : ∀ p c, step p c = c + f p) : ∀ n c, fo_f step lo n c = c + sm f lo n := by
  intro n
  induction n with
  | zero => intro c; rfl
  | succ n ih => intro c; rw [fo_s, h, ih, sm]; omega
theorem ct_sm (P : Nat → Bool) (lo : Nat) : ∀ n, ct_n P lo n = sm (fun p => if P p = true then 1 else 0) lo n := by
  intro n
  induction n with
  | zero => rfl
  | succ n ih => rw [ct_n, sm, ih]; split <;> rfl
theorem sm_dl {f : Nat → Nat} {lo : Nat} (n : Nat) (q : Nat) (h1 : lo ≤ q) (h2 : q < lo + n) : f q ≤ sm f lo n := by
  induction n with
  | zero => omega
  | succ n ih =>
    rw [sm]
    by_cases hq : q = lo + n
    · rw [hq]; omega
    · have := ih (by omega); omega
/- stores -/
def sL (i : Nat) : Nat := if i = 0 then 0 else if i = 1 then 40 else 60
def stp (p : Nat) : Nat := if p < 40 then 0 else if p < 60 then 1 else 2
theorem i3 {i : Nat} (h : i < 3) : i = 0 ∨ i = 1 ∨ i = 2 := by omega
theorem stp_lt (p : Nat) : stp p < 3 := by unfold stp; split <;> (try split) <;> omega
theorem stp_in {p : Nat} (h : p < 70) : sL (stp p) ≤ p ∧ p < sL (stp p) + sN (stp p) := by
  unfold stp sL sN
  by_cases h1 : p < 40
  · rw [if_pos h1]; exact ⟨Nat.zero_le _, by show p < 0 + 40; omega⟩
  · by_cases h2 : p < 60
    · rw [if_neg h1, if_pos h2]; exact ⟨by show 40 ≤ p; omega, by show p < 40 + 20; omega⟩
    · rw [if_neg h1, if_neg h2]; exact ⟨by show 60 ≤ p; omega, by show p < 60 + 10; omega⟩
theorem stp_of {i p : Nat} (hi : i < 3) (h1 : sL i ≤ p) (h2 : p < sL i + sN i) : stp p = i ∧ p < 70 := by
  rcases i3 hi with rfl | rfl | rfl <;> simp only [sL, sN] at h1 h2 <;> simp at h1 h2 <;> unfold stp
  · rw [if_pos (by omega)]; exact ⟨rfl, by omega⟩
  · rw [if_neg (by omega), if_pos (by omega)]; exact ⟨rfl, by omega⟩
  · rw [if_neg (by omega), if_neg (by omega)]; exact ⟨rfl, by omega⟩
theorem sL_lo {i : Nat} (hi : i < 3) : mb_lo (nI i) = sL i := by
  rcases i3 hi with rfl | rfl | rfl <;> decide
theorem sL_hi {i : Nat} (hi : i < 3) : mb_hi (nI i) = sL i + sN i := by
  rcases i3 hi with rfl | rfl | rfl <;> decide
theorem sL_n {i : Nat} (hi : i < 3) : mb_hi (nI i) - mb_lo (nI i) = sN i := by
  rcases i3 hi with rfl | rfl | rfl <;> decide
