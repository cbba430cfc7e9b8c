/-- the start of the class -/
def kk_0 (x : Nat) : Nat → bd_T := fun _ => bd_0 0
def kk_D (x : Nat) : Nat → Prop := fun z => z = x + 23
def kk_P (x : Nat) : Nat → Prop := fun p => p = x + 21 ∨ p = x + 28
abbrev kp_f (x : Nat) (v1 v2 v3 v4 v5 v6 : Value) (co : Int32) (v7 : Value) (lc : Int32) (v8 : Value) : Option va_E := some (.inr (5, [v1, v2, v3, v4, v5, v6, .int co, v7, .int lc, v8]))
theorem so_Gn {E : jx_E} {a n q : Nat} {o : Option va_E} {h : Nat → Option Nat} {sp : Nat → Int32} {G : jx_H} (h1 : q < a ∨ a + 3 ≤ q) : so_G E a n o h sp G q = G q := by
  unfold so_G
  rw [va_up_ne _ _ (by omega), va_up_ne _ _ (by omega), va_up_ne _ _ (by omega)]
theorem fz_Gn {E : jx_E} {a q : Nat} {u f g : Nat → Int32} {G : jx_H} (h1 : q < a ∨ a + 4 ≤ q) : fz_G E a u f g G q = G q := by
  unfold fz_G
  rw [va_up_ne _ _ (by omega), va_up_ne _ _ (by omega), va_up_ne _ _ (by omega), va_up_ne _ _ (by omega)]
theorem so_G0 {E : jx_E} {a n : Nat} {o : Option va_E} {h : Nat → Option Nat} {sp : Nat → Int32} {G : jx_H} : so_G E a n o h sp G a = o := by
  unfold so_G
  rw [va_up_ne _ _ (by omega), va_up_ne _ _ (by omega), va_up_self]
theorem so_G1 {E : jx_E} {a n : Nat} {o : Option va_E} {h : Nat → Option Nat} {sp : Nat → Int32} {G : jx_H} : so_G E a n o h sp G (a + 1) = some (ja_q E 4 n h) := by
  unfold so_G
  rw [va_up_ne _ _ (by omega), va_up_self]
theorem so_G2 {E : jx_E} {a n : Nat} {o : Option va_E} {h : Nat → Option Nat} {sp : Nat → Int32} {G : jx_H} : so_G E a n o h sp G (a + 2) = some (ja_z E n sp) := va_up_self _ _ _
theorem fz_Ga {E : jx_E} {a : Nat} {u f g : Nat → Int32} {G : jx_H} : fz_G E a u f g G a = fz_o a ∧ fz_G E a u f g G (a + 1) = some (ja_z E 3 u) ∧ fz_G E a u f g G (a + 2) = some (ja_i E 3 f) ∧ fz_G E a u f g G (a + 3) = some (ja_i E 3 g) := by
  unfold fz_G
  refine ⟨?_, ?_, ?_, va_up_self _ _ _⟩
  · rw [va_up_ne _ _ (by omega), va_up_ne _ _ (by omega), va_up_ne _ _ (by omega), va_up_self]
  · rw [va_up_ne _ _ (by omega), va_up_ne _ _ (by omega), va_up_self]
  · rw [va_up_ne _ _ (by omega), va_up_self]
