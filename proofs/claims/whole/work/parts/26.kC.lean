/-- Bundle -/
def bv (o : Option Nat) : Value := match o with
  | none => .null
  | some a => .ref a
abbrev bn_o (a : Nat) (t sn cs : Int32) (pv : Value) (ba pb sb : Int32) : Option va_E := some (.inr (0, [.int t, .ref (a + 1), .ref (a + 2), .int sn, .int cs, pv, .int ba, .int pb, .int sb, .ref (a + 3), .ref (a + 4)]))
def bn_G (E : jx_E) (a : Nat) (o : Option va_E) (tx : Nat → Int64) (so sd he : Nat → Int32) (G : jx_H) : jx_H := va_up (va_up (va_up (va_up (va_up G a o) (a + 1) (some (ja_l E 4 tx))) (a + 2) (some (ja_i E 4 so))) (a + 3) (some (ja_i E 8 sd))) (a + 4) (some (ja_z E 2 he))
set_option maxRecDepth 100000 in
set_option maxHeartbeats 4000000 in
theorem k_Binit (l : Launch) (E : jx_E) (b : Nat) (G : jx_H) (a : Nat) (t : Int32) : jx_ct l E b yB_init cB_init 2 none 1 4 18 [.ref a, .int t] (va_up G a (some (.inr (0, [.int 0, .null, .null, .int 0, .int 0, .null, .int 0, .int 0, .int 0, .null, .null])))) (a + 1) (fun v G' sz' => v = none ∧ G' = bn_G E a (bn_o a t 0 0 .null (-1) 0 0) (fun _ => 0) (fun _ => 0) (fun _ => 0) (fun _ => 0) G ∧ sz' = a + 5) := by
  refine jx_met (by decide) (Nat.le_of_ble_eq_true rfl) (L0 := [_, _]) rfl (fun X k => ?_)
  refine jx_aload_n k dB_init_0 rfl ?_
  refine jx_obj k jn_119 jn_54 jn_55 dB_init_1 rfl (Nat.le_of_ble_eq_true rfl) (Nat.le_of_ble_eq_true rfl) ?_
  refine jx_aload_n k dB_init_4 rfl ?_
  refine jx_iconst k dB_init_5 (v := 4) (by decide) ?_
  refine jx_newa k (at0 := .long) (ty := .long) (t := 2) (N := 4) (a0 := (4, .inr (.inl (fun _ => 0)))) rfl jn_163 rfl (fun _ h => by cases h) (fun _ => rfl) dB_init_6 (by decide) (by decide) (by decide) (Nat.le_of_ble_eq_true rfl) (Nat.le_of_ble_eq_true rfl) ?_
  refine jx_putF k rfl ffB_11 dB_init_8 ((va_up_ne _ _ (by omega)).trans (va_up_self _ _ _)) rfl rfl (Nat.le_of_ble_eq_true rfl) (fs' := [_, _, _, _, _, _, _, _, _, _, _]) rfl ?_
  refine jx_aload_n k dB_init_11 rfl ?_
  refine jx_iconst k dB_init_12 (v := 4) (by decide) ?_
  refine jx_newa k (at0 := .int) (ty := .int) (t := 0) (N := 4) (a0 := (4, .inl (fun _ => 0))) rfl jn_86 rfl (fun _ h => by cases h) (fun _ => rfl) dB_init_13 (by decide) (by decide) (by decide) (Nat.le_of_ble_eq_true rfl) (Nat.le_of_ble_eq_true rfl) ?_
  refine jx_putF k rfl ffB_15 dB_init_15 ((va_up_ne _ _ (by omega)).trans (va_up_self _ _ _)) rfl rfl (Nat.le_of_ble_eq_true rfl) (fs' := [_, _, _, _, _, _, _, _, _, _, _]) rfl ?_
  refine jx_aload_n k dB_init_18 rfl ?_
  refine jx_iconst k dB_init_19 (v := 0) (by decide) ?_
  refine jx_put k fB_19 dB_init_20 (va_up_self _ _ _) rfl rfl (Nat.le_of_ble_eq_true rfl) (fs' := [_, _, _, _, _, _, _, _, _, _, _]) rfl ?_
  refine jx_aload_n k dB_init_23 rfl ?_
  refine jx_iconst k dB_init_24 (v := 0) (by decide) ?_
  refine jx_put k fB_23 dB_init_25 (va_up_self _ _ _) rfl rfl (Nat.le_of_ble_eq_true rfl) (fs' := [_, _, _, _, _, _, _, _, _, _, _]) rfl ?_
  refine jx_aload_n k dB_init_28 rfl ?_
  refine jx_null k dB_init_29 ?_
  refine jx_put k fB_26 dB_init_30 (va_up_self _ _ _) rfl rfl (Nat.le_of_ble_eq_true rfl) (fs' := [_, _, _, _, _, _, _, _, _, _, _]) rfl ?_
  refine jx_aload_n k dB_init_33 rfl ?_
  refine jx_iconst k dB_init_34 (v := (-1)) (by decide) ?_
  refine jx_put k fB_30 dB_init_35 (va_up_self _ _ _) rfl rfl (Nat.le_of_ble_eq_true rfl) (fs' := [_, _, _, _, _, _, _, _, _, _, _]) rfl ?_
  refine jx_aload_n k dB_init_38 rfl ?_
  refine jx_iconst k dB_init_39 (v := 0) (by decide) ?_
  refine jx_put k fB_33 dB_init_40 (va_up_self _ _ _) rfl rfl (Nat.le_of_ble_eq_true rfl) (fs' := [_, _, _, _, _, _, _, _, _, _, _]) rfl ?_
  refine jx_aload_n k dB_init_43 rfl ?_
  refine jx_iconst k dB_init_44 (v := 0) (by decide) ?_
  refine jx_put k fB_36 dB_init_45 (va_up_self _ _ _) rfl rfl (Nat.le_of_ble_eq_true rfl) (fs' := [_, _, _, _, _, _, _, _, _, _, _]) rfl ?_
  refine jx_aload_n k dB_init_48 rfl ?_
  refine jx_bipush k dB_init_49 (v := 8) (by decide) ?_
  refine jx_newa k (at0 := .int) (ty := .int) (t := 0) (N := 8) (a0 := (8, .inl (fun _ => 0))) rfl jn_86 rfl (fun _ h => by cases h) (fun _ => rfl) dB_init_51 (by decide) (by decide) (by decide) (Nat.le_of_ble_eq_true rfl) (Nat.le_of_ble_eq_true rfl) ?_
  refine jx_putF k rfl ffB_39 dB_init_53 ((va_up_ne _ _ (by omega)).trans (va_up_self _ _ _)) rfl rfl (Nat.le_of_ble_eq_true rfl) (fs' := [_, _, _, _, _, _, _, _, _, _, _]) rfl ?_
  refine jx_aload_n k dB_init_56 rfl ?_
  refine jx_iconst k dB_init_57 (v := 2) (by decide) ?_
  refine jx_newa k (at0 := .boolean) (ty := .boolean) (t := 1) (N := 2) (a0 := (2, .inl (fun _ => 0))) rfl jn_85 rfl (fun _ h => by cases h) (fun _ => rfl) dB_init_58 (by decide) (by decide) (by decide) (Nat.le_of_ble_eq_true rfl) (Nat.le_of_ble_eq_true rfl) ?_
  refine jx_putF k rfl ffB_42 dB_init_60 ((va_up_ne _ _ (by omega)).trans (va_up_self _ _ _)) rfl rfl (Nat.le_of_ble_eq_true rfl) (fs' := [_, _, _, _, _, _, _, _, _, _, _]) rfl ?_
  refine jx_aload_n k dB_init_63 rfl ?_
  refine jx_iload_n k dB_init_64 rfl ?_
  refine jx_putF k rfl ffB_46 dB_init_65 (va_up_self _ _ _) rfl rfl (Nat.le_of_ble_eq_true rfl) (fs' := [_, _, _, _, _, _, _, _, _, _, _]) rfl ?_
  refine jx_vret k dB_init_68 (Nat.le_refl _) (Nat.le_refl _) ⟨rfl, ?_, rfl⟩
  funext q
  unfold bn_G
  by_cases h0 : q = a
  · subst h0
    simp [va_up]
  · by_cases h1 : q = a + 1
    · subst h1
      simp [va_up]
    · by_cases h2 : q = a + 2
      · subst h2
        simp [va_up]
      · by_cases h3 : q = a + 3
        · subst h3
          simp [va_up]
        · by_cases h4 : q = a + 4
          · subst h4
            simp [va_up]
          · simp [va_up, h0, h1, h2, h3, h4]
/-- how many signs a text has, as the class counts them -/
def ks_r (x : Int64) : Int64 := (x.toUInt64 >>> ((8 : Int32).toInt64.toUInt64 &&& Int64.toUInt64 63)).toInt64
def ks_s : Nat → Nat → Int64 → Nat
  | 0, n, _ => n
  | f + 1, n, x => if x = 0 then n else if (x &&& 255) < 32 then 0 else if 126 < (x &&& 255) then 0 else ks_s f (n + 1) (ks_r x)
def ks_n (x : Int64) : Nat := ks_s 8 0 x
theorem ks_s_le : ∀ f n x, ks_s f n x ≤ n + f := by
  intro f
  induction f with
  | zero => intro n x; exact Nat.le_refl _
  | succ f ih =>
    intro n x
    unfold ks_s
    split
    · omega
    · split
      · omega
      · split
        · omega
        · have := ih (n + 1) (ks_r x); omega
theorem ks_n_le (x : Int64) : ks_n x ≤ 8 := ks_s_le 8 0 x
theorem lc_lt {x y : Int64} : lg_cmp x y < 0 ↔ x < y := by
  constructor
  · intro h
    refine Decidable.byContradiction (fun h2 => ?_)
    exact absurd (lc_ge.mpr (Int64.not_lt.mp h2)) (Int32.not_le.mpr h)
  · intro h
    refine Decidable.byContradiction (fun h2 => ?_)
    exact absurd (lc_ge.mp (Int32.not_lt.mp h2)) (Int64.not_le.mpr h)
set_option maxRecDepth 100000 in
set_option maxHeartbeats 4000000 in
theorem k_countSigns (l : Launch) (E : jx_E) (b : Nat) (G : jx_H) (sz : Nat) (x : Int64) : jx_ct l E b yB_countSigns cB_countSigns 7 (some .int) 0 0 0 [.long x] G sz (jx_pu (.int (nI (ks_n x))) G sz) := by
  refine jx_met (by decide) (Nat.le_of_ble_eq_true rfl) (L0 := [_, _, _, _, _, _, _]) rfl (fun X k => ?_)
  refine jx_iconst k dB_countSigns_0 (v := 0) (by decide) ?_
  refine jx_istore_n k dB_countSigns_1 (Nat.le_of_ble_eq_true rfl) rfl (L' := [_, _, _, _, _, _, _]) rfl ?_
  refine jx_lload_n k dB_countSigns_2 rfl ?_
  refine jx_lstore_n k dB_countSigns_3 (Nat.le_of_ble_eq_true rfl) rfl (L' := [_, _, _, _, _, _, _]) rfl ?_
  have key : ∀ f n y, n + f = 8 → ks_s f n y = ks_n x → jx_w X E b (jx_fin X E b (jx_pu (.int (nI (ks_n x))) G sz) 0 0) 4 [some (.long x), none, some (.int (nI n)), some (.long y), none, none, none] [] G sz 0 0 := by
    intro f
    induction f with
    | zero =>
      intro n y hn he
      have e8 : n = 8 := by omega
      subst e8
      refine jx_lload_n k dB_countSigns_4 rfl ?_
      refine jx_lconst k dB_countSigns_5 (v := 0) (by decide) ?_
      refine jx_lcmp k dB_countSigns_6 ?_
      refine jx_if_eq k dB_countSigns_7 (tgt := 54) rfl (fun h1 => ?_) (fun h1 => ?_)
      · refine jx_iload_n k dB_countSigns_54 rfl ?_
        exact jx_iret k dB_countSigns_55 (Nat.le_refl _) (Nat.le_refl _) ⟨by rw [← he]; rfl, rfl, rfl⟩
      · refine jx_iload_n k dB_countSigns_10 rfl ?_
        refine jx_bipush k dB_countSigns_11 (v := 8) (by decide) ?_
        refine jx_icmp_ge k dB_countSigns_13 (tgt := 54) rfl (fun _ => ?_) (fun hh => absurd (nI_le (a := 8) (b := 8) (by decide) (by decide)) hh)
        refine jx_iload_n k dB_countSigns_54 rfl ?_
        exact jx_iret k dB_countSigns_55 (Nat.le_refl _) (Nat.le_refl _) ⟨by rw [← he]; rfl, rfl, rfl⟩
    | succ f ih =>
      intro n y hn he
      refine jx_lload_n k dB_countSigns_4 rfl ?_
      refine jx_lconst k dB_countSigns_5 (v := 0) (by decide) ?_
      refine jx_lcmp k dB_countSigns_6 ?_
      refine jx_if_eq k dB_countSigns_7 (tgt := 54) rfl (fun h1 => ?_) (fun h1 => ?_)
      · have h2 : y = 0 := lc_eq.mp h1
        refine jx_iload_n k dB_countSigns_54 rfl ?_
        exact jx_iret k dB_countSigns_55 (Nat.le_refl _) (Nat.le_refl _) ⟨by rw [← he, ks_s, if_pos h2], rfl, rfl⟩
      · have h2 : ¬ y = 0 := fun h => h1 (lc_eq.mpr h)
        refine jx_iload_n k dB_countSigns_10 rfl ?_
        refine jx_bipush k dB_countSigns_11 (v := 8) (by decide) ?_
        refine jx_icmp_ge k dB_countSigns_13 (tgt := 54) rfl (fun hh => absurd hh (nI_ge (b := 8) (by omega) (by omega))) (fun _ => ?_)
        refine jx_lload_n k dB_countSigns_16 rfl ?_
        refine jx_ldc2 k jn_455 dB_countSigns_17 ?_
        refine jx_land k dB_countSigns_20 ?_
        refine jx_lstore k dB_countSigns_21 (Nat.le_of_ble_eq_true rfl) rfl (L' := [_, _, _, _, _, _, _]) rfl ?_
        refine jx_lload k dB_countSigns_23 rfl ?_
        refine jx_ldc2 k jn_456 dB_countSigns_25 ?_
        refine jx_lcmp k dB_countSigns_28 ?_
        refine jx_if_lt k dB_countSigns_29 (tgt := 41) rfl (fun h3 => ?_) (fun h3 => ?_)
        · have h4 : (y &&& 255) < 32 := lc_lt.mp h3
          refine jx_iconst k dB_countSigns_41 (v := 0) (by decide) ?_
          exact jx_iret k dB_countSigns_42 (Nat.le_refl _) (Nat.le_refl _) ⟨by rw [← he, ks_s, if_neg h2, if_pos h4]; rfl, rfl, rfl⟩
        · have h4 : ¬ (y &&& 255) < 32 := fun h => h3 (lc_lt.mpr h)
          refine jx_lload k dB_countSigns_32 rfl ?_
          refine jx_ldc2 k jn_457 dB_countSigns_34 ?_
          refine jx_lcmp k dB_countSigns_37 ?_
          refine jx_if_le k dB_countSigns_38 (tgt := 43) rfl (fun h5 => ?_) (fun h5 => ?_)
          · have h6 : ¬ 126 < (y &&& 255) := Int64.not_lt.mpr (lc_le.mp h5)
            refine jx_lload_n k dB_countSigns_43 rfl ?_
            refine jx_bipush k dB_countSigns_44 (v := 8) (by decide) ?_
            refine jx_lushr k dB_countSigns_46 ?_
            refine jx_lstore_n k dB_countSigns_47 (Nat.le_of_ble_eq_true rfl) rfl (L' := [_, _, _, _, _, _, _]) rfl ?_
            refine jx_iinc k dB_countSigns_48 rfl (nI_1 n) rfl (L' := [_, _, _, _, _, _, _]) rfl ?_
            refine jx_goto k dB_countSigns_51 (tgt := 4) rfl ?_
            refine jx_fg (jx_ls (jx_ls (jx_ls (jx_ls (jx_ls (jx_ln (jx_ln jx_l0))))))) ?_
            exact ih (n + 1) (ks_r y) (by omega) (by rw [← he, ks_s, if_neg h2, if_neg h4, if_neg h6])
          · have h6 : 126 < (y &&& 255) := Int64.not_le.mp (fun h => h5 (lc_le.mpr h))
            refine jx_iconst k dB_countSigns_41 (v := 0) (by decide) ?_
            exact jx_iret k dB_countSigns_42 (Nat.le_refl _) (Nat.le_refl _) ⟨by rw [← he, ks_s, if_neg h2, if_neg h4, if_pos h6]; rfl, rfl, rfl⟩
  exact key 8 0 x rfl rfl
set_option maxRecDepth 100000 in
set_option maxHeartbeats 4000000 in
theorem k_addS0 (l : Launch) (E : jx_E) (b : Nat) (G : jx_H) (sz : Nat) (a s : Nat) (t cs ba pb sb : Int32) (pv : Value) (hB : G a = bn_o a t (nI s) cs pv ba pb sb) (src : Int32) (x : Int64) (hs : s ≤ 4) (h : ks_n x = 0 ∨ s = 4) : jx_ct l E b yB_addSentence cB_addSentence 5 (some .int) 1 0 0 [.ref a, .int src, .long x] G sz (jx_pu (.int (-1)) G sz) := by
  refine jx_met (by decide) (Nat.le_of_ble_eq_true rfl) (L0 := [_, _, _, _, _]) rfl (fun X k => ?_)
  refine jx_lload_n k dB_addSentence_0 rfl ?_
  refine jx_callSP k mB_49 (k_countSigns _ _ _ _ _ x) dB_addSentence_1 rfl rfl rfl (Nat.le_of_ble_eq_true rfl) ⟨Nat.le_of_ble_eq_true rfl, Nat.le_of_ble_eq_true rfl⟩ ⟨Nat.le_of_ble_eq_true rfl, Nat.le_of_ble_eq_true rfl⟩ ?_
  refine jx_istore k dB_addSentence_4 (Nat.le_of_ble_eq_true rfl) rfl (L' := [_, _, _, _, _]) rfl ?_
  refine jx_iload k dB_addSentence_6 rfl ?_
  refine jx_if_eq k dB_addSentence_8 (tgt := 19) rfl (fun h1 => ?_) (fun h1 => ?_)
  · refine jx_iconst k dB_addSentence_19 (v := (-1)) (by decide) ?_
    exact jx_iret k dB_addSentence_20 (Nat.le_refl _) (Nat.le_refl _) ⟨rfl, rfl, rfl⟩
  · have h2 : s = 4 := h.resolve_left (fun h => h1 (by rw [h]; rfl))
    subst h2
    refine jx_aload_n k dB_addSentence_11 rfl ?_
    refine jx_get k fB_19 dB_addSentence_12 hB rfl ?_
    refine jx_iconst k dB_addSentence_15 (v := 4) (by decide) ?_
    refine jx_icmp_lt k dB_addSentence_16 (tgt := 21) rfl (fun hh => absurd hh (nI_nlt (a := 4) (b := 4) (by decide) (by decide))) (fun _ => ?_)
    refine jx_iconst k dB_addSentence_19 (v := (-1)) (by decide) ?_
    exact jx_iret k dB_addSentence_20 (Nat.le_refl _) (Nat.le_refl _) ⟨rfl, rfl, rfl⟩
set_option maxRecDepth 100000 in
set_option maxHeartbeats 4000000 in
theorem k_addS1 (l : Launch) (E : jx_E) (b : Nat) (G : jx_H) (sz : Nat) (a s : Nat) (t cs ba pb sb : Int32) (pv : Value) (hB : G a = bn_o a t (nI s) cs pv ba pb sb) (tx : Nat → Int64) (so : Nat → Int32) (hT : G (a + 1) = some (ja_l E 4 tx)) (hO : G (a + 2) = some (ja_i E 4 so)) (src : Int32) (x : Int64) (hs : s < 4) (hx : ks_n x ≠ 0) : jx_ct l E b yB_addSentence cB_addSentence 5 (some .int) 1 0 0 [.ref a, .int src, .long x] G sz (fun v G' sz' => v = some (.int (nI (s + 1))) ∧ G' = va_up (va_up (va_up G (a + 2) (some (ja_i E 4 (upd so s src)))) (a + 1) (some (ja_l E 4 (vp_updL tx s x)))) a (bn_o a t (nI (s + 1)) cs pv ba pb (sb + nI (2 + ks_n x))) ∧ sz' = sz) := by
  refine jx_met (by decide) (Nat.le_of_ble_eq_true rfl) (L0 := [_, _, _, _, _]) rfl (fun X k => ?_)
  have hks := ks_n_le x
  have e1 : va_up G (a + 2) (some (ja_i E 4 (upd so s src))) a = bn_o a t (nI s) cs pv ba pb sb := (va_up_ne _ _ (by omega)).trans hB
  have e2 : va_up G (a + 2) (some (ja_i E 4 (upd so s src))) (a + 1) = some (ja_l E 4 tx) := (va_up_ne _ _ (by omega)).trans hT
  have e3 : va_up (va_up G (a + 2) (some (ja_i E 4 (upd so s src)))) (a + 1) (some (ja_l E 4 (vp_updL tx s x))) a = bn_o a t (nI s) cs pv ba pb sb := (va_up_ne _ _ (by omega)).trans e1
  refine jx_lload_n k dB_addSentence_0 rfl ?_
  refine jx_callSP k mB_49 (k_countSigns _ _ _ _ _ x) dB_addSentence_1 rfl rfl rfl (Nat.le_of_ble_eq_true rfl) ⟨Nat.le_of_ble_eq_true rfl, Nat.le_of_ble_eq_true rfl⟩ ⟨Nat.le_of_ble_eq_true rfl, Nat.le_of_ble_eq_true rfl⟩ ?_
  refine jx_istore k dB_addSentence_4 (Nat.le_of_ble_eq_true rfl) rfl (L' := [_, _, _, _, _]) rfl ?_
  refine jx_iload k dB_addSentence_6 rfl ?_
  refine jx_if_eq k dB_addSentence_8 (tgt := 19) rfl (fun hh => absurd hh (nI_ne0 (by omega) (by omega))) (fun _ => ?_)
  refine jx_aload_n k dB_addSentence_11 rfl ?_
  refine jx_get k fB_19 dB_addSentence_12 hB rfl ?_
  refine jx_iconst k dB_addSentence_15 (v := 4) (by decide) ?_
  refine jx_icmp_lt k dB_addSentence_16 (tgt := 21) rfl (fun _ => ?_) (fun hh => absurd (nI_lt (b := 4) hs (by decide)) hh)
  refine jx_aload_n k dB_addSentence_21 rfl ?_
  refine jx_get k fB_15 dB_addSentence_22 hB rfl ?_
  refine jx_aload_n k dB_addSentence_25 rfl ?_
  refine jx_get k fB_19 dB_addSentence_26 hB rfl ?_
  refine jx_iload_n k dB_addSentence_29 rfl ?_
  refine jx_istN k dB_addSentence_30 hO (p := s) rfl (by omega) (by decide) ?_
  refine jx_aload_n k dB_addSentence_31 rfl ?_
  refine jx_get k fB_11 dB_addSentence_32 e1 rfl ?_
  refine jx_aload_n k dB_addSentence_35 rfl ?_
  refine jx_get k fB_19 dB_addSentence_36 e1 rfl ?_
  refine jx_lload_n k dB_addSentence_39 rfl ?_
  refine jx_lstN k dB_addSentence_40 e2 (p := s) rfl (by omega) (by decide) ?_
  refine jx_aload_n k dB_addSentence_41 rfl ?_
  refine jx_dup k dB_addSentence_42 rfl ?_
  refine jx_get k fB_36 dB_addSentence_43 e3 rfl ?_
  refine jx_iconst k dB_addSentence_46 (v := 2) (by decide) ?_
  refine jx_iload k dB_addSentence_47 rfl ?_
  refine jx_iadd k dB_addSentence_49 ?_
  rw [show (2 : Int32) + nI (ks_n x) = nI (2 + ks_n x) from nI_add 2 _]
  refine jx_iadd k dB_addSentence_50 ?_
  refine jx_put k fB_36 dB_addSentence_51 e3 rfl rfl (Nat.le_of_ble_eq_true rfl) (fs' := [_, _, _, _, _, _, _, _, _, _, _]) rfl ?_
  refine jx_aload_n k dB_addSentence_54 rfl ?_
  refine jx_dup k dB_addSentence_55 rfl ?_
  refine jx_get k fB_19 dB_addSentence_56 (va_up_self _ _ _) rfl ?_
  refine jx_iconst k dB_addSentence_59 (v := 1) (by decide) ?_
  refine jx_iadd k dB_addSentence_60 ?_
  rw [nI_1]
  refine jx_put k fB_19 dB_addSentence_61 (va_up_self _ _ _) rfl rfl (Nat.le_of_ble_eq_true rfl) (fs' := [_, _, _, _, _, _, _, _, _, _, _]) rfl ?_
  refine jx_aload_n k dB_addSentence_64 rfl ?_
  refine jx_get k fB_19 dB_addSentence_65 (va_up_self _ _ _) rfl ?_
  exact jx_iret k dB_addSentence_68 (Nat.le_refl _) (Nat.le_refl _) ⟨rfl, by rw [va_uu], rfl⟩
set_option maxRecDepth 100000 in
theorem k_setSound (l : Launch) (E : jx_E) (b : Nat) (G : jx_H) (sz : Nat) (a s : Nat) (t cs ba pb sb : Int32) (pv : Value) (hB : G a = bn_o a t (nI s) cs pv ba pb sb) (sd he : Nat → Int32) (hD : G (a + 3) = some (ja_i E 8 sd)) (hE : G (a + 4) = some (ja_z E 2 he)) (c q : Nat) (v : Int32) (hc : c < 2) (hq : q < 4) : jx_ct l E b yB_setSound cB_setSound 4 none 2 0 0 [.ref a, .int (nI c), .int (nI q), .int v] G sz (fun w G' sz' => w = none ∧ G' = va_up (va_up G (a + 3) (some (ja_i E 8 (upd sd (c * 4 + q) v)))) (a + 4) (some (ja_z E 2 (upd he c 1))) ∧ sz' = sz) := by
  refine jx_met (by decide) (Nat.le_of_ble_eq_true rfl) (L0 := [_, _, _, _]) rfl (fun X k => ?_)
  have g1 : (0 ≤ nI c ∧ nI c < 2) ∧ (0 ≤ nI q ∧ nI q < 4) := ⟨⟨nI_pos' (by omega), nI_lt (b := 2) hc (by decide)⟩, ⟨nI_pos' (by omega), nI_lt (b := 4) hq (by decide)⟩⟩
  refine jx_iload_n k dB_setSound_0 rfl ?_
  refine jx_iload_n k dB_setSound_1 rfl ?_
  refine jx_callSP k mB_59 (k_isSoundByte _ _ _ _ _ (nI c) (nI q)) dB_setSound_2 rfl rfl rfl (Nat.le_of_ble_eq_true rfl) ⟨Nat.le_of_ble_eq_true rfl, Nat.le_of_ble_eq_true rfl⟩ ⟨Nat.le_of_ble_eq_true rfl, Nat.le_of_ble_eq_true rfl⟩ ?_
  refine jx_if_eq k dB_setSound_5 (tgt := 26) rfl (fun hh => absurd hh (fun h => jb_e0.mp h g1)) (fun _ => ?_)
  refine jx_aload_n k dB_setSound_8 rfl ?_
  refine jx_get k fB_39 dB_setSound_9 hB rfl ?_
  refine jx_iload_n k dB_setSound_12 rfl ?_
  refine jx_iconst k dB_setSound_13 (v := 4) (by decide) ?_
  refine jx_imul k dB_setSound_14 ?_
  refine jx_iload_n k dB_setSound_15 rfl ?_
  refine jx_iadd k dB_setSound_16 ?_
  refine jx_iload_n k dB_setSound_17 rfl ?_
  refine jx_istN k dB_setSound_18 hD (p := c * 4 + q) (nI_ml c 4 q) (by omega) (by decide) ?_
  refine jx_aload_n k dB_setSound_19 rfl ?_
  refine jx_get k fB_42 dB_setSound_20 ((va_up_ne _ _ (by omega)).trans hB) rfl ?_
  refine jx_iload_n k dB_setSound_23 rfl ?_
  refine jx_iconst k dB_setSound_24 (v := 1) (by decide) ?_
  refine jx_zstN k dB_setSound_25 ((va_up_ne _ _ (by omega)).trans hE) (p := c) rfl (by omega) (by decide) rfl ?_
  exact jx_vret k dB_setSound_26 (Nat.le_refl _) (Nat.le_refl _) ⟨rfl, rfl, rfl⟩
set_option maxRecDepth 100000 in
theorem k_soundByte (l : Launch) (E : jx_E) (b : Nat) (G : jx_H) (sz : Nat) (a s : Nat) (t cs ba pb sb : Int32) (pv : Value) (hB : G a = bn_o a t (nI s) cs pv ba pb sb) (sd : Nat → Int32) (hD : G (a + 3) = some (ja_i E 8 sd)) (c q : Nat) (hc : c < 2) (hq : q < 4) : jx_ct l E b yB_soundByte cB_soundByte 3 (some .int) 2 0 0 [.ref a, .int (nI c), .int (nI q)] G sz (jx_pu (.int (sd (c * 4 + q))) G sz) := by
  refine jx_met (by decide) (Nat.le_of_ble_eq_true rfl) (L0 := [_, _, _]) rfl (fun X k => ?_)
  have g1 : (0 ≤ nI c ∧ nI c < 2) ∧ (0 ≤ nI q ∧ nI q < 4) := ⟨⟨nI_pos' (by omega), nI_lt (b := 2) hc (by decide)⟩, ⟨nI_pos' (by omega), nI_lt (b := 4) hq (by decide)⟩⟩
  refine jx_iload_n k dB_soundByte_0 rfl ?_
  refine jx_iload_n k dB_soundByte_1 rfl ?_
  refine jx_callSP k mB_59 (k_isSoundByte _ _ _ _ _ (nI c) (nI q)) dB_soundByte_2 rfl rfl rfl (Nat.le_of_ble_eq_true rfl) ⟨Nat.le_of_ble_eq_true rfl, Nat.le_of_ble_eq_true rfl⟩ ⟨Nat.le_of_ble_eq_true rfl, Nat.le_of_ble_eq_true rfl⟩ ?_
  refine jx_if_eq k dB_soundByte_5 (tgt := 21) rfl (fun hh => absurd hh (fun h => jb_e0.mp h g1)) (fun _ => ?_)
  refine jx_aload_n k dB_soundByte_8 rfl ?_
  refine jx_get k fB_39 dB_soundByte_9 hB rfl ?_
  refine jx_iload_n k dB_soundByte_12 rfl ?_
  refine jx_iconst k dB_soundByte_13 (v := 4) (by decide) ?_
  refine jx_imul k dB_soundByte_14 ?_
  refine jx_iload_n k dB_soundByte_15 rfl ?_
  refine jx_iadd k dB_soundByte_16 ?_
  refine jx_ildN k dB_soundByte_17 hD (p := c * 4 + q) (nI_ml c 4 q) (by omega) (by decide) ?_
  refine jx_goto k dB_soundByte_18 (tgt := 22) rfl ?_
  exact jx_iret k dB_soundByte_22 (Nat.le_refl _) (Nat.le_refl _) ⟨rfl, rfl, rfl⟩
def bs_h (so : Nat → Int32) (src : Int32) (s : Nat) : Bool := fo_f (fun i g => g || decide (so i = src)) 0 s false
theorem bs_h_s (so : Nat → Int32) (src : Int32) (s : Nat) : bs_h so src (s + 1) = (bs_h so src s || decide (so s = src)) := by
  unfold bs_h
  rw [fo_s, Nat.zero_add]
theorem bs_h_t {so : Nat → Int32} {src : Int32} : ∀ {s p : Nat}, p < s → so p = src → bs_h so src s = true := by
  intro s
  induction s with
  | zero => intro p h; exact absurd h (by omega)
  | succ s ih =>
    intro p h he
    rw [bs_h_s]
    rcases Nat.lt_or_ge p s with h1 | h1
    · rw [ih h1 he]; rfl
    · rw [show s = p by omega, decide_eq_true he, Bool.or_true]
theorem bs_h_f {so : Nat → Int32} {src : Int32} : ∀ {s : Nat}, (∀ i, i < s → ¬ so i = src) → bs_h so src s = false := by
  intro s
  induction s with
  | zero => intro _; rfl
  | succ s ih =>
    intro h
    rw [bs_h_s, ih (fun i hi => h i (by omega)), decide_eq_false (h s (by omega))]
    rfl
set_option maxRecDepth 100000 in
set_option maxHeartbeats 4000000 in
theorem k_hasS (l : Launch) (E : jx_E) (b : Nat) (G : jx_H) (sz : Nat) (a s : Nat) (t cs ba pb sb : Int32) (pv : Value) (hB : G a = bn_o a t (nI s) cs pv ba pb sb) (so : Nat → Int32) (hO : G (a + 2) = some (ja_i E 4 so)) (src : Int32) (hs : s ≤ 4) : jx_ct l E b yB_hasSentenceOf cB_hasSentenceOf 3 (some .boolean) 0 0 0 [.ref a, .int src] G sz (jx_pu (.int (jb_z (bs_h so src s = true))) G sz) := by
  refine jx_met (by decide) (Nat.le_of_ble_eq_true rfl) (L0 := [_, _, _]) rfl (fun X k => ?_)
  refine jx_iconst k dB_hasSentenceOf_0 (v := 0) (by decide) ?_
  refine jx_istore_n k dB_hasSentenceOf_1 (Nat.le_of_ble_eq_true rfl) rfl (L' := [_, _, _]) rfl ?_
  refine fo_d (fun p => (∀ i, i < p → ¬ so i = src) → jx_w X E b (jx_fin X E b (jx_pu (.int (jb_z (bs_h so src s = true))) G sz) 0 0) 2 [some (.ref a), some (.int src), some (.int (nI p))] [] G sz 0 0) (lo := 0) (hi := s) (by omega) ?_ ?_ (fun i h => absurd h (by omega))
  · intro p h1 h2 kk hp
    refine jx_iload_n k dB_hasSentenceOf_2 rfl ?_
    refine jx_aload_n k dB_hasSentenceOf_3 rfl ?_
    refine jx_get k fB_19 dB_hasSentenceOf_4 hB rfl ?_
    refine jx_icmp_ge k dB_hasSentenceOf_7 (tgt := 33) rfl (fun hh => absurd hh (nI_ge h2 (by omega))) (fun _ => ?_)
    refine jx_iload_n k dB_hasSentenceOf_10 rfl ?_
    refine jx_iconst k dB_hasSentenceOf_11 (v := 4) (by decide) ?_
    refine jx_icmp_ge k dB_hasSentenceOf_12 (tgt := 33) rfl (fun hh => absurd hh (nI_ge (b := 4) (by omega) (by decide))) (fun _ => ?_)
    refine jx_aload_n k dB_hasSentenceOf_15 rfl ?_
    refine jx_get k fB_15 dB_hasSentenceOf_16 hB rfl ?_
    refine jx_iload_n k dB_hasSentenceOf_19 rfl ?_
    refine jx_ildN k dB_hasSentenceOf_20 hO (p := p) rfl (by omega) (by decide) ?_
    refine jx_iload_n k dB_hasSentenceOf_21 rfl ?_
    refine jx_icmp_ne k dB_hasSentenceOf_22 (tgt := 27) rfl (fun h3 => ?_) (fun h3 => ?_)
    · refine jx_iinc k dB_hasSentenceOf_27 rfl (nI_1 p) rfl (L' := [_, _, _]) rfl ?_
      refine jx_goto k dB_hasSentenceOf_30 (tgt := 2) rfl ?_
      refine kk (fun i hi => ?_)
      rcases Nat.lt_or_ge i p with h | h
      · exact hp i h
      · rw [show i = p by omega]; exact h3
    · refine jx_iconst k dB_hasSentenceOf_25 (v := 1) (by decide) ?_
      exact jx_zret k dB_hasSentenceOf_26 rfl (Nat.le_refl _) (Nat.le_refl _) ⟨by rw [jb_t (bs_h_t h2 h3)], rfl, rfl⟩
  · intro hp
    refine jx_iload_n k dB_hasSentenceOf_2 rfl ?_
    refine jx_aload_n k dB_hasSentenceOf_3 rfl ?_
    refine jx_get k fB_19 dB_hasSentenceOf_4 hB rfl ?_
    refine jx_icmp_ge k dB_hasSentenceOf_7 (tgt := 33) rfl (fun _ => ?_) (fun hh => absurd (nI_le (Nat.le_refl _) (by omega)) hh)
    refine jx_iconst k dB_hasSentenceOf_33 (v := 0) (by decide) ?_
    exact jx_zret k dB_hasSentenceOf_34 rfl (Nat.le_refl _) (Nat.le_refl _) ⟨by rw [jb_f (by rw [bs_h_f hp]; decide)], rfl, rfl⟩
def pr_m (n : Nat) : Nat := if n < 16 then n else 16
theorem pr_n_le (r : Nat → Int32) : pr_n r ≤ 64 := by
  have key : ∀ j, fo_f (pr_f r) 1 j 1 ≤ j + 1 := by
    intro j
    induction j with
    | zero => exact Nat.le_refl _
    | succ j ih =>
      rw [fo_s, pr_f]
      split <;> omega
  exact key 63
theorem pr_m_e {n : Nat} (h : n ≤ 64) : (if nI n < 16 then nI n else 16) = nI (pr_m n) := by
  unfold pr_m
  by_cases h1 : n < 16
  · have h2 : nI n < 16 := nI_lt (b := 16) h1 (by decide)
    rw [if_pos h2, if_pos h1]
  · have h2 : ¬ nI n < 16 := nI_nlt (a := n) (b := 16) (by omega) (by omega)
    rw [if_neg h2, if_neg h1]; rfl
set_option maxRecDepth 100000 in
theorem k_close0 (l : Launch) (E : jx_E) (b : Nat) (G : jx_H) (sz : Nat) (a s : Nat) (t cs ba pb sb : Int32) (pv : Value) (hB : G a = bn_o a t (nI s) cs pv ba pb sb) (hv : pv = .null) (cn : Int32) (fv : Value) (hf : fv = .null ∨ ∃ f, fv = .ref f) : jx_ct l E b yB_close cB_close 4 none 3 2 9 [.ref a, .int cn, fv] G sz (fun v G' sz' => v = none ∧ G' = va_up G a (bn_o a t (nI s) cn .null ba pb sb) ∧ sz' = sz) := by
  subst hv
  rcases hf with rfl | ⟨f, rfl⟩
  · refine jx_met (by decide) (Nat.le_of_ble_eq_true rfl) (L0 := [_, _, _, _]) rfl (fun X k => ?_)
    refine jx_aload_n k dB_close_0 rfl ?_
    refine jx_iload_n k dB_close_1 rfl ?_
    refine jx_put k fB_23 dB_close_2 hB rfl rfl (Nat.le_of_ble_eq_true rfl) (fs' := [_, _, _, _, _, _, _, _, _, _, _]) rfl ?_
    refine jx_aload_n k dB_close_5 rfl ?_
    refine jx_get k fB_26 dB_close_6 (va_up_self _ _ _) rfl ?_
    refine jx_ifnonnullN k dB_close_9 ?_
    exact jx_vret k dB_close_12 (Nat.zero_le _) (Nat.zero_le _) ⟨rfl, rfl, rfl⟩
  · refine jx_met (by decide) (Nat.le_of_ble_eq_true rfl) (L0 := [_, _, _, _]) rfl (fun X k => ?_)
    refine jx_aload_n k dB_close_0 rfl ?_
    refine jx_iload_n k dB_close_1 rfl ?_
    refine jx_put k fB_23 dB_close_2 hB rfl rfl (Nat.le_of_ble_eq_true rfl) (fs' := [_, _, _, _, _, _, _, _, _, _, _]) rfl ?_
    refine jx_aload_n k dB_close_5 rfl ?_
    refine jx_get k fB_26 dB_close_6 (va_up_self _ _ _) rfl ?_
    refine jx_ifnonnullN k dB_close_9 ?_
    exact jx_vret k dB_close_12 (Nat.zero_le _) (Nat.zero_le _) ⟨rfl, rfl, rfl⟩
set_option maxRecDepth 100000 in
set_option maxHeartbeats 4000000 in
theorem k_close1 (l : Launch) (E : jx_E) (b : Nat) (G : jx_H) (sz : Nat) (a s : Nat) (t cs ba pb sb : Int32) (pv : Value) (hB : G a = bn_o a t (nI s) cs pv ba pb sb) (pa : Nat) (r : Nat → Int32) (hv : pv = .ref pa) (hP : G pa = pc_o pa) (hR : G (pa + 1) = some (ja_i E 8 r)) (hn1 : pa ≠ a) (hn2 : pa + 1 ≠ a) (cn : Int32) : jx_ct l E b yB_close cB_close 4 none 3 2 9 [.ref a, .int cn, .null] G sz (fun v G' sz' => v = none ∧ G' = va_up G a (bn_o a t (nI s) cn (.ref pa) ba (nI (pr_m (pr_n r))) sb) ∧ sz' = sz) := by
  subst hv
  refine jx_met (by decide) (Nat.le_of_ble_eq_true rfl) (L0 := [_, _, _, _]) rfl (fun X k => ?_)
  have e1 : va_up G a (bn_o a t (nI s) cn (.ref pa) ba pb sb) pa = pc_o pa := (va_up_ne _ _ hn1).trans hP
  have e2 : va_up G a (bn_o a t (nI s) cn (.ref pa) ba pb sb) (pa + 1) = some (ja_i E 8 r) := (va_up_ne _ _ hn2).trans hR
  refine jx_aload_n k dB_close_0 rfl ?_
  refine jx_iload_n k dB_close_1 rfl ?_
  refine jx_put k fB_23 dB_close_2 hB rfl rfl (Nat.le_of_ble_eq_true rfl) (fs' := [_, _, _, _, _, _, _, _, _, _, _]) rfl ?_
  refine jx_aload_n k dB_close_5 rfl ?_
  refine jx_get k fB_26 dB_close_6 (va_up_self _ _ _) rfl ?_
  refine jx_ifnonnull k dB_close_9 (tgt := 13) rfl ?_
  refine jx_aload_n k dB_close_13 rfl ?_
  refine jx_bipush k dB_close_14 (v := 16) (by decide) ?_
  refine jx_aload_n k dB_close_16 rfl ?_
  refine jx_get k fB_26 dB_close_17 (va_up_self _ _ _) rfl ?_
  refine jx_callVP k mB_63 (k_runs _ _ _ _ _ pa r e1 e2) e1 rfl dB_close_20 rfl rfl rfl (Nat.le_of_ble_eq_true rfl) ⟨Nat.le_of_ble_eq_true rfl, Nat.le_of_ble_eq_true rfl⟩ ⟨Nat.le_of_ble_eq_true rfl, Nat.le_of_ble_eq_true rfl⟩ ?_
  refine jx_callSP k mB_69 (k_min _ _ _ _ _ 16 (nI (pr_n r))) dB_close_23 rfl rfl rfl (Nat.le_of_ble_eq_true rfl) ⟨Nat.le_of_ble_eq_true rfl, Nat.le_of_ble_eq_true rfl⟩ ⟨Nat.le_of_ble_eq_true rfl, Nat.le_of_ble_eq_true rfl⟩ ?_
  rw [pr_m_e (pr_n_le r)]
  refine jx_put k fB_33 dB_close_26 (va_up_self _ _ _) rfl rfl (Nat.le_of_ble_eq_true rfl) (fs' := [_, _, _, _, _, _, _, _, _, _, _]) rfl ?_
  refine jx_aload_nN k dB_close_29 rfl ?_
  refine jx_ifnullN k dB_close_30 (tgt := 76) rfl ?_
  exact jx_vret k dB_close_76 (Nat.zero_le _) (Nat.zero_le _) ⟨rfl, va_uu _ _ _ _, rfl⟩
/-- the picture's bytes and its base, when there is a former one -/
def pr_b (r q : Nat → Int32) (ft ba : Int32) : Nat × Int32 := if pr_n (pr_x r q) < pr_m (pr_n r) then (pr_n (pr_x r q), ft) else (pr_m (pr_n r), ba)
theorem pr_m_le (n : Nat) : pr_m n ≤ 16 := by
  unfold pr_m
  split <;> omega
set_option maxRecDepth 100000 in
set_option maxHeartbeats 4000000 in
theorem k_close2 (l : Launch) (E : jx_E) (b : Nat) (G : jx_H) (sz : Nat) (a s : Nat) (t cs ba pb sb : Int32) (pv : Value) (hB : G a = bn_o a t (nI s) cs pv ba pb sb) (pa : Nat) (r : Nat → Int32) (hv : pv = .ref pa) (hP : G pa = pc_o pa) (hR : G (pa + 1) = some (ja_i E 8 r)) (hn1 : pa ≠ a) (hn2 : pa + 1 ≠ a) (cn : Int32) (f fs fp : Nat) (ft fcs fba fpb fsb : Int32) (q : Nat → Int32) (hF : G f = bn_o f ft (nI fs) fcs (.ref fp) fba fpb fsb) (hP2 : G fp = pc_o fp) (hR2 : G (fp + 1) = some (ja_i E 8 q)) (hn3 : fp ≠ a) (hn4 : fp + 1 ≠ a) (hfa : f ≠ a) (hs1 : a < sz) (hs2 : pa + 1 < sz) (hs3 : fp + 1 < sz) (hs4 : f < sz) : jx_ct l E b yB_close cB_close 4 none 3 2 9 [.ref a, .int cn, .ref f] G sz (fun v G' sz' => v = none ∧ G' = va_up (pc_G E sz (pr_x r q) G) a (bn_o a t (nI s) cn (.ref pa) (pr_b r q ft ba).2 (nI (pr_b r q ft ba).1) sb) ∧ sz' = sz + 2) := by
  subst hv
  refine jx_met (by decide) (Nat.le_of_ble_eq_true rfl) (L0 := [_, _, _, _]) rfl (fun X k => ?_)
  have e1 : ∀ o, va_up G a o pa = pc_o pa := fun o => (va_up_ne _ _ hn1).trans hP
  have e2 : ∀ o, va_up G a o (pa + 1) = some (ja_i E 8 r) := fun o => (va_up_ne _ _ hn2).trans hR
  have e3 : ∀ o, va_up G a o fp = pc_o fp := fun o => (va_up_ne _ _ hn3).trans hP2
  have e4 : ∀ o, va_up G a o (fp + 1) = some (ja_i E 8 q) := fun o => (va_up_ne _ _ hn4).trans hR2
  have e5 : ∀ o, va_up G a o f = bn_o f ft (nI fs) fcs (.ref fp) fba fpb fsb := fun o => (va_up_ne _ _ hfa).trans hF
  refine jx_aload_n k dB_close_0 rfl ?_
  refine jx_iload_n k dB_close_1 rfl ?_
  refine jx_put k fB_23 dB_close_2 hB rfl rfl (Nat.le_of_ble_eq_true rfl) (fs' := [_, _, _, _, _, _, _, _, _, _, _]) rfl ?_
  refine jx_aload_n k dB_close_5 rfl ?_
  refine jx_get k fB_26 dB_close_6 (va_up_self _ _ _) rfl ?_
  refine jx_ifnonnull k dB_close_9 (tgt := 13) rfl ?_
  refine jx_aload_n k dB_close_13 rfl ?_
  refine jx_bipush k dB_close_14 (v := 16) (by decide) ?_
  refine jx_aload_n k dB_close_16 rfl ?_
  refine jx_get k fB_26 dB_close_17 (va_up_self _ _ _) rfl ?_
  refine jx_callVP k mB_63 (k_runs _ _ _ _ _ pa r (e1 _) (e2 _)) (e1 _) rfl dB_close_20 rfl rfl rfl (Nat.le_of_ble_eq_true rfl) ⟨Nat.le_of_ble_eq_true rfl, Nat.le_of_ble_eq_true rfl⟩ ⟨Nat.le_of_ble_eq_true rfl, Nat.le_of_ble_eq_true rfl⟩ ?_
  refine jx_callSP k mB_69 (k_min _ _ _ _ _ 16 (nI (pr_n r))) dB_close_23 rfl rfl rfl (Nat.le_of_ble_eq_true rfl) ⟨Nat.le_of_ble_eq_true rfl, Nat.le_of_ble_eq_true rfl⟩ ⟨Nat.le_of_ble_eq_true rfl, Nat.le_of_ble_eq_true rfl⟩ ?_
  rw [pr_m_e (pr_n_le r)]
  refine jx_put k fB_33 dB_close_26 (va_up_self _ _ _) rfl rfl (Nat.le_of_ble_eq_true rfl) (fs' := [_, _, _, _, _, _, _, _, _, _, _]) rfl ?_
  rw [va_uu]
  refine jx_aload_n k dB_close_29 rfl ?_
  refine jx_ifnull k dB_close_30 ?_
  refine jx_aload_n k dB_close_33 rfl ?_
  refine jx_get k fB_26 dB_close_34 (e5 _) rfl ?_
  refine jx_ifnull k dB_close_37 ?_
  refine jx_aload_n k dB_close_40 rfl ?_
  refine jx_get k fB_26 dB_close_41 (va_up_self _ _ _) rfl ?_
  refine jx_aload_n k dB_close_44 rfl ?_
  refine jx_get k fB_26 dB_close_45 (e5 _) rfl ?_
  refine jx_callV1 k mB_75 (k_Pxor _ _ _ _ _ pa fp r q (e1 _) (e2 _) (by omega) (e3 _) (e4 _) (by omega)) (e1 _) rfl dB_close_48 rfl rfl rfl (Nat.le_of_ble_eq_true rfl) ⟨Nat.le_of_ble_eq_true rfl, Nat.le_of_ble_eq_true rfl⟩ ⟨Nat.le_of_ble_eq_true rfl, Nat.le_of_ble_eq_true rfl⟩ ?_
  have ea : pc_G E sz (pr_x r q) (va_up G a (bn_o a t (nI s) cn (.ref pa) ba (nI (pr_m (pr_n r))) sb)) a = bn_o a t (nI s) cn (.ref pa) ba (nI (pr_m (pr_n r))) sb := (pc_n (by omega) (by omega)).trans (va_up_self _ _ _)
  have ef : pc_G E sz (pr_x r q) (va_up G a (bn_o a t (nI s) cn (.ref pa) ba (nI (pr_m (pr_n r))) sb)) f = bn_o f ft (nI fs) fcs (.ref fp) fba fpb fsb := (pc_n (by omega) (by omega)).trans (e5 _)
  have ec : ∀ o w, va_up (pc_G E sz (pr_x r q) (va_up G a o)) a w = va_up (pc_G E sz (pr_x r q) G) a w := by
    intro o w
    unfold pc_G
    rw [va_uc (va_up (va_up G a o) sz (pc_o sz)) _ _ (show sz + 1 ≠ a by omega), va_uc (va_up G a o) _ _ (show sz ≠ a by omega), va_uu, va_uc G _ _ (show a ≠ sz by omega), va_uc _ _ _ (show a ≠ sz + 1 by omega)]
  refine jx_callVP k mB_63 (k_runs _ _ _ _ _ sz (pr_x r q) pc_0 pc_1) pc_0 rfl dB_close_51 rfl rfl rfl (Nat.le_of_ble_eq_true rfl) ⟨Nat.le_of_ble_eq_true rfl, Nat.le_of_ble_eq_true rfl⟩ ⟨Nat.le_of_ble_eq_true rfl, Nat.le_of_ble_eq_true rfl⟩ ?_
  refine jx_istore_n k dB_close_54 (Nat.le_of_ble_eq_true rfl) rfl (L' := [_, _, _, _]) rfl ?_
  refine jx_iload_n k dB_close_55 rfl ?_
  refine jx_aload_n k dB_close_56 rfl ?_
  refine jx_get k fB_33 dB_close_57 ea rfl ?_
  have hm := pr_m_le (pr_n r)
  have hx := pr_n_le (pr_x r q)
  refine jx_icmp_ge k dB_close_60 (tgt := 76) rfl (fun h1 => ?_) (fun h1 => ?_)
  · have h2 : ¬ pr_n (pr_x r q) < pr_m (pr_n r) := fun h => absurd h1 (nI_ge h (by omega))
    have eb : pr_b r q ft ba = (pr_m (pr_n r), ba) := by unfold pr_b; rw [if_neg h2]
    exact jx_vret k dB_close_76 (Nat.le_refl _) (Nat.le_refl _) ⟨rfl, by rw [eb, ← ec (bn_o a t (nI s) cn (.ref pa) ba (nI (pr_m (pr_n r))) sb), va_us ea], rfl⟩
  · have h2 : pr_n (pr_x r q) < pr_m (pr_n r) := Decidable.byContradiction (fun h => h1 (nI_le (by omega) (by omega)))
    have eb : pr_b r q ft ba = (pr_n (pr_x r q), ft) := by unfold pr_b; rw [if_pos h2]
    refine jx_aload_n k dB_close_63 rfl ?_
    refine jx_iload_n k dB_close_64 rfl ?_
    refine jx_put k fB_33 dB_close_65 ea rfl rfl (Nat.le_of_ble_eq_true rfl) (fs' := [_, _, _, _, _, _, _, _, _, _, _]) rfl ?_
    rw [ec]
    refine jx_aload_n k dB_close_68 rfl ?_
    refine jx_aload_n k dB_close_69 rfl ?_
    refine jx_get k fB_46 dB_close_70 ((va_up_ne _ _ hfa).trans ((pc_n (by omega) (by omega)).trans hF)) rfl ?_
    refine jx_put k fB_30 dB_close_73 (va_up_self _ _ _) rfl rfl (Nat.le_of_ble_eq_true rfl) (fs' := [_, _, _, _, _, _, _, _, _, _, _]) rfl ?_
    exact jx_vret k dB_close_76 (Nat.le_refl _) (Nat.le_refl _) ⟨rfl, by rw [eb, va_uu], rfl⟩
/-- the bytes that it takes -/
def bp_n (sb pb : Nat) (he : Nat → Int32) (c : Nat) (pic : Bool) : Nat := 6 + sb + (if he 0 ≠ 0 then 5 else 0) + (if c = 2 ∧ he 1 ≠ 0 then 5 else 0) + (if pic = true then 1 + pb else 0)
def bp_p (n : Nat) : Nat := (n + 15) / 16
set_option maxRecDepth 100000 in
set_option maxHeartbeats 4000000 in
theorem k_pages (l : Launch) (E : jx_E) (b : Nat) (G : jx_H) (sz : Nat) (a s pb sb : Nat) (t cs ba : Int32) (po : Option Nat) (hB : G a = bn_o a t (nI s) cs (bv po) ba (nI pb) (nI sb)) (he : Nat → Int32) (hE : G (a + 4) = some (ja_z E 2 he)) (c : Nat) (hc : c = 1 ∨ c = 2) (hb1 : sb ≤ 100) (hb2 : pb ≤ 100) : jx_ct l E b yB_pages cB_pages 4 (some .int) 0 0 0 [.ref a, .int (nI c)] G sz (jx_pu (.int (nI (bp_p (bp_n sb pb he c po.isSome)))) G sz) := by
  refine jx_met (by decide) (Nat.le_of_ble_eq_true rfl) (L0 := [_, _, _, _]) rfl (fun X k => ?_)
  have fin : ∀ n c', n ≤ 200 → n + (if po.isSome = true then 1 + pb else 0) = bp_n sb pb he c po.isSome → jx_w X E b (jx_fin X E b (jx_pu (.int (nI (bp_p (bp_n sb pb he c po.isSome)))) G sz) 0 0) 38 [some (.ref a), some (.int (nI c)), some (.int (nI n)), some (.int (nI c'))] [] G sz 0 0 := by
    intro n c' hn hb
    have last : ∀ n', n' ≤ 301 → n' = bp_n sb pb he c po.isSome → jx_w X E b (jx_fin X E b (jx_pu (.int (nI (bp_p (bp_n sb pb he c po.isSome)))) G sz) 0 0) 54 [some (.ref a), some (.int (nI c)), some (.int (nI n')), some (.int (nI c'))] [] G sz 0 0 := by
      intro n' hn' hb'
      refine jx_iload_n k dB_pages_54 rfl ?_
      refine jx_bipush k dB_pages_55 (v := 16) (by decide) ?_
      refine jx_iadd k dB_pages_57 ?_
      refine jx_iconst k dB_pages_58 (v := 1) (by decide) ?_
      refine jx_isub k dB_pages_59 ?_
      rw [show nI n' + 16 - 1 = nI (n' + 15) by rw [show nI n' + 16 = nI (n' + 16) from nI_add n' 16]; exact pk_sub (b := 1) (by omega)]
      refine jx_bipush k dB_pages_60 (v := 16) (by decide) ?_
      refine jx_idiv k dB_pages_62 (by decide) ?_
      rw [show nI (n' + 15) / 16 = nI ((n' + 15) / 16) from pk_div (d := 16) (by omega) (by decide) (by decide)]
      exact jx_iret k dB_pages_63 (Nat.le_refl _) (Nat.le_refl _) ⟨by rw [← hb']; rfl, rfl, rfl⟩
    cases po with
    | none =>
      refine jx_aload_n k dB_pages_38 rfl ?_
      refine jx_get k fB_26 dB_pages_39 hB rfl ?_
      refine jx_ifnullN k dB_pages_42 (tgt := 54) rfl ?_
      exact last n (by omega) hb
    | some pa =>
      refine jx_aload_n k dB_pages_38 rfl ?_
      refine jx_get k fB_26 dB_pages_39 hB rfl ?_
      refine jx_ifnull k dB_pages_42 ?_
      refine jx_iload_n k dB_pages_45 rfl ?_
      refine jx_iconst k dB_pages_46 (v := 1) (by decide) ?_
      refine jx_aload_n k dB_pages_47 rfl ?_
      refine jx_get k fB_33 dB_pages_48 hB rfl ?_
      refine jx_iadd k dB_pages_51 ?_
      refine jx_iadd k dB_pages_52 ?_
      rw [show nI n + ((1 : Int32) + nI pb) = nI (n + (1 + pb)) by rw [show (1 : Int32) + nI pb = nI (1 + pb) from nI_add 1 pb, nI_add]]
      refine jx_istore_n k dB_pages_53 (Nat.le_of_ble_eq_true rfl) rfl (L' := [_, _, _, _]) rfl ?_
      exact last _ (by omega) hb
  refine jx_bipush k dB_pages_0 (v := 6) (by decide) ?_
  refine jx_aload_n k dB_pages_2 rfl ?_
  refine jx_get k fB_36 dB_pages_3 hB rfl ?_
  refine jx_iadd k dB_pages_6 ?_
  rw [show (6 : Int32) + nI sb = nI (6 + sb) from nI_add 6 sb]
  refine jx_istore_n k dB_pages_7 (Nat.le_of_ble_eq_true rfl) rfl (L' := [_, _, _, _]) rfl ?_
  refine jx_iconst k dB_pages_8 (v := 0) (by decide) ?_
  refine jx_istore_n k dB_pages_9 (Nat.le_of_ble_eq_true rfl) rfl (L' := [_, _, _, _]) rfl ?_
  refine jx_iload_n k dB_pages_10 rfl ?_
  refine jx_iload_n k dB_pages_11 rfl ?_
  refine jx_icmp_ge k dB_pages_12 (tgt := 38) rfl (fun hh => absurd hh (nI_ge (a := 0) (b := c) (by omega) (by omega))) (fun _ => ?_)
  refine jx_iload_n k dB_pages_15 rfl ?_
  refine jx_iconst k dB_pages_16 (v := 2) (by decide) ?_
  refine jx_icmp_ge k dB_pages_17 (tgt := 38) rfl (fun hh => absurd hh (nI_ge (a := 0) (b := 2) (by decide) (by decide))) (fun _ => ?_)
  refine jx_aload_n k dB_pages_20 rfl ?_
  refine jx_get k fB_42 dB_pages_21 hB rfl ?_
  refine jx_iload_n k dB_pages_24 rfl ?_
  refine jx_zldN k dB_pages_25 hE (p := 0) rfl (by omega) (by decide) ?_
  have step2 : ∀ n, n ≤ 150 → n = 6 + sb + (if he 0 ≠ 0 then 5 else 0) → jx_w X E b (jx_fin X E b (jx_pu (.int (nI (bp_p (bp_n sb pb he c po.isSome)))) G sz) 0 0) 10 [some (.ref a), some (.int (nI c)), some (.int (nI n)), some (.int (nI 1))] [] G sz 0 0 := by
    intro n hn hb
    rcases hc with rfl | rfl
    · refine jx_iload_n k dB_pages_10 rfl ?_
      refine jx_iload_n k dB_pages_11 rfl ?_
      refine jx_icmp_ge k dB_pages_12 (tgt := 38) rfl (fun _ => ?_) (fun hh => absurd (nI_le (a := 1) (b := 1) (by decide) (by decide)) hh)
      exact fin n 1 (by omega) (by unfold bp_n; rw [← hb, if_neg (show ¬ ((1 : Nat) = 2 ∧ he 1 ≠ 0) from fun h => absurd h.1 (by decide))]; omega)
    · refine jx_iload_n k dB_pages_10 rfl ?_
      refine jx_iload_n k dB_pages_11 rfl ?_
      refine jx_icmp_ge k dB_pages_12 (tgt := 38) rfl (fun hh => absurd hh (nI_ge (a := 1) (b := 2) (by decide) (by decide))) (fun _ => ?_)
      refine jx_iload_n k dB_pages_15 rfl ?_
      refine jx_iconst k dB_pages_16 (v := 2) (by decide) ?_
      refine jx_icmp_ge k dB_pages_17 (tgt := 38) rfl (fun hh => absurd hh (nI_ge (a := 1) (b := 2) (by decide) (by decide))) (fun _ => ?_)
      refine jx_aload_n k dB_pages_20 rfl ?_
      refine jx_get k fB_42 dB_pages_21 hB rfl ?_
      refine jx_iload_n k dB_pages_24 rfl ?_
      refine jx_zldN k dB_pages_25 hE (p := 1) rfl (by omega) (by decide) ?_
      refine jx_if_eq k dB_pages_26 (tgt := 32) rfl (fun h1 => ?_) (fun h1 => ?_)
      · refine jx_iinc k dB_pages_32 rfl (nI_1 1) rfl (L' := [_, _, _, _]) rfl ?_
        refine jx_goto k dB_pages_35 (tgt := 10) rfl ?_
        refine jx_iload_n k dB_pages_10 rfl ?_
        refine jx_iload_n k dB_pages_11 rfl ?_
        refine jx_icmp_ge k dB_pages_12 (tgt := 38) rfl (fun _ => ?_) (fun hh => absurd (nI_le (a := 2) (b := 2) (by decide) (by decide)) hh)
        exact fin n 2 (by omega) (by unfold bp_n; rw [← hb, if_neg (show ¬ ((2 : Nat) = 2 ∧ he 1 ≠ 0) from fun h => h.2 h1)]; omega)
      · refine jx_iinc k dB_pages_29 rfl (nI_add n 5) rfl (L' := [_, _, _, _]) rfl ?_
        refine jx_iinc k dB_pages_32 rfl (nI_1 1) rfl (L' := [_, _, _, _]) rfl ?_
        refine jx_goto k dB_pages_35 (tgt := 10) rfl ?_
        refine jx_iload_n k dB_pages_10 rfl ?_
        refine jx_iload_n k dB_pages_11 rfl ?_
        refine jx_icmp_ge k dB_pages_12 (tgt := 38) rfl (fun _ => ?_) (fun hh => absurd (nI_le (a := 2) (b := 2) (by decide) (by decide)) hh)
        exact fin (n + 5) 2 (by omega) (by unfold bp_n; rw [← hb, if_pos (show ((2 : Nat) = 2 ∧ he 1 ≠ 0) from ⟨rfl, h1⟩)])
  refine jx_if_eq k dB_pages_26 (tgt := 32) rfl (fun h1 => ?_) (fun h1 => ?_)
  · refine jx_iinc k dB_pages_32 rfl (nI_1 0) rfl (L' := [_, _, _, _]) rfl ?_
    refine jx_goto k dB_pages_35 (tgt := 10) rfl ?_
    exact step2 (6 + sb) (by omega) (by rw [if_neg (fun h => h h1), Nat.add_zero])
  · refine jx_iinc k dB_pages_29 rfl (nI_add (6 + sb) 5) rfl (L' := [_, _, _, _]) rfl ?_
    refine jx_iinc k dB_pages_32 rfl (nI_1 0) rfl (L' := [_, _, _, _]) rfl ?_
    refine jx_goto k dB_pages_35 (tgt := 10) rfl ?_
    exact step2 (6 + sb + 5) (by omega) (by rw [if_pos h1])
