/-- Store -/
theorem op_c {α : Type} (o : Option α) : o = none ∨ ∃ z, o = some z := by
  cases o with
  | none => exact .inl rfl
  | some z => exact .inr ⟨z, rfl⟩
abbrev so_o (a : Nat) (ch fl ob : Int32) : Option va_E := some (.inr (4, [.int ch, .int fl, .int ob, .ref (a + 1), .ref (a + 2)]))
def so_G (E : jx_E) (a n : Nat) (o : Option va_E) (h : Nat → Option Nat) (sp : Nat → Int32) (G : jx_H) : jx_H := va_up (va_up (va_up G a o) (a + 1) (some (ja_q E 4 n h))) (a + 2) (some (ja_z E n sp))
set_option maxRecDepth 100000 in
set_option maxHeartbeats 4000000 in
theorem k_Sinit (l : Launch) (E : jx_E) (b : Nat) (G : jx_H) (a n : Nat) (hn : n < 100) (ch ob : Int32) (ho : ob = 0 ∨ ob = 1) : jx_ct l E b yS_init cS_init 4 none 1 2 (n + n) [.ref a, .int (nI n), .int ch, .int ob] (va_up G a (some (.inr (4, [.int 0, .int 0, .int 0, .null, .null])))) (a + 1) (fun v G' sz' => v = none ∧ G' = so_G E a n (so_o a ch 0 ob) (fun _ => none) (fun _ => 0) G ∧ sz' = a + 3) := by
  refine jx_met (by decide) (Nat.le_of_ble_eq_true rfl) (L0 := [_, _, _, _]) rfl (fun X k => ?_)
  have c4 : componentBytes .boolean ≤ 8 := by decide
  have hfi : fits .boolean (.int ob) = true := by rcases ho with rfl | rfl <;> rfl
  refine jx_aload_n k dS_init_0 rfl ?_
  refine jx_obj k jn_93 jn_54 jn_55 dS_init_1 rfl (Nat.le_of_ble_eq_true rfl) (Nat.le_of_ble_eq_true rfl) ?_
  refine jx_aload_n k dS_init_4 rfl ?_
  refine jx_iconst k dS_init_5 (v := 0) (by decide) ?_
  refine jx_put k fS_9 dS_init_6 (va_up_self _ _ _) rfl rfl (Nat.le_of_ble_eq_true rfl) (fs' := [_, _, _, _, _]) rfl ?_
  refine jx_aload_n k dS_init_9 rfl ?_
  refine jx_iload_n k dS_init_10 rfl ?_
  refine jx_putF k rfl ffS_15 dS_init_11 (va_up_self _ _ _) rfl rfl (Nat.le_of_ble_eq_true rfl) (fs' := [_, _, _, _, _]) rfl ?_
  refine jx_aload_n k dS_init_14 rfl ?_
  refine jx_iload_n k dS_init_15 rfl ?_
  refine jx_putF k rfl ffS_19 dS_init_16 (va_up_self _ _ _) (jb_01 ho) hfi (Nat.le_of_ble_eq_true rfl) (fs' := [_, _, _, _, _]) rfl ?_
  refine jx_aload_n k dS_init_19 rfl ?_
  refine jx_iload_n k dS_init_20 rfl ?_
  refine jx_newq k (t := 4) (N := n) jn_94 jn_95 rfl dS_init_21 (nI_pos (by omega)) (nI_clamp (by omega)) (by omega) (Nat.le_of_ble_eq_true rfl) (show 0 + n ≤ n + n by omega) ?_
  refine jx_putF k rfl ffS_24 dS_init_24 ((va_up_ne _ _ (by omega)).trans (va_up_self _ _ _)) rfl rfl (Nat.le_of_ble_eq_true rfl) (fs' := [_, _, _, _, _]) rfl ?_
  refine jx_aload_n k dS_init_27 rfl ?_
  refine jx_iload_n k dS_init_28 rfl ?_
  refine jx_newa k (at0 := .boolean) (ty := .boolean) (t := 1) (N := n) (a0 := (n, .inl (fun _ => 0))) rfl jn_85 rfl (fun _ h => by cases h) (fun _ => rfl) dS_init_29 (nI_pos (by omega)) (nI_clamp (by omega)) (Nat.le_trans (Nat.mul_le_mul (show n ≤ 100 by omega) c4) (by decide)) (Nat.le_of_ble_eq_true rfl) (show 0 + n + n ≤ n + n by omega) ?_
  refine jx_putF k rfl ffS_28 dS_init_31 ((va_up_ne _ _ (by omega)).trans (va_up_self _ _ _)) rfl rfl (Nat.le_of_ble_eq_true rfl) (fs' := [_, _, _, _, _]) rfl ?_
  refine jx_vret k dS_init_34 (Nat.le_refl _) (show 0 + n + n ≤ n + n by omega) ⟨rfl, ?_, rfl⟩
  funext q
  unfold so_G
  by_cases h0 : q = a
  · subst h0
    simp [va_up]
  · by_cases h1 : q = a + 1
    · subst h1
      simp [va_up]
    · by_cases h2 : q = a + 2
      · subst h2
        simp [va_up]
      · simp [va_up, h0, h1, h2]
def bn_k (G : jx_H) (a : Nat) (t : Int32) : Prop := ∃ (s : Nat) (cs : Int32) (pv : Value) (ba pb sb : Int32), G a = bn_o a t (nI s) cs pv ba pb sb
theorem bn_k_up {G : jx_H} {a q : Nat} {t : Int32} {y : ClassId × vp_A} {c : Option va_E} (h : bn_k G a t) (hq : G q = some (.inl y)) : bn_k (va_up G q c) a t := by
  obtain ⟨s, cs, pv, ba, pb, sb, h⟩ := h
  refine ⟨s, cs, pv, ba, pb, sb, ?_⟩
  rw [va_up_ne _ _ (fun e => ?_)]
  · exact h
  · rw [e, hq] at h
    cases h
abbrev so_i (h : Nat → Option Nat) (tm : Nat → Int32) (p : Nat) (t : Int32) : Prop := (h p).map tm = some t
set_option maxRecDepth 100000 in
theorem k_isOf (l : Launch) (E : jx_E) (b : Nat) (G : jx_H) (sz : Nat) (a n : Nat) (ch fl ob : Int32) (h : Nat → Option Nat) (tm : Nat → Int32) (D : Nat → Prop) (hS : G a = so_o a ch fl ob) (hH : G (a + 1) = some (ja_q E 4 n h)) (hn : n < 100) (hD : ∀ p, p < n → ∀ z, h p = some z → D z) (hT : ∀ z, D z → bn_k G z (tm z)) (p : Nat) (t : Int32) (hp : p < n) : jx_ct l E b yS_isOf cS_isOf 4 (some .boolean) 0 0 0 [.ref a, .int (nI p), .int t] G sz (jx_pu (.int (jb_z (so_i h tm p t))) G sz) := by
  refine jx_met (by decide) (Nat.le_of_ble_eq_true rfl) (L0 := [_, _, _, _]) rfl (fun X k => ?_)
  rcases op_c (h p) with e | ⟨z, e⟩
  · refine jx_aload_n k dS_isOf_0 rfl ?_
    refine jx_get k fS_24 dS_isOf_1 hS rfl ?_
    refine jx_iload_n k dS_isOf_4 rfl ?_
    refine jx_ald0 k dS_isOf_5 hH (t := 4) rfl (p := p) rfl hp (by omega) e ?_
    refine jx_astore_nN k dS_isOf_6 (Nat.le_of_ble_eq_true rfl) rfl (L' := [_, _, _, _]) rfl ?_
    refine jx_aload_nN k dS_isOf_7 rfl ?_
    refine jx_ifnullN k dS_isOf_8 (tgt := 23) rfl ?_
    refine jx_iconst k dS_isOf_23 (v := 0) (by decide) ?_
    exact jx_zret k dS_isOf_24 rfl (Nat.le_refl _) (Nat.le_refl _) ⟨by rw [jb_f (by show ¬ (h p).map tm = some t; rw [e]; exact fun h => by cases h)], rfl, rfl⟩
  · obtain ⟨s, cs, pv, ba, pb, sb, hB⟩ := hT z (hD p hp z e)
    refine jx_aload_n k dS_isOf_0 rfl ?_
    refine jx_get k fS_24 dS_isOf_1 hS rfl ?_
    refine jx_iload_n k dS_isOf_4 rfl ?_
    refine jx_aldS k dS_isOf_5 hH (t := 4) rfl (p := p) rfl hp (by omega) e ?_
    refine jx_astore_n k dS_isOf_6 (Nat.le_of_ble_eq_true rfl) rfl (L' := [_, _, _, _]) rfl ?_
    refine jx_aload_n k dS_isOf_7 rfl ?_
    refine jx_ifnull k dS_isOf_8 ?_
    refine jx_aload_n k dS_isOf_11 rfl ?_
    refine jx_get k fS_62 dS_isOf_12 hB rfl ?_
    refine jx_iload_n k dS_isOf_15 rfl ?_
    refine jx_icmp_ne k dS_isOf_16 (tgt := 23) rfl (fun h1 => ?_) (fun h1 => ?_)
    · refine jx_iconst k dS_isOf_23 (v := 0) (by decide) ?_
      exact jx_zret k dS_isOf_24 rfl (Nat.le_refl _) (Nat.le_refl _) ⟨by rw [jb_f (by show ¬ (h p).map tm = some t; rw [e]; exact fun h => h1 (Option.some.inj h))], rfl, rfl⟩
    · refine jx_iconst k dS_isOf_19 (v := 1) (by decide) ?_
      refine jx_goto k dS_isOf_20 (tgt := 24) rfl ?_
      exact jx_zret k dS_isOf_24 rfl (Nat.le_refl _) (Nat.le_refl _) ⟨by rw [jb_t (by show (h p).map tm = some t; rw [e]; exact congrArg some h1)], rfl, rfl⟩
set_option maxRecDepth 100000 in
theorem k_isFrozen (l : Launch) (E : jx_E) (b : Nat) (G : jx_H) (sz : Nat) (a : Nat) (ch fl ob : Int32) (hS : G a = so_o a ch fl ob) (z : Nat) (t : Int32) (hZ : bn_k G z t) (fa : Nat) (u f g : Nat → Int32) (hF : G fa = fz_o fa) (hU : G (fa + 1) = some (ja_z E 3 u)) (hA : G (fa + 2) = some (ja_i E 3 f)) (hL : G (fa + 3) = some (ja_i E 3 g)) : jx_ct l E b yS_isFrozen cS_isFrozen 3 (some .boolean) 1 0 0 [.ref a, .ref z, .ref fa] G sz (jx_pu (.int (jb_z (ob ≠ 0 ∧ fz_h u f g t))) G sz) := by
  refine jx_met (by decide) (Nat.le_of_ble_eq_true rfl) (L0 := [_, _, _]) rfl (fun X k => ?_)
  obtain ⟨s, cs, pv, ba, pb, sb, hB⟩ := hZ
  refine jx_aload_n k dS_isFrozen_0 rfl ?_
  refine jx_get k fS_19 dS_isFrozen_1 hS rfl ?_
  refine jx_if_eq k dS_isFrozen_4 (tgt := 22) rfl (fun h1 => ?_) (fun h1 => ?_)
  · refine jx_iconst k dS_isFrozen_22 (v := 0) (by decide) ?_
    exact jx_zret k dS_isFrozen_23 rfl (Nat.le_refl _) (Nat.le_refl _) ⟨by rw [jb_f (fun h => h.1 h1)], rfl, rfl⟩
  · refine jx_aload_n k dS_isFrozen_7 rfl ?_
    refine jx_aload_n k dS_isFrozen_8 rfl ?_
    refine jx_get k fS_62 dS_isFrozen_9 hB rfl ?_
    refine jx_callVP k mS_69 (k_hold _ _ _ _ _ fa u f g hF hU hA hL t) hF rfl dS_isFrozen_12 rfl rfl rfl (Nat.le_of_ble_eq_true rfl) ⟨Nat.le_of_ble_eq_true rfl, Nat.le_of_ble_eq_true rfl⟩ ⟨Nat.le_of_ble_eq_true rfl, Nat.le_of_ble_eq_true rfl⟩ ?_
    refine jx_if_eq k dS_isFrozen_15 (tgt := 22) rfl (fun h2 => ?_) (fun h2 => ?_)
    · refine jx_iconst k dS_isFrozen_22 (v := 0) (by decide) ?_
      exact jx_zret k dS_isFrozen_23 rfl (Nat.le_refl _) (Nat.le_refl _) ⟨by rw [jb_f (fun h => jb_e0.mp h2 h.2)], rfl, rfl⟩
    · refine jx_iconst k dS_isFrozen_18 (v := 1) (by decide) ?_
      refine jx_goto k dS_isFrozen_19 (tgt := 23) rfl ?_
      exact jx_zret k dS_isFrozen_23 rfl (Nat.le_refl _) (Nat.le_refl _) ⟨by rw [jb_t ⟨h1, Decidable.byContradiction (fun h => h2 (jb_f h))⟩], rfl, rfl⟩
def so_e (m t : Int32) : Int32 := if m = -1 then t else if t < m then t else m
set_option maxRecDepth 100000 in
theorem k_earlier (l : Launch) (E : jx_E) (b : Nat) (G : jx_H) (sz : Nat) (m t : Int32) : jx_ct l E b yS_earlier cS_earlier 2 (some .int) 1 0 0 [.int m, .int t] G sz (jx_pu (.int (so_e m t)) G sz) := by
  refine jx_met (by decide) (Nat.le_of_ble_eq_true rfl) (L0 := [_, _]) rfl (fun X k => ?_)
  refine jx_iload_n k dS_earlier_0 rfl ?_
  refine jx_iconst k dS_earlier_1 (v := (-1)) (by decide) ?_
  refine jx_icmp_ne k dS_earlier_2 (tgt := 9) rfl (fun h1 => ?_) (fun h1 => ?_)
  · refine jx_iload_n k dS_earlier_9 rfl ?_
    refine jx_iload_n k dS_earlier_10 rfl ?_
    refine jx_callSP k mS_83 (k_min _ _ _ _ _ m t) dS_earlier_11 rfl rfl rfl (Nat.le_of_ble_eq_true rfl) ⟨Nat.le_of_ble_eq_true rfl, Nat.le_of_ble_eq_true rfl⟩ ⟨Nat.le_of_ble_eq_true rfl, Nat.le_of_ble_eq_true rfl⟩ ?_
    exact jx_iret k dS_earlier_14 (Nat.le_refl _) (Nat.le_refl _) ⟨by rw [so_e, if_neg h1], rfl, rfl⟩
  · refine jx_iload_n k dS_earlier_5 rfl ?_
    refine jx_goto k dS_earlier_6 (tgt := 14) rfl ?_
    exact jx_iret k dS_earlier_14 (Nat.le_refl _) (Nat.le_refl _) ⟨by rw [so_e, if_pos h1], rfl, rfl⟩
def so_ff (h : Nat → Option Nat) (p c : Nat) : Nat := if h p = none then c + 1 else c
def so_f (h : Nat → Option Nat) (n : Nat) : Nat := fo_f (so_ff h) 0 n 0
set_option maxRecDepth 100000 in
set_option maxHeartbeats 4000000 in
theorem k_freePages (l : Launch) (E : jx_E) (b : Nat) (G : jx_H) (sz : Nat) (a n : Nat) (ch fl ob : Int32) (h : Nat → Option Nat) (hS : G a = so_o a ch fl ob) (hH : G (a + 1) = some (ja_q E 4 n h)) (hn : n < 100) : jx_ct l E b yS_freePages cS_freePages 3 (some .int) 0 0 0 [.ref a] G sz (jx_pu (.int (nI (so_f h n))) G sz) := by
  refine jx_met (by decide) (Nat.le_of_ble_eq_true rfl) (L0 := [_, _, _]) rfl (fun X k => ?_)
  refine jx_iconst k dS_freePages_0 (v := 0) (by decide) ?_
  refine jx_istore_n k dS_freePages_1 (Nat.le_of_ble_eq_true rfl) rfl (L' := [_, _, _]) rfl ?_
  refine jx_iconst k dS_freePages_2 (v := 0) (by decide) ?_
  refine jx_istore_n k dS_freePages_3 (Nat.le_of_ble_eq_true rfl) rfl (L' := [_, _, _]) rfl ?_
  refine fo_l (fun p c => jx_w X E b (jx_fin X E b (jx_pu (.int (nI (so_f h n))) G sz) 0 0) 4 [some (.ref a), some (.int (nI c)), some (.int (nI p))] [] G sz 0 0) (so_ff h) (lo := 0) (hi := n) (Nat.zero_le _) 0 ?_ ?_
  · intro p h1 h2
    generalize fo_f (so_ff h) 0 (p - 0) 0 = c
    intro kk
    cases e : h p with
    | none =>
      rw [so_ff, if_pos e] at kk
      refine jx_iload_n k dS_freePages_4 rfl ?_
      refine jx_aload_n k dS_freePages_5 rfl ?_
      refine jx_get k fS_24 dS_freePages_6 hS rfl ?_
      refine jx_alen k dS_freePages_9 hH (t := 4) rfl ?_
      refine jx_icmp_ge k dS_freePages_10 (tgt := 31) rfl (fun hh => absurd hh (nI_ge h2 (by omega))) (fun _ => ?_)
      refine jx_aload_n k dS_freePages_13 rfl ?_
      refine jx_get k fS_24 dS_freePages_14 hS rfl ?_
      refine jx_iload_n k dS_freePages_17 rfl ?_
      refine jx_ald0 k dS_freePages_18 hH (t := 4) rfl (p := p) rfl h2 (by omega) e ?_
      refine jx_ifnonnullN k dS_freePages_19 ?_
      refine jx_iinc k dS_freePages_22 rfl (nI_1 c) rfl (L' := [_, _, _]) rfl ?_
      refine jx_iinc k dS_freePages_25 rfl (nI_1 p) rfl (L' := [_, _, _]) rfl ?_
      refine jx_goto k dS_freePages_28 (tgt := 4) rfl ?_
      exact kk
    | some z =>
      rw [so_ff, if_neg (by rw [e]; exact fun h => by cases h)] at kk
      refine jx_iload_n k dS_freePages_4 rfl ?_
      refine jx_aload_n k dS_freePages_5 rfl ?_
      refine jx_get k fS_24 dS_freePages_6 hS rfl ?_
      refine jx_alen k dS_freePages_9 hH (t := 4) rfl ?_
      refine jx_icmp_ge k dS_freePages_10 (tgt := 31) rfl (fun hh => absurd hh (nI_ge h2 (by omega))) (fun _ => ?_)
      refine jx_aload_n k dS_freePages_13 rfl ?_
      refine jx_get k fS_24 dS_freePages_14 hS rfl ?_
      refine jx_iload_n k dS_freePages_17 rfl ?_
      refine jx_aldS k dS_freePages_18 hH (t := 4) rfl (p := p) rfl h2 (by omega) e ?_
      refine jx_ifnonnull k dS_freePages_19 (tgt := 25) rfl ?_
      refine jx_iinc k dS_freePages_25 rfl (nI_1 p) rfl (L' := [_, _, _]) rfl ?_
      refine jx_goto k dS_freePages_28 (tgt := 4) rfl ?_
      exact kk
  · refine jx_iload_n k dS_freePages_4 rfl ?_
    refine jx_aload_n k dS_freePages_5 rfl ?_
    refine jx_get k fS_24 dS_freePages_6 hS rfl ?_
    refine jx_alen k dS_freePages_9 hH (t := 4) rfl ?_
    refine jx_icmp_ge k dS_freePages_10 (tgt := 31) rfl (fun _ => ?_) (fun hh => absurd (nI_le (Nat.le_refl _) (by omega)) hh)
    refine jx_iload_n k dS_freePages_31 rfl ?_
    exact jx_iret k dS_freePages_32 (Nat.le_refl _) (Nat.le_refl _) ⟨rfl, rfl, rfl⟩
def so_lf (h : Nat → Option Nat) (tm : Nat → Int32) (p : Nat) (m : Int32) : Int32 := match h p with
  | none => m
  | some z => so_e m (tm z)
def so_l (h : Nat → Option Nat) (tm : Nat → Int32) (n : Nat) : Int32 := fo_f (so_lf h tm) 0 n (-1)
set_option maxRecDepth 100000 in
set_option maxHeartbeats 4000000 in
theorem k_earliest (l : Launch) (E : jx_E) (b : Nat) (G : jx_H) (sz : Nat) (a n : Nat) (ch fl ob : Int32) (h : Nat → Option Nat) (tm : Nat → Int32) (D : Nat → Prop) (hS : G a = so_o a ch fl ob) (hH : G (a + 1) = some (ja_q E 4 n h)) (hn : n < 100) (hD : ∀ p, p < n → ∀ z, h p = some z → D z) (hT : ∀ z, D z → bn_k G z (tm z)) : jx_ct l E b yS_earliest cS_earliest 4 (some .int) 2 0 0 [.ref a] G sz (jx_pu (.int (so_l h tm n)) G sz) := by
  refine jx_met (by decide) (Nat.le_of_ble_eq_true rfl) (L0 := [_, _, _, _]) rfl (fun X k => ?_)
  refine jx_iconst k dS_earliest_0 (v := (-1)) (by decide) ?_
  refine jx_istore_n k dS_earliest_1 (Nat.le_of_ble_eq_true rfl) rfl (L' := [_, _, _, _]) rfl ?_
  refine jx_iconst k dS_earliest_2 (v := 0) (by decide) ?_
  refine jx_istore_n k dS_earliest_3 (Nat.le_of_ble_eq_true rfl) rfl (L' := [_, _, _, _]) rfl ?_
  refine fo_l (fun p m => jx_w X E b (jx_fin X E b (jx_pu (.int (so_l h tm n)) G sz) 0 0) 4 [some (.ref a), some (.int m), some (.int (nI p)), none] [] G sz 0 0) (so_lf h tm) (lo := 0) (hi := n) (Nat.zero_le _) (-1) ?_ ?_
  · intro p h1 h2
    generalize fo_f (so_lf h tm) 0 (p - 0) (-1) = m
    intro kk
    cases e : h p with
    | none =>
      have e2 : so_lf h tm p m = m := by unfold so_lf; rw [e]
      rw [e2] at kk
      refine jx_iload_n k dS_earliest_4 rfl ?_
      refine jx_aload_n k dS_earliest_5 rfl ?_
      refine jx_get k fS_24 dS_earliest_6 hS rfl ?_
      refine jx_alen k dS_earliest_9 hH (t := 4) rfl ?_
      refine jx_icmp_ge k dS_earliest_10 (tgt := 39) rfl (fun hh => absurd hh (nI_ge h2 (by omega))) (fun _ => ?_)
      refine jx_aload_n k dS_earliest_13 rfl ?_
      refine jx_get k fS_24 dS_earliest_14 hS rfl ?_
      refine jx_iload_n k dS_earliest_17 rfl ?_
      refine jx_ald0 k dS_earliest_18 hH (t := 4) rfl (p := p) rfl h2 (by omega) e ?_
      refine jx_astore_nN k dS_earliest_19 (Nat.le_of_ble_eq_true rfl) rfl (L' := [_, _, _, _]) rfl ?_
      refine jx_aload_nN k dS_earliest_20 rfl ?_
      refine jx_ifnullN k dS_earliest_21 (tgt := 33) rfl ?_
      refine jx_iinc k dS_earliest_33 rfl (nI_1 p) rfl (L' := [_, _, _, _]) rfl ?_
      refine jx_goto k dS_earliest_36 (tgt := 4) rfl ?_
      refine jx_fg (jx_ls (jx_ls (jx_ls (jx_ln jx_l0)))) ?_
      exact kk
    | some z =>
      have e2 : so_lf h tm p m = so_e m (tm z) := by unfold so_lf; rw [e]
      rw [e2] at kk
      obtain ⟨s, cs, pv, ba, pb, sb, hB⟩ := hT z (hD p h2 z e)
      refine jx_iload_n k dS_earliest_4 rfl ?_
      refine jx_aload_n k dS_earliest_5 rfl ?_
      refine jx_get k fS_24 dS_earliest_6 hS rfl ?_
      refine jx_alen k dS_earliest_9 hH (t := 4) rfl ?_
      refine jx_icmp_ge k dS_earliest_10 (tgt := 39) rfl (fun hh => absurd hh (nI_ge h2 (by omega))) (fun _ => ?_)
      refine jx_aload_n k dS_earliest_13 rfl ?_
      refine jx_get k fS_24 dS_earliest_14 hS rfl ?_
      refine jx_iload_n k dS_earliest_17 rfl ?_
      refine jx_aldS k dS_earliest_18 hH (t := 4) rfl (p := p) rfl h2 (by omega) e ?_
      refine jx_astore_n k dS_earliest_19 (Nat.le_of_ble_eq_true rfl) rfl (L' := [_, _, _, _]) rfl ?_
      refine jx_aload_n k dS_earliest_20 rfl ?_
      refine jx_ifnull k dS_earliest_21 ?_
      refine jx_iload_n k dS_earliest_24 rfl ?_
      refine jx_aload_n k dS_earliest_25 rfl ?_
      refine jx_get k fS_62 dS_earliest_26 hB rfl ?_
      refine jx_callSP k mS_79 (k_earlier _ _ _ _ _ m (tm z)) dS_earliest_29 rfl rfl rfl (Nat.le_of_ble_eq_true rfl) ⟨Nat.le_of_ble_eq_true rfl, Nat.le_of_ble_eq_true rfl⟩ ⟨Nat.le_of_ble_eq_true rfl, Nat.le_of_ble_eq_true rfl⟩ ?_
      refine jx_istore_n k dS_earliest_32 (Nat.le_of_ble_eq_true rfl) rfl (L' := [_, _, _, _]) rfl ?_
      refine jx_iinc k dS_earliest_33 rfl (nI_1 p) rfl (L' := [_, _, _, _]) rfl ?_
      refine jx_goto k dS_earliest_36 (tgt := 4) rfl ?_
      refine jx_fg (jx_ls (jx_ls (jx_ls (jx_ln jx_l0)))) ?_
      exact kk
  · refine jx_iload_n k dS_earliest_4 rfl ?_
    refine jx_aload_n k dS_earliest_5 rfl ?_
    refine jx_get k fS_24 dS_earliest_6 hS rfl ?_
    refine jx_alen k dS_earliest_9 hH (t := 4) rfl ?_
    refine jx_icmp_ge k dS_earliest_10 (tgt := 39) rfl (fun _ => ?_) (fun hh => absurd (nI_le (Nat.le_refl _) (by omega)) hh)
    refine jx_iload_n k dS_earliest_39 rfl ?_
    exact jx_iret k dS_earliest_40 (Nat.le_refl _) (Nat.le_refl _) ⟨rfl, rfl, rfl⟩
def so_mf (h : Nat → Option Nat) (tm : Nat → Int32) (p : Nat) (m : Int32) : Int32 := match h p with
  | none => m
  | some z => if m < tm z then tm z else m
def so_m (h : Nat → Option Nat) (tm : Nat → Int32) (n : Nat) : Int32 := fo_f (so_mf h tm) 0 n (-1)
set_option maxRecDepth 100000 in
set_option maxHeartbeats 4000000 in
theorem k_latest (l : Launch) (E : jx_E) (b : Nat) (G : jx_H) (sz : Nat) (a n : Nat) (ch fl ob : Int32) (h : Nat → Option Nat) (tm : Nat → Int32) (D : Nat → Prop) (hS : G a = so_o a ch fl ob) (hH : G (a + 1) = some (ja_q E 4 n h)) (hn : n < 100) (hD : ∀ p, p < n → ∀ z, h p = some z → D z) (hT : ∀ z, D z → bn_k G z (tm z)) : jx_ct l E b yS_latest cS_latest 4 (some .int) 1 0 0 [.ref a] G sz (jx_pu (.int (so_m h tm n)) G sz) := by
  refine jx_met (by decide) (Nat.le_of_ble_eq_true rfl) (L0 := [_, _, _, _]) rfl (fun X k => ?_)
  refine jx_iconst k dS_latest_0 (v := (-1)) (by decide) ?_
  refine jx_istore_n k dS_latest_1 (Nat.le_of_ble_eq_true rfl) rfl (L' := [_, _, _, _]) rfl ?_
  refine jx_iconst k dS_latest_2 (v := 0) (by decide) ?_
  refine jx_istore_n k dS_latest_3 (Nat.le_of_ble_eq_true rfl) rfl (L' := [_, _, _, _]) rfl ?_
  refine fo_l (fun p m => jx_w X E b (jx_fin X E b (jx_pu (.int (so_m h tm n)) G sz) 0 0) 4 [some (.ref a), some (.int m), some (.int (nI p)), none] [] G sz 0 0) (so_mf h tm) (lo := 0) (hi := n) (Nat.zero_le _) (-1) ?_ ?_
  · intro p h1 h2
    generalize fo_f (so_mf h tm) 0 (p - 0) (-1) = m
    intro kk
    cases e : h p with
    | none =>
      have e2 : so_mf h tm p m = m := by unfold so_mf; rw [e]
      rw [e2] at kk
      refine jx_iload_n k dS_latest_4 rfl ?_
      refine jx_aload_n k dS_latest_5 rfl ?_
      refine jx_get k fS_24 dS_latest_6 hS rfl ?_
      refine jx_alen k dS_latest_9 hH (t := 4) rfl ?_
      refine jx_icmp_ge k dS_latest_10 (tgt := 39) rfl (fun hh => absurd hh (nI_ge h2 (by omega))) (fun _ => ?_)
      refine jx_aload_n k dS_latest_13 rfl ?_
      refine jx_get k fS_24 dS_latest_14 hS rfl ?_
      refine jx_iload_n k dS_latest_17 rfl ?_
      refine jx_ald0 k dS_latest_18 hH (t := 4) rfl (p := p) rfl h2 (by omega) e ?_
      refine jx_astore_nN k dS_latest_19 (Nat.le_of_ble_eq_true rfl) rfl (L' := [_, _, _, _]) rfl ?_
      refine jx_aload_nN k dS_latest_20 rfl ?_
      refine jx_ifnullN k dS_latest_21 (tgt := 33) rfl ?_
      refine jx_iinc k dS_latest_33 rfl (nI_1 p) rfl (L' := [_, _, _, _]) rfl ?_
      refine jx_goto k dS_latest_36 (tgt := 4) rfl ?_
      refine jx_fg (jx_ls (jx_ls (jx_ls (jx_ln jx_l0)))) ?_
      exact kk
    | some z =>
      have e2 : so_mf h tm p m = if m < tm z then tm z else m := by unfold so_mf; rw [e]
      rw [e2] at kk
      obtain ⟨s, cs, pv, ba, pb, sb, hB⟩ := hT z (hD p h2 z e)
      refine jx_iload_n k dS_latest_4 rfl ?_
      refine jx_aload_n k dS_latest_5 rfl ?_
      refine jx_get k fS_24 dS_latest_6 hS rfl ?_
      refine jx_alen k dS_latest_9 hH (t := 4) rfl ?_
      refine jx_icmp_ge k dS_latest_10 (tgt := 39) rfl (fun hh => absurd hh (nI_ge h2 (by omega))) (fun _ => ?_)
      refine jx_aload_n k dS_latest_13 rfl ?_
      refine jx_get k fS_24 dS_latest_14 hS rfl ?_
      refine jx_iload_n k dS_latest_17 rfl ?_
      refine jx_aldS k dS_latest_18 hH (t := 4) rfl (p := p) rfl h2 (by omega) e ?_
      refine jx_astore_n k dS_latest_19 (Nat.le_of_ble_eq_true rfl) rfl (L' := [_, _, _, _]) rfl ?_
      refine jx_aload_n k dS_latest_20 rfl ?_
      refine jx_ifnull k dS_latest_21 ?_
      refine jx_iload_n k dS_latest_24 rfl ?_
      refine jx_aload_n k dS_latest_25 rfl ?_
      refine jx_get k fS_62 dS_latest_26 hB rfl ?_
      refine jx_callSP k mS_88 (k_max _ _ _ _ _ m (tm z)) dS_latest_29 rfl rfl rfl (Nat.le_of_ble_eq_true rfl) ⟨Nat.le_of_ble_eq_true rfl, Nat.le_of_ble_eq_true rfl⟩ ⟨Nat.le_of_ble_eq_true rfl, Nat.le_of_ble_eq_true rfl⟩ ?_
      refine jx_istore_n k dS_latest_32 (Nat.le_of_ble_eq_true rfl) rfl (L' := [_, _, _, _]) rfl ?_
      refine jx_iinc k dS_latest_33 rfl (nI_1 p) rfl (L' := [_, _, _, _]) rfl ?_
      refine jx_goto k dS_latest_36 (tgt := 4) rfl ?_
      refine jx_fg (jx_ls (jx_ls (jx_ls (jx_ln jx_l0)))) ?_
      exact kk
  · refine jx_iload_n k dS_latest_4 rfl ?_
    refine jx_aload_n k dS_latest_5 rfl ?_
    refine jx_get k fS_24 dS_latest_6 hS rfl ?_
    refine jx_alen k dS_latest_9 hH (t := 4) rfl ?_
    refine jx_icmp_ge k dS_latest_10 (tgt := 39) rfl (fun _ => ?_) (fun hh => absurd (nI_le (Nat.le_refl _) (by omega)) hh)
    refine jx_iload_n k dS_latest_39 rfl ?_
    exact jx_iret k dS_latest_40 (Nat.le_refl _) (Nat.le_refl _) ⟨rfl, rfl, rfl⟩
abbrev so_z (ob : Int32) (u f g : Nat → Int32) (t : Int32) : Prop := ob ≠ 0 ∧ fz_h u f g t
def so_nf (ob : Int32) (u f g : Nat → Int32) (h : Nat → Option Nat) (tm : Nat → Int32) (p : Nat) (m : Int32) : Int32 := match h p with
  | none => m
  | some z => if so_z ob u f g (tm z) then m else so_e m (tm z)
def so_n (ob : Int32) (u f g : Nat → Int32) (h : Nat → Option Nat) (tm : Nat → Int32) (n : Nat) : Int32 := fo_f (so_nf ob u f g h tm) 0 n (-1)
set_option maxRecDepth 100000 in
set_option maxHeartbeats 4000000 in
theorem k_notFrozen (l : Launch) (E : jx_E) (b : Nat) (G : jx_H) (sz : Nat) (a n : Nat) (ch fl ob : Int32) (h : Nat → Option Nat) (tm : Nat → Int32) (D : Nat → Prop) (hS : G a = so_o a ch fl ob) (hH : G (a + 1) = some (ja_q E 4 n h)) (hn : n < 100) (hD : ∀ p, p < n → ∀ z, h p = some z → D z) (hT : ∀ z, D z → bn_k G z (tm z)) (fa : Nat) (u f g : Nat → Int32) (hF : G fa = fz_o fa) (hU : G (fa + 1) = some (ja_z E 3 u)) (hA : G (fa + 2) = some (ja_i E 3 f)) (hL : G (fa + 3) = some (ja_i E 3 g)) : jx_ct l E b yS_earliestNotFrozen cS_earliestNotFrozen 5 (some .int) 2 0 0 [.ref a, .ref fa] G sz (jx_pu (.int (so_n ob u f g h tm n)) G sz) := by
  refine jx_met (by decide) (Nat.le_of_ble_eq_true rfl) (L0 := [_, _, _, _, _]) rfl (fun X k => ?_)
  refine jx_iconst k dS_earliestNotFrozen_0 (v := (-1)) (by decide) ?_
  refine jx_istore_n k dS_earliestNotFrozen_1 (Nat.le_of_ble_eq_true rfl) rfl (L' := [_, _, _, _, _]) rfl ?_
  refine jx_iconst k dS_earliestNotFrozen_2 (v := 0) (by decide) ?_
  refine jx_istore_n k dS_earliestNotFrozen_3 (Nat.le_of_ble_eq_true rfl) rfl (L' := [_, _, _, _, _]) rfl ?_
  refine fo_l (fun p m => jx_w X E b (jx_fin X E b (jx_pu (.int (so_n ob u f g h tm n)) G sz) 0 0) 4 [some (.ref a), some (.ref fa), some (.int m), some (.int (nI p)), none] [] G sz 0 0) (so_nf ob u f g h tm) (lo := 0) (hi := n) (Nat.zero_le _) (-1) ?_ ?_
  · intro p h1 h2
    generalize fo_f (so_nf ob u f g h tm) 0 (p - 0) (-1) = m
    intro kk
    cases e : h p with
    | none =>
      have e2 : so_nf ob u f g h tm p m = m := by unfold so_nf; rw [e]
      rw [e2] at kk
      refine jx_iload_n k dS_earliestNotFrozen_4 rfl ?_
      refine jx_aload_n k dS_earliestNotFrozen_5 rfl ?_
      refine jx_get k fS_24 dS_earliestNotFrozen_6 hS rfl ?_
      refine jx_alen k dS_earliestNotFrozen_9 hH (t := 4) rfl ?_
      refine jx_icmp_ge k dS_earliestNotFrozen_10 (tgt := 52) rfl (fun hh => absurd hh (nI_ge h2 (by omega))) (fun _ => ?_)
      refine jx_aload_n k dS_earliestNotFrozen_13 rfl ?_
      refine jx_get k fS_24 dS_earliestNotFrozen_14 hS rfl ?_
      refine jx_iload_n k dS_earliestNotFrozen_17 rfl ?_
      refine jx_ald0 k dS_earliestNotFrozen_18 hH (t := 4) rfl (p := p) rfl h2 (by omega) e ?_
      refine jx_astoreN k dS_earliestNotFrozen_19 (Nat.le_of_ble_eq_true rfl) rfl (L' := [_, _, _, _, _]) rfl ?_
      refine jx_aloadN k dS_earliestNotFrozen_21 rfl ?_
      refine jx_ifnullN k dS_earliestNotFrozen_23 (tgt := 46) rfl ?_
      refine jx_iinc k dS_earliestNotFrozen_46 rfl (nI_1 p) rfl (L' := [_, _, _, _, _]) rfl ?_
      refine jx_goto k dS_earliestNotFrozen_49 (tgt := 4) rfl ?_
      refine jx_fg (jx_ls (jx_ls (jx_ls (jx_ls (jx_ln jx_l0))))) ?_
      exact kk
    | some z =>
      have e2 : so_nf ob u f g h tm p m = if so_z ob u f g (tm z) then m else so_e m (tm z) := by unfold so_nf; rw [e]
      rw [e2] at kk
      have hZ := hT z (hD p h2 z e)
      obtain ⟨s, cs, pv, ba, pb, sb, hB⟩ := hT z (hD p h2 z e)
      refine jx_iload_n k dS_earliestNotFrozen_4 rfl ?_
      refine jx_aload_n k dS_earliestNotFrozen_5 rfl ?_
      refine jx_get k fS_24 dS_earliestNotFrozen_6 hS rfl ?_
      refine jx_alen k dS_earliestNotFrozen_9 hH (t := 4) rfl ?_
      refine jx_icmp_ge k dS_earliestNotFrozen_10 (tgt := 52) rfl (fun hh => absurd hh (nI_ge h2 (by omega))) (fun _ => ?_)
      refine jx_aload_n k dS_earliestNotFrozen_13 rfl ?_
      refine jx_get k fS_24 dS_earliestNotFrozen_14 hS rfl ?_
      refine jx_iload_n k dS_earliestNotFrozen_17 rfl ?_
      refine jx_aldS k dS_earliestNotFrozen_18 hH (t := 4) rfl (p := p) rfl h2 (by omega) e ?_
      refine jx_astore k dS_earliestNotFrozen_19 (Nat.le_of_ble_eq_true rfl) rfl (L' := [_, _, _, _, _]) rfl ?_
      refine jx_aload k dS_earliestNotFrozen_21 rfl ?_
      refine jx_ifnull k dS_earliestNotFrozen_23 ?_
      refine jx_aload_n k dS_earliestNotFrozen_26 rfl ?_
      refine jx_aload k dS_earliestNotFrozen_27 rfl ?_
      refine jx_aload_n k dS_earliestNotFrozen_29 rfl ?_
      refine jx_callVP k mS_75 (k_isFrozen _ _ _ _ _ a ch fl ob hS z (tm z) hZ fa u f g hF hU hA hL) hS rfl dS_earliestNotFrozen_30 rfl rfl rfl (Nat.le_of_ble_eq_true rfl) ⟨Nat.le_of_ble_eq_true rfl, Nat.le_of_ble_eq_true rfl⟩ ⟨Nat.le_of_ble_eq_true rfl, Nat.le_of_ble_eq_true rfl⟩ ?_
      refine jx_if_ne k dS_earliestNotFrozen_33 (tgt := 46) rfl (fun h3 => ?_) (fun h3 => ?_)
      · rw [if_pos (Decidable.byContradiction (fun h => h3 (jb_f h)))] at kk
        refine jx_iinc k dS_earliestNotFrozen_46 rfl (nI_1 p) rfl (L' := [_, _, _, _, _]) rfl ?_
        refine jx_goto k dS_earliestNotFrozen_49 (tgt := 4) rfl ?_
        refine jx_fg (jx_ls (jx_ls (jx_ls (jx_ls (jx_ln jx_l0))))) ?_
        exact kk
      · rw [if_neg (jb_e0.mp h3)] at kk
        refine jx_iload_n k dS_earliestNotFrozen_36 rfl ?_
        refine jx_aload k dS_earliestNotFrozen_37 rfl ?_
        refine jx_get k fS_62 dS_earliestNotFrozen_39 hB rfl ?_
        refine jx_callSP k mS_79 (k_earlier _ _ _ _ _ m (tm z)) dS_earliestNotFrozen_42 rfl rfl rfl (Nat.le_of_ble_eq_true rfl) ⟨Nat.le_of_ble_eq_true rfl, Nat.le_of_ble_eq_true rfl⟩ ⟨Nat.le_of_ble_eq_true rfl, Nat.le_of_ble_eq_true rfl⟩ ?_
        refine jx_istore_n k dS_earliestNotFrozen_45 (Nat.le_of_ble_eq_true rfl) rfl (L' := [_, _, _, _, _]) rfl ?_
        refine jx_iinc k dS_earliestNotFrozen_46 rfl (nI_1 p) rfl (L' := [_, _, _, _, _]) rfl ?_
        refine jx_goto k dS_earliestNotFrozen_49 (tgt := 4) rfl ?_
        refine jx_fg (jx_ls (jx_ls (jx_ls (jx_ls (jx_ln jx_l0))))) ?_
        exact kk
  · refine jx_iload_n k dS_earliestNotFrozen_4 rfl ?_
    refine jx_aload_n k dS_earliestNotFrozen_5 rfl ?_
    refine jx_get k fS_24 dS_earliestNotFrozen_6 hS rfl ?_
    refine jx_alen k dS_earliestNotFrozen_9 hH (t := 4) rfl ?_
    refine jx_icmp_ge k dS_earliestNotFrozen_10 (tgt := 52) rfl (fun _ => ?_) (fun hh => absurd (nI_le (Nat.le_refl _) (by omega)) hh)
    refine jx_iload_n k dS_earliestNotFrozen_52 rfl ?_
    exact jx_iret k dS_earliestNotFrozen_53 (Nat.le_refl _) (Nat.le_refl _) ⟨rfl, rfl, rfl⟩
def so_hf (ob : Int32) (u f g : Nat → Int32) (h : Nat → Option Nat) (tm : Nat → Int32) (p c : Nat) : Nat := match h p with
  | none => c
  | some z => if so_z ob u f g (tm z) then c + 1 else c
def so_h (ob : Int32) (u f g : Nat → Int32) (h : Nat → Option Nat) (tm : Nat → Int32) (n : Nat) : Nat := fo_f (so_hf ob u f g h tm) 0 n 0
set_option maxRecDepth 100000 in
set_option maxHeartbeats 4000000 in
theorem k_pagesHeld (l : Launch) (E : jx_E) (b : Nat) (G : jx_H) (sz : Nat) (a n : Nat) (ch fl ob : Int32) (h : Nat → Option Nat) (tm : Nat → Int32) (D : Nat → Prop) (hS : G a = so_o a ch fl ob) (hH : G (a + 1) = some (ja_q E 4 n h)) (hn : n < 100) (hD : ∀ p, p < n → ∀ z, h p = some z → D z) (hT : ∀ z, D z → bn_k G z (tm z)) (fa : Nat) (u f g : Nat → Int32) (hF : G fa = fz_o fa) (hU : G (fa + 1) = some (ja_z E 3 u)) (hA : G (fa + 2) = some (ja_i E 3 f)) (hL : G (fa + 3) = some (ja_i E 3 g)) : jx_ct l E b yS_pagesHeld cS_pagesHeld 5 (some .int) 2 0 0 [.ref a, .ref fa] G sz (jx_pu (.int (nI (so_h ob u f g h tm n))) G sz) := by
  refine jx_met (by decide) (Nat.le_of_ble_eq_true rfl) (L0 := [_, _, _, _, _]) rfl (fun X k => ?_)
  refine jx_iconst k dS_pagesHeld_0 (v := 0) (by decide) ?_
  refine jx_istore_n k dS_pagesHeld_1 (Nat.le_of_ble_eq_true rfl) rfl (L' := [_, _, _, _, _]) rfl ?_
  refine jx_iconst k dS_pagesHeld_2 (v := 0) (by decide) ?_
  refine jx_istore_n k dS_pagesHeld_3 (Nat.le_of_ble_eq_true rfl) rfl (L' := [_, _, _, _, _]) rfl ?_
  refine fo_l (fun p c => jx_w X E b (jx_fin X E b (jx_pu (.int (nI (so_h ob u f g h tm n))) G sz) 0 0) 4 [some (.ref a), some (.ref fa), some (.int (nI c)), some (.int (nI p)), none] [] G sz 0 0) (so_hf ob u f g h tm) (lo := 0) (hi := n) (Nat.zero_le _) 0 ?_ ?_
  · intro p h1 h2
    generalize fo_f (so_hf ob u f g h tm) 0 (p - 0) 0 = c
    intro kk
    cases e : h p with
    | none =>
      have e2 : so_hf ob u f g h tm p c = c := by unfold so_hf; rw [e]
      rw [e2] at kk
      refine jx_iload_n k dS_pagesHeld_4 rfl ?_
      refine jx_aload_n k dS_pagesHeld_5 rfl ?_
      refine jx_get k fS_24 dS_pagesHeld_6 hS rfl ?_
      refine jx_alen k dS_pagesHeld_9 hH (t := 4) rfl ?_
      refine jx_icmp_ge k dS_pagesHeld_10 (tgt := 45) rfl (fun hh => absurd hh (nI_ge h2 (by omega))) (fun _ => ?_)
      refine jx_aload_n k dS_pagesHeld_13 rfl ?_
      refine jx_get k fS_24 dS_pagesHeld_14 hS rfl ?_
      refine jx_iload_n k dS_pagesHeld_17 rfl ?_
      refine jx_ald0 k dS_pagesHeld_18 hH (t := 4) rfl (p := p) rfl h2 (by omega) e ?_
      refine jx_astoreN k dS_pagesHeld_19 (Nat.le_of_ble_eq_true rfl) rfl (L' := [_, _, _, _, _]) rfl ?_
      refine jx_aloadN k dS_pagesHeld_21 rfl ?_
      refine jx_ifnullN k dS_pagesHeld_23 (tgt := 39) rfl ?_
      refine jx_iinc k dS_pagesHeld_39 rfl (nI_1 p) rfl (L' := [_, _, _, _, _]) rfl ?_
      refine jx_goto k dS_pagesHeld_42 (tgt := 4) rfl ?_
      refine jx_fg (jx_ls (jx_ls (jx_ls (jx_ls (jx_ln jx_l0))))) ?_
      exact kk
    | some z =>
      have e2 : so_hf ob u f g h tm p c = if so_z ob u f g (tm z) then c + 1 else c := by unfold so_hf; rw [e]
      rw [e2] at kk
      have hZ := hT z (hD p h2 z e)
      refine jx_iload_n k dS_pagesHeld_4 rfl ?_
      refine jx_aload_n k dS_pagesHeld_5 rfl ?_
      refine jx_get k fS_24 dS_pagesHeld_6 hS rfl ?_
      refine jx_alen k dS_pagesHeld_9 hH (t := 4) rfl ?_
      refine jx_icmp_ge k dS_pagesHeld_10 (tgt := 45) rfl (fun hh => absurd hh (nI_ge h2 (by omega))) (fun _ => ?_)
      refine jx_aload_n k dS_pagesHeld_13 rfl ?_
      refine jx_get k fS_24 dS_pagesHeld_14 hS rfl ?_
      refine jx_iload_n k dS_pagesHeld_17 rfl ?_
      refine jx_aldS k dS_pagesHeld_18 hH (t := 4) rfl (p := p) rfl h2 (by omega) e ?_
      refine jx_astore k dS_pagesHeld_19 (Nat.le_of_ble_eq_true rfl) rfl (L' := [_, _, _, _, _]) rfl ?_
      refine jx_aload k dS_pagesHeld_21 rfl ?_
      refine jx_ifnull k dS_pagesHeld_23 ?_
      refine jx_aload_n k dS_pagesHeld_26 rfl ?_
      refine jx_aload k dS_pagesHeld_27 rfl ?_
      refine jx_aload_n k dS_pagesHeld_29 rfl ?_
      refine jx_callVP k mS_75 (k_isFrozen _ _ _ _ _ a ch fl ob hS z (tm z) hZ fa u f g hF hU hA hL) hS rfl dS_pagesHeld_30 rfl rfl rfl (Nat.le_of_ble_eq_true rfl) ⟨Nat.le_of_ble_eq_true rfl, Nat.le_of_ble_eq_true rfl⟩ ⟨Nat.le_of_ble_eq_true rfl, Nat.le_of_ble_eq_true rfl⟩ ?_
      refine jx_if_eq k dS_pagesHeld_33 (tgt := 39) rfl (fun h3 => ?_) (fun h3 => ?_)
      · rw [if_neg (jb_e0.mp h3)] at kk
        refine jx_iinc k dS_pagesHeld_39 rfl (nI_1 p) rfl (L' := [_, _, _, _, _]) rfl ?_
        refine jx_goto k dS_pagesHeld_42 (tgt := 4) rfl ?_
        refine jx_fg (jx_ls (jx_ls (jx_ls (jx_ls (jx_ln jx_l0))))) ?_
        exact kk
      · rw [if_pos (Decidable.byContradiction (fun h => h3 (jb_f h)))] at kk
        refine jx_iinc k dS_pagesHeld_36 rfl (nI_1 c) rfl (L' := [_, _, _, _, _]) rfl ?_
        refine jx_iinc k dS_pagesHeld_39 rfl (nI_1 p) rfl (L' := [_, _, _, _, _]) rfl ?_
        refine jx_goto k dS_pagesHeld_42 (tgt := 4) rfl ?_
        refine jx_fg (jx_ls (jx_ls (jx_ls (jx_ls (jx_ln jx_l0))))) ?_
        exact kk
  · refine jx_iload_n k dS_pagesHeld_4 rfl ?_
    refine jx_aload_n k dS_pagesHeld_5 rfl ?_
    refine jx_get k fS_24 dS_pagesHeld_6 hS rfl ?_
    refine jx_alen k dS_pagesHeld_9 hH (t := 4) rfl ?_
    refine jx_icmp_ge k dS_pagesHeld_10 (tgt := 45) rfl (fun _ => ?_) (fun hh => absurd (nI_le (Nat.le_refl _) (by omega)) hh)
    refine jx_iload_n k dS_pagesHeld_45 rfl ?_
    exact jx_iret k dS_pagesHeld_46 (Nat.le_refl _) (Nat.le_refl _) ⟨rfl, rfl, rfl⟩
