set_option maxRecDepth 100000 in
theorem k_Pcopy (l : Launch) (E : jx_E) (b : Nat) (G : jx_H) (sz : Nat) (a : Nat) (r : Nat → Int32) (hP : G a = pc_o a) (hR : G (a + 1) = some (ja_i E 8 r)) (hs : a + 1 < sz) : jx_ct l E b yP_copy cP_copy 2 (some (.object "VoyageKeeper$Picture")) 2 2 9 [.ref a] G sz (fun v G' sz' => v = some (.ref sz) ∧ G' = pc_G E sz (va_cpy r (fun _ => 0) 0 0 8) G ∧ sz' = sz + 2) := by
  refine jx_met (by decide) (Nat.le_of_ble_eq_true rfl) (L0 := [_, _]) rfl (fun X k => ?_)
  have e0 : pc_G E sz (fun _ => 0) G a = pc_o a := (pc_n (by omega) (by omega)).trans hP
  have e1 : pc_G E sz (fun _ => 0) G (a + 1) = some (ja_i E 8 r) := (pc_n (by omega) (by omega)).trans hR
  refine jx_new k nP_9 dP_copy_0 (Nat.le_of_ble_eq_true rfl) (Nat.le_of_ble_eq_true rfl) ?_
  refine jx_dup k dP_copy_3 rfl ?_
  refine jx_callI0 k mP_19 (k_Pinit _ _ _ G sz) dP_copy_4 rfl rfl rfl (Nat.le_of_ble_eq_true rfl) ⟨Nat.le_of_ble_eq_true rfl, Nat.le_of_ble_eq_true rfl⟩ ⟨Nat.le_of_ble_eq_true rfl, Nat.le_of_ble_eq_true rfl⟩ ?_
  refine jx_astore_n k dP_copy_7 (Nat.le_of_ble_eq_true rfl) rfl (L' := [_, _]) rfl ?_
  refine jx_aload_n k dP_copy_8 rfl ?_
  refine jx_get k fP_11 dP_copy_9 e0 rfl ?_
  refine jx_iconst k dP_copy_12 (v := 0) (by decide) ?_
  refine jx_aload_n k dP_copy_13 rfl ?_
  refine jx_get k fP_11 dP_copy_14 pc_0 rfl ?_
  refine jx_iconst k dP_copy_17 (v := 0) (by decide) ?_
  refine jx_bipush k dP_copy_18 (v := 8) (by decide) ?_
  refine jx_acopy k jn_494 jn_496 jn_495 jn_45 dP_copy_20 e1 pc_1 (ns := 0) (nd := 0) (nn := 8) rfl rfl rfl (by decide) (by decide) (by decide) (by decide) rfl (Nat.le_of_ble_eq_true rfl) (by decide) ?_
  refine jx_aload_n k dP_copy_23 rfl ?_
  refine jx_aret k (.inr ⟨_, rfl⟩) dP_copy_24 (Nat.le_refl _) (Nat.le_refl _) ⟨rfl, ?_, rfl⟩
  unfold pc_G
  exact va_uu _ _ _ _
def pr_x (r q : Nat → Int32) : Nat → Int32 := fo_f (fun p f => upd f p (r p ^^^ q p)) 0 8 (fun _ => 0)
set_option maxRecDepth 100000 in
set_option maxHeartbeats 4000000 in
theorem k_Pxor (l : Launch) (E : jx_E) (b : Nat) (G : jx_H) (sz : Nat) (a c : Nat) (r q : Nat → Int32) (hP : G a = pc_o a) (hR : G (a + 1) = some (ja_i E 8 r)) (hs : a + 1 < sz) (hP2 : G c = pc_o c) (hR2 : G (c + 1) = some (ja_i E 8 q)) (hs2 : c + 1 < sz) : jx_ct l E b yP_xor cP_xor 4 (some (.object "VoyageKeeper$Picture")) 2 2 9 [.ref a, .ref c] G sz (fun v G' sz' => v = some (.ref sz) ∧ G' = pc_G E sz (pr_x r q) G ∧ sz' = sz + 2) := by
  refine jx_met (by decide) (Nat.le_of_ble_eq_true rfl) (L0 := [_, _, _, _]) rfl (fun X k => ?_)
  refine jx_new k nP_9 dP_xor_0 (Nat.le_of_ble_eq_true rfl) (Nat.le_of_ble_eq_true rfl) ?_
  refine jx_dup k dP_xor_3 rfl ?_
  refine jx_callI0 k mP_19 (k_Pinit _ _ _ G sz) dP_xor_4 rfl rfl rfl (Nat.le_of_ble_eq_true rfl) ⟨Nat.le_of_ble_eq_true rfl, Nat.le_of_ble_eq_true rfl⟩ ⟨Nat.le_of_ble_eq_true rfl, Nat.le_of_ble_eq_true rfl⟩ ?_
  refine jx_astore_n k dP_xor_7 (Nat.le_of_ble_eq_true rfl) rfl (L' := [_, _, _, _]) rfl ?_
  refine jx_iconst k dP_xor_8 (v := 0) (by decide) ?_
  refine jx_istore_n k dP_xor_9 (Nat.le_of_ble_eq_true rfl) rfl (L' := [_, _, _, _]) rfl ?_
  refine fo_l (fun p f => jx_w X E b (jx_fin X E b (fun v G' sz' => v = some (.ref sz) ∧ G' = pc_G E sz (pr_x r q) G ∧ sz' = sz + 2) 2 9) 10 [some (.ref a), some (.ref c), some (.ref sz), some (.int (nI p))] [] (pc_G E sz f G) (sz + 2) 2 9) (fun p f => upd f p (r p ^^^ q p)) (lo := 0) (hi := 8) (by decide) (fun _ => 0) ?_ ?_
  · intro p h1 h2
    generalize fo_f (fun p f => upd f p (r p ^^^ q p)) 0 (p - 0) (fun _ => 0) = f
    intro kk
    have e0 : pc_G E sz f G a = pc_o a := (pc_n (by omega) (by omega)).trans hP
    have e1 : pc_G E sz f G (a + 1) = some (ja_i E 8 r) := (pc_n (by omega) (by omega)).trans hR
    have e2 : pc_G E sz f G c = pc_o c := (pc_n (by omega) (by omega)).trans hP2
    have e3 : pc_G E sz f G (c + 1) = some (ja_i E 8 q) := (pc_n (by omega) (by omega)).trans hR2
    refine jx_iload_n k dP_xor_10 rfl ?_
    refine jx_bipush k dP_xor_11 (v := 8) (by decide) ?_
    refine jx_icmp_ge k dP_xor_13 (tgt := 41) rfl (fun hh => absurd hh (nI_ge (b := 8) h2 (by decide))) (fun _ => ?_)
    refine jx_aload_n k dP_xor_16 rfl ?_
    refine jx_get k fP_11 dP_xor_17 pc_0 rfl ?_
    refine jx_iload_n k dP_xor_20 rfl ?_
    refine jx_aload_n k dP_xor_21 rfl ?_
    refine jx_get k fP_11 dP_xor_22 e0 rfl ?_
    refine jx_iload_n k dP_xor_25 rfl ?_
    refine jx_ildN k dP_xor_26 e1 (p := p) rfl (by omega) (by decide) ?_
    refine jx_aload_n k dP_xor_27 rfl ?_
    refine jx_get k fP_11 dP_xor_28 e2 rfl ?_
    refine jx_iload_n k dP_xor_31 rfl ?_
    refine jx_ildN k dP_xor_32 e3 (p := p) rfl (by omega) (by decide) ?_
    refine jx_ixor k dP_xor_33 ?_
    refine jx_istN k dP_xor_34 pc_1 (p := p) rfl (by omega) (by decide) ?_
    rw [show va_up (pc_G E sz f G) (sz + 1) (some (ja_i E 8 (upd f p (r p ^^^ q p)))) = pc_G E sz (upd f p (r p ^^^ q p)) G from va_uu _ _ _ _]
    refine jx_iinc k dP_xor_35 rfl (nI_1 p) rfl (L' := [_, _, _, _]) rfl ?_
    refine jx_goto k dP_xor_38 (tgt := 10) rfl ?_
    exact kk
  · refine jx_iload_n k dP_xor_10 rfl ?_
    refine jx_bipush k dP_xor_11 (v := 8) (by decide) ?_
    refine jx_icmp_ge k dP_xor_13 (tgt := 41) rfl (fun _ => ?_) (fun hh => absurd (nI_le (a := 8) (b := 8) (by decide) (by decide)) hh)
    refine jx_aload_n k dP_xor_41 rfl ?_
    exact jx_aret k (.inr ⟨_, rfl⟩) dP_xor_42 (Nat.le_refl _) (Nat.le_refl _) ⟨rfl, rfl, rfl⟩
/-- Freezes -/
abbrev fz_o (a : Nat) : Option va_E := some (.inr (1, [.ref (a + 1), .ref (a + 2), .ref (a + 3)]))
def fz_G (E : jx_E) (a : Nat) (u f g : Nat → Int32) (G : jx_H) : jx_H := va_up (va_up (va_up (va_up G a (fz_o a)) (a + 1) (some (ja_z E 3 u))) (a + 2) (some (ja_i E 3 f))) (a + 3) (some (ja_i E 3 g))
set_option maxRecDepth 100000 in
set_option maxHeartbeats 4000000 in
theorem k_Finit (l : Launch) (E : jx_E) (b : Nat) (G : jx_H) (a : Nat) : jx_ct l E b yF_init cF_init 1 none 1 3 9 [.ref a] (va_up G a (some (.inr (1, [.null, .null, .null])))) (a + 1) (fun v G' sz' => v = none ∧ G' = fz_G E a (fun _ => 0) (fun _ => 0) (fun _ => 0) G ∧ sz' = a + 4) := by
  refine jx_met (by decide) (Nat.le_of_ble_eq_true rfl) (L0 := [_]) rfl (fun X k => ?_)
  refine jx_aload_n k dF_init_0 rfl ?_
  refine jx_obj k jn_74 jn_54 jn_55 dF_init_1 rfl (Nat.le_of_ble_eq_true rfl) (Nat.le_of_ble_eq_true rfl) ?_
  refine jx_aload_n k dF_init_4 rfl ?_
  refine jx_iconst k dF_init_5 (v := 3) (by decide) ?_
  refine jx_newa k (at0 := .boolean) (ty := .boolean) (t := 1) (N := 3) (a0 := (3, .inl (fun _ => 0))) rfl jn_85 rfl (fun _ h => by cases h) (fun _ => rfl) dF_init_6 (by decide) (by decide) (by decide) (Nat.le_of_ble_eq_true rfl) (Nat.le_of_ble_eq_true rfl) ?_
  refine jx_putF k rfl ffF_11 dF_init_8 ((va_up_ne _ _ (by omega)).trans (va_up_self _ _ _)) rfl rfl (Nat.le_of_ble_eq_true rfl) (fs' := [_, _, _]) rfl ?_
  refine jx_aload_n k dF_init_11 rfl ?_
  refine jx_iconst k dF_init_12 (v := 3) (by decide) ?_
  refine jx_newa k (at0 := .int) (ty := .int) (t := 0) (N := 3) (a0 := (3, .inl (fun _ => 0))) rfl jn_86 rfl (fun _ h => by cases h) (fun _ => rfl) dF_init_13 (by decide) (by decide) (by decide) (Nat.le_of_ble_eq_true rfl) (Nat.le_of_ble_eq_true rfl) ?_
  refine jx_putF k rfl ffF_15 dF_init_15 ((va_up_ne _ _ (by omega)).trans (va_up_self _ _ _)) rfl rfl (Nat.le_of_ble_eq_true rfl) (fs' := [_, _, _]) rfl ?_
  refine jx_aload_n k dF_init_18 rfl ?_
  refine jx_iconst k dF_init_19 (v := 3) (by decide) ?_
  refine jx_newa k (at0 := .int) (ty := .int) (t := 0) (N := 3) (a0 := (3, .inl (fun _ => 0))) rfl jn_86 rfl (fun _ h => by cases h) (fun _ => rfl) dF_init_20 (by decide) (by decide) (by decide) (Nat.le_of_ble_eq_true rfl) (Nat.le_of_ble_eq_true rfl) ?_
  refine jx_putF k rfl ffF_19 dF_init_22 ((va_up_ne _ _ (by omega)).trans (va_up_self _ _ _)) rfl rfl (Nat.le_of_ble_eq_true rfl) (fs' := [_, _, _]) rfl ?_
  refine jx_vret k dF_init_25 (Nat.le_refl _) (Nat.le_refl _) ⟨rfl, ?_, rfl⟩
  funext q
  unfold fz_G
  by_cases h0 : q = a
  · subst h0
    simp [va_up]
  · by_cases h1 : q = a + 1
    · subst h1
      simp [va_up]
    · by_cases h2 : q = a + 2
      · subst h2
        simp [va_up]
      · by_cases h3 : q = a + 3
        · subst h3
          simp [va_up]
        · simp [va_up, h0, h1, h2, h3]
set_option maxRecDepth 100000 in
theorem k_isInUse (l : Launch) (E : jx_E) (b : Nat) (G : jx_H) (sz : Nat) (a : Nat) (u : Nat → Int32) (i : Int32) (hF : G a = fz_o a) (hU : G (a + 1) = some (ja_z E 3 u)) : jx_ct l E b yF_isInUse cF_isInUse 2 (some .boolean) 1 0 0 [.ref a, .int i] G sz (jx_pu (.int (jb_z ((0 ≤ i ∧ i < 3) ∧ u i.toNatClampNeg ≠ 0))) G sz) := by
  refine jx_met (by decide) (Nat.le_of_ble_eq_true rfl) (L0 := [_, _]) rfl (fun X k => ?_)
  refine jx_iload_n k dF_isInUse_0 rfl ?_
  refine jx_iconst k dF_isInUse_1 (v := 3) (by decide) ?_
  refine jx_callSP k mF_22 (k_isBelow _ _ _ _ _ i 3) dF_isInUse_2 rfl rfl rfl (Nat.le_of_ble_eq_true rfl) ⟨Nat.le_of_ble_eq_true rfl, Nat.le_of_ble_eq_true rfl⟩ ⟨Nat.le_of_ble_eq_true rfl, Nat.le_of_ble_eq_true rfl⟩ ?_
  refine jx_if_eq k dF_isInUse_5 (tgt := 21) rfl (fun h1 => ?_) (fun h1 => ?_)
  · refine jx_iconst k dF_isInUse_21 (v := 0) (by decide) ?_
    exact jx_zret k dF_isInUse_22 rfl (Nat.le_refl _) (Nat.le_refl _) ⟨by rw [jb_f (fun h => jb_e0.mp h1 h.1)], rfl, rfl⟩
  · have g1 := Decidable.byContradiction (fun h => h1 (jb_f h))
    obtain ⟨j, hj, rfl⟩ := nI_lift (n := 3) g1.1 g1.2 (by decide)
    refine jx_aload_n k dF_isInUse_8 rfl ?_
    refine jx_get k fF_11 dF_isInUse_9 hF rfl ?_
    refine jx_iload_n k dF_isInUse_12 rfl ?_
    refine jx_zldN k dF_isInUse_13 hU (p := j) rfl (by omega) (by decide) ?_
    refine jx_if_eq k dF_isInUse_14 (tgt := 21) rfl (fun h2 => ?_) (fun h2 => ?_)
    · refine jx_iconst k dF_isInUse_21 (v := 0) (by decide) ?_
      exact jx_zret k dF_isInUse_22 rfl (Nat.le_refl _) (Nat.le_refl _) ⟨by rw [jb_f (fun h => h.2 (by rw [nI_clamp (by omega)]; exact h2))], rfl, rfl⟩
    · refine jx_iconst k dF_isInUse_17 (v := 1) (by decide) ?_
      refine jx_goto k dF_isInUse_18 (tgt := 22) rfl ?_
      exact jx_zret k dF_isInUse_22 rfl (Nat.le_refl _) (Nat.le_refl _) ⟨by rw [jb_t ⟨g1, by rw [nI_clamp (by omega)]; exact h2⟩], rfl, rfl⟩
def fz_un (u : Nat → Int32) : Int32 := if u 0 = 0 then 0 else if u 1 = 0 then 1 else if u 2 = 0 then 2 else -1
set_option maxRecDepth 100000 in
theorem k_unused (l : Launch) (E : jx_E) (b : Nat) (G : jx_H) (sz : Nat) (a : Nat) (u : Nat → Int32) (hF : G a = fz_o a) (hU : G (a + 1) = some (ja_z E 3 u)) : jx_ct l E b yF_unusedNumber cF_unusedNumber 2 (some .int) 0 0 0 [.ref a] G sz (jx_pu (.int (fz_un u)) G sz) := by
  refine jx_met (by decide) (Nat.le_of_ble_eq_true rfl) (L0 := [_, _]) rfl (fun X k => ?_)
  refine jx_iconst k dF_unusedNumber_0 (v := 0) (by decide) ?_
  refine jx_istore_n k dF_unusedNumber_1 (Nat.le_of_ble_eq_true rfl) rfl (L' := [_, _]) rfl ?_
  refine fo_d (fun p => (∀ i, i < p → u i ≠ 0) → jx_w X E b (jx_fin X E b (jx_pu (.int (fz_un u)) G sz) 0 0) 2 [some (.ref a), some (.int (nI p))] [] G sz 0 0) (lo := 0) (hi := 3) (by decide) ?_ ?_ (fun i h => absurd h (by omega))
  · intro p h1 h2 kk hp
    refine jx_iload_n k dF_unusedNumber_2 rfl ?_
    refine jx_iconst k dF_unusedNumber_3 (v := 3) (by decide) ?_
    refine jx_icmp_ge k dF_unusedNumber_4 (tgt := 24) rfl (fun hh => absurd hh (nI_ge (b := 3) h2 (by decide))) (fun _ => ?_)
    refine jx_aload_n k dF_unusedNumber_7 rfl ?_
    refine jx_get k fF_11 dF_unusedNumber_8 hF rfl ?_
    refine jx_iload_n k dF_unusedNumber_11 rfl ?_
    refine jx_zldN k dF_unusedNumber_12 hU (p := p) rfl (by omega) (by decide) ?_
    refine jx_if_ne k dF_unusedNumber_13 (tgt := 18) rfl (fun h3 => ?_) (fun h3 => ?_)
    · refine jx_iinc k dF_unusedNumber_18 rfl (nI_1 p) rfl (L' := [_, _]) rfl ?_
      refine jx_goto k dF_unusedNumber_21 (tgt := 2) rfl ?_
      refine kk (fun i hi => ?_)
      rcases Nat.lt_or_ge i p with h | h
      · exact hp i h
      · rw [show i = p by omega]; exact h3
    · refine jx_iload_n k dF_unusedNumber_16 rfl ?_
      refine jx_iret k dF_unusedNumber_17 (Nat.le_refl _) (Nat.le_refl _) ⟨?_, rfl, rfl⟩
      have e : fz_un u = nI p := by
        unfold fz_un
        rcases (show p = 0 ∨ p = 1 ∨ p = 2 by omega) with rfl | rfl | rfl
        · rw [if_pos h3]; rfl
        · rw [if_neg (hp 0 (by omega)), if_pos h3]; rfl
        · rw [if_neg (hp 0 (by omega)), if_neg (hp 1 (by omega)), if_pos h3]; rfl
      rw [e]
  · intro hp
    refine jx_iload_n k dF_unusedNumber_2 rfl ?_
    refine jx_iconst k dF_unusedNumber_3 (v := 3) (by decide) ?_
    refine jx_icmp_ge k dF_unusedNumber_4 (tgt := 24) rfl (fun _ => ?_) (fun hh => absurd (nI_le (a := 3) (b := 3) (by decide) (by decide)) hh)
    refine jx_iconst k dF_unusedNumber_24 (v := (-1)) (by decide) ?_
    refine jx_iret k dF_unusedNumber_25 (Nat.le_refl _) (Nat.le_refl _) ⟨?_, rfl, rfl⟩
    have e : fz_un u = -1 := by
      unfold fz_un
      rw [if_neg (hp 0 (by omega)), if_neg (hp 1 (by omega)), if_neg (hp 2 (by omega))]
    rw [e]
set_option maxRecDepth 100000 in
theorem k_begin (l : Launch) (E : jx_E) (b : Nat) (G : jx_H) (sz : Nat) (a : Nat) (u f g : Nat → Int32) (hF : G a = fz_o a) (hU : G (a + 1) = some (ja_z E 3 u)) (hA : G (a + 2) = some (ja_i E 3 f)) (hL : G (a + 3) = some (ja_i E 3 g)) (j : Nat) (hj : j < 3) (x y : Int32) : jx_ct l E b yF_begin cF_begin 4 none 1 0 0 [.ref a, .int (nI j), .int x, .int y] G sz (fun v G' sz' => v = none ∧ G' = va_up (va_up (va_up G (a + 1) (some (ja_z E 3 (upd u j 1)))) (a + 2) (some (ja_i E 3 (upd f j x)))) (a + 3) (some (ja_i E 3 (upd g j y))) ∧ sz' = sz) := by
  refine jx_met (by decide) (Nat.le_of_ble_eq_true rfl) (L0 := [_, _, _, _]) rfl (fun X k => ?_)
  have g1 : 0 ≤ nI j ∧ nI j < 3 := ⟨nI_pos' (by omega), nI_lt (b := 3) hj (by decide)⟩
  refine jx_iload_n k dF_begin_0 rfl ?_
  refine jx_iconst k dF_begin_1 (v := 3) (by decide) ?_
  refine jx_callSP k mF_22 (k_isBelow _ _ _ _ _ (nI j) 3) dF_begin_2 rfl rfl rfl (Nat.le_of_ble_eq_true rfl) ⟨Nat.le_of_ble_eq_true rfl, Nat.le_of_ble_eq_true rfl⟩ ⟨Nat.le_of_ble_eq_true rfl, Nat.le_of_ble_eq_true rfl⟩ ?_
  refine jx_if_eq k dF_begin_5 (tgt := 29) rfl (fun hh => absurd hh (fun h => jb_e0.mp h g1)) (fun _ => ?_)
  refine jx_aload_n k dF_begin_8 rfl ?_
  refine jx_get k fF_11 dF_begin_9 hF rfl ?_
  refine jx_iload_n k dF_begin_12 rfl ?_
  refine jx_iconst k dF_begin_13 (v := 1) (by decide) ?_
  refine jx_zstN k dF_begin_14 hU (p := j) rfl (by omega) (by decide) rfl ?_
  refine jx_aload_n k dF_begin_15 rfl ?_
  refine jx_get k fF_15 dF_begin_16 ((va_up_ne _ _ (by omega)).trans hF) rfl ?_
  refine jx_iload_n k dF_begin_19 rfl ?_
  refine jx_iload_n k dF_begin_20 rfl ?_
  refine jx_istN k dF_begin_21 ((va_up_ne _ _ (by omega)).trans hA) (p := j) rfl (by omega) (by decide) ?_
  refine jx_aload_n k dF_begin_22 rfl ?_
  refine jx_get k fF_19 dF_begin_23 ((va_up_ne _ _ (by omega)).trans ((va_up_ne _ _ (by omega)).trans hF)) rfl ?_
  refine jx_iload_n k dF_begin_26 rfl ?_
  refine jx_iload_n k dF_begin_27 rfl ?_
  refine jx_istN k dF_begin_28 ((va_up_ne _ _ (by omega)).trans ((va_up_ne _ _ (by omega)).trans hL)) (p := j) rfl (by omega) (by decide) ?_
  exact jx_vret k dF_begin_29 (Nat.le_refl _) (Nat.le_refl _) ⟨rfl, rfl, rfl⟩
set_option maxRecDepth 100000 in
theorem k_Fend (l : Launch) (E : jx_E) (b : Nat) (G : jx_H) (sz : Nat) (a : Nat) (u : Nat → Int32) (hF : G a = fz_o a) (hU : G (a + 1) = some (ja_z E 3 u)) (j : Nat) (hj : j < 3) : jx_ct l E b yF_end cF_end 2 none 1 0 0 [.ref a, .int (nI j)] G sz (fun v G' sz' => v = none ∧ G' = va_up G (a + 1) (some (ja_z E 3 (upd u j 0))) ∧ sz' = sz) := by
  refine jx_met (by decide) (Nat.le_of_ble_eq_true rfl) (L0 := [_, _]) rfl (fun X k => ?_)
  have g1 : 0 ≤ nI j ∧ nI j < 3 := ⟨nI_pos' (by omega), nI_lt (b := 3) hj (by decide)⟩
  refine jx_iload_n k dF_end_0 rfl ?_
  refine jx_iconst k dF_end_1 (v := 3) (by decide) ?_
  refine jx_callSP k mF_22 (k_isBelow _ _ _ _ _ (nI j) 3) dF_end_2 rfl rfl rfl (Nat.le_of_ble_eq_true rfl) ⟨Nat.le_of_ble_eq_true rfl, Nat.le_of_ble_eq_true rfl⟩ ⟨Nat.le_of_ble_eq_true rfl, Nat.le_of_ble_eq_true rfl⟩ ?_
  refine jx_if_eq k dF_end_5 (tgt := 15) rfl (fun hh => absurd hh (fun h => jb_e0.mp h g1)) (fun _ => ?_)
  refine jx_aload_n k dF_end_8 rfl ?_
  refine jx_get k fF_11 dF_end_9 hF rfl ?_
  refine jx_iload_n k dF_end_12 rfl ?_
  refine jx_iconst k dF_end_13 (v := 0) (by decide) ?_
  refine jx_zstN k dF_end_14 hU (p := j) rfl (by omega) (by decide) rfl ?_
  exact jx_vret k dF_end_15 (Nat.le_refl _) (Nat.le_refl _) ⟨rfl, rfl, rfl⟩
set_option maxRecDepth 100000 in
theorem k_edge (l : Launch) (E : jx_E) (b : Nat) (G : jx_H) (sz : Nat) (a : Nat) (u f g : Nat → Int32) (hF : G a = fz_o a) (hU : G (a + 1) = some (ja_z E 3 u)) (hA : G (a + 2) = some (ja_i E 3 f)) (hL : G (a + 3) = some (ja_i E 3 g)) (j : Nat) (hj : j < 3) (z : Int32) : jx_ct l E b yF_edge cF_edge 3 (some .int) 1 0 0 [.ref a, .int (nI j), .int z] G sz (jx_pu (.int (if z = 0 then f j else g j)) G sz) := by
  refine jx_met (by decide) (Nat.le_of_ble_eq_true rfl) (L0 := [_, _, _]) rfl (fun X k => ?_)
  have g1 : 0 ≤ nI j ∧ nI j < 3 := ⟨nI_pos' (by omega), nI_lt (b := 3) hj (by decide)⟩
  refine jx_iload_n k dF_edge_0 rfl ?_
  refine jx_iconst k dF_edge_1 (v := 3) (by decide) ?_
  refine jx_callSP k mF_22 (k_isBelow _ _ _ _ _ (nI j) 3) dF_edge_2 rfl rfl rfl (Nat.le_of_ble_eq_true rfl) ⟨Nat.le_of_ble_eq_true rfl, Nat.le_of_ble_eq_true rfl⟩ ⟨Nat.le_of_ble_eq_true rfl, Nat.le_of_ble_eq_true rfl⟩ ?_
  refine jx_if_ne k dF_edge_5 (tgt := 10) rfl (fun _ => ?_) (fun hh => absurd hh (fun h => jb_e0.mp h g1))
  refine jx_iload_n k dF_edge_10 rfl ?_
  refine jx_if_eq k dF_edge_11 (tgt := 23) rfl (fun h1 => ?_) (fun h1 => ?_)
  · refine jx_aload_n k dF_edge_23 rfl ?_
    refine jx_get k fF_15 dF_edge_24 hF rfl ?_
    refine jx_iload_n k dF_edge_27 rfl ?_
    refine jx_ildN k dF_edge_28 hA (p := j) rfl (by omega) (by decide) ?_
    exact jx_iret k dF_edge_29 (Nat.le_refl _) (Nat.le_refl _) ⟨by rw [if_pos h1], rfl, rfl⟩
  · refine jx_aload_n k dF_edge_14 rfl ?_
    refine jx_get k fF_19 dF_edge_15 hF rfl ?_
    refine jx_iload_n k dF_edge_18 rfl ?_
    refine jx_ildN k dF_edge_19 hL (p := j) rfl (by omega) (by decide) ?_
    refine jx_goto k dF_edge_20 (tgt := 29) rfl ?_
    exact jx_iret k dF_edge_29 (Nat.le_refl _) (Nat.le_refl _) ⟨by rw [if_neg h1], rfl, rfl⟩
abbrev fz_hit (u f g : Nat → Int32) (t : Int32) (i : Nat) : Prop := u i ≠ 0 ∧ f i ≤ t ∧ t ≤ g i
abbrev fz_h (u f g : Nat → Int32) (t : Int32) : Prop := fz_hit u f g t 0 ∨ fz_hit u f g t 1 ∨ fz_hit u f g t 2
theorem fz_h_i {u f g : Nat → Int32} {t : Int32} {p : Nat} (h : p < 3) (hh : fz_hit u f g t p) : fz_h u f g t := by
  rcases (show p = 0 ∨ p = 1 ∨ p = 2 by omega) with rfl | rfl | rfl
  · exact .inl hh
  · exact .inr (.inl hh)
  · exact .inr (.inr hh)
set_option maxRecDepth 100000 in
set_option maxHeartbeats 4000000 in
theorem k_hold (l : Launch) (E : jx_E) (b : Nat) (G : jx_H) (sz : Nat) (a : Nat) (u f g : Nat → Int32) (hF : G a = fz_o a) (hU : G (a + 1) = some (ja_z E 3 u)) (hA : G (a + 2) = some (ja_i E 3 f)) (hL : G (a + 3) = some (ja_i E 3 g)) (t : Int32) : jx_ct l E b yF_hold cF_hold 3 (some .boolean) 0 0 0 [.ref a, .int t] G sz (jx_pu (.int (jb_z (fz_h u f g t))) G sz) := by
  refine jx_met (by decide) (Nat.le_of_ble_eq_true rfl) (L0 := [_, _, _]) rfl (fun X k => ?_)
  refine jx_iconst k dF_hold_0 (v := 0) (by decide) ?_
  refine jx_istore_n k dF_hold_1 (Nat.le_of_ble_eq_true rfl) rfl (L' := [_, _, _]) rfl ?_
  refine fo_d (fun p => (∀ i, i < p → ¬ fz_hit u f g t i) → jx_w X E b (jx_fin X E b (jx_pu (.int (jb_z (fz_h u f g t))) G sz) 0 0) 2 [some (.ref a), some (.int t), some (.int (nI p))] [] G sz 0 0) (lo := 0) (hi := 3) (by decide) ?_ ?_ (fun i h => absurd h (by omega))
  · intro p h1 h2 kk hp
    have nx : ¬ fz_hit u f g t p → ∀ i, i < p + 1 → ¬ fz_hit u f g t i := fun hn i hi => by
      rcases Nat.lt_or_ge i p with h | h
      · exact hp i h
      · rw [show i = p by omega]; exact hn
    refine jx_iload_n k dF_hold_2 rfl ?_
    refine jx_iconst k dF_hold_3 (v := 3) (by decide) ?_
    refine jx_icmp_ge k dF_hold_4 (tgt := 44) rfl (fun hh => absurd hh (nI_ge (b := 3) h2 (by decide))) (fun _ => ?_)
    refine jx_aload_n k dF_hold_7 rfl ?_
    refine jx_get k fF_11 dF_hold_8 hF rfl ?_
    refine jx_iload_n k dF_hold_11 rfl ?_
    refine jx_zldN k dF_hold_12 hU (p := p) rfl (by omega) (by decide) ?_
    refine jx_if_eq k dF_hold_13 (tgt := 38) rfl (fun h3 => ?_) (fun h3 => ?_)
    · refine jx_iinc k dF_hold_38 rfl (nI_1 p) rfl (L' := [_, _, _]) rfl ?_
      refine jx_goto k dF_hold_41 (tgt := 2) rfl ?_
      exact kk (nx (fun h => h.1 h3))
    · refine jx_aload_n k dF_hold_16 rfl ?_
      refine jx_get k fF_15 dF_hold_17 hF rfl ?_
      refine jx_iload_n k dF_hold_20 rfl ?_
      refine jx_ildN k dF_hold_21 hA (p := p) rfl (by omega) (by decide) ?_
      refine jx_iload_n k dF_hold_22 rfl ?_
      refine jx_icmp_gt k dF_hold_23 (tgt := 38) rfl (fun h4 => ?_) (fun h4 => ?_)
      · refine jx_iinc k dF_hold_38 rfl (nI_1 p) rfl (L' := [_, _, _]) rfl ?_
        refine jx_goto k dF_hold_41 (tgt := 2) rfl ?_
        exact kk (nx (fun h => absurd h4 (Int32.not_lt.mpr h.2.1)))
      · refine jx_iload_n k dF_hold_26 rfl ?_
        refine jx_aload_n k dF_hold_27 rfl ?_
        refine jx_get k fF_19 dF_hold_28 hF rfl ?_
        refine jx_iload_n k dF_hold_31 rfl ?_
        refine jx_ildN k dF_hold_32 hL (p := p) rfl (by omega) (by decide) ?_
        refine jx_icmp_gt k dF_hold_33 (tgt := 38) rfl (fun h5 => ?_) (fun h5 => ?_)
        · refine jx_iinc k dF_hold_38 rfl (nI_1 p) rfl (L' := [_, _, _]) rfl ?_
          refine jx_goto k dF_hold_41 (tgt := 2) rfl ?_
          exact kk (nx (fun h => absurd h5 (Int32.not_lt.mpr h.2.2)))
        · refine jx_iconst k dF_hold_36 (v := 1) (by decide) ?_
          exact jx_zret k dF_hold_37 rfl (Nat.le_refl _) (Nat.le_refl _) ⟨by rw [jb_t (fz_h_i h2 ⟨h3, Int32.not_lt.mp h4, Int32.not_lt.mp h5⟩)], rfl, rfl⟩
  · intro hp
    refine jx_iload_n k dF_hold_2 rfl ?_
    refine jx_iconst k dF_hold_3 (v := 3) (by decide) ?_
    refine jx_icmp_ge k dF_hold_4 (tgt := 44) rfl (fun _ => ?_) (fun hh => absurd (nI_le (a := 3) (b := 3) (by decide) (by decide)) hh)
    refine jx_iconst k dF_hold_44 (v := 0) (by decide) ?_
    exact jx_zret k dF_hold_45 rfl (Nat.le_refl _) (Nat.le_refl _) ⟨by rw [jb_f (fun h => h.elim (hp 0 (by omega)) (fun h => h.elim (hp 1 (by omega)) (hp 2 (by omega))))], rfl, rfl⟩
