/-- the start of the class -/
def kk_0 (x : Nat) : Nat → bd_T := fun _ => bd_0 0
def kk_D (x : Nat) : Nat → Prop := fun z => z = x + 23
def kk_P (x : Nat) : Nat → Prop := fun p => p = x + 21 ∨ p = x + 28
abbrev kp_f (x : Nat) (v1 v2 v3 v4 v5 v6 : Value) (co : Int32) (v7 : Value) (lc : Int32) (v8 : Value) : Option va_E := some (.inr (5, [v1, v2, v3, v4, v5, v6, .int co, v7, .int lc, v8]))
theorem so_Gn {E : jx_E} {a n q : Nat} {o : Option va_E} {h : Nat → Option Nat} {sp : Nat → Int32} {G : jx_H} (h1 : q < a ∨ a + 3 ≤ q) : so_G E a n o h sp G q = G q := by
  unfold so_G
  rw [va_up_ne _ _ (by omega), va_up_ne _ _ (by omega), va_up_ne _ _ (by omega)]
theorem fz_Gn {E : jx_E} {a q : Nat} {u f g : Nat → Int32} {G : jx_H} (h1 : q < a ∨ a + 4 ≤ q) : fz_G E a u f g G q = G q := by
  unfold fz_G
  rw [va_up_ne _ _ (by omega), va_up_ne _ _ (by omega), va_up_ne _ _ (by omega), va_up_ne _ _ (by omega)]
theorem so_G0 {E : jx_E} {a n : Nat} {o : Option va_E} {h : Nat → Option Nat} {sp : Nat → Int32} {G : jx_H} : so_G E a n o h sp G a = o := by
  unfold so_G
  rw [va_up_ne _ _ (by omega), va_up_ne _ _ (by omega), va_up_self]
theorem so_G1 {E : jx_E} {a n : Nat} {o : Option va_E} {h : Nat → Option Nat} {sp : Nat → Int32} {G : jx_H} : so_G E a n o h sp G (a + 1) = some (ja_q E 4 n h) := by
  unfold so_G
  rw [va_up_ne _ _ (by omega), va_up_self]
theorem so_G2 {E : jx_E} {a n : Nat} {o : Option va_E} {h : Nat → Option Nat} {sp : Nat → Int32} {G : jx_H} : so_G E a n o h sp G (a + 2) = some (ja_z E n sp) := va_up_self _ _ _
theorem fz_Ga {E : jx_E} {a : Nat} {u f g : Nat → Int32} {G : jx_H} : fz_G E a u f g G a = fz_o a ∧ fz_G E a u f g G (a + 1) = some (ja_z E 3 u) ∧ fz_G E a u f g G (a + 2) = some (ja_i E 3 f) ∧ fz_G E a u f g G (a + 3) = some (ja_i E 3 g) := by
  unfold fz_G
  refine ⟨?_, ?_, ?_, va_up_self _ _ _⟩
  · rw [va_up_ne _ _ (by omega), va_up_ne _ _ (by omega), va_up_ne _ _ (by omega), va_up_self]
  · rw [va_up_ne _ _ (by omega), va_up_ne _ _ (by omega), va_up_self]
  · rw [va_up_ne _ _ (by omega), va_up_self]
theorem jx_gen {X : jx_X} {E : jx_E} {b : Nat} {Q : State → Prop} {pc : Nat} {L : List (Option Value)} {st : List Value} {G : jx_H} {sz ce sl : Nat} (kk : ∀ H, H = G → jx_w X E b Q pc L st H sz ce sl) : jx_w X E b Q pc L st G sz ce sl := kk G rfl
theorem pc_Gi {E : jx_E} {a q : Nat} {r : Nat → Int32} {G G' : jx_H} (h1 : a ≤ q) (h2 : q < a + 2) : pc_G E a r G q = pc_G E a r G' q := by
  unfold pc_G va_up
  split
  · rfl
  · split
    · rfl
    · omega
theorem bn_Gi {E : jx_E} {a q : Nat} {o : Option va_E} {tx : Nat → Int64} {so sd he : Nat → Int32} {G G' : jx_H} (h1 : a ≤ q) (h2 : q < a + 5) : bn_G E a o tx so sd he G q = bn_G E a o tx so sd he G' q := by
  unfold bn_G va_up
  split
  · rfl
  · split
    · rfl
    · split
      · rfl
      · split
        · rfl
        · split
          · rfl
          · omega
/-- a heap that has the class's start -/
def K0 (E : jx_E) (x : Nat) (G' : jx_H) : Prop := ∀ (G2 : jx_H) (sz2 : Nat), (∀ q, x ≤ q → q < x + 30 → G2 q = G' q) → x + 52 ≤ sz2 → jx_bd G2 sz2 → Cl E x G2 sz2 (x + 16) none (x + 21) 0 (x + 23) 2 (some (x + 28)) 1 (-1) (fun _ => 0) (fun _ => 0) (fun _ => 0) (fun _ => 0) (fun _ _ => none) (fun _ _ => 0) (kk_0 x) (fun _ _ => 0) (kk_D x) (kk_P x)
theorem K0_mk {E : jx_E} {x : Nat} {G' : jx_H} (hK : G' x = kp_o x (x + 16) none (x + 21) 0 (x + 23) 2 (some (x + 28))) (hW : G' (x + 1) = pw_o 1 (-1)) (hF : G' (x + 2) = fz_o (x + 2)) (hU : G' (x + 3) = some (ja_z E 3 (fun _ => 0))) (hA : G' (x + 4) = some (ja_i E 3 (fun _ => 0))) (hL : G' (x + 5) = some (ja_i E 3 (fun _ => 0))) (hR : G' (x + 6) = some (ja_q E 3 3 (sV x)))
    (hS0 : G' (x + 7) = so_o (x + 7) 2 0 1 ∧ G' (x + 8) = some (ja_q E 4 40 (fun _ => none)) ∧ G' (x + 9) = some (ja_z E 40 (fun _ => 0))) (hS1 : G' (x + 10) = so_o (x + 10) 2 0 0 ∧ G' (x + 11) = some (ja_q E 4 20 (fun _ => none)) ∧ G' (x + 12) = some (ja_z E 20 (fun _ => 0))) (hS2 : G' (x + 13) = so_o (x + 13) 1 0 0 ∧ G' (x + 14) = some (ja_q E 4 10 (fun _ => none)) ∧ G' (x + 15) = some (ja_z E 10 (fun _ => 0)))
    (hB1 : G' (x + 16) = bn_o (x + 16) 0 0 0 .null (-1) 0 0 ∧ G' (x + 17) = some (ja_l E 4 (fun _ => 0)) ∧ G' (x + 18) = some (ja_i E 4 (fun _ => 0)) ∧ G' (x + 19) = some (ja_i E 8 (fun _ => 0)) ∧ G' (x + 20) = some (ja_z E 2 (fun _ => 0))) (hP1 : G' (x + 21) = pc_o (x + 21) ∧ G' (x + 22) = some (ja_i E 8 (fun _ => 0)))
    (hB2 : G' (x + 23) = bn_o (x + 23) 0 0 0 .null (-1) 0 0 ∧ G' (x + 24) = some (ja_l E 4 (fun _ => 0)) ∧ G' (x + 25) = some (ja_i E 4 (fun _ => 0)) ∧ G' (x + 26) = some (ja_i E 8 (fun _ => 0)) ∧ G' (x + 27) = some (ja_z E 2 (fun _ => 0))) (hP2 : G' (x + 28) = pc_o (x + 28) ∧ G' (x + 29) = some (ja_i E 8 (fun _ => 0))) : K0 E x G' := by
  intro G2 sz2 he hs hb
  have e : ∀ q c, x ≤ q → q < x + 30 → G' q = c → G2 q = c := fun q c h1 h2 h3 => (he q h1 h2).trans h3
  have cb1 : cB E G2 (kk_0 x) (x + 16) := ⟨e _ _ (by omega) (by omega) hB1.1, e _ _ (by omega) (by omega) hB1.2.1, e _ _ (by omega) (by omega) hB1.2.2.1, e _ _ (by omega) (by omega) hB1.2.2.2.1, e _ _ (by omega) (by omega) hB1.2.2.2.2, Nat.zero_le _, Nat.zero_le _, Nat.zero_le _⟩
  have cb2 : cB E G2 (kk_0 x) (x + 23) := ⟨e _ _ (by omega) (by omega) hB2.1, e _ _ (by omega) (by omega) hB2.2.1, e _ _ (by omega) (by omega) hB2.2.2.1, e _ _ (by omega) (by omega) hB2.2.2.2.1, e _ _ (by omega) (by omega) hB2.2.2.2.2, Nat.zero_le _, Nat.zero_le _, Nat.zero_le _⟩
  refine ⟨⟨e _ _ (by omega) (by omega) hK, e _ _ (by omega) (by omega) hW, .inr rfl, e _ _ (by omega) (by omega) hF, e _ _ (by omega) (by omega) hU, e _ _ (by omega) (by omega) hA, e _ _ (by omega) (by omega) hL, e _ _ (by omega) (by omega) hR, fun i hi => ?_⟩, ⟨fun i hi p hp z hz => ?_, cb1, fun z hz => ?_, fun p hp => ?_, ⟨.inl rfl, rfl, fun z hz => ?_, fun p hp => ?_, fun z hz p hp => ?_⟩, ⟨.inl ⟨by omega, by omega⟩, fun z hz => ?_, fun p hp => ?_⟩, hb, hs⟩⟩
  · rcases (show i = 0 ∨ i = 1 ∨ i = 2 by omega) with rfl | rfl | rfl
    · exact ⟨e _ _ (by unfold sA; omega) (by unfold sA; omega) hS0.1, e _ _ (by unfold sA; omega) (by unfold sA; omega) hS0.2.1, e _ _ (by unfold sA; omega) (by unfold sA; omega) hS0.2.2⟩
    · exact ⟨e _ _ (by unfold sA; omega) (by unfold sA; omega) hS1.1, e _ _ (by unfold sA; omega) (by unfold sA; omega) hS1.2.1, e _ _ (by unfold sA; omega) (by unfold sA; omega) hS1.2.2⟩
    · exact ⟨e _ _ (by unfold sA; omega) (by unfold sA; omega) hS2.1, e _ _ (by unfold sA; omega) (by unfold sA; omega) hS2.2.1, e _ _ (by unfold sA; omega) (by unfold sA; omega) hS2.2.2⟩
  · exact absurd (show (none : Option Nat) = some z from hz) (fun h => by cases h)
  · have e2 : z = x + 23 := hz
    rw [e2]
    exact cb2
  · have e2 : p = x + 21 ∨ p = x + 28 := hp
    rcases e2 with rfl | rfl
    · exact ⟨e _ _ (by omega) (by omega) hP1.1, e _ _ (by omega) (by omega) hP1.2⟩
    · exact ⟨e _ _ (by omega) (by omega) hP2.1, e _ _ (by omega) (by omega) hP2.2⟩
  · exact absurd hz (fun h => by cases h)
  · rw [← Option.some.inj hp]
    exact ⟨.inr rfl, by omega⟩
  · exact absurd (show (none : Option Nat) = some p from hp) (fun h => by cases h)
  · have e2 : z = x + 23 := hz
    rw [e2]
    exact ⟨.inl ⟨by omega, by omega⟩, .inr (by omega), .inr (by omega)⟩
  · have e2 : p = x + 21 ∨ p = x + 28 := hp
    rcases e2 with rfl | rfl
    · exact ⟨.inl ⟨by omega, by omega⟩, .inr (by omega), .inl rfl⟩
    · exact ⟨.inl ⟨by omega, by omega⟩, .inr (by omega), .inr (.inr (by omega))⟩
set_option maxRecDepth 100000 in
set_option maxHeartbeats 16000000 in
theorem k_Kinit (l : Launch) (E : jx_E) (b : Nat) (G : jx_H) (x : Nat) : jx_ct l E b yK_init cK_init 1 none 2 29 248 [.ref x] (va_up G x (some (.inr (5, [.null, .null, .null, .null, .null, .null, .int 0, .null, .int 0, .null])))) (x + 1) (fun v G' sz' => v = none ∧ sz' = x + 30 ∧ K0 E x G' ∧ (∀ q, q < x ∨ x + 30 ≤ q → G' q = G q)) := by
  refine jx_met (by decide) (Nat.le_of_ble_eq_true rfl) (L0 := [_]) rfl (fun X k => ?_)
  refine jx_aload_n k dK_init_0 rfl ?_
  refine jx_obj k jn_53 jn_54 jn_55 dK_init_1 rfl (Nat.le_of_ble_eq_true rfl) (Nat.le_of_ble_eq_true rfl) ?_
  refine jx_aload_n k dK_init_4 rfl ?_
  refine jx_new k nK_7 dK_init_5 (Nat.le_of_ble_eq_true rfl) (Nat.le_of_ble_eq_true rfl) ?_
  refine jx_dup k dK_init_8 rfl ?_
  refine jx_callI0 k mK_9 (k_Winit _ _ _ _ _ (x + 1) (va_up_self _ _ _)) dK_init_9 rfl rfl rfl (Nat.le_of_ble_eq_true rfl) ⟨Nat.le_of_ble_eq_true rfl, Nat.le_of_ble_eq_true rfl⟩ ⟨Nat.le_of_ble_eq_true rfl, Nat.le_of_ble_eq_true rfl⟩ ?_
  rw [va_uu]
  refine jx_putF k rfl ffK_10 dK_init_12 ((va_up_ne _ _ (by omega)).trans (va_up_self _ _ _)) rfl rfl (Nat.le_of_ble_eq_true rfl) (fs' := [_, _, _, _, _, _, _, _, _, _]) rfl ?_
  refine jx_aload_n k dK_init_15 rfl ?_
  refine jx_new k nK_16 dK_init_16 (Nat.le_of_ble_eq_true rfl) (Nat.le_of_ble_eq_true rfl) ?_
  refine jx_dup k dK_init_19 rfl ?_
  refine jx_callI0 k mK_18 (k_Finit _ _ _ _ (x + 2)) dK_init_20 rfl rfl rfl (Nat.le_of_ble_eq_true rfl) ⟨Nat.le_of_ble_eq_true rfl, Nat.le_of_ble_eq_true rfl⟩ ⟨Nat.le_of_ble_eq_true rfl, Nat.le_of_ble_eq_true rfl⟩ ?_
  refine jx_putF k rfl ffK_19 dK_init_23 ((fz_Gn (.inl (by omega))).trans (va_up_self _ _ _)) rfl rfl (Nat.le_of_ble_eq_true rfl) (fs' := [_, _, _, _, _, _, _, _, _, _]) rfl ?_
  refine jx_aload_n k dK_init_26 rfl ?_
  refine jx_iconst k dK_init_27 (v := 3) (by decide) ?_
  refine jx_newq k (t := 3) (N := 3) jn_87 jn_88 rfl dK_init_28 (by decide) (by decide) (by decide) (Nat.le_of_ble_eq_true rfl) (Nat.le_of_ble_eq_true rfl) ?_
  refine jx_dup k dK_init_31 rfl ?_
  refine jx_iconst k dK_init_32 (v := 0) (by decide) ?_
  refine jx_new k nK_23 dK_init_33 (Nat.le_of_ble_eq_true rfl) (Nat.le_of_ble_eq_true rfl) ?_
  refine jx_dup k dK_init_36 rfl ?_
  refine jx_bipush k dK_init_37 (v := 40) (by decide) ?_
  refine jx_iconst k dK_init_39 (v := 2) (by decide) ?_
  refine jx_iconst k dK_init_40 (v := 1) (by decide) ?_
  refine jx_callI0 k mK_25 (k_Sinit _ _ _ _ (x + 7) 40 (by decide) 2 1 (.inr rfl)) dK_init_41 rfl rfl rfl (Nat.le_of_ble_eq_true rfl) ⟨Nat.le_of_ble_eq_true rfl, Nat.le_of_ble_eq_true rfl⟩ ⟨Nat.le_of_ble_eq_true rfl, Nat.le_of_ble_eq_true rfl⟩ ?_
  refine jx_astS k dK_init_44 ((so_Gn (.inl (by omega))).trans (va_up_self _ _ _)) (t := 3) rfl rfl so_G0 (p := 0) rfl (by decide) (by decide) ?_
  refine jx_dup k dK_init_45 rfl ?_
  refine jx_iconst k dK_init_46 (v := 1) (by decide) ?_
  refine jx_new k nK_23 dK_init_47 (Nat.le_of_ble_eq_true rfl) (Nat.le_of_ble_eq_true rfl) ?_
  refine jx_dup k dK_init_50 rfl ?_
  refine jx_bipush k dK_init_51 (v := 20) (by decide) ?_
  refine jx_iconst k dK_init_53 (v := 2) (by decide) ?_
  refine jx_iconst k dK_init_54 (v := 0) (by decide) ?_
  refine jx_callI0 k mK_25 (k_Sinit _ _ _ _ (x + 10) 20 (by decide) 2 0 (.inl rfl)) dK_init_55 rfl rfl rfl (Nat.le_of_ble_eq_true rfl) ⟨Nat.le_of_ble_eq_true rfl, Nat.le_of_ble_eq_true rfl⟩ ⟨Nat.le_of_ble_eq_true rfl, Nat.le_of_ble_eq_true rfl⟩ ?_
  refine jx_astS k dK_init_58 ((so_Gn (.inl (by omega))).trans (va_up_self _ _ _)) (t := 3) rfl rfl so_G0 (p := 1) rfl (by decide) (by decide) ?_
  refine jx_dup k dK_init_59 rfl ?_
  refine jx_iconst k dK_init_60 (v := 2) (by decide) ?_
  refine jx_new k nK_23 dK_init_61 (Nat.le_of_ble_eq_true rfl) (Nat.le_of_ble_eq_true rfl) ?_
  refine jx_dup k dK_init_64 rfl ?_
  refine jx_bipush k dK_init_65 (v := 10) (by decide) ?_
  refine jx_iconst k dK_init_67 (v := 1) (by decide) ?_
  refine jx_iconst k dK_init_68 (v := 0) (by decide) ?_
  refine jx_callI0 k mK_25 (k_Sinit _ _ _ _ (x + 13) 10 (by decide) 1 0 (.inl rfl)) dK_init_69 rfl rfl rfl (Nat.le_of_ble_eq_true rfl) ⟨Nat.le_of_ble_eq_true rfl, Nat.le_of_ble_eq_true rfl⟩ ⟨Nat.le_of_ble_eq_true rfl, Nat.le_of_ble_eq_true rfl⟩ ?_
  refine jx_astS k dK_init_72 ((so_Gn (.inl (by omega))).trans (va_up_self _ _ _)) (t := 3) rfl rfl so_G0 (p := 2) rfl (by decide) (by decide) ?_
  refine jx_gen (fun H hH => ?_)
  have h0 : H x = some (.inr (5, [.ref (x + 1), .ref (x + 2), .null, .null, .null, .null, .int 0, .null, .int 0, .null])) := by
    rw [hH, va_up_ne _ _ (by omega), so_Gn (by omega), va_up_ne _ _ (by omega), so_Gn (by omega), va_up_ne _ _ (by omega), so_Gn (by omega), va_up_ne _ _ (by omega), va_up_self]
  have h1 : H (x + 1) = pw_o 1 (-1) ∧ H (x + 2) = fz_o (x + 2) ∧ H (x + 3) = some (ja_z E 3 (fun _ => 0)) ∧ H (x + 4) = some (ja_i E 3 (fun _ => 0)) ∧ H (x + 5) = some (ja_i E 3 (fun _ => 0)) := by
    rw [hH]
    refine ⟨?_, ?_, ?_, ?_, ?_⟩ <;> simp [va_up, fz_G, so_G]
  have h2 : H (x + 6) = some (ja_q E 3 3 (sV x)) := by
    rw [hH]
    simp [va_up, fz_G, so_G]
    rfl
  have h3 : H (x + 7) = so_o (x + 7) 2 0 1 ∧ H (x + 8) = some (ja_q E 4 40 (fun _ => none)) ∧ H (x + 9) = some (ja_z E 40 (fun _ => 0)) := by
    rw [hH]
    refine ⟨?_, ?_, ?_⟩ <;> simp [va_up, fz_G, so_G]
  have h4 : H (x + 10) = so_o (x + 10) 2 0 0 ∧ H (x + 11) = some (ja_q E 4 20 (fun _ => none)) ∧ H (x + 12) = some (ja_z E 20 (fun _ => 0)) := by
    rw [hH]
    refine ⟨?_, ?_, ?_⟩ <;> simp [va_up, fz_G, so_G]
  have h5 : H (x + 13) = so_o (x + 13) 1 0 0 ∧ H (x + 14) = some (ja_q E 4 10 (fun _ => none)) ∧ H (x + 15) = some (ja_z E 10 (fun _ => 0)) := by
    rw [hH]
    refine ⟨?_, ?_, ?_⟩ <;> simp [va_up, fz_G, so_G]
  have h6 : ∀ q, (q < x ∨ x + 16 ≤ q) → H q = G q := fun q hq => by
    rw [hH]
    rw [va_up_ne _ _ (by omega), so_Gn (by omega), va_up_ne _ _ (by omega), so_Gn (by omega), va_up_ne _ _ (by omega), so_Gn (by omega), va_up_ne _ _ (by omega), va_up_ne _ _ (by omega), fz_Gn (by omega), va_up_ne _ _ (by omega), va_up_ne _ _ (by omega), va_up_ne _ _ (by omega)]
  clear hH
  refine jx_putF k rfl ffK_28 dK_init_73 h0 rfl rfl (Nat.le_of_ble_eq_true rfl) (fs' := [_, _, _, _, _, _, _, _, _, _]) rfl ?_
  refine jx_aload_n k dK_init_76 rfl ?_
  refine jx_new k nK_32 dK_init_77 (Nat.le_of_ble_eq_true rfl) (Nat.le_of_ble_eq_true rfl) ?_
  refine jx_dup k dK_init_80 rfl ?_
  refine jx_iconst k dK_init_81 (v := 0) (by decide) ?_
  refine jx_callI0 k mK_34 (k_Binit _ _ _ _ (x + 16) 0) dK_init_82 rfl rfl rfl (Nat.le_of_ble_eq_true rfl) ⟨Nat.le_of_ble_eq_true rfl, Nat.le_of_ble_eq_true rfl⟩ ⟨Nat.le_of_ble_eq_true rfl, Nat.le_of_ble_eq_true rfl⟩ ?_
  refine jx_put k fK_37 dK_init_85 ((bn_Gn (.inl (by omega))).trans (va_up_self _ _ _)) rfl rfl (Nat.le_of_ble_eq_true rfl) (fs' := [_, _, _, _, _, _, _, _, _, _]) rfl ?_
  refine jx_aload_n k dK_init_88 rfl ?_
  refine jx_null k dK_init_89 ?_
  refine jx_put k fK_41 dK_init_90 (va_up_self _ _ _) rfl rfl (Nat.le_of_ble_eq_true rfl) (fs' := [_, _, _, _, _, _, _, _, _, _]) rfl ?_
  refine jx_aload_n k dK_init_93 rfl ?_
  refine jx_new k nK_44 dK_init_94 (Nat.le_of_ble_eq_true rfl) (Nat.le_of_ble_eq_true rfl) ?_
  refine jx_dup k dK_init_97 rfl ?_
  refine jx_callI0 k mK_46 (k_Pinit _ _ _ _ (x + 21)) dK_init_98 rfl rfl rfl (Nat.le_of_ble_eq_true rfl) ⟨Nat.le_of_ble_eq_true rfl, Nat.le_of_ble_eq_true rfl⟩ ⟨Nat.le_of_ble_eq_true rfl, Nat.le_of_ble_eq_true rfl⟩ ?_
  refine jx_put k fK_47 dK_init_101 ((pc_n (by omega) (by omega)).trans (va_up_self _ _ _)) rfl rfl (Nat.le_of_ble_eq_true rfl) (fs' := [_, _, _, _, _, _, _, _, _, _]) rfl ?_
  refine jx_aload_n k dK_init_104 rfl ?_
  refine jx_iconst k dK_init_105 (v := 0) (by decide) ?_
  refine jx_put k fK_51 dK_init_106 (va_up_self _ _ _) rfl rfl (Nat.le_of_ble_eq_true rfl) (fs' := [_, _, _, _, _, _, _, _, _, _]) rfl ?_
  refine jx_aload_n k dK_init_109 rfl ?_
  refine jx_new k nK_32 dK_init_110 (Nat.le_of_ble_eq_true rfl) (Nat.le_of_ble_eq_true rfl) ?_
  refine jx_dup k dK_init_113 rfl ?_
  refine jx_iconst k dK_init_114 (v := 0) (by decide) ?_
  refine jx_callI0 k mK_34 (k_Binit _ _ _ _ (x + 23) 0) dK_init_115 rfl rfl rfl (Nat.le_of_ble_eq_true rfl) ⟨Nat.le_of_ble_eq_true rfl, Nat.le_of_ble_eq_true rfl⟩ ⟨Nat.le_of_ble_eq_true rfl, Nat.le_of_ble_eq_true rfl⟩ ?_
  refine jx_put k fK_55 dK_init_118 ((bn_Gn (.inl (by omega))).trans (va_up_self _ _ _)) rfl rfl (Nat.le_of_ble_eq_true rfl) (fs' := [_, _, _, _, _, _, _, _, _, _]) rfl ?_
  refine jx_aload_n k dK_init_121 rfl ?_
  refine jx_iconst k dK_init_122 (v := 2) (by decide) ?_
  refine jx_put k fK_58 dK_init_123 (va_up_self _ _ _) rfl rfl (Nat.le_of_ble_eq_true rfl) (fs' := [_, _, _, _, _, _, _, _, _, _]) rfl ?_
  refine jx_aload_n k dK_init_126 rfl ?_
  refine jx_new k nK_44 dK_init_127 (Nat.le_of_ble_eq_true rfl) (Nat.le_of_ble_eq_true rfl) ?_
  refine jx_dup k dK_init_130 rfl ?_
  refine jx_callI0 k mK_46 (k_Pinit _ _ _ _ (x + 28)) dK_init_131 rfl rfl rfl (Nat.le_of_ble_eq_true rfl) ⟨Nat.le_of_ble_eq_true rfl, Nat.le_of_ble_eq_true rfl⟩ ⟨Nat.le_of_ble_eq_true rfl, Nat.le_of_ble_eq_true rfl⟩ ?_
  refine jx_put k fK_61 dK_init_134 ((pc_n (by omega) (by omega)).trans (va_up_self _ _ _)) rfl rfl (Nat.le_of_ble_eq_true rfl) (fs' := [_, _, _, _, _, _, _, _, _, _]) rfl ?_
  refine jx_gen (fun H2 hH2 => ?_)
  have g0 : ∀ q, q ≠ x → q < x + 16 → H2 q = H q := fun q a c => by
    rw [hH2, va_up_ne _ _ a, pc_n (by omega) (by omega), va_up_ne _ _ a, va_up_ne _ _ a, bn_Gn (by omega), va_up_ne _ _ a, va_up_ne _ _ a, pc_n (by omega) (by omega), va_up_ne _ _ a, va_up_ne _ _ a, bn_Gn (by omega), va_up_ne _ _ a]
  have g1 : ∀ q, (q < x ∨ x + 30 ≤ q) → H2 q = G q := fun q a => by
    have c : q ≠ x := by omega
    rw [hH2, va_up_ne _ _ c, pc_n (by omega) (by omega), va_up_ne _ _ c, va_up_ne _ _ c, bn_Gn (by omega), va_up_ne _ _ c, va_up_ne _ _ c, pc_n (by omega) (by omega), va_up_ne _ _ c, va_up_ne _ _ c, bn_Gn (by omega), va_up_ne _ _ c]
    exact h6 q (by omega)
  have b1 : ∀ q, x + 16 ≤ q → q < x + 21 → H2 q = bn_G E (x + 16) (bn_o (x + 16) 0 0 0 .null (-1) 0 0) (fun _ => 0) (fun _ => 0) (fun _ => 0) (fun _ => 0) (fun _ => none) q := fun q a a2 => by
    have c : q ≠ x := by omega
    rw [hH2, va_up_ne _ _ c, pc_n (by omega) (by omega), va_up_ne _ _ c, va_up_ne _ _ c, bn_Gn (by omega), va_up_ne _ _ c, va_up_ne _ _ c, pc_n (by omega) (by omega), va_up_ne _ _ c, va_up_ne _ _ c]
    exact bn_Gi (by omega) (by omega)
  have p1 : ∀ q, x + 21 ≤ q → q < x + 23 → H2 q = pc_G E (x + 21) (fun _ => 0) (fun _ => none) q := fun q a a2 => by
    have c : q ≠ x := by omega
    rw [hH2, va_up_ne _ _ c, pc_n (by omega) (by omega), va_up_ne _ _ c, va_up_ne _ _ c, bn_Gn (by omega), va_up_ne _ _ c, va_up_ne _ _ c]
    exact pc_Gi (by omega) (by omega)
  have b2 : ∀ q, x + 23 ≤ q → q < x + 28 → H2 q = bn_G E (x + 23) (bn_o (x + 23) 0 0 0 .null (-1) 0 0) (fun _ => 0) (fun _ => 0) (fun _ => 0) (fun _ => 0) (fun _ => none) q := fun q a a2 => by
    have c : q ≠ x := by omega
    rw [hH2, va_up_ne _ _ c, pc_n (by omega) (by omega), va_up_ne _ _ c, va_up_ne _ _ c]
    exact bn_Gi (by omega) (by omega)
  have p2 : ∀ q, x + 28 ≤ q → q < x + 30 → H2 q = pc_G E (x + 28) (fun _ => 0) (fun _ => none) q := fun q a a2 => by
    have c : q ≠ x := by omega
    rw [hH2, va_up_ne _ _ c]
    exact pc_Gi (by omega) (by omega)
  have gx : H2 x = kp_o x (x + 16) none (x + 21) 0 (x + 23) 2 (some (x + 28)) := by
    rw [hH2, va_up_self]
    rfl
  have bc : ∀ a, (bn_G E a (bn_o a 0 0 0 .null (-1) 0 0) (fun _ => 0) (fun _ => 0) (fun _ => 0) (fun _ => 0) (fun _ => none)) a = bn_o a 0 0 0 .null (-1) 0 0 ∧ bn_N E a 0 (fun _ => none) (a + 1) = some (ja_l E 4 (fun _ => 0)) ∧ bn_N E a 0 (fun _ => none) (a + 2) = some (ja_i E 4 (fun _ => 0)) ∧ bn_N E a 0 (fun _ => none) (a + 3) = some (ja_i E 8 (fun _ => 0)) ∧ bn_N E a 0 (fun _ => none) (a + 4) = some (ja_z E 2 (fun _ => 0)) := fun a => by
    have h := bn_N_c (E := E) (a := a) (t := 0) (G := fun _ => none) (β := fun _ => bd_0 0)
    unfold cB d_tm d_cs d_ba d_tx d_so d_sd d_he d_po d_sn d_pb d_sb at h
    rw [show va_up (fun _ => bd_0 0) a (bd_0 0) a = bd_0 0 from va_up_self _ _ _] at h
    exact ⟨h.1, h.2.1, h.2.2.1, h.2.2.2.1, h.2.2.2.2.1⟩
  clear hH2
  refine jx_vret k dK_init_137 (Nat.le_refl _) (Nat.le_refl _) ⟨rfl, rfl, K0_mk gx ((g0 _ (by omega) (by omega)).trans h1.1) ((g0 _ (by omega) (by omega)).trans h1.2.1) ((g0 _ (by omega) (by omega)).trans h1.2.2.1) ((g0 _ (by omega) (by omega)).trans h1.2.2.2.1) ((g0 _ (by omega) (by omega)).trans h1.2.2.2.2) ((g0 _ (by omega) (by omega)).trans h2) ⟨(g0 _ (by omega) (by omega)).trans h3.1, (g0 _ (by omega) (by omega)).trans h3.2.1, (g0 _ (by omega) (by omega)).trans h3.2.2⟩ ⟨(g0 _ (by omega) (by omega)).trans h4.1, (g0 _ (by omega) (by omega)).trans h4.2.1, (g0 _ (by omega) (by omega)).trans h4.2.2⟩ ⟨(g0 _ (by omega) (by omega)).trans h5.1, (g0 _ (by omega) (by omega)).trans h5.2.1, (g0 _ (by omega) (by omega)).trans h5.2.2⟩ ⟨(b1 _ (by omega) (by omega)).trans (bc (x + 16)).1, (b1 _ (by omega) (by omega)).trans (bc (x + 16)).2.1, (b1 _ (by omega) (by omega)).trans (bc (x + 16)).2.2.1, (b1 _ (by omega) (by omega)).trans (bc (x + 16)).2.2.2.1, (b1 _ (by omega) (by omega)).trans (bc (x + 16)).2.2.2.2⟩ ⟨(p1 _ (by omega) (by omega)).trans pc_0, (p1 _ (by omega) (by omega)).trans pc_1⟩ ⟨(b2 _ (by omega) (by omega)).trans (bc (x + 23)).1, (b2 _ (by omega) (by omega)).trans (bc (x + 23)).2.1, (b2 _ (by omega) (by omega)).trans (bc (x + 23)).2.2.1, (b2 _ (by omega) (by omega)).trans (bc (x + 23)).2.2.2.1, (b2 _ (by omega) (by omega)).trans (bc (x + 23)).2.2.2.2⟩ ⟨(p2 _ (by omega) (by omega)).trans pc_0, (p2 _ (by omega) (by omega)).trans pc_1⟩, g1⟩
