theorem dJ_max_0 : decode cJ_max 0 = .ok (.iload_n 0, 1) := by decide +kernel
theorem dJ_max_1 : decode cJ_max 1 = .ok (.iload_n 1, 1) := by decide +kernel
theorem dJ_max_2 : decode cJ_max 2 = .ok (.if_icmp .lt 7, 3) := by decide +kernel
theorem dJ_max_5 : decode cJ_max 5 = .ok (.iload_n 0, 1) := by decide +kernel
theorem dJ_max_6 : decode cJ_max 6 = .ok (.goto 4, 3) := by decide +kernel
theorem dJ_max_9 : decode cJ_max 9 = .ok (.iload_n 1, 1) := by decide +kernel
theorem dJ_max_10 : decode cJ_max 10 = .ok (.ireturn, 1) := by decide +kernel
theorem dJ_min_0 : decode cJ_min 0 = .ok (.iload_n 0, 1) := by decide +kernel
theorem dJ_min_1 : decode cJ_min 1 = .ok (.iload_n 1, 1) := by decide +kernel
theorem dJ_min_2 : decode cJ_min 2 = .ok (.if_icmp .gt 7, 3) := by decide +kernel
theorem dJ_min_5 : decode cJ_min 5 = .ok (.iload_n 0, 1) := by decide +kernel
theorem dJ_min_6 : decode cJ_min 6 = .ok (.goto 4, 3) := by decide +kernel
theorem dJ_min_9 : decode cJ_min 9 = .ok (.iload_n 1, 1) := by decide +kernel
theorem dJ_min_10 : decode cJ_min 10 = .ok (.ireturn, 1) := by decide +kernel
theorem dJ_floorMod_0 : decode cJ_floorMod 0 = .ok (.iload_n 0, 1) := by decide +kernel
theorem dJ_floorMod_1 : decode cJ_floorMod 1 = .ok (.iload_n 1, 1) := by decide +kernel
theorem dJ_floorMod_2 : decode cJ_floorMod 2 = .ok (.irem, 1) := by decide +kernel
theorem dJ_floorMod_3 : decode cJ_floorMod 3 = .ok (.istore_n 2, 1) := by decide +kernel
theorem dJ_floorMod_4 : decode cJ_floorMod 4 = .ok (.iload_n 0, 1) := by decide +kernel
theorem dJ_floorMod_5 : decode cJ_floorMod 5 = .ok (.iload_n 1, 1) := by decide +kernel
theorem dJ_floorMod_6 : decode cJ_floorMod 6 = .ok (.ixor, 1) := by decide +kernel
theorem dJ_floorMod_7 : decode cJ_floorMod 7 = .ok (.ifCond .ge 11, 3) := by decide +kernel
theorem dJ_floorMod_10 : decode cJ_floorMod 10 = .ok (.iload_n 2, 1) := by decide +kernel
theorem dJ_floorMod_11 : decode cJ_floorMod 11 = .ok (.ifCond .eq 7, 3) := by decide +kernel
theorem dJ_floorMod_18 : decode cJ_floorMod 18 = .ok (.iload_n 2, 1) := by decide +kernel
theorem dJ_floorMod_19 : decode cJ_floorMod 19 = .ok (.ireturn, 1) := by decide +kernel
set_option maxRecDepth 100000 in
theorem k_max (l : Launch) (E : jx_E) (b : Nat) (G : jx_H) (sz : Nat) (x y : Int32) : jx_ct l E b yJ_max cJ_max 2 (some .int) 0 0 0 [.int x, .int y] G sz (jx_pu (.int (if x < y then y else x)) G sz) := by
  refine jx_metF (by decide +kernel) (Nat.le_of_ble_eq_true rfl) (L0 := [_, _]) rfl (fun X k => ?_)
  refine jx_iload_n k dJ_max_0 rfl ?_
  refine jx_iload_n k dJ_max_1 rfl ?_
  refine jx_icmp_lt k dJ_max_2 (tgt := 9) rfl (fun h1 => ?_) (fun h1 => ?_)
  · refine jx_iload_n k dJ_max_9 rfl ?_
    exact jx_iret k dJ_max_10 (Nat.le_refl _) (Nat.le_refl _) ⟨by rw [if_pos h1], rfl, rfl⟩
  · refine jx_iload_n k dJ_max_5 rfl ?_
    refine jx_goto k dJ_max_6 (tgt := 10) rfl ?_
    exact jx_iret k dJ_max_10 (Nat.le_refl _) (Nat.le_refl _) ⟨by rw [if_neg h1], rfl, rfl⟩
set_option maxRecDepth 100000 in
theorem k_min (l : Launch) (E : jx_E) (b : Nat) (G : jx_H) (sz : Nat) (x y : Int32) : jx_ct l E b yJ_min cJ_min 2 (some .int) 0 0 0 [.int x, .int y] G sz (jx_pu (.int (if y < x then y else x)) G sz) := by
  refine jx_metF (by decide +kernel) (Nat.le_of_ble_eq_true rfl) (L0 := [_, _]) rfl (fun X k => ?_)
  refine jx_iload_n k dJ_min_0 rfl ?_
  refine jx_iload_n k dJ_min_1 rfl ?_
  refine jx_icmp_gt k dJ_min_2 (tgt := 9) rfl (fun h1 => ?_) (fun h1 => ?_)
  · refine jx_iload_n k dJ_min_9 rfl ?_
    exact jx_iret k dJ_min_10 (Nat.le_refl _) (Nat.le_refl _) ⟨by rw [if_pos h1], rfl, rfl⟩
  · refine jx_iload_n k dJ_min_5 rfl ?_
    refine jx_goto k dJ_min_6 (tgt := 10) rfl ?_
    exact jx_iret k dJ_min_10 (Nat.le_refl _) (Nat.le_refl _) ⟨by rw [if_neg h1], rfl, rfl⟩
theorem xor_nn (n : Nat) (h : n < 10000) : 0 ≤ nI n ^^^ 10 := by
  obtain ⟨m, hm⟩ : ∃ m : Fin 10000, m.val = n := ⟨⟨n, h⟩, rfl⟩
  have e : nI n ^^^ 10 = nI (n ^^^ 10) := by
    apply Int32.toBitVec_inj.1
    show BitVec.ofNat 32 n ^^^ BitVec.ofNat 32 10 = BitVec.ofNat 32 (n ^^^ 10)
    apply BitVec.eq_of_getLsbD_eq
    intro i hi
    simp [hi]
  rw [e]
  have h1 : n ^^^ 10 < 2 ^ 14 := Nat.xor_lt_two_pow (by omega) (by decide)
  exact nI_pos' (by omega)
set_option maxRecDepth 100000 in
theorem k_floorMod (l : Launch) (E : jx_E) (b : Nat) (G : jx_H) (sz : Nat) (n : Nat) (hn : n < 10000) : jx_ct l E b yJ_floorMod cJ_floorMod 3 (some .int) 0 0 0 [.int (nI n), .int 10] G sz (jx_pu (.int (nI (n % 10))) G sz) := by
  refine jx_metF (by decide +kernel) (Nat.le_of_ble_eq_true rfl) (L0 := [_, _, _]) rfl (fun X k => ?_)
  refine jx_iload_n k dJ_floorMod_0 rfl ?_
  refine jx_iload_n k dJ_floorMod_1 rfl ?_
  refine jx_irem k dJ_floorMod_2 (by decide) ?_
  rw [show nI n - nI n / 10 * 10 = nI (n % 10) from pk_rem (d := 10) (by omega) (by decide) (by decide)]
  refine jx_istore_n k dJ_floorMod_3 (Nat.le_of_ble_eq_true rfl) rfl (L' := [_, _, _]) rfl ?_
  refine jx_iload_n k dJ_floorMod_4 rfl ?_
  refine jx_iload_n k dJ_floorMod_5 rfl ?_
  refine jx_ixor k dJ_floorMod_6 ?_
  refine jx_if_ge k dJ_floorMod_7 (tgt := 18) rfl (fun _ => ?_) (fun hh => absurd (xor_nn n hn) hh)
  refine jx_iload_n k dJ_floorMod_18 rfl ?_
  exact jx_iret k dJ_floorMod_19 (Nat.le_refl _) (Nat.le_refl _) ⟨rfl, rfl, rfl⟩
set_option maxRecDepth 100000 in
theorem k_isBelow (l : Launch) (E : jx_E) (b : Nat) (G : jx_H) (sz : Nat) (v e : Int32) : jx_ct l E b yK_isBelow cK_isBelow 2 (some .boolean) 0 0 0 [.int v, .int e] G sz (jx_pu (.int (jb_z (0 ≤ v ∧ v < e))) G sz) := by
  refine jx_met (by decide) (Nat.le_of_ble_eq_true rfl) (L0 := [_, _]) rfl (fun X k => ?_)
  refine jx_iload_n k dK_isBelow_0 rfl ?_
  refine jx_if_lt k dK_isBelow_1 (tgt := 13) rfl (fun h1 => ?_) (fun h1 => ?_)
  · refine jx_iconst k dK_isBelow_13 (v := 0) (by decide) ?_
    exact jx_zret k dK_isBelow_14 rfl (Nat.le_refl _) (Nat.le_refl _) ⟨by rw [jb_f (fun h => absurd h1 (Int32.not_lt.mpr h.1))], rfl, rfl⟩
  · refine jx_iload_n k dK_isBelow_4 rfl ?_
    refine jx_iload_n k dK_isBelow_5 rfl ?_
    refine jx_icmp_ge k dK_isBelow_6 (tgt := 13) rfl (fun h2 => ?_) (fun h2 => ?_)
    · refine jx_iconst k dK_isBelow_13 (v := 0) (by decide) ?_
      exact jx_zret k dK_isBelow_14 rfl (Nat.le_refl _) (Nat.le_refl _) ⟨by rw [jb_f (fun h => absurd h.2 (Int32.not_lt.mpr h2))], rfl, rfl⟩
    · refine jx_iconst k dK_isBelow_9 (v := 1) (by decide) ?_
      refine jx_goto k dK_isBelow_10 (tgt := 14) rfl ?_
      exact jx_zret k dK_isBelow_14 rfl (Nat.le_refl _) (Nat.le_refl _) ⟨by rw [jb_t ⟨Int32.not_lt.mp h1, Int32.not_le.mp h2⟩], rfl, rfl⟩
set_option maxRecDepth 100000 in
theorem k_isSoundByte (l : Launch) (E : jx_E) (b : Nat) (G : jx_H) (sz : Nat) (c q : Int32) : jx_ct l E b yK_isSoundByte cK_isSoundByte 2 (some .boolean) 1 0 0 [.int c, .int q] G sz (jx_pu (.int (jb_z ((0 ≤ c ∧ c < 2) ∧ (0 ≤ q ∧ q < 4)))) G sz) := by
  refine jx_met (by decide) (Nat.le_of_ble_eq_true rfl) (L0 := [_, _]) rfl (fun X k => ?_)
  refine jx_iload_n k dK_isSoundByte_0 rfl ?_
  refine jx_iconst k dK_isSoundByte_1 (v := 2) (by decide) ?_
  refine jx_callSP k mK_67 (k_isBelow _ _ _ _ _ c 2) dK_isSoundByte_2 rfl rfl rfl (Nat.le_of_ble_eq_true rfl) ⟨Nat.le_of_ble_eq_true rfl, Nat.le_of_ble_eq_true rfl⟩ ⟨Nat.le_of_ble_eq_true rfl, Nat.le_of_ble_eq_true rfl⟩ ?_
  refine jx_if_eq k dK_isSoundByte_5 (tgt := 20) rfl (fun h1 => ?_) (fun h1 => ?_)
  · refine jx_iconst k dK_isSoundByte_20 (v := 0) (by decide) ?_
    exact jx_zret k dK_isSoundByte_21 rfl (Nat.le_refl _) (Nat.le_refl _) ⟨by rw [jb_f (fun h => jb_e0.mp h1 h.1)], rfl, rfl⟩
  · refine jx_iload_n k dK_isSoundByte_8 rfl ?_
    refine jx_iconst k dK_isSoundByte_9 (v := 4) (by decide) ?_
    refine jx_callSP k mK_67 (k_isBelow _ _ _ _ _ q 4) dK_isSoundByte_10 rfl rfl rfl (Nat.le_of_ble_eq_true rfl) ⟨Nat.le_of_ble_eq_true rfl, Nat.le_of_ble_eq_true rfl⟩ ⟨Nat.le_of_ble_eq_true rfl, Nat.le_of_ble_eq_true rfl⟩ ?_
    refine jx_if_eq k dK_isSoundByte_13 (tgt := 20) rfl (fun h2 => ?_) (fun h2 => ?_)
    · refine jx_iconst k dK_isSoundByte_20 (v := 0) (by decide) ?_
      exact jx_zret k dK_isSoundByte_21 rfl (Nat.le_refl _) (Nat.le_refl _) ⟨by rw [jb_f (fun h => jb_e0.mp h2 h.2)], rfl, rfl⟩
    · refine jx_iconst k dK_isSoundByte_16 (v := 1) (by decide) ?_
      refine jx_goto k dK_isSoundByte_17 (tgt := 21) rfl ?_
      exact jx_zret k dK_isSoundByte_21 rfl (Nat.le_refl _) (Nat.le_refl _) ⟨by rw [jb_t ⟨Decidable.byContradiction (fun h => h1 (jb_f h)), Decidable.byContradiction (fun h => h2 (jb_f h))⟩], rfl, rfl⟩
/-- Power -/
abbrev pw_o (on cut : Int32) : Option va_E := some (.inr (3, [.int on, .int cut]))
set_option maxRecDepth 100000 in
theorem k_Winit (l : Launch) (E : jx_E) (b : Nat) (G : jx_H) (sz : Nat) (a : Nat) (hW : G a = pw_o 0 0) : jx_ct l E b yW_init cW_init 1 none 1 0 0 [.ref a] G sz (fun v G' sz' => v = none ∧ G' = va_up G a (pw_o 1 (-1)) ∧ sz' = sz) := by
  refine jx_met (by decide) (Nat.le_of_ble_eq_true rfl) (L0 := [_]) rfl (fun X k => ?_)
  refine jx_aload_n k dW_init_0 rfl ?_
  refine jx_obj k jn_61 jn_54 jn_55 dW_init_1 rfl (Nat.le_of_ble_eq_true rfl) (Nat.le_of_ble_eq_true rfl) ?_
  refine jx_aload_n k dW_init_4 rfl ?_
  refine jx_iconst k dW_init_5 (v := 1) (by decide) ?_
  refine jx_put k fW_9 dW_init_6 hW rfl rfl (Nat.le_of_ble_eq_true rfl) (fs' := [_, _]) rfl ?_
  refine jx_aload_n k dW_init_9 rfl ?_
  refine jx_iconst k dW_init_10 (v := (-1)) (by decide) ?_
  refine jx_put k fW_15 dW_init_11 (va_up_self _ _ _) rfl rfl (Nat.le_of_ble_eq_true rfl) (fs' := [_, _]) rfl ?_
  exact jx_vret k dW_init_14 (Nat.le_refl _) (Nat.le_refl _) ⟨rfl, va_uu _ _ _ _, rfl⟩
set_option maxRecDepth 100000 in
theorem k_isOn (l : Launch) (E : jx_E) (b : Nat) (G : jx_H) (sz : Nat) (a : Nat) (on cut : Int32) (hW : G a = pw_o on cut) (ho : on = 0 ∨ on = 1) : jx_ct l E b yW_isOn cW_isOn 1 (some .boolean) 0 0 0 [.ref a] G sz (jx_pu (.int on) G sz) := by
  refine jx_met (by decide) (Nat.le_of_ble_eq_true rfl) (L0 := [_]) rfl (fun X k => ?_)
  refine jx_aload_n k dW_isOn_0 rfl ?_
  refine jx_get k fW_9 dW_isOn_1 hW rfl ?_
  exact jx_zret k dW_isOn_4 (jb_01 ho) (Nat.le_refl _) (Nat.le_refl _) ⟨rfl, rfl, rfl⟩
set_option maxRecDepth 100000 in
theorem k_turnOn (l : Launch) (E : jx_E) (b : Nat) (G : jx_H) (sz : Nat) (a : Nat) (on cut : Int32) (hW : G a = pw_o on cut) : jx_ct l E b yW_turnOn cW_turnOn 2 (some .boolean) 0 0 0 [.ref a] G sz (fun v G' sz' => v = some (.int (jb_z (on = 0))) ∧ G' = va_up G a (pw_o 1 cut) ∧ sz' = sz) := by
  refine jx_met (by decide) (Nat.le_of_ble_eq_true rfl) (L0 := [_, _]) rfl (fun X k => ?_)
  refine jx_aload_n k dW_turnOn_0 rfl ?_
  refine jx_get k fW_9 dW_turnOn_1 hW rfl ?_
  refine jx_if_ne k dW_turnOn_4 (tgt := 11) rfl (fun h1 => ?_) (fun h1 => ?_)
  · refine jx_iconst k dW_turnOn_11 (v := 0) (by decide) ?_
    refine jx_istore_n k dW_turnOn_12 (Nat.le_of_ble_eq_true rfl) rfl (L' := [_, _]) rfl ?_
    refine jx_aload_n k dW_turnOn_13 rfl ?_
    refine jx_iconst k dW_turnOn_14 (v := 1) (by decide) ?_
    refine jx_put k fW_9 dW_turnOn_15 hW rfl rfl (Nat.le_of_ble_eq_true rfl) (fs' := [_, _]) rfl ?_
    refine jx_iload_n k dW_turnOn_18 rfl ?_
    exact jx_zret k dW_turnOn_19 rfl (Nat.le_refl _) (Nat.le_refl _) ⟨by rw [jb_f h1], rfl, rfl⟩
  · refine jx_iconst k dW_turnOn_7 (v := 1) (by decide) ?_
    refine jx_goto k dW_turnOn_8 (tgt := 12) rfl ?_
    refine jx_istore_n k dW_turnOn_12 (Nat.le_of_ble_eq_true rfl) rfl (L' := [_, _]) rfl ?_
    refine jx_aload_n k dW_turnOn_13 rfl ?_
    refine jx_iconst k dW_turnOn_14 (v := 1) (by decide) ?_
    refine jx_put k fW_9 dW_turnOn_15 hW rfl rfl (Nat.le_of_ble_eq_true rfl) (fs' := [_, _]) rfl ?_
    refine jx_iload_n k dW_turnOn_18 rfl ?_
    exact jx_zret k dW_turnOn_19 rfl (Nat.le_refl _) (Nat.le_refl _) ⟨by rw [jb_t h1], rfl, rfl⟩
set_option maxRecDepth 100000 in
theorem k_planCut (l : Launch) (E : jx_E) (b : Nat) (G : jx_H) (sz : Nat) (a : Nat) (on cut n : Int32) (hW : G a = pw_o on cut) : jx_ct l E b yW_planCut cW_planCut 2 none 0 0 0 [.ref a, .int n] G sz (fun v G' sz' => v = none ∧ G' = va_up G a (pw_o on n) ∧ sz' = sz) := by
  refine jx_met (by decide) (Nat.le_of_ble_eq_true rfl) (L0 := [_, _]) rfl (fun X k => ?_)
  refine jx_aload_n k dW_planCut_0 rfl ?_
  refine jx_iload_n k dW_planCut_1 rfl ?_
  refine jx_put k fW_15 dW_planCut_2 hW rfl rfl (Nat.le_of_ble_eq_true rfl) (fs' := [_, _]) rfl ?_
  exact jx_vret k dW_planCut_5 (Nat.le_refl _) (Nat.le_refl _) ⟨rfl, rfl, rfl⟩
/-- the cut: whether power goes in this page; power and cut behind it -/
def pw_c (on cut : Int32) : Bool × Int32 × Int32 := if cut = -1 then (false, on, cut) else if 0 < cut then (false, on, cut - 1) else (true, 0, -1)
set_option maxRecDepth 100000 in
theorem k_isCut (l : Launch) (E : jx_E) (b : Nat) (G : jx_H) (sz : Nat) (a : Nat) (on cut : Int32) (hW : G a = pw_o on cut) : jx_ct l E b yW_isCutInNextPage cW_isCutInNextPage 1 (some .boolean) 0 0 0 [.ref a] G sz (fun v G' sz' => v = some (.int (jb_z ((pw_c on cut).1 = true))) ∧ G' = va_up G a (pw_o (pw_c on cut).2.1 (pw_c on cut).2.2) ∧ sz' = sz) := by
  refine jx_met (by decide) (Nat.le_of_ble_eq_true rfl) (L0 := [_]) rfl (fun X k => ?_)
  refine jx_aload_n k dW_isCutInNextPage_0 rfl ?_
  refine jx_get k fW_15 dW_isCutInNextPage_1 hW rfl ?_
  refine jx_iconst k dW_isCutInNextPage_4 (v := (-1)) (by decide) ?_
  refine jx_icmp_ne k dW_isCutInNextPage_5 (tgt := 10) rfl (fun h1 => ?_) (fun h1 => ?_)
  · refine jx_aload_n k dW_isCutInNextPage_10 rfl ?_
    refine jx_get k fW_15 dW_isCutInNextPage_11 hW rfl ?_
    refine jx_if_le k dW_isCutInNextPage_14 (tgt := 29) rfl (fun h2 => ?_) (fun h2 => ?_)
    · have e : pw_c on cut = (true, 0, -1) := by rw [pw_c, if_neg h1, if_neg (Int32.not_lt.mpr h2)]
      refine jx_aload_n k dW_isCutInNextPage_29 rfl ?_
      refine jx_iconst k dW_isCutInNextPage_30 (v := (-1)) (by decide) ?_
      refine jx_put k fW_15 dW_isCutInNextPage_31 hW rfl rfl (Nat.le_of_ble_eq_true rfl) (fs' := [_, _]) rfl ?_
      refine jx_aload_n k dW_isCutInNextPage_34 rfl ?_
      refine jx_iconst k dW_isCutInNextPage_35 (v := 0) (by decide) ?_
      refine jx_put k fW_9 dW_isCutInNextPage_36 (va_up_self _ _ _) rfl rfl (Nat.le_of_ble_eq_true rfl) (fs' := [_, _]) rfl ?_
      refine jx_iconst k dW_isCutInNextPage_39 (v := 1) (by decide) ?_
      exact jx_zret k dW_isCutInNextPage_40 rfl (Nat.le_refl _) (Nat.le_refl _) ⟨by rw [e]; rfl, by rw [e]; exact va_uu _ _ _ _, rfl⟩
    · have e : pw_c on cut = (false, on, cut - 1) := by rw [pw_c, if_neg h1, if_pos (Int32.not_le.mp h2)]
      refine jx_aload_n k dW_isCutInNextPage_17 rfl ?_
      refine jx_dup k dW_isCutInNextPage_18 rfl ?_
      refine jx_get k fW_15 dW_isCutInNextPage_19 hW rfl ?_
      refine jx_iconst k dW_isCutInNextPage_22 (v := 1) (by decide) ?_
      refine jx_isub k dW_isCutInNextPage_23 ?_
      refine jx_put k fW_15 dW_isCutInNextPage_24 hW rfl rfl (Nat.le_of_ble_eq_true rfl) (fs' := [_, _]) rfl ?_
      refine jx_iconst k dW_isCutInNextPage_27 (v := 0) (by decide) ?_
      exact jx_zret k dW_isCutInNextPage_28 rfl (Nat.le_refl _) (Nat.le_refl _) ⟨by rw [e]; rfl, by rw [e], rfl⟩
  · have e : pw_c on cut = (false, on, cut) := by rw [pw_c, if_pos h1]
    refine jx_iconst k dW_isCutInNextPage_8 (v := 0) (by decide) ?_
    exact jx_zret k dW_isCutInNextPage_9 rfl (Nat.le_refl _) (Nat.le_refl _) ⟨by rw [e]; rfl, by rw [e, va_us hW], rfl⟩
/-- Picture -/
abbrev pc_o (a : Nat) : Option va_E := some (.inr (2, [.ref (a + 1)]))
def pc_G (E : jx_E) (a : Nat) (r : Nat → Int32) (G : jx_H) : jx_H := va_up (va_up G a (pc_o a)) (a + 1) (some (ja_i E 8 r))
theorem pc_0 {E : jx_E} {a : Nat} {r : Nat → Int32} {G : jx_H} : pc_G E a r G a = pc_o a := by
  unfold pc_G
  rw [va_up_ne _ _ (by omega), va_up_self]
theorem pc_1 {E : jx_E} {a : Nat} {r : Nat → Int32} {G : jx_H} : pc_G E a r G (a + 1) = some (ja_i E 8 r) := va_up_self _ _ _
theorem pc_n {E : jx_E} {a q : Nat} {r : Nat → Int32} {G : jx_H} (h1 : q ≠ a) (h2 : q ≠ a + 1) : pc_G E a r G q = G q := by
  unfold pc_G
  rw [va_up_ne _ _ h2, va_up_ne _ _ h1]
def pc_at (E : jx_E) (G : jx_H) (a : Nat) (r : Nat → Int32) : Prop := G a = pc_o a ∧ G (a + 1) = some (ja_i E 8 r)
set_option maxRecDepth 100000 in
theorem k_Pinit (l : Launch) (E : jx_E) (b : Nat) (G : jx_H) (a : Nat) : jx_ct l E b yP_init cP_init 1 none 1 1 8 [.ref a] (va_up G a (some (.inr (2, [.null])))) (a + 1) (fun v G' sz' => v = none ∧ G' = pc_G E a (fun _ => 0) G ∧ sz' = a + 2) := by
  refine jx_met (by decide) (Nat.le_of_ble_eq_true rfl) (L0 := [_]) rfl (fun X k => ?_)
  have hz : va_up (va_up G a (some (.inr (2, [.null])))) (a + 1) (some (.inl (E.2 0, (8, .inl (fun _ => 0))))) a = some (.inr (2, [.null])) := by rw [va_up_ne _ _ (by omega), va_up_self]
  refine jx_aload_n k dP_init_0 rfl ?_
  refine jx_obj k jn_169 jn_54 jn_55 dP_init_1 rfl (Nat.le_of_ble_eq_true rfl) (Nat.le_of_ble_eq_true rfl) ?_
  refine jx_aload_n k dP_init_4 rfl ?_
  refine jx_bipush k dP_init_5 (v := 8) (by decide) ?_
  refine jx_newa k (at0 := .int) (ty := .int) (t := 0) (N := 8) (a0 := (8, .inl (fun _ => 0))) rfl jn_86 rfl (fun _ h => by cases h) (fun _ => rfl) dP_init_7 (by decide) (by decide) (by decide) (Nat.le_of_ble_eq_true rfl) (Nat.le_of_ble_eq_true rfl) ?_
  refine jx_putF k rfl ffP_11 dP_init_9 hz rfl rfl (Nat.le_of_ble_eq_true rfl) (fs' := [_]) rfl ?_
  refine jx_vret k dP_init_12 (Nat.le_refl _) (Nat.le_refl _) ⟨rfl, ?_, rfl⟩
  unfold pc_G
  rw [va_uc _ _ _ (show a ≠ a + 1 by omega), va_uu, va_uc _ _ _ (show a + 1 ≠ a by omega)]
set_option maxRecDepth 100000 in
theorem k_row (l : Launch) (E : jx_E) (b : Nat) (G : jx_H) (sz : Nat) (a : Nat) (r : Nat → Int32) (i : Int32) (hP : G a = pc_o a) (hR : G (a + 1) = some (ja_i E 8 r)) : jx_ct l E b yP_row cP_row 2 (some .int) 1 0 0 [.ref a, .int i] G sz (jx_pu (.int (if 0 ≤ i ∧ i < 8 then r i.toNatClampNeg else -1)) G sz) := by
  refine jx_met (by decide) (Nat.le_of_ble_eq_true rfl) (L0 := [_, _]) rfl (fun X k => ?_)
  refine jx_iload_n k dP_row_0 rfl ?_
  refine jx_bipush k dP_row_1 (v := 8) (by decide) ?_
  refine jx_callSP k mP_15 (k_isBelow _ _ _ _ _ i 8) dP_row_3 rfl rfl rfl (Nat.le_of_ble_eq_true rfl) ⟨Nat.le_of_ble_eq_true rfl, Nat.le_of_ble_eq_true rfl⟩ ⟨Nat.le_of_ble_eq_true rfl, Nat.le_of_ble_eq_true rfl⟩ ?_
  refine jx_if_eq k dP_row_6 (tgt := 18) rfl (fun h1 => ?_) (fun h1 => ?_)
  · refine jx_iconst k dP_row_18 (v := (-1)) (by decide) ?_
    exact jx_iret k dP_row_19 (Nat.le_refl _) (Nat.le_refl _) ⟨by rw [if_neg (jb_e0.mp h1)], rfl, rfl⟩
  · have g1 := Decidable.byContradiction (fun h => h1 (jb_f h))
    obtain ⟨j, hj, rfl⟩ := nI_lift (n := 8) g1.1 g1.2 (by decide)
    refine jx_aload_n k dP_row_9 rfl ?_
    refine jx_get k fP_11 dP_row_10 hP rfl ?_
    refine jx_iload_n k dP_row_13 rfl ?_
    refine jx_ildN k dP_row_14 hR (p := j) rfl (by omega) (by decide) ?_
    refine jx_goto k dP_row_15 (tgt := 19) rfl ?_
    exact jx_iret k dP_row_19 (Nat.le_refl _) (Nat.le_refl _) ⟨by rw [if_pos g1, nI_clamp (by omega)], rfl, rfl⟩
set_option maxRecDepth 100000 in
theorem k_setRow (l : Launch) (E : jx_E) (b : Nat) (G : jx_H) (sz : Nat) (a j : Nat) (r : Nat → Int32) (c : Int32) (hP : G a = pc_o a) (hR : G (a + 1) = some (ja_i E 8 r)) (hj : j < 8) : jx_ct l E b yP_setRow cP_setRow 3 none 1 0 0 [.ref a, .int (nI j), .int c] G sz (fun v G' sz' => v = none ∧ G' = va_up G (a + 1) (some (ja_i E 8 (upd r j c))) ∧ sz' = sz) := by
  refine jx_met (by decide) (Nat.le_of_ble_eq_true rfl) (L0 := [_, _, _]) rfl (fun X k => ?_)
  have g1 : 0 ≤ nI j ∧ nI j < 8 := ⟨nI_pos' (by omega), nI_lt (b := 8) hj (by decide)⟩
  refine jx_iload_n k dP_setRow_0 rfl ?_
  refine jx_bipush k dP_setRow_1 (v := 8) (by decide) ?_
  refine jx_callSP k mP_15 (k_isBelow _ _ _ _ _ (nI j) 8) dP_setRow_3 rfl rfl rfl (Nat.le_of_ble_eq_true rfl) ⟨Nat.le_of_ble_eq_true rfl, Nat.le_of_ble_eq_true rfl⟩ ⟨Nat.le_of_ble_eq_true rfl, Nat.le_of_ble_eq_true rfl⟩ ?_
  refine jx_if_eq k dP_setRow_6 (tgt := 16) rfl (fun hh => absurd hh (fun h => jb_e0.mp h g1)) (fun _ => ?_)
  refine jx_aload_n k dP_setRow_9 rfl ?_
  refine jx_get k fP_11 dP_setRow_10 hP rfl ?_
  refine jx_iload_n k dP_setRow_13 rfl ?_
  refine jx_iload_n k dP_setRow_14 rfl ?_
  refine jx_istN k dP_setRow_15 hR (p := j) rfl (by omega) (by decide) ?_
  exact jx_vret k dP_setRow_16 (Nat.le_refl _) (Nat.le_refl _) ⟨rfl, rfl, rfl⟩
def pr_c (r : Nat → Int32) (c : Nat) : Int32 := (r (c / 8) >>> (((2 : Int32) * nI (c % 8)) &&& 31)) &&& 3
set_option maxRecDepth 100000 in
theorem k_cell (l : Launch) (E : jx_E) (b : Nat) (G : jx_H) (sz : Nat) (a c : Nat) (r : Nat → Int32) (hP : G a = pc_o a) (hR : G (a + 1) = some (ja_i E 8 r)) (hc : c < 64) : jx_ct l E b yP_cell cP_cell 2 (some .int) 0 0 0 [.ref a, .int (nI c)] G sz (jx_pu (.int (pr_c r c)) G sz) := by
  refine jx_met (by decide) (Nat.le_of_ble_eq_true rfl) (L0 := [_, _]) rfl (fun X k => ?_)
  refine jx_aload_n k dP_cell_0 rfl ?_
  refine jx_get k fP_11 dP_cell_1 hP rfl ?_
  refine jx_iload_n k dP_cell_4 rfl ?_
  refine jx_bipush k dP_cell_5 (v := 8) (by decide) ?_
  refine jx_idiv k dP_cell_7 (by decide) ?_
  rw [nI_div8 c hc]
  refine jx_ildN k dP_cell_8 hR (p := c / 8) rfl (by omega) (by decide) ?_
  refine jx_iconst k dP_cell_9 (v := 2) (by decide) ?_
  refine jx_iload_n k dP_cell_10 rfl ?_
  refine jx_bipush k dP_cell_11 (v := 8) (by decide) ?_
  refine jx_irem k dP_cell_13 (by decide) ?_
  rw [nI_rem8 c hc]
  refine jx_imul k dP_cell_14 ?_
  refine jx_ishr k dP_cell_15 ?_
  refine jx_iconst k dP_cell_16 (v := 3) (by decide) ?_
  refine jx_iand k dP_cell_17 ?_
  exact jx_iret k dP_cell_18 (Nat.le_refl _) (Nat.le_refl _) ⟨rfl, rfl, rfl⟩
def pr_f (r : Nat → Int32) (p n : Nat) : Nat := if pr_c r p = pr_c r (p - 1) then n else n + 1
def pr_n (r : Nat → Int32) : Nat := fo_f (pr_f r) 1 63 1
set_option maxRecDepth 100000 in
set_option maxHeartbeats 4000000 in
theorem k_runs (l : Launch) (E : jx_E) (b : Nat) (G : jx_H) (sz : Nat) (a : Nat) (r : Nat → Int32) (hP : G a = pc_o a) (hR : G (a + 1) = some (ja_i E 8 r)) : jx_ct l E b yP_runs cP_runs 3 (some .int) 1 0 0 [.ref a] G sz (jx_pu (.int (nI (pr_n r))) G sz) := by
  refine jx_met (by decide) (Nat.le_of_ble_eq_true rfl) (L0 := [_, _, _]) rfl (fun X k => ?_)
  refine jx_iconst k dP_runs_0 (v := 1) (by decide) ?_
  refine jx_istore_n k dP_runs_1 (Nat.le_of_ble_eq_true rfl) rfl (L' := [_, _, _]) rfl ?_
  refine jx_iconst k dP_runs_2 (v := 1) (by decide) ?_
  refine jx_istore_n k dP_runs_3 (Nat.le_of_ble_eq_true rfl) rfl (L' := [_, _, _]) rfl ?_
  refine fo_l (fun p n => jx_w X E b (jx_fin X E b (jx_pu (.int (nI (pr_n r))) G sz) 0 0) 4 [some (.ref a), some (.int (nI n)), some (.int (nI p))] [] G sz 0 0) (pr_f r) (lo := 1) (hi := 64) (by decide) 1 ?_ ?_
  · intro p h1 h2
    generalize fo_f (pr_f r) 1 (p - 1) 1 = n
    intro kk
    refine jx_iload_n k dP_runs_4 rfl ?_
    refine jx_bipush k dP_runs_5 (v := 64) (by decide) ?_
    refine jx_icmp_ge k dP_runs_7 (tgt := 34) rfl (fun hh => absurd hh (nI_ge (b := 64) h2 (by decide))) (fun _ => ?_)
    refine jx_aload_n k dP_runs_10 rfl ?_
    refine jx_iload_n k dP_runs_11 rfl ?_
    refine jx_callVP k mP_26 (k_cell _ _ _ _ _ a p r hP hR h2) hP rfl dP_runs_12 rfl rfl rfl (Nat.le_of_ble_eq_true rfl) ⟨Nat.le_of_ble_eq_true rfl, Nat.le_of_ble_eq_true rfl⟩ ⟨Nat.le_of_ble_eq_true rfl, Nat.le_of_ble_eq_true rfl⟩ ?_
    refine jx_aload_n k dP_runs_15 rfl ?_
    refine jx_iload_n k dP_runs_16 rfl ?_
    refine jx_iconst k dP_runs_17 (v := 1) (by decide) ?_
    refine jx_isub k dP_runs_18 ?_
    rw [show nI p - 1 = nI (p - 1) from pk_sub (b := 1) h1]
    refine jx_callVP k mP_26 (k_cell _ _ _ _ _ a (p - 1) r hP hR (by omega)) hP rfl dP_runs_19 rfl rfl rfl (Nat.le_of_ble_eq_true rfl) ⟨Nat.le_of_ble_eq_true rfl, Nat.le_of_ble_eq_true rfl⟩ ⟨Nat.le_of_ble_eq_true rfl, Nat.le_of_ble_eq_true rfl⟩ ?_
    refine jx_icmp_eq k dP_runs_22 (tgt := 28) rfl (fun h3 => ?_) (fun h3 => ?_)
    · rw [pr_f, if_pos h3] at kk
      refine jx_iinc k dP_runs_28 rfl (nI_1 p) rfl (L' := [_, _, _]) rfl ?_
      refine jx_goto k dP_runs_31 (tgt := 4) rfl ?_
      exact kk
    · rw [pr_f, if_neg h3] at kk
      refine jx_iinc k dP_runs_25 rfl (nI_1 n) rfl (L' := [_, _, _]) rfl ?_
      refine jx_iinc k dP_runs_28 rfl (nI_1 p) rfl (L' := [_, _, _]) rfl ?_
      refine jx_goto k dP_runs_31 (tgt := 4) rfl ?_
      exact kk
  · refine jx_iload_n k dP_runs_4 rfl ?_
    refine jx_bipush k dP_runs_5 (v := 64) (by decide) ?_
    refine jx_icmp_ge k dP_runs_7 (tgt := 34) rfl (fun _ => ?_) (fun hh => absurd (nI_le (a := 64) (b := 64) (by decide) (by decide)) hh)
    refine jx_iload_n k dP_runs_34 rfl ?_
    exact jx_iret k dP_runs_35 (Nat.le_refl _) (Nat.le_refl _) ⟨rfl, rfl, rfl⟩
