/-! The reference's constructor -/
def rs_0 : rs_S := (fun j => if j = 2 then 1 else if j = 3 ∨ j = 4 then -1 else 0, fun _ _ => 0, fun _ => 0)
/-- while it is made: the object with the fields fs, the first n arrays -/
def rm_I (E : jx_E) (mb : Nat) (fs : List Value) (n : Nat) (G : jx_H) : jx_H := fun q => if q = mb then some (.inr (6, fs)) else if mb < q ∧ q < mb + 1 + n then rm_c E mb rs_0 (q - mb) else G q
theorem rm_I0 {E : jx_E} {mb n : Nat} {fs : List Value} {G : jx_H} : rm_I E mb fs n G mb = some (.inr (6, fs)) := if_pos rfl
theorem rm_Iput {E : jx_E} {mb n : Nat} {fs fs' : List Value} {G : jx_H} : va_up (rm_I E mb fs n G) mb (some (.inr (6, fs'))) = rm_I E mb fs' n G := by
  funext q
  by_cases hq : q = mb
  · subst hq
    rw [va_up_self, rm_I0]
  · rw [va_up_ne _ _ hq]
    unfold rm_I
    rw [if_neg hq, if_neg hq]
theorem rm_Inew {E : jx_E} {mb n : Nat} {fs : List Value} {G : jx_H} {x : va_E} (h : rm_c E mb rs_0 (n + 1) = some x) : va_up (rm_I E mb fs n G) (mb + 1 + n) (some x) = rm_I E mb fs (n + 1) G := by
  funext q
  by_cases hq : q = mb + 1 + n
  · subst hq
    rw [va_up_self]
    unfold rm_I
    rw [if_neg (by omega), if_pos (by omega), show mb + 1 + n - mb = n + 1 by omega, h]
  · rw [va_up_ne _ _ hq]
    unfold rm_I
    by_cases h1 : q = mb
    · rw [if_pos h1, if_pos h1]
    · rw [if_neg h1, if_neg h1]
      by_cases h2 : mb < q ∧ q < mb + 1 + n
      · rw [if_pos h2, if_pos (by omega)]
      · rw [if_neg h2, if_neg (by omega)]
theorem rm_Idone {E : jx_E} {mb : Nat} {G : jx_H} : rm_I E mb (rm_fs mb rs_0) 20 G = rm_G E mb rs_0 G := by
  funext q
  unfold rm_I rm_G
  by_cases h1 : q = mb
  · subst h1
    rw [if_pos rfl, if_pos (by omega), Nat.sub_self]
    rfl
  · rw [if_neg h1]
    by_cases h2 : mb < q ∧ q < mb + 1 + 20
    · rw [if_pos h2, if_pos (by omega)]
    · rw [if_neg h2, if_neg (by omega)]
def rs_n (p : Nat) (τ : rs_S) : rs_S := rs_a τ 4 (upd (τ.2.1 4) p (-1))
def rs_1 : rs_S := fo_f rs_n 0 72 rs_0

section InitRows
variable {X : jx_X} {l : Launch} {E : jx_E} {b : Nat} {y : MethodName} {cc : ByteArray} {nL : Nat} {ret : Option FieldType} {R : Room} {Q : State → Prop} {pc : Nat} {L : List (Option Value)} {rest : List Value} {G : jx_H} {sz ce sl mb : Nat}
theorem rm_inw (k : jx_ok X l E b y cc nL ret R) (n : Nat) {fs : List Value} {at0 : ArrayType} {t N : Nat} {i : Int32} {a0 : vp_A} {ty : FieldType} (hty : newarray.typeOf at0 = ty) (hw : Cond.arrayClass ty ∈ jn_TB) (ht : (jx_tys E)[t]? = some (E.2 t, ty)) (hprim : ∀ C, ty ≠ .object C) (ha : ∀ cA : ClassId, vp_cell cA a0 = arrV cA N (fun _ => defaultValue ty)) (dd : decode cc pc = .ok (.newarray at0, 2)) (hn : ¬ i < 0) (hN : i.toNatClampNeg = N) (hby : N * componentBytes ty ≤ 536870912) (hce : ce + 1 ≤ R.cells) (hsl : sl + N ≤ R.slots) (hc : rm_c E mb rs_0 (n + 1) = some (.inl (E.2 t, a0)))
    (kk : jx_w X E b Q (pc + 2) L (.ref (mb + 1 + n) :: rest) (rm_I E mb fs (n + 1) G) (mb + 1 + (n + 1)) (ce + 1) (sl + N)) : jx_w X E b Q pc L (.int i :: rest) (rm_I E mb fs n G) (mb + 1 + n) ce sl := by
  refine jx_newa k hty hw ht hprim ha dd hn hN hby hce hsl ?_
  rw [rm_Inew hc]
  exact kk
theorem rm_ipF (k : jx_ok X l E b y cc nL ret R) (hini : y.name = "<init>") {idx kf n : Nat} {ty : FieldType} {fs fs' : List Value} {v : Value} (hf : jx_ff y.cls idx 6 kf ty) (dd : decode cc pc = .ok (.putfield idx, 3)) (hn : narrow ty v = v) (hfit : fits ty v = true) (hlen : kf < fs.length) (hfs : fs.set kf v = fs')
    (kk : jx_w X E b Q (pc + 3) L rest (rm_I E mb fs' n G) sz ce sl) : jx_w X E b Q pc L (v :: .ref mb :: rest) (rm_I E mb fs n G) sz ce sl := by
  refine jx_putF k hini hf dd rm_I0 hn hfit hlen hfs ?_
  rw [rm_Iput]
  exact kk
theorem rm_ipt (k : jx_ok X l E b y cc nL ret R) {idx kf n : Nat} {ty : FieldType} {fs fs' : List Value} {v : Value} (hf : jx_fl y.cls idx 6 kf ty false) (dd : decode cc pc = .ok (.putfield idx, 3)) (hn : narrow ty v = v) (hfit : fits ty v = true) (hlen : kf < fs.length) (hfs : fs.set kf v = fs')
    (kk : jx_w X E b Q (pc + 3) L rest (rm_I E mb fs' n G) sz ce sl) : jx_w X E b Q pc L (v :: .ref mb :: rest) (rm_I E mb fs n G) sz ce sl := by
  refine jx_put k hf dd rm_I0 hn hfit hlen hfs ?_
  rw [rm_Iput]
  exact kk
end InitRows
set_option maxRecDepth 100000 in
set_option maxHeartbeats 8000000 in
theorem q_Minit (l : Launch) (E : jx_E) (b : Nat) (G : jx_H) (mb : Nat) : jx_ct l E b yM_init cM_init 2 none 1 20 2480 [.ref mb] (rm_I E mb [.int 0, .int 0, .int 0, .int 0, .null, .null, .null, .null, .null, .null, .null, .null, .null, .null, .null, .null, .null, .null, .null, .null, .int 0, .null, .null, .null, .int 0, .int 0, .null] 0 G) (mb + 1) (fun v G' sz' => v = none ∧ G' = rm_G E mb rs_1 G ∧ sz' = mb + 1 + 20) := by
  refine jx_met (by decide) (Nat.le_of_ble_eq_true rfl) (L0 := [_, _]) rfl (fun X k => ?_)
  refine jx_aload_n k dM_init_0 rfl ?_
  refine jx_obj k jn_634 jn_54 jn_55 dM_init_1 rfl (Nat.le_of_ble_eq_true rfl) (Nat.le_of_ble_eq_true rfl) ?_
  refine jx_aload_n k dM_init_4 rfl ?_
  refine jx_iconst k dM_init_5 (v := 1) (by decide) ?_
  refine rm_ipt k fM_7 dM_init_6 rfl rfl (Nat.le_of_ble_eq_true rfl) (fs' := [_, _, _, _, _, _, _, _, _, _, _, _, _, _, _, _, _, _, _, _, _, _, _, _, _, _, _]) rfl ?_
  refine jx_aload_n k dM_init_9 rfl ?_
  refine jx_iconst k dM_init_10 (v := (-1)) (by decide) ?_
  refine rm_ipt k fM_13 dM_init_11 rfl rfl (Nat.le_of_ble_eq_true rfl) (fs' := [_, _, _, _, _, _, _, _, _, _, _, _, _, _, _, _, _, _, _, _, _, _, _, _, _, _, _]) rfl ?_
  refine jx_aload_n k dM_init_14 rfl ?_
  refine jx_iconst k dM_init_15 (v := 3) (by decide) ?_
  refine rm_inw k 0 (at0 := .boolean) (ty := .boolean) (t := 1) (N := 3) (a0 := (3, .inl (fun _ => 0))) rfl jn_85 rfl (fun _ h => by cases h) (fun _ => rfl) dM_init_16 (by decide) (by decide) (by decide) (Nat.le_of_ble_eq_true rfl) (Nat.le_of_ble_eq_true rfl) rfl ?_
  refine rm_ipF k rfl ffM_17 dM_init_18 rfl rfl (Nat.le_of_ble_eq_true rfl) (fs' := [_, _, _, _, _, _, _, _, _, _, _, _, _, _, _, _, _, _, _, _, _, _, _, _, _, _, _]) rfl ?_
  refine jx_aload_n k dM_init_21 rfl ?_
  refine jx_bipush k dM_init_22 (v := 70) (by decide) ?_
  refine rm_inw k 1 (at0 := .int) (ty := .int) (t := 0) (N := 70) (a0 := (70, .inl (fun _ => 0))) rfl jn_86 rfl (fun _ h => by cases h) (fun _ => rfl) dM_init_24 (by decide) (by decide) (by decide) (Nat.le_of_ble_eq_true rfl) (Nat.le_of_ble_eq_true rfl) rfl ?_
  refine rm_ipF k rfl ffM_21 dM_init_26 rfl rfl (Nat.le_of_ble_eq_true rfl) (fs' := [_, _, _, _, _, _, _, _, _, _, _, _, _, _, _, _, _, _, _, _, _, _, _, _, _, _, _]) rfl ?_
  refine jx_aload_n k dM_init_29 rfl ?_
  refine jx_bipush k dM_init_30 (v := 70) (by decide) ?_
  refine rm_inw k 2 (at0 := .boolean) (ty := .boolean) (t := 1) (N := 70) (a0 := (70, .inl (fun _ => 0))) rfl jn_85 rfl (fun _ h => by cases h) (fun _ => rfl) dM_init_32 (by decide) (by decide) (by decide) (Nat.le_of_ble_eq_true rfl) (Nat.le_of_ble_eq_true rfl) rfl ?_
  refine rm_ipF k rfl ffM_25 dM_init_34 rfl rfl (Nat.le_of_ble_eq_true rfl) (fs' := [_, _, _, _, _, _, _, _, _, _, _, _, _, _, _, _, _, _, _, _, _, _, _, _, _, _, _]) rfl ?_
  refine jx_aload_n k dM_init_37 rfl ?_
  refine jx_bipush k dM_init_38 (v := 72) (by decide) ?_
  refine rm_inw k 3 (at0 := .int) (ty := .int) (t := 0) (N := 72) (a0 := (72, .inl (fun _ => 0))) rfl jn_86 rfl (fun _ h => by cases h) (fun _ => rfl) dM_init_40 (by decide) (by decide) (by decide) (Nat.le_of_ble_eq_true rfl) (Nat.le_of_ble_eq_true rfl) rfl ?_
  refine rm_ipF k rfl ffM_28 dM_init_42 rfl rfl (Nat.le_of_ble_eq_true rfl) (fs' := [_, _, _, _, _, _, _, _, _, _, _, _, _, _, _, _, _, _, _, _, _, _, _, _, _, _, _]) rfl ?_
  refine jx_aload_n k dM_init_45 rfl ?_
  refine jx_bipush k dM_init_46 (v := 72) (by decide) ?_
  refine rm_inw k 4 (at0 := .int) (ty := .int) (t := 0) (N := 72) (a0 := (72, .inl (fun _ => 0))) rfl jn_86 rfl (fun _ h => by cases h) (fun _ => rfl) dM_init_48 (by decide) (by decide) (by decide) (Nat.le_of_ble_eq_true rfl) (Nat.le_of_ble_eq_true rfl) rfl ?_
  refine rm_ipF k rfl ffM_31 dM_init_50 rfl rfl (Nat.le_of_ble_eq_true rfl) (fs' := [_, _, _, _, _, _, _, _, _, _, _, _, _, _, _, _, _, _, _, _, _, _, _, _, _, _, _]) rfl ?_
  refine jx_aload_n k dM_init_53 rfl ?_
  refine jx_bipush k dM_init_54 (v := 72) (by decide) ?_
  refine rm_inw k 5 (at0 := .int) (ty := .int) (t := 0) (N := 72) (a0 := (72, .inl (fun _ => 0))) rfl jn_86 rfl (fun _ h => by cases h) (fun _ => rfl) dM_init_56 (by decide) (by decide) (by decide) (Nat.le_of_ble_eq_true rfl) (Nat.le_of_ble_eq_true rfl) rfl ?_
  refine rm_ipF k rfl ffM_34 dM_init_58 rfl rfl (Nat.le_of_ble_eq_true rfl) (fs' := [_, _, _, _, _, _, _, _, _, _, _, _, _, _, _, _, _, _, _, _, _, _, _, _, _, _, _]) rfl ?_
  refine jx_aload_n k dM_init_61 rfl ?_
  refine jx_sipush k dM_init_62 (v := 288) (by decide) ?_
  refine rm_inw k 6 (at0 := .int) (ty := .int) (t := 0) (N := 288) (a0 := (288, .inl (fun _ => 0))) rfl jn_86 rfl (fun _ h => by cases h) (fun _ => rfl) dM_init_65 (by decide) (by decide) (by decide) (Nat.le_of_ble_eq_true rfl) (Nat.le_of_ble_eq_true rfl) rfl ?_
  refine rm_ipF k rfl ffM_37 dM_init_67 rfl rfl (Nat.le_of_ble_eq_true rfl) (fs' := [_, _, _, _, _, _, _, _, _, _, _, _, _, _, _, _, _, _, _, _, _, _, _, _, _, _, _]) rfl ?_
  refine jx_aload_n k dM_init_70 rfl ?_
  refine jx_sipush k dM_init_71 (v := 288) (by decide) ?_
  refine rm_inw k 7 (at0 := .long) (ty := .long) (t := 2) (N := 288) (a0 := (288, .inr (.inl (fun _ => 0)))) rfl jn_163 rfl (fun _ h => by cases h) (fun _ => rfl) dM_init_74 (by decide) (by decide) (by decide) (Nat.le_of_ble_eq_true rfl) (Nat.le_of_ble_eq_true rfl) rfl ?_
  refine rm_ipF k rfl ffM_40 dM_init_76 rfl rfl (Nat.le_of_ble_eq_true rfl) (fs' := [_, _, _, _, _, _, _, _, _, _, _, _, _, _, _, _, _, _, _, _, _, _, _, _, _, _, _]) rfl ?_
  refine jx_aload_n k dM_init_79 rfl ?_
  refine jx_sipush k dM_init_80 (v := 144) (by decide) ?_
  refine rm_inw k 8 (at0 := .boolean) (ty := .boolean) (t := 1) (N := 144) (a0 := (144, .inl (fun _ => 0))) rfl jn_85 rfl (fun _ h => by cases h) (fun _ => rfl) dM_init_83 (by decide) (by decide) (by decide) (Nat.le_of_ble_eq_true rfl) (Nat.le_of_ble_eq_true rfl) rfl ?_
  refine rm_ipF k rfl ffM_44 dM_init_85 rfl rfl (Nat.le_of_ble_eq_true rfl) (fs' := [_, _, _, _, _, _, _, _, _, _, _, _, _, _, _, _, _, _, _, _, _, _, _, _, _, _, _]) rfl ?_
  refine jx_aload_n k dM_init_88 rfl ?_
  refine jx_sipush k dM_init_89 (v := 576) (by decide) ?_
  refine rm_inw k 9 (at0 := .int) (ty := .int) (t := 0) (N := 576) (a0 := (576, .inl (fun _ => 0))) rfl jn_86 rfl (fun _ h => by cases h) (fun _ => rfl) dM_init_92 (by decide) (by decide) (by decide) (Nat.le_of_ble_eq_true rfl) (Nat.le_of_ble_eq_true rfl) rfl ?_
  refine rm_ipF k rfl ffM_47 dM_init_94 rfl rfl (Nat.le_of_ble_eq_true rfl) (fs' := [_, _, _, _, _, _, _, _, _, _, _, _, _, _, _, _, _, _, _, _, _, _, _, _, _, _, _]) rfl ?_
  refine jx_aload_n k dM_init_97 rfl ?_
  refine jx_bipush k dM_init_98 (v := 72) (by decide) ?_
  refine rm_inw k 10 (at0 := .boolean) (ty := .boolean) (t := 1) (N := 72) (a0 := (72, .inl (fun _ => 0))) rfl jn_85 rfl (fun _ h => by cases h) (fun _ => rfl) dM_init_100 (by decide) (by decide) (by decide) (Nat.le_of_ble_eq_true rfl) (Nat.le_of_ble_eq_true rfl) rfl ?_
  refine rm_ipF k rfl ffM_50 dM_init_102 rfl rfl (Nat.le_of_ble_eq_true rfl) (fs' := [_, _, _, _, _, _, _, _, _, _, _, _, _, _, _, _, _, _, _, _, _, _, _, _, _, _, _]) rfl ?_
  refine jx_aload_n k dM_init_105 rfl ?_
  refine jx_bipush k dM_init_106 (v := 72) (by decide) ?_
  refine rm_inw k 11 (at0 := .int) (ty := .int) (t := 0) (N := 72) (a0 := (72, .inl (fun _ => 0))) rfl jn_86 rfl (fun _ h => by cases h) (fun _ => rfl) dM_init_108 (by decide) (by decide) (by decide) (Nat.le_of_ble_eq_true rfl) (Nat.le_of_ble_eq_true rfl) rfl ?_
  refine rm_ipF k rfl ffM_53 dM_init_110 rfl rfl (Nat.le_of_ble_eq_true rfl) (fs' := [_, _, _, _, _, _, _, _, _, _, _, _, _, _, _, _, _, _, _, _, _, _, _, _, _, _, _]) rfl ?_
  refine jx_aload_n k dM_init_113 rfl ?_
  refine jx_sipush k dM_init_114 (v := 576) (by decide) ?_
  refine rm_inw k 12 (at0 := .int) (ty := .int) (t := 0) (N := 576) (a0 := (576, .inl (fun _ => 0))) rfl jn_86 rfl (fun _ h => by cases h) (fun _ => rfl) dM_init_117 (by decide) (by decide) (by decide) (Nat.le_of_ble_eq_true rfl) (Nat.le_of_ble_eq_true rfl) rfl ?_
  refine rm_ipF k rfl ffM_56 dM_init_119 rfl rfl (Nat.le_of_ble_eq_true rfl) (fs' := [_, _, _, _, _, _, _, _, _, _, _, _, _, _, _, _, _, _, _, _, _, _, _, _, _, _, _]) rfl ?_
  refine jx_aload_n k dM_init_122 rfl ?_
  refine jx_bipush k dM_init_123 (v := 72) (by decide) ?_
  refine rm_inw k 13 (at0 := .int) (ty := .int) (t := 0) (N := 72) (a0 := (72, .inl (fun _ => 0))) rfl jn_86 rfl (fun _ h => by cases h) (fun _ => rfl) dM_init_125 (by decide) (by decide) (by decide) (Nat.le_of_ble_eq_true rfl) (Nat.le_of_ble_eq_true rfl) rfl ?_
  refine rm_ipF k rfl ffM_59 dM_init_127 rfl rfl (Nat.le_of_ble_eq_true rfl) (fs' := [_, _, _, _, _, _, _, _, _, _, _, _, _, _, _, _, _, _, _, _, _, _, _, _, _, _, _]) rfl ?_
  refine jx_aload_n k dM_init_130 rfl ?_
  refine jx_bipush k dM_init_131 (v := 8) (by decide) ?_
  refine rm_inw k 14 (at0 := .int) (ty := .int) (t := 0) (N := 8) (a0 := (8, .inl (fun _ => 0))) rfl jn_86 rfl (fun _ h => by cases h) (fun _ => rfl) dM_init_133 (by decide) (by decide) (by decide) (Nat.le_of_ble_eq_true rfl) (Nat.le_of_ble_eq_true rfl) rfl ?_
  refine rm_ipF k rfl ffM_62 dM_init_135 rfl rfl (Nat.le_of_ble_eq_true rfl) (fs' := [_, _, _, _, _, _, _, _, _, _, _, _, _, _, _, _, _, _, _, _, _, _, _, _, _, _, _]) rfl ?_
  refine jx_aload_n k dM_init_138 rfl ?_
  refine jx_bipush k dM_init_139 (v := 8) (by decide) ?_
  refine rm_inw k 15 (at0 := .int) (ty := .int) (t := 0) (N := 8) (a0 := (8, .inl (fun _ => 0))) rfl jn_86 rfl (fun _ h => by cases h) (fun _ => rfl) dM_init_141 (by decide) (by decide) (by decide) (Nat.le_of_ble_eq_true rfl) (Nat.le_of_ble_eq_true rfl) rfl ?_
  refine rm_ipF k rfl ffM_65 dM_init_143 rfl rfl (Nat.le_of_ble_eq_true rfl) (fs' := [_, _, _, _, _, _, _, _, _, _, _, _, _, _, _, _, _, _, _, _, _, _, _, _, _, _, _]) rfl ?_
  refine jx_aload_n k dM_init_146 rfl ?_
  refine jx_iconst k dM_init_147 (v := (-1)) (by decide) ?_
  refine rm_ipt k fM_68 dM_init_148 rfl rfl (Nat.le_of_ble_eq_true rfl) (fs' := [_, _, _, _, _, _, _, _, _, _, _, _, _, _, _, _, _, _, _, _, _, _, _, _, _, _, _]) rfl ?_
  refine jx_aload_n k dM_init_151 rfl ?_
  refine jx_iconst k dM_init_152 (v := 3) (by decide) ?_
  refine rm_inw k 16 (at0 := .boolean) (ty := .boolean) (t := 1) (N := 3) (a0 := (3, .inl (fun _ => 0))) rfl jn_85 rfl (fun _ h => by cases h) (fun _ => rfl) dM_init_153 (by decide) (by decide) (by decide) (Nat.le_of_ble_eq_true rfl) (Nat.le_of_ble_eq_true rfl) rfl ?_
  refine rm_ipF k rfl ffM_71 dM_init_155 rfl rfl (Nat.le_of_ble_eq_true rfl) (fs' := [_, _, _, _, _, _, _, _, _, _, _, _, _, _, _, _, _, _, _, _, _, _, _, _, _, _, _]) rfl ?_
  refine jx_aload_n k dM_init_158 rfl ?_
  refine jx_iconst k dM_init_159 (v := 3) (by decide) ?_
  refine rm_inw k 17 (at0 := .int) (ty := .int) (t := 0) (N := 3) (a0 := (3, .inl (fun _ => 0))) rfl jn_86 rfl (fun _ h => by cases h) (fun _ => rfl) dM_init_160 (by decide) (by decide) (by decide) (Nat.le_of_ble_eq_true rfl) (Nat.le_of_ble_eq_true rfl) rfl ?_
  refine rm_ipF k rfl ffM_74 dM_init_162 rfl rfl (Nat.le_of_ble_eq_true rfl) (fs' := [_, _, _, _, _, _, _, _, _, _, _, _, _, _, _, _, _, _, _, _, _, _, _, _, _, _, _]) rfl ?_
  refine jx_aload_n k dM_init_165 rfl ?_
  refine jx_iconst k dM_init_166 (v := 3) (by decide) ?_
  refine rm_inw k 18 (at0 := .int) (ty := .int) (t := 0) (N := 3) (a0 := (3, .inl (fun _ => 0))) rfl jn_86 rfl (fun _ h => by cases h) (fun _ => rfl) dM_init_167 (by decide) (by decide) (by decide) (Nat.le_of_ble_eq_true rfl) (Nat.le_of_ble_eq_true rfl) rfl ?_
  refine rm_ipF k rfl ffM_77 dM_init_169 rfl rfl (Nat.le_of_ble_eq_true rfl) (fs' := [_, _, _, _, _, _, _, _, _, _, _, _, _, _, _, _, _, _, _, _, _, _, _, _, _, _, _]) rfl ?_
  refine jx_aload_n k dM_init_172 rfl ?_
  refine jx_bipush k dM_init_173 (v := 8) (by decide) ?_
  refine rm_inw k 19 (at0 := .int) (ty := .int) (t := 0) (N := 8) (a0 := (8, .inl (fun _ => 0))) rfl jn_86 rfl (fun _ h => by cases h) (fun _ => rfl) dM_init_175 (by decide) (by decide) (by decide) (Nat.le_of_ble_eq_true rfl) (Nat.le_of_ble_eq_true rfl) rfl ?_
  refine rm_ipF k rfl ffM_80 dM_init_177 rfl rfl (Nat.le_of_ble_eq_true rfl) (fs' := [_, _, _, _, _, _, _, _, _, _, _, _, _, _, _, _, _, _, _, _, _, _, _, _, _, _, _]) rfl ?_
  have e0 : rm_I E mb (rm_fs mb rs_0) 20 G = rm_G E mb rs_0 G := rm_Idone
  have kx : jx_w X E b (jx_fin X E b (fun v G' sz' => v = none ∧ G' = rm_G E mb rs_1 G ∧ sz' = mb + 1 + 20) 20 2480) 180 [some (.ref mb), none] [] (rm_G E mb rs_0 G) (mb + 1 + 20) 20 2480 := by
    refine jx_iconst k dM_init_180 (v := 0) (by decide) ?_
    refine jx_istore_n k dM_init_181 (Nat.le_of_ble_eq_true rfl) rfl (L' := [_, _]) rfl ?_
    refine fo_l (fun p τ => jx_w X E b (jx_fin X E b (fun v G' sz' => v = none ∧ G' = rm_G E mb rs_1 G ∧ sz' = mb + 1 + 20) 20 2480) 182 [some (.ref mb), some (.int (nI p))] [] (rm_G E mb τ G) (mb + 1 + 20) 20 2480) rs_n (lo := 0) (hi := 72) (by decide) rs_0 ?_ ?_
    · intro p h1 h2
      generalize fo_f rs_n 0 (p - 0) rs_0 = τ
      intro kk
      refine jx_iload_n k dM_init_182 rfl ?_
      refine jx_bipush k dM_init_183 (v := 72) (by decide) ?_
      refine jx_icmp_ge k dM_init_185 (tgt := 201) rfl (fun hh => absurd hh (nI_ge (b := 72) h2 (by decide))) (fun _ => ?_)
      refine jx_aload_n k dM_init_188 rfl ?_
      refine rm_get k fM_28 dM_init_189 rfl ?_
      refine jx_iload_n k dM_init_192 rfl ?_
      refine jx_iconst k dM_init_193 (v := (-1)) (by decide) ?_
      refine rm_ist k dM_init_194 (by decide) (fun _ => rfl) (p := p) rfl (by omega) (by decide) ?_
      refine jx_iinc k dM_init_195 rfl (nI_1 p) rfl (L' := [_, _]) rfl ?_
      refine jx_goto k dM_init_198 (tgt := 182) rfl ?_
      exact kk
    · refine jx_iload_n k dM_init_182 rfl ?_
      refine jx_bipush k dM_init_183 (v := 72) (by decide) ?_
      refine jx_icmp_ge k dM_init_185 (tgt := 201) rfl (fun _ => ?_) (fun hh => absurd (nI_le (a := 72) (b := 72) (by decide) (by decide)) hh)
      exact jx_vret k dM_init_201 (Nat.le_refl _) (Nat.le_refl _) ⟨rfl, rfl, rfl⟩
  rw [← e0] at kx
  exact kx
