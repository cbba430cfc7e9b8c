section MoreRows
variable {X : jx_X} {l : Launch} {E : jx_E} {b : Nat} {y : MethodName} {cc : ByteArray} {nL : Nat} {ret : Option FieldType} {R : Room} {Q : State → Prop} {pc : Nat} {L L' : List (Option Value)} {rest st : List Value} {G : jx_H} {sz ce sl : Nat}
theorem jx_ldc (k : jx_ok X l E b y cc nL ret R) {idx : Nat} {v : Int32} (hw : Cond.constant y.cls idx v ∈ jn_TB) (dd : decode cc pc = .ok (.ldc idx, 2)) (kk : jx_w X E b Q (pc + 2) L (.int v :: rest) G sz ce sl) : jx_w X E b Q pc L rest G sz ce sl := by
  obtain ⟨p, l0, e, R0, s, m, args, below, meth, c⟩ := X
  exact fun H locs ls hr hS hl => lv_ldc k.1 k.2.1 k.2.2.2.1 (k.2.2.2.2.1.1 _ hw args) dd (kk H locs ls hr hS hl)
theorem jx_ldc2 (k : jx_ok X l E b y cc nL ret R) {idx : Nat} {v : Int64} (hw : Cond.constantLong y.cls idx v ∈ jn_TB) (dd : decode cc pc = .ok (.ldc2_w idx, 3)) (kk : jx_w X E b Q (pc + 3) L (.long v :: rest) G sz ce sl) : jx_w X E b Q pc L rest G sz ce sl := by
  obtain ⟨p, l0, e, R0, s, m, args, below, meth, c⟩ := X
  exact fun H locs ls hr hS hl => lv_ldc2 k.1 k.2.1 k.2.2.2.1 (k.2.2.2.2.1.1 _ hw args) dd (kk H locs ls hr hS hl)
theorem jx_ildN (k : jx_ok X l E b y cc nL ret R) {a n p : Nat} {f : Nat → Int32} {i : Int32} (dd : decode cc pc = .ok (.iaload, 1)) (hG : G a = some (ja_i E n f)) (hi : i = nI p) (hp : p < n) (hn : n < 2 ^ 31) (kk : jx_w X E b Q (pc + 1) L (.int (f p) :: rest) G sz ce sl) : jx_w X E b Q pc L (.int i :: .ref a :: rest) G sz ce sl := by
  subst hi
  refine jx_iald k dd hG (vp_in_nI hp hn) ?_
  rw [nI_clamp (by omega)]
  exact kk
theorem jx_zldN (k : jx_ok X l E b y cc nL ret R) {a n p : Nat} {f : Nat → Int32} {i : Int32} (dd : decode cc pc = .ok (.baload, 1)) (hG : G a = some (ja_z E n f)) (hi : i = nI p) (hp : p < n) (hn : n < 2 ^ 31) (kk : jx_w X E b Q (pc + 1) L (.int (f p) :: rest) G sz ce sl) : jx_w X E b Q pc L (.int i :: .ref a :: rest) G sz ce sl := by
  subst hi
  refine jx_zald k dd hG (vp_in_nI hp hn) ?_
  rw [nI_clamp (by omega)]
  exact kk
theorem jx_lldN (k : jx_ok X l E b y cc nL ret R) {a n p : Nat} {f : Nat → Int64} {i : Int32} (dd : decode cc pc = .ok (.laload, 1)) (hG : G a = some (ja_l E n f)) (hi : i = nI p) (hp : p < n) (hn : n < 2 ^ 31) (kk : jx_w X E b Q (pc + 1) L (.long (f p) :: rest) G sz ce sl) : jx_w X E b Q pc L (.int i :: .ref a :: rest) G sz ce sl := by
  subst hi
  refine jx_lald k dd hG (vp_in_nI hp hn) ?_
  rw [nI_clamp (by omega)]
  exact kk
theorem jx_callS0 (k : jx_ok X l E b y cc nL ret R) {idx n d' mc' ms' nL' : Nat} {y' : MethodName} {cc' : ByteArray} {ret' : Option FieldType} {As : List Value} {G1 : jx_H} {sz1 : Nat} (hm : jx_ms y.cls idx y' cc' nL' ret' n) (hM : jx_ct l E b y' cc' nL' ret' d' mc' ms' As G sz (fun v G' sz' => v = none ∧ G' = G1 ∧ sz' = sz1)) (dd : decode cc pc = .ok (.invokestatic idx, 3)) (hn : As.length = n) (hLn : L.length = nL) (hst : st = As.reverse ++ rest) (hrm : (rest.map fun v => v.category).sum ≤ 8) (hR : d' + 1 ≤ R.frames ∧ 8 + (nL' + 11) + 30 * d' ≤ R.locals) (hf : ce + mc' ≤ R.cells ∧ sl + ms' ≤ R.slots)
    (kk : jx_w X E b Q (pc + 3) L rest G1 sz1 (ce + mc') (sl + ms')) : jx_w X E b Q pc L st G sz ce sl := by
  refine jx_callS k hm hM dd hn hLn hst hrm hR hf ?_
  rintro v G' sz' ⟨rfl, rfl, rfl⟩
  exact kk
theorem jx_callS1 (k : jx_ok X l E b y cc nL ret R) {idx n d' mc' ms' nL' : Nat} {y' : MethodName} {cc' : ByteArray} {ret' : Option FieldType} {As : List Value} {r : Value} {G1 : jx_H} {sz1 : Nat} (hm : jx_ms y.cls idx y' cc' nL' ret' n) (hM : jx_ct l E b y' cc' nL' ret' d' mc' ms' As G sz (fun v G' sz' => v = some r ∧ G' = G1 ∧ sz' = sz1)) (dd : decode cc pc = .ok (.invokestatic idx, 3)) (hn : As.length = n) (hLn : L.length = nL) (hst : st = As.reverse ++ rest) (hrm : (rest.map fun v => v.category).sum ≤ 8) (hR : d' + 1 ≤ R.frames ∧ 8 + (nL' + 11) + 30 * d' ≤ R.locals) (hf : ce + mc' ≤ R.cells ∧ sl + ms' ≤ R.slots)
    (kk : jx_w X E b Q (pc + 3) L (r :: rest) G1 sz1 (ce + mc') (sl + ms')) : jx_w X E b Q pc L st G sz ce sl := by
  refine jx_callS k hm hM dd hn hLn hst hrm hR hf ?_
  rintro v G' sz' ⟨rfl, rfl, rfl⟩
  exact kk
theorem jx_callV0 (k : jx_ok X l E b y cc nL ret R) {idx n d' mc' ms' nL' a0 ci : Nat} {y' : MethodName} {cc' : ByteArray} {ret' : Option FieldType} {As : List Value} {G1 : jx_H} {sz1 : Nat} {fs : List Value} (hm : jx_mv y.cls idx y' cc' nL' ret' n) (hM : jx_ct l E b y' cc' nL' ret' d' mc' ms' (.ref a0 :: As) G sz (fun v G' sz' => v = none ∧ G' = G1 ∧ sz' = sz1)) (hG : G a0 = some (.inr (ci, fs))) (hc : (vwCl[ci]?).map (fun q => q.1) = some y'.cls) (dd : decode cc pc = .ok (.invokevirtual idx, 3)) (hn : As.length = n) (hLn : L.length = nL) (hst : st = As.reverse ++ .ref a0 :: rest) (hrm : (rest.map fun v => v.category).sum ≤ 8) (hR : d' + 1 ≤ R.frames ∧ 8 + (nL' + 11) + 30 * d' ≤ R.locals) (hf : ce + mc' ≤ R.cells ∧ sl + ms' ≤ R.slots)
    (kk : jx_w X E b Q (pc + 3) L rest G1 sz1 (ce + mc') (sl + ms')) : jx_w X E b Q pc L st G sz ce sl := by
  refine jx_callV k hm hM hG hc dd hn hLn hst hrm hR hf ?_
  rintro v G' sz' ⟨rfl, rfl, rfl⟩
  exact kk
theorem jx_callV1 (k : jx_ok X l E b y cc nL ret R) {idx n d' mc' ms' nL' a0 ci : Nat} {y' : MethodName} {cc' : ByteArray} {ret' : Option FieldType} {As : List Value} {r : Value} {G1 : jx_H} {sz1 : Nat} {fs : List Value} (hm : jx_mv y.cls idx y' cc' nL' ret' n) (hM : jx_ct l E b y' cc' nL' ret' d' mc' ms' (.ref a0 :: As) G sz (fun v G' sz' => v = some r ∧ G' = G1 ∧ sz' = sz1)) (hG : G a0 = some (.inr (ci, fs))) (hc : (vwCl[ci]?).map (fun q => q.1) = some y'.cls) (dd : decode cc pc = .ok (.invokevirtual idx, 3)) (hn : As.length = n) (hLn : L.length = nL) (hst : st = As.reverse ++ .ref a0 :: rest) (hrm : (rest.map fun v => v.category).sum ≤ 8) (hR : d' + 1 ≤ R.frames ∧ 8 + (nL' + 11) + 30 * d' ≤ R.locals) (hf : ce + mc' ≤ R.cells ∧ sl + ms' ≤ R.slots)
    (kk : jx_w X E b Q (pc + 3) L (r :: rest) G1 sz1 (ce + mc') (sl + ms')) : jx_w X E b Q pc L st G sz ce sl := by
  refine jx_callV k hm hM hG hc dd hn hLn hst hrm hR hf ?_
  rintro v G' sz' ⟨rfl, rfl, rfl⟩
  exact kk
theorem jx_callI0 (k : jx_ok X l E b y cc nL ret R) {idx n d' mc' ms' nL' a0 : Nat} {y' : MethodName} {cc' : ByteArray} {As : List Value} {G1 : jx_H} {sz1 : Nat} (hm : jx_mi y.cls idx y' cc' nL' n) (hM : jx_ct l E b y' cc' nL' none d' mc' ms' (.ref a0 :: As) G sz (fun v G' sz' => v = none ∧ G' = G1 ∧ sz' = sz1)) (dd : decode cc pc = .ok (.invokespecial idx, 3)) (hn : As.length = n) (hLn : L.length = nL) (hst : st = As.reverse ++ .ref a0 :: rest) (hrm : (rest.map fun v => v.category).sum ≤ 8) (hR : d' + 1 ≤ R.frames ∧ 8 + (nL' + 11) + 30 * d' ≤ R.locals) (hf : ce + mc' ≤ R.cells ∧ sl + ms' ≤ R.slots)
    (kk : jx_w X E b Q (pc + 3) L rest G1 sz1 (ce + mc') (sl + ms')) : jx_w X E b Q pc L st G sz ce sl := by
  refine jx_callI k hm hM dd hn hLn hst hrm hR hf ?_
  rintro v G' sz' ⟨rfl, rfl, rfl⟩
  exact kk
end MoreRows
theorem lc_eq {x y : Int64} : lg_cmp x y = 0 ↔ x = y := by
  unfold lg_cmp
  by_cases h1 : y < x
  · rw [if_pos h1]
    exact ⟨fun h => absurd h (by decide), fun h => absurd h1 (by rw [h]; exact Int64.lt_irrefl)⟩
  · rw [if_neg h1]
    by_cases h2 : x = y
    · rw [if_pos h2]; exact ⟨fun _ => h2, fun _ => rfl⟩
    · rw [if_neg h2]; exact ⟨fun h => absurd h (by decide), fun h => absurd h h2⟩
theorem lc_le {x y : Int64} : lg_cmp x y ≤ 0 ↔ x ≤ y := by
  unfold lg_cmp
  by_cases h1 : y < x
  · rw [if_pos h1]
    exact ⟨fun h => absurd h (by decide), fun h => absurd h (Int64.not_le.mpr h1)⟩
  · rw [if_neg h1]
    by_cases h2 : x = y
    · rw [if_pos h2]; exact ⟨fun _ => Int64.not_lt.mp h1, fun _ => by decide⟩
    · rw [if_neg h2]; exact ⟨fun _ => Int64.not_lt.mp h1, fun _ => by decide⟩
theorem lc_ge {x y : Int64} : 0 ≤ lg_cmp x y ↔ y ≤ x := by
  unfold lg_cmp
  by_cases h1 : y < x
  · rw [if_pos h1]
    exact ⟨fun _ => Int64.le_of_lt h1, fun _ => by decide⟩
  · rw [if_neg h1]
    by_cases h2 : x = y
    · rw [if_pos h2]; exact ⟨fun _ => by rw [h2]; exact Int64.le_refl _, fun _ => by decide⟩
    · rw [if_neg h2]
      refine ⟨fun h => absurd h (by decide), fun h => absurd (Int64.le_antisymm (Int64.not_lt.mp h1) h) h2⟩
theorem jb_01 {x : Int32} (h : x = 0 ∨ x = 1) : narrow .boolean (.int x) = .int x := by
  rcases h with rfl | rfl <;> rfl
theorem jx_l0 : jx_le [] [] := trivial
theorem jx_ls {x : Option Value} {r t : List (Option Value)} (h : jx_le r t) : jx_le (x :: r) (x :: t) := ⟨Or.inr rfl, h⟩
theorem jx_ln {x : Option Value} {r t : List (Option Value)} (h : jx_le r t) : jx_le (x :: r) (none :: t) := ⟨Or.inl rfl, h⟩
