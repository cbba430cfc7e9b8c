/-! The reference: its cells by a state σ: numbers, arrays by place, texts. -/
abbrev rs_S : Type := (Nat → Int32) × (Nat → Nat → Int32) × (Nat → Int64)
abbrev rs_f (σ : rs_S) (j : Nat) (x : Int32) : rs_S := (va_up σ.1 j x, σ.2.1, σ.2.2)
abbrev rs_a (σ : rs_S) (k : Nat) (f : Nat → Int32) : rs_S := (σ.1, va_up σ.2.1 k f, σ.2.2)
abbrev rs_t (σ : rs_S) (f : Nat → Int64) : rs_S := (σ.1, σ.2.1, f)
def rm_fs (mb : Nat) (σ : rs_S) : List Value := [.int (σ.1 0), .int (σ.1 1), .int (σ.1 2), .int (σ.1 3), .ref (mb + 1), .ref (mb + 2), .ref (mb + 3), .ref (mb + 4), .ref (mb + 5), .ref (mb + 6), .ref (mb + 7), .ref (mb + 8), .ref (mb + 9), .ref (mb + 10), .ref (mb + 11), .ref (mb + 12), .ref (mb + 13), .ref (mb + 14), .ref (mb + 15), .ref (mb + 16), .int (σ.1 4), .ref (mb + 17), .ref (mb + 18), .ref (mb + 19), .int (σ.1 5), .int (σ.1 6), .ref (mb + 20)]
def rm_c (E : jx_E) (mb : Nat) (σ : rs_S) (k : Nat) : Option va_E := match k with
  | 0 => some (.inr (6, rm_fs mb σ))
  | 1 => some (ja_z E 3 (σ.2.1 1))
  | 2 => some (ja_i E 70 (σ.2.1 2))
  | 3 => some (ja_z E 70 (σ.2.1 3))
  | 4 => some (ja_i E 72 (σ.2.1 4))
  | 5 => some (ja_i E 72 (σ.2.1 5))
  | 6 => some (ja_i E 72 (σ.2.1 6))
  | 7 => some (ja_i E 288 (σ.2.1 7))
  | 8 => some (ja_l E 288 σ.2.2)
  | 9 => some (ja_z E 144 (σ.2.1 9))
  | 10 => some (ja_i E 576 (σ.2.1 10))
  | 11 => some (ja_z E 72 (σ.2.1 11))
  | 12 => some (ja_i E 72 (σ.2.1 12))
  | 13 => some (ja_i E 576 (σ.2.1 13))
  | 14 => some (ja_i E 72 (σ.2.1 14))
  | 15 => some (ja_i E 8 (σ.2.1 15))
  | 16 => some (ja_i E 8 (σ.2.1 16))
  | 17 => some (ja_z E 3 (σ.2.1 17))
  | 18 => some (ja_i E 3 (σ.2.1 18))
  | 19 => some (ja_i E 3 (σ.2.1 19))
  | 20 => some (ja_i E 8 (σ.2.1 20))
  | _ => none
def rm_G (E : jx_E) (mb : Nat) (σ : rs_S) (G0 : jx_H) : jx_H := fun q => if mb ≤ q ∧ q < mb + 21 then rm_c E mb σ (q - mb) else G0 q
theorem rm_at {E : jx_E} {mb : Nat} {σ : rs_S} {G0 : jx_H} {k : Nat} (hk : k < 21) : rm_G E mb σ G0 (mb + k) = rm_c E mb σ k := by
  unfold rm_G
  rw [if_pos ⟨by omega, by omega⟩, Nat.add_sub_cancel_left]
theorem rm_a0 {E : jx_E} {mb : Nat} {σ : rs_S} {G0 : jx_H} : rm_G E mb σ G0 mb = some (.inr (6, rm_fs mb σ)) := rm_at (k := 0) (by decide)
theorem rm_eq {E : jx_E} {mb : Nat} {σ σ' : rs_S} {G0 : jx_H} {k : Nat} (hk : k < 21) {x : va_E} (h : rm_c E mb σ' k = some x) (ho : ∀ j, j ≠ k → rm_c E mb σ' j = rm_c E mb σ j) : va_up (rm_G E mb σ G0) (mb + k) (some x) = rm_G E mb σ' G0 := by
  funext q
  by_cases hq : q = mb + k
  · subst hq
    rw [va_up_self, rm_at hk, h]
  · rw [va_up_ne _ _ hq]
    unfold rm_G
    by_cases hr : mb ≤ q ∧ q < mb + 21
    · rw [if_pos hr, if_pos hr, ho _ (by omega)]
    · rw [if_neg hr, if_neg hr]
theorem rm_ca {E : jx_E} {mb : Nat} {σ : rs_S} {k : Nat} {f : Nat → Int32} (h0 : k ≠ 8) : ∀ j, j ≠ k → rm_c E mb (rs_a σ k f) j = rm_c E mb σ j := by
  intro j hj
  unfold rm_c
  split <;> first | rfl | (simp only [rs_a]; rw [va_up_ne _ _ hj])
section ModelRows
variable {X : jx_X} {l : Launch} {E : jx_E} {b : Nat} {y : MethodName} {cc : ByteArray} {nL : Nat} {ret : Option FieldType} {R : Room} {Q : State → Prop} {pc : Nat} {L L' : List (Option Value)} {rest st : List Value} {G0 : jx_H} {sz ce sl mb : Nat} {σ : rs_S}
theorem rm_get (k : jx_ok X l E b y cc nL ret R) {idx kf : Nat} {ty : FieldType} {fin : Bool} {v : Value} (hf : jx_fl y.cls idx 6 kf ty fin) (dd : decode cc pc = .ok (.getfield idx, 3)) (hv : (rm_fs mb σ)[kf]? = some v)
    (kk : jx_w X E b Q (pc + 3) L (v :: rest) (rm_G E mb σ G0) sz ce sl) : jx_w X E b Q pc L (.ref mb :: rest) (rm_G E mb σ G0) sz ce sl := jx_get k hf dd rm_a0 hv kk
theorem rm_put (k : jx_ok X l E b y cc nL ret R) {idx kf j : Nat} {ty : FieldType} {x : Int32} (hf : jx_fl y.cls idx 6 kf ty false) (dd : decode cc pc = .ok (.putfield idx, 3)) (hn : narrow ty (.int x) = .int x) (hfit : fits ty (.int x) = true) (hl : kf < (rm_fs mb σ).length) (hj : (rm_fs mb σ).set kf (.int x) = rm_fs mb (rs_f σ j x))
    (kk : jx_w X E b Q (pc + 3) L rest (rm_G E mb (rs_f σ j x) G0) sz ce sl) : jx_w X E b Q pc L (.int x :: .ref mb :: rest) (rm_G E mb σ G0) sz ce sl := by
  refine jx_put k hf dd rm_a0 hn hfit hl hj ?_
  have h := rm_eq (E := E) (mb := mb) (σ := σ) (σ' := rs_f σ j x) (G0 := G0) (k := 0) (x := .inr (6, rm_fs mb (rs_f σ j x))) (by decide) rfl (fun i hi => by
    unfold rm_c
    split <;> first | rfl | exact absurd rfl hi)
  rw [show mb + 0 = mb from rfl] at h
  rw [h]
  exact kk
theorem rm_ild (k : jx_ok X l E b y cc nL ret R) {a n p : Nat} {i : Int32} (dd : decode cc pc = .ok (.iaload, 1)) (ha : a < 21) (hc : rm_c E mb σ a = some (ja_i E n (σ.2.1 a))) (hi : i = nI p) (hp : p < n) (hn : n < 2 ^ 31) (kk : jx_w X E b Q (pc + 1) L (.int (σ.2.1 a p) :: rest) (rm_G E mb σ G0) sz ce sl) : jx_w X E b Q pc L (.int i :: .ref (mb + a) :: rest) (rm_G E mb σ G0) sz ce sl := by
  subst hi
  refine jx_iald k dd ((rm_at ha).trans hc) (vp_in_nI hp hn) ?_
  rw [nI_clamp (by omega)]
  exact kk
theorem rm_zld (k : jx_ok X l E b y cc nL ret R) {a n p : Nat} {i : Int32} (dd : decode cc pc = .ok (.baload, 1)) (ha : a < 21) (hc : rm_c E mb σ a = some (ja_z E n (σ.2.1 a))) (hi : i = nI p) (hp : p < n) (hn : n < 2 ^ 31) (kk : jx_w X E b Q (pc + 1) L (.int (σ.2.1 a p) :: rest) (rm_G E mb σ G0) sz ce sl) : jx_w X E b Q pc L (.int i :: .ref (mb + a) :: rest) (rm_G E mb σ G0) sz ce sl := by
  subst hi
  refine jx_zald k dd ((rm_at ha).trans hc) (vp_in_nI hp hn) ?_
  rw [nI_clamp (by omega)]
  exact kk
theorem rm_lld (k : jx_ok X l E b y cc nL ret R) {a n p : Nat} {i : Int32} (dd : decode cc pc = .ok (.laload, 1)) (ha : a < 21) (hc : rm_c E mb σ a = some (ja_l E n σ.2.2)) (hi : i = nI p) (hp : p < n) (hn : n < 2 ^ 31) (kk : jx_w X E b Q (pc + 1) L (.long (σ.2.2 p) :: rest) (rm_G E mb σ G0) sz ce sl) : jx_w X E b Q pc L (.int i :: .ref (mb + a) :: rest) (rm_G E mb σ G0) sz ce sl := by
  subst hi
  refine jx_lald k dd ((rm_at ha).trans hc) (vp_in_nI hp hn) ?_
  rw [nI_clamp (by omega)]
  exact kk
theorem rm_ist (k : jx_ok X l E b y cc nL ret R) {a n p : Nat} {i x : Int32} (dd : decode cc pc = .ok (.iastore, 1)) (ha : a < 21) (hc : ∀ f, rm_c E mb (rs_a σ a f) a = some (ja_i E n f)) (hi : i = nI p) (hp : p < n) (hn : n < 2 ^ 31) (kk : jx_w X E b Q (pc + 1) L rest (rm_G E mb (rs_a σ a (upd (σ.2.1 a) p x)) G0) sz ce sl) : jx_w X E b Q pc L (.int x :: .int i :: .ref (mb + a) :: rest) (rm_G E mb σ G0) sz ce sl := by
  subst hi
  have h8 : a ≠ 8 := by
    intro h
    subst h
    have := hc (fun _ => 0)
    simp [rm_c, ja_i, ja_l] at this
  have e0 : rm_c E mb σ a = some (ja_i E n (σ.2.1 a)) := by
    have h := hc (σ.2.1 a)
    have e : rs_a σ a (σ.2.1 a) = σ := by
      have : va_up σ.2.1 a (σ.2.1 a) = σ.2.1 := by
        funext q
        by_cases hq : q = a
        · subst hq; rw [va_up_self]
        · rw [va_up_ne _ _ hq]
      simp only [rs_a, this]
    rw [e] at h
    exact h
  refine jx_iast k dd ((rm_at ha).trans e0) (vp_in_nI hp hn) ?_
  rw [nI_clamp (by omega), rm_eq (σ' := rs_a σ a (upd (σ.2.1 a) p x)) ha (hc _) (rm_ca h8)]
  exact kk
theorem rm_zst (k : jx_ok X l E b y cc nL ret R) {a n p : Nat} {i x : Int32} (dd : decode cc pc = .ok (.bastore, 1)) (ha : a < 21) (hc : ∀ f, rm_c E mb (rs_a σ a f) a = some (ja_z E n f)) (hi : i = nI p) (hp : p < n) (hn : n < 2 ^ 31) (hx : narrow .boolean (.int x) = .int x) (kk : jx_w X E b Q (pc + 1) L rest (rm_G E mb (rs_a σ a (upd (σ.2.1 a) p x)) G0) sz ce sl) : jx_w X E b Q pc L (.int x :: .int i :: .ref (mb + a) :: rest) (rm_G E mb σ G0) sz ce sl := by
  subst hi
  have h8 : a ≠ 8 := by
    intro h
    subst h
    have := hc (fun _ => 0)
    simp [rm_c, ja_z, ja_l] at this
  have e0 : rm_c E mb σ a = some (ja_z E n (σ.2.1 a)) := by
    have h := hc (σ.2.1 a)
    have e : rs_a σ a (σ.2.1 a) = σ := by
      have : va_up σ.2.1 a (σ.2.1 a) = σ.2.1 := by
        funext q
        by_cases hq : q = a
        · subst hq; rw [va_up_self]
        · rw [va_up_ne _ _ hq]
      simp only [rs_a, this]
    rw [e] at h
    exact h
  refine jx_zast k dd ((rm_at ha).trans e0) (vp_in_nI hp hn) hx ?_
  rw [nI_clamp (by omega), rm_eq (σ' := rs_a σ a (upd (σ.2.1 a) p x)) ha (hc _) (rm_ca h8)]
  exact kk
theorem rm_lst (k : jx_ok X l E b y cc nL ret R) {p : Nat} {i : Int32} {x : Int64} (dd : decode cc pc = .ok (.lastore, 1)) (_ha : 8 < 21) (_hc : (0 : Nat) = 0) (hi : i = nI p) (hp : p < 288) (_hn : 288 < 2 ^ 31) (kk : jx_w X E b Q (pc + 1) L rest (rm_G E mb (rs_t σ (vp_updL σ.2.2 p x)) G0) sz ce sl) : jx_w X E b Q pc L (.long x :: .int i :: .ref (mb + 8) :: rest) (rm_G E mb σ G0) sz ce sl := by
  subst hi
  refine jx_last k dd ((rm_at (k := 8) (by decide)).trans rfl) (vp_in_nI hp (by decide)) ?_
  rw [nI_clamp (by omega), rm_eq (σ' := rs_t σ (vp_updL σ.2.2 p x)) (k := 8) (by decide) rfl (fun j hj => by
    unfold rm_c
    split <;> first | rfl | exact absurd rfl hj)]
  exact kk
theorem rm_ildV (k : jx_ok X l E b y cc nL ret R) {a n p : Nat} {i v : Int32} (dd : decode cc pc = .ok (.iaload, 1)) (ha : a < 21) (hc : rm_c E mb σ a = some (ja_i E n (σ.2.1 a))) (hi : i = nI p) (hp : p < n) (hn : n < 2 ^ 31) (hv : σ.2.1 a p = v) (kk : jx_w X E b Q (pc + 1) L (.int v :: rest) (rm_G E mb σ G0) sz ce sl) : jx_w X E b Q pc L (.int i :: .ref (mb + a) :: rest) (rm_G E mb σ G0) sz ce sl := by
  subst hv
  exact rm_ild k dd ha hc hi hp hn kk
theorem rm_zldV (k : jx_ok X l E b y cc nL ret R) {a n p : Nat} {i v : Int32} (dd : decode cc pc = .ok (.baload, 1)) (ha : a < 21) (hc : rm_c E mb σ a = some (ja_z E n (σ.2.1 a))) (hi : i = nI p) (hp : p < n) (hn : n < 2 ^ 31) (hv : σ.2.1 a p = v) (kk : jx_w X E b Q (pc + 1) L (.int v :: rest) (rm_G E mb σ G0) sz ce sl) : jx_w X E b Q pc L (.int i :: .ref (mb + a) :: rest) (rm_G E mb σ G0) sz ce sl := by
  subst hv
  exact rm_zld k dd ha hc hi hp hn kk
theorem rm_lldV (k : jx_ok X l E b y cc nL ret R) {a n p : Nat} {i : Int32} {v : Int64} (dd : decode cc pc = .ok (.laload, 1)) (ha : a < 21) (hc : rm_c E mb σ a = some (ja_l E n σ.2.2)) (hi : i = nI p) (hp : p < n) (hn : n < 2 ^ 31) (hv : σ.2.2 p = v) (kk : jx_w X E b Q (pc + 1) L (.long v :: rest) (rm_G E mb σ G0) sz ce sl) : jx_w X E b Q pc L (.int i :: .ref (mb + a) :: rest) (rm_G E mb σ G0) sz ce sl := by
  subst hv
  exact rm_lld k dd ha hc hi hp hn kk
end ModelRows
/-- the end of a method of the reference -/
abbrev rm_q (E : jx_E) (mb : Nat) (G0 : jx_H) (sz : Nat) (r : Value) (σ : rs_S) : Option Value → jx_H → Nat → Prop := fun v G sz' => v = some r ∧ G = rm_G E mb σ G0 ∧ sz' = sz
abbrev rm_n (E : jx_E) (mb : Nat) (G0 : jx_H) (sz : Nat) (σ : rs_S) : Option Value → jx_H → Nat → Prop := fun v G sz' => v = none ∧ G = rm_G E mb σ G0 ∧ sz' = sz
