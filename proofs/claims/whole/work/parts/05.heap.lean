section CoreRows
variable {X : jx_X} {l : Launch} {E : jx_E} {b : Nat} {y : MethodName} {cc : ByteArray} {nL : Nat} {ret : Option FieldType} {R : Room} {Q : State → Prop} {pc : Nat} {L L' : List (Option Value)} {rest st : List Value} {G : jx_H} {sz ce sl : Nat}
/-- fields, by the pool's number -/
def jx_fl (own : String) (idx ci kf : Nat) (ty : FieldType) (fin : Bool) : Prop :=
  ∃ (C : String) (T : u_T) (N : Nat) (tf : Nat → FieldType), vwCl[ci]? = some (C, T, N) ∧ (∀ w ∈ u_ws C T N, w ∈ jn_TB) ∧ kf < N ∧ (Cond.fieldLink own idx (T kf).1 (T kf).2.1 (T kf).2.2.1 ∈ jn_TB ∨ ∃ host : String, Cond.fieldLinkNest own idx (T kf).1 (T kf).2.1 (T kf).2.2.1 host ∈ jn_TB) ∧
    (∀ k, k < N → parseFieldDescriptor (T k).2.2.1 = some (tf k)) ∧ (∀ a, a < N → ∀ b, b < N → a ≠ b → (T a).2.1 ≠ (T b).2.1) ∧ tf kf = ty ∧ (T kf).2.2.2 = fin
/-- a final field of the class's own, written by its constructor -/
def jx_ff (own : String) (idx ci kf : Nat) (ty : FieldType) : Prop :=
  ∃ (C : String) (T : u_T) (N : Nat) (tf : Nat → FieldType), vwCl[ci]? = some (C, T, N) ∧ (∀ w ∈ u_ws C T N, w ∈ jn_TB) ∧ kf < N ∧ Cond.fieldLink own idx (T kf).1 (T kf).2.1 (T kf).2.2.1 ∈ jn_TB ∧
    (∀ k, k < N → parseFieldDescriptor (T k).2.2.1 = some (tf k)) ∧ (∀ a, a < N → ∀ b, b < N → a ≠ b → (T a).2.1 ≠ (T b).2.1) ∧ tf kf = ty ∧ (T kf).2.2.2 = true ∧ (T kf).1 = own
theorem jx_get (k : jx_ok X l E b y cc nL ret R) {idx ci kf a : Nat} {ty : FieldType} {fin : Bool} {fs : List Value} {v : Value} (hf : jx_fl y.cls idx ci kf ty fin) (dd : decode cc pc = .ok (.getfield idx, 3)) (hG : G a = some (.inr (ci, fs))) (hv : fs[kf]? = some v)
    (kk : jx_w X E b Q (pc + 3) L (v :: rest) G sz ce sl) : jx_w X E b Q pc L (.ref a :: rest) G sz ce sl := by
  obtain ⟨p, l0, e, R0, s, m, args, below, meth, c⟩ := X
  intro H locs ls hr hS hl
  obtain ⟨C, T, N, tf, hc, hin, hk, hw, -⟩ := hf
  obtain ⟨hx, hb, -, hown, ⟨htb, hK, -⟩, -⟩ := k
  have hts : ∀ w ∈ jn_TB, w.before args s = true := fun w h => htb w h args
  rcases hw with hw | ⟨host, hw⟩
  · exact va_get (D := E.1) hx hb hts hin hown hK (hr.P hG) 0 rfl hc kf hk (hts _ hw) (fun _ h => h) hv dd (kk H locs ls hr hS hl)
  · exact va_getN (D := E.1) hx hb hts hin hown hK (hr.P hG) 0 rfl hc kf hk (hts _ hw) (fun _ h => h) hv dd (kk H locs ls hr hS hl)
theorem jx_put (k : jx_ok X l E b y cc nL ret R) {idx ci kf a : Nat} {ty : FieldType} {fs fs' : List Value} {v : Value} (hf : jx_fl y.cls idx ci kf ty false) (dd : decode cc pc = .ok (.putfield idx, 3)) (hG : G a = some (.inr (ci, fs))) (hn : narrow ty v = v) (hfit : fits ty v = true) (hlen : kf < fs.length) (hfs : fs.set kf v = fs')
    (kk : jx_w X E b Q (pc + 3) L rest (va_up G a (some (.inr (ci, fs')))) sz ce sl) : jx_w X E b Q pc L (v :: .ref a :: rest) G sz ce sl := by
  obtain ⟨p, l0, e, R0, s, m, args, below, meth, c⟩ := X
  intro H locs ls hr hS hl
  subst hfs
  obtain ⟨C, T, N, tf, hc, hin, hk, hw, hty, hnm, rfl, hfin⟩ := hf
  obtain ⟨hx, hb, -, hown, ⟨htb, hK, -⟩, -⟩ := k
  have hts : ∀ w ∈ jn_TB, w.before args s = true := fun w h => htb w h args
  have hap := va_apart (own := y.cls) hts hin tf hty hnm hK hc
  obtain ⟨r, h1, cell, q1, q2, q3, q4⟩ := (hr.2.2 a _ hG).2
  have hr1 : r = (C, T, N) := Option.some.inj (h1.symm.trans hc)
  subst hr1
  obtain ⟨hS1, hfc, kC, hkC, hkind⟩ := hK.1 ci _ hc
  obtain ⟨cf, kff, fi, f, hi, hsl⟩ := hS1 kf hk
  have hlay := hts _ (hin _ (u_in_lay hk))
  unfold u_lay at hlay
  rw [if_neg (by rw [hfin]; decide)] at hlay
  have hst := (u_facts hfc hkC (u_lays hts hin hk) hi).1
  have h6 := u_store hfc hkC hkind hlay hi (hty kf hk) hn hfit
  have fin : ∀ H' : Heap, H'[a]? = some (cell.setSlot f.slot v) → H'.size = H.size → (∀ q, q ≠ a → H'[q]? = H[q]?) → W p l0 e R0 s m args below meth c H' (locs ++ [⟨a, f.slot⟩]) ce sl Q (F0 m (pc + 3) ls rest) := by
    intro H' e1 e2 e3
    rw [hsl] at e1 ⊢
    refine kk H' _ ls (hr.set hG ?_ e2 e3) (hS.put e2 e3 (hr.2.2 a _ hG).1) hl
    exact ⟨_, hc, t_OB.to (V := updV (vp_V fs) kf v) ⟨_, e1, q2, q3, t_set q4 hap hk v⟩ (fun j _ => vp_updV_set hlen v j)⟩
  rcases hw with hw | ⟨host, hw⟩
  · exact W.putK hx hb (f := f) ⟨hown, hts _ hw, ⟨_, _, _, hi⟩, hst⟩ (by rw [q2]; exact h6) q1 q3 (by rw [hsl]; exact k2_hasslot (q4 kf hk)) rfl rfl dd fin
  · exact va_WputK hx hb (f := f) hown (hts _ hw) hi hst (by rw [q2]; exact h6) q1 q3 (by rw [hsl]; exact k2_hasslot (q4 kf hk)) rfl rfl dd fin
theorem jx_putF (k : jx_ok X l E b y cc nL ret R) (hini : y.name = "<init>") {idx ci kf a : Nat} {ty : FieldType} {fs fs' : List Value} {v : Value} (hf : jx_ff y.cls idx ci kf ty) (dd : decode cc pc = .ok (.putfield idx, 3)) (hG : G a = some (.inr (ci, fs))) (hn : narrow ty v = v) (hfit : fits ty v = true) (hlen : kf < fs.length) (hfs : fs.set kf v = fs')
    (kk : jx_w X E b Q (pc + 3) L rest (va_up G a (some (.inr (ci, fs')))) sz ce sl) : jx_w X E b Q pc L (v :: .ref a :: rest) G sz ce sl := by
  obtain ⟨p, l0, e, R0, s, m, args, below, meth, c⟩ := X
  intro H locs ls hr hS hl
  subst hfs
  obtain ⟨C, T, N, tf, hc, hin, hk, hw, hty, hnm, rfl, hfin, hdecl⟩ := hf
  obtain ⟨hx, hb, -, hown, ⟨htb, hK, -⟩, -, -, -, -, hmn, -⟩ := k
  have hmn : meth.name = "<init>" := hmn.trans hini
  have hts : ∀ w ∈ jn_TB, w.before args s = true := fun w h => htb w h args
  have hap := va_apart (own := y.cls) hts hin tf hty hnm hK hc
  obtain ⟨r, h1, cell, q1, q2, q3, q4⟩ := (hr.2.2 a _ hG).2
  have hr1 : r = (C, T, N) := Option.some.inj (h1.symm.trans hc)
  subst hr1
  obtain ⟨hS1, hfc, kC, hkC, hkind⟩ := hK.1 ci _ hc
  obtain ⟨cf, kff, fi, f, hi, hsl⟩ := hS1 kf hk
  have hlay := hts _ (hin _ (u_in_lay hk))
  unfold u_lay at hlay
  rw [if_pos hfin] at hlay
  have hst := (u_facts hfc hkC (u_lays hts hin hk) hi).1
  have hcf : m.cls = cf := by
    obtain ⟨_, _, c', _, _, _, -, -, hf', -, -, -, hown2, -⟩ := Cond.laysFinal_spec hlay
    have e1 : c' = cf := by have := hi.symm.trans hf'; simp at this; exact this.1.symm
    rw [hdecl] at hown2
    rw [← e1]; exact Option.some.inj (hown.symm.trans hown2)
  have h6 := u_fits hfc hkC hkind (Or.inr hlay) hi (hty kf hk) hn hfit
  refine W.putFinK hx hb hown (hts _ hw) hi hst hcf hmn (by rw [q2]; exact h6) q1 q3 (by rw [hsl]; exact k2_hasslot (q4 kf hk)) rfl rfl dd fun H' e1 e2 e3 => ?_
  rw [hsl] at e1 ⊢
  refine kk H' _ ls (hr.set hG ?_ e2 e3) (hS.put e2 e3 (hr.2.2 a _ hG).1) hl
  exact ⟨_, hc, t_OB.to (V := updV (vp_V fs) kf v) ⟨_, e1, q2, q3, t_set q4 hap hk v⟩ (fun j _ => vp_updV_set hlen v j)⟩
/-- arrays -/
theorem jx_iald (k : jx_ok X l E b y cc nL ret R) {a n : Nat} {f : Nat → Int32} {i : Int32} (dd : decode cc pc = .ok (.iaload, 1)) (hG : G a = some (ja_i E n f)) (hin : vp_in i n) (kk : jx_w X E b Q (pc + 1) L (.int (f i.toNatClampNeg) :: rest) G sz ce sl) : jx_w X E b Q pc L (.int i :: .ref a :: rest) G sz ce sl := by
  obtain ⟨p, l0, e, R0, s, m, args, below, meth, c⟩ := X
  exact fun H locs ls hr hS hl => va_iald (D := E.1) k.1 k.2.1 k.2.2.2.2.1.2.1 (hr.P hG) 0 0 rfl rfl hin dd (kk H locs ls hr hS hl)
theorem jx_zald (k : jx_ok X l E b y cc nL ret R) {a n : Nat} {f : Nat → Int32} {i : Int32} (dd : decode cc pc = .ok (.baload, 1)) (hG : G a = some (ja_z E n f)) (hin : vp_in i n) (kk : jx_w X E b Q (pc + 1) L (.int (f i.toNatClampNeg) :: rest) G sz ce sl) : jx_w X E b Q pc L (.int i :: .ref a :: rest) G sz ce sl := by
  obtain ⟨p, l0, e, R0, s, m, args, below, meth, c⟩ := X
  exact fun H locs ls hr hS hl => va_zald (D := E.1) k.1 k.2.1 k.2.2.2.2.1.2.1 (hr.P hG) 0 1 rfl rfl hin dd (kk H locs ls hr hS hl)
theorem jx_lald (k : jx_ok X l E b y cc nL ret R) {a n : Nat} {f : Nat → Int64} {i : Int32} (dd : decode cc pc = .ok (.laload, 1)) (hG : G a = some (ja_l E n f)) (hin : vp_in i n) (kk : jx_w X E b Q (pc + 1) L (.long (f i.toNatClampNeg) :: rest) G sz ce sl) : jx_w X E b Q pc L (.int i :: .ref a :: rest) G sz ce sl := by
  obtain ⟨p, l0, e, R0, s, m, args, below, meth, c⟩ := X
  exact fun H locs ls hr hS hl => va_lald (D := E.1) k.1 k.2.1 k.2.2.2.2.1.2.1 (hr.P hG) 0 2 rfl rfl hin dd (kk H locs ls hr hS hl)
theorem jx_aald (k : jx_ok X l E b y cc nL ret R) {a n t : Nat} {C : String} {f : Nat → Option Nat} {i : Int32} (dd : decode cc pc = .ok (.aaload, 1)) (hG : G a = some (ja_q E t n f)) (ht : (jx_tys E)[t]? = some (E.2 t, .object C)) (hin : vp_in i n) (kk : jx_w X E b Q (pc + 1) L (va_rf (f i.toNatClampNeg) :: rest) G sz ce sl) : jx_w X E b Q pc L (.int i :: .ref a :: rest) G sz ce sl := by
  obtain ⟨p, l0, e, R0, s, m, args, below, meth, c⟩ := X
  exact fun H locs ls hr hS hl => va_aldq (D := E.1) k.1 k.2.1 k.2.2.2.2.1.2.1 (hr.P hG) 0 t rfl ht hin dd (kk H locs ls hr hS hl)
theorem jx_alen (k : jx_ok X l E b y cc nL ret R) {a t : Nat} {x : vp_A} {ty : FieldType} (dd : decode cc pc = .ok (.arraylength, 1)) (hG : G a = some (.inl (E.2 t, x))) (ht : (jx_tys E)[t]? = some (E.2 t, ty)) (kk : jx_w X E b Q (pc + 1) L (.int (nI x.1) :: rest) G sz ce sl) : jx_w X E b Q pc L (.ref a :: rest) G sz ce sl := by
  obtain ⟨p, l0, e, R0, s, m, args, below, meth, c⟩ := X
  exact fun H locs ls hr hS hl => va_alen (D := E.1) k.1 k.2.1 k.2.2.2.2.1.2.1 (hr.P hG) 0 t rfl ht rfl dd (kk H locs ls hr hS hl)
theorem jx_iast (k : jx_ok X l E b y cc nL ret R) {a n : Nat} {f : Nat → Int32} {i x : Int32} (dd : decode cc pc = .ok (.iastore, 1)) (hG : G a = some (ja_i E n f)) (hin : vp_in i n) (kk : jx_w X E b Q (pc + 1) L rest (va_up G a (some (ja_i E n (upd f i.toNatClampNeg x)))) sz ce sl) : jx_w X E b Q pc L (.int x :: .int i :: .ref a :: rest) G sz ce sl := by
  obtain ⟨p, l0, e, R0, s, m, args, below, meth, c⟩ := X
  intro H locs ls hr hS hl
  obtain ⟨hx, hb, -, hown, ⟨htb, hK, -⟩, -⟩ := k
  have hc : H[a]? = some (vp_cell (E.2 0) (n, .inl f)) := (hr.2.2 a _ hG).2
  refine W.iast hx hb hc ((hK.2 0 (E.2 0, .int) rfl).1 n (fun j => .int (f j))) (fun q => by cases q) (by show ¬ (i < 0 ∨ (arrV _ _ _).slots.size ≤ _); rw [arrV_size]; exact hin) rfl rfl dd fun H1 e1 z oq => ?_
  refine kk H1 _ ls (hr.set hG ?_ z oq) (hS.put z oq (hr.2.2 a _ hG).1) hl
  show H1[a]? = some (vp_cell _ _)
  rw [e1, vp_cell_i, vp_cell_i, arrV_store]
  congr 2
  funext q
  by_cases hq : q = i.toNatClampNeg
  · subst hq
    simp [updV, upd]
  · simp [updV, upd, hq]
theorem jx_zast (k : jx_ok X l E b y cc nL ret R) {a n : Nat} {f : Nat → Int32} {i x : Int32} (dd : decode cc pc = .ok (.bastore, 1)) (hG : G a = some (ja_z E n f)) (hin : vp_in i n) (hx : narrow .boolean (.int x) = .int x) (kk : jx_w X E b Q (pc + 1) L rest (va_up G a (some (ja_z E n (upd f i.toNatClampNeg x)))) sz ce sl) : jx_w X E b Q pc L (.int x :: .int i :: .ref a :: rest) G sz ce sl := by
  obtain ⟨p, l0, e, R0, s, m, args, below, meth, c⟩ := X
  intro H locs ls hr hS hl
  obtain ⟨hxx, hb, -, hown, ⟨htb, hK, -⟩, -⟩ := k
  have hc : H[a]? = some (vp_cell (E.2 1) (n, .inl f)) := (hr.2.2 a _ hG).2
  refine W.zast hxx hb hc ((hK.2 1 (E.2 1, .boolean) rfl).1 n (fun j => .int (f j))) (fun q => by cases q) (by show ¬ (i < 0 ∨ (arrV _ _ _).slots.size ≤ _); rw [arrV_size]; exact hin) rfl rfl dd fun H1 e1 z oq => ?_
  refine kk H1 _ ls (hr.set hG ?_ z oq) (hS.put z oq (hr.2.2 a _ hG).1) hl
  show H1[a]? = some (vp_cell _ _)
  rw [e1, vp_cell_i, vp_cell_i, arrV_store]
  congr 2
  funext q
  by_cases hq : q = i.toNatClampNeg
  · subst hq
    simp only [updV, upd, if_true]
    exact hx
  · simp [updV, upd, hq]
theorem jx_last (k : jx_ok X l E b y cc nL ret R) {a n : Nat} {f : Nat → Int64} {i : Int32} {x : Int64} (dd : decode cc pc = .ok (.lastore, 1)) (hG : G a = some (ja_l E n f)) (hin : vp_in i n) (kk : jx_w X E b Q (pc + 1) L rest (va_up G a (some (ja_l E n (vp_updL f i.toNatClampNeg x)))) sz ce sl) : jx_w X E b Q pc L (.long x :: .int i :: .ref a :: rest) G sz ce sl := by
  obtain ⟨p, l0, e, R0, s, m, args, below, meth, c⟩ := X
  intro H locs ls hr hS hl
  obtain ⟨hxx, hb, -, hown, ⟨htb, hK, -⟩, -⟩ := k
  have hc : H[a]? = some (vp_cell (E.2 2) (n, .inr (.inl f))) := (hr.2.2 a _ hG).2
  refine W.last hxx hb hc ((hK.2 2 (E.2 2, .long) rfl).1 n (fun j => .long (f j))) (fun q => by cases q) (by show ¬ (i < 0 ∨ (arrV _ _ _).slots.size ≤ _); rw [arrV_size]; exact hin) rfl rfl dd fun H1 e1 z oq => ?_
  refine kk H1 _ ls (hr.set hG ?_ z oq) (hS.put z oq (hr.2.2 a _ hG).1) hl
  show H1[a]? = some (vp_cell _ _)
  rw [e1, vp_cell_l, vp_cell_l, arrV_store]
  congr 2
  funext q
  by_cases hq : q = i.toNatClampNeg
  · subst hq
    simp [updV, vp_updL]
  · simp [updV, vp_updL, hq]
theorem jx_aast (k : jx_ok X l E b y cc nL ret R) {a v n t ci : Nat} {r : vw_C} {f : Nat → Option Nat} {fs : List Value} {i : Int32} (dd : decode cc pc = .ok (.aastore, 1)) (hG : G a = some (ja_q E t n f)) (ht : (jx_tys E)[t]? = some (E.2 t, .object r.1)) (hv : G v = some (.inr (ci, fs))) (hc : vwCl[ci]? = some r) (hin : vp_in i n) (kk : jx_w X E b Q (pc + 1) L rest (va_up G a (some (ja_q E t n (va_up f i.toNatClampNeg (some v))))) sz ce sl) : jx_w X E b Q pc L (.ref v :: .int i :: .ref a :: rest) G sz ce sl := by
  obtain ⟨p, l0, e, R0, s, m, args, below, meth, c⟩ := X
  intro H locs ls hr hS hl
  obtain ⟨hxx, hb, -, hown, ⟨htb, hK, -⟩, -⟩ := k
  have hca : H[a]? = some (vp_cell (E.2 t) (n, .inr (.inr (.inr (.inr f))))) := (hr.2.2 a _ hG).2
  have hlt : i.toNatClampNeg < n := Nat.not_le.mp fun q => hin (Or.inr q)
  have h0 : ¬ i < 0 := fun q => hin (Or.inl q)
  obtain ⟨r', hr', cellV, g1, g2, g3, -⟩ := (hr.2.2 v _ hv).2
  have hcls := (hK.1 ci r hc).2
  obtain ⟨kA, comp, k1, k2, k3, -⟩ := (hK.2 t _ ht).2
  have hcomp : comp = E.1.1 ci := Option.some.inj (k3.symm.trans hcls.1)
  subst hcomp
  obtain ⟨kC, hkC, -⟩ := hcls.2
  refine W.aast hxx hb hca (fun q h => by cases h) (fun h => by cases h) k1 k2 rfl hkC ⟨h0, by show _ < (arrV _ _ _).slots.size; rw [arrV_size]; exact hlt⟩ g1 (fun q h => by rw [g3] at h; cases h) (by rw [g2]; exact hkC) (by rw [g2]; exact va_assign hcls) rfl rfl dd fun H1 e1 z oq => ?_
  refine kk H1 _ ls (hr.set hG ?_ z oq) (hS.put z oq (hr.2.2 a _ hG).1) hl
  show H1[a]? = some (vp_cell _ _)
  rw [e1, vp_cell_q, vp_cell_q, arrV_store]
  congr 2
  funext q
  by_cases hq : q = i.toNatClampNeg
  · subst hq
    simp [updV, va_up, va_rf]
  · simp [updV, va_up, hq]
theorem jx_aastN (k : jx_ok X l E b y cc nL ret R) {a n t : Nat} {C : String} {f : Nat → Option Nat} {i : Int32} (dd : decode cc pc = .ok (.aastore, 1)) (hG : G a = some (ja_q E t n f)) (ht : (jx_tys E)[t]? = some (E.2 t, .object C)) (hin : vp_in i n) (kk : jx_w X E b Q (pc + 1) L rest (va_up G a (some (ja_q E t n (va_up f i.toNatClampNeg none)))) sz ce sl) : jx_w X E b Q pc L (.null :: .int i :: .ref a :: rest) G sz ce sl := by
  obtain ⟨p, l0, e, R0, s, m, args, below, meth, c⟩ := X
  intro H locs ls hr hS hl
  obtain ⟨hxx, hb, -, hown, ⟨htb, hK, -⟩, -⟩ := k
  have hca : H[a]? = some (vp_cell (E.2 t) (n, .inr (.inr (.inr (.inr f))))) := (hr.2.2 a _ hG).2
  refine va_WaastN (C := C) hxx hb hca ((hK.2 t _ ht).1 n (fun j => va_rf (f j))) (fun h => by cases h) (by show ¬ (i < 0 ∨ (arrV _ _ _).slots.size ≤ _); rw [arrV_size]; exact hin) rfl rfl dd fun H1 e1 z oq => ?_
  refine kk H1 _ ls (hr.set hG ?_ z oq) (hS.put z oq (hr.2.2 a _ hG).1) hl
  show H1[a]? = some (vp_cell _ _)
  rw [e1, vp_cell_q, vp_cell_q, arrV_store]
  congr 2
  funext q
  by_cases hq : q = i.toNatClampNeg
  · subst hq
    simp [updV, va_up, va_rf]
  · simp [updV, va_up, hq]
/-- new cells -/
theorem jx_S_push {A : Nat → Prop} {H0 H H1 : Heap} {locs : List Loc} (hS : va_S A H0 H locs) (hz : H1.size = H.size + 1) (ho : ∀ q : Nat, q < H.size → H1[q]? = H[q]?) : va_S A H0 H1 locs :=
  ⟨Nat.le_trans hS.1 (by omega), fun x h1 h2 => (ho x (Nat.lt_of_lt_of_le h1 hS.1)).trans (hS.2.1 x h1 h2), hS.2.2⟩
def jx_cn (own : String) (idx ci N : Nat) (fs : List Value) : Prop :=
  ∃ (C : String) (T : u_T) (tf : Nat → FieldType), vwCl[ci]? = some (C, T, N) ∧ (∀ w ∈ u_ws C T N, w ∈ jn_TB) ∧ (∀ k, k < N → parseFieldDescriptor (T k).2.2.1 = some (tf k)) ∧ (Cond.classLink own idx C) ∈ jn_TB ∧ (Cond.instantiable C N) ∈ jn_TB ∧ (Cond.initialized C) ∈ jn_TB ∧ ∀ j, j < N → defaultValue (tf j) = vp_V fs j
theorem jx_new (k : jx_ok X l E b y cc nL ret R) {idx ci N : Nat} {fs : List Value} (hn : jx_cn y.cls idx ci N fs) (dd : decode cc pc = .ok (.new idx, 3)) (hce : ce + 1 ≤ R.cells) (hsl : sl + N ≤ R.slots) (kk : jx_w X E b Q (pc + 3) L (.ref sz :: rest) (va_up G sz (some (.inr (ci, fs)))) (sz + 1) (ce + 1) (sl + N)) : jx_w X E b Q pc L rest G sz ce sl := by
  obtain ⟨p, l0, e, R0, s, m, args, below, meth, c⟩ := X
  intro H locs ls hr hS hl
  obtain ⟨C, T, tf, hc, hin, hty, w1, w2, w3, hfs⟩ := hn
  obtain ⟨hx, hb, -, hown, ⟨htb, hK, -⟩, -, -, -, rfl, -⟩ := k
  have hts : ∀ w ∈ jn_TB, w.before args s = true := fun w h => htb w h args
  have hKn := hK.1 ci _ hc
  refine W.newcK hx hb hown (hts _ w1) (hts _ w2) (hts _ w3) rfl dd hce hsl hKn.2.1 hr.1 fun H1 kC hkC e1 z1 o1 => ?_
  exact kk H1 _ ls (hr.push ⟨_, hc, (u_born tf hts hin hKn hkC e1 hty).to hfs⟩ z1 o1) (jx_S_push hS (by rw [z1, hr.1]) (fun q hq => o1 q (by rw [← hr.1]; exact hq))) hl
theorem jx_newa (k : jx_ok X l E b y cc nL ret R) {at0 : ArrayType} {t N : Nat} {n : Int32} {a0 : vp_A} {ty : FieldType} (hty : newarray.typeOf at0 = ty) (hw : Cond.arrayClass ty ∈ jn_TB) (ht : (jx_tys E)[t]? = some (E.2 t, ty)) (hprim : ∀ C, ty ≠ .object C) (ha : ∀ cA : ClassId, vp_cell cA a0 = arrV cA N (fun _ => defaultValue ty)) (dd : decode cc pc = .ok (.newarray at0, 2)) (hn : ¬ n < 0) (hN : n.toNatClampNeg = N) (hby : N * componentBytes ty ≤ 536870912) (hce : ce + 1 ≤ R.cells) (hsl : sl + N ≤ R.slots)
    (kk : jx_w X E b Q (pc + 2) L (.ref sz :: rest) (va_up G sz (some (.inl (E.2 t, a0)))) (sz + 1) (ce + 1) (sl + N)) : jx_w X E b Q pc L (.int n :: rest) G sz ce sl := by
  obtain ⟨p, l0, e, R0, s, m, args, below, meth, c⟩ := X
  intro H locs ls hr hS hl
  subst hty
  obtain ⟨hx, hb, -, hown, ⟨htb, hK, -⟩, -, -, -, rfl, -⟩ := k
  refine va_newaK hx hb (htb _ hw args) rfl dd rfl hn hN hby hce hsl hr.1 fun H1 cA e1 z1 o1 hAr hNm => ?_
  have hcA : cA = E.2 t := by
    have h2 := (hK.2 t _ ht).2
    have h3 : s.vm.findClass ("[" ++ (newarray.typeOf at0).toString) = some (E.2 t) := by cases at0 <;> exact h2
    exact Option.some.inj (hNm.symm.trans h3)
  subst hcA
  refine kk H1 _ ls (hr.push ?_ z1 o1) (jx_S_push hS (by rw [z1, hr.1]) (fun q hq => o1 q (by rw [← hr.1]; exact hq))) hl
  show H1[sz]? = some (vp_cell _ _)
  rw [ha]
  exact e1
theorem jx_newq (k : jx_ok X l E b y cc nL ret R) {idx t N : Nat} {n : Int32} {C : String} (w1 : Cond.classLink y.cls idx C ∈ jn_TB) (w2 : Cond.arrayOver (.object C) ∈ jn_TB) (ht : (jx_tys E)[t]? = some (E.2 t, .object C)) (dd : decode cc pc = .ok (.anewarray idx, 3)) (hn : ¬ n < 0) (hN : n.toNatClampNeg = N) (hby : N * 4 ≤ 536870912) (hce : ce + 1 ≤ R.cells) (hsl : sl + N ≤ R.slots)
    (kk : jx_w X E b Q (pc + 3) L (.ref sz :: rest) (va_up G sz (some (ja_q E t N (fun _ => none)))) (sz + 1) (ce + 1) (sl + N)) : jx_w X E b Q pc L (.int n :: rest) G sz ce sl := by
  obtain ⟨p, l0, e, R0, s, m, args, below, meth, c⟩ := X
  intro H locs ls hr hS hl
  subst hN
  obtain ⟨hx, hb, -, hown, ⟨htb, hK, -⟩, -, -, -, rfl, -⟩ := k
  refine W.anew hx hb hown (htb _ w1 args) (htb _ w2 args) rfl dd rfl hn hby hce hsl fun cA kA comp f1 f2 f3 f4 => ?_
  obtain ⟨kA2, comp2, g1, g2, g3, g4⟩ := (hK.2 t _ ht).2
  have hcA : cA = E.2 t := Option.some.inj (f1.symm.trans g4)
  subst hcA
  generalize hH1 : H.push ({ cls := E.2 t, slots := Array.replicate n.toNatClampNeg .null, vm := .none } : Cell) = H1
  have z1 : H1.size = H.size + 1 := by rw [← hH1, Array.size_push]
  have e1 : H1[H.size]? = some (arrV (E.2 t) n.toNatClampNeg (fun _ => .null)) := by rw [← hH1, Array.getElem?_push_size, ← arrV_new]
  have o1 : ∀ q : Nat, q < H.size → H1[q]? = H[q]? := fun q hq => by rw [← hH1, Array.getElem?_push, if_neg (Nat.ne_of_lt hq)]
  have hs := hr.1
  rw [hs]
  refine kk H1 _ ls (hr.push ?_ (by rw [z1, hs]) (fun q hq => o1 q (by rw [hs]; exact hq))) (jx_S_push hS z1 o1) hl
  show H1[sz]? = some (vp_cell _ _)
  rw [vp_cell_q, ← hs]
  exact e1
/-- the method's end -/
theorem jx_iret {mc ms : Nat} {Q : Option Value → jx_H → Nat → Prop} (k : jx_ok X l E b y cc nL (some .int) R) {v : Int32} (dd : decode cc pc = .ok (.ireturn, 1)) (h1 : ce ≤ mc) (h2 : sl ≤ ms) (hq : Q (some (.int v)) G sz) : jx_w X E b (jx_fin X E b Q mc ms) pc L [.int v] G sz ce sl := by
  obtain ⟨p, l0, e, R0, s, m, args, below, meth, c⟩ := X
  intro H locs ls hr hS hl
  obtain ⟨hx, hb, -, -, -, hlk, hret, -⟩ := k
  exact W.widen h1 h2 (W.iret hx hb hret (fun t ht hW => ⟨_, G, sz, rfl, hq, by rw [ht]; exact hr, hS.F ht⟩) hS.2.2 dd hlk)
theorem jx_zret {mc ms : Nat} {Q : Option Value → jx_H → Nat → Prop} (k : jx_ok X l E b y cc nL (some .boolean) R) {v : Int32} (dd : decode cc pc = .ok (.ireturn, 1)) (hn : narrow .boolean (.int v) = .int v) (h1 : ce ≤ mc) (h2 : sl ≤ ms) (hq : Q (some (.int v)) G sz) : jx_w X E b (jx_fin X E b Q mc ms) pc L [.int v] G sz ce sl := by
  obtain ⟨p, l0, e, R0, s, m, args, below, meth, c⟩ := X
  intro H locs ls hr hS hl
  obtain ⟨hx, hb, -, -, -, hlk, hret, -⟩ := k
  exact W.widen h1 h2 (W.zret hx hb hret hn (fun t ht hW => ⟨_, G, sz, rfl, hq, by rw [ht]; exact hr, hS.F ht⟩) hS.2.2 dd hlk)
theorem jx_lret {mc ms : Nat} {Q : Option Value → jx_H → Nat → Prop} (k : jx_ok X l E b y cc nL (some .long) R) {v : Int64} (dd : decode cc pc = .ok (.lreturn, 1)) (h1 : ce ≤ mc) (h2 : sl ≤ ms) (hq : Q (some (.long v)) G sz) : jx_w X E b (jx_fin X E b Q mc ms) pc L [.long v] G sz ce sl := by
  obtain ⟨p, l0, e, R0, s, m, args, below, meth, c⟩ := X
  intro H locs ls hr hS hl
  obtain ⟨hx, hb, -, -, -, hlk, hret, -⟩ := k
  exact W.widen h1 h2 (W.lret hx hb hret (fun t ht hW => ⟨_, G, sz, rfl, hq, by rw [ht]; exact hr, hS.F ht⟩) hS.2.2 dd hlk)
theorem jx_aret {mc ms : Nat} {Q : Option Value → jx_H → Nat → Prop} {C : String} (k : jx_ok X l E b y cc nL (some (.object C)) R) {v : Value} (hv : v = .null ∨ ∃ a, v = .ref a) (dd : decode cc pc = .ok (.areturn, 1)) (h1 : ce ≤ mc) (h2 : sl ≤ ms) (hq : Q (some v) G sz) : jx_w X E b (jx_fin X E b Q mc ms) pc L [v] G sz ce sl := by
  obtain ⟨p, l0, e, R0, s, m, args, below, meth, c⟩ := X
  intro H locs ls hr hS hl
  obtain ⟨hx, hb, -, -, -, hlk, hret, -⟩ := k
  exact W.widen h1 h2 (W.aret hx hb hret (Or.inl ⟨C, rfl⟩) hv (fun t ht hW => ⟨_, G, sz, rfl, hq, by rw [ht]; exact hr, hS.F ht⟩) hS.2.2 dd hlk)
theorem jx_vret {mc ms : Nat} {Q : Option Value → jx_H → Nat → Prop} (k : jx_ok X l E b y cc nL none R) (dd : decode cc pc = .ok (.return_, 1)) (h1 : ce ≤ mc) (h2 : sl ≤ ms) (hq : Q none G sz) : jx_w X E b (jx_fin X E b Q mc ms) pc L [] G sz ce sl := by
  obtain ⟨p, l0, e, R0, s, m, args, below, meth, c⟩ := X
  intro H locs ls hr hS hl
  obtain ⟨hx, hb, -, -, -, hlk, hret, -⟩ := k
  exact W.widen h1 h2 (W.vret hx hb hret (fun t ht hW => ⟨_, G, sz, rfl, hq, by rw [ht]; exact hr, hS.F ht⟩) hS.2.2 dd hlk)
/-- calls -/
def jx_mc (own : String) (idx : Nat) (y' : MethodName) (cc' : ByteArray) (nL' : Nat) (ret' : Option FieldType) (n : Nat) : Prop :=
  Cond.code y' cc' nL' ret' ∈ jn_TB ∧ Cond.initialized y'.cls ∈ jn_TB ∧ (y'.cls ≠ "java/lang/invoke/MethodHandle" ∧ y'.cls ≠ "java/lang/invoke/VarHandle") ∧ (parseMethodDescriptor y'.desc).map (fun d => d.parameters.length) = some n ∧ (Cond.methodLink own idx y' ∈ jn_TB ∨ ∃ host : String, Cond.methodLinkNest own idx y' host ∈ jn_TB)
def jx_ms (own : String) (idx : Nat) (y' : MethodName) (cc' : ByteArray) (nL' : Nat) (ret' : Option FieldType) (n : Nat) : Prop := jx_mc own idx y' cc' nL' ret' n ∧ Cond.static y' ∈ jn_TB
def jx_mv (own : String) (idx : Nat) (y' : MethodName) (cc' : ByteArray) (nL' : Nat) (ret' : Option FieldType) (n : Nat) : Prop := jx_mc own idx y' cc' nL' ret' n ∧ Cond.instanceMethod y' ∈ jn_TB ∧ Cond.selects y'.cls y' y' ∈ jn_TB
def jx_mi (own : String) (idx : Nat) (y' : MethodName) (cc' : ByteArray) (nL' : Nat) (n : Nat) : Prop := jx_mc own idx y' cc' nL' none n ∧ y'.name = "<init>" ∧ Cond.instanceMethod y' ∈ jn_TB
theorem jx_run {p : Program} {l0 : Launch} {e : Env} {R0 : Room} {s : State} {m : MethodId} {args : Array Value} {below : List Frame} {meth : Method} {c : Code} {H : Heap} {locs : List Loc} {ls : Array Slot} {mc' ms' : Nat} {a : Array Value} {Q' : Option Value → jx_H → Nat → Prop}
    (hr : va_Run p l0 e R0 s m args below meth c H locs ce sl mc' ms' (F0 m pc ls st) rest (jx_Q E b Q' a) (jx_A b)) (hS : va_S (jx_A b) s.heap H locs) (hl : jx_loc ls L)
    (kk : ∀ (v : Option Value) (G' : jx_H) (sz' : Nat), Q' v G' sz' → jx_w (p, l0, e, R0, s, m, args, below, meth, c) E b Q (pc + 3) L (v.toList ++ rest) G' sz' (ce + mc') (sl + ms')) : W p l0 e R0 s m args below meth c H locs ce sl Q (F0 m pc ls st) := by
  intro T hT Xs
  obtain ⟨v, st₀, t, T', L1, h0, X', hL, e1, e2, ⟨v', G', sz', hv, hq, hrep, hz, hk⟩, stp⟩ := hr T hT Xs
  cases hv
  rw [h0] at hz hk
  obtain ⟨t2, a1, b1⟩ := kk v G' sz' hq T'.heap (locs ++ L1) ls (by rw [e1]; exact hrep)
    ⟨Nat.le_trans hS.1 (by rw [e1]; exact hz), fun q h1 h2 => by rw [e1, hk q (Nat.lt_of_lt_of_le h1 hS.1) h2]; exact hS.2.1 q h1 h2, fun q hq => by
      rcases List.mem_append.mp hq with h | h
      · exact hS.2.2 q h
      · exact hL q h⟩ hl T' rfl X'
  exact ⟨t2, stp t2 a1, b1⟩
theorem jx_words {s : State} (htb : jx_tb s) {y' : MethodName} {cc' : ByteArray} {nL' : Nat} {ret' : Option FieldType} (h : Cond.code y' cc' nL' ret' ∈ jn_TB) : ∀ w ∈ [Cond.code y' cc' nL' ret'], ∀ (a' : Array Value) (U : State), s.WarmedH U.vm → w.before a' U = true := by
  intro w hw a' U hW
  rw [List.mem_singleton.mp hw]
  exact htb.moved hW _ h a'
theorem jx_par {y' : MethodName} {n : Nat} (h : (parseMethodDescriptor y'.desc).map (fun d => d.parameters.length) = some n) : ∀ sig, parseMethodDescriptor y'.desc = some sig → n = sig.parameters.length := by
  intro sig hs
  rw [hs] at h
  exact (Option.some.inj h).symm
theorem jx_pre {s : State} {H : Heap} {locs : List Loc} {As : List Value} (hg : jx_gl E b s s.heap) (hr : jx_rep E b G sz H) (hS : va_S (jx_A b) s.heap H locs) : ∀ U : State, U.heap = H → s.WarmedH U.vm → jx_P E b As G sz As.toArray U :=
  fun U hU hW => ⟨rfl, by rw [hU]; exact hr, hg.moved hW (fun a h1 h2 => by rw [hU]; exact hS.2.1 a h1 h2)⟩
theorem jx_callS (k : jx_ok X l E b y cc nL ret R) {idx n d' mc' ms' nL' : Nat} {y' : MethodName} {cc' : ByteArray} {ret' : Option FieldType} {As : List Value} {Q' : Option Value → jx_H → Nat → Prop} (hm : jx_ms y.cls idx y' cc' nL' ret' n) (hM : jx_ct l E b y' cc' nL' ret' d' mc' ms' As G sz Q') (dd : decode cc pc = .ok (.invokestatic idx, 3)) (hn : As.length = n) (hLn : L.length = nL) (hst : st = As.reverse ++ rest) (hrm : (rest.map fun v => v.category).sum ≤ 8) (hR : d' + 1 ≤ R.frames ∧ 8 + (nL' + 11) + 30 * d' ≤ R.locals) (hf : ce + mc' ≤ R.cells ∧ sl + ms' ≤ R.slots)
    (kk : ∀ (v : Option Value) (G' : jx_H) (sz' : Nat), Q' v G' sz' → jx_w X E b Q (pc + 3) L (v.toList ++ rest) G' sz' (ce + mc') (sl + ms')) : jx_w X E b Q pc L st G sz ce sl := by
  obtain ⟨p, l0, e, R0, s, m, args, below, meth, c⟩ := X
  intro H locs ls hr hS hl
  obtain ⟨⟨w1, w2, w3, w4, w5⟩, w6⟩ := hm
  obtain ⟨hx, hb, hml, hown, hg, -, -, rfl, rfl, -⟩ := k
  have htb := hg.1
  have hsz : ls.size = nL := hl.1.trans hLn
  have hno : ∀ w ∈ ([] : List Cond), w.before args s = true := fun w h => by cases h
  rcases w5 with w5 | ⟨host, w5⟩
  · exact jx_run (va_runS (Ts := []) (own := y.cls) ⟨hx, hb, hml, hown, hno⟩ hM ⟨⟨rfl, rfl, hR.1, hR.2, jx_words htb w1, List.mem_singleton.mpr rfl, htb _ w1 args, htb _ w2 args, w3, jx_par w4, htb _ w5 args⟩, htb _ w6 args⟩ ⟨jx_P_blind, jx_pre hg hr hS⟩ rfl hn hsz hst (lv_room hrm) dd hf) hS hl kk
  · exact jx_run (va_runSN (Ts := []) (own := y.cls) (host := host) ⟨hx, hb, hml, hown, hno⟩ hM ⟨⟨⟨rfl, rfl, hR.1, hR.2, jx_words htb w1, List.mem_singleton.mpr rfl⟩, htb _ w1 args, htb _ w2 args, w3, jx_par w4, htb _ w5 args⟩, htb _ w6 args, trivial⟩ ⟨jx_P_blind, jx_pre hg hr hS⟩ rfl hn hsz hst (lv_room hrm) dd hf) hS hl kk
theorem jx_callV (k : jx_ok X l E b y cc nL ret R) {idx n d' mc' ms' nL' a0 ci : Nat} {y' : MethodName} {cc' : ByteArray} {ret' : Option FieldType} {As : List Value} {Q' : Option Value → jx_H → Nat → Prop} {fs : List Value} (hm : jx_mv y.cls idx y' cc' nL' ret' n) (hM : jx_ct l E b y' cc' nL' ret' d' mc' ms' (.ref a0 :: As) G sz Q') (hG : G a0 = some (.inr (ci, fs))) (hc : (vwCl[ci]?).map (fun q => q.1) = some y'.cls) (dd : decode cc pc = .ok (.invokevirtual idx, 3)) (hn : As.length = n) (hLn : L.length = nL) (hst : st = As.reverse ++ .ref a0 :: rest) (hrm : (rest.map fun v => v.category).sum ≤ 8) (hR : d' + 1 ≤ R.frames ∧ 8 + (nL' + 11) + 30 * d' ≤ R.locals) (hf : ce + mc' ≤ R.cells ∧ sl + ms' ≤ R.slots)
    (kk : ∀ (v : Option Value) (G' : jx_H) (sz' : Nat), Q' v G' sz' → jx_w X E b Q (pc + 3) L (v.toList ++ rest) G' sz' (ce + mc') (sl + ms')) : jx_w X E b Q pc L st G sz ce sl := by
  obtain ⟨p, l0, e, R0, s, m, args, below, meth, c⟩ := X
  intro H locs ls hr hS hl
  obtain ⟨⟨w1, w2, w3, w4, w5⟩, w6, w7⟩ := hm
  obtain ⟨hx, hb, hml, hown, hg, -, -, rfl, rfl, -⟩ := k
  have htb := hg.1
  have hsz : ls.size = nL := hl.1.trans hLn
  have hno : ∀ w ∈ ([] : List Cond), w.before args s = true := fun w h => by cases h
  have hcell : ∃ cellB : Cell, H[a0]? = some cellB ∧ cellB.vm.isStatics = false ∧ s.vm.findClass y'.cls = some cellB.cls := by
    cases hq : vwCl[ci]? with
    | none => rw [hq] at hc; cases hc
    | some q =>
      rw [hq] at hc
      have hc2 : q.1 = y'.cls := Option.some.inj hc
      rw [← hc2]
      exact va_recv (D := E.1) hg.2.1 (hr.P hG) hq (q0 := 0) rfl
  rcases w5 with w5 | ⟨host, w5⟩
  · exact jx_run (va_runV (Ts := []) (own := y.cls) (C := y'.cls) ⟨hx, hb, hml, hown, hno⟩ hM ⟨⟨rfl, rfl, hR.1, hR.2, jx_words htb w1, List.mem_singleton.mpr rfl, htb _ w1 args, htb _ w2 args, w3, jx_par w4, htb _ w5 args⟩, htb _ w6 args, htb _ w7 args⟩ ⟨jx_P_blind, hcell, jx_pre hg hr hS⟩ rfl hn hsz hst (lv_room hrm) dd hf) hS hl kk
  · exact jx_run (va_runVN (Ts := []) (own := y.cls) (C := y'.cls) (host := host) ⟨hx, hb, hml, hown, hno⟩ hM ⟨⟨⟨rfl, rfl, hR.1, hR.2, jx_words htb w1, List.mem_singleton.mpr rfl⟩, htb _ w1 args, htb _ w2 args, w3, jx_par w4, htb _ w5 args⟩, htb _ w6 args, htb _ w7 args⟩ ⟨jx_P_blind, hcell, jx_pre hg hr hS⟩ rfl hn hsz hst (lv_room hrm) dd hf) hS hl kk
theorem jx_callI (k : jx_ok X l E b y cc nL ret R) {idx n d' mc' ms' nL' a0 : Nat} {y' : MethodName} {cc' : ByteArray} {As : List Value} {Q' : Option Value → jx_H → Nat → Prop} (hm : jx_mi y.cls idx y' cc' nL' n) (hM : jx_ct l E b y' cc' nL' none d' mc' ms' (.ref a0 :: As) G sz Q') (dd : decode cc pc = .ok (.invokespecial idx, 3)) (hn : As.length = n) (hLn : L.length = nL) (hst : st = As.reverse ++ .ref a0 :: rest) (hrm : (rest.map fun v => v.category).sum ≤ 8) (hR : d' + 1 ≤ R.frames ∧ 8 + (nL' + 11) + 30 * d' ≤ R.locals) (hf : ce + mc' ≤ R.cells ∧ sl + ms' ≤ R.slots)
    (kk : ∀ (v : Option Value) (G' : jx_H) (sz' : Nat), Q' v G' sz' → jx_w X E b Q (pc + 3) L (v.toList ++ rest) G' sz' (ce + mc') (sl + ms')) : jx_w X E b Q pc L st G sz ce sl := by
  obtain ⟨p, l0, e, R0, s, m, args, below, meth, c⟩ := X
  intro H locs ls hr hS hl
  obtain ⟨⟨w1, w2, w3, w4, w5⟩, w6, w7⟩ := hm
  obtain ⟨hx, hb, hml, hown, hg, -, -, rfl, rfl, -⟩ := k
  have htb := hg.1
  have hsz : ls.size = nL := hl.1.trans hLn
  have hno : ∀ w ∈ ([] : List Cond), w.before args s = true := fun w h => by cases h
  rcases w5 with w5 | ⟨host, w5⟩
  · exact jx_run (va_runI (Ts := []) (own := y.cls) ⟨hx, hb, hml, hown, hno⟩ hM ⟨⟨rfl, rfl, hR.1, hR.2, jx_words htb w1, List.mem_singleton.mpr rfl, htb _ w1 args, htb _ w2 args, w3, jx_par w4, htb _ w5 args⟩, w6, htb _ w7 args⟩ ⟨jx_P_blind, jx_pre hg hr hS⟩ rfl hn hsz hst (lv_room hrm) dd hf) hS hl kk
  · exact jx_run (va_runIN (Ts := []) (own := y.cls) (host := host) ⟨hx, hb, hml, hown, hno⟩ hM ⟨⟨⟨rfl, rfl, hR.1, hR.2, jx_words htb w1, List.mem_singleton.mpr rfl⟩, htb _ w1 args, htb _ w2 args, w3, jx_par w4, htb _ w5 args⟩, w6, htb _ w7 args⟩ ⟨jx_P_blind, jx_pre hg hr hS⟩ rfl hn hsz hst (lv_room hrm) dd hf) hS hl kk
theorem jx_obj (k : jx_ok X l E b y cc nL ret R) {idx a : Nat} (w1 : Cond.methodLink y.cls idx Lib.objectInit ∈ jn_TB) (w2 : Cond.instanceMethod Lib.objectInit ∈ jn_TB) (w3 : Cond.code Lib.objectInit ⟨#[0xb1]⟩ 1 none ∈ jn_TB) (dd : decode cc pc = .ok (.invokespecial idx, 3)) (hLn : L.length = nL) (hR : 1 ≤ R.frames) (hrm : (rest.map fun v => v.category).sum + 12 ≤ R.locals) (kk : jx_w X E b Q (pc + 3) L rest G sz ce sl) : jx_w X E b Q pc L (.ref a :: rest) G sz ce sl := by
  obtain ⟨p, l0, e, R0, s, m, args, below, meth, c⟩ := X
  intro H locs ls hr hS hl
  obtain ⟨hx, hb, hml, hown, hg, -, -, rfl, rfl, -⟩ := k
  have htb := hg.1
  exact W.objInit hx hb hown (htb _ w1 args) (htb _ w2 args) (htb _ w3 args) rfl (by show ls.size = c.maxLocals; rw [show c.maxLocals = nL from hml]; exact hl.1.trans hLn) rfl dd hR (by show 2 * 0 + _ + 12 ≤ _; omega) (kk H locs ls hr hS hl)
/-- a method that changes nothing -/
abbrev jx_pu (r : Value) (G : jx_H) (sz : Nat) : Option Value → jx_H → Nat → Prop := fun v G' sz' => v = some r ∧ G' = G ∧ sz' = sz
theorem jx_callSP (k : jx_ok X l E b y cc nL ret R) {idx n d' nL' : Nat} {y' : MethodName} {cc' : ByteArray} {ret' : Option FieldType} {As : List Value} {r : Value} (hm : jx_ms y.cls idx y' cc' nL' ret' n) (hM : jx_ct l E b y' cc' nL' ret' d' 0 0 As G sz (jx_pu r G sz)) (dd : decode cc pc = .ok (.invokestatic idx, 3)) (hn : As.length = n) (hLn : L.length = nL) (hst : st = As.reverse ++ rest) (hrm : (rest.map fun v => v.category).sum ≤ 8) (hR : d' + 1 ≤ R.frames ∧ 8 + (nL' + 11) + 30 * d' ≤ R.locals) (hf : ce ≤ R.cells ∧ sl ≤ R.slots)
    (kk : jx_w X E b Q (pc + 3) L (r :: rest) G sz ce sl) : jx_w X E b Q pc L st G sz ce sl := by
  refine jx_callS k hm hM dd hn hLn hst hrm hR hf ?_
  rintro v G' sz' ⟨rfl, rfl, rfl⟩
  exact kk
theorem jx_callVP (k : jx_ok X l E b y cc nL ret R) {idx n d' nL' a0 ci : Nat} {y' : MethodName} {cc' : ByteArray} {ret' : Option FieldType} {As : List Value} {r : Value} {fs : List Value} (hm : jx_mv y.cls idx y' cc' nL' ret' n) (hM : jx_ct l E b y' cc' nL' ret' d' 0 0 (.ref a0 :: As) G sz (jx_pu r G sz)) (hG : G a0 = some (.inr (ci, fs))) (hc : (vwCl[ci]?).map (fun q => q.1) = some y'.cls) (dd : decode cc pc = .ok (.invokevirtual idx, 3)) (hn : As.length = n) (hLn : L.length = nL) (hst : st = As.reverse ++ .ref a0 :: rest) (hrm : (rest.map fun v => v.category).sum ≤ 8) (hR : d' + 1 ≤ R.frames ∧ 8 + (nL' + 11) + 30 * d' ≤ R.locals) (hf : ce ≤ R.cells ∧ sl ≤ R.slots)
    (kk : jx_w X E b Q (pc + 3) L (r :: rest) G sz ce sl) : jx_w X E b Q pc L st G sz ce sl := by
  refine jx_callV k hm hM hG hc dd hn hLn hst hrm hR hf ?_
  rintro v G' sz' ⟨rfl, rfl, rfl⟩
  exact kk
end CoreRows
/-! Pure rows: loops as folds, numbers. -/
def fo_f {α : Type} (f : Nat → α → α) (lo : Nat) : Nat → α → α
  | 0, x => x
  | n + 1, x => f (lo + n) (fo_f f lo n x)
theorem fo_0 {α : Type} (f : Nat → α → α) (lo : Nat) (x : α) : fo_f f lo 0 x = x := rfl
theorem fo_s {α : Type} (f : Nat → α → α) (lo n : Nat) (x : α) : fo_f f lo (n + 1) x = f (lo + n) (fo_f f lo n x) := rfl
/-- a loop from lo to hi whose body turns the state x at p into f p x -/
theorem fo_l {α : Type} (K : Nat → α → Prop) (f : Nat → α → α) {lo hi : Nat} (hle : lo ≤ hi) (x0 : α) (hst : ∀ p, lo ≤ p → p < hi → K (p + 1) (f p (fo_f f lo (p - lo) x0)) → K p (fo_f f lo (p - lo) x0)) (hex : K hi (fo_f f lo (hi - lo) x0)) : K lo x0 := by
  have key : ∀ j, j ≤ hi - lo → K (hi - j) (fo_f f lo (hi - j - lo) x0) := by
    intro j
    induction j with
    | zero => intro _; exact hex
    | succ j ih =>
      intro hj
      have h1 := ih (by omega)
      have e1 : hi - j = (hi - (j + 1)) + 1 := by omega
      have e2 : hi - j - lo = (hi - (j + 1) - lo) + 1 := by omega
      rw [e2, fo_s, e1] at h1
      have e3 : lo + (hi - (j + 1) - lo) = hi - (j + 1) := by omega
      rw [e3] at h1
      exact hst (hi - (j + 1)) (by omega) (by omega) h1
  have h := key (hi - lo) (Nat.le_refl _)
  have e4 : hi - (hi - lo) = lo := by omega
  rw [e4, Nat.sub_self] at h
  exact h
/-- a loop by what is left -/
theorem fo_d (K : Nat → Prop) {lo hi : Nat} (hle : lo ≤ hi) (hst : ∀ p, lo ≤ p → p < hi → K (p + 1) → K p) (hex : K hi) : K lo := by
  have key : ∀ j, j ≤ hi - lo → K (hi - j) := by
    intro j
    induction j with
    | zero => intro _; exact hex
    | succ j ih =>
      intro hj
      have h1 := ih (by omega)
      rw [show hi - j = (hi - (j + 1)) + 1 by omega] at h1
      exact hst (hi - (j + 1)) (by omega) (by omega) h1
  have h := key (hi - lo) (Nat.le_refl _)
  rw [show hi - (hi - lo) = lo by omega] at h
  exact h
/-- a truth value as an int -/
def jb_z (c : Prop) [Decidable c] : Int32 := if c then 1 else 0
theorem jb_t {c : Prop} [Decidable c] (h : c) : jb_z c = 1 := if_pos h
theorem jb_f {c : Prop} [Decidable c] (h : ¬ c) : jb_z c = 0 := if_neg h
theorem jb_n (c : Prop) [Decidable c] : narrow .boolean (.int (jb_z c)) = .int (jb_z c) := by
  by_cases h : c
  · rw [jb_t h]; rfl
  · rw [jb_f h]; rfl
theorem jb_e0 {c : Prop} [Decidable c] : jb_z c = 0 ↔ ¬ c := by
  by_cases h : c
  · rw [jb_t h]; exact ⟨fun q => absurd q (by decide), fun q => absurd h q⟩
  · rw [jb_f h]; exact ⟨fun _ => h, fun _ => rfl⟩
theorem jb_c {c d : Prop} [Decidable c] [Decidable d] (h : c ↔ d) : jb_z c = jb_z d := by
  by_cases hc : c
  · rw [jb_t hc, jb_t (h.mp hc)]
  · rw [jb_f hc, jb_f (fun q => hc (h.mpr q))]
