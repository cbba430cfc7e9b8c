/-! Pure rows: closing the bundle, the stores' turns. -/
def gH (β : Nat → bd_T) (ρ : Nat → Nat → Int32) (uw : Nat) (co : Int32) (σ : rs_S) : Prop :=
  σ.2.1 6 70 = nI (d_sn β uw) ∧ d_sn β uw ≤ 4 ∧ (∀ q, q < d_sn β uw → σ.2.1 7 (280 + q) = d_so β uw q ∧ σ.2.2 (280 + q) = d_tx β uw q) ∧ (∀ k, k < 8 → σ.2.1 10 (560 + k) = d_sd β uw k) ∧ (σ.2.1 11 70 = if d_po β uw = none then 0 else 1) ∧ (∀ pa, d_po β uw = some pa → ∀ r, r < 8 → σ.2.1 13 (560 + r) = ρ pa r) ∧ σ.2.1 14 70 = co ∧ (∀ c, c < 2 → σ.2.1 9 (140 + c) = d_he β uw c) ∧ d_ba β uw = -1 ∧ d_sb β uw = sm (fun q => 2 + mg_n (d_tx β uw q)) 0 (d_sn β uw)
def gFo (β : Nat → bd_T) (ρ : Nat → Nat → Int32) (fo : Option Nat) (σ : rs_S) : Prop := match fo with
  | none => σ.1 4 = -1
  | some z => σ.1 4 = d_tm β z ∧ 0 ≤ d_tm β z ∧ ∃ pa, d_po β z = some pa ∧ ∀ r, r < 8 → σ.2.1 16 r = ρ pa r
theorem fo_up (v : Nat → Int32) (f0 : Nat → Int32) (lo : Nat) : ∀ n j, fo_f (fun p f => upd f (lo + p) (v p)) 0 n f0 j = if lo ≤ j ∧ j < lo + n then v (j - lo) else f0 j := by
  intro n
  induction n with
  | zero => intro j; exact (if_neg (fun e => by omega)).symm
  | succ n ih =>
    intro j
    rw [fo_s, Nat.zero_add]
    by_cases e : j = lo + n
    · rw [e, pk_us, if_pos ⟨by omega, by omega⟩, show lo + n - lo = n by omega]
    · rw [pk_un e, ih]
      by_cases y : lo ≤ j ∧ j < lo + n
      · rw [if_pos y, if_pos ⟨by omega, by omega⟩]
      · rw [if_neg y, if_neg (fun z => by omega)]
theorem pr_x_at (r q : Nat → Int32) {p : Nat} (hp : p < 8) : pr_x r q p = r p ^^^ q p := by
  have e : ∀ n j, fo_f (fun p f => upd f p (r p ^^^ q p)) 0 n (fun _ => 0) j = if j < n then r j ^^^ q j else 0 := by
    intro n
    induction n with
    | zero => intro j; rfl
    | succ n ih =>
      intro j
      rw [fo_s, Nat.zero_add]
      by_cases e : j = n
      · rw [e, pk_us, if_pos (by omega)]
      · rw [pk_un e, ih]
        by_cases y : j < n
        · rw [if_pos y, if_pos (by omega)]
        · rw [if_neg y, if_neg (by omega)]
  rw [pr_x, e, if_pos hp]
theorem pr_c_ne (r : Nat → Int32) (c : Nat) : pr_c r c ≠ -1 := by
  rw [pr_c, pk_and _ 2 (by decide)]
  intro e
  have h := nI_pos' (n := (r (c / 8) >>> (((2 : Int32) * nI (c % 8)) &&& 31)).toBitVec.toNat % 2 ^ 2) (by omega)
  rw [e] at h
  exact m1_neg h
theorem mr_pr {σ : rs_S} {ch : Int32} {r : Nat → Int32} (h : ∀ c, c < 64 → mr_c σ ch c = pr_c r c) : mr_n σ ch = pr_n r := by
  have key : ∀ n, n < 64 → fo_f (mr_f σ ch) 0 (n + 1) (0, -1) = (fo_f (pr_f r) 1 n 1, pr_c r n) := by
    intro n
    induction n with
    | zero =>
      intro _
      rw [fo_s, fo_0, mr_f, Nat.zero_add, h 0 (by decide), if_neg (pr_c_ne r 0)]
      rfl
    | succ n ih =>
      intro hn
      rw [fo_s, ih (by omega), mr_f, Nat.zero_add, h (n + 1) hn, fo_s, pr_f, show 1 + n = n + 1 by omega, show n + 1 - 1 = n by omega]
  rw [mr_n, key 63 (by decide), pr_n]
theorem mr_0 {σ : rs_S} {r : Nat → Int32} (h : ∀ p, p < 8 → σ.2.1 13 (560 + p) = r p) : mr_n σ 0 = pr_n r := by
  refine mr_pr (fun c hc => ?_)
  rw [mr_c, pr_c, if_pos rfl, h (c / 8) (by omega), Int32.xor_zero]
theorem mr_1 {σ : rs_S} {r q : Nat → Int32} (h : ∀ p, p < 8 → σ.2.1 13 (560 + p) = r p) (h2 : ∀ p, p < 8 → σ.2.1 16 p = q p) : mr_n σ 1 = pr_n (pr_x r q) := by
  refine mr_pr (fun c hc => ?_)
  rw [mr_c, pr_c, if_neg (by decide), h (c / 8) (by omega), h2 (c / 8) (by omega), pr_x_at _ _ (by omega)]
theorem cl_sn (d : bd_T) (co ba : Int32) (pb : Nat) : (bd_cl d co ba pb).2.2.2.2 0 = d.2.2.2.2 0 := rfl
theorem cl_sb (d : bd_T) (co ba : Int32) (pb : Nat) : (bd_cl d co ba pb).2.2.2.2 2 = d.2.2.2.2 2 := rfl
theorem cl_pb (d : bd_T) (co ba : Int32) (pb : Nat) : (bd_cl d co ba pb).2.2.2.2 1 = pb := rfl
theorem cl_tm (d : bd_T) (co ba : Int32) (pb : Nat) : (bd_cl d co ba pb).1 0 = d.1 0 := rfl
theorem cl_cs (d : bd_T) (co ba : Int32) (pb : Nat) : (bd_cl d co ba pb).1 1 = co := rfl
theorem cl_ba (d : bd_T) (co ba : Int32) (pb : Nat) : (bd_cl d co ba pb).1 2 = ba := rfl
theorem g_cls {β : Nat → bd_T} {ρ : Nat → Nat → Int32} {uw : Nat} {fo : Option Nat} {co : Int32} {σ : rs_S} {c : Bool} (hH : gH β ρ uw co σ) (hfo : gFo β ρ fo σ) (hn : σ.1 1 = d_tm β uw) (hfu : ∀ z, fo = some z → z ≠ uw) (hcan : mp_can σ ↔ c = true) :
    cn (k2_b fo β ρ uw co) ρ (sc_p σ c).2 70 uw 0 ∧ (d_po β uw ≠ none → (sc_p σ c).1 = d_pb (k2_b fo β ρ uw co) uw) ∧ (∀ j, j ≠ 0 → (sc_p σ c).2.1 j = σ.1 j) ∧ (∀ k, k ≠ 12 → (sc_p σ c).2.2.1 k = σ.2.1 k) ∧ (sc_p σ c).2.2.2 = σ.2.2 ∧ (∀ b, b ≠ 70 → (sc_p σ c).2.2.1 12 b = σ.2.1 12 b) := by
  obtain ⟨a1, a2, a3, a4, a5, a6, a7, a8, a9, a10⟩ := hH
  have eB : k2_b fo β ρ uw co uw = bd_cl (β uw) co (ka_cl β ρ uw (ka_fm fo β uw)).1 (ka_cl β ρ uw (ka_fm fo β uw)).2 := va_up_self _ _ _
  have eS : d_sn (k2_b fo β ρ uw co) uw = d_sn β uw := by unfold d_sn; rw [eB, cl_sn]
  have eO : d_so (k2_b fo β ρ uw co) uw = d_so β uw := by unfold d_so; rw [eB]; rfl
  have eT : d_tx (k2_b fo β ρ uw co) uw = d_tx β uw := by unfold d_tx; rw [eB]; rfl
  have eD : d_sd (k2_b fo β ρ uw co) uw = d_sd β uw := by unfold d_sd; rw [eB]; rfl
  have eP : d_po (k2_b fo β ρ uw co) uw = d_po β uw := by unfold d_po; rw [eB]; rfl
  have eC : d_cs (k2_b fo β ρ uw co) uw = co := by unfold d_cs; rw [eB, cl_cs]
  have eA : d_ba (k2_b fo β ρ uw co) uw = (ka_cl β ρ uw (ka_fm fo β uw)).1 := by unfold d_ba; rw [eB, cl_ba]
  have ePb : d_pb (k2_b fo β ρ uw co) uw = (ka_cl β ρ uw (ka_fm fo β uw)).2 := by unfold d_pb; rw [eB, cl_pb]
  have base : ∀ τ : rs_S, (∀ k, k ≠ 12 → τ.2.1 k = σ.2.1 k) → τ.2.2 = σ.2.2 → (∀ pa, d_po β uw = some pa → τ.2.1 12 70 = (ka_cl β ρ uw (ka_fm fo β uw)).1 ∧ ((ka_cl β ρ uw (ka_fm fo β uw)).1 = -1 ∨ 0 ≤ (ka_cl β ρ uw (ka_fm fo β uw)).1)) → cn (k2_b fo β ρ uw co) ρ τ 70 uw 0 := by
    intro τ t1 t2 t3
    unfold cn
    rw [eS, eO, eT, eD, eP, eC, eA, t1 6 (by decide), t1 7 (by decide), t1 10 (by decide), t1 11 (by decide), t1 13 (by decide), t1 14 (by decide), t2]
    refine ⟨a1, a2, a3, fun k hk => ?_, a5, fun pa hp => ⟨(t3 pa hp).1, (t3 pa hp).2, a6 pa hp⟩, a7⟩
    rw [if_pos (by show k < 4 * 2; omega)]
    exact a4 k hk
  rw [sc_p]
  by_cases h11 : σ.2.1 11 70 = 0
  · rw [if_pos h11]
    have hp : d_po β uw = none := by
      rw [a5] at h11
      refine Classical.byContradiction (fun e => ?_)
      rw [if_neg e] at h11
      exact absurd h11 (by decide)
    refine ⟨base _ (fun _ _ => rfl) rfl (fun pa e => by rw [hp] at e; cases e), fun e => absurd hp e, fun j hj => va_up_ne _ _ hj, fun _ _ => rfl, rfl, fun _ _ => rfl⟩
  · rw [if_neg h11]
    have hp : ∃ pa, d_po β uw = some pa := by
      cases e : d_po β uw with
      | none => rw [a5, if_pos e] at h11; exact absurd rfl h11
      | some pa => exact ⟨pa, rfl⟩
    obtain ⟨pa, hp⟩ := hp
    have r0 : mr_n (rs_f σ 0 0) 0 = pr_n (ρ pa) := mr_0 (σ := rs_f σ 0 0) (a6 pa hp)
    have b0 : mp_b0 (rs_f σ 0 0) = pr_m (pr_n (ρ pa)) := by rw [mp_b0, r0, pr_m]
    have fin : ∀ (v : Int32) (n : Nat), ka_cl β ρ uw (ka_fm fo β uw) = (v, n) → (v = -1 ∨ 0 ≤ v) → mp_code (rs_f σ 0 0) c = (n, rs_a (rs_f σ 0 0) 12 (upd ((rs_f σ 0 0).2.1 12) 70 v)) → cn (k2_b fo β ρ uw co) ρ (mp_code (rs_f σ 0 0) c).2 70 uw 0 ∧ (d_po β uw ≠ none → (mp_code (rs_f σ 0 0) c).1 = d_pb (k2_b fo β ρ uw co) uw) ∧ (∀ j, j ≠ 0 → (mp_code (rs_f σ 0 0) c).2.1 j = σ.1 j) ∧ (∀ k, k ≠ 12 → (mp_code (rs_f σ 0 0) c).2.2.1 k = σ.2.1 k) ∧ (mp_code (rs_f σ 0 0) c).2.2.2 = σ.2.2 ∧ (∀ b, b ≠ 70 → (mp_code (rs_f σ 0 0) c).2.2.1 12 b = σ.2.1 12 b) := by
      intro v n e1 e2 e3
      rw [e3]
      refine ⟨base _ (fun k hk => by rw [rs_an _ _ hk]) rfl (fun _ _ => ?_), fun _ => by rw [ePb, e1], fun j hj => va_up_ne _ _ hj, fun k hk => by rw [rs_an _ _ hk], rfl, fun b hb => by rw [rs_av, pk_un hb]⟩
      rw [e1, rs_av, pk_us]
      exact ⟨rfl, e2⟩
    have hcase : fo = none ∨ ∃ z, fo = some z := by
      cases fo with
      | none => exact .inl rfl
      | some z => exact .inr ⟨z, rfl⟩
    rcases hcase with hfo1 | ⟨z, hfo1⟩
    · rw [hfo1] at hfo
      have hc : ¬ c = true := fun e => by
        have := (hcan.mpr e).1
        rw [show σ.1 4 = -1 from hfo] at this
        exact m1_neg this
      refine fin (-1) (pr_m (pr_n (ρ pa))) ?_ (.inl rfl) ?_
      · rw [ka_cl, hp, hfo1, ka_fm]
        show (d_ba β uw, pr_m (pr_n (ρ pa))) = _
        rw [a9]
      · rw [mp_code, if_neg (fun e => hc e.1), b0]
    · rw [hfo1] at hfo
      obtain ⟨f1, f2, fp, f3, f4⟩ := hfo
      have hcm : c = true ↔ d_tm β z / 10 = d_tm β uw / 10 := by
        rw [← hcan, mp_can, f1, hn]
        exact ⟨fun e => e.2, fun e => ⟨f2, e⟩⟩
      have r1 : mr_n (rs_f σ 0 0) 1 = pr_n (pr_x (ρ pa) (ρ fp)) := mr_1 (σ := rs_f σ 0 0) (a6 pa hp) f4
      by_cases hm : d_tm β z / 10 = d_tm β uw / 10
      · have ek : ka_cl β ρ uw (ka_fm fo β uw) = ((pr_b (ρ pa) (ρ fp) (d_tm β z) (-1)).2, (pr_b (ρ pa) (ρ fp) (d_tm β z) (-1)).1) := by
          have : ka_fm fo β uw = some z := by rw [hfo1]; exact if_pos hm
          rw [this, ka_cl, hp]
          show (match d_po β z with | none => (d_ba β uw, d_pb β uw) | some fp => ((pr_b (ρ pa) (ρ fp) (d_tm β z) (d_ba β uw)).2, (pr_b (ρ pa) (ρ fp) (d_tm β z) (d_ba β uw)).1)) = _
          rw [f3, a9]
        by_cases hx : pr_n (pr_x (ρ pa) (ρ fp)) < pr_m (pr_n (ρ pa))
        · refine fin (d_tm β z) (pr_n (pr_x (ρ pa) (ρ fp))) ?_ (.inr f2) ?_
          · rw [ek, pr_b, if_pos hx]
          · rw [mp_code, if_pos ⟨hcm.mpr hm, by rw [r1, b0]; exact hx⟩, r1]
            show (_, rs_a (rs_f σ 0 0) 12 (upd _ 70 (va_up σ.1 0 0 4))) = _
            rw [va_up_ne _ _ (by decide), f1]
        · refine fin (-1) (pr_m (pr_n (ρ pa))) ?_ (.inl rfl) ?_
          · rw [ek, pr_b, if_neg hx]
          · rw [mp_code, if_neg (fun e => hx (by rw [← r1, ← b0]; exact e.2)), b0]
      · refine fin (-1) (pr_m (pr_n (ρ pa))) ?_ (.inl rfl) ?_
        · have : ka_fm fo β uw = none := by rw [hfo1]; exact if_neg hm
          rw [this, ka_cl, hp]
          show (d_ba β uw, pr_m (pr_n (ρ pa))) = _
          rw [a9]
        · rw [mp_code, if_neg (fun e => hm (hcm.mp e.1)), b0]
