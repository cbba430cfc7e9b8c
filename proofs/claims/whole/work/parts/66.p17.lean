/-! Pure rows: freezing, and what only answers. -/
section Calls3
variable {uw : Nat} {fo : Option Nat} {ca : Nat} {co : Int32} {lo : Nat} {lc : Int32} {kn : Option Nat} {on cut : Int32} {u f g fl : Nat → Int32} {h : Nat → Nat → Option Nat} {sp : Nat → Nat → Int32} {β : Nat → bd_T} {ρ : Nat → Nat → Int32} {D P : Nat → Prop} {σ : rs_S} {sz : Nat}
theorem mx_un {σ : rs_S} {u : Nat → Int32} (hu : ∀ i, i < 3 → σ.2.1 17 i = u i) : (mx_f σ 3 0 = 3 ∧ fz_un u = -1) ∨ (mx_f σ 3 0 < 3 ∧ fz_un u = nI (mx_f σ 3 0)) := by
  have h0 := hu 0 (by decide)
  have h1 := hu 1 (by decide)
  have h2 := hu 2 (by decide)
  have e : mx_f σ 3 0 = if σ.2.1 17 0 = 0 then 0 else if σ.2.1 17 1 = 0 then 1 else if σ.2.1 17 2 = 0 then 2 else 3 := rfl
  rw [e, h0, h1, h2, fz_un]
  by_cases a : u 0 = 0
  · rw [if_pos a, if_pos a]; exact .inr ⟨by decide, rfl⟩
  · rw [if_neg a, if_neg a]
    by_cases b : u 1 = 0
    · rw [if_pos b, if_pos b]; exact .inr ⟨by decide, rfl⟩
    · rw [if_neg b, if_neg b]
      by_cases c : u 2 = 0
      · rw [if_pos c, if_pos c]; exact .inr ⟨by decide, rfl⟩
      · rw [if_neg c, if_neg c]; exact .inl ⟨rfl, rfl⟩
theorem R_freeze0 (hR : RR uw fo ca co lo lc kn on cut u f g fl h sp β ρ σ) (h1 : on = 1) (nw : Nat) (be af : Int32) (hr : ¬ ka_fr be af ∨ fz_un u = -1) : (-1 : Int32) = (ms_freeze σ nw be af).1 ∧ RR uw fo ca co lo lc kn on cut u f g fl h sp β ρ (ms_freeze σ nw be af).2 ∧ (ms_freeze σ nw be af).2.1 0 = 0 := by
  obtain ⟨c1, c2, c3, c4, c5, c6, c7, c8, c9, c10⟩ := hR.2.2.2.2.2.1
  have hn : ¬ ((0 ≤ be ∧ be < 10) ∧ (0 ≤ af ∧ af < 10) ∧ mx_f σ 3 0 ≠ 3) := by
    rintro ⟨a, b, c⟩
    rcases hr with e | e
    · exact e ⟨a, b⟩
    · rcases mx_un c7 with x | x
      · exact c x.1
      · rw [e] at x
        have := nI_pos' (n := mx_f σ 3 0) (by omega)
        rw [← x.2] at this
        exact m1_neg this
  rw [ms_freeze, if_neg (R_n1 hR h1), if_neg hn]
  exact ⟨rfl, RR_0 0 hR, rfl⟩
theorem f1_e {nw : Nat} {be : Int32} (hw : nw ≤ 9999) (hb : 0 ≤ be ∧ be < 10) : (if 0 < nI nw - be then nI nw - be else 0) = if nI nw ≤ be then 0 else nI nw - be := by
  obtain ⟨k, k1, rfl⟩ := nI_lift (n := 10) hb.1 hb.2 (by decide)
  by_cases e : nw ≤ k
  · rw [if_pos (nI_le e (by omega)), if_neg]
    intro x
    rw [Int32.lt_iff_toInt_lt, tI0, Int32.toInt_sub, nI_toInt (by omega), nI_toInt (by omega)] at x
    have : ((nw : Int) - (k : Int)).bmod (2 ^ 32) = (nw : Int) - k := by
      apply Int.bmod_eq_of_le <;> omega
    rw [this] at x
    omega
  · rw [if_neg (nI_ge (by omega) (by omega)), pk_sub (by omega), if_pos]
    have := nI_lt (a := 0) (b := nw - k) (by omega) (by omega)
    exact this
theorem R_freeze1 (hR : RR uw fo ca co lo lc kn on cut u f g fl h sp β ρ σ) (h1 : on = 1) {nw : Nat} (hw : d_tm β uw = nI nw) (hw2 : nw ≤ 9999) (be af : Int32) (hr : ka_fr be af) {j : Nat} (hj : j < 3) (hu : fz_un u = nI j) :
    if 20 < kf_n (upd u j 1) (ka_f1 f β uw j be) (ka_g1 g β uw j af) β uw h then (-1 : Int32) = (ms_freeze σ nw be af).1 ∧ RR uw fo ca co lo lc kn on cut (upd (upd u j 1) j 0) (ka_f1 f β uw j be) (ka_g1 g β uw j af) fl h sp β ρ (ms_freeze σ nw be af).2 ∧ (ms_freeze σ nw be af).2.1 0 = 0 else nI j = (ms_freeze σ nw be af).1 ∧ RR uw fo ca co lo lc kn on cut (upd u j 1) (ka_f1 f β uw j be) (ka_g1 g β uw j af) fl h sp β ρ (ms_freeze σ nw be af).2 ∧ (ms_freeze σ nw be af).2.1 0 = 0 := by
  obtain ⟨c1, c2, c3, c4, c5, c6, c7, c8, c9, c10⟩ := hR.2.2.2.2.2.1
  have hx : mx_f σ 3 0 = j := by
    rcases mx_un c7 with x | x
    · rw [hu] at x
      have := nI_pos' (n := j) (by omega)
      rw [x.2] at this
      exact absurd this m1_neg
    · rw [hu] at x
      exact ((nI_eq (by omega) (by omega)).mp x.2).symm
  have es : ms_freeze σ nw be af = if me_n (mx_s σ j be af) nw ≤ 20 then (nI j, rs_a (mx_s σ j be af) 17 (upd (upd (σ.2.1 17) j 1) j 1)) else (-1, rs_a (mx_s σ j be af) 17 (upd (upd (σ.2.1 17) j 1) j 0)) := by
    rw [ms_freeze, if_neg (R_n1 hR h1), hx]
    exact if_pos ⟨hr.1, hr.2, by omega⟩
  rw [es]
  generalize hτ : mx_s σ j be af = τ
  have e17 : τ.2.1 17 = upd (σ.2.1 17) j 1 := by rw [← hτ, mx_s, rs_an _ _ (by decide), rs_an _ _ (by decide), rs_av]
  have e18 : τ.2.1 18 = upd (σ.2.1 18) j (if σ.1 1 ≤ be then 0 else σ.1 1 - be) := by rw [← hτ, mx_s, rs_an _ _ (by decide), rs_av]
  have e19 : τ.2.1 19 = upd (σ.2.1 19) j (σ.1 1 + af) := by rw [← hτ, mx_s, rs_av]
  have eK : ∀ k, k ≠ 17 → k ≠ 18 → k ≠ 19 → τ.2.1 k = σ.2.1 k := fun k k1 k2 k3 => by rw [← hτ, mx_s, rs_an _ _ k3, rs_an _ _ k2, rs_an _ _ k1]
  have eX : τ.2.2 = σ.2.2 := by rw [← hτ, mx_s]
  have e1 : ∀ j, j ≠ 0 → τ.1 j = σ.1 j := fun j hj => by rw [← hτ, mx_s]; exact va_up_ne _ _ hj
  have e0 : τ.1 0 = 0 := by rw [← hτ, mx_s]; rfl
  have n2 : ∀ i, i < 3 → τ.2.1 17 i = upd u j 1 i := fun i hi => by
    rw [e17]
    by_cases e : i = j
    · rw [e, pk_us, pk_us]
    · rw [pk_un e, pk_un e]; exact c7 i hi
  have n3 : ∀ i, i < 3 → τ.2.1 18 i = ka_f1 f β uw j be i := fun i hi => by
    rw [e18, ka_f1]
    by_cases e : i = j
    · rw [e, pk_us, pk_us, c1, hw, f1_e hw2 hr.1]
    · rw [pk_un e, pk_un e]; exact c8 i hi
  have n4 : ∀ i, i < 3 → τ.2.1 19 i = ka_g1 g β uw j af i := fun i hi => by
    rw [e19, ka_g1]
    by_cases e : i = j
    · rw [e, pk_us, pk_us, c1]
    · rw [pk_un e, pk_un e]; exact c9 i hi
  have hRt : RR uw fo ca co lo lc kn on cut (upd u j 1) (ka_f1 f β uw j be) (ka_g1 g β uw j af) fl h sp β ρ τ :=
    RR_n hR (fun k _ k1 => eK k (by omega) (by omega) (by omega)) (eK 20 (by decide) (by decide) (by decide)) eX (fun j hj => e1 j (by omega)) (by rw [e1 2 (by decide)]; exact c3) (by rw [e1 3 (by decide)]; exact c4) c5 (by rw [eK 1 (by decide) (by decide) (by decide)]; exact c6) n2 n3 n4
  obtain ⟨A, gJ', gL', gS', gC'⟩ := hRt.1
  have em : me_n τ nw = nI (kf_n (upd u j 1) (ka_f1 f β uw j be) (ka_g1 g β uw j af) β uw h) := g_kf gJ' gL' gS' (fun t => fz_cg n2 n3 n4) hw
  have hle := kf_n_le (u := upd u j 1) (f := ka_f1 f β uw j be) (g := ka_g1 g β uw j af) (β := β) (uw := uw) (h := h)
  by_cases hk : 20 < kf_n (upd u j 1) (ka_f1 f β uw j be) (ka_g1 g β uw j af) β uw h
  · have hn : ¬ me_n τ nw ≤ 20 := by
      rw [em]
      exact nI_ge (a := 20) hk (by omega)
    rw [if_pos hk, if_neg hn]
    refine ⟨rfl, ?_, e0⟩
    obtain ⟨d1, d2, d3, d4, d5, d6, d7, d8, d9, d10⟩ := hRt.2.2.2.2.2.1
    refine RR_n hRt (fun k _ k1 => rs_an _ _ (by omega)) (rs_an _ _ (by decide)) rfl (fun _ _ => rfl) d3 d4 d5 (by rw [rs_an _ _ (by decide)]; exact d6) (fun i hi => ?_) (by rw [rs_an _ _ (by decide)]; exact d8) (by rw [rs_an _ _ (by decide)]; exact d9)
    rw [rs_av]
    by_cases e : i = j
    · rw [e, pk_us, pk_us]
    · rw [pk_un e, pk_un e, pk_un e, pk_un e]; exact c7 i hi
  · have hn : me_n τ nw ≤ 20 := by
      rw [em]
      exact nI_le (b := 20) (by omega) (by decide)
    rw [if_neg hk, if_pos hn]
    refine ⟨rfl, ?_, e0⟩
    obtain ⟨d1, d2, d3, d4, d5, d6, d7, d8, d9, d10⟩ := hRt.2.2.2.2.2.1
    refine RR_n hRt (fun k _ k1 => rs_an _ _ (by omega)) (rs_an _ _ (by decide)) rfl (fun _ _ => rfl) d3 d4 d5 (by rw [rs_an _ _ (by decide)]; exact d6) (fun i hi => ?_) (by rw [rs_an _ _ (by decide)]; exact d8) (by rw [rs_an _ _ (by decide)]; exact d9)
    rw [rs_av, upd_upd]
    by_cases e : i = j
    · rw [e, pk_us, pk_us]
    · rw [pk_un e, pk_un e]; exact c7 i hi
theorem R_now (hR : RR uw fo ca co lo lc kn on cut u f g fl h sp β ρ σ) : d_tm β uw = σ.1 1 := hR.2.2.2.2.2.1.1.symm
theorem R_frozen (hR : RR uw fo ca co lo lc kn on cut u f g fl h sp β ρ σ) (i z : Int32) : ka_frozen u f g i z = ms_frozen σ i z := by
  obtain ⟨c1, c2, c3, c4, c5, c6, c7, c8, c9, c10⟩ := hR.2.2.2.2.2.1
  rw [ka_frozen, ms_frozen]
  by_cases a : 0 ≤ i ∧ i < 3
  · obtain ⟨j, j1, rfl⟩ := nI_lift (n := 3) a.1 a.2 (by decide)
    rw [nI_clamp (by omega), c7 j j1, c8 j j1, c9 j j1]
  · rw [if_neg (fun e => a e.1), if_neg (fun e => a e.1)]
theorem R_kept (hR : RR uw fo ca co lo lc kn on cut u f g fl h sp β ρ σ) (i z : Int32) : ka_kept h (d_tm β) i z = mk_k σ i z := by
  obtain ⟨A, hJ, hL, hS, hC⟩ := hR.1
  rw [ka_kept, mk_k]
  by_cases a : 0 ≤ i ∧ i < 3
  · rw [if_pos a, if_pos a]
    obtain ⟨j, j1, rfl⟩ := nI_lift (n := 3) a.1 a.2 (by decide)
    rw [nI_clamp (by omega), sL_n j1, sL_lo j1]
    by_cases e : z = 0
    · rw [if_pos e, e]; exact g_kept0 hJ hL j1
    · rw [if_neg e]; exact g_kept1 hJ hL j1 e
  · rw [if_neg a, if_neg a]
theorem R_free (hR : RR uw fo ca co lo lc kn on cut u f g fl h sp β ρ σ) (i : Int32) : ka_free h i = ms_free σ i := by
  obtain ⟨A, hJ, hL, hS, hC⟩ := hR.1
  rw [ka_free, ms_free]
  by_cases a : 0 ≤ i ∧ i < 3
  · rw [if_pos a, if_pos a]
    obtain ⟨j, j1, rfl⟩ := nI_lift (n := 3) a.1 a.2 (by decide)
    rw [nI_clamp (by omega), g_fp hJ hL j1]
  · rw [if_neg a, if_neg a]
theorem mu_no3 (σ : rs_S) {i t : Int32} (a : ¬ (0 ≤ i ∧ i < 3)) : mu_b σ i t = none := by rw [mu_b, if_neg a]
theorem R_has (hR : RR uw fo ca co lo lc kn on cut u f g fl h sp β ρ σ) (i t : Int32) : ka_has h sp (d_tm β) i t = jb_z (mu_b σ i t ≠ none) := by
  obtain ⟨A, hJ, hL, hS, hC⟩ := hR.1
  rw [ka_has]
  by_cases a : 0 ≤ i ∧ i < 3
  · rw [if_pos a]
    obtain ⟨j, j1, rfl⟩ := nI_lift (n := 3) a.1 a.2 (by decide)
    rw [nI_clamp (by omega), ka_r]
    rcases g_r hJ hL j1 t with ⟨x, y⟩ | ⟨b, b1, b2, b3, b4, _⟩
    · rw [jb_f (fun e => e x), jb_f (fun e => e y)]
    · rw [jb_t (by rw [b4]; exact fun e => by cases e), jb_t (by rw [b3]; exact fun e => by cases e)]
  · rw [if_neg a, jb_f (fun e => e (mu_no3 σ a))]
theorem R_find (hR : RR uw fo ca co lo lc kn on cut u f g fl h sp β ρ σ) (nj : Nat → Nat) (hn : ∀ p, p < 72 → σ.2.1 6 p = nI (nj p) ∧ nj p ≤ 4) (i src fr : Int32) : ka_find h sp β i src fr = mn_r σ nj i src fr := by
  obtain ⟨A, hJ, hL, hS, hC⟩ := hR.1
  rw [ka_find, mn_r]
  by_cases a : 0 ≤ i ∧ i < 3
  · rw [if_pos a, if_pos a]
    obtain ⟨j, j1, rfl⟩ := nI_lift (n := 3) a.1 a.2 (by decide)
    rw [nI_clamp (by omega), sL_n j1, sL_lo j1]
    refine g_find hJ hL j1 (fun b hb h0 => ?_)
    obtain ⟨a1, a2, a3, _⟩ := hC b hb h0
    obtain ⟨n1, n2⟩ := hn b (by omega)
    exact ⟨(nI_eq (by omega) (by omega)).mp (n1.symm.trans a1), fun q hq => (a3 q hq).1⟩
  · rw [if_neg a, if_neg a]
theorem R_unreadable (hR : RR uw fo ca co lo lc kn on cut u f g fl h sp β ρ σ) (i : Int32) : ka_unreadable h sp (d_tm β) i = ms_unreadable σ i := by
  obtain ⟨A, hJ, hL, hS, hC⟩ := hR.1
  rw [ka_unreadable, ms_unreadable]
  by_cases a : 0 ≤ i ∧ i < 3
  · rw [if_pos a, if_pos a]
    obtain ⟨j, j1, rfl⟩ := nI_lift (n := 3) a.1 a.2 (by decide)
    rw [nI_clamp (by omega), g_u hJ hL j1]
  · rw [if_neg a, if_neg a]
theorem R_w (hR : RR uw fo ca co lo lc kn on cut u f g fl h sp β ρ σ) (q : Int32) : mw_l σ q ↔ 0 ≤ q ∧ q < nI (d_sn β lo) := by
  rw [mw_l]
  rcases hR.2.2.2.2.2.2 with ⟨a1, a2, _⟩ | ⟨a1, a2, _⟩
  · rw [a2]
    refine ⟨fun e => absurd a1 e.1, fun e => ?_⟩
    obtain ⟨k, k1, rfl⟩ := nI_lift (n := 0) e.1 e.2 (by decide)
    omega
  · rw [a2]
    exact ⟨fun e => e.2, fun e => ⟨a1, e⟩⟩
theorem R_sn4 (hR : RR uw fo ca co lo lc kn on cut u f g fl h sp β ρ σ) : d_sn β lo ≤ 4 := by
  rcases hR.2.2.2.2.2.2 with ⟨a1, a2, _⟩ | ⟨a1, a2, a3, _⟩
  · omega
  · exact a3
theorem R_wb (hR : RR uw fo ca co lo lc kn on cut u f g fl h sp β ρ σ) (q : Int32) : mw_b σ q = true ↔ 0 ≤ q ∧ q < nI (d_sn β lo) := by
  rw [← R_w hR q, mw_l]
  simp only [mw_b, Bool.and_eq_true, Bool.not_eq_true', decide_eq_true_eq, decide_eq_false_iff_not, ne_eq]
theorem R_outS (hR : RR uw fo ca co lo lc kn on cut u f g fl h sp β ρ σ) (q : Int32) : ka_outS β lo q = ms_outSentence σ q := by
  rw [ka_outS, ms_outSentence]
  by_cases a : 0 ≤ q ∧ q < nI (d_sn β lo)
  · rw [if_pos a, if_pos ((R_wb hR q).mpr a)]
    obtain ⟨k, k1, rfl⟩ := nI_lift a.1 a.2 (by have := R_sn4 hR; omega)
    have h4 := R_sn4 hR
    rw [nI_clamp (by omega)]
    rcases hR.2.2.2.2.2.2 with ⟨a1, a2, _⟩ | ⟨a1, a2, a3, a4, _⟩
    · omega
    · exact (a4 k k1).2.symm
  · rw [if_neg a, if_neg (fun e => a ((R_wb hR q).mp e))]
theorem R_outO (hR : RR uw fo ca co lo lc kn on cut u f g fl h sp β ρ σ) (q : Int32) : ka_outO β lo q = ms_outSource σ q := by
  rw [ka_outO, ms_outSource]
  by_cases a : 0 ≤ q ∧ q < nI (d_sn β lo)
  · rw [if_pos a, if_pos ((R_wb hR q).mpr a)]
    obtain ⟨k, k1, rfl⟩ := nI_lift a.1 a.2 (by have := R_sn4 hR; omega)
    have h4 := R_sn4 hR
    rw [nI_clamp (by omega)]
    rcases hR.2.2.2.2.2.2 with ⟨a1, a2, _⟩ | ⟨a1, a2, a3, a4, _⟩
    · omega
    · exact (a4 k k1).1.symm
  · rw [if_neg a, if_neg (fun e => a ((R_wb hR q).mp e))]
theorem R_outD (hR : RR uw fo ca co lo lc kn on cut u f g fl h sp β ρ σ) (c q : Int32) : ka_outD β lo lc c q = ms_outSound σ c q := by
  rw [ka_outD, ms_outSound]
  by_cases a : (0 ≤ c ∧ c < 2) ∧ (0 ≤ q ∧ q < 4)
  · rw [if_pos a, if_pos a]
    obtain ⟨i, i1, rfl⟩ := nI_lift (n := 2) a.1.1 a.1.2 (by decide)
    obtain ⟨k, k1, rfl⟩ := nI_lift (n := 4) a.2.1 a.2.2 (by decide)
    rw [nI_clamp (by omega), nI_clamp (by omega)]
    rcases hR.2.2.2.2.2.2 with ⟨a1, a2, a3, _⟩ | ⟨a1, a2, a3, a4, a5, _⟩
    · rw [if_pos a1, a3 _ (by omega)]
      split <;> rfl
    · rw [if_neg a1, a5 i k i1 k1]
  · rw [if_neg a, if_neg a]
theorem R_outC (hR : RR uw fo ca co lo lc kn on cut u f g fl h sp β ρ σ) : d_cs β lo = ms_outContacts σ := by
  rw [ms_outContacts]
  rcases hR.2.2.2.2.2.2 with ⟨a1, a2, a3, a4, _⟩ | ⟨a1, a2, a3, a4, a5, a6, _⟩
  · rw [if_pos a1, a4]
  · rw [if_neg a1, a6]
theorem R_outR (hR : RR uw fo ca co lo lc kn on cut u f g fl h sp β ρ σ) (r : Int32) : ka_outR ρ kn r = ms_outRow σ r := by
  rw [ms_outRow]
  rcases hR.2.2.2.2.2.2 with ⟨a1, a2, a3, a4, p, a5, a6⟩ | ⟨a1, a2, a3, a4, a5, a6, a7, a8⟩
  · rw [a5, if_pos a1]
    show (if 0 ≤ r ∧ r < 8 then ρ p r.toNatClampNeg else -1) = _
    by_cases a : 0 ≤ r ∧ r < 8
    · rw [if_pos a, if_pos a]
      obtain ⟨i, i1, rfl⟩ := nI_lift (n := 8) a.1 a.2 (by decide)
      rw [nI_clamp (by omega), a6 i i1]
    · rw [if_neg a, if_neg a]
  · rw [if_neg a1]
    cases hk : kn with
    | none =>
      rw [if_pos (a7.mpr hk)]
      show (-1 : Int32) = _
      split <;> rfl
    | some p =>
      have h6 : ¬ σ.1 6 = 0 := fun e => by rw [a7.mp e] at hk; cases hk
      rw [if_neg h6]
      show (if 0 ≤ r ∧ r < 8 then ρ p r.toNatClampNeg else -1) = _
      by_cases a : 0 ≤ r ∧ r < 8
      · rw [if_pos a, if_pos a]
        obtain ⟨i, i1, rfl⟩ := nI_lift (n := 8) a.1 a.2 (by decide)
        rw [nI_clamp (by omega), a8 p hk i i1]
      · rw [if_neg a, if_neg a]
end Calls3
