/-! Pure rows: the three stores in a second. -/
theorem g_pg {β : Nat → bd_T} {ρ : Nat → Nat → Int32} {uw i pc : Nat} {fo : Option Nat} {co : Int32} {σ σ' τ : rs_S} (hi : i < 3) (hH : gH β ρ uw co σ) (e9 : σ'.2.1 9 = σ.2.1 9) (e11 : σ'.2.1 11 = σ.2.1 11) (ex : σ'.2.2 = σ.2.2) (hF : gF σ' τ) (hpc : d_po β uw ≠ none → pc = d_pb (k2_b fo β ρ uw co) uw) : sc_pg τ (d_sn β uw) i pc = kn_i (k2_b fo β ρ uw co) uw i := by
  obtain ⟨a1, a2, a3, a4, a5, a6, a7, a8, a9, a10⟩ := hH
  have eB : k2_b fo β ρ uw co uw = bd_cl (β uw) co (ka_cl β ρ uw (ka_fm fo β uw)).1 (ka_cl β ρ uw (ka_fm fo β uw)).2 := va_up_self _ _ _
  have eS : d_sb (k2_b fo β ρ uw co) uw = d_sb β uw := by unfold d_sb; rw [eB, cl_sb]
  have eH : d_he (k2_b fo β ρ uw co) uw = d_he β uw := by unfold d_he; rw [eB]; rfl
  have eP : d_po (k2_b fo β ρ uw co) uw = d_po β uw := by unfold d_po; rw [eB]; rfl
  have t0 : τ.2.1 9 140 = d_he β uw 0 := by rw [hF.2.2.2.2.2.1 140 (by omega), e9]; exact a8 0 (by decide)
  have t1 : τ.2.1 9 141 = d_he β uw 1 := by rw [hF.2.2.2.2.2.1 141 (by omega), e9]; exact a8 1 (by decide)
  have t2 : τ.2.1 11 70 = if d_po β uw = none then 0 else 1 := by rw [hF.2.2.1 11 70 (by omega) (by omega), e11]; exact a5
  have ms : mb_s τ (d_sn β uw) = 6 + d_sb β uw := by
    rw [mb_s, fo_sm (fun q => 2 + mg_n (τ.2.2 (280 + q))) 0 _ (fun p c => by omega), a10]
    congr 1
    refine sm_c _ (fun q _ hq => ?_)
    rw [(hF.2.2.2.2.1 _ (by omega)).2, ex, (a3 q (by omega)).2]
  have hs : (¬ nI i < 2) ↔ sC i ≠ 2 := by
    rcases i3 hi with rfl | rfl | rfl <;> decide
  rw [sc_pg, kn_i, bp_p, mb_y, bp_n, ms, eS, eH, eP, t0, t1, t2]
  congr 2
  have p1 : (if (if d_po β uw = none then (0 : Int32) else 1) = 0 then 0 else 1 + pc) = if (d_po β uw).isSome = true then 1 + d_pb (k2_b fo β ρ uw co) uw else 0 := by
    cases e : d_po β uw with
    | none => rfl
    | some pa =>
      have e1 : (if some pa = none then (0 : Int32) else 1) = 1 := if_neg (fun x => by cases x)
      have e2 : ¬ (1 : Int32) = 0 := by decide
      rw [e1, if_neg e2, hpc (by rw [e]; exact fun x => by cases x)]
      rfl
  have p2 : (if d_he β uw 1 = 0 ∨ ¬ nI i < 2 then 0 else 5) = if sC i = 2 ∧ d_he β uw 1 ≠ 0 then 5 else 0 := by
    by_cases x : d_he β uw 1 = 0
    · rw [if_pos (.inl x), if_neg (fun y => y.2 x)]
    · by_cases y : nI i < 2
      · rw [if_neg (fun w => w.elim x (fun w => w y)), if_pos ⟨Classical.byContradiction (fun w => hs.mpr w y), x⟩]
      · rw [if_pos (.inr y), if_neg (fun w => hs.mp y w.1)]
  have p3 : (if d_he β uw 0 = 0 then 0 else 5) = if d_he β uw 0 ≠ 0 then 5 else 0 := by
    by_cases x : d_he β uw 0 = 0
    · rw [if_pos x, if_neg (fun y => y x)]
    · rw [if_neg x, if_pos x]
  rw [p1, p2, p3]
  omega
theorem kn_1 (β : Nat → bd_T) (uw i : Nat) : 1 ≤ kn_i β uw i := by
  rw [kn_i, bp_p, bp_n]
  omega
/-- the state after some stores -/
def gI (β : Nat → bd_T) (ρ : Nat → Nat → Int32) (σ : rs_S) (i : Nat) (st : kw_S) (x : Nat × Bool × rs_S) : Prop := gF σ x.2.2 ∧ (∃ A, gR A β ρ st.2.1 st.2.2.1 x.2.2) ∧ (∀ b, b < 70 → 0 ≤ x.2.2.2.1 4 b → x.2.2.2.1 4 b < σ.1 1 ∨ (stp b < i ∧ x.2.2.2.1 4 b = σ.1 1)) ∧ ((st.2.2.2.1 = 1 ∧ x.2.1 = true ∧ st.1 = x.1 ∧ x.2.2.1 3 = st.2.2.2.2 ∧ (st.2.2.2.2 = -1 ∨ 0 ≤ st.2.2.2.2)) ∨ (st.2.2.2.1 = 0 ∧ st.2.2.2.2 = -1 ∧ x.2.1 = false))
theorem gI_s {β : Nat → bd_T} {ρ : Nat → Nat → Int32} {σ : rs_S} {i j pc uw : Nat} {u f g fl : Nat → Int32} {st : kw_S} {x : Nat × Bool × rs_S} (hi : i < 3) (hz : cn β ρ σ 70 uw 0) (ht : d_tm β uw = σ.1 1) (h0 : 0 ≤ σ.1 1) (hfl : ∀ i, i < 3 → σ.2.1 1 i = fl i) (hfz : ∀ t, fz_h (σ.2.1 17) (σ.2.1 18) (σ.2.1 19) t ↔ fz_h u f g t) (hpg : ∀ τ, gF σ τ → sc_pg τ j i pc = kn_i β uw i) (h : gI β ρ σ i st x) (hon : st.2.2.2.1 = 1) : gI β ρ σ (i + 1) (kw_1 u f g fl β uw i st) (sc_f j pc i x) := by
  obtain ⟨hF, ⟨A, hR⟩, hB, hP⟩ := h
  have h1 : x.2.1 = true ∧ st.1 = x.1 ∧ x.2.2.1 3 = st.2.2.2.2 ∧ (st.2.2.2.2 = -1 ∨ 0 ≤ st.2.2.2.2) := by
    rcases hP with a | a
    · exact a.2
    · rw [hon] at a; exact absurd a.1 (by decide)
  obtain ⟨x1, x2, x3, x4⟩ := h1
  have ef : x.2.2.2.1 1 i = fl i := by rw [hF.2.1 1 (.inl (by decide))]; exact hfl i hi
  have wk : ∀ b t, (t < σ.1 1 ∨ (stp b < i ∧ t = σ.1 1)) → (t < σ.1 1 ∨ (stp b < i + 1 ∧ t = σ.1 1)) := fun b t e => e.imp id (fun e => ⟨by omega, e.2⟩)
  by_cases hf : fl i = 0
  · have ek : kw_1 u f g fl β uw i st = kw_u i st (kw_t u f g β uw i st) := by rw [kw_1, if_pos hf]
    have es : sc_f j pc i x = if (mv_r (nI i) (kn_i β uw i) 71 x.2.2).1 = true then (x.1 + 1, (mw_r (mv_r (nI i) (kn_i β uw i) 71 x.2.2).2 (nI i) (kn_i β uw i)).1, (mw_r (mv_r (nI i) (kn_i β uw i) 71 x.2.2).2 (nI i) (kn_i β uw i)).2) else (x.1, true, (mv_r (nI i) (kn_i β uw i) 71 x.2.2).2) := by
      rw [sc_f, if_pos ⟨x1, by rw [ef]; exact hf⟩, hpg _ hF]
    have e1 : x.2.2.1 1 = σ.1 1 := hF.1 1 (by decide)
    have tk := g_take (u := u) (f := f) (g := g) (on := st.2.2.2.1) (cut := st.2.2.2.2) hi hR (kn_1 β uw i) (cn_F hF hz) (by rw [e1]; exact ht) (by rw [e1]; exact h0) (fun b b1 b2 b3 => by
      rw [e1]
      rcases hB b b1 b3 with c | c
      · exact fun e => by rw [e] at c; exact Int32.lt_irrefl c
      · omega) x3 x4 (fun t => by
      rw [hF.2.1 17 (.inr (by decide)), hF.2.1 18 (.inr (by decide)), hF.2.1 19 (.inr (by decide))]
      exact hfz t)
    rw [ek, es]
    have et : kw_t u f g β uw i st = so_tk (sO i) u f g (d_tm β) uw (sN i) (kn_i β uw i) (st.2.1 i) (st.2.2.1 i) st.2.2.2.1 st.2.2.2.2 := rfl
    rw [← et] at tk
    generalize kw_t u f g β uw i st = r at tk
    rcases tk with ⟨m1, t1, t2, t3, t4, t5, t6, t7⟩ | ⟨m1, m2, t1, t2, t3, t4, t5, t6, t7⟩ | ⟨m1, m2, t1, t2, t3, t4, t5, t6⟩
    · rw [m1, if_neg (by decide), kw_u, t1, if_neg (by decide)]
      refine ⟨gF_t hF t6, t4, fun b b1 b2 => ?_, .inl ⟨t2.trans hon, rfl, x2, t5.trans t3.symm, by rw [t3]; exact x4⟩⟩
      have e := t7 b b1 b2
      have b2' : 0 ≤ (mv_r (nI i) (kn_i β uw i) 71 x.2.2).2.2.1 4 b := b2
      rw [e] at b2'
      show (mv_r (nI i) (kn_i β uw i) 71 x.2.2).2.2.1 4 b < _ ∨ _ ∧ (mv_r (nI i) (kn_i β uw i) 71 x.2.2).2.2.1 4 b = _
      rw [e]
      exact wk b _ (hB b b1 b2')
    · rw [m1, if_pos rfl, m2, kw_u, t1, if_pos rfl]
      refine ⟨gF_t hF t6, t3, fun b b1 b2 => ?_, .inl ⟨t2.trans hon, rfl, by rw [x2], t4, t5⟩⟩
      rcases t7 b b1 b2 with e | ⟨e, e'⟩
      · have b2' : 0 ≤ (mw_r (mv_r (nI i) (kn_i β uw i) 71 x.2.2).2 (nI i) (kn_i β uw i)).2.2.1 4 b := b2
        rw [e] at b2'
        show (mw_r (mv_r (nI i) (kn_i β uw i) 71 x.2.2).2 (nI i) (kn_i β uw i)).2.2.1 4 b < _ ∨ _ ∧ (mw_r (mv_r (nI i) (kn_i β uw i) 71 x.2.2).2 (nI i) (kn_i β uw i)).2.2.1 4 b = _
        rw [e]
        exact wk b _ (hB b b1 b2')
      · exact .inr ⟨by omega, e'.trans e1⟩
    · rw [m1, if_pos rfl, m2, kw_u, t1, if_neg (by decide)]
      refine ⟨gF_t hF t5, t4, fun b b1 b2 => ?_, .inr ⟨t2, t3, rfl⟩⟩
      have e := t6 b b1 b2
      have b2' : 0 ≤ (mw_r (mv_r (nI i) (kn_i β uw i) 71 x.2.2).2 (nI i) (kn_i β uw i)).2.2.1 4 b := b2
      rw [e] at b2'
      show (mw_r (mv_r (nI i) (kn_i β uw i) 71 x.2.2).2 (nI i) (kn_i β uw i)).2.2.1 4 b < _ ∨ _ ∧ (mw_r (mv_r (nI i) (kn_i β uw i) 71 x.2.2).2 (nI i) (kn_i β uw i)).2.2.1 4 b = _
      rw [e]
      exact wk b _ (hB b b1 b2')
  · have ek : kw_1 u f g fl β uw i st = st := by rw [kw_1, if_neg hf]
    have es : sc_f j pc i x = x := by rw [sc_f, if_neg (fun e => hf (by rw [← ef]; exact e.2))]
    rw [ek, es]
    exact ⟨hF, ⟨A, hR⟩, fun b b1 b2 => wk b _ (hB b b1 b2), hP⟩
theorem gI_0 {β : Nat → bd_T} {ρ : Nat → Nat → Int32} {σ : rs_S} {i j pc : Nat} {st : kw_S} {x : Nat × Bool × rs_S} (h : gI β ρ σ i st x) (hon : st.2.2.2.1 = 0) : gI β ρ σ (i + 1) st (sc_f j pc i x) := by
  obtain ⟨hF, hR, hB, hP⟩ := h
  have x1 : x.2.1 = false := by
    rcases hP with a | a
    · rw [hon] at a; exact absurd a.1 (by decide)
    · exact a.2.2
  have es : sc_f j pc i x = x := by rw [sc_f, if_neg (fun e => by rw [x1] at e; exact absurd e.1 (by decide))]
  rw [es]
  exact ⟨hF, hR, fun b b1 b2 => (hB b b1 b2).imp id (fun e => ⟨by omega, e.2⟩), hP⟩
theorem gI_on {β : Nat → bd_T} {ρ : Nat → Nat → Int32} {σ : rs_S} {i : Nat} {st : kw_S} {x : Nat × Bool × rs_S} (h : gI β ρ σ i st x) : st.2.2.2.1 = 0 ∨ st.2.2.2.1 = 1 := by
  rcases h.2.2.2 with a | a
  · exact .inr a.1
  · exact .inl a.1
theorem g_all {β : Nat → bd_T} {ρ : Nat → Nat → Int32} {σ : rs_S} {j pc uw : Nat} {u f g fl : Nat → Int32} (hz : cn β ρ σ 70 uw 0) (ht : d_tm β uw = σ.1 1) (h0 : 0 ≤ σ.1 1) (hfl : ∀ i, i < 3 → σ.2.1 1 i = fl i) (hfz : ∀ t, fz_h (σ.2.1 17) (σ.2.1 18) (σ.2.1 19) t ↔ fz_h u f g t) (hpg : ∀ i, i < 3 → ∀ τ, gF σ τ → sc_pg τ j i pc = kn_i β uw i) : ∀ (e i : Nat) (st : kw_S) (x : Nat × Bool × rs_S), i + e ≤ 3 → gI β ρ σ i st x → gI β ρ σ (i + e) (kw_s u f g fl β uw e i st) (fo_f (sc_f j pc) i e x) := by
  intro e
  induction e with
  | zero => intro i st x _ h; exact h
  | succ e ih =>
    intro i st x hi h
    have step : ∀ (n : Nat) (y : Nat × Bool × rs_S), fo_f (sc_f j pc) i (n + 1) y = fo_f (sc_f j pc) (i + 1) n (sc_f j pc i y) := by
      intro n
      induction n with
      | zero => intro y; rfl
      | succ n ihn => intro y; rw [fo_s, ihn, fo_s, show i + (n + 1) = i + 1 + n by omega]
    rw [step, show i + (e + 1) = (i + 1) + e by omega]
    rcases gI_on h with a | a
    · have k := ih (i + 1) st (sc_f j pc i x) (by omega) (gI_0 h a)
      have ek : ∀ n m, kw_s u f g fl β uw n m st = st := by
        intro n m
        cases n with
        | zero => rfl
        | succ n => rw [kw_s, if_pos a]
      rw [ek] at k ⊢
      exact k
    · rw [kw_s, if_neg (by rw [a]; decide)]
      exact ih (i + 1) _ _ (by omega) (gI_s (by omega) hz ht h0 hfl hfz (hpg i (by omega)) h a)
