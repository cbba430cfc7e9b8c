/-- counting -/
def ct_n (P : Nat → Bool) (lo : Nat) : Nat → Nat
  | 0 => 0
  | n + 1 => if P (lo + n) = true then ct_n P lo n + 1 else ct_n P lo n
theorem ct_le (P : Nat → Bool) (lo : Nat) : ∀ n, ct_n P lo n ≤ n := by
  intro n
  induction n with
  | zero => exact Nat.le_refl _
  | succ n ih => rw [ct_n]; split <;> omega
theorem ct_cong {P Q : Nat → Bool} {lo : Nat} : ∀ n, (∀ p, lo ≤ p → p < lo + n → P p = Q p) → ct_n P lo n = ct_n Q lo n := by
  intro n
  induction n with
  | zero => intro _; rfl
  | succ n ih =>
    intro h
    rw [ct_n, ct_n, ih (fun p h1 h2 => h p h1 (by omega)), h (lo + n) (by omega) (by omega)]
theorem ct_drop {P Q : Nat → Bool} {lo q : Nat} : ∀ n, lo ≤ q → q < lo + n → P q = true → Q q = false → (∀ p, lo ≤ p → p < lo + n → p ≠ q → P p = Q p) → ct_n P lo n = ct_n Q lo n + 1 := by
  intro n
  induction n with
  | zero => intro h1 h2; omega
  | succ n ih =>
    intro h1 h2 hP hQ ho
    rw [ct_n, ct_n]
    by_cases hq : q = lo + n
    · subst hq
      rw [hP, hQ, if_pos rfl, if_neg (by decide), ct_cong n (fun p g1 g2 => ho p g1 (by omega) (by omega))]
    · rw [ih h1 (by omega) hP hQ (fun p g1 g2 g3 => ho p g1 (by omega) g3), ho (lo + n) (by omega) (by omega) (fun h => hq h.symm)]
      split <;> rfl
theorem ct_pos {P : Nat → Bool} {lo : Nat} : ∀ n, 0 < ct_n P lo n → ∃ q, lo ≤ q ∧ q < lo + n ∧ P q = true := by
  intro n
  induction n with
  | zero => intro h; exact absurd h (Nat.lt_irrefl 0)
  | succ n ih =>
    intro h
    rw [ct_n] at h
    split at h
    · next hp => exact ⟨lo + n, by omega, by omega, hp⟩
    · obtain ⟨q, h1, h2, h3⟩ := ih h
      exact ⟨q, h1, by omega, h3⟩
theorem ct_fo (P : Nat → Bool) (lo : Nat) : ∀ n, fo_f (fun p n => if P p = true then n + 1 else n) lo n 0 = ct_n P lo n := by
  intro n
  induction n with
  | zero => rfl
  | succ n ih => rw [fo_s, ct_n, ih]
theorem mf_ct (σ : rs_S) (st : Int32) : mf_fp σ st = ct_n (fun p => decide (σ.2.1 2 p = 0)) (mb_lo st) (mb_hi st - mb_lo st) := by
  rw [← ct_fo, mf_fp]
  congr 1
  funext p n
  simp
/-- the oldest bundle that may be taken out -/
def mv_m (σ : rs_S) (st : Int32) (p : Nat) : Bool := decide (0 ≤ σ.2.1 4 p) && (decide (0 < st) || !mz_t σ (σ.2.1 4 p))
def mv_f (σ : rs_S) (st : Int32) (p : Nat) (o : Option Nat) : Option Nat := match o with
  | none => if mv_m σ st p = true then some p else none
  | some q => if mv_m σ st p = true ∧ σ.2.1 4 p < σ.2.1 4 q then some p else some q
def mv_o (σ : rs_S) (st : Int32) : Option Nat := fo_f (mv_f σ st) (mb_lo st) (mb_hi st - mb_lo st) none
def mv_r (st : Int32) (pg : Nat) : Nat → rs_S → Bool × rs_S
  | 0, σ => (true, σ)
  | f + 1, σ => if pg ≤ mf_fp σ st then (true, σ) else match mv_o σ st with
    | none => (false, σ)
    | some q => mv_r st pg f (mo_t σ q)
theorem mv_in (σ : rs_S) (st : Int32) (lo : Nat) : ∀ n q, fo_f (mv_f σ st) lo n none = some q → lo ≤ q ∧ q < lo + n ∧ mv_m σ st q = true := by
  intro n
  induction n with
  | zero => intro q h; cases h
  | succ n ih =>
    intro q h
    rw [fo_s] at h
    cases ho : fo_f (mv_f σ st) lo n none with
    | none =>
      rw [ho, mv_f] at h
      split at h
      · next hm => cases h; exact ⟨by omega, by omega, hm⟩
      · cases h
    | some r =>
      rw [ho, mv_f] at h
      obtain ⟨a1, a2, a3⟩ := ih r ho
      split at h
      · next hm => cases h; exact ⟨by omega, by omega, hm.1⟩
      · cases h; exact ⟨a1, by omega, a3⟩
theorem mv_lt {σ : rs_S} {st : Int32} {q : Nat} (h : mv_o σ st = some q) : mb_lo st ≤ q ∧ q < mb_hi st ∧ mv_m σ st q = true := by
  have h1 := mv_in σ st (mb_lo st) _ q h
  have h2 := mb_le st
  exact ⟨h1.1, by omega, h1.2.2⟩
def mv_n (σ : rs_S) (st : Int32) : Nat := ct_n (fun p => decide (0 ≤ σ.2.1 4 p)) (mb_lo st) (mb_hi st - mb_lo st)
theorem mo_k4 (o : Nat) : ∀ n σ, (fo_f (mo_f o) 0 n σ).2.1 4 = σ.2.1 4 := by
  intro n
  induction n with
  | zero => intro σ; rfl
  | succ n ih => intro σ; rw [fo_s, mo_f, rs_an _ _ (by decide)]; exact ih σ
theorem mo_t4 (σ : rs_S) (o : Nat) : (mo_t σ o).2.1 4 = upd (σ.2.1 4) o (-1) := by
  rw [mo_t, rs_av, mo_k4]
theorem mv_dec {σ : rs_S} {st : Int32} {q : Nat} (h : mv_o σ st = some q) : mv_n σ st = mv_n (mo_t σ q) st + 1 := by
  obtain ⟨h1, h2, h3⟩ := mv_lt h
  simp only [mv_m, Bool.and_eq_true, decide_eq_true_eq] at h3
  unfold mv_n
  rw [mo_t4]
  refine ct_drop _ h1 (by omega) (by simpa using h3.1) ?_ (fun p g1 g2 g3 => ?_)
  · show decide (0 ≤ upd (σ.2.1 4) q (-1) q) = false
    rw [pk_us]
    decide
  · show _ = decide (0 ≤ upd (σ.2.1 4) q (-1) p)
    rw [pk_un g3]
set_option maxRecDepth 100000 in
set_option maxHeartbeats 8000000 in
theorem q_makeRoom (l : Launch) (E : jx_E) (b : Nat) (G0 : jx_H) (sz mb : Nat) (σ : rs_S) (st : Int32) (pg : Nat) (hpg : pg < 2 ^ 31) : jx_ct l E b yM_makeRoom cM_makeRoom 7 (some .boolean) 2 0 0 [.ref mb, .int st, .int (nI pg)] (rm_G E mb σ G0) sz (rm_q E mb G0 sz (.int (jb_z ((mv_r st pg 71 σ).1 = true))) (mv_r st pg 71 σ).2) := by
  refine jx_met (by decide) (Nat.le_of_ble_eq_true rfl) (L0 := [_, _, _, _, _, _, _]) rfl (fun X k => ?_)
  have hb := mb_le st
  generalize hres : mv_r st pg 71 σ = res
  refine jx_iconst k dM_makeRoom_0 (v := 1) (by decide) ?_
  refine jx_istore_n k dM_makeRoom_1 (Nat.le_of_ble_eq_true rfl) rfl (L' := [_, _, _, _, _, _, _]) rfl ?_
  have key : ∀ f τ, mv_n τ st < f → mv_r st pg f τ = res → jx_w X E b (jx_fin X E b (rm_q E mb G0 sz (.int (jb_z (res.1 = true))) res.2) 0 0) 2 [some (.ref mb), some (.int st), some (.int (nI pg)), some (.int 1), none, none, none] [] (rm_G E mb τ G0) sz 0 0 := by
    intro f
    induction f with
    | zero => intro τ h; exact absurd h (Nat.not_lt_zero _)
    | succ f ih =>
      intro τ hf he
      have hfp : mf_fp τ st < 2 ^ 31 := by rw [mf_ct]; have := ct_le (fun p => decide (τ.2.1 2 p = 0)) (mb_lo st) (mb_hi st - mb_lo st); omega
      refine jx_iload_n k dM_makeRoom_2 rfl ?_
      refine jx_if_eq k dM_makeRoom_3 (tgt := 134) rfl (fun hh => absurd hh (by decide)) (fun _ => ?_)
      refine jx_aload_n k dM_makeRoom_6 rfl ?_
      refine jx_iload_n k dM_makeRoom_7 rfl ?_
      refine jx_callVP k mM_119 (q_freePages _ _ _ _ _ _ τ st) rm_a0 rfl dM_makeRoom_8 rfl rfl rfl (Nat.le_of_ble_eq_true rfl) ⟨Nat.le_of_ble_eq_true rfl, Nat.le_of_ble_eq_true rfl⟩ ⟨Nat.le_of_ble_eq_true rfl, Nat.le_of_ble_eq_true rfl⟩ ?_
      refine jx_iload_n k dM_makeRoom_11 rfl ?_
      refine jx_icmp_ge k dM_makeRoom_12 (tgt := 134) rfl (fun h1 => ?_) (fun h1 => ?_)
      · have h2 : pg ≤ mf_fp τ st := (nI_leI hpg hfp).mp h1
        rw [mv_r, if_pos h2] at he
        refine jx_iload_n k dM_makeRoom_134 rfl ?_
        exact jx_zret k dM_makeRoom_135 rfl (Nat.le_refl _) (Nat.le_refl _) ⟨by rw [← he]; rfl, by rw [← he], rfl⟩
      · have h2 : ¬ pg ≤ mf_fp τ st := fun h => h1 (nI_le h hfp)
        rw [mv_r, if_neg h2] at he
        refine jx_iconst k dM_makeRoom_15 (v := (-1)) (by decide) ?_
        refine jx_istore k dM_makeRoom_16 (Nat.le_of_ble_eq_true rfl) rfl (L' := [_, _, _, _, _, _, _]) rfl ?_
        refine jx_iload_n k dM_makeRoom_18 rfl ?_
        refine jx_callSP k mM_112 (q_base _ _ _ _ _ st) dM_makeRoom_19 rfl rfl rfl (Nat.le_of_ble_eq_true rfl) ⟨Nat.le_of_ble_eq_true rfl, Nat.le_of_ble_eq_true rfl⟩ ⟨Nat.le_of_ble_eq_true rfl, Nat.le_of_ble_eq_true rfl⟩ ?_
        refine jx_istore k dM_makeRoom_22 (Nat.le_of_ble_eq_true rfl) rfl (L' := [_, _, _, _, _, _, _]) rfl ?_
        refine fo_l (fun p o => jx_w X E b (jx_fin X E b (rm_q E mb G0 sz (.int (jb_z (res.1 = true))) res.2) 0 0) 24 [some (.ref mb), some (.int st), some (.int (nI pg)), some (.int 1), some (.int (mo_i o)), some (.int (nI p)), none] [] (rm_G E mb τ G0) sz 0 0) (mv_f τ st) (lo := mb_lo st) (hi := mb_hi st) hb.1 none ?_ ?_
        · intro p g1 g2
          generalize hoo : fo_f (mv_f τ st) (mb_lo st) (p - mb_lo st) none = o
          have hoq : ∀ q, o = some q → q < 70 := fun q hq => by
            have := mv_in τ st (mb_lo st) _ q (hoo.trans hq)
            omega
          intro kk
          have k66 : ∀ v : Int32, v = jb_z (mv_m τ st p = true) → jx_w X E b (jx_fin X E b (rm_q E mb G0 sz (.int (jb_z (res.1 = true))) res.2) 0 0) 66 [some (.ref mb), some (.int st), some (.int (nI pg)), some (.int 1), some (.int (mo_i o)), some (.int (nI p)), none] [.int v] (rm_G E mb τ G0) sz 0 0 := by
            rintro v rfl
            refine jx_istore k dM_makeRoom_66 (Nat.le_of_ble_eq_true rfl) rfl (L' := [_, _, _, _, _, _, _]) rfl ?_
            refine jx_iload k dM_makeRoom_68 rfl ?_
            refine jx_if_eq k dM_makeRoom_70 (tgt := 100) rfl (fun h3 => ?_) (fun h3 => ?_)
            · have h3 : ¬ mv_m τ st p = true := jb_e0.mp h3
              have e : mv_f τ st p o = o := by
                cases o with
                | none => rw [mv_f, if_neg h3]
                | some q => rw [mv_f, if_neg (fun h => h3 h.1)]
              rw [e] at kk
              refine jx_iload k dM_makeRoom_100 rfl ?_
              refine jx_istore k dM_makeRoom_102 (Nat.le_of_ble_eq_true rfl) rfl (L' := [_, _, _, _, _, _, _]) rfl ?_
              refine jx_iinc k dM_makeRoom_104 rfl (nI_1 p) rfl (L' := [_, _, _, _, _, _, _]) rfl ?_
              refine jx_goto k dM_makeRoom_107 (tgt := 24) rfl ?_
              refine jx_fg (jx_ls (jx_ls (jx_ls (jx_ls (jx_ls (jx_ls (jx_ln jx_l0))))))) ?_
              exact kk
            · have h3 : mv_m τ st p = true := Decidable.byContradiction (fun h => h3 (jb_f h))
              cases o with
              | none =>
                rw [mv_f, if_pos h3] at kk
                refine jx_iload k dM_makeRoom_73 rfl ?_
                refine jx_if_lt k dM_makeRoom_75 (tgt := 95) rfl (fun _ => ?_) (fun hh => absurd mo_l hh)
                refine jx_iload k dM_makeRoom_95 rfl ?_
                refine jx_goto k dM_makeRoom_97 (tgt := 102) rfl ?_
                refine jx_istore k dM_makeRoom_102 (Nat.le_of_ble_eq_true rfl) rfl (L' := [_, _, _, _, _, _, _]) rfl ?_
                refine jx_iinc k dM_makeRoom_104 rfl (nI_1 p) rfl (L' := [_, _, _, _, _, _, _]) rfl ?_
                refine jx_goto k dM_makeRoom_107 (tgt := 24) rfl ?_
                refine jx_fg (jx_ls (jx_ls (jx_ls (jx_ls (jx_ls (jx_ls (jx_ln jx_l0))))))) ?_
                exact kk
              | some q =>
                have hq := hoq q rfl
                refine jx_iload k dM_makeRoom_73 rfl ?_
                refine jx_if_lt k dM_makeRoom_75 (tgt := 95) rfl (fun hh => absurd hh (mo_n (by omega))) (fun _ => ?_)
                refine jx_aload_n k dM_makeRoom_78 rfl ?_
                refine rm_get k fM_28 dM_makeRoom_79 rfl ?_
                refine jx_iload k dM_makeRoom_82 rfl ?_
                refine rm_ild k dM_makeRoom_84 (by decide) rfl (p := p) rfl (by omega) (by decide) ?_
                refine jx_aload_n k dM_makeRoom_85 rfl ?_
                refine rm_get k fM_28 dM_makeRoom_86 rfl ?_
                refine jx_iload k dM_makeRoom_89 rfl ?_
                refine rm_ild k dM_makeRoom_91 (by decide) rfl (p := q) rfl (by omega) (by decide) ?_
                refine jx_icmp_ge k dM_makeRoom_92 (tgt := 100) rfl (fun h4 => ?_) (fun h4 => ?_)
                · rw [mv_f, if_neg (fun h => absurd h.2 (Int32.not_lt.mpr h4))] at kk
                  refine jx_iload k dM_makeRoom_100 rfl ?_
                  refine jx_istore k dM_makeRoom_102 (Nat.le_of_ble_eq_true rfl) rfl (L' := [_, _, _, _, _, _, _]) rfl ?_
                  refine jx_iinc k dM_makeRoom_104 rfl (nI_1 p) rfl (L' := [_, _, _, _, _, _, _]) rfl ?_
                  refine jx_goto k dM_makeRoom_107 (tgt := 24) rfl ?_
                  refine jx_fg (jx_ls (jx_ls (jx_ls (jx_ls (jx_ls (jx_ls (jx_ln jx_l0))))))) ?_
                  exact kk
                · rw [mv_f, if_pos ⟨h3, Int32.not_le.mp h4⟩] at kk
                  refine jx_iload k dM_makeRoom_95 rfl ?_
                  refine jx_goto k dM_makeRoom_97 (tgt := 102) rfl ?_
                  refine jx_istore k dM_makeRoom_102 (Nat.le_of_ble_eq_true rfl) rfl (L' := [_, _, _, _, _, _, _]) rfl ?_
                  refine jx_iinc k dM_makeRoom_104 rfl (nI_1 p) rfl (L' := [_, _, _, _, _, _, _]) rfl ?_
                  refine jx_goto k dM_makeRoom_107 (tgt := 24) rfl ?_
                  refine jx_fg (jx_ls (jx_ls (jx_ls (jx_ls (jx_ls (jx_ls (jx_ln jx_l0))))))) ?_
                  exact kk
          refine jx_iload k dM_makeRoom_24 rfl ?_
          refine jx_iload_n k dM_makeRoom_26 rfl ?_
          refine jx_callSP k mM_116 (q_end _ _ _ _ _ st) dM_makeRoom_27 rfl rfl rfl (Nat.le_of_ble_eq_true rfl) ⟨Nat.le_of_ble_eq_true rfl, Nat.le_of_ble_eq_true rfl⟩ ⟨Nat.le_of_ble_eq_true rfl, Nat.le_of_ble_eq_true rfl⟩ ?_
          refine jx_icmp_ge k dM_makeRoom_30 (tgt := 110) rfl (fun hh => absurd hh (nI_ge g2 (by omega))) (fun _ => ?_)
          refine jx_aload_n k dM_makeRoom_33 rfl ?_
          refine rm_get k fM_28 dM_makeRoom_34 rfl ?_
          refine jx_iload k dM_makeRoom_37 rfl ?_
          refine rm_ild k dM_makeRoom_39 (by decide) rfl (p := p) rfl (by omega) (by decide) ?_
          refine jx_if_lt k dM_makeRoom_40 (tgt := 65) rfl (fun h3 => ?_) (fun h3 => ?_)
          · refine jx_iconst k dM_makeRoom_65 (v := 0) (by decide) ?_
            exact k66 _ (by rw [jb_f (by simp [mv_m, Int32.not_le.mpr h3])])
          · refine jx_iload_n k dM_makeRoom_43 rfl ?_
            refine jx_if_gt k dM_makeRoom_44 (tgt := 61) rfl (fun h4 => ?_) (fun h4 => ?_)
            · refine jx_iconst k dM_makeRoom_61 (v := 1) (by decide) ?_
              refine jx_goto k dM_makeRoom_62 (tgt := 66) rfl ?_
              exact k66 _ (by rw [jb_t (by simp [mv_m, Int32.not_lt.mp h3, h4])])
            · refine jx_aload_n k dM_makeRoom_47 rfl ?_
              refine jx_aload_n k dM_makeRoom_48 rfl ?_
              refine rm_get k fM_28 dM_makeRoom_49 rfl ?_
              refine jx_iload k dM_makeRoom_52 rfl ?_
              refine rm_ild k dM_makeRoom_54 (by decide) rfl (p := p) rfl (by omega) (by decide) ?_
              refine jx_callVP k mM_122 (q_isFrozen _ _ _ _ _ _ τ (τ.2.1 4 p)) rm_a0 rfl dM_makeRoom_55 rfl rfl rfl (Nat.le_of_ble_eq_true rfl) ⟨Nat.le_of_ble_eq_true rfl, Nat.le_of_ble_eq_true rfl⟩ ⟨Nat.le_of_ble_eq_true rfl, Nat.le_of_ble_eq_true rfl⟩ ?_
              refine jx_if_ne k dM_makeRoom_58 (tgt := 65) rfl (fun h5 => ?_) (fun h5 => ?_)
              · refine jx_iconst k dM_makeRoom_65 (v := 0) (by decide) ?_
                have h6 : mz_t τ (τ.2.1 4 p) = true := Decidable.byContradiction (fun h => h5 (jb_f h))
                exact k66 _ (by rw [jb_f (by simp [mv_m, h4, h6])])
              · refine jx_iconst k dM_makeRoom_61 (v := 1) (by decide) ?_
                refine jx_goto k dM_makeRoom_62 (tgt := 66) rfl ?_
                have h6 : ¬ mz_t τ (τ.2.1 4 p) = true := jb_e0.mp h5
                exact k66 _ (by rw [jb_t (by simp [mv_m, Int32.not_lt.mp h3, h6])])
        · generalize hoo : fo_f (mv_f τ st) (mb_lo st) (mb_hi st - mb_lo st) none = o
          have hoo : mv_o τ st = o := hoo
          rw [hoo] at he
          refine jx_iload k dM_makeRoom_24 rfl ?_
          refine jx_iload_n k dM_makeRoom_26 rfl ?_
          refine jx_callSP k mM_116 (q_end _ _ _ _ _ st) dM_makeRoom_27 rfl rfl rfl (Nat.le_of_ble_eq_true rfl) ⟨Nat.le_of_ble_eq_true rfl, Nat.le_of_ble_eq_true rfl⟩ ⟨Nat.le_of_ble_eq_true rfl, Nat.le_of_ble_eq_true rfl⟩ ?_
          refine jx_icmp_ge k dM_makeRoom_30 (tgt := 110) rfl (fun _ => ?_) (fun hh => absurd (nI_le (Nat.le_refl _) (by omega)) hh)
          refine jx_iload k dM_makeRoom_110 rfl ?_
          cases o with
          | none =>
            refine jx_if_lt k dM_makeRoom_112 (tgt := 119) rfl (fun _ => ?_) (fun hh => absurd mo_l hh)
            refine jx_iconst k dM_makeRoom_119 (v := 0) (by decide) ?_
            refine jx_istore_n k dM_makeRoom_120 (Nat.le_of_ble_eq_true rfl) rfl (L' := [_, _, _, _, _, _, _]) rfl ?_
            refine jx_iload_n k dM_makeRoom_121 rfl ?_
            refine jx_if_eq k dM_makeRoom_122 (tgt := 131) rfl (fun _ => ?_) (fun hh => absurd rfl hh)
            refine jx_goto k dM_makeRoom_131 (tgt := 2) rfl ?_
            refine jx_iload_n k dM_makeRoom_2 rfl ?_
            refine jx_if_eq k dM_makeRoom_3 (tgt := 134) rfl (fun _ => ?_) (fun hh => absurd rfl hh)
            refine jx_iload_n k dM_makeRoom_134 rfl ?_
            exact jx_zret k dM_makeRoom_135 rfl (Nat.le_refl _) (Nat.le_refl _) ⟨by rw [← he]; rfl, by rw [← he], rfl⟩
          | some q =>
            obtain ⟨q1, q2, q3⟩ := mv_lt hoo
            refine jx_if_lt k dM_makeRoom_112 (tgt := 119) rfl (fun hh => absurd hh (mo_n (by omega))) (fun _ => ?_)
            refine jx_iconst k dM_makeRoom_115 (v := 1) (by decide) ?_
            refine jx_goto k dM_makeRoom_116 (tgt := 120) rfl ?_
            refine jx_istore_n k dM_makeRoom_120 (Nat.le_of_ble_eq_true rfl) rfl (L' := [_, _, _, _, _, _, _]) rfl ?_
            refine jx_iload_n k dM_makeRoom_121 rfl ?_
            refine jx_if_eq k dM_makeRoom_122 (tgt := 131) rfl (fun hh => absurd hh (by decide)) (fun _ => ?_)
            refine jx_aload_n k dM_makeRoom_125 rfl ?_
            refine jx_iload k dM_makeRoom_126 rfl ?_
            refine jx_callV0 k mM_126 (q_takeOut _ _ _ _ _ _ τ q (by omega)) rm_a0 rfl dM_makeRoom_128 rfl rfl rfl (Nat.le_of_ble_eq_true rfl) ⟨Nat.le_of_ble_eq_true rfl, Nat.le_of_ble_eq_true rfl⟩ ⟨Nat.le_of_ble_eq_true rfl, Nat.le_of_ble_eq_true rfl⟩ ?_
            refine jx_goto k dM_makeRoom_131 (tgt := 2) rfl ?_
            refine jx_fg (jx_ls (jx_ls (jx_ls (jx_ls (jx_ln (jx_ln (jx_ln jx_l0))))))) ?_
            exact ih (mo_t τ q) (by have := mv_dec hoo; omega) he
  have hn : mv_n σ st < 71 := by
    have := ct_le (fun p => decide (0 ≤ σ.2.1 4 p)) (mb_lo st) (mb_hi st - mb_lo st)
    unfold mv_n
    omega
  exact key 71 σ hn hres
