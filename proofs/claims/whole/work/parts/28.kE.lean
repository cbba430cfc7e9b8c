/-- takeOut -/
def so_tf (tm : Nat → Int32) (t : Int32) (p : Nat) (h : Nat → Option Nat) : Nat → Option Nat := if so_i h tm p t then va_up h p none else h
def so_t (tm : Nat → Int32) (t : Int32) (n : Nat) (h : Nat → Option Nat) : Nat → Option Nat := fo_f (so_tf tm t) 0 n h
theorem so_t_s {tm : Nat → Int32} {t : Int32} {h : Nat → Option Nat} : ∀ (n q : Nat), fo_f (so_tf tm t) 0 n h q = if q < n ∧ so_i h tm q t then none else h q := by
  intro n
  induction n with
  | zero => intro q; rw [if_neg (fun e => absurd e.1 (by omega))]; rfl
  | succ n ih =>
    intro q
    rw [fo_s, Nat.zero_add, so_tf]
    have hn : fo_f (so_tf tm t) 0 n h n = h n := by rw [ih n, if_neg (fun e => absurd e.1 (by omega))]
    by_cases h1 : so_i h tm n t
    · rw [if_pos (show so_i (fo_f (so_tf tm t) 0 n h) tm n t by show (fo_f (so_tf tm t) 0 n h n).map tm = some t; rw [hn]; exact h1)]
      by_cases h2 : q = n
      · subst h2
        rw [va_up_self, if_pos ⟨by omega, h1⟩]
      · rw [va_up_ne _ _ h2, ih q]
        by_cases h3 : q < n ∧ so_i h tm q t
        · rw [if_pos h3, if_pos ⟨by omega, h3.2⟩]
        · rw [if_neg h3, if_neg (fun e => h3 ⟨by omega, e.2⟩)]
    · rw [if_neg (show ¬ so_i (fo_f (so_tf tm t) 0 n h) tm n t by show ¬ (fo_f (so_tf tm t) 0 n h n).map tm = some t; rw [hn]; exact h1), ih q]
      by_cases h3 : q < n ∧ so_i h tm q t
      · rw [if_pos h3, if_pos ⟨by omega, h3.2⟩]
      · rw [if_neg h3, if_neg (fun e => h3 ⟨Decidable.byContradiction (fun h4 => h1 (by rw [show n = q by omega]; exact e.2)), e.2⟩)]
theorem so_t_sub {tm : Nat → Int32} {t : Int32} {h : Nat → Option Nat} {n q z : Nat} (e : fo_f (so_tf tm t) 0 n h q = some z) : h q = some z := by
  rw [so_t_s] at e
  split at e
  · cases e
  · exact e
set_option maxRecDepth 100000 in
set_option maxHeartbeats 4000000 in
theorem k_takeOut (l : Launch) (E : jx_E) (b : Nat) (G : jx_H) (sz : Nat) (a n : Nat) (ch fl ob : Int32) (h : Nat → Option Nat) (tm : Nat → Int32) (D : Nat → Prop) (hS : G a = so_o a ch fl ob) (hH : G (a + 1) = some (ja_q E 4 n h)) (hn : n < 100) (hD : ∀ p, p < n → ∀ z, h p = some z → D z) (hT : ∀ z, D z → bn_k G z (tm z)) (t : Int32) : jx_ct l E b yS_takeOut cS_takeOut 3 none 1 0 0 [.ref a, .int t] G sz (fun v G' sz' => v = none ∧ G' = va_up G (a + 1) (some (ja_q E 4 n (so_t tm t n h))) ∧ sz' = sz) := by
  refine jx_met (by decide) (Nat.le_of_ble_eq_true rfl) (L0 := [_, _, _]) rfl (fun X k => ?_)
  refine jx_iconst k dS_takeOut_0 (v := 0) (by decide) ?_
  refine jx_istore_n k dS_takeOut_1 (Nat.le_of_ble_eq_true rfl) rfl (L' := [_, _, _]) rfl ?_
  rw [show G = va_up G (a + 1) (some (ja_q E 4 n h)) from (va_us hH).symm]
  rw [va_uu]
  refine fo_l (fun p h' => jx_w X E b (jx_fin X E b (fun v G' sz' => v = none ∧ G' = va_up G (a + 1) (some (ja_q E 4 n (so_t tm t n h))) ∧ sz' = sz) 0 0) 2 [some (.ref a), some (.int t), some (.int (nI p))] [] (va_up G (a + 1) (some (ja_q E 4 n h'))) sz 0 0) (so_tf tm t) (lo := 0) (hi := n) (Nat.zero_le _) h ?_ ?_
  · intro p h1 h2
    have hsub : ∀ q z, fo_f (so_tf tm t) 0 (p - 0) h q = some z → h q = some z := fun q z e => so_t_sub e
    generalize fo_f (so_tf tm t) 0 (p - 0) h = h' at hsub
    intro kk
    have eS : va_up G (a + 1) (some (ja_q E 4 n h')) a = so_o a ch fl ob := (va_up_ne _ _ (by omega)).trans hS
    have eD : ∀ p, p < n → ∀ z, h' p = some z → D z := fun p hp z e => hD p hp z (hsub p z e)
    have eT : ∀ z, D z → bn_k (va_up G (a + 1) (some (ja_q E 4 n h'))) z (tm z) := fun z hz => bn_k_up (hT z hz) hH
    refine jx_iload_n k dS_takeOut_2 rfl ?_
    refine jx_aload_n k dS_takeOut_3 rfl ?_
    refine jx_get k fS_24 dS_takeOut_4 eS rfl ?_
    refine jx_alen k dS_takeOut_7 (va_up_self _ _ _) (t := 4) rfl ?_
    refine jx_icmp_ge k dS_takeOut_8 (tgt := 33) rfl (fun hh => absurd hh (nI_ge h2 (by omega))) (fun _ => ?_)
    refine jx_aload_n k dS_takeOut_11 rfl ?_
    refine jx_iload_n k dS_takeOut_12 rfl ?_
    refine jx_iload_n k dS_takeOut_13 rfl ?_
    refine jx_callVP k mS_65 (k_isOf _ _ _ _ _ a n ch fl ob h' tm D eS (va_up_self _ _ _) hn eD eT p t h2) eS rfl dS_takeOut_14 rfl rfl rfl (Nat.le_of_ble_eq_true rfl) ⟨Nat.le_of_ble_eq_true rfl, Nat.le_of_ble_eq_true rfl⟩ ⟨Nat.le_of_ble_eq_true rfl, Nat.le_of_ble_eq_true rfl⟩ ?_
    refine jx_if_eq k dS_takeOut_17 (tgt := 27) rfl (fun h3 => ?_) (fun h3 => ?_)
    · rw [so_tf, if_neg (jb_e0.mp h3)] at kk
      refine jx_iinc k dS_takeOut_27 rfl (nI_1 p) rfl (L' := [_, _, _]) rfl ?_
      refine jx_goto k dS_takeOut_30 (tgt := 2) rfl ?_
      exact kk
    · rw [so_tf, if_pos (Decidable.byContradiction (fun h => h3 (jb_f h)))] at kk
      refine jx_aload_n k dS_takeOut_20 rfl ?_
      refine jx_get k fS_24 dS_takeOut_21 eS rfl ?_
      refine jx_iload_n k dS_takeOut_24 rfl ?_
      refine jx_null k dS_takeOut_25 ?_
      refine jx_ast0 k dS_takeOut_26 (va_up_self _ _ _) (t := 4) rfl (p := p) rfl h2 (by omega) ?_
      rw [va_uu]
      refine jx_iinc k dS_takeOut_27 rfl (nI_1 p) rfl (L' := [_, _, _]) rfl ?_
      refine jx_goto k dS_takeOut_30 (tgt := 2) rfl ?_
      exact kk
  · have eS : va_up G (a + 1) (some (ja_q E 4 n (fo_f (so_tf tm t) 0 (n - 0) h))) a = so_o a ch fl ob := (va_up_ne _ _ (by omega)).trans hS
    refine jx_iload_n k dS_takeOut_2 rfl ?_
    refine jx_aload_n k dS_takeOut_3 rfl ?_
    refine jx_get k fS_24 dS_takeOut_4 eS rfl ?_
    refine jx_alen k dS_takeOut_7 (va_up_self _ _ _) (t := 4) rfl ?_
    refine jx_icmp_ge k dS_takeOut_8 (tgt := 33) rfl (fun _ => ?_) (fun hh => absurd (nI_le (Nat.le_refl _) (by omega)) hh)
    exact jx_vret k dS_takeOut_33 (Nat.le_refl _) (Nat.le_refl _) ⟨rfl, rfl, rfl⟩
/-- isSpoiledBefore -/
def so_bf (h : Nat → Option Nat) (tm sp : Nat → Int32) (t : Int32) (p : Nat) (g : Bool) : Bool := g || (decide (sp p ≠ 0) && decide (so_i h tm p t))
def so_b (h : Nat → Option Nat) (tm sp : Nat → Int32) (t : Int32) (p : Nat) : Bool := fo_f (so_bf h tm sp t) 0 p false
theorem so_b_s {h : Nat → Option Nat} {tm sp : Nat → Int32} {t : Int32} : ∀ (n : Nat), so_b h tm sp t n = true ↔ ∃ q, q < n ∧ sp q ≠ 0 ∧ so_i h tm q t := by
  intro n
  induction n with
  | zero =>
    constructor
    · intro e; cases e
    · rintro ⟨q, h1, -⟩; exact absurd h1 (by omega)
  | succ n ih =>
    unfold so_b at ih ⊢
    rw [fo_s, Nat.zero_add, so_bf, Bool.or_eq_true, Bool.and_eq_true, decide_eq_true_iff, decide_eq_true_iff, ih]
    constructor
    · rintro (⟨q, h1, h2⟩ | ⟨h1, h2⟩)
      · exact ⟨q, by omega, h2⟩
      · exact ⟨n, by omega, h1, h2⟩
    · rintro ⟨q, h1, h2⟩
      rcases Nat.lt_or_ge q n with h3 | h3
      · exact .inl ⟨q, h3, h2⟩
      · rw [show q = n by omega] at h2
        exact .inr h2
set_option maxRecDepth 100000 in
set_option maxHeartbeats 4000000 in
theorem k_spoiledBefore (l : Launch) (E : jx_E) (b : Nat) (G : jx_H) (sz : Nat) (a n : Nat) (ch fl ob : Int32) (h : Nat → Option Nat) (tm : Nat → Int32) (D : Nat → Prop) (hS : G a = so_o a ch fl ob) (hH : G (a + 1) = some (ja_q E 4 n h)) (hn : n < 100) (hD : ∀ p, p < n → ∀ z, h p = some z → D z) (hT : ∀ z, D z → bn_k G z (tm z)) (sp : Nat → Int32) (hQ : G (a + 2) = some (ja_z E n sp)) (p0 : Nat) (hp0 : p0 ≤ n) (t : Int32) : jx_ct l E b yS_isSpoiledBefore cS_isSpoiledBefore 4 (some .boolean) 1 0 0 [.ref a, .int (nI p0), .int t] G sz (jx_pu (.int (jb_z (so_b h tm sp t p0 = true))) G sz) := by
  refine jx_met (by decide) (Nat.le_of_ble_eq_true rfl) (L0 := [_, _, _, _]) rfl (fun X k => ?_)
  refine jx_iconst k dS_isSpoiledBefore_0 (v := 0) (by decide) ?_
  refine jx_istore_n k dS_isSpoiledBefore_1 (Nat.le_of_ble_eq_true rfl) rfl (L' := [_, _, _, _]) rfl ?_
  refine fo_d (fun p => so_b h tm sp t p = false → jx_w X E b (jx_fin X E b (jx_pu (.int (jb_z (so_b h tm sp t p0 = true))) G sz) 0 0) 2 [some (.ref a), some (.int (nI p0)), some (.int t), some (.int (nI p))] [] G sz 0 0) (lo := 0) (hi := p0) (Nat.zero_le _) ?_ ?_ rfl
  · intro p h1 h2 kk hp
    have nx : ¬ (sp p ≠ 0 ∧ so_i h tm p t) → so_b h tm sp t (p + 1) = false := fun hh => by
      unfold so_b at hp ⊢
      rw [fo_s, Nat.zero_add, so_bf, hp]
      cases e : (decide (sp p ≠ 0) && decide (so_i h tm p t)) with
      | false => rfl
      | true =>
        rw [Bool.and_eq_true, decide_eq_true_iff, decide_eq_true_iff] at e
        exact absurd e hh
    refine jx_iload_n k dS_isSpoiledBefore_2 rfl ?_
    refine jx_iload_n k dS_isSpoiledBefore_3 rfl ?_
    refine jx_icmp_ge k dS_isSpoiledBefore_4 (tgt := 33) rfl (fun hh => absurd hh (nI_ge h2 (by omega))) (fun _ => ?_)
    refine jx_aload_n k dS_isSpoiledBefore_7 rfl ?_
    refine jx_get k fS_28 dS_isSpoiledBefore_8 hS rfl ?_
    refine jx_iload_n k dS_isSpoiledBefore_11 rfl ?_
    refine jx_zldN k dS_isSpoiledBefore_12 hQ (p := p) rfl (by omega) (by omega) ?_
    refine jx_if_eq k dS_isSpoiledBefore_13 (tgt := 27) rfl (fun h3 => ?_) (fun h3 => ?_)
    · refine jx_iinc k dS_isSpoiledBefore_27 rfl (nI_1 p) rfl (L' := [_, _, _, _]) rfl ?_
      refine jx_goto k dS_isSpoiledBefore_30 (tgt := 2) rfl ?_
      exact kk (nx (fun e => e.1 h3))
    · refine jx_aload_n k dS_isSpoiledBefore_16 rfl ?_
      refine jx_iload_n k dS_isSpoiledBefore_17 rfl ?_
      refine jx_iload_n k dS_isSpoiledBefore_18 rfl ?_
      refine jx_callVP k mS_65 (k_isOf _ _ _ _ _ a n ch fl ob h tm D hS hH hn hD hT p t (by omega)) hS rfl dS_isSpoiledBefore_19 rfl rfl rfl (Nat.le_of_ble_eq_true rfl) ⟨Nat.le_of_ble_eq_true rfl, Nat.le_of_ble_eq_true rfl⟩ ⟨Nat.le_of_ble_eq_true rfl, Nat.le_of_ble_eq_true rfl⟩ ?_
      refine jx_if_eq k dS_isSpoiledBefore_22 (tgt := 27) rfl (fun h4 => ?_) (fun h4 => ?_)
      · refine jx_iinc k dS_isSpoiledBefore_27 rfl (nI_1 p) rfl (L' := [_, _, _, _]) rfl ?_
        refine jx_goto k dS_isSpoiledBefore_30 (tgt := 2) rfl ?_
        exact kk (nx (fun e => jb_e0.mp h4 e.2))
      · refine jx_iconst k dS_isSpoiledBefore_25 (v := 1) (by decide) ?_
        exact jx_zret k dS_isSpoiledBefore_26 rfl (Nat.le_refl _) (Nat.le_refl _) ⟨by rw [jb_t ((so_b_s p0).mpr ⟨p, h2, h3, Decidable.byContradiction (fun h => h4 (jb_f h))⟩)], rfl, rfl⟩
  · intro hp
    refine jx_iload_n k dS_isSpoiledBefore_2 rfl ?_
    refine jx_iload_n k dS_isSpoiledBefore_3 rfl ?_
    refine jx_icmp_ge k dS_isSpoiledBefore_4 (tgt := 33) rfl (fun _ => ?_) (fun hh => absurd (nI_le (Nat.le_refl _) (by omega)) hh)
    refine jx_iconst k dS_isSpoiledBefore_33 (v := 0) (by decide) ?_
    exact jx_zret k dS_isSpoiledBefore_34 rfl (Nat.le_refl _) (Nat.le_refl _) ⟨by rw [jb_f (by rw [hp]; decide)], rfl, rfl⟩
/-- unreadableBundles -/
def so_uf (h : Nat → Option Nat) (tm sp : Nat → Int32) (p c : Nat) : Nat := match h p with
  | none => c
  | some z => if sp p ≠ 0 ∧ so_b h tm sp (tm z) p = false then c + 1 else c
def so_u (h : Nat → Option Nat) (tm sp : Nat → Int32) (n : Nat) : Nat := fo_f (so_uf h tm sp) 0 n 0
set_option maxRecDepth 100000 in
set_option maxHeartbeats 4000000 in
theorem k_unreadable (l : Launch) (E : jx_E) (b : Nat) (G : jx_H) (sz : Nat) (a n : Nat) (ch fl ob : Int32) (h : Nat → Option Nat) (tm : Nat → Int32) (D : Nat → Prop) (hS : G a = so_o a ch fl ob) (hH : G (a + 1) = some (ja_q E 4 n h)) (hn : n < 100) (hD : ∀ p, p < n → ∀ z, h p = some z → D z) (hT : ∀ z, D z → bn_k G z (tm z)) (sp : Nat → Int32) (hQ : G (a + 2) = some (ja_z E n sp)) : jx_ct l E b yS_unreadableBundles cS_unreadableBundles 3 (some .int) 2 0 0 [.ref a] G sz (jx_pu (.int (nI (so_u h tm sp n))) G sz) := by
  refine jx_met (by decide) (Nat.le_of_ble_eq_true rfl) (L0 := [_, _, _]) rfl (fun X k => ?_)
  refine jx_iconst k dS_unreadableBundles_0 (v := 0) (by decide) ?_
  refine jx_istore_n k dS_unreadableBundles_1 (Nat.le_of_ble_eq_true rfl) rfl (L' := [_, _, _]) rfl ?_
  refine jx_iconst k dS_unreadableBundles_2 (v := 0) (by decide) ?_
  refine jx_istore_n k dS_unreadableBundles_3 (Nat.le_of_ble_eq_true rfl) rfl (L' := [_, _, _]) rfl ?_
  refine fo_l (fun p c => jx_w X E b (jx_fin X E b (jx_pu (.int (nI (so_u h tm sp n))) G sz) 0 0) 4 [some (.ref a), some (.int (nI c)), some (.int (nI p))] [] G sz 0 0) (so_uf h tm sp) (lo := 0) (hi := n) (Nat.zero_le _) 0 ?_ ?_
  · intro p h1 h2
    generalize fo_f (so_uf h tm sp) 0 (p - 0) 0 = c
    intro kk
    rcases op_c (h p) with e | ⟨z, e⟩
    · have e2 : so_uf h tm sp p c = c := by unfold so_uf; rw [e]
      rw [e2] at kk
      refine jx_iload_n k dS_unreadableBundles_4 rfl ?_
      refine jx_aload_n k dS_unreadableBundles_5 rfl ?_
      refine jx_get k fS_24 dS_unreadableBundles_6 hS rfl ?_
      refine jx_alen k dS_unreadableBundles_9 hH (t := 4) rfl ?_
      refine jx_icmp_ge k dS_unreadableBundles_10 (tgt := 57) rfl (fun hh => absurd hh (nI_ge h2 (by omega))) (fun _ => ?_)
      refine jx_aload_n k dS_unreadableBundles_13 rfl ?_
      refine jx_get k fS_24 dS_unreadableBundles_14 hS rfl ?_
      refine jx_iload_n k dS_unreadableBundles_17 rfl ?_
      refine jx_ald0 k dS_unreadableBundles_18 hH (t := 4) rfl (p := p) rfl h2 (by omega) e ?_
      refine jx_ifnullN k dS_unreadableBundles_19 (tgt := 51) rfl ?_
      refine jx_iinc k dS_unreadableBundles_51 rfl (nI_1 p) rfl (L' := [_, _, _]) rfl ?_
      refine jx_goto k dS_unreadableBundles_54 (tgt := 4) rfl ?_
      exact kk
    · have e2 : so_uf h tm sp p c = if sp p ≠ 0 ∧ so_b h tm sp (tm z) p = false then c + 1 else c := by unfold so_uf; rw [e]
      rw [e2] at kk
      obtain ⟨s, cs, pv, ba, pb, sb, hB⟩ := hT z (hD p h2 z e)
      refine jx_iload_n k dS_unreadableBundles_4 rfl ?_
      refine jx_aload_n k dS_unreadableBundles_5 rfl ?_
      refine jx_get k fS_24 dS_unreadableBundles_6 hS rfl ?_
      refine jx_alen k dS_unreadableBundles_9 hH (t := 4) rfl ?_
      refine jx_icmp_ge k dS_unreadableBundles_10 (tgt := 57) rfl (fun hh => absurd hh (nI_ge h2 (by omega))) (fun _ => ?_)
      refine jx_aload_n k dS_unreadableBundles_13 rfl ?_
      refine jx_get k fS_24 dS_unreadableBundles_14 hS rfl ?_
      refine jx_iload_n k dS_unreadableBundles_17 rfl ?_
      refine jx_aldS k dS_unreadableBundles_18 hH (t := 4) rfl (p := p) rfl h2 (by omega) e ?_
      refine jx_ifnull k dS_unreadableBundles_19 ?_
      refine jx_aload_n k dS_unreadableBundles_22 rfl ?_
      refine jx_get k fS_28 dS_unreadableBundles_23 hS rfl ?_
      refine jx_iload_n k dS_unreadableBundles_26 rfl ?_
      refine jx_zldN k dS_unreadableBundles_27 hQ (p := p) rfl (by omega) (by omega) ?_
      refine jx_if_eq k dS_unreadableBundles_28 (tgt := 51) rfl (fun h3 => ?_) (fun h3 => ?_)
      · rw [if_neg (fun h => h.1 h3)] at kk
        refine jx_iinc k dS_unreadableBundles_51 rfl (nI_1 p) rfl (L' := [_, _, _]) rfl ?_
        refine jx_goto k dS_unreadableBundles_54 (tgt := 4) rfl ?_
        exact kk
      · refine jx_aload_n k dS_unreadableBundles_31 rfl ?_
        refine jx_iload_n k dS_unreadableBundles_32 rfl ?_
        refine jx_aload_n k dS_unreadableBundles_33 rfl ?_
        refine jx_get k fS_24 dS_unreadableBundles_34 hS rfl ?_
        refine jx_iload_n k dS_unreadableBundles_37 rfl ?_
        refine jx_aldS k dS_unreadableBundles_38 hH (t := 4) rfl (p := p) rfl h2 (by omega) e ?_
        refine jx_get k fS_62 dS_unreadableBundles_39 hB rfl ?_
        refine jx_callVP k mS_101 (k_spoiledBefore _ _ _ _ _ a n ch fl ob h tm D hS hH hn hD hT sp hQ p (by omega) (tm z)) hS rfl dS_unreadableBundles_42 rfl rfl rfl (Nat.le_of_ble_eq_true rfl) ⟨Nat.le_of_ble_eq_true rfl, Nat.le_of_ble_eq_true rfl⟩ ⟨Nat.le_of_ble_eq_true rfl, Nat.le_of_ble_eq_true rfl⟩ ?_
        refine jx_if_ne k dS_unreadableBundles_45 (tgt := 51) rfl (fun h4 => ?_) (fun h4 => ?_)
        · rw [if_neg (fun h => h4 (jb_f (by rw [h.2]; decide)))] at kk
          refine jx_iinc k dS_unreadableBundles_51 rfl (nI_1 p) rfl (L' := [_, _, _]) rfl ?_
          refine jx_goto k dS_unreadableBundles_54 (tgt := 4) rfl ?_
          exact kk
        · rw [if_pos ⟨h3, by cases e4 : so_b h tm sp (tm z) p with
            | false => rfl
            | true => exact absurd e4 (jb_e0.mp h4)⟩] at kk
          refine jx_iinc k dS_unreadableBundles_48 rfl (nI_1 c) rfl (L' := [_, _, _]) rfl ?_
          refine jx_iinc k dS_unreadableBundles_51 rfl (nI_1 p) rfl (L' := [_, _, _]) rfl ?_
          refine jx_goto k dS_unreadableBundles_54 (tgt := 4) rfl ?_
          exact kk
  · refine jx_iload_n k dS_unreadableBundles_4 rfl ?_
    refine jx_aload_n k dS_unreadableBundles_5 rfl ?_
    refine jx_get k fS_24 dS_unreadableBundles_6 hS rfl ?_
    refine jx_alen k dS_unreadableBundles_9 hH (t := 4) rfl ?_
    refine jx_icmp_ge k dS_unreadableBundles_10 (tgt := 57) rfl (fun _ => ?_) (fun hh => absurd (nI_le (Nat.le_refl _) (by omega)) hh)
    refine jx_iload_n k dS_unreadableBundles_57 rfl ?_
    exact jx_iret k dS_unreadableBundles_58 (Nat.le_refl _) (Nat.le_refl _) ⟨rfl, rfl, rfl⟩
/-- readableBundle -/
def so_rs (h : Nat → Option Nat) (tm sp : Nat → Int32) (t : Int32) : Nat → Nat → Option Nat → Option Nat
  | 0, _, o => o
  | f + 1, p, o => if so_i h tm p t then (if sp p ≠ 0 then none else so_rs h tm sp t f (p + 1) (h p)) else so_rs h tm sp t f (p + 1) o
def so_r (h : Nat → Option Nat) (tm sp : Nat → Int32) (n : Nat) (t : Int32) : Option Nat := so_rs h tm sp t n 0 none
set_option maxRecDepth 100000 in
set_option maxHeartbeats 4000000 in
theorem k_readable (l : Launch) (E : jx_E) (b : Nat) (G : jx_H) (sz : Nat) (a n : Nat) (ch fl ob : Int32) (h : Nat → Option Nat) (tm : Nat → Int32) (D : Nat → Prop) (hS : G a = so_o a ch fl ob) (hH : G (a + 1) = some (ja_q E 4 n h)) (hn : n < 100) (hD : ∀ p, p < n → ∀ z, h p = some z → D z) (hT : ∀ z, D z → bn_k G z (tm z)) (sp : Nat → Int32) (hQ : G (a + 2) = some (ja_z E n sp)) (t : Int32) : jx_ct l E b yS_readableBundle cS_readableBundle 4 (some (.object "VoyageKeeper$Bundle")) 1 0 0 [.ref a, .int t] G sz (jx_pu (bv (so_r h tm sp n t)) G sz) := by
  refine jx_met (by decide) (Nat.le_of_ble_eq_true rfl) (L0 := [_, _, _, _]) rfl (fun X k => ?_)
  refine jx_null k dS_readableBundle_0 ?_
  refine jx_astore_nN k dS_readableBundle_1 (Nat.le_of_ble_eq_true rfl) rfl (L' := [_, _, _, _]) rfl ?_
  refine jx_iconst k dS_readableBundle_2 (v := 0) (by decide) ?_
  refine jx_istore_n k dS_readableBundle_3 (Nat.le_of_ble_eq_true rfl) rfl (L' := [_, _, _, _]) rfl ?_
  have key : ∀ f p o, p + f = n → so_rs h tm sp t f p o = so_r h tm sp n t → jx_w X E b (jx_fin X E b (jx_pu (bv (so_r h tm sp n t)) G sz) 0 0) 4 [some (.ref a), some (.int t), some (bv o), some (.int (nI p))] [] G sz 0 0 := by
    intro f
    induction f with
    | zero =>
      intro p o hp he
      have e8 : p = n := by omega
      subst e8
      rw [show o = so_r h tm sp p t from he]
      refine jx_iload_n k dS_readableBundle_4 rfl ?_
      refine jx_aload_n k dS_readableBundle_5 rfl ?_
      refine jx_get k fS_24 dS_readableBundle_6 hS rfl ?_
      refine jx_alen k dS_readableBundle_9 hH (t := 4) rfl ?_
      refine jx_icmp_ge k dS_readableBundle_10 (tgt := 46) rfl (fun _ => ?_) (fun hh => absurd (nI_le (Nat.le_refl _) (by omega)) hh)
      rcases op_c (so_r h tm sp p t) with e | ⟨z, e⟩
      · rw [e]
        refine jx_aload_nN k dS_readableBundle_46 rfl ?_
        exact jx_aret k (.inl rfl) dS_readableBundle_47 (Nat.le_refl _) (Nat.le_refl _) ⟨rfl, rfl, rfl⟩
      · rw [e]
        refine jx_aload_n k dS_readableBundle_46 rfl ?_
        exact jx_aret k (.inr ⟨_, rfl⟩) dS_readableBundle_47 (Nat.le_refl _) (Nat.le_refl _) ⟨rfl, rfl, rfl⟩
    | succ f ih =>
      intro p o hp he
      rw [so_rs] at he
      refine jx_iload_n k dS_readableBundle_4 rfl ?_
      refine jx_aload_n k dS_readableBundle_5 rfl ?_
      refine jx_get k fS_24 dS_readableBundle_6 hS rfl ?_
      refine jx_alen k dS_readableBundle_9 hH (t := 4) rfl ?_
      refine jx_icmp_ge k dS_readableBundle_10 (tgt := 46) rfl (fun hh => absurd hh (nI_ge (show p < n by omega) (by omega))) (fun _ => ?_)
      refine jx_aload_n k dS_readableBundle_13 rfl ?_
      refine jx_iload_n k dS_readableBundle_14 rfl ?_
      refine jx_iload_n k dS_readableBundle_15 rfl ?_
      refine jx_callVP k mS_65 (k_isOf _ _ _ _ _ a n ch fl ob h tm D hS hH hn hD hT p t (by omega)) hS rfl dS_readableBundle_16 rfl rfl rfl (Nat.le_of_ble_eq_true rfl) ⟨Nat.le_of_ble_eq_true rfl, Nat.le_of_ble_eq_true rfl⟩ ⟨Nat.le_of_ble_eq_true rfl, Nat.le_of_ble_eq_true rfl⟩ ?_
      refine jx_if_eq k dS_readableBundle_19 (tgt := 40) rfl (fun h3 => ?_) (fun h3 => ?_)
      · rw [if_neg (jb_e0.mp h3)] at he
        cases o with
        | none =>
          refine jx_iinc k dS_readableBundle_40 rfl (nI_1 p) rfl (L' := [_, _, _, _]) rfl ?_
          refine jx_goto k dS_readableBundle_43 (tgt := 4) rfl ?_
          exact ih (p + 1) none (by omega) he
        | some z0 =>
          refine jx_iinc k dS_readableBundle_40 rfl (nI_1 p) rfl (L' := [_, _, _, _]) rfl ?_
          refine jx_goto k dS_readableBundle_43 (tgt := 4) rfl ?_
          exact ih (p + 1) (some z0) (by omega) he
      · have h4 : so_i h tm p t := Decidable.byContradiction (fun h => h3 (jb_f h))
        rw [if_pos h4] at he
        refine jx_aload_n k dS_readableBundle_22 rfl ?_
        refine jx_get k fS_28 dS_readableBundle_23 hS rfl ?_
        refine jx_iload_n k dS_readableBundle_26 rfl ?_
        refine jx_zldN k dS_readableBundle_27 hQ (p := p) rfl (by omega) (by omega) ?_
        refine jx_if_eq k dS_readableBundle_28 (tgt := 33) rfl (fun h5 => ?_) (fun h5 => ?_)
        · rw [if_neg (fun h => h h5)] at he
          rcases op_c (h p) with e | ⟨z, e⟩
          · exact absurd h4 (by show ¬ (h p).map tm = some t; rw [e]; exact fun h => by cases h)
          · rw [e] at he
            refine jx_aload_n k dS_readableBundle_33 rfl ?_
            refine jx_get k fS_24 dS_readableBundle_34 hS rfl ?_
            refine jx_iload_n k dS_readableBundle_37 rfl ?_
            refine jx_aldS k dS_readableBundle_38 hH (t := 4) rfl (p := p) rfl (by omega) (by omega) e ?_
            refine jx_astore_n k dS_readableBundle_39 (Nat.le_of_ble_eq_true rfl) rfl (L' := [_, _, _, _]) rfl ?_
            refine jx_iinc k dS_readableBundle_40 rfl (nI_1 p) rfl (L' := [_, _, _, _]) rfl ?_
            refine jx_goto k dS_readableBundle_43 (tgt := 4) rfl ?_
            exact ih (p + 1) (some z) (by omega) he
        · rw [if_pos h5] at he
          refine jx_null k dS_readableBundle_31 ?_
          exact jx_aret k (.inl rfl) dS_readableBundle_32 (Nat.le_refl _) (Nat.le_refl _) ⟨by rw [← he]; rfl, rfl, rfl⟩
  exact key n 0 none (by omega) rfl
/- spoilPage -/
set_option maxRecDepth 100000 in
theorem k_spoil0 (l : Launch) (E : jx_E) (b : Nat) (G : jx_H) (sz : Nat) (a n : Nat) (ch fl ob : Int32) (hS : G a = so_o a ch fl ob) (hn : n < 100) (sp : Nat → Int32) (hQ : G (a + 2) = some (ja_z E n sp)) (i : Int32) (hi : ¬ ((0 ≤ i ∧ i < nI n) ∧ sp i.toNatClampNeg = 0)) : jx_ct l E b yS_spoilPage cS_spoilPage 2 (some .boolean) 1 0 0 [.ref a, .int i] G sz (jx_pu (.int 0) G sz) := by
  refine jx_met (by decide) (Nat.le_of_ble_eq_true rfl) (L0 := [_, _]) rfl (fun X k => ?_)
  refine jx_iload_n k dS_spoilPage_0 rfl ?_
  refine jx_aload_n k dS_spoilPage_1 rfl ?_
  refine jx_get k fS_28 dS_spoilPage_2 hS rfl ?_
  refine jx_alen k dS_spoilPage_5 hQ (t := 1) rfl ?_
  refine jx_callSP k mS_98 (k_isBelow _ _ _ _ _ i (nI n)) dS_spoilPage_6 rfl rfl rfl (Nat.le_of_ble_eq_true rfl) ⟨Nat.le_of_ble_eq_true rfl, Nat.le_of_ble_eq_true rfl⟩ ⟨Nat.le_of_ble_eq_true rfl, Nat.le_of_ble_eq_true rfl⟩ ?_
  refine jx_if_eq k dS_spoilPage_9 (tgt := 21) rfl (fun h1 => ?_) (fun h1 => ?_)
  · refine jx_iconst k dS_spoilPage_21 (v := 0) (by decide) ?_
    exact jx_zret k dS_spoilPage_22 rfl (Nat.le_refl _) (Nat.le_refl _) ⟨rfl, rfl, rfl⟩
  · have g1 := Decidable.byContradiction (fun h => h1 (jb_f h))
    obtain ⟨j, hj, rfl⟩ := nI_lift (n := n) g1.1 g1.2 (by omega)
    have g2 : ¬ sp j = 0 := fun h => hi ⟨g1, by rw [nI_clamp (by omega)]; exact h⟩
    refine jx_aload_n k dS_spoilPage_12 rfl ?_
    refine jx_get k fS_28 dS_spoilPage_13 hS rfl ?_
    refine jx_iload_n k dS_spoilPage_16 rfl ?_
    refine jx_zldN k dS_spoilPage_17 hQ (p := j) rfl (by omega) (by omega) ?_
    refine jx_if_eq k dS_spoilPage_18 (tgt := 23) rfl (fun hh => absurd hh g2) (fun _ => ?_)
    refine jx_iconst k dS_spoilPage_21 (v := 0) (by decide) ?_
    exact jx_zret k dS_spoilPage_22 rfl (Nat.le_refl _) (Nat.le_refl _) ⟨rfl, rfl, rfl⟩
set_option maxRecDepth 100000 in
theorem k_spoil1 (l : Launch) (E : jx_E) (b : Nat) (G : jx_H) (sz : Nat) (a n : Nat) (ch fl ob : Int32) (hS : G a = so_o a ch fl ob) (hn : n < 100) (sp : Nat → Int32) (hQ : G (a + 2) = some (ja_z E n sp)) (j : Nat) (hj : j < n) (hs : sp j = 0) : jx_ct l E b yS_spoilPage cS_spoilPage 2 (some .boolean) 1 0 0 [.ref a, .int (nI j)] G sz (fun v G' sz' => v = some (.int 1) ∧ G' = va_up G (a + 2) (some (ja_z E n (upd sp j 1))) ∧ sz' = sz) := by
  refine jx_met (by decide) (Nat.le_of_ble_eq_true rfl) (L0 := [_, _]) rfl (fun X k => ?_)
  have g1 : 0 ≤ nI j ∧ nI j < nI n := ⟨nI_pos' (by omega), nI_lt hj (by omega)⟩
  refine jx_iload_n k dS_spoilPage_0 rfl ?_
  refine jx_aload_n k dS_spoilPage_1 rfl ?_
  refine jx_get k fS_28 dS_spoilPage_2 hS rfl ?_
  refine jx_alen k dS_spoilPage_5 hQ (t := 1) rfl ?_
  refine jx_callSP k mS_98 (k_isBelow _ _ _ _ _ (nI j) (nI n)) dS_spoilPage_6 rfl rfl rfl (Nat.le_of_ble_eq_true rfl) ⟨Nat.le_of_ble_eq_true rfl, Nat.le_of_ble_eq_true rfl⟩ ⟨Nat.le_of_ble_eq_true rfl, Nat.le_of_ble_eq_true rfl⟩ ?_
  refine jx_if_eq k dS_spoilPage_9 (tgt := 21) rfl (fun hh => absurd hh (fun h => jb_e0.mp h g1)) (fun _ => ?_)
  refine jx_aload_n k dS_spoilPage_12 rfl ?_
  refine jx_get k fS_28 dS_spoilPage_13 hS rfl ?_
  refine jx_iload_n k dS_spoilPage_16 rfl ?_
  refine jx_zldN k dS_spoilPage_17 hQ (p := j) rfl (by omega) (by omega) ?_
  refine jx_if_eq k dS_spoilPage_18 (tgt := 23) rfl (fun _ => ?_) (fun hh => absurd hs hh)
  refine jx_aload_n k dS_spoilPage_23 rfl ?_
  refine jx_get k fS_28 dS_spoilPage_24 hS rfl ?_
  refine jx_iload_n k dS_spoilPage_27 rfl ?_
  refine jx_iconst k dS_spoilPage_28 (v := 1) (by decide) ?_
  refine jx_zstN k dS_spoilPage_29 hQ (p := j) rfl (by omega) (by omega) rfl ?_
  refine jx_iconst k dS_spoilPage_30 (v := 1) (by decide) ?_
  exact jx_zret k dS_spoilPage_31 rfl (Nat.le_refl _) (Nat.le_refl _) ⟨rfl, rfl, rfl⟩
/-- makeRoom -/
def so_ks (ob : Int32) (u f g tm : Nat → Int32) (n k : Nat) : Nat → (Nat → Option Nat) → Bool × (Nat → Option Nat)
  | 0, h => (decide (k ≤ so_f h n), h)
  | e + 1, h => if so_f h n < k then (if so_n ob u f g h tm n = -1 then (false, h) else so_ks ob u f g tm n k e (so_t tm (so_n ob u f g h tm n) n h)) else (true, h)
theorem so_f_le (h : Nat → Option Nat) : ∀ n, so_f h n ≤ n := by
  intro n
  induction n with
  | zero => exact Nat.le_refl _
  | succ n ih =>
    unfold so_f at ih ⊢
    rw [fo_s, so_ff]
    split <;> omega
set_option maxRecDepth 100000 in
set_option maxHeartbeats 4000000 in
theorem k_makeRoom (l : Launch) (E : jx_E) (b : Nat) (G : jx_H) (sz : Nat) (a n : Nat) (ch fl ob : Int32) (h : Nat → Option Nat) (tm : Nat → Int32) (D : Nat → Prop) (hS : G a = so_o a ch fl ob) (hH : G (a + 1) = some (ja_q E 4 n h)) (hn : n < 100) (hD : ∀ p, p < n → ∀ z, h p = some z → D z) (hT : ∀ z, D z → bn_k G z (tm z)) (fa : Nat) (u f g : Nat → Int32) (hF : G fa = fz_o fa) (hU : G (fa + 1) = some (ja_z E 3 u)) (hA : G (fa + 2) = some (ja_i E 3 f)) (hL : G (fa + 3) = some (ja_i E 3 g)) (kn : Nat) (hkn : kn < 1000) (hn1 : fa ≠ a + 1) (hn2 : fa + 1 ≠ a + 1) (hn3 : fa + 2 ≠ a + 1) (hn4 : fa + 3 ≠ a + 1) : jx_ct l E b yS_makeRoom cS_makeRoom 5 (some .boolean) 3 0 0 [.ref a, .int (nI kn), .ref fa] G sz (fun v G' sz' => v = some (.int (jb_z ((so_ks ob u f g tm n kn n h).1 = true))) ∧ G' = va_up G (a + 1) (some (ja_q E 4 n (so_ks ob u f g tm n kn n h).2)) ∧ sz' = sz) := by
  refine jx_met (by decide) (Nat.le_of_ble_eq_true rfl) (L0 := [_, _, _, _, _]) rfl (fun X k => ?_)
  refine jx_iconst k dS_makeRoom_0 (v := 0) (by decide) ?_
  refine jx_istore_n k dS_makeRoom_1 (Nat.le_of_ble_eq_true rfl) rfl (L' := [_, _, _, _, _]) rfl ?_
  have key : ∀ e p h', p + e = n → so_ks ob u f g tm n kn e h' = so_ks ob u f g tm n kn n h → (∀ q z, h' q = some z → h q = some z) → jx_w X E b (jx_fin X E b (fun v G' sz' => v = some (.int (jb_z ((so_ks ob u f g tm n kn n h).1 = true))) ∧ G' = va_up G (a + 1) (some (ja_q E 4 n (so_ks ob u f g tm n kn n h).2)) ∧ sz' = sz) 0 0) 2 [some (.ref a), some (.int (nI kn)), some (.ref fa), some (.int (nI p)), none] [] (va_up G (a + 1) (some (ja_q E 4 n h'))) sz 0 0 := by
    intro e
    induction e with
    | zero =>
      intro p h' hp he hsub
      have e8 : p = n := by omega
      subst e8
      have eS : va_up G (a + 1) (some (ja_q E 4 p h')) a = so_o a ch fl ob := (va_up_ne _ _ (by omega)).trans hS
      have fl := so_f_le h' p
      rw [← he]
      refine jx_iload_n k dS_makeRoom_2 rfl ?_
      refine jx_aload_n k dS_makeRoom_3 rfl ?_
      refine jx_get k fS_24 dS_makeRoom_4 eS rfl ?_
      refine jx_alen k dS_makeRoom_7 (va_up_self _ _ _) (t := 4) rfl ?_
      refine jx_icmp_ge k dS_makeRoom_8 (tgt := 46) rfl (fun _ => ?_) (fun hh => absurd (nI_le (Nat.le_refl _) (by omega)) hh)
      refine jx_aload_n k dS_makeRoom_46 rfl ?_
      refine jx_callVP k mS_44 (k_freePages _ _ _ _ _ a p ch _ ob h' eS (va_up_self _ _ _) hn) eS rfl dS_makeRoom_47 rfl rfl rfl (Nat.le_of_ble_eq_true rfl) ⟨Nat.le_of_ble_eq_true rfl, Nat.le_of_ble_eq_true rfl⟩ ⟨Nat.le_of_ble_eq_true rfl, Nat.le_of_ble_eq_true rfl⟩ ?_
      refine jx_iload_n k dS_makeRoom_50 rfl ?_
      refine jx_icmp_lt k dS_makeRoom_51 (tgt := 58) rfl (fun h1 => ?_) (fun h1 => ?_)
      · refine jx_iconst k dS_makeRoom_58 (v := 0) (by decide) ?_
        exact jx_zret k dS_makeRoom_59 rfl (Nat.le_refl _) (Nat.le_refl _) ⟨by rw [jb_f (by show ¬ decide (kn ≤ so_f h' p) = true; rw [decide_eq_true_iff]; exact fun h => absurd h1 (nI_nlt h (by omega)))], rfl, rfl⟩
      · refine jx_iconst k dS_makeRoom_54 (v := 1) (by decide) ?_
        refine jx_goto k dS_makeRoom_55 (tgt := 59) rfl ?_
        exact jx_zret k dS_makeRoom_59 rfl (Nat.le_refl _) (Nat.le_refl _) ⟨by rw [jb_t (by show decide (kn ≤ so_f h' p) = true; rw [decide_eq_true_iff]; exact Decidable.byContradiction (fun h => h1 (nI_lt (by omega) (by omega))))], rfl, rfl⟩
    | succ e ih =>
      intro p h' hp he hsub
      have eS : va_up G (a + 1) (some (ja_q E 4 n h')) a = so_o a ch fl ob := (va_up_ne _ _ (by omega)).trans hS
      have eF : va_up G (a + 1) (some (ja_q E 4 n h')) fa = fz_o fa := (va_up_ne _ _ hn1).trans hF
      have eU : va_up G (a + 1) (some (ja_q E 4 n h')) (fa + 1) = some (ja_z E 3 u) := (va_up_ne _ _ hn2).trans hU
      have eA : va_up G (a + 1) (some (ja_q E 4 n h')) (fa + 2) = some (ja_i E 3 f) := (va_up_ne _ _ hn3).trans hA
      have eL : va_up G (a + 1) (some (ja_q E 4 n h')) (fa + 3) = some (ja_i E 3 g) := (va_up_ne _ _ hn4).trans hL
      have eD : ∀ p, p < n → ∀ z, h' p = some z → D z := fun p hp z e => hD p hp z (hsub p z e)
      have eT : ∀ z, D z → bn_k (va_up G (a + 1) (some (ja_q E 4 n h'))) z (tm z) := fun z hz => bn_k_up (hT z hz) hH
      have fle := so_f_le h' n
      rw [so_ks] at he
      refine jx_iload_n k dS_makeRoom_2 rfl ?_
      refine jx_aload_n k dS_makeRoom_3 rfl ?_
      refine jx_get k fS_24 dS_makeRoom_4 eS rfl ?_
      refine jx_alen k dS_makeRoom_7 (va_up_self _ _ _) (t := 4) rfl ?_
      refine jx_icmp_ge k dS_makeRoom_8 (tgt := 46) rfl (fun hh => absurd hh (nI_ge (show p < n by omega) (by omega))) (fun _ => ?_)
      refine jx_aload_n k dS_makeRoom_11 rfl ?_
      refine jx_callVP k mS_44 (k_freePages _ _ _ _ _ a n ch _ ob h' eS (va_up_self _ _ _) hn) eS rfl dS_makeRoom_12 rfl rfl rfl (Nat.le_of_ble_eq_true rfl) ⟨Nat.le_of_ble_eq_true rfl, Nat.le_of_ble_eq_true rfl⟩ ⟨Nat.le_of_ble_eq_true rfl, Nat.le_of_ble_eq_true rfl⟩ ?_
      refine jx_iload_n k dS_makeRoom_15 rfl ?_
      refine jx_icmp_ge k dS_makeRoom_16 (tgt := 46) rfl (fun h1 => ?_) (fun h1 => ?_)
      · have h2 : ¬ so_f h' n < kn := fun h => absurd h1 (nI_ge h (by omega))
        rw [if_neg h2] at he
        rw [← he]
        refine jx_aload_n k dS_makeRoom_46 rfl ?_
        refine jx_callVP k mS_44 (k_freePages _ _ _ _ _ a n ch _ ob h' eS (va_up_self _ _ _) hn) eS rfl dS_makeRoom_47 rfl rfl rfl (Nat.le_of_ble_eq_true rfl) ⟨Nat.le_of_ble_eq_true rfl, Nat.le_of_ble_eq_true rfl⟩ ⟨Nat.le_of_ble_eq_true rfl, Nat.le_of_ble_eq_true rfl⟩ ?_
        refine jx_iload_n k dS_makeRoom_50 rfl ?_
        refine jx_icmp_lt k dS_makeRoom_51 (tgt := 58) rfl (fun hh => absurd hh (nI_nlt (by omega) (by omega))) (fun _ => ?_)
        refine jx_iconst k dS_makeRoom_54 (v := 1) (by decide) ?_
        refine jx_goto k dS_makeRoom_55 (tgt := 59) rfl ?_
        exact jx_zret k dS_makeRoom_59 rfl (Nat.le_refl _) (Nat.le_refl _) ⟨rfl, rfl, rfl⟩
      · have h2 : so_f h' n < kn := Decidable.byContradiction (fun h => h1 (nI_le (by omega) (by omega)))
        rw [if_pos h2] at he
        refine jx_aload_n k dS_makeRoom_19 rfl ?_
        refine jx_aload_n k dS_makeRoom_20 rfl ?_
        refine jx_callVP k mS_48 (k_notFrozen _ _ _ _ _ a n ch fl ob h' tm D eS (va_up_self _ _ _) hn eD eT fa u f g eF eU eA eL) eS rfl dS_makeRoom_21 rfl rfl rfl (Nat.le_of_ble_eq_true rfl) ⟨Nat.le_of_ble_eq_true rfl, Nat.le_of_ble_eq_true rfl⟩ ⟨Nat.le_of_ble_eq_true rfl, Nat.le_of_ble_eq_true rfl⟩ ?_
        refine jx_istore k dS_makeRoom_24 (Nat.le_of_ble_eq_true rfl) rfl (L' := [_, _, _, _, _]) rfl ?_
        refine jx_iload k dS_makeRoom_26 rfl ?_
        refine jx_iconst k dS_makeRoom_28 (v := (-1)) (by decide) ?_
        refine jx_icmp_ne k dS_makeRoom_29 (tgt := 34) rfl (fun h3 => ?_) (fun h3 => ?_)
        · rw [if_neg h3] at he
          refine jx_aload_n k dS_makeRoom_34 rfl ?_
          refine jx_iload k dS_makeRoom_35 rfl ?_
          refine jx_callV0 k mS_52 (k_takeOut _ _ _ _ _ a n ch fl ob h' tm D eS (va_up_self _ _ _) hn eD eT (so_n ob u f g h' tm n)) eS rfl dS_makeRoom_37 rfl rfl rfl (Nat.le_of_ble_eq_true rfl) ⟨Nat.le_of_ble_eq_true rfl, Nat.le_of_ble_eq_true rfl⟩ ⟨Nat.le_of_ble_eq_true rfl, Nat.le_of_ble_eq_true rfl⟩ ?_
          rw [va_uu]
          refine jx_iinc k dS_makeRoom_40 rfl (nI_1 p) rfl (L' := [_, _, _, _, _]) rfl ?_
          refine jx_goto k dS_makeRoom_43 (tgt := 2) rfl ?_
          refine jx_fg (jx_ls (jx_ls (jx_ls (jx_ls (jx_ln jx_l0))))) ?_
          exact ih (p + 1) _ (by omega) he (fun q z e => hsub q z (so_t_sub e))
        · rw [if_pos h3] at he
          rw [← he]
          refine jx_iconst k dS_makeRoom_32 (v := 0) (by decide) ?_
          exact jx_zret k dS_makeRoom_33 rfl (Nat.le_refl _) (Nat.le_refl _) ⟨rfl, rfl, rfl⟩
  have kk := key n 0 h (by omega) rfl (fun _ _ e => e)
  rw [va_us hH] at kk
  exact kk
