/-- a store's arrays and the power, changed -/
def wg (E : jx_E) (a n wa : Nat) (G : jx_H) (h : Nat → Option Nat) (sp : Nat → Int32) (on cut : Int32) : jx_H := va_up (va_up (va_up G (a + 1) (some (ja_q E 4 n h))) (a + 2) (some (ja_z E n sp))) wa (pw_o on cut)
theorem wg_n {E : jx_E} {a n wa q : Nat} {G : jx_H} {h : Nat → Option Nat} {sp : Nat → Int32} {on cut : Int32} (h1 : q ≠ a + 1) (h2 : q ≠ a + 2) (h3 : q ≠ wa) : wg E a n wa G h sp on cut q = G q := by
  unfold wg
  rw [va_up_ne _ _ h3, va_up_ne _ _ h2, va_up_ne _ _ h1]
theorem wg_1 {E : jx_E} {a n wa : Nat} {G : jx_H} {h : Nat → Option Nat} {sp : Nat → Int32} {on cut : Int32} (h3 : wa ≠ a + 1) : wg E a n wa G h sp on cut (a + 1) = some (ja_q E 4 n h) := by
  unfold wg
  rw [va_up_ne _ _ (Ne.symm h3), va_up_ne _ _ (by omega), va_up_self]
theorem wg_2 {E : jx_E} {a n wa : Nat} {G : jx_H} {h : Nat → Option Nat} {sp : Nat → Int32} {on cut : Int32} (h3 : wa ≠ a + 2) : wg E a n wa G h sp on cut (a + 2) = some (ja_z E n sp) := by
  unfold wg
  rw [va_up_ne _ _ (Ne.symm h3), va_up_self]
theorem wg_w {E : jx_E} {a n wa : Nat} {G : jx_H} {h : Nat → Option Nat} {sp : Nat → Int32} {on cut : Int32} : wg E a n wa G h sp on cut wa = pw_o on cut := va_up_self _ _ _
theorem wg_pw {E : jx_E} {a n wa : Nat} {G : jx_H} {h : Nat → Option Nat} {sp : Nat → Int32} {on cut on' cut' : Int32} : va_up (wg E a n wa G h sp on cut) wa (pw_o on' cut') = wg E a n wa G h sp on' cut' := va_uu _ _ _ _
theorem wg_h {E : jx_E} {a n wa : Nat} {G : jx_H} {h h' : Nat → Option Nat} {sp : Nat → Int32} {on cut : Int32} (h3 : wa ≠ a + 1) : va_up (wg E a n wa G h sp on cut) (a + 1) (some (ja_q E 4 n h')) = wg E a n wa G h' sp on cut := by
  unfold wg
  rw [va_uc _ _ _ h3, va_uc _ _ _ (show a + 2 ≠ a + 1 by omega), va_uu]
theorem wg_s {E : jx_E} {a n wa : Nat} {G : jx_H} {h : Nat → Option Nat} {sp sp' : Nat → Int32} {on cut : Int32} (h3 : wa ≠ a + 2) : va_up (wg E a n wa G h sp on cut) (a + 2) (some (ja_z E n sp')) = wg E a n wa G h sp' on cut := by
  unfold wg
  rw [va_uc _ _ _ h3, va_uu]
theorem wg_self {E : jx_E} {a n wa : Nat} {G : jx_H} {h : Nat → Option Nat} {sp : Nat → Int32} {on cut : Int32} (hH : G (a + 1) = some (ja_q E 4 n h)) (hQ : G (a + 2) = some (ja_z E n sp)) (hW : G wa = pw_o on cut) : wg E a n wa G h sp on cut = G := by
  unfold wg
  rw [va_us hH, va_us hQ, va_us hW]
theorem bn_k_wg {E : jx_E} {a n wa z : Nat} {G : jx_H} {h h' : Nat → Option Nat} {sp sp' : Nat → Int32} {on cut on' cut' : Int32} {t : Int32} (hz : bn_k G z t) (hH : G (a + 1) = some (ja_q E 4 n h)) (hQ : G (a + 2) = some (ja_z E n sp)) (hW : G wa = pw_o on cut) : bn_k (wg E a n wa G h' sp' on' cut') z t := by
  obtain ⟨s, cs, pv, ba, pb, sb, hz⟩ := hz
  refine ⟨s, cs, pv, ba, pb, sb, ?_⟩
  rw [wg_n (fun e => ?_) (fun e => ?_) (fun e => ?_)]
  · exact hz
  · rw [e, hH] at hz; cases hz
  · rw [e, hQ] at hz; cases hz
  · rw [e, hW] at hz
    injection hz with hz
    injection hz with hz
    injection hz with hz1 hz2
    cases hz1
/-- write -/
def so_ws (tm : Nat → Int32) (B n kn : Nat) : Nat → Nat → Nat → (Nat → Option Nat) → (Nat → Int32) → Int32 → Int32 → Bool × (Nat → Option Nat) × (Nat → Int32) × Int32 × Int32
  | 0, _, _, h, sp, on, cut => (true, h, sp, on, cut)
  | e + 1, p, w, h, sp, on, cut => if w < kn then (if h p = none then (if (pw_c on cut).1 = true then (false, so_t tm (tm B) n h, sp, (pw_c on cut).2.1, (pw_c on cut).2.2) else so_ws tm B n kn e (p + 1) (w + 1) (va_up h p (some B)) (upd sp p 0) (pw_c on cut).2.1 (pw_c on cut).2.2) else so_ws tm B n kn e (p + 1) w h sp on cut) else (true, h, sp, on, cut)
def so_w (tm : Nat → Int32) (B n kn : Nat) (h : Nat → Option Nat) (sp : Nat → Int32) (on cut : Int32) : Bool × (Nat → Option Nat) × (Nat → Int32) × Int32 × Int32 := so_ws tm B n kn n 0 0 h sp on cut
set_option maxRecDepth 100000 in
set_option maxHeartbeats 4000000 in
theorem k_write (l : Launch) (E : jx_E) (b : Nat) (G : jx_H) (sz : Nat) (a n : Nat) (ch fl ob : Int32) (h : Nat → Option Nat) (tm : Nat → Int32) (D : Nat → Prop) (hS : G a = so_o a ch fl ob) (hH : G (a + 1) = some (ja_q E 4 n h)) (hn : n < 100) (hD : ∀ p, p < n → ∀ z, h p = some z → D z) (hT : ∀ z, D z → bn_k G z (tm z)) (sp : Nat → Int32) (hQ : G (a + 2) = some (ja_z E n sp)) (wa : Nat) (on cut : Int32) (hW : G wa = pw_o on cut) (hw0 : wa ≠ a) (hw1 : wa ≠ a + 1) (hw2 : wa ≠ a + 2) (B kn : Nat) (hB : D B) (hkn : kn < 1000) : jx_ct l E b yS_write cS_write 6 (some .boolean) 2 0 0 [.ref a, .ref B, .int (nI kn), .ref wa] G sz (fun v G' sz' => v = some (.int (jb_z ((so_w tm B n kn h sp on cut).1 = true))) ∧ G' = wg E a n wa G (so_w tm B n kn h sp on cut).2.1 (so_w tm B n kn h sp on cut).2.2.1 (so_w tm B n kn h sp on cut).2.2.2.1 (so_w tm B n kn h sp on cut).2.2.2.2 ∧ sz' = sz) := by
  refine jx_met (by decide) (Nat.le_of_ble_eq_true rfl) (L0 := [_, _, _, _, _, _]) rfl (fun X k => ?_)
  refine jx_iconst k dS_write_0 (v := 0) (by decide) ?_
  refine jx_istore k dS_write_1 (Nat.le_of_ble_eq_true rfl) rfl (L' := [_, _, _, _, _, _]) rfl ?_
  refine jx_iconst k dS_write_3 (v := 0) (by decide) ?_
  refine jx_istore k dS_write_4 (Nat.le_of_ble_eq_true rfl) rfl (L' := [_, _, _, _, _, _]) rfl ?_
  have key : ∀ e p w h' sp' on' cut', p + e = n → w ≤ p → so_ws tm B n kn e p w h' sp' on' cut' = so_w tm B n kn h sp on cut → (∀ p, p < n → ∀ z, h' p = some z → D z) → jx_w X E b (jx_fin X E b (fun v G' sz' => v = some (.int (jb_z ((so_w tm B n kn h sp on cut).1 = true))) ∧ G' = wg E a n wa G (so_w tm B n kn h sp on cut).2.1 (so_w tm B n kn h sp on cut).2.2.1 (so_w tm B n kn h sp on cut).2.2.2.1 (so_w tm B n kn h sp on cut).2.2.2.2 ∧ sz' = sz) 0 0) 6 [some (.ref a), some (.ref B), some (.int (nI kn)), some (.ref wa), some (.int (nI w)), some (.int (nI p))] [] (wg E a n wa G h' sp' on' cut') sz 0 0 := by
    intro e
    induction e with
    | zero =>
      intro p w h' sp' on' cut' hp hwp he hD'
      have e8 : p = n := by omega
      subst e8
      have eS : wg E a p wa G h' sp' on' cut' a = so_o a ch fl ob := (wg_n (by omega) (by omega) (Ne.symm hw0)).trans hS
      rw [← he]
      refine jx_iload k dS_write_6 rfl ?_
      refine jx_aload_n k dS_write_8 rfl ?_
      refine jx_get k fS_24 dS_write_9 eS rfl ?_
      refine jx_alen k dS_write_12 (wg_1 hw1) (t := 4) rfl ?_
      refine jx_icmp_ge k dS_write_13 (tgt := 74) rfl (fun _ => ?_) (fun hh => absurd (nI_le (Nat.le_refl _) (by omega)) hh)
      refine jx_iconst k dS_write_74 (v := 1) (by decide) ?_
      exact jx_zret k dS_write_75 rfl (Nat.le_refl _) (Nat.le_refl _) ⟨rfl, rfl, rfl⟩
    | succ e ih =>
      intro p w h' sp' on' cut' hp hwp he hD'
      have eS : ∀ h2 s2 o2 c2, wg E a n wa G h2 s2 o2 c2 a = so_o a ch fl ob := fun _ _ _ _ => (wg_n (by omega) (by omega) (Ne.symm hw0)).trans hS
      have eT : ∀ h2 s2 o2 c2, ∀ z, D z → bn_k (wg E a n wa G h2 s2 o2 c2) z (tm z) := fun _ _ _ _ z hz => bn_k_wg (hT z hz) hH hQ hW
      rw [so_ws] at he
      refine jx_iload k dS_write_6 rfl ?_
      refine jx_aload_n k dS_write_8 rfl ?_
      refine jx_get k fS_24 dS_write_9 (eS _ _ _ _) rfl ?_
      refine jx_alen k dS_write_12 (wg_1 hw1) (t := 4) rfl ?_
      refine jx_icmp_ge k dS_write_13 (tgt := 74) rfl (fun hh => absurd hh (nI_ge (show p < n by omega) (by omega))) (fun _ => ?_)
      refine jx_iload k dS_write_16 rfl ?_
      refine jx_iload_n k dS_write_18 rfl ?_
      refine jx_icmp_ge k dS_write_19 (tgt := 74) rfl (fun h1 => ?_) (fun h1 => ?_)
      · have h2 : ¬ w < kn := fun h => absurd h1 (nI_ge h (by omega))
        rw [if_neg h2] at he
        rw [← he]
        refine jx_iconst k dS_write_74 (v := 1) (by decide) ?_
        exact jx_zret k dS_write_75 rfl (Nat.le_refl _) (Nat.le_refl _) ⟨rfl, rfl, rfl⟩
      · have h2 : w < kn := Decidable.byContradiction (fun h => h1 (nI_le (by omega) (by omega)))
        rw [if_pos h2] at he
        rcases op_c (h' p) with e0 | ⟨z, e0⟩
        · rw [if_pos e0] at he
          refine jx_aload_n k dS_write_22 rfl ?_
          refine jx_get k fS_24 dS_write_23 (eS _ _ _ _) rfl ?_
          refine jx_iload k dS_write_26 rfl ?_
          refine jx_ald0 k dS_write_28 (wg_1 hw1) (t := 4) rfl (p := p) rfl (by omega) (by omega) e0 ?_
          refine jx_ifnonnullN k dS_write_29 ?_
          refine jx_aload_n k dS_write_32 rfl ?_
          refine jx_callV1 k mS_56 (k_isCut _ _ _ _ _ wa on' cut' wg_w) wg_w rfl dS_write_33 rfl rfl rfl (Nat.le_of_ble_eq_true rfl) ⟨Nat.le_of_ble_eq_true rfl, Nat.le_of_ble_eq_true rfl⟩ ⟨Nat.le_of_ble_eq_true rfl, Nat.le_of_ble_eq_true rfl⟩ ?_
          rw [wg_pw]
          obtain ⟨s, cs, pv, ba, pb, sb, hBB⟩ := eT h' sp' (pw_c on' cut').2.1 (pw_c on' cut').2.2 B hB
          refine jx_if_eq k dS_write_36 (tgt := 49) rfl (fun h3 => ?_) (fun h3 => ?_)
          · rw [if_neg (jb_e0.mp h3)] at he
            refine jx_aload_n k dS_write_49 rfl ?_
            refine jx_get k fS_24 dS_write_50 (eS _ _ _ _) rfl ?_
            refine jx_iload k dS_write_53 rfl ?_
            refine jx_aload_n k dS_write_55 rfl ?_
            refine jx_astS k dS_write_56 (wg_1 hw1) (t := 4) rfl rfl hBB (p := p) rfl (by omega) (by omega) ?_
            rw [wg_h hw1]
            refine jx_aload_n k dS_write_57 rfl ?_
            refine jx_get k fS_28 dS_write_58 (eS _ _ _ _) rfl ?_
            refine jx_iload k dS_write_61 rfl ?_
            refine jx_iconst k dS_write_63 (v := 0) (by decide) ?_
            refine jx_zstN k dS_write_64 (wg_2 hw2) (p := p) rfl (by omega) (by omega) rfl ?_
            rw [wg_s hw2]
            refine jx_iinc k dS_write_65 rfl (nI_1 w) rfl (L' := [_, _, _, _, _, _]) rfl ?_
            refine jx_iinc k dS_write_68 rfl (nI_1 p) rfl (L' := [_, _, _, _, _, _]) rfl ?_
            refine jx_goto k dS_write_71 (tgt := 6) rfl ?_
            refine ih (p + 1) (w + 1) _ _ _ _ (by omega) (by omega) he (fun q hq z hz => ?_)
            by_cases h4 : q = p
            · subst h4
              rw [va_up_self] at hz
              rw [← Option.some.inj hz]
              exact hB
            · rw [va_up_ne _ _ h4] at hz
              exact hD' q hq z hz
          · rw [if_pos (Decidable.byContradiction (fun h => h3 (jb_f h)))] at he
            rw [← he]
            refine jx_aload_n k dS_write_39 rfl ?_
            refine jx_aload_n k dS_write_40 rfl ?_
            refine jx_get k fS_62 dS_write_41 hBB rfl ?_
            refine jx_callV0 k mS_52 (k_takeOut _ _ _ _ _ a n ch fl ob h' tm D (eS _ _ _ _) (wg_1 hw1) hn hD' (eT _ _ _ _) (tm B)) (eS _ _ _ _) rfl dS_write_44 rfl rfl rfl (Nat.le_of_ble_eq_true rfl) ⟨Nat.le_of_ble_eq_true rfl, Nat.le_of_ble_eq_true rfl⟩ ⟨Nat.le_of_ble_eq_true rfl, Nat.le_of_ble_eq_true rfl⟩ ?_
            rw [wg_h hw1]
            refine jx_iconst k dS_write_47 (v := 0) (by decide) ?_
            exact jx_zret k dS_write_48 rfl (Nat.le_refl _) (Nat.le_refl _) ⟨rfl, rfl, rfl⟩
        · rw [if_neg (by rw [e0]; exact fun h => by cases h)] at he
          refine jx_aload_n k dS_write_22 rfl ?_
          refine jx_get k fS_24 dS_write_23 (eS _ _ _ _) rfl ?_
          refine jx_iload k dS_write_26 rfl ?_
          refine jx_aldS k dS_write_28 (wg_1 hw1) (t := 4) rfl (p := p) rfl (by omega) (by omega) e0 ?_
          refine jx_ifnonnull k dS_write_29 (tgt := 68) rfl ?_
          refine jx_iinc k dS_write_68 rfl (nI_1 p) rfl (L' := [_, _, _, _, _, _]) rfl ?_
          refine jx_goto k dS_write_71 (tgt := 6) rfl ?_
          exact ih (p + 1) w h' sp' on' cut' (by omega) (by omega) he hD'
  have kk := key n 0 0 h sp on cut (by omega) (Nat.le_refl _) rfl hD
  rw [wg_self hH hQ hW] at kk
  exact kk
/-- take -/
def so_tk (ob : Int32) (u f g tm : Nat → Int32) (B n kn : Nat) (h : Nat → Option Nat) (sp : Nat → Int32) (on cut : Int32) : Bool × (Nat → Option Nat) × (Nat → Int32) × Int32 × Int32 := if (so_ks ob u f g tm n kn n h).1 = true then so_w tm B n kn (so_ks ob u f g tm n kn n h).2 sp on cut else (false, (so_ks ob u f g tm n kn n h).2, sp, on, cut)
theorem so_ks_sub {ob : Int32} {u f g tm : Nat → Int32} {n k : Nat} : ∀ (e : Nat) (h : Nat → Option Nat) (q z : Nat), (so_ks ob u f g tm n k e h).2 q = some z → h q = some z := by
  intro e
  induction e with
  | zero => intro h q z hh; exact hh
  | succ e ih =>
    intro h q z hh
    rw [so_ks] at hh
    split at hh
    · split at hh
      · exact hh
      · exact so_t_sub (ih _ q z hh)
    · exact hh
set_option maxRecDepth 100000 in
theorem k_take0 (l : Launch) (E : jx_E) (b : Nat) (G : jx_H) (sz : Nat) (a : Nat) (ch fl ob : Int32) (hS : G a = so_o a ch fl ob) (hf : fl ≠ 0) (B fa wa : Nat) : jx_ct l E b yS_take cS_take 5 (some .boolean) 0 0 0 [.ref a, .ref B, .ref fa, .ref wa] G sz (jx_pu (.int 0) G sz) := by
  refine jx_met (by decide) (Nat.le_of_ble_eq_true rfl) (L0 := [_, _, _, _, _]) rfl (fun X k => ?_)
  refine jx_aload_n k dS_take_0 rfl ?_
  refine jx_get k fS_9 dS_take_1 hS rfl ?_
  refine jx_if_eq k dS_take_4 (tgt := 9) rfl (fun hh => absurd hh hf) (fun _ => ?_)
  refine jx_iconst k dS_take_7 (v := 0) (by decide) ?_
  exact jx_zret k dS_take_8 rfl (Nat.le_refl _) (Nat.le_refl _) ⟨rfl, rfl, rfl⟩
theorem bp_p_le {sb pb c : Nat} {he : Nat → Int32} {pic : Bool} (h1 : sb ≤ 100) (h2 : pb ≤ 100) : bp_p (bp_n sb pb he c pic) < 100 := by
  have : bp_n sb pb he c pic ≤ 300 := by
    unfold bp_n
    split <;> split <;> split <;> omega
  unfold bp_p
  omega
set_option maxRecDepth 100000 in
set_option maxHeartbeats 4000000 in
theorem k_take1 (l : Launch) (E : jx_E) (b : Nat) (G : jx_H) (sz : Nat) (a n c : Nat) (ob : Int32) (h : Nat → Option Nat) (tm : Nat → Int32) (D : Nat → Prop) (hS : G a = so_o a (nI c) 0 ob) (hH : G (a + 1) = some (ja_q E 4 n h)) (hn : n < 100) (hD : ∀ p, p < n → ∀ z, h p = some z → D z) (hT : ∀ z, D z → bn_k G z (tm z)) (sp : Nat → Int32) (hQ : G (a + 2) = some (ja_z E n sp)) (wa : Nat) (on cut : Int32) (hW : G wa = pw_o on cut) (hw0 : wa ≠ a) (hw1 : wa ≠ a + 1) (hw2 : wa ≠ a + 2) (fa : Nat) (u f g : Nat → Int32) (hF : G fa = fz_o fa) (hU : G (fa + 1) = some (ja_z E 3 u)) (hA : G (fa + 2) = some (ja_i E 3 f)) (hL : G (fa + 3) = some (ja_i E 3 g)) (hn1 : fa ≠ a + 1) (hn2 : fa + 1 ≠ a + 1) (hn3 : fa + 2 ≠ a + 1) (hn4 : fa + 3 ≠ a + 1) (B : Nat) (hB : D B) (s pb sb : Nat) (t cs ba : Int32) (po : Option Nat) (hBB : G B = bn_o B t (nI s) cs (bv po) ba (nI pb) (nI sb)) (he : Nat → Int32) (hE : G (B + 4) = some (ja_z E 2 he)) (hc : c = 1 ∨ c = 2) (hb1 : sb ≤ 100) (hb2 : pb ≤ 100) : jx_ct l E b yS_take cS_take 5 (some .boolean) 4 0 0 [.ref a, .ref B, .ref fa, .ref wa] G sz (fun v G' sz' => v = some (.int (jb_z ((so_tk ob u f g tm B n (bp_p (bp_n sb pb he c po.isSome)) h sp on cut).1 = true))) ∧ G' = wg E a n wa G (so_tk ob u f g tm B n (bp_p (bp_n sb pb he c po.isSome)) h sp on cut).2.1 (so_tk ob u f g tm B n (bp_p (bp_n sb pb he c po.isSome)) h sp on cut).2.2.1 (so_tk ob u f g tm B n (bp_p (bp_n sb pb he c po.isSome)) h sp on cut).2.2.2.1 (so_tk ob u f g tm B n (bp_p (bp_n sb pb he c po.isSome)) h sp on cut).2.2.2.2 ∧ sz' = sz) := by
  refine jx_met (by decide) (Nat.le_of_ble_eq_true rfl) (L0 := [_, _, _, _, _]) rfl (fun X k => ?_)
  have hkn : bp_p (bp_n sb pb he c po.isSome) < 100 := bp_p_le hb1 hb2
  refine jx_aload_n k dS_take_0 rfl ?_
  refine jx_get k fS_9 dS_take_1 hS rfl ?_
  refine jx_if_eq k dS_take_4 (tgt := 9) rfl (fun _ => ?_) (fun hh => absurd rfl hh)
  refine jx_aload_n k dS_take_9 rfl ?_
  refine jx_aload_n k dS_take_10 rfl ?_
  refine jx_get k fS_15 dS_take_11 hS rfl ?_
  refine jx_callVP k mS_32 (k_pages _ _ _ _ _ B s pb sb t cs ba po hBB he hE c hc hb1 hb2) hBB rfl dS_take_14 rfl rfl rfl (Nat.le_of_ble_eq_true rfl) ⟨Nat.le_of_ble_eq_true rfl, Nat.le_of_ble_eq_true rfl⟩ ⟨Nat.le_of_ble_eq_true rfl, Nat.le_of_ble_eq_true rfl⟩ ?_
  generalize bp_p (bp_n sb pb he c po.isSome) = kn at hkn
  refine jx_istore k dS_take_17 (Nat.le_of_ble_eq_true rfl) rfl (L' := [_, _, _, _, _]) rfl ?_
  refine jx_aload_n k dS_take_19 rfl ?_
  refine jx_iload k dS_take_20 rfl ?_
  refine jx_aload_n k dS_take_22 rfl ?_
  refine jx_callV1 k mS_36 (k_makeRoom _ _ _ _ _ a n (nI c) 0 ob h tm D hS hH hn hD hT fa u f g hF hU hA hL kn (by omega) hn1 hn2 hn3 hn4) hS rfl dS_take_23 rfl rfl rfl (Nat.le_of_ble_eq_true rfl) ⟨Nat.le_of_ble_eq_true rfl, Nat.le_of_ble_eq_true rfl⟩ ⟨Nat.le_of_ble_eq_true rfl, Nat.le_of_ble_eq_true rfl⟩ ?_
  have hq : ∀ q, q ≠ a + 1 → ∀ h', va_up G (a + 1) (some (ja_q E 4 n h')) q = G q := fun q hq h' => va_up_ne _ _ hq
  refine jx_if_eq k dS_take_26 (tgt := 44) rfl (fun h1 => ?_) (fun h1 => ?_)
  · have e1 : so_tk ob u f g tm B n kn h sp on cut = (false, (so_ks ob u f g tm n kn n h).2, sp, on, cut) := by unfold so_tk; rw [if_neg (jb_e0.mp h1)]
    rw [e1]
    refine jx_iconst k dS_take_44 (v := 0) (by decide) ?_
    refine jx_zret k dS_take_45 rfl (Nat.le_refl _) (Nat.le_refl _) ⟨rfl, ?_, rfl⟩
    unfold wg
    rw [va_us (f := va_up G (a + 1) _) (k := a + 2) ((hq _ (by omega) _).trans hQ), va_us (f := va_up G (a + 1) _) (k := wa) ((hq _ hw1 _).trans hW)]
  · have e1 : so_tk ob u f g tm B n kn h sp on cut = so_w tm B n kn (so_ks ob u f g tm n kn n h).2 sp on cut := by unfold so_tk; rw [if_pos (Decidable.byContradiction (fun h => h1 (jb_f h)))]
    rw [e1]
    refine jx_aload_n k dS_take_29 rfl ?_
    refine jx_aload_n k dS_take_30 rfl ?_
    refine jx_iload k dS_take_31 rfl ?_
    refine jx_aload_n k dS_take_33 rfl ?_
    refine jx_callV1 k mS_40 (k_write _ _ _ _ _ a n (nI c) 0 ob (so_ks ob u f g tm n kn n h).2 tm D ((hq _ (by omega) _).trans hS) (va_up_self _ _ _) hn (fun p hp z hz => hD p hp z (so_ks_sub _ _ _ _ hz)) (fun z hz => bn_k_up (hT z hz) hH) sp ((hq _ (by omega) _).trans hQ) wa on cut ((hq _ hw1 _).trans hW) hw0 hw1 hw2 B kn hB (by omega)) ((hq _ (by omega) _).trans hS) rfl dS_take_34 rfl rfl rfl (Nat.le_of_ble_eq_true rfl) ⟨Nat.le_of_ble_eq_true rfl, Nat.le_of_ble_eq_true rfl⟩ ⟨Nat.le_of_ble_eq_true rfl, Nat.le_of_ble_eq_true rfl⟩ ?_
    generalize so_w tm B n kn (so_ks ob u f g tm n kn n h).2 sp on cut = r
    have e2 : wg E a n wa (va_up G (a + 1) (some (ja_q E 4 n (so_ks ob u f g tm n kn n h).2))) r.2.1 r.2.2.1 r.2.2.2.1 r.2.2.2.2 = wg E a n wa G r.2.1 r.2.2.1 r.2.2.2.1 r.2.2.2.2 := by
      unfold wg
      rw [va_uu]
    refine jx_if_eq k dS_take_37 (tgt := 44) rfl (fun h2 => ?_) (fun h2 => ?_)
    · refine jx_iconst k dS_take_44 (v := 0) (by decide) ?_
      exact jx_zret k dS_take_45 rfl (Nat.le_refl _) (Nat.le_refl _) ⟨by rw [jb_f (jb_e0.mp h2)], e2, rfl⟩
    · refine jx_iconst k dS_take_40 (v := 1) (by decide) ?_
      refine jx_goto k dS_take_41 (tgt := 45) rfl ?_
      exact jx_zret k dS_take_45 rfl (Nat.le_refl _) (Nat.le_refl _) ⟨by rw [jb_t (Decidable.byContradiction (fun h => h2 (jb_f h)))], e2, rfl⟩
/-- earliestOfSource -/
theorem so_rs_D {h : Nat → Option Nat} {tm sp : Nat → Int32} {t : Int32} {z : Nat} : ∀ (f p : Nat) (o : Option Nat), so_rs h tm sp t f p o = some z → o = some z ∨ ∃ q, p ≤ q ∧ q < p + f ∧ h q = some z := by
  intro f
  induction f with
  | zero => intro p o e; exact .inl e
  | succ f ih =>
    intro p o e
    rw [so_rs] at e
    split at e
    · split at e
      · cases e
      · rcases ih _ _ e with e1 | ⟨q, h1, h2, h3⟩
        · exact .inr ⟨p, Nat.le_refl _, by omega, e1⟩
        · exact .inr ⟨q, by omega, by omega, h3⟩
    · rcases ih _ _ e with e1 | ⟨q, h1, h2, h3⟩
      · exact .inl e1
      · exact .inr ⟨q, by omega, by omega, h3⟩
theorem so_r_D {h : Nat → Option Nat} {tm sp : Nat → Int32} {t : Int32} {z n : Nat} (e : so_r h tm sp n t = some z) : ∃ q, q < n ∧ h q = some z := by
  rcases so_rs_D _ _ _ e with e1 | ⟨q, h1, h2, h3⟩
  · cases e1
  · exact ⟨q, by omega, h3⟩
def so_qf (h : Nat → Option Nat) (tm sp : Nat → Int32) (n : Nat) (so : Nat → Nat → Int32) (sn : Nat → Nat) (src fr : Int32) (p : Nat) (m : Int32) : Int32 := match h p with
  | none => m
  | some z => if fr ≤ tm z ∧ bs_h (so z) src (sn z) = true ∧ so_r h tm sp n (tm z) ≠ none then so_e m (tm z) else m
def so_q (h : Nat → Option Nat) (tm sp : Nat → Int32) (n : Nat) (so : Nat → Nat → Int32) (sn : Nat → Nat) (src fr : Int32) : Int32 := fo_f (so_qf h tm sp n so sn src fr) 0 n (-1)
set_option maxRecDepth 100000 in
set_option maxHeartbeats 4000000 in
theorem k_ofSource (l : Launch) (E : jx_E) (b : Nat) (G : jx_H) (sz : Nat) (a n : Nat) (ch fl ob : Int32) (h : Nat → Option Nat) (tm : Nat → Int32) (D : Nat → Prop) (hS : G a = so_o a ch fl ob) (hH : G (a + 1) = some (ja_q E 4 n h)) (hn : n < 100) (hD : ∀ p, p < n → ∀ z, h p = some z → D z) (hT : ∀ z, D z → bn_k G z (tm z)) (sp : Nat → Int32) (hQ : G (a + 2) = some (ja_z E n sp)) (so : Nat → Nat → Int32) (sn : Nat → Nat) (hX : ∀ z, D z → ∃ (cs : Int32) (pv : Value) (ba pb sb : Int32), G z = bn_o z (tm z) (nI (sn z)) cs pv ba pb sb ∧ G (z + 2) = some (ja_i E 4 (so z)) ∧ sn z ≤ 4) (src fr : Int32) : jx_ct l E b yS_earliestOfSource cS_earliestOfSource 6 (some .int) 2 0 0 [.ref a, .int src, .int fr] G sz (jx_pu (.int (so_q h tm sp n so sn src fr)) G sz) := by
  refine jx_met (by decide) (Nat.le_of_ble_eq_true rfl) (L0 := [_, _, _, _, _, _]) rfl (fun X k => ?_)
  refine jx_iconst k dS_earliestOfSource_0 (v := (-1)) (by decide) ?_
  refine jx_istore_n k dS_earliestOfSource_1 (Nat.le_of_ble_eq_true rfl) rfl (L' := [_, _, _, _, _, _]) rfl ?_
  refine jx_iconst k dS_earliestOfSource_2 (v := 0) (by decide) ?_
  refine jx_istore k dS_earliestOfSource_3 (Nat.le_of_ble_eq_true rfl) rfl (L' := [_, _, _, _, _, _]) rfl ?_
  refine fo_l (fun p m => jx_w X E b (jx_fin X E b (jx_pu (.int (so_q h tm sp n so sn src fr)) G sz) 0 0) 5 [some (.ref a), some (.int src), some (.int fr), some (.int m), some (.int (nI p)), none] [] G sz 0 0) (so_qf h tm sp n so sn src fr) (lo := 0) (hi := n) (Nat.zero_le _) (-1) ?_ ?_
  · intro p h1 h2
    generalize fo_f (so_qf h tm sp n so sn src fr) 0 (p - 0) (-1) = m
    intro kk
    rcases op_c (h p) with e | ⟨z, e⟩
    · have e2 : so_qf h tm sp n so sn src fr p m = m := by unfold so_qf; rw [e]
      rw [e2] at kk
      refine jx_iload k dS_earliestOfSource_5 rfl ?_
      refine jx_aload_n k dS_earliestOfSource_7 rfl ?_
      refine jx_get k fS_24 dS_earliestOfSource_8 hS rfl ?_
      refine jx_alen k dS_earliestOfSource_11 hH (t := 4) rfl ?_
      refine jx_icmp_ge k dS_earliestOfSource_12 (tgt := 75) rfl (fun hh => absurd hh (nI_ge h2 (by omega))) (fun _ => ?_)
      refine jx_aload_n k dS_earliestOfSource_15 rfl ?_
      refine jx_get k fS_24 dS_earliestOfSource_16 hS rfl ?_
      refine jx_iload k dS_earliestOfSource_19 rfl ?_
      refine jx_ald0 k dS_earliestOfSource_21 hH (t := 4) rfl (p := p) rfl h2 (by omega) e ?_
      refine jx_astoreN k dS_earliestOfSource_22 (Nat.le_of_ble_eq_true rfl) rfl (L' := [_, _, _, _, _, _]) rfl ?_
      refine jx_aloadN k dS_earliestOfSource_24 rfl ?_
      refine jx_ifnullN k dS_earliestOfSource_26 (tgt := 69) rfl ?_
      refine jx_iinc k dS_earliestOfSource_69 rfl (nI_1 p) rfl (L' := [_, _, _, _, _, _]) rfl ?_
      refine jx_goto k dS_earliestOfSource_72 (tgt := 5) rfl ?_
      refine jx_fg (jx_ls (jx_ls (jx_ls (jx_ls (jx_ls (jx_ln jx_l0)))))) ?_
      exact kk
    · have e2 : so_qf h tm sp n so sn src fr p m = if fr ≤ tm z ∧ bs_h (so z) src (sn z) = true ∧ so_r h tm sp n (tm z) ≠ none then so_e m (tm z) else m := by unfold so_qf; rw [e]
      rw [e2] at kk
      obtain ⟨cs, pv, ba, pb, sb, hB, hO, h4⟩ := hX z (hD p h2 z e)
      refine jx_iload k dS_earliestOfSource_5 rfl ?_
      refine jx_aload_n k dS_earliestOfSource_7 rfl ?_
      refine jx_get k fS_24 dS_earliestOfSource_8 hS rfl ?_
      refine jx_alen k dS_earliestOfSource_11 hH (t := 4) rfl ?_
      refine jx_icmp_ge k dS_earliestOfSource_12 (tgt := 75) rfl (fun hh => absurd hh (nI_ge h2 (by omega))) (fun _ => ?_)
      refine jx_aload_n k dS_earliestOfSource_15 rfl ?_
      refine jx_get k fS_24 dS_earliestOfSource_16 hS rfl ?_
      refine jx_iload k dS_earliestOfSource_19 rfl ?_
      refine jx_aldS k dS_earliestOfSource_21 hH (t := 4) rfl (p := p) rfl h2 (by omega) e ?_
      refine jx_astore k dS_earliestOfSource_22 (Nat.le_of_ble_eq_true rfl) rfl (L' := [_, _, _, _, _, _]) rfl ?_
      refine jx_aload k dS_earliestOfSource_24 rfl ?_
      refine jx_ifnull k dS_earliestOfSource_26 ?_
      refine jx_aload k dS_earliestOfSource_29 rfl ?_
      refine jx_get k fS_62 dS_earliestOfSource_31 hB rfl ?_
      refine jx_iload_n k dS_earliestOfSource_34 rfl ?_
      refine jx_icmp_lt k dS_earliestOfSource_35 (tgt := 69) rfl (fun h3 => ?_) (fun h3 => ?_)
      · rw [if_neg (fun h => absurd h.1 (Int32.not_le.mpr h3))] at kk
        refine jx_iinc k dS_earliestOfSource_69 rfl (nI_1 p) rfl (L' := [_, _, _, _, _, _]) rfl ?_
        refine jx_goto k dS_earliestOfSource_72 (tgt := 5) rfl ?_
        refine jx_fg (jx_ls (jx_ls (jx_ls (jx_ls (jx_ls (jx_ln jx_l0)))))) ?_
        exact kk
      · refine jx_aload k dS_earliestOfSource_38 rfl ?_
        refine jx_iload_n k dS_earliestOfSource_40 rfl ?_
        refine jx_callVP k mS_91 (k_hasS _ _ _ _ _ z (sn z) (tm z) cs ba pb sb pv hB (so z) hO src h4) hB rfl dS_earliestOfSource_41 rfl rfl rfl (Nat.le_of_ble_eq_true rfl) ⟨Nat.le_of_ble_eq_true rfl, Nat.le_of_ble_eq_true rfl⟩ ⟨Nat.le_of_ble_eq_true rfl, Nat.le_of_ble_eq_true rfl⟩ ?_
        refine jx_if_eq k dS_earliestOfSource_44 (tgt := 69) rfl (fun h5 => ?_) (fun h5 => ?_)
        · rw [if_neg (fun h => jb_e0.mp h5 h.2.1)] at kk
          refine jx_iinc k dS_earliestOfSource_69 rfl (nI_1 p) rfl (L' := [_, _, _, _, _, _]) rfl ?_
          refine jx_goto k dS_earliestOfSource_72 (tgt := 5) rfl ?_
          refine jx_fg (jx_ls (jx_ls (jx_ls (jx_ls (jx_ls (jx_ln jx_l0)))))) ?_
          exact kk
        · refine jx_aload_n k dS_earliestOfSource_47 rfl ?_
          refine jx_aload k dS_earliestOfSource_48 rfl ?_
          refine jx_get k fS_62 dS_earliestOfSource_50 hB rfl ?_
          refine jx_callVP k mS_94 (k_readable _ _ _ _ _ a n ch fl ob h tm D hS hH hn hD hT sp hQ (tm z)) hS rfl dS_earliestOfSource_53 rfl rfl rfl (Nat.le_of_ble_eq_true rfl) ⟨Nat.le_of_ble_eq_true rfl, Nat.le_of_ble_eq_true rfl⟩ ⟨Nat.le_of_ble_eq_true rfl, Nat.le_of_ble_eq_true rfl⟩ ?_
          rcases op_c (so_r h tm sp n (tm z)) with e6 | ⟨z6, e6⟩
          · rw [if_neg (fun h => h.2.2 e6)] at kk
            rw [e6]
            refine jx_ifnullN k dS_earliestOfSource_56 (tgt := 69) rfl ?_
            refine jx_iinc k dS_earliestOfSource_69 rfl (nI_1 p) rfl (L' := [_, _, _, _, _, _]) rfl ?_
            refine jx_goto k dS_earliestOfSource_72 (tgt := 5) rfl ?_
            refine jx_fg (jx_ls (jx_ls (jx_ls (jx_ls (jx_ls (jx_ln jx_l0)))))) ?_
            exact kk
          · rw [if_pos ⟨Int32.not_lt.mp h3, Decidable.byContradiction (fun h => h5 (jb_f h)), by rw [e6]; exact fun h => by cases h⟩] at kk
            rw [e6]
            refine jx_ifnull k dS_earliestOfSource_56 ?_
            refine jx_iload_n k dS_earliestOfSource_59 rfl ?_
            refine jx_aload k dS_earliestOfSource_60 rfl ?_
            refine jx_get k fS_62 dS_earliestOfSource_62 hB rfl ?_
            refine jx_callSP k mS_79 (k_earlier _ _ _ _ _ m (tm z)) dS_earliestOfSource_65 rfl rfl rfl (Nat.le_of_ble_eq_true rfl) ⟨Nat.le_of_ble_eq_true rfl, Nat.le_of_ble_eq_true rfl⟩ ⟨Nat.le_of_ble_eq_true rfl, Nat.le_of_ble_eq_true rfl⟩ ?_
            refine jx_istore_n k dS_earliestOfSource_68 (Nat.le_of_ble_eq_true rfl) rfl (L' := [_, _, _, _, _, _]) rfl ?_
            refine jx_iinc k dS_earliestOfSource_69 rfl (nI_1 p) rfl (L' := [_, _, _, _, _, _]) rfl ?_
            refine jx_goto k dS_earliestOfSource_72 (tgt := 5) rfl ?_
            refine jx_fg (jx_ls (jx_ls (jx_ls (jx_ls (jx_ls (jx_ln jx_l0)))))) ?_
            exact kk
  · refine jx_iload k dS_earliestOfSource_5 rfl ?_
    refine jx_aload_n k dS_earliestOfSource_7 rfl ?_
    refine jx_get k fS_24 dS_earliestOfSource_8 hS rfl ?_
    refine jx_alen k dS_earliestOfSource_11 hH (t := 4) rfl ?_
    refine jx_icmp_ge k dS_earliestOfSource_12 (tgt := 75) rfl (fun _ => ?_) (fun hh => absurd (nI_le (Nat.le_refl _) (by omega)) hh)
    refine jx_iload_n k dS_earliestOfSource_75 rfl ?_
    exact jx_iret k dS_earliestOfSource_76 (Nat.le_refl _) (Nat.le_refl _) ⟨rfl, rfl, rfl⟩
