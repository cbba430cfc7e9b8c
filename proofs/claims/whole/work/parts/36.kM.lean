def kn_i (β : Nat → bd_T) (B i : Nat) : Nat := bp_p (bp_n (d_sb β B) (d_pb β B) (d_he β B) (sC i) (d_po β B).isSome)
abbrev kw_S : Type := Nat × (Nat → Nat → Option Nat) × (Nat → Nat → Int32) × Int32 × Int32
def kw_t (u f g : Nat → Int32) (β : Nat → bd_T) (B i : Nat) (st : kw_S) : Bool × (Nat → Option Nat) × (Nat → Int32) × Int32 × Int32 := so_tk (sO i) u f g (d_tm β) B (sN i) (kn_i β B i) (st.2.1 i) (st.2.2.1 i) st.2.2.2.1 st.2.2.2.2
def kw_u (i : Nat) (st : kw_S) (r : Bool × (Nat → Option Nat) × (Nat → Int32) × Int32 × Int32) : kw_S := ((if r.1 = true then st.1 + 1 else st.1), va_up st.2.1 i r.2.1, va_up st.2.2.1 i r.2.2.1, r.2.2.2.1, r.2.2.2.2)
def kw_1 (u f g fl : Nat → Int32) (β : Nat → bd_T) (B i : Nat) (st : kw_S) : kw_S := if fl i = 0 then kw_u i st (kw_t u f g β B i st) else st
def kw_s (u f g fl : Nat → Int32) (β : Nat → bd_T) (B : Nat) : Nat → Nat → kw_S → kw_S
  | 0, _, st => st
  | e + 1, i, st => if st.2.2.2.1 = 0 then st else kw_s u f g fl β B e (i + 1) (kw_1 u f g fl β B i st)
theorem pw_c_on {on cut : Int32} (ho : on = 0 ∨ on = 1) : (pw_c on cut).2.1 = 0 ∨ (pw_c on cut).2.1 = 1 := by
  unfold pw_c
  split
  · exact ho
  · split
    · exact ho
    · exact .inl rfl
theorem so_ws_on {tm : Nat → Int32} {B n kn : Nat} : ∀ (e p w : Nat) (h : Nat → Option Nat) (sp : Nat → Int32) (on cut : Int32), (on = 0 ∨ on = 1) → ((so_ws tm B n kn e p w h sp on cut).2.2.2.1 = 0 ∨ (so_ws tm B n kn e p w h sp on cut).2.2.2.1 = 1) := by
  intro e
  induction e with
  | zero => intro p w h sp on cut ho; exact ho
  | succ e ih =>
    intro p w h sp on cut ho
    rw [so_ws]
    split
    · split
      · split
        · exact pw_c_on ho
        · exact ih _ _ _ _ _ _ (pw_c_on ho)
      · exact ih _ _ _ _ _ _ ho
    · exact ho
theorem so_ws_h {tm : Nat → Int32} {B n kn : Nat} : ∀ (e p w : Nat) (h : Nat → Option Nat) (sp : Nat → Int32) (on cut : Int32) (q z : Nat), (so_ws tm B n kn e p w h sp on cut).2.1 q = some z → h q = some z ∨ z = B := by
  intro e
  induction e with
  | zero => intro p w h sp on cut q z hh; exact .inl hh
  | succ e ih =>
    intro p w h sp on cut q z hh
    rw [so_ws] at hh
    split at hh
    · split at hh
      · split at hh
        · exact .inl (so_t_sub hh)
        · rcases ih _ _ _ _ _ _ q z hh with h1 | h1
          · by_cases e1 : q = p
            · rw [e1, va_up_self] at h1
              exact .inr (Option.some.inj h1).symm
            · rw [va_up_ne _ _ e1] at h1
              exact .inl h1
          · exact .inr h1
      · exact ih _ _ _ _ _ _ q z hh
    · exact .inl hh
theorem so_tk_h {ob : Int32} {u f g tm : Nat → Int32} {B n kn : Nat} {h : Nat → Option Nat} {sp : Nat → Int32} {on cut : Int32} {q z : Nat} (hh : (so_tk ob u f g tm B n kn h sp on cut).2.1 q = some z) : h q = some z ∨ z = B := by
  unfold so_tk at hh
  split at hh
  · rcases so_ws_h _ _ _ _ _ _ _ q z hh with h1 | h1
    · exact .inl (so_ks_sub _ _ _ _ h1)
    · exact .inr h1
  · exact .inl (so_ks_sub _ _ _ _ hh)
theorem so_tk_on {ob : Int32} {u f g tm : Nat → Int32} {B n kn : Nat} {h : Nat → Option Nat} {sp : Nat → Int32} {on cut : Int32} (ho : on = 0 ∨ on = 1) : (so_tk ob u f g tm B n kn h sp on cut).2.2.2.1 = 0 ∨ (so_tk ob u f g tm B n kn h sp on cut).2.2.2.1 = 1 := by
  unfold so_tk
  split
  · exact so_ws_on _ _ _ _ _ _ _ ho
  · exact ho
theorem Cst_wg {E : jx_E} {x : Nat} {G : jx_H} {uw : Nat} {fo : Option Nat} {ca : Nat} {co : Int32} {lo : Nat} {lc : Int32} {kn : Option Nat} {on cut : Int32} {u f g fl : Nat → Int32} {h : Nat → Nat → Option Nat} {sp : Nat → Nat → Int32} {j : Nat} {h' : Nat → Option Nat} {s' : Nat → Int32} {on' cut' : Int32} (hC : Cst E x G uw fo ca co lo lc kn on cut u f g fl h sp) (hj3 : j < 3) (ho' : on' = 0 ∨ on' = 1) : Cst E x (wg E (sA x j) (sN j) (x + 1) G h' s' on' cut') uw fo ca co lo lc kn on' cut' u f g fl (va_up h j h') (va_up sp j s') := by
  obtain ⟨hK, hW, ho, hF, hU, hA, hL, hR, hSt⟩ := hC
  have ne : ∀ q, q ≠ sA x j + 1 → q ≠ sA x j + 2 → q ≠ x + 1 → wg E (sA x j) (sN j) (x + 1) G h' s' on' cut' q = G q := fun q h1 h2 h3 => wg_n h1 h2 h3
  refine ⟨(ne _ (by unfold sA; omega) (by unfold sA; omega) (by omega)).trans hK, wg_w, ho', (ne _ (by unfold sA; omega) (by unfold sA; omega) (by omega)).trans hF, (ne _ (by unfold sA; omega) (by unfold sA; omega) (by omega)).trans hU, (ne _ (by unfold sA; omega) (by unfold sA; omega) (by omega)).trans hA, (ne _ (by unfold sA; omega) (by unfold sA; omega) (by omega)).trans hL, (ne _ (by unfold sA; omega) (by unfold sA; omega) (by omega)).trans hR, fun i hi => ?_⟩
  by_cases e : i = j
  · subst e
    refine ⟨(ne _ (by omega) (by omega) (by unfold sA; omega)).trans (hSt i hi).1, ?_, ?_⟩
    · rw [va_up_self, wg_1 (by unfold sA; omega)]
    · rw [va_up_self, wg_2 (by unfold sA; omega)]
  · exact cS_eq (hSt i hi) rfl (va_up_ne _ _ e) (va_up_ne _ _ e) (fun q a c => ne q (by unfold sA at a c ⊢; omega) (by unfold sA at a c ⊢; omega) (by unfold sA at a c; omega))
/-- while the stores take it -/
def Wi (E : jx_E) (x : Nat) (G0 G : jx_H) (sz : Nat) (uw : Nat) (fo : Option Nat) (ca : Nat) (co : Int32) (lo : Nat) (lc : Int32) (kn : Option Nat) (u f g fl : Nat → Int32) (h0 : Nat → Nat → Option Nat) (β : Nat → bd_T) (ρ : Nat → Nat → Int32) (D P : Nat → Prop) (st : kw_S) : Prop := Cst E x G uw fo ca co lo lc kn st.2.2.2.1 st.2.2.2.2 u f g fl st.2.1 st.2.2.1 ∧ Cdy E x G sz uw fo ca lo kn h0 β ρ D P ∧ (∀ i, i < 3 → ∀ p, p < sN i → ∀ z, st.2.1 i p = some z → D z ∨ z = uw) ∧ fr x G0 G
set_option maxRecDepth 100000 in
set_option maxHeartbeats 4000000 in
theorem k_writeAll (l : Launch) (E : jx_E) (b : Nat) (G : jx_H) (sz : Nat) (x : Nat) (uw : Nat) (fo : Option Nat) (ca : Nat) (co : Int32) (lo : Nat) (lc : Int32) (kn : Option Nat) (u f g fl : Nat → Int32) (h0 : Nat → Nat → Option Nat) (β : Nat → bd_T) (ρ : Nat → Nat → Int32) (D P : Nat → Prop) (st0 : kw_S) (h00 : st0.1 = 0) (hW0 : Wi E x G G sz uw fo ca co lo lc kn u f g fl h0 β ρ D P st0) : jx_ct l E b yK_writeToStores cK_writeToStores 4 (some .int) 5 0 0 [.ref x, .ref uw] G sz (fun v G' sz' => v = some (.int (nI (kw_s u f g fl β uw 3 0 st0).1)) ∧ sz' = sz ∧ Wi E x G G' sz uw fo ca co lo lc kn u f g fl h0 β ρ D P (kw_s u f g fl β uw 3 0 st0)) := by
  refine jx_met (by decide) (Nat.le_of_ble_eq_true rfl) (L0 := [_, _, _, _]) rfl (fun X k => ?_)
  refine jx_iconst k dK_writeToStores_0 (v := 0) (by decide) ?_
  refine jx_istore_n k dK_writeToStores_1 (Nat.le_of_ble_eq_true rfl) rfl (L' := [_, _, _, _]) rfl ?_
  refine jx_iconst k dK_writeToStores_2 (v := 0) (by decide) ?_
  refine jx_istore_n k dK_writeToStores_3 (Nat.le_of_ble_eq_true rfl) rfl (L' := [_, _, _, _]) rfl ?_
  have key : ∀ e i st G1, i + e = 3 → st.1 ≤ i → kw_s u f g fl β uw e i st = kw_s u f g fl β uw 3 0 st0 → Wi E x G G1 sz uw fo ca co lo lc kn u f g fl h0 β ρ D P st → jx_w X E b (jx_fin X E b (fun v G' sz' => v = some (.int (nI (kw_s u f g fl β uw 3 0 st0).1)) ∧ sz' = sz ∧ Wi E x G G' sz uw fo ca co lo lc kn u f g fl h0 β ρ D P (kw_s u f g fl β uw 3 0 st0)) 0 0) 4 [some (.ref x), some (.ref uw), some (.int (nI st.1)), some (.int (nI i))] [] G1 sz 0 0 := by
    intro e
    induction e with
    | zero =>
      intro i st G1 hi hc he hw
      have e3 : i = 3 := by omega
      subst e3
      rw [← he]
      refine jx_iload_n k dK_writeToStores_4 rfl ?_
      refine jx_aload_n k dK_writeToStores_5 rfl ?_
      refine jx_get k fK_28 dK_writeToStores_6 hw.1.1 rfl ?_
      refine jx_alen k dK_writeToStores_9 hw.1.2.2.2.2.2.2.2.1 (t := 3) rfl ?_
      refine jx_icmp_ge k dK_writeToStores_10 (tgt := 53) rfl (fun _ => ?_) (fun hh => absurd (nI_le (a := 3) (b := 3) (by decide) (by decide)) hh)
      refine jx_iload_n k dK_writeToStores_53 rfl ?_
      exact jx_iret k dK_writeToStores_54 (Nat.le_refl _) (Nat.le_refl _) ⟨rfl, rfl, hw⟩
    | succ e ih =>
      intro i st G1 hi hc he hw
      have hi3 : i < 3 := by omega
      rw [kw_s] at he
      have hw0 := hw
      obtain ⟨hC, hCd, hX, hfr⟩ := hw
      have hC0 := hC
      obtain ⟨hK, hW, ho, hF, hU, hA, hL, hR, hSt⟩ := hC
      have hUw := hCd.2.1
      have hDb := hCd.2.2.1
      have hS := hSt i hi3
      refine jx_iload_n k dK_writeToStores_4 rfl ?_
      refine jx_aload_n k dK_writeToStores_5 rfl ?_
      refine jx_get k fK_28 dK_writeToStores_6 hK rfl ?_
      refine jx_alen k dK_writeToStores_9 hR (t := 3) rfl ?_
      refine jx_icmp_ge k dK_writeToStores_10 (tgt := 53) rfl (fun hh => absurd hh (nI_ge (b := 3) hi3 (by decide))) (fun _ => ?_)
      refine jx_aload_n k dK_writeToStores_13 rfl ?_
      refine jx_get k fK_10 dK_writeToStores_14 hK rfl ?_
      refine jx_callVP k mK_112 (k_isOn _ _ _ _ _ (x + 1) st.2.2.2.1 st.2.2.2.2 hW ho) hW rfl dK_writeToStores_17 rfl rfl rfl (Nat.le_of_ble_eq_true rfl) ⟨Nat.le_of_ble_eq_true rfl, Nat.le_of_ble_eq_true rfl⟩ ⟨Nat.le_of_ble_eq_true rfl, Nat.le_of_ble_eq_true rfl⟩ ?_
      refine jx_if_eq k dK_writeToStores_20 (tgt := 53) rfl (fun h1 => ?_) (fun h1 => ?_)
      · rw [if_pos h1] at he
        rw [← he]
        refine jx_iload_n k dK_writeToStores_53 rfl ?_
        exact jx_iret k dK_writeToStores_54 (Nat.le_refl _) (Nat.le_refl _) ⟨rfl, rfl, hw0⟩
      · rw [if_neg h1, kw_1] at he
        by_cases hfl : fl i = 0
        · rw [if_pos hfl] at he
          have hS1 := hS.1
          rw [hfl] at hS1
          have hb1 : d_sb β uw ≤ 100 := by have := hUw.2.2.2.2.2.1; have := hUw.2.2.2.2.2.2.2; omega
          have hb2 : d_pb β uw ≤ 100 := by have := hUw.2.2.2.2.2.2.1; omega
          have hT : ∀ z, (D z ∨ z = uw) → bn_k G1 z (d_tm β z) := fun z hz => hz.elim (fun hz => cB_k (hDb z hz)) (fun hz => by rw [hz]; exact cB_k hUw)
          refine jx_aload_n k dK_writeToStores_23 rfl ?_
          refine jx_get k fK_28 dK_writeToStores_24 hK rfl ?_
          refine jx_iload_n k dK_writeToStores_27 rfl ?_
          refine jx_aldS k dK_writeToStores_28 hR (t := 3) rfl (p := i) rfl (by omega) (by decide) (sV_i hi3) ?_
          refine jx_aload_n k dK_writeToStores_29 rfl ?_
          refine jx_aload_n k dK_writeToStores_30 rfl ?_
          refine jx_get k fK_19 dK_writeToStores_31 hK rfl ?_
          refine jx_aload_n k dK_writeToStores_34 rfl ?_
          refine jx_get k fK_10 dK_writeToStores_35 hK rfl ?_
          refine jx_callV1 k mK_213 (k_take1 _ _ _ _ _ (sA x i) (sN i) (sC i) (sO i) (st.2.1 i) (d_tm β) (fun z => D z ∨ z = uw) hS1 hS.2.1 (sN_le i) (hX i hi3) hT (st.2.2.1 i) hS.2.2 (x + 1) st.2.2.2.1 st.2.2.2.2 hW (by unfold sA; omega) (by unfold sA; omega) (by unfold sA; omega) (x + 2) u f g hF hU hA hL (by unfold sA; omega) (by unfold sA; omega) (by unfold sA; omega) (by unfold sA; omega) uw (.inr rfl) _ _ _ _ _ _ (d_po β uw) hUw.1 (d_he β uw) hUw.2.2.2.2.1 (sC_12 i) hb1 hb2) hS.1 rfl dK_writeToStores_38 rfl rfl rfl (Nat.le_of_ble_eq_true rfl) ⟨Nat.le_of_ble_eq_true rfl, Nat.le_of_ble_eq_true rfl⟩ ⟨Nat.le_of_ble_eq_true rfl, Nat.le_of_ble_eq_true rfl⟩ ?_
          have ekt : so_tk (sO i) u f g (d_tm β) uw (sN i) (bp_p (bp_n (d_sb β uw) (d_pb β uw) (d_he β uw) (sC i) (d_po β uw).isSome)) (st.2.1 i) (st.2.2.1 i) st.2.2.2.1 st.2.2.2.2 = kw_t u f g β uw i st := rfl
          rw [ekt]
          have hw2 : Wi E x G (wg E (sA x i) (sN i) (x + 1) G1 (kw_t u f g β uw i st).2.1 (kw_t u f g β uw i st).2.2.1 (kw_t u f g β uw i st).2.2.2.1 (kw_t u f g β uw i st).2.2.2.2) sz uw fo ca co lo lc kn u f g fl h0 β ρ D P (kw_u i st (kw_t u f g β uw i st)) := by
            have hne : ∀ q, x + 16 ≤ q → wg E (sA x i) (sN i) (x + 1) G1 (kw_t u f g β uw i st).2.1 (kw_t u f g β uw i st).2.2.1 (kw_t u f g β uw i st).2.2.2.1 (kw_t u f g β uw i st).2.2.2.2 q = G1 q := fun q hq => wg_n (by unfold sA; omega) (by unfold sA; omega) (by omega)
            refine ⟨Cst_wg hC0 hi3 (so_tk_on ho), Cdy_eq hCd (fun q a _ _ => hne q a) (Nat.le_refl _) (fun q hq => ?_), fun i2 hi2 p hp z hz => ?_, fun q a c => (hne q (by omega)).trans (hfr q a c)⟩
            · have hsz := hCd.2.2.2.2.2.2.2
              exact (hne q (by omega)).trans (hCd.2.2.2.2.2.2.1 q hq)
            · have hz1 : va_up st.2.1 i (kw_t u f g β uw i st).2.1 i2 p = some z := hz
              by_cases e2 : i2 = i
              · subst e2
                rw [va_up_self] at hz1
                rcases so_tk_h hz1 with h2 | h2
                · exact hX i2 hi2 p hp z h2
                · exact .inr h2
              · rw [va_up_ne _ _ e2] at hz1
                exact hX i2 hi2 p hp z hz1
          refine jx_if_eq k dK_writeToStores_41 (tgt := 47) rfl (fun h2 => ?_) (fun h2 => ?_)
          · have e4 : (kw_u i st (kw_t u f g β uw i st)).1 = st.1 := by
              show (if (kw_t u f g β uw i st).1 = true then st.1 + 1 else st.1) = st.1
              rw [if_neg (jb_e0.mp h2)]
            have kk := ih (i + 1) _ _ (by omega) (by rw [e4]; omega) he hw2
            rw [e4] at kk
            refine jx_iinc k dK_writeToStores_47 rfl (nI_1 i) rfl (L' := [_, _, _, _]) rfl ?_
            refine jx_goto k dK_writeToStores_50 (tgt := 4) rfl ?_
            exact kk
          · have e4 : (kw_u i st (kw_t u f g β uw i st)).1 = st.1 + 1 := by
              show (if (kw_t u f g β uw i st).1 = true then st.1 + 1 else st.1) = st.1 + 1
              rw [if_pos (Decidable.byContradiction (fun h => h2 (jb_f h)))]
            have kk := ih (i + 1) _ _ (by omega) (by rw [e4]; omega) he hw2
            rw [e4] at kk
            refine jx_iinc k dK_writeToStores_44 rfl (nI_1 st.1) rfl (L' := [_, _, _, _]) rfl ?_
            refine jx_iinc k dK_writeToStores_47 rfl (nI_1 i) rfl (L' := [_, _, _, _]) rfl ?_
            refine jx_goto k dK_writeToStores_50 (tgt := 4) rfl ?_
            exact kk
        · rw [if_neg hfl] at he
          refine jx_aload_n k dK_writeToStores_23 rfl ?_
          refine jx_get k fK_28 dK_writeToStores_24 hK rfl ?_
          refine jx_iload_n k dK_writeToStores_27 rfl ?_
          refine jx_aldS k dK_writeToStores_28 hR (t := 3) rfl (p := i) rfl (by omega) (by decide) (sV_i hi3) ?_
          refine jx_aload_n k dK_writeToStores_29 rfl ?_
          refine jx_aload_n k dK_writeToStores_30 rfl ?_
          refine jx_get k fK_19 dK_writeToStores_31 hK rfl ?_
          refine jx_aload_n k dK_writeToStores_34 rfl ?_
          refine jx_get k fK_10 dK_writeToStores_35 hK rfl ?_
          refine jx_callVP k mK_213 (k_take0 _ _ _ _ _ (sA x i) _ _ _ hS.1 hfl uw (x + 2) (x + 1)) hS.1 rfl dK_writeToStores_38 rfl rfl rfl (Nat.le_of_ble_eq_true rfl) ⟨Nat.le_of_ble_eq_true rfl, Nat.le_of_ble_eq_true rfl⟩ ⟨Nat.le_of_ble_eq_true rfl, Nat.le_of_ble_eq_true rfl⟩ ?_
          refine jx_if_eq k dK_writeToStores_41 (tgt := 47) rfl (fun _ => ?_) (fun hh => absurd rfl hh)
          refine jx_iinc k dK_writeToStores_47 rfl (nI_1 i) rfl (L' := [_, _, _, _]) rfl ?_
          refine jx_goto k dK_writeToStores_50 (tgt := 4) rfl ?_
          exact ih (i + 1) st G1 (by omega) (by omega) he hw0
  have kk := key 3 0 st0 G rfl (by omega) rfl hW0
  rw [h00] at kk
  exact kk
