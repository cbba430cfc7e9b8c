/-- a new bundle -/
def bd_0 (t : Int32) : bd_T := (fun k => if k = 0 then t else if k = 2 then -1 else 0, fun _ => 0, fun _ _ => 0, none, fun _ => 0)
abbrev bn_N (E : jx_E) (a : Nat) (t : Int32) (G : jx_H) : jx_H := bn_G E a (bn_o a t 0 0 .null (-1) 0 0) (fun _ => 0) (fun _ => 0) (fun _ => 0) (fun _ => 0) G
theorem bn_Gn {E : jx_E} {a q : Nat} {o : Option va_E} {tx : Nat → Int64} {so sd he : Nat → Int32} {G : jx_H} (h : q < a ∨ a + 5 ≤ q) : bn_G E a o tx so sd he G q = G q := by
  unfold bn_G
  rw [va_up_ne _ _ (by omega), va_up_ne _ _ (by omega), va_up_ne _ _ (by omega), va_up_ne _ _ (by omega), va_up_ne _ _ (by omega)]
theorem bn_N_c {E : jx_E} {a : Nat} {t : Int32} {G : jx_H} {β : Nat → bd_T} : cB E (bn_N E a t G) (va_up β a (bd_0 t)) a := by
  unfold cB d_tm d_cs d_ba d_tx d_so d_sd d_he d_po d_sn d_pb d_sb
  rw [show va_up β a (bd_0 t) a = bd_0 t from va_up_self _ _ _]
  refine ⟨?_, ?_, ?_, ?_, va_up_self _ _ _, Nat.zero_le _, Nat.zero_le _, Nat.zero_le _⟩
  · show bn_G E a _ _ _ _ _ G a = _
    unfold bn_G
    rw [va_up_ne _ _ (by omega), va_up_ne _ _ (by omega), va_up_ne _ _ (by omega), va_up_ne _ _ (by omega), va_up_self]
    rfl
  · show bn_G E a _ _ _ _ _ G (a + 1) = _
    unfold bn_G
    rw [va_up_ne _ _ (by omega), va_up_ne _ _ (by omega), va_up_ne _ _ (by omega), va_up_self]
    rfl
  · show bn_G E a _ _ _ _ _ G (a + 2) = _
    unfold bn_G
    rw [va_up_ne _ _ (by omega), va_up_ne _ _ (by omega), va_up_self]
    rfl
  · show bn_G E a _ _ _ _ _ G (a + 3) = _
    unfold bn_G
    rw [va_up_ne _ _ (by omega), va_up_self]
    rfl
theorem Cdy_newB {E : jx_E} {x : Nat} {G : jx_H} {sz : Nat} {uw : Nat} {fo : Option Nat} {ca lo : Nat} {kn : Option Nat} {h : Nat → Nat → Option Nat} {β : Nat → bd_T} {ρ : Nat → Nat → Int32} {D P : Nat → Prop} {fo' : Option Nat} {h' : Nat → Nat → Option Nat} {t : Int32} (hC : Cdy E x G sz uw fo ca lo kn h β ρ D P) (hX : ∀ i, i < 3 → ∀ p, p < sN i → ∀ z, h' i p = some z → D z ∨ z = uw) (hfo : ∀ z, fo' = some z → (D z ∨ z = uw) ∧ d_po β z ≠ none) : Cdy E x (bn_N E sz t G) (sz + 5) sz fo' ca lo kn h' (va_up β sz (bd_0 t)) ρ (fun z => D z ∨ z = uw) P := by
  obtain ⟨hHD, hUw, hDb, hPp, hj, hdy, hbd, hsz⟩ := hC
  have hd := hdy.1
  unfold dy at hd
  have ne : ∀ q, q < sz → bn_N E sz t G q = G q := fun q hq => bn_Gn (.inl hq)
  have hz5 : ∀ z, (D z ∨ z = uw) → z + 5 ≤ sz ∧ dy x sz z 5 := fun z hz => by
    rcases hz with hz | rfl
    · have h1 := (hdy.2.1 z hz).1
      refine ⟨?_, h1⟩
      unfold dy at h1
      omega
    · refine ⟨?_, hdy.1⟩
      omega
  have eb : ∀ z, (D z ∨ z = uw) → va_up β sz (bd_0 t) z = β z := fun z hz => va_up_ne _ _ (by have := (hz5 z hz).1; omega)
  have hcb : ∀ z, (D z ∨ z = uw) → cB E G β z := fun z hz => hz.elim (hDb z) (fun e => by rw [e]; exact hUw)
  have hp2 : ∀ p, P p → p + 2 ≤ sz := fun p hp => by
    have := (hdy.2.2 p hp).1
    unfold dy at this
    omega
  refine ⟨hX, bn_N_c, fun z hz => cB_eq (hcb z hz) (eb z hz) (fun q h1 h2 => ne q (by have := (hz5 z hz).1; omega)), fun p hp => cP_eq (hPp p hp) rfl (fun q h1 h2 => ne q (by have := hp2 p hp; omega)), ⟨hj.1, .inl hj.2.1, fun z hz => ?_, hj.2.2.2.1, fun z hz p hp => ?_⟩, ⟨.inr ⟨hsz, Nat.le_refl _⟩, fun z hz => ⟨dy_m (hz5 z hz).2 (by omega), .inl (hz5 z hz).1, ?_⟩, fun p hp => ⟨dy_m (hdy.2.2 p hp).1 (by omega), .inl (hp2 p hp), (hdy.2.2 p hp).2.2⟩⟩, fun q hq => (bn_Gn (.inr hq)).trans (hbd q (by omega)), by omega⟩
  · refine ⟨(hfo z hz).1, ?_⟩
    unfold d_po
    rw [eb z (hfo z hz).1]
    exact (hfo z hz).2
  · unfold d_po at hp
    rcases hz with hz | rfl
    · rw [eb z hz] at hp
      exact hj.2.2.2.2 z hz p hp
    · rw [va_up_self] at hp
      cases hp
  · rcases hz with hz | rfl
    · exact (hdy.2.1 z hz).2.2
    · exact (hdy.2.2 ca hj.1).2.1.symm
theorem Cl_newca {E : jx_E} {x : Nat} {G : jx_H} {sz : Nat} {uw : Nat} {fo : Option Nat} {ca : Nat} {co : Int32} {lo : Nat} {lc : Int32} {kn : Option Nat} {on cut : Int32} {u f g fl : Nat → Int32} {h : Nat → Nat → Option Nat} {sp : Nat → Nat → Int32} {β : Nat → bd_T} {ρ : Nat → Nat → Int32} {D P : Nat → Prop} {q : Nat} {fo' : Option Nat} {co' : Int32} (hC : Cl E x G sz uw fo ca co lo lc kn on cut u f g fl h sp β ρ D P) (hfo : ∀ z, fo' = some z → D z ∧ d_po β z ≠ none) (hq : P q) (h1 : ∀ z, D z → ap z 5 q 2) (h2 : ∀ p, P p → p = q ∨ ap p 2 q 2) (h3 : ∀ p, kn = some p → p ≠ q) (h4 : ∀ z, (D z ∨ z = uw) → ∀ p, d_po β z = some p → p ≠ q) : Cl E x (va_up G x (kp_o x uw fo' q co' lo lc kn)) sz uw fo' q co' lo lc kn on cut u f g fl h sp β ρ D P ∧ fr x G (va_up G x (kp_o x uw fo' q co' lo lc kn)) := by
  obtain ⟨hC0, hC⟩ := hC
  have hC2 : Cdy E x (va_up G x (kp_o x uw fo' q co' lo lc kn)) sz uw fo ca lo kn h β ρ D P := Cdy_eq hC (fun q a _ _ => va_up_ne _ _ (by omega)) (Nat.le_refl _) (bd_up hC.2.2.2.2.2.2.1 (by have := hC.2.2.2.2.2.2.2; omega))
  obtain ⟨hHD, hUw, hDb, hPp, hj, hdy, hbd, hsz⟩ := hC2
  exact ⟨⟨Cst_k hC0, hHD, hUw, hDb, hPp, ⟨hq, hj.2.1, hfo, fun p hp => ⟨(hj.2.2.2.1 p hp).1, h3 p hp⟩, fun z hz p hp => ⟨(hj.2.2.2.2 z hz p hp).1, h4 z hz p hp⟩⟩, ⟨hdy.1, fun z hz => ⟨(hdy.2.1 z hz).1, (hdy.2.1 z hz).2.1, h1 z hz⟩, fun p hp => ⟨(hdy.2.2 p hp).1, (hdy.2.2 p hp).2.1, h2 p hp⟩⟩, hbd, hsz⟩, fr_up (by omega)⟩
set_option maxRecDepth 100000 in
theorem k_forget (l : Launch) (E : jx_E) (b : Nat) (G : jx_H) (sz : Nat) (x : Nat) (uw : Nat) (fo : Option Nat) (ca : Nat) (co : Int32) (lo : Nat) (lc : Int32) (kn : Option Nat) (on cut : Int32) (u f g fl : Nat → Int32) (h : Nat → Nat → Option Nat) (sp : Nat → Nat → Int32) (β : Nat → bd_T) (ρ : Nat → Nat → Int32) (D P : Nat → Prop) (hC : Cl E x G sz uw fo ca co lo lc kn on cut u f g fl h sp β ρ D P) : jx_ct l E b yK_forgetWhatPowerHeld cK_forgetWhatPowerHeld 1 none 2 2 9 [.ref x] G sz (fun v G' sz' => v = none ∧ sz' = sz + 2 ∧ Cl E x G' (sz + 2) uw none sz 0 lo lc kn on cut u f g fl h sp β (va_up ρ sz (fun _ => 0)) D (fun p => P p ∨ p = sz) ∧ fr x G G') := by
  have hC0 := hC
  obtain ⟨⟨hK, hW, ho, hF, hU, hA, hL, hR, hSt⟩, hHD, hUw, hDb, hPp, hj, hdy, hbd, hsz⟩ := hC
  refine jx_met (by decide) (Nat.le_of_ble_eq_true rfl) (L0 := [_]) rfl (fun X k => ?_)
  obtain ⟨hC1, hf1⟩ := Cl_k (fo' := none) (co' := co) (lo' := lo) (lc' := lc) (kn' := kn) hC0 hj.2.1 (fun z hz => by cases hz) hj.2.2.2.1
  obtain ⟨hC2, hf2⟩ := Cl_newP (r := fun _ => 0) hC1
  have hp2 : ∀ p, P p → p + 2 ≤ sz := fun p hp => by
    have := (hdy.2.2 p hp).1
    unfold dy at this
    omega
  obtain ⟨hC3, hf3⟩ := Cl_newca (q := sz) (fo' := none) (co' := 0) hC2 (fun z hz => by cases hz) (.inr rfl) (fun z hz => by
      have := (hdy.2.1 z hz).1
      unfold dy at this
      unfold ap
      omega) (fun p hp => hp.elim (fun hp => .inr (.inl (hp2 p hp))) .inl) (fun p hp e => by
      have := hp2 p (hj.2.2.2.1 p hp).1
      omega) (fun z hz p hp e => by
      have := hp2 p (hj.2.2.2.2 z hz p hp).1
      omega)
  refine jx_aload_n k dK_forgetWhatPowerHeld_0 rfl ?_
  refine jx_null k dK_forgetWhatPowerHeld_1 ?_
  refine jx_put k fK_41 dK_forgetWhatPowerHeld_2 hK rfl rfl (Nat.le_of_ble_eq_true rfl) (fs' := [_, _, _, _, _, _, _, _, _, _]) rfl ?_
  refine jx_aload_n k dK_forgetWhatPowerHeld_5 rfl ?_
  refine jx_new k nK_44 dK_forgetWhatPowerHeld_6 (Nat.le_of_ble_eq_true rfl) (Nat.le_of_ble_eq_true rfl) ?_
  refine jx_dup k dK_forgetWhatPowerHeld_9 rfl ?_
  refine jx_callI0 k mK_46 (k_Pinit _ _ _ (va_up G x (kp_o x uw none ca co lo lc kn)) sz) dK_forgetWhatPowerHeld_10 rfl rfl rfl (Nat.le_of_ble_eq_true rfl) ⟨Nat.le_of_ble_eq_true rfl, Nat.le_of_ble_eq_true rfl⟩ ⟨Nat.le_of_ble_eq_true rfl, Nat.le_of_ble_eq_true rfl⟩ ?_
  refine jx_put k fK_47 dK_forgetWhatPowerHeld_13 hC2.1.1 rfl rfl (Nat.le_of_ble_eq_true rfl) (fs' := [_, _, _, _, _, _, _, _, _, _]) rfl ?_
  refine jx_aload_n k dK_forgetWhatPowerHeld_16 rfl ?_
  refine jx_iconst k dK_forgetWhatPowerHeld_17 (v := 0) (by decide) ?_
  refine jx_put k fK_51 dK_forgetWhatPowerHeld_18 (va_up_self _ _ _) rfl rfl (Nat.le_of_ble_eq_true rfl) (fs' := [_, _, _, _, _, _, _, _, _, _]) rfl ?_
  rw [va_uu]
  exact jx_vret k dK_forgetWhatPowerHeld_21 (Nat.le_refl _) (Nat.le_refl _) ⟨rfl, rfl, hC3, fr_tr hf1 (fr_tr hf2 hf3)⟩
/- second -/
def k2_b (fo : Option Nat) (β : Nat → bd_T) (ρ : Nat → Nat → Int32) (uw : Nat) (co : Int32) : Nat → bd_T := va_up β uw (bd_cl (β uw) co (ka_cl β ρ uw (ka_fm fo β uw)).1 (ka_cl β ρ uw (ka_fm fo β uw)).2)
def k2_f (fo : Option Nat) (β : Nat → bd_T) (uw : Nat) : Option Nat := if d_po β uw = none then fo else some uw
def k2_Q (E : jx_E) (x : Nat) (G : jx_H) (sz : Nat) (T : Int32) (uw : Nat) (fo : Option Nat) (ca : Nat) (co : Int32) (lo : Nat) (lc : Int32) (kn : Option Nat) (u f g fl : Nat → Int32) (β : Nat → bd_T) (ρ : Nat → Nat → Int32) (D P : Nat → Prop) (β1 : Nat → bd_T) (fo1 : Option Nat) (st : kw_S) (v : Option Value) (G' : jx_H) (sz' : Nat) : Prop := ∃ (z0 : Nat) (ρ' : Nat → Nat → Int32) (P' : Nat → Prop), (∀ p, P p → P' p ∧ ρ' p = ρ p) ∧ fr x G G' ∧ sz ≤ sz' ∧ (if st.2.2.2.1 = 0 then v = some (.int (-1)) ∧ ∃ ca' : Nat, ρ' ca' = (fun _ => 0) ∧ Cl E x G' sz' z0 none ca' 0 lo lc kn 0 st.2.2.2.2 u f g fl st.2.1 st.2.2.1 (va_up β1 z0 (bd_0 T)) ρ' (fun z => D z ∨ z = uw) P' else v = some (.int (nI st.1)) ∧ Cl E x G' sz' z0 fo1 ca co lo lc kn st.2.2.2.1 st.2.2.2.2 u f g fl st.2.1 st.2.2.1 (va_up β1 z0 (bd_0 T)) ρ' (fun z => D z ∨ z = uw) P')
theorem ka_fm_s {fo : Option Nat} {β : Nat → bd_T} {uw z : Nat} (h : ka_fm fo β uw = some z) : fo = some z := by
  unfold ka_fm at h
  cases fo with
  | none => exact h
  | some y =>
    have h2 : (if d_tm β y / 10 = d_tm β uw / 10 then some y else none) = some z := h
    split at h2
    · exact h2
    · cases h2
set_option maxRecDepth 100000 in
set_option maxHeartbeats 8000000 in
theorem k_second1 (l : Launch) (E : jx_E) (b : Nat) (G : jx_H) (sz : Nat) (x : Nat) (uw : Nat) (fo : Option Nat) (ca : Nat) (co : Int32) (lo : Nat) (lc : Int32) (kn : Option Nat) (on cut : Int32) (u f g fl : Nat → Int32) (h : Nat → Nat → Option Nat) (sp : Nat → Nat → Int32) (β : Nat → bd_T) (ρ : Nat → Nat → Int32) (D P : Nat → Prop) (hC : Cl E x G sz uw fo ca co lo lc kn on cut u f g fl h sp β ρ D P) (h1 : on = 1) (t : Int32) (ht1 : ¬ t ≤ d_tm β uw) (ht2 : t ≤ 9999) : jx_ct l E b yK_second cK_second 3 (some .int) 6 9 47 [.ref x, .int t] G sz (k2_Q E x G sz t uw fo ca co lo lc kn u f g fl β ρ D P (k2_b fo β ρ uw co) (k2_f fo β uw) (kw_s u f g fl (k2_b fo β ρ uw co) uw 3 0 (0, h, sp, on, cut))) := by
  have hC0 := hC
  obtain ⟨⟨hK, hW, ho, hF, hU, hA, hL, hR, hSt⟩, hHD, hUw, hDb, hPp, hj, hdy, hbd, hsz⟩ := hC
  refine jx_met (by decide) (Nat.le_of_ble_eq_true rfl) (L0 := [_, _, _]) rfl (fun X k => ?_)
  refine jx_aload_n k dK_second_0 rfl ?_
  refine jx_callV0 k mK_64 (k_req1 _ _ _ _ _ x uw fo ca co lo lc kn on cut u f g fl h sp β ρ D P hC0 h1) hK rfl dK_second_1 rfl rfl rfl (Nat.le_of_ble_eq_true rfl) ⟨Nat.le_of_ble_eq_true rfl, Nat.le_of_ble_eq_true rfl⟩ ⟨Nat.le_of_ble_eq_true rfl, Nat.le_of_ble_eq_true rfl⟩ ?_
  refine jx_iload_n k dK_second_4 rfl ?_
  refine jx_aload_n k dK_second_5 rfl ?_
  refine jx_get k fK_37 dK_second_6 hK rfl ?_
  refine jx_get k fK_94 dK_second_9 hUw.1 rfl ?_
  refine jx_icmp_le k dK_second_12 (tgt := 22) rfl (fun hh => absurd hh ht1) (fun _ => ?_)
  refine jx_iload_n k dK_second_15 rfl ?_
  refine jx_sipush k dK_second_16 (v := 9999) (by decide) ?_
  refine jx_icmp_le k dK_second_19 (tgt := 30) rfl (fun _ => ?_) (fun hh => absurd ht2 hh)
  refine jx_aload_n k dK_second_30 rfl ?_
  refine jx_get k fK_37 dK_second_31 hK rfl ?_
  refine jx_aload_n k dK_second_34 rfl ?_
  refine jx_get k fK_51 dK_second_35 hK rfl ?_
  refine jx_aload_n k dK_second_38 rfl ?_
  refine jx_callVP k mK_100 (k_former _ _ _ _ _ x uw fo ca co lo lc kn on cut u f g fl h sp β ρ D P hC0) hK rfl dK_second_39 rfl rfl rfl (Nat.le_of_ble_eq_true rfl) ⟨Nat.le_of_ble_eq_true rfl, Nat.le_of_ble_eq_true rfl⟩ ⟨Nat.le_of_ble_eq_true rfl, Nat.le_of_ble_eq_true rfl⟩ ?_
  refine jx_callV k mK_104 (k_closeC _ _ _ _ _ x uw fo ca co lo lc kn on cut u f g fl h sp β ρ D P hC0 (ka_fm fo β uw) (fun z hz => ka_fm_s hz)) hUw.1 rfl dK_second_42 rfl rfl rfl (Nat.le_of_ble_eq_true rfl) ⟨Nat.le_of_ble_eq_true rfl, Nat.le_of_ble_eq_true rfl⟩ ⟨Nat.le_of_ble_eq_true rfl, Nat.le_of_ble_eq_true rfl⟩ ?_
  rintro v1 G1 sz1 ⟨rfl, ρ1, P1, hP1, hs1, hC1, hf1⟩
  have hC1' := hC1
  obtain ⟨hC1s, hC1d⟩ := hC1
  refine jx_aload_n k dK_second_45 rfl ?_
  refine jx_aload_n k dK_second_46 rfl ?_
  refine jx_get k fK_37 dK_second_47 hC1s.1 rfl ?_
  refine jx_callV k mK_108 (k_writeAll _ _ _ _ _ x uw fo ca co lo lc kn u f g fl h (k2_b fo β ρ uw co) ρ1 D P1 (0, h, sp, on, cut) rfl ⟨hC1s, hC1d, fun i hi p hp z hz => .inl (hHD i hi p hp z hz), fr_rf⟩) hC1s.1 rfl dK_second_50 rfl rfl rfl (Nat.le_of_ble_eq_true rfl) ⟨Nat.le_of_ble_eq_true rfl, Nat.le_of_ble_eq_true rfl⟩ ⟨Nat.le_of_ble_eq_true rfl, Nat.le_of_ble_eq_true rfl⟩ ?_
  rintro v2 G2 sz2 ⟨rfl, e2, hW2⟩
  rw [e2]
  generalize kw_s u f g fl (k2_b fo β ρ uw co) uw 3 0 (0, h, sp, on, cut) = st at hW2
  obtain ⟨hs2, hd2, hX2, hf2⟩ := hW2
  have epo : d_po (k2_b fo β ρ uw co) uw = d_po β uw := by
    unfold d_po k2_b
    rw [va_up_self]
    rfl
  refine jx_istore_n k dK_second_53 (Nat.le_of_ble_eq_true rfl) rfl (L' := [_, _, _]) rfl ?_
  have tail : ∀ G3 fo3, Cst E x G3 uw fo3 ca co lo lc kn st.2.2.2.1 st.2.2.2.2 u f g fl st.2.1 st.2.2.1 → Cdy E x G3 sz1 uw fo ca lo kn h (k2_b fo β ρ uw co) ρ1 D P1 → fo3 = k2_f fo β uw → fr x G G3 → jx_w X E b (jx_fin X E b (k2_Q E x G sz t uw fo ca co lo lc kn u f g fl β ρ D P (k2_b fo β ρ uw co) (k2_f fo β uw) st) 9 47) 72 [some (.ref x), some (.int t), some (.int (nI st.1))] [] G3 sz1 2 9 := by
    intro G3 fo3 hs3 hd3 hfo3 hf3
    have hfo : ∀ z, fo3 = some z → (D z ∨ z = uw) ∧ d_po (k2_b fo β ρ uw co) z ≠ none := fun z hz => by
      rw [hfo3] at hz
      unfold k2_f at hz
      split at hz
      · have h5 := hd3.2.2.2.2.1.2.2.1 z hz
        exact ⟨.inl h5.1, h5.2⟩
      · rename_i hne
        rw [← Option.some.inj hz]
        exact ⟨.inr rfl, by rw [epo]; exact hne⟩
    have hd4 := Cdy_newB (t := t) hd3 hX2 hfo
    have hx3 : x < sz1 := by have := hd3.2.2.2.2.2.2.2; omega
    have hs4 : Cst E x (va_up (bn_N E sz1 t G3) x (kp_o x sz1 fo3 ca co lo lc kn)) sz1 fo3 ca co lo lc kn st.2.2.2.1 st.2.2.2.2 u f g fl st.2.1 st.2.2.1 := Cst_k (Cst_eq hs3 (fun q a c => bn_Gn (.inl (by have := hd3.2.2.2.2.2.2.2; omega))))
    have hC4 : Cl E x (va_up (bn_N E sz1 t G3) x (kp_o x sz1 fo3 ca co lo lc kn)) (sz1 + 5) sz1 fo3 ca co lo lc kn st.2.2.2.1 st.2.2.2.2 u f g fl st.2.1 st.2.2.1 (va_up (k2_b fo β ρ uw co) sz1 (bd_0 t)) ρ1 (fun z => D z ∨ z = uw) P1 := ⟨hs4, Cdy_eq hd4 (fun q a _ _ => va_up_ne _ _ (by omega)) (Nat.le_refl _) (bd_up hd4.2.2.2.2.2.2.1 (by omega))⟩
    have hf4 : fr x G (va_up (bn_N E sz1 t G3) x (kp_o x sz1 fo3 ca co lo lc kn)) := fun q a c => (va_up_ne _ _ (by omega)).trans ((bn_Gn (.inl (by have := hd3.2.2.2.2.2.2.2; omega))).trans (hf3 q a c))
    refine jx_aload_n k dK_second_72 rfl ?_
    refine jx_new k nK_32 dK_second_73 (Nat.le_of_ble_eq_true rfl) (Nat.le_of_ble_eq_true rfl) ?_
    refine jx_dup k dK_second_76 rfl ?_
    refine jx_iload_n k dK_second_77 rfl ?_
    refine jx_callI0 k mK_34 (k_Binit _ _ _ G3 sz1 t) dK_second_78 rfl rfl rfl (Nat.le_of_ble_eq_true rfl) ⟨Nat.le_of_ble_eq_true rfl, Nat.le_of_ble_eq_true rfl⟩ ⟨Nat.le_of_ble_eq_true rfl, Nat.le_of_ble_eq_true rfl⟩ ?_
    refine jx_put k fK_37 dK_second_81 ((bn_Gn (.inl hx3)).trans hs3.1) rfl rfl (Nat.le_of_ble_eq_true rfl) (fs' := [_, _, _, _, _, _, _, _, _, _]) rfl ?_
    refine jx_aload_n k dK_second_84 rfl ?_
    refine jx_get k fK_10 dK_second_85 (va_up_self _ _ _) rfl ?_
    refine jx_callVP k mK_112 (k_isOn _ _ _ _ _ (x + 1) st.2.2.2.1 st.2.2.2.2 hs4.2.1 hs4.2.2.1) hs4.2.1 rfl dK_second_88 rfl rfl rfl (Nat.le_of_ble_eq_true rfl) ⟨Nat.le_of_ble_eq_true rfl, Nat.le_of_ble_eq_true rfl⟩ ⟨Nat.le_of_ble_eq_true rfl, Nat.le_of_ble_eq_true rfl⟩ ?_
    refine jx_if_ne k dK_second_91 (tgt := 100) rfl (fun h5 => ?_) (fun h5 => ?_)
    · refine jx_iload_n k dK_second_100 rfl ?_
      refine jx_iret k dK_second_101 (by decide) (by decide) ⟨sz1, ρ1, P1, hP1, hf4, by omega, ?_⟩
      rw [if_neg h5, ← hfo3]
      exact ⟨rfl, hC4⟩
    · rw [h5] at hC4
      refine jx_aload_n k dK_second_94 rfl ?_
      refine jx_callV k mK_116 (k_forget _ _ _ _ _ x _ _ _ _ _ _ _ _ _ _ _ _ _ _ _ _ _ _ _ hC4) hs4.1 rfl dK_second_95 rfl rfl rfl (Nat.le_of_ble_eq_true rfl) ⟨Nat.le_of_ble_eq_true rfl, Nat.le_of_ble_eq_true rfl⟩ ⟨Nat.le_of_ble_eq_true rfl, Nat.le_of_ble_eq_true rfl⟩ ?_
      rintro v6 G6 sz6 ⟨rfl, rfl, hC6, hf6⟩
      refine jx_iconst k dK_second_98 (v := (-1)) (by decide) ?_
      refine jx_iret k dK_second_99 (Nat.le_refl _) (Nat.le_refl _) ⟨sz1, va_up ρ1 (sz1 + 5) (fun _ => 0), fun p => P1 p ∨ p = sz1 + 5, fun p hp => ⟨.inl (hP1 p hp).1, ?_⟩, fr_tr hf4 hf6, by omega, ?_⟩
      · exact (va_up_ne _ _ (by have := (hd3.2.2.2.2.2.1.2.2 p (hP1 p hp).1).1; unfold dy at this; omega)).trans (hP1 p hp).2
      · rw [if_pos h5]
        exact ⟨rfl, sz1 + 5, va_up_self _ _ _, hC6⟩
  rcases op_c (d_po β uw) with e | ⟨pa, e⟩
  · have hB := hd2.2.1.1
    rw [epo, e] at hB
    refine jx_aload_n k dK_second_54 rfl ?_
    refine jx_get k fK_37 dK_second_55 hs2.1 rfl ?_
    refine jx_get k fK_87 dK_second_58 hB rfl ?_
    refine jx_ifnullN k dK_second_61 (tgt := 72) rfl ?_
    exact tail G2 fo hs2 hd2 (by unfold k2_f; rw [if_pos e]) (fr_tr hf1 hf2)
  · have hB := hd2.2.1.1
    rw [epo, e] at hB
    refine jx_aload_n k dK_second_54 rfl ?_
    refine jx_get k fK_37 dK_second_55 hs2.1 rfl ?_
    refine jx_get k fK_87 dK_second_58 hB rfl ?_
    refine jx_ifnull k dK_second_61 ?_
    refine jx_aload_n k dK_second_64 rfl ?_
    refine jx_aload_n k dK_second_65 rfl ?_
    refine jx_get k fK_37 dK_second_66 hs2.1 rfl ?_
    refine jx_put k fK_41 dK_second_69 hs2.1 rfl rfl (Nat.le_of_ble_eq_true rfl) (fs' := [_, _, _, _, _, _, _, _, _, _]) rfl ?_
    exact tail (va_up G2 x (kp_o x uw (some uw) ca co lo lc kn)) (some uw) (Cst_k hs2) (Cdy_eq hd2 (fun q a _ _ => va_up_ne _ _ (by omega)) (Nat.le_refl _) (bd_up hd2.2.2.2.2.2.2.1 (by have := hd2.2.2.2.2.2.2.2; omega))) (by unfold k2_f; rw [if_neg (by rw [e]; exact fun h => by cases h)]) (fr_tr hf1 (fr_tr hf2 (fr_up (by omega))))
