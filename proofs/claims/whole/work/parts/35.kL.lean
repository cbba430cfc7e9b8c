theorem jx_mono {l : Launch} {E : jx_E} {b : Nat} {y : MethodName} {cc : ByteArray} {nL : Nat} {ret : Option FieldType} {d mc ms : Nat} {A : List Value} {G : jx_H} {sz : Nat} {Q Q' : Option Value → jx_H → Nat → Prop} (hM : jx_ct l E b y cc nL ret d mc ms A G sz Q) (h : ∀ v G' sz', Q v G' sz' → Q' v G' sz') : jx_ct l E b y cc nL ret d mc ms A G sz Q' := by
  intro p e ha hc hk s m args below hf happ hP hK
  obtain ⟨n, o, h1, h2, h3, ⟨v, G', sz', e1, e2, e3, e4⟩, h5⟩ := hM p e ha hc hk s m args below hf happ hP hK
  exact ⟨n, o, h1, h2, h3, ⟨v, G', sz', e1, h _ _ _ e2, e3, e4⟩, h5⟩
def ka_fm (fo : Option Nat) (β : Nat → bd_T) (uw : Nat) : Option Nat := match fo with
  | none => none
  | some z => if d_tm β z / 10 = d_tm β uw / 10 then some z else none
set_option maxRecDepth 100000 in
theorem k_former (l : Launch) (E : jx_E) (b : Nat) (G : jx_H) (sz : Nat) (x : Nat) (uw : Nat) (fo : Option Nat) (ca : Nat) (co : Int32) (lo : Nat) (lc : Int32) (kn : Option Nat) (on cut : Int32) (u f g fl : Nat → Int32) (h : Nat → Nat → Option Nat) (sp : Nat → Nat → Int32) (β : Nat → bd_T) (ρ : Nat → Nat → Int32) (D P : Nat → Prop) (hC : Cl E x G sz uw fo ca co lo lc kn on cut u f g fl h sp β ρ D P) : jx_ct l E b yK_formerOfMinute cK_formerOfMinute 2 (some (.object "VoyageKeeper$Bundle")) 0 0 0 [.ref x] G sz (jx_pu (bv (ka_fm fo β uw)) G sz) := by
  obtain ⟨⟨hK, hW, ho, hF, hU, hA, hL, hR, hSt⟩, hHD, hUw, hDb, hPp, hj, hdy, hbd, hsz⟩ := hC
  refine jx_met (by decide) (Nat.le_of_ble_eq_true rfl) (L0 := [_, _]) rfl (fun X k => ?_)
  cases fo with
  | none =>
    refine jx_aload_n k dK_formerOfMinute_0 rfl ?_
    refine jx_get k fK_41 dK_formerOfMinute_1 hK rfl ?_
    refine jx_ifnullN k dK_formerOfMinute_4 (tgt := 34) rfl ?_
    refine jx_iconst k dK_formerOfMinute_34 (v := 0) (by decide) ?_
    refine jx_istore_n k dK_formerOfMinute_35 (Nat.le_of_ble_eq_true rfl) rfl (L' := [_, _]) rfl ?_
    refine jx_iload_n k dK_formerOfMinute_36 rfl ?_
    refine jx_if_eq k dK_formerOfMinute_37 (tgt := 47) rfl (fun _ => ?_) (fun hh => absurd rfl hh)
    refine jx_null k dK_formerOfMinute_47 ?_
    exact jx_aret k (.inl rfl) dK_formerOfMinute_48 (Nat.le_refl _) (Nat.le_refl _) ⟨rfl, rfl, rfl⟩
  | some z =>
    have hz := hDb z (hj.2.2.1 z rfl).1
    show jx_w X E b (jx_fin X E b (jx_pu (bv (if d_tm β z / 10 = d_tm β uw / 10 then some z else none)) G sz) 0 0) 0 [some (.ref x), none] [] G sz 0 0
    refine jx_aload_n k dK_formerOfMinute_0 rfl ?_
    refine jx_get k fK_41 dK_formerOfMinute_1 hK rfl ?_
    refine jx_ifnull k dK_formerOfMinute_4 ?_
    refine jx_aload_n k dK_formerOfMinute_7 rfl ?_
    refine jx_get k fK_41 dK_formerOfMinute_8 hK rfl ?_
    refine jx_get k fK_94 dK_formerOfMinute_11 hz.1 rfl ?_
    refine jx_bipush k dK_formerOfMinute_14 (v := 10) (by decide) ?_
    refine jx_idiv k dK_formerOfMinute_16 (by decide) ?_
    refine jx_aload_n k dK_formerOfMinute_17 rfl ?_
    refine jx_get k fK_37 dK_formerOfMinute_18 hK rfl ?_
    refine jx_get k fK_94 dK_formerOfMinute_21 hUw.1 rfl ?_
    refine jx_bipush k dK_formerOfMinute_24 (v := 10) (by decide) ?_
    refine jx_idiv k dK_formerOfMinute_26 (by decide) ?_
    refine jx_icmp_ne k dK_formerOfMinute_27 (tgt := 34) rfl (fun h1 => ?_) (fun h1 => ?_)
    · rw [if_neg h1]
      refine jx_iconst k dK_formerOfMinute_34 (v := 0) (by decide) ?_
      refine jx_istore_n k dK_formerOfMinute_35 (Nat.le_of_ble_eq_true rfl) rfl (L' := [_, _]) rfl ?_
      refine jx_iload_n k dK_formerOfMinute_36 rfl ?_
      refine jx_if_eq k dK_formerOfMinute_37 (tgt := 47) rfl (fun _ => ?_) (fun hh => absurd rfl hh)
      refine jx_null k dK_formerOfMinute_47 ?_
      exact jx_aret k (.inl rfl) dK_formerOfMinute_48 (Nat.le_refl _) (Nat.le_refl _) ⟨rfl, rfl, rfl⟩
    · rw [if_pos h1]
      refine jx_iconst k dK_formerOfMinute_30 (v := 1) (by decide) ?_
      refine jx_goto k dK_formerOfMinute_31 (tgt := 35) rfl ?_
      refine jx_istore_n k dK_formerOfMinute_35 (Nat.le_of_ble_eq_true rfl) rfl (L' := [_, _]) rfl ?_
      refine jx_iload_n k dK_formerOfMinute_36 rfl ?_
      refine jx_if_eq k dK_formerOfMinute_37 (tgt := 47) rfl (fun hh => absurd hh (by decide)) (fun _ => ?_)
      refine jx_aload_n k dK_formerOfMinute_40 rfl ?_
      refine jx_get k fK_41 dK_formerOfMinute_41 hK rfl ?_
      refine jx_goto k dK_formerOfMinute_44 (tgt := 48) rfl ?_
      exact jx_aret k (.inr ⟨_, rfl⟩) dK_formerOfMinute_48 (Nat.le_refl _) (Nat.le_refl _) ⟨rfl, rfl, rfl⟩
/- closing the bundle under way -/
def bd_cl (d : bd_T) (co ba : Int32) (pb : Nat) : bd_T := (va_up (va_up d.1 1 co) 2 ba, d.2.1, d.2.2.1, d.2.2.2.1, va_up d.2.2.2.2 1 pb)
def ka_cl (β : Nat → bd_T) (ρ : Nat → Nat → Int32) (uw : Nat) (fm : Option Nat) : Int32 × Nat := match d_po β uw with
  | none => (d_ba β uw, d_pb β uw)
  | some pa => match fm with
    | none => (d_ba β uw, pr_m (pr_n (ρ pa)))
    | some z => match d_po β z with
      | none => (d_ba β uw, d_pb β uw)
      | some fp => ((pr_b (ρ pa) (ρ fp) (d_tm β z) (d_ba β uw)).2, (pr_b (ρ pa) (ρ fp) (d_tm β z) (d_ba β uw)).1)
theorem cB_cl {E : jx_E} {G : jx_H} {β : Nat → bd_T} {uw : Nat} {co ba : Int32} {pb : Nat} (hU : cB E G β uw) (hp : pb ≤ 64) : cB E (va_up G uw (bn_o uw (d_tm β uw) (nI (d_sn β uw)) co (bv (d_po β uw)) ba (nI pb) (nI (d_sb β uw)))) (va_up β uw (bd_cl (β uw) co ba pb)) uw := by
  unfold cB d_tm d_cs d_ba d_tx d_so d_sd d_he d_po d_sn d_pb d_sb
  rw [show va_up β uw (bd_cl (β uw) co ba pb) uw = bd_cl (β uw) co ba pb from va_up_self _ _ _]
  exact ⟨va_up_self _ _ _, (va_up_ne _ _ (by omega)).trans hU.2.1, (va_up_ne _ _ (by omega)).trans hU.2.2.1, (va_up_ne _ _ (by omega)).trans hU.2.2.2.1, (va_up_ne _ _ (by omega)).trans hU.2.2.2.2.1, hU.2.2.2.2.2.1, hp, hU.2.2.2.2.2.2.2⟩
theorem pr_b_le {r q : Nat → Int32} {ft ba : Int32} : (pr_b r q ft ba).1 ≤ 64 := by
  unfold pr_b
  split
  · exact pr_n_le _
  · have := pr_m_le (pr_n r)
    omega
set_option maxHeartbeats 4000000 in
theorem k_closeC (l : Launch) (E : jx_E) (b : Nat) (G : jx_H) (sz : Nat) (x : Nat) (uw : Nat) (fo : Option Nat) (ca : Nat) (co : Int32) (lo : Nat) (lc : Int32) (kn : Option Nat) (on cut : Int32) (u f g fl : Nat → Int32) (h : Nat → Nat → Option Nat) (sp : Nat → Nat → Int32) (β : Nat → bd_T) (ρ : Nat → Nat → Int32) (D P : Nat → Prop) (hC : Cl E x G sz uw fo ca co lo lc kn on cut u f g fl h sp β ρ D P) (fm : Option Nat) (hfm : ∀ z, fm = some z → fo = some z) : jx_ct l E b yB_close cB_close 4 none 3 2 9 [.ref uw, .int co, bv fm] G sz (fun v G' sz' => v = none ∧ ∃ ρ' P', (∀ p, P p → P' p ∧ ρ' p = ρ p) ∧ sz ≤ sz' ∧ Cl E x G' sz' uw fo ca co lo lc kn on cut u f g fl h sp (va_up β uw (bd_cl (β uw) co (ka_cl β ρ uw fm).1 (ka_cl β ρ uw fm).2)) ρ' D P' ∧ fr x G G') := by
  have hC0 := hC
  obtain ⟨⟨hK, hW, ho, hF, hU, hA, hL, hR, hSt⟩, hHD, hUw, hDb, hPp, hj, hdy, hbd, hsz⟩ := hC
  have hpu : ∀ p, d_po β uw = some p → P p ∧ p ≠ ca := fun p hp => hj.2.2.2.2 uw (.inr rfl) p hp
  rcases op_c (d_po β uw) with e | ⟨pa, e⟩
  · have ek : ka_cl β ρ uw fm = (d_ba β uw, d_pb β uw) := by unfold ka_cl; rw [e]
    rw [ek]
    have hB := hUw.1
    rw [e] at hB
    refine jx_mono (k_close0 l E b G sz uw _ _ _ _ _ _ _ hB rfl co (bv fm) (by cases fm with
      | none => exact .inl rfl
      | some z => exact .inr ⟨z, rfl⟩)) ?_
    rintro v G' sz' ⟨rfl, rfl, rfl⟩
    have h2 := Cl_uw (G' := va_up G uw (bn_o uw (d_tm β uw) (nI (d_sn β uw)) co (bv (d_po β uw)) (d_ba β uw) (nI (d_pb β uw)) (nI (d_sb β uw)))) (d := bd_cl (β uw) co (d_ba β uw) (d_pb β uw)) hC0 (fun q hq => va_up_ne _ _ (by omega)) (cB_cl hUw hUw.2.2.2.2.2.2.1) hpu
    rw [e] at h2
    exact ⟨rfl, ρ, P, fun p hp => ⟨hp, rfl⟩, Nat.le_refl _, h2⟩
  · have hB := hUw.1
    rw [e] at hB
    have hpa := hPp pa (hpu pa e).1
    have hap := (hdy.2.2 pa (hpu pa e).1).2.1
    unfold ap at hap
    cases fm with
    | none =>
      have ek : ka_cl β ρ uw none = (d_ba β uw, pr_m (pr_n (ρ pa))) := by unfold ka_cl; rw [e]
      rw [ek]
      refine jx_mono (k_close1 l E b G sz uw _ _ _ _ _ _ _ hB pa (ρ pa) rfl hpa.1 hpa.2 (by omega) (by omega) co) ?_
      rintro v G' sz' ⟨rfl, rfl, rfl⟩
      have h2 := Cl_uw (G' := va_up G uw (bn_o uw (d_tm β uw) (nI (d_sn β uw)) co (bv (d_po β uw)) (d_ba β uw) (nI (pr_m (pr_n (ρ pa)))) (nI (d_sb β uw)))) (d := bd_cl (β uw) co (d_ba β uw) (pr_m (pr_n (ρ pa)))) hC0 (fun q hq => va_up_ne _ _ (by omega)) (cB_cl hUw (by have := pr_m_le (pr_n (ρ pa)); omega)) hpu
      rw [e] at h2
      exact ⟨rfl, ρ, P, fun p hp => ⟨hp, rfl⟩, Nat.le_refl _, h2⟩
    | some z =>
      have hz := hj.2.2.1 z (hfm z rfl)
      rcases op_c (d_po β z) with e2 | ⟨fp, e2⟩
      · exact absurd e2 hz.2
      · have ek : ka_cl β ρ uw (some z) = ((pr_b (ρ pa) (ρ fp) (d_tm β z) (d_ba β uw)).2, (pr_b (ρ pa) (ρ fp) (d_tm β z) (d_ba β uw)).1) := by
          unfold ka_cl
          rw [e]
          show (match d_po β z with | none => _ | some fp => _) = _
          rw [e2]
        rw [ek]
        have hzB := (hDb z hz.1).1
        rw [e2] at hzB
        have hP2 := (hj.2.2.2.2 z (.inl hz.1) fp e2).1
        have hfp := hPp fp hP2
        have hap2 := (hdy.2.2 fp hP2).2.1
        have hapz := (hdy.2.1 z hz.1).2.1
        unfold ap at hap2 hapz
        refine jx_mono (k_close2 l E b G sz uw _ _ _ _ _ _ _ hB pa (ρ pa) rfl hpa.1 hpa.2 (by omega) (by omega) co z _ fp _ _ _ _ _ (ρ fp) hzB hfp.1 hfp.2 (by omega) (by omega) (by omega) (jx_bd_lt hbd hB) (jx_bd_lt hbd hpa.2) (jx_bd_lt hbd hfp.2) (jx_bd_lt hbd hzB)) ?_
        rintro v G' sz' ⟨rfl, rfl, rfl⟩
        obtain ⟨hC1, hf1⟩ := Cl_newP (r := pr_x (ρ pa) (ρ fp)) hC0
        have h2 := Cl_uw (G' := va_up (pc_G E sz (pr_x (ρ pa) (ρ fp)) G) uw (bn_o uw (d_tm β uw) (nI (d_sn β uw)) co (bv (d_po β uw)) (pr_b (ρ pa) (ρ fp) (d_tm β z) (d_ba β uw)).2 (nI (pr_b (ρ pa) (ρ fp) (d_tm β z) (d_ba β uw)).1) (nI (d_sb β uw)))) (d := bd_cl (β uw) co (pr_b (ρ pa) (ρ fp) (d_tm β z) (d_ba β uw)).2 (pr_b (ρ pa) (ρ fp) (d_tm β z) (d_ba β uw)).1) hC1 (fun q hq => va_up_ne _ _ (by omega)) (cB_cl hC1.2.2.1 pr_b_le) (fun p hp => ⟨.inl (hpu p hp).1, (hpu p hp).2⟩)
        rw [e] at h2
        refine ⟨rfl, va_up ρ sz (pr_x (ρ pa) (ρ fp)), fun p => P p ∨ p = sz, fun p hp => ⟨.inl hp, va_up_ne _ _ ?_⟩, by omega, h2.1, fr_tr hf1 h2.2⟩
        have := (hdy.2.2 p hp).1
        unfold dy at this
        omega
