theorem Cl_newP {E : jx_E} {x : Nat} {G : jx_H} {sz : Nat} {uw : Nat} {fo : Option Nat} {ca : Nat} {co : Int32} {lo : Nat} {lc : Int32} {kn : Option Nat} {on cut : Int32} {u f g fl : Nat → Int32} {h : Nat → Nat → Option Nat} {sp : Nat → Nat → Int32} {β : Nat → bd_T} {ρ : Nat → Nat → Int32} {D P : Nat → Prop} {r : Nat → Int32} (hC : Cl E x G sz uw fo ca co lo lc kn on cut u f g fl h sp β ρ D P) : Cl E x (pc_G E sz r G) (sz + 2) uw fo ca co lo lc kn on cut u f g fl h sp β (va_up ρ sz r) D (fun p => P p ∨ p = sz) ∧ fr x G (pc_G E sz r G) := by
  obtain ⟨hC0, hC⟩ := hC
  obtain ⟨hHD, hUw, hDb, hPp, hj, hdy, hbd, hsz⟩ := hC
  have hd := hdy.1
  unfold dy at hd
  have ne : ∀ q, q < sz → pc_G E sz r G q = G q := fun q hq => pc_n (by omega) (by omega)
  have hp2 : ∀ p, P p → p + 2 ≤ sz := fun p hp => by
    have := (hdy.2.2 p hp).1
    unfold dy at this
    omega
  refine ⟨⟨Cst_eq hC0 (fun q h1 h2 => ne q (by omega)), hHD, cB_eq hUw rfl (fun q h1 h2 => ne q (by omega)), fun z hz => cB_eq (hDb z hz) rfl (fun q h1 h2 => ne q (by have := (hdy.2.1 z hz).1; unfold dy at this; omega)), fun p hp => ?_, ⟨.inl hj.1, hj.2.1, hj.2.2.1, fun p hp => ⟨.inl (hj.2.2.2.1 p hp).1, (hj.2.2.2.1 p hp).2⟩, fun z hz p hp => ⟨.inl (hj.2.2.2.2 z hz p hp).1, (hj.2.2.2.2 z hz p hp).2⟩⟩, ⟨dy_m hdy.1 (by omega), fun z hz => ⟨dy_m (hdy.2.1 z hz).1 (by omega), (hdy.2.1 z hz).2⟩, fun p hp => ?_⟩, fun q hq => (pc_n (by omega) (by omega)).trans (hbd q (by omega)), by omega⟩, fun q h1 h2 => ne q (by omega)⟩
  · rcases hp with hp | rfl
    · have := hp2 p hp
      exact cP_eq (hPp p hp) (va_up_ne _ _ (by omega)) (fun q h1 h2 => ne q (by omega))
    · refine ⟨pc_0, ?_⟩
      rw [va_up_self]
      exact pc_1
  · rcases hp with hp | rfl
    · exact ⟨dy_m (hdy.2.2 p hp).1 (by omega), (hdy.2.2 p hp).2⟩
    · have := hp2 ca hj.1
      refine ⟨.inr ⟨hsz, Nat.le_refl _⟩, .inr ?_, .inr (.inr this)⟩
      omega
theorem Cl_k {E : jx_E} {x : Nat} {G : jx_H} {sz : Nat} {uw : Nat} {fo : Option Nat} {ca : Nat} {co : Int32} {lo : Nat} {lc : Int32} {kn : Option Nat} {on cut : Int32} {u f g fl : Nat → Int32} {h : Nat → Nat → Option Nat} {sp : Nat → Nat → Int32} {β : Nat → bd_T} {ρ : Nat → Nat → Int32} {D P : Nat → Prop} {fo' : Option Nat} {co' : Int32} {lo' : Nat} {lc' : Int32} {kn' : Option Nat} (hC : Cl E x G sz uw fo ca co lo lc kn on cut u f g fl h sp β ρ D P) (h1 : D lo') (h2 : ∀ z, fo' = some z → D z ∧ d_po β z ≠ none) (h3 : ∀ p, kn' = some p → P p ∧ p ≠ ca) : Cl E x (va_up G x (kp_o x uw fo' ca co' lo' lc' kn')) sz uw fo' ca co' lo' lc' kn' on cut u f g fl h sp β ρ D P ∧ fr x G (va_up G x (kp_o x uw fo' ca co' lo' lc' kn')) := by
  obtain ⟨hC0, hC⟩ := hC
  have hC2 : Cdy E x (va_up G x (kp_o x uw fo' ca co' lo' lc' kn')) sz uw fo ca lo kn h β ρ D P := Cdy_eq hC (fun q a _ _ => va_up_ne _ _ (by omega)) (Nat.le_refl _) (bd_up hC.2.2.2.2.2.2.1 (by have := hC.2.2.2.2.2.2.2; omega))
  obtain ⟨hHD, hUw, hDb, hPp, hj, hdy, hbd, hsz⟩ := hC2
  exact ⟨⟨Cst_k hC0, hHD, hUw, hDb, hPp, ⟨hj.1, h1, h2, h3, hj.2.2.2.2⟩, hdy, hbd, hsz⟩, fr_up (by omega)⟩
def bd_po (d : bd_T) (o : Option Nat) : bd_T := (d.1, d.2.1, d.2.2.1, o, d.2.2.2.2)
set_option maxRecDepth 100000 in
theorem k_show0 (l : Launch) (E : jx_E) (b : Nat) (G : jx_H) (sz : Nat) (x : Nat) (uw : Nat) (fo : Option Nat) (ca : Nat) (co : Int32) (lo : Nat) (lc : Int32) (kn : Option Nat) (on cut : Int32) (u f g fl : Nat → Int32) (h : Nat → Nat → Option Nat) (sp : Nat → Nat → Int32) (β : Nat → bd_T) (ρ : Nat → Nat → Int32) (D P : Nat → Prop) (hC : Cl E x G sz uw fo ca co lo lc kn on cut u f g fl h sp β ρ D P) (h1 : on = 1) (hp : d_po β uw ≠ none) : jx_ct l E b yK_show cK_show 1 (some .boolean) 2 0 0 [.ref x] G sz (jx_pu (.int 0) G sz) := by
  have hC0 := hC
  obtain ⟨⟨hK, hW, ho, hF, hU, hA, hL, hR, hSt⟩, hHD, hUw, hDb, hPp, hj, hdy, hbd, hsz⟩ := hC
  refine jx_met (by decide) (Nat.le_of_ble_eq_true rfl) (L0 := [_]) rfl (fun X k => ?_)
  rcases op_c (d_po β uw) with e | ⟨z, e⟩
  · exact absurd e hp
  · have hB := hUw.1
    rw [e] at hB
    refine jx_aload_n k dK_show_0 rfl ?_
    refine jx_callV0 k mK_64 (k_req1 _ _ _ _ _ x uw fo ca co lo lc kn on cut u f g fl h sp β ρ D P hC0 h1) hK rfl dK_show_1 rfl rfl rfl (Nat.le_of_ble_eq_true rfl) ⟨Nat.le_of_ble_eq_true rfl, Nat.le_of_ble_eq_true rfl⟩ ⟨Nat.le_of_ble_eq_true rfl, Nat.le_of_ble_eq_true rfl⟩ ?_
    refine jx_aload_n k dK_show_4 rfl ?_
    refine jx_get k fK_37 dK_show_5 hK rfl ?_
    refine jx_get k fK_87 dK_show_8 hB rfl ?_
    refine jx_ifnull k dK_show_11 ?_
    refine jx_iconst k dK_show_14 (v := 0) (by decide) ?_
    exact jx_zret k dK_show_15 rfl (Nat.le_refl _) (Nat.le_refl _) ⟨rfl, rfl, rfl⟩
set_option maxRecDepth 100000 in
theorem k_show1 (l : Launch) (E : jx_E) (b : Nat) (G : jx_H) (sz : Nat) (x : Nat) (uw : Nat) (fo : Option Nat) (ca : Nat) (co : Int32) (lo : Nat) (lc : Int32) (kn : Option Nat) (on cut : Int32) (u f g fl : Nat → Int32) (h : Nat → Nat → Option Nat) (sp : Nat → Nat → Int32) (β : Nat → bd_T) (ρ : Nat → Nat → Int32) (D P : Nat → Prop) (hC : Cl E x G sz uw fo ca co lo lc kn on cut u f g fl h sp β ρ D P) (h1 : on = 1) (hp : d_po β uw = none) : jx_ct l E b yK_show cK_show 1 (some .boolean) 3 2 9 [.ref x] G sz (fun v G' sz' => v = some (.int 1) ∧ sz' = sz + 2 ∧ Cl E x G' (sz + 2) uw fo ca co lo lc kn on cut u f g fl h sp (va_up β uw (bd_po (β uw) (some sz))) (va_up ρ sz (va_cpy (ρ ca) (fun _ => 0) 0 0 8)) D (fun p => P p ∨ p = sz) ∧ fr x G G') := by
  have hC0 := hC
  obtain ⟨⟨hK, hW, ho, hF, hU, hA, hL, hR, hSt⟩, hHD, hUw, hDb, hPp, hj, hdy, hbd, hsz⟩ := hC
  refine jx_met (by decide) (Nat.le_of_ble_eq_true rfl) (L0 := [_]) rfl (fun X k => ?_)
  have hB := hUw.1
  rw [hp] at hB
  have hc := hPp ca hj.1
  have hlt := jx_bd_lt hbd hc.2
  obtain ⟨hC1, hf1⟩ := Cl_newP (r := va_cpy (ρ ca) (fun _ => 0) 0 0 8) hC0
  have hca : ca + 2 ≤ sz := by omega
  refine jx_aload_n k dK_show_0 rfl ?_
  refine jx_callV0 k mK_64 (k_req1 _ _ _ _ _ x uw fo ca co lo lc kn on cut u f g fl h sp β ρ D P hC0 h1) hK rfl dK_show_1 rfl rfl rfl (Nat.le_of_ble_eq_true rfl) ⟨Nat.le_of_ble_eq_true rfl, Nat.le_of_ble_eq_true rfl⟩ ⟨Nat.le_of_ble_eq_true rfl, Nat.le_of_ble_eq_true rfl⟩ ?_
  refine jx_aload_n k dK_show_4 rfl ?_
  refine jx_get k fK_37 dK_show_5 hK rfl ?_
  refine jx_get k fK_87 dK_show_8 hB rfl ?_
  refine jx_ifnullN k dK_show_11 (tgt := 16) rfl ?_
  refine jx_aload_n k dK_show_16 rfl ?_
  refine jx_get k fK_37 dK_show_17 hK rfl ?_
  refine jx_aload_n k dK_show_20 rfl ?_
  refine jx_get k fK_47 dK_show_21 hK rfl ?_
  refine jx_callV1 k mK_90 (k_Pcopy _ _ _ _ _ ca (ρ ca) hc.1 hc.2 hlt) hc.1 rfl dK_show_24 rfl rfl rfl (Nat.le_of_ble_eq_true rfl) ⟨Nat.le_of_ble_eq_true rfl, Nat.le_of_ble_eq_true rfl⟩ ⟨Nat.le_of_ble_eq_true rfl, Nat.le_of_ble_eq_true rfl⟩ ?_
  refine jx_put k fK_87 dK_show_27 (pc_k hbd hB) rfl rfl (Nat.le_of_ble_eq_true rfl) (fs' := [_, _, _, _, _, _, _, _, _, _, _]) rfl ?_
  refine jx_iconst k dK_show_30 (v := 1) (by decide) ?_
  refine jx_zret k dK_show_31 rfl (Nat.le_refl _) (Nat.le_refl _) ⟨rfl, rfl, ?_⟩
  have hU1 := hC1.2.2.1
  have h2 := Cl_uw (G' := va_up (pc_G E sz (va_cpy (ρ ca) (fun _ => 0) 0 0 8) G) uw (bn_o uw (d_tm β uw) (nI (d_sn β uw)) (d_cs β uw) (.ref sz) (d_ba β uw) (nI (d_pb β uw)) (nI (d_sb β uw)))) (d := bd_po (β uw) (some sz)) hC1 (fun q hq => va_up_ne _ _ (by omega)) (by
      unfold cB d_tm d_cs d_ba d_tx d_so d_sd d_he d_po d_sn d_pb d_sb
      rw [show va_up β uw (bd_po (β uw) (some sz)) uw = bd_po (β uw) (some sz) from va_up_self _ _ _]
      exact ⟨va_up_self _ _ _, (va_up_ne _ _ (by omega)).trans hU1.2.1, (va_up_ne _ _ (by omega)).trans hU1.2.2.1, (va_up_ne _ _ (by omega)).trans hU1.2.2.2.1, (va_up_ne _ _ (by omega)).trans hU1.2.2.2.2.1, hU1.2.2.2.2.2⟩) (fun p hp => by
      have e : some sz = some p := hp
      rw [← Option.some.inj e]
      exact ⟨.inr rfl, by omega⟩)
  exact ⟨h2.1, fr_tr hf1 h2.2⟩
/- what the freezes may need -/
def kf_f (u f g : Nat → Int32) (t : Int32) (k c : Nat) : Nat := if fz_h u f g (t + nI k) then c + 5 else c
def kf_n (u f g : Nat → Int32) (β : Nat → bd_T) (uw : Nat) (h : Nat → Nat → Option Nat) : Nat := fo_f (kf_f u f g (d_tm β uw)) 0 10 (so_h (sO 0) u f g (h 0) (d_tm β) (sN 0))
theorem so_h_le {ob : Int32} {u f g tm : Nat → Int32} {h : Nat → Option Nat} : ∀ n, so_h ob u f g h tm n ≤ n := by
  intro n
  induction n with
  | zero => exact Nat.le_refl _
  | succ n ih =>
    unfold so_h at ih ⊢
    rw [fo_s, so_hf]
    split
    · omega
    · split <;> omega
theorem kf_n_le {u f g : Nat → Int32} {β : Nat → bd_T} {uw : Nat} {h : Nat → Nat → Option Nat} : kf_n u f g β uw h ≤ 90 := by
  have key : ∀ j c, fo_f (kf_f u f g (d_tm β uw)) 0 j c ≤ c + 5 * j := by
    intro j c
    induction j with
    | zero => exact Nat.le_refl _
    | succ j ih =>
      rw [fo_s, kf_f]
      split <;> omega
  have h1 := key 10 (so_h (sO 0) u f g (h 0) (d_tm β) (sN 0))
  have h2 : so_h (sO 0) u f g (h 0) (d_tm β) (sN 0) ≤ 40 := so_h_le 40
  unfold kf_n
  omega
set_option maxRecDepth 100000 in
set_option maxHeartbeats 4000000 in
theorem k_pagesFF (l : Launch) (E : jx_E) (b : Nat) (G : jx_H) (sz : Nat) (x : Nat) (uw : Nat) (fo : Option Nat) (ca : Nat) (co : Int32) (lo : Nat) (lc : Int32) (kn : Option Nat) (on cut : Int32) (u f g fl : Nat → Int32) (h : Nat → Nat → Option Nat) (sp : Nat → Nat → Int32) (β : Nat → bd_T) (ρ : Nat → Nat → Int32) (D P : Nat → Prop) (hC : Cl E x G sz uw fo ca co lo lc kn on cut u f g fl h sp β ρ D P) : jx_ct l E b yK_pagesForFreezes cK_pagesForFreezes 3 (some .int) 3 0 0 [.ref x] G sz (jx_pu (.int (nI (kf_n u f g β uw h))) G sz) := by
  have hC0 := hC
  obtain ⟨⟨hK, hW, ho, hF, hU, hA, hL, hR, hSt⟩, hHD, hUw, hDb, hPp, hj, hdy, hbd, hsz⟩ := hC
  have hS := hSt 0 (by decide)
  have hT : ∀ z, D z → bn_k G z (d_tm β z) := fun z hz => cB_k (hDb z hz)
  refine jx_met (by decide) (Nat.le_of_ble_eq_true rfl) (L0 := [_, _, _]) rfl (fun X k => ?_)
  refine jx_aload_n k dK_pagesForFreezes_0 rfl ?_
  refine jx_get k fK_28 dK_pagesForFreezes_1 hK rfl ?_
  refine jx_iconst k dK_pagesForFreezes_4 (v := 0) (by decide) ?_
  refine jx_aldS k dK_pagesForFreezes_5 hR (t := 3) rfl (p := 0) rfl (by omega) (by decide) (sV_i (i := 0) (by decide)) ?_
  refine jx_aload_n k dK_pagesForFreezes_6 rfl ?_
  refine jx_get k fK_19 dK_pagesForFreezes_7 hK rfl ?_
  refine jx_callVP k mK_217 (k_pagesHeld _ _ _ _ _ (sA x 0) (sN 0) _ _ _ (h 0) (d_tm β) D hS.1 hS.2.1 (sN_le 0) (hHD 0 (by decide)) hT (x + 2) u f g hF hU hA hL) hS.1 rfl dK_pagesForFreezes_10 rfl rfl rfl (Nat.le_of_ble_eq_true rfl) ⟨Nat.le_of_ble_eq_true rfl, Nat.le_of_ble_eq_true rfl⟩ ⟨Nat.le_of_ble_eq_true rfl, Nat.le_of_ble_eq_true rfl⟩ ?_
  refine jx_istore_n k dK_pagesForFreezes_13 (Nat.le_of_ble_eq_true rfl) rfl (L' := [_, _, _]) rfl ?_
  refine jx_iconst k dK_pagesForFreezes_14 (v := 0) (by decide) ?_
  refine jx_istore_n k dK_pagesForFreezes_15 (Nat.le_of_ble_eq_true rfl) rfl (L' := [_, _, _]) rfl ?_
  refine fo_l (fun p c => jx_w X E b (jx_fin X E b (jx_pu (.int (nI (kf_n u f g β uw h))) G sz) 0 0) 16 [some (.ref x), some (.int (nI c)), some (.int (nI p))] [] G sz 0 0) (kf_f u f g (d_tm β uw)) (lo := 0) (hi := 10) (by decide) (so_h (sO 0) u f g (h 0) (d_tm β) (sN 0)) ?_ ?_
  · intro p h1 h2
    generalize fo_f (kf_f u f g (d_tm β uw)) 0 (p - 0) (so_h (sO 0) u f g (h 0) (d_tm β) (sN 0)) = c
    intro kk
    refine jx_iload_n k dK_pagesForFreezes_16 rfl ?_
    refine jx_bipush k dK_pagesForFreezes_17 (v := 9) (by decide) ?_
    refine jx_icmp_gt k dK_pagesForFreezes_19 (tgt := 50) rfl (fun hh => absurd hh (nI_nlt (a := 9) (b := p) (by omega) (by decide))) (fun _ => ?_)
    refine jx_aload_n k dK_pagesForFreezes_22 rfl ?_
    refine jx_get k fK_19 dK_pagesForFreezes_23 hK rfl ?_
    refine jx_aload_n k dK_pagesForFreezes_26 rfl ?_
    refine jx_get k fK_37 dK_pagesForFreezes_27 hK rfl ?_
    refine jx_get k fK_94 dK_pagesForFreezes_30 hUw.1 rfl ?_
    refine jx_iload_n k dK_pagesForFreezes_33 rfl ?_
    refine jx_iadd k dK_pagesForFreezes_34 ?_
    refine jx_callVP k mK_221 (k_hold _ _ _ _ _ (x + 2) u f g hF hU hA hL (d_tm β uw + nI p)) hF rfl dK_pagesForFreezes_35 rfl rfl rfl (Nat.le_of_ble_eq_true rfl) ⟨Nat.le_of_ble_eq_true rfl, Nat.le_of_ble_eq_true rfl⟩ ⟨Nat.le_of_ble_eq_true rfl, Nat.le_of_ble_eq_true rfl⟩ ?_
    refine jx_if_eq k dK_pagesForFreezes_38 (tgt := 44) rfl (fun h3 => ?_) (fun h3 => ?_)
    · rw [kf_f, if_neg (jb_e0.mp h3)] at kk
      refine jx_iinc k dK_pagesForFreezes_44 rfl (nI_1 p) rfl (L' := [_, _, _]) rfl ?_
      refine jx_goto k dK_pagesForFreezes_47 (tgt := 16) rfl ?_
      exact kk
    · rw [kf_f, if_pos (Decidable.byContradiction (fun h => h3 (jb_f h)))] at kk
      refine jx_iinc k dK_pagesForFreezes_41 rfl (nI_add c 5) rfl (L' := [_, _, _]) rfl ?_
      refine jx_iinc k dK_pagesForFreezes_44 rfl (nI_1 p) rfl (L' := [_, _, _]) rfl ?_
      refine jx_goto k dK_pagesForFreezes_47 (tgt := 16) rfl ?_
      exact kk
  · refine jx_iload_n k dK_pagesForFreezes_16 rfl ?_
    refine jx_bipush k dK_pagesForFreezes_17 (v := 9) (by decide) ?_
    refine jx_icmp_gt k dK_pagesForFreezes_19 (tgt := 50) rfl (fun _ => ?_) (fun hh => absurd (nI_lt (a := 9) (b := 10) (by decide) (by decide)) hh)
    refine jx_iload_n k dK_pagesForFreezes_50 rfl ?_
    exact jx_iret k dK_pagesForFreezes_51 (Nat.le_refl _) (Nat.le_refl _) ⟨rfl, rfl, rfl⟩
theorem fz_un_c (u : Nat → Int32) : fz_un u = -1 ∨ ∃ j, j < 3 ∧ fz_un u = nI j := by
  unfold fz_un
  split
  · exact .inr ⟨0, by decide, rfl⟩
  · split
    · exact .inr ⟨1, by decide, rfl⟩
    · split
      · exact .inr ⟨2, by decide, rfl⟩
      · exact .inl rfl
abbrev ka_fr (bf af : Int32) : Prop := (0 ≤ bf ∧ bf < 10) ∧ (0 ≤ af ∧ af < 10)
set_option maxRecDepth 100000 in
theorem k_freeze0 (l : Launch) (E : jx_E) (b : Nat) (G : jx_H) (sz : Nat) (x : Nat) (uw : Nat) (fo : Option Nat) (ca : Nat) (co : Int32) (lo : Nat) (lc : Int32) (kn : Option Nat) (on cut : Int32) (u f g fl : Nat → Int32) (h : Nat → Nat → Option Nat) (sp : Nat → Nat → Int32) (β : Nat → bd_T) (ρ : Nat → Nat → Int32) (D P : Nat → Prop) (hC : Cl E x G sz uw fo ca co lo lc kn on cut u f g fl h sp β ρ D P) (h1 : on = 1) (bf af : Int32) (hr : ¬ ka_fr bf af ∨ fz_un u = -1) : jx_ct l E b yK_freeze cK_freeze 4 (some .int) 2 0 0 [.ref x, .int bf, .int af] G sz (jx_pu (.int (-1)) G sz) := by
  have hC0 := hC
  obtain ⟨⟨hK, hW, ho, hF, hU, hA, hL, hR, hSt⟩, hHD, hUw, hDb, hPp, hj, hdy, hbd, hsz⟩ := hC
  refine jx_met (by decide) (Nat.le_of_ble_eq_true rfl) (L0 := [_, _, _, _]) rfl (fun X k => ?_)
  refine jx_aload_n k dK_freeze_0 rfl ?_
  refine jx_callV0 k mK_64 (k_req1 _ _ _ _ _ x uw fo ca co lo lc kn on cut u f g fl h sp β ρ D P hC0 h1) hK rfl dK_freeze_1 rfl rfl rfl (Nat.le_of_ble_eq_true rfl) ⟨Nat.le_of_ble_eq_true rfl, Nat.le_of_ble_eq_true rfl⟩ ⟨Nat.le_of_ble_eq_true rfl, Nat.le_of_ble_eq_true rfl⟩ ?_
  refine jx_iload_n k dK_freeze_4 rfl ?_
  refine jx_bipush k dK_freeze_5 (v := 10) (by decide) ?_
  refine jx_callSP k mK_67 (k_isBelow _ _ _ _ _ bf 10) dK_freeze_7 rfl rfl rfl (Nat.le_of_ble_eq_true rfl) ⟨Nat.le_of_ble_eq_true rfl, Nat.le_of_ble_eq_true rfl⟩ ⟨Nat.le_of_ble_eq_true rfl, Nat.le_of_ble_eq_true rfl⟩ ?_
  refine jx_if_eq k dK_freeze_10 (tgt := 22) rfl (fun h2 => ?_) (fun h2 => ?_)
  · refine jx_iconst k dK_freeze_22 (v := (-1)) (by decide) ?_
    exact jx_iret k dK_freeze_23 (Nat.le_refl _) (Nat.le_refl _) ⟨rfl, rfl, rfl⟩
  · have g1 := Decidable.byContradiction (fun h => h2 (jb_f h))
    refine jx_iload_n k dK_freeze_13 rfl ?_
    refine jx_bipush k dK_freeze_14 (v := 10) (by decide) ?_
    refine jx_callSP k mK_67 (k_isBelow _ _ _ _ _ af 10) dK_freeze_16 rfl rfl rfl (Nat.le_of_ble_eq_true rfl) ⟨Nat.le_of_ble_eq_true rfl, Nat.le_of_ble_eq_true rfl⟩ ⟨Nat.le_of_ble_eq_true rfl, Nat.le_of_ble_eq_true rfl⟩ ?_
    refine jx_if_ne k dK_freeze_19 (tgt := 24) rfl (fun h3 => ?_) (fun h3 => ?_)
    · have g2 := Decidable.byContradiction (fun h => h3 (jb_f h))
      have g3 : fz_un u = -1 := hr.resolve_left (fun h => h ⟨g1, g2⟩)
      refine jx_aload_n k dK_freeze_24 rfl ?_
      refine jx_get k fK_19 dK_freeze_25 hK rfl ?_
      refine jx_callVP k mK_119 (k_unused _ _ _ _ _ (x + 2) u hF hU) hF rfl dK_freeze_28 rfl rfl rfl (Nat.le_of_ble_eq_true rfl) ⟨Nat.le_of_ble_eq_true rfl, Nat.le_of_ble_eq_true rfl⟩ ⟨Nat.le_of_ble_eq_true rfl, Nat.le_of_ble_eq_true rfl⟩ ?_
      refine jx_istore_n k dK_freeze_31 (Nat.le_of_ble_eq_true rfl) rfl (L' := [_, _, _, _]) rfl ?_
      refine jx_iload_n k dK_freeze_32 rfl ?_
      refine jx_iconst k dK_freeze_33 (v := (-1)) (by decide) ?_
      refine jx_icmp_ne k dK_freeze_34 (tgt := 39) rfl (fun hh => absurd g3 hh) (fun _ => ?_)
      refine jx_iconst k dK_freeze_37 (v := (-1)) (by decide) ?_
      exact jx_iret k dK_freeze_38 (Nat.le_refl _) (Nat.le_refl _) ⟨rfl, rfl, rfl⟩
    · refine jx_iconst k dK_freeze_22 (v := (-1)) (by decide) ?_
      exact jx_iret k dK_freeze_23 (Nat.le_refl _) (Nat.le_refl _) ⟨rfl, rfl, rfl⟩
def ka_f1 (f : Nat → Int32) (β : Nat → bd_T) (uw j : Nat) (bf : Int32) : Nat → Int32 := upd f j (if 0 < d_tm β uw - bf then d_tm β uw - bf else 0)
def ka_g1 (g : Nat → Int32) (β : Nat → bd_T) (uw j : Nat) (af : Int32) : Nat → Int32 := upd g j (d_tm β uw + af)
set_option maxRecDepth 100000 in
set_option maxHeartbeats 4000000 in
theorem k_freeze1 (l : Launch) (E : jx_E) (b : Nat) (G : jx_H) (sz : Nat) (x : Nat) (uw : Nat) (fo : Option Nat) (ca : Nat) (co : Int32) (lo : Nat) (lc : Int32) (kn : Option Nat) (on cut : Int32) (u f g fl : Nat → Int32) (h : Nat → Nat → Option Nat) (sp : Nat → Nat → Int32) (β : Nat → bd_T) (ρ : Nat → Nat → Int32) (D P : Nat → Prop) (hC : Cl E x G sz uw fo ca co lo lc kn on cut u f g fl h sp β ρ D P) (h1 : on = 1) (bf af : Int32) (hr : ka_fr bf af) (j : Nat) (hj3 : j < 3) (hu : fz_un u = nI j) : jx_ct l E b yK_freeze cK_freeze 4 (some .int) 4 0 0 [.ref x, .int bf, .int af] G sz (fun v G' sz' => sz' = sz ∧ fr x G G' ∧ if 20 < kf_n (upd u j 1) (ka_f1 f β uw j bf) (ka_g1 g β uw j af) β uw h then v = some (.int (-1)) ∧ Cl E x G' sz uw fo ca co lo lc kn on cut (upd (upd u j 1) j 0) (ka_f1 f β uw j bf) (ka_g1 g β uw j af) fl h sp β ρ D P else v = some (.int (nI j)) ∧ Cl E x G' sz uw fo ca co lo lc kn on cut (upd u j 1) (ka_f1 f β uw j bf) (ka_g1 g β uw j af) fl h sp β ρ D P) := by
  have hC0 := hC
  obtain ⟨⟨hK, hW, ho, hF, hU, hA, hL, hR, hSt⟩, hHD, hUw, hDb, hPp, hj, hdy, hbd, hsz⟩ := hC
  refine jx_met (by decide) (Nat.le_of_ble_eq_true rfl) (L0 := [_, _, _, _]) rfl (fun X k => ?_)
  refine jx_aload_n k dK_freeze_0 rfl ?_
  refine jx_callV0 k mK_64 (k_req1 _ _ _ _ _ x uw fo ca co lo lc kn on cut u f g fl h sp β ρ D P hC0 h1) hK rfl dK_freeze_1 rfl rfl rfl (Nat.le_of_ble_eq_true rfl) ⟨Nat.le_of_ble_eq_true rfl, Nat.le_of_ble_eq_true rfl⟩ ⟨Nat.le_of_ble_eq_true rfl, Nat.le_of_ble_eq_true rfl⟩ ?_
  refine jx_iload_n k dK_freeze_4 rfl ?_
  refine jx_bipush k dK_freeze_5 (v := 10) (by decide) ?_
  refine jx_callSP k mK_67 (k_isBelow _ _ _ _ _ bf 10) dK_freeze_7 rfl rfl rfl (Nat.le_of_ble_eq_true rfl) ⟨Nat.le_of_ble_eq_true rfl, Nat.le_of_ble_eq_true rfl⟩ ⟨Nat.le_of_ble_eq_true rfl, Nat.le_of_ble_eq_true rfl⟩ ?_
  refine jx_if_eq k dK_freeze_10 (tgt := 22) rfl (fun hh => absurd hh (fun h => jb_e0.mp h hr.1)) (fun _ => ?_)
  refine jx_iload_n k dK_freeze_13 rfl ?_
  refine jx_bipush k dK_freeze_14 (v := 10) (by decide) ?_
  refine jx_callSP k mK_67 (k_isBelow _ _ _ _ _ af 10) dK_freeze_16 rfl rfl rfl (Nat.le_of_ble_eq_true rfl) ⟨Nat.le_of_ble_eq_true rfl, Nat.le_of_ble_eq_true rfl⟩ ⟨Nat.le_of_ble_eq_true rfl, Nat.le_of_ble_eq_true rfl⟩ ?_
  refine jx_if_ne k dK_freeze_19 (tgt := 24) rfl (fun _ => ?_) (fun hh => absurd hh (fun h => jb_e0.mp h hr.2))
  refine jx_aload_n k dK_freeze_24 rfl ?_
  refine jx_get k fK_19 dK_freeze_25 hK rfl ?_
  refine jx_callVP k mK_119 (k_unused _ _ _ _ _ (x + 2) u hF hU) hF rfl dK_freeze_28 rfl rfl rfl (Nat.le_of_ble_eq_true rfl) ⟨Nat.le_of_ble_eq_true rfl, Nat.le_of_ble_eq_true rfl⟩ ⟨Nat.le_of_ble_eq_true rfl, Nat.le_of_ble_eq_true rfl⟩ ?_
  refine jx_istore_n k dK_freeze_31 (Nat.le_of_ble_eq_true rfl) rfl (L' := [_, _, _, _]) rfl ?_
  refine jx_iload_n k dK_freeze_32 rfl ?_
  refine jx_iconst k dK_freeze_33 (v := (-1)) (by decide) ?_
  rw [hu]
  have n1 : ¬ nI j = -1 := fun e => by
    have := nI_pos (n := j) (by omega)
    rw [e] at this
    exact this (by decide)
  refine jx_icmp_ne k dK_freeze_34 (tgt := 39) rfl (fun _ => ?_) (fun hh => absurd hh n1)
  refine jx_aload_n k dK_freeze_39 rfl ?_
  refine jx_get k fK_19 dK_freeze_40 hK rfl ?_
  refine jx_iload_n k dK_freeze_43 rfl ?_
  refine jx_iconst k dK_freeze_44 (v := 0) (by decide) ?_
  refine jx_aload_n k dK_freeze_45 rfl ?_
  refine jx_get k fK_37 dK_freeze_46 hK rfl ?_
  refine jx_get k fK_94 dK_freeze_49 hUw.1 rfl ?_
  refine jx_iload_n k dK_freeze_52 rfl ?_
  refine jx_isub k dK_freeze_53 ?_
  refine jx_callSP k mK_123 (k_max _ _ _ _ _ 0 (d_tm β uw - bf)) dK_freeze_54 rfl rfl rfl (Nat.le_of_ble_eq_true rfl) ⟨Nat.le_of_ble_eq_true rfl, Nat.le_of_ble_eq_true rfl⟩ ⟨Nat.le_of_ble_eq_true rfl, Nat.le_of_ble_eq_true rfl⟩ ?_
  refine jx_aload_n k dK_freeze_57 rfl ?_
  refine jx_get k fK_37 dK_freeze_58 hK rfl ?_
  refine jx_get k fK_94 dK_freeze_61 hUw.1 rfl ?_
  refine jx_iload_n k dK_freeze_64 rfl ?_
  refine jx_iadd k dK_freeze_65 ?_
  refine jx_callV0 k mK_129 (k_begin _ _ _ _ _ (x + 2) u f g hF hU hA hL j hj3 (if 0 < d_tm β uw - bf then d_tm β uw - bf else 0) (d_tm β uw + af)) hF rfl dK_freeze_66 rfl rfl rfl (Nat.le_of_ble_eq_true rfl) ⟨Nat.le_of_ble_eq_true rfl, Nat.le_of_ble_eq_true rfl⟩ ⟨Nat.le_of_ble_eq_true rfl, Nat.le_of_ble_eq_true rfl⟩ ?_
  obtain ⟨hC1, hf1⟩ := Cl_st (G' := fz_3 E x G (upd u j 1) (ka_f1 f β uw j bf) (ka_g1 g β uw j af)) hC0 (fun q hq => fz_3n (by omega) (by omega) (by omega)) (Cst_fz hC0.1)
  rw [show va_up (va_up (va_up G (x + 2 + 1) (some (ja_z E 3 (upd u j 1)))) (x + 2 + 2) (some (ja_i E 3 (upd f j (if 0 < d_tm β uw - bf then d_tm β uw - bf else 0))))) (x + 2 + 3) (some (ja_i E 3 (upd g j (d_tm β uw + af)))) = fz_3 E x G (upd u j 1) (ka_f1 f β uw j bf) (ka_g1 g β uw j af) from rfl]
  have hK1 := hC1.1.1
  have hle := kf_n_le (u := upd u j 1) (f := ka_f1 f β uw j bf) (g := ka_g1 g β uw j af) (β := β) (uw := uw) (h := h)
  refine jx_aload_n k dK_freeze_69 rfl ?_
  refine jx_callVP k mK_132 (k_pagesFF _ _ _ _ _ x _ _ _ _ _ _ _ _ _ _ _ _ _ _ _ _ _ _ _ hC1) hK1 rfl dK_freeze_70 rfl rfl rfl (Nat.le_of_ble_eq_true rfl) ⟨Nat.le_of_ble_eq_true rfl, Nat.le_of_ble_eq_true rfl⟩ ⟨Nat.le_of_ble_eq_true rfl, Nat.le_of_ble_eq_true rfl⟩ ?_
  refine jx_bipush k dK_freeze_73 (v := 20) (by decide) ?_
  refine jx_icmp_le k dK_freeze_75 (tgt := 88) rfl (fun h2 => ?_) (fun h2 => ?_)
  · have g2 : ¬ 20 < kf_n (upd u j 1) (ka_f1 f β uw j bf) (ka_g1 g β uw j af) β uw h := fun h => absurd h2 (nI_ge (b := kf_n (upd u j 1) (ka_f1 f β uw j bf) (ka_g1 g β uw j af) β uw _) h (by omega))
    refine jx_iload_n k dK_freeze_88 rfl ?_
    exact jx_iret k dK_freeze_89 (Nat.le_refl _) (Nat.le_refl _) ⟨rfl, hf1, by rw [if_neg g2]; exact ⟨rfl, hC1⟩⟩
  · have g2 : 20 < kf_n (upd u j 1) (ka_f1 f β uw j bf) (ka_g1 g β uw j af) β uw h := Decidable.byContradiction (fun h => h2 (nI_le (b := 20) (by omega) (by decide)))
    refine jx_aload_n k dK_freeze_78 rfl ?_
    refine jx_get k fK_19 dK_freeze_79 hK1 rfl ?_
    refine jx_iload_n k dK_freeze_82 rfl ?_
    refine jx_callV0 k mK_135 (k_Fend _ _ _ _ _ (x + 2) (upd u j 1) hC1.1.2.2.2.1 hC1.1.2.2.2.2.1 j hj3) hC1.1.2.2.2.1 rfl dK_freeze_83 rfl rfl rfl (Nat.le_of_ble_eq_true rfl) ⟨Nat.le_of_ble_eq_true rfl, Nat.le_of_ble_eq_true rfl⟩ ⟨Nat.le_of_ble_eq_true rfl, Nat.le_of_ble_eq_true rfl⟩ ?_
    refine jx_iconst k dK_freeze_86 (v := (-1)) (by decide) ?_
    obtain ⟨hC2, hf2⟩ := Cl_st (G' := fz_3 E x (fz_3 E x G (upd u j 1) (ka_f1 f β uw j bf) (ka_g1 g β uw j af)) (upd (upd u j 1) j 0) (ka_f1 f β uw j bf) (ka_g1 g β uw j af)) hC1 (fun q hq => fz_3n (by omega) (by omega) (by omega)) (Cst_fz hC1.1)
    exact jx_iret k dK_freeze_87 (Nat.le_refl _) (Nat.le_refl _) ⟨rfl, by rw [show x + 2 + 1 = x + 3 from rfl, fz_3u hC1.1.2.2.2.2.2.1 hC1.1.2.2.2.2.2.2.1]; exact fr_tr hf1 hf2, by rw [if_pos g2, show x + 2 + 1 = x + 3 from rfl, fz_3u hC1.1.2.2.2.2.2.1 hC1.1.2.2.2.2.2.2.1]; exact ⟨rfl, hC2⟩⟩
/- replay -/
theorem so_rs_t {h : Nat → Option Nat} {tm sp : Nat → Int32} {t : Int32} {z : Nat} : ∀ (e p : Nat) (o : Option Nat), so_rs h tm sp t e p o = some z → (∀ y, o = some y → tm y = t) → tm z = t := by
  intro e
  induction e with
  | zero => intro p o he ho; exact ho z he
  | succ e ih =>
    intro p o he ho
    rw [so_rs] at he
    split at he
    · rename_i hi
      split at he
      · cases he
      · refine ih _ _ he (fun y hy => ?_)
        have : (h p).map tm = some t := hi
        rw [hy] at this
        exact Option.some.inj this
    · exact ih _ _ he ho
theorem so_r_t {h : Nat → Option Nat} {tm sp : Nat → Int32} {t : Int32} {z n : Nat} (e : so_r h tm sp n t = some z) : tm z = t := so_rs_t _ _ _ e (fun y hy => by cases hy)
theorem so_ps_P {h : Nat → Option Nat} {tm sp : Nat → Int32} {n : Nat} {po : Nat → Option Nat} {ba : Nat → Int32} {T : Nat} {Q : Nat → Prop} (hQ : ∀ q z, q < n → h q = some z → ∀ p, po z = some p → Q p) : ∀ (c : Nat) (st : Option Nat × Int32), (∀ p, st.1 = some p → Q p) → ∀ p, (so_ps h tm sp n po ba T c st).1 = some p → Q p := by
  intro c
  induction c with
  | zero => intro st hs p hp; exact hs p hp
  | succ c ih =>
    intro st hs p hp
    rw [so_ps] at hp
    refine ih _ (fun p hp => ?_) p hp
    unfold so_pf at hp
    rcases op_c (so_r h tm sp n (nI (T - c))) with e | ⟨z, e⟩
    · rw [e] at hp
      exact hs p hp
    · rw [e] at hp
      obtain ⟨q, hq, hqz⟩ := so_r_D e
      rcases op_c (po z) with e2 | ⟨pa, e2⟩
      · have hp2 : (match po z with | none => st | some pa => if ba z = -1 ∨ ba z = st.2 then (some pa, tm z) else (none, -1)).1 = some p := hp
        rw [e2] at hp2
        exact hs p hp2
      · have hp2 : (match po z with | none => st | some pa => if ba z = -1 ∨ ba z = st.2 then (some pa, tm z) else (none, -1)).1 = some p := hp
        rw [e2] at hp2
        have hp3 : (if ba z = -1 ∨ ba z = st.2 then (some pa, tm z) else ((none : Option Nat), (-1 : Int32))).1 = some p := hp2
        split at hp3
        · have e3 : some pa = some p := hp3
          exact hQ q z hq hqz p (by rw [e2, e3])
        · cases hp3
set_option maxRecDepth 100000 in
theorem k_replay0 (l : Launch) (E : jx_E) (b : Nat) (G : jx_H) (sz : Nat) (x : Nat) (uw : Nat) (fo : Option Nat) (ca : Nat) (co : Int32) (lo : Nat) (lc : Int32) (kn : Option Nat) (on cut : Int32) (u f g fl : Nat → Int32) (h : Nat → Nat → Option Nat) (sp : Nat → Nat → Int32) (β : Nat → bd_T) (ρ : Nat → Nat → Int32) (D P : Nat → Prop) (hC : Cl E x G sz uw fo ca co lo lc kn on cut u f g fl h sp β ρ D P) (i t : Int32) (hr : (0 ≤ i ∧ i < 3) → ka_r h sp (d_tm β) i.toNatClampNeg t = none) : jx_ct l E b yK_replay cK_replay 5 (some .int) 2 0 0 [.ref x, .int i, .int t] G sz (jx_pu (.int (-1)) G sz) := by
  have hC0 := hC
  obtain ⟨⟨hK, hW, ho, hF, hU, hA, hL, hR, hSt⟩, hHD, hUw, hDb, hPp, hj, hdy, hbd, hsz⟩ := hC
  refine jx_met (by decide) (Nat.le_of_ble_eq_true rfl) (L0 := [_, _, _, _, _]) rfl (fun X k => ?_)
  by_cases g1 : 0 ≤ i ∧ i < 3
  · obtain ⟨j, hj3, rfl⟩ := nI_lift (n := 3) g1.1 g1.2 (by decide)
    have hS := hSt j hj3
    have e := hr g1
    rw [nI_clamp (by omega)] at e
    have hT : ∀ z, D z → bn_k G z (d_tm β z) := fun z hz => cB_k (hDb z hz)
    refine jx_aload_n k dK_replay_0 rfl ?_
    refine jx_iload_n k dK_replay_1 rfl ?_
    refine jx_callVP k mK_146 (k_storeAt1 _ _ _ _ _ x uw fo ca co lo lc kn on cut u f g fl h sp β ρ D P hC0 j hj3) hK rfl dK_replay_2 rfl rfl rfl (Nat.le_of_ble_eq_true rfl) ⟨Nat.le_of_ble_eq_true rfl, Nat.le_of_ble_eq_true rfl⟩ ⟨Nat.le_of_ble_eq_true rfl, Nat.le_of_ble_eq_true rfl⟩ ?_
    refine jx_astore_n k dK_replay_5 (Nat.le_of_ble_eq_true rfl) rfl (L' := [_, _, _, _, _]) rfl ?_
    refine jx_aload_n k dK_replay_6 rfl ?_
    refine jx_ifnonnull k dK_replay_7 (tgt := 12) rfl ?_
    refine jx_aload_n k dK_replay_12 rfl ?_
    refine jx_iload_n k dK_replay_13 rfl ?_
    refine jx_callVP k mK_159 (k_readable _ _ _ _ _ (sA x j) (sN j) _ _ _ (h j) (d_tm β) D hS.1 hS.2.1 (sN_le j) (hHD j hj3) hT (sp j) hS.2.2 t) hS.1 rfl dK_replay_14 rfl rfl rfl (Nat.le_of_ble_eq_true rfl) ⟨Nat.le_of_ble_eq_true rfl, Nat.le_of_ble_eq_true rfl⟩ ⟨Nat.le_of_ble_eq_true rfl, Nat.le_of_ble_eq_true rfl⟩ ?_
    rw [show so_r (h j) (d_tm β) (sp j) (sN j) t = none from e]
    refine jx_astoreN k dK_replay_17 (Nat.le_of_ble_eq_true rfl) rfl (L' := [_, _, _, _, _]) rfl ?_
    refine jx_aloadN k dK_replay_19 rfl ?_
    refine jx_ifnonnullN k dK_replay_21 ?_
    refine jx_iconst k dK_replay_24 (v := (-1)) (by decide) ?_
    exact jx_iret k dK_replay_25 (Nat.le_refl _) (Nat.le_refl _) ⟨rfl, rfl, rfl⟩
  · refine jx_aload_n k dK_replay_0 rfl ?_
    refine jx_iload_n k dK_replay_1 rfl ?_
    refine jx_callVP k mK_146 (k_storeAt0 _ _ _ _ _ x uw fo ca co lo lc kn on cut u f g fl h sp β ρ D P hC0 i g1) hK rfl dK_replay_2 rfl rfl rfl (Nat.le_of_ble_eq_true rfl) ⟨Nat.le_of_ble_eq_true rfl, Nat.le_of_ble_eq_true rfl⟩ ⟨Nat.le_of_ble_eq_true rfl, Nat.le_of_ble_eq_true rfl⟩ ?_
    refine jx_astore_nN k dK_replay_5 (Nat.le_of_ble_eq_true rfl) rfl (L' := [_, _, _, _, _]) rfl ?_
    refine jx_aload_nN k dK_replay_6 rfl ?_
    refine jx_ifnonnullN k dK_replay_7 ?_
    refine jx_iconst k dK_replay_10 (v := (-1)) (by decide) ?_
    exact jx_iret k dK_replay_11 (Nat.le_refl _) (Nat.le_refl _) ⟨rfl, rfl, rfl⟩
set_option maxRecDepth 100000 in
set_option maxHeartbeats 4000000 in
theorem k_replay1 (l : Launch) (E : jx_E) (b : Nat) (G : jx_H) (sz : Nat) (x : Nat) (uw : Nat) (fo : Option Nat) (ca : Nat) (co : Int32) (lo : Nat) (lc : Int32) (kn : Option Nat) (on cut : Int32) (u f g fl : Nat → Int32) (h : Nat → Nat → Option Nat) (sp : Nat → Nat → Int32) (β : Nat → bd_T) (ρ : Nat → Nat → Int32) (D P : Nat → Prop) (hC : Cl E x G sz uw fo ca co lo lc kn on cut u f g fl h sp β ρ D P) (j : Nat) (hj3 : j < 3) (T : Nat) (hT9 : T < 10000) (z : Nat) (hr : ka_r h sp (d_tm β) j (nI T) = some z) : jx_ct l E b yK_replay cK_replay 5 (some .int) 3 2 9 [.ref x, .int (nI j), .int (nI T)] G sz (fun v G' sz' => v = some (.int (nI (d_sn β z))) ∧ sz' = sz + 2 ∧ Cl E x G' (sz + 2) uw fo ca co z (nI (sC j)) (so_p (h j) (d_tm β) (sp j) (sN j) (d_po β) (d_ba β) T sz) on cut u f g fl h sp β (va_up ρ sz (fun _ => 0)) D (fun p => P p ∨ p = sz) ∧ fr x G G') := by
  have hC0 := hC
  obtain ⟨⟨hK, hW, ho, hF, hU, hA, hL, hR, hSt⟩, hHD, hUw, hDb, hPp, hj, hdy, hbd, hsz⟩ := hC
  have hS := hSt j hj3
  obtain ⟨pz, hpz, hhz⟩ := so_r_D hr
  have hDz : D z := hHD j hj3 pz hpz z hhz
  have hT : ∀ z, D z → bn_k G z (d_tm β z) := fun z hz => cB_k (hDb z hz)
  have hca := (hdy.2.2 ca hj.1).1
  unfold dy at hca
  obtain ⟨hC1, hf1⟩ := Cl_k (fo' := fo) (co' := co) (lo' := z) (lc' := nI (sC j)) (kn' := kn) hC0 hDz hj.2.2.1 hj.2.2.2.1
  obtain ⟨hC2, hf2⟩ := Cl_newP (r := fun _ => 0) hC1
  obtain ⟨hC3, hf3⟩ := Cl_k (fo' := fo) (co' := co) (lo' := z) (lc' := nI (sC j)) (kn' := so_p (h j) (d_tm β) (sp j) (sN j) (d_po β) (d_ba β) T sz) hC2 hDz hj.2.2.1 (fun p hp => so_ps_P (Q := fun p => (P p ∨ p = sz) ∧ p ≠ ca) (fun q z2 hq hz2 p hp => ⟨.inl (hj.2.2.2.2 z2 (.inl (hHD j hj3 q hq z2 hz2)) p hp).1, (hj.2.2.2.2 z2 (.inl (hHD j hj3 q hq z2 hz2)) p hp).2⟩) _ _ (fun p hp => by
      have e : some sz = some p := hp
      rw [← Option.some.inj e]
      exact ⟨.inr rfl, by omega⟩) p hp)
  have hS1 := hC1.1.2.2.2.2.2.2.2.2 j hj3
  have hT1 : ∀ y, D y → bn_k (va_up G x (kp_o x uw fo ca co z (nI (sC j)) kn)) y (d_tm β y) := fun y hy => cB_k (hC1.2.2.2.1 y hy)
  refine jx_met (by decide) (Nat.le_of_ble_eq_true rfl) (L0 := [_, _, _, _, _]) rfl (fun X k => ?_)
  refine jx_aload_n k dK_replay_0 rfl ?_
  refine jx_iload_n k dK_replay_1 rfl ?_
  refine jx_callVP k mK_146 (k_storeAt1 _ _ _ _ _ x uw fo ca co lo lc kn on cut u f g fl h sp β ρ D P hC0 j hj3) hK rfl dK_replay_2 rfl rfl rfl (Nat.le_of_ble_eq_true rfl) ⟨Nat.le_of_ble_eq_true rfl, Nat.le_of_ble_eq_true rfl⟩ ⟨Nat.le_of_ble_eq_true rfl, Nat.le_of_ble_eq_true rfl⟩ ?_
  refine jx_astore_n k dK_replay_5 (Nat.le_of_ble_eq_true rfl) rfl (L' := [_, _, _, _, _]) rfl ?_
  refine jx_aload_n k dK_replay_6 rfl ?_
  refine jx_ifnonnull k dK_replay_7 (tgt := 12) rfl ?_
  refine jx_aload_n k dK_replay_12 rfl ?_
  refine jx_iload_n k dK_replay_13 rfl ?_
  refine jx_callVP k mK_159 (k_readable _ _ _ _ _ (sA x j) (sN j) _ _ _ (h j) (d_tm β) D hS.1 hS.2.1 (sN_le j) (hHD j hj3) hT (sp j) hS.2.2 (nI T)) hS.1 rfl dK_replay_14 rfl rfl rfl (Nat.le_of_ble_eq_true rfl) ⟨Nat.le_of_ble_eq_true rfl, Nat.le_of_ble_eq_true rfl⟩ ⟨Nat.le_of_ble_eq_true rfl, Nat.le_of_ble_eq_true rfl⟩ ?_
  rw [show so_r (h j) (d_tm β) (sp j) (sN j) (nI T) = some z from hr]
  refine jx_astore k dK_replay_17 (Nat.le_of_ble_eq_true rfl) rfl (L' := [_, _, _, _, _]) rfl ?_
  refine jx_aload k dK_replay_19 rfl ?_
  refine jx_ifnonnull k dK_replay_21 (tgt := 26) rfl ?_
  refine jx_aload_n k dK_replay_26 rfl ?_
  refine jx_aload k dK_replay_27 rfl ?_
  refine jx_put k fK_55 dK_replay_29 hK rfl rfl (Nat.le_of_ble_eq_true rfl) (fs' := [_, _, _, _, _, _, _, _, _, _]) rfl ?_
  refine jx_aload_n k dK_replay_32 rfl ?_
  refine jx_aload_n k dK_replay_33 rfl ?_
  refine jx_get k fK_163 dK_replay_34 ((va_up_ne _ _ (by unfold sA; omega)).trans hS.1) rfl ?_
  refine jx_put k fK_58 dK_replay_37 (va_up_self _ _ _) rfl rfl (Nat.le_of_ble_eq_true rfl) (fs' := [_, _, _, _, _, _, _, _, _, _]) rfl ?_
  rw [va_uu]
  refine jx_aload_n k dK_replay_40 rfl ?_
  refine jx_aload_n k dK_replay_41 rfl ?_
  refine jx_iload_n k dK_replay_42 rfl ?_
  refine jx_callV1 k mK_166 (k_knownAt _ _ _ _ _ (sA x j) (sN j) _ _ _ (h j) (d_tm β) D hS1.1 hS1.2.1 (sN_le j) (hHD j hj3) hT1 (sp j) hS1.2.2 (d_po β) (d_ba β) (fun z hz => ⟨_, _, _, _, (hC1.2.2.2.1 z hz).1⟩) (Cl_bd _ _ _ _ _ _ _ _ _ _ _ _ _ _ _ _ _ _ _ hC1) T hT9) hS1.1 rfl dK_replay_43 rfl rfl rfl (Nat.le_of_ble_eq_true rfl) ⟨Nat.le_of_ble_eq_true rfl, Nat.le_of_ble_eq_true rfl⟩ ⟨Nat.le_of_ble_eq_true rfl, Nat.le_of_ble_eq_true rfl⟩ ?_
  generalize so_p (h j) (d_tm β) (sp j) (sN j) (d_po β) (d_ba β) T sz = kn' at hC3 hf3
  cases kn' with
  | none =>
    refine jx_put k fK_61 dK_replay_46 hC2.1.1 rfl rfl (Nat.le_of_ble_eq_true rfl) (fs' := [_, _, _, _, _, _, _, _, _, _]) rfl ?_
    refine jx_aload k dK_replay_49 rfl ?_
    refine jx_get k fK_170 dK_replay_51 (hC3.2.2.2.1 z hDz).1 rfl ?_
    exact jx_iret k dK_replay_54 (Nat.le_refl _) (Nat.le_refl _) ⟨rfl, rfl, hC3, fr_tr hf1 (fr_tr hf2 hf3)⟩
  | some p =>
    refine jx_put k fK_61 dK_replay_46 hC2.1.1 rfl rfl (Nat.le_of_ble_eq_true rfl) (fs' := [_, _, _, _, _, _, _, _, _, _]) rfl ?_
    refine jx_aload k dK_replay_49 rfl ?_
    refine jx_get k fK_170 dK_replay_51 (hC3.2.2.2.1 z hDz).1 rfl ?_
    exact jx_iret k dK_replay_54 (Nat.le_refl _) (Nat.le_refl _) ⟨rfl, rfl, hC3, fr_tr hf1 (fr_tr hf2 hf3)⟩
