theorem Cl_bd {E : jx_E} {x : Nat} {G : jx_H} {sz : Nat} (uw : Nat) (fo : Option Nat) (ca : Nat) (co : Int32) (lo : Nat) (lc : Int32) (kn : Option Nat) (on cut : Int32) (u f g fl : Nat → Int32) (h : Nat → Nat → Option Nat) (sp : Nat → Nat → Int32) (β : Nat → bd_T) (ρ : Nat → Nat → Int32) (D P : Nat → Prop) (hC : Cl E x G sz uw fo ca co lo lc kn on cut u f g fl h sp β ρ D P) : jx_bd G sz := hC.2.2.2.2.2.2.2.1
/- the canvas -/
theorem Cl_ca {E : jx_E} {x : Nat} {G : jx_H} {sz : Nat} {uw : Nat} {fo : Option Nat} {ca : Nat} {co : Int32} {lo : Nat} {lc : Int32} {kn : Option Nat} {on cut : Int32} {u f g fl : Nat → Int32} {h : Nat → Nat → Option Nat} {sp : Nat → Nat → Int32} {β : Nat → bd_T} {ρ : Nat → Nat → Int32} {D P : Nat → Prop} {r : Nat → Int32} (hC : Cl E x G sz uw fo ca co lo lc kn on cut u f g fl h sp β ρ D P) : Cl E x (va_up G (ca + 1) (some (ja_i E 8 r))) sz uw fo ca co lo lc kn on cut u f g fl h sp β (va_up ρ ca r) D P ∧ fr x G (va_up G (ca + 1) (some (ja_i E 8 r))) := by
  obtain ⟨hC0, hC⟩ := hC
  obtain ⟨hHD, hUw, hDb, hPp, hj, hdy, hbd, hsz⟩ := hC
  have hc := (hdy.2.2 ca hj.1)
  have hd := hc.1
  unfold dy at hd
  have ne : ∀ q, q ≠ ca + 1 → va_up G (ca + 1) (some (ja_i E 8 r)) q = G q := fun q hq => va_up_ne _ _ hq
  refine ⟨⟨Cst_eq hC0 (fun q h1 h2 => ne q (by omega)), hHD, cB_eq hUw rfl (fun q h1 h2 => ne q (by have := hc.2.1; unfold ap at this; omega)), fun z hz => cB_eq (hDb z hz) rfl (fun q h1 h2 => ne q (by have := (hdy.2.1 z hz).2.2; unfold ap at this; omega)), fun p hp => ?_, hj, hdy, bd_up hbd (by omega), hsz⟩, fr_up (by omega)⟩
  by_cases e : p = ca
  · subst e
    refine ⟨(ne _ (by omega)).trans (hPp p hp).1, ?_⟩
    rw [va_up_self, va_up_self]
  · refine cP_eq (hPp p hp) (va_up_ne _ _ e) (fun q h1 h2 => ne q ?_)
    have := (hdy.2.2 p hp).2.2.resolve_left e
    unfold ap at this
    omega
abbrev ka_pa (i c : Int32) : Prop := (0 ≤ i ∧ i < 8) ∧ (0 ≤ c ∧ c < 65536)
set_option maxRecDepth 100000 in
theorem k_paint (l : Launch) (E : jx_E) (b : Nat) (G : jx_H) (sz : Nat) (x : Nat) (uw : Nat) (fo : Option Nat) (ca : Nat) (co : Int32) (lo : Nat) (lc : Int32) (kn : Option Nat) (on cut : Int32) (u f g fl : Nat → Int32) (h : Nat → Nat → Option Nat) (sp : Nat → Nat → Int32) (β : Nat → bd_T) (ρ : Nat → Nat → Int32) (D P : Nat → Prop) (hC : Cl E x G sz uw fo ca co lo lc kn on cut u f g fl h sp β ρ D P) (h1 : on = 1) (i c : Int32) : jx_ct l E b yK_paint cK_paint 3 (some .boolean) 2 0 0 [.ref x, .int i, .int c] G sz (fun v G' sz' => v = some (.int (jb_z (ka_pa i c))) ∧ sz' = sz ∧ Cl E x G' sz uw fo ca co lo lc kn on cut u f g fl h sp β (if ka_pa i c then va_up ρ ca (upd (ρ ca) i.toNatClampNeg c) else ρ) D P ∧ fr x G G') := by
  have hC0 := hC
  obtain ⟨⟨hK, hW, ho, hF, hU, hA, hL, hR, hSt⟩, hHD, hUw, hDb, hPp, hj, hdy, hbd, hsz⟩ := hC
  have hc := hPp ca hj.1
  refine jx_met (by decide) (Nat.le_of_ble_eq_true rfl) (L0 := [_, _, _]) rfl (fun X k => ?_)
  refine jx_aload_n k dK_paint_0 rfl ?_
  refine jx_callV0 k mK_64 (k_req1 _ _ _ _ _ x uw fo ca co lo lc kn on cut u f g fl h sp β ρ D P hC0 h1) hK rfl dK_paint_1 rfl rfl rfl (Nat.le_of_ble_eq_true rfl) ⟨Nat.le_of_ble_eq_true rfl, Nat.le_of_ble_eq_true rfl⟩ ⟨Nat.le_of_ble_eq_true rfl, Nat.le_of_ble_eq_true rfl⟩ ?_
  refine jx_iload_n k dK_paint_4 rfl ?_
  refine jx_bipush k dK_paint_5 (v := 8) (by decide) ?_
  refine jx_callSP k mK_67 (k_isBelow _ _ _ _ _ i 8) dK_paint_7 rfl rfl rfl (Nat.le_of_ble_eq_true rfl) ⟨Nat.le_of_ble_eq_true rfl, Nat.le_of_ble_eq_true rfl⟩ ⟨Nat.le_of_ble_eq_true rfl, Nat.le_of_ble_eq_true rfl⟩ ?_
  refine jx_if_eq k dK_paint_10 (tgt := 22) rfl (fun h2 => ?_) (fun h2 => ?_)
  · have g2 : ¬ ka_pa i c := fun h => jb_e0.mp h2 h.1
    refine jx_iconst k dK_paint_22 (v := 0) (by decide) ?_
    exact jx_zret k dK_paint_23 rfl (Nat.le_refl _) (Nat.le_refl _) ⟨by rw [jb_f g2], rfl, by rw [if_neg g2]; exact ⟨hC0, fr_rf⟩⟩
  · have g1 := Decidable.byContradiction (fun h => h2 (jb_f h))
    refine jx_iload_n k dK_paint_13 rfl ?_
    refine jx_ldc k jn_476 dK_paint_14 ?_
    refine jx_callSP k mK_67 (k_isBelow _ _ _ _ _ c 65536) dK_paint_16 rfl rfl rfl (Nat.le_of_ble_eq_true rfl) ⟨Nat.le_of_ble_eq_true rfl, Nat.le_of_ble_eq_true rfl⟩ ⟨Nat.le_of_ble_eq_true rfl, Nat.le_of_ble_eq_true rfl⟩ ?_
    refine jx_if_ne k dK_paint_19 (tgt := 24) rfl (fun h3 => ?_) (fun h3 => ?_)
    · have g2 : ka_pa i c := ⟨g1, Decidable.byContradiction (fun h => h3 (jb_f h))⟩
      obtain ⟨j, hj8, rfl⟩ := nI_lift (n := 8) g1.1 g1.2 (by decide)
      have ej : (nI j).toNatClampNeg = j := nI_clamp (by omega)
      refine jx_aload_n k dK_paint_24 rfl ?_
      refine jx_get k fK_47 dK_paint_25 hK rfl ?_
      refine jx_iload_n k dK_paint_28 rfl ?_
      refine jx_iload_n k dK_paint_29 rfl ?_
      refine jx_callV0 k mK_83 (k_setRow _ _ _ _ _ ca j (ρ ca) c hc.1 hc.2 hj8) hc.1 rfl dK_paint_30 rfl rfl rfl (Nat.le_of_ble_eq_true rfl) ⟨Nat.le_of_ble_eq_true rfl, Nat.le_of_ble_eq_true rfl⟩ ⟨Nat.le_of_ble_eq_true rfl, Nat.le_of_ble_eq_true rfl⟩ ?_
      refine jx_iconst k dK_paint_33 (v := 1) (by decide) ?_
      exact jx_zret k dK_paint_34 rfl (Nat.le_refl _) (Nat.le_refl _) ⟨by rw [jb_t g2], rfl, by rw [if_pos g2, ej]; exact Cl_ca hC0⟩
    · have g2 : ¬ ka_pa i c := fun h => jb_e0.mp h3 h.2
      refine jx_iconst k dK_paint_22 (v := 0) (by decide) ?_
      exact jx_zret k dK_paint_23 rfl (Nat.le_refl _) (Nat.le_refl _) ⟨by rw [jb_f g2], rfl, by rw [if_neg g2]; exact ⟨hC0, fr_rf⟩⟩
/- the bundle under way -/
theorem Cl_uw {E : jx_E} {x : Nat} {G G' : jx_H} {sz : Nat} {uw : Nat} {fo : Option Nat} {ca : Nat} {co : Int32} {lo : Nat} {lc : Int32} {kn : Option Nat} {on cut : Int32} {u f g fl : Nat → Int32} {h : Nat → Nat → Option Nat} {sp : Nat → Nat → Int32} {β : Nat → bd_T} {ρ : Nat → Nat → Int32} {D P : Nat → Prop} {d : bd_T} (hC : Cl E x G sz uw fo ca co lo lc kn on cut u f g fl h sp β ρ D P) (he : ∀ q, (q < uw ∨ uw + 5 ≤ q) → G' q = G q) (hB : cB E G' (va_up β uw d) uw) (hp : ∀ p, d.2.2.2.1 = some p → P p ∧ p ≠ ca) : Cl E x G' sz uw fo ca co lo lc kn on cut u f g fl h sp (va_up β uw d) ρ D P ∧ fr x G G' := by
  obtain ⟨hC0, hC⟩ := hC
  obtain ⟨hHD, hUw, hDb, hPp, hj, hdy, hbd, hsz⟩ := hC
  have hd := hdy.1
  unfold dy at hd
  have hz5 : ∀ z, D z → z ≠ uw ∧ (z + 5 ≤ uw ∨ uw + 5 ≤ z) := fun z hz => by
    have := (hdy.2.1 z hz).2.1
    unfold ap at this
    omega
  have eb : ∀ z, D z → va_up β uw d z = β z := fun z hz => va_up_ne _ _ (hz5 z hz).1
  refine ⟨⟨Cst_eq hC0 (fun q h1 h2 => he q (by omega)), hHD, hB, fun z hz => cB_eq (hDb z hz) (eb z hz) (fun q h1 h2 => he q (by have := hz5 z hz; omega)), fun p hp => cP_eq (hPp p hp) rfl (fun q h1 h2 => he q (by have := (hdy.2.2 p hp).2.1; unfold ap at this; omega)), ⟨hj.1, hj.2.1, fun z hz => ?_, hj.2.2.2.1, fun z hz p hp1 => ?_⟩, hdy, fun q hq => (he q (by omega)).trans (hbd q hq), hsz⟩, fun q h1 h2 => he q (by omega)⟩
  · have := hj.2.2.1 z hz
    refine ⟨this.1, ?_⟩
    unfold d_po
    rw [eb z this.1]
    exact this.2
  · unfold d_po at hp1
    by_cases e : z = uw
    · rw [e, va_up_self] at hp1
      exact hp p hp1
    · rw [va_up_ne _ _ e] at hp1
      exact hj.2.2.2.2 z hz p hp1
def bd_sd (d : bd_T) (c q : Nat) (v : Int32) : bd_T := (d.1, d.2.1, va_up (va_up d.2.2.1 1 (upd (d.2.2.1 1) (c * 4 + q) v)) 2 (upd (d.2.2.1 2) c 1), d.2.2.2)
abbrev ka_sd (c q v : Int32) : Prop := ((0 ≤ c ∧ c < 2) ∧ (0 ≤ q ∧ q < 4)) ∧ (0 ≤ v ∧ v < 256)
set_option maxRecDepth 100000 in
set_option maxHeartbeats 4000000 in
theorem k_sound (l : Launch) (E : jx_E) (b : Nat) (G : jx_H) (sz : Nat) (x : Nat) (uw : Nat) (fo : Option Nat) (ca : Nat) (co : Int32) (lo : Nat) (lc : Int32) (kn : Option Nat) (on cut : Int32) (u f g fl : Nat → Int32) (h : Nat → Nat → Option Nat) (sp : Nat → Nat → Int32) (β : Nat → bd_T) (ρ : Nat → Nat → Int32) (D P : Nat → Prop) (hC : Cl E x G sz uw fo ca co lo lc kn on cut u f g fl h sp β ρ D P) (h1 : on = 1) (c q v : Int32) : jx_ct l E b yK_sound cK_sound 4 (some .boolean) 3 0 0 [.ref x, .int c, .int q, .int v] G sz (fun w G' sz' => w = some (.int (jb_z (ka_sd c q v))) ∧ sz' = sz ∧ Cl E x G' sz uw fo ca co lo lc kn on cut u f g fl h sp (if ka_sd c q v then va_up β uw (bd_sd (β uw) c.toNatClampNeg q.toNatClampNeg v) else β) ρ D P ∧ fr x G G') := by
  have hC0 := hC
  obtain ⟨⟨hK, hW, ho, hF, hU, hA, hL, hR, hSt⟩, hHD, hUw, hDb, hPp, hj, hdy, hbd, hsz⟩ := hC
  refine jx_met (by decide) (Nat.le_of_ble_eq_true rfl) (L0 := [_, _, _, _]) rfl (fun X k => ?_)
  refine jx_aload_n k dK_sound_0 rfl ?_
  refine jx_callV0 k mK_64 (k_req1 _ _ _ _ _ x uw fo ca co lo lc kn on cut u f g fl h sp β ρ D P hC0 h1) hK rfl dK_sound_1 rfl rfl rfl (Nat.le_of_ble_eq_true rfl) ⟨Nat.le_of_ble_eq_true rfl, Nat.le_of_ble_eq_true rfl⟩ ⟨Nat.le_of_ble_eq_true rfl, Nat.le_of_ble_eq_true rfl⟩ ?_
  refine jx_iload_n k dK_sound_4 rfl ?_
  refine jx_iload_n k dK_sound_5 rfl ?_
  refine jx_callSP k mK_75 (k_isSoundByte _ _ _ _ _ c q) dK_sound_6 rfl rfl rfl (Nat.le_of_ble_eq_true rfl) ⟨Nat.le_of_ble_eq_true rfl, Nat.le_of_ble_eq_true rfl⟩ ⟨Nat.le_of_ble_eq_true rfl, Nat.le_of_ble_eq_true rfl⟩ ?_
  refine jx_if_eq k dK_sound_9 (tgt := 22) rfl (fun h2 => ?_) (fun h2 => ?_)
  · have g2 : ¬ ka_sd c q v := fun h => jb_e0.mp h2 h.1
    refine jx_iconst k dK_sound_22 (v := 0) (by decide) ?_
    exact jx_zret k dK_sound_23 rfl (Nat.le_refl _) (Nat.le_refl _) ⟨by rw [jb_f g2], rfl, by rw [if_neg g2]; exact ⟨hC0, fr_rf⟩⟩
  · have g1 := Decidable.byContradiction (fun h => h2 (jb_f h))
    refine jx_iload_n k dK_sound_12 rfl ?_
    refine jx_sipush k dK_sound_13 (v := 256) (by decide) ?_
    refine jx_callSP k mK_67 (k_isBelow _ _ _ _ _ v 256) dK_sound_16 rfl rfl rfl (Nat.le_of_ble_eq_true rfl) ⟨Nat.le_of_ble_eq_true rfl, Nat.le_of_ble_eq_true rfl⟩ ⟨Nat.le_of_ble_eq_true rfl, Nat.le_of_ble_eq_true rfl⟩ ?_
    refine jx_if_ne k dK_sound_19 (tgt := 24) rfl (fun h3 => ?_) (fun h3 => ?_)
    · have g2 : ka_sd c q v := ⟨g1, Decidable.byContradiction (fun h => h3 (jb_f h))⟩
      obtain ⟨c, hc, rfl⟩ := nI_lift (n := 2) g1.1.1 g1.1.2 (by decide)
      obtain ⟨q, hq, rfl⟩ := nI_lift (n := 4) g1.2.1 g1.2.2 (by decide)
      have ec : (nI c).toNatClampNeg = c := nI_clamp (by omega)
      have eq : (nI q).toNatClampNeg = q := nI_clamp (by omega)
      refine jx_aload_n k dK_sound_24 rfl ?_
      refine jx_get k fK_37 dK_sound_25 hK rfl ?_
      refine jx_iload_n k dK_sound_28 rfl ?_
      refine jx_iload_n k dK_sound_29 rfl ?_
      refine jx_iload_n k dK_sound_30 rfl ?_
      refine jx_callV0 k mK_78 (k_setSound _ _ _ _ _ uw _ _ _ _ _ _ _ hUw.1 (d_sd β uw) (d_he β uw) hUw.2.2.2.1 hUw.2.2.2.2.1 c q v hc hq) hUw.1 rfl dK_sound_31 rfl rfl rfl (Nat.le_of_ble_eq_true rfl) ⟨Nat.le_of_ble_eq_true rfl, Nat.le_of_ble_eq_true rfl⟩ ⟨Nat.le_of_ble_eq_true rfl, Nat.le_of_ble_eq_true rfl⟩ ?_
      refine jx_iconst k dK_sound_34 (v := 1) (by decide) ?_
      refine jx_zret k dK_sound_35 rfl (Nat.le_refl _) (Nat.le_refl _) ⟨by rw [jb_t g2], rfl, ?_⟩
      rw [if_pos g2, ec, eq]
      refine Cl_uw hC0 (fun p hp => (va_up_ne _ _ (by omega)).trans (va_up_ne _ _ (by omega))) ?_ (fun p hp => hj.2.2.2.2 uw (.inr rfl) p hp)
      unfold cB d_tm d_cs d_ba d_tx d_so d_sd d_he d_po d_sn d_pb d_sb
      rw [va_up_self]
      exact ⟨(va_up_ne _ _ (by omega)).trans ((va_up_ne _ _ (by omega)).trans hUw.1), (va_up_ne _ _ (by omega)).trans ((va_up_ne _ _ (by omega)).trans hUw.2.1), (va_up_ne _ _ (by omega)).trans ((va_up_ne _ _ (by omega)).trans hUw.2.2.1), (va_up_ne _ _ (by omega)).trans (va_up_self _ _ _), va_up_self _ _ _, hUw.2.2.2.2.2⟩
    · have g2 : ¬ ka_sd c q v := fun h => jb_e0.mp h3 h.2
      refine jx_iconst k dK_sound_22 (v := 0) (by decide) ?_
      exact jx_zret k dK_sound_23 rfl (Nat.le_refl _) (Nat.le_refl _) ⟨by rw [jb_f g2], rfl, by rw [if_neg g2]; exact ⟨hC0, fr_rf⟩⟩
def bd_se (d : bd_T) (src : Int32) (y : Int64) : bd_T := (d.1, vp_updL d.2.1 (d.2.2.2.2 0) y, va_up d.2.2.1 0 (upd (d.2.2.1 0) (d.2.2.2.2 0) src), d.2.2.2.1, va_up (va_up d.2.2.2.2 0 (d.2.2.2.2 0 + 1)) 2 (d.2.2.2.2 2 + (2 + ks_n y)))
abbrev ka_se (β : Nat → bd_T) (uw : Nat) (src : Int32) (y : Int64) : Prop := (0 ≤ src ∧ src < 4) ∧ ks_n y ≠ 0 ∧ d_sn β uw < 4
set_option maxRecDepth 100000 in
set_option maxHeartbeats 4000000 in
theorem k_sentence (l : Launch) (E : jx_E) (b : Nat) (G : jx_H) (sz : Nat) (x : Nat) (uw : Nat) (fo : Option Nat) (ca : Nat) (co : Int32) (lo : Nat) (lc : Int32) (kn : Option Nat) (on cut : Int32) (u f g fl : Nat → Int32) (h : Nat → Nat → Option Nat) (sp : Nat → Nat → Int32) (β : Nat → bd_T) (ρ : Nat → Nat → Int32) (D P : Nat → Prop) (hC : Cl E x G sz uw fo ca co lo lc kn on cut u f g fl h sp β ρ D P) (h1 : on = 1) (src : Int32) (y : Int64) : jx_ct l E b yK_sentence cK_sentence 4 (some .int) 2 0 0 [.ref x, .int src, .long y] G sz (fun w G' sz' => w = some (.int (if ka_se β uw src y then nI (d_sn β uw + 1) else -1)) ∧ sz' = sz ∧ Cl E x G' sz uw fo ca co lo lc kn on cut u f g fl h sp (if ka_se β uw src y then va_up β uw (bd_se (β uw) src y) else β) ρ D P ∧ fr x G G') := by
  have hC0 := hC
  obtain ⟨⟨hK, hW, ho, hF, hU, hA, hL, hR, hSt⟩, hHD, hUw, hDb, hPp, hj, hdy, hbd, hsz⟩ := hC
  have h4 := hUw.2.2.2.2.2.1
  refine jx_met (by decide) (Nat.le_of_ble_eq_true rfl) (L0 := [_, _, _, _]) rfl (fun X k => ?_)
  refine jx_aload_n k dK_sentence_0 rfl ?_
  refine jx_callV0 k mK_64 (k_req1 _ _ _ _ _ x uw fo ca co lo lc kn on cut u f g fl h sp β ρ D P hC0 h1) hK rfl dK_sentence_1 rfl rfl rfl (Nat.le_of_ble_eq_true rfl) ⟨Nat.le_of_ble_eq_true rfl, Nat.le_of_ble_eq_true rfl⟩ ⟨Nat.le_of_ble_eq_true rfl, Nat.le_of_ble_eq_true rfl⟩ ?_
  refine jx_iload_n k dK_sentence_4 rfl ?_
  refine jx_iconst k dK_sentence_5 (v := 4) (by decide) ?_
  refine jx_callSP k mK_67 (k_isBelow _ _ _ _ _ src 4) dK_sentence_6 rfl rfl rfl (Nat.le_of_ble_eq_true rfl) ⟨Nat.le_of_ble_eq_true rfl, Nat.le_of_ble_eq_true rfl⟩ ⟨Nat.le_of_ble_eq_true rfl, Nat.le_of_ble_eq_true rfl⟩ ?_
  refine jx_if_eq k dK_sentence_9 (tgt := 24) rfl (fun h2 => ?_) (fun h2 => ?_)
  · have g2 : ¬ ka_se β uw src y := fun h => jb_e0.mp h2 h.1
    refine jx_iconst k dK_sentence_24 (v := (-1)) (by decide) ?_
    exact jx_iret k dK_sentence_25 (Nat.le_refl _) (Nat.le_refl _) ⟨by rw [if_neg g2], rfl, by rw [if_neg g2]; exact ⟨hC0, fr_rf⟩⟩
  · have g1 := Decidable.byContradiction (fun h => h2 (jb_f h))
    by_cases g2 : ka_se β uw src y
    · refine jx_aload_n k dK_sentence_12 rfl ?_
      refine jx_get k fK_37 dK_sentence_13 hK rfl ?_
      refine jx_iload_n k dK_sentence_16 rfl ?_
      refine jx_lload_n k dK_sentence_17 rfl ?_
      refine jx_callV1 k mK_71 (k_addS1 _ _ _ _ _ uw (d_sn β uw) _ _ _ _ _ _ hUw.1 (d_tx β uw) (d_so β uw) hUw.2.1 hUw.2.2.1 src y g2.2.2 g2.2.1) hUw.1 rfl dK_sentence_18 rfl rfl rfl (Nat.le_of_ble_eq_true rfl) ⟨Nat.le_of_ble_eq_true rfl, Nat.le_of_ble_eq_true rfl⟩ ⟨Nat.le_of_ble_eq_true rfl, Nat.le_of_ble_eq_true rfl⟩ ?_
      refine jx_goto k dK_sentence_21 (tgt := 25) rfl ?_
      refine jx_iret k dK_sentence_25 (Nat.le_refl _) (Nat.le_refl _) ⟨by rw [if_pos g2], rfl, ?_⟩
      rw [if_pos g2]
      refine Cl_uw hC0 (fun p hp => (va_up_ne _ _ (by omega)).trans ((va_up_ne _ _ (by omega)).trans (va_up_ne _ _ (by omega)))) ?_ (fun p hp => hj.2.2.2.2 uw (.inr rfl) p hp)
      unfold cB d_tm d_cs d_ba d_tx d_so d_sd d_he d_po d_sn d_pb d_sb
      rw [show va_up β uw (bd_se (β uw) src y) uw = bd_se (β uw) src y from va_up_self _ _ _]
      refine ⟨?_, (va_up_ne _ _ (by omega)).trans (va_up_self _ _ _), (va_up_ne _ _ (by omega)).trans ((va_up_ne _ _ (by omega)).trans (va_up_self _ _ _)), (va_up_ne _ _ (by omega)).trans ((va_up_ne _ _ (by omega)).trans ((va_up_ne _ _ (by omega)).trans hUw.2.2.2.1)), (va_up_ne _ _ (by omega)).trans ((va_up_ne _ _ (by omega)).trans ((va_up_ne _ _ (by omega)).trans hUw.2.2.2.2.1)), ?_, hUw.2.2.2.2.2.2.1, ?_⟩
      · rw [va_up_self, nI_add]
        rfl
      · show d_sn β uw + 1 ≤ 4
        have := g2.2.2
        omega
      · show d_sb β uw + (2 + ks_n y) ≤ 10 * (d_sn β uw + 1)
        have := ks_n_le y
        have := hUw.2.2.2.2.2.2.2
        omega
    · have g3 : ks_n y = 0 ∨ d_sn β uw = 4 := by
        by_cases e : ks_n y = 0
        · exact .inl e
        · by_cases e2 : d_sn β uw < 4
          · exact absurd ⟨g1, e, e2⟩ g2
          · exact .inr (by omega)
      refine jx_aload_n k dK_sentence_12 rfl ?_
      refine jx_get k fK_37 dK_sentence_13 hK rfl ?_
      refine jx_iload_n k dK_sentence_16 rfl ?_
      refine jx_lload_n k dK_sentence_17 rfl ?_
      refine jx_callVP k mK_71 (k_addS0 _ _ _ _ _ uw (d_sn β uw) _ _ _ _ _ _ hUw.1 src y h4 g3) hUw.1 rfl dK_sentence_18 rfl rfl rfl (Nat.le_of_ble_eq_true rfl) ⟨Nat.le_of_ble_eq_true rfl, Nat.le_of_ble_eq_true rfl⟩ ⟨Nat.le_of_ble_eq_true rfl, Nat.le_of_ble_eq_true rfl⟩ ?_
      refine jx_goto k dK_sentence_21 (tgt := 25) rfl ?_
      exact jx_iret k dK_sentence_25 (Nat.le_refl _) (Nat.le_refl _) ⟨by rw [if_neg g2], rfl, by rw [if_neg g2]; exact ⟨hC0, fr_rf⟩⟩
