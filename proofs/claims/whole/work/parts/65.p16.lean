/-! Pure rows: more calls. -/
section Calls2
variable {uw : Nat} {fo : Option Nat} {ca : Nat} {co : Int32} {lo : Nat} {lc : Int32} {kn : Option Nat} {on cut : Int32} {u f g fl : Nat → Int32} {h : Nat → Nat → Option Nat} {sp : Nat → Nat → Int32} {β : Nat → bd_T} {ρ : Nat → Nat → Int32} {D P : Nat → Prop} {σ : rs_S} {sz : Nat}
theorem R_show0 (hR : RR uw fo ca co lo lc kn on cut u f g fl h sp β ρ σ) (h1 : on = 1) (hp : d_po β uw ≠ none) : (0 : Int32) = (ms_show σ).1 ∧ RR uw fo ca co lo lc kn on cut u f g fl h sp β ρ (ms_show σ).2 ∧ (ms_show σ).2.1 0 = 0 := by
  have e : ¬ σ.2.1 11 70 = 0 := by rw [hR.2.2.1.2.2.2.2.1, if_neg hp]; decide
  rw [ms_show, if_neg (R_n1 hR h1), if_neg e]
  exact ⟨rfl, RR_0 0 hR, rfl⟩
theorem R_show1 (hC : Cp sz uw fo ca lo kn on h β D P) (hR : RR uw fo ca co lo lc kn on cut u f g fl h sp β ρ σ) (h1 : on = 1) (hp : d_po β uw = none) : (1 : Int32) = (ms_show σ).1 ∧ RR uw fo ca co lo lc kn on cut u f g fl h sp (va_up β uw (bd_po (β uw) (some sz))) (va_up ρ sz (va_cpy (ρ ca) (fun _ => 0) 0 0 8)) (ms_show σ).2 ∧ (ms_show σ).2.1 0 = 0 := by
  have e : σ.2.1 11 70 = 0 := by rw [hR.2.2.1.2.2.2.2.1, if_pos hp]
  rw [ms_show, if_neg (R_n1 hR h1), if_pos e]
  generalize hτ : rs_a (rs_a (rs_f σ 0 0) 11 (upd (σ.2.1 11) 70 1)) 13 (ms_rows (σ.2.1 13) (σ.2.1 15) 560) = τ
  have e13 : ∀ j, τ.2.1 13 j = if 560 ≤ j ∧ j < 560 + 8 then σ.2.1 15 (j - 560) else σ.2.1 13 j := fun j => by rw [← hτ, rs_av, ms_rows, fo_up]
  have e11 : τ.2.1 11 = upd (σ.2.1 11) 70 1 := by rw [← hτ, rs_an _ _ (by decide), rs_av]
  have eK : ∀ k, k ≠ 13 → k ≠ 11 → τ.2.1 k = σ.2.1 k := fun k k1 k2 => by rw [← hτ, rs_an _ _ k1, rs_an _ _ k2]
  have eX : τ.2.2 = σ.2.2 := by rw [← hτ]
  have e1 : ∀ j, j ≠ 0 → τ.1 j = σ.1 j := fun j hj => by rw [← hτ]; exact va_up_ne _ _ hj
  have e0 : τ.1 0 = 0 := by rw [← hτ]; rfl
  refine ⟨rfl, ?_, e0⟩
  have pne : ∀ p, P p → va_up ρ sz (va_cpy (ρ ca) (fun _ => 0) 0 0 8) p = ρ p := fun p hp => va_up_ne _ _ (by have := hC.2.2.2.2.2.2.2.1 p hp; omega)
  have zs : zS σ τ := ⟨fun k k1 k2 => eK k (by omega) (by omega), fun k b hb hk => by
    by_cases x : k = 11
    · rw [x, e11, pk_un (by omega)]
    · rw [eK k (by omega) x], fun j hj => ⟨by rw [eK 10 (by decide) (by decide)], by rw [e13, if_neg (fun x => by omega)]⟩, fun j hj => ⟨by rw [eK 7 (by decide) (by decide)], by rw [eX]⟩⟩
  have zf : zF σ τ := ⟨e1 4 (by decide), eK 16 (by decide) (by decide)⟩
  have zl : zL σ τ := ⟨e1 5 (by decide), e1 6 (by decide), by rw [eK 6 (by decide) (by decide)], by rw [eK 14 (by decide) (by decide)], fun k _ => by rw [eK 10 (by decide) (by decide)], fun q _ => ⟨by rw [eK 7 (by decide) (by decide)], by rw [eX]⟩, eK 20 (by decide) (by decide)⟩
  obtain ⟨⟨A, r1⟩, r2, r3⟩ := RR_b (β' := va_up β uw (bd_po (β uw) (some sz))) (ρ' := va_up ρ sz (va_cpy (ρ ca) (fun _ => 0) 0 0 8)) hC hR (fun z hz => D_ne hC hz _) (fun p hp _ => pne p hp)
  obtain ⟨_, a2, a3, a4, a5, a6, a7⟩ := hR
  have eB : va_up β uw (bd_po (β uw) (some sz)) uw = bd_po (β uw) (some sz) := va_up_self _ _ _
  have dt : d_tm (va_up β uw (bd_po (β uw) (some sz))) uw = d_tm β uw := by unfold d_tm; rw [eB]; rfl
  refine ⟨⟨A, zS_R zs r1⟩, zB zs (e1 1 (by decide)) a2, ?_, zF_F zf r2, ?_, ?_, zL_L zl r3⟩
  · obtain ⟨b1, b2, b3, b4, b5, b6, b7, b8, b9, b10⟩ := a3
    have ds : d_sn (va_up β uw (bd_po (β uw) (some sz))) uw = d_sn β uw := by unfold d_sn; rw [eB]; rfl
    have do_ : d_so (va_up β uw (bd_po (β uw) (some sz))) uw = d_so β uw := by unfold d_so; rw [eB]; rfl
    have dx : d_tx (va_up β uw (bd_po (β uw) (some sz))) uw = d_tx β uw := by unfold d_tx; rw [eB]; rfl
    have dd : d_sd (va_up β uw (bd_po (β uw) (some sz))) uw = d_sd β uw := by unfold d_sd; rw [eB]; rfl
    have dh : d_he (va_up β uw (bd_po (β uw) (some sz))) uw = d_he β uw := by unfold d_he; rw [eB]; rfl
    have dp : d_po (va_up β uw (bd_po (β uw) (some sz))) uw = some sz := by unfold d_po; rw [eB]; rfl
    have db : d_ba (va_up β uw (bd_po (β uw) (some sz))) uw = d_ba β uw := by unfold d_ba; rw [eB]; rfl
    have dsb : d_sb (va_up β uw (bd_po (β uw) (some sz))) uw = d_sb β uw := by unfold d_sb; rw [eB]; rfl
    unfold gH
    rw [ds, do_, dx, dd, dh, dp, db, dsb, e11, eX, eK 6 (by decide) (by decide), eK 7 (by decide) (by decide), eK 10 (by decide) (by decide), eK 9 (by decide) (by decide), eK 14 (by decide) (by decide)]
    refine ⟨b1, b2, b3, b4, ?_, fun pa hpa r hr => ?_, b7, b8, b9, b10⟩
    · rw [pk_us]; exact (if_neg (fun x => by cases x)).symm
    · cases hpa
      rw [e13, if_pos ⟨by omega, by omega⟩, va_up_self, show 560 + r - 560 = r by omega, a6.2.2.2.2.2.2.2.2.2 r hr]
      show _ = if 0 ≤ r ∧ r < 0 + 8 then ρ ca (0 + (r - 0)) else 0
      rw [if_pos ⟨by omega, by omega⟩, Nat.zero_add, Nat.sub_zero]
  · obtain ⟨w1, w2, w3⟩ := a5
    exact ⟨by rw [eK 9 (by decide) (by decide)]; exact w1, by rw [e11]; exact w9_u w2 (.inr rfl), by rw [eK 6 (by decide) (by decide)]; exact w3⟩
  · unfold gNu at a6 ⊢
    rw [dt, e1 1 (by decide), e1 2 (by decide), e1 3 (by decide), eK 1 (by decide) (by decide), eK 17 (by decide) (by decide), eK 18 (by decide) (by decide), eK 19 (by decide) (by decide), eK 15 (by decide) (by decide), pne ca hC.2.1]
    exact a6
theorem R_contact (hR : RR uw fo ca co lo lc kn on cut u f g fl h sp β ρ σ) (h1 : on = 1) (i z : Int32) : jb_z (0 ≤ i ∧ i < 16) = (ms_contact σ i z).1 ∧ RR uw fo ca (ka_ct co i z) lo lc kn on cut u f g fl h sp β ρ (ms_contact σ i z).2 ∧ (ms_contact σ i z).2.1 0 = 0 := by
  rw [ms_contact, if_neg (R_n1 hR h1), ka_ct]
  by_cases hk : 0 ≤ i ∧ i < 16
  · rw [jb_t hk, if_pos hk, if_pos hk]
    have eco := hR.2.2.1.2.2.2.2.2.2.1
    generalize hv : (if z = 0 then σ.2.1 14 70 &&& (((1 : Int32) <<< (i &&& 31)) ^^^ (-1)) else σ.2.1 14 70 ||| ((1 : Int32) <<< (i &&& 31))) = v
    rw [eco] at hv
    rw [hv]
    generalize hτ : rs_a (rs_f σ 0 0) 14 (upd (σ.2.1 14) 70 v) = τ
    have e14 : τ.2.1 14 = upd (σ.2.1 14) 70 v := by rw [← hτ, rs_av]
    have eK : ∀ k, k ≠ 14 → τ.2.1 k = σ.2.1 k := fun k k1 => by rw [← hτ, rs_an _ _ k1]
    have eX : τ.2.2 = σ.2.2 := by rw [← hτ]
    have e1 : ∀ j, j ≠ 0 → τ.1 j = σ.1 j := fun j hj => by rw [← hτ]; exact va_up_ne _ _ hj
    have e0 : τ.1 0 = 0 := by rw [← hτ]; rfl
    refine ⟨rfl, ?_, e0⟩
    have zs : zS σ τ := ⟨fun k k1 k2 => eK k (by omega), fun k b hb hk => by
      by_cases x : k = 14
      · rw [x, e14, pk_un (by omega)]
      · rw [eK k x], fun j hj => ⟨by rw [eK 10 (by decide)], by rw [eK 13 (by decide)]⟩, fun j hj => ⟨by rw [eK 7 (by decide)], by rw [eX]⟩⟩
    have zf : zF σ τ := ⟨e1 4 (by decide), eK 16 (by decide)⟩
    have zn : zN σ τ := ⟨fun j j1 _ => e1 j (by omega), eK 1 (by decide), eK 15 (by decide), fun k k1 _ => eK k (by omega)⟩
    have zl : zL σ τ := ⟨e1 5 (by decide), e1 6 (by decide), by rw [eK 6 (by decide)], by rw [e14, pk_un (by decide)], fun k _ => by rw [eK 10 (by decide)], fun q _ => ⟨by rw [eK 7 (by decide)], by rw [eX]⟩, eK 20 (by decide)⟩
    obtain ⟨⟨A, r1⟩, a2, a3, a4, a5, a6, a7⟩ := hR
    refine ⟨⟨A, zS_R zs r1⟩, zB zs (e1 1 (by decide)) a2, ?_, zF_F zf a4, ?_, zN_N zn a6, zL_L zl a7⟩
    · obtain ⟨b1, b2, b3, b4, b5, b6, b7, b8, b9, b10⟩ := a3
      unfold gH
      rw [e14, eX, eK 6 (by decide), eK 7 (by decide), eK 10 (by decide), eK 9 (by decide), eK 11 (by decide), eK 13 (by decide)]
      exact ⟨b1, b2, b3, b4, b5, b6, pk_us, b8, b9, b10⟩
    · obtain ⟨w1, w2, w3⟩ := a5
      exact ⟨by rw [eK 9 (by decide)]; exact w1, by rw [eK 11 (by decide)]; exact w2, by rw [eK 6 (by decide)]; exact w3⟩
  · rw [jb_f hk, if_neg hk, if_neg hk]
    exact ⟨rfl, RR_0 0 hR, rfl⟩
/- numbers and the freezes alone: the other zones stay -/
theorem RR_n {τ : rs_S} {on' cut' : Int32} {u' f' g' fl' : Nat → Int32} (hR : RR uw fo ca co lo lc kn on cut u f g fl h sp β ρ σ) (eK : ∀ k, 1 < k → k < 17 → τ.2.1 k = σ.2.1 k) (e20 : τ.2.1 20 = σ.2.1 20) (eX : τ.2.2 = σ.2.2) (e1 : ∀ j, j = 1 ∨ j = 4 ∨ j = 5 ∨ j = 6 → τ.1 j = σ.1 j) (e2 : τ.1 2 = on') (e3 : τ.1 3 = cut') (h3 : cut' = -1 ∨ 0 ≤ cut') (n1 : ∀ i, i < 3 → τ.2.1 1 i = fl' i) (n2 : ∀ i, i < 3 → τ.2.1 17 i = u' i) (n3 : ∀ i, i < 3 → τ.2.1 18 i = f' i) (n4 : ∀ i, i < 3 → τ.2.1 19 i = g' i) : RR uw fo ca co lo lc kn on' cut' u' f' g' fl' h sp β ρ τ := by
  have zs : zS σ τ := ⟨fun k k1 k2 => eK k k1 (by omega), fun k b hb hk => by rw [eK k (by omega) (by omega)], fun j hj => ⟨by rw [eK 10 (by decide) (by decide)], by rw [eK 13 (by decide) (by decide)]⟩, fun j hj => ⟨by rw [eK 7 (by decide) (by decide)], by rw [eX]⟩⟩
  have zh : zH σ τ := ⟨by rw [eK 6 (by decide) (by decide)], by rw [eK 11 (by decide) (by decide)], by rw [eK 14 (by decide) (by decide)], fun k _ => ⟨by rw [eK 10 (by decide) (by decide)], by rw [eK 13 (by decide) (by decide)]⟩, fun q _ => ⟨by rw [eK 7 (by decide) (by decide)], by rw [eX]⟩, fun c _ => by rw [eK 9 (by decide) (by decide)]⟩
  have zf : zF σ τ := ⟨e1 4 (by omega), eK 16 (by decide) (by decide)⟩
  have zl : zL σ τ := ⟨e1 5 (by omega), e1 6 (by omega), by rw [eK 6 (by decide) (by decide)], by rw [eK 14 (by decide) (by decide)], fun k _ => by rw [eK 10 (by decide) (by decide)], fun q _ => ⟨by rw [eK 7 (by decide) (by decide)], by rw [eX]⟩, e20⟩
  obtain ⟨⟨A, r1⟩, a2, a3, a4, a5, a6, a7⟩ := hR
  refine ⟨⟨A, zS_R zs r1⟩, zB zs (e1 1 (by omega)) a2, zH_H zh a3, zF_F zf a4, ?_, ?_, zL_L zl a7⟩
  · unfold gW1
    rw [eK 9 (by decide) (by decide), eK 11 (by decide) (by decide), eK 6 (by decide) (by decide)]
    exact a5
  · unfold gNu at a6 ⊢
    rw [e1 1 (by omega), eK 15 (by decide) (by decide)]
    exact ⟨a6.1, a6.2.1, e2, e3, h3, n1, n2, n3, n4, a6.2.2.2.2.2.2.2.2.2⟩
theorem R_cut (hR : RR uw fo ca co lo lc kn on cut u f g fl h sp β ρ σ) (n : Int32) : jb_z (on ≠ 0 ∧ 0 ≤ n ∧ n < 101) = (ms_cutAfter σ n).1 ∧ RR uw fo ca co lo lc kn on (if on ≠ 0 ∧ 0 ≤ n ∧ n < 101 then n else cut) u f g fl h sp β ρ (ms_cutAfter σ n).2 := by
  have eo := R_on hR
  have hl : n < 101 ↔ n ≤ 100 := by
    rw [Int32.lt_iff_toInt_lt, Int32.le_iff_toInt_le, show (101 : Int32).toInt = 101 from rfl, show (100 : Int32).toInt = 100 from rfl]
    omega
  rw [ms_cutAfter]
  by_cases hk : on ≠ 0 ∧ 0 ≤ n ∧ n < 101
  · rw [jb_t hk, if_pos hk, if_pos ⟨hk.2.1, hl.mp hk.2.2, by rw [eo]; exact hk.1⟩]
    refine ⟨rfl, ?_⟩
    obtain ⟨c1, c2, c3, c4, c5, c6, c7, c8, c9, c10⟩ := hR.2.2.2.2.2.1
    refine RR_n hR (fun _ _ _ => rfl) rfl rfl (fun j hj => ?_) ?_ rfl (.inr hk.2.1) c6 c7 c8 c9
    · show va_up (va_up σ.1 0 0) 3 n j = σ.1 j
      rw [va_up_ne _ _ (by omega), va_up_ne _ _ (by omega)]
    · show va_up (va_up σ.1 0 0) 3 n 2 = on
      rw [va_up_ne _ _ (by decide), va_up_ne _ _ (by decide)]; exact c3
  · rw [jb_f hk, if_neg hk, if_neg (fun e => hk ⟨by rw [← eo]; exact e.2.2, e.1, hl.mpr e.2.1⟩)]
    exact ⟨rfl, RR_0 0 hR⟩
theorem R_start (hC : Cp sz uw fo ca lo kn on h β D P) (hR : RR uw fo ca co lo lc kn on cut u f g fl h sp β ρ σ) : jb_z (on = 0) = (ms_start σ).1 ∧ RR uw fo ca co lo lc kn 1 cut u f g fl h sp β ρ (ms_start σ).2 := by
  have eo := R_on hR
  rw [ms_start]
  by_cases hk : on = 0
  · rw [jb_t hk, if_pos (eo.trans hk)]
    refine ⟨rfl, ?_⟩
    obtain ⟨c1, c2, c3, c4, c5, c6, c7, c8, c9, c10⟩ := hR.2.2.2.2.2.1
    refine RR_n hR (fun _ _ _ => rfl) rfl rfl (fun j hj => ?_) rfl ?_ c5 c6 c7 c8 c9
    · show va_up (va_up σ.1 0 0) 2 1 j = σ.1 j
      rw [va_up_ne _ _ (by omega), va_up_ne _ _ (by omega)]
    · show va_up (va_up σ.1 0 0) 2 1 3 = cut
      rw [va_up_ne _ _ (by decide), va_up_ne _ _ (by decide)]; exact c4
  · have h1 : on = 1 := by
      rcases hC.2.2.2.2.2.2.2.2 with a | a
      · exact absurd a hk
      · exact a
    rw [jb_f hk, if_neg (fun e => hk (eo.symm.trans e))]
    subst h1
    exact ⟨rfl, RR_0 0 hR⟩
theorem R_fail (hR : RR uw fo ca co lo lc kn on cut u f g fl h sp β ρ σ) (i z : Int32) : jb_z (ka_fl fl i z) = (ms_fail σ i z).1 ∧ RR uw fo ca co lo lc kn on cut u f g (if ka_fl fl i z then upd fl i.toNatClampNeg z else fl) h sp β ρ (ms_fail σ i z).2 := by
  obtain ⟨c1, c2, c3, c4, c5, c6, c7, c8, c9, c10⟩ := hR.2.2.2.2.2.1
  rw [ms_fail]
  have he : ((0 ≤ i ∧ i < 3) ∧ ¬ σ.2.1 1 i.toNatClampNeg = z) ↔ ka_fl fl i z := by
    constructor
    · rintro ⟨a, b⟩
      obtain ⟨j, j1, rfl⟩ := nI_lift (n := 3) a.1 a.2 (by decide)
      rw [nI_clamp (by omega), c6 j j1] at b
      exact ⟨a, by rw [nI_clamp (by omega)]; exact b⟩
    · rintro ⟨a, b⟩
      obtain ⟨j, j1, rfl⟩ := nI_lift (n := 3) a.1 a.2 (by decide)
      rw [nI_clamp (by omega)] at b
      exact ⟨a, by rw [nI_clamp (by omega), c6 j j1]; exact b⟩
  by_cases hk : ka_fl fl i z
  · rw [jb_t hk, if_pos hk, if_pos (he.mpr hk)]
    refine ⟨rfl, ?_⟩
    obtain ⟨j, j1, rfl⟩ := nI_lift (n := 3) hk.1.1 hk.1.2 (by decide)
    rw [nI_clamp (by omega)]
    refine RR_n hR (fun k k1 _ => rs_an _ _ (by omega)) rfl rfl (fun j hj => ?_) ?_ ?_ c5 (fun q hq => ?_) c7 c8 c9
    · show va_up σ.1 0 0 j = σ.1 j
      rw [va_up_ne _ _ (by omega)]
    · show va_up σ.1 0 0 2 = on
      rw [va_up_ne _ _ (by decide)]; exact c3
    · show va_up σ.1 0 0 3 = cut
      rw [va_up_ne _ _ (by decide)]; exact c4
    · rw [rs_av]
      by_cases e : q = j
      · rw [e, pk_us, pk_us]
      · rw [pk_un e, pk_un e]; exact c6 q hq
  · rw [jb_f hk, if_neg hk, if_neg (fun e => hk (he.mp e))]
    exact ⟨rfl, RR_0 0 hR⟩
theorem R_release (hR : RR uw fo ca co lo lc kn on cut u f g fl h sp β ρ σ) (h1 : on = 1) (i : Int32) : jb_z (ka_us u i) = (ms_release σ i).1 ∧ RR uw fo ca co lo lc kn on cut (if ka_us u i then upd u i.toNatClampNeg 0 else u) f g fl h sp β ρ (ms_release σ i).2 ∧ (ms_release σ i).2.1 0 = 0 := by
  obtain ⟨c1, c2, c3, c4, c5, c6, c7, c8, c9, c10⟩ := hR.2.2.2.2.2.1
  rw [ms_release, if_neg (R_n1 hR h1)]
  have he : ((0 ≤ i ∧ i < 3) ∧ σ.2.1 17 i.toNatClampNeg ≠ 0) ↔ ka_us u i := by
    constructor
    · rintro ⟨a, b⟩
      obtain ⟨j, j1, rfl⟩ := nI_lift (n := 3) a.1 a.2 (by decide)
      rw [nI_clamp (by omega), c7 j j1] at b
      exact ⟨a, by rw [nI_clamp (by omega)]; exact b⟩
    · rintro ⟨a, b⟩
      obtain ⟨j, j1, rfl⟩ := nI_lift (n := 3) a.1 a.2 (by decide)
      rw [nI_clamp (by omega)] at b
      exact ⟨a, by rw [nI_clamp (by omega), c7 j j1]; exact b⟩
  by_cases hk : ka_us u i
  · rw [jb_t hk, if_pos hk, if_pos (he.mpr hk)]
    refine ⟨rfl, ?_, rfl⟩
    obtain ⟨j, j1, rfl⟩ := nI_lift (n := 3) hk.1.1 hk.1.2 (by decide)
    rw [nI_clamp (by omega)]
    refine RR_n hR (fun k _ k1 => rs_an _ _ (by omega)) rfl rfl (fun j hj => ?_) ?_ ?_ c5 c6 (fun q hq => ?_) c8 c9
    · show va_up σ.1 0 0 j = σ.1 j
      rw [va_up_ne _ _ (by omega)]
    · show va_up σ.1 0 0 2 = on
      rw [va_up_ne _ _ (by decide)]; exact c3
    · show va_up σ.1 0 0 3 = cut
      rw [va_up_ne _ _ (by decide)]; exact c4
    · rw [rs_av]
      by_cases e : q = j
      · rw [e, pk_us, pk_us]
      · rw [pk_un e, pk_un e]; exact c7 q hq
  · rw [jb_f hk, if_neg hk, if_neg (fun e => hk (he.mp e))]
    exact ⟨rfl, RR_0 0 hR, rfl⟩
theorem R_spoil (hR : RR uw fo ca co lo lc kn on cut u f g fl h sp β ρ σ) (i p : Int32) : jb_z (ka_sp sp i p) = (ms_spoil σ i p).1 ∧ RR uw fo ca co lo lc kn on cut u f g fl h (if ka_sp sp i p then va_up sp i.toNatClampNeg (upd (sp i.toNatClampNeg) p.toNatClampNeg 1) else sp) β ρ (ms_spoil σ i p).2 := by
  obtain ⟨⟨A, hJ, hL, hS, hC⟩, a2, a3, a4, a5, a6, a7⟩ := id hR
  rw [ms_spoil]
  have he : ((0 ≤ i ∧ i < 3) ∧ (0 ≤ p ∧ p < nI (mb_hi i - mb_lo i)) ∧ σ.2.1 3 (mb_lo i + p.toNatClampNeg) = 0) ↔ ka_sp sp i p := by
    constructor
    · rintro ⟨a, b, c⟩
      obtain ⟨j, j1, rfl⟩ := nI_lift (n := 3) a.1 a.2 (by decide)
      rw [sL_n j1] at b
      obtain ⟨q, q1, rfl⟩ := nI_lift (n := sN j) b.1 b.2 (by have := sN_70 j1; omega)
      rw [sL_lo j1, nI_clamp (by have := sN_70 j1; omega), hL.2.2.1 j j1 q q1] at c
      exact ⟨a, by rw [nI_clamp (by omega)]; exact b, by rw [nI_clamp (by omega), nI_clamp (by have := sN_70 j1; omega)]; exact c⟩
    · rintro ⟨a, b, c⟩
      obtain ⟨j, j1, rfl⟩ := nI_lift (n := 3) a.1 a.2 (by decide)
      rw [nI_clamp (by omega)] at b c
      obtain ⟨q, q1, rfl⟩ := nI_lift (n := sN j) b.1 b.2 (by have := sN_70 j1; omega)
      rw [nI_clamp (by have := sN_70 j1; omega)] at c
      exact ⟨a, by rw [sL_n j1]; exact b, by rw [sL_lo j1, nI_clamp (by have := sN_70 j1; omega), hL.2.2.1 j j1 q q1]; exact c⟩
  by_cases hk : ka_sp sp i p
  · rw [jb_t hk, if_pos hk, if_pos (he.mpr hk)]
    refine ⟨rfl, ?_⟩
    obtain ⟨a, b, c⟩ := hk
    obtain ⟨j, j1, rfl⟩ := nI_lift (n := 3) a.1 a.2 (by decide)
    rw [nI_clamp (by omega)] at b c ⊢
    obtain ⟨q, q1, rfl⟩ := nI_lift (n := sN j) b.1 b.2 (by have := sN_70 j1; omega)
    rw [nI_clamp (by have := sN_70 j1; omega), sL_lo j1]
    generalize hτ : rs_a (rs_f σ 0 0) 3 (upd (σ.2.1 3) (sL j + q) 1) = τ
    have e3 : τ.2.1 3 = upd (σ.2.1 3) (sL j + q) 1 := by rw [← hτ, rs_av]
    have eK : ∀ k, k ≠ 3 → τ.2.1 k = σ.2.1 k := fun k k1 => by rw [← hτ, rs_an _ _ k1]
    have eX : τ.2.2 = σ.2.2 := by rw [← hτ]
    have e1 : ∀ j, j ≠ 0 → τ.1 j = σ.1 j := fun j hj => by rw [← hτ]; exact va_up_ne _ _ hj
    have zh : zH σ τ := ⟨by rw [eK 6 (by decide)], by rw [eK 11 (by decide)], by rw [eK 14 (by decide)], fun k _ => ⟨by rw [eK 10 (by decide)], by rw [eK 13 (by decide)]⟩, fun q _ => ⟨by rw [eK 7 (by decide)], by rw [eX]⟩, fun c _ => by rw [eK 9 (by decide)]⟩
    have zf : zF σ τ := ⟨e1 4 (by decide), eK 16 (by decide)⟩
    have zn : zN σ τ := ⟨fun j j1 _ => e1 j (by omega), eK 1 (by decide), eK 15 (by decide), fun k k1 _ => eK k (by omega)⟩
    have zl : zL σ τ := ⟨e1 5 (by decide), e1 6 (by decide), by rw [eK 6 (by decide)], by rw [eK 14 (by decide)], fun k _ => by rw [eK 10 (by decide)], fun q _ => ⟨by rw [eK 7 (by decide)], by rw [eX]⟩, eK 20 (by decide)⟩
    refine ⟨⟨A, ?_, ?_, ?_, fun b hb h0 => ?_⟩, ?_, zH_H zh a3, zF_F zf a4, ?_, zN_N zn a6, zL_L zl a7⟩
    · unfold gJ gO gN at hJ ⊢; rw [eK 2 (by decide), eK 4 (by decide)]; exact hJ
    · unfold gL at hL ⊢
      rw [eK 2 (by decide), eK 4 (by decide), e3]
      refine ⟨hL.1, hL.2.1, fun i hi p hp => ?_, hL.2.2.2⟩
      by_cases e : sL i + p = sL j + q
      · have s1 := stp_of hi (Nat.le_add_right (sL i) p) (by omega)
        have s2 := stp_of j1 (Nat.le_add_right (sL j) q) (by omega)
        rw [e] at s1
        obtain rfl : i = j := s1.1.symm.trans s2.1
        obtain rfl : p = q := by omega
        rw [pk_us, va_up_self, pk_us]
      · rw [pk_un e, hL.2.2.1 i hi p hp]
        by_cases e2 : i = j
        · subst e2
          rw [va_up_self, pk_un (fun x => e (by rw [x]))]
        · rw [va_up_ne _ _ e2]
    · unfold gS at hS ⊢; rw [eK 2 (by decide), eK 4 (by decide), eK 5 (by decide)]; exact hS
    · rw [eK 4 (by decide)] at h0
      exact cn_k (fun k _ _ _ => eK k (by omega)) eX (hC b hb h0)
    · unfold gB at a2 ⊢; rw [eK 4 (by decide), e1 1 (by decide)]; exact a2
    · unfold gW1
      rw [eK 9 (by decide), eK 11 (by decide), eK 6 (by decide)]
      exact a5
  · rw [jb_f hk, if_neg hk, if_neg (fun e => hk (he.mp e))]
    exact ⟨rfl, RR_0 0 hR⟩
end Calls2
