/-! Pure rows: the calls that need power. -/
section Calls
variable {uw : Nat} {fo : Option Nat} {ca : Nat} {co : Int32} {lo : Nat} {lc : Int32} {kn : Option Nat} {on cut : Int32} {u f g fl : Nat → Int32} {h : Nat → Nat → Option Nat} {sp : Nat → Nat → Int32} {β : Nat → bd_T} {ρ : Nat → Nat → Int32} {D P : Nat → Prop} {σ : rs_S} {sz : Nat}
theorem R_on (hR : RR uw fo ca co lo lc kn on cut u f g fl h sp β ρ σ) : σ.1 2 = on := hR.2.2.2.2.2.1.2.2.1
theorem R_n1 (hR : RR uw fo ca co lo lc kn on cut u f g fl h sp β ρ σ) (h1 : on = 1) : ¬ σ.1 2 = 0 := by
  rw [R_on hR, h1]; decide
theorem R_sn (hR : RR uw fo ca co lo lc kn on cut u f g fl h sp β ρ σ) : σ.2.1 6 70 = nI (d_sn β uw) ∧ d_sn β uw ≤ 4 := ⟨hR.2.2.1.1, hR.2.2.1.2.1⟩
theorem D_ne (hC : Cp sz uw fo ca lo kn on h β D P) {z : Nat} (hz : D z) (x : bd_T) : va_up β uw x z = β z := va_up_ne _ _ (hC.2.2.2.2.2.2.1 z hz)
theorem R_sentence (hC : Cp sz uw fo ca lo kn on h β D P) (hR : RR uw fo ca co lo lc kn on cut u f g fl h sp β ρ σ) (h1 : on = 1) (src : Int32) (y : Int64) : (if ka_se β uw src y then nI (d_sn β uw + 1) else -1) = (ms_sentence σ (d_sn β uw) src y).1 ∧ RR uw fo ca co lo lc kn on cut u f g fl h sp (if ka_se β uw src y then va_up β uw (bd_se (β uw) src y) else β) ρ (ms_sentence σ (d_sn β uw) src y).2 ∧ (ms_sentence σ (d_sn β uw) src y).2.1 0 = 0 := by
  have hn := R_sn hR
  rw [ms_sentence, if_neg (R_n1 hR h1)]
  by_cases hk : ka_se β uw src y
  · have hc : (0 ≤ src ∧ src < 4) ∧ mt_x y = true ∧ d_sn β uw ≠ 4 := ⟨hk.1, (ks_mt y).1.mpr hk.2.1, by have := hk.2.2; omega⟩
    rw [if_pos hk, if_pos hk, if_pos hc]
    generalize hτ : rs_a (rs_t (rs_a (rs_f σ 0 0) 7 (upd (σ.2.1 7) (280 + d_sn β uw) src)) (vp_updL σ.2.2 (280 + d_sn β uw) y)) 6 (upd (σ.2.1 6) 70 (nI (d_sn β uw + 1))) = τ
    have e6 : τ.2.1 6 = upd (σ.2.1 6) 70 (nI (d_sn β uw + 1)) := by rw [← hτ, rs_av]
    have e7 : τ.2.1 7 = upd (σ.2.1 7) (280 + d_sn β uw) src := by rw [← hτ]; rfl
    have eK : ∀ k, k ≠ 6 → k ≠ 7 → τ.2.1 k = σ.2.1 k := fun k k1 k2 => by
      rw [← hτ, rs_an _ _ k1]; exact rs_an _ _ k2
    have eX : τ.2.2 = vp_updL σ.2.2 (280 + d_sn β uw) y := by rw [← hτ]
    have e1 : ∀ j, j ≠ 0 → τ.1 j = σ.1 j := fun j hj => by rw [← hτ]; exact va_up_ne _ _ hj
    have e0 : τ.1 0 = 0 := by rw [← hτ]; rfl
    have xX : ∀ j, j ≠ 280 + d_sn β uw → τ.2.2 j = σ.2.2 j := fun j hj => by rw [eX]; exact if_neg hj
    have x7 : ∀ j, j ≠ 280 + d_sn β uw → τ.2.1 7 j = σ.2.1 7 j := fun j hj => by rw [e7]; exact if_neg hj
    refine ⟨rfl, ?_, e0⟩
    have zs : zS σ τ := ⟨fun k k1 k2 => eK k (by omega) (by omega), fun k b hb hk => by
      by_cases e : k = 6
      · rw [e, e6, pk_un (by omega)]
      · rw [eK k e (by omega)], fun j _ => ⟨by rw [eK 10 (by decide) (by decide)], by rw [eK 13 (by decide) (by decide)]⟩, fun j hj => ⟨x7 j (by omega), xX j (by omega)⟩⟩
    have zf : zF σ τ := ⟨e1 4 (by decide), eK 16 (by decide) (by decide)⟩
    have zn : zN σ τ := ⟨fun j j1 _ => e1 j (by omega), eK 1 (by decide) (by decide), eK 15 (by decide) (by decide), fun k k1 _ => eK k (by omega) (by omega)⟩
    have zl : zL σ τ := ⟨e1 5 (by decide), e1 6 (by decide), by rw [e6, pk_un (by decide)], by rw [eK 14 (by decide) (by decide)], fun k _ => by rw [eK 10 (by decide) (by decide)], fun q _ => ⟨x7 _ (by omega), xX _ (by omega)⟩, eK 20 (by decide) (by decide)⟩
    obtain ⟨⟨A, r1⟩, r2, r3⟩ := RR_b (β' := va_up β uw (bd_se (β uw) src y)) (ρ' := ρ) hC hR (fun z hz => D_ne hC hz _) (fun _ _ _ => rfl)
    obtain ⟨_, a2, a3, a4, a5, a6, a7⟩ := hR
    have eB : va_up β uw (bd_se (β uw) src y) uw = bd_se (β uw) src y := va_up_self _ _ _
    have dt : d_tm (va_up β uw (bd_se (β uw) src y)) uw = d_tm β uw := by unfold d_tm; rw [eB]; rfl
    refine ⟨⟨A, zS_R zs r1⟩, zB zs (e1 1 (by decide)) a2, ?_, zF_F zf r2, ?_, ?_, zL_L zl r3⟩
    · obtain ⟨b1, b2, b3, b4, b5, b6, b7, b8, b9, b10⟩ := a3
      have ds : d_sn (va_up β uw (bd_se (β uw) src y)) uw = d_sn β uw + 1 := by unfold d_sn; rw [eB]; rfl
      have do_ : d_so (va_up β uw (bd_se (β uw) src y)) uw = upd (d_so β uw) (d_sn β uw) src := by unfold d_so; rw [eB]; rfl
      have dx : d_tx (va_up β uw (bd_se (β uw) src y)) uw = vp_updL (d_tx β uw) (d_sn β uw) y := by unfold d_tx; rw [eB]; rfl
      have dd : d_sd (va_up β uw (bd_se (β uw) src y)) uw = d_sd β uw := by unfold d_sd; rw [eB]; rfl
      have dh : d_he (va_up β uw (bd_se (β uw) src y)) uw = d_he β uw := by unfold d_he; rw [eB]; rfl
      have dp : d_po (va_up β uw (bd_se (β uw) src y)) uw = d_po β uw := by unfold d_po; rw [eB]; rfl
      have db : d_ba (va_up β uw (bd_se (β uw) src y)) uw = d_ba β uw := by unfold d_ba; rw [eB]; rfl
      have dsb : d_sb (va_up β uw (bd_se (β uw) src y)) uw = d_sb β uw + (2 + ks_n y) := by unfold d_sb; rw [eB]; rfl
      unfold gH
      rw [ds, do_, dx, dd, dh, dp, db, dsb, e6, pk_us, e7, eX, eK 10 (by decide) (by decide), eK 11 (by decide) (by decide), eK 13 (by decide) (by decide), eK 14 (by decide) (by decide), eK 9 (by decide) (by decide)]
      refine ⟨rfl, by have := hk.2.2; omega, fun q hq => ?_, b4, b5, b6, b7, b8, b9, ?_⟩
      · by_cases e : q = d_sn β uw
        · rw [e, pk_us, pk_us]
          exact ⟨rfl, (if_pos rfl).trans (if_pos rfl).symm⟩
        · rw [pk_un (by omega), pk_un e, (b3 q (by omega)).1]
          refine ⟨rfl, ?_⟩
          show (if 280 + q = 280 + d_sn β uw then y else σ.2.2 (280 + q)) = if q = d_sn β uw then y else d_tx β uw q
          rw [if_neg (by omega), if_neg e, (b3 q (by omega)).2]
      · rw [sm, Nat.zero_add, b10, (ks_mt y).2 hk.2.1]
        congr 1
        · refine sm_c _ (fun q _ hq => ?_)
          show _ = 2 + mg_n (if q = d_sn β uw then y else d_tx β uw q)
          rw [if_neg (by omega)]
        · show _ = 2 + mg_n (if d_sn β uw = d_sn β uw then y else _)
          rw [if_pos rfl]
    · obtain ⟨w1, w2, w3⟩ := a5
      refine ⟨by rw [eK 9 (by decide) (by decide)]; exact w1, by rw [eK 11 (by decide) (by decide)]; exact w2, fun p hp => ?_⟩
      rw [e6]
      by_cases e : p = 70
      · rw [e, pk_us]; exact ⟨_, by have := hk.2.2; omega, rfl⟩
      · rw [pk_un e]; exact w3 p hp
    · have := zN_N zn a6
      unfold gNu at this ⊢
      rw [dt]
      exact this
  · have hc : ¬ ((0 ≤ src ∧ src < 4) ∧ mt_x y = true ∧ d_sn β uw ≠ 4) := fun e => hk ⟨e.1, (ks_mt y).1.mp e.2.1, by have := hn.2; have := e.2.2; omega⟩
    rw [if_neg hk, if_neg hk, if_neg hc]
    exact ⟨rfl, RR_0 0 hR, rfl⟩
theorem R_sound (hC : Cp sz uw fo ca lo kn on h β D P) (hR : RR uw fo ca co lo lc kn on cut u f g fl h sp β ρ σ) (h1 : on = 1) (c q v : Int32) : jb_z (ka_sd c q v) = (ms_sound σ c q v).1 ∧ RR uw fo ca co lo lc kn on cut u f g fl h sp (if ka_sd c q v then va_up β uw (bd_sd (β uw) c.toNatClampNeg q.toNatClampNeg v) else β) ρ (ms_sound σ c q v).2 ∧ (ms_sound σ c q v).2.1 0 = 0 := by
  rw [ms_sound, if_neg (R_n1 hR h1)]
  by_cases hk : ka_sd c q v
  · have hc : (0 ≤ c ∧ c < 2) ∧ (0 ≤ q ∧ q < 4) ∧ (0 ≤ v ∧ v < 256) := ⟨hk.1.1, hk.1.2, hk.2⟩
    rw [jb_t hk, if_pos hk, if_pos hc]
    obtain ⟨i, i1, rfl⟩ := nI_lift (n := 2) hk.1.1.1 hk.1.1.2 (by decide)
    obtain ⟨k, k1, rfl⟩ := nI_lift (n := 4) hk.1.2.1 hk.1.2.2 (by decide)
    rw [nI_clamp (by omega), nI_clamp (by omega)]
    generalize hτ : rs_a (rs_a (rs_f σ 0 0) 9 (upd (σ.2.1 9) (140 + i) 1)) 10 (upd (σ.2.1 10) (560 + 4 * i + k) v) = τ
    have e10 : τ.2.1 10 = upd (σ.2.1 10) (560 + 4 * i + k) v := by rw [← hτ, rs_av]
    have e9 : τ.2.1 9 = upd (σ.2.1 9) (140 + i) 1 := by rw [← hτ, rs_an _ _ (by decide), rs_av]
    have eK : ∀ k, k ≠ 10 → k ≠ 9 → τ.2.1 k = σ.2.1 k := fun k k1 k2 => by rw [← hτ, rs_an _ _ k1, rs_an _ _ k2]
    have eX : τ.2.2 = σ.2.2 := by rw [← hτ]
    have e1 : ∀ j, j ≠ 0 → τ.1 j = σ.1 j := fun j hj => by rw [← hτ]; exact va_up_ne _ _ hj
    have e0 : τ.1 0 = 0 := by rw [← hτ]; rfl
    refine ⟨rfl, ?_, e0⟩
    have zs : zS σ τ := ⟨fun k k1 k2 => eK k (by omega) (by omega), fun k b hb hk => by rw [eK k (by omega) (by omega)], fun j hj => ⟨by rw [e10, pk_un (by omega)], by rw [eK 13 (by decide) (by decide)]⟩, fun j hj => ⟨by rw [eK 7 (by decide) (by decide)], by rw [eX]⟩⟩
    have zf : zF σ τ := ⟨e1 4 (by decide), eK 16 (by decide) (by decide)⟩
    have zn : zN σ τ := ⟨fun j j1 _ => e1 j (by omega), eK 1 (by decide) (by decide), eK 15 (by decide) (by decide), fun k k1 _ => eK k (by omega) (by omega)⟩
    have zl : zL σ τ := ⟨e1 5 (by decide), e1 6 (by decide), by rw [eK 6 (by decide) (by decide)], by rw [eK 14 (by decide) (by decide)], fun k _ => by rw [e10, pk_un (by omega)], fun q _ => ⟨by rw [eK 7 (by decide) (by decide)], by rw [eX]⟩, eK 20 (by decide) (by decide)⟩
    obtain ⟨⟨A, r1⟩, r2, r3⟩ := RR_b (β' := va_up β uw (bd_sd (β uw) i k v)) (ρ' := ρ) hC hR (fun z hz => D_ne hC hz _) (fun _ _ _ => rfl)
    obtain ⟨_, a2, a3, a4, a5, a6, a7⟩ := hR
    have eB : va_up β uw (bd_sd (β uw) i k v) uw = bd_sd (β uw) i k v := va_up_self _ _ _
    have dt : d_tm (va_up β uw (bd_sd (β uw) i k v)) uw = d_tm β uw := by unfold d_tm; rw [eB]; rfl
    refine ⟨⟨A, zS_R zs r1⟩, zB zs (e1 1 (by decide)) a2, ?_, zF_F zf r2, ?_, ?_, zL_L zl r3⟩
    · obtain ⟨b1, b2, b3, b4, b5, b6, b7, b8, b9, b10⟩ := a3
      have ds : d_sn (va_up β uw (bd_sd (β uw) i k v)) uw = d_sn β uw := by unfold d_sn; rw [eB]; rfl
      have do_ : d_so (va_up β uw (bd_sd (β uw) i k v)) uw = d_so β uw := by unfold d_so; rw [eB]; rfl
      have dx : d_tx (va_up β uw (bd_sd (β uw) i k v)) uw = d_tx β uw := by unfold d_tx; rw [eB]; rfl
      have dd : d_sd (va_up β uw (bd_sd (β uw) i k v)) uw = upd (d_sd β uw) (i * 4 + k) v := by unfold d_sd; rw [eB]; rfl
      have dh : d_he (va_up β uw (bd_sd (β uw) i k v)) uw = upd (d_he β uw) i 1 := by unfold d_he; rw [eB]; rfl
      have dp : d_po (va_up β uw (bd_sd (β uw) i k v)) uw = d_po β uw := by unfold d_po; rw [eB]; rfl
      have db : d_ba (va_up β uw (bd_sd (β uw) i k v)) uw = d_ba β uw := by unfold d_ba; rw [eB]; rfl
      have dsb : d_sb (va_up β uw (bd_sd (β uw) i k v)) uw = d_sb β uw := by unfold d_sb; rw [eB]; rfl
      unfold gH
      rw [ds, do_, dx, dd, dh, dp, db, dsb, e10, e9, eX, eK 6 (by decide) (by decide), eK 7 (by decide) (by decide), eK 11 (by decide) (by decide), eK 13 (by decide) (by decide), eK 14 (by decide) (by decide)]
      refine ⟨b1, b2, b3, fun j hj => ?_, b5, b6, b7, fun d hd => ?_, b9, b10⟩
      · by_cases e : j = i * 4 + k
        · rw [show 560 + j = 560 + 4 * i + k by omega, pk_us, e, pk_us]
        · rw [pk_un (by omega), pk_un e]; exact b4 j hj
      · by_cases e : d = i
        · rw [e, pk_us, pk_us]
        · rw [pk_un (by omega), pk_un e]; exact b8 d hd
    · obtain ⟨w1, w2, w3⟩ := a5
      refine ⟨by rw [e9]; exact w9_u w1 (.inr rfl), by rw [eK 11 (by decide) (by decide)]; exact w2, by rw [eK 6 (by decide) (by decide)]; exact w3⟩
    · have := zN_N zn a6
      unfold gNu at this ⊢
      rw [dt]
      exact this
  · have hc : ¬ ((0 ≤ c ∧ c < 2) ∧ (0 ≤ q ∧ q < 4) ∧ (0 ≤ v ∧ v < 256)) := fun e => hk ⟨⟨e.1, e.2.1⟩, e.2.2⟩
    rw [jb_f hk, if_neg hk, if_neg hc]
    exact ⟨rfl, RR_0 0 hR, rfl⟩
theorem R_paint (hC : Cp sz uw fo ca lo kn on h β D P) (hR : RR uw fo ca co lo lc kn on cut u f g fl h sp β ρ σ) (h1 : on = 1) (i c : Int32) : jb_z (ka_pa i c) = (ms_paint σ i c).1 ∧ RR uw fo ca co lo lc kn on cut u f g fl h sp β (if ka_pa i c then va_up ρ ca (upd (ρ ca) i.toNatClampNeg c) else ρ) (ms_paint σ i c).2 ∧ (ms_paint σ i c).2.1 0 = 0 := by
  rw [ms_paint, if_neg (R_n1 hR h1)]
  by_cases hk : ka_pa i c
  · rw [jb_t hk, if_pos hk, if_pos hk]
    obtain ⟨j, j1, rfl⟩ := nI_lift (n := 8) hk.1.1 hk.1.2 (by decide)
    rw [nI_clamp (by omega)]
    generalize hτ : rs_a (rs_f σ 0 0) 15 (upd (σ.2.1 15) j c) = τ
    have e15 : τ.2.1 15 = upd (σ.2.1 15) j c := by rw [← hτ, rs_av]
    have eK : ∀ k, k ≠ 15 → τ.2.1 k = σ.2.1 k := fun k k1 => by rw [← hτ, rs_an _ _ k1]
    have eX : τ.2.2 = σ.2.2 := by rw [← hτ]
    have e1 : ∀ j, j ≠ 0 → τ.1 j = σ.1 j := fun j hj => by rw [← hτ]; exact va_up_ne _ _ hj
    have e0 : τ.1 0 = 0 := by rw [← hτ]; rfl
    refine ⟨rfl, ?_, e0⟩
    have er : ∀ p, P p → p ≠ ca → va_up ρ ca (upd (ρ ca) j c) p = ρ p := fun p _ hp => va_up_ne _ _ hp
    have zs : zS σ τ := ⟨fun k k1 k2 => eK k (by omega), fun k b hb hk => by rw [eK k (by omega)], fun j hj => ⟨by rw [eK 10 (by decide)], by rw [eK 13 (by decide)]⟩, fun j hj => ⟨by rw [eK 7 (by decide)], by rw [eX]⟩⟩
    have zf : zF σ τ := ⟨e1 4 (by decide), eK 16 (by decide)⟩
    have zl : zL σ τ := ⟨e1 5 (by decide), e1 6 (by decide), by rw [eK 6 (by decide)], by rw [eK 14 (by decide)], fun k _ => by rw [eK 10 (by decide)], fun q _ => ⟨by rw [eK 7 (by decide)], by rw [eX]⟩, eK 20 (by decide)⟩
    obtain ⟨⟨A, r1⟩, r2, r3⟩ := RR_b (β' := β) (ρ' := va_up ρ ca (upd (ρ ca) j c)) hC hR (fun _ _ => rfl) er
    obtain ⟨_, a2, a3, a4, a5, a6, a7⟩ := hR
    refine ⟨⟨A, zS_R zs r1⟩, zB zs (e1 1 (by decide)) a2, ?_, zF_F zf r2, ?_, ?_, zL_L zl r3⟩
    · obtain ⟨b1, b2, b3, b4, b5, b6, b7, b8, b9, b10⟩ := a3
      unfold gH
      rw [eK 6 (by decide), eK 7 (by decide), eK 9 (by decide), eK 10 (by decide), eK 11 (by decide), eK 13 (by decide), eK 14 (by decide), eX]
      refine ⟨b1, b2, b3, b4, b5, fun pa hp => ?_, b7, b8, b9, b10⟩
      obtain ⟨p1, p2⟩ := hC.2.2.2.2.2.1 uw (.inr rfl) pa hp
      rw [er pa p1 p2]
      exact b6 pa hp
    · obtain ⟨w1, w2, w3⟩ := a5
      exact ⟨by rw [eK 9 (by decide)]; exact w1, by rw [eK 11 (by decide)]; exact w2, by rw [eK 6 (by decide)]; exact w3⟩
    · unfold gNu at a6 ⊢
      rw [e1 1 (by decide), e1 2 (by decide), e1 3 (by decide), eK 1 (by decide), eK 17 (by decide), eK 18 (by decide), eK 19 (by decide), e15]
      obtain ⟨c1, c2, c3, c4, c5, c6, c7, c8, c9, c10⟩ := a6
      refine ⟨c1, c2, c3, c4, c5, c6, c7, c8, c9, fun r hr => ?_⟩
      rw [va_up_self]
      by_cases e : r = j
      · rw [e, pk_us, pk_us]
      · rw [pk_un e, pk_un e]; exact c10 r hr
  · rw [jb_f hk, if_neg hk, if_neg hk]
    exact ⟨rfl, RR_0 0 hR, rfl⟩
end Calls
