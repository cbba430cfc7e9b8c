/-! The law: the class's heap beside the reference's. -/
theorem Cl_cg {E : jx_E} {x : Nat} {G G' : jx_H} {sz sz' : Nat} {uw : Nat} {fo : Option Nat} {ca : Nat} {co : Int32} {lo : Nat} {lc : Int32} {kn : Option Nat} {on cut : Int32} {u f g fl : Nat → Int32} {h : Nat → Nat → Option Nat} {sp : Nat → Nat → Int32} {β : Nat → bd_T} {ρ : Nat → Nat → Int32} {D P : Nat → Prop} (hC : Cl E x G sz uw fo ca co lo lc kn on cut u f g fl h sp β ρ D P) (hs : sz ≤ sz') (he : ∀ q, q < x + 30 ∨ x + 52 ≤ q → G' q = G q) : Cl E x G' sz' uw fo ca co lo lc kn on cut u f g fl h sp β ρ D P := by
  have hsz := hC.2.2.2.2.2.2.2
  refine ⟨Cst_eq hC.1 (fun q _ h2 => he q (.inl (by omega))), Cdy_eq hC.2 (fun q _ h2 _ => he q h2) hs (fun q hq => ?_)⟩
  rw [he q (.inr (by have := hsz.2; omega))]
  exact hsz.1 q (by omega)
theorem Cp_of {E : jx_E} {x : Nat} {G : jx_H} {sz : Nat} {uw : Nat} {fo : Option Nat} {ca : Nat} {co : Int32} {lo : Nat} {lc : Int32} {kn : Option Nat} {on cut : Int32} {u f g fl : Nat → Int32} {h : Nat → Nat → Option Nat} {sp : Nat → Nat → Int32} {β : Nat → bd_T} {ρ : Nat → Nat → Int32} {D P : Nat → Prop} (hC : Cl E x G sz uw fo ca co lo lc kn on cut u f g fl h sp β ρ D P) : Cp sz uw fo ca lo kn on h β D P := by
  obtain ⟨⟨hK, hW, ho, hF, hU, hA, hL, hR, hSt⟩, hHD, hUw, hDb, hPp, hj, hdy, hbd, hsz⟩ := hC
  refine ⟨hHD, hj.1, hj.2.1, fun z hz => (hj.2.2.1 z hz).1, hj.2.2.2.1, hj.2.2.2.2, fun z hz e => ?_, fun p hp => ?_, ho⟩
  · have := (hdy.2.1 z hz).2.1
    unfold ap at this
    omega
  · have := (hdy.2.2 p hp).1
    unfold dy at this
    omega
/-- the reference's cells -/
def MC (E : jx_E) (x : Nat) (σ : rs_S) (G : jx_H) : Prop := ∀ k, k < 21 → G (x + 30 + k) = rm_c E (x + 30) σ k
theorem MC_G {E : jx_E} {x : Nat} {σ : rs_S} {G : jx_H} (h : MC E x σ G) : rm_G E (x + 30) σ G = G := by
  funext q
  unfold rm_G
  split
  · rename_i hq
    have := h (q - (x + 30)) (by omega)
    rw [show x + 30 + (q - (x + 30)) = q by omega] at this
    exact this.symm
  · rfl
theorem MC_m {E : jx_E} {x : Nat} {σ : rs_S} {G : jx_H} : MC E x σ (rm_G E (x + 30) σ G) := fun k hk => rm_at hk
theorem MC_f {E : jx_E} {x : Nat} {σ : rs_S} {G G' : jx_H} (h : MC E x σ G) (hf : fr x G G') : MC E x σ G' := fun k hk => (hf _ (by omega) (by omega)).trans (h k hk)
theorem MC_o {E : jx_E} {x : Nat} {σ : rs_S} {G : jx_H} {c : Option va_E} (h : MC E x σ G) : MC E x σ (va_up G (x + 51) c) := fun k hk => (va_up_ne _ _ (by omega)).trans (h k hk)
theorem rm_out {E : jx_E} {x : Nat} {σ : rs_S} {G : jx_H} {q : Nat} (h : q < x + 30 ∨ x + 51 ≤ q) : rm_G E (x + 30) σ G q = G q := by
  unfold rm_G
  rw [if_neg (by omega)]
/-- the law's heap between two calls -/
def lwS (E : jx_E) (x : Nat) (σ : rs_S) (G : jx_H) (sz : Nat) : Prop := ∃ (uw : Nat) (fo : Option Nat) (ca : Nat) (co : Int32) (lo : Nat) (lc : Int32) (kn : Option Nat) (on cut : Int32) (u f g fl : Nat → Int32) (h : Nat → Nat → Option Nat) (sp : Nat → Nat → Int32) (β : Nat → bd_T) (ρ : Nat → Nat → Int32) (D P : Nat → Prop) (w : Nat → Int64), Cl E x G sz uw fo ca co lo lc kn on cut u f g fl h sp β ρ D P ∧ RR uw fo ca co lo lc kn on cut u f g fl h sp β ρ σ ∧ MC E x σ G ∧ G (x + 51) = some (ja_l E 1 w)
theorem lwS_of {E : jx_E} {x : Nat} {σ' : rs_S} {G G' : jx_H} {sz sz' : Nat} {uw : Nat} {fo : Option Nat} {ca : Nat} {co : Int32} {lo : Nat} {lc : Int32} {kn : Option Nat} {on cut : Int32} {u f g fl : Nat → Int32} {h : Nat → Nat → Option Nat} {sp : Nat → Nat → Int32} {β : Nat → bd_T} {ρ : Nat → Nat → Int32} {D P : Nat → Prop} {w : Nat → Int64} (hC : Cl E x G sz uw fo ca co lo lc kn on cut u f g fl h sp β ρ D P) (hs : sz ≤ sz') (he : ∀ q, q < x + 30 ∨ x + 52 ≤ q → G' q = G q) (hR : RR uw fo ca co lo lc kn on cut u f g fl h sp β ρ σ') (ho : G' (x + 51) = some (ja_l E 1 w)) : lwS E x σ' (rm_G E (x + 30) σ' G') sz' :=
  ⟨uw, fo, ca, co, lo, lc, kn, on, cut, u, f, g, fl, h, sp, β, ρ, D, P, w, Cl_cg hC hs (fun q hq => (rm_out (by omega)).trans (he q hq)), hR, MC_m, (rm_out (by omega)).trans ho⟩
