/-! The law: its start. -/
theorem jk_a1 {s : State} {A : Array Value} {ty : FieldType} (h : (Cond.arrayClass ty).before A s = true) : ∃ cA, ArrOfT s cA ty ∧ s.vm.findClass ("[" ++ ty.toString) = some cA := by
  obtain ⟨cA, kA, comp, h1, h2, h3⟩ := Cond.arrayClass_spec h
  exact ⟨cA, fun n z => ⟨(fun k h => by cases h), kA, h2, comp, h3⟩, h1⟩
theorem jk_a2 {s : State} {A : Array Value} {C : String} (h : (Cond.arrayOver (.object C)).before A s = true) : ∃ cA, ArrOfT s cA (.object C) ∧ va_RA s cA (.object C) := by
  obtain ⟨comp, cA, kA, f0, f1, f2, f3, f4⟩ := Cond.arrayOver_spec h
  exact ⟨cA, fun n z => ⟨(fun k h => by cases h), kA, f2, comp, f3⟩, kA, comp, f2, f3, f0, f4⟩
theorem jk_tb {s : State} {A : Array Value} (hts : ∀ w ∈ lw_tbl, w.before A s = true) : jx_tb s := fun w hw A' => jx_word (List.mem_filter.mp hw).2 (State.WarmedH.refl s) (hts w (List.mem_filter.mp hw).1)
set_option maxRecDepth 100000 in
theorem jk_K {s : State} {A : Array Value} (hts : ∀ w ∈ lw_tbl, w.before A s = true) : ∃ E : jx_E, va_K E.1 vwCl (jx_tys E) s := by
  have htb := jk_tb hts
  obtain ⟨c0, i0, k0⟩ := u_known (C := RB) (T := TB) (N := 11) (fun w hw => htb w hw A) inB (hts (.instantiable RB 11) (by decide +kernel))
  obtain ⟨c1, i1, k1⟩ := u_known (C := RF) (T := TF) (N := 3) (fun w hw => htb w hw A) inF (hts (.instantiable RF 3) (by decide +kernel))
  obtain ⟨c2, i2, k2⟩ := u_known (C := RP) (T := TP) (N := 1) (fun w hw => htb w hw A) inP (hts (.instantiable RP 1) (by decide +kernel))
  obtain ⟨c3, i3, k3⟩ := u_known (C := RW) (T := TW) (N := 2) (fun w hw => htb w hw A) inW (hts (.instantiable RW 2) (by decide +kernel))
  obtain ⟨c4, i4, k4⟩ := u_known (C := RS) (T := TS) (N := 5) (fun w hw => htb w hw A) inS (hts (.instantiable RS 5) (by decide +kernel))
  obtain ⟨c5, i5, k5⟩ := u_known (C := RK) (T := TK) (N := 10) (fun w hw => htb w hw A) inK (hts (.instantiable RK 10) (by decide +kernel))
  obtain ⟨c6, i6, k6⟩ := u_known (C := RM) (T := TM) (N := 27) (fun w hw => htb w hw A) inM (hts (.instantiable RM 27) (by decide +kernel))
  obtain ⟨t0, a0, b0⟩ := jk_a1 (htb _ jn_86 A)
  obtain ⟨t1, a1, b1⟩ := jk_a1 (htb _ jn_85 A)
  obtain ⟨t2, a2, b2⟩ := jk_a1 (htb _ jn_163 A)
  obtain ⟨t3, a3, b3⟩ := jk_a2 (htb _ jn_88 A)
  obtain ⟨t4, a4, b4⟩ := jk_a2 (htb _ jn_95 A)
  refine ⟨((fun k => match k with | 0 => c0 | 1 => c1 | 2 => c2 | 3 => c3 | 4 => c4 | 5 => c5 | _ => c6, fun k => match k with | 0 => i0 | 1 => i1 | 2 => i2 | 3 => i3 | 4 => i4 | 5 => i5 | _ => i6), fun k => match k with | 0 => t0 | 1 => t1 | 2 => t2 | 3 => t3 | _ => t4), fun c q hq => ?_, fun k q hq => ?_⟩
  · have hc : c < 7 := (List.getElem?_eq_some_iff.mp hq).1
    rcases (show c = 0 ∨ c = 1 ∨ c = 2 ∨ c = 3 ∨ c = 4 ∨ c = 5 ∨ c = 6 by omega) with rfl | rfl | rfl | rfl | rfl | rfl | rfl
    · cases hq; exact k0
    · cases hq; exact k1
    · cases hq; exact k2
    · cases hq; exact k3
    · cases hq; exact k4
    · cases hq; exact k5
    · cases hq; exact k6
  · have hc : k < 5 := (List.getElem?_eq_some_iff.mp hq).1
    rcases (show k = 0 ∨ k = 1 ∨ k = 2 ∨ k = 3 ∨ k = 4 by omega) with rfl | rfl | rfl | rfl | rfl
    · cases hq; exact ⟨a0, b0⟩
    · cases hq; exact ⟨a1, b1⟩
    · cases hq; exact ⟨a2, b2⟩
    · cases hq; exact ⟨a3, b3⟩
    · cases hq; exact ⟨a4, b4⟩
theorem rm_I_up {E : jx_E} {mb : Nat} {fs : List Value} {G : jx_H} : va_up G mb (some (.inr (6, fs))) = rm_I E mb fs 0 G := by
  funext q
  unfold rm_I
  by_cases hq : q = mb
  · subst hq; rw [va_up_self, if_pos rfl]
  · rw [va_up_ne _ _ hq, if_neg hq, if_neg (by omega)]
section LawStart
variable {X : jx_X} {l : Launch} {E : jx_E} {R : Room} {Q : State → Prop} {a x N : Nat} {xs : Nat → Int32}
set_option maxRecDepth 100000 in
theorem law_start (k : jx_ok X l E x yL_law code 7 (some .boolean) R) (htr : ∀ e : Env, l.admits e → e.platform.stackTraces = false) (hX : va_X a N xs (jx_s X) (jx_s X).heap) (hbl : a < (jx_s X).heap.size) (hab : a < x) (hN : N ≤ 2048) (r1 : 11 ≤ R.frames) (r2 : 378 ≤ R.locals) (r3 : 5000 ≤ R.cells) (r4 : 30000 ≤ R.slots) (hE : ∀ (G : jx_H) (sz ce sl n : Nat) (v5 v6 : Option Value), ce ≤ R.cells → sl ≤ R.slots → jx_w X E x Q 1296 (lL a x n v5 v6) [.int 1] G sz ce sl) : jx_w X E x Q 0 [some (.ref a), none, none, none, none, none, none] [] (fun _ => none) x 0 0 := by
  refine jx_new k nL_8 dL_law_0 (by omega) (by omega) ?_
  refine jx_dup k dL_law_3 rfl ?_
  refine jx_callI k mL_45 (k_Kinit _ _ _ _ x) dL_law_4 rfl rfl rfl (Nat.le_of_ble_eq_true rfl) ⟨by omega, by omega⟩ ⟨by omega, by omega⟩ ?_
  rintro v G1 sz1 ⟨rfl, rfl, hK0, hG1⟩
  refine jx_astore_n k dL_law_7 (Nat.le_of_ble_eq_true rfl) rfl (L' := [_, _, _, _, _, _, _]) rfl ?_
  refine jx_new k nL_46 dL_law_8 (by omega) (by omega) ?_
  refine jx_dup k dL_law_11 rfl ?_
  rw [rm_I_up (E := E)]
  refine jx_callI k mL_48 (q_Minit _ _ _ _ (x + 30)) dL_law_12 rfl rfl rfl (Nat.le_of_ble_eq_true rfl) ⟨by omega, by omega⟩ ⟨by omega, by omega⟩ ?_
  rintro v G2 sz2 ⟨rfl, rfl, rfl⟩
  refine jx_astore_n k dL_law_15 (Nat.le_of_ble_eq_true rfl) rfl (L' := [_, _, _, _, _, _, _]) rfl ?_
  refine jx_iconst k dL_law_16 (v := 1) (by decide) ?_
  refine jx_newa k (at0 := .long) (ty := .long) (t := 2) (N := 1) (a0 := (1, .inr (.inl (fun _ => 0)))) rfl jn_163 rfl (fun _ h => by cases h) (fun _ => rfl) dL_law_17 (by decide) (by decide) (by decide) (by omega) (by omega) ?_
  refine jx_astore_n k dL_law_19 (Nat.le_of_ble_eq_true rfl) rfl (L' := [_, _, _, _, _, _, _]) rfl ?_
  refine jx_iconst k dL_law_20 (v := 0) (by decide) ?_
  refine jx_istore k dL_law_21 (Nat.le_of_ble_eq_true rfl) rfl (L' := [_, _, _, _, _, _, _]) rfl ?_
  have hLS : lwS E x rs_1 (va_up (rm_G E (x + 30) rs_1 G1) (x + 51) (some (ja_l E 1 (fun _ => 0)))) (x + 52) := by
    have o1 : ∀ q, q < x + 30 ∨ x + 52 ≤ q → va_up (rm_G E (x + 30) rs_1 G1) (x + 51) (some (ja_l E 1 (fun _ => 0))) q = G1 q := fun q hq => (va_up_ne _ _ (by omega)).trans (rm_out (by omega))
    refine ⟨_, _, _, _, _, _, _, _, _, _, _, _, _, _, _, _, _, _, _, _, hK0 _ (x + 52) (fun q h1 h2 => o1 q (.inl h2)) (Nat.le_refl _) (fun q hq => ?_), RR_init x, MC_o MC_m, va_up_self _ _ _⟩
    rw [o1 q (.inr hq), hG1 q (.inr (by omega))]
  exact law_loop k htr hX hbl hab hN r1 r2 hE 512 0 rs_1 _ (x + 52) _ _ none none (by omega) (by omega) (by omega) (by omega) hLS
end LawStart
