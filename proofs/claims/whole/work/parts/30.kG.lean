/-- nothing is known at sz and behind it -/
def jx_bd (G : jx_H) (sz : Nat) : Prop := ∀ q, sz ≤ q → G q = none
theorem jx_bd_lt {G : jx_H} {sz q : Nat} {c : va_E} (h : jx_bd G sz) (e : G q = some c) : q < sz := by
  refine Decidable.byContradiction (fun h1 => ?_)
  rw [h q (by omega)] at e
  cases e
theorem pc_k {E : jx_E} {G : jx_H} {sz q : Nat} {c : va_E} {r : Nat → Int32} (h : jx_bd G sz) (e : G q = some c) : pc_G E sz r G q = some c := by
  have := jx_bd_lt h e
  rw [pc_n (by omega) (by omega)]
  exact e
theorem bn_k_pc {E : jx_E} {G : jx_H} {sz z : Nat} {t : Int32} {r : Nat → Int32} (h : jx_bd G sz) (e : bn_k G z t) : bn_k (pc_G E sz r G) z t := by
  obtain ⟨s, cs, pv, ba, pb, sb, e⟩ := e
  exact ⟨s, cs, pv, ba, pb, sb, pc_k h e⟩
/-- the picture that stands, and its second -/
def so_pf (h : Nat → Option Nat) (tm sp : Nat → Int32) (n : Nat) (po : Nat → Option Nat) (ba : Nat → Int32) (t : Int32) (st : Option Nat × Int32) : Option Nat × Int32 := match so_r h tm sp n t with
  | none => st
  | some z => match po z with
    | none => st
    | some pa => if ba z = -1 ∨ ba z = st.2 then (some pa, tm z) else (none, -1)
def so_ps (h : Nat → Option Nat) (tm sp : Nat → Int32) (n : Nat) (po : Nat → Option Nat) (ba : Nat → Int32) (T : Nat) : Nat → Option Nat × Int32 → Option Nat × Int32
  | 0, st => st
  | j + 1, st => so_ps h tm sp n po ba T j (so_pf h tm sp n po ba (nI (T - j)) st)
def so_p (h : Nat → Option Nat) (tm sp : Nat → Int32) (n : Nat) (po : Nat → Option Nat) (ba : Nat → Int32) (T x : Nat) : Option Nat := (so_ps h tm sp n po ba T (T % 10 + 1) (some x, -1)).1
set_option maxRecDepth 100000 in
set_option maxHeartbeats 4000000 in
theorem k_knownAt (l : Launch) (E : jx_E) (b : Nat) (G : jx_H) (sz : Nat) (a n : Nat) (ch fl ob : Int32) (h : Nat → Option Nat) (tm : Nat → Int32) (D : Nat → Prop) (hS : G a = so_o a ch fl ob) (hH : G (a + 1) = some (ja_q E 4 n h)) (hn : n < 100) (hD : ∀ p, p < n → ∀ z, h p = some z → D z) (hT : ∀ z, D z → bn_k G z (tm z)) (sp : Nat → Int32) (hQ : G (a + 2) = some (ja_z E n sp)) (po : Nat → Option Nat) (ba : Nat → Int32) (hX : ∀ z, D z → ∃ (s : Nat) (cs pb sb : Int32), G z = bn_o z (tm z) (nI s) cs (bv (po z)) (ba z) pb sb) (hbd : jx_bd G sz) (T : Nat) (hT9 : T < 10000) : jx_ct l E b yS_pictureKnownAt cS_pictureKnownAt 7 (some (.object "VoyageKeeper$Picture")) 2 2 9 [.ref a, .int (nI T)] G sz (fun v G' sz' => v = some (bv (so_p h tm sp n po ba T sz)) ∧ G' = pc_G E sz (fun _ => 0) G ∧ sz' = sz + 2) := by
  refine jx_met (by decide) (Nat.le_of_ble_eq_true rfl) (L0 := [_, _, _, _, _, _, _]) rfl (fun X k => ?_)
  have eS : pc_G E sz (fun _ => 0) G a = so_o a ch fl ob := pc_k hbd hS
  have eH : pc_G E sz (fun _ => 0) G (a + 1) = some (ja_q E 4 n h) := pc_k hbd hH
  have eQ : pc_G E sz (fun _ => 0) G (a + 2) = some (ja_z E n sp) := pc_k hbd hQ
  have eT : ∀ z, D z → bn_k (pc_G E sz (fun _ => 0) G) z (tm z) := fun z hz => bn_k_pc hbd (hT z hz)
  refine jx_new k nS_104 dS_pictureKnownAt_0 (Nat.le_of_ble_eq_true rfl) (Nat.le_of_ble_eq_true rfl) ?_
  refine jx_dup k dS_pictureKnownAt_3 rfl ?_
  refine jx_callI0 k mS_106 (k_Pinit _ _ _ G sz) dS_pictureKnownAt_4 rfl rfl rfl (Nat.le_of_ble_eq_true rfl) ⟨Nat.le_of_ble_eq_true rfl, Nat.le_of_ble_eq_true rfl⟩ ⟨Nat.le_of_ble_eq_true rfl, Nat.le_of_ble_eq_true rfl⟩ ?_
  refine jx_astore_n k dS_pictureKnownAt_7 (Nat.le_of_ble_eq_true rfl) rfl (L' := [_, _, _, _, _, _, _]) rfl ?_
  refine jx_iconst k dS_pictureKnownAt_8 (v := (-1)) (by decide) ?_
  refine jx_istore_n k dS_pictureKnownAt_9 (Nat.le_of_ble_eq_true rfl) rfl (L' := [_, _, _, _, _, _, _]) rfl ?_
  refine jx_iload_n k dS_pictureKnownAt_10 rfl ?_
  refine jx_bipush k dS_pictureKnownAt_11 (v := 10) (by decide) ?_
  refine jx_callSP k mS_107 (k_floorMod _ _ _ _ _ T hT9) dS_pictureKnownAt_13 rfl rfl rfl (Nat.le_of_ble_eq_true rfl) ⟨Nat.le_of_ble_eq_true rfl, Nat.le_of_ble_eq_true rfl⟩ ⟨Nat.le_of_ble_eq_true rfl, Nat.le_of_ble_eq_true rfl⟩ ?_
  rw [show nI (T % 10) = nI (T % 10 + 1) + (-1) from (pk_m1 _).symm]
  refine jx_istore k dS_pictureKnownAt_16 (Nat.le_of_ble_eq_true rfl) rfl (L' := [_, _, _, _, _, _, _]) rfl ?_
  have key : ∀ c st, c ≤ T % 10 + 1 → (so_ps h tm sp n po ba T c st).1 = so_p h tm sp n po ba T sz → jx_w X E b (jx_fin X E b (fun v G' sz' => v = some (bv (so_p h tm sp n po ba T sz)) ∧ G' = pc_G E sz (fun _ => 0) G ∧ sz' = sz + 2) 2 9) 18 [some (.ref a), some (.int (nI T)), some (bv st.1), some (.int st.2), some (.int (nI c + (-1))), none, none] [] (pc_G E sz (fun _ => 0) G) (sz + 2) 2 9 := by
    intro c
    induction c with
    | zero =>
      intro st hc he
      have he1 : st.1 = so_p h tm sp n po ba T sz := he
      rw [he1]
      refine jx_iload k dS_pictureKnownAt_18 rfl ?_
      refine jx_if_lt k dS_pictureKnownAt_20 (tgt := 107) rfl (fun _ => ?_) (fun hh => absurd (by decide) hh)
      rcases op_c (so_p h tm sp n po ba T sz) with e | ⟨z, e⟩
      · rw [e]
        refine jx_aload_nN k dS_pictureKnownAt_107 rfl ?_
        exact jx_aret k (.inl rfl) dS_pictureKnownAt_108 (Nat.le_refl _) (Nat.le_refl _) ⟨rfl, rfl, rfl⟩
      · rw [e]
        refine jx_aload_n k dS_pictureKnownAt_107 rfl ?_
        exact jx_aret k (.inr ⟨_, rfl⟩) dS_pictureKnownAt_108 (Nat.le_refl _) (Nat.le_refl _) ⟨rfl, rfl, rfl⟩
    | succ c ih =>
      intro st hc he
      rw [so_ps] at he
      rw [pk_m1]
      refine jx_iload k dS_pictureKnownAt_18 rfl ?_
      refine jx_if_lt k dS_pictureKnownAt_20 (tgt := 107) rfl (fun hh => absurd hh (nI_pos (by omega))) (fun _ => ?_)
      refine jx_aload_n k dS_pictureKnownAt_23 rfl ?_
      refine jx_iload_n k dS_pictureKnownAt_24 rfl ?_
      refine jx_iload k dS_pictureKnownAt_25 rfl ?_
      refine jx_isub k dS_pictureKnownAt_27 ?_
      rw [show nI T - nI c = nI (T - c) from pk_sub (by omega)]
      refine jx_callVP k mS_94 (k_readable _ _ _ _ _ a n ch fl ob h tm D eS eH hn hD eT sp eQ (nI (T - c))) eS rfl dS_pictureKnownAt_28 rfl rfl rfl (Nat.le_of_ble_eq_true rfl) ⟨Nat.le_of_ble_eq_true rfl, Nat.le_of_ble_eq_true rfl⟩ ⟨Nat.le_of_ble_eq_true rfl, Nat.le_of_ble_eq_true rfl⟩ ?_
      rcases op_c (so_r h tm sp n (nI (T - c))) with e | ⟨z, e⟩
      · have e2 : so_pf h tm sp n po ba (nI (T - c)) st = st := by unfold so_pf; rw [e]
        rw [e2] at he
        rw [e]
        refine jx_astoreN k dS_pictureKnownAt_31 (Nat.le_of_ble_eq_true rfl) rfl (L' := [_, _, _, _, _, _, _]) rfl ?_
        refine jx_aloadN k dS_pictureKnownAt_33 rfl ?_
        refine jx_ifnullN k dS_pictureKnownAt_35 (tgt := 101) rfl ?_
        refine jx_iinc k dS_pictureKnownAt_101 rfl rfl rfl (L' := [_, _, _, _, _, _, _]) rfl ?_
        refine jx_goto k dS_pictureKnownAt_104 (tgt := 18) rfl ?_
        refine jx_fg (jx_ls (jx_ls (jx_ls (jx_ls (jx_ls (jx_ln (jx_ln jx_l0))))))) ?_
        exact ih st (by omega) he
      · obtain ⟨q, hq, hqz⟩ := so_r_D e
        obtain ⟨s, cs, pb, sb, hB0⟩ := hX z (hD q hq z hqz)
        have hB := pc_k (E := E) (r := fun _ => 0) hbd hB0
        rw [e]
        rcases op_c (po z) with e3 | ⟨pa, e3⟩
        · have e2 : so_pf h tm sp n po ba (nI (T - c)) st = st := by unfold so_pf; rw [e]; show (match po z with | none => st | some pa => _) = st; rw [e3]
          rw [e2] at he
          rw [e3] at hB
          refine jx_astore k dS_pictureKnownAt_31 (Nat.le_of_ble_eq_true rfl) rfl (L' := [_, _, _, _, _, _, _]) rfl ?_
          refine jx_aload k dS_pictureKnownAt_33 rfl ?_
          refine jx_ifnull k dS_pictureKnownAt_35 ?_
          refine jx_aload k dS_pictureKnownAt_38 rfl ?_
          refine jx_get k fS_110 dS_pictureKnownAt_40 hB rfl ?_
          refine jx_ifnullN k dS_pictureKnownAt_43 (tgt := 101) rfl ?_
          refine jx_iinc k dS_pictureKnownAt_101 rfl rfl rfl (L' := [_, _, _, _, _, _, _]) rfl ?_
          refine jx_goto k dS_pictureKnownAt_104 (tgt := 18) rfl ?_
          refine jx_fg (jx_ls (jx_ls (jx_ls (jx_ls (jx_ls (jx_ln (jx_ln jx_l0))))))) ?_
          exact ih st (by omega) he
        · have e2 : so_pf h tm sp n po ba (nI (T - c)) st = if ba z = -1 ∨ ba z = st.2 then (some pa, tm z) else (none, -1) := by unfold so_pf; rw [e]; show (match po z with | none => st | some pa => _) = _; rw [e3]
          rw [e2] at he
          rw [e3] at hB
          have yes : ba z = -1 ∨ ba z = st.2 → jx_w X E b (jx_fin X E b (fun v G' sz' => v = some (bv (so_p h tm sp n po ba T sz)) ∧ G' = pc_G E sz (fun _ => 0) G ∧ sz' = sz + 2) 2 9) 64 [some (.ref a), some (.int (nI T)), some (bv st.1), some (.int st.2), some (.int (nI c)), some (.ref z), none] [] (pc_G E sz (fun _ => 0) G) (sz + 2) 2 9 := by
            intro hy
            rw [if_pos hy] at he
            refine jx_iconst k dS_pictureKnownAt_64 (v := 1) (by decide) ?_
            refine jx_goto k dS_pictureKnownAt_65 (tgt := 69) rfl ?_
            refine jx_istore k dS_pictureKnownAt_69 (Nat.le_of_ble_eq_true rfl) rfl (L' := [_, _, _, _, _, _, _]) rfl ?_
            refine jx_iload k dS_pictureKnownAt_71 rfl ?_
            refine jx_if_eq k dS_pictureKnownAt_73 (tgt := 84) rfl (fun hh => absurd hh (by decide)) (fun _ => ?_)
            refine jx_aload k dS_pictureKnownAt_76 rfl ?_
            refine jx_get k fS_110 dS_pictureKnownAt_78 hB rfl ?_
            refine jx_goto k dS_pictureKnownAt_81 (tgt := 85) rfl ?_
            refine jx_astore_n k dS_pictureKnownAt_85 (Nat.le_of_ble_eq_true rfl) rfl (L' := [_, _, _, _, _, _, _]) rfl ?_
            refine jx_iload k dS_pictureKnownAt_86 rfl ?_
            refine jx_if_eq k dS_pictureKnownAt_88 (tgt := 99) rfl (fun hh => absurd hh (by decide)) (fun _ => ?_)
            refine jx_aload k dS_pictureKnownAt_91 rfl ?_
            refine jx_get k fS_62 dS_pictureKnownAt_93 hB rfl ?_
            refine jx_goto k dS_pictureKnownAt_96 (tgt := 100) rfl ?_
            refine jx_istore_n k dS_pictureKnownAt_100 (Nat.le_of_ble_eq_true rfl) rfl (L' := [_, _, _, _, _, _, _]) rfl ?_
            refine jx_iinc k dS_pictureKnownAt_101 rfl rfl rfl (L' := [_, _, _, _, _, _, _]) rfl ?_
            refine jx_goto k dS_pictureKnownAt_104 (tgt := 18) rfl ?_
            refine jx_fg (jx_ls (jx_ls (jx_ls (jx_ls (jx_ls (jx_ln (jx_ln jx_l0))))))) ?_
            exact ih (some pa, tm z) (by omega) he
          refine jx_astore k dS_pictureKnownAt_31 (Nat.le_of_ble_eq_true rfl) rfl (L' := [_, _, _, _, _, _, _]) rfl ?_
          refine jx_aload k dS_pictureKnownAt_33 rfl ?_
          refine jx_ifnull k dS_pictureKnownAt_35 ?_
          refine jx_aload k dS_pictureKnownAt_38 rfl ?_
          refine jx_get k fS_110 dS_pictureKnownAt_40 hB rfl ?_
          refine jx_ifnull k dS_pictureKnownAt_43 ?_
          refine jx_aload k dS_pictureKnownAt_46 rfl ?_
          refine jx_get k fS_114 dS_pictureKnownAt_48 hB rfl ?_
          refine jx_iconst k dS_pictureKnownAt_51 (v := (-1)) (by decide) ?_
          refine jx_icmp_eq k dS_pictureKnownAt_52 (tgt := 64) rfl (fun h1 => ?_) (fun h1 => ?_)
          · exact yes (.inl h1)
          · refine jx_aload k dS_pictureKnownAt_55 rfl ?_
            refine jx_get k fS_114 dS_pictureKnownAt_57 hB rfl ?_
            refine jx_iload_n k dS_pictureKnownAt_60 rfl ?_
            refine jx_icmp_ne k dS_pictureKnownAt_61 (tgt := 68) rfl (fun h2 => ?_) (fun h2 => ?_)
            · rw [if_neg (fun h => h.elim h1 h2)] at he
              refine jx_iconst k dS_pictureKnownAt_68 (v := 0) (by decide) ?_
              refine jx_istore k dS_pictureKnownAt_69 (Nat.le_of_ble_eq_true rfl) rfl (L' := [_, _, _, _, _, _, _]) rfl ?_
              refine jx_iload k dS_pictureKnownAt_71 rfl ?_
              refine jx_if_eq k dS_pictureKnownAt_73 (tgt := 84) rfl (fun _ => ?_) (fun hh => absurd rfl hh)
              refine jx_null k dS_pictureKnownAt_84 ?_
              refine jx_astore_nN k dS_pictureKnownAt_85 (Nat.le_of_ble_eq_true rfl) rfl (L' := [_, _, _, _, _, _, _]) rfl ?_
              refine jx_iload k dS_pictureKnownAt_86 rfl ?_
              refine jx_if_eq k dS_pictureKnownAt_88 (tgt := 99) rfl (fun _ => ?_) (fun hh => absurd rfl hh)
              refine jx_iconst k dS_pictureKnownAt_99 (v := (-1)) (by decide) ?_
              refine jx_istore_n k dS_pictureKnownAt_100 (Nat.le_of_ble_eq_true rfl) rfl (L' := [_, _, _, _, _, _, _]) rfl ?_
              refine jx_iinc k dS_pictureKnownAt_101 rfl rfl rfl (L' := [_, _, _, _, _, _, _]) rfl ?_
              refine jx_goto k dS_pictureKnownAt_104 (tgt := 18) rfl ?_
              refine jx_fg (jx_ls (jx_ls (jx_ls (jx_ls (jx_ls (jx_ln (jx_ln jx_l0))))))) ?_
              exact ih (none, -1) (by omega) he
            · exact yes (.inr h2)
  exact key (T % 10 + 1) (some sz, -1) (Nat.le_refl _) rfl
