/-- find: the earliest readable bundle with a sentence of a source -/
def mn_s (σ : rs_S) (src : Int32) (p q : Nat) (g : Bool) : Bool := g || decide (σ.2.1 7 (4 * p + q) = src)
def mn_f (σ : rs_S) (nj : Nat → Nat) (src fr : Int32) (p : Nat) (r : Int32) : Int32 :=
  if (fo_f (mn_s σ src p) 0 (nj p) false = true ∧ fr ≤ σ.2.1 4 p) ∧ (mi_r σ p = true ∧ (r < 0 ∨ σ.2.1 4 p < r)) then σ.2.1 4 p else r
def mn_r (σ : rs_S) (nj : Nat → Nat) (st src fr : Int32) : Int32 := if 0 ≤ st ∧ st < 3 then fo_f (mn_f σ nj src fr) (mb_lo st) (mb_hi st - mb_lo st) (-1) else -1
set_option maxRecDepth 100000 in
set_option maxHeartbeats 4000000 in
theorem q_find (l : Launch) (E : jx_E) (b : Nat) (G0 : jx_H) (sz mb : Nat) (σ : rs_S) (nj : Nat → Nat) (st src fr : Int32) (hn : ∀ p, p < 72 → σ.2.1 6 p = nI (nj p) ∧ nj p ≤ 4) : jx_ct l E b yM_find cM_find 8 (some .int) 2 0 0 [.ref mb, .int st, .int src, .int fr] (rm_G E mb σ G0) sz (rm_q E mb G0 sz (.int (mn_r σ nj st src fr)) (rs_f σ 0 0)) := by
  refine jx_met (by decide) (Nat.le_of_ble_eq_true rfl) (L0 := [_, _, _, _, _, _, _, _]) rfl (fun X k => ?_)
  have hb := mb_le st
  refine jx_aload_n k dM_find_0 rfl ?_
  refine jx_iconst k dM_find_1 (v := 0) (by decide) ?_
  refine rm_put k (j := 0) fM_83 dM_find_2 rfl rfl (Nat.le_of_ble_eq_true rfl) rfl ?_
  refine jx_iconst k dM_find_5 (v := (-1)) (by decide) ?_
  refine jx_istore k dM_find_6 (Nat.le_of_ble_eq_true rfl) rfl (L' := [_, _, _, _, _, _, _, _]) rfl ?_
  refine jx_iload_n k dM_find_8 rfl ?_
  refine jx_callSP k mM_112 (q_base _ _ _ _ _ st) dM_find_9 rfl rfl rfl (Nat.le_of_ble_eq_true rfl) ⟨Nat.le_of_ble_eq_true rfl, Nat.le_of_ble_eq_true rfl⟩ ⟨Nat.le_of_ble_eq_true rfl, Nat.le_of_ble_eq_true rfl⟩ ?_
  refine jx_istore k dM_find_12 (Nat.le_of_ble_eq_true rfl) rfl (L' := [_, _, _, _, _, _, _, _]) rfl ?_
  by_cases hs : 0 ≤ st ∧ st < 3
  · have hs1 : ¬ jb_z (0 ≤ st ∧ st < 3) = 0 := fun h => jb_e0.mp h hs
    have ek : mn_r σ nj st src fr = fo_f (mn_f σ nj src fr) (mb_lo st) (mb_hi st - mb_lo st) (-1) := by rw [mn_r, if_pos hs]
    refine fo_l (fun p r => jx_w X E b (jx_fin X E b (rm_q E mb G0 sz (.int (mn_r σ nj st src fr)) (rs_f σ 0 0)) 0 0) 14 [some (.ref mb), some (.int st), some (.int src), some (.int fr), some (.int r), some (.int (nI p)), none, none] [] (rm_G E mb (rs_f σ 0 0) G0) sz 0 0) (mn_f σ nj src fr) (lo := mb_lo st) (hi := mb_hi st) hb.1 (-1) ?_ ?_
    · intro p h1 h2
      generalize fo_f (mn_f σ nj src fr) (mb_lo st) (p - mb_lo st) (-1) = r
      intro kk
      obtain ⟨hn1, hn2⟩ := hn p (by omega)
      have k130 : ∀ (v : Int32) (g : Option Value), v = jb_z ((fo_f (mn_s σ src p) 0 (nj p) false = true ∧ fr ≤ σ.2.1 4 p) ∧ (mi_r σ p = true ∧ (r < 0 ∨ σ.2.1 4 p < r))) → jx_w X E b (jx_fin X E b (rm_q E mb G0 sz (.int (mn_r σ nj st src fr)) (rs_f σ 0 0)) 0 0) 130 [some (.ref mb), some (.int st), some (.int src), some (.int fr), some (.int r), some (.int (nI p)), none, none] [.int v] (rm_G E mb (rs_f σ 0 0) G0) sz 0 0 := by
        rintro v g rfl
        refine jx_istore k dM_find_130 (Nat.le_of_ble_eq_true rfl) rfl (L' := [_, _, _, _, _, _, _, _]) rfl ?_
        refine jx_iload k dM_find_132 rfl ?_
        refine jx_if_eq k dM_find_134 (tgt := 147) rfl (fun h3 => ?_) (fun h3 => ?_)
        · rw [mn_f, if_neg (jb_e0.mp h3)] at kk
          refine jx_iload k dM_find_147 rfl ?_
          refine jx_istore k dM_find_149 (Nat.le_of_ble_eq_true rfl) rfl (L' := [_, _, _, _, _, _, _, _]) rfl ?_
          refine jx_iinc k dM_find_151 rfl (nI_1 p) rfl (L' := [_, _, _, _, _, _, _, _]) rfl ?_
          refine jx_goto k dM_find_154 (tgt := 14) rfl ?_
          refine jx_fg (jx_ls (jx_ls (jx_ls (jx_ls (jx_ls (jx_ls (jx_ls (jx_ln jx_l0)))))))) ?_
          exact kk
        · rw [mn_f, if_pos (Decidable.byContradiction (fun h => h3 (jb_f h)))] at kk
          refine jx_aload_n k dM_find_137 rfl ?_
          refine rm_get k fM_28 dM_find_138 rfl ?_
          refine jx_iload k dM_find_141 rfl ?_
          refine rm_ild k dM_find_143 (by decide) rfl (p := p) rfl (by omega) (by decide) ?_
          refine jx_goto k dM_find_144 (tgt := 149) rfl ?_
          refine jx_istore k dM_find_149 (Nat.le_of_ble_eq_true rfl) rfl (L' := [_, _, _, _, _, _, _, _]) rfl ?_
          refine jx_iinc k dM_find_151 rfl (nI_1 p) rfl (L' := [_, _, _, _, _, _, _, _]) rfl ?_
          refine jx_goto k dM_find_154 (tgt := 14) rfl ?_
          refine jx_fg (jx_ls (jx_ls (jx_ls (jx_ls (jx_ls (jx_ls (jx_ls (jx_ln jx_l0)))))))) ?_
          exact kk
      refine jx_aload_n k dM_find_14 rfl ?_
      refine jx_iload_n k dM_find_15 rfl ?_
      refine jx_callVP k mM_160 (q_isStore _ _ _ _ _ mb st) rm_a0 rfl dM_find_16 rfl rfl rfl (Nat.le_of_ble_eq_true rfl) ⟨Nat.le_of_ble_eq_true rfl, Nat.le_of_ble_eq_true rfl⟩ ⟨Nat.le_of_ble_eq_true rfl, Nat.le_of_ble_eq_true rfl⟩ ?_
      refine jx_if_eq k dM_find_19 (tgt := 157) rfl (fun hh => absurd hh hs1) (fun _ => ?_)
      refine jx_iload k dM_find_22 rfl ?_
      refine jx_iload_n k dM_find_24 rfl ?_
      refine jx_callSP k mM_116 (q_end _ _ _ _ _ st) dM_find_25 rfl rfl rfl (Nat.le_of_ble_eq_true rfl) ⟨Nat.le_of_ble_eq_true rfl, Nat.le_of_ble_eq_true rfl⟩ ⟨Nat.le_of_ble_eq_true rfl, Nat.le_of_ble_eq_true rfl⟩ ?_
      refine jx_icmp_ge k dM_find_28 (tgt := 157) rfl (fun hh => absurd hh (nI_ge h2 (by omega))) (fun _ => ?_)
      refine jx_iconst k dM_find_31 (v := 0) (by decide) ?_
      refine jx_istore k dM_find_32 (Nat.le_of_ble_eq_true rfl) rfl (L' := [_, _, _, _, _, _, _, _]) rfl ?_
      refine jx_iconst k dM_find_34 (v := 0) (by decide) ?_
      refine jx_istore k dM_find_35 (Nat.le_of_ble_eq_true rfl) rfl (L' := [_, _, _, _, _, _, _, _]) rfl ?_
      refine fo_l (fun q g => jx_w X E b (jx_fin X E b (rm_q E mb G0 sz (.int (mn_r σ nj st src fr)) (rs_f σ 0 0)) 0 0) 37 [some (.ref mb), some (.int st), some (.int src), some (.int fr), some (.int r), some (.int (nI p)), some (.int (jb_z (g = true))), some (.int (nI q))] [] (rm_G E mb (rs_f σ 0 0) G0) sz 0 0) (mn_s σ src p) (lo := 0) (hi := nj p) (Nat.zero_le _) false ?_ ?_
      · intro q g1 g2
        generalize fo_f (mn_s σ src p) 0 (q - 0) false = g
        intro kq
        have k75 : ∀ v : Int32, v = jb_z (mn_s σ src p q g = true) → jx_w X E b (jx_fin X E b (rm_q E mb G0 sz (.int (mn_r σ nj st src fr)) (rs_f σ 0 0)) 0 0) 75 [some (.ref mb), some (.int st), some (.int src), some (.int fr), some (.int r), some (.int (nI p)), some (.int (jb_z (g = true))), some (.int (nI q))] [.int v] (rm_G E mb (rs_f σ 0 0) G0) sz 0 0 := by
          rintro v rfl
          refine jx_istore k dM_find_75 (Nat.le_of_ble_eq_true rfl) rfl (L' := [_, _, _, _, _, _, _, _]) rfl ?_
          refine jx_iinc k dM_find_77 rfl (nI_1 q) rfl (L' := [_, _, _, _, _, _, _, _]) rfl ?_
          refine jx_goto k dM_find_80 (tgt := 37) rfl ?_
          exact kq
        refine jx_iload k dM_find_37 rfl ?_
        refine jx_aload_n k dM_find_39 rfl ?_
        refine rm_get k fM_34 dM_find_40 rfl ?_
        refine jx_iload k dM_find_43 rfl ?_
        refine rm_ildV k dM_find_45 (by decide) rfl (p := p) rfl (by omega) (by decide) hn1 ?_
        refine jx_icmp_ge k dM_find_46 (tgt := 83) rfl (fun hh => absurd hh (nI_ge g2 (by omega))) (fun _ => ?_)
        refine jx_iload k dM_find_49 rfl ?_
        refine jx_if_ne k dM_find_51 (tgt := 70) rfl (fun h3 => ?_) (fun h3 => ?_)
        · have hg : g = true := by cases g with | true => rfl | false => exact absurd rfl h3
          subst hg
          refine jx_iconst k dM_find_70 (v := 1) (by decide) ?_
          refine jx_goto k dM_find_71 (tgt := 75) rfl ?_
          exact k75 _ (by rw [jb_t (by simp [mn_s])])
        · have hg : g = false := by cases g with | false => rfl | true => exact absurd h3 (by decide)
          subst hg
          refine jx_aload_n k dM_find_54 rfl ?_
          refine rm_get k fM_37 dM_find_55 rfl ?_
          refine jx_iconst k dM_find_58 (v := 4) (by decide) ?_
          refine jx_iload k dM_find_59 rfl ?_
          refine jx_imul k dM_find_61 ?_
          refine jx_iload k dM_find_62 rfl ?_
          refine jx_iadd k dM_find_64 ?_
          refine rm_ild k dM_find_65 (by decide) rfl (p := 4 * p + q) (nI_ml 4 p q) (by omega) (by decide) ?_
          refine jx_iload_n k dM_find_66 rfl ?_
          refine jx_icmp_ne k dM_find_67 (tgt := 74) rfl (fun (h4 : ¬ (σ.2.1 7 (4 * p + q) = src)) => ?_) (fun (h4 : σ.2.1 7 (4 * p + q) = src) => ?_)
          · refine jx_iconst k dM_find_74 (v := 0) (by decide) ?_
            exact k75 _ (by rw [jb_f (by simp [mn_s, h4])])
          · refine jx_iconst k dM_find_70 (v := 1) (by decide) ?_
            refine jx_goto k dM_find_71 (tgt := 75) rfl ?_
            exact k75 _ (by rw [jb_t (by simp [mn_s, h4])])
      · generalize hsg : fo_f (mn_s σ src p) 0 (nj p - 0) false = sg
        have hsg : fo_f (mn_s σ src p) 0 (nj p) false = sg := hsg
        rw [hsg] at k130
        refine jx_iload k dM_find_37 rfl ?_
        refine jx_aload_n k dM_find_39 rfl ?_
        refine rm_get k fM_34 dM_find_40 rfl ?_
        refine jx_iload k dM_find_43 rfl ?_
        refine rm_ildV k dM_find_45 (by decide) rfl (p := p) rfl (by omega) (by decide) hn1 ?_
        refine jx_icmp_ge k dM_find_46 (tgt := 83) rfl (fun _ => ?_) (fun hh => absurd (nI_le (Nat.le_refl _) (by omega)) hh)
        refine jx_iload k dM_find_83 rfl ?_
        refine jx_if_eq k dM_find_85 (tgt := 129) rfl (fun h3 => ?_) (fun h3 => ?_)
        · refine jx_iconst k dM_find_129 (v := 0) (by decide) ?_
          refine jx_fg (jx_ls (jx_ls (jx_ls (jx_ls (jx_ls (jx_ls (jx_ln (jx_ln jx_l0)))))))) ?_
          exact k130 _ none (by rw [jb_f (fun h => jb_e0.mp h3 h.1.1)])
        · have hg : sg = true := by cases sg with | true => rfl | false => exact absurd rfl h3
          subst hg
          refine jx_aload_n k dM_find_88 rfl ?_
          refine rm_get k fM_28 dM_find_89 rfl ?_
          refine jx_iload k dM_find_92 rfl ?_
          refine rm_ild k dM_find_94 (by decide) rfl (p := p) rfl (by omega) (by decide) ?_
          refine jx_iload_n k dM_find_95 rfl ?_
          refine jx_icmp_lt k dM_find_96 (tgt := 129) rfl (fun (h4 : σ.2.1 4 p < fr) => ?_) (fun (h4 : ¬ (σ.2.1 4 p < fr)) => ?_)
          · refine jx_iconst k dM_find_129 (v := 0) (by decide) ?_
            refine jx_fg (jx_ls (jx_ls (jx_ls (jx_ls (jx_ls (jx_ls (jx_ln (jx_ln jx_l0)))))))) ?_
            exact k130 _ none (by rw [jb_f (fun h => absurd h.1.2 (Int32.not_le.mpr h4))])
          · refine jx_aload_n k dM_find_99 rfl ?_
            refine jx_iload k dM_find_100 rfl ?_
            refine jx_callVP k mM_163 (q_isReadable _ _ _ _ _ _ (rs_f σ 0 0) p (by omega)) rm_a0 rfl dM_find_102 rfl rfl rfl (Nat.le_of_ble_eq_true rfl) ⟨Nat.le_of_ble_eq_true rfl, Nat.le_of_ble_eq_true rfl⟩ ⟨Nat.le_of_ble_eq_true rfl, Nat.le_of_ble_eq_true rfl⟩ ?_
            refine jx_if_eq k dM_find_105 (tgt := 129) rfl (fun (h5 : jb_z (mi_r σ p = true) = 0) => ?_) (fun (h5 : ¬ (jb_z (mi_r σ p = true) = 0)) => ?_)
            · refine jx_iconst k dM_find_129 (v := 0) (by decide) ?_
              refine jx_fg (jx_ls (jx_ls (jx_ls (jx_ls (jx_ls (jx_ls (jx_ln (jx_ln jx_l0)))))))) ?_
              exact k130 _ none (by rw [jb_f (fun h => jb_e0.mp h5 h.2.1)])
            · have h5 : mi_r σ p = true := Decidable.byContradiction (fun h => h5 (jb_f h))
              refine jx_iload k dM_find_108 rfl ?_
              refine jx_if_lt k dM_find_110 (tgt := 125) rfl (fun h6 => ?_) (fun h6 => ?_)
              · refine jx_iconst k dM_find_125 (v := 1) (by decide) ?_
                refine jx_goto k dM_find_126 (tgt := 130) rfl ?_
                refine jx_fg (jx_ls (jx_ls (jx_ls (jx_ls (jx_ls (jx_ls (jx_ln (jx_ln jx_l0)))))))) ?_
                exact k130 _ none (by rw [jb_t ⟨⟨rfl, Int32.not_lt.mp h4⟩, h5, Or.inl h6⟩])
              · refine jx_aload_n k dM_find_113 rfl ?_
                refine rm_get k fM_28 dM_find_114 rfl ?_
                refine jx_iload k dM_find_117 rfl ?_
                refine rm_ild k dM_find_119 (by decide) rfl (p := p) rfl (by omega) (by decide) ?_
                refine jx_iload k dM_find_120 rfl ?_
                refine jx_icmp_ge k dM_find_122 (tgt := 129) rfl (fun (h7 : r ≤ σ.2.1 4 p) => ?_) (fun (h7 : ¬ (r ≤ σ.2.1 4 p)) => ?_)
                · refine jx_iconst k dM_find_129 (v := 0) (by decide) ?_
                  refine jx_fg (jx_ls (jx_ls (jx_ls (jx_ls (jx_ls (jx_ls (jx_ln (jx_ln jx_l0)))))))) ?_
                  exact k130 _ none (by rw [jb_f (fun h => h.2.2.elim h6 (fun h => absurd h (Int32.not_lt.mpr h7)))])
                · refine jx_iconst k dM_find_125 (v := 1) (by decide) ?_
                  refine jx_goto k dM_find_126 (tgt := 130) rfl ?_
                  refine jx_fg (jx_ls (jx_ls (jx_ls (jx_ls (jx_ls (jx_ls (jx_ln (jx_ln jx_l0)))))))) ?_
                  exact k130 _ none (by rw [jb_t ⟨⟨rfl, Int32.not_lt.mp h4⟩, h5, Or.inr (Int32.not_le.mp h7)⟩])
    · refine jx_aload_n k dM_find_14 rfl ?_
      refine jx_iload_n k dM_find_15 rfl ?_
      refine jx_callVP k mM_160 (q_isStore _ _ _ _ _ mb st) rm_a0 rfl dM_find_16 rfl rfl rfl (Nat.le_of_ble_eq_true rfl) ⟨Nat.le_of_ble_eq_true rfl, Nat.le_of_ble_eq_true rfl⟩ ⟨Nat.le_of_ble_eq_true rfl, Nat.le_of_ble_eq_true rfl⟩ ?_
      refine jx_if_eq k dM_find_19 (tgt := 157) rfl (fun hh => absurd hh hs1) (fun _ => ?_)
      refine jx_iload k dM_find_22 rfl ?_
      refine jx_iload_n k dM_find_24 rfl ?_
      refine jx_callSP k mM_116 (q_end _ _ _ _ _ st) dM_find_25 rfl rfl rfl (Nat.le_of_ble_eq_true rfl) ⟨Nat.le_of_ble_eq_true rfl, Nat.le_of_ble_eq_true rfl⟩ ⟨Nat.le_of_ble_eq_true rfl, Nat.le_of_ble_eq_true rfl⟩ ?_
      refine jx_icmp_ge k dM_find_28 (tgt := 157) rfl (fun _ => ?_) (fun hh => absurd (nI_le (Nat.le_refl _) (by omega)) hh)
      refine jx_iload k dM_find_157 rfl ?_
      exact jx_iret k dM_find_159 (Nat.le_refl _) (Nat.le_refl _) ⟨by rw [ek], rfl, rfl⟩
  · refine jx_aload_n k dM_find_14 rfl ?_
    refine jx_iload_n k dM_find_15 rfl ?_
    refine jx_callVP k mM_160 (q_isStore _ _ _ _ _ mb st) rm_a0 rfl dM_find_16 rfl rfl rfl (Nat.le_of_ble_eq_true rfl) ⟨Nat.le_of_ble_eq_true rfl, Nat.le_of_ble_eq_true rfl⟩ ⟨Nat.le_of_ble_eq_true rfl, Nat.le_of_ble_eq_true rfl⟩ ?_
    refine jx_if_eq k dM_find_19 (tgt := 157) rfl (fun _ => ?_) (fun hh => absurd (jb_f hs) hh)
    refine jx_iload k dM_find_157 rfl ?_
    exact jx_iret k dM_find_159 (Nat.le_refl _) (Nat.le_refl _) ⟨by rw [mn_r, if_neg hs], rfl, rfl⟩
/-- pages that the freezes hold or may need -/
def me_1 (σ : rs_S) (p : Nat) (n : Int32) : Int32 := if 0 ≤ σ.2.1 4 p ∧ mz_t σ (σ.2.1 4 p) = true then n + σ.2.1 5 p else n
def me_2 (σ : rs_S) (p : Nat) (n : Int32) : Int32 := if mz_t σ (nI p) = true then n + 5 else n
def me_n (σ : rs_S) (nw : Nat) : Int32 := fo_f (me_2 σ) nw 10 (fo_f (me_1 σ) 0 40 0)
set_option maxRecDepth 100000 in
set_option maxHeartbeats 4000000 in
theorem q_frozenPages (l : Launch) (E : jx_E) (b : Nat) (G0 : jx_H) (sz mb : Nat) (σ : rs_S) (nw : Nat) (hw : σ.1 1 = nI nw) (hw2 : nw ≤ 9999) : jx_ct l E b yM_frozenPages cM_frozenPages 3 (some .int) 1 0 0 [.ref mb] (rm_G E mb σ G0) sz (jx_pu (.int (me_n σ nw)) (rm_G E mb σ G0) sz) := by
  refine jx_met (by decide) (Nat.le_of_ble_eq_true rfl) (L0 := [_, _, _]) rfl (fun X k => ?_)
  refine jx_iconst k dM_frozenPages_0 (v := 0) (by decide) ?_
  refine jx_istore_n k dM_frozenPages_1 (Nat.le_of_ble_eq_true rfl) rfl (L' := [_, _, _]) rfl ?_
  refine jx_iconst k dM_frozenPages_2 (v := 0) (by decide) ?_
  refine jx_istore_n k dM_frozenPages_3 (Nat.le_of_ble_eq_true rfl) rfl (L' := [_, _, _]) rfl ?_
  refine fo_l (fun p n => jx_w X E b (jx_fin X E b (jx_pu (.int (me_n σ nw)) (rm_G E mb σ G0) sz) 0 0) 4 [some (.ref mb), some (.int n), some (.int (nI p))] [] (rm_G E mb σ G0) sz 0 0) (me_1 σ) (lo := 0) (hi := 40) (by decide) 0 ?_ ?_
  · intro p h1 h2
    generalize fo_f (me_1 σ) 0 (p - 0) 0 = n
    intro kk
    refine jx_iload_n k dM_frozenPages_4 rfl ?_
    refine jx_bipush k dM_frozenPages_5 (v := 40) (by decide) ?_
    refine jx_icmp_ge k dM_frozenPages_7 (tgt := 51) rfl (fun hh => absurd hh (nI_ge (b := 40) h2 (by decide))) (fun _ => ?_)
    refine jx_aload_n k dM_frozenPages_10 rfl ?_
    refine rm_get k fM_28 dM_frozenPages_11 rfl ?_
    refine jx_iload_n k dM_frozenPages_14 rfl ?_
    refine rm_ild k dM_frozenPages_15 (by decide) rfl (p := p) rfl (by omega) (by decide) ?_
    refine jx_if_lt k dM_frozenPages_16 (tgt := 43) rfl (fun h3 => ?_) (fun h3 => ?_)
    · rw [me_1, if_neg (fun h => absurd h.1 (Int32.not_le.mpr h3))] at kk
      refine jx_iload_n k dM_frozenPages_43 rfl ?_
      refine jx_istore_n k dM_frozenPages_44 (Nat.le_of_ble_eq_true rfl) rfl (L' := [_, _, _]) rfl ?_
      refine jx_iinc k dM_frozenPages_45 rfl (nI_1 p) rfl (L' := [_, _, _]) rfl ?_
      refine jx_goto k dM_frozenPages_48 (tgt := 4) rfl ?_
      exact kk
    · refine jx_aload_n k dM_frozenPages_19 rfl ?_
      refine jx_aload_n k dM_frozenPages_20 rfl ?_
      refine rm_get k fM_28 dM_frozenPages_21 rfl ?_
      refine jx_iload_n k dM_frozenPages_24 rfl ?_
      refine rm_ild k dM_frozenPages_25 (by decide) rfl (p := p) rfl (by omega) (by decide) ?_
      refine jx_callVP k mM_122 (q_isFrozen _ _ _ _ _ _ σ (σ.2.1 4 p)) rm_a0 rfl dM_frozenPages_26 rfl rfl rfl (Nat.le_of_ble_eq_true rfl) ⟨Nat.le_of_ble_eq_true rfl, Nat.le_of_ble_eq_true rfl⟩ ⟨Nat.le_of_ble_eq_true rfl, Nat.le_of_ble_eq_true rfl⟩ ?_
      refine jx_if_eq k dM_frozenPages_29 (tgt := 43) rfl (fun h4 => ?_) (fun h4 => ?_)
      · rw [me_1, if_neg (fun h => jb_e0.mp h4 h.2)] at kk
        refine jx_iload_n k dM_frozenPages_43 rfl ?_
        refine jx_istore_n k dM_frozenPages_44 (Nat.le_of_ble_eq_true rfl) rfl (L' := [_, _, _]) rfl ?_
        refine jx_iinc k dM_frozenPages_45 rfl (nI_1 p) rfl (L' := [_, _, _]) rfl ?_
        refine jx_goto k dM_frozenPages_48 (tgt := 4) rfl ?_
        exact kk
      · rw [me_1, if_pos ⟨Int32.not_lt.mp h3, Decidable.byContradiction (fun h => h4 (jb_f h))⟩] at kk
        refine jx_iload_n k dM_frozenPages_32 rfl ?_
        refine jx_aload_n k dM_frozenPages_33 rfl ?_
        refine rm_get k fM_31 dM_frozenPages_34 rfl ?_
        refine jx_iload_n k dM_frozenPages_37 rfl ?_
        refine rm_ild k dM_frozenPages_38 (by decide) rfl (p := p) rfl (by omega) (by decide) ?_
        refine jx_iadd k dM_frozenPages_39 ?_
        refine jx_goto k dM_frozenPages_40 (tgt := 44) rfl ?_
        refine jx_istore_n k dM_frozenPages_44 (Nat.le_of_ble_eq_true rfl) rfl (L' := [_, _, _]) rfl ?_
        refine jx_iinc k dM_frozenPages_45 rfl (nI_1 p) rfl (L' := [_, _, _]) rfl ?_
        refine jx_goto k dM_frozenPages_48 (tgt := 4) rfl ?_
        exact kk
  · generalize hn0 : fo_f (me_1 σ) 0 (40 - 0) 0 = n0
    have en : me_n σ nw = fo_f (me_2 σ) nw (nw + 10 - nw) n0 := by rw [me_n, ← hn0, Nat.add_sub_cancel_left]
    refine jx_iload_n k dM_frozenPages_4 rfl ?_
    refine jx_bipush k dM_frozenPages_5 (v := 40) (by decide) ?_
    refine jx_icmp_ge k dM_frozenPages_7 (tgt := 51) rfl (fun _ => ?_) (fun hh => absurd (nI_le (a := 40) (b := 40) (by decide) (by decide)) hh)
    refine jx_aload_n k dM_frozenPages_51 rfl ?_
    refine rm_get k fM_105 dM_frozenPages_52 rfl ?_
    rw [hw]
    refine jx_istore_n k dM_frozenPages_55 (Nat.le_of_ble_eq_true rfl) rfl (L' := [_, _, _]) rfl ?_
    refine fo_l (fun p n => jx_w X E b (jx_fin X E b (jx_pu (.int (me_n σ nw)) (rm_G E mb σ G0) sz) 0 0) 56 [some (.ref mb), some (.int n), some (.int (nI p))] [] (rm_G E mb σ G0) sz 0 0) (me_2 σ) (lo := nw) (hi := nw + 10) (by omega) n0 ?_ ?_
    · intro p h1 h2
      generalize fo_f (me_2 σ) nw (p - nw) n0 = n
      intro kk
      refine jx_iload_n k dM_frozenPages_56 rfl ?_
      refine jx_aload_n k dM_frozenPages_57 rfl ?_
      refine rm_get k fM_105 dM_frozenPages_58 rfl ?_
      refine jx_bipush k dM_frozenPages_61 (v := 10) (by decide) ?_
      refine jx_iadd k dM_frozenPages_63 ?_
      rw [hw, show (10 : Int32) = nI 10 from rfl, nI_add]
      refine jx_icmp_ge k dM_frozenPages_64 (tgt := 89) rfl (fun hh => absurd hh (nI_ge h2 (by omega))) (fun _ => ?_)
      refine jx_aload_n k dM_frozenPages_67 rfl ?_
      refine jx_iload_n k dM_frozenPages_68 rfl ?_
      refine jx_callVP k mM_122 (q_isFrozen _ _ _ _ _ _ σ (nI p)) rm_a0 rfl dM_frozenPages_69 rfl rfl rfl (Nat.le_of_ble_eq_true rfl) ⟨Nat.le_of_ble_eq_true rfl, Nat.le_of_ble_eq_true rfl⟩ ⟨Nat.le_of_ble_eq_true rfl, Nat.le_of_ble_eq_true rfl⟩ ?_
      refine jx_if_eq k dM_frozenPages_72 (tgt := 81) rfl (fun h4 => ?_) (fun h4 => ?_)
      · rw [me_2, if_neg (jb_e0.mp h4)] at kk
        refine jx_iload_n k dM_frozenPages_81 rfl ?_
        refine jx_istore_n k dM_frozenPages_82 (Nat.le_of_ble_eq_true rfl) rfl (L' := [_, _, _]) rfl ?_
        refine jx_iinc k dM_frozenPages_83 rfl (nI_1 p) rfl (L' := [_, _, _]) rfl ?_
        refine jx_goto k dM_frozenPages_86 (tgt := 56) rfl ?_
        exact kk
      · rw [me_2, if_pos (Decidable.byContradiction (fun h => h4 (jb_f h)))] at kk
        refine jx_iload_n k dM_frozenPages_75 rfl ?_
        refine jx_iconst k dM_frozenPages_76 (v := 5) (by decide) ?_
        refine jx_iadd k dM_frozenPages_77 ?_
        refine jx_goto k dM_frozenPages_78 (tgt := 82) rfl ?_
        refine jx_istore_n k dM_frozenPages_82 (Nat.le_of_ble_eq_true rfl) rfl (L' := [_, _, _]) rfl ?_
        refine jx_iinc k dM_frozenPages_83 rfl (nI_1 p) rfl (L' := [_, _, _]) rfl ?_
        refine jx_goto k dM_frozenPages_86 (tgt := 56) rfl ?_
        exact kk
    · refine jx_iload_n k dM_frozenPages_56 rfl ?_
      refine jx_aload_n k dM_frozenPages_57 rfl ?_
      refine rm_get k fM_105 dM_frozenPages_58 rfl ?_
      refine jx_bipush k dM_frozenPages_61 (v := 10) (by decide) ?_
      refine jx_iadd k dM_frozenPages_63 ?_
      rw [hw, show (10 : Int32) = nI 10 from rfl, nI_add]
      refine jx_icmp_ge k dM_frozenPages_64 (tgt := 89) rfl (fun _ => ?_) (fun hh => absurd (nI_le (Nat.le_refl _) (by omega)) hh)
      refine jx_iload_n k dM_frozenPages_89 rfl ?_
      exact jx_iret k dM_frozenPages_90 (Nat.le_refl _) (Nat.le_refl _) ⟨by rw [en], rfl, rfl⟩
/-- freeze -/
def mx_f (σ : rs_S) : Nat → Nat → Nat
  | 0, f => f
  | n + 1, f => if σ.2.1 17 f = 0 then f else mx_f σ n (f + 1)
theorem mx_le (σ : rs_S) : ∀ n f, mx_f σ n f ≤ f + n := by
  intro n
  induction n with
  | zero => intro f; exact Nat.le_refl _
  | succ n ih =>
    intro f
    rw [mx_f]
    split
    · omega
    · have := ih (f + 1); omega
def mx_s (σ : rs_S) (f : Nat) (be af : Int32) : rs_S := rs_a (rs_a (rs_a (rs_f σ 0 0) 17 (upd (σ.2.1 17) f 1)) 18 (upd (σ.2.1 18) f (if σ.1 1 ≤ be then 0 else σ.1 1 - be))) 19 (upd (σ.2.1 19) f (σ.1 1 + af))
def ms_freeze (σ : rs_S) (nw : Nat) (be af : Int32) : Int32 × rs_S :=
  if σ.1 2 = 0 then (0, rs_f σ 0 1)
  else if (0 ≤ be ∧ be < 10) ∧ (0 ≤ af ∧ af < 10) ∧ mx_f σ 3 0 ≠ 3 then
    (if me_n (mx_s σ (mx_f σ 3 0) be af) nw ≤ 20 then (nI (mx_f σ 3 0), rs_a (mx_s σ (mx_f σ 3 0) be af) 17 (upd (upd (σ.2.1 17) (mx_f σ 3 0) 1) (mx_f σ 3 0) 1))
    else (-1, rs_a (mx_s σ (mx_f σ 3 0) be af) 17 (upd (upd (σ.2.1 17) (mx_f σ 3 0) 1) (mx_f σ 3 0) 0)))
  else (-1, rs_f σ 0 0)
theorem va_x0 (σ : rs_S) (f : Nat) (be af : Int32) : (rs_a (mx_s σ f be af) 17 (upd ((mx_s σ f be af).2.1 17) f 0)).2.1 17 f = 0 := by
  rw [rs_av]
  exact pk_us
theorem va_x1 (σ : rs_S) (f : Nat) (be af : Int32) : (rs_a (mx_s σ f be af) 17 (upd ((mx_s σ f be af).2.1 17) f 1)).2.1 17 f = 1 := by
  rw [rs_av]
  exact pk_us
set_option maxRecDepth 100000 in
set_option maxHeartbeats 8000000 in
theorem q_freeze (l : Launch) (E : jx_E) (b : Nat) (G0 : jx_H) (sz mb : Nat) (σ : rs_S) (nw : Nat) (be af : Int32) (hw : σ.1 1 = nI nw) (hw2 : nw ≤ 9999) : jx_ct l E b yM_freeze cM_freeze 4 (some .int) 2 0 0 [.ref mb, .int be, .int af] (rm_G E mb σ G0) sz (rm_q E mb G0 sz (.int (ms_freeze σ nw be af).1) (ms_freeze σ nw be af).2) := by
  refine jx_met (by decide) (Nat.le_of_ble_eq_true rfl) (L0 := [_, _, _, _]) rfl (fun X k => ?_)
  refine jx_aload_n k dM_freeze_0 rfl ?_
  refine jx_aload_n k dM_freeze_1 rfl ?_
  refine rm_get k fM_7 dM_freeze_2 rfl ?_
  refine jx_if_eq k dM_freeze_5 (tgt := 12) rfl (fun h1 => ?_) (fun h1 => ?_)
  · have e : ms_freeze σ nw be af = (0, rs_f σ 0 1) := by rw [ms_freeze, if_pos h1]
    refine jx_iconst k dM_freeze_12 (v := 1) (by decide) ?_
    refine rm_put k (j := 0) fM_83 dM_freeze_13 rfl rfl (Nat.le_of_ble_eq_true rfl) rfl ?_
    refine jx_aload_n k dM_freeze_16 rfl ?_
    refine rm_get k fM_83 dM_freeze_17 rfl ?_
    refine jx_if_le k dM_freeze_20 (tgt := 25) rfl (fun hh => absurd hh (by show ¬ ((1 : Int32) ≤ 0); decide)) (fun _ => ?_)
    refine jx_iconst k dM_freeze_23 (v := 0) (by decide) ?_
    exact jx_iret k dM_freeze_24 (Nat.le_refl _) (Nat.le_refl _) ⟨by rw [e], by rw [e], rfl⟩
  · have hm3 := mx_le σ 3 0
    have k48 : jx_w X E b (jx_fin X E b (rm_q E mb G0 sz (.int (ms_freeze σ nw be af).1) (ms_freeze σ nw be af).2) 0 0) 48 [some (.ref mb), some (.int be), some (.int af), some (.int (nI (mx_f σ 3 0)))] [] (rm_G E mb (rs_f σ 0 0) G0) sz 0 0 := by
      generalize hf : mx_f σ 3 0 = f at hm3
      refine jx_iload_n k dM_freeze_48 rfl ?_
      refine jx_bipush k dM_freeze_49 (v := 10) (by decide) ?_
      refine jx_callSP k mM_96 (q_isIn _ _ _ _ _ be 10) dM_freeze_51 rfl rfl rfl (Nat.le_of_ble_eq_true rfl) ⟨Nat.le_of_ble_eq_true rfl, Nat.le_of_ble_eq_true rfl⟩ ⟨Nat.le_of_ble_eq_true rfl, Nat.le_of_ble_eq_true rfl⟩ ?_
      refine jx_if_eq k dM_freeze_54 (tgt := 71) rfl (fun h2 => ?_) (fun h2 => ?_)
      · have e : ms_freeze σ nw be af = (-1, rs_f σ 0 0) := by rw [ms_freeze, if_neg h1, if_neg (fun h => jb_e0.mp h2 h.1)]
        refine jx_iconst k dM_freeze_71 (v := (-1)) (by decide) ?_
        exact jx_iret k dM_freeze_72 (Nat.le_refl _) (Nat.le_refl _) ⟨by rw [e], by rw [e], rfl⟩
      · refine jx_iload_n k dM_freeze_57 rfl ?_
        refine jx_bipush k dM_freeze_58 (v := 10) (by decide) ?_
        refine jx_callSP k mM_96 (q_isIn _ _ _ _ _ af 10) dM_freeze_60 rfl rfl rfl (Nat.le_of_ble_eq_true rfl) ⟨Nat.le_of_ble_eq_true rfl, Nat.le_of_ble_eq_true rfl⟩ ⟨Nat.le_of_ble_eq_true rfl, Nat.le_of_ble_eq_true rfl⟩ ?_
        refine jx_if_eq k dM_freeze_63 (tgt := 71) rfl (fun h3 => ?_) (fun h3 => ?_)
        · have e : ms_freeze σ nw be af = (-1, rs_f σ 0 0) := by rw [ms_freeze, if_neg h1, if_neg (fun h => jb_e0.mp h3 h.2.1)]
          refine jx_iconst k dM_freeze_71 (v := (-1)) (by decide) ?_
          exact jx_iret k dM_freeze_72 (Nat.le_refl _) (Nat.le_refl _) ⟨by rw [e], by rw [e], rfl⟩
        · refine jx_iload_n k dM_freeze_66 rfl ?_
          refine jx_iconst k dM_freeze_67 (v := 3) (by decide) ?_
          refine jx_icmp_ne k dM_freeze_68 (tgt := 73) rfl (fun h4 => ?_) (fun h4 => ?_)
          · have h5 : f ≠ 3 := fun h => h4 (by rw [h]; rfl)
            have e : ms_freeze σ nw be af = (if me_n (mx_s σ f be af) nw ≤ 20 then (nI f, rs_a (mx_s σ f be af) 17 (upd (upd (σ.2.1 17) f 1) f 1)) else (-1, rs_a (mx_s σ f be af) 17 (upd (upd (σ.2.1 17) f 1) f 0))) := by
              rw [ms_freeze, if_neg h1, if_pos ⟨Decidable.byContradiction (fun h => h2 (jb_f h)), Decidable.byContradiction (fun h => h3 (jb_f h)), by rw [hf]; exact h5⟩, hf]
            have k103 : ∀ v : Int32, v = (if σ.1 1 ≤ be then 0 else σ.1 1 - be) → jx_w X E b (jx_fin X E b (rm_q E mb G0 sz (.int (ms_freeze σ nw be af).1) (ms_freeze σ nw be af).2) 0 0) 103 [some (.ref mb), some (.int be), some (.int af), some (.int (nI f))] [.int v, .int (nI f), .ref (mb + 18)] (rm_G E mb (rs_a (rs_f σ 0 0) 17 (upd (σ.2.1 17) f 1)) G0) sz 0 0 := by
              rintro v rfl
              refine rm_ist k dM_freeze_103 (by decide) (fun _ => rfl) (p := f) rfl (by omega) (by decide) ?_
              refine jx_aload_n k dM_freeze_104 rfl ?_
              refine rm_get k fM_77 dM_freeze_105 rfl ?_
              refine jx_iload_n k dM_freeze_108 rfl ?_
              refine jx_aload_n k dM_freeze_109 rfl ?_
              refine rm_get k fM_105 dM_freeze_110 rfl ?_
              refine jx_iload_n k dM_freeze_113 rfl ?_
              refine jx_iadd k dM_freeze_114 ?_
              refine rm_ist k dM_freeze_115 (by decide) (fun _ => rfl) (p := f) rfl (by omega) (by decide) ?_
              refine jx_aload_n k dM_freeze_116 rfl ?_
              refine rm_get k fM_71 dM_freeze_117 rfl ?_
              refine jx_iload_n k dM_freeze_120 rfl ?_
              refine jx_aload_n k dM_freeze_121 rfl ?_
              refine jx_callVP k mM_157 (q_frozenPages _ _ _ _ _ _ (mx_s σ f be af) nw hw hw2) rm_a0 rfl dM_freeze_122 rfl rfl rfl (Nat.le_of_ble_eq_true rfl) ⟨Nat.le_of_ble_eq_true rfl, Nat.le_of_ble_eq_true rfl⟩ ⟨Nat.le_of_ble_eq_true rfl, Nat.le_of_ble_eq_true rfl⟩ ?_
              refine jx_bipush k dM_freeze_125 (v := 20) (by decide) ?_
              refine jx_icmp_gt k dM_freeze_127 (tgt := 134) rfl (fun (h6 : 20 < me_n (mx_s σ f be af) nw) => ?_) (fun (h6 : ¬ (20 < me_n (mx_s σ f be af) nw)) => ?_)
              · rw [if_neg (Int32.not_le.mpr h6)] at e
                refine jx_iconst k dM_freeze_134 (v := 0) (by decide) ?_
                refine rm_zst k dM_freeze_135 (by decide) (fun _ => rfl) (p := f) rfl (by omega) (by decide) rfl ?_
                refine jx_aload_n k dM_freeze_136 rfl ?_
                refine rm_get k fM_71 dM_freeze_137 rfl ?_
                refine jx_iload_n k dM_freeze_140 rfl ?_
                refine rm_zldV k dM_freeze_141 (by decide) rfl (p := f) rfl (by omega) (by decide) (va_x0 σ f be af) ?_
                refine jx_if_eq k dM_freeze_142 (tgt := 149) rfl (fun _ => ?_) (fun hh => absurd rfl hh)
                refine jx_iconst k dM_freeze_149 (v := (-1)) (by decide) ?_
                exact jx_iret k dM_freeze_150 (Nat.le_refl _) (Nat.le_refl _) ⟨by rw [e], by rw [e]; rfl, rfl⟩
              · rw [if_pos (Int32.not_lt.mp h6)] at e
                refine jx_iconst k dM_freeze_130 (v := 1) (by decide) ?_
                refine jx_goto k dM_freeze_131 (tgt := 135) rfl ?_
                refine rm_zst k dM_freeze_135 (by decide) (fun _ => rfl) (p := f) rfl (by omega) (by decide) rfl ?_
                refine jx_aload_n k dM_freeze_136 rfl ?_
                refine rm_get k fM_71 dM_freeze_137 rfl ?_
                refine jx_iload_n k dM_freeze_140 rfl ?_
                refine rm_zldV k dM_freeze_141 (by decide) rfl (p := f) rfl (by omega) (by decide) (va_x1 σ f be af) ?_
                refine jx_if_eq k dM_freeze_142 (tgt := 149) rfl (fun hh => absurd hh (by decide)) (fun _ => ?_)
                refine jx_iload_n k dM_freeze_145 rfl ?_
                refine jx_goto k dM_freeze_146 (tgt := 150) rfl ?_
                exact jx_iret k dM_freeze_150 (Nat.le_refl _) (Nat.le_refl _) ⟨by rw [e], by rw [e]; rfl, rfl⟩
            refine jx_aload_n k dM_freeze_73 rfl ?_
            refine rm_get k fM_71 dM_freeze_74 rfl ?_
            refine jx_iload_n k dM_freeze_77 rfl ?_
            refine jx_iconst k dM_freeze_78 (v := 1) (by decide) ?_
            refine rm_zst k dM_freeze_79 (by decide) (fun _ => rfl) (p := f) rfl (by omega) (by decide) rfl ?_
            refine jx_aload_n k dM_freeze_80 rfl ?_
            refine rm_get k fM_74 dM_freeze_81 rfl ?_
            refine jx_iload_n k dM_freeze_84 rfl ?_
            refine jx_aload_n k dM_freeze_85 rfl ?_
            refine rm_get k fM_105 dM_freeze_86 rfl ?_
            refine jx_iload_n k dM_freeze_89 rfl ?_
            refine jx_icmp_le k dM_freeze_90 (tgt := 102) rfl (fun (h7 : σ.1 1 ≤ be) => ?_) (fun (h7 : ¬ (σ.1 1 ≤ be)) => ?_)
            · refine jx_iconst k dM_freeze_102 (v := 0) (by decide) ?_
              exact k103 _ (by rw [if_pos h7])
            · refine jx_aload_n k dM_freeze_93 rfl ?_
              refine rm_get k fM_105 dM_freeze_94 rfl ?_
              refine jx_iload_n k dM_freeze_97 rfl ?_
              refine jx_isub k dM_freeze_98 ?_
              refine jx_goto k dM_freeze_99 (tgt := 103) rfl ?_
              exact k103 _ (by rw [if_neg h7]; rfl)
          · have h5 : f = 3 := (nI_eq (by omega) (by decide)).mp h4
            have e : ms_freeze σ nw be af = (-1, rs_f σ 0 0) := by rw [ms_freeze, if_neg h1, if_neg (fun h => h.2.2 (by rw [hf]; exact h5))]
            refine jx_iconst k dM_freeze_71 (v := (-1)) (by decide) ?_
            exact jx_iret k dM_freeze_72 (Nat.le_refl _) (Nat.le_refl _) ⟨by rw [e], by rw [e], rfl⟩
    refine jx_iconst k dM_freeze_8 (v := 0) (by decide) ?_
    refine jx_goto k dM_freeze_9 (tgt := 13) rfl ?_
    refine rm_put k (j := 0) fM_83 dM_freeze_13 rfl rfl (Nat.le_of_ble_eq_true rfl) rfl ?_
    refine jx_aload_n k dM_freeze_16 rfl ?_
    refine rm_get k fM_83 dM_freeze_17 rfl ?_
    refine jx_if_le k dM_freeze_20 (tgt := 25) rfl (fun _ => ?_) (fun hh => absurd (by show ((0 : Int32) ≤ 0); decide) hh)
    refine jx_iconst k dM_freeze_25 (v := 0) (by decide) ?_
    refine jx_istore_n k dM_freeze_26 (Nat.le_of_ble_eq_true rfl) rfl (L' := [_, _, _, _]) rfl ?_
    have key : ∀ n f, f + n = 3 → mx_f σ n f = mx_f σ 3 0 → jx_w X E b (jx_fin X E b (rm_q E mb G0 sz (.int (ms_freeze σ nw be af).1) (ms_freeze σ nw be af).2) 0 0) 27 [some (.ref mb), some (.int be), some (.int af), some (.int (nI f))] [] (rm_G E mb (rs_f σ 0 0) G0) sz 0 0 := by
      intro n
      induction n with
      | zero =>
        intro f hf he
        refine jx_iload_n k dM_freeze_27 rfl ?_
        refine jx_iconst k dM_freeze_28 (v := 3) (by decide) ?_
        refine jx_icmp_ge k dM_freeze_29 (tgt := 48) rfl (fun _ => ?_) (fun hh => absurd (nI_le (a := 3) (by omega) (by omega)) hh)
        rw [← he] at k48
        exact k48
      | succ n ih =>
        intro f hf he
        refine jx_iload_n k dM_freeze_27 rfl ?_
        refine jx_iconst k dM_freeze_28 (v := 3) (by decide) ?_
        refine jx_icmp_ge k dM_freeze_29 (tgt := 48) rfl (fun hh => absurd hh (nI_ge (b := 3) (by omega) (by omega))) (fun _ => ?_)
        refine jx_aload_n k dM_freeze_32 rfl ?_
        refine rm_get k fM_71 dM_freeze_33 rfl ?_
        refine jx_iload_n k dM_freeze_36 rfl ?_
        refine rm_zld k dM_freeze_37 (by decide) rfl (p := f) rfl (by omega) (by decide) ?_
        refine jx_if_eq k dM_freeze_38 (tgt := 48) rfl (fun (h2 : σ.2.1 17 f = 0) => ?_) (fun (h2 : ¬ (σ.2.1 17 f = 0)) => ?_)
        · rw [← he, mx_f, if_pos h2] at k48
          exact k48
        · refine jx_iload_n k dM_freeze_41 rfl ?_
          refine jx_iconst k dM_freeze_42 (v := 1) (by decide) ?_
          refine jx_iadd k dM_freeze_43 ?_
          rw [nI_1]
          refine jx_istore_n k dM_freeze_44 (Nat.le_of_ble_eq_true rfl) rfl (L' := [_, _, _, _]) rfl ?_
          refine jx_goto k dM_freeze_45 (tgt := 27) rfl ?_
          exact ih (f + 1) (by omega) (by rw [← he, mx_f, if_neg h2])
    exact key 3 0 rfl rfl
