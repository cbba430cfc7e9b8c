/-- a bundle is written into a store -/
def mw_1 (σ : rs_S) (b0 pg : Nat) : rs_S := rs_a (rs_a (my_c σ 70 b0) 4 (upd ((my_c σ 70 b0).2.1 4) b0 ((my_c σ 70 b0).1 1))) 5 (upd ((my_c σ 70 b0).2.1 5) b0 (nI pg))
def mw_2 (σ : rs_S) (b0 : Nat) : rs_S := fo_f (mc_z (8 * b0) 10) 4 4 (rs_a σ 9 (upd (σ.2.1 9) (2 * b0 + 1) 0))
def mw_h (σ : rs_S) (st : Int32) (b0 pg : Nat) : rs_S := if st = 2 then mw_2 (mw_1 σ b0 pg) b0 else mw_1 σ b0 pg
def mw_c (σ : rs_S) : rs_S := rs_f σ 3 (if σ.1 3 ≤ 0 then σ.1 3 else σ.1 3 - 1)
def mq_p (σ : rs_S) : Nat → Nat → Nat
  | 0, p => p
  | f + 1, p => if σ.2.1 2 p ≤ 0 then p else mq_p σ f (p + 1)
def mw_w (σ : rs_S) (b0 p : Nat) : rs_S := rs_a (rs_a σ 2 (upd (σ.2.1 2) p (nI (b0 + 1)))) 3 (upd (σ.2.1 3) p 0)
def mw_p (b0 lo : Nat) : Nat → rs_S → Bool × rs_S
  | 0, σ => (true, σ)
  | n + 1, σ => if σ.1 3 = 0 then (false, mo_t σ b0) else mw_p b0 lo n (mw_w (mw_c σ) b0 (mq_p (mw_c σ) 70 lo))
def mw_r (σ : rs_S) (st : Int32) (pg : Nat) : Bool × rs_S := mw_p (mq_f σ 72 (mb_lo st)) (mb_lo st) pg (mw_h σ st (mq_f σ 72 (mb_lo st)) pg)
def mw_pre (σ : rs_S) (st : Int32) (pg : Nat) : Prop := (∃ bx, mb_lo st ≤ bx ∧ bx < mb_hi st ∧ σ.2.1 4 bx < 0) ∧ (∀ i, σ.2.1 9 i = 0 ∨ σ.2.1 9 i = 1) ∧ (∀ i, σ.2.1 11 i = 0 ∨ σ.2.1 11 i = 1) ∧ (∀ p, p < 70 → 0 ≤ σ.2.1 2 p) ∧ pg ≤ mf_fp σ st
theorem mq_f_in (σ : rs_S) : ∀ f lo b0, lo ≤ b0 → b0 - lo < f → σ.2.1 4 b0 < 0 → lo ≤ mq_f σ f lo ∧ mq_f σ f lo ≤ b0 ∧ σ.2.1 4 (mq_f σ f lo) < 0 := by
  intro f
  induction f with
  | zero => intro lo b0 h1 h2; omega
  | succ f ih =>
    intro lo b0 h1 h2 h3
    rw [mq_f]
    split
    · next h => exact ⟨Nat.le_refl _, h1, h⟩
    · next h =>
      have hne : lo ≠ b0 := fun e => h (by rw [e]; exact h3)
      obtain ⟨a1, a2, a3⟩ := ih (lo + 1) b0 (by omega) (by omega) h3
      exact ⟨by omega, a2, a3⟩
theorem mq_p_in (σ : rs_S) : ∀ f lo b0, lo ≤ b0 → b0 - lo < f → σ.2.1 2 b0 ≤ 0 → lo ≤ mq_p σ f lo ∧ mq_p σ f lo ≤ b0 ∧ σ.2.1 2 (mq_p σ f lo) ≤ 0 := by
  intro f
  induction f with
  | zero => intro lo b0 h1 h2; omega
  | succ f ih =>
    intro lo b0 h1 h2 h3
    rw [mq_p]
    split
    · next h => exact ⟨Nat.le_refl _, h1, h⟩
    · next h =>
      have hne : lo ≠ b0 := fun e => h (by rw [e]; exact h3)
      obtain ⟨a1, a2, a3⟩ := ih (lo + 1) b0 (by omega) (by omega) h3
      exact ⟨by omega, a2, a3⟩
theorem my_c2 (σ : rs_S) (fr to : Nat) : (my_c σ fr to).2.1 2 = σ.2.1 2 := rfl
theorem mw_h2 (σ : rs_S) (st : Int32) (b0 pg : Nat) : (mw_h σ st b0 pg).2.1 2 = σ.2.1 2 := by
  rw [mw_h]
  split <;> rfl
theorem nI_ne0' {n : Nat} (h : n < 100) : ¬ nI (n + 1) = 0 := nI_ne0 (by omega) (by omega)
theorem mw_fp {τ : rs_S} {st : Int32} {b0 p : Nat} (h0 : b0 < 72) (h1 : mb_lo st ≤ p) (h2 : p < mb_hi st) (h3 : τ.2.1 2 p = 0) : mf_fp τ st = mf_fp (mw_w τ b0 p) st + 1 := by
  rw [mf_ct, mf_ct]
  have e : (mw_w τ b0 p).2.1 2 = upd (τ.2.1 2) p (nI (b0 + 1)) := by
    rw [mw_w, rs_an _ _ (by decide), rs_av]
  rw [e]
  refine ct_drop _ h1 (by omega) (by simp [h3]) ?_ (fun q g1 g2 g3 => ?_)
  · show decide (upd (τ.2.1 2) p (nI (b0 + 1)) p = 0) = false
    rw [pk_us]
    simp [nI_ne0' (n := b0) (by omega)]
  · show _ = decide (upd (τ.2.1 2) p (nI (b0 + 1)) q = 0)
    rw [pk_un g3]
set_option maxRecDepth 100000 in
set_option maxHeartbeats 8000000 in
theorem q_write (l : Launch) (E : jx_E) (b : Nat) (G0 : jx_H) (sz mb : Nat) (σ : rs_S) (st : Int32) (pg : Nat) (hpg : pg ≤ 100) (hpre : mw_pre σ st pg) : jx_ct l E b yM_write cM_write 6 (some .boolean) 2 0 0 [.ref mb, .int st, .int (nI pg)] (rm_G E mb σ G0) sz (rm_q E mb G0 sz (.int (jb_z ((mw_r σ st pg).1 = true))) (mw_r σ st pg).2) := by
  refine jx_met (by decide) (Nat.le_of_ble_eq_true rfl) (L0 := [_, _, _, _, _, _]) rfl (fun X k => ?_)
  have hb := mb_le st
  obtain ⟨⟨bx, x1, x2, x3⟩, w9, w11, w2, hfp⟩ := hpre
  obtain ⟨f1, f2, f3⟩ := mq_f_in σ 72 (mb_lo st) bx x1 (by omega) x3
  have hres : mw_r σ st pg = mw_p (mq_f σ 72 (mb_lo st)) (mb_lo st) pg (mw_h σ st (mq_f σ 72 (mb_lo st)) pg) := rfl
  generalize hb0 : mq_f σ 72 (mb_lo st) = b0 at hres f1 f2 f3
  generalize mw_r σ st pg = res at hres
  have key : ∀ n τ q, q + n = pg → n ≤ mf_fp τ st → (∀ p, p < 70 → 0 ≤ τ.2.1 2 p) → res = mw_p b0 (mb_lo st) n τ → jx_w X E b (jx_fin X E b (rm_q E mb G0 sz (.int (jb_z (res.1 = true))) res.2) 0 0) 78 [some (.ref mb), some (.int st), some (.int (nI pg)), some (.int (nI b0)), some (.int (nI q)), none] [] (rm_G E mb τ G0) sz 0 0 := by
    intro n
    induction n with
    | zero =>
      intro τ q hq _ _ he
      refine jx_iload k dM_write_78 rfl ?_
      refine jx_iload_n k dM_write_80 rfl ?_
      refine jx_icmp_ge k dM_write_81 (tgt := 171) rfl (fun _ => ?_) (fun hh => absurd (nI_le (a := pg) (b := q) (by omega) (by omega)) hh)
      refine jx_iconst k dM_write_171 (v := 1) (by decide) ?_
      exact jx_zret k dM_write_172 rfl (Nat.le_refl _) (Nat.le_refl _) ⟨by rw [he]; rfl, by rw [he]; rfl, rfl⟩
    | succ n ih =>
      intro τ q hq hfr hnn he
      refine jx_iload k dM_write_78 rfl ?_
      refine jx_iload_n k dM_write_80 rfl ?_
      refine jx_icmp_ge k dM_write_81 (tgt := 171) rfl (fun hh => absurd hh (nI_ge (a := q) (b := pg) (by omega) (by omega))) (fun _ => ?_)
      refine jx_aload_n k dM_write_84 rfl ?_
      refine rm_get k fM_13 dM_write_85 rfl ?_
      refine jx_if_ne k dM_write_88 (tgt := 98) rfl (fun h1 => ?_) (fun h1 => ?_)
      · have k119 : ∀ v : Int32, v = (if τ.1 3 ≤ 0 then τ.1 3 else τ.1 3 - 1) → jx_w X E b (jx_fin X E b (rm_q E mb G0 sz (.int (jb_z (res.1 = true))) res.2) 0 0) 119 [some (.ref mb), some (.int st), some (.int (nI pg)), some (.int (nI b0)), some (.int (nI q)), none] [.int v, .ref mb] (rm_G E mb τ G0) sz 0 0 := by
          rintro v rfl
          rw [mw_p, if_neg h1] at he
          refine rm_put k (j := 3) fM_13 dM_write_119 rfl rfl (Nat.le_of_ble_eq_true rfl) rfl ?_
          refine jx_iload_n k dM_write_122 rfl ?_
          refine jx_callSP k mM_112 (q_base _ _ _ _ _ st) dM_write_123 rfl rfl rfl (Nat.le_of_ble_eq_true rfl) ⟨Nat.le_of_ble_eq_true rfl, Nat.le_of_ble_eq_true rfl⟩ ⟨Nat.le_of_ble_eq_true rfl, Nat.le_of_ble_eq_true rfl⟩ ?_
          refine jx_istore k dM_write_126 (Nat.le_of_ble_eq_true rfl) rfl (L' := [_, _, _, _, _, _]) rfl ?_
          have hcd : rs_f τ 3 (if τ.1 3 ≤ 0 then τ.1 3 else τ.1 3 - 1) = mw_c τ := rfl
          rw [hcd]
          obtain ⟨p0, p1, p2, p3⟩ := ct_pos (P := fun p => decide (τ.2.1 2 p = 0)) (lo := mb_lo st) (mb_hi st - mb_lo st) (by rw [← mf_ct]; omega)
          have p3 : τ.2.1 2 p0 = 0 := by simpa using p3
          have c2 : (mw_c τ).2.1 2 = τ.2.1 2 := rfl
          have p3' : (mw_c τ).2.1 2 p0 ≤ 0 := by rw [c2, p3]; decide
          obtain ⟨m1, m2, m3⟩ := mq_p_in (mw_c τ) 70 (mb_lo st) p0 p1 (by omega) p3'
          have m4 : (mw_c τ).2.1 2 (mq_p (mw_c τ) 70 (mb_lo st)) = 0 := by
            have := hnn (mq_p (mw_c τ) 70 (mb_lo st)) (by omega)
            exact Int32.le_antisymm m3 this
          generalize hpp : mq_p (mw_c τ) 70 (mb_lo st) = pp at he m1 m2 m3 m4
          have kw : ∀ f r, r ≤ p0 → p0 - r < f → mq_p (mw_c τ) f r = pp → jx_w X E b (jx_fin X E b (rm_q E mb G0 sz (.int (jb_z (res.1 = true))) res.2) 0 0) 128 [some (.ref mb), some (.int st), some (.int (nI pg)), some (.int (nI b0)), some (.int (nI q)), some (.int (nI r))] [] (rm_G E mb (mw_c τ) G0) sz 0 0 := by
            intro f
            induction f with
            | zero => intro r g1 g2; omega
            | succ f ihf =>
              intro r g1 g2 ge
              refine jx_aload_n k dM_write_128 rfl ?_
              refine rm_get k fM_21 dM_write_129 rfl ?_
              refine jx_iload k dM_write_132 rfl ?_
              refine rm_ild k dM_write_134 (by decide) rfl (p := r) rfl (by omega) (by decide) ?_
              refine jx_if_le k dM_write_135 (tgt := 147) rfl (fun h2 => ?_) (fun h2 => ?_)
              · rw [mq_p, if_pos h2] at ge
                subst ge
                refine jx_aload_n k dM_write_147 rfl ?_
                refine rm_get k fM_21 dM_write_148 rfl ?_
                refine jx_iload k dM_write_151 rfl ?_
                refine jx_iload_n k dM_write_153 rfl ?_
                refine jx_iconst k dM_write_154 (v := 1) (by decide) ?_
                refine jx_iadd k dM_write_155 ?_
                rw [nI_1]
                refine rm_ist k dM_write_156 (by decide) (fun _ => rfl) (p := r) rfl (by omega) (by decide) ?_
                refine jx_aload_n k dM_write_157 rfl ?_
                refine rm_get k fM_25 dM_write_158 rfl ?_
                refine jx_iload k dM_write_161 rfl ?_
                refine jx_iconst k dM_write_163 (v := 0) (by decide) ?_
                refine rm_zst k dM_write_164 (by decide) (fun _ => rfl) (p := r) rfl (by omega) (by decide) rfl ?_
                refine jx_iinc k dM_write_165 rfl (nI_1 q) rfl (L' := [_, _, _, _, _, _]) rfl ?_
                refine jx_goto k dM_write_168 (tgt := 78) rfl ?_
                refine jx_fg (jx_ls (jx_ls (jx_ls (jx_ls (jx_ls (jx_ln jx_l0)))))) ?_
                refine ih (mw_w (mw_c τ) b0 r) (q + 1) (by omega) ?_ ?_ he
                · have := mw_fp (τ := mw_c τ) (b0 := b0) (by omega) m1 (by omega) m4
                  have e2 : mf_fp (mw_c τ) st = mf_fp τ st := rfl
                  omega
                · intro p hp
                  have e : (mw_w (mw_c τ) b0 r).2.1 2 = upd (τ.2.1 2) r (nI (b0 + 1)) := by
                    rw [mw_w, rs_an _ _ (by decide), rs_av]; rfl
                  rw [e]
                  by_cases hpr : p = r
                  · subst hpr; rw [pk_us]; exact nI_pos' (by omega)
                  · rw [pk_un hpr]; exact hnn p hp
              · rw [mq_p, if_neg h2] at ge
                have hne : r ≠ p0 := fun e => h2 (by rw [e]; exact p3')
                refine jx_iload k dM_write_138 rfl ?_
                refine jx_iconst k dM_write_140 (v := 1) (by decide) ?_
                refine jx_iadd k dM_write_141 ?_
                rw [nI_1]
                refine jx_istore k dM_write_142 (Nat.le_of_ble_eq_true rfl) rfl (L' := [_, _, _, _, _, _]) rfl ?_
                refine jx_goto k dM_write_144 (tgt := 128) rfl ?_
                exact ihf (r + 1) (by omega) (by omega) ge
          exact kw 70 (mb_lo st) p1 (by omega) hpp
        refine jx_aload_n k dM_write_98 rfl ?_
        refine jx_aload_n k dM_write_99 rfl ?_
        refine rm_get k fM_13 dM_write_100 rfl ?_
        refine jx_if_le k dM_write_103 (tgt := 115) rfl (fun h2 => ?_) (fun h2 => ?_)
        · refine jx_aload_n k dM_write_115 rfl ?_
          refine rm_get k fM_13 dM_write_116 rfl ?_
          exact k119 _ (by rw [if_pos h2])
        · refine jx_aload_n k dM_write_106 rfl ?_
          refine rm_get k fM_13 dM_write_107 rfl ?_
          refine jx_iconst k dM_write_110 (v := 1) (by decide) ?_
          refine jx_isub k dM_write_111 ?_
          refine jx_goto k dM_write_112 (tgt := 119) rfl ?_
          exact k119 _ (by rw [if_neg h2])
      · rw [mw_p, if_pos h1] at he
        refine jx_aload_n k dM_write_91 rfl ?_
        refine jx_iload_n k dM_write_92 rfl ?_
        refine jx_callV0 k mM_126 (q_takeOut _ _ _ _ _ _ τ b0 (by omega)) rm_a0 rfl dM_write_93 rfl rfl rfl (Nat.le_of_ble_eq_true rfl) ⟨Nat.le_of_ble_eq_true rfl, Nat.le_of_ble_eq_true rfl⟩ ⟨Nat.le_of_ble_eq_true rfl, Nat.le_of_ble_eq_true rfl⟩ ?_
        refine jx_iconst k dM_write_96 (v := 0) (by decide) ?_
        exact jx_zret k dM_write_97 rfl (Nat.le_refl _) (Nat.le_refl _) ⟨by rw [he]; rfl, by rw [he], rfl⟩
  have k75 : jx_w X E b (jx_fin X E b (rm_q E mb G0 sz (.int (jb_z (res.1 = true))) res.2) 0 0) 75 [some (.ref mb), some (.int st), some (.int (nI pg)), some (.int (nI b0)), none, none] [] (rm_G E mb (mw_h σ st b0 pg) G0) sz 0 0 := by
    refine jx_iconst k dM_write_75 (v := 0) (by decide) ?_
    refine jx_istore k dM_write_76 (Nat.le_of_ble_eq_true rfl) rfl (L' := [_, _, _, _, _, _]) rfl ?_
    refine key pg (mw_h σ st b0 pg) 0 (by omega) ?_ ?_ hres
    · have e : mf_fp (mw_h σ st b0 pg) st = mf_fp σ st := by rw [mf_fp, mw_h2]; rfl
      rw [e]; exact hfp
    · intro p hp; rw [mw_h2]; exact w2 p hp
  refine jx_aload_n k dM_write_0 rfl ?_
  refine jx_iload_n k dM_write_1 rfl ?_
  refine jx_callVP k mM_130 (q_freeBundle _ _ _ _ _ _ σ st bx x1 (by omega) x3) rm_a0 rfl dM_write_2 rfl rfl rfl (Nat.le_of_ble_eq_true rfl) ⟨Nat.le_of_ble_eq_true rfl, Nat.le_of_ble_eq_true rfl⟩ ⟨Nat.le_of_ble_eq_true rfl, Nat.le_of_ble_eq_true rfl⟩ ?_
  rw [hb0]
  refine jx_istore_n k dM_write_5 (Nat.le_of_ble_eq_true rfl) rfl (L' := [_, _, _, _, _, _]) rfl ?_
  refine jx_aload_n k dM_write_6 rfl ?_
  refine jx_bipush k dM_write_7 (v := 70) (by decide) ?_
  refine jx_iload_n k dM_write_9 rfl ?_
  refine jx_callV0 k mM_133 (q_copyBundle _ _ _ _ _ _ σ 70 b0 (by decide) (by omega) w11 w9) rm_a0 rfl dM_write_10 rfl rfl rfl (Nat.le_of_ble_eq_true rfl) ⟨Nat.le_of_ble_eq_true rfl, Nat.le_of_ble_eq_true rfl⟩ ⟨Nat.le_of_ble_eq_true rfl, Nat.le_of_ble_eq_true rfl⟩ ?_
  refine jx_aload_n k dM_write_13 rfl ?_
  refine rm_get k fM_28 dM_write_14 rfl ?_
  refine jx_iload_n k dM_write_17 rfl ?_
  refine jx_aload_n k dM_write_18 rfl ?_
  refine rm_get k fM_105 dM_write_19 rfl ?_
  refine rm_ist k dM_write_22 (by decide) (fun _ => rfl) (p := b0) rfl (by omega) (by decide) ?_
  refine jx_aload_n k dM_write_23 rfl ?_
  refine rm_get k fM_31 dM_write_24 rfl ?_
  refine jx_iload_n k dM_write_27 rfl ?_
  refine jx_iload_n k dM_write_28 rfl ?_
  refine rm_ist k dM_write_29 (by decide) (fun _ => rfl) (p := b0) rfl (by omega) (by decide) ?_
  refine jx_iload_n k dM_write_30 rfl ?_
  refine jx_iconst k dM_write_31 (v := 2) (by decide) ?_
  have e1 : rs_a (rs_a (my_c σ 70 b0) 4 (upd ((my_c σ 70 b0).2.1 4) b0 ((my_c σ 70 b0).1 1))) 5 (upd ((rs_a (my_c σ 70 b0) 4 (upd ((my_c σ 70 b0).2.1 4) b0 ((my_c σ 70 b0).1 1))).2.1 5) b0 (nI pg)) = mw_1 σ b0 pg := rfl
  rw [e1]
  refine jx_icmp_ne k dM_write_32 (tgt := 75) rfl (fun h1 => ?_) (fun h1 => ?_)
  · rw [mw_h, if_neg h1] at k75
    exact k75
  · rw [mw_h, if_pos h1] at k75
    refine jx_aload_n k dM_write_35 rfl ?_
    refine rm_get k fM_44 dM_write_36 rfl ?_
    refine jx_iconst k dM_write_39 (v := 2) (by decide) ?_
    refine jx_iload_n k dM_write_40 rfl ?_
    refine jx_imul k dM_write_41 ?_
    refine jx_iconst k dM_write_42 (v := 1) (by decide) ?_
    refine jx_iadd k dM_write_43 ?_
    refine jx_iconst k dM_write_44 (v := 0) (by decide) ?_
    refine rm_zst k dM_write_45 (by decide) (fun _ => rfl) (p := 2 * b0 + 1) (nI_ml 2 b0 1) (by omega) (by decide) rfl ?_
    refine jx_iconst k dM_write_46 (v := 4) (by decide) ?_
    refine jx_istore k dM_write_47 (Nat.le_of_ble_eq_true rfl) rfl (L' := [_, _, _, _, _, _]) rfl ?_
    refine fo_l (fun p τ => jx_w X E b (jx_fin X E b (rm_q E mb G0 sz (.int (jb_z (res.1 = true))) res.2) 0 0) 49 [some (.ref mb), some (.int st), some (.int (nI pg)), some (.int (nI b0)), some (.int (nI p)), none] [] (rm_G E mb τ G0) sz 0 0) (mc_z (8 * b0) 10) (lo := 4) (hi := 8) (by decide) (rs_a (mw_1 σ b0 pg) 9 (upd ((mw_1 σ b0 pg).2.1 9) (2 * b0 + 1) 0)) ?_ ?_
    · intro p g1 g2
      generalize fo_f (mc_z (8 * b0) 10) 4 (p - 4) (rs_a (mw_1 σ b0 pg) 9 (upd ((mw_1 σ b0 pg).2.1 9) (2 * b0 + 1) 0)) = τ
      intro kk
      refine jx_iload k dM_write_49 rfl ?_
      refine jx_bipush k dM_write_51 (v := 8) (by decide) ?_
      refine jx_icmp_ge k dM_write_53 (tgt := 75) rfl (fun hh => absurd hh (nI_ge (b := 8) g2 (by decide))) (fun _ => ?_)
      refine jx_aload_n k dM_write_56 rfl ?_
      refine rm_get k fM_47 dM_write_57 rfl ?_
      refine jx_bipush k dM_write_60 (v := 8) (by decide) ?_
      refine jx_iload_n k dM_write_62 rfl ?_
      refine jx_imul k dM_write_63 ?_
      refine jx_iload k dM_write_64 rfl ?_
      refine jx_iadd k dM_write_66 ?_
      refine jx_iconst k dM_write_67 (v := 0) (by decide) ?_
      refine rm_ist k dM_write_68 (by decide) (fun _ => rfl) (p := 8 * b0 + p) (nI_ml 8 b0 p) (by omega) (by decide) ?_
      refine jx_iinc k dM_write_69 rfl (nI_1 p) rfl (L' := [_, _, _, _, _, _]) rfl ?_
      refine jx_goto k dM_write_72 (tgt := 49) rfl ?_
      exact kk
    · refine jx_iload k dM_write_49 rfl ?_
      refine jx_bipush k dM_write_51 (v := 8) (by decide) ?_
      refine jx_icmp_ge k dM_write_53 (tgt := 75) rfl (fun _ => ?_) (fun hh => absurd (nI_le (a := 8) (b := 8) (by decide) (by decide)) hh)
      refine jx_fg (jx_ls (jx_ls (jx_ls (jx_ls (jx_ln (jx_ls jx_l0)))))) ?_
      exact k75
