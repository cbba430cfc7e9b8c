/-- the picture that stands at a second -/
def lk_c (q : Nat) (p : Nat) (τ : rs_S) : rs_S := rs_a τ 20 (upd (τ.2.1 20) p (τ.2.1 13 (8 * q + p)))
def lk_k (τ : rs_S) (of : Int32) (q : Nat) : Int32 := if τ.2.1 12 q < 0 ∨ (τ.1 6 ≠ 0 ∧ of = τ.2.1 12 q) then 1 else 0
def lk_f (st : Int32) (s : Nat) (x : Int32 × rs_S) : Int32 × rs_S := match mu_b x.2 st (nI s) with
  | none => x
  | some q => if x.2.2.1 11 q = 0 then x else (nI s, fo_f (lk_c q) 0 8 (rs_f x.2 6 (lk_k x.2 x.1 q)))
def lk_0 (σ : rs_S) : rs_S := fo_f (mc_z 0 20) 0 8 (rs_f σ 6 1)
def lk_r (σ : rs_S) (st : Int32) (tt : Nat) : rs_S := (fo_f (lk_f st) (tt / 10 * 10) (tt + 1 - tt / 10 * 10) (-1, lk_0 σ)).2
set_option maxRecDepth 100000 in
set_option maxHeartbeats 8000000 in
theorem q_look (l : Launch) (E : jx_E) (b : Nat) (G0 : jx_H) (sz mb : Nat) (σ : rs_S) (st : Int32) (tt : Nat) (ht : tt < 10000) : jx_ct l E b yM_look cM_look 7 none 3 0 0 [.ref mb, .int st, .int (nI tt)] (rm_G E mb σ G0) sz (rm_n E mb G0 sz (lk_r σ st tt)) := by
  refine jx_met (by decide) (Nat.le_of_ble_eq_true rfl) (L0 := [_, _, _, _, _, _, _]) rfl (fun X k => ?_)
  have hb := mb_le st
  refine jx_aload_n k dM_look_0 rfl ?_
  refine jx_iconst k dM_look_1 (v := 1) (by decide) ?_
  refine rm_put k (j := 6) fM_169 dM_look_2 rfl rfl (Nat.le_of_ble_eq_true rfl) rfl ?_
  refine jx_iconst k dM_look_5 (v := (-1)) (by decide) ?_
  refine jx_istore_n k dM_look_6 (Nat.le_of_ble_eq_true rfl) rfl (L' := [_, _, _, _, _, _, _]) rfl ?_
  refine jx_iconst k dM_look_7 (v := 0) (by decide) ?_
  refine jx_istore k dM_look_8 (Nat.le_of_ble_eq_true rfl) rfl (L' := [_, _, _, _, _, _, _]) rfl ?_
  refine fo_l (fun p τ => jx_w X E b (jx_fin X E b (rm_n E mb G0 sz (lk_r σ st tt)) 0 0) 10 [some (.ref mb), some (.int st), some (.int (nI tt)), some (.int (-1)), some (.int (nI p)), none, none] [] (rm_G E mb τ G0) sz 0 0) (mc_z 0 20) (lo := 0) (hi := 8) (by decide) (rs_f σ 6 1) ?_ ?_
  · intro p h1 h2
    generalize fo_f (mc_z 0 20) 0 (p - 0) (rs_f σ 6 1) = τ
    intro kk
    rw [mc_z, Nat.zero_add] at kk
    refine jx_iload k dM_look_10 rfl ?_
    refine jx_bipush k dM_look_12 (v := 8) (by decide) ?_
    refine jx_icmp_ge k dM_look_14 (tgt := 31) rfl (fun hh => absurd hh (nI_ge (b := 8) h2 (by decide))) (fun _ => ?_)
    refine jx_aload_n k dM_look_17 rfl ?_
    refine rm_get k fM_80 dM_look_18 rfl ?_
    refine jx_iload k dM_look_21 rfl ?_
    refine jx_iconst k dM_look_23 (v := 0) (by decide) ?_
    refine rm_ist k dM_look_24 (by decide) (fun _ => rfl) (p := p) rfl (by omega) (by decide) ?_
    refine jx_iinc k dM_look_25 rfl (nI_1 p) rfl (L' := [_, _, _, _, _, _, _]) rfl ?_
    refine jx_goto k dM_look_28 (tgt := 10) rfl ?_
    exact kk
  · refine jx_iload k dM_look_10 rfl ?_
    refine jx_bipush k dM_look_12 (v := 8) (by decide) ?_
    refine jx_icmp_ge k dM_look_14 (tgt := 31) rfl (fun _ => ?_) (fun hh => absurd (nI_le (a := 8) (b := 8) (by decide) (by decide)) hh)
    refine jx_iload_n k dM_look_31 rfl ?_
    refine jx_bipush k dM_look_32 (v := 10) (by decide) ?_
    refine jx_idiv k dM_look_34 (by decide) ?_
    refine jx_bipush k dM_look_35 (v := 10) (by decide) ?_
    refine jx_imul k dM_look_37 ?_
    have e10 : nI tt / 10 * 10 = nI (tt / 10 * 10) := by
      rw [show (10 : Int32) = nI 10 from rfl, pk_div (by omega) (by decide) (by decide), pk_mul]
    rw [e10]
    refine jx_istore k dM_look_38 (Nat.le_of_ble_eq_true rfl) rfl (L' := [_, _, _, _, _, _, _]) rfl ?_
    refine fo_l (fun s x => jx_w X E b (jx_fin X E b (rm_n E mb G0 sz (lk_r σ st tt)) 0 0) 40 [some (.ref mb), some (.int st), some (.int (nI tt)), some (.int x.1), some (.int (nI s)), none, none] [] (rm_G E mb x.2 G0) sz 0 0) (lk_f st) (lo := tt / 10 * 10) (hi := tt + 1) (by omega) (-1, lk_0 σ) ?_ ?_
    · intro s h1 h2
      generalize fo_f (lk_f st) (tt / 10 * 10) (s - tt / 10 * 10) (-1, lk_0 σ) = x
      obtain ⟨of, τ⟩ := x
      intro kk
      have hs : s < 10000 := by omega
      refine jx_iload k dM_look_40 rfl ?_
      refine jx_iload_n k dM_look_42 rfl ?_
      refine jx_icmp_gt k dM_look_43 (tgt := 152) rfl (fun hh => absurd hh (fun h => absurd ((nI_ltI (by omega) (by omega)).mp h) (by omega))) (fun _ => ?_)
      refine jx_aload_n k dM_look_46 rfl ?_
      refine jx_iload_n k dM_look_47 rfl ?_
      refine jx_iload k dM_look_48 rfl ?_
      refine jx_callVP k mM_166 (q_bundle _ _ _ _ _ _ τ st (nI s)) rm_a0 rfl dM_look_50 rfl rfl rfl (Nat.le_of_ble_eq_true rfl) ⟨Nat.le_of_ble_eq_true rfl, Nat.le_of_ble_eq_true rfl⟩ ⟨Nat.le_of_ble_eq_true rfl, Nat.le_of_ble_eq_true rfl⟩ ?_
      cases ho : mu_b τ st (nI s) with
      | none =>
        have e : lk_f st s (of, τ) = (of, τ) := by rw [lk_f]; dsimp only; rw [ho]
        rw [e] at kk
        refine jx_istore k dM_look_53 (Nat.le_of_ble_eq_true rfl) rfl (L' := [_, _, _, _, _, _, _]) rfl ?_
        refine jx_iload k dM_look_55 rfl ?_
        refine jx_if_lt k dM_look_57 (tgt := 146) rfl (fun _ => ?_) (fun hh => absurd mo_l hh)
        refine jx_iinc k dM_look_146 rfl (nI_1 s) rfl (L' := [_, _, _, _, _, _, _]) rfl ?_
        refine jx_goto k dM_look_149 (tgt := 40) rfl ?_
        refine jx_fg (jx_ls (jx_ls (jx_ls (jx_ls (jx_ls (jx_ln (jx_ls jx_l0))))))) ?_
        exact kk
      | some q =>
        have hq := mu_lt ho
        have hq72 : q < 72 := by omega
        refine jx_istore k dM_look_53 (Nat.le_of_ble_eq_true rfl) rfl (L' := [_, _, _, _, _, _, _]) rfl ?_
        refine jx_iload k dM_look_55 rfl ?_
        refine jx_if_lt k dM_look_57 (tgt := 146) rfl (fun hh => absurd hh (mo_n (by omega))) (fun _ => ?_)
        refine jx_aload_n k dM_look_60 rfl ?_
        refine rm_get k fM_50 dM_look_61 rfl ?_
        refine jx_iload k dM_look_64 rfl ?_
        refine rm_zld k dM_look_66 (by decide) rfl (p := q) rfl (by omega) (by decide) ?_
        refine jx_if_eq k dM_look_67 (tgt := 146) rfl (fun (h3 : τ.2.1 11 q = 0) => ?_) (fun (h3 : ¬ (τ.2.1 11 q = 0)) => ?_)
        · have e : lk_f st s (of, τ) = (of, τ) := by rw [lk_f]; dsimp only; rw [ho]; dsimp only; rw [if_pos h3]
          rw [e] at kk
          refine jx_iinc k dM_look_146 rfl (nI_1 s) rfl (L' := [_, _, _, _, _, _, _]) rfl ?_
          refine jx_goto k dM_look_149 (tgt := 40) rfl ?_
          refine jx_fg (jx_ls (jx_ls (jx_ls (jx_ls (jx_ls (jx_ln (jx_ls jx_l0))))))) ?_
          exact kk
        · have e : lk_f st s (of, τ) = (nI s, fo_f (lk_c q) 0 8 (rs_f τ 6 (lk_k τ of q))) := by rw [lk_f]; dsimp only; rw [ho]; dsimp only; rw [if_neg h3]
          rw [e] at kk
          have hk01 : narrow .boolean (.int (lk_k τ of q)) = .int (lk_k τ of q) := by unfold lk_k; split <;> rfl
          have hk02 : fits .boolean (.int (lk_k τ of q)) = true := by unfold lk_k; split <;> rfl
          have k104 : jx_w X E b (jx_fin X E b (rm_n E mb G0 sz (lk_r σ st tt)) 0 0) 104 [some (.ref mb), some (.int st), some (.int (nI tt)), some (.int of), some (.int (nI s)), some (.int (nI q)), none] [.int (lk_k τ of q), .ref mb] (rm_G E mb τ G0) sz 0 0 := by
            refine rm_put k (j := 6) fM_169 dM_look_104 hk01 hk02 (Nat.le_of_ble_eq_true rfl) rfl ?_
            refine jx_iload k dM_look_107 rfl ?_
            refine jx_istore_n k dM_look_109 (Nat.le_of_ble_eq_true rfl) rfl (L' := [_, _, _, _, _, _, _]) rfl ?_
            refine jx_iconst k dM_look_110 (v := 0) (by decide) ?_
            refine jx_istore k dM_look_111 (Nat.le_of_ble_eq_true rfl) rfl (L' := [_, _, _, _, _, _, _]) rfl ?_
            refine fo_l (fun p υ => jx_w X E b (jx_fin X E b (rm_n E mb G0 sz (lk_r σ st tt)) 0 0) 113 [some (.ref mb), some (.int st), some (.int (nI tt)), some (.int (nI s)), some (.int (nI s)), some (.int (nI q)), some (.int (nI p))] [] (rm_G E mb υ G0) sz 0 0) (lk_c q) (lo := 0) (hi := 8) (by decide) (rs_f τ 6 (lk_k τ of q)) ?_ ?_
            · intro p g1 g2
              generalize fo_f (lk_c q) 0 (p - 0) (rs_f τ 6 (lk_k τ of q)) = υ
              intro kp
              refine jx_iload k dM_look_113 rfl ?_
              refine jx_bipush k dM_look_115 (v := 8) (by decide) ?_
              refine jx_icmp_ge k dM_look_117 (tgt := 146) rfl (fun hh => absurd hh (nI_ge (b := 8) g2 (by decide))) (fun _ => ?_)
              refine jx_aload_n k dM_look_120 rfl ?_
              refine rm_get k fM_80 dM_look_121 rfl ?_
              refine jx_iload k dM_look_124 rfl ?_
              refine jx_aload_n k dM_look_126 rfl ?_
              refine rm_get k fM_56 dM_look_127 rfl ?_
              refine jx_bipush k dM_look_130 (v := 8) (by decide) ?_
              refine jx_iload k dM_look_132 rfl ?_
              refine jx_imul k dM_look_134 ?_
              refine jx_iload k dM_look_135 rfl ?_
              refine jx_iadd k dM_look_137 ?_
              refine rm_ild k dM_look_138 (by decide) rfl (p := 8 * q + p) (nI_ml 8 q p) (by omega) (by decide) ?_
              refine rm_ist k dM_look_139 (by decide) (fun _ => rfl) (p := p) rfl (by omega) (by decide) ?_
              refine jx_iinc k dM_look_140 rfl (nI_1 p) rfl (L' := [_, _, _, _, _, _, _]) rfl ?_
              refine jx_goto k dM_look_143 (tgt := 113) rfl ?_
              exact kp
            · refine jx_iload k dM_look_113 rfl ?_
              refine jx_bipush k dM_look_115 (v := 8) (by decide) ?_
              refine jx_icmp_ge k dM_look_117 (tgt := 146) rfl (fun _ => ?_) (fun hh => absurd (nI_le (a := 8) (b := 8) (by decide) (by decide)) hh)
              refine jx_iinc k dM_look_146 rfl (nI_1 s) rfl (L' := [_, _, _, _, _, _, _]) rfl ?_
              refine jx_goto k dM_look_149 (tgt := 40) rfl ?_
              refine jx_fg (jx_ls (jx_ls (jx_ls (jx_ls (jx_ls (jx_ln (jx_ln jx_l0))))))) ?_
              exact kk
          refine jx_aload_n k dM_look_70 rfl ?_
          refine jx_aload_n k dM_look_71 rfl ?_
          refine rm_get k fM_53 dM_look_72 rfl ?_
          refine jx_iload k dM_look_75 rfl ?_
          refine rm_ild k dM_look_77 (by decide) rfl (p := q) rfl (by omega) (by decide) ?_
          refine jx_if_lt k dM_look_78 (tgt := 99) rfl (fun h4 => ?_) (fun h4 => ?_)
          · refine jx_iconst k dM_look_99 (v := 1) (by decide) ?_
            refine jx_goto k dM_look_100 (tgt := 104) rfl ?_
            rw [lk_k, if_pos (Or.inl h4)] at k104
            exact k104
          · refine jx_aload_n k dM_look_81 rfl ?_
            refine rm_get k fM_169 dM_look_82 rfl ?_
            refine jx_if_eq k dM_look_85 (tgt := 103) rfl (fun h5 => ?_) (fun h5 => ?_)
            · refine jx_iconst k dM_look_103 (v := 0) (by decide) ?_
              rw [lk_k, if_neg (fun h => h.elim h4 (fun h => h.1 h5))] at k104
              exact k104
            · refine jx_iload_n k dM_look_88 rfl ?_
              refine jx_aload_n k dM_look_89 rfl ?_
              refine rm_get k fM_53 dM_look_90 rfl ?_
              refine jx_iload k dM_look_93 rfl ?_
              refine rm_ild k dM_look_95 (by decide) rfl (p := q) rfl (by omega) (by decide) ?_
              refine jx_icmp_ne k dM_look_96 (tgt := 103) rfl (fun h6 => ?_) (fun h6 => ?_)
              · refine jx_iconst k dM_look_103 (v := 0) (by decide) ?_
                rw [lk_k, if_neg (fun h => h.elim h4 (fun h => h6 h.2))] at k104
                exact k104
              · refine jx_iconst k dM_look_99 (v := 1) (by decide) ?_
                refine jx_goto k dM_look_100 (tgt := 104) rfl ?_
                rw [lk_k, if_pos (Or.inr ⟨h5, h6⟩)] at k104
                exact k104
    · refine jx_iload k dM_look_40 rfl ?_
      refine jx_iload_n k dM_look_42 rfl ?_
      refine jx_icmp_gt k dM_look_43 (tgt := 152) rfl (fun _ => ?_) (fun hh => absurd (nI_lt (a := tt) (b := tt + 1) (by omega) (by omega)) hh)
      exact jx_vret k dM_look_152 (Nat.le_refl _) (Nat.le_refl _) ⟨rfl, rfl, rfl⟩
theorem lk_c6 (q : Nat) : ∀ n τ, (fo_f (lk_c q) 0 n τ).2.1 6 = τ.2.1 6 := by
  intro n
  induction n with
  | zero => intro τ; rfl
  | succ n ih => intro τ; rw [fo_s, lk_c, rs_an _ _ (by decide)]; exact ih τ
theorem lk_f6 (st : Int32) (lo : Nat) : ∀ n x, (fo_f (lk_f st) lo n x).2.2.1 6 = x.2.2.1 6 := by
  intro n
  induction n with
  | zero => intro x; rfl
  | succ n ih =>
    intro x
    rw [fo_s, lk_f]
    split
    · exact ih x
    · split
      · exact ih x
      · rw [lk_c6]; exact ih x
theorem lk_06 (σ : rs_S) : (lk_0 σ).2.1 6 = σ.2.1 6 := rfl
theorem lk_r6 (σ : rs_S) (st : Int32) (tt : Nat) : (lk_r σ st tt).2.1 6 = σ.2.1 6 := by
  rw [lk_r, lk_f6, lk_06]
def ms_replay (σ : rs_S) (st t : Int32) : Int32 × rs_S := match mu_b σ st t with
  | none => (-1, rs_f σ 0 0)
  | some q => ((my_c σ q 71).2.1 6 q, lk_r (rs_f (my_c (rs_f σ 0 0) q 71) 5 1) st t.toNatClampNeg)
set_option maxRecDepth 100000 in
set_option maxHeartbeats 8000000 in
theorem q_replay (l : Launch) (E : jx_E) (b : Nat) (G0 : jx_H) (sz mb : Nat) (σ : rs_S) (st t : Int32) (hs : ∀ p, p < 70 → σ.2.1 4 p < 10000) (w11 : ∀ i, σ.2.1 11 i = 0 ∨ σ.2.1 11 i = 1) (w9 : ∀ i, σ.2.1 9 i = 0 ∨ σ.2.1 9 i = 1) : jx_ct l E b yM_replay cM_replay 4 (some .int) 4 0 0 [.ref mb, .int st, .int t] (rm_G E mb σ G0) sz (rm_q E mb G0 sz (.int (ms_replay σ st t).1) (ms_replay σ st t).2) := by
  refine jx_met (by decide) (Nat.le_of_ble_eq_true rfl) (L0 := [_, _, _, _]) rfl (fun X k => ?_)
  have hb := mb_le st
  refine jx_aload_n k dM_replay_0 rfl ?_
  refine jx_iconst k dM_replay_1 (v := 0) (by decide) ?_
  refine rm_put k (j := 0) fM_83 dM_replay_2 rfl rfl (Nat.le_of_ble_eq_true rfl) rfl ?_
  refine jx_aload_n k dM_replay_5 rfl ?_
  refine jx_iload_n k dM_replay_6 rfl ?_
  refine jx_iload_n k dM_replay_7 rfl ?_
  refine jx_callVP k mM_166 (q_bundle _ _ _ _ _ _ (rs_f σ 0 0) st t) rm_a0 rfl dM_replay_8 rfl rfl rfl (Nat.le_of_ble_eq_true rfl) ⟨Nat.le_of_ble_eq_true rfl, Nat.le_of_ble_eq_true rfl⟩ ⟨Nat.le_of_ble_eq_true rfl, Nat.le_of_ble_eq_true rfl⟩ ?_
  have eb : mu_b (rs_f σ 0 0) st t = mu_b σ st t := rfl
  rw [eb]
  cases ho : mu_b σ st t with
  | none =>
    have e : ms_replay σ st t = (-1, rs_f σ 0 0) := by rw [ms_replay, ho]
    refine jx_istore_n k dM_replay_11 (Nat.le_of_ble_eq_true rfl) rfl (L' := [_, _, _, _]) rfl ?_
    refine jx_iload_n k dM_replay_12 rfl ?_
    refine jx_if_ge k dM_replay_13 (tgt := 18) rfl (fun h1 => ?_) (fun h1 => ?_)
    · exact absurd h1 (by decide)
    · refine jx_iconst k dM_replay_16 (v := (-1)) (by decide) ?_
      exact jx_iret k dM_replay_17 (Nat.le_refl _) (Nat.le_refl _) ⟨by rw [e], by rw [e], rfl⟩
  | some q =>
    have e : ms_replay σ st t = ((my_c σ q 71).2.1 6 q, lk_r (rs_f (my_c (rs_f σ 0 0) q 71) 5 1) st t.toNatClampNeg) := by rw [ms_replay, ho]
    have hq := mu_lt ho
    have hx : 0 ≤ t ∧ σ.2.1 4 q = t := by
      unfold mu_b at ho
      split at ho
      · have := mu_in σ t (mb_lo st) _ q ho
        exact ⟨this.2.2.1, this.2.2.2.1⟩
      · cases ho
    have ht : t < nI 10000 := by rw [← hx.2]; exact hs q (by omega)
    obtain ⟨tt, h10, rfl⟩ := nI_lift hx.1 ht (by decide)
    rw [nI_clamp (by omega)] at e
    refine jx_istore_n k dM_replay_11 (Nat.le_of_ble_eq_true rfl) rfl (L' := [_, _, _, _]) rfl ?_
    refine jx_iload_n k dM_replay_12 rfl ?_
    refine jx_if_ge k dM_replay_13 (tgt := 18) rfl (fun _ => ?_) (fun hh => absurd (nI_pos' (by omega)) hh)
    refine jx_aload_n k dM_replay_18 rfl ?_
    refine jx_iload_n k dM_replay_19 rfl ?_
    refine jx_bipush k dM_replay_20 (v := 71) (by decide) ?_
    refine jx_callV0 k mM_133 (q_copyBundle _ _ _ _ _ _ (rs_f σ 0 0) q 71 (by omega) (by decide) w11 w9) rm_a0 rfl dM_replay_22 rfl rfl rfl (Nat.le_of_ble_eq_true rfl) ⟨Nat.le_of_ble_eq_true rfl, Nat.le_of_ble_eq_true rfl⟩ ⟨Nat.le_of_ble_eq_true rfl, Nat.le_of_ble_eq_true rfl⟩ ?_
    refine jx_aload_n k dM_replay_25 rfl ?_
    refine jx_iconst k dM_replay_26 (v := 1) (by decide) ?_
    refine rm_put k (j := 5) fM_172 dM_replay_27 rfl rfl (Nat.le_of_ble_eq_true rfl) rfl ?_
    refine jx_aload_n k dM_replay_30 rfl ?_
    refine jx_iload_n k dM_replay_31 rfl ?_
    refine jx_iload_n k dM_replay_32 rfl ?_
    refine jx_callV0 k mM_175 (q_look _ _ _ _ _ _ (rs_f (my_c (rs_f σ 0 0) q 71) 5 1) st tt h10) rm_a0 rfl dM_replay_33 rfl rfl rfl (Nat.le_of_ble_eq_true rfl) ⟨Nat.le_of_ble_eq_true rfl, Nat.le_of_ble_eq_true rfl⟩ ⟨Nat.le_of_ble_eq_true rfl, Nat.le_of_ble_eq_true rfl⟩ ?_
    refine jx_aload_n k dM_replay_36 rfl ?_
    refine rm_get k fM_34 dM_replay_37 rfl ?_
    refine jx_iload_n k dM_replay_40 rfl ?_
    refine rm_ild k dM_replay_41 (by decide) rfl (p := q) rfl (by omega) (by decide) ?_
    refine jx_iret k dM_replay_42 (Nat.le_refl _) (Nat.le_refl _) ⟨?_, by rw [e], rfl⟩
    rw [e, lk_r6]
    rfl
