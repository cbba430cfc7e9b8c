/-- second: the stores one after the other -/
def sc_pg (τ : rs_S) (j s pc : Nat) : Nat := (mb_y τ j (nI s) pc + 15) / 16
def sc_f (j pc : Nat) (s : Nat) (x : Nat × Bool × rs_S) : Nat × Bool × rs_S :=
  if x.2.1 = true ∧ x.2.2.2.1 1 s = 0 then
    (if (mv_r (nI s) (sc_pg x.2.2 j s pc) 71 x.2.2).1 = true then
      (x.1 + 1, (mw_r (mv_r (nI s) (sc_pg x.2.2 j s pc) 71 x.2.2).2 (nI s) (sc_pg x.2.2 j s pc)).1, (mw_r (mv_r (nI s) (sc_pg x.2.2 j s pc) 71 x.2.2).2 (nI s) (sc_pg x.2.2 j s pc)).2)
    else (x.1, true, (mv_r (nI s) (sc_pg x.2.2 j s pc) 71 x.2.2).2))
  else x
def sc_c (p : Nat) (τ : rs_S) : rs_S := rs_a τ 16 (upd (τ.2.1 16) p (τ.2.1 13 (560 + p)))
def sc_h (τ : rs_S) : rs_S := if τ.2.1 11 70 = 0 then τ else fo_f sc_c 0 8 τ
def sc_e (x : Nat × Bool × rs_S) (t : Int32) : Int32 × rs_S :=
  if x.2.1 = true then (nI x.1, rs_f (mc_l (rs_f (sc_h x.2.2) 4 (if x.2.2.2.1 11 70 = 0 then (sc_h x.2.2).1 4 else (sc_h x.2.2).1 1))) 1 t)
  else (-1, rs_f (ml_l x.2.2) 1 t)
def sc_p (σ : rs_S) (c : Bool) : Nat × rs_S := if σ.2.1 11 70 = 0 then (0, rs_f σ 0 0) else mp_code (rs_f σ 0 0) c
def ms_second (σ : rs_S) (j : Nat) (c : Bool) (t : Int32) : Int32 × rs_S :=
  if σ.1 2 = 0 then (0, rs_f σ 0 1) else if t ≤ σ.1 1 ∨ 9999 < t then (0, rs_f σ 0 2)
  else sc_e (fo_f (sc_f j (sc_p σ c).1) 0 3 (0, true, (sc_p σ c).2)) t
theorem mb_s_ge (σ : rs_S) : ∀ j, 6 ≤ mb_s σ j := by
  intro j
  induction j with
  | zero => exact Nat.le_refl _
  | succ j ih => unfold mb_s at ih ⊢; rw [fo_s]; omega
theorem sc_c11 : ∀ n τ, (fo_f sc_c 0 n τ).2.1 11 = τ.2.1 11 := by
  intro n
  induction n with
  | zero => intro τ; rfl
  | succ n ih => intro τ; rw [fo_s, sc_c, rs_an _ _ (by decide)]; exact ih τ
set_option maxRecDepth 100000 in
set_option maxHeartbeats 8000000 in
/-- Iv: what holds of the reference's state between its stores -/
theorem q_second (l : Launch) (E : jx_E) (b : Nat) (G0 : jx_H) (sz mb : Nat) (σ : rs_S) (j : Nat) (c : Bool) (t : Int32) (Iv : rs_S → Prop) (hcan : mp_can σ ↔ c = true) (hj : j ≤ 4)
    (a0 : Iv (sc_p σ c).2) (a1 : ∀ τ, Iv τ → τ.2.1 6 70 = nI j)
    (a2 : ∀ τ s pg, Iv τ → s < 3 → pg ≤ 5 → Iv (mv_r (nI s) pg 71 τ).2)
    (a3 : ∀ τ s pg, Iv τ → s < 3 → 1 ≤ pg → pg ≤ 5 → (mv_r (nI s) pg 71 τ).1 = true → mw_pre (mv_r (nI s) pg 71 τ).2 (nI s) pg ∧ Iv (mw_r (mv_r (nI s) pg 71 τ).2 (nI s) pg).2) :
    jx_ct l E b yM_second cM_second 7 (some .int) 3 0 0 [.ref mb, .int t] (rm_G E mb σ G0) sz (rm_q E mb G0 sz (.int (ms_second σ j c t).1) (ms_second σ j c t).2) := by
  refine jx_met (by decide) (Nat.le_of_ble_eq_true rfl) (L0 := [_, _, _, _, _, _, _]) rfl (fun X k => ?_)
  have k32 : ∀ v : Int32, v = (if σ.1 2 = 0 then 1 else if t ≤ σ.1 1 ∨ 9999 < t then 2 else 0) → jx_w X E b (jx_fin X E b (rm_q E mb G0 sz (.int (ms_second σ j c t).1) (ms_second σ j c t).2) 0 0) 32 [some (.ref mb), some (.int t), none, none, none, none, none] [.int v, .ref mb] (rm_G E mb σ G0) sz 0 0 := by
    intro v hv
    by_cases h1 : σ.1 2 = 0
    · rw [if_pos h1] at hv
      subst hv
      have e : ms_second σ j c t = (0, rs_f σ 0 1) := by rw [ms_second, if_pos h1]
      refine rm_put k (j := 0) fM_83 dM_second_32 rfl rfl (Nat.le_of_ble_eq_true rfl) rfl ?_
      refine jx_aload_n k dM_second_35 rfl ?_
      refine rm_get k fM_83 dM_second_36 rfl ?_
      refine jx_if_le k dM_second_39 (tgt := 44) rfl (fun hh => absurd hh (by show ¬ ((1 : Int32) ≤ 0); decide)) (fun _ => ?_)
      refine jx_iconst k dM_second_42 (v := 0) (by decide) ?_
      exact jx_iret k dM_second_43 (Nat.le_refl _) (Nat.le_refl _) ⟨by rw [e], by rw [e], rfl⟩
    · rw [if_neg h1] at hv
      by_cases h2 : t ≤ σ.1 1 ∨ 9999 < t
      · rw [if_pos h2] at hv
        subst hv
        have e : ms_second σ j c t = (0, rs_f σ 0 2) := by rw [ms_second, if_neg h1, if_pos h2]
        refine rm_put k (j := 0) fM_83 dM_second_32 rfl rfl (Nat.le_of_ble_eq_true rfl) rfl ?_
        refine jx_aload_n k dM_second_35 rfl ?_
        refine rm_get k fM_83 dM_second_36 rfl ?_
        refine jx_if_le k dM_second_39 (tgt := 44) rfl (fun hh => absurd hh (by show ¬ ((2 : Int32) ≤ 0); decide)) (fun _ => ?_)
        refine jx_iconst k dM_second_42 (v := 0) (by decide) ?_
        exact jx_iret k dM_second_43 (Nat.le_refl _) (Nat.le_refl _) ⟨by rw [e], by rw [e], rfl⟩
      · rw [if_neg h2] at hv
        subst hv
        have e : ms_second σ j c t = sc_e (fo_f (sc_f j (sc_p σ c).1) 0 3 (0, true, (sc_p σ c).2)) t := by rw [ms_second, if_neg h1, if_neg h2]
        have hpc : (sc_p σ c).1 ≤ 16 := by
          unfold sc_p
          split
          · exact Nat.zero_le _
          · unfold mp_code
            have hb0 : mp_b0 (rs_f σ 0 0) ≤ 16 := by unfold mp_b0; split <;> omega
            split
            · next h => dsimp only; omega
            · exact hb0
        have k62 : jx_w X E b (jx_fin X E b (rm_q E mb G0 sz (.int (ms_second σ j c t).1) (ms_second σ j c t).2) 0 0) 62 [some (.ref mb), some (.int t), none, none, none, none, none] [.int (nI (sc_p σ c).1)] (rm_G E mb (sc_p σ c).2 G0) sz 0 0 := by
          generalize sc_p σ c = y at e a0 hpc
          obtain ⟨pc, τ0⟩ := y
          dsimp only at e a0 hpc ⊢
          generalize hfin : fo_f (sc_f j pc) 0 3 (0, true, τ0) = xf at e
          have k138 : ∀ g on τ, (g, on, τ) = xf → jx_w X E b (jx_fin X E b (rm_q E mb G0 sz (.int (ms_second σ j c t).1) (ms_second σ j c t).2) 0 0) 138 [some (.ref mb), some (.int t), some (.int (nI pc)), some (.int (nI g)), some (.int (jb_z (on = true))), none, none] [] (rm_G E mb τ G0) sz 0 0 := by
            intro g on τ hx
            rw [← hx] at e
            cases on with
            | false =>
              have e : ms_second σ j c t = (-1, rs_f (ml_l τ) 1 t) := e
              refine jx_iload k dM_second_138 rfl ?_
              refine jx_if_ne k dM_second_140 (tgt := 154) rfl (fun hh => absurd (by decide) hh) (fun _ => ?_)
              refine jx_aload_n k dM_second_143 rfl ?_
              refine jx_callV0 k mM_154 (q_lose _ _ _ _ _ _ τ) rm_a0 rfl dM_second_144 rfl rfl rfl (Nat.le_of_ble_eq_true rfl) ⟨Nat.le_of_ble_eq_true rfl, Nat.le_of_ble_eq_true rfl⟩ ⟨Nat.le_of_ble_eq_true rfl, Nat.le_of_ble_eq_true rfl⟩ ?_
              refine jx_aload_n k dM_second_147 rfl ?_
              refine jx_iload_n k dM_second_148 rfl ?_
              refine rm_put k (j := 1) fM_105 dM_second_149 rfl rfl (Nat.le_of_ble_eq_true rfl) rfl ?_
              refine jx_iconst k dM_second_152 (v := (-1)) (by decide) ?_
              exact jx_iret k dM_second_153 (Nat.le_refl _) (Nat.le_refl _) ⟨by rw [e], by rw [e], rfl⟩
            | true =>
              have e : ms_second σ j c t = (nI g, rs_f (mc_l (rs_f (sc_h τ) 4 (if τ.2.1 11 70 = 0 then (sc_h τ).1 4 else (sc_h τ).1 1))) 1 t) := e
              have k198 : (sc_h τ).2.1 11 70 = τ.2.1 11 70 → jx_w X E b (jx_fin X E b (rm_q E mb G0 sz (.int (ms_second σ j c t).1) (ms_second σ j c t).2) 0 0) 198 [some (.ref mb), some (.int t), some (.int (nI pc)), some (.int (nI g)), some (.int 1), none, none] [] (rm_G E mb (sc_h τ) G0) sz 0 0 := by
                intro h11
                generalize sc_h τ = υ at e h11
                have k220 : ∀ v : Int32, v = (if τ.2.1 11 70 = 0 then υ.1 4 else υ.1 1) → jx_w X E b (jx_fin X E b (rm_q E mb G0 sz (.int (ms_second σ j c t).1) (ms_second σ j c t).2) 0 0) 220 [some (.ref mb), some (.int t), some (.int (nI pc)), some (.int (nI g)), some (.int 1), none, none] [.int v, .ref mb] (rm_G E mb υ G0) sz 0 0 := by
                  rintro v rfl
                  refine rm_put k (j := 4) fM_68 dM_second_220 rfl rfl (Nat.le_of_ble_eq_true rfl) rfl ?_
                  refine jx_aload_n k dM_second_223 rfl ?_
                  refine jx_callV0 k mM_137 (q_clear _ _ _ _ _ _ (rs_f υ 4 (if τ.2.1 11 70 = 0 then υ.1 4 else υ.1 1))) rm_a0 rfl dM_second_224 rfl rfl rfl (Nat.le_of_ble_eq_true rfl) ⟨Nat.le_of_ble_eq_true rfl, Nat.le_of_ble_eq_true rfl⟩ ⟨Nat.le_of_ble_eq_true rfl, Nat.le_of_ble_eq_true rfl⟩ ?_
                  refine jx_aload_n k dM_second_227 rfl ?_
                  refine jx_iload_n k dM_second_228 rfl ?_
                  refine rm_put k (j := 1) fM_105 dM_second_229 rfl rfl (Nat.le_of_ble_eq_true rfl) rfl ?_
                  refine jx_iload_n k dM_second_232 rfl ?_
                  exact jx_iret k dM_second_233 (Nat.le_refl _) (Nat.le_refl _) ⟨by rw [e], by rw [e], rfl⟩
                refine jx_aload_n k dM_second_198 rfl ?_
                refine jx_aload_n k dM_second_199 rfl ?_
                refine rm_get k fM_50 dM_second_200 rfl ?_
                refine jx_bipush k dM_second_203 (v := 70) (by decide) ?_
                refine rm_zldV k dM_second_205 (by decide) rfl (p := 70) rfl (by omega) (by decide) h11 ?_
                refine jx_if_eq k dM_second_206 (tgt := 216) rfl (fun h3 => ?_) (fun h3 => ?_)
                · refine jx_aload_n k dM_second_216 rfl ?_
                  refine rm_get k fM_68 dM_second_217 rfl ?_
                  exact k220 _ (by rw [if_pos h3])
                · refine jx_aload_n k dM_second_209 rfl ?_
                  refine rm_get k fM_105 dM_second_210 rfl ?_
                  refine jx_goto k dM_second_213 (tgt := 220) rfl ?_
                  exact k220 _ (by rw [if_neg h3])
              by_cases h3 : τ.2.1 11 70 = 0
              · have eh : sc_h τ = τ := by rw [sc_h, if_pos h3]
                rw [eh] at k198
                refine jx_iload k dM_second_138 rfl ?_
                refine jx_if_ne k dM_second_140 (tgt := 154) rfl (fun _ => ?_) (fun hh => absurd hh (by decide))
                refine jx_iconst k dM_second_154 (v := 0) (by decide) ?_
                refine jx_istore k dM_second_155 (Nat.le_of_ble_eq_true rfl) rfl (L' := [_, _, _, _, _, _, _]) rfl ?_
                refine jx_iload k dM_second_157 rfl ?_
                refine jx_bipush k dM_second_159 (v := 8) (by decide) ?_
                refine jx_icmp_ge k dM_second_161 (tgt := 198) rfl (fun hh => absurd hh (by decide)) (fun _ => ?_)
                refine jx_aload_n k dM_second_164 rfl ?_
                refine rm_get k fM_50 dM_second_165 rfl ?_
                refine jx_bipush k dM_second_168 (v := 70) (by decide) ?_
                refine rm_zldV k dM_second_170 (by decide) rfl (p := 70) rfl (by omega) (by decide) h3 ?_
                refine jx_if_eq k dM_second_171 (tgt := 198) rfl (fun _ => ?_) (fun hh => absurd rfl hh)
                refine jx_fg (jx_ls (jx_ls (jx_ls (jx_ls (jx_ls (jx_ln (jx_ls jx_l0))))))) ?_
                exact k198 rfl
              · have eh : sc_h τ = fo_f sc_c 0 8 τ := by rw [sc_h, if_neg h3]
                rw [eh] at k198
                refine jx_iload k dM_second_138 rfl ?_
                refine jx_if_ne k dM_second_140 (tgt := 154) rfl (fun _ => ?_) (fun hh => absurd hh (by decide))
                refine jx_iconst k dM_second_154 (v := 0) (by decide) ?_
                refine jx_istore k dM_second_155 (Nat.le_of_ble_eq_true rfl) rfl (L' := [_, _, _, _, _, _, _]) rfl ?_
                refine fo_l (fun p υ => υ.2.1 11 70 = τ.2.1 11 70 → jx_w X E b (jx_fin X E b (rm_q E mb G0 sz (.int (ms_second σ j c t).1) (ms_second σ j c t).2) 0 0) 157 [some (.ref mb), some (.int t), some (.int (nI pc)), some (.int (nI g)), some (.int 1), some (.int (nI p)), none] [] (rm_G E mb υ G0) sz 0 0) sc_c (lo := 0) (hi := 8) (by decide) τ ?_ ?_ rfl
                · intro p g1 g2
                  generalize fo_f sc_c 0 (p - 0) τ = υ
                  intro kk h11
                  have kk := kk (by rw [sc_c, rs_an _ _ (by decide)]; exact h11)
                  refine jx_iload k dM_second_157 rfl ?_
                  refine jx_bipush k dM_second_159 (v := 8) (by decide) ?_
                  refine jx_icmp_ge k dM_second_161 (tgt := 198) rfl (fun hh => absurd hh (nI_ge (b := 8) g2 (by decide))) (fun _ => ?_)
                  refine jx_aload_n k dM_second_164 rfl ?_
                  refine rm_get k fM_50 dM_second_165 rfl ?_
                  refine jx_bipush k dM_second_168 (v := 70) (by decide) ?_
                  refine rm_zldV k dM_second_170 (by decide) rfl (p := 70) rfl (by omega) (by decide) h11 ?_
                  refine jx_if_eq k dM_second_171 (tgt := 198) rfl (fun hh => absurd hh h3) (fun _ => ?_)
                  refine jx_aload_n k dM_second_174 rfl ?_
                  refine rm_get k fM_65 dM_second_175 rfl ?_
                  refine jx_iload k dM_second_178 rfl ?_
                  refine jx_aload_n k dM_second_180 rfl ?_
                  refine rm_get k fM_56 dM_second_181 rfl ?_
                  refine jx_sipush k dM_second_184 (v := 560) (by decide) ?_
                  refine jx_iload k dM_second_187 rfl ?_
                  refine jx_iadd k dM_second_189 ?_
                  refine rm_ild k dM_second_190 (by decide) rfl (p := 560 + p) (nI_add 560 p) (by omega) (by decide) ?_
                  refine rm_ist k dM_second_191 (by decide) (fun _ => rfl) (p := p) rfl (by omega) (by decide) ?_
                  refine jx_iinc k dM_second_192 rfl (nI_1 p) rfl (L' := [_, _, _, _, _, _, _]) rfl ?_
                  refine jx_goto k dM_second_195 (tgt := 157) rfl ?_
                  exact kk
                · intro h11
                  refine jx_iload k dM_second_157 rfl ?_
                  refine jx_bipush k dM_second_159 (v := 8) (by decide) ?_
                  refine jx_icmp_ge k dM_second_161 (tgt := 198) rfl (fun _ => ?_) (fun hh => absurd (nI_le (a := 8) (b := 8) (by decide) (by decide)) hh)
                  refine jx_fg (jx_ls (jx_ls (jx_ls (jx_ls (jx_ls (jx_ln (jx_ls jx_l0))))))) ?_
                  exact k198 (by rw [sc_c11])
          refine jx_istore_n k dM_second_62 (Nat.le_of_ble_eq_true rfl) rfl (L' := [_, _, _, _, _, _, _]) rfl ?_
          refine jx_iconst k dM_second_63 (v := 0) (by decide) ?_
          refine jx_istore_n k dM_second_64 (Nat.le_of_ble_eq_true rfl) rfl (L' := [_, _, _, _, _, _, _]) rfl ?_
          refine jx_iconst k dM_second_65 (v := 1) (by decide) ?_
          refine jx_istore k dM_second_66 (Nat.le_of_ble_eq_true rfl) rfl (L' := [_, _, _, _, _, _, _]) rfl ?_
          refine jx_iconst k dM_second_68 (v := 0) (by decide) ?_
          refine jx_istore k dM_second_69 (Nat.le_of_ble_eq_true rfl) rfl (L' := [_, _, _, _, _, _, _]) rfl ?_
          have hloop : Iv τ0 → (((0, true, τ0) : Nat × Bool × rs_S).2.1 = true → jx_w X E b (jx_fin X E b (rm_q E mb G0 sz (.int (ms_second σ j c t).1) (ms_second σ j c t).2) 0 0) 71 [some (.ref mb), some (.int t), some (.int (nI pc)), some (.int (nI 0)), some (.int 1), some (.int (nI 0)), none] [] (rm_G E mb τ0 G0) sz 0 0) ∧ (((0, true, τ0) : Nat × Bool × rs_S).2.1 = false → jx_w X E b (jx_fin X E b (rm_q E mb G0 sz (.int (ms_second σ j c t).1) (ms_second σ j c t).2) 0 0) 138 [some (.ref mb), some (.int t), some (.int (nI pc)), some (.int (nI 0)), some (.int 0), none, none] [] (rm_G E mb τ0 G0) sz 0 0) := by
            refine fo_l (fun p x => Iv x.2.2 → (x.2.1 = true → jx_w X E b (jx_fin X E b (rm_q E mb G0 sz (.int (ms_second σ j c t).1) (ms_second σ j c t).2) 0 0) 71 [some (.ref mb), some (.int t), some (.int (nI pc)), some (.int (nI x.1)), some (.int 1), some (.int (nI p)), none] [] (rm_G E mb x.2.2 G0) sz 0 0) ∧ (x.2.1 = false → jx_w X E b (jx_fin X E b (rm_q E mb G0 sz (.int (ms_second σ j c t).1) (ms_second σ j c t).2) 0 0) 138 [some (.ref mb), some (.int t), some (.int (nI pc)), some (.int (nI x.1)), some (.int 0), none, none] [] (rm_G E mb x.2.2 G0) sz 0 0)) (sc_f j pc) (lo := 0) (hi := 3) (by decide) (0, true, τ0) ?_ ?_
            · intro s g1 g2
              generalize fo_f (sc_f j pc) 0 (s - 0) (0, true, τ0) = x
              obtain ⟨g, on, τ⟩ := x
              intro kk hIv
              cases on with
              | false =>
                have es : sc_f j pc s (g, false, τ) = (g, false, τ) := by rw [sc_f, if_neg (fun h => absurd h.1 Bool.false_ne_true)]
                rw [es] at kk
                exact ⟨fun h => absurd h Bool.false_ne_true, fun h => (kk hIv).2 rfl⟩
              | true =>
                refine ⟨fun _ => ?_, fun h => absurd h.symm Bool.false_ne_true⟩
                dsimp only at hIv ⊢
                have hn70 := a1 τ hIv
                have hyb : mb_y τ j (nI s) pc ≤ 73 := by
                  have := mb_s_le τ j
                  unfold mb_y
                  split <;> split <;> split <;> omega
                have hyb6 : 6 ≤ mb_y τ j (nI s) pc := by
                  have := mb_s_ge τ j
                  unfold mb_y
                  omega
                have hpg1 : 1 ≤ sc_pg τ j s pc := by unfold sc_pg; omega
                have hpg5 : sc_pg τ j s pc ≤ 5 := by unfold sc_pg; omega
                have epg : (nI (mb_y τ j (nI s) pc) + 15) / 16 = nI (sc_pg τ j s pc) := by
                  rw [show (15 : Int32) = nI 15 from rfl, show (16 : Int32) = nI 16 from rfl, nI_add, pk_div (by omega) (by decide) (by decide)]
                  rfl
                have k132 : ∀ (g' : Nat) (on' : Bool) (τ' : rs_S) (z : Option Value), sc_f j pc s (g, true, τ) = (g', on', τ') → Iv τ' → jx_w X E b (jx_fin X E b (rm_q E mb G0 sz (.int (ms_second σ j c t).1) (ms_second σ j c t).2) 0 0) 132 [some (.ref mb), some (.int t), some (.int (nI pc)), some (.int (nI g')), some (.int (jb_z (on' = true))), some (.int (nI s)), z] [] (rm_G E mb τ' G0) sz 0 0 := by
                  intro g' on' τ' z es hI'
                  rw [es] at kk
                  have kk := kk hI'
                  cases on' with
                  | true =>
                    refine jx_iinc k dM_second_132 rfl (nI_1 s) rfl (L' := [_, _, _, _, _, _, _]) rfl ?_
                    refine jx_goto k dM_second_135 (tgt := 71) rfl ?_
                    refine jx_fg (jx_ls (jx_ls (jx_ls (jx_ls (jx_ls (jx_ls (jx_ln jx_l0))))))) ?_
                    exact kk.1 rfl
                  | false =>
                    have k2 := kk.2 rfl
                    refine jx_iinc k dM_second_132 rfl (nI_1 s) rfl (L' := [_, _, _, _, _, _, _]) rfl ?_
                    refine jx_goto k dM_second_135 (tgt := 71) rfl ?_
                    refine jx_iload k dM_second_71 rfl ?_
                    refine jx_iconst k dM_second_73 (v := 3) (by decide) ?_
                    refine jx_icmp_ge k dM_second_74 (tgt := 138) rfl (fun h5 => ?_) (fun h5 => ?_)
                    · refine jx_fg (jx_ls (jx_ls (jx_ls (jx_ls (jx_ls (jx_ln (jx_ln jx_l0))))))) ?_
                      exact k2
                    · refine jx_iload k dM_second_77 rfl ?_
                      refine jx_if_eq k dM_second_79 (tgt := 138) rfl (fun _ => ?_) (fun hh => absurd (by decide) hh)
                      refine jx_fg (jx_ls (jx_ls (jx_ls (jx_ls (jx_ls (jx_ln (jx_ln jx_l0))))))) ?_
                      exact k2
                refine jx_iload k dM_second_71 rfl ?_
                refine jx_iconst k dM_second_73 (v := 3) (by decide) ?_
                refine jx_icmp_ge k dM_second_74 (tgt := 138) rfl (fun hh => absurd hh (nI_ge (b := 3) g2 (by decide))) (fun _ => ?_)
                refine jx_iload k dM_second_77 rfl ?_
                refine jx_if_eq k dM_second_79 (tgt := 138) rfl (fun hh => absurd hh (by decide)) (fun _ => ?_)
                refine jx_aload_n k dM_second_82 rfl ?_
                refine jx_iload k dM_second_83 rfl ?_
                refine jx_iload_n k dM_second_85 rfl ?_
                refine jx_callVP k mM_144 (q_bytesFor _ _ _ _ _ _ τ (nI s) pc j hn70 hj) rm_a0 rfl dM_second_86 rfl rfl rfl (Nat.le_of_ble_eq_true rfl) ⟨Nat.le_of_ble_eq_true rfl, Nat.le_of_ble_eq_true rfl⟩ ⟨Nat.le_of_ble_eq_true rfl, Nat.le_of_ble_eq_true rfl⟩ ?_
                refine jx_bipush k dM_second_89 (v := 15) (by decide) ?_
                refine jx_iadd k dM_second_91 ?_
                refine jx_bipush k dM_second_92 (v := 16) (by decide) ?_
                refine jx_idiv k dM_second_94 (by decide) ?_
                rw [epg]
                generalize hpg : sc_pg τ j s pc = pg at hpg1 hpg5
                refine jx_istore k dM_second_95 (Nat.le_of_ble_eq_true rfl) rfl (L' := [_, _, _, _, _, _, _]) rfl ?_
                refine jx_aload_n k dM_second_97 rfl ?_
                refine rm_get k fM_17 dM_second_98 rfl ?_
                refine jx_iload k dM_second_101 rfl ?_
                refine rm_zld k dM_second_103 (by decide) rfl (p := s) rfl (by omega) (by decide) ?_
                refine jx_if_ne k dM_second_104 (tgt := 132) rfl (fun h4 => ?_) (fun h4 => ?_)
                · have es : sc_f j pc s (g, true, τ) = (g, true, τ) := by rw [sc_f, if_neg (fun h => h4 h.2)]
                  exact k132 g true τ _ es hIv
                · refine jx_aload_n k dM_second_107 rfl ?_
                  refine jx_iload k dM_second_108 rfl ?_
                  refine jx_iload k dM_second_110 rfl ?_
                  refine jx_callV1 k mM_148 (q_makeRoom _ _ _ _ _ _ τ (nI s) pg (by omega)) rm_a0 rfl dM_second_112 rfl rfl rfl (Nat.le_of_ble_eq_true rfl) ⟨Nat.le_of_ble_eq_true rfl, Nat.le_of_ble_eq_true rfl⟩ ⟨Nat.le_of_ble_eq_true rfl, Nat.le_of_ble_eq_true rfl⟩ ?_
                  refine jx_if_eq k dM_second_115 (tgt := 132) rfl (fun h5 => ?_) (fun h5 => ?_)
                  · have h5 : ¬ (mv_r (nI s) pg 71 τ).1 = true := jb_e0.mp h5
                    have es : sc_f j pc s (g, true, τ) = (g, true, (mv_r (nI s) pg 71 τ).2) := by
                      rw [sc_f, if_pos ⟨rfl, h4⟩]; dsimp only; rw [hpg, if_neg h5]
                    exact k132 g true _ _ es (a2 τ s pg hIv g2 hpg5)
                  · have h5 : (mv_r (nI s) pg 71 τ).1 = true := Decidable.byContradiction (fun h => h5 (jb_f h))
                    obtain ⟨w1, w2⟩ := a3 τ s pg hIv g2 hpg1 hpg5 h5
                    have es : sc_f j pc s (g, true, τ) = (g + 1, (mw_r (mv_r (nI s) pg 71 τ).2 (nI s) pg).1, (mw_r (mv_r (nI s) pg 71 τ).2 (nI s) pg).2) := by
                      rw [sc_f, if_pos ⟨rfl, h4⟩]; dsimp only; rw [hpg, if_pos h5]
                    refine jx_aload_n k dM_second_118 rfl ?_
                    refine jx_iload k dM_second_119 rfl ?_
                    refine jx_iload k dM_second_121 rfl ?_
                    refine jx_callV1 k mM_151 (q_write _ _ _ _ _ _ (mv_r (nI s) pg 71 τ).2 (nI s) pg (by omega) w1) rm_a0 rfl dM_second_123 rfl rfl rfl (Nat.le_of_ble_eq_true rfl) ⟨Nat.le_of_ble_eq_true rfl, Nat.le_of_ble_eq_true rfl⟩ ⟨Nat.le_of_ble_eq_true rfl, Nat.le_of_ble_eq_true rfl⟩ ?_
                    refine jx_istore k dM_second_126 (Nat.le_of_ble_eq_true rfl) rfl (L' := [_, _, _, _, _, _, _]) rfl ?_
                    refine jx_iload_n k dM_second_128 rfl ?_
                    refine jx_iconst k dM_second_129 (v := 1) (by decide) ?_
                    refine jx_iadd k dM_second_130 ?_
                    rw [nI_1]
                    refine jx_istore_n k dM_second_131 (Nat.le_of_ble_eq_true rfl) rfl (L' := [_, _, _, _, _, _, _]) rfl ?_
                    exact k132 (g + 1) _ _ _ es w2
            · intro hIv
              refine ⟨fun ht => ?_, fun hf => ?_⟩
              · have hfin : fo_f (sc_f j pc) 0 (3 - 0) (0, true, τ0) = xf := hfin
                rw [hfin] at ht ⊢
                have := k138 xf.1 xf.2.1 xf.2.2 rfl
                rw [ht, jb_t rfl] at this
                refine jx_iload k dM_second_71 rfl ?_
                refine jx_iconst k dM_second_73 (v := 3) (by decide) ?_
                refine jx_icmp_ge k dM_second_74 (tgt := 138) rfl (fun _ => ?_) (fun hh => absurd (nI_le (a := 3) (b := 3) (by decide) (by decide)) hh)
                refine jx_fg (jx_ls (jx_ls (jx_ls (jx_ls (jx_ls (jx_ln (jx_ls jx_l0))))))) ?_
                exact this
              · have hfin : fo_f (sc_f j pc) 0 (3 - 0) (0, true, τ0) = xf := hfin
                rw [hfin] at hf ⊢
                have := k138 xf.1 xf.2.1 xf.2.2 rfl
                rw [hf, jb_f (by decide)] at this
                exact this
          exact (hloop a0).1 rfl
        by_cases h3 : σ.2.1 11 70 = 0
        · have ep : sc_p σ c = (0, rs_f σ 0 0) := by rw [sc_p, if_pos h3]
          rw [ep] at k62
          refine rm_put k (j := 0) fM_83 dM_second_32 rfl rfl (Nat.le_of_ble_eq_true rfl) rfl ?_
          refine jx_aload_n k dM_second_35 rfl ?_
          refine rm_get k fM_83 dM_second_36 rfl ?_
          refine jx_if_le k dM_second_39 (tgt := 44) rfl (fun _ => ?_) (fun hh => absurd (by show ((0 : Int32) ≤ 0); decide) hh)
          refine jx_aload_n k dM_second_44 rfl ?_
          refine rm_get k fM_50 dM_second_45 rfl ?_
          refine jx_bipush k dM_second_48 (v := 70) (by decide) ?_
          refine rm_zldV k dM_second_50 (by decide) rfl (p := 70) rfl (by omega) (by decide) h3 ?_
          refine jx_if_eq k dM_second_51 (tgt := 61) rfl (fun _ => ?_) (fun hh => absurd rfl hh)
          refine jx_iconst k dM_second_61 (v := 0) (by decide) ?_
          exact k62
        · have ep : sc_p σ c = mp_code (rs_f σ 0 0) c := by rw [sc_p, if_neg h3]
          rw [ep] at k62
          refine rm_put k (j := 0) fM_83 dM_second_32 rfl rfl (Nat.le_of_ble_eq_true rfl) rfl ?_
          refine jx_aload_n k dM_second_35 rfl ?_
          refine rm_get k fM_83 dM_second_36 rfl ?_
          refine jx_if_le k dM_second_39 (tgt := 44) rfl (fun _ => ?_) (fun hh => absurd (by show ((0 : Int32) ≤ 0); decide) hh)
          refine jx_aload_n k dM_second_44 rfl ?_
          refine rm_get k fM_50 dM_second_45 rfl ?_
          refine jx_bipush k dM_second_48 (v := 70) (by decide) ?_
          refine rm_zld k dM_second_50 (by decide) rfl (p := 70) rfl (by omega) (by decide) ?_
          refine jx_if_eq k dM_second_51 (tgt := 61) rfl (fun hh => absurd hh h3) (fun _ => ?_)
          refine jx_aload_n k dM_second_54 rfl ?_
          refine jx_callV1 k mM_140 (q_codePicture _ _ _ _ _ _ (rs_f σ 0 0) c hcan) rm_a0 rfl dM_second_55 rfl rfl rfl (Nat.le_of_ble_eq_true rfl) ⟨Nat.le_of_ble_eq_true rfl, Nat.le_of_ble_eq_true rfl⟩ ⟨Nat.le_of_ble_eq_true rfl, Nat.le_of_ble_eq_true rfl⟩ ?_
          refine jx_goto k dM_second_58 (tgt := 62) rfl ?_
          exact k62
  refine jx_aload_n k dM_second_0 rfl ?_
  refine jx_aload_n k dM_second_1 rfl ?_
  refine rm_get k fM_7 dM_second_2 rfl ?_
  refine jx_if_ne k dM_second_5 (tgt := 12) rfl (fun h1 => ?_) (fun h1 => ?_)
  · refine jx_iload_n k dM_second_12 rfl ?_
    refine jx_aload_n k dM_second_13 rfl ?_
    refine rm_get k fM_105 dM_second_14 rfl ?_
    refine jx_icmp_le k dM_second_17 (tgt := 27) rfl (fun h2 => ?_) (fun h2 => ?_)
    · refine jx_iconst k dM_second_27 (v := 2) (by decide) ?_
      refine jx_goto k dM_second_28 (tgt := 32) rfl ?_
      exact k32 _ (by rw [if_neg h1, if_pos (Or.inl h2)])
    · refine jx_iload_n k dM_second_20 rfl ?_
      refine jx_sipush k dM_second_21 (v := 9999) (by decide) ?_
      refine jx_icmp_le k dM_second_24 (tgt := 31) rfl (fun h3 => ?_) (fun h3 => ?_)
      · refine jx_iconst k dM_second_31 (v := 0) (by decide) ?_
        exact k32 _ (by rw [if_neg h1, if_neg (fun h => h.elim h2 (fun h => absurd h (Int32.not_lt.mpr h3)))])
      · refine jx_iconst k dM_second_27 (v := 2) (by decide) ?_
        refine jx_goto k dM_second_28 (tgt := 32) rfl ?_
        exact k32 _ (by rw [if_neg h1, if_pos (Or.inr (Int32.not_le.mp h3))])
  · refine jx_iconst k dM_second_8 (v := 1) (by decide) ?_
    refine jx_goto k dM_second_9 (tgt := 32) rfl ?_
    exact k32 _ (by rw [if_pos h1])
