/-! The law: a turn, the loop. -/
section LawLoop
variable {X : jx_X} {l : Launch} {E : jx_E} {b : Nat} {R : Room} {Q : State → Prop} {G : jx_H} {sz ce sl a x n N : Nat} {xs : Nat → Int32} {v5 v6 : Option Value} {σ : rs_S}
set_option maxRecDepth 100000 in
theorem law_step (k : jx_ok X l E b yL_law code 7 (some .boolean) R) (htr : ∀ e : Env, l.admits e → e.platform.stackTraces = false) (hX : va_X a N xs (jx_s X) (jx_s X).heap) (hbl : a < (jx_s X).heap.size) (hab : a < b) (hN : N < 2 ^ 31) (hn : 4 * n + 3 < N) (r1 : 11 ≤ R.frames) (r2 : 378 ≤ R.locals) (r3 : ce + 9 ≤ R.cells) (r4 : sl + 47 ≤ R.slots) (hLS : lwS E x σ G sz) (K : ∀ (σ' : rs_S) (G' : jx_H) (sz' ce' sl' : Nat) (w5 w6 : Option Value), lwS E x σ' G' sz' → ce' ≤ ce + 9 → sl' ≤ sl + 47 → jx_w X E b Q 1289 (lL a x n w5 w6) [] G' sz' ce' sl') : jx_w X E b Q 32 (lL a x n v5 v6) [] G sz ce sl := by
  refine jx_aload_n k dL_law_32 rfl ?_
  refine jx_iload k dL_law_33 rfl ?_
  refine jx_sld k hX hbl hab hN dL_law_35 (p := 4 * n) rfl (by omega) ?_
  refine jx_bipush k dL_law_36 (v := 31) (by decide) ?_
  refine jx_iand k dL_law_38 ?_
  have e : xs (4 * n) &&& 31 = nI ((xs (4 * n)).toBitVec.toNat % 2 ^ 5) := pk_and _ 5 (by decide)
  rw [e]
  have hr : (xs (4 * n)).toBitVec.toNat % 2 ^ 5 < 32 := Nat.mod_lt _ (by decide)
  generalize (xs (4 * n)).toBitVec.toNat % 2 ^ 5 = r at hr
  by_cases h : r < 25
  · have hc : r = 0 ∨ r = 1 ∨ r = 2 ∨ r = 3 ∨ r = 4 ∨ r = 5 ∨ r = 6 ∨ r = 7 ∨ r = 8 ∨ r = 9 ∨ r = 10 ∨ r = 11 ∨ r = 12 ∨ r = 13 ∨ r = 14 ∨ r = 15 ∨ r = 16 ∨ r = 17 ∨ r = 18 ∨ r = 19 ∨ r = 20 ∨ r = 21 ∨ r = 22 ∨ r = 23 ∨ r = 24 := by omega
    rcases hc with rfl | rfl | rfl | rfl | rfl | rfl | rfl | rfl | rfl | rfl | rfl | rfl | rfl | rfl | rfl | rfl | rfl | rfl | rfl | rfl | rfl | rfl | rfl | rfl | rfl
    · exact jx_tabIn k dL_law_39 (by decide) (by decide) (off := 113) rfl (tgt := 152) rfl (lc_sentence k htr hX hbl hab hN hn r1 r2 r3 r4 hLS K)
    · exact jx_tabIn k dL_law_39 (by decide) (by decide) (off := 213) rfl (tgt := 252) rfl (lc_sound k htr hX hbl hab hN hn r1 r2 r3 r4 hLS K)
    · exact jx_tabIn k dL_law_39 (by decide) (by decide) (off := 300) rfl (tgt := 339) rfl (lc_paint k htr hX hbl hab hN hn r1 r2 r3 r4 hLS K)
    · exact jx_tabIn k dL_law_39 (by decide) (by decide) (off := 375) rfl (tgt := 414) rfl (lc_show k htr hX hbl hab hN hn r1 r2 r3 r4 hLS K)
    · exact jx_tabIn k dL_law_39 (by decide) (by decide) (off := 426) rfl (tgt := 465) rfl (lc_contact k htr hX hbl hab hN hn r1 r2 r3 r4 hLS K)
    · exact jx_tabIn k dL_law_39 (by decide) (by decide) (off := 517) rfl (tgt := 556) rfl (lc_second k htr hX hbl hab hN hn r1 r2 r3 r4 hLS K)
    · exact jx_tabIn k dL_law_39 (by decide) (by decide) (off := 573) rfl (tgt := 612) rfl (lc_now k hX hbl hab hN hn r1 r2 r3 r4 hLS K)
    · exact jx_tabIn k dL_law_39 (by decide) (by decide) (off := 586) rfl (tgt := 625) rfl (lc_freeze k htr hX hbl hab hN hn r1 r2 r3 r4 hLS K)
    · exact jx_tabIn k dL_law_39 (by decide) (by decide) (off := 654) rfl (tgt := 693) rfl (lc_release k htr hX hbl hab hN hn r1 r2 r3 r4 hLS K)
    · exact jx_tabIn k dL_law_39 (by decide) (by decide) (off := 717) rfl (tgt := 756) rfl (lc_frozen k hX hbl hab hN hn r1 r2 r3 r4 hLS K)
    · exact jx_tabIn k dL_law_39 (by decide) (by decide) (off := 770) rfl (tgt := 809) rfl (lc_kept k hX hbl hab hN hn r1 r2 r3 r4 hLS K)
    · exact jx_tabIn k dL_law_39 (by decide) (by decide) (off := 823) rfl (tgt := 862) rfl (lc_free k hX hbl hab hN hn r1 r2 r3 r4 hLS K)
    · exact jx_tabIn k dL_law_39 (by decide) (by decide) (off := 848) rfl (tgt := 887) rfl (lc_has k hX hbl hab hN hn r1 r2 r3 r4 hLS K)
    · exact jx_tabIn k dL_law_39 (by decide) (by decide) (off := 885) rfl (tgt := 924) rfl (lc_replay k hX hbl hab hN hn r1 r2 r3 r4 hLS K)
    · exact jx_tabIn k dL_law_39 (by decide) (by decide) (off := 922) rfl (tgt := 961) rfl (lc_outSentence k hX hbl hab hN hn r1 r2 r3 r4 hLS K)
    · exact jx_tabIn k dL_law_39 (by decide) (by decide) (off := 948) rfl (tgt := 987) rfl (lc_outSource k hX hbl hab hN hn r1 r2 r3 r4 hLS K)
    · exact jx_tabIn k dL_law_39 (by decide) (by decide) (off := 973) rfl (tgt := 1012) rfl (lc_outSound k hX hbl hab hN hn r1 r2 r3 r4 hLS K)
    · exact jx_tabIn k dL_law_39 (by decide) (by decide) (off := 1010) rfl (tgt := 1049) rfl (lc_outContacts k hX hbl hab hN hn r1 r2 r3 r4 hLS K)
    · exact jx_tabIn k dL_law_39 (by decide) (by decide) (off := 1023) rfl (tgt := 1062) rfl (lc_outRow k hX hbl hab hN hn r1 r2 r3 r4 hLS K)
    · exact jx_tabIn k dL_law_39 (by decide) (by decide) (off := 1048) rfl (tgt := 1087) rfl (lc_find k hX hbl hab hN hn r1 r2 r3 r4 hLS K)
    · exact jx_tabIn k dL_law_39 (by decide) (by decide) (off := 1097) rfl (tgt := 1136) rfl (lc_fail k hX hbl hab hN hn r1 r2 r3 r4 hLS K)
    · exact jx_tabIn k dL_law_39 (by decide) (by decide) (off := 1150) rfl (tgt := 1189) rfl (lc_cutAfter k hX hbl hab hN hn r1 r2 r3 r4 hLS K)
    · exact jx_tabIn k dL_law_39 (by decide) (by decide) (off := 1175) rfl (tgt := 1214) rfl (lc_start k hX hbl hab hN hn r1 r2 r3 r4 hLS K)
    · exact jx_tabIn k dL_law_39 (by decide) (by decide) (off := 1188) rfl (tgt := 1227) rfl (lc_spoil k hX hbl hab hN hn r1 r2 r3 r4 hLS K)
    · exact jx_tabIn k dL_law_39 (by decide) (by decide) (off := 1225) rfl (tgt := 1264) rfl (lc_unreadable k hX hbl hab hN hn r1 r2 r3 r4 hLS K)
  · exact jx_tabOut k dL_law_39 (.inr (by rw [nI_toInt (by omega)]; omega)) (tgt := 1289) rfl (K σ G sz ce sl v5 v6 hLS (by omega) (by omega))
theorem law_cmp {N n : Nat} (hN : N ≤ 2048) (hn : 4 * n ≤ N + 3) : nI N - 4 < nI (4 * n) ↔ ¬ 4 * n + 4 ≤ N := by
  by_cases h : 4 ≤ N
  · have e : nI N - 4 = nI (N - 4) := pk_sub h
    rw [e, nI_ltI (by omega) (by omega)]
    omega
  · have e : nI N - 4 < 0 := pk_sneg (b := 4) (by decide) (by omega)
    refine ⟨fun _ => by omega, fun _ => Int32.lt_of_lt_of_le e (nI_pos' (by omega))⟩
set_option maxRecDepth 100000 in
theorem law_loop (k : jx_ok X l E b yL_law code 7 (some .boolean) R) (htr : ∀ e : Env, l.admits e → e.platform.stackTraces = false) (hX : va_X a N xs (jx_s X) (jx_s X).heap) (hbl : a < (jx_s X).heap.size) (hab : a < b) (hN : N ≤ 2048) (r1 : 11 ≤ R.frames) (r2 : 378 ≤ R.locals) (hE : ∀ (G : jx_H) (sz ce sl n : Nat) (v5 v6 : Option Value), ce ≤ R.cells → sl ≤ R.slots → jx_w X E b Q 1296 (lL a x n v5 v6) [.int 1] G sz ce sl) : ∀ (m n : Nat) (σ : rs_S) (G : jx_H) (sz ce sl : Nat) (v5 v6 : Option Value), N ≤ 4 * n + 4 * m + 3 → 4 * n ≤ N + 3 → ce + 9 * m ≤ R.cells → sl + 47 * m ≤ R.slots → lwS E x σ G sz → jx_w X E b Q 23 (lL a x n v5 v6) [] G sz ce sl := by
  intro m
  induction m with
  | zero =>
    intro n σ G sz ce sl v5 v6 hm hn hc hs hLS
    refine jx_iload k dL_law_23 rfl ?_
    refine jx_aload_n k dL_law_25 rfl ?_
    refine jx_slen k hX hbl hab dL_law_26 ?_
    refine jx_iconst k dL_law_27 (v := 4) (by decide) ?_
    refine jx_isub k dL_law_28 ?_
    refine jx_icmp_gt k dL_law_29 (tgt := 1295) rfl (fun _ => ?_) (fun hh => absurd ((law_cmp hN hn).mpr (by omega)) hh)
    refine jx_iconst k dL_law_1295 (v := 1) (by decide) ?_
    exact hE _ _ _ _ _ _ _ (by omega) (by omega)
  | succ m ih =>
    intro n σ G sz ce sl v5 v6 hm hn hc hs hLS
    refine jx_iload k dL_law_23 rfl ?_
    refine jx_aload_n k dL_law_25 rfl ?_
    refine jx_slen k hX hbl hab dL_law_26 ?_
    refine jx_iconst k dL_law_27 (v := 4) (by decide) ?_
    refine jx_isub k dL_law_28 ?_
    refine jx_icmp_gt k dL_law_29 (tgt := 1295) rfl (fun _ => ?_) (fun hh => ?_)
    · refine jx_iconst k dL_law_1295 (v := 1) (by decide) ?_
      exact hE _ _ _ _ _ _ _ (by omega) (by omega)
    · have hlt : 4 * n + 4 ≤ N := Classical.byContradiction (fun e => hh ((law_cmp hN hn).mpr e))
      refine law_step k htr hX hbl hab (by omega) (by omega) r1 r2 (by omega) (by omega) hLS (fun σ' G' sz' ce' sl' w5 w6 hL' h1 h2 => ?_)
      refine jx_iinc k dL_law_1289 rfl (v := nI (4 * (n + 1))) (by rw [show 4 * (n + 1) = 4 * n + 4 by omega]; exact nI_add _ 4) rfl (L' := [_, _, _, _, _, _, _]) rfl ?_
      refine jx_goto k dL_law_1292 (tgt := 23) rfl ?_
      exact ih (n + 1) σ' G' sz' ce' sl' w5 w6 (by omega) (by omega) (by omega) (by omega) hL'
end LawLoop
