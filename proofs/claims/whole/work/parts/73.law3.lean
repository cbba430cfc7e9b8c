/-! The law: its cases without throws. -/
abbrev yL_law : MethodName := ⟨"VoyageKeeperLaw", "law", "([I)Z"⟩
abbrev lL (a x n : Nat) (v5 v6 : Option Value) : List (Option Value) := [some (.ref a), some (.ref x), some (.ref (x + 30)), some (.ref (x + 51)), some (.int (nI (4 * n))), v5, v6]
section LawCases
variable {X : jx_X} {l : Launch} {E : jx_E} {b : Nat} {R : Room} {Q : State → Prop} {G : jx_H} {sz ce sl a x n N : Nat} {xs : Nat → Int32} {v5 v6 : Option Value} {σ : rs_S}
set_option maxRecDepth 100000 in
theorem lc_now (k : jx_ok X l E b yL_law code 7 (some .boolean) R) (hX : va_X a N xs (jx_s X) (jx_s X).heap) (hbl : a < (jx_s X).heap.size) (hab : a < b) (hN : N < 2 ^ 31) (hn : 4 * n + 3 < N) (r1 : 11 ≤ R.frames) (r2 : 378 ≤ R.locals) (r3 : ce + 9 ≤ R.cells) (r4 : sl + 47 ≤ R.slots) (hLS : lwS E x σ G sz) (K : ∀ (σ' : rs_S) (G' : jx_H) (sz' ce' sl' : Nat) (w5 w6 : Option Value), lwS E x σ' G' sz' → ce' ≤ ce + 9 → sl' ≤ sl + 47 → jx_w X E b Q 1289 (lL a x n w5 w6) [] G' sz' ce' sl') : jx_w X E b Q 612 (lL a x n v5 v6) [] G sz ce sl := by
  obtain ⟨uw, fo, ca, co, lo, lc, kn, on, cut, u, f, g, fl, h, sp, β, ρ, D, P, w, hC, hR, hM, ho⟩ := hLS
  refine jx_aload_n k dL_law_612 rfl ?_
  refine jx_callVP k mL_81 (k_now _ _ _ _ _ x uw fo ca co lo lc kn on cut u f g fl h sp β ρ D P hC ) hC.1.1 rfl dL_law_613 rfl rfl rfl (Nat.le_of_ble_eq_true rfl) ⟨by omega, by omega⟩ ⟨by omega, by omega⟩ ?_
  refine jx_aload_n k dL_law_616 rfl ?_
  rw [← MC_G hM]
  refine jx_callV1 k mL_84 (q_now _ _ _ _ _ _ σ ) rm_a0 rfl dL_law_617 rfl rfl rfl (Nat.le_of_ble_eq_true rfl) ⟨by omega, by omega⟩ ⟨by omega, by omega⟩ ?_
  refine jx_icmp_eq k dL_law_620 (tgt := 1289) rfl (fun _ => ?_) (fun hh => absurd (R_now hR) hh)
  exact K _ _ _ _ _ _ _ (lwS_of hC (Nat.le_refl _) (fun _ _ => rfl) (RR_0 0 hR) ho) (by omega) (by omega)
set_option maxRecDepth 100000 in
theorem lc_frozen (k : jx_ok X l E b yL_law code 7 (some .boolean) R) (hX : va_X a N xs (jx_s X) (jx_s X).heap) (hbl : a < (jx_s X).heap.size) (hab : a < b) (hN : N < 2 ^ 31) (hn : 4 * n + 3 < N) (r1 : 11 ≤ R.frames) (r2 : 378 ≤ R.locals) (r3 : ce + 9 ≤ R.cells) (r4 : sl + 47 ≤ R.slots) (hLS : lwS E x σ G sz) (K : ∀ (σ' : rs_S) (G' : jx_H) (sz' ce' sl' : Nat) (w5 w6 : Option Value), lwS E x σ' G' sz' → ce' ≤ ce + 9 → sl' ≤ sl + 47 → jx_w X E b Q 1289 (lL a x n w5 w6) [] G' sz' ce' sl') : jx_w X E b Q 756 (lL a x n v5 v6) [] G sz ce sl := by
  obtain ⟨uw, fo, ca, co, lo, lc, kn, on, cut, u, f, g, fl, h, sp, β, ρ, D, P, w, hC, hR, hM, ho⟩ := hLS
  by_cases hz : xs (4 * n + 2) = 0
  · refine jx_aload_n k dL_law_756 rfl ?_
    refine jx_aload_n k dL_law_757 rfl ?_
    refine jx_iload k dL_law_758 rfl ?_
    refine jx_iconst k dL_law_760 (v := 1) (by decide) ?_
    refine jx_iadd k dL_law_761 ?_
    refine jx_sld k hX hbl hab hN dL_law_762 (p := 4 * n + 1) (nI_add _ 1) (by omega) ?_
    refine jx_aload_n k dL_law_763 rfl ?_
    refine jx_iload k dL_law_764 rfl ?_
    refine jx_iconst k dL_law_766 (v := 2) (by decide) ?_
    refine jx_iadd k dL_law_767 ?_
    refine jx_sld k hX hbl hab hN dL_law_768 (p := 4 * n + 2) (nI_add _ 2) (by omega) ?_
    refine jx_if_eq k dL_law_769 (tgt := 776) rfl (fun _ => ?_) (fun hh => absurd hz hh)
    refine jx_iconst k dL_law_776 (v := 0) (by decide) ?_
    refine jx_callVP k mL_91 (k_frozen _ _ _ _ _ x uw fo ca co lo lc kn on cut u f g fl h sp β ρ D P hC (xs (4 * n + 1)) 0) hC.1.1 rfl dL_law_777 rfl rfl rfl (Nat.le_of_ble_eq_true rfl) ⟨by omega, by omega⟩ ⟨by omega, by omega⟩ ?_
    refine jx_aload_n k dL_law_780 rfl ?_
    refine jx_aload_n k dL_law_781 rfl ?_
    refine jx_iload k dL_law_782 rfl ?_
    refine jx_iconst k dL_law_784 (v := 1) (by decide) ?_
    refine jx_iadd k dL_law_785 ?_
    refine jx_sld k hX hbl hab hN dL_law_786 (p := 4 * n + 1) (nI_add _ 1) (by omega) ?_
    refine jx_aload_n k dL_law_787 rfl ?_
    refine jx_iload k dL_law_788 rfl ?_
    refine jx_iconst k dL_law_790 (v := 2) (by decide) ?_
    refine jx_iadd k dL_law_791 ?_
    refine jx_sld k hX hbl hab hN dL_law_792 (p := 4 * n + 2) (nI_add _ 2) (by omega) ?_
    refine jx_if_eq k dL_law_793 (tgt := 800) rfl (fun _ => ?_) (fun hh => absurd hz hh)
    refine jx_iconst k dL_law_800 (v := 0) (by decide) ?_
    rw [← MC_G hM]
    refine jx_callV1 k mL_95 (q_frozen _ _ _ _ _ _ σ (xs (4 * n + 1)) 0) rm_a0 rfl dL_law_801 rfl rfl rfl (Nat.le_of_ble_eq_true rfl) ⟨by omega, by omega⟩ ⟨by omega, by omega⟩ ?_
    refine jx_icmp_eq k dL_law_804 (tgt := 1289) rfl (fun _ => ?_) (fun hh => absurd (R_frozen hR _ _) hh)
    exact K _ _ _ _ _ _ _ (lwS_of hC (Nat.le_refl _) (fun _ _ => rfl) (RR_0 0 hR) ho) (by omega) (by omega)
  · refine jx_aload_n k dL_law_756 rfl ?_
    refine jx_aload_n k dL_law_757 rfl ?_
    refine jx_iload k dL_law_758 rfl ?_
    refine jx_iconst k dL_law_760 (v := 1) (by decide) ?_
    refine jx_iadd k dL_law_761 ?_
    refine jx_sld k hX hbl hab hN dL_law_762 (p := 4 * n + 1) (nI_add _ 1) (by omega) ?_
    refine jx_aload_n k dL_law_763 rfl ?_
    refine jx_iload k dL_law_764 rfl ?_
    refine jx_iconst k dL_law_766 (v := 2) (by decide) ?_
    refine jx_iadd k dL_law_767 ?_
    refine jx_sld k hX hbl hab hN dL_law_768 (p := 4 * n + 2) (nI_add _ 2) (by omega) ?_
    refine jx_if_eq k dL_law_769 (tgt := 776) rfl (fun hh => absurd hh hz) (fun _ => ?_)
    refine jx_iconst k dL_law_772 (v := 1) (by decide) ?_
    refine jx_goto k dL_law_773 (tgt := 777) rfl ?_
    refine jx_callVP k mL_91 (k_frozen _ _ _ _ _ x uw fo ca co lo lc kn on cut u f g fl h sp β ρ D P hC (xs (4 * n + 1)) 1) hC.1.1 rfl dL_law_777 rfl rfl rfl (Nat.le_of_ble_eq_true rfl) ⟨by omega, by omega⟩ ⟨by omega, by omega⟩ ?_
    refine jx_aload_n k dL_law_780 rfl ?_
    refine jx_aload_n k dL_law_781 rfl ?_
    refine jx_iload k dL_law_782 rfl ?_
    refine jx_iconst k dL_law_784 (v := 1) (by decide) ?_
    refine jx_iadd k dL_law_785 ?_
    refine jx_sld k hX hbl hab hN dL_law_786 (p := 4 * n + 1) (nI_add _ 1) (by omega) ?_
    refine jx_aload_n k dL_law_787 rfl ?_
    refine jx_iload k dL_law_788 rfl ?_
    refine jx_iconst k dL_law_790 (v := 2) (by decide) ?_
    refine jx_iadd k dL_law_791 ?_
    refine jx_sld k hX hbl hab hN dL_law_792 (p := 4 * n + 2) (nI_add _ 2) (by omega) ?_
    refine jx_if_eq k dL_law_793 (tgt := 800) rfl (fun hh => absurd hh hz) (fun _ => ?_)
    refine jx_iconst k dL_law_796 (v := 1) (by decide) ?_
    refine jx_goto k dL_law_797 (tgt := 801) rfl ?_
    rw [← MC_G hM]
    refine jx_callV1 k mL_95 (q_frozen _ _ _ _ _ _ σ (xs (4 * n + 1)) 1) rm_a0 rfl dL_law_801 rfl rfl rfl (Nat.le_of_ble_eq_true rfl) ⟨by omega, by omega⟩ ⟨by omega, by omega⟩ ?_
    refine jx_icmp_eq k dL_law_804 (tgt := 1289) rfl (fun _ => ?_) (fun hh => absurd (R_frozen hR _ _) hh)
    exact K _ _ _ _ _ _ _ (lwS_of hC (Nat.le_refl _) (fun _ _ => rfl) (RR_0 0 hR) ho) (by omega) (by omega)
set_option maxRecDepth 100000 in
theorem lc_kept (k : jx_ok X l E b yL_law code 7 (some .boolean) R) (hX : va_X a N xs (jx_s X) (jx_s X).heap) (hbl : a < (jx_s X).heap.size) (hab : a < b) (hN : N < 2 ^ 31) (hn : 4 * n + 3 < N) (r1 : 11 ≤ R.frames) (r2 : 378 ≤ R.locals) (r3 : ce + 9 ≤ R.cells) (r4 : sl + 47 ≤ R.slots) (hLS : lwS E x σ G sz) (K : ∀ (σ' : rs_S) (G' : jx_H) (sz' ce' sl' : Nat) (w5 w6 : Option Value), lwS E x σ' G' sz' → ce' ≤ ce + 9 → sl' ≤ sl + 47 → jx_w X E b Q 1289 (lL a x n w5 w6) [] G' sz' ce' sl') : jx_w X E b Q 809 (lL a x n v5 v6) [] G sz ce sl := by
  obtain ⟨uw, fo, ca, co, lo, lc, kn, on, cut, u, f, g, fl, h, sp, β, ρ, D, P, w, hC, hR, hM, ho⟩ := hLS
  by_cases hz : xs (4 * n + 2) = 0
  · refine jx_aload_n k dL_law_809 rfl ?_
    refine jx_aload_n k dL_law_810 rfl ?_
    refine jx_iload k dL_law_811 rfl ?_
    refine jx_iconst k dL_law_813 (v := 1) (by decide) ?_
    refine jx_iadd k dL_law_814 ?_
    refine jx_sld k hX hbl hab hN dL_law_815 (p := 4 * n + 1) (nI_add _ 1) (by omega) ?_
    refine jx_aload_n k dL_law_816 rfl ?_
    refine jx_iload k dL_law_817 rfl ?_
    refine jx_iconst k dL_law_819 (v := 2) (by decide) ?_
    refine jx_iadd k dL_law_820 ?_
    refine jx_sld k hX hbl hab hN dL_law_821 (p := 4 * n + 2) (nI_add _ 2) (by omega) ?_
    refine jx_if_eq k dL_law_822 (tgt := 829) rfl (fun _ => ?_) (fun hh => absurd hz hh)
    refine jx_iconst k dL_law_829 (v := 0) (by decide) ?_
    refine jx_callVP k mL_96 (k_kept _ _ _ _ _ x uw fo ca co lo lc kn on cut u f g fl h sp β ρ D P hC (xs (4 * n + 1)) 0) hC.1.1 rfl dL_law_830 rfl rfl rfl (Nat.le_of_ble_eq_true rfl) ⟨by omega, by omega⟩ ⟨by omega, by omega⟩ ?_
    refine jx_aload_n k dL_law_833 rfl ?_
    refine jx_aload_n k dL_law_834 rfl ?_
    refine jx_iload k dL_law_835 rfl ?_
    refine jx_iconst k dL_law_837 (v := 1) (by decide) ?_
    refine jx_iadd k dL_law_838 ?_
    refine jx_sld k hX hbl hab hN dL_law_839 (p := 4 * n + 1) (nI_add _ 1) (by omega) ?_
    refine jx_aload_n k dL_law_840 rfl ?_
    refine jx_iload k dL_law_841 rfl ?_
    refine jx_iconst k dL_law_843 (v := 2) (by decide) ?_
    refine jx_iadd k dL_law_844 ?_
    refine jx_sld k hX hbl hab hN dL_law_845 (p := 4 * n + 2) (nI_add _ 2) (by omega) ?_
    refine jx_if_eq k dL_law_846 (tgt := 853) rfl (fun _ => ?_) (fun hh => absurd hz hh)
    refine jx_iconst k dL_law_853 (v := 0) (by decide) ?_
    rw [← MC_G hM]
    refine jx_callV1 k mL_99 (q_kept _ _ _ _ _ _ σ (xs (4 * n + 1)) 0) rm_a0 rfl dL_law_854 rfl rfl rfl (Nat.le_of_ble_eq_true rfl) ⟨by omega, by omega⟩ ⟨by omega, by omega⟩ ?_
    refine jx_icmp_eq k dL_law_857 (tgt := 1289) rfl (fun _ => ?_) (fun hh => absurd (R_kept hR _ _) hh)
    exact K _ _ _ _ _ _ _ (lwS_of hC (Nat.le_refl _) (fun _ _ => rfl) (RR_0 0 hR) ho) (by omega) (by omega)
  · refine jx_aload_n k dL_law_809 rfl ?_
    refine jx_aload_n k dL_law_810 rfl ?_
    refine jx_iload k dL_law_811 rfl ?_
    refine jx_iconst k dL_law_813 (v := 1) (by decide) ?_
    refine jx_iadd k dL_law_814 ?_
    refine jx_sld k hX hbl hab hN dL_law_815 (p := 4 * n + 1) (nI_add _ 1) (by omega) ?_
    refine jx_aload_n k dL_law_816 rfl ?_
    refine jx_iload k dL_law_817 rfl ?_
    refine jx_iconst k dL_law_819 (v := 2) (by decide) ?_
    refine jx_iadd k dL_law_820 ?_
    refine jx_sld k hX hbl hab hN dL_law_821 (p := 4 * n + 2) (nI_add _ 2) (by omega) ?_
    refine jx_if_eq k dL_law_822 (tgt := 829) rfl (fun hh => absurd hh hz) (fun _ => ?_)
    refine jx_iconst k dL_law_825 (v := 1) (by decide) ?_
    refine jx_goto k dL_law_826 (tgt := 830) rfl ?_
    refine jx_callVP k mL_96 (k_kept _ _ _ _ _ x uw fo ca co lo lc kn on cut u f g fl h sp β ρ D P hC (xs (4 * n + 1)) 1) hC.1.1 rfl dL_law_830 rfl rfl rfl (Nat.le_of_ble_eq_true rfl) ⟨by omega, by omega⟩ ⟨by omega, by omega⟩ ?_
    refine jx_aload_n k dL_law_833 rfl ?_
    refine jx_aload_n k dL_law_834 rfl ?_
    refine jx_iload k dL_law_835 rfl ?_
    refine jx_iconst k dL_law_837 (v := 1) (by decide) ?_
    refine jx_iadd k dL_law_838 ?_
    refine jx_sld k hX hbl hab hN dL_law_839 (p := 4 * n + 1) (nI_add _ 1) (by omega) ?_
    refine jx_aload_n k dL_law_840 rfl ?_
    refine jx_iload k dL_law_841 rfl ?_
    refine jx_iconst k dL_law_843 (v := 2) (by decide) ?_
    refine jx_iadd k dL_law_844 ?_
    refine jx_sld k hX hbl hab hN dL_law_845 (p := 4 * n + 2) (nI_add _ 2) (by omega) ?_
    refine jx_if_eq k dL_law_846 (tgt := 853) rfl (fun hh => absurd hh hz) (fun _ => ?_)
    refine jx_iconst k dL_law_849 (v := 1) (by decide) ?_
    refine jx_goto k dL_law_850 (tgt := 854) rfl ?_
    rw [← MC_G hM]
    refine jx_callV1 k mL_99 (q_kept _ _ _ _ _ _ σ (xs (4 * n + 1)) 1) rm_a0 rfl dL_law_854 rfl rfl rfl (Nat.le_of_ble_eq_true rfl) ⟨by omega, by omega⟩ ⟨by omega, by omega⟩ ?_
    refine jx_icmp_eq k dL_law_857 (tgt := 1289) rfl (fun _ => ?_) (fun hh => absurd (R_kept hR _ _) hh)
    exact K _ _ _ _ _ _ _ (lwS_of hC (Nat.le_refl _) (fun _ _ => rfl) (RR_0 0 hR) ho) (by omega) (by omega)
set_option maxRecDepth 100000 in
theorem lc_free (k : jx_ok X l E b yL_law code 7 (some .boolean) R) (hX : va_X a N xs (jx_s X) (jx_s X).heap) (hbl : a < (jx_s X).heap.size) (hab : a < b) (hN : N < 2 ^ 31) (hn : 4 * n + 3 < N) (r1 : 11 ≤ R.frames) (r2 : 378 ≤ R.locals) (r3 : ce + 9 ≤ R.cells) (r4 : sl + 47 ≤ R.slots) (hLS : lwS E x σ G sz) (K : ∀ (σ' : rs_S) (G' : jx_H) (sz' ce' sl' : Nat) (w5 w6 : Option Value), lwS E x σ' G' sz' → ce' ≤ ce + 9 → sl' ≤ sl + 47 → jx_w X E b Q 1289 (lL a x n w5 w6) [] G' sz' ce' sl') : jx_w X E b Q 862 (lL a x n v5 v6) [] G sz ce sl := by
  obtain ⟨uw, fo, ca, co, lo, lc, kn, on, cut, u, f, g, fl, h, sp, β, ρ, D, P, w, hC, hR, hM, ho⟩ := hLS
  refine jx_aload_n k dL_law_862 rfl ?_
  refine jx_aload_n k dL_law_863 rfl ?_
  refine jx_iload k dL_law_864 rfl ?_
  refine jx_iconst k dL_law_866 (v := 1) (by decide) ?_
  refine jx_iadd k dL_law_867 ?_
  refine jx_sld k hX hbl hab hN dL_law_868 (p := 4 * n + 1) (nI_add _ 1) (by omega) ?_
  refine jx_callVP k mL_100 (k_free _ _ _ _ _ x uw fo ca co lo lc kn on cut u f g fl h sp β ρ D P hC (xs (4 * n + 1))) hC.1.1 rfl dL_law_869 rfl rfl rfl (Nat.le_of_ble_eq_true rfl) ⟨by omega, by omega⟩ ⟨by omega, by omega⟩ ?_
  refine jx_aload_n k dL_law_872 rfl ?_
  refine jx_aload_n k dL_law_873 rfl ?_
  refine jx_iload k dL_law_874 rfl ?_
  refine jx_iconst k dL_law_876 (v := 1) (by decide) ?_
  refine jx_iadd k dL_law_877 ?_
  refine jx_sld k hX hbl hab hN dL_law_878 (p := 4 * n + 1) (nI_add _ 1) (by omega) ?_
  rw [← MC_G hM]
  refine jx_callV1 k mL_103 (q_free _ _ _ _ _ _ σ (xs (4 * n + 1))) rm_a0 rfl dL_law_879 rfl rfl rfl (Nat.le_of_ble_eq_true rfl) ⟨by omega, by omega⟩ ⟨by omega, by omega⟩ ?_
  refine jx_icmp_eq k dL_law_882 (tgt := 1289) rfl (fun _ => ?_) (fun hh => absurd (R_free hR _) hh)
  exact K _ _ _ _ _ _ _ (lwS_of hC (Nat.le_refl _) (fun _ _ => rfl) (RR_0 0 hR) ho) (by omega) (by omega)
set_option maxRecDepth 100000 in
theorem lc_has (k : jx_ok X l E b yL_law code 7 (some .boolean) R) (hX : va_X a N xs (jx_s X) (jx_s X).heap) (hbl : a < (jx_s X).heap.size) (hab : a < b) (hN : N < 2 ^ 31) (hn : 4 * n + 3 < N) (r1 : 11 ≤ R.frames) (r2 : 378 ≤ R.locals) (r3 : ce + 9 ≤ R.cells) (r4 : sl + 47 ≤ R.slots) (hLS : lwS E x σ G sz) (K : ∀ (σ' : rs_S) (G' : jx_H) (sz' ce' sl' : Nat) (w5 w6 : Option Value), lwS E x σ' G' sz' → ce' ≤ ce + 9 → sl' ≤ sl + 47 → jx_w X E b Q 1289 (lL a x n w5 w6) [] G' sz' ce' sl') : jx_w X E b Q 887 (lL a x n v5 v6) [] G sz ce sl := by
  obtain ⟨uw, fo, ca, co, lo, lc, kn, on, cut, u, f, g, fl, h, sp, β, ρ, D, P, w, hC, hR, hM, ho⟩ := hLS
  refine jx_aload_n k dL_law_887 rfl ?_
  refine jx_aload_n k dL_law_888 rfl ?_
  refine jx_iload k dL_law_889 rfl ?_
  refine jx_iconst k dL_law_891 (v := 1) (by decide) ?_
  refine jx_iadd k dL_law_892 ?_
  refine jx_sld k hX hbl hab hN dL_law_893 (p := 4 * n + 1) (nI_add _ 1) (by omega) ?_
  refine jx_aload_n k dL_law_894 rfl ?_
  refine jx_iload k dL_law_895 rfl ?_
  refine jx_iconst k dL_law_897 (v := 2) (by decide) ?_
  refine jx_iadd k dL_law_898 ?_
  refine jx_sld k hX hbl hab hN dL_law_899 (p := 4 * n + 2) (nI_add _ 2) (by omega) ?_
  refine jx_callVP k mL_104 (k_has _ _ _ _ _ x uw fo ca co lo lc kn on cut u f g fl h sp β ρ D P hC (xs (4 * n + 1)) (xs (4 * n + 2))) hC.1.1 rfl dL_law_900 rfl rfl rfl (Nat.le_of_ble_eq_true rfl) ⟨by omega, by omega⟩ ⟨by omega, by omega⟩ ?_
  refine jx_aload_n k dL_law_903 rfl ?_
  refine jx_aload_n k dL_law_904 rfl ?_
  refine jx_iload k dL_law_905 rfl ?_
  refine jx_iconst k dL_law_907 (v := 1) (by decide) ?_
  refine jx_iadd k dL_law_908 ?_
  refine jx_sld k hX hbl hab hN dL_law_909 (p := 4 * n + 1) (nI_add _ 1) (by omega) ?_
  refine jx_aload_n k dL_law_910 rfl ?_
  refine jx_iload k dL_law_911 rfl ?_
  refine jx_iconst k dL_law_913 (v := 2) (by decide) ?_
  refine jx_iadd k dL_law_914 ?_
  refine jx_sld k hX hbl hab hN dL_law_915 (p := 4 * n + 2) (nI_add _ 2) (by omega) ?_
  rw [← MC_G hM]
  refine jx_callV1 k mL_107 (q_has _ _ _ _ _ _ σ (xs (4 * n + 1)) (xs (4 * n + 2))) rm_a0 rfl dL_law_916 rfl rfl rfl (Nat.le_of_ble_eq_true rfl) ⟨by omega, by omega⟩ ⟨by omega, by omega⟩ ?_
  refine jx_icmp_eq k dL_law_919 (tgt := 1289) rfl (fun _ => ?_) (fun hh => absurd ((R_has hR _ _).trans (jb_c (by cases mu_b σ (xs (4 * n + 1)) (xs (4 * n + 2)) <;> simp))) hh)
  exact K _ _ _ _ _ _ _ (lwS_of hC (Nat.le_refl _) (fun _ _ => rfl) (RR_0 0 hR) ho) (by omega) (by omega)
set_option maxRecDepth 100000 in
theorem lc_outSentence (k : jx_ok X l E b yL_law code 7 (some .boolean) R) (hX : va_X a N xs (jx_s X) (jx_s X).heap) (hbl : a < (jx_s X).heap.size) (hab : a < b) (hN : N < 2 ^ 31) (hn : 4 * n + 3 < N) (r1 : 11 ≤ R.frames) (r2 : 378 ≤ R.locals) (r3 : ce + 9 ≤ R.cells) (r4 : sl + 47 ≤ R.slots) (hLS : lwS E x σ G sz) (K : ∀ (σ' : rs_S) (G' : jx_H) (sz' ce' sl' : Nat) (w5 w6 : Option Value), lwS E x σ' G' sz' → ce' ≤ ce + 9 → sl' ≤ sl + 47 → jx_w X E b Q 1289 (lL a x n w5 w6) [] G' sz' ce' sl') : jx_w X E b Q 961 (lL a x n v5 v6) [] G sz ce sl := by
  obtain ⟨uw, fo, ca, co, lo, lc, kn, on, cut, u, f, g, fl, h, sp, β, ρ, D, P, w, hC, hR, hM, ho⟩ := hLS
  obtain ⟨j6, hj6⟩ := hR.2.2.2.2.1.2.2 71 (by decide)
  refine jx_aload_n k dL_law_961 rfl ?_
  refine jx_aload_n k dL_law_962 rfl ?_
  refine jx_iload k dL_law_963 rfl ?_
  refine jx_iconst k dL_law_965 (v := 1) (by decide) ?_
  refine jx_iadd k dL_law_966 ?_
  refine jx_sld k hX hbl hab hN dL_law_967 (p := 4 * n + 1) (nI_add _ 1) (by omega) ?_
  refine jx_callVP k mL_112 (k_outSentence _ _ _ _ _ x uw fo ca co lo lc kn on cut u f g fl h sp β ρ D P hC (xs (4 * n + 1))) hC.1.1 rfl dL_law_968 rfl rfl rfl (Nat.le_of_ble_eq_true rfl) ⟨by omega, by omega⟩ ⟨by omega, by omega⟩ ?_
  refine jx_aload_n k dL_law_971 rfl ?_
  refine jx_aload_n k dL_law_972 rfl ?_
  refine jx_iload k dL_law_973 rfl ?_
  refine jx_iconst k dL_law_975 (v := 1) (by decide) ?_
  refine jx_iadd k dL_law_976 ?_
  refine jx_sld k hX hbl hab hN dL_law_977 (p := 4 * n + 1) (nI_add _ 1) (by omega) ?_
  rw [← MC_G hM]
  refine jx_callV1 k mL_116 (q_outSentence _ _ _ _ _ _ σ (xs (4 * n + 1)) j6 hj6.2 hj6.1) rm_a0 rfl dL_law_978 rfl rfl rfl (Nat.le_of_ble_eq_true rfl) ⟨by omega, by omega⟩ ⟨by omega, by omega⟩ ?_
  refine jx_lcmp k dL_law_981 ?_
  refine jx_if_eq k dL_law_982 (tgt := 1289) rfl (fun _ => ?_) (fun hh => absurd (lc_eq.mpr (R_outS hR _)) hh)
  exact K _ _ _ _ _ _ _ (lwS_of hC (Nat.le_refl _) (fun _ _ => rfl) (RR_0 0 hR) ho) (by omega) (by omega)
set_option maxRecDepth 100000 in
theorem lc_outSource (k : jx_ok X l E b yL_law code 7 (some .boolean) R) (hX : va_X a N xs (jx_s X) (jx_s X).heap) (hbl : a < (jx_s X).heap.size) (hab : a < b) (hN : N < 2 ^ 31) (hn : 4 * n + 3 < N) (r1 : 11 ≤ R.frames) (r2 : 378 ≤ R.locals) (r3 : ce + 9 ≤ R.cells) (r4 : sl + 47 ≤ R.slots) (hLS : lwS E x σ G sz) (K : ∀ (σ' : rs_S) (G' : jx_H) (sz' ce' sl' : Nat) (w5 w6 : Option Value), lwS E x σ' G' sz' → ce' ≤ ce + 9 → sl' ≤ sl + 47 → jx_w X E b Q 1289 (lL a x n w5 w6) [] G' sz' ce' sl') : jx_w X E b Q 987 (lL a x n v5 v6) [] G sz ce sl := by
  obtain ⟨uw, fo, ca, co, lo, lc, kn, on, cut, u, f, g, fl, h, sp, β, ρ, D, P, w, hC, hR, hM, ho⟩ := hLS
  obtain ⟨j6, hj6⟩ := hR.2.2.2.2.1.2.2 71 (by decide)
  refine jx_aload_n k dL_law_987 rfl ?_
  refine jx_aload_n k dL_law_988 rfl ?_
  refine jx_iload k dL_law_989 rfl ?_
  refine jx_iconst k dL_law_991 (v := 1) (by decide) ?_
  refine jx_iadd k dL_law_992 ?_
  refine jx_sld k hX hbl hab hN dL_law_993 (p := 4 * n + 1) (nI_add _ 1) (by omega) ?_
  refine jx_callVP k mL_117 (k_outSource _ _ _ _ _ x uw fo ca co lo lc kn on cut u f g fl h sp β ρ D P hC (xs (4 * n + 1))) hC.1.1 rfl dL_law_994 rfl rfl rfl (Nat.le_of_ble_eq_true rfl) ⟨by omega, by omega⟩ ⟨by omega, by omega⟩ ?_
  refine jx_aload_n k dL_law_997 rfl ?_
  refine jx_aload_n k dL_law_998 rfl ?_
  refine jx_iload k dL_law_999 rfl ?_
  refine jx_iconst k dL_law_1001 (v := 1) (by decide) ?_
  refine jx_iadd k dL_law_1002 ?_
  refine jx_sld k hX hbl hab hN dL_law_1003 (p := 4 * n + 1) (nI_add _ 1) (by omega) ?_
  rw [← MC_G hM]
  refine jx_callV1 k mL_120 (q_outSource _ _ _ _ _ _ σ (xs (4 * n + 1)) j6 hj6.2 hj6.1) rm_a0 rfl dL_law_1004 rfl rfl rfl (Nat.le_of_ble_eq_true rfl) ⟨by omega, by omega⟩ ⟨by omega, by omega⟩ ?_
  refine jx_icmp_eq k dL_law_1007 (tgt := 1289) rfl (fun _ => ?_) (fun hh => absurd (R_outO hR _) hh)
  exact K _ _ _ _ _ _ _ (lwS_of hC (Nat.le_refl _) (fun _ _ => rfl) (RR_0 0 hR) ho) (by omega) (by omega)
set_option maxRecDepth 100000 in
theorem lc_outSound (k : jx_ok X l E b yL_law code 7 (some .boolean) R) (hX : va_X a N xs (jx_s X) (jx_s X).heap) (hbl : a < (jx_s X).heap.size) (hab : a < b) (hN : N < 2 ^ 31) (hn : 4 * n + 3 < N) (r1 : 11 ≤ R.frames) (r2 : 378 ≤ R.locals) (r3 : ce + 9 ≤ R.cells) (r4 : sl + 47 ≤ R.slots) (hLS : lwS E x σ G sz) (K : ∀ (σ' : rs_S) (G' : jx_H) (sz' ce' sl' : Nat) (w5 w6 : Option Value), lwS E x σ' G' sz' → ce' ≤ ce + 9 → sl' ≤ sl + 47 → jx_w X E b Q 1289 (lL a x n w5 w6) [] G' sz' ce' sl') : jx_w X E b Q 1012 (lL a x n v5 v6) [] G sz ce sl := by
  obtain ⟨uw, fo, ca, co, lo, lc, kn, on, cut, u, f, g, fl, h, sp, β, ρ, D, P, w, hC, hR, hM, ho⟩ := hLS
  refine jx_aload_n k dL_law_1012 rfl ?_
  refine jx_aload_n k dL_law_1013 rfl ?_
  refine jx_iload k dL_law_1014 rfl ?_
  refine jx_iconst k dL_law_1016 (v := 1) (by decide) ?_
  refine jx_iadd k dL_law_1017 ?_
  refine jx_sld k hX hbl hab hN dL_law_1018 (p := 4 * n + 1) (nI_add _ 1) (by omega) ?_
  refine jx_aload_n k dL_law_1019 rfl ?_
  refine jx_iload k dL_law_1020 rfl ?_
  refine jx_iconst k dL_law_1022 (v := 2) (by decide) ?_
  refine jx_iadd k dL_law_1023 ?_
  refine jx_sld k hX hbl hab hN dL_law_1024 (p := 4 * n + 2) (nI_add _ 2) (by omega) ?_
  refine jx_callVP k mL_121 (k_outSound _ _ _ _ _ x uw fo ca co lo lc kn on cut u f g fl h sp β ρ D P hC (xs (4 * n + 1)) (xs (4 * n + 2))) hC.1.1 rfl dL_law_1025 rfl rfl rfl (Nat.le_of_ble_eq_true rfl) ⟨by omega, by omega⟩ ⟨by omega, by omega⟩ ?_
  refine jx_aload_n k dL_law_1028 rfl ?_
  refine jx_aload_n k dL_law_1029 rfl ?_
  refine jx_iload k dL_law_1030 rfl ?_
  refine jx_iconst k dL_law_1032 (v := 1) (by decide) ?_
  refine jx_iadd k dL_law_1033 ?_
  refine jx_sld k hX hbl hab hN dL_law_1034 (p := 4 * n + 1) (nI_add _ 1) (by omega) ?_
  refine jx_aload_n k dL_law_1035 rfl ?_
  refine jx_iload k dL_law_1036 rfl ?_
  refine jx_iconst k dL_law_1038 (v := 2) (by decide) ?_
  refine jx_iadd k dL_law_1039 ?_
  refine jx_sld k hX hbl hab hN dL_law_1040 (p := 4 * n + 2) (nI_add _ 2) (by omega) ?_
  rw [← MC_G hM]
  refine jx_callV1 k mL_124 (q_outSound _ _ _ _ _ _ σ (xs (4 * n + 1)) (xs (4 * n + 2))) rm_a0 rfl dL_law_1041 rfl rfl rfl (Nat.le_of_ble_eq_true rfl) ⟨by omega, by omega⟩ ⟨by omega, by omega⟩ ?_
  refine jx_icmp_eq k dL_law_1044 (tgt := 1289) rfl (fun _ => ?_) (fun hh => absurd (R_outD hR _ _) hh)
  exact K _ _ _ _ _ _ _ (lwS_of hC (Nat.le_refl _) (fun _ _ => rfl) (RR_0 0 hR) ho) (by omega) (by omega)
set_option maxRecDepth 100000 in
theorem lc_outContacts (k : jx_ok X l E b yL_law code 7 (some .boolean) R) (hX : va_X a N xs (jx_s X) (jx_s X).heap) (hbl : a < (jx_s X).heap.size) (hab : a < b) (hN : N < 2 ^ 31) (hn : 4 * n + 3 < N) (r1 : 11 ≤ R.frames) (r2 : 378 ≤ R.locals) (r3 : ce + 9 ≤ R.cells) (r4 : sl + 47 ≤ R.slots) (hLS : lwS E x σ G sz) (K : ∀ (σ' : rs_S) (G' : jx_H) (sz' ce' sl' : Nat) (w5 w6 : Option Value), lwS E x σ' G' sz' → ce' ≤ ce + 9 → sl' ≤ sl + 47 → jx_w X E b Q 1289 (lL a x n w5 w6) [] G' sz' ce' sl') : jx_w X E b Q 1049 (lL a x n v5 v6) [] G sz ce sl := by
  obtain ⟨uw, fo, ca, co, lo, lc, kn, on, cut, u, f, g, fl, h, sp, β, ρ, D, P, w, hC, hR, hM, ho⟩ := hLS
  refine jx_aload_n k dL_law_1049 rfl ?_
  refine jx_callVP k mL_125 (k_outContacts _ _ _ _ _ x uw fo ca co lo lc kn on cut u f g fl h sp β ρ D P hC ) hC.1.1 rfl dL_law_1050 rfl rfl rfl (Nat.le_of_ble_eq_true rfl) ⟨by omega, by omega⟩ ⟨by omega, by omega⟩ ?_
  refine jx_aload_n k dL_law_1053 rfl ?_
  rw [← MC_G hM]
  refine jx_callV1 k mL_128 (q_outContacts _ _ _ _ _ _ σ ) rm_a0 rfl dL_law_1054 rfl rfl rfl (Nat.le_of_ble_eq_true rfl) ⟨by omega, by omega⟩ ⟨by omega, by omega⟩ ?_
  refine jx_icmp_eq k dL_law_1057 (tgt := 1289) rfl (fun _ => ?_) (fun hh => absurd (R_outC hR) hh)
  exact K _ _ _ _ _ _ _ (lwS_of hC (Nat.le_refl _) (fun _ _ => rfl) (RR_0 0 hR) ho) (by omega) (by omega)
set_option maxRecDepth 100000 in
theorem lc_outRow (k : jx_ok X l E b yL_law code 7 (some .boolean) R) (hX : va_X a N xs (jx_s X) (jx_s X).heap) (hbl : a < (jx_s X).heap.size) (hab : a < b) (hN : N < 2 ^ 31) (hn : 4 * n + 3 < N) (r1 : 11 ≤ R.frames) (r2 : 378 ≤ R.locals) (r3 : ce + 9 ≤ R.cells) (r4 : sl + 47 ≤ R.slots) (hLS : lwS E x σ G sz) (K : ∀ (σ' : rs_S) (G' : jx_H) (sz' ce' sl' : Nat) (w5 w6 : Option Value), lwS E x σ' G' sz' → ce' ≤ ce + 9 → sl' ≤ sl + 47 → jx_w X E b Q 1289 (lL a x n w5 w6) [] G' sz' ce' sl') : jx_w X E b Q 1062 (lL a x n v5 v6) [] G sz ce sl := by
  obtain ⟨uw, fo, ca, co, lo, lc, kn, on, cut, u, f, g, fl, h, sp, β, ρ, D, P, w, hC, hR, hM, ho⟩ := hLS
  refine jx_aload_n k dL_law_1062 rfl ?_
  refine jx_aload_n k dL_law_1063 rfl ?_
  refine jx_iload k dL_law_1064 rfl ?_
  refine jx_iconst k dL_law_1066 (v := 1) (by decide) ?_
  refine jx_iadd k dL_law_1067 ?_
  refine jx_sld k hX hbl hab hN dL_law_1068 (p := 4 * n + 1) (nI_add _ 1) (by omega) ?_
  refine jx_callVP k mL_129 (k_outRow _ _ _ _ _ x uw fo ca co lo lc kn on cut u f g fl h sp β ρ D P hC (xs (4 * n + 1))) hC.1.1 rfl dL_law_1069 rfl rfl rfl (Nat.le_of_ble_eq_true rfl) ⟨by omega, by omega⟩ ⟨by omega, by omega⟩ ?_
  refine jx_aload_n k dL_law_1072 rfl ?_
  refine jx_aload_n k dL_law_1073 rfl ?_
  refine jx_iload k dL_law_1074 rfl ?_
  refine jx_iconst k dL_law_1076 (v := 1) (by decide) ?_
  refine jx_iadd k dL_law_1077 ?_
  refine jx_sld k hX hbl hab hN dL_law_1078 (p := 4 * n + 1) (nI_add _ 1) (by omega) ?_
  rw [← MC_G hM]
  refine jx_callV1 k mL_132 (q_outRow _ _ _ _ _ _ σ (xs (4 * n + 1))) rm_a0 rfl dL_law_1079 rfl rfl rfl (Nat.le_of_ble_eq_true rfl) ⟨by omega, by omega⟩ ⟨by omega, by omega⟩ ?_
  refine jx_icmp_eq k dL_law_1082 (tgt := 1289) rfl (fun _ => ?_) (fun hh => absurd (R_outR hR _) hh)
  exact K _ _ _ _ _ _ _ (lwS_of hC (Nat.le_refl _) (fun _ _ => rfl) (RR_0 0 hR) ho) (by omega) (by omega)
set_option maxRecDepth 100000 in
theorem lc_find (k : jx_ok X l E b yL_law code 7 (some .boolean) R) (hX : va_X a N xs (jx_s X) (jx_s X).heap) (hbl : a < (jx_s X).heap.size) (hab : a < b) (hN : N < 2 ^ 31) (hn : 4 * n + 3 < N) (r1 : 11 ≤ R.frames) (r2 : 378 ≤ R.locals) (r3 : ce + 9 ≤ R.cells) (r4 : sl + 47 ≤ R.slots) (hLS : lwS E x σ G sz) (K : ∀ (σ' : rs_S) (G' : jx_H) (sz' ce' sl' : Nat) (w5 w6 : Option Value), lwS E x σ' G' sz' → ce' ≤ ce + 9 → sl' ≤ sl + 47 → jx_w X E b Q 1289 (lL a x n w5 w6) [] G' sz' ce' sl') : jx_w X E b Q 1087 (lL a x n v5 v6) [] G sz ce sl := by
  obtain ⟨uw, fo, ca, co, lo, lc, kn, on, cut, u, f, g, fl, h, sp, β, ρ, D, P, w, hC, hR, hM, ho⟩ := hLS
  obtain ⟨nj, hnj⟩ : ∃ nj : Nat → Nat, ∀ p, p < 72 → σ.2.1 6 p = nI (nj p) ∧ nj p ≤ 4 := ⟨fun p => (σ.2.1 6 p).toNatClampNeg, fun p hp => by
    obtain ⟨j, j1, j2⟩ := hR.2.2.2.2.1.2.2 p hp
    show σ.2.1 6 p = nI (σ.2.1 6 p).toNatClampNeg ∧ (σ.2.1 6 p).toNatClampNeg ≤ 4
    rw [j2, nI_clamp (by omega)]
    exact ⟨rfl, j1⟩⟩
  refine jx_aload_n k dL_law_1087 rfl ?_
  refine jx_aload_n k dL_law_1088 rfl ?_
  refine jx_iload k dL_law_1089 rfl ?_
  refine jx_iconst k dL_law_1091 (v := 1) (by decide) ?_
  refine jx_iadd k dL_law_1092 ?_
  refine jx_sld k hX hbl hab hN dL_law_1093 (p := 4 * n + 1) (nI_add _ 1) (by omega) ?_
  refine jx_aload_n k dL_law_1094 rfl ?_
  refine jx_iload k dL_law_1095 rfl ?_
  refine jx_iconst k dL_law_1097 (v := 2) (by decide) ?_
  refine jx_iadd k dL_law_1098 ?_
  refine jx_sld k hX hbl hab hN dL_law_1099 (p := 4 * n + 2) (nI_add _ 2) (by omega) ?_
  refine jx_aload_n k dL_law_1100 rfl ?_
  refine jx_iload k dL_law_1101 rfl ?_
  refine jx_iconst k dL_law_1103 (v := 3) (by decide) ?_
  refine jx_iadd k dL_law_1104 ?_
  refine jx_sld k hX hbl hab hN dL_law_1105 (p := 4 * n + 3) (nI_add _ 3) (by omega) ?_
  refine jx_callVP k mL_133 (k_find _ _ _ _ _ x uw fo ca co lo lc kn on cut u f g fl h sp β ρ D P hC (xs (4 * n + 1)) (xs (4 * n + 2)) (xs (4 * n + 3))) hC.1.1 rfl dL_law_1106 rfl rfl rfl (Nat.le_of_ble_eq_true rfl) ⟨by omega, by omega⟩ ⟨by omega, by omega⟩ ?_
  refine jx_aload_n k dL_law_1109 rfl ?_
  refine jx_aload_n k dL_law_1110 rfl ?_
  refine jx_iload k dL_law_1111 rfl ?_
  refine jx_iconst k dL_law_1113 (v := 1) (by decide) ?_
  refine jx_iadd k dL_law_1114 ?_
  refine jx_sld k hX hbl hab hN dL_law_1115 (p := 4 * n + 1) (nI_add _ 1) (by omega) ?_
  refine jx_aload_n k dL_law_1116 rfl ?_
  refine jx_iload k dL_law_1117 rfl ?_
  refine jx_iconst k dL_law_1119 (v := 2) (by decide) ?_
  refine jx_iadd k dL_law_1120 ?_
  refine jx_sld k hX hbl hab hN dL_law_1121 (p := 4 * n + 2) (nI_add _ 2) (by omega) ?_
  refine jx_aload_n k dL_law_1122 rfl ?_
  refine jx_iload k dL_law_1123 rfl ?_
  refine jx_iconst k dL_law_1125 (v := 3) (by decide) ?_
  refine jx_iadd k dL_law_1126 ?_
  refine jx_sld k hX hbl hab hN dL_law_1127 (p := 4 * n + 3) (nI_add _ 3) (by omega) ?_
  rw [← MC_G hM]
  refine jx_callV1 k mL_137 (q_find _ _ _ _ _ _ σ nj (xs (4 * n + 1)) (xs (4 * n + 2)) (xs (4 * n + 3)) hnj) rm_a0 rfl dL_law_1128 rfl rfl rfl (Nat.le_of_ble_eq_true rfl) ⟨by omega, by omega⟩ ⟨by omega, by omega⟩ ?_
  refine jx_icmp_eq k dL_law_1131 (tgt := 1289) rfl (fun _ => ?_) (fun hh => absurd (R_find hR nj hnj _ _ _) hh)
  exact K _ _ _ _ _ _ _ (lwS_of hC (Nat.le_refl _) (fun _ _ => rfl) (RR_0 0 hR) ho) (by omega) (by omega)
set_option maxRecDepth 100000 in
theorem lc_unreadable (k : jx_ok X l E b yL_law code 7 (some .boolean) R) (hX : va_X a N xs (jx_s X) (jx_s X).heap) (hbl : a < (jx_s X).heap.size) (hab : a < b) (hN : N < 2 ^ 31) (hn : 4 * n + 3 < N) (r1 : 11 ≤ R.frames) (r2 : 378 ≤ R.locals) (r3 : ce + 9 ≤ R.cells) (r4 : sl + 47 ≤ R.slots) (hLS : lwS E x σ G sz) (K : ∀ (σ' : rs_S) (G' : jx_H) (sz' ce' sl' : Nat) (w5 w6 : Option Value), lwS E x σ' G' sz' → ce' ≤ ce + 9 → sl' ≤ sl + 47 → jx_w X E b Q 1289 (lL a x n w5 w6) [] G' sz' ce' sl') : jx_w X E b Q 1264 (lL a x n v5 v6) [] G sz ce sl := by
  obtain ⟨uw, fo, ca, co, lo, lc, kn, on, cut, u, f, g, fl, h, sp, β, ρ, D, P, w, hC, hR, hM, ho⟩ := hLS
  refine jx_aload_n k dL_law_1264 rfl ?_
  refine jx_aload_n k dL_law_1265 rfl ?_
  refine jx_iload k dL_law_1266 rfl ?_
  refine jx_iconst k dL_law_1268 (v := 1) (by decide) ?_
  refine jx_iadd k dL_law_1269 ?_
  refine jx_sld k hX hbl hab hN dL_law_1270 (p := 4 * n + 1) (nI_add _ 1) (by omega) ?_
  refine jx_callVP k mL_154 (k_Kunreadable _ _ _ _ _ x uw fo ca co lo lc kn on cut u f g fl h sp β ρ D P hC (xs (4 * n + 1))) hC.1.1 rfl dL_law_1271 rfl rfl rfl (Nat.le_of_ble_eq_true rfl) ⟨by omega, by omega⟩ ⟨by omega, by omega⟩ ?_
  refine jx_aload_n k dL_law_1274 rfl ?_
  refine jx_aload_n k dL_law_1275 rfl ?_
  refine jx_iload k dL_law_1276 rfl ?_
  refine jx_iconst k dL_law_1278 (v := 1) (by decide) ?_
  refine jx_iadd k dL_law_1279 ?_
  refine jx_sld k hX hbl hab hN dL_law_1280 (p := 4 * n + 1) (nI_add _ 1) (by omega) ?_
  rw [← MC_G hM]
  refine jx_callV1 k mL_157 (q_unreadable _ _ _ _ _ _ σ (xs (4 * n + 1))) rm_a0 rfl dL_law_1281 rfl rfl rfl (Nat.le_of_ble_eq_true rfl) ⟨by omega, by omega⟩ ⟨by omega, by omega⟩ ?_
  refine jx_icmp_eq k dL_law_1284 (tgt := 1289) rfl (fun _ => ?_) (fun hh => absurd (R_unreadable hR _) hh)
  exact K _ _ _ _ _ _ _ (lwS_of hC (Nat.le_refl _) (fun _ _ => rfl) (RR_0 0 hR) ho) (by omega) (by omega)
set_option maxRecDepth 100000 in
theorem lc_fail (k : jx_ok X l E b yL_law code 7 (some .boolean) R) (hX : va_X a N xs (jx_s X) (jx_s X).heap) (hbl : a < (jx_s X).heap.size) (hab : a < b) (hN : N < 2 ^ 31) (hn : 4 * n + 3 < N) (r1 : 11 ≤ R.frames) (r2 : 378 ≤ R.locals) (r3 : ce + 9 ≤ R.cells) (r4 : sl + 47 ≤ R.slots) (hLS : lwS E x σ G sz) (K : ∀ (σ' : rs_S) (G' : jx_H) (sz' ce' sl' : Nat) (w5 w6 : Option Value), lwS E x σ' G' sz' → ce' ≤ ce + 9 → sl' ≤ sl + 47 → jx_w X E b Q 1289 (lL a x n w5 w6) [] G' sz' ce' sl') : jx_w X E b Q 1136 (lL a x n v5 v6) [] G sz ce sl := by
  obtain ⟨uw, fo, ca, co, lo, lc, kn, on, cut, u, f, g, fl, h, sp, β, ρ, D, P, w, hC, hR, hM, ho⟩ := hLS
  by_cases hz : xs (4 * n + 2) = 0
  · refine jx_aload_n k dL_law_1136 rfl ?_
    refine jx_aload_n k dL_law_1137 rfl ?_
    refine jx_iload k dL_law_1138 rfl ?_
    refine jx_iconst k dL_law_1140 (v := 1) (by decide) ?_
    refine jx_iadd k dL_law_1141 ?_
    refine jx_sld k hX hbl hab hN dL_law_1142 (p := 4 * n + 1) (nI_add _ 1) (by omega) ?_
    refine jx_aload_n k dL_law_1143 rfl ?_
    refine jx_iload k dL_law_1144 rfl ?_
    refine jx_iconst k dL_law_1146 (v := 2) (by decide) ?_
    refine jx_iadd k dL_law_1147 ?_
    refine jx_sld k hX hbl hab hN dL_law_1148 (p := 4 * n + 2) (nI_add _ 2) (by omega) ?_
    refine jx_if_eq k dL_law_1149 (tgt := 1156) rfl (fun _ => ?_) (fun hh => absurd hz hh)
    refine jx_iconst k dL_law_1156 (v := 0) (by decide) ?_
    refine jx_callV k mL_138 (k_fail _ _ _ _ _ x uw fo ca co lo lc kn on cut u f g fl h sp β ρ D P hC (xs (4 * n + 1)) 0 (by decide)) hC.1.1 rfl dL_law_1157 rfl rfl rfl (Nat.le_of_ble_eq_true rfl) ⟨by omega, by omega⟩ ⟨by omega, by omega⟩ ?_
    rintro v G1 sz1 ⟨rfl, rfl, hC1, hf⟩
    refine jx_aload_n k dL_law_1160 rfl ?_
    refine jx_aload_n k dL_law_1161 rfl ?_
    refine jx_iload k dL_law_1162 rfl ?_
    refine jx_iconst k dL_law_1164 (v := 1) (by decide) ?_
    refine jx_iadd k dL_law_1165 ?_
    refine jx_sld k hX hbl hab hN dL_law_1166 (p := 4 * n + 1) (nI_add _ 1) (by omega) ?_
    refine jx_aload_n k dL_law_1167 rfl ?_
    refine jx_iload k dL_law_1168 rfl ?_
    refine jx_iconst k dL_law_1170 (v := 2) (by decide) ?_
    refine jx_iadd k dL_law_1171 ?_
    refine jx_sld k hX hbl hab hN dL_law_1172 (p := 4 * n + 2) (nI_add _ 2) (by omega) ?_
    refine jx_if_eq k dL_law_1173 (tgt := 1180) rfl (fun _ => ?_) (fun hh => absurd hz hh)
    refine jx_iconst k dL_law_1180 (v := 0) (by decide) ?_
    rw [← MC_G (MC_f hM hf)]
    refine jx_callV1 k mL_141 (q_fail _ _ _ _ _ _ σ (xs (4 * n + 1)) 0 (by decide)) rm_a0 rfl dL_law_1181 rfl rfl rfl (Nat.le_of_ble_eq_true rfl) ⟨by omega, by omega⟩ ⟨by omega, by omega⟩ ?_
    refine jx_icmp_eq k dL_law_1184 (tgt := 1289) rfl (fun _ => ?_) (fun hh => absurd ((R_fail hR _ _).1) hh)
    exact K _ _ _ _ _ _ _ (lwS_of hC1 (Nat.le_refl _) (fun _ _ => rfl) ((R_fail hR _ _).2) ((hf _ (by omega) (by omega)).trans ho)) (by omega) (by omega)
  · refine jx_aload_n k dL_law_1136 rfl ?_
    refine jx_aload_n k dL_law_1137 rfl ?_
    refine jx_iload k dL_law_1138 rfl ?_
    refine jx_iconst k dL_law_1140 (v := 1) (by decide) ?_
    refine jx_iadd k dL_law_1141 ?_
    refine jx_sld k hX hbl hab hN dL_law_1142 (p := 4 * n + 1) (nI_add _ 1) (by omega) ?_
    refine jx_aload_n k dL_law_1143 rfl ?_
    refine jx_iload k dL_law_1144 rfl ?_
    refine jx_iconst k dL_law_1146 (v := 2) (by decide) ?_
    refine jx_iadd k dL_law_1147 ?_
    refine jx_sld k hX hbl hab hN dL_law_1148 (p := 4 * n + 2) (nI_add _ 2) (by omega) ?_
    refine jx_if_eq k dL_law_1149 (tgt := 1156) rfl (fun hh => absurd hh hz) (fun _ => ?_)
    refine jx_iconst k dL_law_1152 (v := 1) (by decide) ?_
    refine jx_goto k dL_law_1153 (tgt := 1157) rfl ?_
    refine jx_callV k mL_138 (k_fail _ _ _ _ _ x uw fo ca co lo lc kn on cut u f g fl h sp β ρ D P hC (xs (4 * n + 1)) 1 (by decide)) hC.1.1 rfl dL_law_1157 rfl rfl rfl (Nat.le_of_ble_eq_true rfl) ⟨by omega, by omega⟩ ⟨by omega, by omega⟩ ?_
    rintro v G1 sz1 ⟨rfl, rfl, hC1, hf⟩
    refine jx_aload_n k dL_law_1160 rfl ?_
    refine jx_aload_n k dL_law_1161 rfl ?_
    refine jx_iload k dL_law_1162 rfl ?_
    refine jx_iconst k dL_law_1164 (v := 1) (by decide) ?_
    refine jx_iadd k dL_law_1165 ?_
    refine jx_sld k hX hbl hab hN dL_law_1166 (p := 4 * n + 1) (nI_add _ 1) (by omega) ?_
    refine jx_aload_n k dL_law_1167 rfl ?_
    refine jx_iload k dL_law_1168 rfl ?_
    refine jx_iconst k dL_law_1170 (v := 2) (by decide) ?_
    refine jx_iadd k dL_law_1171 ?_
    refine jx_sld k hX hbl hab hN dL_law_1172 (p := 4 * n + 2) (nI_add _ 2) (by omega) ?_
    refine jx_if_eq k dL_law_1173 (tgt := 1180) rfl (fun hh => absurd hh hz) (fun _ => ?_)
    refine jx_iconst k dL_law_1176 (v := 1) (by decide) ?_
    refine jx_goto k dL_law_1177 (tgt := 1181) rfl ?_
    rw [← MC_G (MC_f hM hf)]
    refine jx_callV1 k mL_141 (q_fail _ _ _ _ _ _ σ (xs (4 * n + 1)) 1 (by decide)) rm_a0 rfl dL_law_1181 rfl rfl rfl (Nat.le_of_ble_eq_true rfl) ⟨by omega, by omega⟩ ⟨by omega, by omega⟩ ?_
    refine jx_icmp_eq k dL_law_1184 (tgt := 1289) rfl (fun _ => ?_) (fun hh => absurd ((R_fail hR _ _).1) hh)
    exact K _ _ _ _ _ _ _ (lwS_of hC1 (Nat.le_refl _) (fun _ _ => rfl) ((R_fail hR _ _).2) ((hf _ (by omega) (by omega)).trans ho)) (by omega) (by omega)
set_option maxRecDepth 100000 in
theorem lc_cutAfter (k : jx_ok X l E b yL_law code 7 (some .boolean) R) (hX : va_X a N xs (jx_s X) (jx_s X).heap) (hbl : a < (jx_s X).heap.size) (hab : a < b) (hN : N < 2 ^ 31) (hn : 4 * n + 3 < N) (r1 : 11 ≤ R.frames) (r2 : 378 ≤ R.locals) (r3 : ce + 9 ≤ R.cells) (r4 : sl + 47 ≤ R.slots) (hLS : lwS E x σ G sz) (K : ∀ (σ' : rs_S) (G' : jx_H) (sz' ce' sl' : Nat) (w5 w6 : Option Value), lwS E x σ' G' sz' → ce' ≤ ce + 9 → sl' ≤ sl + 47 → jx_w X E b Q 1289 (lL a x n w5 w6) [] G' sz' ce' sl') : jx_w X E b Q 1189 (lL a x n v5 v6) [] G sz ce sl := by
  obtain ⟨uw, fo, ca, co, lo, lc, kn, on, cut, u, f, g, fl, h, sp, β, ρ, D, P, w, hC, hR, hM, ho⟩ := hLS
  refine jx_aload_n k dL_law_1189 rfl ?_
  refine jx_aload_n k dL_law_1190 rfl ?_
  refine jx_iload k dL_law_1191 rfl ?_
  refine jx_iconst k dL_law_1193 (v := 1) (by decide) ?_
  refine jx_iadd k dL_law_1194 ?_
  refine jx_sld k hX hbl hab hN dL_law_1195 (p := 4 * n + 1) (nI_add _ 1) (by omega) ?_
  refine jx_callV k mL_142 (k_cut _ _ _ _ _ x uw fo ca co lo lc kn on cut u f g fl h sp β ρ D P hC (xs (4 * n + 1))) hC.1.1 rfl dL_law_1196 rfl rfl rfl (Nat.le_of_ble_eq_true rfl) ⟨by omega, by omega⟩ ⟨by omega, by omega⟩ ?_
  rintro v G1 sz1 ⟨rfl, rfl, hC1, hf⟩
  refine jx_aload_n k dL_law_1199 rfl ?_
  refine jx_aload_n k dL_law_1200 rfl ?_
  refine jx_iload k dL_law_1201 rfl ?_
  refine jx_iconst k dL_law_1203 (v := 1) (by decide) ?_
  refine jx_iadd k dL_law_1204 ?_
  refine jx_sld k hX hbl hab hN dL_law_1205 (p := 4 * n + 1) (nI_add _ 1) (by omega) ?_
  rw [← MC_G (MC_f hM hf)]
  refine jx_callV1 k mL_145 (q_cutAfter _ _ _ _ _ _ σ (xs (4 * n + 1))) rm_a0 rfl dL_law_1206 rfl rfl rfl (Nat.le_of_ble_eq_true rfl) ⟨by omega, by omega⟩ ⟨by omega, by omega⟩ ?_
  refine jx_icmp_eq k dL_law_1209 (tgt := 1289) rfl (fun _ => ?_) (fun hh => absurd ((R_cut hR _).1) hh)
  exact K _ _ _ _ _ _ _ (lwS_of hC1 (Nat.le_refl _) (fun _ _ => rfl) ((R_cut hR _).2) ((hf _ (by omega) (by omega)).trans ho)) (by omega) (by omega)
set_option maxRecDepth 100000 in
theorem lc_start (k : jx_ok X l E b yL_law code 7 (some .boolean) R) (hX : va_X a N xs (jx_s X) (jx_s X).heap) (hbl : a < (jx_s X).heap.size) (hab : a < b) (hN : N < 2 ^ 31) (hn : 4 * n + 3 < N) (r1 : 11 ≤ R.frames) (r2 : 378 ≤ R.locals) (r3 : ce + 9 ≤ R.cells) (r4 : sl + 47 ≤ R.slots) (hLS : lwS E x σ G sz) (K : ∀ (σ' : rs_S) (G' : jx_H) (sz' ce' sl' : Nat) (w5 w6 : Option Value), lwS E x σ' G' sz' → ce' ≤ ce + 9 → sl' ≤ sl + 47 → jx_w X E b Q 1289 (lL a x n w5 w6) [] G' sz' ce' sl') : jx_w X E b Q 1214 (lL a x n v5 v6) [] G sz ce sl := by
  obtain ⟨uw, fo, ca, co, lo, lc, kn, on, cut, u, f, g, fl, h, sp, β, ρ, D, P, w, hC, hR, hM, ho⟩ := hLS
  refine jx_aload_n k dL_law_1214 rfl ?_
  refine jx_callV k mL_146 (k_start _ _ _ _ _ x uw fo ca co lo lc kn on cut u f g fl h sp β ρ D P hC ) hC.1.1 rfl dL_law_1215 rfl rfl rfl (Nat.le_of_ble_eq_true rfl) ⟨by omega, by omega⟩ ⟨by omega, by omega⟩ ?_
  rintro v G1 sz1 ⟨rfl, rfl, hC1, hf⟩
  refine jx_aload_n k dL_law_1218 rfl ?_
  rw [← MC_G (MC_f hM hf)]
  refine jx_callV1 k mL_149 (q_start _ _ _ _ _ _ σ ) rm_a0 rfl dL_law_1219 rfl rfl rfl (Nat.le_of_ble_eq_true rfl) ⟨by omega, by omega⟩ ⟨by omega, by omega⟩ ?_
  refine jx_icmp_eq k dL_law_1222 (tgt := 1289) rfl (fun _ => ?_) (fun hh => absurd ((R_start (Cp_of hC) hR).1) hh)
  exact K _ _ _ _ _ _ _ (lwS_of hC1 (Nat.le_refl _) (fun _ _ => rfl) ((R_start (Cp_of hC) hR).2) ((hf _ (by omega) (by omega)).trans ho)) (by omega) (by omega)
set_option maxRecDepth 100000 in
theorem lc_spoil (k : jx_ok X l E b yL_law code 7 (some .boolean) R) (hX : va_X a N xs (jx_s X) (jx_s X).heap) (hbl : a < (jx_s X).heap.size) (hab : a < b) (hN : N < 2 ^ 31) (hn : 4 * n + 3 < N) (r1 : 11 ≤ R.frames) (r2 : 378 ≤ R.locals) (r3 : ce + 9 ≤ R.cells) (r4 : sl + 47 ≤ R.slots) (hLS : lwS E x σ G sz) (K : ∀ (σ' : rs_S) (G' : jx_H) (sz' ce' sl' : Nat) (w5 w6 : Option Value), lwS E x σ' G' sz' → ce' ≤ ce + 9 → sl' ≤ sl + 47 → jx_w X E b Q 1289 (lL a x n w5 w6) [] G' sz' ce' sl') : jx_w X E b Q 1227 (lL a x n v5 v6) [] G sz ce sl := by
  obtain ⟨uw, fo, ca, co, lo, lc, kn, on, cut, u, f, g, fl, h, sp, β, ρ, D, P, w, hC, hR, hM, ho⟩ := hLS
  refine jx_aload_n k dL_law_1227 rfl ?_
  refine jx_aload_n k dL_law_1228 rfl ?_
  refine jx_iload k dL_law_1229 rfl ?_
  refine jx_iconst k dL_law_1231 (v := 1) (by decide) ?_
  refine jx_iadd k dL_law_1232 ?_
  refine jx_sld k hX hbl hab hN dL_law_1233 (p := 4 * n + 1) (nI_add _ 1) (by omega) ?_
  refine jx_aload_n k dL_law_1234 rfl ?_
  refine jx_iload k dL_law_1235 rfl ?_
  refine jx_iconst k dL_law_1237 (v := 2) (by decide) ?_
  refine jx_iadd k dL_law_1238 ?_
  refine jx_sld k hX hbl hab hN dL_law_1239 (p := 4 * n + 2) (nI_add _ 2) (by omega) ?_
  refine jx_callV k mL_150 (k_spoil _ _ _ _ _ x uw fo ca co lo lc kn on cut u f g fl h sp β ρ D P hC (xs (4 * n + 1)) (xs (4 * n + 2))) hC.1.1 rfl dL_law_1240 rfl rfl rfl (Nat.le_of_ble_eq_true rfl) ⟨by omega, by omega⟩ ⟨by omega, by omega⟩ ?_
  rintro v G1 sz1 ⟨rfl, rfl, hC1, hf⟩
  refine jx_aload_n k dL_law_1243 rfl ?_
  refine jx_aload_n k dL_law_1244 rfl ?_
  refine jx_iload k dL_law_1245 rfl ?_
  refine jx_iconst k dL_law_1247 (v := 1) (by decide) ?_
  refine jx_iadd k dL_law_1248 ?_
  refine jx_sld k hX hbl hab hN dL_law_1249 (p := 4 * n + 1) (nI_add _ 1) (by omega) ?_
  refine jx_aload_n k dL_law_1250 rfl ?_
  refine jx_iload k dL_law_1251 rfl ?_
  refine jx_iconst k dL_law_1253 (v := 2) (by decide) ?_
  refine jx_iadd k dL_law_1254 ?_
  refine jx_sld k hX hbl hab hN dL_law_1255 (p := 4 * n + 2) (nI_add _ 2) (by omega) ?_
  rw [← MC_G (MC_f hM hf)]
  refine jx_callV1 k mL_153 (q_spoil _ _ _ _ _ _ σ (xs (4 * n + 1)) (xs (4 * n + 2))) rm_a0 rfl dL_law_1256 rfl rfl rfl (Nat.le_of_ble_eq_true rfl) ⟨by omega, by omega⟩ ⟨by omega, by omega⟩ ?_
  refine jx_icmp_eq k dL_law_1259 (tgt := 1289) rfl (fun _ => ?_) (fun hh => absurd ((R_spoil hR _ _).1) hh)
  exact K _ _ _ _ _ _ _ (lwS_of hC1 (Nat.le_refl _) (fun _ _ => rfl) ((R_spoil hR _ _).2) ((hf _ (by omega) (by omega)).trans ho)) (by omega) (by omega)
theorem R_lt {σ : rs_S} {uw : Nat} {fo : Option Nat} {ca : Nat} {co : Int32} {lo : Nat} {lc : Int32} {kn : Option Nat} {on cut : Int32} {u f g fl : Nat → Int32} {h : Nat → Nat → Option Nat} {sp : Nat → Nat → Int32} {β : Nat → bd_T} {ρ : Nat → Nat → Int32} (hR : RR uw fo ca co lo lc kn on cut u f g fl h sp β ρ σ) : ∀ p, p < 70 → σ.2.1 4 p < 10000 := by
  intro p hp
  obtain ⟨⟨A, hJ, _⟩, a2, _, _, _, ⟨c1, ⟨nw, w1, w2⟩, _⟩, _⟩ := hR
  rcases hJ.2.1 p hp with e | e
  · refine Int32.lt_trans (a2 p hp e) ?_
    rw [c1, w2]
    exact nI_lt (b := 10000) (by omega) (by decide)
  · rw [e]; decide
theorem R_rp {σ : rs_S} {uw : Nat} {fo : Option Nat} {ca : Nat} {co : Int32} {lo : Nat} {lc : Int32} {kn : Option Nat} {on cut : Int32} {u f g fl : Nat → Int32} {h : Nat → Nat → Option Nat} {sp : Nat → Nat → Int32} {β : Nat → bd_T} {ρ : Nat → Nat → Int32} (hR : RR uw fo ca co lo lc kn on cut u f g fl h sp β ρ σ) {i t : Int32} (hr : ¬ ((0 ≤ i ∧ i < 3) → ka_r h sp (d_tm β) i.toNatClampNeg t = none)) : ∃ j, j < 3 ∧ ∃ T, T < 10000 ∧ ∃ z, i = nI j ∧ t = nI T ∧ ka_r h sp (d_tm β) j (nI T) = some z := by
  by_cases hi : 0 ≤ i ∧ i < 3
  · obtain ⟨j, j1, rfl⟩ := nI_lift (n := 3) hi.1 hi.2 (by decide)
    rw [nI_clamp (by omega)] at hr
    have hne : ka_r h sp (d_tm β) j t ≠ none := fun e => hr (fun _ => e)
    have hlt := R_lt hR
    obtain ⟨A, hJ, hL, _⟩ := hR.1
    rcases g_r hJ hL j1 t with ⟨x, y⟩ | ⟨q, q1, q2, q3, q4, q5, q6, q7, q8⟩
    · exact absurd x hne
    · have h2 := hlt q q1
      rw [q6] at h2
      obtain ⟨T, T1, rfl⟩ := nI_lift (n := 10000) q5 h2 (by decide)
      exact ⟨j, j1, T, T1, A q, rfl, rfl, q4⟩
  · exact absurd (fun x => absurd x hi) hr
set_option maxRecDepth 100000 in
theorem lc_replay (k : jx_ok X l E b yL_law code 7 (some .boolean) R) (hX : va_X a N xs (jx_s X) (jx_s X).heap) (hbl : a < (jx_s X).heap.size) (hab : a < b) (hN : N < 2 ^ 31) (hn : 4 * n + 3 < N) (r1 : 11 ≤ R.frames) (r2 : 378 ≤ R.locals) (r3 : ce + 9 ≤ R.cells) (r4 : sl + 47 ≤ R.slots) (hLS : lwS E x σ G sz) (K : ∀ (σ' : rs_S) (G' : jx_H) (sz' ce' sl' : Nat) (w5 w6 : Option Value), lwS E x σ' G' sz' → ce' ≤ ce + 9 → sl' ≤ sl + 47 → jx_w X E b Q 1289 (lL a x n w5 w6) [] G' sz' ce' sl') : jx_w X E b Q 924 (lL a x n v5 v6) [] G sz ce sl := by
  obtain ⟨uw, fo, ca, co, lo, lc, kn, on, cut, u, f, g, fl, h, sp, β, ρ, D, P, w, hC, hR, hM, ho⟩ := hLS
  have hs70 : ∀ p, p < 70 → σ.2.1 4 p < 10000 := R_lt hR
  by_cases hr : (0 ≤ xs (4 * n + 1) ∧ xs (4 * n + 1) < 3) → ka_r h sp (d_tm β) (xs (4 * n + 1)).toNatClampNeg (xs (4 * n + 2)) = none
  · refine jx_aload_n k dL_law_924 rfl ?_
    refine jx_aload_n k dL_law_925 rfl ?_
    refine jx_iload k dL_law_926 rfl ?_
    refine jx_iconst k dL_law_928 (v := 1) (by decide) ?_
    refine jx_iadd k dL_law_929 ?_
    refine jx_sld k hX hbl hab hN dL_law_930 (p := 4 * n + 1) (nI_add _ 1) (by omega) ?_
    refine jx_aload_n k dL_law_931 rfl ?_
    refine jx_iload k dL_law_932 rfl ?_
    refine jx_iconst k dL_law_934 (v := 2) (by decide) ?_
    refine jx_iadd k dL_law_935 ?_
    refine jx_sld k hX hbl hab hN dL_law_936 (p := 4 * n + 2) (nI_add _ 2) (by omega) ?_
    refine jx_callVP k mL_108 (k_replay0 _ _ _ _ _ x uw fo ca co lo lc kn on cut u f g fl h sp β ρ D P hC (xs (4 * n + 1)) (xs (4 * n + 2)) hr) hC.1.1 rfl dL_law_937 rfl rfl rfl (Nat.le_of_ble_eq_true rfl) ⟨by omega, by omega⟩ ⟨by omega, by omega⟩ ?_
    refine jx_aload_n k dL_law_940 rfl ?_
    refine jx_aload_n k dL_law_941 rfl ?_
    refine jx_iload k dL_law_942 rfl ?_
    refine jx_iconst k dL_law_944 (v := 1) (by decide) ?_
    refine jx_iadd k dL_law_945 ?_
    refine jx_sld k hX hbl hab hN dL_law_946 (p := 4 * n + 1) (nI_add _ 1) (by omega) ?_
    refine jx_aload_n k dL_law_947 rfl ?_
    refine jx_iload k dL_law_948 rfl ?_
    refine jx_iconst k dL_law_950 (v := 2) (by decide) ?_
    refine jx_iadd k dL_law_951 ?_
    refine jx_sld k hX hbl hab hN dL_law_952 (p := 4 * n + 2) (nI_add _ 2) (by omega) ?_
    rw [← MC_G hM]
    refine jx_callV1 k mL_111 (q_replay _ _ _ _ _ _ σ (xs (4 * n + 1)) (xs (4 * n + 2)) hs70 hR.2.2.2.2.1.2.1 hR.2.2.2.2.1.1) rm_a0 rfl dL_law_953 rfl rfl rfl (Nat.le_of_ble_eq_true rfl) ⟨by omega, by omega⟩ ⟨by omega, by omega⟩ ?_
    refine jx_icmp_eq k dL_law_956 (tgt := 1289) rfl (fun _ => ?_) (fun hh => absurd (R_replay0 hR _ _ hr).1 hh)
    exact K _ _ _ _ _ _ _ (lwS_of hC (Nat.le_refl _) (fun _ _ => rfl) ((R_replay0 hR _ _ hr).2) ho) (by omega) (by omega)
  · obtain ⟨j, hj3, T, hT9, z, e1, e2, hz⟩ := R_rp hR hr
    refine jx_aload_n k dL_law_924 rfl ?_
    refine jx_aload_n k dL_law_925 rfl ?_
    refine jx_iload k dL_law_926 rfl ?_
    refine jx_iconst k dL_law_928 (v := 1) (by decide) ?_
    refine jx_iadd k dL_law_929 ?_
    refine jx_sld k hX hbl hab hN dL_law_930 (p := 4 * n + 1) (nI_add _ 1) (by omega) ?_
    refine jx_aload_n k dL_law_931 rfl ?_
    refine jx_iload k dL_law_932 rfl ?_
    refine jx_iconst k dL_law_934 (v := 2) (by decide) ?_
    refine jx_iadd k dL_law_935 ?_
    refine jx_sld k hX hbl hab hN dL_law_936 (p := 4 * n + 2) (nI_add _ 2) (by omega) ?_
    rw [e1, e2]
    refine jx_callV k mL_108 (k_replay1 _ _ _ _ _ x uw fo ca co lo lc kn on cut u f g fl h sp β ρ D P hC j hj3 T hT9 z hz) hC.1.1 rfl dL_law_937 rfl rfl rfl (Nat.le_of_ble_eq_true rfl) ⟨by omega, by omega⟩ ⟨by omega, by omega⟩ ?_
    rintro v G1 sz1 ⟨rfl, rfl, hC1, hf⟩
    refine jx_aload_n k dL_law_940 rfl ?_
    refine jx_aload_n k dL_law_941 rfl ?_
    refine jx_iload k dL_law_942 rfl ?_
    refine jx_iconst k dL_law_944 (v := 1) (by decide) ?_
    refine jx_iadd k dL_law_945 ?_
    refine jx_sld k hX hbl hab hN dL_law_946 (p := 4 * n + 1) (nI_add _ 1) (by omega) ?_
    refine jx_aload_n k dL_law_947 rfl ?_
    refine jx_iload k dL_law_948 rfl ?_
    refine jx_iconst k dL_law_950 (v := 2) (by decide) ?_
    refine jx_iadd k dL_law_951 ?_
    refine jx_sld k hX hbl hab hN dL_law_952 (p := 4 * n + 2) (nI_add _ 2) (by omega) ?_
    rw [← MC_G (MC_f hM hf), e1, e2]
    refine jx_callV1 k mL_111 (q_replay _ _ _ _ _ _ σ (nI j) (nI T) hs70 hR.2.2.2.2.1.2.1 hR.2.2.2.2.1.1) rm_a0 rfl dL_law_953 rfl rfl rfl (Nat.le_of_ble_eq_true rfl) ⟨by omega, by omega⟩ ⟨by omega, by omega⟩ ?_
    refine jx_icmp_eq k dL_law_956 (tgt := 1289) rfl (fun _ => ?_) (fun hh => absurd (R_replay1 (Cp_of hC) hR hj3 hT9 hz).1 hh)
    exact K _ _ _ _ _ _ _ (lwS_of hC1 (Nat.le_refl _) (fun _ _ => rfl) ((R_replay1 (Cp_of hC) hR hj3 hT9 hz).2) ((hf _ (by omega) (by omega)).trans ho)) (by omega) (by omega)
end LawCases
