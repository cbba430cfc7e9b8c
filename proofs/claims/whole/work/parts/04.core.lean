/-! The walk over an abstract heap: G says what each cell is (address -> picture of the cell), L the locals by place. -/
abbrev jx_X : Type := Program × Launch × Env × Room × State × MethodId × Array Value × List Frame × Method × Code
abbrev jx_H : Type := Nat → Option va_E
abbrev jx_E : Type := va_G × (Nat → ClassId)
abbrev jx_tys (E : jx_E) : List (ClassId × FieldType) := [(E.2 0, .int), (E.2 1, .boolean), (E.2 2, .long), (E.2 3, .object jn_Store), (E.2 4, .object jn_Bundle)]
abbrev ja_i (E : jx_E) (n : Nat) (f : Nat → Int32) : va_E := .inl (E.2 0, n, .inl f)
abbrev ja_z (E : jx_E) (n : Nat) (f : Nat → Int32) : va_E := .inl (E.2 1, n, .inl f)
abbrev ja_l (E : jx_E) (n : Nat) (f : Nat → Int64) : va_E := .inl (E.2 2, n, .inr (.inl f))
abbrev ja_q (E : jx_E) (t n : Nat) (f : Nat → Option Nat) : va_E := .inl (E.2 t, n, .inr (.inr (.inr (.inr f))))
abbrev ja_o (ci : Nat) (fs : List Value) : va_E := .inr (ci, fs)
abbrev jx_A (b : Nat) : Nat → Prop := fun q => b ≤ q
theorem jx_ns {E : jx_E} {q : Nat} {x : va_E} {H : Heap} (h : va_at E.1 vwCl (q, x) H) : ∀ c, H[q]? = some c → c.vm.isStatics = false := by
  intro c hc
  cases x with
  | inl a =>
    have h1 : H[q]? = some (vp_cell a.1 a.2) := h
    cases h1.symm.trans hc
    obtain ⟨cA, n, f⟩ := a
    rcases f with f | f | f | f | f <;> rfl
  | inr o =>
    obtain ⟨r, -, cell, h1, h2⟩ := h
    have h1' : H[q]? = some cell := h1
    cases h1'.symm.trans hc
    rw [h2.2.1]
    rfl
def jx_rep (E : jx_E) (b : Nat) (G : jx_H) (sz : Nat) (H : Heap) : Prop := H.size = sz ∧ (b ≤ sz ∧ ∀ (q : Nat) (c : Cell), b ≤ q → H[q]? = some c → c.vm.isStatics = false) ∧ ∀ (q : Nat) (x : va_E), G q = some x → b ≤ q ∧ va_at E.1 vwCl (q, x) H
theorem jx_rep.set {E : jx_E} {b sz a : Nat} {G : jx_H} {H H1 : Heap} {x0 x1 : va_E} (h : jx_rep E b G sz H) (ha : G a = some x0) (h1 : va_at E.1 vwCl (a, x1) H1) (hz : H1.size = H.size) (ho : ∀ q : Nat, q ≠ a → H1[q]? = H[q]?) : jx_rep E b (va_up G a (some x1)) sz H1 := by
  refine ⟨by rw [hz]; exact h.1, ⟨h.2.1.1, fun q c hb hc => ?_⟩, fun q x hq => ?_⟩
  · by_cases hqa : q = a
    · subst hqa
      exact jx_ns h1 c hc
    · rw [ho q hqa] at hc
      exact h.2.1.2 q c hb hc
  by_cases hqa : q = a
  · subst hqa
    rw [va_up_self] at hq
    cases hq
    exact ⟨(h.2.2 q x0 ha).1, h1⟩
  · rw [va_up_ne _ _ hqa] at hq
    obtain ⟨h2, h3⟩ := h.2.2 q x hq
    exact ⟨h2, h3.kept (ho q hqa)⟩
theorem jx_rep.push {E : jx_E} {b sz : Nat} {G : jx_H} {H H1 : Heap} {x1 : va_E} (h : jx_rep E b G sz H) (h1 : va_at E.1 vwCl (sz, x1) H1) (hz : H1.size = sz + 1) (ho : ∀ q : Nat, q < sz → H1[q]? = H[q]?) : jx_rep E b (va_up G sz (some x1)) (sz + 1) H1 := by
  refine ⟨hz, ⟨Nat.le_succ_of_le h.2.1.1, fun q c hb hc => ?_⟩, fun q x hq => ?_⟩
  · by_cases hqa : q = sz
    · subst hqa
      exact jx_ns h1 c hc
    · have h5 := (Array.getElem?_eq_some_iff.mp hc).1
      rw [ho q (by omega)] at hc
      exact h.2.1.2 q c hb hc
  by_cases hqa : q = sz
  · subst hqa
    rw [va_up_self] at hq
    cases hq
    exact ⟨h.2.1.1, h1⟩
  · rw [va_up_ne _ _ hqa] at hq
    obtain ⟨h2, h3⟩ := h.2.2 q x hq
    have h4 : q < H.size := h3.lt
    exact ⟨h2, h3.kept (ho q (by rw [← h.1]; exact h4))⟩
/-- a cell that the picture leaves out -/
theorem jx_rep.skip {E : jx_E} {b sz : Nat} {G : jx_H} {H H1 : Heap} (h : jx_rep E b G sz H) (hz : H1.size = sz + 1) (ho : ∀ q : Nat, q < sz → H1[q]? = H[q]?) (hn : ∀ c, H1[sz]? = some c → c.vm.isStatics = false) : jx_rep E b G (sz + 1) H1 := by
  refine ⟨hz, ⟨Nat.le_succ_of_le h.2.1.1, fun q c hb hc => ?_⟩, fun q x hq => ?_⟩
  · by_cases hqa : q = sz
    · subst hqa
      exact hn c hc
    · have h5 := (Array.getElem?_eq_some_iff.mp hc).1
      rw [ho q (by omega)] at hc
      exact h.2.1.2 q c hb hc
  obtain ⟨h2, h3⟩ := h.2.2 q x hq
  have h4 : q < H.size := h3.lt
  exact ⟨h2, h3.kept (ho q (by rw [← h.1]; exact h4))⟩
theorem jx_rep.P {E : jx_E} {b sz a : Nat} {G : jx_H} {H : Heap} {x0 : va_E} (h : jx_rep E b G sz H) (ha : G a = some x0) : va_P E.1 vwCl [(a, x0)] H := by
  intro k q hk
  match k, hk with
  | 0, hk => cases hk; exact (h.2.2 a x0 ha).2
theorem jx_rep.lt {E : jx_E} {b sz a : Nat} {G : jx_H} {H : Heap} {x0 : va_E} (h : jx_rep E b G sz H) (ha : G a = some x0) : a < sz := by
  have h1 : a < H.size := (h.2.2 a x0 ha).2.lt
  rw [← h.1]; exact h1
/-- locals by place -/
def jx_loc (ls : Array Slot) (L : List (Option Value)) : Prop := ls.size = L.length ∧ lv_wf ls ∧ ∀ (i : Nat) (v : Value), L[i]? = some (some v) → ls[i]? = some (.val v)
def jx_al (L : List (Option Value)) : List (Nat × Value) := (List.range L.length).filterMap (fun i => match L[i]? with | some (some v) => some (i, v) | _ => none)
theorem jx_al_mem {L : List (Option Value)} {i : Nat} {v : Value} : (i, v) ∈ jx_al L ↔ L[i]? = some (some v) := by
  unfold jx_al
  rw [List.mem_filterMap]
  constructor
  · rintro ⟨j, -, hj⟩
    split at hj
    · next w hw =>
      cases hj
      exact hw
    · cases hj
  · intro h
    refine ⟨i, List.mem_range.mpr (List.getElem?_eq_some_iff.mp h).1, ?_⟩
    rw [h]
theorem jx_loc.has {ls : Array Slot} {L : List (Option Value)} (h : jx_loc ls L) : lv_has ls L.length (jx_al L) := ⟨h.1, h.2.1, fun q hq => h.2.2 q.1 q.2 (jx_al_mem.mp hq)⟩
/-- behind a store of one word at place i -/
def jx_s1 (L : List (Option Value)) (i : Nat) (v : Value) : List (Option Value) := L.set i (some v)
/-- behind a store of two words at place i -/
def jx_s2 : List (Option Value) → Nat → Value → List (Option Value)
  | [], _, _ => []
  | _ :: r, 0, v => some v :: (match r with | [] => [] | _ :: t => none :: t)
  | x :: r, k + 1, v => x :: jx_s2 r k v
/-- no value of two words stands just ahead of place i -/
def jx_pv : List (Option Value) → Nat → Bool
  | _, 0 => true
  | [], _ => true
  | x :: _, 1 => (match x with | some (.long _) => false | some (.double _) => false | _ => true)
  | _ :: r, k + 2 => jx_pv r (k + 1)
theorem jx_pv_at : ∀ (L : List (Option Value)) (i j : Nat) (w : Value), jx_pv L i = true → L[j]? = some (some w) → j + 1 = i → ¬ w.category = 2
  | [], _, _, _, _, h, _ => by cases h
  | x :: r, 0, j, w, _, _, h => by omega
  | x :: r, 1, j, w, hp, h, e => by
    have hj : j = 0 := by omega
    subst hj
    simp only [List.getElem?_cons_zero, Option.some.injEq] at h
    subst h
    cases w <;> first | (simp [Value.category]; done) | (simp [jx_pv] at hp; done)
  | x :: r, k + 2, j, w, hp, h, e => by
    match j, e with
    | j + 1, e =>
      simp only [List.getElem?_cons_succ] at h
      exact jx_pv_at r (k + 1) j w hp h (by omega)
theorem jx_s1_len (L : List (Option Value)) (i : Nat) (v : Value) : (jx_s1 L i v).length = L.length := by
  simp [jx_s1]
theorem jx_s1_at (L : List (Option Value)) (i : Nat) (v : Value) (hp : jx_pv L i = true) (j : Nat) (w : Value) (h : (jx_s1 L i v)[j]? = some (some w)) : (j = i ∧ w = v) ∨ (j ≠ i ∧ L[j]? = some (some w) ∧ ¬ (j + 1 = i ∧ w.category = 2)) := by
  unfold jx_s1 at h
  by_cases hj : j = i
  · subst hj
    rw [List.getElem?_set] at h
    simp only [if_true] at h
    split at h
    · left; simp at h; exact ⟨rfl, h.symm⟩
    · cases h
  · rw [List.getElem?_set, if_neg (fun q => hj q.symm)] at h
    exact Or.inr ⟨hj, h, fun q => jx_pv_at L i j w hp h q.1 q.2⟩
theorem jx_s2_len (L : List (Option Value)) (i : Nat) (v : Value) : (jx_s2 L i v).length = L.length := by
  induction L generalizing i with
  | nil => rfl
  | cons x r ih =>
    match i with
    | 0 => cases r <;> rfl
    | k + 1 => simp [jx_s2, ih]
theorem jx_s2_at0 (L : List (Option Value)) (i : Nat) (v : Value) (j : Nat) (w : Value) (h : (jx_s2 L i v)[j]? = some (some w)) : (j = i ∧ w = v) ∨ (j ≠ i ∧ j ≠ i + 1 ∧ L[j]? = some (some w)) := by
  induction L generalizing i j with
  | nil => cases h
  | cons x r ih =>
    match i, j with
    | 0, 0 => left; simp [jx_s2] at h; exact ⟨rfl, h.symm⟩
    | 0, 1 =>
      cases r with
      | nil => simp [jx_s2] at h
      | cons y t => simp [jx_s2] at h
    | 0, j + 2 =>
      cases r with
      | nil => simp [jx_s2] at h
      | cons y t => right; simp [jx_s2] at h; exact ⟨by omega, by omega, by simpa using h⟩
    | k + 1, 0 => right; simp [jx_s2] at h; exact ⟨by omega, by omega, by simpa using h⟩
    | k + 1, j + 1 =>
      simp only [jx_s2, List.getElem?_cons_succ] at h ⊢
      rcases ih k j h with ⟨h1, h2⟩ | ⟨h1, h2, h3⟩
      · left; exact ⟨by omega, h2⟩
      · right; exact ⟨by omega, by omega, h3⟩
theorem jx_s2_at (L : List (Option Value)) (i : Nat) (v : Value) (hp : jx_pv L i = true) (j : Nat) (w : Value) (h : (jx_s2 L i v)[j]? = some (some w)) : (j = i ∧ w = v) ∨ (j ≠ i ∧ j ≠ i + 1 ∧ L[j]? = some (some w) ∧ ¬ (j + 1 = i ∧ w.category = 2)) := by
  rcases jx_s2_at0 L i v j w h with h1 | ⟨h1, h2, h3⟩
  · exact Or.inl h1
  · exact Or.inr ⟨h1, h2, h3, fun q => jx_pv_at L i j w hp h3 q.1 q.2⟩
/-- what is known of locals may be forgotten -/
def jx_le : List (Option Value) → List (Option Value) → Prop
  | [], [] => True
  | x :: r, y :: t => (y = none ∨ y = x) ∧ jx_le r t
  | _, _ => False
theorem jx_le_len : ∀ (L M : List (Option Value)), jx_le L M → L.length = M.length
  | [], [], _ => rfl
  | [], _ :: _, h => h.elim
  | _ :: _, [], h => h.elim
  | x :: r, y :: t, h => by simp [jx_le_len r t h.2]
theorem jx_le_at : ∀ (L M : List (Option Value)), jx_le L M → ∀ (i : Nat) (v : Value), M[i]? = some (some v) → L[i]? = some (some v)
  | [], [], _, i, v, h => by cases h
  | [], _ :: _, h, _, _, _ => h.elim
  | _ :: _, [], h, _, _, _ => h.elim
  | x :: r, y :: t, h, 0, v, hv => by
    simp only [List.getElem?_cons_zero, Option.some.injEq] at hv ⊢
    rcases h.1 with h1 | h1
    · rw [h1] at hv; cases hv
    · rw [← h1]; exact hv
  | x :: r, y :: t, h, i + 1, v, hv => by
    simp only [List.getElem?_cons_succ] at hv ⊢
    exact jx_le_at r t h.2 i v hv
theorem jx_loc.le {ls : Array Slot} {L M : List (Option Value)} (h : jx_loc ls L) (hle : jx_le L M) : jx_loc ls M :=
  ⟨by rw [← jx_le_len L M hle]; exact h.1, h.2.1, fun i v hv => h.2.2 i v (jx_le_at L M hle i v hv)⟩
/-- the locals with which a method begins -/
def jx_in : List Value → List (Option Value)
  | [] => []
  | v :: r => if v.category = 2 then some v :: none :: jx_in r else some v :: jx_in r
def jx_L0 (n : Nat) (vs : List Value) : List (Option Value) := jx_in vs ++ List.replicate (n - (jx_in vs).length) none
theorem jx_in_len (vs : List Value) : (jx_in vs).length = (lg_sl vs).length := by
  induction vs with
  | nil => rfl
  | cons v r ih =>
    by_cases hc : v.category = 2
    · simp only [jx_in, hc, if_true, List.length_cons, ih]
      simp [lg_sl, hc]
    · simp only [jx_in, hc, if_false, List.length_cons, ih]
      simp [lg_sl, hc]
theorem jx_in_at (vs : List Value) (k i : Nat) (v : Value) (h : (jx_in vs)[i]? = some (some v)) : (k + i, v) ∈ lv_args k vs := by
  induction vs generalizing k i with
  | nil => cases h
  | cons w r ih =>
    by_cases hc : w.category = 2
    · simp only [jx_in, hc, if_true] at h
      match i with
      | 0 => simp at h; subst h; exact List.mem_cons_self
      | 1 => simp at h
      | i + 2 =>
        simp only [List.getElem?_cons_succ] at h
        have := ih (k + 2) i h
        refine List.mem_cons_of_mem _ ?_
        rw [if_pos hc]
        rw [show k + (i + 2) = k + 2 + i by omega]
        exact this
    · simp only [jx_in, hc, if_false] at h
      match i with
      | 0 => simp at h; subst h; exact List.mem_cons_self
      | i + 1 =>
        simp only [List.getElem?_cons_succ] at h
        have := ih (k + 1) i h
        refine List.mem_cons_of_mem _ ?_
        rw [if_neg hc]
        rw [show k + (i + 1) = k + 1 + i by omega]
        exact this
theorem jx_entry (vs : List Value) {n : Nat} (h : (lg_sl vs).length ≤ n) : jx_loc ((lg_sl vs ++ List.replicate (n - (lg_sl vs).length) Slot.unset).toArray) (jx_L0 n vs) := by
  obtain ⟨h1, h2, h3⟩ := lv_entry vs h
  have hlen : (jx_L0 n vs).length = n := by
    unfold jx_L0
    rw [List.length_append, List.length_replicate, jx_in_len]
    omega
  refine ⟨by rw [hlen]; exact h1, h2, fun i v hi => ?_⟩
  unfold jx_L0 at hi
  by_cases hl : i < (jx_in vs).length
  · rw [List.getElem?_append_left hl] at hi
    have := h3 _ (jx_in_at vs 0 i v hi)
    simpa using this
  · rw [List.getElem?_append_right (by omega)] at hi
    obtain ⟨hj, hz⟩ := List.getElem?_eq_some_iff.mp hi
    simp at hz
theorem jx_of1 {ls' : Array Slot} {L : List (Option Value)} {i : Nat} {v : Value} (hp : jx_pv L i = true) (h : lv_has ls' L.length ((i, v) :: (jx_al L).filter (fun q => !(q.1 == i) && !(q.1 + 1 == i && q.2.category == 2)))) : jx_loc ls' (jx_s1 L i v) := by
  obtain ⟨h2, h3, h4⟩ := h
  refine ⟨by rw [jx_s1_len]; exact h2, h3, fun j w hj => ?_⟩
  rcases jx_s1_at L i v hp j w hj with ⟨rfl, rfl⟩ | ⟨g1, g2, g3⟩
  · exact h4 (j, w) List.mem_cons_self
  · refine h4 (j, w) (List.mem_cons_of_mem _ (List.mem_filter.mpr ⟨jx_al_mem.mpr g2, ?_⟩))
    simp only [Bool.and_eq_true, Bool.not_eq_true', beq_eq_false_iff_ne, ne_eq, g1, not_false_eq_true, true_and]
    cases hz : (j + 1 == i && w.category == 2) with
    | false => rfl
    | true =>
      simp only [Bool.and_eq_true, beq_iff_eq] at hz
      exact absurd hz g3
theorem jx_of2 {ls' : Array Slot} {L : List (Option Value)} {i : Nat} {v : Value} (hp : jx_pv L i = true) (h : lv_has ls' L.length ((i, v) :: (jx_al L).filter (fun q => !(q.1 == i) && (!(q.1 == i + 1) && !(q.1 + 1 == i && q.2.category == 2))))) : jx_loc ls' (jx_s2 L i v) := by
  obtain ⟨h2, h3, h4⟩ := h
  refine ⟨by rw [jx_s2_len]; exact h2, h3, fun j w hj => ?_⟩
  rcases jx_s2_at L i v hp j w hj with ⟨rfl, rfl⟩ | ⟨g1, g0, g2, g3⟩
  · exact h4 (j, w) List.mem_cons_self
  · refine h4 (j, w) (List.mem_cons_of_mem _ (List.mem_filter.mpr ⟨jx_al_mem.mpr g2, ?_⟩))
    simp only [Bool.and_eq_true, Bool.not_eq_true', beq_eq_false_iff_ne, ne_eq, g1, g0, not_false_eq_true, true_and]
    cases hz : (j + 1 == i && w.category == 2) with
    | false => rfl
    | true =>
      simp only [Bool.and_eq_true, beq_iff_eq] at hz
      exact absurd hz g3
def jx_tb (U : State) : Prop := ∀ w ∈ jn_TB, ∀ A : Array Value, w.before A U = true
theorem jx_tb.moved {s U : State} (h : jx_tb s) (hW : s.WarmedH U.vm) : jx_tb U := fun w hw A => jx_word (List.all_eq_true.mp jn_TB_good w hw) hW (h w hw #[])
/-- the statics of Throwable that a thrown object's making reads -/
def jt_ls (C n d : String) (A : Nat → Prop) (U : State) (H : Heap) : Prop := ∃ (c : ClassId) (k : Class) (i : Nat) (f : Field) (a : Nat) (cell : Cell), U.vm.findClass C = some c ∧ U.fieldFound? C n d = some (c, k, i, f) ∧ f.isStatic = true ∧ k.statics = some a ∧ H[a]? = some cell ∧ cell.vm.isStatics = true ∧ cell.cls = c ∧ f.slot < cell.slots.size ∧ k.staticTypes[f.slot]? = some f.type ∧ ¬ A a
theorem jt_ls.of {C n d : String} {A : Nat → Prop} {args : Array Value} {s : State} (h : (Cond.laysStatic C n d).before args s = true) (hA : ∀ a : Nat, a < s.heap.size → ¬ A a) : jt_ls C n d A s s.heap := by
  obtain ⟨c, k, i, f, a, cell, h1, h2, h3, h4, h5, h6, h7, h8, h9⟩ := Cond.laysStatic_spec h
  exact ⟨c, k, i, f, a, cell, h1, h2, h3, h4, h5, h6, h7, h8, h9, hA a (Array.getElem?_eq_some_iff.mp h5).1⟩
theorem jt_ls.use {C n d : String} {A : Nat → Prop} {args : Array Value} {s : State} (h : jt_ls C n d A s s.heap) : (Cond.laysStatic C n d).before args s = true := by
  obtain ⟨c, k, i, f, a, cell, h1, h2, h3, h4, h5, h6, h7, h8, h9, -⟩ := h
  simp [Cond.before, Cond.holds, Cond.value, h1, h2, h3, h4, h5, h6, h7, h8, h9]
theorem jt_ls.kept {C n d : String} {A : Nat → Prop} {U : State} {H H1 : Heap} (h : jt_ls C n d A U H) (hq : ∀ a : Nat, a < H.size → ¬ A a → H1[a]? = H[a]?) : jt_ls C n d A U H1 := by
  obtain ⟨c, k, i, f, a, cell, h1, h2, h3, h4, h5, h6, h7, h8, h9, h10⟩ := h
  exact ⟨c, k, i, f, a, cell, h1, h2, h3, h4, (hq a (Array.getElem?_eq_some_iff.mp h5).1 h10).trans h5, h6, h7, h8, h9, h10⟩
theorem jt_ls.moved {C n d : String} {A : Nat → Prop} {u U : State} {H : Heap} (hvm : u.vm.Alike U.vm) (h : jt_ls C n d A u H) : jt_ls C n d A U H := by
  obtain ⟨c, k, i, f, a, cell, h1, h2, h3, h4, h5, h6, h7, h8, h9, h10⟩ := h
  obtain ⟨k', hi', he⟩ := State.fieldFound?_setVm hvm h2
  exact ⟨c, k', i, f, a, cell, (hvm.findClass _ _).trans h1, hi', h3, by rw [he]; exact h4, h5, h6, h7, h8, by rw [he]; exact h9, h10⟩
def jt_nc (C D : String) (U : State) : Prop := ∃ c d : ClassId, U.vm.findClass C = some c ∧ U.vm.findClass D = some d ∧ U.vm.assignable c d = false
theorem jt_nc.of {C D : String} {args : Array Value} {s : State} (h1 : (Cond.castable C C).before args s = true) (h2 : (Cond.castable D D).before args s = true) (h : (Cond.not (.castable C D)).before args s = true) : jt_nc C D s := by
  obtain ⟨c1, c2, a1, a2, -⟩ := Cond.castable_spec h1
  obtain ⟨d1, d2, b1, b2, -⟩ := Cond.castable_spec h2
  have hv := Cond.holds_not_iff.mp h
  simp only [Cond.value, a1, b1] at hv
  exact ⟨c1, d1, a1, b1, Option.some.inj hv⟩
theorem jt_nc.use {C D : String} {args : Array Value} {s : State} (h : jt_nc C D s) : (Cond.not (.castable C D)).before args s = true := by
  obtain ⟨c, d, h1, h2, h3⟩ := h
  refine Cond.holds_not_iff.mpr ?_
  simp only [Cond.value, h1, h2, h3]
theorem jt_nc.moved {C D : String} {u U : State} (hvm : u.vm.Alike U.vm) (h : jt_nc C D u) : jt_nc C D U := by
  obtain ⟨c, d, h1, h2, h3⟩ := h
  exact ⟨c, d, (hvm.findClass _ _).trans h1, (hvm.findClass _ _).trans h2, (hvm.assignable _ _).trans h3⟩
def jx_zs (b : Nat) (U : State) (H : Heap) : Prop := va_Zq "java/lang/Throwable" "UNASSIGNED_STACK" "[Ljava/lang/StackTraceElement;" (jx_A b) U H ∧ va_Zq "java/lang/Throwable" "SUPPRESSED_SENTINEL" "Ljava/util/List;" (jx_A b) U H ∧ jt_ls "java/lang/Throwable" "UNASSIGNED_STACK" "[Ljava/lang/StackTraceElement;" (jx_A b) U H ∧ jt_ls "java/lang/Throwable" "SUPPRESSED_SENTINEL" "Ljava/util/List;" (jx_A b) U H ∧ jt_nc "java/lang/IllegalArgumentException" "java/lang/IllegalStateException" U
def jx_gl (E : jx_E) (b : Nat) (U : State) (H : Heap) : Prop := jx_tb U ∧ va_K E.1 vwCl (jx_tys E) U ∧ jx_zs b U H
theorem jx_gl.moved {E : jx_E} {b : Nat} {s U : State} {H0 H : Heap} (h : jx_gl E b s H0) (hW : s.WarmedH U.vm) (hk : ∀ a : Nat, a < H0.size → ¬ jx_A b a → H[a]? = H0[a]?) : jx_gl E b U H :=
  ⟨h.1.moved hW, va_K.moved hW.alike h.2.1, va_Zq.kept (va_Zq.moved hW.alike h.2.2.1) hk, va_Zq.kept (va_Zq.moved hW.alike h.2.2.2.1) hk, jt_ls.kept (jt_ls.moved hW.alike h.2.2.2.2.1) hk, jt_ls.kept (jt_ls.moved hW.alike h.2.2.2.2.2.1) hk, jt_nc.moved hW.alike h.2.2.2.2.2.2⟩
abbrev jx_s (X : jx_X) : State := X.2.2.2.2.1
abbrev jx_m (X : jx_X) : MethodId := X.2.2.2.2.2.1
abbrev jx_ar (X : jx_X) : Array Value := X.2.2.2.2.2.2.1
abbrev jx_be (X : jx_X) : List Frame := X.2.2.2.2.2.2.2.1
abbrev jx_me (X : jx_X) : Method := X.2.2.2.2.2.2.2.2.1
abbrev jx_c (X : jx_X) : Code := X.2.2.2.2.2.2.2.2.2
def jx_ok (X : jx_X) (l : Launch) (E : jx_E) (b : Nat) (y : MethodName) (cc : ByteArray) (nL : Nat) (ret : Option FieldType) (R : Room) : Prop :=
  X.1.tables.exec = Jvm.exec ∧ (jx_c X).code = cc ∧ (jx_c X).maxLocals = nL ∧ (jx_s X).vm.findClass y.cls = some (jx_m X).cls ∧ jx_gl E b (jx_s X) (jx_s X).heap ∧ (jx_me X).locks = false ∧ (jx_me X).sig.returnType = ret ∧ X.2.1 = l ∧ X.2.2.2.1 = R ∧ (jx_me X).name = y.name ∧ b ≤ (jx_s X).heap.size ∧ ∀ (q : Nat) (c : Cell), b ≤ q → (jx_s X).heap[q]? = some c → c.vm.isStatics = false
def jx_w (X : jx_X) (E : jx_E) (b : Nat) (Q : State → Prop) (pc : Nat) (L : List (Option Value)) (st : List Value) (G : jx_H) (sz ce sl : Nat) : Prop :=
  ∀ (H : Heap) (locs : List Loc) (ls : Array Slot), jx_rep E b G sz H → va_S (jx_A b) (jx_s X).heap H locs → jx_loc ls L →
    W X.1 X.2.1 X.2.2.1 X.2.2.2.1 (jx_s X) (jx_m X) (jx_ar X) (jx_be X) (jx_me X) (jx_c X) H locs ce sl Q (F0 (jx_m X) pc ls st)
/-- a contract: arguments, the heap before; the answer, the heap behind -/
def jx_rm (d mc ms : Nat) : Room := { frames := d, cells := mc, slots := ms, locals := 30 * d }
def jx_P (E : jx_E) (b : Nat) (A : List Value) (G : jx_H) (sz : Nat) : Array Value → State → Prop := va_Pc A (fun U => jx_rep E b G sz U.heap ∧ jx_gl E b U U.heap)
def jx_Q (E : jx_E) (b : Nat) (Q : Option Value → jx_H → Nat → Prop) : Array Value → State → Outcome → State → Prop := fun _ st o t => ∃ (v : Option Value) (G : jx_H) (sz : Nat), o = .returned v ∧ Q v G sz ∧ jx_rep E b G sz t.heap ∧ va_F (jx_A b) st t
def jx_ct (l : Launch) (E : jx_E) (b : Nat) (y : MethodName) (cc : ByteArray) (nL : Nat) (ret : Option FieldType) (d mc ms : Nat) (A : List Value) (G : jx_H) (sz : Nat) (Q : Option Value → jx_H → Nat → Prop) : Prop :=
  Met l y [Cond.code y cc nL ret] (jx_rm d mc ms) (jx_P E b A G sz) (jx_Q E b Q) mc ms (jx_A b)
def jx_fin (X : jx_X) (E : jx_E) (b : Nat) (Q : Option Value → jx_H → Nat → Prop) (mc ms : Nat) : State → Prop := MQ (jx_be X) (jx_Q E b Q) (jx_ar X) (jx_s X) mc ms (jx_A b)
theorem jx_P_blind {E : jx_E} {b : Nat} {A : List Value} {G : jx_H} {sz : Nat} : FrameBlind (jx_P E b A G sz) := by
  rintro a U g mk ⟨h1, h2, h3⟩
  exact ⟨h1, h2, h3.moved (U := U.calling g mk a) (State.WarmedH.refl U) (fun _ _ _ => rfl)⟩
theorem jx_met {l : Launch} {E : jx_E} {b : Nat} {y : MethodName} {cc : ByteArray} {nL : Nat} {ret : Option FieldType} {d mc ms : Nat} {A : List Value} {G : jx_H} {sz : Nat} {Q : Option Value → jx_H → Nat → Prop} {L0 : List (Option Value)}
    (hy : plainName y.cls = true) (hA : (lg_sl A).length ≤ nL) (hL : jx_L0 nL A = L0)
    (body : ∀ X : jx_X, jx_ok X l E b y cc nL ret (jx_rm d mc ms) → jx_w X E b (jx_fin X E b Q mc ms) 0 L0 [] G sz 0 0) : jx_ct l E b y cc nL ret d mc ms A G sz Q := by
  refine Met.ofW (cc := cc) (maxL := nL) (ret := ret) hy rfl ?_
  intro p e s m args below meth c s₁ B hml hv
  obtain ⟨rfl, hr, hg⟩ := hv
  have hown : s.vm.findClass y.cls = some m.cls := findClass_of_methodNamed B.named
  have hnm : meth.name = y.name := (name_of_methodNamed B.named B.method).1
  rw [lg_entry_eq]
  have hbs : b ≤ s.heap.size := by rw [hr.1]; exact hr.2.1.1
  have hl := jx_entry A hA
  rw [hL] at hl
  exact body (p, l, e, jx_rm d mc ms, s, m, A.toArray, below, meth, c) ⟨B.exec, B.bytes, hml, hown, hg, B.notSynchronized, B.returns, rfl, rfl, hnm, hbs, hr.2.1.2⟩ s.heap [] _ hr va_S.rf hl
section CoreRows
variable {X : jx_X} {l : Launch} {E : jx_E} {b : Nat} {y : MethodName} {cc : ByteArray} {nL : Nat} {ret : Option FieldType} {R : Room} {Q : State → Prop} {pc : Nat} {L L' : List (Option Value)} {rest st : List Value} {G : jx_H} {sz ce sl : Nat}
theorem jx_iconst (k : jx_ok X l E b y cc nL ret R) {n : Int} {v : Int32} (dd : decode cc pc = .ok (.iconst n, 1)) (hv : Int32.ofInt n = v) (kk : jx_w X E b Q (pc + 1) L (.int v :: rest) G sz ce sl) : jx_w X E b Q pc L rest G sz ce sl := by
  obtain ⟨p, l0, e, R0, s, m, args, below, meth, c⟩ := X
  exact fun H locs ls hr hS hl => lv_iconst k.1 k.2.1 dd hv (kk H locs ls hr hS hl)
theorem jx_bipush (k : jx_ok X l E b y cc nL ret R) {n : Int} {v : Int32} (dd : decode cc pc = .ok (.bipush n, 2)) (hv : (Int8.ofInt n).toInt32 = v) (kk : jx_w X E b Q (pc + 2) L (.int v :: rest) G sz ce sl) : jx_w X E b Q pc L rest G sz ce sl := by
  obtain ⟨p, l0, e, R0, s, m, args, below, meth, c⟩ := X
  exact fun H locs ls hr hS hl => lv_bipush k.1 k.2.1 dd hv (kk H locs ls hr hS hl)
theorem jx_sipush (k : jx_ok X l E b y cc nL ret R) {n : Int} {v : Int32} (dd : decode cc pc = .ok (.sipush n, 3)) (hv : (Int16.ofInt n).toInt32 = v) (kk : jx_w X E b Q (pc + 3) L (.int v :: rest) G sz ce sl) : jx_w X E b Q pc L rest G sz ce sl := by
  obtain ⟨p, l0, e, R0, s, m, args, below, meth, c⟩ := X
  exact fun H locs ls hr hS hl => lv_sipush k.1 k.2.1 dd hv (kk H locs ls hr hS hl)
theorem jx_lconst (k : jx_ok X l E b y cc nL ret R) {n : Fin 2} {v : Int64} (dd : decode cc pc = .ok (.lconst n, 1)) (hv : Int64.ofNat (n : Nat) = v) (kk : jx_w X E b Q (pc + 1) L (.long v :: rest) G sz ce sl) : jx_w X E b Q pc L rest G sz ce sl := by
  obtain ⟨p, l0, e, R0, s, m, args, below, meth, c⟩ := X
  exact fun H locs ls hr hS hl => lv_lconst k.1 k.2.1 dd hv (kk H locs ls hr hS hl)
theorem jx_null (k : jx_ok X l E b y cc nL ret R) (dd : decode cc pc = .ok (.aconst_null, 1)) (kk : jx_w X E b Q (pc + 1) L (.null :: rest) G sz ce sl) : jx_w X E b Q pc L rest G sz ce sl := by
  obtain ⟨p, l0, e, R0, s, m, args, below, meth, c⟩ := X
  exact fun H locs ls hr hS hl => lv_null k.1 k.2.1 dd (kk H locs ls hr hS hl)
theorem jx_iload_n (k : jx_ok X l E b y cc nL ret R) {k4 : Fin 4} {x : Int32} (dd : decode cc pc = .ok (.iload_n k4, 1)) (h : L[(k4 : Nat)]? = some (some (.int x))) (kk : jx_w X E b Q (pc + 1) L (.int x :: rest) G sz ce sl) : jx_w X E b Q pc L rest G sz ce sl := by
  obtain ⟨p, l0, e, R0, s, m, args, below, meth, c⟩ := X
  exact fun H locs ls hr hS hl => lv_iload_n k.1 k.2.1 dd rfl (hl.2.2 _ _ h) (kk H locs ls hr hS hl)
theorem jx_iload (k : jx_ok X l E b y cc nL ret R) {i : Nat} {x : Int32} (dd : decode cc pc = .ok (.iload i, 2)) (h : L[i]? = some (some (.int x))) (kk : jx_w X E b Q (pc + 2) L (.int x :: rest) G sz ce sl) : jx_w X E b Q pc L rest G sz ce sl := by
  obtain ⟨p, l0, e, R0, s, m, args, below, meth, c⟩ := X
  exact fun H locs ls hr hS hl => lv_iload k.1 k.2.1 dd (hl.2.2 _ _ h) (kk H locs ls hr hS hl)
theorem jx_lload_n (k : jx_ok X l E b y cc nL ret R) {k4 : Fin 4} {x : Int64} (dd : decode cc pc = .ok (.lload_n k4, 1)) (h : L[(k4 : Nat)]? = some (some (.long x))) (kk : jx_w X E b Q (pc + 1) L (.long x :: rest) G sz ce sl) : jx_w X E b Q pc L rest G sz ce sl := by
  obtain ⟨p, l0, e, R0, s, m, args, below, meth, c⟩ := X
  exact fun H locs ls hr hS hl => lv_lload_n k.1 k.2.1 dd rfl (hl.2.2 _ _ h) (kk H locs ls hr hS hl)
theorem jx_lload (k : jx_ok X l E b y cc nL ret R) {i : Nat} {x : Int64} (dd : decode cc pc = .ok (.lload i, 2)) (h : L[i]? = some (some (.long x))) (kk : jx_w X E b Q (pc + 2) L (.long x :: rest) G sz ce sl) : jx_w X E b Q pc L rest G sz ce sl := by
  obtain ⟨p, l0, e, R0, s, m, args, below, meth, c⟩ := X
  exact fun H locs ls hr hS hl => lv_lload k.1 k.2.1 dd (hl.2.2 _ _ h) (kk H locs ls hr hS hl)
theorem jx_aload_n (k : jx_ok X l E b y cc nL ret R) {k4 : Fin 4} {x : Nat} (dd : decode cc pc = .ok (.aload_n k4, 1)) (h : L[(k4 : Nat)]? = some (some (.ref x))) (kk : jx_w X E b Q (pc + 1) L (.ref x :: rest) G sz ce sl) : jx_w X E b Q pc L rest G sz ce sl := by
  obtain ⟨p, l0, e, R0, s, m, args, below, meth, c⟩ := X
  exact fun H locs ls hr hS hl => lv_aload_n k.1 k.2.1 dd rfl (hl.2.2 _ _ h) (kk H locs ls hr hS hl)
theorem jx_aload (k : jx_ok X l E b y cc nL ret R) {i : Nat} {x : Nat} (dd : decode cc pc = .ok (.aload i, 2)) (h : L[i]? = some (some (.ref x))) (kk : jx_w X E b Q (pc + 2) L (.ref x :: rest) G sz ce sl) : jx_w X E b Q pc L rest G sz ce sl := by
  obtain ⟨p, l0, e, R0, s, m, args, below, meth, c⟩ := X
  exact fun H locs ls hr hS hl => lv_aload k.1 k.2.1 dd (hl.2.2 _ _ h) (kk H locs ls hr hS hl)
theorem jx_aload_nN (k : jx_ok X l E b y cc nL ret R) {k4 : Fin 4} (dd : decode cc pc = .ok (.aload_n k4, 1)) (h : L[(k4 : Nat)]? = some (some .null)) (kk : jx_w X E b Q (pc + 1) L (.null :: rest) G sz ce sl) : jx_w X E b Q pc L rest G sz ce sl := by
  obtain ⟨p, l0, e, R0, s, m, args, below, meth, c⟩ := X
  exact fun H locs ls hr hS hl => lv_aload_nN k.1 k.2.1 dd rfl (hl.2.2 _ _ h) (kk H locs ls hr hS hl)
theorem jx_aloadN (k : jx_ok X l E b y cc nL ret R) {i : Nat} (dd : decode cc pc = .ok (.aload i, 2)) (h : L[i]? = some (some .null)) (kk : jx_w X E b Q (pc + 2) L (.null :: rest) G sz ce sl) : jx_w X E b Q pc L rest G sz ce sl := by
  obtain ⟨p, l0, e, R0, s, m, args, below, meth, c⟩ := X
  exact fun H locs ls hr hS hl => lv_aloadN k.1 k.2.1 dd (hl.2.2 _ _ h) (kk H locs ls hr hS hl)
theorem jx_iadd (k : jx_ok X l E b y cc nL ret R) {x y : Int32} (dd : decode cc pc = .ok (.iadd, 1)) (kk : jx_w X E b Q (pc + 1) L (.int (x + y) :: rest) G sz ce sl) : jx_w X E b Q pc L (.int y :: .int x :: rest) G sz ce sl := by
  obtain ⟨p, l0, e, R0, s, m, args, below, meth, c⟩ := X
  exact fun H locs ls hr hS hl => lv_iadd k.1 k.2.1 dd (kk H locs ls hr hS hl)
theorem jx_isub (k : jx_ok X l E b y cc nL ret R) {x y : Int32} (dd : decode cc pc = .ok (.isub, 1)) (kk : jx_w X E b Q (pc + 1) L (.int (x - y) :: rest) G sz ce sl) : jx_w X E b Q pc L (.int y :: .int x :: rest) G sz ce sl := by
  obtain ⟨p, l0, e, R0, s, m, args, below, meth, c⟩ := X
  exact fun H locs ls hr hS hl => lv_isub k.1 k.2.1 dd (kk H locs ls hr hS hl)
theorem jx_imul (k : jx_ok X l E b y cc nL ret R) {x y : Int32} (dd : decode cc pc = .ok (.imul, 1)) (kk : jx_w X E b Q (pc + 1) L (.int (x * y) :: rest) G sz ce sl) : jx_w X E b Q pc L (.int y :: .int x :: rest) G sz ce sl := by
  obtain ⟨p, l0, e, R0, s, m, args, below, meth, c⟩ := X
  exact fun H locs ls hr hS hl => lv_imul k.1 k.2.1 dd (kk H locs ls hr hS hl)
theorem jx_iand (k : jx_ok X l E b y cc nL ret R) {x y : Int32} (dd : decode cc pc = .ok (.iand, 1)) (kk : jx_w X E b Q (pc + 1) L (.int (x &&& y) :: rest) G sz ce sl) : jx_w X E b Q pc L (.int y :: .int x :: rest) G sz ce sl := by
  obtain ⟨p, l0, e, R0, s, m, args, below, meth, c⟩ := X
  exact fun H locs ls hr hS hl => lv_iand k.1 k.2.1 dd (kk H locs ls hr hS hl)
theorem jx_ior (k : jx_ok X l E b y cc nL ret R) {x y : Int32} (dd : decode cc pc = .ok (.ior, 1)) (kk : jx_w X E b Q (pc + 1) L (.int (x ||| y) :: rest) G sz ce sl) : jx_w X E b Q pc L (.int y :: .int x :: rest) G sz ce sl := by
  obtain ⟨p, l0, e, R0, s, m, args, below, meth, c⟩ := X
  exact fun H locs ls hr hS hl => lv_ior k.1 k.2.1 dd (kk H locs ls hr hS hl)
theorem jx_ixor (k : jx_ok X l E b y cc nL ret R) {x y : Int32} (dd : decode cc pc = .ok (.ixor, 1)) (kk : jx_w X E b Q (pc + 1) L (.int (x ^^^ y) :: rest) G sz ce sl) : jx_w X E b Q pc L (.int y :: .int x :: rest) G sz ce sl := by
  obtain ⟨p, l0, e, R0, s, m, args, below, meth, c⟩ := X
  exact fun H locs ls hr hS hl => lv_ixor k.1 k.2.1 dd (kk H locs ls hr hS hl)
theorem jx_ishl (k : jx_ok X l E b y cc nL ret R) {x y : Int32} (dd : decode cc pc = .ok (.ishl, 1)) (kk : jx_w X E b Q (pc + 1) L (.int (x <<< (y &&& 31)) :: rest) G sz ce sl) : jx_w X E b Q pc L (.int y :: .int x :: rest) G sz ce sl := by
  obtain ⟨p, l0, e, R0, s, m, args, below, meth, c⟩ := X
  exact fun H locs ls hr hS hl => lv_ishl k.1 k.2.1 dd (kk H locs ls hr hS hl)
theorem jx_ishr (k : jx_ok X l E b y cc nL ret R) {x y : Int32} (dd : decode cc pc = .ok (.ishr, 1)) (kk : jx_w X E b Q (pc + 1) L (.int (x >>> (y &&& 31)) :: rest) G sz ce sl) : jx_w X E b Q pc L (.int y :: .int x :: rest) G sz ce sl := by
  obtain ⟨p, l0, e, R0, s, m, args, below, meth, c⟩ := X
  exact fun H locs ls hr hS hl => lv_ishr k.1 k.2.1 dd (kk H locs ls hr hS hl)
theorem jx_idiv (k : jx_ok X l E b y cc nL ret R) {x y : Int32} (dd : decode cc pc = .ok (.idiv, 1)) (hne : ¬ y = 0) (kk : jx_w X E b Q (pc + 1) L (.int (x / y) :: rest) G sz ce sl) : jx_w X E b Q pc L (.int y :: .int x :: rest) G sz ce sl := by
  obtain ⟨p, l0, e, R0, s, m, args, below, meth, c⟩ := X
  exact fun H locs ls hr hS hl => lv_idiv k.1 k.2.1 dd hne (kk H locs ls hr hS hl)
theorem jx_irem (k : jx_ok X l E b y cc nL ret R) {x y : Int32} (dd : decode cc pc = .ok (.irem, 1)) (hne : ¬ y = 0) (kk : jx_w X E b Q (pc + 1) L (.int (x - x / y * y) :: rest) G sz ce sl) : jx_w X E b Q pc L (.int y :: .int x :: rest) G sz ce sl := by
  obtain ⟨p, l0, e, R0, s, m, args, below, meth, c⟩ := X
  exact fun H locs ls hr hS hl => lv_irem k.1 k.2.1 dd hne (kk H locs ls hr hS hl)
theorem jx_ladd (k : jx_ok X l E b y cc nL ret R) {x y : Int64} (dd : decode cc pc = .ok (.ladd, 1)) (kk : jx_w X E b Q (pc + 1) L (.long (x + y) :: rest) G sz ce sl) : jx_w X E b Q pc L (.long y :: .long x :: rest) G sz ce sl := by
  obtain ⟨p, l0, e, R0, s, m, args, below, meth, c⟩ := X
  exact fun H locs ls hr hS hl => lv_ladd k.1 k.2.1 dd (kk H locs ls hr hS hl)
theorem jx_lsub (k : jx_ok X l E b y cc nL ret R) {x y : Int64} (dd : decode cc pc = .ok (.lsub, 1)) (kk : jx_w X E b Q (pc + 1) L (.long (x - y) :: rest) G sz ce sl) : jx_w X E b Q pc L (.long y :: .long x :: rest) G sz ce sl := by
  obtain ⟨p, l0, e, R0, s, m, args, below, meth, c⟩ := X
  exact fun H locs ls hr hS hl => lv_lsub k.1 k.2.1 dd (kk H locs ls hr hS hl)
theorem jx_land (k : jx_ok X l E b y cc nL ret R) {x y : Int64} (dd : decode cc pc = .ok (.land, 1)) (kk : jx_w X E b Q (pc + 1) L (.long (x &&& y) :: rest) G sz ce sl) : jx_w X E b Q pc L (.long y :: .long x :: rest) G sz ce sl := by
  obtain ⟨p, l0, e, R0, s, m, args, below, meth, c⟩ := X
  exact fun H locs ls hr hS hl => lv_land k.1 k.2.1 dd (kk H locs ls hr hS hl)
theorem jx_lor (k : jx_ok X l E b y cc nL ret R) {x y : Int64} (dd : decode cc pc = .ok (.lor, 1)) (kk : jx_w X E b Q (pc + 1) L (.long (x ||| y) :: rest) G sz ce sl) : jx_w X E b Q pc L (.long y :: .long x :: rest) G sz ce sl := by
  obtain ⟨p, l0, e, R0, s, m, args, below, meth, c⟩ := X
  exact fun H locs ls hr hS hl => lv_lor k.1 k.2.1 dd (kk H locs ls hr hS hl)
theorem jx_lushr (k : jx_ok X l E b y cc nL ret R) {x : Int64} {y0 : Int32} (dd : decode cc pc = .ok (.lushr, 1)) (kk : jx_w X E b Q (pc + 1) L (.long ((x.toUInt64 >>> (y0.toInt64.toUInt64 &&& Int64.toUInt64 63)).toInt64) :: rest) G sz ce sl) : jx_w X E b Q pc L (.int y0 :: .long x :: rest) G sz ce sl := by
  obtain ⟨p, l0, e, R0, s, m, args, below, meth, c⟩ := X
  exact fun H locs ls hr hS hl => lv_lushr k.1 k.2.1 dd rfl (kk H locs ls hr hS hl)
theorem jx_lshl (k : jx_ok X l E b y cc nL ret R) {x : Int64} {y0 : Int32} (dd : decode cc pc = .ok (.lshl, 1)) (kk : jx_w X E b Q (pc + 1) L (.long (x <<< (y0.toInt64 &&& 63)) :: rest) G sz ce sl) : jx_w X E b Q pc L (.int y0 :: .long x :: rest) G sz ce sl := by
  obtain ⟨p, l0, e, R0, s, m, args, below, meth, c⟩ := X
  exact fun H locs ls hr hS hl => lv_lshl k.1 k.2.1 dd rfl (kk H locs ls hr hS hl)
theorem jx_i2l (k : jx_ok X l E b y cc nL ret R) {x : Int32} (dd : decode cc pc = .ok (.i2l, 1)) (kk : jx_w X E b Q (pc + 1) L (.long x.toInt64 :: rest) G sz ce sl) : jx_w X E b Q pc L (.int x :: rest) G sz ce sl := by
  obtain ⟨p, l0, e, R0, s, m, args, below, meth, c⟩ := X
  exact fun H locs ls hr hS hl => lv_i2l k.1 k.2.1 dd rfl (kk H locs ls hr hS hl)
theorem jx_lcmp (k : jx_ok X l E b y cc nL ret R) {x y : Int64} (dd : decode cc pc = .ok (.lcmp, 1)) (kk : jx_w X E b Q (pc + 1) L (.int (lg_cmp x y) :: rest) G sz ce sl) : jx_w X E b Q pc L (.long y :: .long x :: rest) G sz ce sl := by
  obtain ⟨p, l0, e, R0, s, m, args, below, meth, c⟩ := X
  exact fun H locs ls hr hS hl => W.lcmp k.1 k.2.1 dd (kk H locs ls hr hS hl)
theorem jx_dup (k : jx_ok X l E b y cc nL ret R) {va : Value} (dd : decode cc pc = .ok (.dup, 1)) (h1 : va.category = 1) (kk : jx_w X E b Q (pc + 1) L (va :: va :: rest) G sz ce sl) : jx_w X E b Q pc L (va :: rest) G sz ce sl := by
  obtain ⟨p, l0, e, R0, s, m, args, below, meth, c⟩ := X
  exact fun H locs ls hr hS hl => lv_dup k.1 k.2.1 dd h1 (kk H locs ls hr hS hl)
theorem jx_pop (k : jx_ok X l E b y cc nL ret R) {va : Value} (dd : decode cc pc = .ok (.pop, 1)) (h1 : va.category = 1) (kk : jx_w X E b Q (pc + 1) L rest G sz ce sl) : jx_w X E b Q pc L (va :: rest) G sz ce sl := by
  obtain ⟨p, l0, e, R0, s, m, args, below, meth, c⟩ := X
  exact fun H locs ls hr hS hl => lv_pop k.1 k.2.1 dd h1 (kk H locs ls hr hS hl)
theorem jx_dup_x1 (k : jx_ok X l E b y cc nL ret R) {va vb : Value} (dd : decode cc pc = .ok (.dup_x1, 1)) (h1 : va.category = 1) (h2 : vb.category = 1) (kk : jx_w X E b Q (pc + 1) L (va :: vb :: va :: rest) G sz ce sl) : jx_w X E b Q pc L (va :: vb :: rest) G sz ce sl := by
  obtain ⟨p, l0, e, R0, s, m, args, below, meth, c⟩ := X
  exact fun H locs ls hr hS hl => lv_dup_x1 k.1 k.2.1 dd h1 h2 (kk H locs ls hr hS hl)
theorem jx_dup2 (k : jx_ok X l E b y cc nL ret R) {va vb : Value} (dd : decode cc pc = .ok (.dup2, 1)) (h1 : va.category = 1) (h2 : vb.category = 1) (kk : jx_w X E b Q (pc + 1) L (va :: vb :: va :: vb :: rest) G sz ce sl) : jx_w X E b Q pc L (va :: vb :: rest) G sz ce sl := by
  obtain ⟨p, l0, e, R0, s, m, args, below, meth, c⟩ := X
  exact fun H locs ls hr hS hl => lv_dup2_11 k.1 k.2.1 dd h1 h2 (kk H locs ls hr hS hl)
theorem jx_if_eq (k : jx_ok X l E b y cc nL ret R) {x : Int32} {off : Int} {tgt : Nat} (dd : decode cc pc = .ok (.ifCond .eq off, 3)) (ht : (pc : Int) + off = (tgt : Int)) (kt : x = 0 → jx_w X E b Q tgt L rest G sz ce sl) (kf : ¬ x = 0 → jx_w X E b Q (pc + 3) L rest G sz ce sl) : jx_w X E b Q pc L (.int x :: rest) G sz ce sl := by
  obtain ⟨p, l0, e, R0, s, m, args, below, meth, c⟩ := X
  exact fun H locs ls hr hS hl => lv_if_eq k.1 k.2.1 dd ht (fun h => kt h H locs ls hr hS hl) (fun h => kf h H locs ls hr hS hl)
theorem jx_icmp_eq (k : jx_ok X l E b y cc nL ret R) {x y : Int32} {off : Int} {tgt : Nat} (dd : decode cc pc = .ok (.if_icmp .eq off, 3)) (ht : (pc : Int) + off = (tgt : Int)) (kt : x = y → jx_w X E b Q tgt L rest G sz ce sl) (kf : ¬ x = y → jx_w X E b Q (pc + 3) L rest G sz ce sl) : jx_w X E b Q pc L (.int y :: .int x :: rest) G sz ce sl := by
  obtain ⟨p, l0, e, R0, s, m, args, below, meth, c⟩ := X
  exact fun H locs ls hr hS hl => lv_icmp_eq k.1 k.2.1 dd ht (fun h => kt h H locs ls hr hS hl) (fun h => kf h H locs ls hr hS hl)
theorem jx_if_ne (k : jx_ok X l E b y cc nL ret R) {x : Int32} {off : Int} {tgt : Nat} (dd : decode cc pc = .ok (.ifCond .ne off, 3)) (ht : (pc : Int) + off = (tgt : Int)) (kt : ¬ x = 0 → jx_w X E b Q tgt L rest G sz ce sl) (kf : x = 0 → jx_w X E b Q (pc + 3) L rest G sz ce sl) : jx_w X E b Q pc L (.int x :: rest) G sz ce sl := by
  obtain ⟨p, l0, e, R0, s, m, args, below, meth, c⟩ := X
  exact fun H locs ls hr hS hl => lv_if_ne k.1 k.2.1 dd ht (fun h => kt h H locs ls hr hS hl) (fun h => kf h H locs ls hr hS hl)
theorem jx_icmp_ne (k : jx_ok X l E b y cc nL ret R) {x y : Int32} {off : Int} {tgt : Nat} (dd : decode cc pc = .ok (.if_icmp .ne off, 3)) (ht : (pc : Int) + off = (tgt : Int)) (kt : ¬ x = y → jx_w X E b Q tgt L rest G sz ce sl) (kf : x = y → jx_w X E b Q (pc + 3) L rest G sz ce sl) : jx_w X E b Q pc L (.int y :: .int x :: rest) G sz ce sl := by
  obtain ⟨p, l0, e, R0, s, m, args, below, meth, c⟩ := X
  exact fun H locs ls hr hS hl => lv_icmp_ne k.1 k.2.1 dd ht (fun h => kt h H locs ls hr hS hl) (fun h => kf h H locs ls hr hS hl)
theorem jx_if_lt (k : jx_ok X l E b y cc nL ret R) {x : Int32} {off : Int} {tgt : Nat} (dd : decode cc pc = .ok (.ifCond .lt off, 3)) (ht : (pc : Int) + off = (tgt : Int)) (kt : x < 0 → jx_w X E b Q tgt L rest G sz ce sl) (kf : ¬ x < 0 → jx_w X E b Q (pc + 3) L rest G sz ce sl) : jx_w X E b Q pc L (.int x :: rest) G sz ce sl := by
  obtain ⟨p, l0, e, R0, s, m, args, below, meth, c⟩ := X
  exact fun H locs ls hr hS hl => lv_if_lt k.1 k.2.1 dd ht (fun h => kt h H locs ls hr hS hl) (fun h => kf h H locs ls hr hS hl)
theorem jx_icmp_lt (k : jx_ok X l E b y cc nL ret R) {x y : Int32} {off : Int} {tgt : Nat} (dd : decode cc pc = .ok (.if_icmp .lt off, 3)) (ht : (pc : Int) + off = (tgt : Int)) (kt : x < y → jx_w X E b Q tgt L rest G sz ce sl) (kf : ¬ x < y → jx_w X E b Q (pc + 3) L rest G sz ce sl) : jx_w X E b Q pc L (.int y :: .int x :: rest) G sz ce sl := by
  obtain ⟨p, l0, e, R0, s, m, args, below, meth, c⟩ := X
  exact fun H locs ls hr hS hl => lv_icmp_lt k.1 k.2.1 dd ht (fun h => kt h H locs ls hr hS hl) (fun h => kf h H locs ls hr hS hl)
theorem jx_if_ge (k : jx_ok X l E b y cc nL ret R) {x : Int32} {off : Int} {tgt : Nat} (dd : decode cc pc = .ok (.ifCond .ge off, 3)) (ht : (pc : Int) + off = (tgt : Int)) (kt : 0 ≤ x → jx_w X E b Q tgt L rest G sz ce sl) (kf : ¬ 0 ≤ x → jx_w X E b Q (pc + 3) L rest G sz ce sl) : jx_w X E b Q pc L (.int x :: rest) G sz ce sl := by
  obtain ⟨p, l0, e, R0, s, m, args, below, meth, c⟩ := X
  exact fun H locs ls hr hS hl => lv_if_ge k.1 k.2.1 dd ht (fun h => kt h H locs ls hr hS hl) (fun h => kf h H locs ls hr hS hl)
theorem jx_icmp_ge (k : jx_ok X l E b y cc nL ret R) {x y : Int32} {off : Int} {tgt : Nat} (dd : decode cc pc = .ok (.if_icmp .ge off, 3)) (ht : (pc : Int) + off = (tgt : Int)) (kt : y ≤ x → jx_w X E b Q tgt L rest G sz ce sl) (kf : ¬ y ≤ x → jx_w X E b Q (pc + 3) L rest G sz ce sl) : jx_w X E b Q pc L (.int y :: .int x :: rest) G sz ce sl := by
  obtain ⟨p, l0, e, R0, s, m, args, below, meth, c⟩ := X
  exact fun H locs ls hr hS hl => lv_icmp_ge k.1 k.2.1 dd ht (fun h => kt h H locs ls hr hS hl) (fun h => kf h H locs ls hr hS hl)
theorem jx_if_gt (k : jx_ok X l E b y cc nL ret R) {x : Int32} {off : Int} {tgt : Nat} (dd : decode cc pc = .ok (.ifCond .gt off, 3)) (ht : (pc : Int) + off = (tgt : Int)) (kt : 0 < x → jx_w X E b Q tgt L rest G sz ce sl) (kf : ¬ 0 < x → jx_w X E b Q (pc + 3) L rest G sz ce sl) : jx_w X E b Q pc L (.int x :: rest) G sz ce sl := by
  obtain ⟨p, l0, e, R0, s, m, args, below, meth, c⟩ := X
  exact fun H locs ls hr hS hl => lv_if_gt k.1 k.2.1 dd ht (fun h => kt h H locs ls hr hS hl) (fun h => kf h H locs ls hr hS hl)
theorem jx_icmp_gt (k : jx_ok X l E b y cc nL ret R) {x y : Int32} {off : Int} {tgt : Nat} (dd : decode cc pc = .ok (.if_icmp .gt off, 3)) (ht : (pc : Int) + off = (tgt : Int)) (kt : y < x → jx_w X E b Q tgt L rest G sz ce sl) (kf : ¬ y < x → jx_w X E b Q (pc + 3) L rest G sz ce sl) : jx_w X E b Q pc L (.int y :: .int x :: rest) G sz ce sl := by
  obtain ⟨p, l0, e, R0, s, m, args, below, meth, c⟩ := X
  exact fun H locs ls hr hS hl => lv_icmp_gt k.1 k.2.1 dd ht (fun h => kt h H locs ls hr hS hl) (fun h => kf h H locs ls hr hS hl)
theorem jx_if_le (k : jx_ok X l E b y cc nL ret R) {x : Int32} {off : Int} {tgt : Nat} (dd : decode cc pc = .ok (.ifCond .le off, 3)) (ht : (pc : Int) + off = (tgt : Int)) (kt : x ≤ 0 → jx_w X E b Q tgt L rest G sz ce sl) (kf : ¬ x ≤ 0 → jx_w X E b Q (pc + 3) L rest G sz ce sl) : jx_w X E b Q pc L (.int x :: rest) G sz ce sl := by
  obtain ⟨p, l0, e, R0, s, m, args, below, meth, c⟩ := X
  exact fun H locs ls hr hS hl => lv_if_le k.1 k.2.1 dd ht (fun h => kt h H locs ls hr hS hl) (fun h => kf h H locs ls hr hS hl)
theorem jx_icmp_le (k : jx_ok X l E b y cc nL ret R) {x y : Int32} {off : Int} {tgt : Nat} (dd : decode cc pc = .ok (.if_icmp .le off, 3)) (ht : (pc : Int) + off = (tgt : Int)) (kt : x ≤ y → jx_w X E b Q tgt L rest G sz ce sl) (kf : ¬ x ≤ y → jx_w X E b Q (pc + 3) L rest G sz ce sl) : jx_w X E b Q pc L (.int y :: .int x :: rest) G sz ce sl := by
  obtain ⟨p, l0, e, R0, s, m, args, below, meth, c⟩ := X
  exact fun H locs ls hr hS hl => lv_icmp_le k.1 k.2.1 dd ht (fun h => kt h H locs ls hr hS hl) (fun h => kf h H locs ls hr hS hl)
theorem jx_goto (k : jx_ok X l E b y cc nL ret R) {off : Int} {tgt : Nat} (dd : decode cc pc = .ok (.goto off, 3)) (ht : (pc : Int) + off = (tgt : Int)) (kk : jx_w X E b Q tgt L rest G sz ce sl) : jx_w X E b Q pc L rest G sz ce sl := by
  obtain ⟨p, l0, e, R0, s, m, args, below, meth, c⟩ := X
  exact fun H locs ls hr hS hl => lv_goto k.1 k.2.1 dd ht (kk H locs ls hr hS hl)
theorem jx_ifnonnull (k : jx_ok X l E b y cc nL ret R) {x : Nat} {off : Int} {tgt : Nat} (dd : decode cc pc = .ok (.ifnonnull off, 3)) (ht : (pc : Int) + off = (tgt : Int)) (kk : jx_w X E b Q tgt L rest G sz ce sl) : jx_w X E b Q pc L (.ref x :: rest) G sz ce sl := by
  obtain ⟨p, l0, e, R0, s, m, args, below, meth, c⟩ := X
  exact fun H locs ls hr hS hl => lv_ifnonnull k.1 k.2.1 dd ht (kk H locs ls hr hS hl)
theorem jx_ifnull (k : jx_ok X l E b y cc nL ret R) {x : Nat} {off : Int} (dd : decode cc pc = .ok (.ifnull off, 3)) (kk : jx_w X E b Q (pc + 3) L rest G sz ce sl) : jx_w X E b Q pc L (.ref x :: rest) G sz ce sl := by
  obtain ⟨p, l0, e, R0, s, m, args, below, meth, c⟩ := X
  exact fun H locs ls hr hS hl => lv_ifnull k.1 k.2.1 dd (kk H locs ls hr hS hl)
theorem jx_ifnullN (k : jx_ok X l E b y cc nL ret R) {off : Int} {tgt : Nat} (dd : decode cc pc = .ok (.ifnull off, 3)) (ht : (pc : Int) + off = (tgt : Int)) (kk : jx_w X E b Q tgt L rest G sz ce sl) : jx_w X E b Q pc L (.null :: rest) G sz ce sl := by
  obtain ⟨p, l0, e, R0, s, m, args, below, meth, c⟩ := X
  exact fun H locs ls hr hS hl => lv_ifnullN k.1 k.2.1 dd ht (kk H locs ls hr hS hl)
theorem jx_ifnonnullN (k : jx_ok X l E b y cc nL ret R) {off : Int} (dd : decode cc pc = .ok (.ifnonnull off, 3)) (kk : jx_w X E b Q (pc + 3) L rest G sz ce sl) : jx_w X E b Q pc L (.null :: rest) G sz ce sl := by
  obtain ⟨p, l0, e, R0, s, m, args, below, meth, c⟩ := X
  exact fun H locs ls hr hS hl => lv_ifnonnullN k.1 k.2.1 dd (kk H locs ls hr hS hl)
theorem jx_istore (k : jx_ok X l E b y cc nL ret R) {i : Nat} {x : Int32} (dd : decode cc pc = .ok (.istore i, 2)) (hi : i < L.length) (hp : jx_pv L i = true) (hL : jx_s1 L i (.int x) = L') (kk : jx_w X E b Q (pc + 2) L' rest G sz ce sl) : jx_w X E b Q pc L (.int x :: rest) G sz ce sl := by
  obtain ⟨p, l0, e, R0, s, m, args, below, meth, c⟩ := X
  exact fun H locs ls hr hS hl => lv_istore k.1 k.2.1 dd hl.has hi rfl (fun ls' h' => kk H locs ls' hr hS (hL ▸ jx_of1 hp h'))
theorem jx_istore_n (k : jx_ok X l E b y cc nL ret R) {k4 : Fin 4} {x : Int32} (dd : decode cc pc = .ok (.istore_n k4, 1)) (hi : (k4 : Nat) < L.length) (hp : jx_pv L (k4 : Nat) = true) (hL : jx_s1 L (k4 : Nat) (.int x) = L') (kk : jx_w X E b Q (pc + 1) L' rest G sz ce sl) : jx_w X E b Q pc L (.int x :: rest) G sz ce sl := by
  obtain ⟨p, l0, e, R0, s, m, args, below, meth, c⟩ := X
  exact fun H locs ls hr hS hl => lv_istore_n k.1 k.2.1 dd rfl hl.has hi rfl (fun ls' h' => kk H locs ls' hr hS (hL ▸ jx_of1 hp h'))
theorem jx_astore (k : jx_ok X l E b y cc nL ret R) {i : Nat} {x : Nat} (dd : decode cc pc = .ok (.astore i, 2)) (hi : i < L.length) (hp : jx_pv L i = true) (hL : jx_s1 L i (.ref x) = L') (kk : jx_w X E b Q (pc + 2) L' rest G sz ce sl) : jx_w X E b Q pc L (.ref x :: rest) G sz ce sl := by
  obtain ⟨p, l0, e, R0, s, m, args, below, meth, c⟩ := X
  exact fun H locs ls hr hS hl => lv_astore k.1 k.2.1 dd hl.has hi rfl (fun ls' h' => kk H locs ls' hr hS (hL ▸ jx_of1 hp h'))
theorem jx_astore_n (k : jx_ok X l E b y cc nL ret R) {k4 : Fin 4} {x : Nat} (dd : decode cc pc = .ok (.astore_n k4, 1)) (hi : (k4 : Nat) < L.length) (hp : jx_pv L (k4 : Nat) = true) (hL : jx_s1 L (k4 : Nat) (.ref x) = L') (kk : jx_w X E b Q (pc + 1) L' rest G sz ce sl) : jx_w X E b Q pc L (.ref x :: rest) G sz ce sl := by
  obtain ⟨p, l0, e, R0, s, m, args, below, meth, c⟩ := X
  exact fun H locs ls hr hS hl => lv_astore_n k.1 k.2.1 dd rfl hl.has hi rfl (fun ls' h' => kk H locs ls' hr hS (hL ▸ jx_of1 hp h'))
theorem jx_lstore (k : jx_ok X l E b y cc nL ret R) {i : Nat} {x : Int64} (dd : decode cc pc = .ok (.lstore i, 2)) (hi : i + 1 < L.length) (hp : jx_pv L i = true) (hL : jx_s2 L i (.long x) = L') (kk : jx_w X E b Q (pc + 2) L' rest G sz ce sl) : jx_w X E b Q pc L (.long x :: rest) G sz ce sl := by
  obtain ⟨p, l0, e, R0, s, m, args, below, meth, c⟩ := X
  exact fun H locs ls hr hS hl => lv_lstore k.1 k.2.1 dd hl.has hi rfl (fun ls' h' => kk H locs ls' hr hS (hL ▸ jx_of2 hp h'))
theorem jx_lstore_n (k : jx_ok X l E b y cc nL ret R) {k4 : Fin 4} {x : Int64} (dd : decode cc pc = .ok (.lstore_n k4, 1)) (hi : (k4 : Nat) + 1 < L.length) (hp : jx_pv L (k4 : Nat) = true) (hL : jx_s2 L (k4 : Nat) (.long x) = L') (kk : jx_w X E b Q (pc + 1) L' rest G sz ce sl) : jx_w X E b Q pc L (.long x :: rest) G sz ce sl := by
  obtain ⟨p, l0, e, R0, s, m, args, below, meth, c⟩ := X
  exact fun H locs ls hr hS hl => lv_lstore_n k.1 k.2.1 dd rfl hl.has hi rfl (fun ls' h' => kk H locs ls' hr hS (hL ▸ jx_of2 hp h'))
theorem jx_astoreN (k : jx_ok X l E b y cc nL ret R) {i : Nat} (dd : decode cc pc = .ok (.astore i, 2)) (hi : i < L.length) (hp : jx_pv L i = true) (hL : jx_s1 L i .null = L') (kk : jx_w X E b Q (pc + 2) L' rest G sz ce sl) : jx_w X E b Q pc L (.null :: rest) G sz ce sl := by
  obtain ⟨p, l0, e, R0, s, m, args, below, meth, c⟩ := X
  exact fun H locs ls hr hS hl => lv_astoreN k.1 k.2.1 dd hl.has hi rfl (fun ls' h' => kk H locs ls' hr hS (hL ▸ jx_of1 hp h'))
theorem jx_astore_nN (k : jx_ok X l E b y cc nL ret R) {k4 : Fin 4} (dd : decode cc pc = .ok (.astore_n k4, 1)) (hi : (k4 : Nat) < L.length) (hp : jx_pv L (k4 : Nat) = true) (hL : jx_s1 L (k4 : Nat) .null = L') (kk : jx_w X E b Q (pc + 1) L' rest G sz ce sl) : jx_w X E b Q pc L (.null :: rest) G sz ce sl := by
  obtain ⟨p, l0, e, R0, s, m, args, below, meth, c⟩ := X
  exact fun H locs ls hr hS hl => lv_astore_nN k.1 k.2.1 dd rfl hl.has hi rfl (fun ls' h' => kk H locs ls' hr hS (hL ▸ jx_of1 hp h'))
theorem jx_iinc (k : jx_ok X l E b y cc nL ret R) {i : Nat} {n : Int} {x v : Int32} (dd : decode cc pc = .ok (.iinc i n, 3)) (h : L[i]? = some (some (.int x))) (hv : x + Int32.ofInt n = v) (hp : jx_pv L i = true) (hL : jx_s1 L i (.int v) = L') (kk : jx_w X E b Q (pc + 3) L' rest G sz ce sl) : jx_w X E b Q pc L rest G sz ce sl := by
  obtain ⟨p, l0, e, R0, s, m, args, below, meth, c⟩ := X
  obtain ⟨j, hj⟩ := List.getElem?_of_mem (jx_al_mem.mpr h)
  exact fun H locs ls hr hS hl => lv_iinc k.1 k.2.1 dd hl.has hj hv (List.getElem?_eq_some_iff.mp h).1 rfl (fun ls' h' => kk H locs ls' hr hS (hL ▸ jx_of1 hp h'))
theorem jx_fg {M : List (Option Value)} (h : jx_le L M) (kk : jx_w X E b Q pc M st G sz ce sl) : jx_w X E b Q pc L st G sz ce sl := fun H locs ls hr hS hl => kk H locs ls hr hS (hl.le h)
end CoreRows
