/-- a call that throws, caught by the first handler -/
theorem jt_caught {X : jx_X} {l : Launch} {E : jx_E} {b : Nat} {y : MethodName} {cc : ByteArray} {nL : Nat} {ret : Option FieldType} {R : Room} {Q : State → Prop} {pc hpc ct : Nat} {L : List (Option Value)} {G : jx_H} {sz ce sl : Nat} (k : jx_ok X l E b y cc nL ret R) {x : ExceptionTableEntry} {xs : List ExceptionTableEntry} (hxt : (jx_c X).exceptionTable.toList = x :: xs) (hcov : covers x pc = true) (hh : x.handlerPc = hpc) (ht : x.catchType = ct) (ht0 : ct ≠ 0) {idx n d' nL' a0 ci : Nat} {y' : MethodName} {cc' : ByteArray} {ret' : Option FieldType} {As rest st : List Value} {fs : List Value} {cls : String} (hlk : Cond.classLink y.cls ct cls ∈ jn_TB) (hcs : Cond.castable cls cls ∈ jn_TB) (hm : jx_mv y.cls idx y' cc' nL' ret' n) (hl5 : Cond.methodLink y.cls idx y' ∈ jn_TB) (hM : jt_ct l E b y' cc' nL' ret' d' (.ref a0 :: As) G sz cls) (hG : G a0 = some (.inr (ci, fs))) (hc : (vwCl[ci]?).map (fun q => q.1) = some y'.cls) (dd : decode cc pc = .ok (.invokevirtual idx, 3)) (hn : As.length = n) (hLn : L.length = nL) (hst : st = As.reverse ++ .ref a0 :: rest) (hrm : (rest.map fun v => v.category).sum ≤ 8) (hR : d' + 1 ≤ R.frames ∧ 8 + (nL' + 11) + 30 * d' ≤ R.locals) (hf : ce + 1 ≤ R.cells ∧ sl + 6 ≤ R.slots) (kk : ∀ ad : Nat, jx_w X E b Q hpc L [.ref ad] G (sz + 1) (ce + 1) (sl + 6)) : jx_w X E b Q pc L st G sz ce sl := by
  obtain ⟨p, l0, e, R0, s, m, args, below, meth, c⟩ := X
  intro H locs ls hr hS hl T hT Xs
  obtain ⟨hx, hb, hml, hown, hg, -, -, rfl, rfl, -, hbs, hns⟩ := k
  obtain ⟨⟨w1, w2, w3, w4, -⟩, w6, w7⟩ := hm
  obtain ⟨ad, T', LL, X', hLL, hrep, hF, ⟨ce', h1, h2, h3⟩, stp⟩ := jt_thr Xs hx hown hg (by rw [hT]; exact hr) (by rw [hT]; exact hS) w1 w2 w3 w4 hl5 w6 w7 hM hG hc (pc := pc) (ls := ls) (by rw [show c.code = cc from hb]; exact dd) hn (by rw [show c.maxLocals = nL from hml]; exact hl.1.trans hLn) hst hrm hR hf
  obtain ⟨c3, c4, hc3, hc4, hasg⟩ := Cond.castable_spec (hg.1 _ hcs args)
  cases hc3.symm.trans hc4
  cases h2.symm.trans hc3
  obtain ⟨hrow, hk0⟩ := X'.catches_of_link hown (x := x) (by rw [ht]; exact ht0) (by rw [ht]; exact hg.1 _ hlk args) h2 hasg
  obtain ⟨vm', XV, st2⟩ := X'.thenCaughtThrough ad (g := F0 m pc ls rest) rfl stp h1 (by rw [h3]; rfl) hk0 [] x xs hxt (fun y hy => by cases hy) hcov hrow
  rw [hT] at hF
  obtain ⟨t2, a1, b1⟩ := kk ad T'.heap (locs ++ LL) ls hrep ⟨Nat.le_trans hS.1 hF.1, fun q a1 a2 => (hF.2 q (Nat.lt_of_lt_of_le a1 hS.1) a2).trans (hS.2.1 q a1 a2), fun q hq => (List.mem_append.mp hq).elim (hS.2.2 q) (hLL q)⟩ hl (T'.setVm vm') rfl XV
  exact ⟨t2, st2.trans (by rw [hh]; exact a1), b1⟩
theorem jt_caught2 {cls : String} {X : jx_X} {l : Launch} {E : jx_E} {b : Nat} {y : MethodName} {cc : ByteArray} {nL : Nat} {ret : Option FieldType} {R : Room} {Q : State → Prop} {pc hpc ct : Nat} {L : List (Option Value)} {G : jx_H} {sz ce sl : Nat} (k : jx_ok X l E b y cc nL ret R) {x0 x : ExceptionTableEntry} {xs : List ExceptionTableEntry} (hxt : (jx_c X).exceptionTable.toList = x0 :: x :: xs) {ct0 : Nat} (ht0' : x0.catchType = ct0) (hn0 : ct0 ≠ 0) (hlk0 : Cond.classLink y.cls ct0 jt_S ∈ jn_TB) (hcls : cls = jt_A) (hcov : covers x pc = true) (hh : x.handlerPc = hpc) (ht : x.catchType = ct) (ht0 : ct ≠ 0) {idx n d' nL' a0 ci : Nat} {y' : MethodName} {cc' : ByteArray} {ret' : Option FieldType} {As rest st : List Value} {fs : List Value} (hlk : Cond.classLink y.cls ct cls ∈ jn_TB) (hcs : Cond.castable cls cls ∈ jn_TB) (hm : jx_mv y.cls idx y' cc' nL' ret' n) (hl5 : Cond.methodLink y.cls idx y' ∈ jn_TB) (hM : jt_ct l E b y' cc' nL' ret' d' (.ref a0 :: As) G sz cls) (hG : G a0 = some (.inr (ci, fs))) (hc : (vwCl[ci]?).map (fun q => q.1) = some y'.cls) (dd : decode cc pc = .ok (.invokevirtual idx, 3)) (hn : As.length = n) (hLn : L.length = nL) (hst : st = As.reverse ++ .ref a0 :: rest) (hrm : (rest.map fun v => v.category).sum ≤ 8) (hR : d' + 1 ≤ R.frames ∧ 8 + (nL' + 11) + 30 * d' ≤ R.locals) (hf : ce + 1 ≤ R.cells ∧ sl + 6 ≤ R.slots) (kk : ∀ ad : Nat, jx_w X E b Q hpc L [.ref ad] G (sz + 1) (ce + 1) (sl + 6)) : jx_w X E b Q pc L st G sz ce sl := by
  obtain ⟨p, l0, e, R0, s, m, args, below, meth, c⟩ := X
  intro H locs ls hr hS hl T hT Xs
  obtain ⟨hx, hb, hml, hown, hg, -, -, rfl, rfl, -, hbs, hns⟩ := k
  obtain ⟨⟨w1, w2, w3, w4, -⟩, w6, w7⟩ := hm
  obtain ⟨ad, T', LL, X', hLL, hrep, hF, ⟨ce', h1, h2, h3⟩, stp⟩ := jt_thr Xs hx hown hg (by rw [hT]; exact hr) (by rw [hT]; exact hS) w1 w2 w3 w4 hl5 w6 w7 hM hG hc (pc := pc) (ls := ls) (by rw [show c.code = cc from hb]; exact dd) hn (by rw [show c.maxLocals = nL from hml]; exact hl.1.trans hLn) hst hrm hR hf
  obtain ⟨c3, c4, hc3, hc4, hasg⟩ := Cond.castable_spec (hg.1 _ hcs args)
  cases hc3.symm.trans hc4
  cases h2.symm.trans hc3
  obtain ⟨hrow, hk0⟩ := X'.catches_of_link hown (x := x) (by rw [ht]; exact ht0) (by rw [ht]; exact hg.1 _ hlk args) h2 hasg
  obtain ⟨vm', XV, st2⟩ := X'.thenCaughtThrough ad (g := F0 m pc ls rest) rfl stp h1 (by rw [h3]; rfl) hk0 [x0] x xs hxt (fun y hy => by
    rw [List.mem_singleton.mp hy]
    refine RowPassed.of_words (args := args) (by rw [X'.admits.platform]) hown (by rw [ht0']; exact hn0) (by rw [ht0']; exact hg.1 _ hlk0 args) h2 (by rw [hcls]; exact jt_nc.use hg.2.2.2.2.2.2)) hcov hrow
  rw [hT] at hF
  obtain ⟨t2, a1, b1⟩ := kk ad T'.heap (locs ++ LL) ls hrep ⟨Nat.le_trans hS.1 hF.1, fun q a1 a2 => (hF.2 q (Nat.lt_of_lt_of_le a1 hS.1) a2).trans (hS.2.1 q a1 a2), fun q hq => (List.mem_append.mp hq).elim (hS.2.2 q) (hLL q)⟩ hl (T'.setVm vm') rfl XV
  exact ⟨t2, st2.trans (by rw [hh]; exact a1), b1⟩
