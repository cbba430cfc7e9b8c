theorem jt_pass {X : jx_X} {l : Launch} {E : jx_E} {b : Nat} {y : MethodName} {cc : ByteArray} {nL : Nat} {ret : Option FieldType} {R : Room} {pc : Nat} {L : List (Option Value)} {G : jx_H} {sz : Nat} (k : jx_ok X l E b y cc nL ret R) (hxt : (jx_c X).exceptionTable.toList = []) {idx n d' nL' a0 ci : Nat} {y' : MethodName} {cc' : ByteArray} {ret' : Option FieldType} {As rest st : List Value} {fs : List Value} {cls : String} (hm : jx_mv y.cls idx y' cc' nL' ret' n) (hl5 : Cond.methodLink y.cls idx y' ∈ jn_TB) (hM : jt_ct l E b y' cc' nL' ret' d' (.ref a0 :: As) G sz cls) (hG : G a0 = some (.inr (ci, fs))) (hc : (vwCl[ci]?).map (fun q => q.1) = some y'.cls) (dd : decode cc pc = .ok (.invokevirtual idx, 3)) (hn : As.length = n) (hLn : L.length = nL) (hst : st = As.reverse ++ .ref a0 :: rest) (hrm : (rest.map fun v => v.category).sum ≤ 8) (hR : d' + 1 ≤ R.frames ∧ 8 + (nL' + 11) + 30 * d' ≤ R.locals) (hf : 1 ≤ R.cells ∧ 6 ≤ R.slots) : jx_w X E b (jt_fin X E b cls G sz) pc L st G sz 0 0 := by
  obtain ⟨p, l0, e, R0, s, m, args, below, meth, c⟩ := X
  intro H locs ls hr hS hl T hT Xs
  obtain ⟨hx, hb, hml, hown, hg, hlk, -, rfl, rfl, -, hbs, hns⟩ := k
  obtain ⟨⟨w1, w2, w3, w4, -⟩, w6, w7⟩ := hm
  obtain ⟨ad, T', LL, X', hLL, hrep, hF, ⟨ce', h1, h2, h3⟩, stp⟩ := jt_thr Xs hx hown hg (by rw [hT]; exact hr) (by rw [hT]; exact hS) w1 w2 w3 w4 hl5 w6 w7 hM hG hc (pc := pc) (ls := ls) (by rw [show c.code = cc from hb]; exact dd) hn (by rw [show c.maxLocals = nL from hml]; exact hl.1.trans hLn) hst hrm hR ⟨by have := hf.1; omega, by have := hf.2; omega⟩
  obtain ⟨hwalk, hrun, hended, hWU, hsame⟩ := X'.leaveThrown ad (g := F0 m pc ls rest) rfl rfl rfl (fun x hx => by rw [show c.exceptionTable.toList = [] from hxt] at hx; cases hx) hlk
  rw [hT] at hF
  refine ⟨_, stp.trans hwalk, .threw ad, hrun, hended, ⟨ad, rfl, hrep, ⟨Nat.le_trans hS.1 hF.1, fun q a1 a2 => (hF.2 q (Nat.lt_of_lt_of_le a1 hS.1) a2).trans (hS.2.1 q a1 a2)⟩, ce', h1, h2, h3⟩, locs ++ LL, ⟨⟨ad, rfl⟩, hWU, by simpa using hsame⟩, fun q hq => ?_⟩
  rcases List.mem_append.mp hq with h | h
  · exact hS.2.2 q h
  · exact hLL q h
