/-! THE LAW: its cases -/
section LCS
variable {M : Mem} {L i : Nat} {xs : Nat → Int32}
theorem lc_plank (h : Ing M L xs) (hi : i + 6 ≤ L) (hL : L ≤ 3072) : ∃ M2, Ing M2 L xs ∧ run (ev 100) m_Law_law 260 [some (.ref 1000), some (.ref 0), some (.ref 174), some (.int (nI i))] [] NX M = run (ev 100) m_Law_law 18 [some (.ref 1000), some (.ref 0), some (.ref 174), some (.int (nI (i + 6)))] [] NX M2 := by
  have h0 := h
  obtain ⟨⟨s, s', T, tb, tl, f, hX, hM, ho⟩, hw, hs, hl⟩ := h
  have g0 := oA1000 (M := M) (j := i) hl hL (by omega)
  have o1 := oA1000 (M := M) (j := i + 1) hl hL (by omega)
  have s1 := hs (i + 1) (by omega)
  have o2 := oA1000 (M := M) (j := i + 2) hl hL (by omega)
  have s2 := hs (i + 2) (by omega)
  obtain ⟨v, M1, M2, a1, a2, a3, a4, a5⟩ := ing_op (yX := m_X_plank) (yM := m_M_plank) (as := [.int (xs (i + 1)), .int (xs (i + 2))]) h0 (by decide) (by obtain ⟨s2, z⟩ := O_plank (v := xs (i + 1)) (w := xs (i + 2)) hX hM ho; exact ⟨_, _, _, _, _, _, z⟩)
  have p1 := oA1000 (M := M1) (j := i + 1) a5 hL (by omega)
  have t1 := a4 (i + 1) (by omega)
  have p2 := oA1000 (M := M1) (j := i + 2) a5 hL (by omega)
  have t2 := a4 (i + 2) (by omega)
  refine ⟨M2, a3, ?_⟩
  simp (disch := omega) only [r_Law_law_260, r_Law_law_260n, r_Law_law_261, r_Law_law_261n, r_Law_law_262, r_Law_law_263, r_Law_law_264, r_Law_law_265, r_Law_law_266, r_Law_law_266n, r_Law_law_267, r_Law_law_268, r_Law_law_269, r_Law_law_270, r_Law_law_271, r_Law_law_274, r_Law_law_274n, r_Law_law_275, r_Law_law_275n, r_Law_law_276, r_Law_law_277, r_Law_law_278, r_Law_law_279, r_Law_law_280, r_Law_law_280n, r_Law_law_281, r_Law_law_282, r_Law_law_283, r_Law_law_284, r_Law_law_285, r_Law_law_288, r_Law_law_291, r_Law_law_292, r_Law_law_1621, r_Law_law_1624, bnd, tl_s, tl_n, wt_nil, wt_int, wt_ref, wt_null, wt_long, Nat.reduceAdd, Nat.reduceLeDiff, if_true, if_false, decide_true, Bool.true_and, Bool.and_true, zok_n0, zok_n1, zok_bI, bI_eq0, bI_eq1, Bool.true_eq_false, Bool.false_eq_true, not_false_eq_true, not_true_eq_false, decide_false, decide_eq_false_iff_not, decide_eq_true_eq, Classical.not_not, ite_not, lit, Nat.reduceEqDiff, Nat.reduceLT, nI_add, nI_lt', nI_le', nI_eq', nI_sub', pk_mul, nI_rem', nI_div', nI_nz, remN, clampN, inb_nI, Nat.not_lt_zero, Nat.zero_le, Nat.le_zero_eq, if_true, if_false, m1_lt0, m1_eq, t_ite, f_ite, Bool.not_false, Bool.not_true, oF_0, oO_0, oF_174, oO_174, mO_X_plank, mO_M_plank, o1, s1, p1, t1, o2, s2, p2, t2, a1, a2]
theorem lc_feed (h : Ing M L xs) (hi : i + 6 ≤ L) (hL : L ≤ 3072) : ∃ M2, Ing M2 L xs ∧ run (ev 100) m_Law_law 293 [some (.ref 1000), some (.ref 0), some (.ref 174), some (.int (nI i))] [] NX M = run (ev 100) m_Law_law 18 [some (.ref 1000), some (.ref 0), some (.ref 174), some (.int (nI (i + 6)))] [] NX M2 := by
  have h0 := h
  obtain ⟨⟨s, s', T, tb, tl, f, hX, hM, ho⟩, hw, hs, hl⟩ := h
  have g0 := oA1000 (M := M) (j := i) hl hL (by omega)
  have o1 := oA1000 (M := M) (j := i + 1) hl hL (by omega)
  have s1 := hs (i + 1) (by omega)
  have o2 := oA1000 (M := M) (j := i + 2) hl hL (by omega)
  have s2 := hs (i + 2) (by omega)
  have o3 := oA1000 (M := M) (j := i + 3) hl hL (by omega)
  have s3 := hs (i + 3) (by omega)
  have o4 := oA1000 (M := M) (j := i + 4) hl hL (by omega)
  have s4 := hs (i + 4) (by omega)
  have o5 := oA1000 (M := M) (j := i + 5) hl hL (by omega)
  have s5 := hs (i + 5) (by omega)
  obtain ⟨v, M1, M2, a1, a2, a3, a4, a5⟩ := ing_op (yX := m_X_feed) (yM := m_M_feed) (as := [.int (xs (i + 1)), .int (xs (i + 2)), .int (xs (i + 3)), .int (xs (i + 4)), .int (xs (i + 5))]) h0 (by decide) (by obtain ⟨t1, t2, z⟩ := O_feed (a := xs (i + 1)) (b := xs (i + 2)) (c := xs (i + 3)) (e := xs (i + 4)) (g := xs (i + 5)) hX hM ho; exact ⟨_, _, _, _, _, _, z⟩)
  have p1 := oA1000 (M := M1) (j := i + 1) a5 hL (by omega)
  have t1 := a4 (i + 1) (by omega)
  have p2 := oA1000 (M := M1) (j := i + 2) a5 hL (by omega)
  have t2 := a4 (i + 2) (by omega)
  have p3 := oA1000 (M := M1) (j := i + 3) a5 hL (by omega)
  have t3 := a4 (i + 3) (by omega)
  have p4 := oA1000 (M := M1) (j := i + 4) a5 hL (by omega)
  have t4 := a4 (i + 4) (by omega)
  have p5 := oA1000 (M := M1) (j := i + 5) a5 hL (by omega)
  have t5 := a4 (i + 5) (by omega)
  refine ⟨M2, a3, ?_⟩
  simp (disch := omega) only [r_Law_law_293, r_Law_law_293n, r_Law_law_294, r_Law_law_294n, r_Law_law_295, r_Law_law_296, r_Law_law_297, r_Law_law_298, r_Law_law_299, r_Law_law_299n, r_Law_law_300, r_Law_law_301, r_Law_law_302, r_Law_law_303, r_Law_law_304, r_Law_law_304n, r_Law_law_305, r_Law_law_306, r_Law_law_307, r_Law_law_308, r_Law_law_309, r_Law_law_309n, r_Law_law_310, r_Law_law_311, r_Law_law_312, r_Law_law_313, r_Law_law_314, r_Law_law_314n, r_Law_law_315, r_Law_law_316, r_Law_law_317, r_Law_law_318, r_Law_law_319, r_Law_law_322, r_Law_law_322n, r_Law_law_323, r_Law_law_323n, r_Law_law_324, r_Law_law_325, r_Law_law_326, r_Law_law_327, r_Law_law_328, r_Law_law_328n, r_Law_law_329, r_Law_law_330, r_Law_law_331, r_Law_law_332, r_Law_law_333, r_Law_law_333n, r_Law_law_334, r_Law_law_335, r_Law_law_336, r_Law_law_337, r_Law_law_338, r_Law_law_338n, r_Law_law_339, r_Law_law_340, r_Law_law_341, r_Law_law_342, r_Law_law_343, r_Law_law_343n, r_Law_law_344, r_Law_law_345, r_Law_law_346, r_Law_law_347, r_Law_law_348, r_Law_law_351, r_Law_law_354, r_Law_law_355, r_Law_law_1621, r_Law_law_1624, bnd, tl_s, tl_n, wt_nil, wt_int, wt_ref, wt_null, wt_long, Nat.reduceAdd, Nat.reduceLeDiff, if_true, if_false, decide_true, Bool.true_and, Bool.and_true, zok_n0, zok_n1, zok_bI, bI_eq0, bI_eq1, Bool.true_eq_false, Bool.false_eq_true, not_false_eq_true, not_true_eq_false, decide_false, decide_eq_false_iff_not, decide_eq_true_eq, Classical.not_not, ite_not, lit, Nat.reduceEqDiff, Nat.reduceLT, nI_add, nI_lt', nI_le', nI_eq', nI_sub', pk_mul, nI_rem', nI_div', nI_nz, remN, clampN, inb_nI, Nat.not_lt_zero, Nat.zero_le, Nat.le_zero_eq, if_true, if_false, m1_lt0, m1_eq, t_ite, f_ite, Bool.not_false, Bool.not_true, oF_0, oO_0, oF_174, oO_174, mO_X_feed, mO_M_feed, o1, s1, p1, t1, o2, s2, p2, t2, o3, s3, p3, t3, o4, s4, p4, t4, o5, s5, p5, t5, a1, a2]
theorem lc_end (h : Ing M L xs) (hi : i + 6 ≤ L) (hL : L ≤ 3072) : ∃ M2, Ing M2 L xs ∧ run (ev 100) m_Law_law 356 [some (.ref 1000), some (.ref 0), some (.ref 174), some (.int (nI i))] [] NX M = run (ev 100) m_Law_law 18 [some (.ref 1000), some (.ref 0), some (.ref 174), some (.int (nI (i + 6)))] [] NX M2 := by
  have h0 := h
  obtain ⟨⟨s, s', T, tb, tl, f, hX, hM, ho⟩, hw, hs, hl⟩ := h
  have g0 := oA1000 (M := M) (j := i) hl hL (by omega)
  have o1 := oA1000 (M := M) (j := i + 1) hl hL (by omega)
  have s1 := hs (i + 1) (by omega)
  obtain ⟨v, M1, M2, a1, a2, a3, a4, a5⟩ := ing_op (yX := m_X_end) (yM := m_M_end) (as := [.int (xs (i + 1))]) h0 (by decide) (by obtain ⟨t2, z⟩ := O_end (v := xs (i + 1)) hX hM ho; exact ⟨_, _, _, _, _, _, z⟩)
  have p1 := oA1000 (M := M1) (j := i + 1) a5 hL (by omega)
  have t1 := a4 (i + 1) (by omega)
  refine ⟨M2, a3, ?_⟩
  simp (disch := omega) only [r_Law_law_356, r_Law_law_356n, r_Law_law_357, r_Law_law_357n, r_Law_law_358, r_Law_law_359, r_Law_law_360, r_Law_law_361, r_Law_law_362, r_Law_law_365, r_Law_law_365n, r_Law_law_366, r_Law_law_366n, r_Law_law_367, r_Law_law_368, r_Law_law_369, r_Law_law_370, r_Law_law_371, r_Law_law_374, r_Law_law_377, r_Law_law_378, r_Law_law_1621, r_Law_law_1624, bnd, tl_s, tl_n, wt_nil, wt_int, wt_ref, wt_null, wt_long, Nat.reduceAdd, Nat.reduceLeDiff, if_true, if_false, decide_true, Bool.true_and, Bool.and_true, zok_n0, zok_n1, zok_bI, bI_eq0, bI_eq1, Bool.true_eq_false, Bool.false_eq_true, not_false_eq_true, not_true_eq_false, decide_false, decide_eq_false_iff_not, decide_eq_true_eq, Classical.not_not, ite_not, lit, Nat.reduceEqDiff, Nat.reduceLT, nI_add, nI_lt', nI_le', nI_eq', nI_sub', pk_mul, nI_rem', nI_div', nI_nz, remN, clampN, inb_nI, Nat.not_lt_zero, Nat.zero_le, Nat.le_zero_eq, if_true, if_false, m1_lt0, m1_eq, t_ite, f_ite, Bool.not_false, Bool.not_true, oF_0, oO_0, oF_174, oO_174, mO_X_end, mO_M_end, o1, s1, p1, t1, a1, a2]
theorem lc_text (h : Ing M L xs) (hi : i + 6 ≤ L) (hL : L ≤ 3072) : ∃ M2, Ing M2 L xs ∧ run (ev 100) m_Law_law 379 [some (.ref 1000), some (.ref 0), some (.ref 174), some (.int (nI i))] [] NX M = run (ev 100) m_Law_law 18 [some (.ref 1000), some (.ref 0), some (.ref 174), some (.int (nI (i + 6)))] [] NX M2 := by
  have h0 := h
  obtain ⟨⟨s, s', T, tb, tl, f, hX, hM, ho⟩, hw, hs, hl⟩ := h
  have g0 := oA1000 (M := M) (j := i) hl hL (by omega)
  obtain ⟨v, M1, M2, a1, a2, a3, a4, a5⟩ := ing_op (yX := m_X_text) (yM := m_M_text) (as := []) h0 (by decide) (by obtain ⟨t1, t2, t3, t4, z⟩ := O_text hX hM ho hw; exact ⟨_, _, _, _, _, _, z⟩)
  refine ⟨M2, a3, ?_⟩
  simp (disch := omega) only [r_Law_law_379, r_Law_law_379n, r_Law_law_380, r_Law_law_383, r_Law_law_383n, r_Law_law_384, r_Law_law_387, r_Law_law_390, r_Law_law_391, r_Law_law_1621, r_Law_law_1624, bnd, tl_s, tl_n, wt_nil, wt_int, wt_ref, wt_null, wt_long, Nat.reduceAdd, Nat.reduceLeDiff, if_true, if_false, decide_true, Bool.true_and, Bool.and_true, zok_n0, zok_n1, zok_bI, bI_eq0, bI_eq1, Bool.true_eq_false, Bool.false_eq_true, not_false_eq_true, not_true_eq_false, decide_false, decide_eq_false_iff_not, decide_eq_true_eq, Classical.not_not, ite_not, lit, Nat.reduceEqDiff, Nat.reduceLT, nI_add, nI_lt', nI_le', nI_eq', nI_sub', pk_mul, nI_rem', nI_div', nI_nz, remN, clampN, inb_nI, Nat.not_lt_zero, Nat.zero_le, Nat.le_zero_eq, if_true, if_false, m1_lt0, m1_eq, t_ite, f_ite, Bool.not_false, Bool.not_true, oF_0, oO_0, oF_174, oO_174, mO_X_text, mO_M_text, a1, a2]
theorem lc_fault (h : Ing M L xs) (hi : i + 6 ≤ L) (hL : L ≤ 3072) : ∃ M2, Ing M2 L xs ∧ run (ev 100) m_Law_law 392 [some (.ref 1000), some (.ref 0), some (.ref 174), some (.int (nI i))] [] NX M = run (ev 100) m_Law_law 18 [some (.ref 1000), some (.ref 0), some (.ref 174), some (.int (nI (i + 6)))] [] NX M2 := by
  have h0 := h
  obtain ⟨⟨s, s', T, tb, tl, f, hX, hM, ho⟩, hw, hs, hl⟩ := h
  have g0 := oA1000 (M := M) (j := i) hl hL (by omega)
  have o1 := oA1000 (M := M) (j := i + 1) hl hL (by omega)
  have s1 := hs (i + 1) (by omega)
  obtain ⟨v, M1, M2, a1, a2, a3, a4, a5⟩ := ing_op (yX := m_X_fault) (yM := m_M_fault) (as := [.int (xs (i + 1))]) h0 (by decide) ⟨_, _, _, _, _, _, Op.ofPub (P_fault hX hM) hX hM ho⟩
  have p1 := oA1000 (M := M1) (j := i + 1) a5 hL (by omega)
  have t1 := a4 (i + 1) (by omega)
  refine ⟨M2, a3, ?_⟩
  simp (disch := omega) only [r_Law_law_392, r_Law_law_392n, r_Law_law_393, r_Law_law_393n, r_Law_law_394, r_Law_law_395, r_Law_law_396, r_Law_law_397, r_Law_law_398, r_Law_law_401, r_Law_law_401n, r_Law_law_402, r_Law_law_402n, r_Law_law_403, r_Law_law_404, r_Law_law_405, r_Law_law_406, r_Law_law_407, r_Law_law_410, r_Law_law_413, r_Law_law_414, r_Law_law_1621, r_Law_law_1624, bnd, tl_s, tl_n, wt_nil, wt_int, wt_ref, wt_null, wt_long, Nat.reduceAdd, Nat.reduceLeDiff, if_true, if_false, decide_true, Bool.true_and, Bool.and_true, zok_n0, zok_n1, zok_bI, bI_eq0, bI_eq1, Bool.true_eq_false, Bool.false_eq_true, not_false_eq_true, not_true_eq_false, decide_false, decide_eq_false_iff_not, decide_eq_true_eq, Classical.not_not, ite_not, lit, Nat.reduceEqDiff, Nat.reduceLT, nI_add, nI_lt', nI_le', nI_eq', nI_sub', pk_mul, nI_rem', nI_div', nI_nz, remN, clampN, inb_nI, Nat.not_lt_zero, Nat.zero_le, Nat.le_zero_eq, if_true, if_false, m1_lt0, m1_eq, t_ite, f_ite, Bool.not_false, Bool.not_true, oF_0, oO_0, oF_174, oO_174, mO_X_fault, mO_M_fault, o1, s1, p1, t1, a1, a2]
theorem lc_by (h : Ing M L xs) (hi : i + 6 ≤ L) (hL : L ≤ 3072) : ∃ M2, Ing M2 L xs ∧ run (ev 100) m_Law_law 415 [some (.ref 1000), some (.ref 0), some (.ref 174), some (.int (nI i))] [] NX M = run (ev 100) m_Law_law 18 [some (.ref 1000), some (.ref 0), some (.ref 174), some (.int (nI (i + 6)))] [] NX M2 := by
  have h0 := h
  obtain ⟨⟨s, s', T, tb, tl, f, hX, hM, ho⟩, hw, hs, hl⟩ := h
  have g0 := oA1000 (M := M) (j := i) hl hL (by omega)
  have o1 := oA1000 (M := M) (j := i + 1) hl hL (by omega)
  have s1 := hs (i + 1) (by omega)
  obtain ⟨v, M1, M2, a1, a2, a3, a4, a5⟩ := ing_op (yX := m_X_by) (yM := m_M_by) (as := [.int (xs (i + 1))]) h0 (by decide) (by obtain ⟨s2, z⟩ := O_by (v := xs (i + 1)) hX hM ho; exact ⟨_, _, _, _, _, _, z⟩)
  have p1 := oA1000 (M := M1) (j := i + 1) a5 hL (by omega)
  have t1 := a4 (i + 1) (by omega)
  refine ⟨M2, a3, ?_⟩
  simp (disch := omega) only [r_Law_law_415, r_Law_law_415n, r_Law_law_416, r_Law_law_416n, r_Law_law_417, r_Law_law_418, r_Law_law_419, r_Law_law_420, r_Law_law_421, r_Law_law_424, r_Law_law_424n, r_Law_law_425, r_Law_law_425n, r_Law_law_426, r_Law_law_427, r_Law_law_428, r_Law_law_429, r_Law_law_430, r_Law_law_433, r_Law_law_436, r_Law_law_437, r_Law_law_1621, r_Law_law_1624, bnd, tl_s, tl_n, wt_nil, wt_int, wt_ref, wt_null, wt_long, Nat.reduceAdd, Nat.reduceLeDiff, if_true, if_false, decide_true, Bool.true_and, Bool.and_true, zok_n0, zok_n1, zok_bI, bI_eq0, bI_eq1, Bool.true_eq_false, Bool.false_eq_true, not_false_eq_true, not_true_eq_false, decide_false, decide_eq_false_iff_not, decide_eq_true_eq, Classical.not_not, ite_not, lit, Nat.reduceEqDiff, Nat.reduceLT, nI_add, nI_lt', nI_le', nI_eq', nI_sub', pk_mul, nI_rem', nI_div', nI_nz, remN, clampN, inb_nI, Nat.not_lt_zero, Nat.zero_le, Nat.le_zero_eq, if_true, if_false, m1_lt0, m1_eq, t_ite, f_ite, Bool.not_false, Bool.not_true, oF_0, oO_0, oF_174, oO_174, mO_X_by, mO_M_by, o1, s1, p1, t1, a1, a2]
theorem lc_put (h : Ing M L xs) (hi : i + 6 ≤ L) (hL : L ≤ 3072) : ∃ M2, Ing M2 L xs ∧ run (ev 100) m_Law_law 438 [some (.ref 1000), some (.ref 0), some (.ref 174), some (.int (nI i))] [] NX M = run (ev 100) m_Law_law 18 [some (.ref 1000), some (.ref 0), some (.ref 174), some (.int (nI (i + 6)))] [] NX M2 := by
  have h0 := h
  obtain ⟨⟨s, s', T, tb, tl, f, hX, hM, ho⟩, hw, hs, hl⟩ := h
  have g0 := oA1000 (M := M) (j := i) hl hL (by omega)
  have o1 := oA1000 (M := M) (j := i + 1) hl hL (by omega)
  have s1 := hs (i + 1) (by omega)
  obtain ⟨v, M1, M2, a1, a2, a3, a4, a5⟩ := ing_op (yX := m_X_put) (yM := m_M_put) (as := [.int (xs (i + 1))]) h0 (by decide) (by obtain ⟨s2, z⟩ := O_put (v := xs (i + 1)) hX hM ho; exact ⟨_, _, _, _, _, _, z⟩)
  have p1 := oA1000 (M := M1) (j := i + 1) a5 hL (by omega)
  have t1 := a4 (i + 1) (by omega)
  refine ⟨M2, a3, ?_⟩
  simp (disch := omega) only [r_Law_law_438, r_Law_law_438n, r_Law_law_439, r_Law_law_439n, r_Law_law_440, r_Law_law_441, r_Law_law_442, r_Law_law_443, r_Law_law_444, r_Law_law_447, r_Law_law_447n, r_Law_law_448, r_Law_law_448n, r_Law_law_449, r_Law_law_450, r_Law_law_451, r_Law_law_452, r_Law_law_453, r_Law_law_456, r_Law_law_459, r_Law_law_460, r_Law_law_1621, r_Law_law_1624, bnd, tl_s, tl_n, wt_nil, wt_int, wt_ref, wt_null, wt_long, Nat.reduceAdd, Nat.reduceLeDiff, if_true, if_false, decide_true, Bool.true_and, Bool.and_true, zok_n0, zok_n1, zok_bI, bI_eq0, bI_eq1, Bool.true_eq_false, Bool.false_eq_true, not_false_eq_true, not_true_eq_false, decide_false, decide_eq_false_iff_not, decide_eq_true_eq, Classical.not_not, ite_not, lit, Nat.reduceEqDiff, Nat.reduceLT, nI_add, nI_lt', nI_le', nI_eq', nI_sub', pk_mul, nI_rem', nI_div', nI_nz, remN, clampN, inb_nI, Nat.not_lt_zero, Nat.zero_le, Nat.le_zero_eq, if_true, if_false, m1_lt0, m1_eq, t_ite, f_ite, Bool.not_false, Bool.not_true, oF_0, oO_0, oF_174, oO_174, mO_X_put, mO_M_put, o1, s1, p1, t1, a1, a2]
theorem lc_take (h : Ing M L xs) (hi : i + 6 ≤ L) (hL : L ≤ 3072) : ∃ M2, Ing M2 L xs ∧ run (ev 100) m_Law_law 461 [some (.ref 1000), some (.ref 0), some (.ref 174), some (.int (nI i))] [] NX M = run (ev 100) m_Law_law 18 [some (.ref 1000), some (.ref 0), some (.ref 174), some (.int (nI (i + 6)))] [] NX M2 := by
  have h0 := h
  obtain ⟨⟨s, s', T, tb, tl, f, hX, hM, ho⟩, hw, hs, hl⟩ := h
  have g0 := oA1000 (M := M) (j := i) hl hL (by omega)
  have o1 := oA1000 (M := M) (j := i + 1) hl hL (by omega)
  have s1 := hs (i + 1) (by omega)
  obtain ⟨v, M1, M2, a1, a2, a3, a4, a5⟩ := ing_op (yX := m_X_take) (yM := m_M_take) (as := [.int (xs (i + 1))]) h0 (by decide) (by obtain ⟨s2, z⟩ := O_take (v := xs (i + 1)) hX hM ho; exact ⟨_, _, _, _, _, _, z⟩)
  have p1 := oA1000 (M := M1) (j := i + 1) a5 hL (by omega)
  have t1 := a4 (i + 1) (by omega)
  refine ⟨M2, a3, ?_⟩
  simp (disch := omega) only [r_Law_law_461, r_Law_law_461n, r_Law_law_462, r_Law_law_462n, r_Law_law_463, r_Law_law_464, r_Law_law_465, r_Law_law_466, r_Law_law_467, r_Law_law_470, r_Law_law_470n, r_Law_law_471, r_Law_law_471n, r_Law_law_472, r_Law_law_473, r_Law_law_474, r_Law_law_475, r_Law_law_476, r_Law_law_479, r_Law_law_482, r_Law_law_483, r_Law_law_1621, r_Law_law_1624, bnd, tl_s, tl_n, wt_nil, wt_int, wt_ref, wt_null, wt_long, Nat.reduceAdd, Nat.reduceLeDiff, if_true, if_false, decide_true, Bool.true_and, Bool.and_true, zok_n0, zok_n1, zok_bI, bI_eq0, bI_eq1, Bool.true_eq_false, Bool.false_eq_true, not_false_eq_true, not_true_eq_false, decide_false, decide_eq_false_iff_not, decide_eq_true_eq, Classical.not_not, ite_not, lit, Nat.reduceEqDiff, Nat.reduceLT, nI_add, nI_lt', nI_le', nI_eq', nI_sub', pk_mul, nI_rem', nI_div', nI_nz, remN, clampN, inb_nI, Nat.not_lt_zero, Nat.zero_le, Nat.le_zero_eq, if_true, if_false, m1_lt0, m1_eq, t_ite, f_ite, Bool.not_false, Bool.not_true, oF_0, oO_0, oF_174, oO_174, mO_X_take, mO_M_take, o1, s1, p1, t1, a1, a2]
theorem lc_concede (h : Ing M L xs) (hi : i + 6 ≤ L) (hL : L ≤ 3072) : ∃ M2, Ing M2 L xs ∧ run (ev 100) m_Law_law 484 [some (.ref 1000), some (.ref 0), some (.ref 174), some (.int (nI i))] [] NX M = run (ev 100) m_Law_law 18 [some (.ref 1000), some (.ref 0), some (.ref 174), some (.int (nI (i + 6)))] [] NX M2 := by
  have h0 := h
  obtain ⟨⟨s, s', T, tb, tl, f, hX, hM, ho⟩, hw, hs, hl⟩ := h
  have g0 := oA1000 (M := M) (j := i) hl hL (by omega)
  have o1 := oA1000 (M := M) (j := i + 1) hl hL (by omega)
  have s1 := hs (i + 1) (by omega)
  obtain ⟨v, M1, M2, a1, a2, a3, a4, a5⟩ := ing_op (yX := m_X_concede) (yM := m_M_concede) (as := [.int (xs (i + 1))]) h0 (by decide) (by obtain ⟨s2, z⟩ := O_concede (v := xs (i + 1)) hX hM ho; exact ⟨_, _, _, _, _, _, z⟩)
  have p1 := oA1000 (M := M1) (j := i + 1) a5 hL (by omega)
  have t1 := a4 (i + 1) (by omega)
  refine ⟨M2, a3, ?_⟩
  simp (disch := omega) only [r_Law_law_484, r_Law_law_484n, r_Law_law_485, r_Law_law_485n, r_Law_law_486, r_Law_law_487, r_Law_law_488, r_Law_law_489, r_Law_law_490, r_Law_law_493, r_Law_law_493n, r_Law_law_494, r_Law_law_494n, r_Law_law_495, r_Law_law_496, r_Law_law_497, r_Law_law_498, r_Law_law_499, r_Law_law_502, r_Law_law_505, r_Law_law_506, r_Law_law_1621, r_Law_law_1624, bnd, tl_s, tl_n, wt_nil, wt_int, wt_ref, wt_null, wt_long, Nat.reduceAdd, Nat.reduceLeDiff, if_true, if_false, decide_true, Bool.true_and, Bool.and_true, zok_n0, zok_n1, zok_bI, bI_eq0, bI_eq1, Bool.true_eq_false, Bool.false_eq_true, not_false_eq_true, not_true_eq_false, decide_false, decide_eq_false_iff_not, decide_eq_true_eq, Classical.not_not, ite_not, lit, Nat.reduceEqDiff, Nat.reduceLT, nI_add, nI_lt', nI_le', nI_eq', nI_sub', pk_mul, nI_rem', nI_div', nI_nz, remN, clampN, inb_nI, Nat.not_lt_zero, Nat.zero_le, Nat.le_zero_eq, if_true, if_false, m1_lt0, m1_eq, t_ite, f_ite, Bool.not_false, Bool.not_true, oF_0, oO_0, oF_174, oO_174, mO_X_concede, mO_M_concede, o1, s1, p1, t1, a1, a2]
theorem lc_object (h : Ing M L xs) (hi : i + 6 ≤ L) (hL : L ≤ 3072) : ∃ M2, Ing M2 L xs ∧ run (ev 100) m_Law_law 507 [some (.ref 1000), some (.ref 0), some (.ref 174), some (.int (nI i))] [] NX M = run (ev 100) m_Law_law 18 [some (.ref 1000), some (.ref 0), some (.ref 174), some (.int (nI (i + 6)))] [] NX M2 := by
  have h0 := h
  obtain ⟨⟨s, s', T, tb, tl, f, hX, hM, ho⟩, hw, hs, hl⟩ := h
  have g0 := oA1000 (M := M) (j := i) hl hL (by omega)
  have o1 := oA1000 (M := M) (j := i + 1) hl hL (by omega)
  have s1 := hs (i + 1) (by omega)
  have o2 := oA1000 (M := M) (j := i + 2) hl hL (by omega)
  have s2 := hs (i + 2) (by omega)
  have o3 := oA1000 (M := M) (j := i + 3) hl hL (by omega)
  have s3 := hs (i + 3) (by omega)
  by_cases e : xs (i + 3) = nI 0
  · obtain ⟨v, M1, M2, a1, a2, a3, a4, a5⟩ := ing_op (yX := m_X_object) (yM := m_M_object) (as := [.int (xs (i + 1)), .int (xs (i + 2)), .int (bI false)]) h0 (by decide) (by obtain ⟨s2, z⟩ := O_object (is := false) (v := xs (i + 1)) (w := xs (i + 2)) hX hM ho; exact ⟨_, _, _, _, _, _, z⟩)
    rw [bI_f] at a1 a2
    have p1 := oA1000 (M := M1) (j := i + 1) a5 hL (by omega)
    have t1 := a4 (i + 1) (by omega)
    have p2 := oA1000 (M := M1) (j := i + 2) a5 hL (by omega)
    have t2 := a4 (i + 2) (by omega)
    have p3 := oA1000 (M := M1) (j := i + 3) a5 hL (by omega)
    have t3 := a4 (i + 3) (by omega)
    refine ⟨M2, a3, ?_⟩
    simp (disch := omega) only [r_Law_law_507, r_Law_law_507n, r_Law_law_508, r_Law_law_508n, r_Law_law_509, r_Law_law_510, r_Law_law_511, r_Law_law_512, r_Law_law_513, r_Law_law_513n, r_Law_law_514, r_Law_law_515, r_Law_law_516, r_Law_law_517, r_Law_law_518, r_Law_law_518n, r_Law_law_519, r_Law_law_520, r_Law_law_521, r_Law_law_522, r_Law_law_523, r_Law_law_526, r_Law_law_527, r_Law_law_530, r_Law_law_531, r_Law_law_534, r_Law_law_534n, r_Law_law_535, r_Law_law_535n, r_Law_law_536, r_Law_law_537, r_Law_law_538, r_Law_law_539, r_Law_law_540, r_Law_law_540n, r_Law_law_541, r_Law_law_542, r_Law_law_543, r_Law_law_544, r_Law_law_545, r_Law_law_545n, r_Law_law_546, r_Law_law_547, r_Law_law_548, r_Law_law_549, r_Law_law_550, r_Law_law_553, r_Law_law_554, r_Law_law_557, r_Law_law_558, r_Law_law_561, r_Law_law_564, r_Law_law_565, r_Law_law_1621, r_Law_law_1624, bnd, tl_s, tl_n, wt_nil, wt_int, wt_ref, wt_null, wt_long, Nat.reduceAdd, Nat.reduceLeDiff, if_true, if_false, decide_true, Bool.true_and, Bool.and_true, zok_n0, zok_n1, zok_bI, bI_eq0, bI_eq1, Bool.true_eq_false, Bool.false_eq_true, not_false_eq_true, not_true_eq_false, decide_false, decide_eq_false_iff_not, decide_eq_true_eq, Classical.not_not, ite_not, lit, Nat.reduceEqDiff, Nat.reduceLT, nI_add, nI_lt', nI_le', nI_eq', nI_sub', pk_mul, nI_rem', nI_div', nI_nz, remN, clampN, inb_nI, Nat.not_lt_zero, Nat.zero_le, Nat.le_zero_eq, if_true, if_false, m1_lt0, m1_eq, t_ite, f_ite, Bool.not_false, Bool.not_true, oF_0, oO_0, oF_174, oO_174, mO_X_object, mO_M_object, o1, s1, p1, t1, o2, s2, p2, t2, o3, s3, p3, t3, e, a1, a2]
  · obtain ⟨v, M1, M2, a1, a2, a3, a4, a5⟩ := ing_op (yX := m_X_object) (yM := m_M_object) (as := [.int (xs (i + 1)), .int (xs (i + 2)), .int (bI true)]) h0 (by decide) (by obtain ⟨s2, z⟩ := O_object (is := true) (v := xs (i + 1)) (w := xs (i + 2)) hX hM ho; exact ⟨_, _, _, _, _, _, z⟩)
    rw [bI_t] at a1 a2
    have p1 := oA1000 (M := M1) (j := i + 1) a5 hL (by omega)
    have t1 := a4 (i + 1) (by omega)
    have p2 := oA1000 (M := M1) (j := i + 2) a5 hL (by omega)
    have t2 := a4 (i + 2) (by omega)
    have p3 := oA1000 (M := M1) (j := i + 3) a5 hL (by omega)
    have t3 := a4 (i + 3) (by omega)
    refine ⟨M2, a3, ?_⟩
    simp (disch := omega) only [r_Law_law_507, r_Law_law_507n, r_Law_law_508, r_Law_law_508n, r_Law_law_509, r_Law_law_510, r_Law_law_511, r_Law_law_512, r_Law_law_513, r_Law_law_513n, r_Law_law_514, r_Law_law_515, r_Law_law_516, r_Law_law_517, r_Law_law_518, r_Law_law_518n, r_Law_law_519, r_Law_law_520, r_Law_law_521, r_Law_law_522, r_Law_law_523, r_Law_law_526, r_Law_law_527, r_Law_law_530, r_Law_law_531, r_Law_law_534, r_Law_law_534n, r_Law_law_535, r_Law_law_535n, r_Law_law_536, r_Law_law_537, r_Law_law_538, r_Law_law_539, r_Law_law_540, r_Law_law_540n, r_Law_law_541, r_Law_law_542, r_Law_law_543, r_Law_law_544, r_Law_law_545, r_Law_law_545n, r_Law_law_546, r_Law_law_547, r_Law_law_548, r_Law_law_549, r_Law_law_550, r_Law_law_553, r_Law_law_554, r_Law_law_557, r_Law_law_558, r_Law_law_561, r_Law_law_564, r_Law_law_565, r_Law_law_1621, r_Law_law_1624, bnd, tl_s, tl_n, wt_nil, wt_int, wt_ref, wt_null, wt_long, Nat.reduceAdd, Nat.reduceLeDiff, if_true, if_false, decide_true, Bool.true_and, Bool.and_true, zok_n0, zok_n1, zok_bI, bI_eq0, bI_eq1, Bool.true_eq_false, Bool.false_eq_true, not_false_eq_true, not_true_eq_false, decide_false, decide_eq_false_iff_not, decide_eq_true_eq, Classical.not_not, ite_not, lit, Nat.reduceEqDiff, Nat.reduceLT, nI_add, nI_lt', nI_le', nI_eq', nI_sub', pk_mul, nI_rem', nI_div', nI_nz, remN, clampN, inb_nI, Nat.not_lt_zero, Nat.zero_le, Nat.le_zero_eq, if_true, if_false, m1_lt0, m1_eq, t_ite, f_ite, Bool.not_false, Bool.not_true, oF_0, oO_0, oF_174, oO_174, mO_X_object, mO_M_object, o1, s1, p1, t1, o2, s2, p2, t2, o3, s3, p3, t3, e, a1, a2]
theorem lc_hour (h : Ing M L xs) (hi : i + 6 ≤ L) (hL : L ≤ 3072) : ∃ M2, Ing M2 L xs ∧ run (ev 100) m_Law_law 566 [some (.ref 1000), some (.ref 0), some (.ref 174), some (.int (nI i))] [] NX M = run (ev 100) m_Law_law 18 [some (.ref 1000), some (.ref 0), some (.ref 174), some (.int (nI (i + 6)))] [] NX M2 := by
  have h0 := h
  obtain ⟨⟨s, s', T, tb, tl, f, hX, hM, ho⟩, hw, hs, hl⟩ := h
  have g0 := oA1000 (M := M) (j := i) hl hL (by omega)
  have o1 := oA1000 (M := M) (j := i + 1) hl hL (by omega)
  have s1 := hs (i + 1) (by omega)
  obtain ⟨v, M1, M2, a1, a2, a3, a4, a5⟩ := ing_op (yX := m_X_hour) (yM := m_M_hour) (as := [.int (xs (i + 1))]) h0 (by decide) (by obtain ⟨s2, z⟩ := O_hour (v := xs (i + 1)) hX hM ho; exact ⟨_, _, _, _, _, _, z⟩)
  have p1 := oA1000 (M := M1) (j := i + 1) a5 hL (by omega)
  have t1 := a4 (i + 1) (by omega)
  refine ⟨M2, a3, ?_⟩
  simp (disch := omega) only [r_Law_law_566, r_Law_law_566n, r_Law_law_567, r_Law_law_567n, r_Law_law_568, r_Law_law_569, r_Law_law_570, r_Law_law_571, r_Law_law_572, r_Law_law_575, r_Law_law_575n, r_Law_law_576, r_Law_law_576n, r_Law_law_577, r_Law_law_578, r_Law_law_579, r_Law_law_580, r_Law_law_581, r_Law_law_584, r_Law_law_587, r_Law_law_588, r_Law_law_1621, r_Law_law_1624, bnd, tl_s, tl_n, wt_nil, wt_int, wt_ref, wt_null, wt_long, Nat.reduceAdd, Nat.reduceLeDiff, if_true, if_false, decide_true, Bool.true_and, Bool.and_true, zok_n0, zok_n1, zok_bI, bI_eq0, bI_eq1, Bool.true_eq_false, Bool.false_eq_true, not_false_eq_true, not_true_eq_false, decide_false, decide_eq_false_iff_not, decide_eq_true_eq, Classical.not_not, ite_not, lit, Nat.reduceEqDiff, Nat.reduceLT, nI_add, nI_lt', nI_le', nI_eq', nI_sub', pk_mul, nI_rem', nI_div', nI_nz, remN, clampN, inb_nI, Nat.not_lt_zero, Nat.zero_le, Nat.le_zero_eq, if_true, if_false, m1_lt0, m1_eq, t_ite, f_ite, Bool.not_false, Bool.not_true, oF_0, oO_0, oF_174, oO_174, mO_X_hour, mO_M_hour, o1, s1, p1, t1, a1, a2]
theorem lc_played (h : Ing M L xs) (hi : i + 6 ≤ L) (hL : L ≤ 3072) : ∃ M2, Ing M2 L xs ∧ run (ev 100) m_Law_law 589 [some (.ref 1000), some (.ref 0), some (.ref 174), some (.int (nI i))] [] NX M = run (ev 100) m_Law_law 18 [some (.ref 1000), some (.ref 0), some (.ref 174), some (.int (nI (i + 6)))] [] NX M2 := by
  have h0 := h
  obtain ⟨⟨s, s', T, tb, tl, f, hX, hM, ho⟩, hw, hs, hl⟩ := h
  have g0 := oA1000 (M := M) (j := i) hl hL (by omega)
  have o1 := oA1000 (M := M) (j := i + 1) hl hL (by omega)
  have s1 := hs (i + 1) (by omega)
  obtain ⟨v, M1, M2, a1, a2, a3, a4, a5⟩ := ing_op (yX := m_X_played) (yM := m_M_played) (as := [.int (xs (i + 1))]) h0 (by decide) (by obtain ⟨s2, z⟩ := O_played (v := xs (i + 1)) hX hM ho; exact ⟨_, _, _, _, _, _, z⟩)
  have p1 := oA1000 (M := M1) (j := i + 1) a5 hL (by omega)
  have t1 := a4 (i + 1) (by omega)
  refine ⟨M2, a3, ?_⟩
  simp (disch := omega) only [r_Law_law_589, r_Law_law_589n, r_Law_law_590, r_Law_law_590n, r_Law_law_591, r_Law_law_592, r_Law_law_593, r_Law_law_594, r_Law_law_595, r_Law_law_598, r_Law_law_598n, r_Law_law_599, r_Law_law_599n, r_Law_law_600, r_Law_law_601, r_Law_law_602, r_Law_law_603, r_Law_law_604, r_Law_law_607, r_Law_law_610, r_Law_law_611, r_Law_law_1621, r_Law_law_1624, bnd, tl_s, tl_n, wt_nil, wt_int, wt_ref, wt_null, wt_long, Nat.reduceAdd, Nat.reduceLeDiff, if_true, if_false, decide_true, Bool.true_and, Bool.and_true, zok_n0, zok_n1, zok_bI, bI_eq0, bI_eq1, Bool.true_eq_false, Bool.false_eq_true, not_false_eq_true, not_true_eq_false, decide_false, decide_eq_false_iff_not, decide_eq_true_eq, Classical.not_not, ite_not, lit, Nat.reduceEqDiff, Nat.reduceLT, nI_add, nI_lt', nI_le', nI_eq', nI_sub', pk_mul, nI_rem', nI_div', nI_nz, remN, clampN, inb_nI, Nat.not_lt_zero, Nat.zero_le, Nat.le_zero_eq, if_true, if_false, m1_lt0, m1_eq, t_ite, f_ite, Bool.not_false, Bool.not_true, oF_0, oO_0, oF_174, oO_174, mO_X_played, mO_M_played, o1, s1, p1, t1, a1, a2]
theorem lc_years (h : Ing M L xs) (hi : i + 6 ≤ L) (hL : L ≤ 3072) : ∃ M2, Ing M2 L xs ∧ run (ev 100) m_Law_law 612 [some (.ref 1000), some (.ref 0), some (.ref 174), some (.int (nI i))] [] NX M = run (ev 100) m_Law_law 18 [some (.ref 1000), some (.ref 0), some (.ref 174), some (.int (nI (i + 6)))] [] NX M2 := by
  have h0 := h
  obtain ⟨⟨s, s', T, tb, tl, f, hX, hM, ho⟩, hw, hs, hl⟩ := h
  have g0 := oA1000 (M := M) (j := i) hl hL (by omega)
  have o1 := oA1000 (M := M) (j := i + 1) hl hL (by omega)
  have s1 := hs (i + 1) (by omega)
  have o2 := oA1000 (M := M) (j := i + 2) hl hL (by omega)
  have s2 := hs (i + 2) (by omega)
  obtain ⟨v, M1, M2, a1, a2, a3, a4, a5⟩ := ing_op (yX := m_X_years) (yM := m_M_years) (as := [.int (xs (i + 1)), .int (xs (i + 2))]) h0 (by decide) (by obtain ⟨s2, z⟩ := O_years (v := xs (i + 1)) (w := xs (i + 2)) hX hM ho; exact ⟨_, _, _, _, _, _, z⟩)
  have p1 := oA1000 (M := M1) (j := i + 1) a5 hL (by omega)
  have t1 := a4 (i + 1) (by omega)
  have p2 := oA1000 (M := M1) (j := i + 2) a5 hL (by omega)
  have t2 := a4 (i + 2) (by omega)
  refine ⟨M2, a3, ?_⟩
  simp (disch := omega) only [r_Law_law_612, r_Law_law_612n, r_Law_law_613, r_Law_law_613n, r_Law_law_614, r_Law_law_615, r_Law_law_616, r_Law_law_617, r_Law_law_618, r_Law_law_618n, r_Law_law_619, r_Law_law_620, r_Law_law_621, r_Law_law_622, r_Law_law_623, r_Law_law_626, r_Law_law_626n, r_Law_law_627, r_Law_law_627n, r_Law_law_628, r_Law_law_629, r_Law_law_630, r_Law_law_631, r_Law_law_632, r_Law_law_632n, r_Law_law_633, r_Law_law_634, r_Law_law_635, r_Law_law_636, r_Law_law_637, r_Law_law_640, r_Law_law_643, r_Law_law_644, r_Law_law_1621, r_Law_law_1624, bnd, tl_s, tl_n, wt_nil, wt_int, wt_ref, wt_null, wt_long, Nat.reduceAdd, Nat.reduceLeDiff, if_true, if_false, decide_true, Bool.true_and, Bool.and_true, zok_n0, zok_n1, zok_bI, bI_eq0, bI_eq1, Bool.true_eq_false, Bool.false_eq_true, not_false_eq_true, not_true_eq_false, decide_false, decide_eq_false_iff_not, decide_eq_true_eq, Classical.not_not, ite_not, lit, Nat.reduceEqDiff, Nat.reduceLT, nI_add, nI_lt', nI_le', nI_eq', nI_sub', pk_mul, nI_rem', nI_div', nI_nz, remN, clampN, inb_nI, Nat.not_lt_zero, Nat.zero_le, Nat.le_zero_eq, if_true, if_false, m1_lt0, m1_eq, t_ite, f_ite, Bool.not_false, Bool.not_true, oF_0, oO_0, oF_174, oO_174, mO_X_years, mO_M_years, o1, s1, p1, t1, o2, s2, p2, t2, a1, a2]
theorem lc_undo (h : Ing M L xs) (hi : i + 6 ≤ L) (hL : L ≤ 3072) : ∃ M2, Ing M2 L xs ∧ run (ev 100) m_Law_law 645 [some (.ref 1000), some (.ref 0), some (.ref 174), some (.int (nI i))] [] NX M = run (ev 100) m_Law_law 18 [some (.ref 1000), some (.ref 0), some (.ref 174), some (.int (nI (i + 6)))] [] NX M2 := by
  have h0 := h
  obtain ⟨⟨s, s', T, tb, tl, f, hX, hM, ho⟩, hw, hs, hl⟩ := h
  have g0 := oA1000 (M := M) (j := i) hl hL (by omega)
  obtain ⟨v, M1, M2, a1, a2, a3, a4, a5⟩ := ing_op (yX := m_X_undo) (yM := m_M_undo) (as := []) h0 (by decide) (by obtain ⟨s2, z⟩ := O_undo hX hM ho; exact ⟨_, _, _, _, _, _, z⟩)
  refine ⟨M2, a3, ?_⟩
  simp (disch := omega) only [r_Law_law_645, r_Law_law_645n, r_Law_law_646, r_Law_law_649, r_Law_law_649n, r_Law_law_650, r_Law_law_653, r_Law_law_656, r_Law_law_657, r_Law_law_1621, r_Law_law_1624, bnd, tl_s, tl_n, wt_nil, wt_int, wt_ref, wt_null, wt_long, Nat.reduceAdd, Nat.reduceLeDiff, if_true, if_false, decide_true, Bool.true_and, Bool.and_true, zok_n0, zok_n1, zok_bI, bI_eq0, bI_eq1, Bool.true_eq_false, Bool.false_eq_true, not_false_eq_true, not_true_eq_false, decide_false, decide_eq_false_iff_not, decide_eq_true_eq, Classical.not_not, ite_not, lit, Nat.reduceEqDiff, Nat.reduceLT, nI_add, nI_lt', nI_le', nI_eq', nI_sub', pk_mul, nI_rem', nI_div', nI_nz, remN, clampN, inb_nI, Nat.not_lt_zero, Nat.zero_le, Nat.le_zero_eq, if_true, if_false, m1_lt0, m1_eq, t_ite, f_ite, Bool.not_false, Bool.not_true, oF_0, oO_0, oF_174, oO_174, mO_X_undo, mO_M_undo, a1, a2]
theorem lc_of (h : Ing M L xs) (hi : i + 6 ≤ L) (hL : L ≤ 3072) : ∃ M2, Ing M2 L xs ∧ run (ev 100) m_Law_law 658 [some (.ref 1000), some (.ref 0), some (.ref 174), some (.int (nI i))] [] NX M = run (ev 100) m_Law_law 18 [some (.ref 1000), some (.ref 0), some (.ref 174), some (.int (nI (i + 6)))] [] NX M2 := by
  have h0 := h
  obtain ⟨⟨s, s', T, tb, tl, f, hX, hM, ho⟩, hw, hs, hl⟩ := h
  have g0 := oA1000 (M := M) (j := i) hl hL (by omega)
  have o1 := oA1000 (M := M) (j := i + 1) hl hL (by omega)
  have s1 := hs (i + 1) (by omega)
  have o2 := oA1000 (M := M) (j := i + 2) hl hL (by omega)
  have s2 := hs (i + 2) (by omega)
  obtain ⟨v, M1, M2, a1, a2, a3, a4, a5⟩ := ing_op (yX := m_X_of) (yM := m_M_of) (as := [.int (xs (i + 1)), .int (xs (i + 2))]) h0 (by decide) ⟨_, _, _, _, _, _, O_of hX hM ho⟩
  have p1 := oA1000 (M := M1) (j := i + 1) a5 hL (by omega)
  have t1 := a4 (i + 1) (by omega)
  have p2 := oA1000 (M := M1) (j := i + 2) a5 hL (by omega)
  have t2 := a4 (i + 2) (by omega)
  refine ⟨M2, a3, ?_⟩
  simp (disch := omega) only [r_Law_law_658, r_Law_law_658n, r_Law_law_659, r_Law_law_659n, r_Law_law_660, r_Law_law_661, r_Law_law_662, r_Law_law_663, r_Law_law_664, r_Law_law_664n, r_Law_law_665, r_Law_law_666, r_Law_law_667, r_Law_law_668, r_Law_law_669, r_Law_law_672, r_Law_law_672n, r_Law_law_673, r_Law_law_673n, r_Law_law_674, r_Law_law_675, r_Law_law_676, r_Law_law_677, r_Law_law_678, r_Law_law_678n, r_Law_law_679, r_Law_law_680, r_Law_law_681, r_Law_law_682, r_Law_law_683, r_Law_law_686, r_Law_law_689, r_Law_law_690, r_Law_law_1621, r_Law_law_1624, bnd, tl_s, tl_n, wt_nil, wt_int, wt_ref, wt_null, wt_long, Nat.reduceAdd, Nat.reduceLeDiff, if_true, if_false, decide_true, Bool.true_and, Bool.and_true, zok_n0, zok_n1, zok_bI, bI_eq0, bI_eq1, Bool.true_eq_false, Bool.false_eq_true, not_false_eq_true, not_true_eq_false, decide_false, decide_eq_false_iff_not, decide_eq_true_eq, Classical.not_not, ite_not, lit, Nat.reduceEqDiff, Nat.reduceLT, nI_add, nI_lt', nI_le', nI_eq', nI_sub', pk_mul, nI_rem', nI_div', nI_nz, remN, clampN, inb_nI, Nat.not_lt_zero, Nat.zero_le, Nat.le_zero_eq, if_true, if_false, m1_lt0, m1_eq, t_ite, f_ite, Bool.not_false, Bool.not_true, oF_0, oO_0, oF_174, oO_174, mO_X_of, mO_M_of, o1, s1, p1, t1, o2, s2, p2, t2, a1, a2]
theorem lc_is (h : Ing M L xs) (hi : i + 6 ≤ L) (hL : L ≤ 3072) : ∃ M2, Ing M2 L xs ∧ run (ev 100) m_Law_law 691 [some (.ref 1000), some (.ref 0), some (.ref 174), some (.int (nI i))] [] NX M = run (ev 100) m_Law_law 18 [some (.ref 1000), some (.ref 0), some (.ref 174), some (.int (nI (i + 6)))] [] NX M2 := by
  have h0 := h
  obtain ⟨⟨s, s', T, tb, tl, f, hX, hM, ho⟩, hw, hs, hl⟩ := h
  have g0 := oA1000 (M := M) (j := i) hl hL (by omega)
  have o1 := oA1000 (M := M) (j := i + 1) hl hL (by omega)
  have s1 := hs (i + 1) (by omega)
  obtain ⟨v, M1, M2, a1, a2, a3, a4, a5⟩ := ing_op (yX := m_X_is) (yM := m_M_is) (as := [.int (xs (i + 1))]) h0 (by decide) ⟨_, _, _, _, _, _, Op.ofPub (P_is (hX.kx ho) (hM.km ho)) hX hM ho⟩
  have p1 := oA1000 (M := M1) (j := i + 1) a5 hL (by omega)
  have t1 := a4 (i + 1) (by omega)
  refine ⟨M2, a3, ?_⟩
  simp (disch := omega) only [r_Law_law_691, r_Law_law_691n, r_Law_law_692, r_Law_law_692n, r_Law_law_693, r_Law_law_694, r_Law_law_695, r_Law_law_696, r_Law_law_697, r_Law_law_700, r_Law_law_700n, r_Law_law_701, r_Law_law_701n, r_Law_law_702, r_Law_law_703, r_Law_law_704, r_Law_law_705, r_Law_law_706, r_Law_law_709, r_Law_law_712, r_Law_law_713, r_Law_law_1621, r_Law_law_1624, bnd, tl_s, tl_n, wt_nil, wt_int, wt_ref, wt_null, wt_long, Nat.reduceAdd, Nat.reduceLeDiff, if_true, if_false, decide_true, Bool.true_and, Bool.and_true, zok_n0, zok_n1, zok_bI, bI_eq0, bI_eq1, Bool.true_eq_false, Bool.false_eq_true, not_false_eq_true, not_true_eq_false, decide_false, decide_eq_false_iff_not, decide_eq_true_eq, Classical.not_not, ite_not, lit, Nat.reduceEqDiff, Nat.reduceLT, nI_add, nI_lt', nI_le', nI_eq', nI_sub', pk_mul, nI_rem', nI_div', nI_nz, remN, clampN, inb_nI, Nat.not_lt_zero, Nat.zero_le, Nat.le_zero_eq, if_true, if_false, m1_lt0, m1_eq, t_ite, f_ite, Bool.not_false, Bool.not_true, oF_0, oO_0, oF_174, oO_174, mO_X_is, mO_M_is, o1, s1, p1, t1, a1, a2]
theorem lc_book (h : Ing M L xs) (hi : i + 6 ≤ L) (hL : L ≤ 3072) : ∃ M2, Ing M2 L xs ∧ run (ev 100) m_Law_law 714 [some (.ref 1000), some (.ref 0), some (.ref 174), some (.int (nI i))] [] NX M = run (ev 100) m_Law_law 18 [some (.ref 1000), some (.ref 0), some (.ref 174), some (.int (nI (i + 6)))] [] NX M2 := by
  have h0 := h
  obtain ⟨⟨s, s', T, tb, tl, f, hX, hM, ho⟩, hw, hs, hl⟩ := h
  have g0 := oA1000 (M := M) (j := i) hl hL (by omega)
  have o1 := oA1000 (M := M) (j := i + 1) hl hL (by omega)
  have s1 := hs (i + 1) (by omega)
  have o2 := oA1000 (M := M) (j := i + 2) hl hL (by omega)
  have s2 := hs (i + 2) (by omega)
  obtain ⟨v, M1, M2, a1, a2, a3, a4, a5⟩ := ing_op (yX := m_X_book) (yM := m_M_book) (as := [.int (xs (i + 1)), .int (xs (i + 2))]) h0 (by decide) ⟨_, _, _, _, _, _, O_book hX hM ho⟩
  have p1 := oA1000 (M := M1) (j := i + 1) a5 hL (by omega)
  have t1 := a4 (i + 1) (by omega)
  have p2 := oA1000 (M := M1) (j := i + 2) a5 hL (by omega)
  have t2 := a4 (i + 2) (by omega)
  refine ⟨M2, a3, ?_⟩
  simp (disch := omega) only [r_Law_law_714, r_Law_law_714n, r_Law_law_715, r_Law_law_715n, r_Law_law_716, r_Law_law_717, r_Law_law_718, r_Law_law_719, r_Law_law_720, r_Law_law_720n, r_Law_law_721, r_Law_law_722, r_Law_law_723, r_Law_law_724, r_Law_law_725, r_Law_law_728, r_Law_law_728n, r_Law_law_729, r_Law_law_729n, r_Law_law_730, r_Law_law_731, r_Law_law_732, r_Law_law_733, r_Law_law_734, r_Law_law_734n, r_Law_law_735, r_Law_law_736, r_Law_law_737, r_Law_law_738, r_Law_law_739, r_Law_law_742, r_Law_law_745, r_Law_law_746, r_Law_law_1621, r_Law_law_1624, bnd, tl_s, tl_n, wt_nil, wt_int, wt_ref, wt_null, wt_long, Nat.reduceAdd, Nat.reduceLeDiff, if_true, if_false, decide_true, Bool.true_and, Bool.and_true, zok_n0, zok_n1, zok_bI, bI_eq0, bI_eq1, Bool.true_eq_false, Bool.false_eq_true, not_false_eq_true, not_true_eq_false, decide_false, decide_eq_false_iff_not, decide_eq_true_eq, Classical.not_not, ite_not, lit, Nat.reduceEqDiff, Nat.reduceLT, nI_add, nI_lt', nI_le', nI_eq', nI_sub', pk_mul, nI_rem', nI_div', nI_nz, remN, clampN, inb_nI, Nat.not_lt_zero, Nat.zero_le, Nat.le_zero_eq, if_true, if_false, m1_lt0, m1_eq, t_ite, f_ite, Bool.not_false, Bool.not_true, oF_0, oO_0, oF_174, oO_174, mO_X_book, mO_M_book, o1, s1, p1, t1, o2, s2, p2, t2, a1, a2]
theorem lc_foretold (h : Ing M L xs) (hi : i + 6 ≤ L) (hL : L ≤ 3072) : ∃ M2, Ing M2 L xs ∧ run (ev 100) m_Law_law 747 [some (.ref 1000), some (.ref 0), some (.ref 174), some (.int (nI i))] [] NX M = run (ev 100) m_Law_law 18 [some (.ref 1000), some (.ref 0), some (.ref 174), some (.int (nI (i + 6)))] [] NX M2 := by
  have h0 := h
  obtain ⟨⟨s, s', T, tb, tl, f, hX, hM, ho⟩, hw, hs, hl⟩ := h
  have g0 := oA1000 (M := M) (j := i) hl hL (by omega)
  have o1 := oA1000 (M := M) (j := i + 1) hl hL (by omega)
  have s1 := hs (i + 1) (by omega)
  obtain ⟨v, M1, M2, a1, a2, a3, a4, a5⟩ := ing_op (yX := m_X_foretold) (yM := m_M_foretold) (as := [.int (xs (i + 1))]) h0 (by decide) ⟨_, _, _, _, _, _, O_foretold hX hM ho⟩
  have p1 := oA1000 (M := M1) (j := i + 1) a5 hL (by omega)
  have t1 := a4 (i + 1) (by omega)
  refine ⟨M2, a3, ?_⟩
  simp (disch := omega) only [r_Law_law_747, r_Law_law_747n, r_Law_law_748, r_Law_law_748n, r_Law_law_749, r_Law_law_750, r_Law_law_751, r_Law_law_752, r_Law_law_753, r_Law_law_756, r_Law_law_756n, r_Law_law_757, r_Law_law_757n, r_Law_law_758, r_Law_law_759, r_Law_law_760, r_Law_law_761, r_Law_law_762, r_Law_law_765, r_Law_law_768, r_Law_law_769, r_Law_law_1621, r_Law_law_1624, bnd, tl_s, tl_n, wt_nil, wt_int, wt_ref, wt_null, wt_long, Nat.reduceAdd, Nat.reduceLeDiff, if_true, if_false, decide_true, Bool.true_and, Bool.and_true, zok_n0, zok_n1, zok_bI, bI_eq0, bI_eq1, Bool.true_eq_false, Bool.false_eq_true, not_false_eq_true, not_true_eq_false, decide_false, decide_eq_false_iff_not, decide_eq_true_eq, Classical.not_not, ite_not, lit, Nat.reduceEqDiff, Nat.reduceLT, nI_add, nI_lt', nI_le', nI_eq', nI_sub', pk_mul, nI_rem', nI_div', nI_nz, remN, clampN, inb_nI, Nat.not_lt_zero, Nat.zero_le, Nat.le_zero_eq, if_true, if_false, m1_lt0, m1_eq, t_ite, f_ite, Bool.not_false, Bool.not_true, oF_0, oO_0, oF_174, oO_174, mO_X_foretold, mO_M_foretold, o1, s1, p1, t1, a1, a2]
theorem lc_holds (h : Ing M L xs) (hi : i + 6 ≤ L) (hL : L ≤ 3072) : ∃ M2, Ing M2 L xs ∧ run (ev 100) m_Law_law 770 [some (.ref 1000), some (.ref 0), some (.ref 174), some (.int (nI i))] [] NX M = run (ev 100) m_Law_law 18 [some (.ref 1000), some (.ref 0), some (.ref 174), some (.int (nI (i + 6)))] [] NX M2 := by
  have h0 := h
  obtain ⟨⟨s, s', T, tb, tl, f, hX, hM, ho⟩, hw, hs, hl⟩ := h
  have g0 := oA1000 (M := M) (j := i) hl hL (by omega)
  have o1 := oA1000 (M := M) (j := i + 1) hl hL (by omega)
  have s1 := hs (i + 1) (by omega)
  obtain ⟨v, M1, M2, a1, a2, a3, a4, a5⟩ := ing_op (yX := m_X_holds) (yM := m_M_holds) (as := [.int (xs (i + 1))]) h0 (by decide) ⟨_, _, _, _, _, _, Op.ofPub (P_holds (hX.kx ho) (hM.km ho)) hX hM ho⟩
  have p1 := oA1000 (M := M1) (j := i + 1) a5 hL (by omega)
  have t1 := a4 (i + 1) (by omega)
  refine ⟨M2, a3, ?_⟩
  simp (disch := omega) only [r_Law_law_770, r_Law_law_770n, r_Law_law_771, r_Law_law_771n, r_Law_law_772, r_Law_law_773, r_Law_law_774, r_Law_law_775, r_Law_law_776, r_Law_law_779, r_Law_law_779n, r_Law_law_780, r_Law_law_780n, r_Law_law_781, r_Law_law_782, r_Law_law_783, r_Law_law_784, r_Law_law_785, r_Law_law_788, r_Law_law_791, r_Law_law_792, r_Law_law_1621, r_Law_law_1624, bnd, tl_s, tl_n, wt_nil, wt_int, wt_ref, wt_null, wt_long, Nat.reduceAdd, Nat.reduceLeDiff, if_true, if_false, decide_true, Bool.true_and, Bool.and_true, zok_n0, zok_n1, zok_bI, bI_eq0, bI_eq1, Bool.true_eq_false, Bool.false_eq_true, not_false_eq_true, not_true_eq_false, decide_false, decide_eq_false_iff_not, decide_eq_true_eq, Classical.not_not, ite_not, lit, Nat.reduceEqDiff, Nat.reduceLT, nI_add, nI_lt', nI_le', nI_eq', nI_sub', pk_mul, nI_rem', nI_div', nI_nz, remN, clampN, inb_nI, Nat.not_lt_zero, Nat.zero_le, Nat.le_zero_eq, if_true, if_false, m1_lt0, m1_eq, t_ite, f_ite, Bool.not_false, Bool.not_true, oF_0, oO_0, oF_174, oO_174, mO_X_holds, mO_M_holds, o1, s1, p1, t1, a1, a2]
theorem lc_grounded (h : Ing M L xs) (hi : i + 6 ≤ L) (hL : L ≤ 3072) : ∃ M2, Ing M2 L xs ∧ run (ev 100) m_Law_law 793 [some (.ref 1000), some (.ref 0), some (.ref 174), some (.int (nI i))] [] NX M = run (ev 100) m_Law_law 18 [some (.ref 1000), some (.ref 0), some (.ref 174), some (.int (nI (i + 6)))] [] NX M2 := by
  have h0 := h
  obtain ⟨⟨s, s', T, tb, tl, f, hX, hM, ho⟩, hw, hs, hl⟩ := h
  have g0 := oA1000 (M := M) (j := i) hl hL (by omega)
  obtain ⟨v, M1, M2, a1, a2, a3, a4, a5⟩ := ing_op (yX := m_X_grounded) (yM := m_M_grounded) (as := []) h0 (by decide) ⟨_, _, _, _, _, _, Op.ofPub (P_grounded (hX.kx ho) (hM.km ho)) hX hM ho⟩
  refine ⟨M2, a3, ?_⟩
  simp (disch := omega) only [r_Law_law_793, r_Law_law_793n, r_Law_law_794, r_Law_law_797, r_Law_law_797n, r_Law_law_798, r_Law_law_801, r_Law_law_804, r_Law_law_805, r_Law_law_1621, r_Law_law_1624, bnd, tl_s, tl_n, wt_nil, wt_int, wt_ref, wt_null, wt_long, Nat.reduceAdd, Nat.reduceLeDiff, if_true, if_false, decide_true, Bool.true_and, Bool.and_true, zok_n0, zok_n1, zok_bI, bI_eq0, bI_eq1, Bool.true_eq_false, Bool.false_eq_true, not_false_eq_true, not_true_eq_false, decide_false, decide_eq_false_iff_not, decide_eq_true_eq, Classical.not_not, ite_not, lit, Nat.reduceEqDiff, Nat.reduceLT, nI_add, nI_lt', nI_le', nI_eq', nI_sub', pk_mul, nI_rem', nI_div', nI_nz, remN, clampN, inb_nI, Nat.not_lt_zero, Nat.zero_le, Nat.le_zero_eq, if_true, if_false, m1_lt0, m1_eq, t_ite, f_ite, Bool.not_false, Bool.not_true, oF_0, oO_0, oF_174, oO_174, mO_X_grounded, mO_M_grounded, a1, a2]
theorem lc_round (h : Ing M L xs) (hi : i + 6 ≤ L) (hL : L ≤ 3072) : ∃ M2, Ing M2 L xs ∧ run (ev 100) m_Law_law 806 [some (.ref 1000), some (.ref 0), some (.ref 174), some (.int (nI i))] [] NX M = run (ev 100) m_Law_law 18 [some (.ref 1000), some (.ref 0), some (.ref 174), some (.int (nI (i + 6)))] [] NX M2 := by
  have h0 := h
  obtain ⟨⟨s, s', T, tb, tl, f, hX, hM, ho⟩, hw, hs, hl⟩ := h
  have g0 := oA1000 (M := M) (j := i) hl hL (by omega)
  have o1 := oA1000 (M := M) (j := i + 1) hl hL (by omega)
  have s1 := hs (i + 1) (by omega)
  obtain ⟨v, M1, M2, a1, a2, a3, a4, a5⟩ := ing_op (yX := m_X_round) (yM := m_M_round) (as := [.int (xs (i + 1))]) h0 (by decide) ⟨_, _, _, _, _, _, Op.ofPub (P_round (hX.kx ho) (hM.km ho)) hX hM ho⟩
  have p1 := oA1000 (M := M1) (j := i + 1) a5 hL (by omega)
  have t1 := a4 (i + 1) (by omega)
  refine ⟨M2, a3, ?_⟩
  simp (disch := omega) only [r_Law_law_806, r_Law_law_806n, r_Law_law_807, r_Law_law_807n, r_Law_law_808, r_Law_law_809, r_Law_law_810, r_Law_law_811, r_Law_law_812, r_Law_law_815, r_Law_law_815n, r_Law_law_816, r_Law_law_816n, r_Law_law_817, r_Law_law_818, r_Law_law_819, r_Law_law_820, r_Law_law_821, r_Law_law_824, r_Law_law_827, r_Law_law_828, r_Law_law_1621, r_Law_law_1624, bnd, tl_s, tl_n, wt_nil, wt_int, wt_ref, wt_null, wt_long, Nat.reduceAdd, Nat.reduceLeDiff, if_true, if_false, decide_true, Bool.true_and, Bool.and_true, zok_n0, zok_n1, zok_bI, bI_eq0, bI_eq1, Bool.true_eq_false, Bool.false_eq_true, not_false_eq_true, not_true_eq_false, decide_false, decide_eq_false_iff_not, decide_eq_true_eq, Classical.not_not, ite_not, lit, Nat.reduceEqDiff, Nat.reduceLT, nI_add, nI_lt', nI_le', nI_eq', nI_sub', pk_mul, nI_rem', nI_div', nI_nz, remN, clampN, inb_nI, Nat.not_lt_zero, Nat.zero_le, Nat.le_zero_eq, if_true, if_false, m1_lt0, m1_eq, t_ite, f_ite, Bool.not_false, Bool.not_true, oF_0, oO_0, oF_174, oO_174, mO_X_round, mO_M_round, o1, s1, p1, t1, a1, a2]
theorem lc_stables (h : Ing M L xs) (hi : i + 6 ≤ L) (hL : L ≤ 3072) : ∃ M2, Ing M2 L xs ∧ run (ev 100) m_Law_law 829 [some (.ref 1000), some (.ref 0), some (.ref 174), some (.int (nI i))] [] NX M = run (ev 100) m_Law_law 18 [some (.ref 1000), some (.ref 0), some (.ref 174), some (.int (nI (i + 6)))] [] NX M2 := by
  have h0 := h
  obtain ⟨⟨s, s', T, tb, tl, f, hX, hM, ho⟩, hw, hs, hl⟩ := h
  have g0 := oA1000 (M := M) (j := i) hl hL (by omega)
  have o1 := oA1000 (M := M) (j := i + 1) hl hL (by omega)
  have s1 := hs (i + 1) (by omega)
  obtain ⟨v, M1, M2, a1, a2, a3, a4, a5⟩ := ing_op (yX := m_X_stables) (yM := m_M_stables) (as := [.int (xs (i + 1))]) h0 (by decide) ⟨_, _, _, _, _, _, Op.ofPub (P_stables (hX.kx ho) (hM.km ho)) hX hM ho⟩
  have p1 := oA1000 (M := M1) (j := i + 1) a5 hL (by omega)
  have t1 := a4 (i + 1) (by omega)
  refine ⟨M2, a3, ?_⟩
  simp (disch := omega) only [r_Law_law_829, r_Law_law_829n, r_Law_law_830, r_Law_law_830n, r_Law_law_831, r_Law_law_832, r_Law_law_833, r_Law_law_834, r_Law_law_835, r_Law_law_838, r_Law_law_838n, r_Law_law_839, r_Law_law_839n, r_Law_law_840, r_Law_law_841, r_Law_law_842, r_Law_law_843, r_Law_law_844, r_Law_law_847, r_Law_law_850, r_Law_law_851, r_Law_law_1621, r_Law_law_1624, bnd, tl_s, tl_n, wt_nil, wt_int, wt_ref, wt_null, wt_long, Nat.reduceAdd, Nat.reduceLeDiff, if_true, if_false, decide_true, Bool.true_and, Bool.and_true, zok_n0, zok_n1, zok_bI, bI_eq0, bI_eq1, Bool.true_eq_false, Bool.false_eq_true, not_false_eq_true, not_true_eq_false, decide_false, decide_eq_false_iff_not, decide_eq_true_eq, Classical.not_not, ite_not, lit, Nat.reduceEqDiff, Nat.reduceLT, nI_add, nI_lt', nI_le', nI_eq', nI_sub', pk_mul, nI_rem', nI_div', nI_nz, remN, clampN, inb_nI, Nat.not_lt_zero, Nat.zero_le, Nat.le_zero_eq, if_true, if_false, m1_lt0, m1_eq, t_ite, f_ite, Bool.not_false, Bool.not_true, oF_0, oO_0, oF_174, oO_174, mO_X_stables, mO_M_stables, o1, s1, p1, t1, a1, a2]
theorem lc_preferred (h : Ing M L xs) (hi : i + 6 ≤ L) (hL : L ≤ 3072) : ∃ M2, Ing M2 L xs ∧ run (ev 100) m_Law_law 852 [some (.ref 1000), some (.ref 0), some (.ref 174), some (.int (nI i))] [] NX M = run (ev 100) m_Law_law 18 [some (.ref 1000), some (.ref 0), some (.ref 174), some (.int (nI (i + 6)))] [] NX M2 := by
  have h0 := h
  obtain ⟨⟨s, s', T, tb, tl, f, hX, hM, ho⟩, hw, hs, hl⟩ := h
  have g0 := oA1000 (M := M) (j := i) hl hL (by omega)
  have o1 := oA1000 (M := M) (j := i + 1) hl hL (by omega)
  have s1 := hs (i + 1) (by omega)
  obtain ⟨v, M1, M2, a1, a2, a3, a4, a5⟩ := ing_op (yX := m_X_preferred) (yM := m_M_preferred) (as := [.int (xs (i + 1))]) h0 (by decide) ⟨_, _, _, _, _, _, Op.ofPub (P_preferred (hX.kx ho) (hM.km ho)) hX hM ho⟩
  have p1 := oA1000 (M := M1) (j := i + 1) a5 hL (by omega)
  have t1 := a4 (i + 1) (by omega)
  refine ⟨M2, a3, ?_⟩
  simp (disch := omega) only [r_Law_law_852, r_Law_law_852n, r_Law_law_853, r_Law_law_853n, r_Law_law_854, r_Law_law_855, r_Law_law_856, r_Law_law_857, r_Law_law_858, r_Law_law_861, r_Law_law_861n, r_Law_law_862, r_Law_law_862n, r_Law_law_863, r_Law_law_864, r_Law_law_865, r_Law_law_866, r_Law_law_867, r_Law_law_870, r_Law_law_873, r_Law_law_874, r_Law_law_1621, r_Law_law_1624, bnd, tl_s, tl_n, wt_nil, wt_int, wt_ref, wt_null, wt_long, Nat.reduceAdd, Nat.reduceLeDiff, if_true, if_false, decide_true, Bool.true_and, Bool.and_true, zok_n0, zok_n1, zok_bI, bI_eq0, bI_eq1, Bool.true_eq_false, Bool.false_eq_true, not_false_eq_true, not_true_eq_false, decide_false, decide_eq_false_iff_not, decide_eq_true_eq, Classical.not_not, ite_not, lit, Nat.reduceEqDiff, Nat.reduceLT, nI_add, nI_lt', nI_le', nI_eq', nI_sub', pk_mul, nI_rem', nI_div', nI_nz, remN, clampN, inb_nI, Nat.not_lt_zero, Nat.zero_le, Nat.le_zero_eq, if_true, if_false, m1_lt0, m1_eq, t_ite, f_ite, Bool.not_false, Bool.not_true, oF_0, oO_0, oF_174, oO_174, mO_X_preferred, mO_M_preferred, o1, s1, p1, t1, a1, a2]
theorem lc_naive (h : Ing M L xs) (hi : i + 6 ≤ L) (hL : L ≤ 3072) : ∃ M2, Ing M2 L xs ∧ run (ev 100) m_Law_law 875 [some (.ref 1000), some (.ref 0), some (.ref 174), some (.int (nI i))] [] NX M = run (ev 100) m_Law_law 18 [some (.ref 1000), some (.ref 0), some (.ref 174), some (.int (nI (i + 6)))] [] NX M2 := by
  have h0 := h
  obtain ⟨⟨s, s', T, tb, tl, f, hX, hM, ho⟩, hw, hs, hl⟩ := h
  have g0 := oA1000 (M := M) (j := i) hl hL (by omega)
  have o1 := oA1000 (M := M) (j := i + 1) hl hL (by omega)
  have s1 := hs (i + 1) (by omega)
  obtain ⟨v, M1, M2, a1, a2, a3, a4, a5⟩ := ing_op (yX := m_X_naive) (yM := m_M_naive) (as := [.int (xs (i + 1))]) h0 (by decide) ⟨_, _, _, _, _, _, Op.ofPub (P_naive (hX.kx ho) (hM.km ho)) hX hM ho⟩
  have p1 := oA1000 (M := M1) (j := i + 1) a5 hL (by omega)
  have t1 := a4 (i + 1) (by omega)
  refine ⟨M2, a3, ?_⟩
  simp (disch := omega) only [r_Law_law_875, r_Law_law_875n, r_Law_law_876, r_Law_law_876n, r_Law_law_877, r_Law_law_878, r_Law_law_879, r_Law_law_880, r_Law_law_881, r_Law_law_884, r_Law_law_884n, r_Law_law_885, r_Law_law_885n, r_Law_law_886, r_Law_law_887, r_Law_law_888, r_Law_law_889, r_Law_law_890, r_Law_law_893, r_Law_law_896, r_Law_law_897, r_Law_law_1621, r_Law_law_1624, bnd, tl_s, tl_n, wt_nil, wt_int, wt_ref, wt_null, wt_long, Nat.reduceAdd, Nat.reduceLeDiff, if_true, if_false, decide_true, Bool.true_and, Bool.and_true, zok_n0, zok_n1, zok_bI, bI_eq0, bI_eq1, Bool.true_eq_false, Bool.false_eq_true, not_false_eq_true, not_true_eq_false, decide_false, decide_eq_false_iff_not, decide_eq_true_eq, Classical.not_not, ite_not, lit, Nat.reduceEqDiff, Nat.reduceLT, nI_add, nI_lt', nI_le', nI_eq', nI_sub', pk_mul, nI_rem', nI_div', nI_nz, remN, clampN, inb_nI, Nat.not_lt_zero, Nat.zero_le, Nat.le_zero_eq, if_true, if_false, m1_lt0, m1_eq, t_ite, f_ite, Bool.not_false, Bool.not_true, oF_0, oO_0, oF_174, oO_174, mO_X_naive, mO_M_naive, o1, s1, p1, t1, a1, a2]
theorem lc_ring (h : Ing M L xs) (hi : i + 6 ≤ L) (hL : L ≤ 3072) : ∃ M2, Ing M2 L xs ∧ run (ev 100) m_Law_law 898 [some (.ref 1000), some (.ref 0), some (.ref 174), some (.int (nI i))] [] NX M = run (ev 100) m_Law_law 18 [some (.ref 1000), some (.ref 0), some (.ref 174), some (.int (nI (i + 6)))] [] NX M2 := by
  have h0 := h
  obtain ⟨⟨s, s', T, tb, tl, f, hX, hM, ho⟩, hw, hs, hl⟩ := h
  have g0 := oA1000 (M := M) (j := i) hl hL (by omega)
  have o1 := oA1000 (M := M) (j := i + 1) hl hL (by omega)
  have s1 := hs (i + 1) (by omega)
  obtain ⟨v, M1, M2, a1, a2, a3, a4, a5⟩ := ing_op (yX := m_X_ring) (yM := m_M_ring) (as := [.int (xs (i + 1))]) h0 (by decide) ⟨_, _, _, _, _, _, Op.ofPub (P_ring (hX.kx ho) (hM.km ho)) hX hM ho⟩
  have p1 := oA1000 (M := M1) (j := i + 1) a5 hL (by omega)
  have t1 := a4 (i + 1) (by omega)
  refine ⟨M2, a3, ?_⟩
  simp (disch := omega) only [r_Law_law_898, r_Law_law_898n, r_Law_law_899, r_Law_law_899n, r_Law_law_900, r_Law_law_901, r_Law_law_902, r_Law_law_903, r_Law_law_904, r_Law_law_907, r_Law_law_907n, r_Law_law_908, r_Law_law_908n, r_Law_law_909, r_Law_law_910, r_Law_law_911, r_Law_law_912, r_Law_law_913, r_Law_law_916, r_Law_law_919, r_Law_law_920, r_Law_law_1621, r_Law_law_1624, bnd, tl_s, tl_n, wt_nil, wt_int, wt_ref, wt_null, wt_long, Nat.reduceAdd, Nat.reduceLeDiff, if_true, if_false, decide_true, Bool.true_and, Bool.and_true, zok_n0, zok_n1, zok_bI, bI_eq0, bI_eq1, Bool.true_eq_false, Bool.false_eq_true, not_false_eq_true, not_true_eq_false, decide_false, decide_eq_false_iff_not, decide_eq_true_eq, Classical.not_not, ite_not, lit, Nat.reduceEqDiff, Nat.reduceLT, nI_add, nI_lt', nI_le', nI_eq', nI_sub', pk_mul, nI_rem', nI_div', nI_nz, remN, clampN, inb_nI, Nat.not_lt_zero, Nat.zero_le, Nat.le_zero_eq, if_true, if_false, m1_lt0, m1_eq, t_ite, f_ite, Bool.not_false, Bool.not_true, oF_0, oO_0, oF_174, oO_174, mO_X_ring, mO_M_ring, o1, s1, p1, t1, a1, a2]
theorem lc_inSets (h : Ing M L xs) (hi : i + 6 ≤ L) (hL : L ≤ 3072) : ∃ M2, Ing M2 L xs ∧ run (ev 100) m_Law_law 921 [some (.ref 1000), some (.ref 0), some (.ref 174), some (.int (nI i))] [] NX M = run (ev 100) m_Law_law 18 [some (.ref 1000), some (.ref 0), some (.ref 174), some (.int (nI (i + 6)))] [] NX M2 := by
  have h0 := h
  obtain ⟨⟨s, s', T, tb, tl, f, hX, hM, ho⟩, hw, hs, hl⟩ := h
  have g0 := oA1000 (M := M) (j := i) hl hL (by omega)
  have o1 := oA1000 (M := M) (j := i + 1) hl hL (by omega)
  have s1 := hs (i + 1) (by omega)
  have o2 := oA1000 (M := M) (j := i + 2) hl hL (by omega)
  have s2 := hs (i + 2) (by omega)
  by_cases e : xs (i + 2) = nI 0
  · obtain ⟨v, M1, M2, a1, a2, a3, a4, a5⟩ := ing_op (yX := m_X_inSets) (yM := m_M_inSets) (as := [.int (xs (i + 1)), .int (bI false)]) h0 (by decide) ⟨_, _, _, _, _, _, Op.ofPub (P_inSets (b := false) (hX.kx ho) (hM.km ho)) hX hM ho⟩
    rw [bI_f] at a1 a2
    have p1 := oA1000 (M := M1) (j := i + 1) a5 hL (by omega)
    have t1 := a4 (i + 1) (by omega)
    have p2 := oA1000 (M := M1) (j := i + 2) a5 hL (by omega)
    have t2 := a4 (i + 2) (by omega)
    refine ⟨M2, a3, ?_⟩
    simp (disch := omega) only [r_Law_law_921, r_Law_law_921n, r_Law_law_922, r_Law_law_922n, r_Law_law_923, r_Law_law_924, r_Law_law_925, r_Law_law_926, r_Law_law_927, r_Law_law_927n, r_Law_law_928, r_Law_law_929, r_Law_law_930, r_Law_law_931, r_Law_law_932, r_Law_law_935, r_Law_law_936, r_Law_law_939, r_Law_law_940, r_Law_law_943, r_Law_law_943n, r_Law_law_944, r_Law_law_944n, r_Law_law_945, r_Law_law_946, r_Law_law_947, r_Law_law_948, r_Law_law_949, r_Law_law_949n, r_Law_law_950, r_Law_law_951, r_Law_law_952, r_Law_law_953, r_Law_law_954, r_Law_law_957, r_Law_law_958, r_Law_law_961, r_Law_law_962, r_Law_law_965, r_Law_law_968, r_Law_law_969, r_Law_law_1621, r_Law_law_1624, bnd, tl_s, tl_n, wt_nil, wt_int, wt_ref, wt_null, wt_long, Nat.reduceAdd, Nat.reduceLeDiff, if_true, if_false, decide_true, Bool.true_and, Bool.and_true, zok_n0, zok_n1, zok_bI, bI_eq0, bI_eq1, Bool.true_eq_false, Bool.false_eq_true, not_false_eq_true, not_true_eq_false, decide_false, decide_eq_false_iff_not, decide_eq_true_eq, Classical.not_not, ite_not, lit, Nat.reduceEqDiff, Nat.reduceLT, nI_add, nI_lt', nI_le', nI_eq', nI_sub', pk_mul, nI_rem', nI_div', nI_nz, remN, clampN, inb_nI, Nat.not_lt_zero, Nat.zero_le, Nat.le_zero_eq, if_true, if_false, m1_lt0, m1_eq, t_ite, f_ite, Bool.not_false, Bool.not_true, oF_0, oO_0, oF_174, oO_174, mO_X_inSets, mO_M_inSets, o1, s1, p1, t1, o2, s2, p2, t2, e, a1, a2]
  · obtain ⟨v, M1, M2, a1, a2, a3, a4, a5⟩ := ing_op (yX := m_X_inSets) (yM := m_M_inSets) (as := [.int (xs (i + 1)), .int (bI true)]) h0 (by decide) ⟨_, _, _, _, _, _, Op.ofPub (P_inSets (b := true) (hX.kx ho) (hM.km ho)) hX hM ho⟩
    rw [bI_t] at a1 a2
    have p1 := oA1000 (M := M1) (j := i + 1) a5 hL (by omega)
    have t1 := a4 (i + 1) (by omega)
    have p2 := oA1000 (M := M1) (j := i + 2) a5 hL (by omega)
    have t2 := a4 (i + 2) (by omega)
    refine ⟨M2, a3, ?_⟩
    simp (disch := omega) only [r_Law_law_921, r_Law_law_921n, r_Law_law_922, r_Law_law_922n, r_Law_law_923, r_Law_law_924, r_Law_law_925, r_Law_law_926, r_Law_law_927, r_Law_law_927n, r_Law_law_928, r_Law_law_929, r_Law_law_930, r_Law_law_931, r_Law_law_932, r_Law_law_935, r_Law_law_936, r_Law_law_939, r_Law_law_940, r_Law_law_943, r_Law_law_943n, r_Law_law_944, r_Law_law_944n, r_Law_law_945, r_Law_law_946, r_Law_law_947, r_Law_law_948, r_Law_law_949, r_Law_law_949n, r_Law_law_950, r_Law_law_951, r_Law_law_952, r_Law_law_953, r_Law_law_954, r_Law_law_957, r_Law_law_958, r_Law_law_961, r_Law_law_962, r_Law_law_965, r_Law_law_968, r_Law_law_969, r_Law_law_1621, r_Law_law_1624, bnd, tl_s, tl_n, wt_nil, wt_int, wt_ref, wt_null, wt_long, Nat.reduceAdd, Nat.reduceLeDiff, if_true, if_false, decide_true, Bool.true_and, Bool.and_true, zok_n0, zok_n1, zok_bI, bI_eq0, bI_eq1, Bool.true_eq_false, Bool.false_eq_true, not_false_eq_true, not_true_eq_false, decide_false, decide_eq_false_iff_not, decide_eq_true_eq, Classical.not_not, ite_not, lit, Nat.reduceEqDiff, Nat.reduceLT, nI_add, nI_lt', nI_le', nI_eq', nI_sub', pk_mul, nI_rem', nI_div', nI_nz, remN, clampN, inb_nI, Nat.not_lt_zero, Nat.zero_le, Nat.le_zero_eq, if_true, if_false, m1_lt0, m1_eq, t_ite, f_ite, Bool.not_false, Bool.not_true, oF_0, oO_0, oF_174, oO_174, mO_X_inSets, mO_M_inSets, o1, s1, p1, t1, o2, s2, p2, t2, e, a1, a2]
theorem lc_repair (h : Ing M L xs) (hi : i + 6 ≤ L) (hL : L ≤ 3072) : ∃ M2, Ing M2 L xs ∧ run (ev 100) m_Law_law 970 [some (.ref 1000), some (.ref 0), some (.ref 174), some (.int (nI i))] [] NX M = run (ev 100) m_Law_law 18 [some (.ref 1000), some (.ref 0), some (.ref 174), some (.int (nI (i + 6)))] [] NX M2 := by
  have h0 := h
  obtain ⟨⟨s, s', T, tb, tl, f, hX, hM, ho⟩, hw, hs, hl⟩ := h
  have g0 := oA1000 (M := M) (j := i) hl hL (by omega)
  have o1 := oA1000 (M := M) (j := i + 1) hl hL (by omega)
  have s1 := hs (i + 1) (by omega)
  have o2 := oA1000 (M := M) (j := i + 2) hl hL (by omega)
  have s2 := hs (i + 2) (by omega)
  by_cases e : xs (i + 2) = nI 0
  · obtain ⟨v, M1, M2, a1, a2, a3, a4, a5⟩ := ing_op (yX := m_X_repair) (yM := m_M_repair) (as := [.int (xs (i + 1)), .int (bI false)]) h0 (by decide) ⟨_, _, _, _, _, _, Op.ofPub (P_repair (b := false) (hX.kx ho) (hM.km ho)) hX hM ho⟩
    rw [bI_f] at a1 a2
    have p1 := oA1000 (M := M1) (j := i + 1) a5 hL (by omega)
    have t1 := a4 (i + 1) (by omega)
    have p2 := oA1000 (M := M1) (j := i + 2) a5 hL (by omega)
    have t2 := a4 (i + 2) (by omega)
    refine ⟨M2, a3, ?_⟩
    simp (disch := omega) only [r_Law_law_970, r_Law_law_970n, r_Law_law_971, r_Law_law_971n, r_Law_law_972, r_Law_law_973, r_Law_law_974, r_Law_law_975, r_Law_law_976, r_Law_law_976n, r_Law_law_977, r_Law_law_978, r_Law_law_979, r_Law_law_980, r_Law_law_981, r_Law_law_984, r_Law_law_985, r_Law_law_988, r_Law_law_989, r_Law_law_992, r_Law_law_992n, r_Law_law_993, r_Law_law_993n, r_Law_law_994, r_Law_law_995, r_Law_law_996, r_Law_law_997, r_Law_law_998, r_Law_law_998n, r_Law_law_999, r_Law_law_1000, r_Law_law_1001, r_Law_law_1002, r_Law_law_1003, r_Law_law_1006, r_Law_law_1007, r_Law_law_1010, r_Law_law_1011, r_Law_law_1014, r_Law_law_1017, r_Law_law_1018, r_Law_law_1621, r_Law_law_1624, bnd, tl_s, tl_n, wt_nil, wt_int, wt_ref, wt_null, wt_long, Nat.reduceAdd, Nat.reduceLeDiff, if_true, if_false, decide_true, Bool.true_and, Bool.and_true, zok_n0, zok_n1, zok_bI, bI_eq0, bI_eq1, Bool.true_eq_false, Bool.false_eq_true, not_false_eq_true, not_true_eq_false, decide_false, decide_eq_false_iff_not, decide_eq_true_eq, Classical.not_not, ite_not, lit, Nat.reduceEqDiff, Nat.reduceLT, nI_add, nI_lt', nI_le', nI_eq', nI_sub', pk_mul, nI_rem', nI_div', nI_nz, remN, clampN, inb_nI, Nat.not_lt_zero, Nat.zero_le, Nat.le_zero_eq, if_true, if_false, m1_lt0, m1_eq, t_ite, f_ite, Bool.not_false, Bool.not_true, oF_0, oO_0, oF_174, oO_174, mO_X_repair, mO_M_repair, o1, s1, p1, t1, o2, s2, p2, t2, e, a1, a2]
  · obtain ⟨v, M1, M2, a1, a2, a3, a4, a5⟩ := ing_op (yX := m_X_repair) (yM := m_M_repair) (as := [.int (xs (i + 1)), .int (bI true)]) h0 (by decide) ⟨_, _, _, _, _, _, Op.ofPub (P_repair (b := true) (hX.kx ho) (hM.km ho)) hX hM ho⟩
    rw [bI_t] at a1 a2
    have p1 := oA1000 (M := M1) (j := i + 1) a5 hL (by omega)
    have t1 := a4 (i + 1) (by omega)
    have p2 := oA1000 (M := M1) (j := i + 2) a5 hL (by omega)
    have t2 := a4 (i + 2) (by omega)
    refine ⟨M2, a3, ?_⟩
    simp (disch := omega) only [r_Law_law_970, r_Law_law_970n, r_Law_law_971, r_Law_law_971n, r_Law_law_972, r_Law_law_973, r_Law_law_974, r_Law_law_975, r_Law_law_976, r_Law_law_976n, r_Law_law_977, r_Law_law_978, r_Law_law_979, r_Law_law_980, r_Law_law_981, r_Law_law_984, r_Law_law_985, r_Law_law_988, r_Law_law_989, r_Law_law_992, r_Law_law_992n, r_Law_law_993, r_Law_law_993n, r_Law_law_994, r_Law_law_995, r_Law_law_996, r_Law_law_997, r_Law_law_998, r_Law_law_998n, r_Law_law_999, r_Law_law_1000, r_Law_law_1001, r_Law_law_1002, r_Law_law_1003, r_Law_law_1006, r_Law_law_1007, r_Law_law_1010, r_Law_law_1011, r_Law_law_1014, r_Law_law_1017, r_Law_law_1018, r_Law_law_1621, r_Law_law_1624, bnd, tl_s, tl_n, wt_nil, wt_int, wt_ref, wt_null, wt_long, Nat.reduceAdd, Nat.reduceLeDiff, if_true, if_false, decide_true, Bool.true_and, Bool.and_true, zok_n0, zok_n1, zok_bI, bI_eq0, bI_eq1, Bool.true_eq_false, Bool.false_eq_true, not_false_eq_true, not_true_eq_false, decide_false, decide_eq_false_iff_not, decide_eq_true_eq, Classical.not_not, ite_not, lit, Nat.reduceEqDiff, Nat.reduceLT, nI_add, nI_lt', nI_le', nI_eq', nI_sub', pk_mul, nI_rem', nI_div', nI_nz, remN, clampN, inb_nI, Nat.not_lt_zero, Nat.zero_le, Nat.le_zero_eq, if_true, if_false, m1_lt0, m1_eq, t_ite, f_ite, Bool.not_false, Bool.not_true, oF_0, oO_0, oF_174, oO_174, mO_X_repair, mO_M_repair, o1, s1, p1, t1, o2, s2, p2, t2, e, a1, a2]
theorem lc_heaviest (h : Ing M L xs) (hi : i + 6 ≤ L) (hL : L ≤ 3072) : ∃ M2, Ing M2 L xs ∧ run (ev 100) m_Law_law 1019 [some (.ref 1000), some (.ref 0), some (.ref 174), some (.int (nI i))] [] NX M = run (ev 100) m_Law_law 18 [some (.ref 1000), some (.ref 0), some (.ref 174), some (.int (nI (i + 6)))] [] NX M2 := by
  have h0 := h
  obtain ⟨⟨s, s', T, tb, tl, f, hX, hM, ho⟩, hw, hs, hl⟩ := h
  have g0 := oA1000 (M := M) (j := i) hl hL (by omega)
  have o1 := oA1000 (M := M) (j := i + 1) hl hL (by omega)
  have s1 := hs (i + 1) (by omega)
  by_cases e : xs (i + 1) = nI 0
  · obtain ⟨v, M1, M2, a1, a2, a3, a4, a5⟩ := ing_op (yX := m_X_heaviest) (yM := m_M_heaviest) (as := [.int (bI false)]) h0 (by decide) ⟨_, _, _, _, _, _, Op.ofPub (P_heaviest (b := false) (hX.kx ho) (hM.km ho)) hX hM ho⟩
    rw [bI_f] at a1 a2
    have p1 := oA1000 (M := M1) (j := i + 1) a5 hL (by omega)
    have t1 := a4 (i + 1) (by omega)
    refine ⟨M2, a3, ?_⟩
    simp (disch := omega) only [r_Law_law_1019, r_Law_law_1019n, r_Law_law_1020, r_Law_law_1020n, r_Law_law_1021, r_Law_law_1022, r_Law_law_1023, r_Law_law_1024, r_Law_law_1025, r_Law_law_1028, r_Law_law_1029, r_Law_law_1032, r_Law_law_1033, r_Law_law_1036, r_Law_law_1036n, r_Law_law_1037, r_Law_law_1037n, r_Law_law_1038, r_Law_law_1039, r_Law_law_1040, r_Law_law_1041, r_Law_law_1042, r_Law_law_1045, r_Law_law_1046, r_Law_law_1049, r_Law_law_1050, r_Law_law_1053, r_Law_law_1056, r_Law_law_1057, r_Law_law_1621, r_Law_law_1624, bnd, tl_s, tl_n, wt_nil, wt_int, wt_ref, wt_null, wt_long, Nat.reduceAdd, Nat.reduceLeDiff, if_true, if_false, decide_true, Bool.true_and, Bool.and_true, zok_n0, zok_n1, zok_bI, bI_eq0, bI_eq1, Bool.true_eq_false, Bool.false_eq_true, not_false_eq_true, not_true_eq_false, decide_false, decide_eq_false_iff_not, decide_eq_true_eq, Classical.not_not, ite_not, lit, Nat.reduceEqDiff, Nat.reduceLT, nI_add, nI_lt', nI_le', nI_eq', nI_sub', pk_mul, nI_rem', nI_div', nI_nz, remN, clampN, inb_nI, Nat.not_lt_zero, Nat.zero_le, Nat.le_zero_eq, if_true, if_false, m1_lt0, m1_eq, t_ite, f_ite, Bool.not_false, Bool.not_true, oF_0, oO_0, oF_174, oO_174, mO_X_heaviest, mO_M_heaviest, o1, s1, p1, t1, e, a1, a2]
  · obtain ⟨v, M1, M2, a1, a2, a3, a4, a5⟩ := ing_op (yX := m_X_heaviest) (yM := m_M_heaviest) (as := [.int (bI true)]) h0 (by decide) ⟨_, _, _, _, _, _, Op.ofPub (P_heaviest (b := true) (hX.kx ho) (hM.km ho)) hX hM ho⟩
    rw [bI_t] at a1 a2
    have p1 := oA1000 (M := M1) (j := i + 1) a5 hL (by omega)
    have t1 := a4 (i + 1) (by omega)
    refine ⟨M2, a3, ?_⟩
    simp (disch := omega) only [r_Law_law_1019, r_Law_law_1019n, r_Law_law_1020, r_Law_law_1020n, r_Law_law_1021, r_Law_law_1022, r_Law_law_1023, r_Law_law_1024, r_Law_law_1025, r_Law_law_1028, r_Law_law_1029, r_Law_law_1032, r_Law_law_1033, r_Law_law_1036, r_Law_law_1036n, r_Law_law_1037, r_Law_law_1037n, r_Law_law_1038, r_Law_law_1039, r_Law_law_1040, r_Law_law_1041, r_Law_law_1042, r_Law_law_1045, r_Law_law_1046, r_Law_law_1049, r_Law_law_1050, r_Law_law_1053, r_Law_law_1056, r_Law_law_1057, r_Law_law_1621, r_Law_law_1624, bnd, tl_s, tl_n, wt_nil, wt_int, wt_ref, wt_null, wt_long, Nat.reduceAdd, Nat.reduceLeDiff, if_true, if_false, decide_true, Bool.true_and, Bool.and_true, zok_n0, zok_n1, zok_bI, bI_eq0, bI_eq1, Bool.true_eq_false, Bool.false_eq_true, not_false_eq_true, not_true_eq_false, decide_false, decide_eq_false_iff_not, decide_eq_true_eq, Classical.not_not, ite_not, lit, Nat.reduceEqDiff, Nat.reduceLT, nI_add, nI_lt', nI_le', nI_eq', nI_sub', pk_mul, nI_rem', nI_div', nI_nz, remN, clampN, inb_nI, Nat.not_lt_zero, Nat.zero_le, Nat.le_zero_eq, if_true, if_false, m1_lt0, m1_eq, t_ite, f_ite, Bool.not_false, Bool.not_true, oF_0, oO_0, oF_174, oO_174, mO_X_heaviest, mO_M_heaviest, o1, s1, p1, t1, e, a1, a2]
theorem lc_explain (h : Ing M L xs) (hi : i + 6 ≤ L) (hL : L ≤ 3072) : ∃ M2, Ing M2 L xs ∧ run (ev 100) m_Law_law 1058 [some (.ref 1000), some (.ref 0), some (.ref 174), some (.int (nI i))] [] NX M = run (ev 100) m_Law_law 18 [some (.ref 1000), some (.ref 0), some (.ref 174), some (.int (nI (i + 6)))] [] NX M2 := by
  have h0 := h
  obtain ⟨⟨s, s', T, tb, tl, f, hX, hM, ho⟩, hw, hs, hl⟩ := h
  have g0 := oA1000 (M := M) (j := i) hl hL (by omega)
  have o1 := oA1000 (M := M) (j := i + 1) hl hL (by omega)
  have s1 := hs (i + 1) (by omega)
  have o2 := oA1000 (M := M) (j := i + 2) hl hL (by omega)
  have s2 := hs (i + 2) (by omega)
  obtain ⟨v, M1, M2, a1, a2, a3, a4, a5⟩ := ing_op (yX := m_X_explain) (yM := m_M_explain) (as := [.int (xs (i + 1)), .int (xs (i + 2))]) h0 (by decide) ⟨_, _, _, _, _, _, Op.ofPub (P_explain (hX.kx ho) (hM.km ho)) hX hM ho⟩
  have p1 := oA1000 (M := M1) (j := i + 1) a5 hL (by omega)
  have t1 := a4 (i + 1) (by omega)
  have p2 := oA1000 (M := M1) (j := i + 2) a5 hL (by omega)
  have t2 := a4 (i + 2) (by omega)
  refine ⟨M2, a3, ?_⟩
  simp (disch := omega) only [r_Law_law_1058, r_Law_law_1058n, r_Law_law_1059, r_Law_law_1059n, r_Law_law_1060, r_Law_law_1061, r_Law_law_1062, r_Law_law_1063, r_Law_law_1064, r_Law_law_1064n, r_Law_law_1065, r_Law_law_1066, r_Law_law_1067, r_Law_law_1068, r_Law_law_1069, r_Law_law_1072, r_Law_law_1072n, r_Law_law_1073, r_Law_law_1073n, r_Law_law_1074, r_Law_law_1075, r_Law_law_1076, r_Law_law_1077, r_Law_law_1078, r_Law_law_1078n, r_Law_law_1079, r_Law_law_1080, r_Law_law_1081, r_Law_law_1082, r_Law_law_1083, r_Law_law_1086, r_Law_law_1089, r_Law_law_1090, r_Law_law_1621, r_Law_law_1624, bnd, tl_s, tl_n, wt_nil, wt_int, wt_ref, wt_null, wt_long, Nat.reduceAdd, Nat.reduceLeDiff, if_true, if_false, decide_true, Bool.true_and, Bool.and_true, zok_n0, zok_n1, zok_bI, bI_eq0, bI_eq1, Bool.true_eq_false, Bool.false_eq_true, not_false_eq_true, not_true_eq_false, decide_false, decide_eq_false_iff_not, decide_eq_true_eq, Classical.not_not, ite_not, lit, Nat.reduceEqDiff, Nat.reduceLT, nI_add, nI_lt', nI_le', nI_eq', nI_sub', pk_mul, nI_rem', nI_div', nI_nz, remN, clampN, inb_nI, Nat.not_lt_zero, Nat.zero_le, Nat.le_zero_eq, if_true, if_false, m1_lt0, m1_eq, t_ite, f_ite, Bool.not_false, Bool.not_true, oF_0, oO_0, oF_174, oO_174, mO_X_explain, mO_M_explain, o1, s1, p1, t1, o2, s2, p2, t2, a1, a2]
theorem lc_orders (h : Ing M L xs) (hi : i + 6 ≤ L) (hL : L ≤ 3072) : ∃ M2, Ing M2 L xs ∧ run (ev 100) m_Law_law 1091 [some (.ref 1000), some (.ref 0), some (.ref 174), some (.int (nI i))] [] NX M = run (ev 100) m_Law_law 18 [some (.ref 1000), some (.ref 0), some (.ref 174), some (.int (nI (i + 6)))] [] NX M2 := by
  have h0 := h
  obtain ⟨⟨s, s', T, tb, tl, f, hX, hM, ho⟩, hw, hs, hl⟩ := h
  have g0 := oA1000 (M := M) (j := i) hl hL (by omega)
  have o1 := oA1000 (M := M) (j := i + 1) hl hL (by omega)
  have s1 := hs (i + 1) (by omega)
  obtain ⟨v, M1, M2, a1, a2, a3, a4, a5⟩ := ing_opL (yX := m_X_orders) (yM := m_M_orders) (as := [.int (xs (i + 1))]) h0 (by decide) ⟨_, _, _, _, _, _, Op.ofPub (P_orders (hX.kx ho) (hM.km ho)) hX hM ho⟩
  have p1 := oA1000 (M := M1) (j := i + 1) a5 hL (by omega)
  have t1 := a4 (i + 1) (by omega)
  refine ⟨M2, a3, ?_⟩
  simp (disch := omega) only [r_Law_law_1091, r_Law_law_1091n, r_Law_law_1092, r_Law_law_1092n, r_Law_law_1093, r_Law_law_1094, r_Law_law_1095, r_Law_law_1096, r_Law_law_1097, r_Law_law_1100, r_Law_law_1100n, r_Law_law_1101, r_Law_law_1101n, r_Law_law_1102, r_Law_law_1103, r_Law_law_1104, r_Law_law_1105, r_Law_law_1106, r_Law_law_1109, r_Law_law_1110, r_Law_law_1113, r_Law_law_1114, r_Law_law_1621, r_Law_law_1624, bnd, tl_s, tl_n, wt_nil, wt_int, wt_ref, wt_null, wt_long, Nat.reduceAdd, Nat.reduceLeDiff, if_true, if_false, decide_true, Bool.true_and, Bool.and_true, zok_n0, zok_n1, zok_bI, bI_eq0, bI_eq1, Bool.true_eq_false, Bool.false_eq_true, not_false_eq_true, not_true_eq_false, decide_false, decide_eq_false_iff_not, decide_eq_true_eq, Classical.not_not, ite_not, lit, Nat.reduceEqDiff, Nat.reduceLT, nI_add, nI_lt', nI_le', nI_eq', nI_sub', pk_mul, nI_rem', nI_div', nI_nz, remN, clampN, inb_nI, Nat.not_lt_zero, Nat.zero_le, Nat.le_zero_eq, if_true, if_false, m1_lt0, m1_eq, t_ite, f_ite, Bool.not_false, Bool.not_true, oF_0, oO_0, oF_174, oO_174, mO_X_orders, mO_M_orders, o1, s1, p1, t1, cmp_eq, a1, a2]
theorem lc_order (h : Ing M L xs) (hi : i + 6 ≤ L) (hL : L ≤ 3072) : ∃ M2, Ing M2 L xs ∧ run (ev 100) m_Law_law 1115 [some (.ref 1000), some (.ref 0), some (.ref 174), some (.int (nI i))] [] NX M = run (ev 100) m_Law_law 18 [some (.ref 1000), some (.ref 0), some (.ref 174), some (.int (nI (i + 6)))] [] NX M2 := by
  have h0 := h
  obtain ⟨⟨s, s', T, tb, tl, f, hX, hM, ho⟩, hw, hs, hl⟩ := h
  have g0 := oA1000 (M := M) (j := i) hl hL (by omega)
  have o1 := oA1000 (M := M) (j := i + 1) hl hL (by omega)
  have s1 := hs (i + 1) (by omega)
  have o2 := oA1000 (M := M) (j := i + 2) hl hL (by omega)
  have s2 := hs (i + 2) (by omega)
  obtain ⟨v, M1, M2, a1, a2, a3, a4, a5⟩ := ing_op (yX := m_X_order) (yM := m_M_order) (as := [.int (xs (i + 1)), .int (xs (i + 2))]) h0 (by decide) ⟨_, _, _, _, _, _, Op.ofPub (P_order (hX.kx ho) (hM.km ho)) hX hM ho⟩
  have p1 := oA1000 (M := M1) (j := i + 1) a5 hL (by omega)
  have t1 := a4 (i + 1) (by omega)
  have p2 := oA1000 (M := M1) (j := i + 2) a5 hL (by omega)
  have t2 := a4 (i + 2) (by omega)
  refine ⟨M2, a3, ?_⟩
  simp (disch := omega) only [r_Law_law_1115, r_Law_law_1115n, r_Law_law_1116, r_Law_law_1116n, r_Law_law_1117, r_Law_law_1118, r_Law_law_1119, r_Law_law_1120, r_Law_law_1121, r_Law_law_1121n, r_Law_law_1122, r_Law_law_1123, r_Law_law_1124, r_Law_law_1125, r_Law_law_1126, r_Law_law_1129, r_Law_law_1129n, r_Law_law_1130, r_Law_law_1130n, r_Law_law_1131, r_Law_law_1132, r_Law_law_1133, r_Law_law_1134, r_Law_law_1135, r_Law_law_1135n, r_Law_law_1136, r_Law_law_1137, r_Law_law_1138, r_Law_law_1139, r_Law_law_1140, r_Law_law_1143, r_Law_law_1146, r_Law_law_1147, r_Law_law_1621, r_Law_law_1624, bnd, tl_s, tl_n, wt_nil, wt_int, wt_ref, wt_null, wt_long, Nat.reduceAdd, Nat.reduceLeDiff, if_true, if_false, decide_true, Bool.true_and, Bool.and_true, zok_n0, zok_n1, zok_bI, bI_eq0, bI_eq1, Bool.true_eq_false, Bool.false_eq_true, not_false_eq_true, not_true_eq_false, decide_false, decide_eq_false_iff_not, decide_eq_true_eq, Classical.not_not, ite_not, lit, Nat.reduceEqDiff, Nat.reduceLT, nI_add, nI_lt', nI_le', nI_eq', nI_sub', pk_mul, nI_rem', nI_div', nI_nz, remN, clampN, inb_nI, Nat.not_lt_zero, Nat.zero_le, Nat.le_zero_eq, if_true, if_false, m1_lt0, m1_eq, t_ite, f_ite, Bool.not_false, Bool.not_true, oF_0, oO_0, oF_174, oO_174, mO_X_order, mO_M_order, o1, s1, p1, t1, o2, s2, p2, t2, a1, a2]
theorem lc_all (h : Ing M L xs) (hi : i + 6 ≤ L) (hL : L ≤ 3072) : ∃ M2, Ing M2 L xs ∧ run (ev 100) m_Law_law 1148 [some (.ref 1000), some (.ref 0), some (.ref 174), some (.int (nI i))] [] NX M = run (ev 100) m_Law_law 18 [some (.ref 1000), some (.ref 0), some (.ref 174), some (.int (nI (i + 6)))] [] NX M2 := by
  have h0 := h
  obtain ⟨⟨s, s', T, tb, tl, f, hX, hM, ho⟩, hw, hs, hl⟩ := h
  have g0 := oA1000 (M := M) (j := i) hl hL (by omega)
  have o1 := oA1000 (M := M) (j := i + 1) hl hL (by omega)
  have s1 := hs (i + 1) (by omega)
  obtain ⟨v, M1, M2, a1, a2, a3, a4, a5⟩ := ing_op (yX := m_X_all) (yM := m_M_all) (as := [.int (xs (i + 1))]) h0 (by decide) ⟨_, _, _, _, _, _, Op.ofPub (P_all (hX.kx ho) (hM.km ho)) hX hM ho⟩
  have p1 := oA1000 (M := M1) (j := i + 1) a5 hL (by omega)
  have t1 := a4 (i + 1) (by omega)
  refine ⟨M2, a3, ?_⟩
  simp (disch := omega) only [r_Law_law_1148, r_Law_law_1148n, r_Law_law_1149, r_Law_law_1149n, r_Law_law_1150, r_Law_law_1151, r_Law_law_1152, r_Law_law_1153, r_Law_law_1154, r_Law_law_1157, r_Law_law_1157n, r_Law_law_1158, r_Law_law_1158n, r_Law_law_1159, r_Law_law_1160, r_Law_law_1161, r_Law_law_1162, r_Law_law_1163, r_Law_law_1166, r_Law_law_1169, r_Law_law_1170, r_Law_law_1621, r_Law_law_1624, bnd, tl_s, tl_n, wt_nil, wt_int, wt_ref, wt_null, wt_long, Nat.reduceAdd, Nat.reduceLeDiff, if_true, if_false, decide_true, Bool.true_and, Bool.and_true, zok_n0, zok_n1, zok_bI, bI_eq0, bI_eq1, Bool.true_eq_false, Bool.false_eq_true, not_false_eq_true, not_true_eq_false, decide_false, decide_eq_false_iff_not, decide_eq_true_eq, Classical.not_not, ite_not, lit, Nat.reduceEqDiff, Nat.reduceLT, nI_add, nI_lt', nI_le', nI_eq', nI_sub', pk_mul, nI_rem', nI_div', nI_nz, remN, clampN, inb_nI, Nat.not_lt_zero, Nat.zero_le, Nat.le_zero_eq, if_true, if_false, m1_lt0, m1_eq, t_ite, f_ite, Bool.not_false, Bool.not_true, oF_0, oO_0, oF_174, oO_174, mO_X_all, mO_M_all, o1, s1, p1, t1, a1, a2]
theorem lc_over (h : Ing M L xs) (hi : i + 6 ≤ L) (hL : L ≤ 3072) : ∃ M2, Ing M2 L xs ∧ run (ev 100) m_Law_law 1171 [some (.ref 1000), some (.ref 0), some (.ref 174), some (.int (nI i))] [] NX M = run (ev 100) m_Law_law 18 [some (.ref 1000), some (.ref 0), some (.ref 174), some (.int (nI (i + 6)))] [] NX M2 := by
  have h0 := h
  obtain ⟨⟨s, s', T, tb, tl, f, hX, hM, ho⟩, hw, hs, hl⟩ := h
  have g0 := oA1000 (M := M) (j := i) hl hL (by omega)
  have o1 := oA1000 (M := M) (j := i + 1) hl hL (by omega)
  have s1 := hs (i + 1) (by omega)
  obtain ⟨v, M1, M2, a1, a2, a3, a4, a5⟩ := ing_op (yX := m_X_over) (yM := m_M_over) (as := [.int (xs (i + 1))]) h0 (by decide) ⟨_, _, _, _, _, _, Op.ofPub (P_over (hX.kx ho) (hM.km ho)) hX hM ho⟩
  have p1 := oA1000 (M := M1) (j := i + 1) a5 hL (by omega)
  have t1 := a4 (i + 1) (by omega)
  refine ⟨M2, a3, ?_⟩
  simp (disch := omega) only [r_Law_law_1171, r_Law_law_1171n, r_Law_law_1172, r_Law_law_1172n, r_Law_law_1173, r_Law_law_1174, r_Law_law_1175, r_Law_law_1176, r_Law_law_1177, r_Law_law_1180, r_Law_law_1180n, r_Law_law_1181, r_Law_law_1181n, r_Law_law_1182, r_Law_law_1183, r_Law_law_1184, r_Law_law_1185, r_Law_law_1186, r_Law_law_1189, r_Law_law_1192, r_Law_law_1193, r_Law_law_1621, r_Law_law_1624, bnd, tl_s, tl_n, wt_nil, wt_int, wt_ref, wt_null, wt_long, Nat.reduceAdd, Nat.reduceLeDiff, if_true, if_false, decide_true, Bool.true_and, Bool.and_true, zok_n0, zok_n1, zok_bI, bI_eq0, bI_eq1, Bool.true_eq_false, Bool.false_eq_true, not_false_eq_true, not_true_eq_false, decide_false, decide_eq_false_iff_not, decide_eq_true_eq, Classical.not_not, ite_not, lit, Nat.reduceEqDiff, Nat.reduceLT, nI_add, nI_lt', nI_le', nI_eq', nI_sub', pk_mul, nI_rem', nI_div', nI_nz, remN, clampN, inb_nI, Nat.not_lt_zero, Nat.zero_le, Nat.le_zero_eq, if_true, if_false, m1_lt0, m1_eq, t_ite, f_ite, Bool.not_false, Bool.not_true, oF_0, oO_0, oF_174, oO_174, mO_X_over, mO_M_over, o1, s1, p1, t1, a1, a2]
theorem lc_high (h : Ing M L xs) (hi : i + 6 ≤ L) (hL : L ≤ 3072) : ∃ M2, Ing M2 L xs ∧ run (ev 100) m_Law_law 1194 [some (.ref 1000), some (.ref 0), some (.ref 174), some (.int (nI i))] [] NX M = run (ev 100) m_Law_law 18 [some (.ref 1000), some (.ref 0), some (.ref 174), some (.int (nI (i + 6)))] [] NX M2 := by
  have h0 := h
  obtain ⟨⟨s, s', T, tb, tl, f, hX, hM, ho⟩, hw, hs, hl⟩ := h
  have g0 := oA1000 (M := M) (j := i) hl hL (by omega)
  have o1 := oA1000 (M := M) (j := i + 1) hl hL (by omega)
  have s1 := hs (i + 1) (by omega)
  obtain ⟨v, M1, M2, a1, a2, a3, a4, a5⟩ := ing_op (yX := m_X_high) (yM := m_M_high) (as := [.int (xs (i + 1))]) h0 (by decide) ⟨_, _, _, _, _, _, Op.ofPub (P_high (hX.kx ho) (hM.km ho)) hX hM ho⟩
  have p1 := oA1000 (M := M1) (j := i + 1) a5 hL (by omega)
  have t1 := a4 (i + 1) (by omega)
  refine ⟨M2, a3, ?_⟩
  simp (disch := omega) only [r_Law_law_1194, r_Law_law_1194n, r_Law_law_1195, r_Law_law_1195n, r_Law_law_1196, r_Law_law_1197, r_Law_law_1198, r_Law_law_1199, r_Law_law_1200, r_Law_law_1203, r_Law_law_1203n, r_Law_law_1204, r_Law_law_1204n, r_Law_law_1205, r_Law_law_1206, r_Law_law_1207, r_Law_law_1208, r_Law_law_1209, r_Law_law_1212, r_Law_law_1215, r_Law_law_1216, r_Law_law_1621, r_Law_law_1624, bnd, tl_s, tl_n, wt_nil, wt_int, wt_ref, wt_null, wt_long, Nat.reduceAdd, Nat.reduceLeDiff, if_true, if_false, decide_true, Bool.true_and, Bool.and_true, zok_n0, zok_n1, zok_bI, bI_eq0, bI_eq1, Bool.true_eq_false, Bool.false_eq_true, not_false_eq_true, not_true_eq_false, decide_false, decide_eq_false_iff_not, decide_eq_true_eq, Classical.not_not, ite_not, lit, Nat.reduceEqDiff, Nat.reduceLT, nI_add, nI_lt', nI_le', nI_eq', nI_sub', pk_mul, nI_rem', nI_div', nI_nz, remN, clampN, inb_nI, Nat.not_lt_zero, Nat.zero_le, Nat.le_zero_eq, if_true, if_false, m1_lt0, m1_eq, t_ite, f_ite, Bool.not_false, Bool.not_true, oF_0, oO_0, oF_174, oO_174, mO_X_high, mO_M_high, o1, s1, p1, t1, a1, a2]
theorem lc_least (h : Ing M L xs) (hi : i + 6 ≤ L) (hL : L ≤ 3072) : ∃ M2, Ing M2 L xs ∧ run (ev 100) m_Law_law 1217 [some (.ref 1000), some (.ref 0), some (.ref 174), some (.int (nI i))] [] NX M = run (ev 100) m_Law_law 18 [some (.ref 1000), some (.ref 0), some (.ref 174), some (.int (nI (i + 6)))] [] NX M2 := by
  have h0 := h
  obtain ⟨⟨s, s', T, tb, tl, f, hX, hM, ho⟩, hw, hs, hl⟩ := h
  have g0 := oA1000 (M := M) (j := i) hl hL (by omega)
  have o1 := oA1000 (M := M) (j := i + 1) hl hL (by omega)
  have s1 := hs (i + 1) (by omega)
  obtain ⟨v, M1, M2, a1, a2, a3, a4, a5⟩ := ing_op (yX := m_X_least) (yM := m_M_least) (as := [.int (xs (i + 1))]) h0 (by decide) ⟨_, _, _, _, _, _, Op.ofPub (P_least (hX.kx ho) (hM.km ho)) hX hM ho⟩
  have p1 := oA1000 (M := M1) (j := i + 1) a5 hL (by omega)
  have t1 := a4 (i + 1) (by omega)
  refine ⟨M2, a3, ?_⟩
  simp (disch := omega) only [r_Law_law_1217, r_Law_law_1217n, r_Law_law_1218, r_Law_law_1218n, r_Law_law_1219, r_Law_law_1220, r_Law_law_1221, r_Law_law_1222, r_Law_law_1223, r_Law_law_1226, r_Law_law_1226n, r_Law_law_1227, r_Law_law_1227n, r_Law_law_1228, r_Law_law_1229, r_Law_law_1230, r_Law_law_1231, r_Law_law_1232, r_Law_law_1235, r_Law_law_1238, r_Law_law_1239, r_Law_law_1621, r_Law_law_1624, bnd, tl_s, tl_n, wt_nil, wt_int, wt_ref, wt_null, wt_long, Nat.reduceAdd, Nat.reduceLeDiff, if_true, if_false, decide_true, Bool.true_and, Bool.and_true, zok_n0, zok_n1, zok_bI, bI_eq0, bI_eq1, Bool.true_eq_false, Bool.false_eq_true, not_false_eq_true, not_true_eq_false, decide_false, decide_eq_false_iff_not, decide_eq_true_eq, Classical.not_not, ite_not, lit, Nat.reduceEqDiff, Nat.reduceLT, nI_add, nI_lt', nI_le', nI_eq', nI_sub', pk_mul, nI_rem', nI_div', nI_nz, remN, clampN, inb_nI, Nat.not_lt_zero, Nat.zero_le, Nat.le_zero_eq, if_true, if_false, m1_lt0, m1_eq, t_ite, f_ite, Bool.not_false, Bool.not_true, oF_0, oO_0, oF_174, oO_174, mO_X_least, mO_M_least, o1, s1, p1, t1, a1, a2]
theorem lc_stand (h : Ing M L xs) (hi : i + 6 ≤ L) (hL : L ≤ 3072) : ∃ M2, Ing M2 L xs ∧ run (ev 100) m_Law_law 1240 [some (.ref 1000), some (.ref 0), some (.ref 174), some (.int (nI i))] [] NX M = run (ev 100) m_Law_law 18 [some (.ref 1000), some (.ref 0), some (.ref 174), some (.int (nI (i + 6)))] [] NX M2 := by
  have h0 := h
  obtain ⟨⟨s, s', T, tb, tl, f, hX, hM, ho⟩, hw, hs, hl⟩ := h
  have g0 := oA1000 (M := M) (j := i) hl hL (by omega)
  have o1 := oA1000 (M := M) (j := i + 1) hl hL (by omega)
  have s1 := hs (i + 1) (by omega)
  have o2 := oA1000 (M := M) (j := i + 2) hl hL (by omega)
  have s2 := hs (i + 2) (by omega)
  by_cases e : xs (i + 2) = nI 0
  · obtain ⟨v, M1, M2, a1, a2, a3, a4, a5⟩ := ing_opL (yX := m_X_stand) (yM := m_M_stand) (as := [.int (xs (i + 1)), .int (bI false)]) h0 (by decide) ⟨_, _, _, _, _, _, O_stand (b := false) hX hM ho⟩
    rw [bI_f] at a1 a2
    have p1 := oA1000 (M := M1) (j := i + 1) a5 hL (by omega)
    have t1 := a4 (i + 1) (by omega)
    have p2 := oA1000 (M := M1) (j := i + 2) a5 hL (by omega)
    have t2 := a4 (i + 2) (by omega)
    refine ⟨M2, a3, ?_⟩
    simp (disch := omega) only [r_Law_law_1240, r_Law_law_1240n, r_Law_law_1241, r_Law_law_1241n, r_Law_law_1242, r_Law_law_1243, r_Law_law_1244, r_Law_law_1245, r_Law_law_1246, r_Law_law_1246n, r_Law_law_1247, r_Law_law_1248, r_Law_law_1249, r_Law_law_1250, r_Law_law_1251, r_Law_law_1254, r_Law_law_1255, r_Law_law_1258, r_Law_law_1259, r_Law_law_1262, r_Law_law_1262n, r_Law_law_1263, r_Law_law_1263n, r_Law_law_1264, r_Law_law_1265, r_Law_law_1266, r_Law_law_1267, r_Law_law_1268, r_Law_law_1268n, r_Law_law_1269, r_Law_law_1270, r_Law_law_1271, r_Law_law_1272, r_Law_law_1273, r_Law_law_1276, r_Law_law_1277, r_Law_law_1280, r_Law_law_1281, r_Law_law_1284, r_Law_law_1285, r_Law_law_1288, r_Law_law_1289, r_Law_law_1621, r_Law_law_1624, bnd, tl_s, tl_n, wt_nil, wt_int, wt_ref, wt_null, wt_long, Nat.reduceAdd, Nat.reduceLeDiff, if_true, if_false, decide_true, Bool.true_and, Bool.and_true, zok_n0, zok_n1, zok_bI, bI_eq0, bI_eq1, Bool.true_eq_false, Bool.false_eq_true, not_false_eq_true, not_true_eq_false, decide_false, decide_eq_false_iff_not, decide_eq_true_eq, Classical.not_not, ite_not, lit, Nat.reduceEqDiff, Nat.reduceLT, nI_add, nI_lt', nI_le', nI_eq', nI_sub', pk_mul, nI_rem', nI_div', nI_nz, remN, clampN, inb_nI, Nat.not_lt_zero, Nat.zero_le, Nat.le_zero_eq, if_true, if_false, m1_lt0, m1_eq, t_ite, f_ite, Bool.not_false, Bool.not_true, oF_0, oO_0, oF_174, oO_174, mO_X_stand, mO_M_stand, o1, s1, p1, t1, o2, s2, p2, t2, e, cmp_eq, a1, a2]
  · obtain ⟨v, M1, M2, a1, a2, a3, a4, a5⟩ := ing_opL (yX := m_X_stand) (yM := m_M_stand) (as := [.int (xs (i + 1)), .int (bI true)]) h0 (by decide) ⟨_, _, _, _, _, _, O_stand (b := true) hX hM ho⟩
    rw [bI_t] at a1 a2
    have p1 := oA1000 (M := M1) (j := i + 1) a5 hL (by omega)
    have t1 := a4 (i + 1) (by omega)
    have p2 := oA1000 (M := M1) (j := i + 2) a5 hL (by omega)
    have t2 := a4 (i + 2) (by omega)
    refine ⟨M2, a3, ?_⟩
    simp (disch := omega) only [r_Law_law_1240, r_Law_law_1240n, r_Law_law_1241, r_Law_law_1241n, r_Law_law_1242, r_Law_law_1243, r_Law_law_1244, r_Law_law_1245, r_Law_law_1246, r_Law_law_1246n, r_Law_law_1247, r_Law_law_1248, r_Law_law_1249, r_Law_law_1250, r_Law_law_1251, r_Law_law_1254, r_Law_law_1255, r_Law_law_1258, r_Law_law_1259, r_Law_law_1262, r_Law_law_1262n, r_Law_law_1263, r_Law_law_1263n, r_Law_law_1264, r_Law_law_1265, r_Law_law_1266, r_Law_law_1267, r_Law_law_1268, r_Law_law_1268n, r_Law_law_1269, r_Law_law_1270, r_Law_law_1271, r_Law_law_1272, r_Law_law_1273, r_Law_law_1276, r_Law_law_1277, r_Law_law_1280, r_Law_law_1281, r_Law_law_1284, r_Law_law_1285, r_Law_law_1288, r_Law_law_1289, r_Law_law_1621, r_Law_law_1624, bnd, tl_s, tl_n, wt_nil, wt_int, wt_ref, wt_null, wt_long, Nat.reduceAdd, Nat.reduceLeDiff, if_true, if_false, decide_true, Bool.true_and, Bool.and_true, zok_n0, zok_n1, zok_bI, bI_eq0, bI_eq1, Bool.true_eq_false, Bool.false_eq_true, not_false_eq_true, not_true_eq_false, decide_false, decide_eq_false_iff_not, decide_eq_true_eq, Classical.not_not, ite_not, lit, Nat.reduceEqDiff, Nat.reduceLT, nI_add, nI_lt', nI_le', nI_eq', nI_sub', pk_mul, nI_rem', nI_div', nI_nz, remN, clampN, inb_nI, Nat.not_lt_zero, Nat.zero_le, Nat.le_zero_eq, if_true, if_false, m1_lt0, m1_eq, t_ite, f_ite, Bool.not_false, Bool.not_true, oF_0, oO_0, oF_174, oO_174, mO_X_stand, mO_M_stand, o1, s1, p1, t1, o2, s2, p2, t2, e, cmp_eq, a1, a2]
theorem lc_vote (h : Ing M L xs) (hi : i + 6 ≤ L) (hL : L ≤ 3072) : ∃ M2, Ing M2 L xs ∧ run (ev 100) m_Law_law 1290 [some (.ref 1000), some (.ref 0), some (.ref 174), some (.int (nI i))] [] NX M = run (ev 100) m_Law_law 18 [some (.ref 1000), some (.ref 0), some (.ref 174), some (.int (nI (i + 6)))] [] NX M2 := by
  have h0 := h
  obtain ⟨⟨s, s', T, tb, tl, f, hX, hM, ho⟩, hw, hs, hl⟩ := h
  have g0 := oA1000 (M := M) (j := i) hl hL (by omega)
  have o1 := oA1000 (M := M) (j := i + 1) hl hL (by omega)
  have s1 := hs (i + 1) (by omega)
  obtain ⟨v, M1, M2, a1, a2, a3, a4, a5⟩ := ing_op (yX := m_X_vote) (yM := m_M_vote) (as := [.int (xs (i + 1))]) h0 (by decide) (by obtain ⟨s2, z⟩ := O_vote (v := xs (i + 1)) hX hM ho; exact ⟨_, _, _, _, _, _, z⟩)
  have p1 := oA1000 (M := M1) (j := i + 1) a5 hL (by omega)
  have t1 := a4 (i + 1) (by omega)
  refine ⟨M2, a3, ?_⟩
  simp (disch := omega) only [r_Law_law_1290, r_Law_law_1290n, r_Law_law_1291, r_Law_law_1291n, r_Law_law_1292, r_Law_law_1293, r_Law_law_1294, r_Law_law_1295, r_Law_law_1296, r_Law_law_1299, r_Law_law_1299n, r_Law_law_1300, r_Law_law_1300n, r_Law_law_1301, r_Law_law_1302, r_Law_law_1303, r_Law_law_1304, r_Law_law_1305, r_Law_law_1308, r_Law_law_1311, r_Law_law_1312, r_Law_law_1621, r_Law_law_1624, bnd, tl_s, tl_n, wt_nil, wt_int, wt_ref, wt_null, wt_long, Nat.reduceAdd, Nat.reduceLeDiff, if_true, if_false, decide_true, Bool.true_and, Bool.and_true, zok_n0, zok_n1, zok_bI, bI_eq0, bI_eq1, Bool.true_eq_false, Bool.false_eq_true, not_false_eq_true, not_true_eq_false, decide_false, decide_eq_false_iff_not, decide_eq_true_eq, Classical.not_not, ite_not, lit, Nat.reduceEqDiff, Nat.reduceLT, nI_add, nI_lt', nI_le', nI_eq', nI_sub', pk_mul, nI_rem', nI_div', nI_nz, remN, clampN, inb_nI, Nat.not_lt_zero, Nat.zero_le, Nat.le_zero_eq, if_true, if_false, m1_lt0, m1_eq, t_ite, f_ite, Bool.not_false, Bool.not_true, oF_0, oO_0, oF_174, oO_174, mO_X_vote, mO_M_vote, o1, s1, p1, t1, a1, a2]
theorem lc_beats (h : Ing M L xs) (hi : i + 6 ≤ L) (hL : L ≤ 3072) : ∃ M2, Ing M2 L xs ∧ run (ev 100) m_Law_law 1313 [some (.ref 1000), some (.ref 0), some (.ref 174), some (.int (nI i))] [] NX M = run (ev 100) m_Law_law 18 [some (.ref 1000), some (.ref 0), some (.ref 174), some (.int (nI (i + 6)))] [] NX M2 := by
  have h0 := h
  obtain ⟨⟨s, s', T, tb, tl, f, hX, hM, ho⟩, hw, hs, hl⟩ := h
  have g0 := oA1000 (M := M) (j := i) hl hL (by omega)
  have o1 := oA1000 (M := M) (j := i + 1) hl hL (by omega)
  have s1 := hs (i + 1) (by omega)
  have o2 := oA1000 (M := M) (j := i + 2) hl hL (by omega)
  have s2 := hs (i + 2) (by omega)
  obtain ⟨v, M1, M2, a1, a2, a3, a4, a5⟩ := ing_op (yX := m_X_beats) (yM := m_M_beats) (as := [.int (xs (i + 1)), .int (xs (i + 2))]) h0 (by decide) ⟨_, _, _, _, _, _, Op.ofQ2 (p_beats (hX.vc ho) (hM.vm ho)) hX hM ho⟩
  have p1 := oA1000 (M := M1) (j := i + 1) a5 hL (by omega)
  have t1 := a4 (i + 1) (by omega)
  have p2 := oA1000 (M := M1) (j := i + 2) a5 hL (by omega)
  have t2 := a4 (i + 2) (by omega)
  refine ⟨M2, a3, ?_⟩
  simp (disch := omega) only [r_Law_law_1313, r_Law_law_1313n, r_Law_law_1314, r_Law_law_1314n, r_Law_law_1315, r_Law_law_1316, r_Law_law_1317, r_Law_law_1318, r_Law_law_1319, r_Law_law_1319n, r_Law_law_1320, r_Law_law_1321, r_Law_law_1322, r_Law_law_1323, r_Law_law_1324, r_Law_law_1327, r_Law_law_1327n, r_Law_law_1328, r_Law_law_1328n, r_Law_law_1329, r_Law_law_1330, r_Law_law_1331, r_Law_law_1332, r_Law_law_1333, r_Law_law_1333n, r_Law_law_1334, r_Law_law_1335, r_Law_law_1336, r_Law_law_1337, r_Law_law_1338, r_Law_law_1341, r_Law_law_1344, r_Law_law_1345, r_Law_law_1621, r_Law_law_1624, bnd, tl_s, tl_n, wt_nil, wt_int, wt_ref, wt_null, wt_long, Nat.reduceAdd, Nat.reduceLeDiff, if_true, if_false, decide_true, Bool.true_and, Bool.and_true, zok_n0, zok_n1, zok_bI, bI_eq0, bI_eq1, Bool.true_eq_false, Bool.false_eq_true, not_false_eq_true, not_true_eq_false, decide_false, decide_eq_false_iff_not, decide_eq_true_eq, Classical.not_not, ite_not, lit, Nat.reduceEqDiff, Nat.reduceLT, nI_add, nI_lt', nI_le', nI_eq', nI_sub', pk_mul, nI_rem', nI_div', nI_nz, remN, clampN, inb_nI, Nat.not_lt_zero, Nat.zero_le, Nat.le_zero_eq, if_true, if_false, m1_lt0, m1_eq, t_ite, f_ite, Bool.not_false, Bool.not_true, oF_0, oO_0, oF_174, oO_174, mO_X_beats, mO_M_beats, o1, s1, p1, t1, o2, s2, p2, t2, a1, a2]
theorem lc_agenda (h : Ing M L xs) (hi : i + 6 ≤ L) (hL : L ≤ 3072) : ∃ M2, Ing M2 L xs ∧ run (ev 100) m_Law_law 1346 [some (.ref 1000), some (.ref 0), some (.ref 174), some (.int (nI i))] [] NX M = run (ev 100) m_Law_law 18 [some (.ref 1000), some (.ref 0), some (.ref 174), some (.int (nI (i + 6)))] [] NX M2 := by
  have h0 := h
  obtain ⟨⟨s, s', T, tb, tl, f, hX, hM, ho⟩, hw, hs, hl⟩ := h
  have g0 := oA1000 (M := M) (j := i) hl hL (by omega)
  have o1 := oA1000 (M := M) (j := i + 1) hl hL (by omega)
  have s1 := hs (i + 1) (by omega)
  obtain ⟨v, M1, M2, a1, a2, a3, a4, a5⟩ := ing_op (yX := m_X_agenda) (yM := m_M_agenda) (as := [.int (xs (i + 1))]) h0 (by decide) ⟨_, _, _, _, _, _, Op.ofQ2 (p_agenda (hX.vc ho) (hM.vm ho)) hX hM ho⟩
  have p1 := oA1000 (M := M1) (j := i + 1) a5 hL (by omega)
  have t1 := a4 (i + 1) (by omega)
  refine ⟨M2, a3, ?_⟩
  simp (disch := omega) only [r_Law_law_1346, r_Law_law_1346n, r_Law_law_1347, r_Law_law_1347n, r_Law_law_1348, r_Law_law_1349, r_Law_law_1350, r_Law_law_1351, r_Law_law_1352, r_Law_law_1355, r_Law_law_1355n, r_Law_law_1356, r_Law_law_1356n, r_Law_law_1357, r_Law_law_1358, r_Law_law_1359, r_Law_law_1360, r_Law_law_1361, r_Law_law_1364, r_Law_law_1367, r_Law_law_1368, r_Law_law_1621, r_Law_law_1624, bnd, tl_s, tl_n, wt_nil, wt_int, wt_ref, wt_null, wt_long, Nat.reduceAdd, Nat.reduceLeDiff, if_true, if_false, decide_true, Bool.true_and, Bool.and_true, zok_n0, zok_n1, zok_bI, bI_eq0, bI_eq1, Bool.true_eq_false, Bool.false_eq_true, not_false_eq_true, not_true_eq_false, decide_false, decide_eq_false_iff_not, decide_eq_true_eq, Classical.not_not, ite_not, lit, Nat.reduceEqDiff, Nat.reduceLT, nI_add, nI_lt', nI_le', nI_eq', nI_sub', pk_mul, nI_rem', nI_div', nI_nz, remN, clampN, inb_nI, Nat.not_lt_zero, Nat.zero_le, Nat.le_zero_eq, if_true, if_false, m1_lt0, m1_eq, t_ite, f_ite, Bool.not_false, Bool.not_true, oF_0, oO_0, oF_174, oO_174, mO_X_agenda, mO_M_agenda, o1, s1, p1, t1, a1, a2]
theorem lc_lead (h : Ing M L xs) (hi : i + 6 ≤ L) (hL : L ≤ 3072) : ∃ M2, Ing M2 L xs ∧ run (ev 100) m_Law_law 1369 [some (.ref 1000), some (.ref 0), some (.ref 174), some (.int (nI i))] [] NX M = run (ev 100) m_Law_law 18 [some (.ref 1000), some (.ref 0), some (.ref 174), some (.int (nI (i + 6)))] [] NX M2 := by
  have h0 := h
  obtain ⟨⟨s, s', T, tb, tl, f, hX, hM, ho⟩, hw, hs, hl⟩ := h
  have g0 := oA1000 (M := M) (j := i) hl hL (by omega)
  have o1 := oA1000 (M := M) (j := i + 1) hl hL (by omega)
  have s1 := hs (i + 1) (by omega)
  obtain ⟨v, M1, M2, a1, a2, a3, a4, a5⟩ := ing_op (yX := m_X_lead) (yM := m_M_lead) (as := [.int (xs (i + 1))]) h0 (by decide) ⟨_, _, _, _, _, _, Op.ofQ2 (p_lead (hX.vc ho) (hM.vm ho)) hX hM ho⟩
  have p1 := oA1000 (M := M1) (j := i + 1) a5 hL (by omega)
  have t1 := a4 (i + 1) (by omega)
  refine ⟨M2, a3, ?_⟩
  simp (disch := omega) only [r_Law_law_1369, r_Law_law_1369n, r_Law_law_1370, r_Law_law_1370n, r_Law_law_1371, r_Law_law_1372, r_Law_law_1373, r_Law_law_1374, r_Law_law_1375, r_Law_law_1378, r_Law_law_1378n, r_Law_law_1379, r_Law_law_1379n, r_Law_law_1380, r_Law_law_1381, r_Law_law_1382, r_Law_law_1383, r_Law_law_1384, r_Law_law_1387, r_Law_law_1390, r_Law_law_1391, r_Law_law_1621, r_Law_law_1624, bnd, tl_s, tl_n, wt_nil, wt_int, wt_ref, wt_null, wt_long, Nat.reduceAdd, Nat.reduceLeDiff, if_true, if_false, decide_true, Bool.true_and, Bool.and_true, zok_n0, zok_n1, zok_bI, bI_eq0, bI_eq1, Bool.true_eq_false, Bool.false_eq_true, not_false_eq_true, not_true_eq_false, decide_false, decide_eq_false_iff_not, decide_eq_true_eq, Classical.not_not, ite_not, lit, Nat.reduceEqDiff, Nat.reduceLT, nI_add, nI_lt', nI_le', nI_eq', nI_sub', pk_mul, nI_rem', nI_div', nI_nz, remN, clampN, inb_nI, Nat.not_lt_zero, Nat.zero_le, Nat.le_zero_eq, if_true, if_false, m1_lt0, m1_eq, t_ite, f_ite, Bool.not_false, Bool.not_true, oF_0, oO_0, oF_174, oO_174, mO_X_lead, mO_M_lead, o1, s1, p1, t1, a1, a2]
theorem lc_winner (h : Ing M L xs) (hi : i + 6 ≤ L) (hL : L ≤ 3072) : ∃ M2, Ing M2 L xs ∧ run (ev 100) m_Law_law 1392 [some (.ref 1000), some (.ref 0), some (.ref 174), some (.int (nI i))] [] NX M = run (ev 100) m_Law_law 18 [some (.ref 1000), some (.ref 0), some (.ref 174), some (.int (nI (i + 6)))] [] NX M2 := by
  have h0 := h
  obtain ⟨⟨s, s', T, tb, tl, f, hX, hM, ho⟩, hw, hs, hl⟩ := h
  have g0 := oA1000 (M := M) (j := i) hl hL (by omega)
  have o1 := oA1000 (M := M) (j := i + 1) hl hL (by omega)
  have s1 := hs (i + 1) (by omega)
  obtain ⟨v, M1, M2, a1, a2, a3, a4, a5⟩ := ing_op (yX := m_X_winner) (yM := m_M_winner) (as := [.int (xs (i + 1))]) h0 (by decide) ⟨_, _, _, _, _, _, Op.ofQ2 (p_winner (hX.vc ho) (hM.vm ho)) hX hM ho⟩
  have p1 := oA1000 (M := M1) (j := i + 1) a5 hL (by omega)
  have t1 := a4 (i + 1) (by omega)
  refine ⟨M2, a3, ?_⟩
  simp (disch := omega) only [r_Law_law_1392, r_Law_law_1392n, r_Law_law_1393, r_Law_law_1393n, r_Law_law_1394, r_Law_law_1395, r_Law_law_1396, r_Law_law_1397, r_Law_law_1398, r_Law_law_1401, r_Law_law_1401n, r_Law_law_1402, r_Law_law_1402n, r_Law_law_1403, r_Law_law_1404, r_Law_law_1405, r_Law_law_1406, r_Law_law_1407, r_Law_law_1410, r_Law_law_1413, r_Law_law_1414, r_Law_law_1621, r_Law_law_1624, bnd, tl_s, tl_n, wt_nil, wt_int, wt_ref, wt_null, wt_long, Nat.reduceAdd, Nat.reduceLeDiff, if_true, if_false, decide_true, Bool.true_and, Bool.and_true, zok_n0, zok_n1, zok_bI, bI_eq0, bI_eq1, Bool.true_eq_false, Bool.false_eq_true, not_false_eq_true, not_true_eq_false, decide_false, decide_eq_false_iff_not, decide_eq_true_eq, Classical.not_not, ite_not, lit, Nat.reduceEqDiff, Nat.reduceLT, nI_add, nI_lt', nI_le', nI_eq', nI_sub', pk_mul, nI_rem', nI_div', nI_nz, remN, clampN, inb_nI, Nat.not_lt_zero, Nat.zero_le, Nat.le_zero_eq, if_true, if_false, m1_lt0, m1_eq, t_ite, f_ite, Bool.not_false, Bool.not_true, oF_0, oO_0, oF_174, oO_174, mO_X_winner, mO_M_winner, o1, s1, p1, t1, a1, a2]
theorem lc_score (h : Ing M L xs) (hi : i + 6 ≤ L) (hL : L ≤ 3072) : ∃ M2, Ing M2 L xs ∧ run (ev 100) m_Law_law 1415 [some (.ref 1000), some (.ref 0), some (.ref 174), some (.int (nI i))] [] NX M = run (ev 100) m_Law_law 18 [some (.ref 1000), some (.ref 0), some (.ref 174), some (.int (nI (i + 6)))] [] NX M2 := by
  have h0 := h
  obtain ⟨⟨s, s', T, tb, tl, f, hX, hM, ho⟩, hw, hs, hl⟩ := h
  have g0 := oA1000 (M := M) (j := i) hl hL (by omega)
  have o1 := oA1000 (M := M) (j := i + 1) hl hL (by omega)
  have s1 := hs (i + 1) (by omega)
  obtain ⟨v, M1, M2, a1, a2, a3, a4, a5⟩ := ing_op (yX := m_X_score) (yM := m_M_score) (as := [.int (xs (i + 1))]) h0 (by decide) ⟨_, _, _, _, _, _, Op.ofQ2 (p_score (hX.vc ho) (hM.vm ho)) hX hM ho⟩
  have p1 := oA1000 (M := M1) (j := i + 1) a5 hL (by omega)
  have t1 := a4 (i + 1) (by omega)
  refine ⟨M2, a3, ?_⟩
  simp (disch := omega) only [r_Law_law_1415, r_Law_law_1415n, r_Law_law_1416, r_Law_law_1416n, r_Law_law_1417, r_Law_law_1418, r_Law_law_1419, r_Law_law_1420, r_Law_law_1421, r_Law_law_1424, r_Law_law_1424n, r_Law_law_1425, r_Law_law_1425n, r_Law_law_1426, r_Law_law_1427, r_Law_law_1428, r_Law_law_1429, r_Law_law_1430, r_Law_law_1433, r_Law_law_1436, r_Law_law_1437, r_Law_law_1621, r_Law_law_1624, bnd, tl_s, tl_n, wt_nil, wt_int, wt_ref, wt_null, wt_long, Nat.reduceAdd, Nat.reduceLeDiff, if_true, if_false, decide_true, Bool.true_and, Bool.and_true, zok_n0, zok_n1, zok_bI, bI_eq0, bI_eq1, Bool.true_eq_false, Bool.false_eq_true, not_false_eq_true, not_true_eq_false, decide_false, decide_eq_false_iff_not, decide_eq_true_eq, Classical.not_not, ite_not, lit, Nat.reduceEqDiff, Nat.reduceLT, nI_add, nI_lt', nI_le', nI_eq', nI_sub', pk_mul, nI_rem', nI_div', nI_nz, remN, clampN, inb_nI, Nat.not_lt_zero, Nat.zero_le, Nat.le_zero_eq, if_true, if_false, m1_lt0, m1_eq, t_ite, f_ite, Bool.not_false, Bool.not_true, oF_0, oO_0, oF_174, oO_174, mO_X_score, mO_M_score, o1, s1, p1, t1, a1, a2]
theorem lc_top (h : Ing M L xs) (hi : i + 6 ≤ L) (hL : L ≤ 3072) : ∃ M2, Ing M2 L xs ∧ run (ev 100) m_Law_law 1438 [some (.ref 1000), some (.ref 0), some (.ref 174), some (.int (nI i))] [] NX M = run (ev 100) m_Law_law 18 [some (.ref 1000), some (.ref 0), some (.ref 174), some (.int (nI (i + 6)))] [] NX M2 := by
  have h0 := h
  obtain ⟨⟨s, s', T, tb, tl, f, hX, hM, ho⟩, hw, hs, hl⟩ := h
  have g0 := oA1000 (M := M) (j := i) hl hL (by omega)
  obtain ⟨v, M1, M2, a1, a2, a3, a4, a5⟩ := ing_op (yX := m_X_top) (yM := m_M_top) (as := []) h0 (by decide) ⟨_, _, _, _, _, _, Op.ofQ2 (p_top (hX.vc ho) (hM.vm ho)) hX hM ho⟩
  refine ⟨M2, a3, ?_⟩
  simp (disch := omega) only [r_Law_law_1438, r_Law_law_1438n, r_Law_law_1439, r_Law_law_1442, r_Law_law_1442n, r_Law_law_1443, r_Law_law_1446, r_Law_law_1449, r_Law_law_1450, r_Law_law_1621, r_Law_law_1624, bnd, tl_s, tl_n, wt_nil, wt_int, wt_ref, wt_null, wt_long, Nat.reduceAdd, Nat.reduceLeDiff, if_true, if_false, decide_true, Bool.true_and, Bool.and_true, zok_n0, zok_n1, zok_bI, bI_eq0, bI_eq1, Bool.true_eq_false, Bool.false_eq_true, not_false_eq_true, not_true_eq_false, decide_false, decide_eq_false_iff_not, decide_eq_true_eq, Classical.not_not, ite_not, lit, Nat.reduceEqDiff, Nat.reduceLT, nI_add, nI_lt', nI_le', nI_eq', nI_sub', pk_mul, nI_rem', nI_div', nI_nz, remN, clampN, inb_nI, Nat.not_lt_zero, Nat.zero_le, Nat.le_zero_eq, if_true, if_false, m1_lt0, m1_eq, t_ite, f_ite, Bool.not_false, Bool.not_true, oF_0, oO_0, oF_174, oO_174, mO_X_top, mO_M_top, a1, a2]
theorem lc_said (h : Ing M L xs) (hi : i + 6 ≤ L) (hL : L ≤ 3072) : ∃ M2, Ing M2 L xs ∧ run (ev 100) m_Law_law 1451 [some (.ref 1000), some (.ref 0), some (.ref 174), some (.int (nI i))] [] NX M = run (ev 100) m_Law_law 18 [some (.ref 1000), some (.ref 0), some (.ref 174), some (.int (nI (i + 6)))] [] NX M2 := by
  have h0 := h
  obtain ⟨⟨s, s', T, tb, tl, f, hX, hM, ho⟩, hw, hs, hl⟩ := h
  have g0 := oA1000 (M := M) (j := i) hl hL (by omega)
  have o1 := oA1000 (M := M) (j := i + 1) hl hL (by omega)
  have s1 := hs (i + 1) (by omega)
  have o2 := oA1000 (M := M) (j := i + 2) hl hL (by omega)
  have s2 := hs (i + 2) (by omega)
  obtain ⟨v, M1, M2, a1, a2, a3, a4, a5⟩ := ing_op (yX := m_X_said) (yM := m_M_said) (as := [.int (xs (i + 1)), .int (xs (i + 2))]) h0 (by decide) (by obtain ⟨s2, z⟩ := O_said (v := xs (i + 1)) (w := xs (i + 2)) hX hM ho; exact ⟨_, _, _, _, _, _, z⟩)
  have p1 := oA1000 (M := M1) (j := i + 1) a5 hL (by omega)
  have t1 := a4 (i + 1) (by omega)
  have p2 := oA1000 (M := M1) (j := i + 2) a5 hL (by omega)
  have t2 := a4 (i + 2) (by omega)
  refine ⟨M2, a3, ?_⟩
  simp (disch := omega) only [r_Law_law_1451, r_Law_law_1451n, r_Law_law_1452, r_Law_law_1452n, r_Law_law_1453, r_Law_law_1454, r_Law_law_1455, r_Law_law_1456, r_Law_law_1457, r_Law_law_1457n, r_Law_law_1458, r_Law_law_1459, r_Law_law_1460, r_Law_law_1461, r_Law_law_1462, r_Law_law_1465, r_Law_law_1465n, r_Law_law_1466, r_Law_law_1466n, r_Law_law_1467, r_Law_law_1468, r_Law_law_1469, r_Law_law_1470, r_Law_law_1471, r_Law_law_1471n, r_Law_law_1472, r_Law_law_1473, r_Law_law_1474, r_Law_law_1475, r_Law_law_1476, r_Law_law_1479, r_Law_law_1482, r_Law_law_1483, r_Law_law_1621, r_Law_law_1624, bnd, tl_s, tl_n, wt_nil, wt_int, wt_ref, wt_null, wt_long, Nat.reduceAdd, Nat.reduceLeDiff, if_true, if_false, decide_true, Bool.true_and, Bool.and_true, zok_n0, zok_n1, zok_bI, bI_eq0, bI_eq1, Bool.true_eq_false, Bool.false_eq_true, not_false_eq_true, not_true_eq_false, decide_false, decide_eq_false_iff_not, decide_eq_true_eq, Classical.not_not, ite_not, lit, Nat.reduceEqDiff, Nat.reduceLT, nI_add, nI_lt', nI_le', nI_eq', nI_sub', pk_mul, nI_rem', nI_div', nI_nz, remN, clampN, inb_nI, Nat.not_lt_zero, Nat.zero_le, Nat.le_zero_eq, if_true, if_false, m1_lt0, m1_eq, t_ite, f_ite, Bool.not_false, Bool.not_true, oF_0, oO_0, oF_174, oO_174, mO_X_said, mO_M_said, o1, s1, p1, t1, o2, s2, p2, t2, a1, a2]
theorem lc_whose (h : Ing M L xs) (hi : i + 6 ≤ L) (hL : L ≤ 3072) : ∃ M2, Ing M2 L xs ∧ run (ev 100) m_Law_law 1484 [some (.ref 1000), some (.ref 0), some (.ref 174), some (.int (nI i))] [] NX M = run (ev 100) m_Law_law 18 [some (.ref 1000), some (.ref 0), some (.ref 174), some (.int (nI (i + 6)))] [] NX M2 := by
  have h0 := h
  obtain ⟨⟨s, s', T, tb, tl, f, hX, hM, ho⟩, hw, hs, hl⟩ := h
  have g0 := oA1000 (M := M) (j := i) hl hL (by omega)
  obtain ⟨v, M1, M2, a1, a2, a3, a4, a5⟩ := ing_op (yX := m_X_whose) (yM := m_M_whose) (as := []) h0 (by decide) ⟨_, _, _, _, _, _, O_whose hX hM ho⟩
  refine ⟨M2, a3, ?_⟩
  simp (disch := omega) only [r_Law_law_1484, r_Law_law_1484n, r_Law_law_1485, r_Law_law_1488, r_Law_law_1488n, r_Law_law_1489, r_Law_law_1492, r_Law_law_1495, r_Law_law_1496, r_Law_law_1621, r_Law_law_1624, bnd, tl_s, tl_n, wt_nil, wt_int, wt_ref, wt_null, wt_long, Nat.reduceAdd, Nat.reduceLeDiff, if_true, if_false, decide_true, Bool.true_and, Bool.and_true, zok_n0, zok_n1, zok_bI, bI_eq0, bI_eq1, Bool.true_eq_false, Bool.false_eq_true, not_false_eq_true, not_true_eq_false, decide_false, decide_eq_false_iff_not, decide_eq_true_eq, Classical.not_not, ite_not, lit, Nat.reduceEqDiff, Nat.reduceLT, nI_add, nI_lt', nI_le', nI_eq', nI_sub', pk_mul, nI_rem', nI_div', nI_nz, remN, clampN, inb_nI, Nat.not_lt_zero, Nat.zero_le, Nat.le_zero_eq, if_true, if_false, m1_lt0, m1_eq, t_ite, f_ite, Bool.not_false, Bool.not_true, oF_0, oO_0, oF_174, oO_174, mO_X_whose, mO_M_whose, a1, a2]
theorem lc_gaps (h : Ing M L xs) (hi : i + 6 ≤ L) (hL : L ≤ 3072) : ∃ M2, Ing M2 L xs ∧ run (ev 100) m_Law_law 1497 [some (.ref 1000), some (.ref 0), some (.ref 174), some (.int (nI i))] [] NX M = run (ev 100) m_Law_law 18 [some (.ref 1000), some (.ref 0), some (.ref 174), some (.int (nI (i + 6)))] [] NX M2 := by
  have h0 := h
  obtain ⟨⟨s, s', T, tb, tl, f, hX, hM, ho⟩, hw, hs, hl⟩ := h
  have g0 := oA1000 (M := M) (j := i) hl hL (by omega)
  obtain ⟨v, M1, M2, a1, a2, a3, a4, a5⟩ := ing_op (yX := m_X_gaps) (yM := m_M_gaps) (as := []) h0 (by decide) ⟨_, _, _, _, _, _, Op.ofPub (P_gaps (hX.kx ho) (hM.km ho)) hX hM ho⟩
  refine ⟨M2, a3, ?_⟩
  simp (disch := omega) only [r_Law_law_1497, r_Law_law_1497n, r_Law_law_1498, r_Law_law_1501, r_Law_law_1501n, r_Law_law_1502, r_Law_law_1505, r_Law_law_1508, r_Law_law_1509, r_Law_law_1621, r_Law_law_1624, bnd, tl_s, tl_n, wt_nil, wt_int, wt_ref, wt_null, wt_long, Nat.reduceAdd, Nat.reduceLeDiff, if_true, if_false, decide_true, Bool.true_and, Bool.and_true, zok_n0, zok_n1, zok_bI, bI_eq0, bI_eq1, Bool.true_eq_false, Bool.false_eq_true, not_false_eq_true, not_true_eq_false, decide_false, decide_eq_false_iff_not, decide_eq_true_eq, Classical.not_not, ite_not, lit, Nat.reduceEqDiff, Nat.reduceLT, nI_add, nI_lt', nI_le', nI_eq', nI_sub', pk_mul, nI_rem', nI_div', nI_nz, remN, clampN, inb_nI, Nat.not_lt_zero, Nat.zero_le, Nat.le_zero_eq, if_true, if_false, m1_lt0, m1_eq, t_ite, f_ite, Bool.not_false, Bool.not_true, oF_0, oO_0, oF_174, oO_174, mO_X_gaps, mO_M_gaps, a1, a2]
theorem lc_unopposed (h : Ing M L xs) (hi : i + 6 ≤ L) (hL : L ≤ 3072) : ∃ M2, Ing M2 L xs ∧ run (ev 100) m_Law_law 1510 [some (.ref 1000), some (.ref 0), some (.ref 174), some (.int (nI i))] [] NX M = run (ev 100) m_Law_law 18 [some (.ref 1000), some (.ref 0), some (.ref 174), some (.int (nI (i + 6)))] [] NX M2 := by
  have h0 := h
  obtain ⟨⟨s, s', T, tb, tl, f, hX, hM, ho⟩, hw, hs, hl⟩ := h
  have g0 := oA1000 (M := M) (j := i) hl hL (by omega)
  obtain ⟨v, M1, M2, a1, a2, a3, a4, a5⟩ := ing_op (yX := m_X_unopposed) (yM := m_M_unopposed) (as := []) h0 (by decide) ⟨_, _, _, _, _, _, Op.ofPub (P_unopposed (hX.kx ho) (hM.km ho)) hX hM ho⟩
  refine ⟨M2, a3, ?_⟩
  simp (disch := omega) only [r_Law_law_1510, r_Law_law_1510n, r_Law_law_1511, r_Law_law_1514, r_Law_law_1514n, r_Law_law_1515, r_Law_law_1518, r_Law_law_1521, r_Law_law_1522, r_Law_law_1621, r_Law_law_1624, bnd, tl_s, tl_n, wt_nil, wt_int, wt_ref, wt_null, wt_long, Nat.reduceAdd, Nat.reduceLeDiff, if_true, if_false, decide_true, Bool.true_and, Bool.and_true, zok_n0, zok_n1, zok_bI, bI_eq0, bI_eq1, Bool.true_eq_false, Bool.false_eq_true, not_false_eq_true, not_true_eq_false, decide_false, decide_eq_false_iff_not, decide_eq_true_eq, Classical.not_not, ite_not, lit, Nat.reduceEqDiff, Nat.reduceLT, nI_add, nI_lt', nI_le', nI_eq', nI_sub', pk_mul, nI_rem', nI_div', nI_nz, remN, clampN, inb_nI, Nat.not_lt_zero, Nat.zero_le, Nat.le_zero_eq, if_true, if_false, m1_lt0, m1_eq, t_ite, f_ite, Bool.not_false, Bool.not_true, oF_0, oO_0, oF_174, oO_174, mO_X_unopposed, mO_M_unopposed, a1, a2]
theorem lc_atOdds (h : Ing M L xs) (hi : i + 6 ≤ L) (hL : L ≤ 3072) : ∃ M2, Ing M2 L xs ∧ run (ev 100) m_Law_law 1523 [some (.ref 1000), some (.ref 0), some (.ref 174), some (.int (nI i))] [] NX M = run (ev 100) m_Law_law 18 [some (.ref 1000), some (.ref 0), some (.ref 174), some (.int (nI (i + 6)))] [] NX M2 := by
  have h0 := h
  obtain ⟨⟨s, s', T, tb, tl, f, hX, hM, ho⟩, hw, hs, hl⟩ := h
  have g0 := oA1000 (M := M) (j := i) hl hL (by omega)
  obtain ⟨v, M1, M2, a1, a2, a3, a4, a5⟩ := ing_op (yX := m_X_atOdds) (yM := m_M_atOdds) (as := []) h0 (by decide) ⟨_, _, _, _, _, _, Op.ofPub (P_atOdds (hX.kx ho) (hM.km ho)) hX hM ho⟩
  refine ⟨M2, a3, ?_⟩
  simp (disch := omega) only [r_Law_law_1523, r_Law_law_1523n, r_Law_law_1524, r_Law_law_1527, r_Law_law_1527n, r_Law_law_1528, r_Law_law_1531, r_Law_law_1534, r_Law_law_1535, r_Law_law_1621, r_Law_law_1624, bnd, tl_s, tl_n, wt_nil, wt_int, wt_ref, wt_null, wt_long, Nat.reduceAdd, Nat.reduceLeDiff, if_true, if_false, decide_true, Bool.true_and, Bool.and_true, zok_n0, zok_n1, zok_bI, bI_eq0, bI_eq1, Bool.true_eq_false, Bool.false_eq_true, not_false_eq_true, not_true_eq_false, decide_false, decide_eq_false_iff_not, decide_eq_true_eq, Classical.not_not, ite_not, lit, Nat.reduceEqDiff, Nat.reduceLT, nI_add, nI_lt', nI_le', nI_eq', nI_sub', pk_mul, nI_rem', nI_div', nI_nz, remN, clampN, inb_nI, Nat.not_lt_zero, Nat.zero_le, Nat.le_zero_eq, if_true, if_false, m1_lt0, m1_eq, t_ite, f_ite, Bool.not_false, Bool.not_true, oF_0, oO_0, oF_174, oO_174, mO_X_atOdds, mO_M_atOdds, a1, a2]
theorem lc_loaded (h : Ing M L xs) (hi : i + 6 ≤ L) (hL : L ≤ 3072) : ∃ M2, Ing M2 L xs ∧ run (ev 100) m_Law_law 1536 [some (.ref 1000), some (.ref 0), some (.ref 174), some (.int (nI i))] [] NX M = run (ev 100) m_Law_law 18 [some (.ref 1000), some (.ref 0), some (.ref 174), some (.int (nI (i + 6)))] [] NX M2 := by
  have h0 := h
  obtain ⟨⟨s, s', T, tb, tl, f, hX, hM, ho⟩, hw, hs, hl⟩ := h
  have g0 := oA1000 (M := M) (j := i) hl hL (by omega)
  obtain ⟨v, M1, M2, a1, a2, a3, a4, a5⟩ := ing_op (yX := m_X_loaded) (yM := m_M_loaded) (as := []) h0 (by decide) ⟨_, _, _, _, _, _, Op.ofPub (P_loaded (hX.kx ho) (hM.km ho)) hX hM ho⟩
  refine ⟨M2, a3, ?_⟩
  simp (disch := omega) only [r_Law_law_1536, r_Law_law_1536n, r_Law_law_1537, r_Law_law_1540, r_Law_law_1540n, r_Law_law_1541, r_Law_law_1544, r_Law_law_1547, r_Law_law_1548, r_Law_law_1621, r_Law_law_1624, bnd, tl_s, tl_n, wt_nil, wt_int, wt_ref, wt_null, wt_long, Nat.reduceAdd, Nat.reduceLeDiff, if_true, if_false, decide_true, Bool.true_and, Bool.and_true, zok_n0, zok_n1, zok_bI, bI_eq0, bI_eq1, Bool.true_eq_false, Bool.false_eq_true, not_false_eq_true, not_true_eq_false, decide_false, decide_eq_false_iff_not, decide_eq_true_eq, Classical.not_not, ite_not, lit, Nat.reduceEqDiff, Nat.reduceLT, nI_add, nI_lt', nI_le', nI_eq', nI_sub', pk_mul, nI_rem', nI_div', nI_nz, remN, clampN, inb_nI, Nat.not_lt_zero, Nat.zero_le, Nat.le_zero_eq, if_true, if_false, m1_lt0, m1_eq, t_ite, f_ite, Bool.not_false, Bool.not_true, oF_0, oO_0, oF_174, oO_174, mO_X_loaded, mO_M_loaded, a1, a2]
theorem lc_ledger (h : Ing M L xs) (hi : i + 6 ≤ L) (hL : L ≤ 3072) : ∃ M2, Ing M2 L xs ∧ run (ev 100) m_Law_law 1549 [some (.ref 1000), some (.ref 0), some (.ref 174), some (.int (nI i))] [] NX M = run (ev 100) m_Law_law 18 [some (.ref 1000), some (.ref 0), some (.ref 174), some (.int (nI (i + 6)))] [] NX M2 := by
  have h0 := h
  obtain ⟨⟨s, s', T, tb, tl, f, hX, hM, ho⟩, hw, hs, hl⟩ := h
  have g0 := oA1000 (M := M) (j := i) hl hL (by omega)
  have o1 := oA1000 (M := M) (j := i + 1) hl hL (by omega)
  have s1 := hs (i + 1) (by omega)
  obtain ⟨v, M1, M2, a1, a2, a3, a4, a5⟩ := ing_op (yX := m_X_ledger) (yM := m_M_ledger) (as := [.int (xs (i + 1))]) h0 (by decide) ⟨_, _, _, _, _, _, O_ledger hX hM ho⟩
  have p1 := oA1000 (M := M1) (j := i + 1) a5 hL (by omega)
  have t1 := a4 (i + 1) (by omega)
  refine ⟨M2, a3, ?_⟩
  simp (disch := omega) only [r_Law_law_1549, r_Law_law_1549n, r_Law_law_1550, r_Law_law_1550n, r_Law_law_1551, r_Law_law_1552, r_Law_law_1553, r_Law_law_1554, r_Law_law_1555, r_Law_law_1558, r_Law_law_1558n, r_Law_law_1559, r_Law_law_1559n, r_Law_law_1560, r_Law_law_1561, r_Law_law_1562, r_Law_law_1563, r_Law_law_1564, r_Law_law_1567, r_Law_law_1570, r_Law_law_1571, r_Law_law_1621, r_Law_law_1624, bnd, tl_s, tl_n, wt_nil, wt_int, wt_ref, wt_null, wt_long, Nat.reduceAdd, Nat.reduceLeDiff, if_true, if_false, decide_true, Bool.true_and, Bool.and_true, zok_n0, zok_n1, zok_bI, bI_eq0, bI_eq1, Bool.true_eq_false, Bool.false_eq_true, not_false_eq_true, not_true_eq_false, decide_false, decide_eq_false_iff_not, decide_eq_true_eq, Classical.not_not, ite_not, lit, Nat.reduceEqDiff, Nat.reduceLT, nI_add, nI_lt', nI_le', nI_eq', nI_sub', pk_mul, nI_rem', nI_div', nI_nz, remN, clampN, inb_nI, Nat.not_lt_zero, Nat.zero_le, Nat.le_zero_eq, if_true, if_false, m1_lt0, m1_eq, t_ite, f_ite, Bool.not_false, Bool.not_true, oF_0, oO_0, oF_174, oO_174, mO_X_ledger, mO_M_ledger, o1, s1, p1, t1, a1, a2]
theorem lc_image (h : Ing M L xs) (hi : i + 6 ≤ L) (hL : L ≤ 3072) : ∃ M2, Ing M2 L xs ∧ run (ev 100) m_Law_law 1572 [some (.ref 1000), some (.ref 0), some (.ref 174), some (.int (nI i))] [] NX M = run (ev 100) m_Law_law 18 [some (.ref 1000), some (.ref 0), some (.ref 174), some (.int (nI (i + 6)))] [] NX M2 := by
  have h0 := h
  obtain ⟨⟨s, s', T, tb, tl, f, hX, hM, ho⟩, hw, hs, hl⟩ := h
  have g0 := oA1000 (M := M) (j := i) hl hL (by omega)
  obtain ⟨v, M1, M2, a1, a2, a3, a4, a5⟩ := ing_op (yX := m_X_image) (yM := m_M_image) (as := []) h0 (by decide) ⟨_, _, _, _, _, _, O_image hX hM ho⟩
  refine ⟨M2, a3, ?_⟩
  simp (disch := omega) only [r_Law_law_1572, r_Law_law_1572n, r_Law_law_1573, r_Law_law_1576, r_Law_law_1576n, r_Law_law_1577, r_Law_law_1580, r_Law_law_1583, r_Law_law_1584, r_Law_law_1621, r_Law_law_1624, bnd, tl_s, tl_n, wt_nil, wt_int, wt_ref, wt_null, wt_long, Nat.reduceAdd, Nat.reduceLeDiff, if_true, if_false, decide_true, Bool.true_and, Bool.and_true, zok_n0, zok_n1, zok_bI, bI_eq0, bI_eq1, Bool.true_eq_false, Bool.false_eq_true, not_false_eq_true, not_true_eq_false, decide_false, decide_eq_false_iff_not, decide_eq_true_eq, Classical.not_not, ite_not, lit, Nat.reduceEqDiff, Nat.reduceLT, nI_add, nI_lt', nI_le', nI_eq', nI_sub', pk_mul, nI_rem', nI_div', nI_nz, remN, clampN, inb_nI, Nat.not_lt_zero, Nat.zero_le, Nat.le_zero_eq, if_true, if_false, m1_lt0, m1_eq, t_ite, f_ite, Bool.not_false, Bool.not_true, oF_0, oO_0, oF_174, oO_174, mO_X_image, mO_M_image, a1, a2]
theorem lc_back (h : Ing M L xs) (hi : i + 6 ≤ L) (hL : L ≤ 3072) : ∃ M2, Ing M2 L xs ∧ run (ev 100) m_Law_law 1585 [some (.ref 1000), some (.ref 0), some (.ref 174), some (.int (nI i))] [] NX M = run (ev 100) m_Law_law 18 [some (.ref 1000), some (.ref 0), some (.ref 174), some (.int (nI (i + 6)))] [] NX M2 := by
  have h0 := h
  obtain ⟨⟨s, s', T, tb, tl, f, hX, hM, ho⟩, hw, hs, hl⟩ := h
  have g0 := oA1000 (M := M) (j := i) hl hL (by omega)
  obtain ⟨v, M1, M2, a1, a2, a3, a4, a5⟩ := ing_op (yX := m_X_back) (yM := m_M_back) (as := []) h0 (by decide) ⟨_, _, _, _, _, _, O_back hX hM ho⟩
  refine ⟨M2, a3, ?_⟩
  simp (disch := omega) only [r_Law_law_1585, r_Law_law_1585n, r_Law_law_1586, r_Law_law_1589, r_Law_law_1589n, r_Law_law_1590, r_Law_law_1593, r_Law_law_1596, r_Law_law_1597, r_Law_law_1621, r_Law_law_1624, bnd, tl_s, tl_n, wt_nil, wt_int, wt_ref, wt_null, wt_long, Nat.reduceAdd, Nat.reduceLeDiff, if_true, if_false, decide_true, Bool.true_and, Bool.and_true, zok_n0, zok_n1, zok_bI, bI_eq0, bI_eq1, Bool.true_eq_false, Bool.false_eq_true, not_false_eq_true, not_true_eq_false, decide_false, decide_eq_false_iff_not, decide_eq_true_eq, Classical.not_not, ite_not, lit, Nat.reduceEqDiff, Nat.reduceLT, nI_add, nI_lt', nI_le', nI_eq', nI_sub', pk_mul, nI_rem', nI_div', nI_nz, remN, clampN, inb_nI, Nat.not_lt_zero, Nat.zero_le, Nat.le_zero_eq, if_true, if_false, m1_lt0, m1_eq, t_ite, f_ite, Bool.not_false, Bool.not_true, oF_0, oO_0, oF_174, oO_174, mO_X_back, mO_M_back, a1, a2]
theorem lc_about (h : Ing M L xs) (hi : i + 6 ≤ L) (hL : L ≤ 3072) : ∃ M2, Ing M2 L xs ∧ run (ev 100) m_Law_law 1598 [some (.ref 1000), some (.ref 0), some (.ref 174), some (.int (nI i))] [] NX M = run (ev 100) m_Law_law 18 [some (.ref 1000), some (.ref 0), some (.ref 174), some (.int (nI (i + 6)))] [] NX M2 := by
  have h0 := h
  obtain ⟨⟨s, s', T, tb, tl, f, hX, hM, ho⟩, hw, hs, hl⟩ := h
  have g0 := oA1000 (M := M) (j := i) hl hL (by omega)
  have o1 := oA1000 (M := M) (j := i + 1) hl hL (by omega)
  have s1 := hs (i + 1) (by omega)
  obtain ⟨v, M1, M2, a1, a2, a3, a4, a5⟩ := ing_op (yX := m_X_about) (yM := m_M_about) (as := [.int (xs (i + 1))]) h0 (by decide) ⟨_, _, _, _, _, _, Op.ofPub (P_about hX hM) hX hM ho⟩
  have p1 := oA1000 (M := M1) (j := i + 1) a5 hL (by omega)
  have t1 := a4 (i + 1) (by omega)
  refine ⟨M2, a3, ?_⟩
  simp (disch := omega) only [r_Law_law_1598, r_Law_law_1598n, r_Law_law_1599, r_Law_law_1599n, r_Law_law_1600, r_Law_law_1601, r_Law_law_1602, r_Law_law_1603, r_Law_law_1604, r_Law_law_1607, r_Law_law_1607n, r_Law_law_1608, r_Law_law_1608n, r_Law_law_1609, r_Law_law_1610, r_Law_law_1611, r_Law_law_1612, r_Law_law_1613, r_Law_law_1616, r_Law_law_1619, r_Law_law_1620, r_Law_law_1621, r_Law_law_1624, bnd, tl_s, tl_n, wt_nil, wt_int, wt_ref, wt_null, wt_long, Nat.reduceAdd, Nat.reduceLeDiff, if_true, if_false, decide_true, Bool.true_and, Bool.and_true, zok_n0, zok_n1, zok_bI, bI_eq0, bI_eq1, Bool.true_eq_false, Bool.false_eq_true, not_false_eq_true, not_true_eq_false, decide_false, decide_eq_false_iff_not, decide_eq_true_eq, Classical.not_not, ite_not, lit, Nat.reduceEqDiff, Nat.reduceLT, nI_add, nI_lt', nI_le', nI_eq', nI_sub', pk_mul, nI_rem', nI_div', nI_nz, remN, clampN, inb_nI, Nat.not_lt_zero, Nat.zero_le, Nat.le_zero_eq, if_true, if_false, m1_lt0, m1_eq, t_ite, f_ite, Bool.not_false, Bool.not_true, oF_0, oO_0, oF_174, oO_174, mO_X_about, mO_M_about, o1, s1, p1, t1, a1, a2]
end LCS
