/-! THE LAW: its loop, whole -/
theorem and63I (x : Int32) : ∃ c, c < 64 ∧ x &&& nI 63 = nI c := by
  have h1 : (x &&& nI 63).toBitVec.toNat < 64 := by
    rw [Int32.toBitVec_and, BitVec.toNat_and]
    exact Nat.lt_of_le_of_lt Nat.and_le_right (by decide)
  have h2 : (x &&& nI 63).toInt = ((x &&& nI 63).toBitVec.toNat : Int) := BitVec.toInt_eq_toNat_of_lt (by omega)
  refine ⟨(x &&& nI 63).toBitVec.toNat, h1, Int32.toInt_inj.mp ?_⟩
  rw [nI_toInt (by omega), h2]
section LLW
variable {M : Mem} {L : Nat} {xs : Nat → Int32}
theorem lt6 {i : Nat} (hL : L ≤ 3072) (hi : i ≤ 4000) : (nI L - nI 6 < nI i) = (L < i + 6) := by
  have e : (nI L - nI 6).toInt = (L : Int) - 6 := pk_sub_toInt (by omega) (by decide)
  rw [Int32.lt_iff_toInt_lt, e, nI_toInt (by omega)]
  exact propext ⟨fun z => by omega, fun z => by omega⟩
theorem law_go {i : Nat} (h : Ing M L xs) (hL : L ≤ 3072) (hi : i + 6 ≤ L) : ∃ M2, Ing M2 L xs ∧ run (ev 100) m_Law_law 18 [some (.ref 1000), some (.ref 0), some (.ref 174), some (.int (nI i))] [] NX M = run (ev 100) m_Law_law 18 [some (.ref 1000), some (.ref 0), some (.ref 174), some (.int (nI (i + 6)))] [] NX M2 := by
  have hs := h.2.2.1 i (by omega)
  have hl := h.2.2.2
  have g0 := oA1000 (M := M) (j := i) hl hL (by omega)
  have ha : (live NX 1000 && decide (100 ≤ (sh 1000).1)) = true := by decide +kernel
  have hlen : Int32.ofNat (lenOf M 1000) = nI L := by rw [show lenOf M 1000 = L from hl]; rfl
  have c6 := (lt6 (L := L) (i := i) hL (by omega)).trans (eq_false (by omega))
  obtain ⟨c, hc, hcx⟩ := and63I (xs i)
  have to33 : run (ev 100) m_Law_law 18 [some (.ref 1000), some (.ref 0), some (.ref 174), some (.int (nI i))] [] NX M = run (ev 100) m_Law_law 33 [some (.ref 1000), some (.ref 0), some (.ref 174), some (.int (nI i))] [.int (nI c)] NX M := by
    rw [r_Law_law_18]
    simp (disch := omega) only [r_Law_law_19, r_Law_law_19n, r_Law_law_20, r_Law_law_21, r_Law_law_23, r_Law_law_24, r_Law_law_27, r_Law_law_27n, r_Law_law_28, r_Law_law_29, r_Law_law_30, r_Law_law_32, bnd, tl_s, tl_n, wt_nil, wt_int, wt_ref, wt_null, wt_long, Nat.reduceAdd, Nat.reduceLeDiff, if_true, if_false, decide_true, Bool.true_and, Bool.and_true, zok_n0, zok_n1, zok_bI, bI_eq0, bI_eq1, Bool.true_eq_false, Bool.false_eq_true, not_false_eq_true, not_true_eq_false, decide_false, decide_eq_false_iff_not, decide_eq_true_eq, Classical.not_not, ite_not, lit, clampN, ha, hlen, c6, g0, hs, hcx]
  rw [to33]
  have hcs : c = 0 ∨ c = 1 ∨ c = 2 ∨ c = 3 ∨ c = 4 ∨ c = 5 ∨ c = 6 ∨ c = 7 ∨ c = 8 ∨ c = 9 ∨ c = 10 ∨ c = 11 ∨ c = 12 ∨ c = 13 ∨ c = 14 ∨ c = 15 ∨ c = 16 ∨ c = 17 ∨ c = 18 ∨ c = 19 ∨ c = 20 ∨ c = 21 ∨ c = 22 ∨ c = 23 ∨ c = 24 ∨ c = 25 ∨ c = 26 ∨ c = 27 ∨ c = 28 ∨ c = 29 ∨ c = 30 ∨ c = 31 ∨ c = 32 ∨ c = 33 ∨ c = 34 ∨ c = 35 ∨ c = 36 ∨ c = 37 ∨ c = 38 ∨ c = 39 ∨ c = 40 ∨ c = 41 ∨ c = 42 ∨ c = 43 ∨ c = 44 ∨ c = 45 ∨ c = 46 ∨ c = 47 ∨ c = 48 ∨ c = 49 ∨ c = 50 ∨ c = 51 ∨ c = 52 ∨ 53 ≤ c := by omega
  rcases hcs with rfl | rfl | rfl | rfl | rfl | rfl | rfl | rfl | rfl | rfl | rfl | rfl | rfl | rfl | rfl | rfl | rfl | rfl | rfl | rfl | rfl | rfl | rfl | rfl | rfl | rfl | rfl | rfl | rfl | rfl | rfl | rfl | rfl | rfl | rfl | rfl | rfl | rfl | rfl | rfl | rfl | rfl | rfl | rfl | rfl | rfl | rfl | rfl | rfl | rfl | rfl | rfl | rfl | hge
  · rw [show run (ev 100) m_Law_law 33 [some (.ref 1000), some (.ref 0), some (.ref 174), some (.int (nI i))] [.int (nI 0)] NX M = run (ev 100) m_Law_law 260 [some (.ref 1000), some (.ref 0), some (.ref 174), some (.int (nI i))] [] NX M by simp (disch := omega) only [r_Law_law_33, lit, nI_eq', Nat.reduceEqDiff, if_true, if_false]]
    exact lc_plank h hi hL
  · rw [show run (ev 100) m_Law_law 33 [some (.ref 1000), some (.ref 0), some (.ref 174), some (.int (nI i))] [.int (nI 1)] NX M = run (ev 100) m_Law_law 293 [some (.ref 1000), some (.ref 0), some (.ref 174), some (.int (nI i))] [] NX M by simp (disch := omega) only [r_Law_law_33, lit, nI_eq', Nat.reduceEqDiff, if_true, if_false]]
    exact lc_feed h hi hL
  · rw [show run (ev 100) m_Law_law 33 [some (.ref 1000), some (.ref 0), some (.ref 174), some (.int (nI i))] [.int (nI 2)] NX M = run (ev 100) m_Law_law 356 [some (.ref 1000), some (.ref 0), some (.ref 174), some (.int (nI i))] [] NX M by simp (disch := omega) only [r_Law_law_33, lit, nI_eq', Nat.reduceEqDiff, if_true, if_false]]
    exact lc_end h hi hL
  · rw [show run (ev 100) m_Law_law 33 [some (.ref 1000), some (.ref 0), some (.ref 174), some (.int (nI i))] [.int (nI 3)] NX M = run (ev 100) m_Law_law 379 [some (.ref 1000), some (.ref 0), some (.ref 174), some (.int (nI i))] [] NX M by simp (disch := omega) only [r_Law_law_33, lit, nI_eq', Nat.reduceEqDiff, if_true, if_false]]
    exact lc_text h hi hL
  · rw [show run (ev 100) m_Law_law 33 [some (.ref 1000), some (.ref 0), some (.ref 174), some (.int (nI i))] [.int (nI 4)] NX M = run (ev 100) m_Law_law 392 [some (.ref 1000), some (.ref 0), some (.ref 174), some (.int (nI i))] [] NX M by simp (disch := omega) only [r_Law_law_33, lit, nI_eq', Nat.reduceEqDiff, if_true, if_false]]
    exact lc_fault h hi hL
  · rw [show run (ev 100) m_Law_law 33 [some (.ref 1000), some (.ref 0), some (.ref 174), some (.int (nI i))] [.int (nI 5)] NX M = run (ev 100) m_Law_law 415 [some (.ref 1000), some (.ref 0), some (.ref 174), some (.int (nI i))] [] NX M by simp (disch := omega) only [r_Law_law_33, lit, nI_eq', Nat.reduceEqDiff, if_true, if_false]]
    exact lc_by h hi hL
  · rw [show run (ev 100) m_Law_law 33 [some (.ref 1000), some (.ref 0), some (.ref 174), some (.int (nI i))] [.int (nI 6)] NX M = run (ev 100) m_Law_law 438 [some (.ref 1000), some (.ref 0), some (.ref 174), some (.int (nI i))] [] NX M by simp (disch := omega) only [r_Law_law_33, lit, nI_eq', Nat.reduceEqDiff, if_true, if_false]]
    exact lc_put h hi hL
  · rw [show run (ev 100) m_Law_law 33 [some (.ref 1000), some (.ref 0), some (.ref 174), some (.int (nI i))] [.int (nI 7)] NX M = run (ev 100) m_Law_law 461 [some (.ref 1000), some (.ref 0), some (.ref 174), some (.int (nI i))] [] NX M by simp (disch := omega) only [r_Law_law_33, lit, nI_eq', Nat.reduceEqDiff, if_true, if_false]]
    exact lc_take h hi hL
  · rw [show run (ev 100) m_Law_law 33 [some (.ref 1000), some (.ref 0), some (.ref 174), some (.int (nI i))] [.int (nI 8)] NX M = run (ev 100) m_Law_law 484 [some (.ref 1000), some (.ref 0), some (.ref 174), some (.int (nI i))] [] NX M by simp (disch := omega) only [r_Law_law_33, lit, nI_eq', Nat.reduceEqDiff, if_true, if_false]]
    exact lc_concede h hi hL
  · rw [show run (ev 100) m_Law_law 33 [some (.ref 1000), some (.ref 0), some (.ref 174), some (.int (nI i))] [.int (nI 9)] NX M = run (ev 100) m_Law_law 507 [some (.ref 1000), some (.ref 0), some (.ref 174), some (.int (nI i))] [] NX M by simp (disch := omega) only [r_Law_law_33, lit, nI_eq', Nat.reduceEqDiff, if_true, if_false]]
    exact lc_object h hi hL
  · rw [show run (ev 100) m_Law_law 33 [some (.ref 1000), some (.ref 0), some (.ref 174), some (.int (nI i))] [.int (nI 10)] NX M = run (ev 100) m_Law_law 566 [some (.ref 1000), some (.ref 0), some (.ref 174), some (.int (nI i))] [] NX M by simp (disch := omega) only [r_Law_law_33, lit, nI_eq', Nat.reduceEqDiff, if_true, if_false]]
    exact lc_hour h hi hL
  · rw [show run (ev 100) m_Law_law 33 [some (.ref 1000), some (.ref 0), some (.ref 174), some (.int (nI i))] [.int (nI 11)] NX M = run (ev 100) m_Law_law 589 [some (.ref 1000), some (.ref 0), some (.ref 174), some (.int (nI i))] [] NX M by simp (disch := omega) only [r_Law_law_33, lit, nI_eq', Nat.reduceEqDiff, if_true, if_false]]
    exact lc_played h hi hL
  · rw [show run (ev 100) m_Law_law 33 [some (.ref 1000), some (.ref 0), some (.ref 174), some (.int (nI i))] [.int (nI 12)] NX M = run (ev 100) m_Law_law 612 [some (.ref 1000), some (.ref 0), some (.ref 174), some (.int (nI i))] [] NX M by simp (disch := omega) only [r_Law_law_33, lit, nI_eq', Nat.reduceEqDiff, if_true, if_false]]
    exact lc_years h hi hL
  · rw [show run (ev 100) m_Law_law 33 [some (.ref 1000), some (.ref 0), some (.ref 174), some (.int (nI i))] [.int (nI 13)] NX M = run (ev 100) m_Law_law 645 [some (.ref 1000), some (.ref 0), some (.ref 174), some (.int (nI i))] [] NX M by simp (disch := omega) only [r_Law_law_33, lit, nI_eq', Nat.reduceEqDiff, if_true, if_false]]
    exact lc_undo h hi hL
  · rw [show run (ev 100) m_Law_law 33 [some (.ref 1000), some (.ref 0), some (.ref 174), some (.int (nI i))] [.int (nI 14)] NX M = run (ev 100) m_Law_law 658 [some (.ref 1000), some (.ref 0), some (.ref 174), some (.int (nI i))] [] NX M by simp (disch := omega) only [r_Law_law_33, lit, nI_eq', Nat.reduceEqDiff, if_true, if_false]]
    exact lc_of h hi hL
  · rw [show run (ev 100) m_Law_law 33 [some (.ref 1000), some (.ref 0), some (.ref 174), some (.int (nI i))] [.int (nI 15)] NX M = run (ev 100) m_Law_law 691 [some (.ref 1000), some (.ref 0), some (.ref 174), some (.int (nI i))] [] NX M by simp (disch := omega) only [r_Law_law_33, lit, nI_eq', Nat.reduceEqDiff, if_true, if_false]]
    exact lc_is h hi hL
  · rw [show run (ev 100) m_Law_law 33 [some (.ref 1000), some (.ref 0), some (.ref 174), some (.int (nI i))] [.int (nI 16)] NX M = run (ev 100) m_Law_law 714 [some (.ref 1000), some (.ref 0), some (.ref 174), some (.int (nI i))] [] NX M by simp (disch := omega) only [r_Law_law_33, lit, nI_eq', Nat.reduceEqDiff, if_true, if_false]]
    exact lc_book h hi hL
  · rw [show run (ev 100) m_Law_law 33 [some (.ref 1000), some (.ref 0), some (.ref 174), some (.int (nI i))] [.int (nI 17)] NX M = run (ev 100) m_Law_law 747 [some (.ref 1000), some (.ref 0), some (.ref 174), some (.int (nI i))] [] NX M by simp (disch := omega) only [r_Law_law_33, lit, nI_eq', Nat.reduceEqDiff, if_true, if_false]]
    exact lc_foretold h hi hL
  · rw [show run (ev 100) m_Law_law 33 [some (.ref 1000), some (.ref 0), some (.ref 174), some (.int (nI i))] [.int (nI 18)] NX M = run (ev 100) m_Law_law 770 [some (.ref 1000), some (.ref 0), some (.ref 174), some (.int (nI i))] [] NX M by simp (disch := omega) only [r_Law_law_33, lit, nI_eq', Nat.reduceEqDiff, if_true, if_false]]
    exact lc_holds h hi hL
  · rw [show run (ev 100) m_Law_law 33 [some (.ref 1000), some (.ref 0), some (.ref 174), some (.int (nI i))] [.int (nI 19)] NX M = run (ev 100) m_Law_law 793 [some (.ref 1000), some (.ref 0), some (.ref 174), some (.int (nI i))] [] NX M by simp (disch := omega) only [r_Law_law_33, lit, nI_eq', Nat.reduceEqDiff, if_true, if_false]]
    exact lc_grounded h hi hL
  · rw [show run (ev 100) m_Law_law 33 [some (.ref 1000), some (.ref 0), some (.ref 174), some (.int (nI i))] [.int (nI 20)] NX M = run (ev 100) m_Law_law 806 [some (.ref 1000), some (.ref 0), some (.ref 174), some (.int (nI i))] [] NX M by simp (disch := omega) only [r_Law_law_33, lit, nI_eq', Nat.reduceEqDiff, if_true, if_false]]
    exact lc_round h hi hL
  · rw [show run (ev 100) m_Law_law 33 [some (.ref 1000), some (.ref 0), some (.ref 174), some (.int (nI i))] [.int (nI 21)] NX M = run (ev 100) m_Law_law 829 [some (.ref 1000), some (.ref 0), some (.ref 174), some (.int (nI i))] [] NX M by simp (disch := omega) only [r_Law_law_33, lit, nI_eq', Nat.reduceEqDiff, if_true, if_false]]
    exact lc_stables h hi hL
  · rw [show run (ev 100) m_Law_law 33 [some (.ref 1000), some (.ref 0), some (.ref 174), some (.int (nI i))] [.int (nI 22)] NX M = run (ev 100) m_Law_law 852 [some (.ref 1000), some (.ref 0), some (.ref 174), some (.int (nI i))] [] NX M by simp (disch := omega) only [r_Law_law_33, lit, nI_eq', Nat.reduceEqDiff, if_true, if_false]]
    exact lc_preferred h hi hL
  · rw [show run (ev 100) m_Law_law 33 [some (.ref 1000), some (.ref 0), some (.ref 174), some (.int (nI i))] [.int (nI 23)] NX M = run (ev 100) m_Law_law 875 [some (.ref 1000), some (.ref 0), some (.ref 174), some (.int (nI i))] [] NX M by simp (disch := omega) only [r_Law_law_33, lit, nI_eq', Nat.reduceEqDiff, if_true, if_false]]
    exact lc_naive h hi hL
  · rw [show run (ev 100) m_Law_law 33 [some (.ref 1000), some (.ref 0), some (.ref 174), some (.int (nI i))] [.int (nI 24)] NX M = run (ev 100) m_Law_law 898 [some (.ref 1000), some (.ref 0), some (.ref 174), some (.int (nI i))] [] NX M by simp (disch := omega) only [r_Law_law_33, lit, nI_eq', Nat.reduceEqDiff, if_true, if_false]]
    exact lc_ring h hi hL
  · rw [show run (ev 100) m_Law_law 33 [some (.ref 1000), some (.ref 0), some (.ref 174), some (.int (nI i))] [.int (nI 25)] NX M = run (ev 100) m_Law_law 921 [some (.ref 1000), some (.ref 0), some (.ref 174), some (.int (nI i))] [] NX M by simp (disch := omega) only [r_Law_law_33, lit, nI_eq', Nat.reduceEqDiff, if_true, if_false]]
    exact lc_inSets h hi hL
  · rw [show run (ev 100) m_Law_law 33 [some (.ref 1000), some (.ref 0), some (.ref 174), some (.int (nI i))] [.int (nI 26)] NX M = run (ev 100) m_Law_law 970 [some (.ref 1000), some (.ref 0), some (.ref 174), some (.int (nI i))] [] NX M by simp (disch := omega) only [r_Law_law_33, lit, nI_eq', Nat.reduceEqDiff, if_true, if_false]]
    exact lc_repair h hi hL
  · rw [show run (ev 100) m_Law_law 33 [some (.ref 1000), some (.ref 0), some (.ref 174), some (.int (nI i))] [.int (nI 27)] NX M = run (ev 100) m_Law_law 1019 [some (.ref 1000), some (.ref 0), some (.ref 174), some (.int (nI i))] [] NX M by simp (disch := omega) only [r_Law_law_33, lit, nI_eq', Nat.reduceEqDiff, if_true, if_false]]
    exact lc_heaviest h hi hL
  · rw [show run (ev 100) m_Law_law 33 [some (.ref 1000), some (.ref 0), some (.ref 174), some (.int (nI i))] [.int (nI 28)] NX M = run (ev 100) m_Law_law 1058 [some (.ref 1000), some (.ref 0), some (.ref 174), some (.int (nI i))] [] NX M by simp (disch := omega) only [r_Law_law_33, lit, nI_eq', Nat.reduceEqDiff, if_true, if_false]]
    exact lc_explain h hi hL
  · rw [show run (ev 100) m_Law_law 33 [some (.ref 1000), some (.ref 0), some (.ref 174), some (.int (nI i))] [.int (nI 29)] NX M = run (ev 100) m_Law_law 1091 [some (.ref 1000), some (.ref 0), some (.ref 174), some (.int (nI i))] [] NX M by simp (disch := omega) only [r_Law_law_33, lit, nI_eq', Nat.reduceEqDiff, if_true, if_false]]
    exact lc_orders h hi hL
  · rw [show run (ev 100) m_Law_law 33 [some (.ref 1000), some (.ref 0), some (.ref 174), some (.int (nI i))] [.int (nI 30)] NX M = run (ev 100) m_Law_law 1115 [some (.ref 1000), some (.ref 0), some (.ref 174), some (.int (nI i))] [] NX M by simp (disch := omega) only [r_Law_law_33, lit, nI_eq', Nat.reduceEqDiff, if_true, if_false]]
    exact lc_order h hi hL
  · rw [show run (ev 100) m_Law_law 33 [some (.ref 1000), some (.ref 0), some (.ref 174), some (.int (nI i))] [.int (nI 31)] NX M = run (ev 100) m_Law_law 1148 [some (.ref 1000), some (.ref 0), some (.ref 174), some (.int (nI i))] [] NX M by simp (disch := omega) only [r_Law_law_33, lit, nI_eq', Nat.reduceEqDiff, if_true, if_false]]
    exact lc_all h hi hL
  · rw [show run (ev 100) m_Law_law 33 [some (.ref 1000), some (.ref 0), some (.ref 174), some (.int (nI i))] [.int (nI 32)] NX M = run (ev 100) m_Law_law 1171 [some (.ref 1000), some (.ref 0), some (.ref 174), some (.int (nI i))] [] NX M by simp (disch := omega) only [r_Law_law_33, lit, nI_eq', Nat.reduceEqDiff, if_true, if_false]]
    exact lc_over h hi hL
  · rw [show run (ev 100) m_Law_law 33 [some (.ref 1000), some (.ref 0), some (.ref 174), some (.int (nI i))] [.int (nI 33)] NX M = run (ev 100) m_Law_law 1194 [some (.ref 1000), some (.ref 0), some (.ref 174), some (.int (nI i))] [] NX M by simp (disch := omega) only [r_Law_law_33, lit, nI_eq', Nat.reduceEqDiff, if_true, if_false]]
    exact lc_high h hi hL
  · rw [show run (ev 100) m_Law_law 33 [some (.ref 1000), some (.ref 0), some (.ref 174), some (.int (nI i))] [.int (nI 34)] NX M = run (ev 100) m_Law_law 1217 [some (.ref 1000), some (.ref 0), some (.ref 174), some (.int (nI i))] [] NX M by simp (disch := omega) only [r_Law_law_33, lit, nI_eq', Nat.reduceEqDiff, if_true, if_false]]
    exact lc_least h hi hL
  · rw [show run (ev 100) m_Law_law 33 [some (.ref 1000), some (.ref 0), some (.ref 174), some (.int (nI i))] [.int (nI 35)] NX M = run (ev 100) m_Law_law 1240 [some (.ref 1000), some (.ref 0), some (.ref 174), some (.int (nI i))] [] NX M by simp (disch := omega) only [r_Law_law_33, lit, nI_eq', Nat.reduceEqDiff, if_true, if_false]]
    exact lc_stand h hi hL
  · rw [show run (ev 100) m_Law_law 33 [some (.ref 1000), some (.ref 0), some (.ref 174), some (.int (nI i))] [.int (nI 36)] NX M = run (ev 100) m_Law_law 1290 [some (.ref 1000), some (.ref 0), some (.ref 174), some (.int (nI i))] [] NX M by simp (disch := omega) only [r_Law_law_33, lit, nI_eq', Nat.reduceEqDiff, if_true, if_false]]
    exact lc_vote h hi hL
  · rw [show run (ev 100) m_Law_law 33 [some (.ref 1000), some (.ref 0), some (.ref 174), some (.int (nI i))] [.int (nI 37)] NX M = run (ev 100) m_Law_law 1313 [some (.ref 1000), some (.ref 0), some (.ref 174), some (.int (nI i))] [] NX M by simp (disch := omega) only [r_Law_law_33, lit, nI_eq', Nat.reduceEqDiff, if_true, if_false]]
    exact lc_beats h hi hL
  · rw [show run (ev 100) m_Law_law 33 [some (.ref 1000), some (.ref 0), some (.ref 174), some (.int (nI i))] [.int (nI 38)] NX M = run (ev 100) m_Law_law 1346 [some (.ref 1000), some (.ref 0), some (.ref 174), some (.int (nI i))] [] NX M by simp (disch := omega) only [r_Law_law_33, lit, nI_eq', Nat.reduceEqDiff, if_true, if_false]]
    exact lc_agenda h hi hL
  · rw [show run (ev 100) m_Law_law 33 [some (.ref 1000), some (.ref 0), some (.ref 174), some (.int (nI i))] [.int (nI 39)] NX M = run (ev 100) m_Law_law 1369 [some (.ref 1000), some (.ref 0), some (.ref 174), some (.int (nI i))] [] NX M by simp (disch := omega) only [r_Law_law_33, lit, nI_eq', Nat.reduceEqDiff, if_true, if_false]]
    exact lc_lead h hi hL
  · rw [show run (ev 100) m_Law_law 33 [some (.ref 1000), some (.ref 0), some (.ref 174), some (.int (nI i))] [.int (nI 40)] NX M = run (ev 100) m_Law_law 1392 [some (.ref 1000), some (.ref 0), some (.ref 174), some (.int (nI i))] [] NX M by simp (disch := omega) only [r_Law_law_33, lit, nI_eq', Nat.reduceEqDiff, if_true, if_false]]
    exact lc_winner h hi hL
  · rw [show run (ev 100) m_Law_law 33 [some (.ref 1000), some (.ref 0), some (.ref 174), some (.int (nI i))] [.int (nI 41)] NX M = run (ev 100) m_Law_law 1415 [some (.ref 1000), some (.ref 0), some (.ref 174), some (.int (nI i))] [] NX M by simp (disch := omega) only [r_Law_law_33, lit, nI_eq', Nat.reduceEqDiff, if_true, if_false]]
    exact lc_score h hi hL
  · rw [show run (ev 100) m_Law_law 33 [some (.ref 1000), some (.ref 0), some (.ref 174), some (.int (nI i))] [.int (nI 42)] NX M = run (ev 100) m_Law_law 1438 [some (.ref 1000), some (.ref 0), some (.ref 174), some (.int (nI i))] [] NX M by simp (disch := omega) only [r_Law_law_33, lit, nI_eq', Nat.reduceEqDiff, if_true, if_false]]
    exact lc_top h hi hL
  · rw [show run (ev 100) m_Law_law 33 [some (.ref 1000), some (.ref 0), some (.ref 174), some (.int (nI i))] [.int (nI 43)] NX M = run (ev 100) m_Law_law 1451 [some (.ref 1000), some (.ref 0), some (.ref 174), some (.int (nI i))] [] NX M by simp (disch := omega) only [r_Law_law_33, lit, nI_eq', Nat.reduceEqDiff, if_true, if_false]]
    exact lc_said h hi hL
  · rw [show run (ev 100) m_Law_law 33 [some (.ref 1000), some (.ref 0), some (.ref 174), some (.int (nI i))] [.int (nI 44)] NX M = run (ev 100) m_Law_law 1484 [some (.ref 1000), some (.ref 0), some (.ref 174), some (.int (nI i))] [] NX M by simp (disch := omega) only [r_Law_law_33, lit, nI_eq', Nat.reduceEqDiff, if_true, if_false]]
    exact lc_whose h hi hL
  · rw [show run (ev 100) m_Law_law 33 [some (.ref 1000), some (.ref 0), some (.ref 174), some (.int (nI i))] [.int (nI 45)] NX M = run (ev 100) m_Law_law 1497 [some (.ref 1000), some (.ref 0), some (.ref 174), some (.int (nI i))] [] NX M by simp (disch := omega) only [r_Law_law_33, lit, nI_eq', Nat.reduceEqDiff, if_true, if_false]]
    exact lc_gaps h hi hL
  · rw [show run (ev 100) m_Law_law 33 [some (.ref 1000), some (.ref 0), some (.ref 174), some (.int (nI i))] [.int (nI 46)] NX M = run (ev 100) m_Law_law 1510 [some (.ref 1000), some (.ref 0), some (.ref 174), some (.int (nI i))] [] NX M by simp (disch := omega) only [r_Law_law_33, lit, nI_eq', Nat.reduceEqDiff, if_true, if_false]]
    exact lc_unopposed h hi hL
  · rw [show run (ev 100) m_Law_law 33 [some (.ref 1000), some (.ref 0), some (.ref 174), some (.int (nI i))] [.int (nI 47)] NX M = run (ev 100) m_Law_law 1523 [some (.ref 1000), some (.ref 0), some (.ref 174), some (.int (nI i))] [] NX M by simp (disch := omega) only [r_Law_law_33, lit, nI_eq', Nat.reduceEqDiff, if_true, if_false]]
    exact lc_atOdds h hi hL
  · rw [show run (ev 100) m_Law_law 33 [some (.ref 1000), some (.ref 0), some (.ref 174), some (.int (nI i))] [.int (nI 48)] NX M = run (ev 100) m_Law_law 1536 [some (.ref 1000), some (.ref 0), some (.ref 174), some (.int (nI i))] [] NX M by simp (disch := omega) only [r_Law_law_33, lit, nI_eq', Nat.reduceEqDiff, if_true, if_false]]
    exact lc_loaded h hi hL
  · rw [show run (ev 100) m_Law_law 33 [some (.ref 1000), some (.ref 0), some (.ref 174), some (.int (nI i))] [.int (nI 49)] NX M = run (ev 100) m_Law_law 1549 [some (.ref 1000), some (.ref 0), some (.ref 174), some (.int (nI i))] [] NX M by simp (disch := omega) only [r_Law_law_33, lit, nI_eq', Nat.reduceEqDiff, if_true, if_false]]
    exact lc_ledger h hi hL
  · rw [show run (ev 100) m_Law_law 33 [some (.ref 1000), some (.ref 0), some (.ref 174), some (.int (nI i))] [.int (nI 50)] NX M = run (ev 100) m_Law_law 1572 [some (.ref 1000), some (.ref 0), some (.ref 174), some (.int (nI i))] [] NX M by simp (disch := omega) only [r_Law_law_33, lit, nI_eq', Nat.reduceEqDiff, if_true, if_false]]
    exact lc_image h hi hL
  · rw [show run (ev 100) m_Law_law 33 [some (.ref 1000), some (.ref 0), some (.ref 174), some (.int (nI i))] [.int (nI 51)] NX M = run (ev 100) m_Law_law 1585 [some (.ref 1000), some (.ref 0), some (.ref 174), some (.int (nI i))] [] NX M by simp (disch := omega) only [r_Law_law_33, lit, nI_eq', Nat.reduceEqDiff, if_true, if_false]]
    exact lc_back h hi hL
  · rw [show run (ev 100) m_Law_law 33 [some (.ref 1000), some (.ref 0), some (.ref 174), some (.int (nI i))] [.int (nI 52)] NX M = run (ev 100) m_Law_law 1598 [some (.ref 1000), some (.ref 0), some (.ref 174), some (.int (nI i))] [] NX M by simp (disch := omega) only [r_Law_law_33, lit, nI_eq', Nat.reduceEqDiff, if_true, if_false]]
    exact lc_about h hi hL
  · refine ⟨M, h, ?_⟩
    have n0 : ¬ c = 0 := by omega
    have n1 : ¬ c = 1 := by omega
    have n2 : ¬ c = 2 := by omega
    have n3 : ¬ c = 3 := by omega
    have n4 : ¬ c = 4 := by omega
    have n5 : ¬ c = 5 := by omega
    have n6 : ¬ c = 6 := by omega
    have n7 : ¬ c = 7 := by omega
    have n8 : ¬ c = 8 := by omega
    have n9 : ¬ c = 9 := by omega
    have n10 : ¬ c = 10 := by omega
    have n11 : ¬ c = 11 := by omega
    have n12 : ¬ c = 12 := by omega
    have n13 : ¬ c = 13 := by omega
    have n14 : ¬ c = 14 := by omega
    have n15 : ¬ c = 15 := by omega
    have n16 : ¬ c = 16 := by omega
    have n17 : ¬ c = 17 := by omega
    have n18 : ¬ c = 18 := by omega
    have n19 : ¬ c = 19 := by omega
    have n20 : ¬ c = 20 := by omega
    have n21 : ¬ c = 21 := by omega
    have n22 : ¬ c = 22 := by omega
    have n23 : ¬ c = 23 := by omega
    have n24 : ¬ c = 24 := by omega
    have n25 : ¬ c = 25 := by omega
    have n26 : ¬ c = 26 := by omega
    have n27 : ¬ c = 27 := by omega
    have n28 : ¬ c = 28 := by omega
    have n29 : ¬ c = 29 := by omega
    have n30 : ¬ c = 30 := by omega
    have n31 : ¬ c = 31 := by omega
    have n32 : ¬ c = 32 := by omega
    have n33 : ¬ c = 33 := by omega
    have n34 : ¬ c = 34 := by omega
    have n35 : ¬ c = 35 := by omega
    have n36 : ¬ c = 36 := by omega
    have n37 : ¬ c = 37 := by omega
    have n38 : ¬ c = 38 := by omega
    have n39 : ¬ c = 39 := by omega
    have n40 : ¬ c = 40 := by omega
    have n41 : ¬ c = 41 := by omega
    have n42 : ¬ c = 42 := by omega
    have n43 : ¬ c = 43 := by omega
    have n44 : ¬ c = 44 := by omega
    have n45 : ¬ c = 45 := by omega
    have n46 : ¬ c = 46 := by omega
    have n47 : ¬ c = 47 := by omega
    have n48 : ¬ c = 48 := by omega
    have n49 : ¬ c = 49 := by omega
    have n50 : ¬ c = 50 := by omega
    have n51 : ¬ c = 51 := by omega
    have n52 : ¬ c = 52 := by omega
    simp (disch := omega) only [r_Law_law_33, r_Law_law_1621, r_Law_law_1624, bnd, tl_s, tl_n, wt_nil, wt_int, wt_ref, wt_null, wt_long, Nat.reduceAdd, Nat.reduceLeDiff, if_true, if_false, decide_true, Bool.true_and, Bool.and_true, zok_n0, zok_n1, zok_bI, bI_eq0, bI_eq1, Bool.true_eq_false, Bool.false_eq_true, not_false_eq_true, not_true_eq_false, decide_false, decide_eq_false_iff_not, decide_eq_true_eq, Classical.not_not, ite_not, lit, nI_add, nI_eq', n0, n1, n2, n3, n4, n5, n6, n7, n8, n9, n10, n11, n12, n13, n14, n15, n16, n17, n18, n19, n20, n21, n22, n23, n24, n25, n26, n27, n28, n29, n30, n31, n32, n33, n34, n35, n36, n37, n38, n39, n40, n41, n42, n43, n44, n45, n46, n47, n48, n49, n50, n51, n52]
theorem law_all (hL : L ≤ 3072) : ∀ n i (M : Mem), Ing M L xs → L ≤ i + 6 * n + 5 → i ≤ L + 6 → ∃ M', run (ev 100) m_Law_law 18 [some (.ref 1000), some (.ref 0), some (.ref 174), some (.int (nI i))] [] NX M = some (some (.int 1), NX, M') := by
  intro n
  induction n with
  | zero =>
    intro i M h hn hi
    have hl := h.2.2.2
    have ha : (live NX 1000 && decide (100 ≤ (sh 1000).1)) = true := by decide +kernel
    have hlen : Int32.ofNat (lenOf M 1000) = nI L := by rw [show lenOf M 1000 = L from hl]; rfl
    have c6 := (lt6 (L := L) (i := i) hL (by omega)).trans (eq_true (by omega))
    refine ⟨M, ?_⟩
    rw [r_Law_law_18]
    simp (disch := omega) only [r_Law_law_19, r_Law_law_19n, r_Law_law_20, r_Law_law_21, r_Law_law_23, r_Law_law_24, r_Law_law_1627, r_Law_law_1628, bnd, tl_s, tl_n, wt_nil, wt_int, wt_ref, wt_null, wt_long, Nat.reduceAdd, Nat.reduceLeDiff, if_true, if_false, decide_true, Bool.true_and, Bool.and_true, zok_n0, zok_n1, zok_bI, bI_eq0, bI_eq1, Bool.true_eq_false, Bool.false_eq_true, not_false_eq_true, not_true_eq_false, decide_false, decide_eq_false_iff_not, decide_eq_true_eq, Classical.not_not, ite_not, lit, ha, hlen, c6]
  | succ n ih =>
    intro i M h hn hi
    by_cases e : i + 6 ≤ L
    · obtain ⟨M2, h2, r2⟩ := law_go h hL e
      obtain ⟨M3, r3⟩ := ih (i + 6) M2 h2 (by omega) (by omega)
      exact ⟨M3, r2.trans r3⟩
    · have hl := h.2.2.2
      have ha : (live NX 1000 && decide (100 ≤ (sh 1000).1)) = true := by decide +kernel
      have hlen : Int32.ofNat (lenOf M 1000) = nI L := by rw [show lenOf M 1000 = L from hl]; rfl
      have c6 := (lt6 (L := L) (i := i) hL (by omega)).trans (eq_true (by omega))
      refine ⟨M, ?_⟩
      rw [r_Law_law_18]
      simp (disch := omega) only [r_Law_law_19, r_Law_law_19n, r_Law_law_20, r_Law_law_21, r_Law_law_23, r_Law_law_24, r_Law_law_1627, r_Law_law_1628, bnd, tl_s, tl_n, wt_nil, wt_int, wt_ref, wt_null, wt_long, Nat.reduceAdd, Nat.reduceLeDiff, if_true, if_false, decide_true, Bool.true_and, Bool.and_true, zok_n0, zok_n1, zok_bI, bI_eq0, bI_eq1, Bool.true_eq_false, Bool.false_eq_true, not_false_eq_true, not_true_eq_false, decide_false, decide_eq_false_iff_not, decide_eq_true_eq, Classical.not_not, ite_not, lit, ha, hlen, c6]
end LLW
