/-! VOTES: beats, lead, score, winner, top, vote -/
section V4
variable {d nx : Nat} {M : Mem} {k : Nat} {V : Nat → Nat}
theorem opt_cases (v : Int32) : (∃ a, a < 4 ∧ v = nI a) ∨ (v < nI 0 ∨ nI 4 ≤ v) := by
  rcases pk_ix v (n := 4) (by decide) with h | h | ⟨j, hj, h⟩
  · exact Or.inr (Or.inl h)
  · exact Or.inr (Or.inr h)
  · exact Or.inl ⟨j, hj, h⟩
/-- an int that is no index below n -/
theorem no_ix {v : Int32} {n : Nat} (hn : 0 < n) (hn2 : n < 2 ^ 31) (h : v < nI 0 ∨ nI n ≤ v) : ¬ (nI 0 ≤ v ∧ v ≤ nI (n - 1)) ∧ (v < nI 0 ∨ (¬ v < nI 0 ∧ nI n ≤ v)) := by
  have e1 : (nI n).toInt = n := nI_toInt hn2
  have e2 : (nI (n - 1)).toInt = ((n - 1 : Nat) : Int) := nI_toInt (by omega)
  have e0 : (nI 0).toInt = 0 := by decide
  rcases h with h | h
  · have := Int32.lt_iff_toInt_lt.mp h
    exact ⟨fun z => by have := Int32.le_iff_toInt_le.mp z.1; omega, Or.inl h⟩
  · have h1 := Int32.le_iff_toInt_le.mp h
    refine ⟨fun z => by have := Int32.le_iff_toInt_le.mp z.2; omega, Or.inr ⟨fun z => by have := Int32.lt_iff_toInt_lt.mp z; omega, h⟩⟩
theorem isOption_no {v : Int32} (h : v < nI 0 ∨ nI 4 ≤ v) : ev (d + 2) m_Bal_isOption [.int v] nx M = some (some (.int (nI 0)), nx, M) ∧ ev (d + 2) m_M_isOption [.int v] nx M = some (some (.int (nI 0)), nx, M) := by
  obtain ⟨n1, n2⟩ := no_ix (n := 4) (by decide) (by decide) h
  constructor
  · rw [e_Bal_isOption]
    simp (disch := omega) only [r_Bal_isOption_0, r_Bal_isOption_1, r_Bal_isOption_4, r_Bal_isOption_5, r_Bal_isOption_6, r_Bal_isOption_9, r_Bal_isOption_10, r_Bal_isOption_13, r_Bal_isOption_14, bnd, tl_s, tl_n, wt_nil, wt_int, wt_ref, wt_null, wt_long, Nat.reduceAdd, Nat.reduceLeDiff, if_true, if_false, decide_true, Bool.true_and, Bool.and_true, zok_n0, zok_n1, zok_bI, bI_eq0, bI_eq1, Bool.true_eq_false, Bool.false_eq_true, not_false_eq_true, not_true_eq_false, decide_false, decide_eq_false_iff_not, decide_eq_true_eq, Classical.not_not, ite_not, lit, Nat.reduceEqDiff, Nat.reduceLT, nI_add, nI_lt', nI_le', nI_eq', nI_sub', pk_mul, nI_rem', nI_div', nI_nz, remN, clampN, inb_nI, Nat.not_lt_zero, Nat.zero_le, Nat.le_zero_eq, if_true, if_false, m1_lt0, m1_eq, t_ite, f_ite]
    rcases n2 with z | ⟨z1, z2⟩
    · rw [if_pos z]
    · rw [if_neg z1, if_pos z2]
  · rw [e_M_isOption]
    simp (disch := omega) only [r_M_isOption_0, r_M_isOption_1, r_M_isOption_2, r_M_isOption_3, r_M_isOption_6, bnd, tl_s, tl_n, wt_nil, wt_int, wt_ref, wt_null, wt_long, Nat.reduceAdd, Nat.reduceLeDiff, if_true, if_false, decide_true, Bool.true_and, Bool.and_true, zok_n0, zok_n1, zok_bI, bI_eq0, bI_eq1, Bool.true_eq_false, Bool.false_eq_true, not_false_eq_true, not_true_eq_false, decide_false, decide_eq_false_iff_not, decide_eq_true_eq, Classical.not_not, ite_not, lit, Nat.reduceEqDiff, Nat.reduceLT, nI_add, nI_lt', nI_le', nI_eq', nI_sub', pk_mul, nI_rem', nI_div', nI_nz, remN, clampN, inb_nI, Nat.not_lt_zero, Nat.zero_le, Nat.le_zero_eq, if_true, if_false, m1_lt0, m1_eq, t_ite, f_ite, x_isIn]
    rw [decide_eq_false n1]
    rfl
theorem x_isOption {a : Nat} (ha : a < 4) : ev (d + 2) m_M_isOption [.int (nI a)] nx M = some (some (.int (nI 1)), nx, M) := by
  rw [e_M_isOption]
  simp (disch := omega) only [r_M_isOption_0, r_M_isOption_1, r_M_isOption_2, r_M_isOption_3, r_M_isOption_6, bnd, tl_s, tl_n, wt_nil, wt_int, wt_ref, wt_null, wt_long, Nat.reduceAdd, Nat.reduceLeDiff, if_true, if_false, decide_true, Bool.true_and, Bool.and_true, zok_n0, zok_n1, zok_bI, bI_eq0, bI_eq1, Bool.true_eq_false, Bool.false_eq_true, not_false_eq_true, not_true_eq_false, decide_false, decide_eq_false_iff_not, decide_eq_true_eq, Classical.not_not, ite_not, lit, Nat.reduceEqDiff, Nat.reduceLT, nI_add, nI_lt', nI_le', nI_eq', nI_sub', pk_mul, nI_rem', nI_div', nI_nz, remN, clampN, inb_nI, Nat.not_lt_zero, Nat.zero_le, Nat.le_zero_eq, if_true, if_false, m1_lt0, m1_eq, t_ite, f_ite, x_isIn]
  rw [decide_eq_true (show True ∧ a ≤ 3 from ⟨trivial, by omega⟩)]
  rfl
theorem y_isOption1 {a : Nat} (ha : a < 4) : ev (d + 2) m_Bal_isOption [.int (nI a)] nx M = some (some (.int (nI 1)), nx, M) := by
  rw [y_isOption (by omega), decide_eq_true ha]; rfl
theorem p_beats {v w : Int32} (hC : VC M k V) (hM : VMo M k V) : Q2 m_X_beats m_M_beats [.int v, .int w] M := by
  rcases opt_cases v with ⟨a, ha, rfl⟩ | hv
  · rcases opt_cases w with ⟨b, hb, rfl⟩ | hw
    · by_cases e : a = b
      · refine ⟨.int (-nI 100), ?_, ?_⟩
        · rw [e_X_beats]
          simp (disch := omega) only [r_X_beats_0, r_X_beats_1, r_X_beats_4, r_X_beats_7, r_X_beats_8, r_X_beats_11, r_X_beats_14, r_X_beats_15, r_X_beats_16, r_X_beats_19, r_X_beats_21, r_X_beats_22, r_X_beats_22n, r_X_beats_23, r_X_beats_26, r_X_beats_27, r_X_beats_28, r_X_beats_31, bnd, tl_s, tl_n, wt_nil, wt_int, wt_ref, wt_null, wt_long, Nat.reduceAdd, Nat.reduceLeDiff, if_true, if_false, decide_true, Bool.true_and, Bool.and_true, zok_n0, zok_n1, zok_bI, bI_eq0, bI_eq1, Bool.true_eq_false, Bool.false_eq_true, not_false_eq_true, not_true_eq_false, decide_false, decide_eq_false_iff_not, decide_eq_true_eq, Classical.not_not, ite_not, lit, Nat.reduceEqDiff, Nat.reduceLT, nI_add, nI_lt', nI_le', nI_eq', nI_sub', pk_mul, nI_rem', nI_div', nI_nz, remN, clampN, inb_nI, Nat.not_lt_zero, Nat.zero_le, Nat.le_zero_eq, if_true, if_false, m1_lt0, m1_eq, t_ite, f_ite, y_isOption1 ha, y_isOption1 hb, e]
        · rw [e_M_beats]
          simp (disch := omega) only [r_M_beats_0, r_M_beats_1, r_M_beats_4, r_M_beats_7, r_M_beats_8, r_M_beats_11, r_M_beats_14, r_M_beats_15, r_M_beats_16, r_M_beats_19, r_M_beats_19n, r_M_beats_20, r_M_beats_21, r_M_beats_22, r_M_beats_25, r_M_beats_28, r_M_beats_30, bnd, tl_s, tl_n, wt_nil, wt_int, wt_ref, wt_null, wt_long, Nat.reduceAdd, Nat.reduceLeDiff, if_true, if_false, decide_true, Bool.true_and, Bool.and_true, zok_n0, zok_n1, zok_bI, bI_eq0, bI_eq1, Bool.true_eq_false, Bool.false_eq_true, not_false_eq_true, not_true_eq_false, decide_false, decide_eq_false_iff_not, decide_eq_true_eq, Classical.not_not, ite_not, lit, Nat.reduceEqDiff, Nat.reduceLT, nI_add, nI_lt', nI_le', nI_eq', nI_sub', pk_mul, nI_rem', nI_div', nI_nz, remN, clampN, inb_nI, Nat.not_lt_zero, Nat.zero_le, Nat.le_zero_eq, if_true, if_false, m1_lt0, m1_eq, t_ite, f_ite, x_isOption ha, x_isOption hb, e]
      · refine ⟨.int (mg V a b k), ?_, ?_⟩
        · rw [e_X_beats]
          simp (disch := omega) only [r_X_beats_0, r_X_beats_1, r_X_beats_4, r_X_beats_7, r_X_beats_8, r_X_beats_11, r_X_beats_14, r_X_beats_15, r_X_beats_16, r_X_beats_19, r_X_beats_21, r_X_beats_22, r_X_beats_22n, r_X_beats_23, r_X_beats_26, r_X_beats_27, r_X_beats_28, r_X_beats_31, bnd, tl_s, tl_n, wt_nil, wt_int, wt_ref, wt_null, wt_long, Nat.reduceAdd, Nat.reduceLeDiff, if_true, if_false, decide_true, Bool.true_and, Bool.and_true, zok_n0, zok_n1, zok_bI, bI_eq0, bI_eq1, Bool.true_eq_false, Bool.false_eq_true, not_false_eq_true, not_true_eq_false, decide_false, decide_eq_false_iff_not, decide_eq_true_eq, Classical.not_not, ite_not, lit, Nat.reduceEqDiff, Nat.reduceLT, nI_add, nI_lt', nI_le', nI_eq', nI_sub', pk_mul, nI_rem', nI_div', nI_nz, remN, clampN, inb_nI, Nat.not_lt_zero, Nat.zero_le, Nat.le_zero_eq, if_true, if_false, m1_lt0, m1_eq, t_ite, f_ite, oF_0, oO_0, hC.1, vrf_s, y_isOption1 ha, y_isOption1 hb, e, y_margin hC ha hb]
        · rw [e_M_beats]
          simp (disch := omega) only [r_M_beats_0, r_M_beats_1, r_M_beats_4, r_M_beats_7, r_M_beats_8, r_M_beats_11, r_M_beats_14, r_M_beats_15, r_M_beats_16, r_M_beats_19, r_M_beats_19n, r_M_beats_20, r_M_beats_21, r_M_beats_22, r_M_beats_25, r_M_beats_28, r_M_beats_30, bnd, tl_s, tl_n, wt_nil, wt_int, wt_ref, wt_null, wt_long, Nat.reduceAdd, Nat.reduceLeDiff, if_true, if_false, decide_true, Bool.true_and, Bool.and_true, zok_n0, zok_n1, zok_bI, bI_eq0, bI_eq1, Bool.true_eq_false, Bool.false_eq_true, not_false_eq_true, not_true_eq_false, decide_false, decide_eq_false_iff_not, decide_eq_true_eq, Classical.not_not, ite_not, lit, Nat.reduceEqDiff, Nat.reduceLT, nI_add, nI_lt', nI_le', nI_eq', nI_sub', pk_mul, nI_rem', nI_div', nI_nz, remN, clampN, inb_nI, Nat.not_lt_zero, Nat.zero_le, Nat.le_zero_eq, if_true, if_false, m1_lt0, m1_eq, t_ite, f_ite, oF_174, oO_174, mO_M_more, x_isOption ha, x_isOption hb, e, x_moreV hM ha hb]
    · refine ⟨.int (-nI 100), ?_, ?_⟩
      · rw [e_X_beats]
        simp (disch := omega) only [r_X_beats_0, r_X_beats_1, r_X_beats_4, r_X_beats_7, r_X_beats_8, r_X_beats_11, r_X_beats_14, r_X_beats_15, r_X_beats_16, r_X_beats_19, r_X_beats_21, r_X_beats_22, r_X_beats_22n, r_X_beats_23, r_X_beats_26, r_X_beats_27, r_X_beats_28, r_X_beats_31, bnd, tl_s, tl_n, wt_nil, wt_int, wt_ref, wt_null, wt_long, Nat.reduceAdd, Nat.reduceLeDiff, if_true, if_false, decide_true, Bool.true_and, Bool.and_true, zok_n0, zok_n1, zok_bI, bI_eq0, bI_eq1, Bool.true_eq_false, Bool.false_eq_true, not_false_eq_true, not_true_eq_false, decide_false, decide_eq_false_iff_not, decide_eq_true_eq, Classical.not_not, ite_not, lit, Nat.reduceEqDiff, Nat.reduceLT, nI_add, nI_lt', nI_le', nI_eq', nI_sub', pk_mul, nI_rem', nI_div', nI_nz, remN, clampN, inb_nI, Nat.not_lt_zero, Nat.zero_le, Nat.le_zero_eq, if_true, if_false, m1_lt0, m1_eq, t_ite, f_ite, y_isOption1 ha, (isOption_no hw).1]
      · rw [e_M_beats]
        simp (disch := omega) only [r_M_beats_0, r_M_beats_1, r_M_beats_4, r_M_beats_7, r_M_beats_8, r_M_beats_11, r_M_beats_14, r_M_beats_15, r_M_beats_16, r_M_beats_19, r_M_beats_19n, r_M_beats_20, r_M_beats_21, r_M_beats_22, r_M_beats_25, r_M_beats_28, r_M_beats_30, bnd, tl_s, tl_n, wt_nil, wt_int, wt_ref, wt_null, wt_long, Nat.reduceAdd, Nat.reduceLeDiff, if_true, if_false, decide_true, Bool.true_and, Bool.and_true, zok_n0, zok_n1, zok_bI, bI_eq0, bI_eq1, Bool.true_eq_false, Bool.false_eq_true, not_false_eq_true, not_true_eq_false, decide_false, decide_eq_false_iff_not, decide_eq_true_eq, Classical.not_not, ite_not, lit, Nat.reduceEqDiff, Nat.reduceLT, nI_add, nI_lt', nI_le', nI_eq', nI_sub', pk_mul, nI_rem', nI_div', nI_nz, remN, clampN, inb_nI, Nat.not_lt_zero, Nat.zero_le, Nat.le_zero_eq, if_true, if_false, m1_lt0, m1_eq, t_ite, f_ite, x_isOption ha, (isOption_no hw).2]
  · refine ⟨.int (-nI 100), ?_, ?_⟩
    · rw [e_X_beats]
      simp (disch := omega) only [r_X_beats_0, r_X_beats_1, r_X_beats_4, r_X_beats_7, r_X_beats_8, r_X_beats_11, r_X_beats_14, r_X_beats_15, r_X_beats_16, r_X_beats_19, r_X_beats_21, r_X_beats_22, r_X_beats_22n, r_X_beats_23, r_X_beats_26, r_X_beats_27, r_X_beats_28, r_X_beats_31, bnd, tl_s, tl_n, wt_nil, wt_int, wt_ref, wt_null, wt_long, Nat.reduceAdd, Nat.reduceLeDiff, if_true, if_false, decide_true, Bool.true_and, Bool.and_true, zok_n0, zok_n1, zok_bI, bI_eq0, bI_eq1, Bool.true_eq_false, Bool.false_eq_true, not_false_eq_true, not_true_eq_false, decide_false, decide_eq_false_iff_not, decide_eq_true_eq, Classical.not_not, ite_not, lit, Nat.reduceEqDiff, Nat.reduceLT, nI_add, nI_lt', nI_le', nI_eq', nI_sub', pk_mul, nI_rem', nI_div', nI_nz, remN, clampN, inb_nI, Nat.not_lt_zero, Nat.zero_le, Nat.le_zero_eq, if_true, if_false, m1_lt0, m1_eq, t_ite, f_ite, (isOption_no hv).1]
    · rw [e_M_beats]
      simp (disch := omega) only [r_M_beats_0, r_M_beats_1, r_M_beats_4, r_M_beats_7, r_M_beats_8, r_M_beats_11, r_M_beats_14, r_M_beats_15, r_M_beats_16, r_M_beats_19, r_M_beats_19n, r_M_beats_20, r_M_beats_21, r_M_beats_22, r_M_beats_25, r_M_beats_28, r_M_beats_30, bnd, tl_s, tl_n, wt_nil, wt_int, wt_ref, wt_null, wt_long, Nat.reduceAdd, Nat.reduceLeDiff, if_true, if_false, decide_true, Bool.true_and, Bool.and_true, zok_n0, zok_n1, zok_bI, bI_eq0, bI_eq1, Bool.true_eq_false, Bool.false_eq_true, not_false_eq_true, not_true_eq_false, decide_false, decide_eq_false_iff_not, decide_eq_true_eq, Classical.not_not, ite_not, lit, Nat.reduceEqDiff, Nat.reduceLT, nI_add, nI_lt', nI_le', nI_eq', nI_sub', pk_mul, nI_rem', nI_div', nI_nz, remN, clampN, inb_nI, Nat.not_lt_zero, Nat.zero_le, Nat.le_zero_eq, if_true, if_false, m1_lt0, m1_eq, t_ite, f_ite, (isOption_no hv).2]
/-! lead -/
/-- the lowest order from o on, within n, that leads to a -/
def ldo (V : Nat → Nat) (k a : Nat) : Nat → Nat → Int32
  | 0, _ => -nI 1
  | n + 1, o => if isO o = true ∧ lf V k o 3 = a then nI o else ldo V k a n (o + 1)
theorem l_leadX {a : Nat} (hC : VC M k V) (ha : a < 4) : ∀ n o, o + n = 3211 → run (ev (d + 4)) m_X_lead 11 [some (.ref 0), some (.int (nI a)), some (.int (nI o))] [] NX M = some (some (.int (ldo V k a n o)), NX, M) := by
  intro n
  induction n with
  | zero =>
    intro o ho
    rw [r_X_lead_11]
    simp (disch := omega) only [r_X_lead_12, r_X_lead_15, r_X_lead_18, r_X_lead_19, r_X_lead_22, r_X_lead_25, r_X_lead_25n, r_X_lead_26, r_X_lead_29, r_X_lead_30, r_X_lead_33, r_X_lead_34, r_X_lead_37, r_X_lead_38, r_X_lead_39, r_X_lead_42, r_X_lead_45, r_X_lead_46, bnd, tl_s, tl_n, wt_nil, wt_int, wt_ref, wt_null, wt_long, Nat.reduceAdd, Nat.reduceLeDiff, if_true, if_false, decide_true, Bool.true_and, Bool.and_true, zok_n0, zok_n1, zok_bI, bI_eq0, bI_eq1, Bool.true_eq_false, Bool.false_eq_true, not_false_eq_true, not_true_eq_false, decide_false, decide_eq_false_iff_not, decide_eq_true_eq, Classical.not_not, ite_not, lit, Nat.reduceEqDiff, Nat.reduceLT, nI_add, nI_lt', nI_le', nI_eq', nI_sub', pk_mul, nI_rem', nI_div', nI_nz, remN, clampN, inb_nI, Nat.not_lt_zero, Nat.zero_le, Nat.le_zero_eq, if_true, if_false, m1_lt0, m1_eq, t_ite, f_ite]
    rw [if_pos (by omega)]
    rfl
  | succ n ih =>
    intro o ho
    have h2 := ih (o + 1) (by omega)
    rw [r_X_lead_11, ldo]
    cases hb : isO o with
    | true =>
      have h9 := lf_lt (V := V) (k := k) hb 3 (by decide)
      simp (disch := omega) only [r_X_lead_12, r_X_lead_15, r_X_lead_18, r_X_lead_19, r_X_lead_22, r_X_lead_25, r_X_lead_25n, r_X_lead_26, r_X_lead_29, r_X_lead_30, r_X_lead_33, r_X_lead_34, r_X_lead_37, r_X_lead_38, r_X_lead_39, r_X_lead_42, r_X_lead_45, r_X_lead_46, bnd, tl_s, tl_n, wt_nil, wt_int, wt_ref, wt_null, wt_long, Nat.reduceAdd, Nat.reduceLeDiff, if_true, if_false, decide_true, Bool.true_and, Bool.and_true, zok_n0, zok_n1, zok_bI, bI_eq0, bI_eq1, Bool.true_eq_false, Bool.false_eq_true, not_false_eq_true, not_true_eq_false, decide_false, decide_eq_false_iff_not, decide_eq_true_eq, Classical.not_not, ite_not, lit, Nat.reduceEqDiff, Nat.reduceLT, nI_add, nI_lt', nI_le', nI_eq', nI_sub', pk_mul, nI_rem', nI_div', nI_nz, remN, clampN, inb_nI, Nat.not_lt_zero, Nat.zero_le, Nat.le_zero_eq, if_true, if_false, m1_lt0, m1_eq, t_ite, f_ite, oF_0, oO_0, hC.1, vrf_s, y_isOrderN, hb, y_leftBy hC hb]
      rw [if_neg (by omega)]
      by_cases e : lf V k o 3 = a
      · rw [if_pos e, if_pos ⟨trivial, e⟩]
      · rw [if_neg e, if_neg (fun z => e z.2)]
        exact h2
    | false =>
      simp (disch := omega) only [r_X_lead_12, r_X_lead_15, r_X_lead_18, r_X_lead_19, r_X_lead_22, r_X_lead_25, r_X_lead_25n, r_X_lead_26, r_X_lead_29, r_X_lead_30, r_X_lead_33, r_X_lead_34, r_X_lead_37, r_X_lead_38, r_X_lead_39, r_X_lead_42, r_X_lead_45, r_X_lead_46, bnd, tl_s, tl_n, wt_nil, wt_int, wt_ref, wt_null, wt_long, Nat.reduceAdd, Nat.reduceLeDiff, if_true, if_false, decide_true, Bool.true_and, Bool.and_true, zok_n0, zok_n1, zok_bI, bI_eq0, bI_eq1, Bool.true_eq_false, Bool.false_eq_true, not_false_eq_true, not_true_eq_false, decide_false, decide_eq_false_iff_not, decide_eq_true_eq, Classical.not_not, ite_not, lit, Nat.reduceEqDiff, Nat.reduceLT, nI_add, nI_lt', nI_le', nI_eq', nI_sub', pk_mul, nI_rem', nI_div', nI_nz, remN, clampN, inb_nI, Nat.not_lt_zero, Nat.zero_le, Nat.le_zero_eq, if_true, if_false, m1_lt0, m1_eq, t_ite, f_ite, oF_0, oO_0, hC.1, vrf_s, y_isOrderN, hb]
      rw [if_neg (by omega), if_neg (fun z => by cases z.1)]
      exact h2
theorem l_leadM {a : Nat} (hM : VMo M k V) (ha : a < 4) : ∀ n o, o + n = 3211 → 123 ≤ o → run (ev (d + 4)) m_M_lead 12 [some (.ref 174), some (.int (nI a)), some (.int (nI o))] [] NX M = some (some (.int (ldo V k a n o)), NX, M) := by
  intro n
  induction n with
  | zero =>
    intro o ho _
    rw [r_M_lead_12]
    simp (disch := omega) only [r_M_lead_13, r_M_lead_16, r_M_lead_19, r_M_lead_20, r_M_lead_23, r_M_lead_26, r_M_lead_26n, r_M_lead_27, r_M_lead_28, r_M_lead_31, r_M_lead_32, r_M_lead_35, r_M_lead_36, r_M_lead_37, r_M_lead_40, r_M_lead_43, r_M_lead_44, bnd, tl_s, tl_n, wt_nil, wt_int, wt_ref, wt_null, wt_long, Nat.reduceAdd, Nat.reduceLeDiff, if_true, if_false, decide_true, Bool.true_and, Bool.and_true, zok_n0, zok_n1, zok_bI, bI_eq0, bI_eq1, Bool.true_eq_false, Bool.false_eq_true, not_false_eq_true, not_true_eq_false, decide_false, decide_eq_false_iff_not, decide_eq_true_eq, Classical.not_not, ite_not, lit, Nat.reduceEqDiff, Nat.reduceLT, nI_add, nI_lt', nI_le', nI_eq', nI_sub', pk_mul, nI_rem', nI_div', nI_nz, remN, clampN, inb_nI, Nat.not_lt_zero, Nat.zero_le, Nat.le_zero_eq, if_true, if_false, m1_lt0, m1_eq, t_ite, f_ite]
    rw [if_pos (by omega)]
    rfl
  | succ n ih =>
    intro o ho h123
    have h2 := ih (o + 1) (by omega) (by omega)
    rw [r_M_lead_12, ldo]
    cases hb : isO o with
    | true =>
      have h9 := lf_lt (V := V) (k := k) hb 3 (by decide)
      simp (disch := omega) only [r_M_lead_13, r_M_lead_16, r_M_lead_19, r_M_lead_20, r_M_lead_23, r_M_lead_26, r_M_lead_26n, r_M_lead_27, r_M_lead_28, r_M_lead_31, r_M_lead_32, r_M_lead_35, r_M_lead_36, r_M_lead_37, r_M_lead_40, r_M_lead_43, r_M_lead_44, bnd, tl_s, tl_n, wt_nil, wt_int, wt_ref, wt_null, wt_long, Nat.reduceAdd, Nat.reduceLeDiff, if_true, if_false, decide_true, Bool.true_and, Bool.and_true, zok_n0, zok_n1, zok_bI, bI_eq0, bI_eq1, Bool.true_eq_false, Bool.false_eq_true, not_false_eq_true, not_true_eq_false, decide_false, decide_eq_false_iff_not, decide_eq_true_eq, Classical.not_not, ite_not, lit, Nat.reduceEqDiff, Nat.reduceLT, nI_add, nI_lt', nI_le', nI_eq', nI_sub', pk_mul, nI_rem', nI_div', nI_nz, remN, clampN, inb_nI, Nat.not_lt_zero, Nat.zero_le, Nat.le_zero_eq, if_true, if_false, m1_lt0, m1_eq, t_ite, f_ite, oF_174, oO_174, mO_M_leftBy, x_isOrderN, hb, x_leftBy hM hb]
      rw [if_neg (by omega)]
      by_cases e : lf V k o 3 = a
      · rw [if_pos e, if_pos ⟨trivial, e⟩]
      · rw [if_neg e, if_neg (fun z => e z.2)]
        exact h2
    | false =>
      simp (disch := omega) only [r_M_lead_13, r_M_lead_16, r_M_lead_19, r_M_lead_20, r_M_lead_23, r_M_lead_26, r_M_lead_26n, r_M_lead_27, r_M_lead_28, r_M_lead_31, r_M_lead_32, r_M_lead_35, r_M_lead_36, r_M_lead_37, r_M_lead_40, r_M_lead_43, r_M_lead_44, bnd, tl_s, tl_n, wt_nil, wt_int, wt_ref, wt_null, wt_long, Nat.reduceAdd, Nat.reduceLeDiff, if_true, if_false, decide_true, Bool.true_and, Bool.and_true, zok_n0, zok_n1, zok_bI, bI_eq0, bI_eq1, Bool.true_eq_false, Bool.false_eq_true, not_false_eq_true, not_true_eq_false, decide_false, decide_eq_false_iff_not, decide_eq_true_eq, Classical.not_not, ite_not, lit, Nat.reduceEqDiff, Nat.reduceLT, nI_add, nI_lt', nI_le', nI_eq', nI_sub', pk_mul, nI_rem', nI_div', nI_nz, remN, clampN, inb_nI, Nat.not_lt_zero, Nat.zero_le, Nat.le_zero_eq, if_true, if_false, m1_lt0, m1_eq, t_ite, f_ite, x_isOrderN, hb]
      rw [if_neg (by omega), if_neg (fun z => by cases z.1)]
      exact h2
theorem ldo_low {a : Nat} : ∀ m o, o + m = 123 → ldo V k a (3211 - o) o = ldo V k a 3088 123 := by
  intro m
  induction m with
  | zero => intro o h; rw [show o = 123 by omega]
  | succ m ih =>
    intro o h
    have hno : isO o = false := by
      cases hb : isO o with
      | false => rfl
      | true => have := (isO_all o (isO_le hb) hb).1; omega
    rw [show 3211 - o = (3211 - (o + 1)) + 1 by omega, ldo, if_neg (fun z => by rw [hno] at z; cases z.1)]
    exact ih (o + 1) (by omega)
theorem p_lead {v : Int32} (hC : VC M k V) (hM : VMo M k V) : Q2 m_X_lead m_M_lead [.int v] M := by
  rcases opt_cases v with ⟨a, ha, rfl⟩ | hv
  · refine ⟨.int (ldo V k a 3211 0), ?_, ?_⟩
    · rw [e_X_lead]
      simp (disch := omega) only [r_X_lead_0, r_X_lead_1, r_X_lead_4, r_X_lead_7, r_X_lead_8, r_X_lead_9, r_X_lead_10, bnd, tl_s, tl_n, wt_nil, wt_int, wt_ref, wt_null, wt_long, Nat.reduceAdd, Nat.reduceLeDiff, if_true, if_false, decide_true, Bool.true_and, Bool.and_true, zok_n0, zok_n1, zok_bI, bI_eq0, bI_eq1, Bool.true_eq_false, Bool.false_eq_true, not_false_eq_true, not_true_eq_false, decide_false, decide_eq_false_iff_not, decide_eq_true_eq, Classical.not_not, ite_not, lit, Nat.reduceEqDiff, Nat.reduceLT, nI_add, nI_lt', nI_le', nI_eq', nI_sub', pk_mul, nI_rem', nI_div', nI_nz, remN, clampN, inb_nI, Nat.not_lt_zero, Nat.zero_le, Nat.le_zero_eq, if_true, if_false, m1_lt0, m1_eq, t_ite, f_ite, y_isOption1 ha]
      exact l_leadX hC ha 3211 0 rfl
    · rw [e_M_lead]
      simp (disch := omega) only [r_M_lead_0, r_M_lead_1, r_M_lead_4, r_M_lead_7, r_M_lead_8, r_M_lead_9, r_M_lead_11, bnd, tl_s, tl_n, wt_nil, wt_int, wt_ref, wt_null, wt_long, Nat.reduceAdd, Nat.reduceLeDiff, if_true, if_false, decide_true, Bool.true_and, Bool.and_true, zok_n0, zok_n1, zok_bI, bI_eq0, bI_eq1, Bool.true_eq_false, Bool.false_eq_true, not_false_eq_true, not_true_eq_false, decide_false, decide_eq_false_iff_not, decide_eq_true_eq, Classical.not_not, ite_not, lit, Nat.reduceEqDiff, Nat.reduceLT, nI_add, nI_lt', nI_le', nI_eq', nI_sub', pk_mul, nI_rem', nI_div', nI_nz, remN, clampN, inb_nI, Nat.not_lt_zero, Nat.zero_le, Nat.le_zero_eq, if_true, if_false, m1_lt0, m1_eq, t_ite, f_ite, x_isOption ha]
      rw [ldo_low 123 0 rfl]
      exact l_leadM hM ha 3088 123 rfl (by decide)
  · refine ⟨.int (-nI 1), ?_, ?_⟩
    · rw [e_X_lead]
      simp (disch := omega) only [r_X_lead_0, r_X_lead_1, r_X_lead_4, r_X_lead_7, r_X_lead_8, r_X_lead_9, r_X_lead_10, bnd, tl_s, tl_n, wt_nil, wt_int, wt_ref, wt_null, wt_long, Nat.reduceAdd, Nat.reduceLeDiff, if_true, if_false, decide_true, Bool.true_and, Bool.and_true, zok_n0, zok_n1, zok_bI, bI_eq0, bI_eq1, Bool.true_eq_false, Bool.false_eq_true, not_false_eq_true, not_true_eq_false, decide_false, decide_eq_false_iff_not, decide_eq_true_eq, Classical.not_not, ite_not, lit, Nat.reduceEqDiff, Nat.reduceLT, nI_add, nI_lt', nI_le', nI_eq', nI_sub', pk_mul, nI_rem', nI_div', nI_nz, remN, clampN, inb_nI, Nat.not_lt_zero, Nat.zero_le, Nat.le_zero_eq, if_true, if_false, m1_lt0, m1_eq, t_ite, f_ite, (isOption_no hv).1]
    · rw [e_M_lead]
      simp (disch := omega) only [r_M_lead_0, r_M_lead_1, r_M_lead_4, r_M_lead_7, r_M_lead_8, r_M_lead_9, r_M_lead_11, bnd, tl_s, tl_n, wt_nil, wt_int, wt_ref, wt_null, wt_long, Nat.reduceAdd, Nat.reduceLeDiff, if_true, if_false, decide_true, Bool.true_and, Bool.and_true, zok_n0, zok_n1, zok_bI, bI_eq0, bI_eq1, Bool.true_eq_false, Bool.false_eq_true, not_false_eq_true, not_true_eq_false, decide_false, decide_eq_false_iff_not, decide_eq_true_eq, Classical.not_not, ite_not, lit, Nat.reduceEqDiff, Nat.reduceLT, nI_add, nI_lt', nI_le', nI_eq', nI_sub', pk_mul, nI_rem', nI_div', nI_nz, remN, clampN, inb_nI, Nat.not_lt_zero, Nat.zero_le, Nat.le_zero_eq, if_true, if_false, m1_lt0, m1_eq, t_ite, f_ite, (isOption_no hv).2]
/-! score -/
def scr (V : Nat → Nat) (k a : Nat) : Nat → Int32
  | 0 => nI 0
  | u + 1 => if u = a then scr V k a u else if mg V a u k ≤ nI 0 then (if nI 0 ≤ mg V a u k then scr V k a u else scr V k a u + -nI 1) else scr V k a u + nI 1
theorem l_scoreM {a u : Nat} (hM : VMo M k V) (ha : a < 4) (hu : u < 4) : run (ev (d + 3)) m_M_score 14 [some (.ref 174), some (.int (nI a)), some (.int (scr V k a u)), some (.int (nI u))] [] NX M = run (ev (d + 3)) m_M_score 14 [some (.ref 174), some (.int (nI a)), some (.int (scr V k a (u + 1))), some (.int (nI (u + 1)))] [] NX M := by
  rw [r_M_score_14]
  simp (disch := omega) only [r_M_score_15, r_M_score_16, r_M_score_19, r_M_score_20, r_M_score_21, r_M_score_24, r_M_score_25, r_M_score_25n, r_M_score_26, r_M_score_27, r_M_score_28, r_M_score_31, r_M_score_34, r_M_score_35, r_M_score_38, r_M_score_38n, r_M_score_39, r_M_score_40, r_M_score_41, r_M_score_44, r_M_score_47, r_M_score_48, r_M_score_51, r_M_score_52, r_M_score_53, r_M_score_54, r_M_score_57, bnd, tl_s, tl_n, wt_nil, wt_int, wt_ref, wt_null, wt_long, Nat.reduceAdd, Nat.reduceLeDiff, if_true, if_false, decide_true, Bool.true_and, Bool.and_true, zok_n0, zok_n1, zok_bI, bI_eq0, bI_eq1, Bool.true_eq_false, Bool.false_eq_true, not_false_eq_true, not_true_eq_false, decide_false, decide_eq_false_iff_not, decide_eq_true_eq, Classical.not_not, ite_not, lit, Nat.reduceEqDiff, Nat.reduceLT, nI_add, nI_lt', nI_le', nI_eq', nI_sub', pk_mul, nI_rem', nI_div', nI_nz, remN, clampN, inb_nI, Nat.not_lt_zero, Nat.zero_le, Nat.le_zero_eq, if_true, if_false, m1_lt0, m1_eq, t_ite, f_ite, oF_174, oO_174, mO_M_more, x_moreV hM ha hu]
  rw [if_neg (by omega), scr]
  by_cases e : u = a
  · rw [if_pos e, if_pos e]
  · rw [if_neg e, if_neg e]
    by_cases h1 : mg V a u k ≤ nI 0
    · rw [if_pos h1, if_pos h1]
      by_cases h2 : nI 0 ≤ mg V a u k
      · rw [if_pos h2, if_pos h2]
        rw [show nI 0 = 0 from rfl, Int32.add_zero]
      · rw [if_neg h2, if_neg h2]
    · rw [if_neg h1, if_neg h1]
theorem l_scoreX {a u : Nat} {z : Option Value} (hC : VC M k V) (ha : a < 4) (hu : u < 4) : ∃ z', run (ev (d + 3)) m_Bal_scoreOf 4 [some (.ref 1), some (.int (nI a)), some (.int (scr V k a u)), some (.int (nI u)), z] [] NX M = run (ev (d + 3)) m_Bal_scoreOf 4 [some (.ref 1), some (.int (nI a)), some (.int (scr V k a (u + 1))), some (.int (nI (u + 1))), z'] [] NX M := by
  by_cases e : u = a
  · refine ⟨some (.int (nI 0)), ?_⟩
    rw [r_Bal_scoreOf_4]
    simp (disch := omega) only [r_Bal_scoreOf_5, r_Bal_scoreOf_6, r_Bal_scoreOf_9, r_Bal_scoreOf_10, r_Bal_scoreOf_11, r_Bal_scoreOf_14, r_Bal_scoreOf_15, r_Bal_scoreOf_18, r_Bal_scoreOf_18n, r_Bal_scoreOf_19, r_Bal_scoreOf_20, r_Bal_scoreOf_21, r_Bal_scoreOf_24, r_Bal_scoreOf_26, r_Bal_scoreOf_28, r_Bal_scoreOf_31, r_Bal_scoreOf_34, r_Bal_scoreOf_37, r_Bal_scoreOf_39, r_Bal_scoreOf_42, r_Bal_scoreOf_45, r_Bal_scoreOf_48, bnd, tl_s, tl_n, wt_nil, wt_int, wt_ref, wt_null, wt_long, Nat.reduceAdd, Nat.reduceLeDiff, if_true, if_false, decide_true, Bool.true_and, Bool.and_true, zok_n0, zok_n1, zok_bI, bI_eq0, bI_eq1, Bool.true_eq_false, Bool.false_eq_true, not_false_eq_true, not_true_eq_false, decide_false, decide_eq_false_iff_not, decide_eq_true_eq, Classical.not_not, ite_not, lit, Nat.reduceEqDiff, Nat.reduceLT, nI_add, nI_lt', nI_le', nI_eq', nI_sub', pk_mul, nI_rem', nI_div', nI_nz, remN, clampN, inb_nI, Nat.not_lt_zero, Nat.zero_le, Nat.le_zero_eq, if_true, if_false, m1_lt0, m1_eq, t_ite, f_ite, e]
    rw [if_neg (by omega), scr, if_pos rfl]
  · refine ⟨some (.int (mg V a u k)), ?_⟩
    rw [r_Bal_scoreOf_4]
    simp (disch := omega) only [r_Bal_scoreOf_5, r_Bal_scoreOf_6, r_Bal_scoreOf_9, r_Bal_scoreOf_10, r_Bal_scoreOf_11, r_Bal_scoreOf_14, r_Bal_scoreOf_15, r_Bal_scoreOf_18, r_Bal_scoreOf_18n, r_Bal_scoreOf_19, r_Bal_scoreOf_20, r_Bal_scoreOf_21, r_Bal_scoreOf_24, r_Bal_scoreOf_26, r_Bal_scoreOf_28, r_Bal_scoreOf_31, r_Bal_scoreOf_34, r_Bal_scoreOf_37, r_Bal_scoreOf_39, r_Bal_scoreOf_42, r_Bal_scoreOf_45, r_Bal_scoreOf_48, bnd, tl_s, tl_n, wt_nil, wt_int, wt_ref, wt_null, wt_long, Nat.reduceAdd, Nat.reduceLeDiff, if_true, if_false, decide_true, Bool.true_and, Bool.and_true, zok_n0, zok_n1, zok_bI, bI_eq0, bI_eq1, Bool.true_eq_false, Bool.false_eq_true, not_false_eq_true, not_true_eq_false, decide_false, decide_eq_false_iff_not, decide_eq_true_eq, Classical.not_not, ite_not, lit, Nat.reduceEqDiff, Nat.reduceLT, nI_add, nI_lt', nI_le', nI_eq', nI_sub', pk_mul, nI_rem', nI_div', nI_nz, remN, clampN, inb_nI, Nat.not_lt_zero, Nat.zero_le, Nat.le_zero_eq, if_true, if_false, m1_lt0, m1_eq, t_ite, f_ite, e, y_margin hC ha hu]
    rw [if_neg (by omega), scr, if_neg e]
    by_cases h1 : mg V a u k ≤ nI 0
    · rw [if_pos h1, if_pos h1]
      by_cases h2 : nI 0 ≤ mg V a u k
      · rw [if_pos h2, if_pos h2]
      · rw [if_neg h2, if_neg h2]
    · rw [if_neg h1, if_neg h1]
theorem y_scoreOf {a : Nat} (hC : VC M k V) (ha : a < 4) : ev (d + 4) m_Bal_scoreOf [.ref 1, .int (nI a)] NX M = some (some (.int (scr V k a 4)), NX, M) := by
  rw [e_Bal_scoreOf]
  simp only [r_Bal_scoreOf_0, r_Bal_scoreOf_1, r_Bal_scoreOf_2, r_Bal_scoreOf_3, lit]
  obtain ⟨z1, e1⟩ := l_scoreX (d := d) (z := none) (u := 0) hC ha (by decide)
  obtain ⟨z2, e2⟩ := l_scoreX (d := d) (z := z1) (u := 1) hC ha (by decide)
  obtain ⟨z3, e3⟩ := l_scoreX (d := d) (z := z2) (u := 2) hC ha (by decide)
  obtain ⟨z4, e4⟩ := l_scoreX (d := d) (z := z3) (u := 3) hC ha (by decide)
  have e0 : nI 0 = scr V k a 0 := rfl
  rw [show run (ev (d + 3)) m_Bal_scoreOf 4 [some (.ref 1), some (.int (nI a)), some (.int (nI 0)), some (.int (nI 0)), none] [] NX M = _ from e1, e2, e3, e4]
  simp (disch := omega) only [r_Bal_scoreOf_4, r_Bal_scoreOf_5, r_Bal_scoreOf_6, r_Bal_scoreOf_51, r_Bal_scoreOf_52, bnd, tl_s, tl_n, wt_nil, wt_int, wt_ref, wt_null, wt_long, Nat.reduceAdd, Nat.reduceLeDiff, if_true, if_false, decide_true, Bool.true_and, Bool.and_true, zok_n0, zok_n1, zok_bI, bI_eq0, bI_eq1, Bool.true_eq_false, Bool.false_eq_true, not_false_eq_true, not_true_eq_false, decide_false, decide_eq_false_iff_not, decide_eq_true_eq, Classical.not_not, ite_not, lit, Nat.reduceEqDiff, Nat.reduceLT, nI_add, nI_lt', nI_le', nI_eq', nI_sub', pk_mul, nI_rem', nI_div', nI_nz, remN, clampN, inb_nI, Nat.not_lt_zero, Nat.zero_le, Nat.le_zero_eq, if_true, if_false, m1_lt0, m1_eq, t_ite, f_ite]
theorem p_score {v : Int32} (hC : VC M k V) (hM : VMo M k V) : Q2 m_X_score m_M_score [.int v] M := by
  rcases opt_cases v with ⟨a, ha, rfl⟩ | hv
  · refine ⟨.int (scr V k a 4), ?_, ?_⟩
    · rw [e_X_score]
      simp (disch := omega) only [r_X_score_0, r_X_score_1, r_X_score_4, r_X_score_7, r_X_score_7n, r_X_score_8, r_X_score_11, r_X_score_12, r_X_score_15, r_X_score_18, r_X_score_20, bnd, tl_s, tl_n, wt_nil, wt_int, wt_ref, wt_null, wt_long, Nat.reduceAdd, Nat.reduceLeDiff, if_true, if_false, decide_true, Bool.true_and, Bool.and_true, zok_n0, zok_n1, zok_bI, bI_eq0, bI_eq1, Bool.true_eq_false, Bool.false_eq_true, not_false_eq_true, not_true_eq_false, decide_false, decide_eq_false_iff_not, decide_eq_true_eq, Classical.not_not, ite_not, lit, Nat.reduceEqDiff, Nat.reduceLT, nI_add, nI_lt', nI_le', nI_eq', nI_sub', pk_mul, nI_rem', nI_div', nI_nz, remN, clampN, inb_nI, Nat.not_lt_zero, Nat.zero_le, Nat.le_zero_eq, if_true, if_false, m1_lt0, m1_eq, t_ite, f_ite, oF_0, oO_0, hC.1, vrf_s, y_isOption1 ha, y_scoreOf hC ha]
    · rw [e_M_score]
      simp (disch := omega) only [r_M_score_0, r_M_score_1, r_M_score_4, r_M_score_7, r_M_score_9, r_M_score_10, r_M_score_11, r_M_score_12, r_M_score_13, bnd, tl_s, tl_n, wt_nil, wt_int, wt_ref, wt_null, wt_long, Nat.reduceAdd, Nat.reduceLeDiff, if_true, if_false, decide_true, Bool.true_and, Bool.and_true, zok_n0, zok_n1, zok_bI, bI_eq0, bI_eq1, Bool.true_eq_false, Bool.false_eq_true, not_false_eq_true, not_true_eq_false, decide_false, decide_eq_false_iff_not, decide_eq_true_eq, Classical.not_not, ite_not, lit, Nat.reduceEqDiff, Nat.reduceLT, nI_add, nI_lt', nI_le', nI_eq', nI_sub', pk_mul, nI_rem', nI_div', nI_nz, remN, clampN, inb_nI, Nat.not_lt_zero, Nat.zero_le, Nat.le_zero_eq, if_true, if_false, m1_lt0, m1_eq, t_ite, f_ite, x_isOption ha]
      rw [show run (ev 99) m_M_score 14 [some (.ref 174), some (.int (nI a)), some (.int (nI 0)), some (.int (nI 0))] [] NX M = _ from l_scoreM (d := 96) (u := 0) hM ha (by decide), l_scoreM (d := 96) (u := 1) hM ha (by decide), l_scoreM (d := 96) (u := 2) hM ha (by decide), l_scoreM (d := 96) (u := 3) hM ha (by decide)]
      simp (disch := omega) only [r_M_score_14, r_M_score_15, r_M_score_16, r_M_score_60, r_M_score_61, bnd, tl_s, tl_n, wt_nil, wt_int, wt_ref, wt_null, wt_long, Nat.reduceAdd, Nat.reduceLeDiff, if_true, if_false, decide_true, Bool.true_and, Bool.and_true, zok_n0, zok_n1, zok_bI, bI_eq0, bI_eq1, Bool.true_eq_false, Bool.false_eq_true, not_false_eq_true, not_true_eq_false, decide_false, decide_eq_false_iff_not, decide_eq_true_eq, Classical.not_not, ite_not, lit, Nat.reduceEqDiff, Nat.reduceLT, nI_add, nI_lt', nI_le', nI_eq', nI_sub', pk_mul, nI_rem', nI_div', nI_nz, remN, clampN, inb_nI, Nat.not_lt_zero, Nat.zero_le, Nat.le_zero_eq, if_true, if_false, m1_lt0, m1_eq, t_ite, f_ite]
  · refine ⟨.int (-nI 100), ?_, ?_⟩
    · rw [e_X_score]
      simp (disch := omega) only [r_X_score_0, r_X_score_1, r_X_score_4, r_X_score_7, r_X_score_7n, r_X_score_8, r_X_score_11, r_X_score_12, r_X_score_15, r_X_score_18, r_X_score_20, bnd, tl_s, tl_n, wt_nil, wt_int, wt_ref, wt_null, wt_long, Nat.reduceAdd, Nat.reduceLeDiff, if_true, if_false, decide_true, Bool.true_and, Bool.and_true, zok_n0, zok_n1, zok_bI, bI_eq0, bI_eq1, Bool.true_eq_false, Bool.false_eq_true, not_false_eq_true, not_true_eq_false, decide_false, decide_eq_false_iff_not, decide_eq_true_eq, Classical.not_not, ite_not, lit, Nat.reduceEqDiff, Nat.reduceLT, nI_add, nI_lt', nI_le', nI_eq', nI_sub', pk_mul, nI_rem', nI_div', nI_nz, remN, clampN, inb_nI, Nat.not_lt_zero, Nat.zero_le, Nat.le_zero_eq, if_true, if_false, m1_lt0, m1_eq, t_ite, f_ite, (isOption_no hv).1]
    · rw [e_M_score]
      simp (disch := omega) only [r_M_score_0, r_M_score_1, r_M_score_4, r_M_score_7, r_M_score_9, r_M_score_10, r_M_score_11, r_M_score_12, r_M_score_13, bnd, tl_s, tl_n, wt_nil, wt_int, wt_ref, wt_null, wt_long, Nat.reduceAdd, Nat.reduceLeDiff, if_true, if_false, decide_true, Bool.true_and, Bool.and_true, zok_n0, zok_n1, zok_bI, bI_eq0, bI_eq1, Bool.true_eq_false, Bool.false_eq_true, not_false_eq_true, not_true_eq_false, decide_false, decide_eq_false_iff_not, decide_eq_true_eq, Classical.not_not, ite_not, lit, Nat.reduceEqDiff, Nat.reduceLT, nI_add, nI_lt', nI_le', nI_eq', nI_sub', pk_mul, nI_rem', nI_div', nI_nz, remN, clampN, inb_nI, Nat.not_lt_zero, Nat.zero_le, Nat.le_zero_eq, if_true, if_false, m1_lt0, m1_eq, t_ite, f_ite, (isOption_no hv).2]
end V4
