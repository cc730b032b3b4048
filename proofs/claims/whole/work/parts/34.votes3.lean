/-! VOTES: agendas, winners; the calls themselves -/
def lf (V : Nat → Nat) (k o : Nat) : Nat → Nat
  | 0 => dig o 0
  | j + 1 => if mg V (dig o (j + 1)) (lf V k o j) k ≤ nI 0 then lf V k o j else dig o (j + 1)
theorem lf_lt {V : Nat → Nat} {k o : Nat} (h : isO o = true) : ∀ j, j < 4 → lf V k o j < 4 := by
  intro j
  induction j with
  | zero => intro _; exact dig4 h (by decide)
  | succ j ih =>
    intro hj
    rw [lf]
    split
    · exact ih (by omega)
    · exact dig4 h hj
/-- a question that changes nothing: both sides answer alike -/
def Q2 (yX yM : Nat) (as : List Value) (M : Mem) : Prop := ∃ r, ev 100 yX (.ref 0 :: as) NX M = some (some r, NX, M) ∧ ev 100 yM (.ref 174 :: as) NX M = some (some r, NX, M)
section V3
variable {d nx : Nat} {M : Mem} {k : Nat} {V : Nat → Nat}
theorem x_moreV {a b : Nat} (hM : VMo M k V) (ha : a < 4) (hb : b < 4) : ev (d + 3) m_M_more [.ref 174, .int (nI a), .int (nI b)] NX M = some (some (.int (mg V a b k)), NX, M) := x_more hM.1 hM.2.1 hM.2.2.1 hM.2.2.2 ha hb
theorem l_leftBy {o j : Nat} (hM : VMo M k V) (h : isO o = true) (hj : j < 3) : run (ev (d + 3)) m_M_leftBy 8 [some (.ref 174), some (.int (nI o)), some (.int (nI (lf V k o j))), some (.int (nI (j + 1)))] [] NX M = run (ev (d + 3)) m_M_leftBy 8 [some (.ref 174), some (.int (nI o)), some (.int (nI (lf V k o (j + 1)))), some (.int (nI (j + 2)))] [] NX M := by
  have h1 := lf_lt (V := V) (k := k) h j (by omega)
  have h2 := dig4 (j := j + 1) h (by omega)
  have h3 := isO_le h
  rw [r_M_leftBy_8]
  simp (disch := omega) only [r_M_leftBy_9, r_M_leftBy_10, r_M_leftBy_13, r_M_leftBy_13n, r_M_leftBy_14, r_M_leftBy_15, r_M_leftBy_16, r_M_leftBy_19, r_M_leftBy_20, r_M_leftBy_23, r_M_leftBy_26, r_M_leftBy_27, r_M_leftBy_28, r_M_leftBy_31, r_M_leftBy_34, r_M_leftBy_35, r_M_leftBy_36, r_M_leftBy_39, bnd, tl_s, tl_n, wt_nil, wt_int, wt_ref, wt_null, wt_long, Nat.reduceAdd, Nat.reduceLeDiff, if_true, if_false, decide_true, Bool.true_and, Bool.and_true, zok_n0, zok_n1, zok_bI, bI_eq0, bI_eq1, Bool.true_eq_false, Bool.false_eq_true, not_false_eq_true, not_true_eq_false, decide_false, decide_eq_false_iff_not, decide_eq_true_eq, Classical.not_not, ite_not, lit, nI_add, nI_lt', nI_le', nI_eq', nI_sub', pk_mul, nI_rem', nI_div', nI_nz, remN, clampN, inb_nI, Nat.not_lt_zero, Nat.zero_le, Nat.le_zero_eq, if_true, if_false, m1_lt0, m1_eq, t_ite, f_ite, oF_174, oO_174, mO_M_more, x_digitOf, x_moreV hM h2 h1]
  rw [if_neg (by omega), lf]
  by_cases hc : mg V (dig o (j + 1)) (lf V k o j) k ≤ nI 0
  · rw [if_pos hc, if_pos hc]
  · rw [if_neg hc, if_neg hc]
theorem x_leftBy {o : Nat} (hM : VMo M k V) (h : isO o = true) : ev (d + 4) m_M_leftBy [.ref 174, .int (nI o)] NX M = some (some (.int (nI (lf V k o 3))), NX, M) := by
  have h3 := isO_le h
  rw [e_M_leftBy]
  simp (disch := omega) only [r_M_leftBy_0, r_M_leftBy_1, r_M_leftBy_2, r_M_leftBy_5, r_M_leftBy_6, r_M_leftBy_7, bnd, tl_s, tl_n, wt_nil, wt_int, wt_ref, wt_null, wt_long, Nat.reduceAdd, Nat.reduceLeDiff, if_true, if_false, decide_true, Bool.true_and, Bool.and_true, zok_n0, zok_n1, zok_bI, bI_eq0, bI_eq1, Bool.true_eq_false, Bool.false_eq_true, not_false_eq_true, not_true_eq_false, decide_false, decide_eq_false_iff_not, decide_eq_true_eq, Classical.not_not, ite_not, lit, x_digitOf]
  have e : dig o 0 = lf V k o 0 := rfl
  rw [e, l_leftBy (j := 0) hM h (by decide), l_leftBy (j := 1) hM h (by decide), l_leftBy (j := 2) hM h (by decide)]
  simp (disch := omega) only [r_M_leftBy_8, r_M_leftBy_9, r_M_leftBy_10, r_M_leftBy_42, r_M_leftBy_43, bnd, tl_s, tl_n, wt_nil, wt_int, wt_ref, wt_null, wt_long, Nat.reduceAdd, Nat.reduceLeDiff, if_true, if_false, decide_true, Bool.true_and, Bool.and_true, zok_n0, zok_n1, zok_bI, bI_eq0, bI_eq1, Bool.true_eq_false, Bool.false_eq_true, not_false_eq_true, not_true_eq_false, decide_false, decide_eq_false_iff_not, decide_eq_true_eq, Classical.not_not, ite_not, lit, nI_add, nI_lt', nI_le', nI_eq', nI_sub', pk_mul, nI_rem', nI_div', nI_nz, remN, clampN, inb_nI, Nat.not_lt_zero, Nat.zero_le, Nat.le_zero_eq, if_true, if_false, m1_lt0, m1_eq, t_ite, f_ite]
theorem m_leftBy {o j : Nat} {z : Option Value} (hC : VC M k V) (h : isO o = true) (hj : j < 3) : ∃ z', run (ev (d + 3)) m_Bal_leftBy 8 [some (.ref 1), some (.int (nI o)), some (.int (nI (lf V k o j))), some (.int (nI (j + 1))), z] [] NX M = run (ev (d + 3)) m_Bal_leftBy 8 [some (.ref 1), some (.int (nI o)), some (.int (nI (lf V k o (j + 1)))), some (.int (nI (j + 2))), z'] [] NX M := by
  have h1 := lf_lt (V := V) (k := k) h j (by omega)
  have h2 := dig4 (j := j + 1) h (by omega)
  have h3 := isO_le h
  refine ⟨some (.int (nI (dig o (j + 1)))), ?_⟩
  rw [r_Bal_leftBy_8]
  simp (disch := omega) only [r_Bal_leftBy_9, r_Bal_leftBy_10, r_Bal_leftBy_13, r_Bal_leftBy_14, r_Bal_leftBy_15, r_Bal_leftBy_18, r_Bal_leftBy_20, r_Bal_leftBy_20n, r_Bal_leftBy_21, r_Bal_leftBy_23, r_Bal_leftBy_24, r_Bal_leftBy_27, r_Bal_leftBy_30, r_Bal_leftBy_32, r_Bal_leftBy_33, r_Bal_leftBy_36, bnd, tl_s, tl_n, wt_nil, wt_int, wt_ref, wt_null, wt_long, Nat.reduceAdd, Nat.reduceLeDiff, if_true, if_false, decide_true, Bool.true_and, Bool.and_true, zok_n0, zok_n1, zok_bI, bI_eq0, bI_eq1, Bool.true_eq_false, Bool.false_eq_true, not_false_eq_true, not_true_eq_false, decide_false, decide_eq_false_iff_not, decide_eq_true_eq, Classical.not_not, ite_not, lit, nI_add, nI_lt', nI_le', nI_eq', nI_sub', pk_mul, nI_rem', nI_div', nI_nz, remN, clampN, inb_nI, Nat.not_lt_zero, Nat.zero_le, Nat.le_zero_eq, if_true, if_false, m1_lt0, m1_eq, t_ite, f_ite, y_optionAt, y_margin hC h2 h1]
  rw [if_neg (by omega), lf]
  by_cases hc : mg V (dig o (j + 1)) (lf V k o j) k ≤ nI 0
  · rw [if_pos hc, if_pos hc]
  · rw [if_neg hc, if_neg hc]
theorem y_leftBy {o : Nat} (hC : VC M k V) (h : isO o = true) : ev (d + 4) m_Bal_leftBy [.ref 1, .int (nI o)] NX M = some (some (.int (nI (lf V k o 3))), NX, M) := by
  have h3 := isO_le h
  rw [e_Bal_leftBy]
  simp (disch := omega) only [r_Bal_leftBy_0, r_Bal_leftBy_1, r_Bal_leftBy_2, r_Bal_leftBy_5, r_Bal_leftBy_6, r_Bal_leftBy_7, bnd, tl_s, tl_n, wt_nil, wt_int, wt_ref, wt_null, wt_long, Nat.reduceAdd, Nat.reduceLeDiff, if_true, if_false, decide_true, Bool.true_and, Bool.and_true, zok_n0, zok_n1, zok_bI, bI_eq0, bI_eq1, Bool.true_eq_false, Bool.false_eq_true, not_false_eq_true, not_true_eq_false, decide_false, decide_eq_false_iff_not, decide_eq_true_eq, Classical.not_not, ite_not, lit, y_optionAt]
  have e : dig o 0 = lf V k o 0 := rfl
  obtain ⟨z1, e1⟩ := m_leftBy (d := d) (z := none) (j := 0) hC h (by decide)
  obtain ⟨z2, e2⟩ := m_leftBy (d := d) (z := z1) (j := 1) hC h (by decide)
  obtain ⟨z3, e3⟩ := m_leftBy (d := d) (z := z2) (j := 2) hC h (by decide)
  rw [e, e1, e2, e3]
  simp (disch := omega) only [r_Bal_leftBy_8, r_Bal_leftBy_9, r_Bal_leftBy_10, r_Bal_leftBy_39, r_Bal_leftBy_40, bnd, tl_s, tl_n, wt_nil, wt_int, wt_ref, wt_null, wt_long, Nat.reduceAdd, Nat.reduceLeDiff, if_true, if_false, decide_true, Bool.true_and, Bool.and_true, zok_n0, zok_n1, zok_bI, bI_eq0, bI_eq1, Bool.true_eq_false, Bool.false_eq_true, not_false_eq_true, not_true_eq_false, decide_false, decide_eq_false_iff_not, decide_eq_true_eq, Classical.not_not, ite_not, lit, nI_add, nI_lt', nI_le', nI_eq', nI_sub', pk_mul, nI_rem', nI_div', nI_nz, remN, clampN, inb_nI, Nat.not_lt_zero, Nat.zero_le, Nat.le_zero_eq, if_true, if_false, m1_lt0, m1_eq, t_ite, f_ite]
theorem p_agenda {v : Int32} (hC : VC M k V) (hM : VMo M k V) : Q2 m_X_agenda m_M_agenda [.int v] M := by
  rcases ord_cases v with ⟨o, ho, rfl⟩ | hv
  · cases hb : isO o with
    | true =>
      refine ⟨.int (nI (lf V k o 3)), ?_, ?_⟩
      · rw [e_X_agenda]
        simp (disch := omega) only [r_X_agenda_0, r_X_agenda_1, r_X_agenda_4, r_X_agenda_7, r_X_agenda_7n, r_X_agenda_8, r_X_agenda_11, r_X_agenda_12, r_X_agenda_15, r_X_agenda_18, r_X_agenda_19, bnd, tl_s, tl_n, wt_nil, wt_int, wt_ref, wt_null, wt_long, Nat.reduceAdd, Nat.reduceLeDiff, if_true, if_false, decide_true, Bool.true_and, Bool.and_true, zok_n0, zok_n1, zok_bI, bI_eq0, bI_eq1, Bool.true_eq_false, Bool.false_eq_true, not_false_eq_true, not_true_eq_false, decide_false, decide_eq_false_iff_not, decide_eq_true_eq, Classical.not_not, ite_not, lit, nI_add, nI_lt', nI_le', nI_eq', nI_sub', pk_mul, nI_rem', nI_div', nI_nz, remN, clampN, inb_nI, Nat.not_lt_zero, Nat.zero_le, Nat.le_zero_eq, if_true, if_false, m1_lt0, m1_eq, t_ite, f_ite, oF_0, oO_0, hC.1, vrf_s, y_isOrderN, hb, y_leftBy hC hb]
      · rw [e_M_agenda]
        simp (disch := omega) only [r_M_agenda_0, r_M_agenda_1, r_M_agenda_4, r_M_agenda_7, r_M_agenda_7n, r_M_agenda_8, r_M_agenda_9, r_M_agenda_12, r_M_agenda_15, r_M_agenda_16, bnd, tl_s, tl_n, wt_nil, wt_int, wt_ref, wt_null, wt_long, Nat.reduceAdd, Nat.reduceLeDiff, if_true, if_false, decide_true, Bool.true_and, Bool.and_true, zok_n0, zok_n1, zok_bI, bI_eq0, bI_eq1, Bool.true_eq_false, Bool.false_eq_true, not_false_eq_true, not_true_eq_false, decide_false, decide_eq_false_iff_not, decide_eq_true_eq, Classical.not_not, ite_not, lit, nI_add, nI_lt', nI_le', nI_eq', nI_sub', pk_mul, nI_rem', nI_div', nI_nz, remN, clampN, inb_nI, Nat.not_lt_zero, Nat.zero_le, Nat.le_zero_eq, if_true, if_false, m1_lt0, m1_eq, t_ite, f_ite, oF_174, oO_174, mO_M_leftBy, x_isOrderN, hb, x_leftBy hM hb]
    | false =>
      refine ⟨.int (-nI 1), ?_, ?_⟩
      · rw [e_X_agenda]
        simp (disch := omega) only [r_X_agenda_0, r_X_agenda_1, r_X_agenda_4, r_X_agenda_7, r_X_agenda_7n, r_X_agenda_8, r_X_agenda_11, r_X_agenda_12, r_X_agenda_15, r_X_agenda_18, r_X_agenda_19, bnd, tl_s, tl_n, wt_nil, wt_int, wt_ref, wt_null, wt_long, Nat.reduceAdd, Nat.reduceLeDiff, if_true, if_false, decide_true, Bool.true_and, Bool.and_true, zok_n0, zok_n1, zok_bI, bI_eq0, bI_eq1, Bool.true_eq_false, Bool.false_eq_true, not_false_eq_true, not_true_eq_false, decide_false, decide_eq_false_iff_not, decide_eq_true_eq, Classical.not_not, ite_not, lit, nI_add, nI_lt', nI_le', nI_eq', nI_sub', pk_mul, nI_rem', nI_div', nI_nz, remN, clampN, inb_nI, Nat.not_lt_zero, Nat.zero_le, Nat.le_zero_eq, if_true, if_false, m1_lt0, m1_eq, t_ite, f_ite, y_isOrderN, hb]
      · rw [e_M_agenda]
        simp (disch := omega) only [r_M_agenda_0, r_M_agenda_1, r_M_agenda_4, r_M_agenda_7, r_M_agenda_7n, r_M_agenda_8, r_M_agenda_9, r_M_agenda_12, r_M_agenda_15, r_M_agenda_16, bnd, tl_s, tl_n, wt_nil, wt_int, wt_ref, wt_null, wt_long, Nat.reduceAdd, Nat.reduceLeDiff, if_true, if_false, decide_true, Bool.true_and, Bool.and_true, zok_n0, zok_n1, zok_bI, bI_eq0, bI_eq1, Bool.true_eq_false, Bool.false_eq_true, not_false_eq_true, not_true_eq_false, decide_false, decide_eq_false_iff_not, decide_eq_true_eq, Classical.not_not, ite_not, lit, nI_add, nI_lt', nI_le', nI_eq', nI_sub', pk_mul, nI_rem', nI_div', nI_nz, remN, clampN, inb_nI, Nat.not_lt_zero, Nat.zero_le, Nat.le_zero_eq, if_true, if_false, m1_lt0, m1_eq, t_ite, f_ite, x_isOrderN, hb]
  · refine ⟨.int (-nI 1), ?_, ?_⟩
    · rw [e_X_agenda]
      simp (disch := omega) only [r_X_agenda_0, r_X_agenda_1, r_X_agenda_4, r_X_agenda_7, r_X_agenda_7n, r_X_agenda_8, r_X_agenda_11, r_X_agenda_12, r_X_agenda_15, r_X_agenda_18, r_X_agenda_19, bnd, tl_s, tl_n, wt_nil, wt_int, wt_ref, wt_null, wt_long, Nat.reduceAdd, Nat.reduceLeDiff, if_true, if_false, decide_true, Bool.true_and, Bool.and_true, zok_n0, zok_n1, zok_bI, bI_eq0, bI_eq1, Bool.true_eq_false, Bool.false_eq_true, not_false_eq_true, not_true_eq_false, decide_false, decide_eq_false_iff_not, decide_eq_true_eq, Classical.not_not, ite_not, lit, nI_add, nI_lt', nI_le', nI_eq', nI_sub', pk_mul, nI_rem', nI_div', nI_nz, remN, clampN, inb_nI, Nat.not_lt_zero, Nat.zero_le, Nat.le_zero_eq, if_true, if_false, m1_lt0, m1_eq, t_ite, f_ite, (isOrder_no hv).1]
    · rw [e_M_agenda]
      simp (disch := omega) only [r_M_agenda_0, r_M_agenda_1, r_M_agenda_4, r_M_agenda_7, r_M_agenda_7n, r_M_agenda_8, r_M_agenda_9, r_M_agenda_12, r_M_agenda_15, r_M_agenda_16, bnd, tl_s, tl_n, wt_nil, wt_int, wt_ref, wt_null, wt_long, Nat.reduceAdd, Nat.reduceLeDiff, if_true, if_false, decide_true, Bool.true_and, Bool.and_true, zok_n0, zok_n1, zok_bI, bI_eq0, bI_eq1, Bool.true_eq_false, Bool.false_eq_true, not_false_eq_true, not_true_eq_false, decide_false, decide_eq_false_iff_not, decide_eq_true_eq, Classical.not_not, ite_not, lit, nI_add, nI_lt', nI_le', nI_eq', nI_sub', pk_mul, nI_rem', nI_div', nI_nz, remN, clampN, inb_nI, Nat.not_lt_zero, Nat.zero_le, Nat.le_zero_eq, if_true, if_false, m1_lt0, m1_eq, t_ite, f_ite, (isOrder_no hv).2]
end V3
