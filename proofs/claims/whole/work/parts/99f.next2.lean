/-! TEXT: the reference reads a token -/
section NX2
variable {d : Nat} {M M' : Mem} {tb : Nat → Nat} {tl : Nat}
theorem sgn_eq {p x : Nat} (h8 : ∀ i, tb i < 256) (hx : x < 256) : (sgn tb tl p = nI x) = (p < tl ∧ tb p = x) := by
  have := h8 p
  unfold sgn
  by_cases e : p < tl
  · rw [if_pos e, nI_eq' (by omega) (by omega)]
    exact propext ⟨fun z => ⟨e, z⟩, fun z => z.2⟩
  · rw [if_neg e]
    refine propext ⟨fun z => ?_, fun z => absurd z.1 e⟩
    have h := m1_eq (a := x) (by omega)
    exact (h.mp z.symm).elim
theorem l_blank {z : Option Value} : ∀ K p (M : Mem), tl ≤ p + K → p ≤ tl → TpM M tb tl → gI M 174 7 = nI p → ∃ M', D (fun k j => k = 174 ∧ j = 7) M M' ∧ gI M' 174 7 = nI (spn (sgB tb tl) K p) ∧ run (ev (d + 1)) m_M_nextToken 0 [some (.ref 174), z] [] NX M = run (ev (d + 1)) m_M_nextToken 39 [some (.ref 174), z] [] NX M' := by
  intro K
  induction K with
  | zero =>
    intro p M hK hp hT hat
    have h3 := hT.2.2.2.1
    have h8 := hT.2.2.2.2
    have hb := hT.at' (d := d) (p := p) (by omega)
    have c1 : (sgn tb tl p = nI 32) = False := by rw [sgn_eq h8 (by omega)]; exact eq_false (fun z => by omega)
    have c2 : (sgn tb tl p = nI 10) = False := by rw [sgn_eq h8 (by omega)]; exact eq_false (fun z => by omega)
    refine ⟨M, D.rfl', by rw [spn]; exact hat, ?_⟩
    rw [r_M_nextToken_0]
    simp (disch := omega) only [r_M_nextToken_1, r_M_nextToken_1n, r_M_nextToken_2, r_M_nextToken_5, r_M_nextToken_8, r_M_nextToken_10, r_M_nextToken_13, r_M_nextToken_13n, r_M_nextToken_14, r_M_nextToken_14n, r_M_nextToken_15, r_M_nextToken_18, r_M_nextToken_21, r_M_nextToken_23, bnd, tl_s, tl_n, wt_nil, wt_int, wt_ref, wt_null, wt_long, Nat.reduceAdd, Nat.reduceLeDiff, if_true, if_false, decide_true, Bool.true_and, Bool.and_true, zok_n0, zok_n1, zok_bI, bI_eq0, bI_eq1, Bool.true_eq_false, Bool.false_eq_true, not_false_eq_true, not_true_eq_false, decide_false, decide_eq_false_iff_not, decide_eq_true_eq, Classical.not_not, ite_not, lit, Nat.reduceEqDiff, Nat.reduceLT, nI_add, nI_lt', nI_le', nI_eq', nI_sub', pk_mul, nI_rem', nI_div', nI_nz, remN, clampN, inb_nI, Nat.not_lt_zero, Nat.zero_le, Nat.le_zero_eq, if_true, if_false, m1_lt0, m1_eq, t_ite, f_ite, Bool.not_false, Bool.not_true, nI_and, nI_or, nI_xor, nI_shl1, nI_shr, nI_ushr, nI_not, nI_and_p2, Nat.one_mul, vrf_s, vrf_n, oF_174, oO_174, oA_175, oS_175, oA_176, oS_176, oA_177, oS_177, oA_178, oS_178, oA_179, oS_179, oA_180, oS_180, oA_181, oS_181, oA_182, oS_182, oA_183, oS_183, oA_184, oS_184, oA_185, oS_185, oA_186, oS_186, oA_187, oS_187, oA_188, oS_188, mO_M_byteAt, mO_M_isFigure, mO_M_isLetterByte, mO_M_isSign, hat, hb, c1, c2]
  | succ K ih =>
    intro p M hK hp hT hat
    have h3 := hT.2.2.2.1
    have h8 := hT.2.2.2.2
    have hb := hT.at' (d := d) (p := p) (by omega)
    cases eb : sgB tb tl p
    · have c1 : (sgn tb tl p = nI 32) = False := by
        rw [sgn_eq h8 (by omega)]
        refine eq_false (fun z => ?_)
        unfold sgB at eb
        rw [decide_eq_true z.1, decide_eq_true z.2] at eb
        cases eb
      have c2 : (sgn tb tl p = nI 10) = False := by
        rw [sgn_eq h8 (by omega)]
        refine eq_false (fun z => ?_)
        unfold sgB at eb
        rw [decide_eq_true z.1, decide_eq_true z.2, Bool.or_true] at eb
        cases eb
      refine ⟨M, D.rfl', by rw [spn, eb, if_neg (by decide)]; exact hat, ?_⟩
      rw [r_M_nextToken_0]
      simp (disch := omega) only [r_M_nextToken_1, r_M_nextToken_1n, r_M_nextToken_2, r_M_nextToken_5, r_M_nextToken_8, r_M_nextToken_10, r_M_nextToken_13, r_M_nextToken_13n, r_M_nextToken_14, r_M_nextToken_14n, r_M_nextToken_15, r_M_nextToken_18, r_M_nextToken_21, r_M_nextToken_23, bnd, tl_s, tl_n, wt_nil, wt_int, wt_ref, wt_null, wt_long, Nat.reduceAdd, Nat.reduceLeDiff, if_true, if_false, decide_true, Bool.true_and, Bool.and_true, zok_n0, zok_n1, zok_bI, bI_eq0, bI_eq1, Bool.true_eq_false, Bool.false_eq_true, not_false_eq_true, not_true_eq_false, decide_false, decide_eq_false_iff_not, decide_eq_true_eq, Classical.not_not, ite_not, lit, Nat.reduceEqDiff, Nat.reduceLT, nI_add, nI_lt', nI_le', nI_eq', nI_sub', pk_mul, nI_rem', nI_div', nI_nz, remN, clampN, inb_nI, Nat.not_lt_zero, Nat.zero_le, Nat.le_zero_eq, if_true, if_false, m1_lt0, m1_eq, t_ite, f_ite, Bool.not_false, Bool.not_true, nI_and, nI_or, nI_xor, nI_shl1, nI_shr, nI_ushr, nI_not, nI_and_p2, Nat.one_mul, vrf_s, vrf_n, oF_174, oO_174, oA_175, oS_175, oA_176, oS_176, oA_177, oS_177, oA_178, oS_178, oA_179, oS_179, oA_180, oS_180, oA_181, oS_181, oA_182, oS_182, oA_183, oS_183, oA_184, oS_184, oA_185, oS_185, oA_186, oS_186, oA_187, oS_187, oA_188, oS_188, mO_M_byteAt, mO_M_isFigure, mO_M_isLetterByte, mO_M_isSign, hat, hb, c1, c2]
    · have hlt := sgB_lt eb
      have hT' : TpM (sI M 174 7 (nI (p + 1))) tb tl := hT.tok (D.rfl'.sI ⟨rfl, by omega, by omega⟩)
      obtain ⟨M', b1, b2, b3⟩ := ih (p + 1) (sI M 174 7 (nI (p + 1))) (by omega) (by omega) hT' gI_sI_eq
      refine ⟨M', (D.rfl'.sI ⟨rfl, rfl⟩).trans b1, by rw [spn, eb, if_pos rfl]; exact b2, ?_⟩
      rw [← b3, r_M_nextToken_0]
      unfold sgB at eb
      rw [decide_eq_true hlt, Bool.true_and, Bool.or_eq_true, decide_eq_true_eq, decide_eq_true_eq] at eb
      by_cases e32 : tb p = 32
      · have c1 : (sgn tb tl p = nI 32) = True := by rw [sgn_eq h8 (by omega)]; exact eq_true ⟨hlt, e32⟩
        simp (disch := omega) only [r_M_nextToken_1, r_M_nextToken_1n, r_M_nextToken_2, r_M_nextToken_5, r_M_nextToken_8, r_M_nextToken_10, r_M_nextToken_13, r_M_nextToken_13n, r_M_nextToken_14, r_M_nextToken_14n, r_M_nextToken_15, r_M_nextToken_18, r_M_nextToken_21, r_M_nextToken_23, r_M_nextToken_26, r_M_nextToken_26n, r_M_nextToken_27, r_M_nextToken_27i, r_M_nextToken_28, r_M_nextToken_31, r_M_nextToken_32, r_M_nextToken_33, r_M_nextToken_36, bnd, tl_s, tl_n, wt_nil, wt_int, wt_ref, wt_null, wt_long, Nat.reduceAdd, Nat.reduceLeDiff, if_true, if_false, decide_true, Bool.true_and, Bool.and_true, zok_n0, zok_n1, zok_bI, bI_eq0, bI_eq1, Bool.true_eq_false, Bool.false_eq_true, not_false_eq_true, not_true_eq_false, decide_false, decide_eq_false_iff_not, decide_eq_true_eq, Classical.not_not, ite_not, lit, Nat.reduceEqDiff, Nat.reduceLT, nI_add, nI_lt', nI_le', nI_eq', nI_sub', pk_mul, nI_rem', nI_div', nI_nz, remN, clampN, inb_nI, Nat.not_lt_zero, Nat.zero_le, Nat.le_zero_eq, if_true, if_false, m1_lt0, m1_eq, t_ite, f_ite, Bool.not_false, Bool.not_true, nI_and, nI_or, nI_xor, nI_shl1, nI_shr, nI_ushr, nI_not, nI_and_p2, Nat.one_mul, vrf_s, vrf_n, oF_174, oO_174, oA_175, oS_175, oA_176, oS_176, oA_177, oS_177, oA_178, oS_178, oA_179, oS_179, oA_180, oS_180, oA_181, oS_181, oA_182, oS_182, oA_183, oS_183, oA_184, oS_184, oA_185, oS_185, oA_186, oS_186, oA_187, oS_187, oA_188, oS_188, mO_M_byteAt, mO_M_isFigure, mO_M_isLetterByte, mO_M_isSign, hat, hb, c1]
      · have c1 : (sgn tb tl p = nI 32) = False := by rw [sgn_eq h8 (by omega)]; exact eq_false (fun z => e32 z.2)
        have c2 : (sgn tb tl p = nI 10) = True := by rw [sgn_eq h8 (by omega)]; exact eq_true ⟨hlt, by omega⟩
        simp (disch := omega) only [r_M_nextToken_1, r_M_nextToken_1n, r_M_nextToken_2, r_M_nextToken_5, r_M_nextToken_8, r_M_nextToken_10, r_M_nextToken_13, r_M_nextToken_13n, r_M_nextToken_14, r_M_nextToken_14n, r_M_nextToken_15, r_M_nextToken_18, r_M_nextToken_21, r_M_nextToken_23, r_M_nextToken_26, r_M_nextToken_26n, r_M_nextToken_27, r_M_nextToken_27i, r_M_nextToken_28, r_M_nextToken_31, r_M_nextToken_32, r_M_nextToken_33, r_M_nextToken_36, bnd, tl_s, tl_n, wt_nil, wt_int, wt_ref, wt_null, wt_long, Nat.reduceAdd, Nat.reduceLeDiff, if_true, if_false, decide_true, Bool.true_and, Bool.and_true, zok_n0, zok_n1, zok_bI, bI_eq0, bI_eq1, Bool.true_eq_false, Bool.false_eq_true, not_false_eq_true, not_true_eq_false, decide_false, decide_eq_false_iff_not, decide_eq_true_eq, Classical.not_not, ite_not, lit, Nat.reduceEqDiff, Nat.reduceLT, nI_add, nI_lt', nI_le', nI_eq', nI_sub', pk_mul, nI_rem', nI_div', nI_nz, remN, clampN, inb_nI, Nat.not_lt_zero, Nat.zero_le, Nat.le_zero_eq, if_true, if_false, m1_lt0, m1_eq, t_ite, f_ite, Bool.not_false, Bool.not_true, nI_and, nI_or, nI_xor, nI_shl1, nI_shr, nI_ushr, nI_not, nI_and_p2, Nat.one_mul, vrf_s, vrf_n, oF_174, oO_174, oA_175, oS_175, oA_176, oS_176, oA_177, oS_177, oA_178, oS_178, oA_179, oS_179, oA_180, oS_180, oA_181, oS_181, oA_182, oS_182, oA_183, oS_183, oA_184, oS_184, oA_185, oS_185, oA_186, oS_186, oA_187, oS_187, oA_188, oS_188, mO_M_byteAt, mO_M_isFigure, mO_M_isLetterByte, mO_M_isSign, hat, hb, c1, c2]
theorem l_digits {z : Option Value} : ∀ K p r (M : Mem), tl ≤ p + K → p ≤ tl → r ≤ 1000000 → TpM M tb tl → gI M 174 7 = nI p → gI M 174 10 = nI r → ∃ M', D (fun k j => k = 174 ∧ (j = 7 ∨ j = 10)) M M' ∧ gI M' 174 7 = nI (spn (sgD tb tl) K p) ∧ gI M' 174 10 = nI (nuG tb (sgD tb tl) K p r) ∧ run (ev (d + 1)) m_M_nextToken 85 [some (.ref 174), z] [] NX M = some (none, NX, M') := by
  intro K
  induction K with
  | zero =>
    intro p r M hK hp hr hT hat hnu
    have h3 := hT.2.2.2.1
    have h8 := hT.2.2.2.2
    have hb := hT.at' (d := d) (p := p) (by omega)
    have hD := x_isFigure (d := d) (M := M) (tl := tl) (p := p) h8
    have eD : sgD tb tl p = false := Bool.eq_false_iff.mpr (fun z => by have := sgD_lt z; omega)
    rw [eD, bI_f] at hD
    refine ⟨M, D.rfl', by rw [spn]; exact hat, by rw [nuG]; exact hnu, ?_⟩
    rw [r_M_nextToken_85]
    simp (disch := omega) only [r_M_nextToken_86, r_M_nextToken_86n, r_M_nextToken_87, r_M_nextToken_90, r_M_nextToken_93, r_M_nextToken_96, r_M_nextToken_310, bnd, tl_s, tl_n, wt_nil, wt_int, wt_ref, wt_null, wt_long, Nat.reduceAdd, Nat.reduceLeDiff, if_true, if_false, decide_true, Bool.true_and, Bool.and_true, zok_n0, zok_n1, zok_bI, bI_eq0, bI_eq1, Bool.true_eq_false, Bool.false_eq_true, not_false_eq_true, not_true_eq_false, decide_false, decide_eq_false_iff_not, decide_eq_true_eq, Classical.not_not, ite_not, lit, Nat.reduceEqDiff, Nat.reduceLT, nI_add, nI_lt', nI_le', nI_eq', nI_sub', pk_mul, nI_rem', nI_div', nI_nz, remN, clampN, inb_nI, Nat.not_lt_zero, Nat.zero_le, Nat.le_zero_eq, if_true, if_false, m1_lt0, m1_eq, t_ite, f_ite, Bool.not_false, Bool.not_true, nI_and, nI_or, nI_xor, nI_shl1, nI_shr, nI_ushr, nI_not, nI_and_p2, Nat.one_mul, vrf_s, vrf_n, oF_174, oO_174, oA_175, oS_175, oA_176, oS_176, oA_177, oS_177, oA_178, oS_178, oA_179, oS_179, oA_180, oS_180, oA_181, oS_181, oA_182, oS_182, oA_183, oS_183, oA_184, oS_184, oA_185, oS_185, oA_186, oS_186, oA_187, oS_187, oA_188, oS_188, mO_M_byteAt, mO_M_isFigure, mO_M_isLetterByte, mO_M_isSign, hat, hb, hD]
  | succ K ih =>
    intro p r M hK hp hr hT hat hnu
    have h3 := hT.2.2.2.1
    have h8 := hT.2.2.2.2
    have hb := hT.at' (d := d) (p := p) (by omega)
    have hD := x_isFigure (d := d) (M := M) (tl := tl) (p := p) h8
    cases eD : sgD tb tl p
    · rw [eD, bI_f] at hD
      refine ⟨M, D.rfl', by rw [spn, eD, if_neg (by decide)]; exact hat, by rw [nuG, eD, if_neg (by decide)]; exact hnu, ?_⟩
      rw [r_M_nextToken_85]
      simp (disch := omega) only [r_M_nextToken_86, r_M_nextToken_86n, r_M_nextToken_87, r_M_nextToken_90, r_M_nextToken_93, r_M_nextToken_96, r_M_nextToken_310, bnd, tl_s, tl_n, wt_nil, wt_int, wt_ref, wt_null, wt_long, Nat.reduceAdd, Nat.reduceLeDiff, if_true, if_false, decide_true, Bool.true_and, Bool.and_true, zok_n0, zok_n1, zok_bI, bI_eq0, bI_eq1, Bool.true_eq_false, Bool.false_eq_true, not_false_eq_true, not_true_eq_false, decide_false, decide_eq_false_iff_not, decide_eq_true_eq, Classical.not_not, ite_not, lit, Nat.reduceEqDiff, Nat.reduceLT, nI_add, nI_lt', nI_le', nI_eq', nI_sub', pk_mul, nI_rem', nI_div', nI_nz, remN, clampN, inb_nI, Nat.not_lt_zero, Nat.zero_le, Nat.le_zero_eq, if_true, if_false, m1_lt0, m1_eq, t_ite, f_ite, Bool.not_false, Bool.not_true, nI_and, nI_or, nI_xor, nI_shl1, nI_shr, nI_ushr, nI_not, nI_and_p2, Nat.one_mul, vrf_s, vrf_n, oF_174, oO_174, oA_175, oS_175, oA_176, oS_176, oA_177, oS_177, oA_178, oS_178, oA_179, oS_179, oA_180, oS_180, oA_181, oS_181, oA_182, oS_182, oA_183, oS_183, oA_184, oS_184, oA_185, oS_185, oA_186, oS_186, oA_187, oS_187, oA_188, oS_188, mO_M_byteAt, mO_M_isFigure, mO_M_isLetterByte, mO_M_isSign, hat, hb, hD]
    · have hlt := sgD_lt eD
      rw [eD, bI_t] at hD
      have hs : sgn tb tl p = nI (tb p) := by unfold sgn; rw [if_pos hlt]
      have hdd : isD (tb p) = true := by have z := eD; unfold sgD at z; rw [Bool.and_eq_true] at z; exact z.2
      obtain ⟨hB1, hB2⟩ := isDB hdd
      rw [hs] at hb hD
      have hT' : ∀ v, TpM (sI (sI M 174 10 v) 174 7 (nI (p + 1))) tb tl := fun v => hT.tok ((D.rfl'.sI ⟨rfl, by omega, by omega⟩).sI ⟨rfl, by omega, by omega⟩)
      obtain ⟨M', b1, b2, b3, b4⟩ := ih (p + 1) (if 99999 < r then r else 10 * r + tb p - 48) (sI (sI M 174 10 (nI (if 99999 < r then r else 10 * r + tb p - 48))) 174 7 (nI (p + 1))) (by omega) (by omega) (by split <;> omega) (hT' _) gI_sI_eq (by rw [gI_sI_nj (by decide)]; exact gI_sI_eq)
      refine ⟨M', ((D.rfl'.sI ⟨rfl, Or.inr rfl⟩).sI ⟨rfl, Or.inl rfl⟩).trans b1, by rw [spn, eD, if_pos rfl]; exact b2, by rw [nuG, eD, if_pos rfl]; exact b3, ?_⟩
      rw [← b4, r_M_nextToken_85]
      by_cases e9 : 99999 < r
      · have e9' : ¬ r ≤ 99999 := by omega
        have g1 : gI (sI M 174 10 (nI r)) 174 7 = nI p := by rw [gI_sI_nj (by decide)]; exact hat
        rw [if_pos e9]
        simp (disch := omega) only [r_M_nextToken_86, r_M_nextToken_86n, r_M_nextToken_87, r_M_nextToken_90, r_M_nextToken_93, r_M_nextToken_96, r_M_nextToken_99, r_M_nextToken_99n, r_M_nextToken_100, r_M_nextToken_100n, r_M_nextToken_101, r_M_nextToken_104, r_M_nextToken_106, r_M_nextToken_109, r_M_nextToken_109n, r_M_nextToken_110, r_M_nextToken_113, r_M_nextToken_116, r_M_nextToken_118, r_M_nextToken_118n, r_M_nextToken_119, r_M_nextToken_122, r_M_nextToken_123, r_M_nextToken_123n, r_M_nextToken_124, r_M_nextToken_124n, r_M_nextToken_125, r_M_nextToken_128, r_M_nextToken_131, r_M_nextToken_132, r_M_nextToken_134, r_M_nextToken_135, r_M_nextToken_138, r_M_nextToken_138n, r_M_nextToken_139, r_M_nextToken_139i, r_M_nextToken_140, r_M_nextToken_143, r_M_nextToken_144, r_M_nextToken_145, r_M_nextToken_148, bnd, tl_s, tl_n, wt_nil, wt_int, wt_ref, wt_null, wt_long, Nat.reduceAdd, Nat.reduceLeDiff, if_true, if_false, decide_true, Bool.true_and, Bool.and_true, zok_n0, zok_n1, zok_bI, bI_eq0, bI_eq1, Bool.true_eq_false, Bool.false_eq_true, not_false_eq_true, not_true_eq_false, decide_false, decide_eq_false_iff_not, decide_eq_true_eq, Classical.not_not, ite_not, lit, Nat.reduceEqDiff, Nat.reduceLT, nI_add, nI_lt', nI_le', nI_eq', nI_sub', pk_mul, nI_rem', nI_div', nI_nz, remN, clampN, inb_nI, Nat.not_lt_zero, Nat.zero_le, Nat.le_zero_eq, if_true, if_false, m1_lt0, m1_eq, t_ite, f_ite, Bool.not_false, Bool.not_true, nI_and, nI_or, nI_xor, nI_shl1, nI_shr, nI_ushr, nI_not, nI_and_p2, Nat.one_mul, vrf_s, vrf_n, oF_174, oO_174, oA_175, oS_175, oA_176, oS_176, oA_177, oS_177, oA_178, oS_178, oA_179, oS_179, oA_180, oS_180, oA_181, oS_181, oA_182, oS_182, oA_183, oS_183, oA_184, oS_184, oA_185, oS_185, oA_186, oS_186, oA_187, oS_187, oA_188, oS_188, mO_M_byteAt, mO_M_isFigure, mO_M_isLetterByte, mO_M_isSign, hat, hb, hD, hnu, e9', g1]
      · have e9' : r ≤ 99999 := by omega
        have g1 : gI (sI M 174 10 (nI (10 * r + tb p - 48))) 174 7 = nI p := by rw [gI_sI_nj (by decide)]; exact hat
        rw [if_neg e9]
        simp (disch := omega) only [r_M_nextToken_86, r_M_nextToken_86n, r_M_nextToken_87, r_M_nextToken_90, r_M_nextToken_93, r_M_nextToken_96, r_M_nextToken_99, r_M_nextToken_99n, r_M_nextToken_100, r_M_nextToken_100n, r_M_nextToken_101, r_M_nextToken_104, r_M_nextToken_106, r_M_nextToken_109, r_M_nextToken_109n, r_M_nextToken_110, r_M_nextToken_113, r_M_nextToken_116, r_M_nextToken_118, r_M_nextToken_118n, r_M_nextToken_119, r_M_nextToken_122, r_M_nextToken_123, r_M_nextToken_123n, r_M_nextToken_124, r_M_nextToken_124n, r_M_nextToken_125, r_M_nextToken_128, r_M_nextToken_131, r_M_nextToken_132, r_M_nextToken_134, r_M_nextToken_135, r_M_nextToken_138, r_M_nextToken_138n, r_M_nextToken_139, r_M_nextToken_139i, r_M_nextToken_140, r_M_nextToken_143, r_M_nextToken_144, r_M_nextToken_145, r_M_nextToken_148, bnd, tl_s, tl_n, wt_nil, wt_int, wt_ref, wt_null, wt_long, Nat.reduceAdd, Nat.reduceLeDiff, if_true, if_false, decide_true, Bool.true_and, Bool.and_true, zok_n0, zok_n1, zok_bI, bI_eq0, bI_eq1, Bool.true_eq_false, Bool.false_eq_true, not_false_eq_true, not_true_eq_false, decide_false, decide_eq_false_iff_not, decide_eq_true_eq, Classical.not_not, ite_not, lit, Nat.reduceEqDiff, Nat.reduceLT, nI_add, nI_lt', nI_le', nI_eq', nI_sub', pk_mul, nI_rem', nI_div', nI_nz, remN, clampN, inb_nI, Nat.not_lt_zero, Nat.zero_le, Nat.le_zero_eq, if_true, if_false, m1_lt0, m1_eq, t_ite, f_ite, Bool.not_false, Bool.not_true, nI_and, nI_or, nI_xor, nI_shl1, nI_shr, nI_ushr, nI_not, nI_and_p2, Nat.one_mul, vrf_s, vrf_n, oF_174, oO_174, oA_175, oS_175, oA_176, oS_176, oA_177, oS_177, oA_178, oS_178, oA_179, oS_179, oA_180, oS_180, oA_181, oS_181, oA_182, oS_182, oA_183, oS_183, oA_184, oS_184, oA_185, oS_185, oA_186, oS_186, oA_187, oS_187, oA_188, oS_188, mO_M_byteAt, mO_M_isFigure, mO_M_isLetterByte, mO_M_isSign, hat, hb, hD, hnu, e9', g1]
theorem l_letters {z : Option Value} : ∀ K p w (M : Mem), tl ≤ p + K → p ≤ tl → w < 2 ^ 61 → TpM M tb tl → gI M 174 7 = nI p → gL M 174 11 = lN w → ∃ M', D (fun k j => k = 174 ∧ (j = 7 ∨ j = 11)) M M' ∧ gI M' 174 7 = nI (spn (sgL tb tl) K p) ∧ gL M' 174 11 = lN (wdG tb (sgL tb tl) K p w) ∧ run (ev (d + 1)) m_M_nextToken 168 [some (.ref 174), z] [] NX M = some (none, NX, M') := by
  intro K
  induction K with
  | zero =>
    intro p w M hK hp hw hT hat hwo
    have h3 := hT.2.2.2.1
    have h8 := hT.2.2.2.2
    have hb := hT.at' (d := d) (p := p) (by omega)
    have hL := x_isLetter (d := d) (M := M) (tl := tl) (p := p) h8
    have eL : sgL tb tl p = false := Bool.eq_false_iff.mpr (fun z => by have := sgL_lt z; omega)
    rw [eL, bI_f] at hL
    refine ⟨M, D.rfl', by rw [spn]; exact hat, by rw [wdG]; exact hwo, ?_⟩
    rw [r_M_nextToken_168]
    simp (disch := omega) only [r_M_nextToken_169, r_M_nextToken_169n, r_M_nextToken_170, r_M_nextToken_173, r_M_nextToken_176, r_M_nextToken_179, r_M_nextToken_310, bnd, tl_s, tl_n, wt_nil, wt_int, wt_ref, wt_null, wt_long, Nat.reduceAdd, Nat.reduceLeDiff, if_true, if_false, decide_true, Bool.true_and, Bool.and_true, zok_n0, zok_n1, zok_bI, bI_eq0, bI_eq1, Bool.true_eq_false, Bool.false_eq_true, not_false_eq_true, not_true_eq_false, decide_false, decide_eq_false_iff_not, decide_eq_true_eq, Classical.not_not, ite_not, lit, Nat.reduceEqDiff, Nat.reduceLT, nI_add, nI_lt', nI_le', nI_eq', nI_sub', pk_mul, nI_rem', nI_div', nI_nz, remN, clampN, inb_nI, Nat.not_lt_zero, Nat.zero_le, Nat.le_zero_eq, if_true, if_false, m1_lt0, m1_eq, t_ite, f_ite, Bool.not_false, Bool.not_true, nI_and, nI_or, nI_xor, nI_shl1, nI_shr, nI_ushr, nI_not, nI_and_p2, Nat.one_mul, vrf_s, vrf_n, oF_174, oO_174, oA_175, oS_175, oA_176, oS_176, oA_177, oS_177, oA_178, oS_178, oA_179, oS_179, oA_180, oS_180, oA_181, oS_181, oA_182, oS_182, oA_183, oS_183, oA_184, oS_184, oA_185, oS_185, oA_186, oS_186, oA_187, oS_187, oA_188, oS_188, mO_M_byteAt, mO_M_isFigure, mO_M_isLetterByte, mO_M_isSign, hat, hb, hL]
  | succ K ih =>
    intro p w M hK hp hw hT hat hwo
    have h3 := hT.2.2.2.1
    have h8 := hT.2.2.2.2
    have hb := hT.at' (d := d) (p := p) (by omega)
    have hL := x_isLetter (d := d) (M := M) (tl := tl) (p := p) h8
    cases eL : sgL tb tl p
    · rw [eL, bI_f] at hL
      refine ⟨M, D.rfl', by rw [spn, eL, if_neg (by decide)]; exact hat, by rw [wdG, eL, if_neg (by decide)]; exact hwo, ?_⟩
      rw [r_M_nextToken_168]
      simp (disch := omega) only [r_M_nextToken_169, r_M_nextToken_169n, r_M_nextToken_170, r_M_nextToken_173, r_M_nextToken_176, r_M_nextToken_179, r_M_nextToken_310, bnd, tl_s, tl_n, wt_nil, wt_int, wt_ref, wt_null, wt_long, Nat.reduceAdd, Nat.reduceLeDiff, if_true, if_false, decide_true, Bool.true_and, Bool.and_true, zok_n0, zok_n1, zok_bI, bI_eq0, bI_eq1, Bool.true_eq_false, Bool.false_eq_true, not_false_eq_true, not_true_eq_false, decide_false, decide_eq_false_iff_not, decide_eq_true_eq, Classical.not_not, ite_not, lit, Nat.reduceEqDiff, Nat.reduceLT, nI_add, nI_lt', nI_le', nI_eq', nI_sub', pk_mul, nI_rem', nI_div', nI_nz, remN, clampN, inb_nI, Nat.not_lt_zero, Nat.zero_le, Nat.le_zero_eq, if_true, if_false, m1_lt0, m1_eq, t_ite, f_ite, Bool.not_false, Bool.not_true, nI_and, nI_or, nI_xor, nI_shl1, nI_shr, nI_ushr, nI_not, nI_and_p2, Nat.one_mul, vrf_s, vrf_n, oF_174, oO_174, oA_175, oS_175, oA_176, oS_176, oA_177, oS_177, oA_178, oS_178, oA_179, oS_179, oA_180, oS_180, oA_181, oS_181, oA_182, oS_182, oA_183, oS_183, oA_184, oS_184, oA_185, oS_185, oA_186, oS_186, oA_187, oS_187, oA_188, oS_188, mO_M_byteAt, mO_M_isFigure, mO_M_isLetterByte, mO_M_isSign, hat, hb, hL]
    · have hlt := sgL_lt eL
      rw [eL, bI_t] at hL
      have hs : sgn tb tl p = nI (tb p) := by unfold sgn; rw [if_pos hlt]
      have h8p := h8 p
      have h5 : (nI (tb p)).toInt64 = lN (tb p) := nI_l (by omega)
      rw [hs] at hb hL
      have hT' : ∀ v, TpM (sI (sL M 174 11 v) 174 7 (nI (p + 1))) tb tl := fun v => hT.tok ((D.rfl'.sL ⟨rfl, by omega, by omega⟩).sI ⟨rfl, by omega, by omega⟩)
      obtain ⟨M', b1, b2, b3, b4⟩ := ih (p + 1) (if w / 2 ^ 48 = 0 then w * 256 + tb p else 2 ^ 60) (sI (sL M 174 11 (lN (if w / 2 ^ 48 = 0 then w * 256 + tb p else 2 ^ 60))) 174 7 (nI (p + 1))) (by omega) (by omega) (by split <;> omega) (hT' _) gI_sI_eq gL_sL_eq
      refine ⟨M', ((D.rfl'.sL ⟨rfl, Or.inr rfl⟩).sI ⟨rfl, Or.inl rfl⟩).trans b1, by rw [spn, eL, if_pos rfl]; exact b2, by rw [wdG, eL, if_pos rfl]; exact b3, ?_⟩
      rw [← b4, r_M_nextToken_168]
      have hsh := shr48L (w := w) (by omega)
      have g1 : ∀ v, gI (sL M 174 11 v) 174 7 = nI p := fun v => hat
      by_cases e0 : w / 2 ^ 48 = 0
      · have c0 : (lN (w / 2 ^ 48) = (0 : Int64)) = True := eq_true (by rw [e0]; rfl)
        rw [if_pos e0]
        simp (disch := omega) only [r_M_nextToken_169, r_M_nextToken_169n, r_M_nextToken_170, r_M_nextToken_173, r_M_nextToken_176, r_M_nextToken_179, r_M_nextToken_182, r_M_nextToken_182n, r_M_nextToken_183, r_M_nextToken_183n, r_M_nextToken_184, r_M_nextToken_187, r_M_nextToken_189, r_M_nextToken_190, r_M_nextToken_191, r_M_nextToken_192, r_M_nextToken_195, r_M_nextToken_198, r_M_nextToken_201, r_M_nextToken_201n, r_M_nextToken_202, r_M_nextToken_205, r_M_nextToken_207, r_M_nextToken_208, r_M_nextToken_208n, r_M_nextToken_209, r_M_nextToken_209n, r_M_nextToken_210, r_M_nextToken_213, r_M_nextToken_216, r_M_nextToken_217, r_M_nextToken_218, r_M_nextToken_221, r_M_nextToken_221n, r_M_nextToken_222, r_M_nextToken_222i, r_M_nextToken_223, r_M_nextToken_226, r_M_nextToken_227, r_M_nextToken_228, r_M_nextToken_231, bnd, tl_s, tl_n, wt_nil, wt_int, wt_ref, wt_null, wt_long, Nat.reduceAdd, Nat.reduceLeDiff, if_true, if_false, decide_true, Bool.true_and, Bool.and_true, zok_n0, zok_n1, zok_bI, bI_eq0, bI_eq1, Bool.true_eq_false, Bool.false_eq_true, not_false_eq_true, not_true_eq_false, decide_false, decide_eq_false_iff_not, decide_eq_true_eq, Classical.not_not, ite_not, lit, Nat.reduceEqDiff, Nat.reduceLT, nI_add, nI_lt', nI_le', nI_eq', nI_sub', pk_mul, nI_rem', nI_div', nI_nz, remN, clampN, inb_nI, Nat.not_lt_zero, Nat.zero_le, Nat.le_zero_eq, if_true, if_false, m1_lt0, m1_eq, t_ite, f_ite, Bool.not_false, Bool.not_true, nI_and, nI_or, nI_xor, nI_shl1, nI_shr, nI_ushr, nI_not, nI_and_p2, Nat.one_mul, vrf_s, vrf_n, oF_174, oO_174, oA_175, oS_175, oA_176, oS_176, oA_177, oS_177, oA_178, oS_178, oA_179, oS_179, oA_180, oS_180, oA_181, oS_181, oA_182, oS_182, oA_183, oS_183, oA_184, oS_184, oA_185, oS_185, oA_186, oS_186, oA_187, oS_187, oA_188, oS_188, mO_M_byteAt, mO_M_isFigure, mO_M_isLetterByte, mO_M_isSign, hat, hb, hL, hwo, hsh, cmp_eq, c0, g1, h5, shl8L, or8L h8p]
      · have c0 : (lN (w / 2 ^ 48) = (0 : Int64)) = False := by
          show (lN (w / 2 ^ 48) = lN 0) = False
          rw [lN_eqv (by omega) (by omega)]
          exact eq_false e0
        rw [if_neg e0]
        simp (disch := omega) only [r_M_nextToken_169, r_M_nextToken_169n, r_M_nextToken_170, r_M_nextToken_173, r_M_nextToken_176, r_M_nextToken_179, r_M_nextToken_182, r_M_nextToken_182n, r_M_nextToken_183, r_M_nextToken_183n, r_M_nextToken_184, r_M_nextToken_187, r_M_nextToken_189, r_M_nextToken_190, r_M_nextToken_191, r_M_nextToken_192, r_M_nextToken_195, r_M_nextToken_198, r_M_nextToken_201, r_M_nextToken_201n, r_M_nextToken_202, r_M_nextToken_205, r_M_nextToken_207, r_M_nextToken_208, r_M_nextToken_208n, r_M_nextToken_209, r_M_nextToken_209n, r_M_nextToken_210, r_M_nextToken_213, r_M_nextToken_216, r_M_nextToken_217, r_M_nextToken_218, r_M_nextToken_221, r_M_nextToken_221n, r_M_nextToken_222, r_M_nextToken_222i, r_M_nextToken_223, r_M_nextToken_226, r_M_nextToken_227, r_M_nextToken_228, r_M_nextToken_231, bnd, tl_s, tl_n, wt_nil, wt_int, wt_ref, wt_null, wt_long, Nat.reduceAdd, Nat.reduceLeDiff, if_true, if_false, decide_true, Bool.true_and, Bool.and_true, zok_n0, zok_n1, zok_bI, bI_eq0, bI_eq1, Bool.true_eq_false, Bool.false_eq_true, not_false_eq_true, not_true_eq_false, decide_false, decide_eq_false_iff_not, decide_eq_true_eq, Classical.not_not, ite_not, lit, Nat.reduceEqDiff, Nat.reduceLT, nI_add, nI_lt', nI_le', nI_eq', nI_sub', pk_mul, nI_rem', nI_div', nI_nz, remN, clampN, inb_nI, Nat.not_lt_zero, Nat.zero_le, Nat.le_zero_eq, if_true, if_false, m1_lt0, m1_eq, t_ite, f_ite, Bool.not_false, Bool.not_true, nI_and, nI_or, nI_xor, nI_shl1, nI_shr, nI_ushr, nI_not, nI_and_p2, Nat.one_mul, vrf_s, vrf_n, oF_174, oO_174, oA_175, oS_175, oA_176, oS_176, oA_177, oS_177, oA_178, oS_178, oA_179, oS_179, oA_180, oS_180, oA_181, oS_181, oA_182, oS_182, oA_183, oS_183, oA_184, oS_184, oA_185, oS_185, oA_186, oS_186, oA_187, oS_187, oA_188, oS_188, mO_M_byteAt, mO_M_isFigure, mO_M_isLetterByte, mO_M_isSign, hat, hb, hL, hwo, hsh, cmp_eq, c0, g1, h5, shl8L, or8L h8p]
        rfl
end NX2
