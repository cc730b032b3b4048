/-! TEXT: the reference's tokens by the class's kinds -/
section FCT
variable {d : Nat} {M M' : Mem} {tb : Nat → Nat} {tl : Nat} {k : Nat}
theorem y_tkind (hr : RX M) (h : TkX M tb tl) (hk : k < 2 ^ 30) : ev (d + 1) m_Tape_kindAt [.ref 140, .int (nI k)] NX M = some (some (.int (nI (kdT tb tl k))), NX, M) := by
  obtain ⟨n, h1, h2, h3, h4⟩ := h
  rw [e_Tape_kindAt]
  by_cases e : k < n + 1
  · have e1 : ¬ n + 1 ≤ k := by omega
    have e2 : k < 301 := by omega
    simp (disch := omega) only [r_Tape_kindAt_0, r_Tape_kindAt_1, r_Tape_kindAt_4, r_Tape_kindAt_5, r_Tape_kindAt_5n, r_Tape_kindAt_6, r_Tape_kindAt_9, r_Tape_kindAt_12, r_Tape_kindAt_12n, r_Tape_kindAt_13, r_Tape_kindAt_16, r_Tape_kindAt_17, r_Tape_kindAt_18, r_Tape_kindAt_21, r_Tape_kindAt_23, bnd, tl_s, tl_n, wt_nil, wt_int, wt_ref, wt_null, wt_long, Nat.reduceAdd, Nat.reduceLeDiff, if_true, if_false, decide_true, Bool.true_and, Bool.and_true, zok_n0, zok_n1, zok_bI, bI_eq0, bI_eq1, Bool.true_eq_false, Bool.false_eq_true, not_false_eq_true, not_true_eq_false, decide_false, decide_eq_false_iff_not, decide_eq_true_eq, Classical.not_not, ite_not, lit, Nat.reduceEqDiff, Nat.reduceLT, nI_add, nI_lt', nI_le', nI_eq', nI_sub', pk_mul, nI_rem', nI_div', nI_nz, remN, clampN, inb_nI, Nat.not_lt_zero, Nat.zero_le, Nat.le_zero_eq, if_true, if_false, m1_lt0, m1_eq, t_ite, f_ite, Bool.not_false, Bool.not_true, nI_and, nI_or, nI_xor, nI_shl1, nI_shr, nI_ushr, nI_not, nI_and_p2, Nat.one_mul, vrf_s, vrf_n, oF_0, oO_0, oF_1, oO_1, oA_2, oS_2, oA_3, oS_3, oF_4, oO_4, oA_5, oS_5, oA_6, oS_6, oA_7, oS_7, oA_8, oS_8, oA_9, oS_9, oF_70, oO_70, oA_71, oS_71, oA_72, oS_72, oF_73, oO_73, oA_74, oS_74, oA_75, oS_75, oA_76, oS_76, oA_77, oS_77, oA_78, oS_78, oA_139, oS_139, oF_140, oO_140, oA_141, oS_141, oA_142, oS_142, oA_143, oS_143, oA_144, oS_144, oF_145, oO_145, oF_146, oO_146, oA_147, oS_147, oF_148, oO_148, oA_149, oS_149, oA_150, oS_150, oA_151, oS_151, oF_152, oO_152, oA_153, oS_153, oF_154, oO_154, oA_155, oS_155, oA_156, oS_156, oA_157, oS_157, oA_158, oS_158, oF_159, oO_159, oA_160, oS_160, oA_161, oS_161, oA_162, oS_162, oA_163, oS_163, oF_164, oO_164, oA_165, oS_165, oA_166, oS_166, oA_167, oS_167, oA_168, oS_168, oF_169, oO_169, oA_170, oS_170, oA_171, oS_171, oA_172, oS_172, oA_173, oS_173, hr 0 0 1 rfl, hr 0 1 70 rfl, hr 0 2 139 rfl, hr 0 3 140 rfl, hr 0 4 145 rfl, hr 0 5 146 rfl, hr 0 6 148 rfl, hr 0 7 152 rfl, hr 1 1 2 rfl, hr 1 2 3 rfl, hr 1 3 4 rfl, hr 1 4 6 rfl, hr 1 9 7 rfl, hr 1 11 8 rfl, hr 1 12 9 rfl, hr 4 6 5 rfl, hr 152 6 153 rfl, hr 140 0 141 rfl, hr 140 2 142 rfl, hr 140 3 143 rfl, hr 140 4 144 rfl, hr 146 0 147 rfl, hr 148 0 149 rfl, hr 148 2 150 rfl, hr 148 3 151 rfl, h3, e1, e2, (h4 k e).1]
  · have e1 : n + 1 ≤ k := by omega
    rw [kdT_end (plT_end h2 k (by omega))]
    simp (disch := omega) only [r_Tape_kindAt_0, r_Tape_kindAt_1, r_Tape_kindAt_4, r_Tape_kindAt_5, r_Tape_kindAt_5n, r_Tape_kindAt_6, r_Tape_kindAt_9, r_Tape_kindAt_12, r_Tape_kindAt_12n, r_Tape_kindAt_13, r_Tape_kindAt_16, r_Tape_kindAt_17, r_Tape_kindAt_18, r_Tape_kindAt_21, r_Tape_kindAt_23, bnd, tl_s, tl_n, wt_nil, wt_int, wt_ref, wt_null, wt_long, Nat.reduceAdd, Nat.reduceLeDiff, if_true, if_false, decide_true, Bool.true_and, Bool.and_true, zok_n0, zok_n1, zok_bI, bI_eq0, bI_eq1, Bool.true_eq_false, Bool.false_eq_true, not_false_eq_true, not_true_eq_false, decide_false, decide_eq_false_iff_not, decide_eq_true_eq, Classical.not_not, ite_not, lit, Nat.reduceEqDiff, Nat.reduceLT, nI_add, nI_lt', nI_le', nI_eq', nI_sub', pk_mul, nI_rem', nI_div', nI_nz, remN, clampN, inb_nI, Nat.not_lt_zero, Nat.zero_le, Nat.le_zero_eq, if_true, if_false, m1_lt0, m1_eq, t_ite, f_ite, Bool.not_false, Bool.not_true, nI_and, nI_or, nI_xor, nI_shl1, nI_shr, nI_ushr, nI_not, nI_and_p2, Nat.one_mul, vrf_s, vrf_n, oF_0, oO_0, oF_1, oO_1, oA_2, oS_2, oA_3, oS_3, oF_4, oO_4, oA_5, oS_5, oA_6, oS_6, oA_7, oS_7, oA_8, oS_8, oA_9, oS_9, oF_70, oO_70, oA_71, oS_71, oA_72, oS_72, oF_73, oO_73, oA_74, oS_74, oA_75, oS_75, oA_76, oS_76, oA_77, oS_77, oA_78, oS_78, oA_139, oS_139, oF_140, oO_140, oA_141, oS_141, oA_142, oS_142, oA_143, oS_143, oA_144, oS_144, oF_145, oO_145, oF_146, oO_146, oA_147, oS_147, oF_148, oO_148, oA_149, oS_149, oA_150, oS_150, oA_151, oS_151, oF_152, oO_152, oA_153, oS_153, oF_154, oO_154, oA_155, oS_155, oA_156, oS_156, oA_157, oS_157, oA_158, oS_158, oF_159, oO_159, oA_160, oS_160, oA_161, oS_161, oA_162, oS_162, oA_163, oS_163, oF_164, oO_164, oA_165, oS_165, oA_166, oS_166, oA_167, oS_167, oA_168, oS_168, oF_169, oO_169, oA_170, oS_170, oA_171, oS_171, oA_172, oS_172, oA_173, oS_173, hr 0 0 1 rfl, hr 0 1 70 rfl, hr 0 2 139 rfl, hr 0 3 140 rfl, hr 0 4 145 rfl, hr 0 5 146 rfl, hr 0 6 148 rfl, hr 0 7 152 rfl, hr 1 1 2 rfl, hr 1 2 3 rfl, hr 1 3 4 rfl, hr 1 4 6 rfl, hr 1 9 7 rfl, hr 1 11 8 rfl, hr 1 12 9 rfl, hr 4 6 5 rfl, hr 152 6 153 rfl, hr 140 0 141 rfl, hr 140 2 142 rfl, hr 140 3 143 rfl, hr 140 4 144 rfl, hr 146 0 147 rfl, hr 148 0 149 rfl, hr 148 2 150 rfl, hr 148 3 151 rfl, h3, e1]
theorem y_tvalue (hr : RX M) (h : TkX M tb tl) (hk : k < 2 ^ 30) : ev (d + 1) m_Tape_valueAt [.ref 140, .int (nI k)] NX M = some (some (.int (nI (vlT tb tl k))), NX, M) := by
  obtain ⟨n, h1, h2, h3, h4⟩ := h
  rw [e_Tape_valueAt]
  by_cases e : k < n + 1
  · have e1 : ¬ n + 1 ≤ k := by omega
    have e2 : k < 301 := by omega
    simp (disch := omega) only [r_Tape_valueAt_0, r_Tape_valueAt_1, r_Tape_valueAt_4, r_Tape_valueAt_5, r_Tape_valueAt_5n, r_Tape_valueAt_6, r_Tape_valueAt_9, r_Tape_valueAt_12, r_Tape_valueAt_12n, r_Tape_valueAt_13, r_Tape_valueAt_16, r_Tape_valueAt_17, r_Tape_valueAt_18, r_Tape_valueAt_21, r_Tape_valueAt_22, bnd, tl_s, tl_n, wt_nil, wt_int, wt_ref, wt_null, wt_long, Nat.reduceAdd, Nat.reduceLeDiff, if_true, if_false, decide_true, Bool.true_and, Bool.and_true, zok_n0, zok_n1, zok_bI, bI_eq0, bI_eq1, Bool.true_eq_false, Bool.false_eq_true, not_false_eq_true, not_true_eq_false, decide_false, decide_eq_false_iff_not, decide_eq_true_eq, Classical.not_not, ite_not, lit, Nat.reduceEqDiff, Nat.reduceLT, nI_add, nI_lt', nI_le', nI_eq', nI_sub', pk_mul, nI_rem', nI_div', nI_nz, remN, clampN, inb_nI, Nat.not_lt_zero, Nat.zero_le, Nat.le_zero_eq, if_true, if_false, m1_lt0, m1_eq, t_ite, f_ite, Bool.not_false, Bool.not_true, nI_and, nI_or, nI_xor, nI_shl1, nI_shr, nI_ushr, nI_not, nI_and_p2, Nat.one_mul, vrf_s, vrf_n, oF_0, oO_0, oF_1, oO_1, oA_2, oS_2, oA_3, oS_3, oF_4, oO_4, oA_5, oS_5, oA_6, oS_6, oA_7, oS_7, oA_8, oS_8, oA_9, oS_9, oF_70, oO_70, oA_71, oS_71, oA_72, oS_72, oF_73, oO_73, oA_74, oS_74, oA_75, oS_75, oA_76, oS_76, oA_77, oS_77, oA_78, oS_78, oA_139, oS_139, oF_140, oO_140, oA_141, oS_141, oA_142, oS_142, oA_143, oS_143, oA_144, oS_144, oF_145, oO_145, oF_146, oO_146, oA_147, oS_147, oF_148, oO_148, oA_149, oS_149, oA_150, oS_150, oA_151, oS_151, oF_152, oO_152, oA_153, oS_153, oF_154, oO_154, oA_155, oS_155, oA_156, oS_156, oA_157, oS_157, oA_158, oS_158, oF_159, oO_159, oA_160, oS_160, oA_161, oS_161, oA_162, oS_162, oA_163, oS_163, oF_164, oO_164, oA_165, oS_165, oA_166, oS_166, oA_167, oS_167, oA_168, oS_168, oF_169, oO_169, oA_170, oS_170, oA_171, oS_171, oA_172, oS_172, oA_173, oS_173, hr 0 0 1 rfl, hr 0 1 70 rfl, hr 0 2 139 rfl, hr 0 3 140 rfl, hr 0 4 145 rfl, hr 0 5 146 rfl, hr 0 6 148 rfl, hr 0 7 152 rfl, hr 1 1 2 rfl, hr 1 2 3 rfl, hr 1 3 4 rfl, hr 1 4 6 rfl, hr 1 9 7 rfl, hr 1 11 8 rfl, hr 1 12 9 rfl, hr 4 6 5 rfl, hr 152 6 153 rfl, hr 140 0 141 rfl, hr 140 2 142 rfl, hr 140 3 143 rfl, hr 140 4 144 rfl, hr 146 0 147 rfl, hr 148 0 149 rfl, hr 148 2 150 rfl, hr 148 3 151 rfl, h3, e1, e2, (h4 k e).2.1]
  · have e1 : n + 1 ≤ k := by omega
    rw [vlT_end (plT_end h2 k (by omega))]
    simp (disch := omega) only [r_Tape_valueAt_0, r_Tape_valueAt_1, r_Tape_valueAt_4, r_Tape_valueAt_5, r_Tape_valueAt_5n, r_Tape_valueAt_6, r_Tape_valueAt_9, r_Tape_valueAt_12, r_Tape_valueAt_12n, r_Tape_valueAt_13, r_Tape_valueAt_16, r_Tape_valueAt_17, r_Tape_valueAt_18, r_Tape_valueAt_21, r_Tape_valueAt_22, bnd, tl_s, tl_n, wt_nil, wt_int, wt_ref, wt_null, wt_long, Nat.reduceAdd, Nat.reduceLeDiff, if_true, if_false, decide_true, Bool.true_and, Bool.and_true, zok_n0, zok_n1, zok_bI, bI_eq0, bI_eq1, Bool.true_eq_false, Bool.false_eq_true, not_false_eq_true, not_true_eq_false, decide_false, decide_eq_false_iff_not, decide_eq_true_eq, Classical.not_not, ite_not, lit, Nat.reduceEqDiff, Nat.reduceLT, nI_add, nI_lt', nI_le', nI_eq', nI_sub', pk_mul, nI_rem', nI_div', nI_nz, remN, clampN, inb_nI, Nat.not_lt_zero, Nat.zero_le, Nat.le_zero_eq, if_true, if_false, m1_lt0, m1_eq, t_ite, f_ite, Bool.not_false, Bool.not_true, nI_and, nI_or, nI_xor, nI_shl1, nI_shr, nI_ushr, nI_not, nI_and_p2, Nat.one_mul, vrf_s, vrf_n, oF_0, oO_0, oF_1, oO_1, oA_2, oS_2, oA_3, oS_3, oF_4, oO_4, oA_5, oS_5, oA_6, oS_6, oA_7, oS_7, oA_8, oS_8, oA_9, oS_9, oF_70, oO_70, oA_71, oS_71, oA_72, oS_72, oF_73, oO_73, oA_74, oS_74, oA_75, oS_75, oA_76, oS_76, oA_77, oS_77, oA_78, oS_78, oA_139, oS_139, oF_140, oO_140, oA_141, oS_141, oA_142, oS_142, oA_143, oS_143, oA_144, oS_144, oF_145, oO_145, oF_146, oO_146, oA_147, oS_147, oF_148, oO_148, oA_149, oS_149, oA_150, oS_150, oA_151, oS_151, oF_152, oO_152, oA_153, oS_153, oF_154, oO_154, oA_155, oS_155, oA_156, oS_156, oA_157, oS_157, oA_158, oS_158, oF_159, oO_159, oA_160, oS_160, oA_161, oS_161, oA_162, oS_162, oA_163, oS_163, oF_164, oO_164, oA_165, oS_165, oA_166, oS_166, oA_167, oS_167, oA_168, oS_168, oF_169, oO_169, oA_170, oS_170, oA_171, oS_171, oA_172, oS_172, oA_173, oS_173, hr 0 0 1 rfl, hr 0 1 70 rfl, hr 0 2 139 rfl, hr 0 3 140 rfl, hr 0 4 145 rfl, hr 0 5 146 rfl, hr 0 6 148 rfl, hr 0 7 152 rfl, hr 1 1 2 rfl, hr 1 2 3 rfl, hr 1 3 4 rfl, hr 1 4 6 rfl, hr 1 9 7 rfl, hr 1 11 8 rfl, hr 1 12 9 rfl, hr 4 6 5 rfl, hr 152 6 153 rfl, hr 140 0 141 rfl, hr 140 2 142 rfl, hr 140 3 143 rfl, hr 140 4 144 rfl, hr 146 0 147 rfl, hr 148 0 149 rfl, hr 148 2 150 rfl, hr 148 3 151 rfl, h3, e1]
theorem y_tplace (hr : RX M) (hl : gI M 140 1 = nI tl) (h : TkX M tb tl) (hk : k < 2 ^ 30) : ev (d + 1) m_Tape_placeAt [.ref 140, .int (nI k)] NX M = some (some (.int (nI (plT tb tl k))), NX, M) := by
  obtain ⟨n, h1, h2, h3, h4⟩ := h
  rw [e_Tape_placeAt]
  by_cases e : k < n + 1
  · have e1 : ¬ n + 1 ≤ k := by omega
    have e2 : k < 301 := by omega
    simp (disch := omega) only [r_Tape_placeAt_0, r_Tape_placeAt_1, r_Tape_placeAt_4, r_Tape_placeAt_5, r_Tape_placeAt_5n, r_Tape_placeAt_6, r_Tape_placeAt_9, r_Tape_placeAt_12, r_Tape_placeAt_12n, r_Tape_placeAt_13, r_Tape_placeAt_16, r_Tape_placeAt_17, r_Tape_placeAt_18, r_Tape_placeAt_21, r_Tape_placeAt_21n, r_Tape_placeAt_22, r_Tape_placeAt_25, bnd, tl_s, tl_n, wt_nil, wt_int, wt_ref, wt_null, wt_long, Nat.reduceAdd, Nat.reduceLeDiff, if_true, if_false, decide_true, Bool.true_and, Bool.and_true, zok_n0, zok_n1, zok_bI, bI_eq0, bI_eq1, Bool.true_eq_false, Bool.false_eq_true, not_false_eq_true, not_true_eq_false, decide_false, decide_eq_false_iff_not, decide_eq_true_eq, Classical.not_not, ite_not, lit, Nat.reduceEqDiff, Nat.reduceLT, nI_add, nI_lt', nI_le', nI_eq', nI_sub', pk_mul, nI_rem', nI_div', nI_nz, remN, clampN, inb_nI, Nat.not_lt_zero, Nat.zero_le, Nat.le_zero_eq, if_true, if_false, m1_lt0, m1_eq, t_ite, f_ite, Bool.not_false, Bool.not_true, nI_and, nI_or, nI_xor, nI_shl1, nI_shr, nI_ushr, nI_not, nI_and_p2, Nat.one_mul, vrf_s, vrf_n, oF_0, oO_0, oF_1, oO_1, oA_2, oS_2, oA_3, oS_3, oF_4, oO_4, oA_5, oS_5, oA_6, oS_6, oA_7, oS_7, oA_8, oS_8, oA_9, oS_9, oF_70, oO_70, oA_71, oS_71, oA_72, oS_72, oF_73, oO_73, oA_74, oS_74, oA_75, oS_75, oA_76, oS_76, oA_77, oS_77, oA_78, oS_78, oA_139, oS_139, oF_140, oO_140, oA_141, oS_141, oA_142, oS_142, oA_143, oS_143, oA_144, oS_144, oF_145, oO_145, oF_146, oO_146, oA_147, oS_147, oF_148, oO_148, oA_149, oS_149, oA_150, oS_150, oA_151, oS_151, oF_152, oO_152, oA_153, oS_153, oF_154, oO_154, oA_155, oS_155, oA_156, oS_156, oA_157, oS_157, oA_158, oS_158, oF_159, oO_159, oA_160, oS_160, oA_161, oS_161, oA_162, oS_162, oA_163, oS_163, oF_164, oO_164, oA_165, oS_165, oA_166, oS_166, oA_167, oS_167, oA_168, oS_168, oF_169, oO_169, oA_170, oS_170, oA_171, oS_171, oA_172, oS_172, oA_173, oS_173, hr 0 0 1 rfl, hr 0 1 70 rfl, hr 0 2 139 rfl, hr 0 3 140 rfl, hr 0 4 145 rfl, hr 0 5 146 rfl, hr 0 6 148 rfl, hr 0 7 152 rfl, hr 1 1 2 rfl, hr 1 2 3 rfl, hr 1 3 4 rfl, hr 1 4 6 rfl, hr 1 9 7 rfl, hr 1 11 8 rfl, hr 1 12 9 rfl, hr 4 6 5 rfl, hr 152 6 153 rfl, hr 140 0 141 rfl, hr 140 2 142 rfl, hr 140 3 143 rfl, hr 140 4 144 rfl, hr 146 0 147 rfl, hr 148 0 149 rfl, hr 148 2 150 rfl, hr 148 3 151 rfl, h3, e1, e2, (h4 k e).2.2]
  · have e1 : n + 1 ≤ k := by omega
    rw [plT_end h2 k (by omega)]
    simp (disch := omega) only [r_Tape_placeAt_0, r_Tape_placeAt_1, r_Tape_placeAt_4, r_Tape_placeAt_5, r_Tape_placeAt_5n, r_Tape_placeAt_6, r_Tape_placeAt_9, r_Tape_placeAt_12, r_Tape_placeAt_12n, r_Tape_placeAt_13, r_Tape_placeAt_16, r_Tape_placeAt_17, r_Tape_placeAt_18, r_Tape_placeAt_21, r_Tape_placeAt_21n, r_Tape_placeAt_22, r_Tape_placeAt_25, bnd, tl_s, tl_n, wt_nil, wt_int, wt_ref, wt_null, wt_long, Nat.reduceAdd, Nat.reduceLeDiff, if_true, if_false, decide_true, Bool.true_and, Bool.and_true, zok_n0, zok_n1, zok_bI, bI_eq0, bI_eq1, Bool.true_eq_false, Bool.false_eq_true, not_false_eq_true, not_true_eq_false, decide_false, decide_eq_false_iff_not, decide_eq_true_eq, Classical.not_not, ite_not, lit, Nat.reduceEqDiff, Nat.reduceLT, nI_add, nI_lt', nI_le', nI_eq', nI_sub', pk_mul, nI_rem', nI_div', nI_nz, remN, clampN, inb_nI, Nat.not_lt_zero, Nat.zero_le, Nat.le_zero_eq, if_true, if_false, m1_lt0, m1_eq, t_ite, f_ite, Bool.not_false, Bool.not_true, nI_and, nI_or, nI_xor, nI_shl1, nI_shr, nI_ushr, nI_not, nI_and_p2, Nat.one_mul, vrf_s, vrf_n, oF_0, oO_0, oF_1, oO_1, oA_2, oS_2, oA_3, oS_3, oF_4, oO_4, oA_5, oS_5, oA_6, oS_6, oA_7, oS_7, oA_8, oS_8, oA_9, oS_9, oF_70, oO_70, oA_71, oS_71, oA_72, oS_72, oF_73, oO_73, oA_74, oS_74, oA_75, oS_75, oA_76, oS_76, oA_77, oS_77, oA_78, oS_78, oA_139, oS_139, oF_140, oO_140, oA_141, oS_141, oA_142, oS_142, oA_143, oS_143, oA_144, oS_144, oF_145, oO_145, oF_146, oO_146, oA_147, oS_147, oF_148, oO_148, oA_149, oS_149, oA_150, oS_150, oA_151, oS_151, oF_152, oO_152, oA_153, oS_153, oF_154, oO_154, oA_155, oS_155, oA_156, oS_156, oA_157, oS_157, oA_158, oS_158, oF_159, oO_159, oA_160, oS_160, oA_161, oS_161, oA_162, oS_162, oA_163, oS_163, oF_164, oO_164, oA_165, oS_165, oA_166, oS_166, oA_167, oS_167, oA_168, oS_168, oF_169, oO_169, oA_170, oS_170, oA_171, oS_171, oA_172, oS_172, oA_173, oS_173, hr 0 0 1 rfl, hr 0 1 70 rfl, hr 0 2 139 rfl, hr 0 3 140 rfl, hr 0 4 145 rfl, hr 0 5 146 rfl, hr 0 6 148 rfl, hr 0 7 152 rfl, hr 1 1 2 rfl, hr 1 2 3 rfl, hr 1 3 4 rfl, hr 1 4 6 rfl, hr 1 9 7 rfl, hr 1 11 8 rfl, hr 1 12 9 rfl, hr 4 6 5 rfl, hr 152 6 153 rfl, hr 140 0 141 rfl, hr 140 2 142 rfl, hr 140 3 143 rfl, hr 140 4 144 rfl, hr 146 0 147 rfl, hr 148 0 149 rfl, hr 148 2 150 rfl, hr 148 3 151 rfl, h3, e1, hl]
theorem kd_300 (h3 : tl ≤ 300) (hk : 300 ≤ k) : kdT tb tl k = 43 := by
  refine kdT_end ?_
  have h1 := plT_le (tb := tb) (tl := tl) k
  by_cases e : plT tb tl k < tl
  · have := psT_ge (tb := tb) (tl := tl) k e
    omega
  · omega
theorem kd_lt (h3 : tl ≤ 300) (h : kdT tb tl k ≠ 43) : k < 300 := by
  by_cases e : k < 300
  · exact e
  · exact absurd (kd_300 h3 (by omega)) h
/-- kinds and the reference's tokens -/
def kt (kd : Nat) : Nat := if kd < 28 then 2 else [60, 62, 61, 35, 43, 45, 42, 47, 40, 41, 59, 4, 5, 1, 2, 0].getD (kd - 28) 0
def TC (kd tc : Nat) : Prop := kd < 44 ∧ ((kd = 42 ∧ (tc = 2 ∨ tc = 3 ∨ tc = 58)) ∨ (kd ≠ 42 ∧ tc = kt kd))
theorem sgi_cases (x : Nat) : (sgi x = 42 ∧ x ≠ 60 ∧ x ≠ 62) ∨ (x = 60 ∧ sgi x = 28) ∨ (x = 62 ∧ sgi x = 29) ∨ (x = 61 ∧ sgi x = 30) ∨ (x = 35 ∧ sgi x = 31) ∨ (x = 43 ∧ sgi x = 32) ∨ (x = 45 ∧ sgi x = 33) ∨ (x = 42 ∧ sgi x = 34) ∨ (x = 47 ∧ sgi x = 35) ∨ (x = 40 ∧ sgi x = 36) ∨ (x = 41 ∧ sgi x = 37) ∨ (x = 59 ∧ sgi x = 38) := by
  unfold sgi
  repeat' split
  all_goals omega
theorem ts_ok (x : Nat) : TC (sgi x) (if sgi x ≠ 42 ∨ x = 58 then x else 3) := by
  unfold TC
  rcases sgi_cases x with h | ⟨rfl, h⟩ | ⟨rfl, h⟩ | ⟨rfl, h⟩ | ⟨rfl, h⟩ | ⟨rfl, h⟩ | ⟨rfl, h⟩ | ⟨rfl, h⟩ | ⟨rfl, h⟩ | ⟨rfl, h⟩ | ⟨rfl, h⟩ | ⟨rfl, h⟩
  · rw [h.1]
    refine ⟨by decide, Or.inl ⟨rfl, ?_⟩⟩
    split
    · rename_i z
      rcases z with z | z
      · exact absurd rfl z
      · exact Or.inr (Or.inr z)
    · exact Or.inr (Or.inl rfl)
  all_goals (rw [h]; decide)
theorem ts_2 (p : Nat) : tsA tb tl p ≠ 2 ∧ tsA tb tl p ≠ 1 := by
  unfold tsA
  have h := sgi_cases (tb p)
  split
  · decide
  · split
    · decide
    · split
      · rename_i z
        omega
      · decide
theorem kd_tc (p : Nat) : TC (kdA tb tl p) (tcA tb tl p) := by
  unfold kdA tcA
  by_cases e : p < tl
  · rw [if_pos e, if_pos e]
    by_cases eL : isL (tb p) = true
    · have eD : ¬ isD (tb p) = true := by rw [isLD eL]; decide
      rw [if_pos eL, if_neg eD, if_pos eL, wk_kw (spn_ge 300 p)]
      have h := kw_rng (lts tb (spn (sgL tb tl) 300 p - p) p)
      unfold TC
      rcases h with h | h
      · rw [h]; decide
      · exact ⟨by omega, Or.inr ⟨by omega, by unfold kt; rw [if_pos h]⟩⟩
    · rw [if_neg eL, if_neg eL]
      by_cases eD : isD (tb p) = true
      · rw [if_pos eD, if_pos eD]; unfold TC; decide
      · rw [if_neg eD, if_neg eD]
        unfold sgk tsA
        by_cases e60 : sgE tb tl p = true ∧ tb p = 60
        · rw [if_pos e60, if_pos e60]; unfold TC; decide
        · rw [if_neg e60, if_neg e60]
          by_cases e62 : sgE tb tl p = true ∧ tb p = 62
          · rw [if_pos e62, if_pos e62]; unfold TC; decide
          · rw [if_neg e62, if_neg e62]
            exact ts_ok (tb p)
  · rw [if_neg e, if_neg e]; unfold TC; decide
theorem kd_tcT (k : Nat) : TC (kdT tb tl k) (tcA tb tl (plT tb tl k)) := kd_tc _
theorem tq_g {c j : Nat} (hc : c ≠ 2 ∧ c ≠ 3 ∧ c ≠ 58) (hj : j ≠ 42) (h : ∀ x : Fin 44, x.1 ≠ 42 → (kt x.1 = c ↔ x.1 = j)) : (tcA tb tl (plT tb tl k) = c) = (kdT tb tl k = j) := by
  have h1 := kd_tcT (tb := tb) (tl := tl) k
  unfold TC at h1
  obtain ⟨a, b | b⟩ := h1
  · exact propext ⟨fun z => by omega, fun z => by omega⟩
  · rw [b.2]
    exact propext (h ⟨_, a⟩ b.1)
theorem kt_f : ∀ x : Fin 44, kt x.1 < 256 ∧ (kt x.1 = 2 ↔ x.1 < 28 ∨ x.1 = 42) := by decide +kernel
theorem tq_0 : (tcA tb tl (plT tb tl k) = 0) = (kdT tb tl k = 43) := tq_g (by decide) (by decide) (by decide +kernel)
theorem tq_1 : (tcA tb tl (plT tb tl k) = 1) = (kdT tb tl k = 41) := tq_g (by decide) (by decide) (by decide +kernel)
theorem tq_4 : (tcA tb tl (plT tb tl k) = 4) = (kdT tb tl k = 39) := tq_g (by decide) (by decide) (by decide +kernel)
theorem tq_5 : (tcA tb tl (plT tb tl k) = 5) = (kdT tb tl k = 40) := tq_g (by decide) (by decide) (by decide +kernel)
theorem tq_60 : (tcA tb tl (plT tb tl k) = 60) = (kdT tb tl k = 28) := tq_g (by decide) (by decide) (by decide +kernel)
theorem tq_62 : (tcA tb tl (plT tb tl k) = 62) = (kdT tb tl k = 29) := tq_g (by decide) (by decide) (by decide +kernel)
theorem tq_61 : (tcA tb tl (plT tb tl k) = 61) = (kdT tb tl k = 30) := tq_g (by decide) (by decide) (by decide +kernel)
theorem tq_35 : (tcA tb tl (plT tb tl k) = 35) = (kdT tb tl k = 31) := tq_g (by decide) (by decide) (by decide +kernel)
theorem tq_43 : (tcA tb tl (plT tb tl k) = 43) = (kdT tb tl k = 32) := tq_g (by decide) (by decide) (by decide +kernel)
theorem tq_45 : (tcA tb tl (plT tb tl k) = 45) = (kdT tb tl k = 33) := tq_g (by decide) (by decide) (by decide +kernel)
theorem tq_42 : (tcA tb tl (plT tb tl k) = 42) = (kdT tb tl k = 34) := tq_g (by decide) (by decide) (by decide +kernel)
theorem tq_47 : (tcA tb tl (plT tb tl k) = 47) = (kdT tb tl k = 35) := tq_g (by decide) (by decide) (by decide +kernel)
theorem tq_40 : (tcA tb tl (plT tb tl k) = 40) = (kdT tb tl k = 36) := tq_g (by decide) (by decide) (by decide +kernel)
theorem tq_41 : (tcA tb tl (plT tb tl k) = 41) = (kdT tb tl k = 37) := tq_g (by decide) (by decide) (by decide +kernel)
theorem tq_59 : (tcA tb tl (plT tb tl k) = 59) = (kdT tb tl k = 38) := tq_g (by decide) (by decide) (by decide +kernel)
theorem tc_lt : tcA tb tl (plT tb tl k) < 256 := by
  have h1 := kd_tcT (tb := tb) (tl := tl) k
  unfold TC at h1
  obtain ⟨a, b | b⟩ := h1
  · omega
  · rw [b.2]; exact (kt_f ⟨_, a⟩).1
theorem kd_le : kdT tb tl k ≤ 43 := by have h := (kd_tcT (tb := tb) (tl := tl) k).1; omega
theorem kd_28 {j : Nat} (hj : j < 28) (h : kdT tb tl k = j) : tcA tb tl (plT tb tl k) = 2 := by
  have h1 := kd_tcT (tb := tb) (tl := tl) k
  unfold TC at h1
  obtain ⟨a, b | b⟩ := h1
  · omega
  · rw [b.2]; exact (kt_f ⟨_, a⟩).2.mpr (Or.inl (by show kdT tb tl k < 28; omega))
theorem tc_2 : tcA tb tl (plT tb tl k) = 2 ↔ sgL tb tl (plT tb tl k) = true := by
  unfold tcA sgL
  by_cases e : plT tb tl k < tl
  · rw [if_pos e, decide_eq_true e, Bool.true_and]
    by_cases eD : isD (tb (plT tb tl k)) = true
    · rw [if_pos eD]
      exact ⟨fun z => (by cases z), fun z => (by rw [isLD z] at eD; cases eD)⟩
    · rw [if_neg eD]
      by_cases eL : isL (tb (plT tb tl k)) = true
      · rw [if_pos eL]; exact ⟨fun _ => eL, fun _ => rfl⟩
      · rw [if_neg eL]
        exact ⟨fun z => absurd z (ts_2 _).1, fun z => absurd z eL⟩
  · rw [if_neg e, decide_eq_false e, Bool.false_and]
    exact ⟨fun z => (by cases z), fun z => (by cases z)⟩
theorem tc_1 : tcA tb tl (plT tb tl k) = 1 ↔ sgD tb tl (plT tb tl k) = true := by
  unfold tcA sgD
  by_cases e : plT tb tl k < tl
  · rw [if_pos e, decide_eq_true e, Bool.true_and]
    by_cases eD : isD (tb (plT tb tl k)) = true
    · rw [if_pos eD]; exact ⟨fun _ => eD, fun _ => rfl⟩
    · rw [if_neg eD]
      refine ⟨fun z => absurd z ?_, fun z => absurd z eD⟩
      by_cases eL : isL (tb (plT tb tl k)) = true
      · rw [if_pos eL]; decide
      · rw [if_neg eL]
        exact (ts_2 _).2
  · rw [if_neg e, decide_eq_false e, Bool.false_and]
    exact ⟨fun z => (by cases z), fun z => (by cases z)⟩
theorem kd_word {j : Nat} (hj : j < 28) (hL : sgL tb tl (plT tb tl k) = true) : kdT tb tl k = j ↔ lts tb (spn (sgL tb tl) 300 (plT tb tl k) - plT tb tl k) (plT tb tl k) = wl.getD j [] := by
  have hlt := sgL_lt hL
  have eL : isL (tb (plT tb tl k)) = true := by unfold sgL at hL; rw [Bool.and_eq_true] at hL; exact hL.2
  unfold kdT kdA
  rw [if_pos hlt, if_pos eL, wk_kw (spn_ge 300 _)]
  exact kw_iff hj
theorem lts_Lt : ∀ x ∈ lts tb (spn (sgL tb tl) 300 (plT tb tl k) - plT tb tl k) (plT tb tl k), Lt x := by
  refine lts_mem _ _ (fun i h1 h2 => ?_)
  have h := spn_all (q := sgL tb tl) 300 (plT tb tl k) i h1 (by omega)
  unfold sgL at h
  rw [Bool.and_eq_true] at h
  exact isLB h.2
theorem wd_word {j : Nat} (hj : j < 28) (h6 : (wl.getD j []).length ≤ 6) (hL : sgL tb tl (plT tb tl k) = true) : (lN (wdA tb tl (plT tb tl k)) = lN (wf (wl.getD j []))) = (kdT tb tl k = j) := by
  have e : wdA tb tl (plT tb tl k) = wf (lts tb (spn (sgL tb tl) 300 (plT tb tl k) - plT tb tl k) (plT tb tl k)) := wdG_lts 300 _ 0
  have h1 := wf_lt (lts_Lt (tb := tb) (tl := tl) (k := k))
  have h2 : wf (wl.getD j []) < 2 ^ 61 := wf_lt (wl_Lt ⟨j, hj⟩)
  rw [e, lN_eqv (by omega) (by omega)]
  exact propext ((wf_inj lts_Lt (wl_Lt ⟨j, hj⟩) h6).trans (kd_word hj hL).symm)
theorem x_isWord {w : Nat} {j : Nat} (h : TkM M tb tl k) (hj : j < 28) (h6 : (wl.getD j []).length ≤ 6) (hw : w = wf (wl.getD j [])) : ev (d + 1) m_M_isWord [.ref 174, .long (lN w)] NX M = some (some (.int (bI (decide (kdT tb tl k = j)))), NX, M) := by
  have h9 := h.2.2.1
  have ht := tc_lt (tb := tb) (tl := tl) (k := k)
  rw [e_M_isWord]
  by_cases e : tcA tb tl (plT tb tl k) = 2
  · have hL := tc_2.mp e
    have hwd := wd_word hj h6 hL
    rw [← hw] at hwd
    have h11 := h.2.2.2.2 hL
    by_cases ek : kdT tb tl k = j
    · have c : (lN (wdA tb tl (plT tb tl k)) = lN w) = True := by rw [hwd]; exact eq_true ek
      rw [decide_eq_true ek, bI_t]
      simp (disch := omega) only [r_M_isWord_0, r_M_isWord_0n, r_M_isWord_1, r_M_isWord_4, r_M_isWord_5, r_M_isWord_8, r_M_isWord_8n, r_M_isWord_9, r_M_isWord_12, r_M_isWord_13, r_M_isWord_14, r_M_isWord_17, r_M_isWord_18, r_M_isWord_21, r_M_isWord_22, bnd, tl_s, tl_n, wt_nil, wt_int, wt_ref, wt_null, wt_long, Nat.reduceAdd, Nat.reduceLeDiff, if_true, if_false, decide_true, Bool.true_and, Bool.and_true, zok_n0, zok_n1, zok_bI, bI_eq0, bI_eq1, Bool.true_eq_false, Bool.false_eq_true, not_false_eq_true, not_true_eq_false, decide_false, decide_eq_false_iff_not, decide_eq_true_eq, Classical.not_not, ite_not, lit, Nat.reduceEqDiff, Nat.reduceLT, nI_add, nI_lt', nI_le', nI_eq', nI_sub', pk_mul, nI_rem', nI_div', nI_nz, remN, clampN, inb_nI, Nat.not_lt_zero, Nat.zero_le, Nat.le_zero_eq, if_true, if_false, m1_lt0, m1_eq, t_ite, f_ite, Bool.not_false, Bool.not_true, nI_and, nI_or, nI_xor, nI_shl1, nI_shr, nI_ushr, nI_not, nI_and_p2, Nat.one_mul, vrf_s, vrf_n, oF_174, oO_174, oA_175, oS_175, oA_176, oS_176, oA_177, oS_177, oA_178, oS_178, oA_179, oS_179, oA_180, oS_180, oA_181, oS_181, oA_182, oS_182, oA_183, oS_183, oA_184, oS_184, oA_185, oS_185, oA_186, oS_186, oA_187, oS_187, oA_188, oS_188, h9, e, h11, cmp_eq, c]
    · have c : (lN (wdA tb tl (plT tb tl k)) = lN w) = False := by rw [hwd]; exact eq_false ek
      rw [decide_eq_false ek, bI_f]
      simp (disch := omega) only [r_M_isWord_0, r_M_isWord_0n, r_M_isWord_1, r_M_isWord_4, r_M_isWord_5, r_M_isWord_8, r_M_isWord_8n, r_M_isWord_9, r_M_isWord_12, r_M_isWord_13, r_M_isWord_14, r_M_isWord_17, r_M_isWord_18, r_M_isWord_21, r_M_isWord_22, bnd, tl_s, tl_n, wt_nil, wt_int, wt_ref, wt_null, wt_long, Nat.reduceAdd, Nat.reduceLeDiff, if_true, if_false, decide_true, Bool.true_and, Bool.and_true, zok_n0, zok_n1, zok_bI, bI_eq0, bI_eq1, Bool.true_eq_false, Bool.false_eq_true, not_false_eq_true, not_true_eq_false, decide_false, decide_eq_false_iff_not, decide_eq_true_eq, Classical.not_not, ite_not, lit, Nat.reduceEqDiff, Nat.reduceLT, nI_add, nI_lt', nI_le', nI_eq', nI_sub', pk_mul, nI_rem', nI_div', nI_nz, remN, clampN, inb_nI, Nat.not_lt_zero, Nat.zero_le, Nat.le_zero_eq, if_true, if_false, m1_lt0, m1_eq, t_ite, f_ite, Bool.not_false, Bool.not_true, nI_and, nI_or, nI_xor, nI_shl1, nI_shr, nI_ushr, nI_not, nI_and_p2, Nat.one_mul, vrf_s, vrf_n, oF_174, oO_174, oA_175, oS_175, oA_176, oS_176, oA_177, oS_177, oA_178, oS_178, oA_179, oS_179, oA_180, oS_180, oA_181, oS_181, oA_182, oS_182, oA_183, oS_183, oA_184, oS_184, oA_185, oS_185, oA_186, oS_186, oA_187, oS_187, oA_188, oS_188, h9, e, h11, cmp_eq, c]
  · have ek : ¬ kdT tb tl k = j := fun z => e (kd_28 hj z)
    rw [decide_eq_false ek, bI_f]
    simp (disch := omega) only [r_M_isWord_0, r_M_isWord_0n, r_M_isWord_1, r_M_isWord_4, r_M_isWord_5, r_M_isWord_8, r_M_isWord_8n, r_M_isWord_9, r_M_isWord_12, r_M_isWord_13, r_M_isWord_14, r_M_isWord_17, r_M_isWord_18, r_M_isWord_21, r_M_isWord_22, bnd, tl_s, tl_n, wt_nil, wt_int, wt_ref, wt_null, wt_long, Nat.reduceAdd, Nat.reduceLeDiff, if_true, if_false, decide_true, Bool.true_and, Bool.and_true, zok_n0, zok_n1, zok_bI, bI_eq0, bI_eq1, Bool.true_eq_false, Bool.false_eq_true, not_false_eq_true, not_true_eq_false, decide_false, decide_eq_false_iff_not, decide_eq_true_eq, Classical.not_not, ite_not, lit, Nat.reduceEqDiff, Nat.reduceLT, nI_add, nI_lt', nI_le', nI_eq', nI_sub', pk_mul, nI_rem', nI_div', nI_nz, remN, clampN, inb_nI, Nat.not_lt_zero, Nat.zero_le, Nat.le_zero_eq, if_true, if_false, m1_lt0, m1_eq, t_ite, f_ite, Bool.not_false, Bool.not_true, nI_and, nI_or, nI_xor, nI_shl1, nI_shr, nI_ushr, nI_not, nI_and_p2, Nat.one_mul, vrf_s, vrf_n, oF_174, oO_174, oA_175, oS_175, oA_176, oS_176, oA_177, oS_177, oA_178, oS_178, oA_179, oS_179, oA_180, oS_180, oA_181, oS_181, oA_182, oS_182, oA_183, oS_183, oA_184, oS_184, oA_185, oS_185, oA_186, oS_186, oA_187, oS_187, oA_188, oS_188, h9, e]
theorem wq_0 (hL : sgL tb tl (plT tb tl k) = true) : (lN (wdA tb tl (plT tb tl k)) = lN (((112 * 256 + 117) * 256 + 116) * 256 + 115)) = (kdT tb tl k = 0) := by
  have h := wd_word (tb := tb) (tl := tl) (k := k) (j := 0) (by decide) (by decide) hL
  rw [← h]
  rfl
theorem x_isw_0 (h : TkM M tb tl k) : ev (d + 1) m_M_isWord [.ref 174, .long (lN (((112 * 256 + 117) * 256 + 116) * 256 + 115))] NX M = some (some (.int (bI (decide (kdT tb tl k = 0)))), NX, M) := x_isWord h (by decide) (by decide) (by decide +kernel)
theorem wq_1 (hL : sgL tb tl (plT tb tl k) = true) : (lN (wdA tb tl (plT tb tl k)) = lN ((((102 * 256 + 97) * 256 + 108) * 256 + 108) * 256 + 115)) = (kdT tb tl k = 1) := by
  have h := wd_word (tb := tb) (tl := tl) (k := k) (j := 1) (by decide) (by decide) hL
  rw [← h]
  rfl
theorem x_isw_1 (h : TkM M tb tl k) : ev (d + 1) m_M_isWord [.ref 174, .long (lN ((((102 * 256 + 97) * 256 + 108) * 256 + 108) * 256 + 115))] NX M = some (some (.int (bI (decide (kdT tb tl k = 1)))), NX, M) := x_isWord h (by decide) (by decide) (by decide +kernel)
theorem wq_2 (hL : sgL tb tl (plT tb tl k) = true) : (lN (wdA tb tl (plT tb tl k)) = lN ((((112 * 256 + 108) * 256 + 97) * 256 + 110) * 256 + 107)) = (kdT tb tl k = 2) := by
  have h := wd_word (tb := tb) (tl := tl) (k := k) (j := 2) (by decide) (by decide) hL
  rw [← h]
  rfl
theorem x_isw_2 (h : TkM M tb tl k) : ev (d + 1) m_M_isWord [.ref 174, .long (lN ((((112 * 256 + 108) * 256 + 97) * 256 + 110) * 256 + 107))] NX M = some (some (.int (bI (decide (kdT tb tl k = 2)))), NX, M) := x_isWord h (by decide) (by decide) (by decide +kernel)
theorem wq_3 (hL : sgL tb tl (plT tb tl k) = true) : (lN (wdA tb tl (plT tb tl k)) = lN ((112 * 256 + 117) * 256 + 116)) = (kdT tb tl k = 3) := by
  have h := wd_word (tb := tb) (tl := tl) (k := k) (j := 3) (by decide) (by decide) hL
  rw [← h]
  rfl
theorem x_isw_3 (h : TkM M tb tl k) : ev (d + 1) m_M_isWord [.ref 174, .long (lN ((112 * 256 + 117) * 256 + 116))] NX M = some (some (.int (bI (decide (kdT tb tl k = 3)))), NX, M) := x_isWord h (by decide) (by decide) (by decide +kernel)
theorem wq_4 (hL : sgL tb tl (plT tb tl k) = true) : (lN (wdA tb tl (plT tb tl k)) = lN (((116 * 256 + 97) * 256 + 107) * 256 + 101)) = (kdT tb tl k = 4) := by
  have h := wd_word (tb := tb) (tl := tl) (k := k) (j := 4) (by decide) (by decide) hL
  rw [← h]
  rfl
theorem x_isw_4 (h : TkM M tb tl k) : ev (d + 1) m_M_isWord [.ref 174, .long (lN (((116 * 256 + 97) * 256 + 107) * 256 + 101))] NX M = some (some (.int (bI (decide (kdT tb tl k = 4)))), NX, M) := x_isWord h (by decide) (by decide) (by decide +kernel)
theorem wq_6 (hL : sgL tb tl (plT tb tl k) = true) : (lN (wdA tb tl (plT tb tl k)) = lN (((((111 * 256 + 98) * 256 + 106) * 256 + 101) * 256 + 99) * 256 + 116)) = (kdT tb tl k = 6) := by
  have h := wd_word (tb := tb) (tl := tl) (k := k) (j := 6) (by decide) (by decide) hL
  rw [← h]
  rfl
theorem x_isw_6 (h : TkM M tb tl k) : ev (d + 1) m_M_isWord [.ref 174, .long (lN (((((111 * 256 + 98) * 256 + 106) * 256 + 101) * 256 + 99) * 256 + 116))] NX M = some (some (.int (bI (decide (kdT tb tl k = 6)))), NX, M) := x_isWord h (by decide) (by decide) (by decide +kernel)
theorem wq_7 (hL : sgL tb tl (plT tb tl k) = true) : (lN (wdA tb tl (plT tb tl k)) = lN (((100 * 256 + 114) * 256 + 111) * 256 + 112)) = (kdT tb tl k = 7) := by
  have h := wd_word (tb := tb) (tl := tl) (k := k) (j := 7) (by decide) (by decide) hL
  rw [← h]
  rfl
theorem x_isw_7 (h : TkM M tb tl k) : ev (d + 1) m_M_isWord [.ref 174, .long (lN (((100 * 256 + 114) * 256 + 111) * 256 + 112))] NX M = some (some (.int (bI (decide (kdT tb tl k = 7)))), NX, M) := x_isWord h (by decide) (by decide) (by decide +kernel)
theorem wq_8 (hL : sgL tb tl (plT tb tl k) = true) : (lN (wdA tb tl (plT tb tl k)) = lN (((104 * 256 + 111) * 256 + 117) * 256 + 114)) = (kdT tb tl k = 8) := by
  have h := wd_word (tb := tb) (tl := tl) (k := k) (j := 8) (by decide) (by decide) hL
  rw [← h]
  rfl
theorem x_isw_8 (h : TkM M tb tl k) : ev (d + 1) m_M_isWord [.ref 174, .long (lN (((104 * 256 + 111) * 256 + 117) * 256 + 114))] NX M = some (some (.int (bI (decide (kdT tb tl k = 8)))), NX, M) := x_isWord h (by decide) (by decide) (by decide +kernel)
theorem wq_9 (hL : sgL tb tl (plT tb tl k) = true) : (lN (wdA tb tl (plT tb tl k)) = lN (((119 * 256 + 105) * 256 + 110) * 256 + 100)) = (kdT tb tl k = 9) := by
  have h := wd_word (tb := tb) (tl := tl) (k := k) (j := 9) (by decide) (by decide) hL
  rw [← h]
  rfl
theorem x_isw_9 (h : TkM M tb tl k) : ev (d + 1) m_M_isWord [.ref 174, .long (lN (((119 * 256 + 105) * 256 + 110) * 256 + 100))] NX M = some (some (.int (bI (decide (kdT tb tl k = 9)))), NX, M) := x_isWord h (by decide) (by decide) (by decide +kernel)
theorem wq_10 (hL : sgL tb tl (plT tb tl k) = true) : (lN (wdA tb tl (plT tb tl k)) = lN (((((110 * 256 + 117) * 256 + 109) * 256 + 98) * 256 + 101) * 256 + 114)) = (kdT tb tl k = 10) := by
  have h := wd_word (tb := tb) (tl := tl) (k := k) (j := 10) (by decide) (by decide) hL
  rw [← h]
  rfl
theorem x_isw_10 (h : TkM M tb tl k) : ev (d + 1) m_M_isWord [.ref 174, .long (lN (((((110 * 256 + 117) * 256 + 109) * 256 + 98) * 256 + 101) * 256 + 114))] NX M = some (some (.int (bI (decide (kdT tb tl k = 10)))), NX, M) := x_isWord h (by decide) (by decide) (by decide +kernel)
theorem wq_11 (hL : sgL tb tl (plT tb tl k) = true) : (lN (wdA tb tl (plT tb tl k)) = lN (((((119 * 256 + 101) * 256 + 105) * 256 + 103) * 256 + 104) * 256 + 116)) = (kdT tb tl k = 11) := by
  have h := wd_word (tb := tb) (tl := tl) (k := k) (j := 11) (by decide) (by decide) hL
  rw [← h]
  rfl
theorem x_isw_11 (h : TkM M tb tl k) : ev (d + 1) m_M_isWord [.ref 174, .long (lN (((((119 * 256 + 101) * 256 + 105) * 256 + 103) * 256 + 104) * 256 + 116))] NX M = some (some (.int (bI (decide (kdT tb tl k = 11)))), NX, M) := x_isWord h (by decide) (by decide) (by decide +kernel)
theorem wq_12 (hL : sgL tb tl (plT tb tl k) = true) : (lN (wdA tb tl (plT tb tl k)) = lN (117 * 256 + 112)) = (kdT tb tl k = 12) := by
  have h := wd_word (tb := tb) (tl := tl) (k := k) (j := 12) (by decide) (by decide) hL
  rw [← h]
  rfl
theorem x_isw_12 (h : TkM M tb tl k) : ev (d + 1) m_M_isWord [.ref 174, .long (lN (117 * 256 + 112))] NX M = some (some (.int (bI (decide (kdT tb tl k = 12)))), NX, M) := x_isWord h (by decide) (by decide) (by decide +kernel)
theorem wq_14 (hL : sgL tb tl (plT tb tl k) = true) : (lN (wdA tb tl (plT tb tl k)) = lN ((((114 * 256 + 101) * 256 + 115) * 256 + 116) * 256 + 115)) = (kdT tb tl k = 14) := by
  have h := wd_word (tb := tb) (tl := tl) (k := k) (j := 14) (by decide) (by decide) hL
  rw [← h]
  rfl
theorem x_isw_14 (h : TkM M tb tl k) : ev (d + 1) m_M_isWord [.ref 174, .long (lN ((((114 * 256 + 101) * 256 + 115) * 256 + 116) * 256 + 115))] NX M = some (some (.int (bI (decide (kdT tb tl k = 14)))), NX, M) := x_isWord h (by decide) (by decide) (by decide +kernel)
theorem wq_15 (hL : sgL tb tl (plT tb tl k) = true) : (lN (wdA tb tl (plT tb tl k)) = lN (((108 * 256 + 111) * 256 + 97) * 256 + 100)) = (kdT tb tl k = 15) := by
  have h := wd_word (tb := tb) (tl := tl) (k := k) (j := 15) (by decide) (by decide) hL
  rw [← h]
  rfl
theorem x_isw_15 (h : TkM M tb tl k) : ev (d + 1) m_M_isWord [.ref 174, .long (lN (((108 * 256 + 111) * 256 + 97) * 256 + 100))] NX M = some (some (.int (bI (decide (kdT tb tl k = 15)))), NX, M) := x_isWord h (by decide) (by decide) (by decide +kernel)
theorem wq_16 (hL : sgL tb tl (plT tb tl k) = true) : (lN (wdA tb tl (plT tb tl k)) = lN (111 * 256 + 110)) = (kdT tb tl k = 16) := by
  have h := wd_word (tb := tb) (tl := tl) (k := k) (j := 16) (by decide) (by decide) hL
  rw [← h]
  rfl
theorem x_isw_16 (h : TkM M tb tl k) : ev (d + 1) m_M_isWord [.ref 174, .long (lN (111 * 256 + 110))] NX M = some (some (.int (bI (decide (kdT tb tl k = 16)))), NX, M) := x_isWord h (by decide) (by decide) (by decide +kernel)
theorem wq_17 (hL : sgL tb tl (plT tb tl k) = true) : (lN (wdA tb tl (plT tb tl k)) = lN (116 * 256 + 111)) = (kdT tb tl k = 17) := by
  have h := wd_word (tb := tb) (tl := tl) (k := k) (j := 17) (by decide) (by decide) hL
  rw [← h]
  rfl
theorem x_isw_17 (h : TkM M tb tl k) : ev (d + 1) m_M_isWord [.ref 174, .long (lN (116 * 256 + 111))] NX M = some (some (.int (bI (decide (kdT tb tl k = 17)))), NX, M) := x_isWord h (by decide) (by decide) (by decide +kernel)
theorem wq_18 (hL : sgL tb tl (plT tb tl k) = true) : (lN (wdA tb tl (plT tb tl k)) = lN (111 * 256 + 102)) = (kdT tb tl k = 18) := by
  have h := wd_word (tb := tb) (tl := tl) (k := k) (j := 18) (by decide) (by decide) hL
  rw [← h]
  rfl
theorem x_isw_18 (h : TkM M tb tl k) : ev (d + 1) m_M_isWord [.ref 174, .long (lN (111 * 256 + 102))] NX M = some (some (.int (bI (decide (kdT tb tl k = 18)))), NX, M) := x_isWord h (by decide) (by decide) (by decide +kernel)
theorem wq_19 (hL : sgL tb tl (plT tb tl k) = true) : (lN (wdA tb tl (plT tb tl k)) = lN (((98 * 256 + 105) * 256 + 116) * 256 + 115)) = (kdT tb tl k = 19) := by
  have h := wd_word (tb := tb) (tl := tl) (k := k) (j := 19) (by decide) (by decide) hL
  rw [← h]
  rfl
theorem x_isw_19 (h : TkM M tb tl k) : ev (d + 1) m_M_isWord [.ref 174, .long (lN (((98 * 256 + 105) * 256 + 116) * 256 + 115))] NX M = some (some (.int (bI (decide (kdT tb tl k = 19)))), NX, M) := x_isWord h (by decide) (by decide) (by decide +kernel)
theorem wq_20 (hL : sgL tb tl (plT tb tl k) = true) : (lN (wdA tb tl (plT tb tl k)) = lN ((((104 * 256 + 101) * 256 + 97) * 256 + 118) * 256 + 121)) = (kdT tb tl k = 20) := by
  have h := wd_word (tb := tb) (tl := tl) (k := k) (j := 20) (by decide) (by decide) hL
  rw [← h]
  rfl
theorem x_isw_20 (h : TkM M tb tl k) : ev (d + 1) m_M_isWord [.ref 174, .long (lN ((((104 * 256 + 101) * 256 + 97) * 256 + 118) * 256 + 121))] NX M = some (some (.int (bI (decide (kdT tb tl k = 20)))), NX, M) := x_isWord h (by decide) (by decide) (by decide +kernel)
theorem wq_21 (hL : sgL tb tl (plT tb tl k) = true) : (lN (wdA tb tl (plT tb tl k)) = lN (105 * 256 + 102)) = (kdT tb tl k = 21) := by
  have h := wd_word (tb := tb) (tl := tl) (k := k) (j := 21) (by decide) (by decide) hL
  rw [← h]
  rfl
theorem x_isw_21 (h : TkM M tb tl k) : ev (d + 1) m_M_isWord [.ref 174, .long (lN (105 * 256 + 102))] NX M = some (some (.int (bI (decide (kdT tb tl k = 21)))), NX, M) := x_isWord h (by decide) (by decide) (by decide +kernel)
theorem wq_22 (hL : sgL tb tl (plT tb tl k) = true) : (lN (wdA tb tl (plT tb tl k)) = lN (((116 * 256 + 104) * 256 + 101) * 256 + 110)) = (kdT tb tl k = 22) := by
  have h := wd_word (tb := tb) (tl := tl) (k := k) (j := 22) (by decide) (by decide) hL
  rw [← h]
  rfl
theorem x_isw_22 (h : TkM M tb tl k) : ev (d + 1) m_M_isWord [.ref 174, .long (lN (((116 * 256 + 104) * 256 + 101) * 256 + 110))] NX M = some (some (.int (bI (decide (kdT tb tl k = 22)))), NX, M) := x_isWord h (by decide) (by decide) (by decide +kernel)
theorem wq_23 (hL : sgL tb tl (plT tb tl k) = true) : (lN (wdA tb tl (plT tb tl k)) = lN (((101 * 256 + 108) * 256 + 115) * 256 + 101)) = (kdT tb tl k = 23) := by
  have h := wd_word (tb := tb) (tl := tl) (k := k) (j := 23) (by decide) (by decide) hL
  rw [← h]
  rfl
theorem x_isw_23 (h : TkM M tb tl k) : ev (d + 1) m_M_isWord [.ref 174, .long (lN (((101 * 256 + 108) * 256 + 115) * 256 + 101))] NX M = some (some (.int (bI (decide (kdT tb tl k = 23)))), NX, M) := x_isWord h (by decide) (by decide) (by decide +kernel)
theorem wq_24 (hL : sgL tb tl (plT tb tl k) = true) : (lN (wdA tb tl (plT tb tl k)) = lN ((101 * 256 + 110) * 256 + 100)) = (kdT tb tl k = 24) := by
  have h := wd_word (tb := tb) (tl := tl) (k := k) (j := 24) (by decide) (by decide) hL
  rw [← h]
  rfl
theorem x_isw_24 (h : TkM M tb tl k) : ev (d + 1) m_M_isWord [.ref 174, .long (lN ((101 * 256 + 110) * 256 + 100))] NX M = some (some (.int (bI (decide (kdT tb tl k = 24)))), NX, M) := x_isWord h (by decide) (by decide) (by decide +kernel)
theorem wq_25 (hL : sgL tb tl (plT tb tl k) = true) : (lN (wdA tb tl (plT tb tl k)) = lN (111 * 256 + 114)) = (kdT tb tl k = 25) := by
  have h := wd_word (tb := tb) (tl := tl) (k := k) (j := 25) (by decide) (by decide) hL
  rw [← h]
  rfl
theorem x_isw_25 (h : TkM M tb tl k) : ev (d + 1) m_M_isWord [.ref 174, .long (lN (111 * 256 + 114))] NX M = some (some (.int (bI (decide (kdT tb tl k = 25)))), NX, M) := x_isWord h (by decide) (by decide) (by decide +kernel)
theorem wq_26 (hL : sgL tb tl (plT tb tl k) = true) : (lN (wdA tb tl (plT tb tl k)) = lN ((97 * 256 + 110) * 256 + 100)) = (kdT tb tl k = 26) := by
  have h := wd_word (tb := tb) (tl := tl) (k := k) (j := 26) (by decide) (by decide) hL
  rw [← h]
  rfl
theorem x_isw_26 (h : TkM M tb tl k) : ev (d + 1) m_M_isWord [.ref 174, .long (lN ((97 * 256 + 110) * 256 + 100))] NX M = some (some (.int (bI (decide (kdT tb tl k = 26)))), NX, M) := x_isWord h (by decide) (by decide) (by decide +kernel)
theorem wq_27 (hL : sgL tb tl (plT tb tl k) = true) : (lN (wdA tb tl (plT tb tl k)) = lN ((110 * 256 + 111) * 256 + 116)) = (kdT tb tl k = 27) := by
  have h := wd_word (tb := tb) (tl := tl) (k := k) (j := 27) (by decide) (by decide) hL
  rw [← h]
  rfl
theorem x_isw_27 (h : TkM M tb tl k) : ev (d + 1) m_M_isWord [.ref 174, .long (lN ((110 * 256 + 111) * 256 + 116))] NX M = some (some (.int (bI (decide (kdT tb tl k = 27)))), NX, M) := x_isWord h (by decide) (by decide) (by decide +kernel)
theorem x_isLong {j a0 a1 a2 a3 a4 a5 a6 : Nat} (hT : TpM M tb tl) (h : TkM M tb tl k) (hj : j < 28) (hw : wl.getD j [] = [a0, a1, a2, a3, a4, a5, a6]) (ha : a0 < 256 ∧ a1 < 256 ∧ a2 < 256 ∧ a3 < 256 ∧ a4 < 256 ∧ a5 < 256 ∧ a6 < 256) : ev (d + 4) m_M_isLong [.ref 174, .long (lN (((a0 * 256 + a1) * 256 + a2) * 256 + a3)), .long (lN ((a4 * 256 + a5) * 256 + a6))] NX M = some (some (.int (bI (decide (kdT tb tl k = j)))), NX, M) := by
  have h7 := h.1
  have h8' := h.2.1
  have h9 := h.2.2.1
  have ht := tc_lt (tb := tb) (tl := tl) (k := k)
  have hps := psT_le (tb := tb) (tl := tl) (k + 1)
  have hpl := plT_le (tb := tb) (tl := tl) k
  have h3 := hT.2.2.2.1
  have hpsE : psT tb tl (k + 1) = nxA tb tl (plT tb tl k) := by rw [psT]; rfl
  rw [e_M_isLong]
  by_cases e : tcA tb tl (plT tb tl k) = 2
  · have hL := tc_2.mp e
    have hlt := sgL_lt hL
    have eL : isL (tb (plT tb tl k)) = true := by have z := hL; unfold sgL at z; rw [Bool.and_eq_true] at z; exact z.2
    have hkw := kd_word (j := j) hj hL
    have hnx : nxA tb tl (plT tb tl k) = spn (sgL tb tl) 300 (plT tb tl k) := by unfold nxA; rw [if_pos hlt, if_pos eL]
    have hge := spn_ge (q := sgL tb tl) 300 (plT tb tl k)
    rw [← hnx, ← hpsE] at hkw hge
    rw [hw] at hkw
    generalize plT tb tl k = p at *
    generalize psT tb tl (k + 1) = q at *
    by_cases e7 : q - p = 7
    · have eq7 : q = p + 7 := by omega
      rw [e7] at hkw
      have c0 := hT.at' (d := d + 2) (p := p) (by omega)
      have c1 := hT.at' (d := d + 2) (p := p + 1) (by omega)
      have c2 := hT.at' (d := d + 2) (p := p + 2) (by omega)
      have c3 := hT.at' (d := d + 2) (p := p + 3) (by omega)
      have c4 := hT.at' (d := d + 2) (p := p + 4) (by omega)
      have c5 := hT.at' (d := d + 2) (p := p + 5) (by omega)
      have c6 := hT.at' (d := d + 2) (p := p + 6) (by omega)
      have hs : ∀ i, i < 7 → sgn tb tl (p + i) = nI (tb (p + i)) := fun i hi => by unfold sgn; rw [if_pos (by omega)]
      rw [show sgn tb tl p = nI (tb p) from hs 0 (by omega)] at c0
      rw [hs 1 (by omega)] at c1
      rw [hs 2 (by omega)] at c2
      rw [hs 3 (by omega)] at c3
      rw [hs 4 (by omega)] at c4
      rw [hs 5 (by omega)] at c5
      rw [hs 6 (by omega)] at c6
      have g := hT.2.2.2.2
      have g0 := g p
      have g1 := g (p + 1)
      have g2 := g (p + 2)
      have g3 := g (p + 3)
      have g4 := g (p + 4)
      have g5 := g (p + 5)
      have g6 := g (p + 6)
      have hk7 : kdT tb tl k = j ↔ (tb p = a0 ∧ tb (p + 1) = a1 ∧ tb (p + 2) = a2 ∧ tb (p + 3) = a3 ∧ tb (p + 4) = a4 ∧ tb (p + 5) = a5 ∧ tb (p + 6) = a6) := by
        rw [hkw]
        show [tb p, tb (p + 1), tb (p + 2), tb (p + 3), tb (p + 4), tb (p + 5), tb (p + 6)] = _ ↔ _
        simp only [List.cons.injEq, and_true]
      have w4 := x_w4 (d := d) (M := M) g0 g1 g2 g3
      have w3 := x_w3 (d := d + 1) (M := M) g4 g5 g6
      generalize tb p = b0 at *
      generalize tb (p + 1) = b1 at *
      generalize tb (p + 2) = b2 at *
      generalize tb (p + 3) = b3 at *
      generalize tb (p + 4) = b4 at *
      generalize tb (p + 5) = b5 at *
      generalize tb (p + 6) = b6 at *
      have q1 : (lN (((b0 * 256 + b1) * 256 + b2) * 256 + b3) = lN (((a0 * 256 + a1) * 256 + a2) * 256 + a3)) = (b0 = a0 ∧ b1 = a1 ∧ b2 = a2 ∧ b3 = a3) := by
        rw [lN_eqv (by omega) (by omega)]
        exact propext ⟨fun z => by omega, fun z => by omega⟩
      have q2 : (lN ((b4 * 256 + b5) * 256 + b6) = lN ((a4 * 256 + a5) * 256 + a6)) = (b4 = a4 ∧ b5 = a5 ∧ b6 = a6) := by
        rw [lN_eqv (by omega) (by omega)]
        exact propext ⟨fun z => by omega, fun z => by omega⟩
      by_cases t1 : b0 = a0 ∧ b1 = a1 ∧ b2 = a2 ∧ b3 = a3
      · have q1' := q1.trans (eq_true t1)
        by_cases t2 : b4 = a4 ∧ b5 = a5 ∧ b6 = a6
        · have q2' := q2.trans (eq_true t2)
          rw [decide_eq_true (hk7.mpr ⟨t1.1, t1.2.1, t1.2.2.1, t1.2.2.2, t2.1, t2.2.1, t2.2.2⟩), bI_t]
          simp (disch := omega) only [r_M_isLong_0, r_M_isLong_0n, r_M_isLong_1, r_M_isLong_4, r_M_isLong_5, r_M_isLong_8, r_M_isLong_8n, r_M_isLong_9, r_M_isLong_12, r_M_isLong_12n, r_M_isLong_13, r_M_isLong_16, r_M_isLong_17, r_M_isLong_19, r_M_isLong_22, r_M_isLong_22n, r_M_isLong_23, r_M_isLong_23n, r_M_isLong_24, r_M_isLong_27, r_M_isLong_30, r_M_isLong_30n, r_M_isLong_31, r_M_isLong_31n, r_M_isLong_32, r_M_isLong_35, r_M_isLong_36, r_M_isLong_37, r_M_isLong_40, r_M_isLong_40n, r_M_isLong_41, r_M_isLong_41n, r_M_isLong_42, r_M_isLong_45, r_M_isLong_46, r_M_isLong_47, r_M_isLong_50, r_M_isLong_50n, r_M_isLong_51, r_M_isLong_51n, r_M_isLong_52, r_M_isLong_55, r_M_isLong_56, r_M_isLong_57, r_M_isLong_60, r_M_isLong_63, r_M_isLong_64, r_M_isLong_65, r_M_isLong_68, r_M_isLong_68n, r_M_isLong_69, r_M_isLong_69n, r_M_isLong_70, r_M_isLong_73, r_M_isLong_74, r_M_isLong_75, r_M_isLong_78, r_M_isLong_78n, r_M_isLong_79, r_M_isLong_79n, r_M_isLong_80, r_M_isLong_83, r_M_isLong_84, r_M_isLong_85, r_M_isLong_88, r_M_isLong_88n, r_M_isLong_89, r_M_isLong_89n, r_M_isLong_90, r_M_isLong_93, r_M_isLong_95, r_M_isLong_96, r_M_isLong_99, r_M_isLong_102, r_M_isLong_103, r_M_isLong_104, r_M_isLong_107, r_M_isLong_108, r_M_isLong_111, r_M_isLong_112, bnd, tl_s, tl_n, wt_nil, wt_int, wt_ref, wt_null, wt_long, Nat.reduceAdd, Nat.reduceLeDiff, if_true, if_false, decide_true, Bool.true_and, Bool.and_true, zok_n0, zok_n1, zok_bI, bI_eq0, bI_eq1, Bool.true_eq_false, Bool.false_eq_true, not_false_eq_true, not_true_eq_false, decide_false, decide_eq_false_iff_not, decide_eq_true_eq, Classical.not_not, ite_not, lit, Nat.reduceEqDiff, Nat.reduceLT, nI_add, nI_lt', nI_le', nI_eq', nI_sub', pk_mul, nI_rem', nI_div', nI_nz, remN, clampN, inb_nI, Nat.not_lt_zero, Nat.zero_le, Nat.le_zero_eq, if_true, if_false, m1_lt0, m1_eq, t_ite, f_ite, Bool.not_false, Bool.not_true, nI_and, nI_or, nI_xor, nI_shl1, nI_shr, nI_ushr, nI_not, nI_and_p2, Nat.one_mul, vrf_s, vrf_n, oF_174, oO_174, oA_175, oS_175, oA_176, oS_176, oA_177, oS_177, oA_178, oS_178, oA_179, oS_179, oA_180, oS_180, oA_181, oS_181, oA_182, oS_182, oA_183, oS_183, oA_184, oS_184, oA_185, oS_185, oA_186, oS_186, oA_187, oS_187, oA_188, oS_188, mO_M_byteAt, mO_M_w4, mO_M_w3, h7, h8', h9, e, eq7, Nat.add_sub_cancel_left, c0, c1, c2, c3, c4, c5, c6, w4, w3, cmp_eq, q1', q2']
        · have q2' := q2.trans (eq_false t2)
          rw [decide_eq_false (fun z => t2 (hk7.mp z).2.2.2.2), bI_f]
          simp (disch := omega) only [r_M_isLong_0, r_M_isLong_0n, r_M_isLong_1, r_M_isLong_4, r_M_isLong_5, r_M_isLong_8, r_M_isLong_8n, r_M_isLong_9, r_M_isLong_12, r_M_isLong_12n, r_M_isLong_13, r_M_isLong_16, r_M_isLong_17, r_M_isLong_19, r_M_isLong_22, r_M_isLong_22n, r_M_isLong_23, r_M_isLong_23n, r_M_isLong_24, r_M_isLong_27, r_M_isLong_30, r_M_isLong_30n, r_M_isLong_31, r_M_isLong_31n, r_M_isLong_32, r_M_isLong_35, r_M_isLong_36, r_M_isLong_37, r_M_isLong_40, r_M_isLong_40n, r_M_isLong_41, r_M_isLong_41n, r_M_isLong_42, r_M_isLong_45, r_M_isLong_46, r_M_isLong_47, r_M_isLong_50, r_M_isLong_50n, r_M_isLong_51, r_M_isLong_51n, r_M_isLong_52, r_M_isLong_55, r_M_isLong_56, r_M_isLong_57, r_M_isLong_60, r_M_isLong_63, r_M_isLong_64, r_M_isLong_65, r_M_isLong_68, r_M_isLong_68n, r_M_isLong_69, r_M_isLong_69n, r_M_isLong_70, r_M_isLong_73, r_M_isLong_74, r_M_isLong_75, r_M_isLong_78, r_M_isLong_78n, r_M_isLong_79, r_M_isLong_79n, r_M_isLong_80, r_M_isLong_83, r_M_isLong_84, r_M_isLong_85, r_M_isLong_88, r_M_isLong_88n, r_M_isLong_89, r_M_isLong_89n, r_M_isLong_90, r_M_isLong_93, r_M_isLong_95, r_M_isLong_96, r_M_isLong_99, r_M_isLong_102, r_M_isLong_103, r_M_isLong_104, r_M_isLong_107, r_M_isLong_108, r_M_isLong_111, r_M_isLong_112, bnd, tl_s, tl_n, wt_nil, wt_int, wt_ref, wt_null, wt_long, Nat.reduceAdd, Nat.reduceLeDiff, if_true, if_false, decide_true, Bool.true_and, Bool.and_true, zok_n0, zok_n1, zok_bI, bI_eq0, bI_eq1, Bool.true_eq_false, Bool.false_eq_true, not_false_eq_true, not_true_eq_false, decide_false, decide_eq_false_iff_not, decide_eq_true_eq, Classical.not_not, ite_not, lit, Nat.reduceEqDiff, Nat.reduceLT, nI_add, nI_lt', nI_le', nI_eq', nI_sub', pk_mul, nI_rem', nI_div', nI_nz, remN, clampN, inb_nI, Nat.not_lt_zero, Nat.zero_le, Nat.le_zero_eq, if_true, if_false, m1_lt0, m1_eq, t_ite, f_ite, Bool.not_false, Bool.not_true, nI_and, nI_or, nI_xor, nI_shl1, nI_shr, nI_ushr, nI_not, nI_and_p2, Nat.one_mul, vrf_s, vrf_n, oF_174, oO_174, oA_175, oS_175, oA_176, oS_176, oA_177, oS_177, oA_178, oS_178, oA_179, oS_179, oA_180, oS_180, oA_181, oS_181, oA_182, oS_182, oA_183, oS_183, oA_184, oS_184, oA_185, oS_185, oA_186, oS_186, oA_187, oS_187, oA_188, oS_188, mO_M_byteAt, mO_M_w4, mO_M_w3, h7, h8', h9, e, eq7, Nat.add_sub_cancel_left, c0, c1, c2, c3, c4, c5, c6, w4, w3, cmp_eq, q1', q2']
      · have q1' := q1.trans (eq_false t1)
        rw [decide_eq_false (fun z => by have := hk7.mp z; exact t1 ⟨this.1, this.2.1, this.2.2.1, this.2.2.2.1⟩), bI_f]
        simp (disch := omega) only [r_M_isLong_0, r_M_isLong_0n, r_M_isLong_1, r_M_isLong_4, r_M_isLong_5, r_M_isLong_8, r_M_isLong_8n, r_M_isLong_9, r_M_isLong_12, r_M_isLong_12n, r_M_isLong_13, r_M_isLong_16, r_M_isLong_17, r_M_isLong_19, r_M_isLong_22, r_M_isLong_22n, r_M_isLong_23, r_M_isLong_23n, r_M_isLong_24, r_M_isLong_27, r_M_isLong_30, r_M_isLong_30n, r_M_isLong_31, r_M_isLong_31n, r_M_isLong_32, r_M_isLong_35, r_M_isLong_36, r_M_isLong_37, r_M_isLong_40, r_M_isLong_40n, r_M_isLong_41, r_M_isLong_41n, r_M_isLong_42, r_M_isLong_45, r_M_isLong_46, r_M_isLong_47, r_M_isLong_50, r_M_isLong_50n, r_M_isLong_51, r_M_isLong_51n, r_M_isLong_52, r_M_isLong_55, r_M_isLong_56, r_M_isLong_57, r_M_isLong_60, r_M_isLong_63, r_M_isLong_64, r_M_isLong_65, r_M_isLong_111, r_M_isLong_112, bnd, tl_s, tl_n, wt_nil, wt_int, wt_ref, wt_null, wt_long, Nat.reduceAdd, Nat.reduceLeDiff, if_true, if_false, decide_true, Bool.true_and, Bool.and_true, zok_n0, zok_n1, zok_bI, bI_eq0, bI_eq1, Bool.true_eq_false, Bool.false_eq_true, not_false_eq_true, not_true_eq_false, decide_false, decide_eq_false_iff_not, decide_eq_true_eq, Classical.not_not, ite_not, lit, Nat.reduceEqDiff, Nat.reduceLT, nI_add, nI_lt', nI_le', nI_eq', nI_sub', pk_mul, nI_rem', nI_div', nI_nz, remN, clampN, inb_nI, Nat.not_lt_zero, Nat.zero_le, Nat.le_zero_eq, if_true, if_false, m1_lt0, m1_eq, t_ite, f_ite, Bool.not_false, Bool.not_true, nI_and, nI_or, nI_xor, nI_shl1, nI_shr, nI_ushr, nI_not, nI_and_p2, Nat.one_mul, vrf_s, vrf_n, oF_174, oO_174, oA_175, oS_175, oA_176, oS_176, oA_177, oS_177, oA_178, oS_178, oA_179, oS_179, oA_180, oS_180, oA_181, oS_181, oA_182, oS_182, oA_183, oS_183, oA_184, oS_184, oA_185, oS_185, oA_186, oS_186, oA_187, oS_187, oA_188, oS_188, mO_M_byteAt, mO_M_w4, mO_M_w3, h7, h8', h9, e, eq7, Nat.add_sub_cancel_left, c0, c1, c2, c3, c4, c5, c6, w4, w3, cmp_eq, q1']
    · have hn : ¬ kdT tb tl k = j := fun z => by
        have := congrArg List.length (hkw.mp z)
        have hl : ∀ n p, (lts tb n p).length = n := by
          intro n
          induction n with
          | zero => intro p; rfl
          | succ n ih => intro p; rw [lts, List.length_cons, ih]
        rw [hl] at this
        exact e7 this
      rw [decide_eq_false hn, bI_f]
      simp (disch := omega) only [r_M_isLong_0, r_M_isLong_0n, r_M_isLong_1, r_M_isLong_4, r_M_isLong_5, r_M_isLong_8, r_M_isLong_8n, r_M_isLong_9, r_M_isLong_12, r_M_isLong_12n, r_M_isLong_13, r_M_isLong_16, r_M_isLong_17, r_M_isLong_19, r_M_isLong_111, r_M_isLong_112, bnd, tl_s, tl_n, wt_nil, wt_int, wt_ref, wt_null, wt_long, Nat.reduceAdd, Nat.reduceLeDiff, if_true, if_false, decide_true, Bool.true_and, Bool.and_true, zok_n0, zok_n1, zok_bI, bI_eq0, bI_eq1, Bool.true_eq_false, Bool.false_eq_true, not_false_eq_true, not_true_eq_false, decide_false, decide_eq_false_iff_not, decide_eq_true_eq, Classical.not_not, ite_not, lit, Nat.reduceEqDiff, Nat.reduceLT, nI_add, nI_lt', nI_le', nI_eq', nI_sub', pk_mul, nI_rem', nI_div', nI_nz, remN, clampN, inb_nI, Nat.not_lt_zero, Nat.zero_le, Nat.le_zero_eq, if_true, if_false, m1_lt0, m1_eq, t_ite, f_ite, Bool.not_false, Bool.not_true, nI_and, nI_or, nI_xor, nI_shl1, nI_shr, nI_ushr, nI_not, nI_and_p2, Nat.one_mul, vrf_s, vrf_n, oF_174, oO_174, oA_175, oS_175, oA_176, oS_176, oA_177, oS_177, oA_178, oS_178, oA_179, oS_179, oA_180, oS_180, oA_181, oS_181, oA_182, oS_182, oA_183, oS_183, oA_184, oS_184, oA_185, oS_185, oA_186, oS_186, oA_187, oS_187, oA_188, oS_188, mO_M_byteAt, mO_M_w4, mO_M_w3, h7, h8', h9, e, e7]
  · have ek : ¬ kdT tb tl k = j := fun z => e (kd_28 hj z)
    rw [decide_eq_false ek, bI_f]
    simp (disch := omega) only [r_M_isLong_0, r_M_isLong_0n, r_M_isLong_1, r_M_isLong_4, r_M_isLong_5, r_M_isLong_111, r_M_isLong_112, bnd, tl_s, tl_n, wt_nil, wt_int, wt_ref, wt_null, wt_long, Nat.reduceAdd, Nat.reduceLeDiff, if_true, if_false, decide_true, Bool.true_and, Bool.and_true, zok_n0, zok_n1, zok_bI, bI_eq0, bI_eq1, Bool.true_eq_false, Bool.false_eq_true, not_false_eq_true, not_true_eq_false, decide_false, decide_eq_false_iff_not, decide_eq_true_eq, Classical.not_not, ite_not, lit, Nat.reduceEqDiff, Nat.reduceLT, nI_add, nI_lt', nI_le', nI_eq', nI_sub', pk_mul, nI_rem', nI_div', nI_nz, remN, clampN, inb_nI, Nat.not_lt_zero, Nat.zero_le, Nat.le_zero_eq, if_true, if_false, m1_lt0, m1_eq, t_ite, f_ite, Bool.not_false, Bool.not_true, nI_and, nI_or, nI_xor, nI_shl1, nI_shr, nI_ushr, nI_not, nI_and_p2, Nat.one_mul, vrf_s, vrf_n, oF_174, oO_174, oA_175, oS_175, oA_176, oS_176, oA_177, oS_177, oA_178, oS_178, oA_179, oS_179, oA_180, oS_180, oA_181, oS_181, oA_182, oS_182, oA_183, oS_183, oA_184, oS_184, oA_185, oS_185, oA_186, oS_186, oA_187, oS_187, oA_188, oS_188, mO_M_byteAt, mO_M_w4, mO_M_w3, h9, e]
theorem x_isw_5 (hT : TpM M tb tl) (h : TkM M tb tl k) : ev (d + 4) m_M_isLong [.ref 174, .long (lN (((99 * 256 + 111) * 256 + 110) * 256 + 99)), .long (lN ((101 * 256 + 100) * 256 + 101))] NX M = some (some (.int (bI (decide (kdT tb tl k = 5)))), NX, M) := x_isLong hT h (by decide) rfl (by decide)
theorem x_isw_13 (hT : TpM M tb tl) (h : TkM M tb tl k) : ev (d + 4) m_M_isLong [.ref 174, .long (lN (((97 * 256 + 103) * 256 + 97) * 256 + 105)), .long (lN ((110 * 256 + 115) * 256 + 116))] NX M = some (some (.int (bI (decide (kdT tb tl k = 13)))), NX, M) := x_isLong hT h (by decide) rfl (by decide)
end FCT
