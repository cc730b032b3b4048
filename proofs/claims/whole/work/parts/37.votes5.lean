/-! VOTES: winner, top -/
section V5
variable {d nx : Nat} {M : Mem} {k : Nat} {V : Nat → Nat}
def pts (V : Nat → Nat) (b : Bool) (v : Nat) : Nat → Nat
  | 0 => 0
  | i + 1 => pts V b v i + (if b = true then (if plc (V i) v = 0 then 1 else 0) else 3 - plc (V i) v)
theorem pts_le {b : Bool} {v : Nat} : ∀ i, pts V b v i ≤ 3 * i := by
  intro i
  induction i with
  | zero => exact Nat.le_refl _
  | succ i ih =>
    rw [pts]
    cases b
    · rw [f_ite]; omega
    · rw [t_ite]; split <;> omega
theorem x_pointsOf {v : Nat} {b : Bool} (hM : VMo M k V) (hv : v < 4) : ev (d + 3) m_M_pointsOf [.ref 174, .int (nI v), .int (bI b)] NX M = some (some (.int (nI (pts V b v k))), NX, M) := by
  have hk := hM.2.2.1
  rw [e_M_pointsOf]
  simp only [r_M_pointsOf_0, r_M_pointsOf_1, r_M_pointsOf_2, r_M_pointsOf_3, lit]
  refine lpz (R := fun i z => run (ev (d + 2)) m_M_pointsOf 5 [some (.ref 174), some (.int (nI v)), some (.int (bI b)), some (.int (nI (pts V b v i))), some (.int (nI i)), z] [] NX M) (n := k) ?_ ?_ k 0 none (by omega)
  · intro i z hi
    obtain ⟨hV, hO⟩ := hM.2.2.2 i hi
    have hp := plc_ok hO hv
    have hl := isO_le hO
    have hn : ¬ k ≤ i := by omega
    refine ⟨some (.int (nI (plc (V i) v))), ?_⟩
    try dsimp only
    rw [r_M_pointsOf_5]
    simp (disch := omega) only [r_M_pointsOf_7, r_M_pointsOf_7n, r_M_pointsOf_8, r_M_pointsOf_11, r_M_pointsOf_12, r_M_pointsOf_13, r_M_pointsOf_16, r_M_pointsOf_16n, r_M_pointsOf_17, r_M_pointsOf_20, r_M_pointsOf_22, r_M_pointsOf_24, r_M_pointsOf_25, r_M_pointsOf_26, r_M_pointsOf_27, r_M_pointsOf_30, r_M_pointsOf_32, r_M_pointsOf_33, r_M_pointsOf_34, r_M_pointsOf_37, r_M_pointsOf_39, r_M_pointsOf_42, r_M_pointsOf_43, r_M_pointsOf_46, r_M_pointsOf_47, r_M_pointsOf_50, r_M_pointsOf_51, r_M_pointsOf_53, r_M_pointsOf_54, r_M_pointsOf_55, r_M_pointsOf_56, r_M_pointsOf_59, bnd, tl_s, tl_n, wt_nil, wt_int, wt_ref, wt_null, wt_long, Nat.reduceAdd, Nat.reduceLeDiff, if_true, if_false, decide_true, Bool.true_and, Bool.and_true, zok_n0, zok_n1, zok_bI, bI_eq0, bI_eq1, Bool.true_eq_false, Bool.false_eq_true, not_false_eq_true, not_true_eq_false, decide_false, decide_eq_false_iff_not, decide_eq_true_eq, Classical.not_not, ite_not, lit, Nat.reduceEqDiff, Nat.reduceLT, nI_add, nI_lt', nI_le', nI_eq', nI_sub', pk_mul, nI_rem', nI_div', nI_nz, remN, clampN, inb_nI, Nat.not_lt_zero, Nat.zero_le, Nat.le_zero_eq, if_true, if_false, m1_lt0, m1_eq, t_ite, f_ite, nI_and, nI_or, nI_xor, nI_shl1, nI_shr, nI_ushr, nI_not, nI_and_p2, Nat.one_mul, vrf_s, vrf_n, oF_174, oO_174, oA_175, oS_175, oA_176, oS_176, oA_177, oS_177, oA_178, oS_178, oA_179, oS_179, oA_180, oS_180, oA_181, oS_181, oA_182, oS_182, oA_183, oS_183, oA_184, oS_184, oA_185, oS_185, oA_186, oS_186, oA_187, oS_187, oA_188, oS_188, mO_M_placeIn, hM.1.a, hM.2.1, hV, x_placeIn, hn]
    rw [pts]
    cases b
    · rw [if_pos rfl, f_ite]
    · rw [if_neg (by decide), t_ite]
      by_cases e : plc (V i) v = 0
      · rw [if_pos e, if_pos e]
      · rw [if_neg e, if_neg e]
  · intro z
    rw [r_M_pointsOf_5]
    simp (disch := omega) only [r_M_pointsOf_7, r_M_pointsOf_7n, r_M_pointsOf_8, r_M_pointsOf_11, r_M_pointsOf_12, r_M_pointsOf_13, r_M_pointsOf_16, r_M_pointsOf_16n, r_M_pointsOf_17, r_M_pointsOf_20, r_M_pointsOf_22, r_M_pointsOf_24, r_M_pointsOf_25, r_M_pointsOf_26, r_M_pointsOf_27, r_M_pointsOf_30, r_M_pointsOf_32, r_M_pointsOf_33, r_M_pointsOf_34, r_M_pointsOf_37, r_M_pointsOf_39, r_M_pointsOf_42, r_M_pointsOf_43, r_M_pointsOf_46, r_M_pointsOf_47, r_M_pointsOf_50, r_M_pointsOf_51, r_M_pointsOf_53, r_M_pointsOf_54, r_M_pointsOf_55, r_M_pointsOf_56, r_M_pointsOf_59, r_M_pointsOf_62, r_M_pointsOf_63, bnd, tl_s, tl_n, wt_nil, wt_int, wt_ref, wt_null, wt_long, Nat.reduceAdd, Nat.reduceLeDiff, if_true, if_false, decide_true, Bool.true_and, Bool.and_true, zok_n0, zok_n1, zok_bI, bI_eq0, bI_eq1, Bool.true_eq_false, Bool.false_eq_true, not_false_eq_true, not_true_eq_false, decide_false, decide_eq_false_iff_not, decide_eq_true_eq, Classical.not_not, ite_not, lit, Nat.reduceEqDiff, Nat.reduceLT, nI_add, nI_lt', nI_le', nI_eq', nI_sub', pk_mul, nI_rem', nI_div', nI_nz, remN, clampN, inb_nI, Nat.not_lt_zero, Nat.zero_le, Nat.le_zero_eq, if_true, if_false, m1_lt0, m1_eq, t_ite, f_ite, nI_and, nI_or, nI_xor, nI_shl1, nI_shr, nI_ushr, nI_not, nI_and_p2, Nat.one_mul, vrf_s, vrf_n, oF_174, oO_174, oA_175, oS_175, oA_176, oS_176, oA_177, oS_177, oA_178, oS_178, oA_179, oS_179, oA_180, oS_180, oA_181, oS_181, oA_182, oS_182, oA_183, oS_183, oA_184, oS_184, oA_185, oS_185, oA_186, oS_186, oA_187, oS_187, oA_188, oS_188, mO_M_placeIn, hM.1.a, hM.2.1, Nat.le_refl]
theorem y_countOf {v : Nat} {b : Bool} (hC : VC M k V) (hv : v < 4) : ev (d + 3) m_Bal_countOf [.ref 1, .int (nI v), .int (bI b)] NX M = some (some (.int (nI (pts V b v k))), NX, M) := by
  have hk := hC.2.2.2.1
  rw [e_Bal_countOf]
  simp only [r_Bal_countOf_0, r_Bal_countOf_1, r_Bal_countOf_2, r_Bal_countOf_3, lit]
  refine lpz (R := fun i z => run (ev (d + 2)) m_Bal_countOf 5 [some (.ref 1), some (.int (nI v)), some (.int (bI b)), some (.int (nI (pts V b v i))), some (.int (nI i)), z] [] NX M) (n := k) ?_ ?_ k 0 none (by omega)
  · intro i z hi
    obtain ⟨hV, hO⟩ := hC.2.2.2.2 i hi
    have hp := plc_ok hO hv
    have hl := isO_le hO
    have hn : ¬ k ≤ i := by omega
    have hn7 : ¬ 7 ≤ i := by omega
    refine ⟨some (.int (nI (plc (V i) v))), ?_⟩
    try dsimp only
    rw [r_Bal_countOf_5]
    simp (disch := omega) only [r_Bal_countOf_7, r_Bal_countOf_7n, r_Bal_countOf_8, r_Bal_countOf_11, r_Bal_countOf_14, r_Bal_countOf_16, r_Bal_countOf_18, r_Bal_countOf_21, r_Bal_countOf_21n, r_Bal_countOf_22, r_Bal_countOf_25, r_Bal_countOf_27, r_Bal_countOf_28, r_Bal_countOf_29, r_Bal_countOf_32, r_Bal_countOf_34, r_Bal_countOf_35, r_Bal_countOf_38, r_Bal_countOf_39, r_Bal_countOf_40, r_Bal_countOf_42, r_Bal_countOf_43, r_Bal_countOf_44, r_Bal_countOf_45, r_Bal_countOf_48, r_Bal_countOf_50, r_Bal_countOf_53, r_Bal_countOf_56, r_Bal_countOf_59, bnd, tl_s, tl_n, wt_nil, wt_int, wt_ref, wt_null, wt_long, Nat.reduceAdd, Nat.reduceLeDiff, if_true, if_false, decide_true, Bool.true_and, Bool.and_true, zok_n0, zok_n1, zok_bI, bI_eq0, bI_eq1, Bool.true_eq_false, Bool.false_eq_true, not_false_eq_true, not_true_eq_false, decide_false, decide_eq_false_iff_not, decide_eq_true_eq, Classical.not_not, ite_not, lit, Nat.reduceEqDiff, Nat.reduceLT, nI_add, nI_lt', nI_le', nI_eq', nI_sub', pk_mul, nI_rem', nI_div', nI_nz, remN, clampN, inb_nI, Nat.not_lt_zero, Nat.zero_le, Nat.le_zero_eq, if_true, if_false, m1_lt0, m1_eq, t_ite, f_ite, nI_and, nI_or, nI_xor, nI_shl1, nI_shr, nI_ushr, nI_not, nI_and_p2, Nat.one_mul, vrf_s, vrf_n, oF_0, oO_0, oF_1, oO_1, oA_2, oS_2, oA_3, oS_3, oF_4, oO_4, oA_5, oS_5, oA_6, oS_6, oA_7, oS_7, oA_8, oS_8, oA_9, oS_9, oF_70, oO_70, oA_71, oS_71, oA_72, oS_72, oF_73, oO_73, oA_74, oS_74, oA_75, oS_75, oA_76, oS_76, oA_77, oS_77, oA_78, oS_78, oA_139, oS_139, oF_140, oO_140, oA_141, oS_141, oA_142, oS_142, oA_143, oS_143, oA_144, oS_144, oF_145, oO_145, oF_146, oO_146, oA_147, oS_147, oF_148, oO_148, oA_149, oS_149, oA_150, oS_150, oA_151, oS_151, oF_152, oO_152, oA_153, oS_153, oF_154, oO_154, oA_155, oS_155, oA_156, oS_156, oA_157, oS_157, oA_158, oS_158, oF_159, oO_159, oA_160, oS_160, oA_161, oS_161, oA_162, oS_162, oA_163, oS_163, oF_164, oO_164, oA_165, oS_165, oA_166, oS_166, oA_167, oS_167, oA_168, oS_168, oF_169, oO_169, oA_170, oS_170, oA_171, oS_171, oA_172, oS_172, oA_173, oS_173, mO_Bal_placeOf, hC.2.1, hC.2.2.1, hV, y_placeOf, hn, hn7]
    rw [pts]
    cases b
    · rw [if_pos rfl, f_ite]
    · rw [if_neg (by decide), t_ite]
      by_cases e : plc (V i) v = 0
      · rw [if_pos e, if_pos e]
      · rw [if_neg e, if_neg e]; rfl
  · intro z
    rw [r_Bal_countOf_5]
    simp (disch := omega) only [r_Bal_countOf_7, r_Bal_countOf_7n, r_Bal_countOf_8, r_Bal_countOf_11, r_Bal_countOf_14, r_Bal_countOf_16, r_Bal_countOf_18, r_Bal_countOf_21, r_Bal_countOf_21n, r_Bal_countOf_22, r_Bal_countOf_25, r_Bal_countOf_27, r_Bal_countOf_28, r_Bal_countOf_29, r_Bal_countOf_32, r_Bal_countOf_34, r_Bal_countOf_35, r_Bal_countOf_38, r_Bal_countOf_39, r_Bal_countOf_40, r_Bal_countOf_42, r_Bal_countOf_43, r_Bal_countOf_44, r_Bal_countOf_45, r_Bal_countOf_48, r_Bal_countOf_50, r_Bal_countOf_53, r_Bal_countOf_56, r_Bal_countOf_59, r_Bal_countOf_62, r_Bal_countOf_63, bnd, tl_s, tl_n, wt_nil, wt_int, wt_ref, wt_null, wt_long, Nat.reduceAdd, Nat.reduceLeDiff, if_true, if_false, decide_true, Bool.true_and, Bool.and_true, zok_n0, zok_n1, zok_bI, bI_eq0, bI_eq1, Bool.true_eq_false, Bool.false_eq_true, not_false_eq_true, not_true_eq_false, decide_false, decide_eq_false_iff_not, decide_eq_true_eq, Classical.not_not, ite_not, lit, Nat.reduceEqDiff, Nat.reduceLT, nI_add, nI_lt', nI_le', nI_eq', nI_sub', pk_mul, nI_rem', nI_div', nI_nz, remN, clampN, inb_nI, Nat.not_lt_zero, Nat.zero_le, Nat.le_zero_eq, if_true, if_false, m1_lt0, m1_eq, t_ite, f_ite, nI_and, nI_or, nI_xor, nI_shl1, nI_shr, nI_ushr, nI_not, nI_and_p2, Nat.one_mul, vrf_s, vrf_n, oF_0, oO_0, oF_1, oO_1, oA_2, oS_2, oA_3, oS_3, oF_4, oO_4, oA_5, oS_5, oA_6, oS_6, oA_7, oS_7, oA_8, oS_8, oA_9, oS_9, oF_70, oO_70, oA_71, oS_71, oA_72, oS_72, oF_73, oO_73, oA_74, oS_74, oA_75, oS_75, oA_76, oS_76, oA_77, oS_77, oA_78, oS_78, oA_139, oS_139, oF_140, oO_140, oA_141, oS_141, oA_142, oS_142, oA_143, oS_143, oA_144, oS_144, oF_145, oO_145, oF_146, oO_146, oA_147, oS_147, oF_148, oO_148, oA_149, oS_149, oA_150, oS_150, oA_151, oS_151, oF_152, oO_152, oA_153, oS_153, oF_154, oO_154, oA_155, oS_155, oA_156, oS_156, oA_157, oS_157, oA_158, oS_158, oF_159, oO_159, oA_160, oS_160, oA_161, oS_161, oA_162, oS_162, oA_163, oS_163, oF_164, oO_164, oA_165, oS_165, oA_166, oS_166, oA_167, oS_167, oA_168, oS_168, oF_169, oO_169, oA_170, oS_170, oA_171, oS_171, oA_172, oS_172, oA_173, oS_173, mO_Bal_placeOf, hC.2.2.1, Nat.le_refl]
/-! each of a set over each other -/
def ovp (V : Nat → Nat) (k s j : Nat) : Bool := !(s.testBit (j / 4) && !s.testBit (j % 4)) || decide (nI 0 < mg V (j / 4) (j % 4) k)
def ovr (V : Nat → Nat) (k s : Nat) : Bool := allb (ovp V k s) 16 0
theorem y_isAhead {s : Nat} (hC : VC M k V) (hs : s < 16) : ev (d + 4) m_Bal_isAhead [.ref 1, .int (nI s)] NX M = some (some (.int (bI (ovr V k s))), NX, M) := by
  rw [e_Bal_isAhead]
  simp only [r_Bal_isAhead_0, r_Bal_isAhead_1, lit]
  rw [lpzf (R := fun i (z : Option Value × Option Value) => run (ev (d + 3)) m_Bal_isAhead 2 [some (.ref 1), some (.int (nI s)), some (.int (nI i)), z.1, z.2] [] NX M) (p := fun j => !ovp V k s j) (a := fun _ => some (some (.int (bI false)), NX, M)) (n := 16) (out := some (some (.int (bI true)), NX, M)) ?_ ?_ 16 0 (none, none) rfl, ovr, allb_fst]
  · exact fst'_map (fun b => some (some (Value.int (bI b)), NX, M)) _ (fun _ => false) true 16 0
  · intro i z hi
    have hn : ¬ 16 ≤ i := by omega
    have h4 : i / 4 < 4 := by omega
    refine ⟨(some (.int (nI (i / 4))), some (.int (nI (i % 4)))), ?_⟩
    try dsimp only
    rw [r_Bal_isAhead_2]
    simp (disch := omega) only [r_Bal_isAhead_3, r_Bal_isAhead_5, r_Bal_isAhead_8, r_Bal_isAhead_9, r_Bal_isAhead_10, r_Bal_isAhead_11, r_Bal_isAhead_12, r_Bal_isAhead_13, r_Bal_isAhead_14, r_Bal_isAhead_15, r_Bal_isAhead_17, r_Bal_isAhead_18, r_Bal_isAhead_19, r_Bal_isAhead_22, r_Bal_isAhead_25, r_Bal_isAhead_26, r_Bal_isAhead_28, r_Bal_isAhead_31, r_Bal_isAhead_34, r_Bal_isAhead_34n, r_Bal_isAhead_35, r_Bal_isAhead_36, r_Bal_isAhead_38, r_Bal_isAhead_41, r_Bal_isAhead_44, r_Bal_isAhead_45, r_Bal_isAhead_46, r_Bal_isAhead_49, bnd, tl_s, tl_n, wt_nil, wt_int, wt_ref, wt_null, wt_long, Nat.reduceAdd, Nat.reduceLeDiff, if_true, if_false, decide_true, Bool.true_and, Bool.and_true, zok_n0, zok_n1, zok_bI, bI_eq0, bI_eq1, Bool.true_eq_false, Bool.false_eq_true, not_false_eq_true, not_true_eq_false, decide_false, decide_eq_false_iff_not, decide_eq_true_eq, Classical.not_not, ite_not, lit, Nat.reduceEqDiff, Nat.reduceLT, nI_add, nI_lt', nI_le', nI_eq', nI_sub', pk_mul, nI_rem', nI_div', nI_nz, remN, clampN, inb_nI, Nat.not_lt_zero, Nat.zero_le, Nat.le_zero_eq, if_true, if_false, m1_lt0, m1_eq, t_ite, f_ite, nI_and, nI_or, nI_xor, nI_shl1, nI_shr, nI_ushr, nI_not, nI_and_p2, Nat.one_mul, vrf_s, vrf_n, oF_0, oO_0, oF_1, oO_1, oA_2, oS_2, oA_3, oS_3, oF_4, oO_4, oA_5, oS_5, oA_6, oS_6, oA_7, oS_7, oA_8, oS_8, oA_9, oS_9, oF_70, oO_70, oA_71, oS_71, oA_72, oS_72, oF_73, oO_73, oA_74, oS_74, oA_75, oS_75, oA_76, oS_76, oA_77, oS_77, oA_78, oS_78, oA_139, oS_139, oF_140, oO_140, oA_141, oS_141, oA_142, oS_142, oA_143, oS_143, oA_144, oS_144, oF_145, oO_145, oF_146, oO_146, oA_147, oS_147, oF_148, oO_148, oA_149, oS_149, oA_150, oS_150, oA_151, oS_151, oF_152, oO_152, oA_153, oS_153, oF_154, oO_154, oA_155, oS_155, oA_156, oS_156, oA_157, oS_157, oA_158, oS_158, oF_159, oO_159, oA_160, oS_160, oA_161, oS_161, oA_162, oS_162, oA_163, oS_163, oF_164, oO_164, oA_165, oS_165, oA_166, oS_166, oA_167, oS_167, oA_168, oS_168, oF_169, oO_169, oA_170, oS_170, oA_171, oS_171, oA_172, oS_172, oA_173, oS_173, mO_X_hasBit, mO_Bal_margin, hn, y_hasBit, y_margin hC h4 (show i % 4 < 4 by omega)]
    unfold ovp
    cases s.testBit (i / 4)
    · simp
    · cases s.testBit (i % 4)
      · by_cases e : nI 0 < mg V (i / 4) (i % 4) k
        · simp [e]
        · simp [e]; rfl
      · simp
  · intro z
    rw [r_Bal_isAhead_2]
    simp (disch := omega) only [r_Bal_isAhead_3, r_Bal_isAhead_5, r_Bal_isAhead_8, r_Bal_isAhead_9, r_Bal_isAhead_10, r_Bal_isAhead_11, r_Bal_isAhead_12, r_Bal_isAhead_13, r_Bal_isAhead_14, r_Bal_isAhead_15, r_Bal_isAhead_17, r_Bal_isAhead_18, r_Bal_isAhead_19, r_Bal_isAhead_22, r_Bal_isAhead_25, r_Bal_isAhead_26, r_Bal_isAhead_28, r_Bal_isAhead_31, r_Bal_isAhead_34, r_Bal_isAhead_34n, r_Bal_isAhead_35, r_Bal_isAhead_36, r_Bal_isAhead_38, r_Bal_isAhead_41, r_Bal_isAhead_44, r_Bal_isAhead_45, r_Bal_isAhead_46, r_Bal_isAhead_49, r_Bal_isAhead_52, r_Bal_isAhead_53, bnd, tl_s, tl_n, wt_nil, wt_int, wt_ref, wt_null, wt_long, Nat.reduceAdd, Nat.reduceLeDiff, if_true, if_false, decide_true, Bool.true_and, Bool.and_true, zok_n0, zok_n1, zok_bI, bI_eq0, bI_eq1, Bool.true_eq_false, Bool.false_eq_true, not_false_eq_true, not_true_eq_false, decide_false, decide_eq_false_iff_not, decide_eq_true_eq, Classical.not_not, ite_not, lit, Nat.reduceEqDiff, Nat.reduceLT, nI_add, nI_lt', nI_le', nI_eq', nI_sub', pk_mul, nI_rem', nI_div', nI_nz, remN, clampN, inb_nI, Nat.not_lt_zero, Nat.zero_le, Nat.le_zero_eq, if_true, if_false, m1_lt0, m1_eq, t_ite, f_ite, nI_and, nI_or, nI_xor, nI_shl1, nI_shr, nI_ushr, nI_not, nI_and_p2, Nat.one_mul, vrf_s, vrf_n, oF_0, oO_0, oF_1, oO_1, oA_2, oS_2, oA_3, oS_3, oF_4, oO_4, oA_5, oS_5, oA_6, oS_6, oA_7, oS_7, oA_8, oS_8, oA_9, oS_9, oF_70, oO_70, oA_71, oS_71, oA_72, oS_72, oF_73, oO_73, oA_74, oS_74, oA_75, oS_75, oA_76, oS_76, oA_77, oS_77, oA_78, oS_78, oA_139, oS_139, oF_140, oO_140, oA_141, oS_141, oA_142, oS_142, oA_143, oS_143, oA_144, oS_144, oF_145, oO_145, oF_146, oO_146, oA_147, oS_147, oF_148, oO_148, oA_149, oS_149, oA_150, oS_150, oA_151, oS_151, oF_152, oO_152, oA_153, oS_153, oF_154, oO_154, oA_155, oS_155, oA_156, oS_156, oA_157, oS_157, oA_158, oS_158, oF_159, oO_159, oA_160, oS_160, oA_161, oS_161, oA_162, oS_162, oA_163, oS_163, oF_164, oO_164, oA_165, oS_165, oA_166, oS_166, oA_167, oS_167, oA_168, oS_168, oF_169, oO_169, oA_170, oS_170, oA_171, oS_171, oA_172, oS_172, oA_173, oS_173, mO_X_hasBit, mO_Bal_margin, Nat.le_refl]
    rfl
theorem ovr_iff {s : Nat} : ovr V k s = true ↔ ∀ v, v < 4 → ∀ u, u < 4 → s.testBit v = true → s.testBit u = false → nI 0 < mg V v u k := by
  unfold ovr
  rw [allb_iff]
  constructor
  · intro h v hv u hu h1 h2
    have := h (4 * v + u) (by omega) (by omega)
    unfold ovp at this
    rw [show (4 * v + u) / 4 = v by omega, show (4 * v + u) % 4 = u by omega, h1, h2] at this
    simpa using this
  · intro h j _ hj
    have := h (j / 4) (by omega) (j % 4) (by omega)
    unfold ovp
    cases e1 : s.testBit (j / 4)
    · rfl
    · cases e2 : s.testBit (j % 4)
      · simpa using this e1 e2
      · rfl
theorem l_areOver {s v : Nat} (hM : VMo M k V) (hs : s < 16) (hv : v < 4) : run (ev (d + 3)) m_M_areOver 9 [some (.ref 174), some (.int (nI s)), some (.int (nI v)), some (.int (nI 0))] [] NX M = if allb (fun u => ovp V k s (4 * v + u)) 4 0 = true then run (ev (d + 3)) m_M_areOver 47 [some (.ref 174), some (.int (nI s)), some (.int (nI v)), some (.int (nI 4))] [] NX M else some (some (.int (bI false)), NX, M) := by
  rw [lpf0 (R := fun i => run (ev (d + 3)) m_M_areOver 9 [some (.ref 174), some (.int (nI s)), some (.int (nI v)), some (.int (nI i))] [] NX M) (p := fun u => !ovp V k s (4 * v + u)) (a := fun _ => some (some (.int (bI false)), NX, M)) (n := 4) (z := run (ev (d + 3)) m_M_areOver 47 [some (.ref 174), some (.int (nI s)), some (.int (nI v)), some (.int (nI 4))] [] NX M) ?_ ?_, allb_fst]
  · rw [← fst'_map (fun b => if b = true then run (ev (d + 3)) m_M_areOver 47 [some (.ref 174), some (.int (nI s)), some (.int (nI v)), some (.int (nI 4))] [] NX M else some (some (.int (bI false)), NX, M))]
    rfl
  · intro u hu
    have hn : ¬ 4 ≤ u := by omega
    try dsimp only
    rw [r_M_areOver_9]
    simp (disch := omega) only [r_M_areOver_10, r_M_areOver_11, r_M_areOver_14, r_M_areOver_15, r_M_areOver_16, r_M_areOver_19, r_M_areOver_22, r_M_areOver_23, r_M_areOver_24, r_M_areOver_27, r_M_areOver_30, r_M_areOver_30n, r_M_areOver_31, r_M_areOver_32, r_M_areOver_33, r_M_areOver_36, r_M_areOver_39, r_M_areOver_40, r_M_areOver_41, r_M_areOver_44, bnd, tl_s, tl_n, wt_nil, wt_int, wt_ref, wt_null, wt_long, Nat.reduceAdd, Nat.reduceLeDiff, if_true, if_false, decide_true, Bool.true_and, Bool.and_true, zok_n0, zok_n1, zok_bI, bI_eq0, bI_eq1, Bool.true_eq_false, Bool.false_eq_true, not_false_eq_true, not_true_eq_false, decide_false, decide_eq_false_iff_not, decide_eq_true_eq, Classical.not_not, ite_not, lit, Nat.reduceEqDiff, Nat.reduceLT, nI_add, nI_lt', nI_le', nI_eq', nI_sub', pk_mul, nI_rem', nI_div', nI_nz, remN, clampN, inb_nI, Nat.not_lt_zero, Nat.zero_le, Nat.le_zero_eq, if_true, if_false, m1_lt0, m1_eq, t_ite, f_ite, nI_and, nI_or, nI_xor, nI_shl1, nI_shr, nI_ushr, nI_not, nI_and_p2, Nat.one_mul, vrf_s, vrf_n, oF_174, oO_174, oA_175, oS_175, oA_176, oS_176, oA_177, oS_177, oA_178, oS_178, oA_179, oS_179, oA_180, oS_180, oA_181, oS_181, oA_182, oS_182, oA_183, oS_183, oA_184, oS_184, oA_185, oS_185, oA_186, oS_186, oA_187, oS_187, oA_188, oS_188, mO_M_has, mO_M_more, hn, x_has, x_moreV hM hv hu]
    unfold ovp
    rw [show (4 * v + u) / 4 = v by omega, show (4 * v + u) % 4 = u by omega]
    cases s.testBit v
    · simp
    · cases s.testBit u
      · by_cases e : nI 0 < mg V v u k
        · simp [e]
        · simp [e]; rfl
      · simp
  · rw [r_M_areOver_9]
    simp (disch := omega) only [r_M_areOver_10, r_M_areOver_11, bnd, tl_s, tl_n, wt_nil, wt_int, wt_ref, wt_null, wt_long, Nat.reduceAdd, Nat.reduceLeDiff, if_true, if_false, decide_true, Bool.true_and, Bool.and_true, zok_n0, zok_n1, zok_bI, bI_eq0, bI_eq1, Bool.true_eq_false, Bool.false_eq_true, not_false_eq_true, not_true_eq_false, decide_false, decide_eq_false_iff_not, decide_eq_true_eq, Classical.not_not, ite_not, lit, Nat.reduceEqDiff, Nat.reduceLT, nI_add, nI_lt', nI_le', nI_eq', nI_sub', pk_mul, nI_rem', nI_div', nI_nz, remN, clampN, inb_nI, Nat.not_lt_zero, Nat.zero_le, Nat.le_zero_eq, if_true, if_false, m1_lt0, m1_eq, t_ite, f_ite, nI_and, nI_or, nI_xor, nI_shl1, nI_shr, nI_ushr, nI_not, nI_and_p2, Nat.one_mul, vrf_s, vrf_n, oF_174, oO_174, oA_175, oS_175, oA_176, oS_176, oA_177, oS_177, oA_178, oS_178, oA_179, oS_179, oA_180, oS_180, oA_181, oS_181, oA_182, oS_182, oA_183, oS_183, oA_184, oS_184, oA_185, oS_185, oA_186, oS_186, oA_187, oS_187, oA_188, oS_188, mO_M_has, mO_M_more, Nat.le_refl]
theorem x_areOver {s : Nat} (hM : VMo M k V) (hs : s < 16) : ev (d + 4) m_M_areOver [.ref 174, .int (nI s)] NX M = some (some (.int (bI (ovr V k s))), NX, M) := by
  rw [e_M_areOver]
  simp only [r_M_areOver_0, r_M_areOver_1, lit]
  rw [lpzf (R := fun i z => run (ev (d + 3)) m_M_areOver 2 [some (.ref 174), some (.int (nI s)), some (.int (nI i)), z] [] NX M) (p := fun v => !allb (fun u => ovp V k s (4 * v + u)) 4 0) (a := fun _ => some (some (.int (bI false)), NX, M)) (n := 4) (out := some (some (.int (bI true)), NX, M)) ?_ ?_ 4 0 none rfl]
  · rw [show ovr V k s = allb (fun v => allb (fun u => ovp V k s (4 * v + u)) 4 0) 4 0 by unfold ovr allb allb allb allb allb; simp [allb, Bool.and_assoc], allb_fst]
    exact fst'_map (fun b => some (some (Value.int (bI b)), NX, M)) _ (fun _ => false) true 4 0
  · intro i z hi
    have hn : ¬ 4 ≤ i := by omega
    refine ⟨some (.int (nI 4)), ?_⟩
    try dsimp only
    rw [r_M_areOver_2]
    simp (disch := omega) only [r_M_areOver_3, r_M_areOver_4, r_M_areOver_7, r_M_areOver_8, bnd, tl_s, tl_n, wt_nil, wt_int, wt_ref, wt_null, wt_long, Nat.reduceAdd, Nat.reduceLeDiff, if_true, if_false, decide_true, Bool.true_and, Bool.and_true, zok_n0, zok_n1, zok_bI, bI_eq0, bI_eq1, Bool.true_eq_false, Bool.false_eq_true, not_false_eq_true, not_true_eq_false, decide_false, decide_eq_false_iff_not, decide_eq_true_eq, Classical.not_not, ite_not, lit, Nat.reduceEqDiff, Nat.reduceLT, nI_add, nI_lt', nI_le', nI_eq', nI_sub', pk_mul, nI_rem', nI_div', nI_nz, remN, clampN, inb_nI, Nat.not_lt_zero, Nat.zero_le, Nat.le_zero_eq, if_true, if_false, m1_lt0, m1_eq, t_ite, f_ite, nI_and, nI_or, nI_xor, nI_shl1, nI_shr, nI_ushr, nI_not, nI_and_p2, Nat.one_mul, vrf_s, vrf_n, oF_174, oO_174, oA_175, oS_175, oA_176, oS_176, oA_177, oS_177, oA_178, oS_178, oA_179, oS_179, oA_180, oS_180, oA_181, oS_181, oA_182, oS_182, oA_183, oS_183, oA_184, oS_184, oA_185, oS_185, oA_186, oS_186, oA_187, oS_187, oA_188, oS_188, mO_M_has, mO_M_more, hn]
    rw [l_areOver hM hs hi]
    cases allb (fun u => ovp V k s (4 * i + u)) 4 0
    · simp
    · simp (disch := omega) only [r_M_areOver_47, r_M_areOver_50, bnd, tl_s, tl_n, wt_nil, wt_int, wt_ref, wt_null, wt_long, Nat.reduceAdd, Nat.reduceLeDiff, if_true, if_false, decide_true, Bool.true_and, Bool.and_true, zok_n0, zok_n1, zok_bI, bI_eq0, bI_eq1, Bool.true_eq_false, Bool.false_eq_true, not_false_eq_true, not_true_eq_false, decide_false, decide_eq_false_iff_not, decide_eq_true_eq, Classical.not_not, ite_not, lit, Nat.reduceEqDiff, Nat.reduceLT, nI_add, nI_lt', nI_le', nI_eq', nI_sub', pk_mul, nI_rem', nI_div', nI_nz, remN, clampN, inb_nI, Nat.not_lt_zero, Nat.zero_le, Nat.le_zero_eq, if_true, if_false, m1_lt0, m1_eq, t_ite, f_ite, nI_and, nI_or, nI_xor, nI_shl1, nI_shr, nI_ushr, nI_not, nI_and_p2, Nat.one_mul, vrf_s, vrf_n, oF_174, oO_174, oA_175, oS_175, oA_176, oS_176, oA_177, oS_177, oA_178, oS_178, oA_179, oS_179, oA_180, oS_180, oA_181, oS_181, oA_182, oS_182, oA_183, oS_183, oA_184, oS_184, oA_185, oS_185, oA_186, oS_186, oA_187, oS_187, oA_188, oS_188, mO_M_has, mO_M_more]
      simp
  · intro z
    rw [r_M_areOver_2]
    simp (disch := omega) only [r_M_areOver_3, r_M_areOver_4, r_M_areOver_7, r_M_areOver_8, r_M_areOver_9, r_M_areOver_10, r_M_areOver_11, r_M_areOver_14, r_M_areOver_15, r_M_areOver_16, r_M_areOver_19, r_M_areOver_22, r_M_areOver_23, r_M_areOver_24, r_M_areOver_27, r_M_areOver_30, r_M_areOver_30n, r_M_areOver_31, r_M_areOver_32, r_M_areOver_33, r_M_areOver_36, r_M_areOver_39, r_M_areOver_40, r_M_areOver_41, r_M_areOver_44, r_M_areOver_47, r_M_areOver_50, r_M_areOver_53, r_M_areOver_54, bnd, tl_s, tl_n, wt_nil, wt_int, wt_ref, wt_null, wt_long, Nat.reduceAdd, Nat.reduceLeDiff, if_true, if_false, decide_true, Bool.true_and, Bool.and_true, zok_n0, zok_n1, zok_bI, bI_eq0, bI_eq1, Bool.true_eq_false, Bool.false_eq_true, not_false_eq_true, not_true_eq_false, decide_false, decide_eq_false_iff_not, decide_eq_true_eq, Classical.not_not, ite_not, lit, Nat.reduceEqDiff, Nat.reduceLT, nI_add, nI_lt', nI_le', nI_eq', nI_sub', pk_mul, nI_rem', nI_div', nI_nz, remN, clampN, inb_nI, Nat.not_lt_zero, Nat.zero_le, Nat.le_zero_eq, if_true, if_false, m1_lt0, m1_eq, t_ite, f_ite, nI_and, nI_or, nI_xor, nI_shl1, nI_shr, nI_ushr, nI_not, nI_and_p2, Nat.one_mul, vrf_s, vrf_n, oF_174, oO_174, oA_175, oS_175, oA_176, oS_176, oA_177, oS_177, oA_178, oS_178, oA_179, oS_179, oA_180, oS_180, oA_181, oS_181, oA_182, oS_182, oA_183, oS_183, oA_184, oS_184, oA_185, oS_185, oA_186, oS_186, oA_187, oS_187, oA_188, oS_188, mO_M_has, mO_M_more, Nat.le_refl]
    rfl
end V5
