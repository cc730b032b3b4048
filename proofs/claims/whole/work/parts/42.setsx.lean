/-! SETS: the methods -/
/-- the first i places of a cell laid down -/
def fI (M : Mem) (c : Nat) (f : Nat → Int32) (i : Nat) : Mem := (fun a b => if a = c ∧ b < i then f b else M.1 a b, M.2)
theorem gI_fI {M : Mem} {c i k j : Nat} {f : Nat → Int32} : gI (fI M c f i) k j = if k = c ∧ j < i then f j else gI M k j := rfl
theorem gL_fI {M : Mem} {c i k j : Nat} {f : Nat → Int32} : gL (fI M c f i) k j = gL M k j := rfl
theorem gR_fI {M : Mem} {c i k j : Nat} {f : Nat → Int32} : gR (fI M c f i) k j = gR M k j := rfl
theorem gI_fI_in {M : Mem} {c i j : Nat} {f : Nat → Int32} (h : j < i) : gI (fI M c f i) c j = f j := by rw [gI_fI, if_pos ⟨rfl, h⟩]
theorem gI_fI_out {M : Mem} {c i j : Nat} {f : Nat → Int32} (h : i ≤ j) : gI (fI M c f i) c j = gI M c j := by rw [gI_fI, if_neg (fun z => by omega)]
theorem gI_fI_nk {M : Mem} {c i k j : Nat} {f : Nat → Int32} (h : k ≠ c) : gI (fI M c f i) k j = gI M k j := by rw [gI_fI, if_neg (fun z => h z.1)]
theorem fI_0 {M : Mem} {c : Nat} {f : Nat → Int32} : fI M c f 0 = M := by
  unfold fI
  have : (fun a b => if a = c ∧ b < 0 then f b else M.1 a b) = M.1 := by
    funext a b
    rw [if_neg (fun z => by omega)]
  rw [this]
theorem fI_s {M : Mem} {c i : Nat} {f : Nat → Int32} : sI (fI M c f i) c i (f i) = fI M c f (i + 1) := by
  unfold sI fI u2
  congr 1
  funext a b
  by_cases h1 : a = c ∧ b = i
  · rw [if_pos h1, if_pos ⟨h1.1, by omega⟩, h1.2]
  · rw [if_neg h1]
    dsimp only
    by_cases h2 : a = c ∧ b < i
    · rw [if_pos h2, if_pos ⟨h2.1, by omega⟩]
    · rw [if_neg h2, if_neg (fun z => h1 ⟨z.1, by omega⟩)]
theorem fI_same {M : Mem} {c i : Nat} {f : Nat → Int32} (h : gI M c i = f i) : fI M c f i = fI M c f (i + 1) := by
  unfold fI
  congr 1
  funext a b
  by_cases h2 : a = c ∧ b < i
  · rw [if_pos h2, if_pos ⟨h2.1, by omega⟩]
  · rw [if_neg h2]
    by_cases h1 : a = c ∧ b < i + 1
    · rw [if_pos h1, h1.1, show b = i by omega]; exact h
    · rw [if_neg h1]
theorem fI_over {M : Mem} {c i : Nat} {f g : Nat → Int32} : fI (fI M c f i) c g i = fI M c g i := by
  unfold fI
  congr 1
  funext a b
  by_cases h2 : a = c ∧ b < i
  · rw [if_pos h2, if_pos h2]
  · rw [if_neg h2, if_neg h2]
    dsimp only
    rw [if_neg h2]
theorem D.fI {P : Nat → Nat → Prop} {M M' : Mem} {c i : Nat} {f : Nat → Int32} (h : D P M M') (hp : ∀ j, j < i → P c j) : D P M (fI M' c f i) := by
  refine h.trans ⟨fun a b hab => ⟨?_, rfl, rfl⟩, rfl⟩
  rw [gI_fI, if_neg]
  intro z
  rw [z.1] at hab
  exact hab (hp b z.2)
section SX
variable {d nx : Nat} {M : Mem} {B s n p : Nat}
theorem y_targets (hB : B < 2 ^ 64) (hs : s < 256) : ev (d + 1) m_Dis_targets [.long (lN B), .int (nI s)] nx M = some (some (.int (nI (tg B s))), nx, M) := by
  rw [e_Dis_targets]
  simp only [r_Dis_targets_0, r_Dis_targets_1, r_Dis_targets_2, r_Dis_targets_3, lit]
  refine (lp0 (R := fun i => run (ev d) m_Dis_targets 5 [some (.long (lN B)), none, some (.int (nI s)), some (.int (nI (tgK B s i))), some (.int (nI i))] [] nx M) (n := 8) ?_).trans ?_
  · intro i hi
    have hn : ¬ 8 ≤ i := by omega
    have h8 := tgK_8 (B := B) (s := s) (k := i)
    try dsimp only
    rw [r_Dis_targets_5]
    simp (disch := omega) only [r_Dis_targets_7, r_Dis_targets_9, r_Dis_targets_12, r_Dis_targets_13, r_Dis_targets_14, r_Dis_targets_16, r_Dis_targets_17, r_Dis_targets_18, r_Dis_targets_21, r_Dis_targets_22, r_Dis_targets_23, r_Dis_targets_25, r_Dis_targets_27, r_Dis_targets_28, r_Dis_targets_29, r_Dis_targets_30, r_Dis_targets_33, r_Dis_targets_34, r_Dis_targets_35, r_Dis_targets_36, r_Dis_targets_39, bnd, tl_s, tl_n, wt_nil, wt_int, wt_ref, wt_null, wt_long, Nat.reduceAdd, Nat.reduceLeDiff, if_true, if_false, decide_true, Bool.true_and, Bool.and_true, zok_n0, zok_n1, zok_bI, bI_eq0, bI_eq1, Bool.true_eq_false, Bool.false_eq_true, not_false_eq_true, not_true_eq_false, decide_false, decide_eq_false_iff_not, decide_eq_true_eq, Classical.not_not, ite_not, lit, Nat.reduceEqDiff, Nat.reduceLT, nI_add, nI_lt', nI_le', nI_eq', nI_sub', pk_mul, nI_rem', nI_div', nI_nz, remN, clampN, inb_nI, Nat.not_lt_zero, Nat.zero_le, Nat.le_zero_eq, if_true, if_false, m1_lt0, m1_eq, t_ite, f_ite, nI_and, nI_or, nI_xor, nI_shl1, nI_shr, nI_ushr, nI_not, nI_and_p2, Nat.one_mul, vrf_s, vrf_n, oF_0, oO_0, oF_1, oO_1, oA_2, oS_2, oA_3, oS_3, oF_4, oO_4, oA_5, oS_5, oA_6, oS_6, oA_7, oS_7, oA_8, oS_8, oA_9, oS_9, oF_70, oO_70, oA_71, oS_71, oA_72, oS_72, oF_73, oO_73, oA_74, oS_74, oA_75, oS_75, oA_76, oS_76, oA_77, oS_77, oA_78, oS_78, oA_139, oS_139, oF_140, oO_140, oA_141, oS_141, oA_142, oS_142, oA_143, oS_143, oA_144, oS_144, oF_145, oO_145, oF_146, oO_146, oA_147, oS_147, oF_148, oO_148, oA_149, oS_149, oA_150, oS_150, oA_151, oS_151, oF_152, oO_152, oA_153, oS_153, oF_154, oO_154, oA_155, oS_155, oA_156, oS_156, oA_157, oS_157, oA_158, oS_158, oF_159, oO_159, oA_160, oS_160, oA_161, oS_161, oA_162, oS_162, oA_163, oS_163, oF_164, oO_164, oA_165, oS_165, oA_166, oS_166, oA_167, oS_167, oA_168, oS_168, oF_169, oO_169, oA_170, oS_170, oA_171, oS_171, oA_172, oS_172, oA_173, oS_173, hn, wb_shr, lN_i, row_d]
    cases hb : s.testBit i
    · rw [if_pos rfl, tgK, hb, f_ite, Nat.or_zero]
    · rw [if_neg (by decide), tgK, hb, t_ite]
  · rw [r_Dis_targets_5]
    simp (disch := omega) only [r_Dis_targets_7, r_Dis_targets_9, r_Dis_targets_12, r_Dis_targets_13, r_Dis_targets_14, r_Dis_targets_16, r_Dis_targets_17, r_Dis_targets_18, r_Dis_targets_21, r_Dis_targets_22, r_Dis_targets_23, r_Dis_targets_25, r_Dis_targets_27, r_Dis_targets_28, r_Dis_targets_29, r_Dis_targets_30, r_Dis_targets_33, r_Dis_targets_34, r_Dis_targets_35, r_Dis_targets_36, r_Dis_targets_39, r_Dis_targets_42, r_Dis_targets_43, bnd, tl_s, tl_n, wt_nil, wt_int, wt_ref, wt_null, wt_long, Nat.reduceAdd, Nat.reduceLeDiff, if_true, if_false, decide_true, Bool.true_and, Bool.and_true, zok_n0, zok_n1, zok_bI, bI_eq0, bI_eq1, Bool.true_eq_false, Bool.false_eq_true, not_false_eq_true, not_true_eq_false, decide_false, decide_eq_false_iff_not, decide_eq_true_eq, Classical.not_not, ite_not, lit, Nat.reduceEqDiff, Nat.reduceLT, nI_add, nI_lt', nI_le', nI_eq', nI_sub', pk_mul, nI_rem', nI_div', nI_nz, remN, clampN, inb_nI, Nat.not_lt_zero, Nat.zero_le, Nat.le_zero_eq, if_true, if_false, m1_lt0, m1_eq, t_ite, f_ite, nI_and, nI_or, nI_xor, nI_shl1, nI_shr, nI_ushr, nI_not, nI_and_p2, Nat.one_mul, vrf_s, vrf_n, oF_0, oO_0, oF_1, oO_1, oA_2, oS_2, oA_3, oS_3, oF_4, oO_4, oA_5, oS_5, oA_6, oS_6, oA_7, oS_7, oA_8, oS_8, oA_9, oS_9, oF_70, oO_70, oA_71, oS_71, oA_72, oS_72, oF_73, oO_73, oA_74, oS_74, oA_75, oS_75, oA_76, oS_76, oA_77, oS_77, oA_78, oS_78, oA_139, oS_139, oF_140, oO_140, oA_141, oS_141, oA_142, oS_142, oA_143, oS_143, oA_144, oS_144, oF_145, oO_145, oF_146, oO_146, oA_147, oS_147, oF_148, oO_148, oA_149, oS_149, oA_150, oS_150, oA_151, oS_151, oF_152, oO_152, oA_153, oS_153, oF_154, oO_154, oA_155, oS_155, oA_156, oS_156, oA_157, oS_157, oA_158, oS_158, oF_159, oO_159, oA_160, oS_160, oA_161, oS_161, oA_162, oS_162, oA_163, oS_163, oF_164, oO_164, oA_165, oS_165, oA_166, oS_166, oA_167, oS_167, oA_168, oS_168, oF_169, oO_169, oA_170, oS_170, oA_171, oS_171, oA_172, oS_172, oA_173, oS_173, Nat.le_refl]
    rfl
theorem y_attackers (hB : B < 2 ^ 64) (hs : s < 256) : ev (d + 1) m_Dis_attackers [.long (lN B), .int (nI s)] nx M = some (some (.int (nI (atk B s))), nx, M) := by
  rw [e_Dis_attackers]
  simp only [r_Dis_attackers_0, r_Dis_attackers_1, r_Dis_attackers_2, r_Dis_attackers_3, lit]
  refine (lp0 (R := fun i => run (ev d) m_Dis_attackers 5 [some (.long (lN B)), none, some (.int (nI s)), some (.int (nI (bsum i (fun p => !decide (row B p &&& s = 0))))), some (.int (nI i))] [] nx M) (n := 8) ?_).trans ?_
  · intro i hi
    have hn : ¬ 8 ≤ i := by omega
    have h8 := bsum_8 (fun p => !decide (row B p &&& s = 0)) (n := i) (by omega)
    have h9 : row B i &&& s < 256 := and_8 row_8
    try dsimp only
    rw [r_Dis_attackers_5]
    simp (disch := omega) only [r_Dis_attackers_7, r_Dis_attackers_9, r_Dis_attackers_12, r_Dis_attackers_13, r_Dis_attackers_15, r_Dis_attackers_17, r_Dis_attackers_18, r_Dis_attackers_19, r_Dis_attackers_20, r_Dis_attackers_23, r_Dis_attackers_24, r_Dis_attackers_25, r_Dis_attackers_26, r_Dis_attackers_29, r_Dis_attackers_30, r_Dis_attackers_31, r_Dis_attackers_33, r_Dis_attackers_34, r_Dis_attackers_35, r_Dis_attackers_36, r_Dis_attackers_39, bnd, tl_s, tl_n, wt_nil, wt_int, wt_ref, wt_null, wt_long, Nat.reduceAdd, Nat.reduceLeDiff, if_true, if_false, decide_true, Bool.true_and, Bool.and_true, zok_n0, zok_n1, zok_bI, bI_eq0, bI_eq1, Bool.true_eq_false, Bool.false_eq_true, not_false_eq_true, not_true_eq_false, decide_false, decide_eq_false_iff_not, decide_eq_true_eq, Classical.not_not, ite_not, lit, Nat.reduceEqDiff, Nat.reduceLT, nI_add, nI_lt', nI_le', nI_eq', nI_sub', pk_mul, nI_rem', nI_div', nI_nz, remN, clampN, inb_nI, Nat.not_lt_zero, Nat.zero_le, Nat.le_zero_eq, if_true, if_false, m1_lt0, m1_eq, t_ite, f_ite, nI_and, nI_or, nI_xor, nI_shl1, nI_shr, nI_ushr, nI_not, nI_and_p2, Nat.one_mul, vrf_s, vrf_n, oF_0, oO_0, oF_1, oO_1, oA_2, oS_2, oA_3, oS_3, oF_4, oO_4, oA_5, oS_5, oA_6, oS_6, oA_7, oS_7, oA_8, oS_8, oA_9, oS_9, oF_70, oO_70, oA_71, oS_71, oA_72, oS_72, oF_73, oO_73, oA_74, oS_74, oA_75, oS_75, oA_76, oS_76, oA_77, oS_77, oA_78, oS_78, oA_139, oS_139, oF_140, oO_140, oA_141, oS_141, oA_142, oS_142, oA_143, oS_143, oA_144, oS_144, oF_145, oO_145, oF_146, oO_146, oA_147, oS_147, oF_148, oO_148, oA_149, oS_149, oA_150, oS_150, oA_151, oS_151, oF_152, oO_152, oA_153, oS_153, oF_154, oO_154, oA_155, oS_155, oA_156, oS_156, oA_157, oS_157, oA_158, oS_158, oF_159, oO_159, oA_160, oS_160, oA_161, oS_161, oA_162, oS_162, oA_163, oS_163, oF_164, oO_164, oA_165, oS_165, oA_166, oS_166, oA_167, oS_167, oA_168, oS_168, oF_169, oO_169, oA_170, oS_170, oA_171, oS_171, oA_172, oS_172, oA_173, oS_173, hn, wb_shr, lN_i, row_d]
    by_cases hb : row B i &&& s = 0
    · rw [if_pos hb, bsum_f (by simp [hb])]
    · rw [if_neg hb, bsum_t (by simp [hb])]
  · rw [r_Dis_attackers_5]
    simp (disch := omega) only [r_Dis_attackers_7, r_Dis_attackers_9, r_Dis_attackers_12, r_Dis_attackers_13, r_Dis_attackers_15, r_Dis_attackers_17, r_Dis_attackers_18, r_Dis_attackers_19, r_Dis_attackers_20, r_Dis_attackers_23, r_Dis_attackers_24, r_Dis_attackers_25, r_Dis_attackers_26, r_Dis_attackers_29, r_Dis_attackers_30, r_Dis_attackers_31, r_Dis_attackers_33, r_Dis_attackers_34, r_Dis_attackers_35, r_Dis_attackers_36, r_Dis_attackers_39, r_Dis_attackers_42, r_Dis_attackers_43, bnd, tl_s, tl_n, wt_nil, wt_int, wt_ref, wt_null, wt_long, Nat.reduceAdd, Nat.reduceLeDiff, if_true, if_false, decide_true, Bool.true_and, Bool.and_true, zok_n0, zok_n1, zok_bI, bI_eq0, bI_eq1, Bool.true_eq_false, Bool.false_eq_true, not_false_eq_true, not_true_eq_false, decide_false, decide_eq_false_iff_not, decide_eq_true_eq, Classical.not_not, ite_not, lit, Nat.reduceEqDiff, Nat.reduceLT, nI_add, nI_lt', nI_le', nI_eq', nI_sub', pk_mul, nI_rem', nI_div', nI_nz, remN, clampN, inb_nI, Nat.not_lt_zero, Nat.zero_le, Nat.le_zero_eq, if_true, if_false, m1_lt0, m1_eq, t_ite, f_ite, nI_and, nI_or, nI_xor, nI_shl1, nI_shr, nI_ushr, nI_not, nI_and_p2, Nat.one_mul, vrf_s, vrf_n, oF_0, oO_0, oF_1, oO_1, oA_2, oS_2, oA_3, oS_3, oF_4, oO_4, oA_5, oS_5, oA_6, oS_6, oA_7, oS_7, oA_8, oS_8, oA_9, oS_9, oF_70, oO_70, oA_71, oS_71, oA_72, oS_72, oF_73, oO_73, oA_74, oS_74, oA_75, oS_75, oA_76, oS_76, oA_77, oS_77, oA_78, oS_78, oA_139, oS_139, oF_140, oO_140, oA_141, oS_141, oA_142, oS_142, oA_143, oS_143, oA_144, oS_144, oF_145, oO_145, oF_146, oO_146, oA_147, oS_147, oF_148, oO_148, oA_149, oS_149, oA_150, oS_150, oA_151, oS_151, oF_152, oO_152, oA_153, oS_153, oF_154, oO_154, oA_155, oS_155, oA_156, oS_156, oA_157, oS_157, oA_158, oS_158, oF_159, oO_159, oA_160, oS_160, oA_161, oS_161, oA_162, oS_162, oA_163, oS_163, oF_164, oO_164, oA_165, oS_165, oA_166, oS_166, oA_167, oS_167, oA_168, oS_168, oF_169, oO_169, oA_170, oS_170, oA_171, oS_171, oA_172, oS_172, oA_173, oS_173, Nat.le_refl]
    rfl
theorem y_isFree (hB : B < 2 ^ 64) (hs : s < 256) : ev (d + 2) m_Dis_isFree [.long (lN B), .int (nI s)] nx M = some (some (.int (bI (free B s))), nx, M) := by
  have h9 : tg B s &&& s < 256 := and_8 tg_8
  rw [e_Dis_isFree]
  simp (disch := omega) only [r_Dis_isFree_0, r_Dis_isFree_1, r_Dis_isFree_2, r_Dis_isFree_5, r_Dis_isFree_6, r_Dis_isFree_7, r_Dis_isFree_10, r_Dis_isFree_11, r_Dis_isFree_14, r_Dis_isFree_15, bnd, tl_s, tl_n, wt_nil, wt_int, wt_ref, wt_null, wt_long, Nat.reduceAdd, Nat.reduceLeDiff, if_true, if_false, decide_true, Bool.true_and, Bool.and_true, zok_n0, zok_n1, zok_bI, bI_eq0, bI_eq1, Bool.true_eq_false, Bool.false_eq_true, not_false_eq_true, not_true_eq_false, decide_false, decide_eq_false_iff_not, decide_eq_true_eq, Classical.not_not, ite_not, lit, Nat.reduceEqDiff, Nat.reduceLT, nI_add, nI_lt', nI_le', nI_eq', nI_sub', pk_mul, nI_rem', nI_div', nI_nz, remN, clampN, inb_nI, Nat.not_lt_zero, Nat.zero_le, Nat.le_zero_eq, if_true, if_false, m1_lt0, m1_eq, t_ite, f_ite, nI_and, nI_or, nI_xor, nI_shl1, nI_shr, nI_ushr, nI_not, nI_and_p2, Nat.one_mul, vrf_s, vrf_n, oF_0, oO_0, oF_1, oO_1, oA_2, oS_2, oA_3, oS_3, oF_4, oO_4, oA_5, oS_5, oA_6, oS_6, oA_7, oS_7, oA_8, oS_8, oA_9, oS_9, oF_70, oO_70, oA_71, oS_71, oA_72, oS_72, oF_73, oO_73, oA_74, oS_74, oA_75, oS_75, oA_76, oS_76, oA_77, oS_77, oA_78, oS_78, oA_139, oS_139, oF_140, oO_140, oA_141, oS_141, oA_142, oS_142, oA_143, oS_143, oA_144, oS_144, oF_145, oO_145, oF_146, oO_146, oA_147, oS_147, oF_148, oO_148, oA_149, oS_149, oA_150, oS_150, oA_151, oS_151, oF_152, oO_152, oA_153, oS_153, oF_154, oO_154, oA_155, oS_155, oA_156, oS_156, oA_157, oS_157, oA_158, oS_158, oF_159, oO_159, oA_160, oS_160, oA_161, oS_161, oA_162, oS_162, oA_163, oS_163, oF_164, oO_164, oA_165, oS_165, oA_166, oS_166, oA_167, oS_167, oA_168, oS_168, oF_169, oO_169, oA_170, oS_170, oA_171, oS_171, oA_172, oS_172, oA_173, oS_173, mO_Dis_targets, y_targets hB hs]
  unfold free
  by_cases h : tg B s &&& s = 0 <;> simp [h, bI]
theorem y_isHolding (hB : B < 2 ^ 64) (hs : s < 256) : ev (d + 2) m_Dis_isHolding [.long (lN B), .int (nI s)] nx M = some (some (.int (bI (hold B s))), nx, M) := by
  have h9 : tg B s &&& s < 256 := and_8 tg_8
  have h7 := mns_le (atk B s) (tg B s)
  have h6 := atk_8 (B := B) (p := s)
  rw [e_Dis_isHolding]
  simp (disch := omega) only [r_Dis_isHolding_0, r_Dis_isHolding_1, r_Dis_isHolding_2, r_Dis_isHolding_5, r_Dis_isHolding_6, r_Dis_isHolding_7, r_Dis_isHolding_8, r_Dis_isHolding_9, r_Dis_isHolding_12, r_Dis_isHolding_13, r_Dis_isHolding_14, r_Dis_isHolding_17, r_Dis_isHolding_18, r_Dis_isHolding_19, r_Dis_isHolding_20, r_Dis_isHolding_21, r_Dis_isHolding_24, r_Dis_isHolding_25, r_Dis_isHolding_28, r_Dis_isHolding_29, bnd, tl_s, tl_n, wt_nil, wt_int, wt_ref, wt_null, wt_long, Nat.reduceAdd, Nat.reduceLeDiff, if_true, if_false, decide_true, Bool.true_and, Bool.and_true, zok_n0, zok_n1, zok_bI, bI_eq0, bI_eq1, Bool.true_eq_false, Bool.false_eq_true, not_false_eq_true, not_true_eq_false, decide_false, decide_eq_false_iff_not, decide_eq_true_eq, Classical.not_not, ite_not, lit, Nat.reduceEqDiff, Nat.reduceLT, nI_add, nI_lt', nI_le', nI_eq', nI_sub', pk_mul, nI_rem', nI_div', nI_nz, remN, clampN, inb_nI, Nat.not_lt_zero, Nat.zero_le, Nat.le_zero_eq, if_true, if_false, m1_lt0, m1_eq, t_ite, f_ite, nI_and, nI_or, nI_xor, nI_shl1, nI_shr, nI_ushr, nI_not, nI_and_p2, Nat.one_mul, vrf_s, vrf_n, oF_0, oO_0, oF_1, oO_1, oA_2, oS_2, oA_3, oS_3, oF_4, oO_4, oA_5, oS_5, oA_6, oS_6, oA_7, oS_7, oA_8, oS_8, oA_9, oS_9, oF_70, oO_70, oA_71, oS_71, oA_72, oS_72, oF_73, oO_73, oA_74, oS_74, oA_75, oS_75, oA_76, oS_76, oA_77, oS_77, oA_78, oS_78, oA_139, oS_139, oF_140, oO_140, oA_141, oS_141, oA_142, oS_142, oA_143, oS_143, oA_144, oS_144, oF_145, oO_145, oF_146, oO_146, oA_147, oS_147, oF_148, oO_148, oA_149, oS_149, oA_150, oS_150, oA_151, oS_151, oF_152, oO_152, oA_153, oS_153, oF_154, oO_154, oA_155, oS_155, oA_156, oS_156, oA_157, oS_157, oA_158, oS_158, oF_159, oO_159, oA_160, oS_160, oA_161, oS_161, oA_162, oS_162, oA_163, oS_163, oF_164, oO_164, oA_165, oS_165, oA_166, oS_166, oA_167, oS_167, oA_168, oS_168, oF_169, oO_169, oA_170, oS_170, oA_171, oS_171, oA_172, oS_172, oA_173, oS_173, mO_Dis_targets, mO_Dis_attackers, y_targets hB hs, y_attackers hB hs]
  unfold hold free
  by_cases h : tg B s &&& s = 0 <;> by_cases h2 : mns (atk B s) (tg B s) = 0 <;> simp [h, h2, bI]
theorem y_defended {t : Nat} (hB : B < 2 ^ 64) (ht : t < 256) (hs : s < 256) : ev (d + 2) m_Dis_defended [.long (lN B), .int (nI t), .int (nI s)] nx M = some (some (.int (nI (dfd B t s))), nx, M) := by
  have h7 := mns_le t (tg B s)
  rw [e_Dis_defended]
  simp (disch := omega) only [r_Dis_defended_0, r_Dis_defended_1, r_Dis_defended_2, r_Dis_defended_3, r_Dis_defended_4, r_Dis_defended_5, r_Dis_defended_8, r_Dis_defended_9, r_Dis_defended_10, r_Dis_defended_11, r_Dis_defended_14, r_Dis_defended_15, r_Dis_defended_16, r_Dis_defended_17, bnd, tl_s, tl_n, wt_nil, wt_int, wt_ref, wt_null, wt_long, Nat.reduceAdd, Nat.reduceLeDiff, if_true, if_false, decide_true, Bool.true_and, Bool.and_true, zok_n0, zok_n1, zok_bI, bI_eq0, bI_eq1, Bool.true_eq_false, Bool.false_eq_true, not_false_eq_true, not_true_eq_false, decide_false, decide_eq_false_iff_not, decide_eq_true_eq, Classical.not_not, ite_not, lit, Nat.reduceEqDiff, Nat.reduceLT, nI_add, nI_lt', nI_le', nI_eq', nI_sub', pk_mul, nI_rem', nI_div', nI_nz, remN, clampN, inb_nI, Nat.not_lt_zero, Nat.zero_le, Nat.le_zero_eq, if_true, if_false, m1_lt0, m1_eq, t_ite, f_ite, nI_and, nI_or, nI_xor, nI_shl1, nI_shr, nI_ushr, nI_not, nI_and_p2, Nat.one_mul, vrf_s, vrf_n, oF_0, oO_0, oF_1, oO_1, oA_2, oS_2, oA_3, oS_3, oF_4, oO_4, oA_5, oS_5, oA_6, oS_6, oA_7, oS_7, oA_8, oS_8, oA_9, oS_9, oF_70, oO_70, oA_71, oS_71, oA_72, oS_72, oF_73, oO_73, oA_74, oS_74, oA_75, oS_75, oA_76, oS_76, oA_77, oS_77, oA_78, oS_78, oA_139, oS_139, oF_140, oO_140, oA_141, oS_141, oA_142, oS_142, oA_143, oS_143, oA_144, oS_144, oF_145, oO_145, oF_146, oO_146, oA_147, oS_147, oF_148, oO_148, oA_149, oS_149, oA_150, oS_150, oA_151, oS_151, oF_152, oO_152, oA_153, oS_153, oF_154, oO_154, oA_155, oS_155, oA_156, oS_156, oA_157, oS_157, oA_158, oS_158, oF_159, oO_159, oA_160, oS_160, oA_161, oS_161, oA_162, oS_162, oA_163, oS_163, oF_164, oO_164, oA_165, oS_165, oA_166, oS_166, oA_167, oS_167, oA_168, oS_168, oF_169, oO_169, oA_170, oS_170, oA_171, oS_171, oA_172, oS_172, oA_173, oS_173, mO_Dis_targets, y_targets hB hs, y_targets hB (show mns t (tg B s) < 256 by omega)]
  rfl
theorem told_8 (hn : n ≤ 8) : 2 ^ n - 1 < 256 := by have := p2_le8 hn; have := p2_pos (k := n); omega
theorem y_groundedBits (hB : B < 2 ^ 64) (hn : n ≤ 8) : ev (d + 3) m_Dis_groundedBits [.long (lN B), .int (nI (2 ^ n - 1))] nx M = some (some (.int (nI (gnd B n))), nx, M) := by
  rw [e_Dis_groundedBits]
  simp only [r_Dis_groundedBits_0, r_Dis_groundedBits_1, r_Dis_groundedBits_2, r_Dis_groundedBits_3, lit]
  rw [show run (ev (d + 2)) m_Dis_groundedBits 5 [some (.long (lN B)), none, some (.int (nI (2 ^ n - 1))), some (.int (nI 0)), some (.int (nI 0)), none] [] nx M = _ from lpzf (R := fun i z => run (ev (d + 2)) m_Dis_groundedBits 5 [some (.long (lN B)), none, some (.int (nI (2 ^ n - 1))), some (.int (nI (grd B (2 ^ n - 1) i))), some (.int (nI i)), z] [] nx M) (p := fun i => decide (grd B (2 ^ n - 1) (i + 1) = grd B (2 ^ n - 1) i)) (a := fun i => some (some (.int (nI (grd B (2 ^ n - 1) i))), nx, M)) (n := 9) (out := some (some (.int (nI (gnd B n))), nx, M)) ?_ ?_ 9 0 none rfl]
  · apply fst'_const
    intro j _ _ h
    have h1 : itr (dfd B (2 ^ n - 1)) (j + 1) = itr (dfd B (2 ^ n - 1)) j := of_decide_eq_true h
    have h2 := itr_stay h1 n
    rw [show grd B (2 ^ n - 1) j = itr (dfd B (2 ^ n - 1)) j from rfl, ← h2, show itr (dfd B (2 ^ n - 1)) (j + n) = grd B (2 ^ n - 1) (j + n) from rfl, grd_end (by omega)]
  · intro i z hi
    have hn9 : ¬ 8 < i := by omega
    have h1 := grd_8 (B := B) (r := i) hn
    have h2 := grd_8 (B := B) (r := i + 1) hn
    have h3 := y_defended (d := d) (nx := nx) (M := M) hB (told_8 hn) h1
    rw [show dfd B (2 ^ n - 1) (grd B (2 ^ n - 1) i) = grd B (2 ^ n - 1) (i + 1) from rfl] at h3
    refine ⟨some (.int (nI (grd B (2 ^ n - 1) (i + 1)))), ?_⟩
    try dsimp only
    rw [r_Dis_groundedBits_5]
    simp (disch := omega) only [r_Dis_groundedBits_7, r_Dis_groundedBits_9, r_Dis_groundedBits_12, r_Dis_groundedBits_13, r_Dis_groundedBits_14, r_Dis_groundedBits_15, r_Dis_groundedBits_18, r_Dis_groundedBits_20, r_Dis_groundedBits_22, r_Dis_groundedBits_23, r_Dis_groundedBits_26, r_Dis_groundedBits_27, r_Dis_groundedBits_28, r_Dis_groundedBits_30, r_Dis_groundedBits_31, r_Dis_groundedBits_34, bnd, tl_s, tl_n, wt_nil, wt_int, wt_ref, wt_null, wt_long, Nat.reduceAdd, Nat.reduceLeDiff, if_true, if_false, decide_true, Bool.true_and, Bool.and_true, zok_n0, zok_n1, zok_bI, bI_eq0, bI_eq1, Bool.true_eq_false, Bool.false_eq_true, not_false_eq_true, not_true_eq_false, decide_false, decide_eq_false_iff_not, decide_eq_true_eq, Classical.not_not, ite_not, lit, Nat.reduceEqDiff, Nat.reduceLT, nI_add, nI_lt', nI_le', nI_eq', nI_sub', pk_mul, nI_rem', nI_div', nI_nz, remN, clampN, inb_nI, Nat.not_lt_zero, Nat.zero_le, Nat.le_zero_eq, if_true, if_false, m1_lt0, m1_eq, t_ite, f_ite, nI_and, nI_or, nI_xor, nI_shl1, nI_shr, nI_ushr, nI_not, nI_and_p2, Nat.one_mul, vrf_s, vrf_n, oF_0, oO_0, oF_1, oO_1, oA_2, oS_2, oA_3, oS_3, oF_4, oO_4, oA_5, oS_5, oA_6, oS_6, oA_7, oS_7, oA_8, oS_8, oA_9, oS_9, oF_70, oO_70, oA_71, oS_71, oA_72, oS_72, oF_73, oO_73, oA_74, oS_74, oA_75, oS_75, oA_76, oS_76, oA_77, oS_77, oA_78, oS_78, oA_139, oS_139, oF_140, oO_140, oA_141, oS_141, oA_142, oS_142, oA_143, oS_143, oA_144, oS_144, oF_145, oO_145, oF_146, oO_146, oA_147, oS_147, oF_148, oO_148, oA_149, oS_149, oA_150, oS_150, oA_151, oS_151, oF_152, oO_152, oA_153, oS_153, oF_154, oO_154, oA_155, oS_155, oA_156, oS_156, oA_157, oS_157, oA_158, oS_158, oF_159, oO_159, oA_160, oS_160, oA_161, oS_161, oA_162, oS_162, oA_163, oS_163, oF_164, oO_164, oA_165, oS_165, oA_166, oS_166, oA_167, oS_167, oA_168, oS_168, oF_169, oO_169, oA_170, oS_170, oA_171, oS_171, oA_172, oS_172, oA_173, oS_173, mO_Dis_defended, hn9, h3]
  · intro z
    try dsimp only
    rw [r_Dis_groundedBits_5]
    simp (disch := omega) only [r_Dis_groundedBits_7, r_Dis_groundedBits_9, r_Dis_groundedBits_12, r_Dis_groundedBits_13, r_Dis_groundedBits_14, r_Dis_groundedBits_15, r_Dis_groundedBits_18, r_Dis_groundedBits_20, r_Dis_groundedBits_22, r_Dis_groundedBits_23, r_Dis_groundedBits_26, r_Dis_groundedBits_27, r_Dis_groundedBits_28, r_Dis_groundedBits_30, r_Dis_groundedBits_31, r_Dis_groundedBits_34, r_Dis_groundedBits_37, r_Dis_groundedBits_38, bnd, tl_s, tl_n, wt_nil, wt_int, wt_ref, wt_null, wt_long, Nat.reduceAdd, Nat.reduceLeDiff, if_true, if_false, decide_true, Bool.true_and, Bool.and_true, zok_n0, zok_n1, zok_bI, bI_eq0, bI_eq1, Bool.true_eq_false, Bool.false_eq_true, not_false_eq_true, not_true_eq_false, decide_false, decide_eq_false_iff_not, decide_eq_true_eq, Classical.not_not, ite_not, lit, Nat.reduceEqDiff, Nat.reduceLT, nI_add, nI_lt', nI_le', nI_eq', nI_sub', pk_mul, nI_rem', nI_div', nI_nz, remN, clampN, inb_nI, Nat.not_lt_zero, Nat.zero_le, Nat.le_zero_eq, if_true, if_false, m1_lt0, m1_eq, t_ite, f_ite, nI_and, nI_or, nI_xor, nI_shl1, nI_shr, nI_ushr, nI_not, nI_and_p2, Nat.one_mul, vrf_s, vrf_n, oF_0, oO_0, oF_1, oO_1, oA_2, oS_2, oA_3, oS_3, oF_4, oO_4, oA_5, oS_5, oA_6, oS_6, oA_7, oS_7, oA_8, oS_8, oA_9, oS_9, oF_70, oO_70, oA_71, oS_71, oA_72, oS_72, oF_73, oO_73, oA_74, oS_74, oA_75, oS_75, oA_76, oS_76, oA_77, oS_77, oA_78, oS_78, oA_139, oS_139, oF_140, oO_140, oA_141, oS_141, oA_142, oS_142, oA_143, oS_143, oA_144, oS_144, oF_145, oO_145, oF_146, oO_146, oA_147, oS_147, oF_148, oO_148, oA_149, oS_149, oA_150, oS_150, oA_151, oS_151, oF_152, oO_152, oA_153, oS_153, oF_154, oO_154, oA_155, oS_155, oA_156, oS_156, oA_157, oS_157, oA_158, oS_158, oF_159, oO_159, oA_160, oS_160, oA_161, oS_161, oA_162, oS_162, oA_163, oS_163, oF_164, oO_164, oA_165, oS_165, oA_166, oS_166, oA_167, oS_167, oA_168, oS_168, oF_169, oO_169, oA_170, oS_170, oA_171, oS_171, oA_172, oS_172, oA_173, oS_173, mO_Dis_defended]
    rw [grd_end (by omega)]
theorem y_roundOf (hB : B < 2 ^ 64) (hn : n ≤ 8) (hp : p < 8) : ev (d + 3) m_Dis_roundOf [.long (lN B), .int (nI (2 ^ n - 1)), .int (nI p)] nx M = some (some (.int (fst' (fun r => (grd B (2 ^ n - 1) (r + 1)).testBit p) nI (-nI 1) 8 0)), nx, M) := by
  rw [e_Dis_roundOf]
  simp only [r_Dis_roundOf_0, r_Dis_roundOf_1, r_Dis_roundOf_3, r_Dis_roundOf_4, lit]
  refine (lpf0 (R := fun i => run (ev (d + 2)) m_Dis_roundOf 6 [some (.long (lN B)), none, some (.int (nI (2 ^ n - 1))), some (.int (nI p)), some (.int (nI (grd B (2 ^ n - 1) i))), some (.int (nI i))] [] nx M) (p := fun r => (grd B (2 ^ n - 1) (r + 1)).testBit p) (a := fun r => some (some (.int (nI r)), nx, M)) (n := 8) (z := some (some (.int (-nI 1)), nx, M)) ?_ ?_).trans ?_
  · intro i hi
    have hn9 : ¬ 8 ≤ i := by omega
    have h1 := grd_8 (B := B) (r := i) hn
    have h2 := grd_8 (B := B) (r := i + 1) hn
    have h3 := y_defended (d := d) (nx := nx) (M := M) hB (told_8 hn) h1
    rw [show dfd B (2 ^ n - 1) (grd B (2 ^ n - 1) i) = grd B (2 ^ n - 1) (i + 1) from rfl] at h3
    try dsimp only
    rw [r_Dis_roundOf_6]
    simp (disch := omega) only [r_Dis_roundOf_8, r_Dis_roundOf_10, r_Dis_roundOf_13, r_Dis_roundOf_14, r_Dis_roundOf_15, r_Dis_roundOf_17, r_Dis_roundOf_20, r_Dis_roundOf_22, r_Dis_roundOf_24, r_Dis_roundOf_25, r_Dis_roundOf_28, r_Dis_roundOf_31, r_Dis_roundOf_33, r_Dis_roundOf_34, r_Dis_roundOf_37, bnd, tl_s, tl_n, wt_nil, wt_int, wt_ref, wt_null, wt_long, Nat.reduceAdd, Nat.reduceLeDiff, if_true, if_false, decide_true, Bool.true_and, Bool.and_true, zok_n0, zok_n1, zok_bI, bI_eq0, bI_eq1, Bool.true_eq_false, Bool.false_eq_true, not_false_eq_true, not_true_eq_false, decide_false, decide_eq_false_iff_not, decide_eq_true_eq, Classical.not_not, ite_not, lit, Nat.reduceEqDiff, Nat.reduceLT, nI_add, nI_lt', nI_le', nI_eq', nI_sub', pk_mul, nI_rem', nI_div', nI_nz, remN, clampN, inb_nI, Nat.not_lt_zero, Nat.zero_le, Nat.le_zero_eq, if_true, if_false, m1_lt0, m1_eq, t_ite, f_ite, nI_and, nI_or, nI_xor, nI_shl1, nI_shr, nI_ushr, nI_not, nI_and_p2, Nat.one_mul, vrf_s, vrf_n, oF_0, oO_0, oF_1, oO_1, oA_2, oS_2, oA_3, oS_3, oF_4, oO_4, oA_5, oS_5, oA_6, oS_6, oA_7, oS_7, oA_8, oS_8, oA_9, oS_9, oF_70, oO_70, oA_71, oS_71, oA_72, oS_72, oF_73, oO_73, oA_74, oS_74, oA_75, oS_75, oA_76, oS_76, oA_77, oS_77, oA_78, oS_78, oA_139, oS_139, oF_140, oO_140, oA_141, oS_141, oA_142, oS_142, oA_143, oS_143, oA_144, oS_144, oF_145, oO_145, oF_146, oO_146, oA_147, oS_147, oF_148, oO_148, oA_149, oS_149, oA_150, oS_150, oA_151, oS_151, oF_152, oO_152, oA_153, oS_153, oF_154, oO_154, oA_155, oS_155, oA_156, oS_156, oA_157, oS_157, oA_158, oS_158, oF_159, oO_159, oA_160, oS_160, oA_161, oS_161, oA_162, oS_162, oA_163, oS_163, oF_164, oO_164, oA_165, oS_165, oA_166, oS_166, oA_167, oS_167, oA_168, oS_168, oF_169, oO_169, oA_170, oS_170, oA_171, oS_171, oA_172, oS_172, oA_173, oS_173, mO_Dis_defended, mO_X_hasBit, hn9, h3, y_hasBit]
    cases (grd B (2 ^ n - 1) (i + 1)).testBit p <;> simp
  · rw [r_Dis_roundOf_6]
    simp (disch := omega) only [r_Dis_roundOf_8, r_Dis_roundOf_10, r_Dis_roundOf_13, r_Dis_roundOf_14, r_Dis_roundOf_15, r_Dis_roundOf_17, r_Dis_roundOf_20, r_Dis_roundOf_22, r_Dis_roundOf_24, r_Dis_roundOf_25, r_Dis_roundOf_28, r_Dis_roundOf_31, r_Dis_roundOf_33, r_Dis_roundOf_34, r_Dis_roundOf_37, r_Dis_roundOf_40, r_Dis_roundOf_41, bnd, tl_s, tl_n, wt_nil, wt_int, wt_ref, wt_null, wt_long, Nat.reduceAdd, Nat.reduceLeDiff, if_true, if_false, decide_true, Bool.true_and, Bool.and_true, zok_n0, zok_n1, zok_bI, bI_eq0, bI_eq1, Bool.true_eq_false, Bool.false_eq_true, not_false_eq_true, not_true_eq_false, decide_false, decide_eq_false_iff_not, decide_eq_true_eq, Classical.not_not, ite_not, lit, Nat.reduceEqDiff, Nat.reduceLT, nI_add, nI_lt', nI_le', nI_eq', nI_sub', pk_mul, nI_rem', nI_div', nI_nz, remN, clampN, inb_nI, Nat.not_lt_zero, Nat.zero_le, Nat.le_zero_eq, if_true, if_false, m1_lt0, m1_eq, t_ite, f_ite, nI_and, nI_or, nI_xor, nI_shl1, nI_shr, nI_ushr, nI_not, nI_and_p2, Nat.one_mul, vrf_s, vrf_n, oF_0, oO_0, oF_1, oO_1, oA_2, oS_2, oA_3, oS_3, oF_4, oO_4, oA_5, oS_5, oA_6, oS_6, oA_7, oS_7, oA_8, oS_8, oA_9, oS_9, oF_70, oO_70, oA_71, oS_71, oA_72, oS_72, oF_73, oO_73, oA_74, oS_74, oA_75, oS_75, oA_76, oS_76, oA_77, oS_77, oA_78, oS_78, oA_139, oS_139, oF_140, oO_140, oA_141, oS_141, oA_142, oS_142, oA_143, oS_143, oA_144, oS_144, oF_145, oO_145, oF_146, oO_146, oA_147, oS_147, oF_148, oO_148, oA_149, oS_149, oA_150, oS_150, oA_151, oS_151, oF_152, oO_152, oA_153, oS_153, oF_154, oO_154, oA_155, oS_155, oA_156, oS_156, oA_157, oS_157, oA_158, oS_158, oF_159, oO_159, oA_160, oS_160, oA_161, oS_161, oA_162, oS_162, oA_163, oS_163, oF_164, oO_164, oA_165, oS_165, oA_166, oS_166, oA_167, oS_167, oA_168, oS_168, oF_169, oO_169, oA_170, oS_170, oA_171, oS_171, oA_172, oS_172, oA_173, oS_173, mO_Dis_defended, mO_X_hasBit, Nat.le_refl]
  · exact fst'_map (fun b => some (some (Value.int b), nx, M)) _ nI (-nI 1) 8 0
end SX
