/-! CALLS: image, back: the copies -/
section CP
variable {d c c0 c1 n : Nat} {M M' : Mem} {s s' : St} {T : Nat → Tx} {tb : Nat → Nat} {tl : Nat} {f : Fa} {m : Mo}
theorem y_copyRaw (hr : RX M) (h1 : moB c1 = true) (h0 : moB c0 = true) (hne : c0 ≠ c1) (hne1 : c0 + 1 ≠ c1) (hne2 : c1 + 1 ≠ c0) : ∃ M', D (fun k j => (k = c1 ∧ j ≠ 6) ∨ k = c1 + 1) M M' ∧ (∀ m, MX M c0 m → mCn m ≤ 30 → MX M' c1 m) ∧ ev (d + 1) m_Mom_copyFrom [.ref c1, .ref c0] NX M = some (none, NX, M') := by
  obtain ⟨f1, f2, f3, f4, f5, f6⟩ := moF h1
  obtain ⟨g1, g2, g3, g4, g5, g6⟩ := moF h0
  have r0 := hr c0 6 (c0 + 1) g5
  have r1 := hr c1 6 (c1 + 1) f5
  refine ⟨sI (cpI (sI (sI (sI (sL (sI (sI M c1 0 (gI M c0 0)) c1 1 (gI M c0 1)) c1 2 (gL M c0 2)) c1 3 (gI M c0 3)) c1 4 (gI M c0 4)) c1 5 (gI M c0 5)) (c0 + 1) (c1 + 1) 0 0 30) c1 7 (gI M c0 7), ?_, ?_, ?_⟩
  · refine (D_cpI ((((((D.rfl'.sI (Or.inl ⟨rfl, by omega⟩)).sI (Or.inl ⟨rfl, by omega⟩)).sL (Or.inl ⟨rfl, by omega⟩)).sI (Or.inl ⟨rfl, by omega⟩)).sI (Or.inl ⟨rfl, by omega⟩)).sI (Or.inl ⟨rfl, by omega⟩)) (fun j => Or.inr rfl)).sI (Or.inl ⟨rfl, by omega⟩)
  · intro m h hcn
    obtain ⟨a0, a1, a2, a3, a4, a5, a7, a8⟩ := h
    rw [a0, a1, a2, a3, a4, a5, a7]
    refine ⟨?_, ?_, ?_, ?_, ?_, ?_, gI_sI_eq, fun k hk => ?_⟩
    · rw [gI_sI_nj (by decide), gI_cpI_nk (by omega), gI_sI_nj (by decide), gI_sI_nj (by decide), gI_sI_nj (by decide), gI_sL, gI_sI_nj (by decide), gI_sI_eq]
    · rw [gI_sI_nj (by decide), gI_cpI_nk (by omega), gI_sI_nj (by decide), gI_sI_nj (by decide), gI_sI_nj (by decide), gI_sL, gI_sI_eq]
    · rw [gL_sI, gL_cpI, gL_sI, gL_sI, gL_sI, gL_sL_eq]
    · rw [gI_sI_nj (by decide), gI_cpI_nk (by omega), gI_sI_nj (by decide), gI_sI_nj (by decide), gI_sI_eq]
    · rw [gI_sI_nj (by decide), gI_cpI_nk (by omega), gI_sI_nj (by decide), gI_sI_eq]
    · rw [gI_sI_nj (by decide), gI_cpI_nk (by omega), gI_sI_eq]
    · rw [gI_sI_nk (by omega), gI_cpI_in (by omega) (by omega), gI_sI_nk (by omega), gI_sI_nk (by omega), gI_sI_nk (by omega), gI_sL, gI_sI_nk (by omega), gI_sI_nk (by omega), show 0 + (k - 0) = k by omega]
      exact a8 k hk
  · have e1 : (sh (c0 + 1)).1 == 100 := by rw [g4]; rfl
    have e2 : (sh (c1 + 1)).1 == 100 := by rw [f4]; rfl
    have e3 : (sh (c0 + 1)).2 = 30 := by rw [g4]
    have e4 : (sh (c1 + 1)).2 = 30 := by rw [f4]
    rw [e_Mom_copyFrom]
    simp (disch := omega) only [r_Mom_copyFrom_0, r_Mom_copyFrom_0n, r_Mom_copyFrom_1, r_Mom_copyFrom_1n, r_Mom_copyFrom_2, r_Mom_copyFrom_5, r_Mom_copyFrom_8, r_Mom_copyFrom_8n, r_Mom_copyFrom_9, r_Mom_copyFrom_9n, r_Mom_copyFrom_10, r_Mom_copyFrom_13, r_Mom_copyFrom_16, r_Mom_copyFrom_16n, r_Mom_copyFrom_17, r_Mom_copyFrom_17n, r_Mom_copyFrom_18, r_Mom_copyFrom_21, r_Mom_copyFrom_24, r_Mom_copyFrom_24n, r_Mom_copyFrom_25, r_Mom_copyFrom_25n, r_Mom_copyFrom_26, r_Mom_copyFrom_29, r_Mom_copyFrom_32, r_Mom_copyFrom_32n, r_Mom_copyFrom_33, r_Mom_copyFrom_33n, r_Mom_copyFrom_34, r_Mom_copyFrom_37, r_Mom_copyFrom_40, r_Mom_copyFrom_40n, r_Mom_copyFrom_41, r_Mom_copyFrom_41n, r_Mom_copyFrom_42, r_Mom_copyFrom_45, r_Mom_copyFrom_48, r_Mom_copyFrom_48n, r_Mom_copyFrom_49, r_Mom_copyFrom_52, r_Mom_copyFrom_53, r_Mom_copyFrom_53n, r_Mom_copyFrom_54, r_Mom_copyFrom_57, r_Mom_copyFrom_58, r_Mom_copyFrom_60, r_Mom_copyFrom_63, r_Mom_copyFrom_63n, r_Mom_copyFrom_64, r_Mom_copyFrom_64n, r_Mom_copyFrom_65, r_Mom_copyFrom_68, r_Mom_copyFrom_71, bnd, tl_s, tl_n, wt_nil, wt_int, wt_ref, wt_null, wt_long, Nat.reduceAdd, Nat.reduceLeDiff, if_true, if_false, decide_true, Bool.true_and, Bool.and_true, zok_n0, zok_n1, zok_bI, bI_eq0, bI_eq1, Bool.true_eq_false, Bool.false_eq_true, not_false_eq_true, not_true_eq_false, decide_false, decide_eq_false_iff_not, decide_eq_true_eq, Classical.not_not, ite_not, lit, Nat.reduceEqDiff, Nat.reduceLT, nI_add, nI_lt', nI_le', nI_eq', nI_sub', pk_mul, nI_rem', nI_div', nI_nz, remN, clampN, inb_nI, Nat.not_lt_zero, Nat.zero_le, Nat.le_zero_eq, if_true, if_false, m1_lt0, m1_eq, t_ite, f_ite, Bool.not_false, Bool.not_true, nI_and, nI_or, nI_xor, nI_shl1, nI_shr, nI_ushr, nI_not, nI_and_p2, Nat.one_mul, vrf_s, vrf_n, oF_0, oO_0, oF_1, oO_1, oA_2, oS_2, oA_3, oS_3, oF_4, oO_4, oA_5, oS_5, oA_6, oS_6, oA_7, oS_7, oA_8, oS_8, oA_9, oS_9, oF_70, oO_70, oA_71, oS_71, oA_72, oS_72, oF_73, oO_73, oA_74, oS_74, oA_75, oS_75, oA_76, oS_76, oA_77, oS_77, oA_78, oS_78, oA_139, oS_139, oF_140, oO_140, oA_141, oS_141, oA_142, oS_142, oA_143, oS_143, oA_144, oS_144, oF_145, oO_145, oF_146, oO_146, oA_147, oS_147, oF_148, oO_148, oA_149, oS_149, oA_150, oS_150, oA_151, oS_151, oF_152, oO_152, oA_153, oS_153, oF_154, oO_154, oA_155, oS_155, oA_156, oS_156, oA_157, oS_157, oA_158, oS_158, oF_159, oO_159, oA_160, oS_160, oA_161, oS_161, oA_162, oS_162, oA_163, oS_163, oF_164, oO_164, oA_165, oS_165, oA_166, oS_166, oA_167, oS_167, oA_168, oS_168, oF_169, oO_169, oA_170, oS_170, oA_171, oS_171, oA_172, oS_172, oA_173, oS_173, f1, g1, gI_sI_nk, gI_sL, gL_sI, gL_cpI, gI_cpI_nk, gR_sI, gR_sL, gR_cpI, r0, r1, g3, f3, e1, e2, e3, e4, Nat.zero_add, Nat.le_refl]
theorem SM.cp (h : SM M c0 s) (ho : OkS s) (hc : ∀ j, j < 1595 → gI M' c1 j = gI M c0 j) : SM M' c1 s := by
  obtain ⟨a1, a2, a3, a4, a5, a6⟩ := h
  obtain ⟨o1, o2, o3, o4, o5, o6, o7, o8, o9, o10⟩ := ho
  have hn := o1.1
  have mv : ∀ {b bb m}, MM M c0 b bb m → mCn m ≤ 30 → b + 20 ≤ 1595 → bb + 30 ≤ 1595 → MM M' c1 b bb m := by
    intro b bb m h hcn h1 h2
    obtain ⟨b0, b1, b2, b3, b4, b5, b6⟩ := h
    exact ⟨(hc _ (by omega)).trans b0, (hc _ (by omega)).trans b1, (hc _ (by omega)).trans b2, (hc _ (by omega)).trans b3, fun p hp => (hc _ (by omega)).trans (b4 p hp), fun p hp => (hc _ (by omega)).trans (b5 p hp), fun k hk => (hc _ (by omega)).trans (b6 k hk)⟩
  exact ⟨⟨(hc _ (by omega)).trans a1.1, fun p hp => ⟨(hc _ (by omega)).trans (a1.2 p hp).1, (hc _ (by omega)).trans (a1.2 p hp).2⟩⟩, mv a2 o2.2.2.2.2.2.2.2.1 (by omega) (by omega), ⟨(hc _ (by omega)).trans a3.1, fun i hi => mv (a3.2 i hi) (o4 i hi).2.2.2.2.2.2.2.1 (by omega) (by omega)⟩, ⟨(hc _ (by omega)).trans a4.1, (hc _ (by omega)).trans a4.2⟩, ⟨(hc _ (by omega)).trans a5.1, fun i hi => (hc _ (by omega)).trans (a5.2 i hi)⟩, ⟨(hc _ (by omega)).trans a6.1, fun i hi => ⟨(hc _ (by omega)).trans (a6.2 i hi).1, (hc _ (by omega)).trans (a6.2 i hi).2⟩⟩⟩
theorem x_cpI : ∃ M', D (fun k _ => k = 176) M M' ∧ (∀ j, j < 1595 → gI M' 176 j = gI M 175 j) ∧ ev (d + 1) m_M_copy [.ref 175, .ref 176] NX M = some (none, NX, M') := by
  obtain ⟨X, ⟨x1, x2⟩, x3⟩ := lpE (R := fun i (X : Mem) => run (ev d) m_M_copy 2 [some (.ref 175), some (.ref 176), some (.int (nI i))] [] NX X) (I := fun i X => D (fun k _ => k = 176) M X ∧ ∀ j, j < i → gI X 176 j = gI M 175 j) (n := 1595) (by
    intro i X hi ⟨x1, x2⟩
    have hni : ¬ 1595 ≤ i := by omega
    have hrd : gI X 175 i = gI M 175 i := x1.i (by omega)
    refine ⟨sI X 176 i (gI M 175 i), ⟨x1.sI rfl, fun j hj => ?_⟩, ?_⟩
    · by_cases e : j = i
      · rw [e, gI_sI_eq]
      · rw [gI_sI_nj (by omega)]; exact x2 j (by omega)
    · try dsimp only
      rw [r_M_copy_2]
      simp (disch := omega) only [r_M_copy_3, r_M_copy_6, r_M_copy_9, r_M_copy_9n, r_M_copy_10, r_M_copy_11, r_M_copy_11n, r_M_copy_12, r_M_copy_13, r_M_copy_14, r_M_copy_15, r_M_copy_18, bnd, tl_s, tl_n, wt_nil, wt_int, wt_ref, wt_null, wt_long, Nat.reduceAdd, Nat.reduceLeDiff, if_true, if_false, decide_true, Bool.true_and, Bool.and_true, zok_n0, zok_n1, zok_bI, bI_eq0, bI_eq1, Bool.true_eq_false, Bool.false_eq_true, not_false_eq_true, not_true_eq_false, decide_false, decide_eq_false_iff_not, decide_eq_true_eq, Classical.not_not, ite_not, lit, Nat.reduceEqDiff, Nat.reduceLT, nI_add, nI_lt', nI_le', nI_eq', nI_sub', pk_mul, nI_rem', nI_div', nI_nz, remN, clampN, inb_nI, Nat.not_lt_zero, Nat.zero_le, Nat.le_zero_eq, if_true, if_false, m1_lt0, m1_eq, t_ite, f_ite, Bool.not_false, Bool.not_true, nI_and, nI_or, nI_xor, nI_shl1, nI_shr, nI_ushr, nI_not, nI_and_p2, Nat.one_mul, vrf_s, vrf_n, oF_174, oO_174, oA_175, oS_175, oA_176, oS_176, oA_177, oS_177, oA_178, oS_178, oA_179, oS_179, oA_180, oS_180, oA_181, oS_181, oA_182, oS_182, oA_183, oS_183, oA_184, oS_184, oA_185, oS_185, oA_186, oS_186, oA_187, oS_187, oA_188, oS_188, hni, hrd]) 1595 0 M (by omega) ⟨D.rfl', fun j hj => by omega⟩
  refine ⟨X, x1, x2, ?_⟩
  rw [e_M_copy]
  simp (disch := omega) only [r_M_copy_0, r_M_copy_1, bnd, tl_s, tl_n, wt_nil, wt_int, wt_ref, wt_null, wt_long, Nat.reduceAdd, Nat.reduceLeDiff, if_true, if_false, decide_true, Bool.true_and, Bool.and_true, zok_n0, zok_n1, zok_bI, bI_eq0, bI_eq1, Bool.true_eq_false, Bool.false_eq_true, not_false_eq_true, not_true_eq_false, decide_false, decide_eq_false_iff_not, decide_eq_true_eq, Classical.not_not, ite_not, lit, Nat.reduceEqDiff, Nat.reduceLT, nI_add, nI_lt', nI_le', nI_eq', nI_sub', pk_mul, nI_rem', nI_div', nI_nz, remN, clampN, inb_nI, Nat.not_lt_zero, Nat.zero_le, Nat.le_zero_eq, if_true, if_false, m1_lt0, m1_eq, t_ite, f_ite, Bool.not_false, Bool.not_true, nI_and, nI_or, nI_xor, nI_shl1, nI_shr, nI_ushr, nI_not, nI_and_p2, Nat.one_mul, vrf_s, vrf_n, oF_174, oO_174, oA_175, oS_175, oA_176, oS_176, oA_177, oS_177, oA_178, oS_178, oA_179, oS_179, oA_180, oS_180, oA_181, oS_181, oA_182, oS_182, oA_183, oS_183, oA_184, oS_184, oA_185, oS_185, oA_186, oS_186, oA_187, oS_187, oA_188, oS_188]
  refine Eq.trans x3 ?_
  try dsimp only
  rw [r_M_copy_2]
  simp (disch := omega) only [r_M_copy_3, r_M_copy_6, r_M_copy_21, bnd, tl_s, tl_n, wt_nil, wt_int, wt_ref, wt_null, wt_long, Nat.reduceAdd, Nat.reduceLeDiff, if_true, if_false, decide_true, Bool.true_and, Bool.and_true, zok_n0, zok_n1, zok_bI, bI_eq0, bI_eq1, Bool.true_eq_false, Bool.false_eq_true, not_false_eq_true, not_true_eq_false, decide_false, decide_eq_false_iff_not, decide_eq_true_eq, Classical.not_not, ite_not, lit, Nat.reduceEqDiff, Nat.reduceLT, nI_add, nI_lt', nI_le', nI_eq', nI_sub', pk_mul, nI_rem', nI_div', nI_nz, remN, clampN, inb_nI, Nat.not_lt_zero, Nat.zero_le, Nat.le_zero_eq, if_true, if_false, m1_lt0, m1_eq, t_ite, f_ite, Bool.not_false, Bool.not_true, nI_and, nI_or, nI_xor, nI_shl1, nI_shr, nI_ushr, nI_not, nI_and_p2, Nat.one_mul, vrf_s, vrf_n, oF_174, oO_174, oA_175, oS_175, oA_176, oS_176, oA_177, oS_177, oA_178, oS_178, oA_179, oS_179, oA_180, oS_180, oA_181, oS_181, oA_182, oS_182, oA_183, oS_183, oA_184, oS_184, oA_185, oS_185, oA_186, oS_186, oA_187, oS_187, oA_188, oS_188, Nat.le_refl]
theorem x_cpB : ∃ M', D (fun k _ => k = 175) M M' ∧ (∀ j, j < 1595 → gI M' 175 j = gI M 176 j) ∧ ev (d + 1) m_M_copy [.ref 176, .ref 175] NX M = some (none, NX, M') := by
  obtain ⟨X, ⟨x1, x2⟩, x3⟩ := lpE (R := fun i (X : Mem) => run (ev d) m_M_copy 2 [some (.ref 176), some (.ref 175), some (.int (nI i))] [] NX X) (I := fun i X => D (fun k _ => k = 175) M X ∧ ∀ j, j < i → gI X 175 j = gI M 176 j) (n := 1595) (by
    intro i X hi ⟨x1, x2⟩
    have hni : ¬ 1595 ≤ i := by omega
    have hrd : gI X 176 i = gI M 176 i := x1.i (by omega)
    refine ⟨sI X 175 i (gI M 176 i), ⟨x1.sI rfl, fun j hj => ?_⟩, ?_⟩
    · by_cases e : j = i
      · rw [e, gI_sI_eq]
      · rw [gI_sI_nj (by omega)]; exact x2 j (by omega)
    · try dsimp only
      rw [r_M_copy_2]
      simp (disch := omega) only [r_M_copy_3, r_M_copy_6, r_M_copy_9, r_M_copy_9n, r_M_copy_10, r_M_copy_11, r_M_copy_11n, r_M_copy_12, r_M_copy_13, r_M_copy_14, r_M_copy_15, r_M_copy_18, bnd, tl_s, tl_n, wt_nil, wt_int, wt_ref, wt_null, wt_long, Nat.reduceAdd, Nat.reduceLeDiff, if_true, if_false, decide_true, Bool.true_and, Bool.and_true, zok_n0, zok_n1, zok_bI, bI_eq0, bI_eq1, Bool.true_eq_false, Bool.false_eq_true, not_false_eq_true, not_true_eq_false, decide_false, decide_eq_false_iff_not, decide_eq_true_eq, Classical.not_not, ite_not, lit, Nat.reduceEqDiff, Nat.reduceLT, nI_add, nI_lt', nI_le', nI_eq', nI_sub', pk_mul, nI_rem', nI_div', nI_nz, remN, clampN, inb_nI, Nat.not_lt_zero, Nat.zero_le, Nat.le_zero_eq, if_true, if_false, m1_lt0, m1_eq, t_ite, f_ite, Bool.not_false, Bool.not_true, nI_and, nI_or, nI_xor, nI_shl1, nI_shr, nI_ushr, nI_not, nI_and_p2, Nat.one_mul, vrf_s, vrf_n, oF_174, oO_174, oA_175, oS_175, oA_176, oS_176, oA_177, oS_177, oA_178, oS_178, oA_179, oS_179, oA_180, oS_180, oA_181, oS_181, oA_182, oS_182, oA_183, oS_183, oA_184, oS_184, oA_185, oS_185, oA_186, oS_186, oA_187, oS_187, oA_188, oS_188, hni, hrd]) 1595 0 M (by omega) ⟨D.rfl', fun j hj => by omega⟩
  refine ⟨X, x1, x2, ?_⟩
  rw [e_M_copy]
  simp (disch := omega) only [r_M_copy_0, r_M_copy_1, bnd, tl_s, tl_n, wt_nil, wt_int, wt_ref, wt_null, wt_long, Nat.reduceAdd, Nat.reduceLeDiff, if_true, if_false, decide_true, Bool.true_and, Bool.and_true, zok_n0, zok_n1, zok_bI, bI_eq0, bI_eq1, Bool.true_eq_false, Bool.false_eq_true, not_false_eq_true, not_true_eq_false, decide_false, decide_eq_false_iff_not, decide_eq_true_eq, Classical.not_not, ite_not, lit, Nat.reduceEqDiff, Nat.reduceLT, nI_add, nI_lt', nI_le', nI_eq', nI_sub', pk_mul, nI_rem', nI_div', nI_nz, remN, clampN, inb_nI, Nat.not_lt_zero, Nat.zero_le, Nat.le_zero_eq, if_true, if_false, m1_lt0, m1_eq, t_ite, f_ite, Bool.not_false, Bool.not_true, nI_and, nI_or, nI_xor, nI_shl1, nI_shr, nI_ushr, nI_not, nI_and_p2, Nat.one_mul, vrf_s, vrf_n, oF_174, oO_174, oA_175, oS_175, oA_176, oS_176, oA_177, oS_177, oA_178, oS_178, oA_179, oS_179, oA_180, oS_180, oA_181, oS_181, oA_182, oS_182, oA_183, oS_183, oA_184, oS_184, oA_185, oS_185, oA_186, oS_186, oA_187, oS_187, oA_188, oS_188]
  refine Eq.trans x3 ?_
  try dsimp only
  rw [r_M_copy_2]
  simp (disch := omega) only [r_M_copy_3, r_M_copy_6, r_M_copy_21, bnd, tl_s, tl_n, wt_nil, wt_int, wt_ref, wt_null, wt_long, Nat.reduceAdd, Nat.reduceLeDiff, if_true, if_false, decide_true, Bool.true_and, Bool.and_true, zok_n0, zok_n1, zok_bI, bI_eq0, bI_eq1, Bool.true_eq_false, Bool.false_eq_true, not_false_eq_true, not_true_eq_false, decide_false, decide_eq_false_iff_not, decide_eq_true_eq, Classical.not_not, ite_not, lit, Nat.reduceEqDiff, Nat.reduceLT, nI_add, nI_lt', nI_le', nI_eq', nI_sub', pk_mul, nI_rem', nI_div', nI_nz, remN, clampN, inb_nI, Nat.not_lt_zero, Nat.zero_le, Nat.le_zero_eq, if_true, if_false, m1_lt0, m1_eq, t_ite, f_ite, Bool.not_false, Bool.not_true, nI_and, nI_or, nI_xor, nI_shl1, nI_shr, nI_ushr, nI_not, nI_and_p2, Nat.one_mul, vrf_s, vrf_n, oF_174, oO_174, oA_175, oS_175, oA_176, oS_176, oA_177, oS_177, oA_178, oS_178, oA_179, oS_179, oA_180, oS_180, oA_181, oS_181, oA_182, oS_182, oA_183, oS_183, oA_184, oS_184, oA_185, oS_185, oA_186, oS_186, oA_187, oS_187, oA_188, oS_188, Nat.le_refl]
end CP
