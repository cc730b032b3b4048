/-! VOTES: top -/
def tkey (t : Nat) : Nat := pc t * 16 + t
theorem tkey_chk : chk (fun a => chk (fun b => (!decide (b < a ∧ a < 15) || decide (pc a < pc b ↔ tkey a < tkey b)) && (!decide (a < 15 ∧ b = 15) || decide (pc a < pc b ↔ tkey a < tkey b)) && (!decide (a < b) || decide (pc a ≤ pc b ↔ tkey a < tkey b)) && (!decide (tkey a = tkey b) || decide (a = b))) 16) 16 = true := by decide +kernel
theorem tkey_all {a b : Nat} (ha : a < 16) (hb : b < 16) : (b < a ∧ a < 15 ∨ a < 15 ∧ b = 15 → (pc a < pc b ↔ tkey a < tkey b)) ∧ (a < b → (pc a ≤ pc b ↔ tkey a < tkey b)) ∧ (tkey a = tkey b → a = b) := by
  have h := chk_all (chk_all tkey_chk a ha) b hb
  simp only [Bool.and_eq_true, Bool.or_eq_true, Bool.not_eq_true', decide_eq_false_iff_not, decide_eq_true_eq] at h
  obtain ⟨⟨⟨h1, h2⟩, h3⟩, h4⟩ := h
  refine ⟨fun z => ?_, fun z => ?_, fun z => ?_⟩
  · rcases z with z | z
    · rcases h1 with h1 | h1
      · exact absurd z h1
      · exact h1
    · rcases h2 with h2 | h2
      · exact absurd z h2
      · exact h2
  · rcases h3 with h3 | h3
    · exact absurd z h3
    · exact h3
  · rcases h4 with h4 | h4
    · exact absurd z h4
    · exact h4
def tpS (P : Nat → Bool) (b i : Nat) : Nat := if P i = true ∧ tkey i < tkey b then i else b
def tpC (P : Nat → Bool) : Nat → Nat
  | 0 => 15
  | i + 1 => tpS P (tpC P i) (i + 1)
def tpM (P : Nat → Bool) : Nat → Nat
  | 0 => 15
  | j + 1 => tpS P (tpM P j) (14 - j)
theorem tpC_ok (P : Nat → Bool) : ∀ i, i ≤ 14 → (tpC P i = 15 ∨ (1 ≤ tpC P i ∧ tpC P i ≤ i ∧ P (tpC P i) = true)) ∧ tkey (tpC P i) ≤ tkey 15 ∧ ∀ t, 1 ≤ t → t ≤ i → P t = true → tkey (tpC P i) ≤ tkey t := by
  intro i
  induction i with
  | zero => intro _; exact ⟨Or.inl rfl, Nat.le_refl _, fun t h1 h2 => by omega⟩
  | succ i ih =>
    intro hi
    obtain ⟨h1, h2, h3⟩ := ih (by omega)
    rw [tpC, tpS]
    by_cases c : P (i + 1) = true ∧ tkey (i + 1) < tkey (tpC P i)
    · rw [if_pos c]
      refine ⟨Or.inr ⟨by omega, by omega, c.1⟩, by omega, ?_⟩
      intro t ht1 ht2 ht
      by_cases e : t = i + 1
      · rw [e]; exact Nat.le_refl _
      · have := h3 t ht1 (by omega) ht; omega
    · rw [if_neg c]
      refine ⟨?_, h2, ?_⟩
      · rcases h1 with h1 | ⟨h1, h4, h5⟩
        · exact Or.inl h1
        · exact Or.inr ⟨h1, by omega, h5⟩
      · intro t ht1 ht2 ht
        by_cases e : t = i + 1
        · subst e
          exact Nat.not_lt.mp (fun z => c ⟨ht, z⟩)
        · exact h3 t ht1 (by omega) ht
theorem tpM_ok (P : Nat → Bool) : ∀ i, i ≤ 14 → (tpM P i = 15 ∨ (14 - i < tpM P i ∧ tpM P i ≤ 14 ∧ P (tpM P i) = true)) ∧ tkey (tpM P i) ≤ tkey 15 ∧ ∀ t, 14 - i < t → t ≤ 14 → P t = true → tkey (tpM P i) ≤ tkey t := by
  intro i
  induction i with
  | zero => intro _; exact ⟨Or.inl rfl, Nat.le_refl _, fun t h1 h2 => by omega⟩
  | succ i ih =>
    intro hi
    obtain ⟨h1, h2, h3⟩ := ih (by omega)
    rw [tpM, tpS]
    by_cases c : P (14 - i) = true ∧ tkey (14 - i) < tkey (tpM P i)
    · rw [if_pos c]
      refine ⟨Or.inr ⟨by omega, by omega, c.1⟩, by omega, ?_⟩
      intro t ht1 ht2 ht
      by_cases e : t = 14 - i
      · rw [e]; exact Nat.le_refl _
      · have := h3 t (by omega) ht2 ht; omega
    · rw [if_neg c]
      refine ⟨?_, h2, ?_⟩
      · rcases h1 with h1 | ⟨h1, h4, h5⟩
        · exact Or.inl h1
        · exact Or.inr ⟨by omega, h4, h5⟩
      · intro t ht1 ht2 ht
        by_cases e : t = 14 - i
        · subst e
          exact Nat.not_lt.mp (fun z => c ⟨ht, z⟩)
        · exact h3 t (by omega) ht2 ht
theorem tp_same (P : Nat → Bool) : tpC P 14 = tpM P 14 := by
  obtain ⟨a1, a2, a3⟩ := tpC_ok P 14 (by omega)
  obtain ⟨b1, b2, b3⟩ := tpM_ok P 14 (by omega)
  have ha : tpC P 14 < 16 := by omega
  have hb : tpM P 14 < 16 := by omega
  apply (tkey_all ha hb).2.2
  apply Nat.le_antisymm
  · rcases b1 with b1 | ⟨b1, b4, b5⟩
    · rw [b1]; exact a2
    · exact a3 _ (by omega) b4 b5
  · rcases a1 with a1 | ⟨a1, a4, a5⟩
    · rw [a1]; exact b2
    · exact b3 _ (by omega) a4 a5
section V7
variable {d nx : Nat} {M : Mem} {k : Nat} {V : Nat → Nat}
theorem p_top (hC : VC M k V) (hM : VMo M k V) : Q2 m_X_top m_M_top [] M := by
  refine ⟨.int (nI (tpC (ovr V k) 14)), ?_, ?_⟩
  · rw [e_X_top]
    simp only [r_X_top_0, r_X_top_2, r_X_top_3, r_X_top_4, lit]
    refine (lp0 (R := fun i => run (ev 99) m_X_top 5 [some (.ref 0), some (.int (nI (tpC (ovr V k) i))), some (.int (nI (i + 1)))] [] NX M) (n := 14) ?_).trans ?_
    · intro i hi
      have hn : ¬ 15 ≤ i + 1 := by omega
      obtain ⟨h1, _, _⟩ := tpC_ok (ovr V k) i (by omega)
      have hb : tpC (ovr V k) i < 16 := by omega
      have p1 := pc_le (s := i + 1) (by omega)
      have p2 := pc_le (s := tpC (ovr V k) i) (by omega)
      have hk := (tkey_all (a := i + 1) (by omega) hb).1 (by omega)
      try dsimp only
      rw [r_X_top_5]
      simp (disch := omega) only [r_X_top_6, r_X_top_8, r_X_top_11, r_X_top_12, r_X_top_15, r_X_top_16, r_X_top_19, r_X_top_22, r_X_top_22n, r_X_top_23, r_X_top_26, r_X_top_27, r_X_top_30, r_X_top_33, r_X_top_34, r_X_top_35, r_X_top_38, bnd, tl_s, tl_n, wt_nil, wt_int, wt_ref, wt_null, wt_long, Nat.reduceAdd, Nat.reduceLeDiff, if_true, if_false, decide_true, Bool.true_and, Bool.and_true, zok_n0, zok_n1, zok_bI, bI_eq0, bI_eq1, Bool.true_eq_false, Bool.false_eq_true, not_false_eq_true, not_true_eq_false, decide_false, decide_eq_false_iff_not, decide_eq_true_eq, Classical.not_not, ite_not, lit, Nat.reduceEqDiff, Nat.reduceLT, nI_add, nI_lt', nI_le', nI_eq', nI_sub', pk_mul, nI_rem', nI_div', nI_nz, remN, clampN, inb_nI, Nat.not_lt_zero, Nat.zero_le, Nat.le_zero_eq, if_true, if_false, m1_lt0, m1_eq, t_ite, f_ite, nI_and, nI_or, nI_xor, nI_shl1, nI_shr, nI_ushr, nI_not, nI_and_p2, Nat.one_mul, vrf_s, vrf_n, oF_0, oO_0, oF_1, oO_1, oA_2, oS_2, oA_3, oS_3, oF_4, oO_4, oA_5, oS_5, oA_6, oS_6, oA_7, oS_7, oA_8, oS_8, oA_9, oS_9, oF_70, oO_70, oA_71, oS_71, oA_72, oS_72, oF_73, oO_73, oA_74, oS_74, oA_75, oS_75, oA_76, oS_76, oA_77, oS_77, oA_78, oS_78, oA_139, oS_139, oF_140, oO_140, oA_141, oS_141, oA_142, oS_142, oA_143, oS_143, oA_144, oS_144, oF_145, oO_145, oF_146, oO_146, oA_147, oS_147, oF_148, oO_148, oA_149, oS_149, oA_150, oS_150, oA_151, oS_151, oF_152, oO_152, oA_153, oS_153, oF_154, oO_154, oA_155, oS_155, oA_156, oS_156, oA_157, oS_157, oA_158, oS_158, oF_159, oO_159, oA_160, oS_160, oA_161, oS_161, oA_162, oS_162, oA_163, oS_163, oF_164, oO_164, oA_165, oS_165, oA_166, oS_166, oA_167, oS_167, oA_168, oS_168, oF_169, oO_169, oA_170, oS_170, oA_171, oS_171, oA_172, oS_172, oA_173, oS_173, mO_Int_bitCount, mO_Bal_isAhead, hn, y_bitCount (show i + 1 < 256 by omega), y_bitCount (show tpC (ovr V k) i < 256 by omega), hC.1, y_isAhead hC (show i + 1 < 16 by omega)]
      rw [tpC, tpS]
      by_cases c : pc (i + 1) < pc (tpC (ovr V k) i)
      · rw [if_neg (by omega)]
        cases o : ovr V k (i + 1)
        · rw [if_pos rfl, if_neg (fun z => by cases z.1)]
        · rw [if_neg (by decide), if_pos ⟨rfl, hk.mp c⟩]
      · rw [if_pos (by omega), if_neg (fun z => c (hk.mpr z.2))]
    · rw [r_X_top_5]
      simp (disch := omega) only [r_X_top_6, r_X_top_8, r_X_top_11, r_X_top_12, r_X_top_15, r_X_top_16, r_X_top_19, r_X_top_22, r_X_top_22n, r_X_top_23, r_X_top_26, r_X_top_27, r_X_top_30, r_X_top_33, r_X_top_34, r_X_top_35, r_X_top_38, r_X_top_41, r_X_top_42, bnd, tl_s, tl_n, wt_nil, wt_int, wt_ref, wt_null, wt_long, Nat.reduceAdd, Nat.reduceLeDiff, if_true, if_false, decide_true, Bool.true_and, Bool.and_true, zok_n0, zok_n1, zok_bI, bI_eq0, bI_eq1, Bool.true_eq_false, Bool.false_eq_true, not_false_eq_true, not_true_eq_false, decide_false, decide_eq_false_iff_not, decide_eq_true_eq, Classical.not_not, ite_not, lit, Nat.reduceEqDiff, Nat.reduceLT, nI_add, nI_lt', nI_le', nI_eq', nI_sub', pk_mul, nI_rem', nI_div', nI_nz, remN, clampN, inb_nI, Nat.not_lt_zero, Nat.zero_le, Nat.le_zero_eq, if_true, if_false, m1_lt0, m1_eq, t_ite, f_ite, nI_and, nI_or, nI_xor, nI_shl1, nI_shr, nI_ushr, nI_not, nI_and_p2, Nat.one_mul, vrf_s, vrf_n, oF_0, oO_0, oF_1, oO_1, oA_2, oS_2, oA_3, oS_3, oF_4, oO_4, oA_5, oS_5, oA_6, oS_6, oA_7, oS_7, oA_8, oS_8, oA_9, oS_9, oF_70, oO_70, oA_71, oS_71, oA_72, oS_72, oF_73, oO_73, oA_74, oS_74, oA_75, oS_75, oA_76, oS_76, oA_77, oS_77, oA_78, oS_78, oA_139, oS_139, oF_140, oO_140, oA_141, oS_141, oA_142, oS_142, oA_143, oS_143, oA_144, oS_144, oF_145, oO_145, oF_146, oO_146, oA_147, oS_147, oF_148, oO_148, oA_149, oS_149, oA_150, oS_150, oA_151, oS_151, oF_152, oO_152, oA_153, oS_153, oF_154, oO_154, oA_155, oS_155, oA_156, oS_156, oA_157, oS_157, oA_158, oS_158, oF_159, oO_159, oA_160, oS_160, oA_161, oS_161, oA_162, oS_162, oA_163, oS_163, oF_164, oO_164, oA_165, oS_165, oA_166, oS_166, oA_167, oS_167, oA_168, oS_168, oF_169, oO_169, oA_170, oS_170, oA_171, oS_171, oA_172, oS_172, oA_173, oS_173, mO_Int_bitCount, mO_Bal_isAhead, Nat.le_refl]
  · rw [tp_same, e_M_top]
    simp only [r_M_top_0, r_M_top_2, r_M_top_3, r_M_top_5, lit]
    refine (lp0 (R := fun i => run (ev 99) m_M_top 6 [some (.ref 174), some (.int (nI (tpM (ovr V k) i))), some (.int (nI (14 - i)))] [] NX M) (n := 14) ?_).trans ?_
    · intro i hi
      have hn : ¬ 14 - i = 0 := by omega
      obtain ⟨h1, _, _⟩ := tpM_ok (ovr V k) i (by omega)
      have hb : tpM (ovr V k) i < 16 := by omega
      have p1 := pc_le (s := 14 - i) (by omega)
      have p2 := pc_le (s := tpM (ovr V k) i) (by omega)
      have hk := (tkey_all (a := 14 - i) (by omega) hb).2.1 (by omega)
      have hs : nI (14 - i) + -nI 1 = nI (14 - (i + 1)) := by
        rw [show 14 - i = (14 - (i + 1)) + 1 by omega]
        exact pk_m1 _
      try dsimp only
      rw [r_M_top_6]
      simp (disch := omega) only [r_M_top_7, r_M_top_10, r_M_top_11, r_M_top_14, r_M_top_15, r_M_top_18, r_M_top_21, r_M_top_21n, r_M_top_22, r_M_top_23, r_M_top_26, r_M_top_29, r_M_top_30, r_M_top_31, r_M_top_34, bnd, tl_s, tl_n, wt_nil, wt_int, wt_ref, wt_null, wt_long, Nat.reduceAdd, Nat.reduceLeDiff, if_true, if_false, decide_true, Bool.true_and, Bool.and_true, zok_n0, zok_n1, zok_bI, bI_eq0, bI_eq1, Bool.true_eq_false, Bool.false_eq_true, not_false_eq_true, not_true_eq_false, decide_false, decide_eq_false_iff_not, decide_eq_true_eq, Classical.not_not, ite_not, lit, Nat.reduceEqDiff, Nat.reduceLT, nI_add, nI_lt', nI_le', nI_eq', nI_sub', pk_mul, nI_rem', nI_div', nI_nz, remN, clampN, inb_nI, Nat.not_lt_zero, Nat.zero_le, Nat.le_zero_eq, if_true, if_false, m1_lt0, m1_eq, t_ite, f_ite, nI_and, nI_or, nI_xor, nI_shl1, nI_shr, nI_ushr, nI_not, nI_and_p2, Nat.one_mul, vrf_s, vrf_n, oF_174, oO_174, oA_175, oS_175, oA_176, oS_176, oA_177, oS_177, oA_178, oS_178, oA_179, oS_179, oA_180, oS_180, oA_181, oS_181, oA_182, oS_182, oA_183, oS_183, oA_184, oS_184, oA_185, oS_185, oA_186, oS_186, oA_187, oS_187, oA_188, oS_188, mO_M_bits, mO_M_areOver, hn, x_bits (show 14 - i < 256 by omega), x_bits (show tpM (ovr V k) i < 256 by omega), x_areOver hM (show 14 - i < 16 by omega), hs]
      rw [tpM, tpS]
      by_cases c : pc (14 - i) ≤ pc (tpM (ovr V k) i)
      · rw [if_neg (by omega)]
        cases o : ovr V k (14 - i)
        · rw [if_pos rfl, if_neg (fun z => by cases z.1)]
        · rw [if_neg (by decide), if_pos ⟨rfl, hk.mp c⟩]
      · rw [if_pos (by omega), if_neg (fun z => c (hk.mpr z.2))]
    · rw [r_M_top_6]
      simp (disch := omega) only [r_M_top_7, r_M_top_10, r_M_top_11, r_M_top_14, r_M_top_15, r_M_top_18, r_M_top_21, r_M_top_21n, r_M_top_22, r_M_top_23, r_M_top_26, r_M_top_29, r_M_top_30, r_M_top_31, r_M_top_34, r_M_top_37, r_M_top_38, bnd, tl_s, tl_n, wt_nil, wt_int, wt_ref, wt_null, wt_long, Nat.reduceAdd, Nat.reduceLeDiff, if_true, if_false, decide_true, Bool.true_and, Bool.and_true, zok_n0, zok_n1, zok_bI, bI_eq0, bI_eq1, Bool.true_eq_false, Bool.false_eq_true, not_false_eq_true, not_true_eq_false, decide_false, decide_eq_false_iff_not, decide_eq_true_eq, Classical.not_not, ite_not, lit, Nat.reduceEqDiff, Nat.reduceLT, nI_add, nI_lt', nI_le', nI_eq', nI_sub', pk_mul, nI_rem', nI_div', nI_nz, remN, clampN, inb_nI, Nat.not_lt_zero, Nat.zero_le, Nat.le_zero_eq, if_true, if_false, m1_lt0, m1_eq, t_ite, f_ite, nI_and, nI_or, nI_xor, nI_shl1, nI_shr, nI_ushr, nI_not, nI_and_p2, Nat.one_mul, vrf_s, vrf_n, oF_174, oO_174, oA_175, oS_175, oA_176, oS_176, oA_177, oS_177, oA_178, oS_178, oA_179, oS_179, oA_180, oS_180, oA_181, oS_181, oA_182, oS_182, oA_183, oS_183, oA_184, oS_184, oA_185, oS_185, oA_186, oS_186, oA_187, oS_187, oA_188, oS_188, mO_M_bits, mO_M_areOver, Nat.le_refl]
end V7
