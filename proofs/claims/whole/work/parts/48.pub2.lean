/-! PUBLIC: gaps, loaded, heaviest, order -/
def gap (Rs : Nat → Nat) (m : Mo) (p : Nat) : Bool := !(mUp m ||| mCo m).testBit p && decide (mns (Rs p) (mUp m ||| mCo m) = 0)
def ldf (n : Nat) (Rs : Nat → Nat) (m : Mo) (p : Nat) : Nat := if (mUp m).testBit p = true then pc (ron n Rs p &&& mUp m) else 0
def ldb (f : Nat → Nat) : Nat → Int32 × Nat
  | 0 => (-nI 1, 0)
  | i + 1 => if (ldb f i).2 < f i then (nI i, f i) else ldb f i
theorem ldb_ok (f : Nat → Nat) : ∀ i, ldb f i = (-nI 1, 0) ∨ ∃ q, q < i ∧ ldb f i = (nI q, f q) := by
  intro i
  induction i with
  | zero => exact Or.inl rfl
  | succ i ih =>
    rw [ldb]
    by_cases h : (ldb f i).2 < f i
    · rw [if_pos h]; exact Or.inr ⟨i, by omega, rfl⟩
    · rw [if_neg h]
      rcases ih with h1 | ⟨q, h1, h2⟩
      · exact Or.inl h1
      · exact Or.inr ⟨q, by omega, h2⟩
def wsum (W : Nat → Nat) (s : Nat) : Nat → Nat
  | 0 => 0
  | p + 1 => wsum W s p + (if s.testBit p = true then W p else 0)
theorem wsum_0 (W : Nat → Nat) : ∀ n, wsum W 0 n = 0 := by
  intro n
  induction n with
  | zero => rfl
  | succ n ih => rw [wsum, ih, Nat.zero_testBit, f_ite]
def hvy (B : Nat) (w : Nat → Nat) : Nat → Nat
  | 0 => 0
  | i + 1 => if w (hvy B w i) < w i ∧ free B i = true then i else hvy B w i
theorem hvy_le (B : Nat) (w : Nat → Nat) : ∀ i, hvy B w i ≤ i := by
  intro i
  induction i with
  | zero => exact Nat.le_refl _
  | succ i ih => rw [hvy]; split <;> omega
def bct (P q : Nat) : Nat := fb_ct (fun i => P.testBit i) q
theorem pc_chk : chk (fun s => decide (pc s = fb_ct (fun i => s.testBit i) 8)) 256 = true := by decide +kernel
theorem pc_ct {s : Nat} (hs : s < 256) : pc s = bct s 8 := of_decide_eq_true (chk_all pc_chk s hs)
theorem bct_s {P q : Nat} (h : P.testBit q = true) : bct P (q + 1) = bct P q + 1 := by
  unfold bct
  rw [fb_ct_succ, h, t_ite]
theorem bct_lt {P q r : Nat} (h : P.testBit q = true) (hr : q < r) : bct P q < bct P r := by
  have h1 := bct_s h
  have h2 : bct P (q + 1) ≤ bct P r := fb_ct_mono _ (by omega)
  omega
def tk (P k : Nat) : Nat := fst' (fun q => P.testBit q && decide (bct P q = k)) id 0 8 0
theorem tk_ok {P k : Nat} (hk : k < bct P 8) : tk P k < 8 ∧ P.testBit (tk P k) = true ∧ bct P (tk P k) = k := by
  obtain ⟨i, h1, h2, h3⟩ := fb_ct_kth hk
  have e : tk P k = i := by
    unfold tk
    refine fst'_some (m := i) ?_ (by omega) (by omega) ?_
    · rw [Bool.and_eq_true, decide_eq_true_eq]; exact ⟨h2, h3⟩
    · intro j _ hj
      rw [Bool.eq_false_iff]
      intro z
      rw [Bool.and_eq_true, decide_eq_true_eq] at z
      have := fb_ct_kth_one (p := fun i => P.testBit i) z.1 h2 (z.2.trans h3.symm)
      omega
  rw [e]
  exact ⟨h1, h2, h3⟩
def hadk (P k : Nat) : Nat := bsum 8 (fun q => P.testBit q && decide (bct P q < k))
theorem hadk_8 {P k : Nat} : hadk P k < 256 := bsum_8 _ (by decide)
theorem hadk_s {P k : Nat} (hk : k < bct P 8) : hadk P k ||| 2 ^ tk P k = hadk P (k + 1) := by
  obtain ⟨h1, h2, h3⟩ := tk_ok hk
  apply eq_bits
  intro i
  rw [Nat.testBit_or, hadk, bsum_bit, hadk, bsum_bit, Nat.testBit_two_pow, Bool.eq_iff_iff, Bool.or_eq_true, Bool.and_eq_true, Bool.and_eq_true, Bool.and_eq_true, Bool.and_eq_true, decide_eq_true_eq, decide_eq_true_eq, decide_eq_true_eq, decide_eq_true_eq]
  constructor
  · rintro (⟨a, b, c⟩ | rfl)
    · exact ⟨a, b, by omega⟩
    · exact ⟨h1, h2, by omega⟩
  · rintro ⟨a, b, c⟩
    by_cases e : bct P i < k
    · exact Or.inl ⟨a, b, e⟩
    · exact Or.inr (fb_ct_kth_one (p := fun i => P.testBit i) h2 b (h3.trans (by show k = bct P i; omega)))
section P2
variable {d c : Nat} {M : Mem} {n : Nat} {W Rs : Nat → Nat} {m : Mo}
theorem y_isGap {p : Nat} (h : KX M 4 n W Rs m) (hp : p < n) : ev (d + 2) m_X_isGap [.ref 0, .int (nI p)] NX M = some (some (.int (bI (gap Rs m p))), NX, M) := by
  have hn := h.n8
  have h1 : mUp m ||| mCo m < 256 := or_8 (h.okm.u8 hn) (h.okm.c8 hn)
  have h2 := mns_le (Rs p) (mUp m ||| mCo m)
  have h3 := h.okp.r8 hp
  rw [e_X_isGap]
  simp (disch := omega) only [r_X_isGap_0, r_X_isGap_0n, r_X_isGap_1, r_X_isGap_4, r_X_isGap_7, r_X_isGap_10, r_X_isGap_11, r_X_isGap_12, r_X_isGap_13, r_X_isGap_16, r_X_isGap_19, r_X_isGap_19n, r_X_isGap_20, r_X_isGap_23, r_X_isGap_26, r_X_isGap_27, r_X_isGap_28, r_X_isGap_29, r_X_isGap_30, r_X_isGap_31, r_X_isGap_32, r_X_isGap_35, r_X_isGap_36, r_X_isGap_39, r_X_isGap_40, bnd, tl_s, tl_n, wt_nil, wt_int, wt_ref, wt_null, wt_long, Nat.reduceAdd, Nat.reduceLeDiff, if_true, if_false, decide_true, Bool.true_and, Bool.and_true, zok_n0, zok_n1, zok_bI, bI_eq0, bI_eq1, Bool.true_eq_false, Bool.false_eq_true, not_false_eq_true, not_true_eq_false, decide_false, decide_eq_false_iff_not, decide_eq_true_eq, Classical.not_not, ite_not, lit, Nat.reduceEqDiff, Nat.reduceLT, nI_add, nI_lt', nI_le', nI_eq', nI_sub', pk_mul, nI_rem', nI_div', nI_nz, remN, clampN, inb_nI, Nat.not_lt_zero, Nat.zero_le, Nat.le_zero_eq, if_true, if_false, m1_lt0, m1_eq, t_ite, f_ite, nI_and, nI_or, nI_xor, nI_shl1, nI_shr, nI_ushr, nI_not, nI_and_p2, Nat.one_mul, vrf_s, vrf_n, oF_0, oO_0, oF_1, oO_1, oA_2, oS_2, oA_3, oS_3, oF_4, oO_4, oA_5, oS_5, oA_6, oS_6, oA_7, oS_7, oA_8, oS_8, oA_9, oS_9, oF_70, oO_70, oA_71, oS_71, oA_72, oS_72, oF_73, oO_73, oA_74, oS_74, oA_75, oS_75, oA_76, oS_76, oA_77, oS_77, oA_78, oS_78, oA_139, oS_139, oF_140, oO_140, oA_141, oS_141, oA_142, oS_142, oA_143, oS_143, oA_144, oS_144, oF_145, oO_145, oF_146, oO_146, oA_147, oS_147, oF_148, oO_148, oA_149, oS_149, oA_150, oS_150, oA_151, oS_151, oF_152, oO_152, oA_153, oS_153, oF_154, oO_154, oA_155, oS_155, oA_156, oS_156, oA_157, oS_157, oA_158, oS_158, oF_159, oO_159, oA_160, oS_160, oA_161, oS_161, oA_162, oS_162, oA_163, oS_163, oF_164, oO_164, oA_165, oS_165, oA_166, oS_166, oA_167, oS_167, oA_168, oS_168, oF_169, oO_169, oA_170, oS_170, oA_171, oS_171, oA_172, oS_172, oA_173, oS_173, mO_Mom_standing, mO_X_hasBit, h.r 0 0 1 rfl, h.r 0 1 70 rfl, h.r 0 2 139 rfl, h.r 0 3 140 rfl, h.r 0 4 145 rfl, h.r 0 5 146 rfl, h.r 0 6 148 rfl, h.r 0 7 152 rfl, h.r 1 1 2 rfl, h.r 1 2 3 rfl, h.r 1 3 4 rfl, h.r 1 4 6 rfl, h.r 1 9 7 rfl, h.r 1 11 8 rfl, h.r 1 12 9 rfl, h.r 4 6 5 rfl, h.r 152 6 153 rfl, h.r 140 0 141 rfl, h.r 140 2 142 rfl, h.r 140 3 143 rfl, h.r 140 4 144 rfl, h.r 146 0 147 rfl, h.r 148 0 149 rfl, h.r 148 2 150 rfl, h.r 148 3 151 rfl, y_standing h oF_4, y_hasBit, h.rs hp]
  unfold gap
  cases (mUp m ||| mCo m).testBit p <;> by_cases e : mns (Rs p) (mUp m ||| mCo m) = 0 <;> simp [e, bI]
theorem how_0 {p : Nat} : how m p = 0 ↔ (mUp m ||| mCo m).testBit p = false := by
  unfold how
  rw [Nat.testBit_or]
  cases (mCo m).testBit p <;> cases (mUp m).testBit p <;> simp
theorem how_1 (hm : OkM n m) {p : Nat} : how m p = 1 ↔ (mUp m).testBit p = true := by
  have := hm.2.2.1 p
  unfold how
  cases e1 : (mCo m).testBit p <;> cases e2 : (mUp m).testBit p <;> simp
  exact this ⟨e2, e1⟩
theorem how_3 {p : Nat} : how m p < 3 := by unfold how; split <;> (try split) <;> omega
theorem gap_m (h : OkP n W Rs) {p : Nat} (hp : p < n) : gap Rs m p = (decide (how m p = 0) && decide (Rs p &&& dwn n m = 0)) := by
  rw [and_dwn (fun i hi => by have := rs_low h hp hi; omega)]
  unfold gap
  congr 1
  rw [Bool.eq_iff_iff, decide_eq_true_eq, how_0, Bool.not_eq_true']
theorem P_gaps (hX : KX M 4 n W Rs m) (hM : KM M n W Rs m) : PubR m_X_gaps m_M_gaps [] M := by
  have h8 := hX.n8
  refine PubR.same (.int (nI (bsum n (gap Rs m)))) ?_ ?_
  · rw [e_X_gaps]
    simp only [r_X_gaps_0, r_X_gaps_1, r_X_gaps_2, r_X_gaps_3, lit]
    refine (lp0 (R := fun i => run (ev 99) m_X_gaps 4 [some (.ref 0), some (.int (nI (bsum i (gap Rs m)))), some (.int (nI i))] [] NX M) (n := n) ?_).trans ?_
    · intro i hi
      have hni : ¬ n ≤ i := by omega
      try dsimp only
      rw [r_X_gaps_4]
      simp (disch := omega) only [r_X_gaps_5, r_X_gaps_5n, r_X_gaps_6, r_X_gaps_9, r_X_gaps_12, r_X_gaps_15, r_X_gaps_15n, r_X_gaps_16, r_X_gaps_17, r_X_gaps_20, r_X_gaps_23, r_X_gaps_24, r_X_gaps_25, r_X_gaps_26, r_X_gaps_27, r_X_gaps_28, r_X_gaps_29, r_X_gaps_32, bnd, tl_s, tl_n, wt_nil, wt_int, wt_ref, wt_null, wt_long, Nat.reduceAdd, Nat.reduceLeDiff, if_true, if_false, decide_true, Bool.true_and, Bool.and_true, zok_n0, zok_n1, zok_bI, bI_eq0, bI_eq1, Bool.true_eq_false, Bool.false_eq_true, not_false_eq_true, not_true_eq_false, decide_false, decide_eq_false_iff_not, decide_eq_true_eq, Classical.not_not, ite_not, lit, Nat.reduceEqDiff, Nat.reduceLT, nI_add, nI_lt', nI_le', nI_eq', nI_sub', pk_mul, nI_rem', nI_div', nI_nz, remN, clampN, inb_nI, Nat.not_lt_zero, Nat.zero_le, Nat.le_zero_eq, if_true, if_false, m1_lt0, m1_eq, t_ite, f_ite, nI_and, nI_or, nI_xor, nI_shl1, nI_shr, nI_ushr, nI_not, nI_and_p2, Nat.one_mul, vrf_s, vrf_n, oF_0, oO_0, oF_1, oO_1, oA_2, oS_2, oA_3, oS_3, oF_4, oO_4, oA_5, oS_5, oA_6, oS_6, oA_7, oS_7, oA_8, oS_8, oA_9, oS_9, oF_70, oO_70, oA_71, oS_71, oA_72, oS_72, oF_73, oO_73, oA_74, oS_74, oA_75, oS_75, oA_76, oS_76, oA_77, oS_77, oA_78, oS_78, oA_139, oS_139, oF_140, oO_140, oA_141, oS_141, oA_142, oS_142, oA_143, oS_143, oA_144, oS_144, oF_145, oO_145, oF_146, oO_146, oA_147, oS_147, oF_148, oO_148, oA_149, oS_149, oA_150, oS_150, oA_151, oS_151, oF_152, oO_152, oA_153, oS_153, oF_154, oO_154, oA_155, oS_155, oA_156, oS_156, oA_157, oS_157, oA_158, oS_158, oF_159, oO_159, oA_160, oS_160, oA_161, oS_161, oA_162, oS_162, oA_163, oS_163, oF_164, oO_164, oA_165, oS_165, oA_166, oS_166, oA_167, oS_167, oA_168, oS_168, oF_169, oO_169, oA_170, oS_170, oA_171, oS_171, oA_172, oS_172, oA_173, oS_173, mO_X_isGap, hX.r 0 0 1 rfl, hX.r 0 1 70 rfl, hX.r 0 2 139 rfl, hX.r 0 3 140 rfl, hX.r 0 4 145 rfl, hX.r 0 5 146 rfl, hX.r 0 6 148 rfl, hX.r 0 7 152 rfl, hX.r 1 1 2 rfl, hX.r 1 2 3 rfl, hX.r 1 3 4 rfl, hX.r 1 4 6 rfl, hX.r 1 9 7 rfl, hX.r 1 11 8 rfl, hX.r 1 12 9 rfl, hX.r 4 6 5 rfl, hX.r 152 6 153 rfl, hX.r 140 0 141 rfl, hX.r 140 2 142 rfl, hX.r 140 3 143 rfl, hX.r 140 4 144 rfl, hX.r 146 0 147 rfl, hX.r 148 0 149 rfl, hX.r 148 2 150 rfl, hX.r 148 3 151 rfl, hX.nn, hni, y_isGap hX hi]
      cases e : gap Rs m i
      · rw [if_pos rfl, bsum_f e]
      · rw [if_neg (by decide), bsum_t e]
    · rw [r_X_gaps_4]
      simp (disch := omega) only [r_X_gaps_5, r_X_gaps_5n, r_X_gaps_6, r_X_gaps_9, r_X_gaps_12, r_X_gaps_15, r_X_gaps_15n, r_X_gaps_16, r_X_gaps_17, r_X_gaps_20, r_X_gaps_23, r_X_gaps_24, r_X_gaps_25, r_X_gaps_26, r_X_gaps_27, r_X_gaps_28, r_X_gaps_29, r_X_gaps_32, r_X_gaps_35, r_X_gaps_36, bnd, tl_s, tl_n, wt_nil, wt_int, wt_ref, wt_null, wt_long, Nat.reduceAdd, Nat.reduceLeDiff, if_true, if_false, decide_true, Bool.true_and, Bool.and_true, zok_n0, zok_n1, zok_bI, bI_eq0, bI_eq1, Bool.true_eq_false, Bool.false_eq_true, not_false_eq_true, not_true_eq_false, decide_false, decide_eq_false_iff_not, decide_eq_true_eq, Classical.not_not, ite_not, lit, Nat.reduceEqDiff, Nat.reduceLT, nI_add, nI_lt', nI_le', nI_eq', nI_sub', pk_mul, nI_rem', nI_div', nI_nz, remN, clampN, inb_nI, Nat.not_lt_zero, Nat.zero_le, Nat.le_zero_eq, if_true, if_false, m1_lt0, m1_eq, t_ite, f_ite, nI_and, nI_or, nI_xor, nI_shl1, nI_shr, nI_ushr, nI_not, nI_and_p2, Nat.one_mul, vrf_s, vrf_n, oF_0, oO_0, oF_1, oO_1, oA_2, oS_2, oA_3, oS_3, oF_4, oO_4, oA_5, oS_5, oA_6, oS_6, oA_7, oS_7, oA_8, oS_8, oA_9, oS_9, oF_70, oO_70, oA_71, oS_71, oA_72, oS_72, oF_73, oO_73, oA_74, oS_74, oA_75, oS_75, oA_76, oS_76, oA_77, oS_77, oA_78, oS_78, oA_139, oS_139, oF_140, oO_140, oA_141, oS_141, oA_142, oS_142, oA_143, oS_143, oA_144, oS_144, oF_145, oO_145, oF_146, oO_146, oA_147, oS_147, oF_148, oO_148, oA_149, oS_149, oA_150, oS_150, oA_151, oS_151, oF_152, oO_152, oA_153, oS_153, oF_154, oO_154, oA_155, oS_155, oA_156, oS_156, oA_157, oS_157, oA_158, oS_158, oF_159, oO_159, oA_160, oS_160, oA_161, oS_161, oA_162, oS_162, oA_163, oS_163, oF_164, oO_164, oA_165, oS_165, oA_166, oS_166, oA_167, oS_167, oA_168, oS_168, oF_169, oO_169, oA_170, oS_170, oA_171, oS_171, oA_172, oS_172, oA_173, oS_173, mO_X_isGap, hX.r 0 0 1 rfl, hX.r 0 1 70 rfl, hX.r 0 2 139 rfl, hX.r 0 3 140 rfl, hX.r 0 4 145 rfl, hX.r 0 5 146 rfl, hX.r 0 6 148 rfl, hX.r 0 7 152 rfl, hX.r 1 1 2 rfl, hX.r 1 2 3 rfl, hX.r 1 3 4 rfl, hX.r 1 4 6 rfl, hX.r 1 9 7 rfl, hX.r 1 11 8 rfl, hX.r 1 12 9 rfl, hX.r 4 6 5 rfl, hX.r 152 6 153 rfl, hX.r 140 0 141 rfl, hX.r 140 2 142 rfl, hX.r 140 3 143 rfl, hX.r 140 4 144 rfl, hX.r 146 0 147 rfl, hX.r 148 0 149 rfl, hX.r 148 2 150 rfl, hX.r 148 3 151 rfl, hX.nn, Nat.le_refl]
  · rw [e_M_gaps]
    simp only [r_M_gaps_0, r_M_gaps_1, r_M_gaps_2, r_M_gaps_3, lit]
    refine (lp0 (R := fun i => run (ev 99) m_M_gaps 4 [some (.ref 174), some (.int (nI (bsum i (gap Rs m)))), some (.int (nI i))] [] NX M) (n := n) ?_).trans ?_
    · intro i hi
      have hni : ¬ n ≤ i := by omega
      have h3 := how_3 (m := m) (p := i)
      have hk : knd n m 0 = dwn n m := rfl
      have h9 : Rs i &&& dwn n m < 256 := and_8 (hX.okp.r8 hi)
      have hg := gap_m (m := m) hX.okp hi
      try dsimp only
      rw [r_M_gaps_4]
      simp (disch := omega) only [r_M_gaps_5, r_M_gaps_5n, r_M_gaps_6, r_M_gaps_9, r_M_gaps_10, r_M_gaps_11, r_M_gaps_14, r_M_gaps_15, r_M_gaps_15n, r_M_gaps_16, r_M_gaps_19, r_M_gaps_21, r_M_gaps_22, r_M_gaps_23, r_M_gaps_24, r_M_gaps_27, r_M_gaps_27n, r_M_gaps_28, r_M_gaps_31, r_M_gaps_33, r_M_gaps_34, r_M_gaps_35, r_M_gaps_36, r_M_gaps_36n, r_M_gaps_37, r_M_gaps_38, r_M_gaps_41, r_M_gaps_42, r_M_gaps_45, r_M_gaps_46, r_M_gaps_47, r_M_gaps_48, r_M_gaps_51, r_M_gaps_52, r_M_gaps_53, r_M_gaps_54, r_M_gaps_57, bnd, tl_s, tl_n, wt_nil, wt_int, wt_ref, wt_null, wt_long, Nat.reduceAdd, Nat.reduceLeDiff, if_true, if_false, decide_true, Bool.true_and, Bool.and_true, zok_n0, zok_n1, zok_bI, bI_eq0, bI_eq1, Bool.true_eq_false, Bool.false_eq_true, not_false_eq_true, not_true_eq_false, decide_false, decide_eq_false_iff_not, decide_eq_true_eq, Classical.not_not, ite_not, lit, Nat.reduceEqDiff, Nat.reduceLT, nI_add, nI_lt', nI_le', nI_eq', nI_sub', pk_mul, nI_rem', nI_div', nI_nz, remN, clampN, inb_nI, Nat.not_lt_zero, Nat.zero_le, Nat.le_zero_eq, if_true, if_false, m1_lt0, m1_eq, t_ite, f_ite, nI_and, nI_or, nI_xor, nI_shl1, nI_shr, nI_ushr, nI_not, nI_and_p2, Nat.one_mul, vrf_s, vrf_n, oF_174, oO_174, oA_175, oS_175, oA_176, oS_176, oA_177, oS_177, oA_178, oS_178, oA_179, oS_179, oA_180, oS_180, oA_181, oS_181, oA_182, oS_182, oA_183, oS_183, oA_184, oS_184, oA_185, oS_185, oA_186, oS_186, oA_187, oS_187, oA_188, oS_188, mO_M_those, hM.f, hM.nn, hni, hM.how (show i < 8 by omega), hM.rs hi, x_those hM (show 0 < 3 by decide), hk]
      by_cases e1 : how m i = 0
      · rw [if_pos e1]
        by_cases e2 : Rs i &&& dwn n m = 0
        · rw [if_pos e2, bsum_t (by rw [hg]; simp [e1, e2])]
        · rw [if_neg e2, bsum_f (by rw [hg]; simp [e1, e2]), Nat.or_zero]
      · rw [if_neg e1, bsum_f (by rw [hg]; simp [e1]), Nat.or_zero]
    · rw [r_M_gaps_4]
      simp (disch := omega) only [r_M_gaps_5, r_M_gaps_5n, r_M_gaps_6, r_M_gaps_9, r_M_gaps_10, r_M_gaps_11, r_M_gaps_14, r_M_gaps_15, r_M_gaps_15n, r_M_gaps_16, r_M_gaps_19, r_M_gaps_21, r_M_gaps_22, r_M_gaps_23, r_M_gaps_24, r_M_gaps_27, r_M_gaps_27n, r_M_gaps_28, r_M_gaps_31, r_M_gaps_33, r_M_gaps_34, r_M_gaps_35, r_M_gaps_36, r_M_gaps_36n, r_M_gaps_37, r_M_gaps_38, r_M_gaps_41, r_M_gaps_42, r_M_gaps_45, r_M_gaps_46, r_M_gaps_47, r_M_gaps_48, r_M_gaps_51, r_M_gaps_52, r_M_gaps_53, r_M_gaps_54, r_M_gaps_57, r_M_gaps_60, r_M_gaps_61, bnd, tl_s, tl_n, wt_nil, wt_int, wt_ref, wt_null, wt_long, Nat.reduceAdd, Nat.reduceLeDiff, if_true, if_false, decide_true, Bool.true_and, Bool.and_true, zok_n0, zok_n1, zok_bI, bI_eq0, bI_eq1, Bool.true_eq_false, Bool.false_eq_true, not_false_eq_true, not_true_eq_false, decide_false, decide_eq_false_iff_not, decide_eq_true_eq, Classical.not_not, ite_not, lit, Nat.reduceEqDiff, Nat.reduceLT, nI_add, nI_lt', nI_le', nI_eq', nI_sub', pk_mul, nI_rem', nI_div', nI_nz, remN, clampN, inb_nI, Nat.not_lt_zero, Nat.zero_le, Nat.le_zero_eq, if_true, if_false, m1_lt0, m1_eq, t_ite, f_ite, nI_and, nI_or, nI_xor, nI_shl1, nI_shr, nI_ushr, nI_not, nI_and_p2, Nat.one_mul, vrf_s, vrf_n, oF_174, oO_174, oA_175, oS_175, oA_176, oS_176, oA_177, oS_177, oA_178, oS_178, oA_179, oS_179, oA_180, oS_180, oA_181, oS_181, oA_182, oS_182, oA_183, oS_183, oA_184, oS_184, oA_185, oS_185, oA_186, oS_186, oA_187, oS_187, oA_188, oS_188, mO_M_those, hM.f, hM.nn, Nat.le_refl]
theorem ldf_8 (hn : n ≤ 8) {p : Nat} : ldf n Rs m p ≤ 8 := by
  unfold ldf
  split
  · exact pc_le (and_8 (ron_8 hn))
  · omega
theorem x_loadOf {p : Nat} (h : KM M n W Rs m) (hp : p < n) : ev (d + 3) m_M_loadOf [.ref 174, .int (nI p)] NX M = some (some (.int (nI (ldf n Rs m p))), NX, M) := by
  have hn := h.n8
  have h3 := how_3 (m := m) (p := p)
  have hk : knd n m 1 = mUp m := rfl
  have h9 : ron n Rs p &&& mUp m < 256 := and_8 (ron_8 hn)
  rw [e_M_loadOf]
  simp (disch := omega) only [r_M_loadOf_0, r_M_loadOf_0n, r_M_loadOf_1, r_M_loadOf_4, r_M_loadOf_6, r_M_loadOf_7, r_M_loadOf_8, r_M_loadOf_9, r_M_loadOf_10, r_M_loadOf_13, r_M_loadOf_13n, r_M_loadOf_14, r_M_loadOf_15, r_M_loadOf_18, r_M_loadOf_18n, r_M_loadOf_19, r_M_loadOf_20, r_M_loadOf_23, r_M_loadOf_24, r_M_loadOf_27, r_M_loadOf_30, r_M_loadOf_31, bnd, tl_s, tl_n, wt_nil, wt_int, wt_ref, wt_null, wt_long, Nat.reduceAdd, Nat.reduceLeDiff, if_true, if_false, decide_true, Bool.true_and, Bool.and_true, zok_n0, zok_n1, zok_bI, bI_eq0, bI_eq1, Bool.true_eq_false, Bool.false_eq_true, not_false_eq_true, not_true_eq_false, decide_false, decide_eq_false_iff_not, decide_eq_true_eq, Classical.not_not, ite_not, lit, Nat.reduceEqDiff, Nat.reduceLT, nI_add, nI_lt', nI_le', nI_eq', nI_sub', pk_mul, nI_rem', nI_div', nI_nz, remN, clampN, inb_nI, Nat.not_lt_zero, Nat.zero_le, Nat.le_zero_eq, if_true, if_false, m1_lt0, m1_eq, t_ite, f_ite, nI_and, nI_or, nI_xor, nI_shl1, nI_shr, nI_ushr, nI_not, nI_and_p2, Nat.one_mul, vrf_s, vrf_n, oF_174, oO_174, oA_175, oS_175, oA_176, oS_176, oA_177, oS_177, oA_178, oS_178, oA_179, oS_179, oA_180, oS_180, oA_181, oS_181, oA_182, oS_182, oA_183, oS_183, oA_184, oS_184, oA_185, oS_185, oA_186, oS_186, oA_187, oS_187, oA_188, oS_188, mO_M_restingOn, mO_M_those, mO_M_bits, h.f, h.how (show p < 8 by omega), x_restingOn h (show p < 8 by omega), x_those h (show 1 < 3 by decide), hk, x_bits h9]
  unfold ldf
  by_cases e : (mUp m).testBit p = true
  · rw [if_pos e, if_pos ((how_1 h.okm).mpr e)]
  · rw [if_neg e, if_neg (fun z => e ((how_1 h.okm).mp z))]
theorem P_loaded (hX : KX M 4 n W Rs m) (hM : KM M n W Rs m) : PubR m_X_loaded m_M_loaded [] M := by
  have h8 := hX.n8
  have hu8 := hX.okm.u8 h8
  have hb2 : ∀ i, (ldb (ldf n Rs m) i).2 ≤ 8 := by
    intro i
    rcases ldb_ok (ldf n Rs m) i with h1 | ⟨q, _, h1⟩
    · rw [h1]; exact Nat.zero_le _
    · rw [h1]; exact ldf_8 h8
  refine PubR.same (.int (ldb (ldf n Rs m) n).1) ?_ ?_
  · rw [e_X_loaded]
    simp (disch := omega) only [r_X_loaded_0, r_X_loaded_1, r_X_loaded_2, r_X_loaded_3, r_X_loaded_4, r_X_loaded_5, bnd, tl_s, tl_n, wt_nil, wt_int, wt_ref, wt_null, wt_long, Nat.reduceAdd, Nat.reduceLeDiff, if_true, if_false, decide_true, Bool.true_and, Bool.and_true, zok_n0, zok_n1, zok_bI, bI_eq0, bI_eq1, Bool.true_eq_false, Bool.false_eq_true, not_false_eq_true, not_true_eq_false, decide_false, decide_eq_false_iff_not, decide_eq_true_eq, Classical.not_not, ite_not, lit, Nat.reduceEqDiff, Nat.reduceLT, nI_add, nI_lt', nI_le', nI_eq', nI_sub', pk_mul, nI_rem', nI_div', nI_nz, remN, clampN, inb_nI, Nat.not_lt_zero, Nat.zero_le, Nat.le_zero_eq, if_true, if_false, m1_lt0, m1_eq, t_ite, f_ite, nI_and, nI_or, nI_xor, nI_shl1, nI_shr, nI_ushr, nI_not, nI_and_p2, Nat.one_mul, vrf_s, vrf_n, oF_0, oO_0, oF_1, oO_1, oA_2, oS_2, oA_3, oS_3, oF_4, oO_4, oA_5, oS_5, oA_6, oS_6, oA_7, oS_7, oA_8, oS_8, oA_9, oS_9, oF_70, oO_70, oA_71, oS_71, oA_72, oS_72, oF_73, oO_73, oA_74, oS_74, oA_75, oS_75, oA_76, oS_76, oA_77, oS_77, oA_78, oS_78, oA_139, oS_139, oF_140, oO_140, oA_141, oS_141, oA_142, oS_142, oA_143, oS_143, oA_144, oS_144, oF_145, oO_145, oF_146, oO_146, oA_147, oS_147, oF_148, oO_148, oA_149, oS_149, oA_150, oS_150, oA_151, oS_151, oF_152, oO_152, oA_153, oS_153, oF_154, oO_154, oA_155, oS_155, oA_156, oS_156, oA_157, oS_157, oA_158, oS_158, oF_159, oO_159, oA_160, oS_160, oA_161, oS_161, oA_162, oS_162, oA_163, oS_163, oF_164, oO_164, oA_165, oS_165, oA_166, oS_166, oA_167, oS_167, oA_168, oS_168, oF_169, oO_169, oA_170, oS_170, oA_171, oS_171, oA_172, oS_172, oA_173, oS_173, mO_Frm_restingOn, mO_Int_bitCount, mO_X_hasBit]
    refine Eq.trans ?_ (lpz (R := fun i (z : Option Value) => run (ev 99) m_X_loaded 6 [some (.ref 0), some (.int (ldb (ldf n Rs m) i).1), some (.int (nI (ldb (ldf n Rs m) i).2)), some (.int (nI i)), z] [] NX M) (n := n) (out := some (some (.int (ldb (ldf n Rs m) n).1), NX, M)) ?_ ?_ n 0 none (by omega))
    · rfl
    · intro i z hi
      have hni : ¬ n ≤ i := by omega
      have h9 : ron n Rs i &&& mUp m < 256 := and_8 (ron_8 h8)
      have hp9 := pc_le h9
      have hb := hb2 i
      refine ⟨some (.int (nI (pc (ron n Rs i &&& mUp m)))), ?_⟩
      try dsimp only
      rw [r_X_loaded_6]
      simp (disch := omega) only [r_X_loaded_7, r_X_loaded_7n, r_X_loaded_8, r_X_loaded_11, r_X_loaded_14, r_X_loaded_17, r_X_loaded_17n, r_X_loaded_18, r_X_loaded_21, r_X_loaded_22, r_X_loaded_25, r_X_loaded_25n, r_X_loaded_26, r_X_loaded_29, r_X_loaded_32, r_X_loaded_35, r_X_loaded_36, r_X_loaded_39, r_X_loaded_41, r_X_loaded_41n, r_X_loaded_42, r_X_loaded_45, r_X_loaded_48, r_X_loaded_51, r_X_loaded_52, r_X_loaded_55, r_X_loaded_58, r_X_loaded_60, r_X_loaded_61, r_X_loaded_64, r_X_loaded_66, r_X_loaded_67, r_X_loaded_68, r_X_loaded_69, r_X_loaded_72, bnd, tl_s, tl_n, wt_nil, wt_int, wt_ref, wt_null, wt_long, Nat.reduceAdd, Nat.reduceLeDiff, if_true, if_false, decide_true, Bool.true_and, Bool.and_true, zok_n0, zok_n1, zok_bI, bI_eq0, bI_eq1, Bool.true_eq_false, Bool.false_eq_true, not_false_eq_true, not_true_eq_false, decide_false, decide_eq_false_iff_not, decide_eq_true_eq, Classical.not_not, ite_not, lit, Nat.reduceEqDiff, Nat.reduceLT, nI_add, nI_lt', nI_le', nI_eq', nI_sub', pk_mul, nI_rem', nI_div', nI_nz, remN, clampN, inb_nI, Nat.not_lt_zero, Nat.zero_le, Nat.le_zero_eq, if_true, if_false, m1_lt0, m1_eq, t_ite, f_ite, nI_and, nI_or, nI_xor, nI_shl1, nI_shr, nI_ushr, nI_not, nI_and_p2, Nat.one_mul, vrf_s, vrf_n, oF_0, oO_0, oF_1, oO_1, oA_2, oS_2, oA_3, oS_3, oF_4, oO_4, oA_5, oS_5, oA_6, oS_6, oA_7, oS_7, oA_8, oS_8, oA_9, oS_9, oF_70, oO_70, oA_71, oS_71, oA_72, oS_72, oF_73, oO_73, oA_74, oS_74, oA_75, oS_75, oA_76, oS_76, oA_77, oS_77, oA_78, oS_78, oA_139, oS_139, oF_140, oO_140, oA_141, oS_141, oA_142, oS_142, oA_143, oS_143, oA_144, oS_144, oF_145, oO_145, oF_146, oO_146, oA_147, oS_147, oF_148, oO_148, oA_149, oS_149, oA_150, oS_150, oA_151, oS_151, oF_152, oO_152, oA_153, oS_153, oF_154, oO_154, oA_155, oS_155, oA_156, oS_156, oA_157, oS_157, oA_158, oS_158, oF_159, oO_159, oA_160, oS_160, oA_161, oS_161, oA_162, oS_162, oA_163, oS_163, oF_164, oO_164, oA_165, oS_165, oA_166, oS_166, oA_167, oS_167, oA_168, oS_168, oF_169, oO_169, oA_170, oS_170, oA_171, oS_171, oA_172, oS_172, oA_173, oS_173, mO_Frm_restingOn, mO_Int_bitCount, mO_X_hasBit, hX.r 0 0 1 rfl, hX.r 0 1 70 rfl, hX.r 0 2 139 rfl, hX.r 0 3 140 rfl, hX.r 0 4 145 rfl, hX.r 0 5 146 rfl, hX.r 0 6 148 rfl, hX.r 0 7 152 rfl, hX.r 1 1 2 rfl, hX.r 1 2 3 rfl, hX.r 1 3 4 rfl, hX.r 1 4 6 rfl, hX.r 1 9 7 rfl, hX.r 1 11 8 rfl, hX.r 1 12 9 rfl, hX.r 4 6 5 rfl, hX.r 152 6 153 rfl, hX.r 140 0 141 rfl, hX.r 140 2 142 rfl, hX.r 140 3 143 rfl, hX.r 140 4 144 rfl, hX.r 146 0 147 rfl, hX.r 148 0 149 rfl, hX.r 148 2 150 rfl, hX.r 148 3 151 rfl, hX.nn, hX.up, hni, y_restingOn hX (show i < 8 by omega), y_bitCount h9, y_hasBit]
      rw [ldb]
      unfold ldf
      cases e : (mUp m).testBit i
      · rw [if_pos rfl, f_ite, if_neg (Nat.not_lt_zero _)]
      · rw [if_neg (by decide), t_ite]
        split
        · rw [if_neg (by omega)]
        · rw [if_pos (by omega)]
    · intro z
      try dsimp only
      rw [r_X_loaded_6]
      simp (disch := omega) only [r_X_loaded_7, r_X_loaded_7n, r_X_loaded_8, r_X_loaded_11, r_X_loaded_14, r_X_loaded_17, r_X_loaded_17n, r_X_loaded_18, r_X_loaded_21, r_X_loaded_22, r_X_loaded_25, r_X_loaded_25n, r_X_loaded_26, r_X_loaded_29, r_X_loaded_32, r_X_loaded_35, r_X_loaded_36, r_X_loaded_39, r_X_loaded_41, r_X_loaded_41n, r_X_loaded_42, r_X_loaded_45, r_X_loaded_48, r_X_loaded_51, r_X_loaded_52, r_X_loaded_55, r_X_loaded_58, r_X_loaded_60, r_X_loaded_61, r_X_loaded_64, r_X_loaded_66, r_X_loaded_67, r_X_loaded_68, r_X_loaded_69, r_X_loaded_72, r_X_loaded_75, r_X_loaded_76, bnd, tl_s, tl_n, wt_nil, wt_int, wt_ref, wt_null, wt_long, Nat.reduceAdd, Nat.reduceLeDiff, if_true, if_false, decide_true, Bool.true_and, Bool.and_true, zok_n0, zok_n1, zok_bI, bI_eq0, bI_eq1, Bool.true_eq_false, Bool.false_eq_true, not_false_eq_true, not_true_eq_false, decide_false, decide_eq_false_iff_not, decide_eq_true_eq, Classical.not_not, ite_not, lit, Nat.reduceEqDiff, Nat.reduceLT, nI_add, nI_lt', nI_le', nI_eq', nI_sub', pk_mul, nI_rem', nI_div', nI_nz, remN, clampN, inb_nI, Nat.not_lt_zero, Nat.zero_le, Nat.le_zero_eq, if_true, if_false, m1_lt0, m1_eq, t_ite, f_ite, nI_and, nI_or, nI_xor, nI_shl1, nI_shr, nI_ushr, nI_not, nI_and_p2, Nat.one_mul, vrf_s, vrf_n, oF_0, oO_0, oF_1, oO_1, oA_2, oS_2, oA_3, oS_3, oF_4, oO_4, oA_5, oS_5, oA_6, oS_6, oA_7, oS_7, oA_8, oS_8, oA_9, oS_9, oF_70, oO_70, oA_71, oS_71, oA_72, oS_72, oF_73, oO_73, oA_74, oS_74, oA_75, oS_75, oA_76, oS_76, oA_77, oS_77, oA_78, oS_78, oA_139, oS_139, oF_140, oO_140, oA_141, oS_141, oA_142, oS_142, oA_143, oS_143, oA_144, oS_144, oF_145, oO_145, oF_146, oO_146, oA_147, oS_147, oF_148, oO_148, oA_149, oS_149, oA_150, oS_150, oA_151, oS_151, oF_152, oO_152, oA_153, oS_153, oF_154, oO_154, oA_155, oS_155, oA_156, oS_156, oA_157, oS_157, oA_158, oS_158, oF_159, oO_159, oA_160, oS_160, oA_161, oS_161, oA_162, oS_162, oA_163, oS_163, oF_164, oO_164, oA_165, oS_165, oA_166, oS_166, oA_167, oS_167, oA_168, oS_168, oF_169, oO_169, oA_170, oS_170, oA_171, oS_171, oA_172, oS_172, oA_173, oS_173, mO_Frm_restingOn, mO_Int_bitCount, mO_X_hasBit, hX.r 0 0 1 rfl, hX.r 0 1 70 rfl, hX.r 0 2 139 rfl, hX.r 0 3 140 rfl, hX.r 0 4 145 rfl, hX.r 0 5 146 rfl, hX.r 0 6 148 rfl, hX.r 0 7 152 rfl, hX.r 1 1 2 rfl, hX.r 1 2 3 rfl, hX.r 1 3 4 rfl, hX.r 1 4 6 rfl, hX.r 1 9 7 rfl, hX.r 1 11 8 rfl, hX.r 1 12 9 rfl, hX.r 4 6 5 rfl, hX.r 152 6 153 rfl, hX.r 140 0 141 rfl, hX.r 140 2 142 rfl, hX.r 140 3 143 rfl, hX.r 140 4 144 rfl, hX.r 146 0 147 rfl, hX.r 148 0 149 rfl, hX.r 148 2 150 rfl, hX.r 148 3 151 rfl, hX.nn, Nat.le_refl]
  · rw [e_M_loaded]
    simp (disch := omega) only [r_M_loaded_0, r_M_loaded_1, r_M_loaded_2, r_M_loaded_3, bnd, tl_s, tl_n, wt_nil, wt_int, wt_ref, wt_null, wt_long, Nat.reduceAdd, Nat.reduceLeDiff, if_true, if_false, decide_true, Bool.true_and, Bool.and_true, zok_n0, zok_n1, zok_bI, bI_eq0, bI_eq1, Bool.true_eq_false, Bool.false_eq_true, not_false_eq_true, not_true_eq_false, decide_false, decide_eq_false_iff_not, decide_eq_true_eq, Classical.not_not, ite_not, lit, Nat.reduceEqDiff, Nat.reduceLT, nI_add, nI_lt', nI_le', nI_eq', nI_sub', pk_mul, nI_rem', nI_div', nI_nz, remN, clampN, inb_nI, Nat.not_lt_zero, Nat.zero_le, Nat.le_zero_eq, if_true, if_false, m1_lt0, m1_eq, t_ite, f_ite, nI_and, nI_or, nI_xor, nI_shl1, nI_shr, nI_ushr, nI_not, nI_and_p2, Nat.one_mul, vrf_s, vrf_n, oF_174, oO_174, oA_175, oS_175, oA_176, oS_176, oA_177, oS_177, oA_178, oS_178, oA_179, oS_179, oA_180, oS_180, oA_181, oS_181, oA_182, oS_182, oA_183, oS_183, oA_184, oS_184, oA_185, oS_185, oA_186, oS_186, oA_187, oS_187, oA_188, oS_188, mO_M_loadOf]
    refine (lp0 (R := fun i => run (ev 99) m_M_loaded 4 [some (.ref 174), some (.int (ldb (ldf n Rs m) i).1), some (.int (nI i))] [] NX M) (n := n) ?_).trans ?_
    · intro i hi
      have hni : ¬ n ≤ i := by omega
      have hl := ldf_8 (m := m) (Rs := Rs) (p := i) h8
      try dsimp only
      rw [r_M_loaded_4]
      rcases ldb_ok (ldf n Rs m) i with h1 | ⟨q, hq, h1⟩
      · rw [ldb, h1]
        simp (disch := omega) only [r_M_loaded_5, r_M_loaded_5n, r_M_loaded_6, r_M_loaded_9, r_M_loaded_10, r_M_loaded_11, r_M_loaded_14, r_M_loaded_14n, r_M_loaded_15, r_M_loaded_16, r_M_loaded_19, r_M_loaded_20, r_M_loaded_21, r_M_loaded_24, r_M_loaded_25, r_M_loaded_28, r_M_loaded_28n, r_M_loaded_29, r_M_loaded_30, r_M_loaded_33, r_M_loaded_36, r_M_loaded_37, r_M_loaded_38, r_M_loaded_41, bnd, tl_s, tl_n, wt_nil, wt_int, wt_ref, wt_null, wt_long, Nat.reduceAdd, Nat.reduceLeDiff, if_true, if_false, decide_true, Bool.true_and, Bool.and_true, zok_n0, zok_n1, zok_bI, bI_eq0, bI_eq1, Bool.true_eq_false, Bool.false_eq_true, not_false_eq_true, not_true_eq_false, decide_false, decide_eq_false_iff_not, decide_eq_true_eq, Classical.not_not, ite_not, lit, Nat.reduceEqDiff, Nat.reduceLT, nI_add, nI_lt', nI_le', nI_eq', nI_sub', pk_mul, nI_rem', nI_div', nI_nz, remN, clampN, inb_nI, Nat.not_lt_zero, Nat.zero_le, Nat.le_zero_eq, if_true, if_false, m1_lt0, m1_eq, t_ite, f_ite, nI_and, nI_or, nI_xor, nI_shl1, nI_shr, nI_ushr, nI_not, nI_and_p2, Nat.one_mul, vrf_s, vrf_n, oF_174, oO_174, oA_175, oS_175, oA_176, oS_176, oA_177, oS_177, oA_178, oS_178, oA_179, oS_179, oA_180, oS_180, oA_181, oS_181, oA_182, oS_182, oA_183, oS_183, oA_184, oS_184, oA_185, oS_185, oA_186, oS_186, oA_187, oS_187, oA_188, oS_188, mO_M_loadOf, hM.f, hM.nn, hni, x_loadOf hM hi]
        by_cases e : ldf n Rs m i = 0
        · rw [if_pos (by omega), if_neg (by omega)]
        · rw [if_neg (by omega), if_pos (by omega)]
      · have hl2 := ldf_8 (m := m) (Rs := Rs) (p := q) h8
        rw [ldb, h1]
        simp (disch := omega) only [r_M_loaded_5, r_M_loaded_5n, r_M_loaded_6, r_M_loaded_9, r_M_loaded_10, r_M_loaded_11, r_M_loaded_14, r_M_loaded_14n, r_M_loaded_15, r_M_loaded_16, r_M_loaded_19, r_M_loaded_20, r_M_loaded_21, r_M_loaded_24, r_M_loaded_25, r_M_loaded_28, r_M_loaded_28n, r_M_loaded_29, r_M_loaded_30, r_M_loaded_33, r_M_loaded_36, r_M_loaded_37, r_M_loaded_38, r_M_loaded_41, bnd, tl_s, tl_n, wt_nil, wt_int, wt_ref, wt_null, wt_long, Nat.reduceAdd, Nat.reduceLeDiff, if_true, if_false, decide_true, Bool.true_and, Bool.and_true, zok_n0, zok_n1, zok_bI, bI_eq0, bI_eq1, Bool.true_eq_false, Bool.false_eq_true, not_false_eq_true, not_true_eq_false, decide_false, decide_eq_false_iff_not, decide_eq_true_eq, Classical.not_not, ite_not, lit, Nat.reduceEqDiff, Nat.reduceLT, nI_add, nI_lt', nI_le', nI_eq', nI_sub', pk_mul, nI_rem', nI_div', nI_nz, remN, clampN, inb_nI, Nat.not_lt_zero, Nat.zero_le, Nat.le_zero_eq, if_true, if_false, m1_lt0, m1_eq, t_ite, f_ite, nI_and, nI_or, nI_xor, nI_shl1, nI_shr, nI_ushr, nI_not, nI_and_p2, Nat.one_mul, vrf_s, vrf_n, oF_174, oO_174, oA_175, oS_175, oA_176, oS_176, oA_177, oS_177, oA_178, oS_178, oA_179, oS_179, oA_180, oS_180, oA_181, oS_181, oA_182, oS_182, oA_183, oS_183, oA_184, oS_184, oA_185, oS_185, oA_186, oS_186, oA_187, oS_187, oA_188, oS_188, mO_M_loadOf, hM.f, hM.nn, hni, x_loadOf hM hi, x_loadOf hM (show q < n by omega)]
        by_cases e : ldf n Rs m i ≤ ldf n Rs m q
        · rw [if_pos e, if_neg (by omega)]
        · rw [if_neg e, if_pos (by omega)]
    · rw [r_M_loaded_4]
      simp (disch := omega) only [r_M_loaded_5, r_M_loaded_5n, r_M_loaded_6, r_M_loaded_9, r_M_loaded_10, r_M_loaded_11, r_M_loaded_14, r_M_loaded_14n, r_M_loaded_15, r_M_loaded_16, r_M_loaded_19, r_M_loaded_20, r_M_loaded_21, r_M_loaded_24, r_M_loaded_25, r_M_loaded_28, r_M_loaded_28n, r_M_loaded_29, r_M_loaded_30, r_M_loaded_33, r_M_loaded_36, r_M_loaded_37, r_M_loaded_38, r_M_loaded_41, r_M_loaded_44, r_M_loaded_45, bnd, tl_s, tl_n, wt_nil, wt_int, wt_ref, wt_null, wt_long, Nat.reduceAdd, Nat.reduceLeDiff, if_true, if_false, decide_true, Bool.true_and, Bool.and_true, zok_n0, zok_n1, zok_bI, bI_eq0, bI_eq1, Bool.true_eq_false, Bool.false_eq_true, not_false_eq_true, not_true_eq_false, decide_false, decide_eq_false_iff_not, decide_eq_true_eq, Classical.not_not, ite_not, lit, Nat.reduceEqDiff, Nat.reduceLT, nI_add, nI_lt', nI_le', nI_eq', nI_sub', pk_mul, nI_rem', nI_div', nI_nz, remN, clampN, inb_nI, Nat.not_lt_zero, Nat.zero_le, Nat.le_zero_eq, if_true, if_false, m1_lt0, m1_eq, t_ite, f_ite, nI_and, nI_or, nI_xor, nI_shl1, nI_shr, nI_ushr, nI_not, nI_and_p2, Nat.one_mul, vrf_s, vrf_n, oF_174, oO_174, oA_175, oS_175, oA_176, oS_176, oA_177, oS_177, oA_178, oS_178, oA_179, oS_179, oA_180, oS_180, oA_181, oS_181, oA_182, oS_182, oA_183, oS_183, oA_184, oS_184, oA_185, oS_185, oA_186, oS_186, oA_187, oS_187, oA_188, oS_188, mO_M_loadOf, hM.f, hM.nn, Nat.le_refl]
theorem wsum_le (h : OkP n W Rs) {s : Nat} : ∀ {k}, k ≤ n → wsum W s k ≤ 9 * k := by
  intro k
  induction k with
  | zero => intro _; exact Nat.le_refl _
  | succ k ih =>
    intro hk
    have h1 := ih (by omega)
    have h2 := h.2 k (by omega)
    rw [wsum]
    split <;> omega
theorem y_weightOfF {s : Nat} (h : KX M c n W Rs m) (hs : s < 256) : ev (d + 2) m_Frm_weightOf [.ref 1, .int (nI s)] NX M = some (some (.int (nI (wsum W s n))), NX, M) := by
  have hn := h.n8
  rw [e_Frm_weightOf]
  simp only [r_Frm_weightOf_0, r_Frm_weightOf_1, r_Frm_weightOf_2, r_Frm_weightOf_3, lit]
  refine (lp0 (R := fun i => run (ev (d + 1)) m_Frm_weightOf 4 [some (.ref 1), some (.int (nI s)), some (.int (nI (wsum W s i))), some (.int (nI i))] [] NX M) (n := n) ?_).trans ?_
  · intro i hi
    have hni : ¬ n ≤ i := by omega
    try dsimp only
    rw [r_Frm_weightOf_4]
    simp (disch := omega) only [r_Frm_weightOf_5, r_Frm_weightOf_5n, r_Frm_weightOf_6, r_Frm_weightOf_9, r_Frm_weightOf_12, r_Frm_weightOf_13, r_Frm_weightOf_14, r_Frm_weightOf_17, r_Frm_weightOf_20, r_Frm_weightOf_21, r_Frm_weightOf_21n, r_Frm_weightOf_22, r_Frm_weightOf_25, r_Frm_weightOf_26, r_Frm_weightOf_27, r_Frm_weightOf_28, r_Frm_weightOf_29, r_Frm_weightOf_32, bnd, tl_s, tl_n, wt_nil, wt_int, wt_ref, wt_null, wt_long, Nat.reduceAdd, Nat.reduceLeDiff, if_true, if_false, decide_true, Bool.true_and, Bool.and_true, zok_n0, zok_n1, zok_bI, bI_eq0, bI_eq1, Bool.true_eq_false, Bool.false_eq_true, not_false_eq_true, not_true_eq_false, decide_false, decide_eq_false_iff_not, decide_eq_true_eq, Classical.not_not, ite_not, lit, Nat.reduceEqDiff, Nat.reduceLT, nI_add, nI_lt', nI_le', nI_eq', nI_sub', pk_mul, nI_rem', nI_div', nI_nz, remN, clampN, inb_nI, Nat.not_lt_zero, Nat.zero_le, Nat.le_zero_eq, if_true, if_false, m1_lt0, m1_eq, t_ite, f_ite, nI_and, nI_or, nI_xor, nI_shl1, nI_shr, nI_ushr, nI_not, nI_and_p2, Nat.one_mul, vrf_s, vrf_n, oF_0, oO_0, oF_1, oO_1, oA_2, oS_2, oA_3, oS_3, oF_4, oO_4, oA_5, oS_5, oA_6, oS_6, oA_7, oS_7, oA_8, oS_8, oA_9, oS_9, oF_70, oO_70, oA_71, oS_71, oA_72, oS_72, oF_73, oO_73, oA_74, oS_74, oA_75, oS_75, oA_76, oS_76, oA_77, oS_77, oA_78, oS_78, oA_139, oS_139, oF_140, oO_140, oA_141, oS_141, oA_142, oS_142, oA_143, oS_143, oA_144, oS_144, oF_145, oO_145, oF_146, oO_146, oA_147, oS_147, oF_148, oO_148, oA_149, oS_149, oA_150, oS_150, oA_151, oS_151, oF_152, oO_152, oA_153, oS_153, oF_154, oO_154, oA_155, oS_155, oA_156, oS_156, oA_157, oS_157, oA_158, oS_158, oF_159, oO_159, oA_160, oS_160, oA_161, oS_161, oA_162, oS_162, oA_163, oS_163, oF_164, oO_164, oA_165, oS_165, oA_166, oS_166, oA_167, oS_167, oA_168, oS_168, oF_169, oO_169, oA_170, oS_170, oA_171, oS_171, oA_172, oS_172, oA_173, oS_173, mO_X_hasBit, h.r 0 0 1 rfl, h.r 0 1 70 rfl, h.r 0 2 139 rfl, h.r 0 3 140 rfl, h.r 0 4 145 rfl, h.r 0 5 146 rfl, h.r 0 6 148 rfl, h.r 0 7 152 rfl, h.r 1 1 2 rfl, h.r 1 2 3 rfl, h.r 1 3 4 rfl, h.r 1 4 6 rfl, h.r 1 9 7 rfl, h.r 1 11 8 rfl, h.r 1 12 9 rfl, h.r 4 6 5 rfl, h.r 152 6 153 rfl, h.r 140 0 141 rfl, h.r 140 2 142 rfl, h.r 140 3 143 rfl, h.r 140 4 144 rfl, h.r 146 0 147 rfl, h.r 148 0 149 rfl, h.r 148 2 150 rfl, h.r 148 3 151 rfl, h.nn, hni, h.w hi, y_hasBit]
    cases e : s.testBit i
    · rw [if_pos rfl, wsum, e, f_ite]; rfl
    · rw [if_neg (by decide), wsum, e, t_ite]
  · rw [r_Frm_weightOf_4]
    simp (disch := omega) only [r_Frm_weightOf_5, r_Frm_weightOf_5n, r_Frm_weightOf_6, r_Frm_weightOf_9, r_Frm_weightOf_12, r_Frm_weightOf_13, r_Frm_weightOf_14, r_Frm_weightOf_17, r_Frm_weightOf_20, r_Frm_weightOf_21, r_Frm_weightOf_21n, r_Frm_weightOf_22, r_Frm_weightOf_25, r_Frm_weightOf_26, r_Frm_weightOf_27, r_Frm_weightOf_28, r_Frm_weightOf_29, r_Frm_weightOf_32, r_Frm_weightOf_35, r_Frm_weightOf_36, bnd, tl_s, tl_n, wt_nil, wt_int, wt_ref, wt_null, wt_long, Nat.reduceAdd, Nat.reduceLeDiff, if_true, if_false, decide_true, Bool.true_and, Bool.and_true, zok_n0, zok_n1, zok_bI, bI_eq0, bI_eq1, Bool.true_eq_false, Bool.false_eq_true, not_false_eq_true, not_true_eq_false, decide_false, decide_eq_false_iff_not, decide_eq_true_eq, Classical.not_not, ite_not, lit, Nat.reduceEqDiff, Nat.reduceLT, nI_add, nI_lt', nI_le', nI_eq', nI_sub', pk_mul, nI_rem', nI_div', nI_nz, remN, clampN, inb_nI, Nat.not_lt_zero, Nat.zero_le, Nat.le_zero_eq, if_true, if_false, m1_lt0, m1_eq, t_ite, f_ite, nI_and, nI_or, nI_xor, nI_shl1, nI_shr, nI_ushr, nI_not, nI_and_p2, Nat.one_mul, vrf_s, vrf_n, oF_0, oO_0, oF_1, oO_1, oA_2, oS_2, oA_3, oS_3, oF_4, oO_4, oA_5, oS_5, oA_6, oS_6, oA_7, oS_7, oA_8, oS_8, oA_9, oS_9, oF_70, oO_70, oA_71, oS_71, oA_72, oS_72, oF_73, oO_73, oA_74, oS_74, oA_75, oS_75, oA_76, oS_76, oA_77, oS_77, oA_78, oS_78, oA_139, oS_139, oF_140, oO_140, oA_141, oS_141, oA_142, oS_142, oA_143, oS_143, oA_144, oS_144, oF_145, oO_145, oF_146, oO_146, oA_147, oS_147, oF_148, oO_148, oA_149, oS_149, oA_150, oS_150, oA_151, oS_151, oF_152, oO_152, oA_153, oS_153, oF_154, oO_154, oA_155, oS_155, oA_156, oS_156, oA_157, oS_157, oA_158, oS_158, oF_159, oO_159, oA_160, oS_160, oA_161, oS_161, oA_162, oS_162, oA_163, oS_163, oF_164, oO_164, oA_165, oS_165, oA_166, oS_166, oA_167, oS_167, oA_168, oS_168, oF_169, oO_169, oA_170, oS_170, oA_171, oS_171, oA_172, oS_172, oA_173, oS_173, mO_X_hasBit, h.r 0 0 1 rfl, h.r 0 1 70 rfl, h.r 0 2 139 rfl, h.r 0 3 140 rfl, h.r 0 4 145 rfl, h.r 0 5 146 rfl, h.r 0 6 148 rfl, h.r 0 7 152 rfl, h.r 1 1 2 rfl, h.r 1 2 3 rfl, h.r 1 3 4 rfl, h.r 1 4 6 rfl, h.r 1 9 7 rfl, h.r 1 11 8 rfl, h.r 1 12 9 rfl, h.r 4 6 5 rfl, h.r 152 6 153 rfl, h.r 140 0 141 rfl, h.r 140 2 142 rfl, h.r 140 3 143 rfl, h.r 140 4 144 rfl, h.r 146 0 147 rfl, h.r 148 0 149 rfl, h.r 148 2 150 rfl, h.r 148 3 151 rfl, h.nn, Nat.le_refl]
theorem x_weightOf {s : Nat} (h : KM M n W Rs m) (hs : s < 256) : ev (d + 2) m_M_weightOf [.ref 174, .int (nI s)] NX M = some (some (.int (nI (wsum W s n))), NX, M) := by
  have hn := h.n8
  rw [e_M_weightOf]
  simp only [r_M_weightOf_0, r_M_weightOf_1, r_M_weightOf_2, r_M_weightOf_3, lit]
  refine (lp0 (R := fun i => run (ev (d + 1)) m_M_weightOf 4 [some (.ref 174), some (.int (nI s)), some (.int (nI (wsum W s i))), some (.int (nI i))] [] NX M) (n := n) ?_).trans ?_
  · intro i hi
    have hni : ¬ n ≤ i := by omega
    try dsimp only
    rw [r_M_weightOf_4]
    simp (disch := omega) only [r_M_weightOf_5, r_M_weightOf_5n, r_M_weightOf_6, r_M_weightOf_9, r_M_weightOf_10, r_M_weightOf_11, r_M_weightOf_14, r_M_weightOf_15, r_M_weightOf_16, r_M_weightOf_17, r_M_weightOf_20, r_M_weightOf_23, r_M_weightOf_23n, r_M_weightOf_24, r_M_weightOf_27, r_M_weightOf_29, r_M_weightOf_30, r_M_weightOf_31, r_M_weightOf_32, r_M_weightOf_35, r_M_weightOf_36, r_M_weightOf_37, r_M_weightOf_38, r_M_weightOf_41, bnd, tl_s, tl_n, wt_nil, wt_int, wt_ref, wt_null, wt_long, Nat.reduceAdd, Nat.reduceLeDiff, if_true, if_false, decide_true, Bool.true_and, Bool.and_true, zok_n0, zok_n1, zok_bI, bI_eq0, bI_eq1, Bool.true_eq_false, Bool.false_eq_true, not_false_eq_true, not_true_eq_false, decide_false, decide_eq_false_iff_not, decide_eq_true_eq, Classical.not_not, ite_not, lit, Nat.reduceEqDiff, Nat.reduceLT, nI_add, nI_lt', nI_le', nI_eq', nI_sub', pk_mul, nI_rem', nI_div', nI_nz, remN, clampN, inb_nI, Nat.not_lt_zero, Nat.zero_le, Nat.le_zero_eq, if_true, if_false, m1_lt0, m1_eq, t_ite, f_ite, nI_and, nI_or, nI_xor, nI_shl1, nI_shr, nI_ushr, nI_not, nI_and_p2, Nat.one_mul, vrf_s, vrf_n, oF_174, oO_174, oA_175, oS_175, oA_176, oS_176, oA_177, oS_177, oA_178, oS_178, oA_179, oS_179, oA_180, oS_180, oA_181, oS_181, oA_182, oS_182, oA_183, oS_183, oA_184, oS_184, oA_185, oS_185, oA_186, oS_186, oA_187, oS_187, oA_188, oS_188, mO_M_has, h.f, h.nn, hni, h.w hi, x_has]
    cases e : s.testBit i
    · rw [if_pos rfl, wsum, e, f_ite]
    · rw [if_neg (by decide), wsum, e, t_ite]
  · rw [r_M_weightOf_4]
    simp (disch := omega) only [r_M_weightOf_5, r_M_weightOf_5n, r_M_weightOf_6, r_M_weightOf_9, r_M_weightOf_10, r_M_weightOf_11, r_M_weightOf_14, r_M_weightOf_15, r_M_weightOf_16, r_M_weightOf_17, r_M_weightOf_20, r_M_weightOf_23, r_M_weightOf_23n, r_M_weightOf_24, r_M_weightOf_27, r_M_weightOf_29, r_M_weightOf_30, r_M_weightOf_31, r_M_weightOf_32, r_M_weightOf_35, r_M_weightOf_36, r_M_weightOf_37, r_M_weightOf_38, r_M_weightOf_41, r_M_weightOf_44, r_M_weightOf_45, bnd, tl_s, tl_n, wt_nil, wt_int, wt_ref, wt_null, wt_long, Nat.reduceAdd, Nat.reduceLeDiff, if_true, if_false, decide_true, Bool.true_and, Bool.and_true, zok_n0, zok_n1, zok_bI, bI_eq0, bI_eq1, Bool.true_eq_false, Bool.false_eq_true, not_false_eq_true, not_true_eq_false, decide_false, decide_eq_false_iff_not, decide_eq_true_eq, Classical.not_not, ite_not, lit, Nat.reduceEqDiff, Nat.reduceLT, nI_add, nI_lt', nI_le', nI_eq', nI_sub', pk_mul, nI_rem', nI_div', nI_nz, remN, clampN, inb_nI, Nat.not_lt_zero, Nat.zero_le, Nat.le_zero_eq, if_true, if_false, m1_lt0, m1_eq, t_ite, f_ite, nI_and, nI_or, nI_xor, nI_shl1, nI_shr, nI_ushr, nI_not, nI_and_p2, Nat.one_mul, vrf_s, vrf_n, oF_174, oO_174, oA_175, oS_175, oA_176, oS_176, oA_177, oS_177, oA_178, oS_178, oA_179, oS_179, oA_180, oS_180, oA_181, oS_181, oA_182, oS_182, oA_183, oS_183, oA_184, oS_184, oA_185, oS_185, oA_186, oS_186, oA_187, oS_187, oA_188, oS_188, mO_M_has, h.f, h.nn, Nat.le_refl]
theorem P_heaviest {b : Bool} (hX : KX M 4 n W Rs m) (hM : KM M n W Rs m) : PubR m_X_heaviest m_M_heaviest [.int (bI b)] M := by
  have h8 := hX.n8
  have hb := hX.okb.1
  have h2 := p2_le8 h8
  have hpos := p2_pos (k := n)
  have hw : ∀ s, wsum W s n ≤ 72 := fun s => by have := wsum_le hX.okp (s := s) (Nat.le_refl n); omega
  refine PubR.same (.int (nI (if b = true then wsum W (hvy (mOb m) (fun s => wsum W s n) (2 ^ n)) n else hvy (mOb m) (fun s => wsum W s n) (2 ^ n)))) ?_ ?_
  · rw [e_X_heaviest]
    simp (disch := omega) only [r_X_heaviest_0, r_X_heaviest_1, r_X_heaviest_2, r_X_heaviest_3, r_X_heaviest_4, r_X_heaviest_5, bnd, tl_s, tl_n, wt_nil, wt_int, wt_ref, wt_null, wt_long, Nat.reduceAdd, Nat.reduceLeDiff, if_true, if_false, decide_true, Bool.true_and, Bool.and_true, zok_n0, zok_n1, zok_bI, bI_eq0, bI_eq1, Bool.true_eq_false, Bool.false_eq_true, not_false_eq_true, not_true_eq_false, decide_false, decide_eq_false_iff_not, decide_eq_true_eq, Classical.not_not, ite_not, lit, Nat.reduceEqDiff, Nat.reduceLT, nI_add, nI_lt', nI_le', nI_eq', nI_sub', pk_mul, nI_rem', nI_div', nI_nz, remN, clampN, inb_nI, Nat.not_lt_zero, Nat.zero_le, Nat.le_zero_eq, if_true, if_false, m1_lt0, m1_eq, t_ite, f_ite, nI_and, nI_or, nI_xor, nI_shl1, nI_shr, nI_ushr, nI_not, nI_and_p2, Nat.one_mul, vrf_s, vrf_n, oF_0, oO_0, oF_1, oO_1, oA_2, oS_2, oA_3, oS_3, oF_4, oO_4, oA_5, oS_5, oA_6, oS_6, oA_7, oS_7, oA_8, oS_8, oA_9, oS_9, oF_70, oO_70, oA_71, oS_71, oA_72, oS_72, oF_73, oO_73, oA_74, oS_74, oA_75, oS_75, oA_76, oS_76, oA_77, oS_77, oA_78, oS_78, oA_139, oS_139, oF_140, oO_140, oA_141, oS_141, oA_142, oS_142, oA_143, oS_143, oA_144, oS_144, oF_145, oO_145, oF_146, oO_146, oA_147, oS_147, oF_148, oO_148, oA_149, oS_149, oA_150, oS_150, oA_151, oS_151, oF_152, oO_152, oA_153, oS_153, oF_154, oO_154, oA_155, oS_155, oA_156, oS_156, oA_157, oS_157, oA_158, oS_158, oF_159, oO_159, oA_160, oS_160, oA_161, oS_161, oA_162, oS_162, oA_163, oS_163, oF_164, oO_164, oA_165, oS_165, oA_166, oS_166, oA_167, oS_167, oA_168, oS_168, oF_169, oO_169, oA_170, oS_170, oA_171, oS_171, oA_172, oS_172, oA_173, oS_173, mO_Site_told, mO_Frm_weightOf, mO_Dis_isFree]
    refine Eq.trans ?_ (lpz (R := fun i (z : Option Value) => run (ev 99) m_X_heaviest 7 [some (.ref 0), some (.int (bI b)), some (.int (nI (hvy (mOb m) (fun s => wsum W s n) i))), some (.int (nI (wsum W (hvy (mOb m) (fun s => wsum W s n) i) n))), some (.int (nI i)), z] [] NX M) (n := 2 ^ n) (out := some (some (.int (nI (if b = true then wsum W (hvy (mOb m) (fun s => wsum W s n) (2 ^ n)) n else hvy (mOb m) (fun s => wsum W s n) (2 ^ n)))), NX, M)) ?_ ?_ (2 ^ n) 0 none (by omega))
    · rw [hvy, wsum_0]
    · intro i z hi
      have hni : ¬ 2 ^ n - 1 < i := by omega
      have hw1 := hw i
      have hw2 := hw (hvy (mOb m) (fun s => wsum W s n) i)
      refine ⟨some (.int (nI (wsum W i n))), ?_⟩
      try dsimp only
      rw [r_X_heaviest_7]
      simp (disch := omega) only [r_X_heaviest_9, r_X_heaviest_9n, r_X_heaviest_10, r_X_heaviest_13, r_X_heaviest_16, r_X_heaviest_19, r_X_heaviest_19n, r_X_heaviest_20, r_X_heaviest_23, r_X_heaviest_25, r_X_heaviest_28, r_X_heaviest_30, r_X_heaviest_32, r_X_heaviest_33, r_X_heaviest_36, r_X_heaviest_36n, r_X_heaviest_37, r_X_heaviest_40, r_X_heaviest_43, r_X_heaviest_46, r_X_heaviest_48, r_X_heaviest_51, r_X_heaviest_54, r_X_heaviest_56, r_X_heaviest_57, r_X_heaviest_59, r_X_heaviest_60, r_X_heaviest_63, bnd, tl_s, tl_n, wt_nil, wt_int, wt_ref, wt_null, wt_long, Nat.reduceAdd, Nat.reduceLeDiff, if_true, if_false, decide_true, Bool.true_and, Bool.and_true, zok_n0, zok_n1, zok_bI, bI_eq0, bI_eq1, Bool.true_eq_false, Bool.false_eq_true, not_false_eq_true, not_true_eq_false, decide_false, decide_eq_false_iff_not, decide_eq_true_eq, Classical.not_not, ite_not, lit, Nat.reduceEqDiff, Nat.reduceLT, nI_add, nI_lt', nI_le', nI_eq', nI_sub', pk_mul, nI_rem', nI_div', nI_nz, remN, clampN, inb_nI, Nat.not_lt_zero, Nat.zero_le, Nat.le_zero_eq, if_true, if_false, m1_lt0, m1_eq, t_ite, f_ite, nI_and, nI_or, nI_xor, nI_shl1, nI_shr, nI_ushr, nI_not, nI_and_p2, Nat.one_mul, vrf_s, vrf_n, oF_0, oO_0, oF_1, oO_1, oA_2, oS_2, oA_3, oS_3, oF_4, oO_4, oA_5, oS_5, oA_6, oS_6, oA_7, oS_7, oA_8, oS_8, oA_9, oS_9, oF_70, oO_70, oA_71, oS_71, oA_72, oS_72, oF_73, oO_73, oA_74, oS_74, oA_75, oS_75, oA_76, oS_76, oA_77, oS_77, oA_78, oS_78, oA_139, oS_139, oF_140, oO_140, oA_141, oS_141, oA_142, oS_142, oA_143, oS_143, oA_144, oS_144, oF_145, oO_145, oF_146, oO_146, oA_147, oS_147, oF_148, oO_148, oA_149, oS_149, oA_150, oS_150, oA_151, oS_151, oF_152, oO_152, oA_153, oS_153, oF_154, oO_154, oA_155, oS_155, oA_156, oS_156, oA_157, oS_157, oA_158, oS_158, oF_159, oO_159, oA_160, oS_160, oA_161, oS_161, oA_162, oS_162, oA_163, oS_163, oF_164, oO_164, oA_165, oS_165, oA_166, oS_166, oA_167, oS_167, oA_168, oS_168, oF_169, oO_169, oA_170, oS_170, oA_171, oS_171, oA_172, oS_172, oA_173, oS_173, mO_Site_told, mO_Frm_weightOf, mO_Dis_isFree, hX.r 0 0 1 rfl, hX.r 0 1 70 rfl, hX.r 0 2 139 rfl, hX.r 0 3 140 rfl, hX.r 0 4 145 rfl, hX.r 0 5 146 rfl, hX.r 0 6 148 rfl, hX.r 0 7 152 rfl, hX.r 1 1 2 rfl, hX.r 1 2 3 rfl, hX.r 1 3 4 rfl, hX.r 1 4 6 rfl, hX.r 1 9 7 rfl, hX.r 1 11 8 rfl, hX.r 1 12 9 rfl, hX.r 4 6 5 rfl, hX.r 152 6 153 rfl, hX.r 140 0 141 rfl, hX.r 140 2 142 rfl, hX.r 140 3 143 rfl, hX.r 140 4 144 rfl, hX.r 146 0 147 rfl, hX.r 148 0 149 rfl, hX.r 148 2 150 rfl, hX.r 148 3 151 rfl, hX.ob, hni, y_told hX, y_weightOfF hX (show i < 256 by omega), y_isFree hb (show i < 256 by omega)]
      rw [hvy]
      try dsimp only
      by_cases e : wsum W (hvy (mOb m) (fun s => wsum W s n) i) n < wsum W i n
      · rw [if_neg (by omega)]
        cases e2 : free (mOb m) i
        · rw [if_pos rfl, if_neg (fun z => by cases z.2)]
        · rw [if_neg (by decide), if_pos ⟨e, rfl⟩]
      · rw [if_pos (by omega), if_neg (fun z => e z.1)]
    · intro z
      have hlt : 2 ^ n - 1 < 2 ^ n := by omega
      try dsimp only
      rw [r_X_heaviest_7]
      simp (disch := omega) only [r_X_heaviest_9, r_X_heaviest_9n, r_X_heaviest_10, r_X_heaviest_13, r_X_heaviest_16, r_X_heaviest_19, r_X_heaviest_19n, r_X_heaviest_20, r_X_heaviest_23, r_X_heaviest_25, r_X_heaviest_28, r_X_heaviest_30, r_X_heaviest_32, r_X_heaviest_33, r_X_heaviest_36, r_X_heaviest_36n, r_X_heaviest_37, r_X_heaviest_40, r_X_heaviest_43, r_X_heaviest_46, r_X_heaviest_48, r_X_heaviest_51, r_X_heaviest_54, r_X_heaviest_56, r_X_heaviest_57, r_X_heaviest_59, r_X_heaviest_60, r_X_heaviest_63, r_X_heaviest_66, r_X_heaviest_67, r_X_heaviest_70, r_X_heaviest_71, r_X_heaviest_74, r_X_heaviest_75, bnd, tl_s, tl_n, wt_nil, wt_int, wt_ref, wt_null, wt_long, Nat.reduceAdd, Nat.reduceLeDiff, if_true, if_false, decide_true, Bool.true_and, Bool.and_true, zok_n0, zok_n1, zok_bI, bI_eq0, bI_eq1, Bool.true_eq_false, Bool.false_eq_true, not_false_eq_true, not_true_eq_false, decide_false, decide_eq_false_iff_not, decide_eq_true_eq, Classical.not_not, ite_not, lit, Nat.reduceEqDiff, Nat.reduceLT, nI_add, nI_lt', nI_le', nI_eq', nI_sub', pk_mul, nI_rem', nI_div', nI_nz, remN, clampN, inb_nI, Nat.not_lt_zero, Nat.zero_le, Nat.le_zero_eq, if_true, if_false, m1_lt0, m1_eq, t_ite, f_ite, nI_and, nI_or, nI_xor, nI_shl1, nI_shr, nI_ushr, nI_not, nI_and_p2, Nat.one_mul, vrf_s, vrf_n, oF_0, oO_0, oF_1, oO_1, oA_2, oS_2, oA_3, oS_3, oF_4, oO_4, oA_5, oS_5, oA_6, oS_6, oA_7, oS_7, oA_8, oS_8, oA_9, oS_9, oF_70, oO_70, oA_71, oS_71, oA_72, oS_72, oF_73, oO_73, oA_74, oS_74, oA_75, oS_75, oA_76, oS_76, oA_77, oS_77, oA_78, oS_78, oA_139, oS_139, oF_140, oO_140, oA_141, oS_141, oA_142, oS_142, oA_143, oS_143, oA_144, oS_144, oF_145, oO_145, oF_146, oO_146, oA_147, oS_147, oF_148, oO_148, oA_149, oS_149, oA_150, oS_150, oA_151, oS_151, oF_152, oO_152, oA_153, oS_153, oF_154, oO_154, oA_155, oS_155, oA_156, oS_156, oA_157, oS_157, oA_158, oS_158, oF_159, oO_159, oA_160, oS_160, oA_161, oS_161, oA_162, oS_162, oA_163, oS_163, oF_164, oO_164, oA_165, oS_165, oA_166, oS_166, oA_167, oS_167, oA_168, oS_168, oF_169, oO_169, oA_170, oS_170, oA_171, oS_171, oA_172, oS_172, oA_173, oS_173, mO_Site_told, mO_Frm_weightOf, mO_Dis_isFree, hX.r 0 0 1 rfl, hX.r 0 1 70 rfl, hX.r 0 2 139 rfl, hX.r 0 3 140 rfl, hX.r 0 4 145 rfl, hX.r 0 5 146 rfl, hX.r 0 6 148 rfl, hX.r 0 7 152 rfl, hX.r 1 1 2 rfl, hX.r 1 2 3 rfl, hX.r 1 3 4 rfl, hX.r 1 4 6 rfl, hX.r 1 9 7 rfl, hX.r 1 11 8 rfl, hX.r 1 12 9 rfl, hX.r 4 6 5 rfl, hX.r 152 6 153 rfl, hX.r 140 0 141 rfl, hX.r 140 2 142 rfl, hX.r 140 3 143 rfl, hX.r 140 4 144 rfl, hX.r 146 0 147 rfl, hX.r 148 0 149 rfl, hX.r 148 2 150 rfl, hX.r 148 3 151 rfl, hlt, y_told hX]
      cases b <;> rfl
  · rw [e_M_heaviest]
    simp (disch := omega) only [r_M_heaviest_0, r_M_heaviest_1, r_M_heaviest_2, r_M_heaviest_3, bnd, tl_s, tl_n, wt_nil, wt_int, wt_ref, wt_null, wt_long, Nat.reduceAdd, Nat.reduceLeDiff, if_true, if_false, decide_true, Bool.true_and, Bool.and_true, zok_n0, zok_n1, zok_bI, bI_eq0, bI_eq1, Bool.true_eq_false, Bool.false_eq_true, not_false_eq_true, not_true_eq_false, decide_false, decide_eq_false_iff_not, decide_eq_true_eq, Classical.not_not, ite_not, lit, Nat.reduceEqDiff, Nat.reduceLT, nI_add, nI_lt', nI_le', nI_eq', nI_sub', pk_mul, nI_rem', nI_div', nI_nz, remN, clampN, inb_nI, Nat.not_lt_zero, Nat.zero_le, Nat.le_zero_eq, if_true, if_false, m1_lt0, m1_eq, t_ite, f_ite, nI_and, nI_or, nI_xor, nI_shl1, nI_shr, nI_ushr, nI_not, nI_and_p2, Nat.one_mul, vrf_s, vrf_n, oF_174, oO_174, oA_175, oS_175, oA_176, oS_176, oA_177, oS_177, oA_178, oS_178, oA_179, oS_179, oA_180, oS_180, oA_181, oS_181, oA_182, oS_182, oA_183, oS_183, oA_184, oS_184, oA_185, oS_185, oA_186, oS_186, oA_187, oS_187, oA_188, oS_188, mO_M_everyone, mO_M_isFree, mO_M_weightOf]
    have h1 : hvy (mOb m) (fun s => wsum W s n) 1 = 0 := by rw [hvy, hvy, if_neg (fun z => by have := z.1; omega)]
    have hv8 : ∀ i, i ≤ 2 ^ n → hvy (mOb m) (fun s => wsum W s n) i < 256 := by
      intro i hi
      cases i with
      | zero => exact (by decide : (0 : Nat) < 256)
      | succ i => rw [hvy]; have := hvy_le (mOb m) (fun s => wsum W s n) i; split <;> omega
    rw [show nI 0 = nI (hvy (mOb m) (fun s => wsum W s n) 1) by rw [h1]]
    refine (lp (R := fun i => run (ev 99) m_M_heaviest 4 [some (.ref 174), some (.int (bI b)), some (.int (nI (hvy (mOb m) (fun s => wsum W s n) i))), some (.int (nI i))] [] NX M) (n := 2 ^ n) ?_ (2 ^ n - 1) 1 (by omega)).trans ?_
    · intro i hi
      have hni : ¬ 2 ^ n - 1 < i := by omega
      have hw1 := hw i
      have hw2 := hw (hvy (mOb m) (fun s => wsum W s n) i)
      have hv := hv8 i (by omega)
      try dsimp only
      rw [r_M_heaviest_4]
      simp (disch := omega) only [r_M_heaviest_5, r_M_heaviest_5n, r_M_heaviest_6, r_M_heaviest_9, r_M_heaviest_12, r_M_heaviest_12n, r_M_heaviest_13, r_M_heaviest_14, r_M_heaviest_17, r_M_heaviest_20, r_M_heaviest_20n, r_M_heaviest_21, r_M_heaviest_22, r_M_heaviest_25, r_M_heaviest_25n, r_M_heaviest_26, r_M_heaviest_27, r_M_heaviest_30, r_M_heaviest_33, r_M_heaviest_34, r_M_heaviest_35, r_M_heaviest_38, bnd, tl_s, tl_n, wt_nil, wt_int, wt_ref, wt_null, wt_long, Nat.reduceAdd, Nat.reduceLeDiff, if_true, if_false, decide_true, Bool.true_and, Bool.and_true, zok_n0, zok_n1, zok_bI, bI_eq0, bI_eq1, Bool.true_eq_false, Bool.false_eq_true, not_false_eq_true, not_true_eq_false, decide_false, decide_eq_false_iff_not, decide_eq_true_eq, Classical.not_not, ite_not, lit, Nat.reduceEqDiff, Nat.reduceLT, nI_add, nI_lt', nI_le', nI_eq', nI_sub', pk_mul, nI_rem', nI_div', nI_nz, remN, clampN, inb_nI, Nat.not_lt_zero, Nat.zero_le, Nat.le_zero_eq, if_true, if_false, m1_lt0, m1_eq, t_ite, f_ite, nI_and, nI_or, nI_xor, nI_shl1, nI_shr, nI_ushr, nI_not, nI_and_p2, Nat.one_mul, vrf_s, vrf_n, oF_174, oO_174, oA_175, oS_175, oA_176, oS_176, oA_177, oS_177, oA_178, oS_178, oA_179, oS_179, oA_180, oS_180, oA_181, oS_181, oA_182, oS_182, oA_183, oS_183, oA_184, oS_184, oA_185, oS_185, oA_186, oS_186, oA_187, oS_187, oA_188, oS_188, mO_M_everyone, mO_M_isFree, mO_M_weightOf, hni, x_everyone hM, x_isFree hM (show i < 256 by omega), x_weightOf hM (show i < 256 by omega), x_weightOf hM hv]
      rw [hvy]
      try dsimp only
      cases e2 : free (mOb m) i
      · rw [if_pos rfl, if_neg (fun z => by cases z.2)]
      · rw [if_neg (by decide)]
        by_cases e : wsum W (hvy (mOb m) (fun s => wsum W s n) i) n < wsum W i n
        · rw [if_neg (by omega), if_pos ⟨e, rfl⟩]
        · rw [if_pos (by omega), if_neg (fun z => e z.1)]
    · have hlt : 2 ^ n - 1 < 2 ^ n := by omega
      have hv := hv8 (2 ^ n) (Nat.le_refl _)
      rw [r_M_heaviest_4]
      simp (disch := omega) only [r_M_heaviest_5, r_M_heaviest_5n, r_M_heaviest_6, r_M_heaviest_9, r_M_heaviest_12, r_M_heaviest_12n, r_M_heaviest_13, r_M_heaviest_14, r_M_heaviest_17, r_M_heaviest_20, r_M_heaviest_20n, r_M_heaviest_21, r_M_heaviest_22, r_M_heaviest_25, r_M_heaviest_25n, r_M_heaviest_26, r_M_heaviest_27, r_M_heaviest_30, r_M_heaviest_33, r_M_heaviest_34, r_M_heaviest_35, r_M_heaviest_38, r_M_heaviest_41, r_M_heaviest_42, r_M_heaviest_45, r_M_heaviest_45n, r_M_heaviest_46, r_M_heaviest_47, r_M_heaviest_50, r_M_heaviest_53, r_M_heaviest_54, bnd, tl_s, tl_n, wt_nil, wt_int, wt_ref, wt_null, wt_long, Nat.reduceAdd, Nat.reduceLeDiff, if_true, if_false, decide_true, Bool.true_and, Bool.and_true, zok_n0, zok_n1, zok_bI, bI_eq0, bI_eq1, Bool.true_eq_false, Bool.false_eq_true, not_false_eq_true, not_true_eq_false, decide_false, decide_eq_false_iff_not, decide_eq_true_eq, Classical.not_not, ite_not, lit, Nat.reduceEqDiff, Nat.reduceLT, nI_add, nI_lt', nI_le', nI_eq', nI_sub', pk_mul, nI_rem', nI_div', nI_nz, remN, clampN, inb_nI, Nat.not_lt_zero, Nat.zero_le, Nat.le_zero_eq, if_true, if_false, m1_lt0, m1_eq, t_ite, f_ite, nI_and, nI_or, nI_xor, nI_shl1, nI_shr, nI_ushr, nI_not, nI_and_p2, Nat.one_mul, vrf_s, vrf_n, oF_174, oO_174, oA_175, oS_175, oA_176, oS_176, oA_177, oS_177, oA_178, oS_178, oA_179, oS_179, oA_180, oS_180, oA_181, oS_181, oA_182, oS_182, oA_183, oS_183, oA_184, oS_184, oA_185, oS_185, oA_186, oS_186, oA_187, oS_187, oA_188, oS_188, mO_M_everyone, mO_M_isFree, mO_M_weightOf, hlt, x_everyone hM, x_weightOf hM hv]
      cases b <;> rfl
theorem x_isNext {P s p : Nat} (h : KM M n W Rs m) (hP : P < 256) (hs : s < 256) (hp : p < n) : ev (d + 2) m_M_isNext [.ref 174, .int (nI P), .int (nI s), .int (nI p)] NX M = some (some (.int (bI (P.testBit p && !s.testBit p && decide (mns (Rs p &&& P) s = 0)))), NX, M) := by
  have hn := h.n8
  have h1 := mns_le (Rs p &&& P) s
  have h2 : Rs p &&& P < 256 := and_8' hP
  rw [e_M_isNext]
  simp (disch := omega) only [r_M_isNext_0, r_M_isNext_1, r_M_isNext_2, r_M_isNext_5, r_M_isNext_8, r_M_isNext_9, r_M_isNext_10, r_M_isNext_13, r_M_isNext_16, r_M_isNext_16n, r_M_isNext_17, r_M_isNext_20, r_M_isNext_22, r_M_isNext_23, r_M_isNext_24, r_M_isNext_25, r_M_isNext_26, r_M_isNext_27, r_M_isNext_28, r_M_isNext_29, r_M_isNext_30, r_M_isNext_31, r_M_isNext_34, r_M_isNext_35, r_M_isNext_38, r_M_isNext_39, bnd, tl_s, tl_n, wt_nil, wt_int, wt_ref, wt_null, wt_long, Nat.reduceAdd, Nat.reduceLeDiff, if_true, if_false, decide_true, Bool.true_and, Bool.and_true, zok_n0, zok_n1, zok_bI, bI_eq0, bI_eq1, Bool.true_eq_false, Bool.false_eq_true, not_false_eq_true, not_true_eq_false, decide_false, decide_eq_false_iff_not, decide_eq_true_eq, Classical.not_not, ite_not, lit, Nat.reduceEqDiff, Nat.reduceLT, nI_add, nI_lt', nI_le', nI_eq', nI_sub', pk_mul, nI_rem', nI_div', nI_nz, remN, clampN, inb_nI, Nat.not_lt_zero, Nat.zero_le, Nat.le_zero_eq, if_true, if_false, m1_lt0, m1_eq, t_ite, f_ite, nI_and, nI_or, nI_xor, nI_shl1, nI_shr, nI_ushr, nI_not, nI_and_p2, Nat.one_mul, vrf_s, vrf_n, oF_174, oO_174, oA_175, oS_175, oA_176, oS_176, oA_177, oS_177, oA_178, oS_178, oA_179, oS_179, oA_180, oS_180, oA_181, oS_181, oA_182, oS_182, oA_183, oS_183, oA_184, oS_184, oA_185, oS_185, oA_186, oS_186, oA_187, oS_187, oA_188, oS_188, mO_M_has, h.f, x_has, h.rs hp]
  cases P.testBit p <;> cases s.testBit p <;> by_cases e : mns (Rs p &&& P) s = 0 <;> simp [e, bI]
theorem l_orderIn {P i k : Nat} {z : Option Value} (h : KM M n W Rs m) (hP : P < 2 ^ n) (hk : k < bct P 8) : run (ev (d + 2)) m_M_order 42 [some (.ref 174), some (.int (nI P)), some (.int (nI i)), some (.int (nI (hadk P k))), some (.int (nI 0)), some (.int (nI k))] [] NX M = run (ev (d + 2)) m_M_order 33 [some (.ref 174), some (.int (nI P)), some (.int (nI i)), some (.int (nI (hadk P (k + 1)))), some (.int (nI (tk P k))), some (.int (nI (k + 1)))] [] NX M := by
  have hn := h.n8
  have h2 := p2_le8 hn
  obtain ⟨t1, t2, t3⟩ := tk_ok hk
  have tn : tk P k < n := by
    apply Classical.byContradiction
    intro z
    rw [bit_big hP (by omega)] at t2
    cases t2
  refine (lp0 (R := fun p => run (ev (d + 2)) m_M_order 42 [some (.ref 174), some (.int (nI P)), some (.int (nI i)), some (.int (nI (hadk P k))), some (.int (nI p)), some (.int (nI k))] [] NX M) (n := tk P k) ?_).trans ?_
  · intro p hp
    have hx := x_isNext (d := d) (P := P) (s := hadk P k) (p := p) h (by omega) hadk_8 (by omega)
    have hf : (P.testBit p && !(hadk P k).testBit p && decide (mns (Rs p &&& P) (hadk P k) = 0)) = false := by
      cases e : P.testBit p
      · rfl
      · have : (hadk P k).testBit p = true := by
          rw [hadk, bsum_bit, e, decide_eq_true (show p < 8 by omega), decide_eq_true (show bct P p < k by rw [← t3]; exact bct_lt e hp)]
          rfl
        rw [this]; rfl
    rw [hf] at hx
    try dsimp only
    rw [r_M_order_42]
    simp (disch := omega) only [r_M_order_43, r_M_order_44, r_M_order_45, r_M_order_47, r_M_order_50, r_M_order_53, r_M_order_56, bnd, tl_s, tl_n, wt_nil, wt_int, wt_ref, wt_null, wt_long, Nat.reduceAdd, Nat.reduceLeDiff, if_true, if_false, decide_true, Bool.true_and, Bool.and_true, zok_n0, zok_n1, zok_bI, bI_eq0, bI_eq1, Bool.true_eq_false, Bool.false_eq_true, not_false_eq_true, not_true_eq_false, decide_false, decide_eq_false_iff_not, decide_eq_true_eq, Classical.not_not, ite_not, lit, Nat.reduceEqDiff, Nat.reduceLT, nI_add, nI_lt', nI_le', nI_eq', nI_sub', pk_mul, nI_rem', nI_div', nI_nz, remN, clampN, inb_nI, Nat.not_lt_zero, Nat.zero_le, Nat.le_zero_eq, if_true, if_false, m1_lt0, m1_eq, t_ite, f_ite, nI_and, nI_or, nI_xor, nI_shl1, nI_shr, nI_ushr, nI_not, nI_and_p2, Nat.one_mul, vrf_s, vrf_n, oF_174, oO_174, oA_175, oS_175, oA_176, oS_176, oA_177, oS_177, oA_178, oS_178, oA_179, oS_179, oA_180, oS_180, oA_181, oS_181, oA_182, oS_182, oA_183, oS_183, oA_184, oS_184, oA_185, oS_185, oA_186, oS_186, oA_187, oS_187, oA_188, oS_188, mO_M_arePlanks, mO_M_bits, mO_M_isIn, mO_M_isNext, hx, bI_f]
  · have hx := x_isNext (d := d) (P := P) (s := hadk P k) (p := tk P k) h (by omega) hadk_8 tn
    have hf : (P.testBit (tk P k) && !(hadk P k).testBit (tk P k) && decide (mns (Rs (tk P k) &&& P) (hadk P k) = 0)) = true := by
      rw [t2, Bool.true_and, Bool.and_eq_true, Bool.not_eq_true', decide_eq_true_eq, mns0]
      constructor
      · rw [hadk, bsum_bit, decide_eq_false (show ¬ bct P (tk P k) < k by omega), Bool.and_false, Bool.and_false]
      · intro j hj
        rw [Nat.testBit_and, Bool.and_eq_true] at hj
        have hjl := rs_low h.okp tn hj.1
        rw [hadk, bsum_bit, hj.2, decide_eq_true (show j < 8 by omega), decide_eq_true (show bct P j < k by rw [← t3]; exact bct_lt hj.2 hjl)]
        rfl
    rw [hf] at hx
    have hs := hadk_s hk
    have hkk := fb_ct_le (fun i => P.testBit i) 8
    have hk8 : k < 8 := by unfold bct at hk; omega
    rw [r_M_order_42]
    simp (disch := omega) only [r_M_order_43, r_M_order_44, r_M_order_45, r_M_order_47, r_M_order_50, r_M_order_53, r_M_order_56, r_M_order_59, r_M_order_60, r_M_order_61, r_M_order_63, r_M_order_64, r_M_order_65, r_M_order_66, r_M_order_69, bnd, tl_s, tl_n, wt_nil, wt_int, wt_ref, wt_null, wt_long, Nat.reduceAdd, Nat.reduceLeDiff, if_true, if_false, decide_true, Bool.true_and, Bool.and_true, zok_n0, zok_n1, zok_bI, bI_eq0, bI_eq1, Bool.true_eq_false, Bool.false_eq_true, not_false_eq_true, not_true_eq_false, decide_false, decide_eq_false_iff_not, decide_eq_true_eq, Classical.not_not, ite_not, lit, Nat.reduceEqDiff, Nat.reduceLT, nI_add, nI_lt', nI_le', nI_eq', nI_sub', pk_mul, nI_rem', nI_div', nI_nz, remN, clampN, inb_nI, Nat.not_lt_zero, Nat.zero_le, Nat.le_zero_eq, if_true, if_false, m1_lt0, m1_eq, t_ite, f_ite, nI_and, nI_or, nI_xor, nI_shl1, nI_shr, nI_ushr, nI_not, nI_and_p2, Nat.one_mul, vrf_s, vrf_n, oF_174, oO_174, oA_175, oS_175, oA_176, oS_176, oA_177, oS_177, oA_178, oS_178, oA_179, oS_179, oA_180, oS_180, oA_181, oS_181, oA_182, oS_182, oA_183, oS_183, oA_184, oS_184, oA_185, oS_185, oA_186, oS_186, oA_187, oS_187, oA_188, oS_188, mO_M_arePlanks, mO_M_bits, mO_M_isIn, mO_M_isNext, hx, bI_t, hs]
theorem P_order {v w : Int32} (hX : KX M 4 n W Rs m) (hM : KM M n W Rs m) : PubR m_X_order m_M_order [.int v, .int w] M := by
  have h8 := hX.n8
  have h2 := p2_le8 h8
  rcases ix_cases v (n := 2 ^ n) (by omega) with ⟨P, hP, rfl⟩ | hv
  · have hP8 : P < 256 := by omega
    have hkk : bct P 8 ≤ 8 := fb_ct_le (fun i => P.testBit i) 8
    have hbit : ∀ q, P.testBit q = true → q < 8 := by
      intro q hq
      apply Classical.byContradiction
      intro z
      rw [bit_big (n := 8) hP8 (by omega)] at hq
      cases hq
    have hXl : ¬ w < nI 0 → ev 100 m_X_order [.ref 0, .int (nI P), .int w] NX M = some (some (.int (fst' (fun q => P.testBit q && decide (nI (bct P q) = w)) nI (-nI 2) 8 0)), NX, M) := by
      intro hw
      rw [e_X_order]
      simp (disch := omega) only [r_X_order_0, r_X_order_0n, r_X_order_1, r_X_order_4, r_X_order_5, r_X_order_8, r_X_order_11, r_X_order_12, r_X_order_15, r_X_order_17, r_X_order_18, r_X_order_19, r_X_order_20, r_X_order_21, bnd, tl_s, tl_n, wt_nil, wt_int, wt_ref, wt_null, wt_long, Nat.reduceAdd, Nat.reduceLeDiff, if_true, if_false, decide_true, Bool.true_and, Bool.and_true, zok_n0, zok_n1, zok_bI, bI_eq0, bI_eq1, Bool.true_eq_false, Bool.false_eq_true, not_false_eq_true, not_true_eq_false, decide_false, decide_eq_false_iff_not, decide_eq_true_eq, Classical.not_not, ite_not, lit, oF_0, oO_0, oF_1, oO_1, hX.r 0 0 1 rfl, hX.r 0 1 70 rfl, hX.r 0 2 139 rfl, hX.r 0 3 140 rfl, hX.r 0 4 145 rfl, hX.r 0 5 146 rfl, hX.r 0 6 148 rfl, hX.r 0 7 152 rfl, hX.r 1 1 2 rfl, hX.r 1 2 3 rfl, hX.r 1 3 4 rfl, hX.r 1 4 6 rfl, hX.r 1 9 7 rfl, hX.r 1 11 8 rfl, hX.r 1 12 9 rfl, hX.r 4 6 5 rfl, hX.r 152 6 153 rfl, hX.r 140 0 141 rfl, hX.r 140 2 142 rfl, hX.r 140 3 143 rfl, hX.r 140 4 144 rfl, hX.r 146 0 147 rfl, hX.r 148 0 149 rfl, hX.r 148 2 150 rfl, hX.r 148 3 151 rfl, vrf_s, mO_Site_areBits, y_areBits hX hP, nI_eq', Nat.reduceEqDiff, if_false]
      rw [if_pos (Int32.not_lt.mp hw)]
      refine (lpf0 (R := fun i => run (ev 99) m_X_order 23 [some (.ref 0), some (.int (nI P)), some (.int w), some (.int (nI (bct P i))), some (.int (nI i))] [] NX M) (p := fun q => P.testBit q && decide (nI (bct P q) = w)) (a := fun q => some (some (.int (nI q)), NX, M)) (n := 8) (z := some (some (.int (-nI 2)), NX, M)) ?_ ?_).trans ?_
      · intro i hi
        have hni : ¬ 8 ≤ i := by omega
        try dsimp only
        rw [r_X_order_23]
        simp (disch := omega) only [r_X_order_25, r_X_order_27, r_X_order_30, r_X_order_31, r_X_order_33, r_X_order_36, r_X_order_39, r_X_order_40, r_X_order_41, r_X_order_44, r_X_order_46, r_X_order_47, r_X_order_50, r_X_order_53, bnd, tl_s, tl_n, wt_nil, wt_int, wt_ref, wt_null, wt_long, Nat.reduceAdd, Nat.reduceLeDiff, if_true, if_false, decide_true, Bool.true_and, Bool.and_true, zok_n0, zok_n1, zok_bI, bI_eq0, bI_eq1, Bool.true_eq_false, Bool.false_eq_true, not_false_eq_true, not_true_eq_false, decide_false, decide_eq_false_iff_not, decide_eq_true_eq, Classical.not_not, ite_not, lit, Nat.reduceEqDiff, Nat.reduceLT, nI_add, nI_lt', nI_le', nI_eq', nI_sub', pk_mul, nI_rem', nI_div', nI_nz, remN, clampN, inb_nI, Nat.not_lt_zero, Nat.zero_le, Nat.le_zero_eq, if_true, if_false, m1_lt0, m1_eq, t_ite, f_ite, nI_and, nI_or, nI_xor, nI_shl1, nI_shr, nI_ushr, nI_not, nI_and_p2, Nat.one_mul, vrf_s, vrf_n, oF_0, oO_0, oF_1, oO_1, oA_2, oS_2, oA_3, oS_3, oF_4, oO_4, oA_5, oS_5, oA_6, oS_6, oA_7, oS_7, oA_8, oS_8, oA_9, oS_9, oF_70, oO_70, oA_71, oS_71, oA_72, oS_72, oF_73, oO_73, oA_74, oS_74, oA_75, oS_75, oA_76, oS_76, oA_77, oS_77, oA_78, oS_78, oA_139, oS_139, oF_140, oO_140, oA_141, oS_141, oA_142, oS_142, oA_143, oS_143, oA_144, oS_144, oF_145, oO_145, oF_146, oO_146, oA_147, oS_147, oF_148, oO_148, oA_149, oS_149, oA_150, oS_150, oA_151, oS_151, oF_152, oO_152, oA_153, oS_153, oF_154, oO_154, oA_155, oS_155, oA_156, oS_156, oA_157, oS_157, oA_158, oS_158, oF_159, oO_159, oA_160, oS_160, oA_161, oS_161, oA_162, oS_162, oA_163, oS_163, oF_164, oO_164, oA_165, oS_165, oA_166, oS_166, oA_167, oS_167, oA_168, oS_168, oF_169, oO_169, oA_170, oS_170, oA_171, oS_171, oA_172, oS_172, oA_173, oS_173, mO_Site_areBits, mO_X_hasBit, hni, y_hasBit]
        cases e : P.testBit i
        · rw [if_pos rfl, Bool.false_and, f_ite]
          unfold bct
          rw [fb_ct_succ, e, f_ite]; rfl
        · rw [if_neg (by decide), Bool.true_and, bct_s e]
          by_cases ew : nI (bct P i) = w
          · rw [if_pos ew, decide_eq_true ew, t_ite]
          · rw [if_neg ew, decide_eq_false ew, f_ite]
      · rw [r_X_order_23]
        simp (disch := omega) only [r_X_order_25, r_X_order_27, r_X_order_30, r_X_order_31, r_X_order_33, r_X_order_36, r_X_order_39, r_X_order_40, r_X_order_41, r_X_order_44, r_X_order_46, r_X_order_47, r_X_order_50, r_X_order_53, r_X_order_56, r_X_order_58, bnd, tl_s, tl_n, wt_nil, wt_int, wt_ref, wt_null, wt_long, Nat.reduceAdd, Nat.reduceLeDiff, if_true, if_false, decide_true, Bool.true_and, Bool.and_true, zok_n0, zok_n1, zok_bI, bI_eq0, bI_eq1, Bool.true_eq_false, Bool.false_eq_true, not_false_eq_true, not_true_eq_false, decide_false, decide_eq_false_iff_not, decide_eq_true_eq, Classical.not_not, ite_not, lit, Nat.reduceEqDiff, Nat.reduceLT, nI_add, nI_lt', nI_le', nI_eq', nI_sub', pk_mul, nI_rem', nI_div', nI_nz, remN, clampN, inb_nI, Nat.not_lt_zero, Nat.zero_le, Nat.le_zero_eq, if_true, if_false, m1_lt0, m1_eq, t_ite, f_ite, nI_and, nI_or, nI_xor, nI_shl1, nI_shr, nI_ushr, nI_not, nI_and_p2, Nat.one_mul, vrf_s, vrf_n, oF_0, oO_0, oF_1, oO_1, oA_2, oS_2, oA_3, oS_3, oF_4, oO_4, oA_5, oS_5, oA_6, oS_6, oA_7, oS_7, oA_8, oS_8, oA_9, oS_9, oF_70, oO_70, oA_71, oS_71, oA_72, oS_72, oF_73, oO_73, oA_74, oS_74, oA_75, oS_75, oA_76, oS_76, oA_77, oS_77, oA_78, oS_78, oA_139, oS_139, oF_140, oO_140, oA_141, oS_141, oA_142, oS_142, oA_143, oS_143, oA_144, oS_144, oF_145, oO_145, oF_146, oO_146, oA_147, oS_147, oF_148, oO_148, oA_149, oS_149, oA_150, oS_150, oA_151, oS_151, oF_152, oO_152, oA_153, oS_153, oF_154, oO_154, oA_155, oS_155, oA_156, oS_156, oA_157, oS_157, oA_158, oS_158, oF_159, oO_159, oA_160, oS_160, oA_161, oS_161, oA_162, oS_162, oA_163, oS_163, oF_164, oO_164, oA_165, oS_165, oA_166, oS_166, oA_167, oS_167, oA_168, oS_168, oF_169, oO_169, oA_170, oS_170, oA_171, oS_171, oA_172, oS_172, oA_173, oS_173, mO_Site_areBits, mO_X_hasBit, Nat.le_refl]
      · exact fst'_map (fun b => some (some (Value.int b), NX, M)) _ nI (-nI 2) 8 0
    rcases ix_cases w (n := bct P 8) (by omega) with ⟨i, hi, rfl⟩ | hw
    · obtain ⟨t1, t2, t3⟩ := tk_ok hi
      have hr : fst' (fun q => P.testBit q && decide (nI (bct P q) = nI i)) nI (-nI 2) 8 0 = nI (tk P i) := by
        refine fst'_some (m := tk P i) ?_ (by omega) (by omega) ?_
        · rw [t2, t3]; simp
        · intro j _ hj
          rw [Bool.eq_false_iff]
          intro z
          rw [Bool.and_eq_true, decide_eq_true_eq] at z
          have h3 := bct_lt z.1 hj
          have h4 := z.2
          rw [nI_eq' (by omega) (by omega)] at h4
          omega
      refine PubR.same (.int (nI (tk P i))) ?_ ?_
      · rw [hXl (by rw [nI_lt' (by omega) (by decide)]; omega), hr]
      · have hi1 : i ≤ bct P 8 - 1 := by omega
        rw [e_M_order]
        simp (disch := omega) only [r_M_order_0, r_M_order_0n, r_M_order_1, r_M_order_2, r_M_order_5, r_M_order_8, r_M_order_9, r_M_order_10, r_M_order_11, r_M_order_14, r_M_order_15, r_M_order_16, r_M_order_19, r_M_order_22, r_M_order_24, r_M_order_25, r_M_order_26, r_M_order_27, r_M_order_28, r_M_order_30, r_M_order_31, bnd, tl_s, tl_n, wt_nil, wt_int, wt_ref, wt_null, wt_long, Nat.reduceAdd, Nat.reduceLeDiff, if_true, if_false, decide_true, Bool.true_and, Bool.and_true, zok_n0, zok_n1, zok_bI, bI_eq0, bI_eq1, Bool.true_eq_false, Bool.false_eq_true, not_false_eq_true, not_true_eq_false, decide_false, decide_eq_false_iff_not, decide_eq_true_eq, Classical.not_not, ite_not, lit, Nat.reduceEqDiff, Nat.reduceLT, nI_add, nI_lt', nI_le', nI_eq', nI_sub', pk_mul, nI_rem', nI_div', nI_nz, remN, clampN, inb_nI, Nat.not_lt_zero, Nat.zero_le, Nat.le_zero_eq, if_true, if_false, m1_lt0, m1_eq, t_ite, f_ite, nI_and, nI_or, nI_xor, nI_shl1, nI_shr, nI_ushr, nI_not, nI_and_p2, Nat.one_mul, vrf_s, vrf_n, oF_174, oO_174, oA_175, oS_175, oA_176, oS_176, oA_177, oS_177, oA_178, oS_178, oA_179, oS_179, oA_180, oS_180, oA_181, oS_181, oA_182, oS_182, oA_183, oS_183, oA_184, oS_184, oA_185, oS_185, oA_186, oS_186, oA_187, oS_187, oA_188, oS_188, mO_M_arePlanks, mO_M_bits, mO_M_isIn, mO_M_isNext, x_arePlanks hM hP, x_bits hP8, pc_ct hP8, x_isIn, hi1, true_and, bI_t]
        refine Eq.trans ?_ ((lp0 (R := fun k => run (ev 99) m_M_order 33 [some (.ref 174), some (.int (nI P)), some (.int (nI i)), some (.int (nI (hadk P k))), some (.int (if k = 0 then -nI 1 else nI (tk P (k - 1)))), some (.int (nI k))] [] NX M) (n := i + 1) ?_).trans ?_)
        · rw [if_pos rfl, show hadk P 0 = 0 by
            rw [eq0_bits]; intro j; rw [hadk, bsum_bit, decide_eq_false (Nat.not_lt_zero _), Bool.and_false, Bool.and_false]]
        · intro k hk
          have hnk : ¬ i < k := by omega
          have hl := l_orderIn (d := 97) (i := i) (z := none) hM hP (show k < bct P 8 by omega)
          try dsimp only
          rw [r_M_order_33]
          simp (disch := omega) only [r_M_order_35, r_M_order_36, r_M_order_39, r_M_order_40, bnd, tl_s, tl_n, wt_nil, wt_int, wt_ref, wt_null, wt_long, Nat.reduceAdd, Nat.reduceLeDiff, if_true, if_false, decide_true, Bool.true_and, Bool.and_true, zok_n0, zok_n1, zok_bI, bI_eq0, bI_eq1, Bool.true_eq_false, Bool.false_eq_true, not_false_eq_true, not_true_eq_false, decide_false, decide_eq_false_iff_not, decide_eq_true_eq, Classical.not_not, ite_not, lit, Nat.reduceEqDiff, Nat.reduceLT, nI_add, nI_lt', nI_le', nI_eq', nI_sub', pk_mul, nI_rem', nI_div', nI_nz, remN, clampN, inb_nI, Nat.not_lt_zero, Nat.zero_le, Nat.le_zero_eq, if_true, if_false, m1_lt0, m1_eq, t_ite, f_ite, nI_and, nI_or, nI_xor, nI_shl1, nI_shr, nI_ushr, nI_not, nI_and_p2, Nat.one_mul, vrf_s, vrf_n, oF_174, oO_174, oA_175, oS_175, oA_176, oS_176, oA_177, oS_177, oA_178, oS_178, oA_179, oS_179, oA_180, oS_180, oA_181, oS_181, oA_182, oS_182, oA_183, oS_183, oA_184, oS_184, oA_185, oS_185, oA_186, oS_186, oA_187, oS_187, oA_188, oS_188, mO_M_arePlanks, mO_M_bits, mO_M_isIn, mO_M_isNext, hnk]
          rw [hl]; rfl
        · have hlt : i < i + 1 := by omega
          rw [r_M_order_33, if_neg (by omega), Nat.add_sub_cancel]
          simp (disch := omega) only [r_M_order_35, r_M_order_36, bnd, tl_s, tl_n, wt_nil, wt_int, wt_ref, wt_null, wt_long, Nat.reduceAdd, Nat.reduceLeDiff, if_true, if_false, decide_true, Bool.true_and, Bool.and_true, zok_n0, zok_n1, zok_bI, bI_eq0, bI_eq1, Bool.true_eq_false, Bool.false_eq_true, not_false_eq_true, not_true_eq_false, decide_false, decide_eq_false_iff_not, decide_eq_true_eq, Classical.not_not, ite_not, lit, Nat.reduceEqDiff, Nat.reduceLT, nI_add, nI_lt', nI_le', nI_eq', nI_sub', pk_mul, nI_rem', nI_div', nI_nz, remN, clampN, inb_nI, Nat.not_lt_zero, Nat.zero_le, Nat.le_zero_eq, if_true, if_false, m1_lt0, m1_eq, t_ite, f_ite, nI_and, nI_or, nI_xor, nI_shl1, nI_shr, nI_ushr, nI_not, nI_and_p2, Nat.one_mul, vrf_s, vrf_n, oF_174, oO_174, oA_175, oS_175, oA_176, oS_176, oA_177, oS_177, oA_178, oS_178, oA_179, oS_179, oA_180, oS_180, oA_181, oS_181, oA_182, oS_182, oA_183, oS_183, oA_184, oS_184, oA_185, oS_185, oA_186, oS_186, oA_187, oS_187, oA_188, oS_188, mO_M_arePlanks, mO_M_bits, mO_M_isIn, mO_M_isNext, hlt]
          simp (disch := omega) only [r_M_order_72, r_M_order_74, bnd, tl_s, tl_n, wt_nil, wt_int, wt_ref, wt_null, wt_long, Nat.reduceAdd, Nat.reduceLeDiff, if_true, if_false, decide_true, Bool.true_and, Bool.and_true, zok_n0, zok_n1, zok_bI, bI_eq0, bI_eq1, Bool.true_eq_false, Bool.false_eq_true, not_false_eq_true, not_true_eq_false, decide_false, decide_eq_false_iff_not, decide_eq_true_eq, Classical.not_not, ite_not, lit, Nat.reduceEqDiff, Nat.reduceLT, nI_add, nI_lt', nI_le', nI_eq', nI_sub', pk_mul, nI_rem', nI_div', nI_nz, remN, clampN, inb_nI, Nat.not_lt_zero, Nat.zero_le, Nat.le_zero_eq, if_true, if_false, m1_lt0, m1_eq, t_ite, f_ite, nI_and, nI_or, nI_xor, nI_shl1, nI_shr, nI_ushr, nI_not, nI_and_p2, Nat.one_mul, vrf_s, vrf_n, oF_174, oO_174, oA_175, oS_175, oA_176, oS_176, oA_177, oS_177, oA_178, oS_178, oA_179, oS_179, oA_180, oS_180, oA_181, oS_181, oA_182, oS_182, oA_183, oS_183, oA_184, oS_184, oA_185, oS_185, oA_186, oS_186, oA_187, oS_187, oA_188, oS_188, mO_M_arePlanks, mO_M_bits, mO_M_isIn, mO_M_isNext]
    · refine PubR.same (.int (-nI 2)) ?_ ?_
      · by_cases e : w < nI 0
        · rw [e_X_order]
          simp (disch := omega) only [r_X_order_0, r_X_order_0n, r_X_order_1, r_X_order_4, r_X_order_5, r_X_order_8, r_X_order_11, r_X_order_12, r_X_order_15, r_X_order_17, bnd, tl_s, tl_n, wt_nil, wt_int, wt_ref, wt_null, wt_long, Nat.reduceAdd, Nat.reduceLeDiff, if_true, if_false, decide_true, Bool.true_and, Bool.and_true, zok_n0, zok_n1, zok_bI, bI_eq0, bI_eq1, Bool.true_eq_false, Bool.false_eq_true, not_false_eq_true, not_true_eq_false, decide_false, decide_eq_false_iff_not, decide_eq_true_eq, Classical.not_not, ite_not, lit, oF_0, oO_0, oF_1, oO_1, hX.r 0 0 1 rfl, hX.r 0 1 70 rfl, hX.r 0 2 139 rfl, hX.r 0 3 140 rfl, hX.r 0 4 145 rfl, hX.r 0 5 146 rfl, hX.r 0 6 148 rfl, hX.r 0 7 152 rfl, hX.r 1 1 2 rfl, hX.r 1 2 3 rfl, hX.r 1 3 4 rfl, hX.r 1 4 6 rfl, hX.r 1 9 7 rfl, hX.r 1 11 8 rfl, hX.r 1 12 9 rfl, hX.r 4 6 5 rfl, hX.r 152 6 153 rfl, hX.r 140 0 141 rfl, hX.r 140 2 142 rfl, hX.r 140 3 143 rfl, hX.r 140 4 144 rfl, hX.r 146 0 147 rfl, hX.r 148 0 149 rfl, hX.r 148 2 150 rfl, hX.r 148 3 151 rfl, vrf_s, mO_Site_areBits, y_areBits hX hP, nI_eq', Nat.reduceEqDiff, if_false]
          rw [if_neg (fun z => absurd e (Int32.not_lt.mpr z))]
        · rw [hXl e, fst'_none]
          intro j _ hj
          rw [Bool.eq_false_iff]
          intro z
          rw [Bool.and_eq_true, decide_eq_true_eq] at z
          have h3 := bct_lt z.1 (hbit j z.1)
          have := ne_bad (j := bct P j) hw h3 (by omega)
          rw [← this]; exact z.2.symm
      · have h1 := no_ix1 (n := bct P 8) (by omega) hw
        rw [e_M_order]
        simp (disch := omega) only [r_M_order_0, r_M_order_0n, r_M_order_1, r_M_order_2, r_M_order_5, r_M_order_8, r_M_order_9, r_M_order_10, r_M_order_11, r_M_order_14, r_M_order_15, r_M_order_16, r_M_order_19, r_M_order_22, r_M_order_24, bnd, tl_s, tl_n, wt_nil, wt_int, wt_ref, wt_null, wt_long, Nat.reduceAdd, Nat.reduceLeDiff, if_true, if_false, decide_true, Bool.true_and, Bool.and_true, zok_n0, zok_n1, zok_bI, bI_eq0, bI_eq1, Bool.true_eq_false, Bool.false_eq_true, not_false_eq_true, not_true_eq_false, decide_false, decide_eq_false_iff_not, decide_eq_true_eq, Classical.not_not, ite_not, lit, oF_174, oO_174, oA_175, oS_175, mO_M_arePlanks, x_arePlanks hM hP, x_bits hP8, pc_ct hP8, x_isIn, decide_eq_false h1, bI_f, nI_eq', Nat.reduceEqDiff, if_false, if_true]
  · refine PubR.same (.int (-nI 2)) ?_ ?_
    · rw [e_X_order]
      simp (disch := omega) only [r_X_order_0, r_X_order_0n, r_X_order_1, r_X_order_4, r_X_order_5, r_X_order_8, r_X_order_11, r_X_order_12, r_X_order_15, r_X_order_17, r_X_order_18, r_X_order_19, r_X_order_20, r_X_order_21, r_X_order_23, r_X_order_25, r_X_order_27, r_X_order_30, r_X_order_31, r_X_order_33, r_X_order_36, r_X_order_39, r_X_order_40, r_X_order_41, r_X_order_44, r_X_order_46, r_X_order_47, r_X_order_50, r_X_order_53, r_X_order_56, r_X_order_58, bnd, tl_s, tl_n, wt_nil, wt_int, wt_ref, wt_null, wt_long, Nat.reduceAdd, Nat.reduceLeDiff, if_true, if_false, decide_true, Bool.true_and, Bool.and_true, zok_n0, zok_n1, zok_bI, bI_eq0, bI_eq1, Bool.true_eq_false, Bool.false_eq_true, not_false_eq_true, not_true_eq_false, decide_false, decide_eq_false_iff_not, decide_eq_true_eq, Classical.not_not, ite_not, lit, Nat.reduceEqDiff, Nat.reduceLT, nI_add, nI_lt', nI_le', nI_eq', nI_sub', pk_mul, nI_rem', nI_div', nI_nz, remN, clampN, inb_nI, Nat.not_lt_zero, Nat.zero_le, Nat.le_zero_eq, if_true, if_false, m1_lt0, m1_eq, t_ite, f_ite, nI_and, nI_or, nI_xor, nI_shl1, nI_shr, nI_ushr, nI_not, nI_and_p2, Nat.one_mul, vrf_s, vrf_n, oF_0, oO_0, oF_1, oO_1, oA_2, oS_2, oA_3, oS_3, oF_4, oO_4, oA_5, oS_5, oA_6, oS_6, oA_7, oS_7, oA_8, oS_8, oA_9, oS_9, oF_70, oO_70, oA_71, oS_71, oA_72, oS_72, oF_73, oO_73, oA_74, oS_74, oA_75, oS_75, oA_76, oS_76, oA_77, oS_77, oA_78, oS_78, oA_139, oS_139, oF_140, oO_140, oA_141, oS_141, oA_142, oS_142, oA_143, oS_143, oA_144, oS_144, oF_145, oO_145, oF_146, oO_146, oA_147, oS_147, oF_148, oO_148, oA_149, oS_149, oA_150, oS_150, oA_151, oS_151, oF_152, oO_152, oA_153, oS_153, oF_154, oO_154, oA_155, oS_155, oA_156, oS_156, oA_157, oS_157, oA_158, oS_158, oF_159, oO_159, oA_160, oS_160, oA_161, oS_161, oA_162, oS_162, oA_163, oS_163, oF_164, oO_164, oA_165, oS_165, oA_166, oS_166, oA_167, oS_167, oA_168, oS_168, oF_169, oO_169, oA_170, oS_170, oA_171, oS_171, oA_172, oS_172, oA_173, oS_173, mO_Site_areBits, mO_X_hasBit, hX.r 0 0 1 rfl, hX.r 0 1 70 rfl, hX.r 0 2 139 rfl, hX.r 0 3 140 rfl, hX.r 0 4 145 rfl, hX.r 0 5 146 rfl, hX.r 0 6 148 rfl, hX.r 0 7 152 rfl, hX.r 1 1 2 rfl, hX.r 1 2 3 rfl, hX.r 1 3 4 rfl, hX.r 1 4 6 rfl, hX.r 1 9 7 rfl, hX.r 1 11 8 rfl, hX.r 1 12 9 rfl, hX.r 4 6 5 rfl, hX.r 152 6 153 rfl, hX.r 140 0 141 rfl, hX.r 140 2 142 rfl, hX.r 140 3 143 rfl, hX.r 140 4 144 rfl, hX.r 146 0 147 rfl, hX.r 148 0 149 rfl, hX.r 148 2 150 rfl, hX.r 148 3 151 rfl, y_areBits_n hX hv]
    · rw [e_M_order]
      simp (disch := omega) only [r_M_order_0, r_M_order_0n, r_M_order_1, r_M_order_2, r_M_order_5, r_M_order_8, r_M_order_9, r_M_order_10, r_M_order_11, r_M_order_14, r_M_order_15, r_M_order_16, r_M_order_19, r_M_order_22, r_M_order_24, r_M_order_25, r_M_order_26, r_M_order_27, r_M_order_28, r_M_order_30, r_M_order_31, r_M_order_33, r_M_order_35, r_M_order_36, r_M_order_39, r_M_order_40, r_M_order_42, r_M_order_42n, r_M_order_43, r_M_order_44, r_M_order_45, r_M_order_47, r_M_order_50, r_M_order_53, r_M_order_56, r_M_order_59, r_M_order_60, r_M_order_61, r_M_order_63, r_M_order_64, r_M_order_65, r_M_order_66, r_M_order_69, r_M_order_72, r_M_order_74, bnd, tl_s, tl_n, wt_nil, wt_int, wt_ref, wt_null, wt_long, Nat.reduceAdd, Nat.reduceLeDiff, if_true, if_false, decide_true, Bool.true_and, Bool.and_true, zok_n0, zok_n1, zok_bI, bI_eq0, bI_eq1, Bool.true_eq_false, Bool.false_eq_true, not_false_eq_true, not_true_eq_false, decide_false, decide_eq_false_iff_not, decide_eq_true_eq, Classical.not_not, ite_not, lit, Nat.reduceEqDiff, Nat.reduceLT, nI_add, nI_lt', nI_le', nI_eq', nI_sub', pk_mul, nI_rem', nI_div', nI_nz, remN, clampN, inb_nI, Nat.not_lt_zero, Nat.zero_le, Nat.le_zero_eq, if_true, if_false, m1_lt0, m1_eq, t_ite, f_ite, nI_and, nI_or, nI_xor, nI_shl1, nI_shr, nI_ushr, nI_not, nI_and_p2, Nat.one_mul, vrf_s, vrf_n, oF_174, oO_174, oA_175, oS_175, oA_176, oS_176, oA_177, oS_177, oA_178, oS_178, oA_179, oS_179, oA_180, oS_180, oA_181, oS_181, oA_182, oS_182, oA_183, oS_183, oA_184, oS_184, oA_185, oS_185, oA_186, oS_186, oA_187, oS_187, oA_188, oS_188, mO_M_arePlanks, mO_M_bits, mO_M_isIn, mO_M_isNext, x_arePlanks_n hM hv]
end P2
