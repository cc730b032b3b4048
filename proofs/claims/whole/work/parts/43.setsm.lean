/-! SETS: the reference's methods, and both sides' tests of an argument -/
def KM (M : Mem) (n : Nat) (W Rs : Nat → Nat) (m : Mo) : Prop := FM M ∧ PM M 175 n W Rs ∧ MM M 175 6 1565 m ∧ OkP n W Rs ∧ OkM n m
def KX (M : Mem) (c n : Nat) (W Rs : Nat → Nat) (m : Mo) : Prop := RX M ∧ PX M 1 n W Rs ∧ MX M c m ∧ OkP n W Rs ∧ OkM n m
section CMs
variable {M : Mem} {c n : Nat} {W Rs : Nat → Nat} {m : Mo}
theorem KM.f (h : KM M n W Rs m) : gR M 174 0 = some 175 := h.1.a
theorem KM.nn (h : KM M n W Rs m) : gI M 175 0 = nI n := h.2.1.1
theorem KM.n8 (h : KM M n W Rs m) : n ≤ 8 := h.2.2.2.1.1
theorem KM.w (h : KM M n W Rs m) {p : Nat} (hp : p < n) : gI M 175 (26 + p) = nI (W p) := (h.2.1.2 p hp).1
theorem KM.rs (h : KM M n W Rs m) {p : Nat} (hp : p < n) : gI M 175 (34 + p) = nI (Rs p) := (h.2.1.2 p hp).2
theorem KM.how (h : KM M n W Rs m) {p : Nat} (hp : p < 8) : gI M 175 (10 + p) = nI (how m p) := h.2.2.1.2.2.2.2.1 p hp
theorem KM.ob (h : KM M n W Rs m) {p : Nat} (hp : p < 8) : gI M 175 (18 + p) = nI (row (mOb m) p) := h.2.2.1.2.2.2.2.2.1 p hp
theorem KM.hr (h : KM M n W Rs m) : gI M 175 6 = nI (mHr m) := h.2.2.1.1
theorem KM.x (h : KM M n W Rs m) : gI M 175 7 = nI (mXx m) := h.2.2.1.2.1
theorem KM.wd (h : KM M n W Rs m) : gI M 175 8 = nI (mWd m) := h.2.2.1.2.2.1
theorem KM.cn (h : KM M n W Rs m) : gI M 175 9 = nI (mCn m) := h.2.2.1.2.2.2.1
theorem KM.bk (h : KM M n W Rs m) {k : Nat} (hk : k < mCn m) : gI M 175 (1565 + k) = nI (mC (mBk m k)) := h.2.2.1.2.2.2.2.2.2 k hk
theorem KM.okp (h : KM M n W Rs m) : OkP n W Rs := h.2.2.2.1
theorem KM.okm (h : KM M n W Rs m) : OkM n m := h.2.2.2.2
theorem KM.okb (h : KM M n W Rs m) : OkB n (mOb m) := h.2.2.2.2.2.2.2.1
theorem KX.r (h : KX M c n W Rs m) : RX M := h.1
theorem KX.nn (h : KX M c n W Rs m) : gI M 1 0 = nI n := h.2.1.1
theorem KX.n8 (h : KX M c n W Rs m) : n ≤ 8 := h.2.2.2.1.1
theorem KX.w (h : KX M c n W Rs m) {p : Nat} (hp : p < n) : gI M 2 p = nI (W p) := (h.2.1.2 p hp).1
theorem KX.rs (h : KX M c n W Rs m) {p : Nat} (hp : p < n) : gI M 3 p = nI (Rs p) := (h.2.1.2 p hp).2
theorem KX.up (h : KX M c n W Rs m) : gI M c 0 = nI (mUp m) := h.2.2.1.1
theorem KX.co (h : KX M c n W Rs m) : gI M c 1 = nI (mCo m) := h.2.2.1.2.1
theorem KX.ob (h : KX M c n W Rs m) : gL M c 2 = lN (mOb m) := h.2.2.1.2.2.1
theorem KX.wd (h : KX M c n W Rs m) : gI M c 3 = nI (mWd m) := h.2.2.1.2.2.2.1
theorem KX.hr (h : KX M c n W Rs m) : gI M c 4 = nI (mHr m) := h.2.2.1.2.2.2.2.1
theorem KX.x (h : KX M c n W Rs m) : gI M c 5 = nI (mXx m) := h.2.2.1.2.2.2.2.2.1
theorem KX.cn (h : KX M c n W Rs m) : gI M c 7 = nI (mCn m) := h.2.2.1.2.2.2.2.2.2.1
theorem KX.bk (h : KX M c n W Rs m) {k : Nat} (hk : k < mCn m) : gI M (c + 1) k = nI (cC (mBk m k)) := h.2.2.1.2.2.2.2.2.2.2 k hk
theorem KX.okp (h : KX M c n W Rs m) : OkP n W Rs := h.2.2.2.1
theorem KX.okm (h : KX M c n W Rs m) : OkM n m := h.2.2.2.2
theorem KX.okb (h : KX M c n W Rs m) : OkB n (mOb m) := h.2.2.2.2.2.2.2.1
theorem OkP.n8 (h : OkP n W Rs) : n ≤ 8 := h.1
theorem OkP.r8 (h : OkP n W Rs) {p : Nat} (hp : p < n) : Rs p < 256 := by
  have h1 := (h.2 p hp).2.2
  have h2 := p2_8 (k := p) (by have := h.1; omega)
  omega
theorem OkM.u (h : OkM n m) : mUp m < 2 ^ n := h.1
theorem OkM.cc (h : OkM n m) : mCo m < 2 ^ n := h.2.1
theorem OkM.u8 (h : OkM n m) (hn : n ≤ 8) : mUp m < 256 := by have := h.1; have := p2_le8 hn; omega
theorem OkM.c8 (h : OkM n m) (hn : n ≤ 8) : mCo m < 256 := by have := h.2.1; have := p2_le8 hn; omega
/-! the three kinds of planks -/
theorem bsum_of {a n : Nat} (h : a < 2 ^ n) {f : Nat → Bool} (hf : ∀ i, i < n → f i = a.testBit i) : bsum n f = a := by
  apply eq_bits
  intro i
  rw [bsum_bit]
  by_cases e : i < n
  · rw [decide_eq_true e, Bool.true_and, hf i e]
  · rw [decide_eq_false e, Bool.false_and, bit_big h (by omega)]
def dwn (n : Nat) (m : Mo) : Nat := mns (2 ^ n - 1) (mUp m ||| mCo m)
def knd (n : Nat) (m : Mo) (h : Nat) : Nat := if h = 0 then dwn n m else if h = 1 then mUp m else mCo m
theorem how_kinds (hm : OkM n m) {h : Nat} (hh : h < 3) : bsum n (fun p => decide (how m p = h)) = knd n m h := by
  have h3 : h = 0 ∨ h = 1 ∨ h = 2 := by omega
  have hx := hm.2.2.1
  unfold knd how
  rcases h3 with rfl | rfl | rfl
  · rw [if_pos rfl]
    apply bsum_of
    · have := mns_le (2 ^ n - 1) (mUp m ||| mCo m)
      have := p2_pos (k := n)
      unfold dwn
      omega
    · intro i hi
      unfold dwn
      rw [mns_bit, told_bit, decide_eq_true hi, Nat.testBit_or]
      cases (mCo m).testBit i <;> cases (mUp m).testBit i <;> rfl
  · rw [if_neg (by decide), if_pos rfl]
    apply bsum_of hm.1
    intro i hi
    have := hx i
    cases e1 : (mCo m).testBit i
    · cases (mUp m).testBit i <;> rfl
    · cases e2 : (mUp m).testBit i
      · rfl
      · exact absurd ⟨e2, e1⟩ this
  · rw [if_neg (by decide), if_neg (by decide)]
    apply bsum_of hm.2.1
    intro i hi
    cases (mCo m).testBit i
    · cases (mUp m).testBit i <;> rfl
    · rfl
theorem dwn_8 (hn : n ≤ 8) : dwn n m < 256 := by
  have := mns_le (2 ^ n - 1) (mUp m ||| mCo m)
  have := told_8 hn
  unfold dwn
  omega
end CMs
theorem no_ix1 {v : Int32} {n : Nat} (hn2 : n < 2 ^ 30) (h : v < nI 0 ∨ nI n ≤ v) : ¬ (nI 0 ≤ v ∧ v ≤ nI n - nI 1) := by
  have e1 : (nI n).toInt = n := nI_toInt (by omega)
  have e2 : (nI n - nI 1).toInt = (n : Int) - 1 := pk_sub_toInt (by omega) (by decide)
  have e0 : (nI 0).toInt = 0 := by decide
  intro z
  have z1 := Int32.le_iff_toInt_le.mp z.1
  have z2 := Int32.le_iff_toInt_le.mp z.2
  rcases h with h | h
  · have := Int32.lt_iff_toInt_lt.mp h; omega
  · have h1 := Int32.le_iff_toInt_le.mp h; omega
section SMm
variable {d nx : Nat} {M : Mem} {n : Nat} {W Rs : Nat → Nat} {m : Mo}
theorem x_isPlank {p : Nat} (h : KM M n W Rs m) (hp : p < n) : ev (d + 2) m_M_isPlank [.ref 174, .int (nI p)] NX M = some (some (.int (nI 1)), NX, M) := by
  have hn := h.n8
  have h1 : p ≤ n - 1 := by omega
  rw [e_M_isPlank]
  simp (disch := omega) only [r_M_isPlank_0, r_M_isPlank_1, r_M_isPlank_2, r_M_isPlank_2n, r_M_isPlank_3, r_M_isPlank_6, r_M_isPlank_7, r_M_isPlank_8, r_M_isPlank_9, r_M_isPlank_10, r_M_isPlank_13, bnd, tl_s, tl_n, wt_nil, wt_int, wt_ref, wt_null, wt_long, Nat.reduceAdd, Nat.reduceLeDiff, if_true, if_false, decide_true, Bool.true_and, Bool.and_true, zok_n0, zok_n1, zok_bI, bI_eq0, bI_eq1, Bool.true_eq_false, Bool.false_eq_true, not_false_eq_true, not_true_eq_false, decide_false, decide_eq_false_iff_not, decide_eq_true_eq, Classical.not_not, ite_not, lit, Nat.reduceEqDiff, Nat.reduceLT, nI_add, nI_lt', nI_le', nI_eq', nI_sub', pk_mul, nI_rem', nI_div', nI_nz, remN, clampN, inb_nI, Nat.not_lt_zero, Nat.zero_le, Nat.le_zero_eq, if_true, if_false, m1_lt0, m1_eq, t_ite, f_ite, nI_and, nI_or, nI_xor, nI_shl1, nI_shr, nI_ushr, nI_not, nI_and_p2, Nat.one_mul, vrf_s, vrf_n, oF_174, oO_174, oA_175, oS_175, oA_176, oS_176, oA_177, oS_177, oA_178, oS_178, oA_179, oS_179, oA_180, oS_180, oA_181, oS_181, oA_182, oS_182, oA_183, oS_183, oA_184, oS_184, oA_185, oS_185, oA_186, oS_186, oA_187, oS_187, oA_188, oS_188, mO_M_isIn, h.f, h.nn, x_isIn, h1, true_and, bI_t]
theorem x_isPlank_n {v : Int32} (h : KM M n W Rs m) (hv : v < nI 0 ∨ nI n ≤ v) : ev (d + 2) m_M_isPlank [.ref 174, .int v] NX M = some (some (.int (nI 0)), NX, M) := by
  have hn := h.n8
  have h1 := no_ix1 (n := n) (by omega) hv
  rw [e_M_isPlank]
  simp (disch := omega) only [r_M_isPlank_0, r_M_isPlank_1, r_M_isPlank_2, r_M_isPlank_2n, r_M_isPlank_3, r_M_isPlank_6, r_M_isPlank_7, r_M_isPlank_8, r_M_isPlank_9, r_M_isPlank_10, r_M_isPlank_13, bnd, tl_s, tl_n, wt_nil, wt_int, wt_ref, wt_null, wt_long, Nat.reduceAdd, Nat.reduceLeDiff, if_true, if_false, decide_true, Bool.true_and, Bool.and_true, zok_n0, zok_n1, zok_bI, bI_eq0, bI_eq1, Bool.true_eq_false, Bool.false_eq_true, not_false_eq_true, not_true_eq_false, decide_false, decide_eq_false_iff_not, decide_eq_true_eq, Classical.not_not, ite_not, lit, clampN, inb_nI, oF_174, oO_174, oA_175, oS_175, h.f, vrf_s, h.nn, x_isIn, decide_eq_false h1, bI_f]
theorem x_everyone (h : KM M n W Rs m) : ev (d + 1) m_M_everyone [.ref 174] NX M = some (some (.int (nI (2 ^ n - 1))), NX, M) := by
  have hn := h.n8
  have := p2_pos (k := n)
  rw [e_M_everyone]
  simp (disch := omega) only [r_M_everyone_0, r_M_everyone_1, r_M_everyone_1n, r_M_everyone_2, r_M_everyone_5, r_M_everyone_6, r_M_everyone_7, r_M_everyone_8, r_M_everyone_9, r_M_everyone_10, bnd, tl_s, tl_n, wt_nil, wt_int, wt_ref, wt_null, wt_long, Nat.reduceAdd, Nat.reduceLeDiff, if_true, if_false, decide_true, Bool.true_and, Bool.and_true, zok_n0, zok_n1, zok_bI, bI_eq0, bI_eq1, Bool.true_eq_false, Bool.false_eq_true, not_false_eq_true, not_true_eq_false, decide_false, decide_eq_false_iff_not, decide_eq_true_eq, Classical.not_not, ite_not, lit, Nat.reduceEqDiff, Nat.reduceLT, nI_add, nI_lt', nI_le', nI_eq', nI_sub', pk_mul, nI_rem', nI_div', nI_nz, remN, clampN, inb_nI, Nat.not_lt_zero, Nat.zero_le, Nat.le_zero_eq, if_true, if_false, m1_lt0, m1_eq, t_ite, f_ite, nI_and, nI_or, nI_xor, nI_shl1, nI_shr, nI_ushr, nI_not, nI_and_p2, Nat.one_mul, vrf_s, vrf_n, oF_174, oO_174, oA_175, oS_175, oA_176, oS_176, oA_177, oS_177, oA_178, oS_178, oA_179, oS_179, oA_180, oS_180, oA_181, oS_181, oA_182, oS_182, oA_183, oS_183, oA_184, oS_184, oA_185, oS_185, oA_186, oS_186, oA_187, oS_187, oA_188, oS_188, h.f, h.nn]
theorem x_arePlanks {s : Nat} (h : KM M n W Rs m) (hs : s < 2 ^ n) : ev (d + 2) m_M_arePlanks [.ref 174, .int (nI s)] NX M = some (some (.int (nI 1)), NX, M) := by
  have hn := h.n8
  have h2 := p2_le8 hn
  have h1 : s ≤ 2 ^ n - 1 := by omega
  rw [e_M_arePlanks]
  simp (disch := omega) only [r_M_arePlanks_0, r_M_arePlanks_1, r_M_arePlanks_2, r_M_arePlanks_2n, r_M_arePlanks_3, r_M_arePlanks_6, r_M_arePlanks_9, bnd, tl_s, tl_n, wt_nil, wt_int, wt_ref, wt_null, wt_long, Nat.reduceAdd, Nat.reduceLeDiff, if_true, if_false, decide_true, Bool.true_and, Bool.and_true, zok_n0, zok_n1, zok_bI, bI_eq0, bI_eq1, Bool.true_eq_false, Bool.false_eq_true, not_false_eq_true, not_true_eq_false, decide_false, decide_eq_false_iff_not, decide_eq_true_eq, Classical.not_not, ite_not, lit, Nat.reduceEqDiff, Nat.reduceLT, nI_add, nI_lt', nI_le', nI_eq', nI_sub', pk_mul, nI_rem', nI_div', nI_nz, remN, clampN, inb_nI, Nat.not_lt_zero, Nat.zero_le, Nat.le_zero_eq, if_true, if_false, m1_lt0, m1_eq, t_ite, f_ite, nI_and, nI_or, nI_xor, nI_shl1, nI_shr, nI_ushr, nI_not, nI_and_p2, Nat.one_mul, vrf_s, vrf_n, oF_174, oO_174, oA_175, oS_175, oA_176, oS_176, oA_177, oS_177, oA_178, oS_178, oA_179, oS_179, oA_180, oS_180, oA_181, oS_181, oA_182, oS_182, oA_183, oS_183, oA_184, oS_184, oA_185, oS_185, oA_186, oS_186, oA_187, oS_187, oA_188, oS_188, mO_M_everyone, mO_M_isIn, x_everyone h, x_isIn, h1, true_and, bI_t]
theorem x_arePlanks_n {v : Int32} (h : KM M n W Rs m) (hv : v < nI 0 ∨ nI (2 ^ n) ≤ v) : ev (d + 2) m_M_arePlanks [.ref 174, .int v] NX M = some (some (.int (nI 0)), NX, M) := by
  have hn := h.n8
  have h2 := p2_le8 hn
  have h3 := p2_pos (k := n)
  have h1 := (no_ix (n := 2 ^ n) (by omega) (by omega) hv).1
  rw [e_M_arePlanks]
  simp (disch := omega) only [r_M_arePlanks_0, r_M_arePlanks_1, r_M_arePlanks_2, r_M_arePlanks_2n, r_M_arePlanks_3, r_M_arePlanks_6, r_M_arePlanks_9, bnd, tl_s, tl_n, wt_nil, wt_int, wt_ref, wt_null, wt_long, Nat.reduceAdd, Nat.reduceLeDiff, if_true, if_false, decide_true, Bool.true_and, Bool.and_true, zok_n0, zok_n1, zok_bI, bI_eq0, bI_eq1, Bool.true_eq_false, Bool.false_eq_true, not_false_eq_true, not_true_eq_false, decide_false, decide_eq_false_iff_not, decide_eq_true_eq, Classical.not_not, ite_not, lit, oF_174, oO_174, oA_175, oS_175, mO_M_everyone, x_everyone h, x_isIn, decide_eq_false h1, bI_f]
theorem x_those {k : Nat} (h : KM M n W Rs m) (hk : k < 3) : ev (d + 1) m_M_those [.ref 174, .int (nI k)] NX M = some (some (.int (nI (knd n m k))), NX, M) := by
  have hn := h.n8
  rw [← how_kinds h.okm hk, e_M_those]
  simp only [r_M_those_0, r_M_those_1, r_M_those_2, r_M_those_3, lit]
  refine (lp0 (R := fun i => run (ev d) m_M_those 4 [some (.ref 174), some (.int (nI k)), some (.int (nI (bsum i (fun p => decide (how m p = k))))), some (.int (nI i))] [] NX M) (n := n) ?_).trans ?_
  · intro i hi
    have hni : ¬ n ≤ i := by omega
    have h3 : how m i < 3 := by unfold how; split <;> (try split) <;> omega
    try dsimp only
    rw [r_M_those_4]
    simp (disch := omega) only [r_M_those_5, r_M_those_5n, r_M_those_6, r_M_those_9, r_M_those_10, r_M_those_11, r_M_those_14, r_M_those_15, r_M_those_15n, r_M_those_16, r_M_those_19, r_M_those_21, r_M_those_22, r_M_those_23, r_M_those_24, r_M_those_25, r_M_those_28, r_M_those_29, r_M_those_30, r_M_those_31, r_M_those_34, r_M_those_35, r_M_those_36, r_M_those_37, r_M_those_40, bnd, tl_s, tl_n, wt_nil, wt_int, wt_ref, wt_null, wt_long, Nat.reduceAdd, Nat.reduceLeDiff, if_true, if_false, decide_true, Bool.true_and, Bool.and_true, zok_n0, zok_n1, zok_bI, bI_eq0, bI_eq1, Bool.true_eq_false, Bool.false_eq_true, not_false_eq_true, not_true_eq_false, decide_false, decide_eq_false_iff_not, decide_eq_true_eq, Classical.not_not, ite_not, lit, Nat.reduceEqDiff, Nat.reduceLT, nI_add, nI_lt', nI_le', nI_eq', nI_sub', pk_mul, nI_rem', nI_div', nI_nz, remN, clampN, inb_nI, Nat.not_lt_zero, Nat.zero_le, Nat.le_zero_eq, if_true, if_false, m1_lt0, m1_eq, t_ite, f_ite, nI_and, nI_or, nI_xor, nI_shl1, nI_shr, nI_ushr, nI_not, nI_and_p2, Nat.one_mul, vrf_s, vrf_n, oF_174, oO_174, oA_175, oS_175, oA_176, oS_176, oA_177, oS_177, oA_178, oS_178, oA_179, oS_179, oA_180, oS_180, oA_181, oS_181, oA_182, oS_182, oA_183, oS_183, oA_184, oS_184, oA_185, oS_185, oA_186, oS_186, oA_187, oS_187, oA_188, oS_188, h.f, h.nn, hni, h.how (show i < 8 by omega)]
    by_cases e : how m i = k
    · rw [if_pos e, bsum_t (by simp [e])]
    · rw [if_neg e, bsum_f (by simp [e]), Nat.or_zero]
  · rw [r_M_those_4]
    simp (disch := omega) only [r_M_those_5, r_M_those_5n, r_M_those_6, r_M_those_9, r_M_those_10, r_M_those_11, r_M_those_14, r_M_those_15, r_M_those_15n, r_M_those_16, r_M_those_19, r_M_those_21, r_M_those_22, r_M_those_23, r_M_those_24, r_M_those_25, r_M_those_28, r_M_those_29, r_M_those_30, r_M_those_31, r_M_those_34, r_M_those_35, r_M_those_36, r_M_those_37, r_M_those_40, r_M_those_43, r_M_those_44, bnd, tl_s, tl_n, wt_nil, wt_int, wt_ref, wt_null, wt_long, Nat.reduceAdd, Nat.reduceLeDiff, if_true, if_false, decide_true, Bool.true_and, Bool.and_true, zok_n0, zok_n1, zok_bI, bI_eq0, bI_eq1, Bool.true_eq_false, Bool.false_eq_true, not_false_eq_true, not_true_eq_false, decide_false, decide_eq_false_iff_not, decide_eq_true_eq, Classical.not_not, ite_not, lit, Nat.reduceEqDiff, Nat.reduceLT, nI_add, nI_lt', nI_le', nI_eq', nI_sub', pk_mul, nI_rem', nI_div', nI_nz, remN, clampN, inb_nI, Nat.not_lt_zero, Nat.zero_le, Nat.le_zero_eq, if_true, if_false, m1_lt0, m1_eq, t_ite, f_ite, nI_and, nI_or, nI_xor, nI_shl1, nI_shr, nI_ushr, nI_not, nI_and_p2, Nat.one_mul, vrf_s, vrf_n, oF_174, oO_174, oA_175, oS_175, oA_176, oS_176, oA_177, oS_177, oA_178, oS_178, oA_179, oS_179, oA_180, oS_180, oA_181, oS_181, oA_182, oS_182, oA_183, oS_183, oA_184, oS_184, oA_185, oS_185, oA_186, oS_186, oA_187, oS_187, oA_188, oS_188, h.f, h.nn, Nat.le_refl]
theorem x_against {p : Nat} (h : KM M n W Rs m) (hp : p < 8) : ev (d + 2) m_M_against [.ref 174, .int (nI p)] NX M = some (some (.int (nI (ag (mOb m) p))), NX, M) := by
  have hn := h.n8
  rw [← ag_n h.okb hn, e_M_against]
  simp only [r_M_against_0, r_M_against_1, r_M_against_2, r_M_against_3, lit]
  refine (lp0 (R := fun i => run (ev (d + 1)) m_M_against 4 [some (.ref 174), some (.int (nI p)), some (.int (nI (bsum i (fun q => (row (mOb m) q).testBit p)))), some (.int (nI i))] [] NX M) (n := n) ?_).trans ?_
  · intro i hi
    have hni : ¬ n ≤ i := by omega
    have h3 := row_8 (B := mOb m) (p := i)
    try dsimp only
    rw [r_M_against_4]
    simp (disch := omega) only [r_M_against_5, r_M_against_5n, r_M_against_6, r_M_against_9, r_M_against_10, r_M_against_11, r_M_against_14, r_M_against_15, r_M_against_15n, r_M_against_16, r_M_against_19, r_M_against_21, r_M_against_22, r_M_against_23, r_M_against_24, r_M_against_25, r_M_against_28, r_M_against_31, r_M_against_32, r_M_against_33, r_M_against_34, r_M_against_37, r_M_against_38, r_M_against_39, r_M_against_40, r_M_against_43, bnd, tl_s, tl_n, wt_nil, wt_int, wt_ref, wt_null, wt_long, Nat.reduceAdd, Nat.reduceLeDiff, if_true, if_false, decide_true, Bool.true_and, Bool.and_true, zok_n0, zok_n1, zok_bI, bI_eq0, bI_eq1, Bool.true_eq_false, Bool.false_eq_true, not_false_eq_true, not_true_eq_false, decide_false, decide_eq_false_iff_not, decide_eq_true_eq, Classical.not_not, ite_not, lit, Nat.reduceEqDiff, Nat.reduceLT, nI_add, nI_lt', nI_le', nI_eq', nI_sub', pk_mul, nI_rem', nI_div', nI_nz, remN, clampN, inb_nI, Nat.not_lt_zero, Nat.zero_le, Nat.le_zero_eq, if_true, if_false, m1_lt0, m1_eq, t_ite, f_ite, nI_and, nI_or, nI_xor, nI_shl1, nI_shr, nI_ushr, nI_not, nI_and_p2, Nat.one_mul, vrf_s, vrf_n, oF_174, oO_174, oA_175, oS_175, oA_176, oS_176, oA_177, oS_177, oA_178, oS_178, oA_179, oS_179, oA_180, oS_180, oA_181, oS_181, oA_182, oS_182, oA_183, oS_183, oA_184, oS_184, oA_185, oS_185, oA_186, oS_186, oA_187, oS_187, oA_188, oS_188, mO_M_has, h.f, h.nn, hni, h.ob (show i < 8 by omega), x_has]
    cases e : (row (mOb m) i).testBit p
    · rw [if_pos rfl, bsum_f (f := fun q => (row (mOb m) q).testBit p) e, Nat.or_zero]
    · rw [if_neg (by decide), bsum_t (f := fun q => (row (mOb m) q).testBit p) e]
  · rw [r_M_against_4]
    simp (disch := omega) only [r_M_against_5, r_M_against_5n, r_M_against_6, r_M_against_9, r_M_against_10, r_M_against_11, r_M_against_14, r_M_against_15, r_M_against_15n, r_M_against_16, r_M_against_19, r_M_against_21, r_M_against_22, r_M_against_23, r_M_against_24, r_M_against_25, r_M_against_28, r_M_against_31, r_M_against_32, r_M_against_33, r_M_against_34, r_M_against_37, r_M_against_38, r_M_against_39, r_M_against_40, r_M_against_43, r_M_against_46, r_M_against_47, bnd, tl_s, tl_n, wt_nil, wt_int, wt_ref, wt_null, wt_long, Nat.reduceAdd, Nat.reduceLeDiff, if_true, if_false, decide_true, Bool.true_and, Bool.and_true, zok_n0, zok_n1, zok_bI, bI_eq0, bI_eq1, Bool.true_eq_false, Bool.false_eq_true, not_false_eq_true, not_true_eq_false, decide_false, decide_eq_false_iff_not, decide_eq_true_eq, Classical.not_not, ite_not, lit, Nat.reduceEqDiff, Nat.reduceLT, nI_add, nI_lt', nI_le', nI_eq', nI_sub', pk_mul, nI_rem', nI_div', nI_nz, remN, clampN, inb_nI, Nat.not_lt_zero, Nat.zero_le, Nat.le_zero_eq, if_true, if_false, m1_lt0, m1_eq, t_ite, f_ite, nI_and, nI_or, nI_xor, nI_shl1, nI_shr, nI_ushr, nI_not, nI_and_p2, Nat.one_mul, vrf_s, vrf_n, oF_174, oO_174, oA_175, oS_175, oA_176, oS_176, oA_177, oS_177, oA_178, oS_178, oA_179, oS_179, oA_180, oS_180, oA_181, oS_181, oA_182, oS_182, oA_183, oS_183, oA_184, oS_184, oA_185, oS_185, oA_186, oS_186, oA_187, oS_187, oA_188, oS_188, mO_M_has, h.f, h.nn, Nat.le_refl]
theorem x_objectedBy {s : Nat} (h : KM M n W Rs m) (hs : s < 256) : ev (d + 2) m_M_objectedBy [.ref 174, .int (nI s)] NX M = some (some (.int (nI (tg (mOb m) s))), NX, M) := by
  have hn := h.n8
  rw [← tgK_n h.okb hn, e_M_objectedBy]
  simp only [r_M_objectedBy_0, r_M_objectedBy_1, r_M_objectedBy_2, r_M_objectedBy_3, lit]
  refine (lp0 (R := fun i => run (ev (d + 1)) m_M_objectedBy 4 [some (.ref 174), some (.int (nI s)), some (.int (nI (tgK (mOb m) s i))), some (.int (nI i))] [] NX M) (n := n) ?_).trans ?_
  · intro i hi
    have hni : ¬ n ≤ i := by omega
    try dsimp only
    rw [r_M_objectedBy_4]
    simp (disch := omega) only [r_M_objectedBy_5, r_M_objectedBy_5n, r_M_objectedBy_6, r_M_objectedBy_9, r_M_objectedBy_10, r_M_objectedBy_11, r_M_objectedBy_14, r_M_objectedBy_15, r_M_objectedBy_16, r_M_objectedBy_17, r_M_objectedBy_20, r_M_objectedBy_23, r_M_objectedBy_23n, r_M_objectedBy_24, r_M_objectedBy_27, r_M_objectedBy_29, r_M_objectedBy_30, r_M_objectedBy_31, r_M_objectedBy_32, r_M_objectedBy_35, r_M_objectedBy_36, r_M_objectedBy_37, r_M_objectedBy_38, r_M_objectedBy_41, bnd, tl_s, tl_n, wt_nil, wt_int, wt_ref, wt_null, wt_long, Nat.reduceAdd, Nat.reduceLeDiff, if_true, if_false, decide_true, Bool.true_and, Bool.and_true, zok_n0, zok_n1, zok_bI, bI_eq0, bI_eq1, Bool.true_eq_false, Bool.false_eq_true, not_false_eq_true, not_true_eq_false, decide_false, decide_eq_false_iff_not, decide_eq_true_eq, Classical.not_not, ite_not, lit, Nat.reduceEqDiff, Nat.reduceLT, nI_add, nI_lt', nI_le', nI_eq', nI_sub', pk_mul, nI_rem', nI_div', nI_nz, remN, clampN, inb_nI, Nat.not_lt_zero, Nat.zero_le, Nat.le_zero_eq, if_true, if_false, m1_lt0, m1_eq, t_ite, f_ite, nI_and, nI_or, nI_xor, nI_shl1, nI_shr, nI_ushr, nI_not, nI_and_p2, Nat.one_mul, vrf_s, vrf_n, oF_174, oO_174, oA_175, oS_175, oA_176, oS_176, oA_177, oS_177, oA_178, oS_178, oA_179, oS_179, oA_180, oS_180, oA_181, oS_181, oA_182, oS_182, oA_183, oS_183, oA_184, oS_184, oA_185, oS_185, oA_186, oS_186, oA_187, oS_187, oA_188, oS_188, mO_M_has, h.f, h.nn, hni, h.ob (show i < 8 by omega), x_has]
    cases e : s.testBit i
    · rw [if_pos rfl, tgK, e, f_ite]
    · rw [if_neg (by decide), tgK, e, t_ite]
  · rw [r_M_objectedBy_4]
    simp (disch := omega) only [r_M_objectedBy_5, r_M_objectedBy_5n, r_M_objectedBy_6, r_M_objectedBy_9, r_M_objectedBy_10, r_M_objectedBy_11, r_M_objectedBy_14, r_M_objectedBy_15, r_M_objectedBy_16, r_M_objectedBy_17, r_M_objectedBy_20, r_M_objectedBy_23, r_M_objectedBy_23n, r_M_objectedBy_24, r_M_objectedBy_27, r_M_objectedBy_29, r_M_objectedBy_30, r_M_objectedBy_31, r_M_objectedBy_32, r_M_objectedBy_35, r_M_objectedBy_36, r_M_objectedBy_37, r_M_objectedBy_38, r_M_objectedBy_41, r_M_objectedBy_44, r_M_objectedBy_45, bnd, tl_s, tl_n, wt_nil, wt_int, wt_ref, wt_null, wt_long, Nat.reduceAdd, Nat.reduceLeDiff, if_true, if_false, decide_true, Bool.true_and, Bool.and_true, zok_n0, zok_n1, zok_bI, bI_eq0, bI_eq1, Bool.true_eq_false, Bool.false_eq_true, not_false_eq_true, not_true_eq_false, decide_false, decide_eq_false_iff_not, decide_eq_true_eq, Classical.not_not, ite_not, lit, Nat.reduceEqDiff, Nat.reduceLT, nI_add, nI_lt', nI_le', nI_eq', nI_sub', pk_mul, nI_rem', nI_div', nI_nz, remN, clampN, inb_nI, Nat.not_lt_zero, Nat.zero_le, Nat.le_zero_eq, if_true, if_false, m1_lt0, m1_eq, t_ite, f_ite, nI_and, nI_or, nI_xor, nI_shl1, nI_shr, nI_ushr, nI_not, nI_and_p2, Nat.one_mul, vrf_s, vrf_n, oF_174, oO_174, oA_175, oS_175, oA_176, oS_176, oA_177, oS_177, oA_178, oS_178, oA_179, oS_179, oA_180, oS_180, oA_181, oS_181, oA_182, oS_182, oA_183, oS_183, oA_184, oS_184, oA_185, oS_185, oA_186, oS_186, oA_187, oS_187, oA_188, oS_188, mO_M_has, h.f, h.nn, Nat.le_refl]
theorem x_isFree {s : Nat} (h : KM M n W Rs m) (hs : s < 256) : ev (d + 3) m_M_isFree [.ref 174, .int (nI s)] NX M = some (some (.int (bI (free (mOb m) s))), NX, M) := by
  have h9 : tg (mOb m) s &&& s < 256 := and_8 tg_8
  rw [e_M_isFree]
  simp (disch := omega) only [r_M_isFree_0, r_M_isFree_0n, r_M_isFree_1, r_M_isFree_2, r_M_isFree_5, r_M_isFree_6, r_M_isFree_7, r_M_isFree_10, r_M_isFree_11, r_M_isFree_14, r_M_isFree_15, bnd, tl_s, tl_n, wt_nil, wt_int, wt_ref, wt_null, wt_long, Nat.reduceAdd, Nat.reduceLeDiff, if_true, if_false, decide_true, Bool.true_and, Bool.and_true, zok_n0, zok_n1, zok_bI, bI_eq0, bI_eq1, Bool.true_eq_false, Bool.false_eq_true, not_false_eq_true, not_true_eq_false, decide_false, decide_eq_false_iff_not, decide_eq_true_eq, Classical.not_not, ite_not, lit, Nat.reduceEqDiff, Nat.reduceLT, nI_add, nI_lt', nI_le', nI_eq', nI_sub', pk_mul, nI_rem', nI_div', nI_nz, remN, clampN, inb_nI, Nat.not_lt_zero, Nat.zero_le, Nat.le_zero_eq, if_true, if_false, m1_lt0, m1_eq, t_ite, f_ite, nI_and, nI_or, nI_xor, nI_shl1, nI_shr, nI_ushr, nI_not, nI_and_p2, Nat.one_mul, vrf_s, vrf_n, oF_174, oO_174, oA_175, oS_175, oA_176, oS_176, oA_177, oS_177, oA_178, oS_178, oA_179, oS_179, oA_180, oS_180, oA_181, oS_181, oA_182, oS_182, oA_183, oS_183, oA_184, oS_184, oA_185, oS_185, oA_186, oS_186, oA_187, oS_187, oA_188, oS_188, mO_M_objectedBy, x_objectedBy h hs]
  unfold free
  by_cases h : tg (mOb m) s &&& s = 0 <;> simp [h, bI]
theorem x_isHeld {s : Nat} (h : KM M n W Rs m) (hs : s < 2 ^ n) : ev (d + 4) m_M_isHeld [.ref 174, .int (nI s)] NX M = some (some (.int (bI (hold (mOb m) s))), NX, M) := by
  have hn := h.n8
  have h2 := p2_le8 hn
  rw [e_M_isHeld]
  simp (disch := omega) only [r_M_isHeld_0, r_M_isHeld_0n, r_M_isHeld_1, r_M_isHeld_2, r_M_isHeld_5, r_M_isHeld_8, r_M_isHeld_9, r_M_isHeld_10, r_M_isHeld_11, bnd, tl_s, tl_n, wt_nil, wt_int, wt_ref, wt_null, wt_long, Nat.reduceAdd, Nat.reduceLeDiff, if_true, if_false, decide_true, Bool.true_and, Bool.and_true, zok_n0, zok_n1, zok_bI, bI_eq0, bI_eq1, Bool.true_eq_false, Bool.false_eq_true, not_false_eq_true, not_true_eq_false, decide_false, decide_eq_false_iff_not, decide_eq_true_eq, Classical.not_not, ite_not, lit, Nat.reduceEqDiff, Nat.reduceLT, nI_add, nI_lt', nI_le', nI_eq', nI_sub', pk_mul, nI_rem', nI_div', nI_nz, remN, clampN, inb_nI, Nat.not_lt_zero, Nat.zero_le, Nat.le_zero_eq, if_true, if_false, m1_lt0, m1_eq, t_ite, f_ite, nI_and, nI_or, nI_xor, nI_shl1, nI_shr, nI_ushr, nI_not, nI_and_p2, Nat.one_mul, vrf_s, vrf_n, oF_174, oO_174, oA_175, oS_175, oA_176, oS_176, oA_177, oS_177, oA_178, oS_178, oA_179, oS_179, oA_180, oS_180, oA_181, oS_181, oA_182, oS_182, oA_183, oS_183, oA_184, oS_184, oA_185, oS_185, oA_186, oS_186, oA_187, oS_187, oA_188, oS_188, mO_M_isFree, mO_M_has, mO_M_against, mO_M_objectedBy, x_isFree h (show s < 256 by omega)]
  unfold hold
  cases free (mOb m) s
  · rfl
  · rw [if_neg (by decide), Bool.true_and]
    refine (lpf0 (R := fun i => run (ev (d + 3)) m_M_isHeld 12 [some (.ref 174), some (.int (nI s)), some (.int (nI i))] [] NX M) (p := fun p => s.testBit p && !decide (mns (ag (mOb m) p) (tg (mOb m) s) = 0)) (a := fun _ => some (some (.int (bI false)), NX, M)) (n := n) (z := some (some (.int (bI true)), NX, M)) ?_ ?_).trans ?_
    · intro i hi
      have hni : ¬ n ≤ i := by omega
      have h7 := mns_le (ag (mOb m) i) (tg (mOb m) s)
      have h8 := ag_8 (B := mOb m) (p := i)
      try dsimp only
      rw [r_M_isHeld_12]
      simp (disch := omega) only [r_M_isHeld_13, r_M_isHeld_13n, r_M_isHeld_14, r_M_isHeld_17, r_M_isHeld_18, r_M_isHeld_19, r_M_isHeld_22, r_M_isHeld_23, r_M_isHeld_24, r_M_isHeld_27, r_M_isHeld_30, r_M_isHeld_30n, r_M_isHeld_31, r_M_isHeld_32, r_M_isHeld_35, r_M_isHeld_35n, r_M_isHeld_36, r_M_isHeld_37, r_M_isHeld_40, r_M_isHeld_41, r_M_isHeld_42, r_M_isHeld_43, r_M_isHeld_46, r_M_isHeld_47, r_M_isHeld_48, r_M_isHeld_51, bnd, tl_s, tl_n, wt_nil, wt_int, wt_ref, wt_null, wt_long, Nat.reduceAdd, Nat.reduceLeDiff, if_true, if_false, decide_true, Bool.true_and, Bool.and_true, zok_n0, zok_n1, zok_bI, bI_eq0, bI_eq1, Bool.true_eq_false, Bool.false_eq_true, not_false_eq_true, not_true_eq_false, decide_false, decide_eq_false_iff_not, decide_eq_true_eq, Classical.not_not, ite_not, lit, Nat.reduceEqDiff, Nat.reduceLT, nI_add, nI_lt', nI_le', nI_eq', nI_sub', pk_mul, nI_rem', nI_div', nI_nz, remN, clampN, inb_nI, Nat.not_lt_zero, Nat.zero_le, Nat.le_zero_eq, if_true, if_false, m1_lt0, m1_eq, t_ite, f_ite, nI_and, nI_or, nI_xor, nI_shl1, nI_shr, nI_ushr, nI_not, nI_and_p2, Nat.one_mul, vrf_s, vrf_n, oF_174, oO_174, oA_175, oS_175, oA_176, oS_176, oA_177, oS_177, oA_178, oS_178, oA_179, oS_179, oA_180, oS_180, oA_181, oS_181, oA_182, oS_182, oA_183, oS_183, oA_184, oS_184, oA_185, oS_185, oA_186, oS_186, oA_187, oS_187, oA_188, oS_188, mO_M_isFree, mO_M_has, mO_M_against, mO_M_objectedBy, h.f, h.nn, hni, x_has, x_against h (show i < 8 by omega), x_objectedBy h (show s < 256 by omega)]
      cases e : s.testBit i
      · rw [if_pos rfl, Bool.false_and, f_ite]
      · rw [if_neg (by decide), Bool.true_and]
        by_cases e2 : mns (ag (mOb m) i) (tg (mOb m) s) = 0
        · simp [e2]
        · simp [e2]; rfl
    · rw [r_M_isHeld_12]
      simp (disch := omega) only [r_M_isHeld_13, r_M_isHeld_13n, r_M_isHeld_14, r_M_isHeld_17, r_M_isHeld_18, r_M_isHeld_19, r_M_isHeld_22, r_M_isHeld_23, r_M_isHeld_24, r_M_isHeld_27, r_M_isHeld_30, r_M_isHeld_30n, r_M_isHeld_31, r_M_isHeld_32, r_M_isHeld_35, r_M_isHeld_35n, r_M_isHeld_36, r_M_isHeld_37, r_M_isHeld_40, r_M_isHeld_41, r_M_isHeld_42, r_M_isHeld_43, r_M_isHeld_46, r_M_isHeld_47, r_M_isHeld_48, r_M_isHeld_51, r_M_isHeld_54, r_M_isHeld_55, bnd, tl_s, tl_n, wt_nil, wt_int, wt_ref, wt_null, wt_long, Nat.reduceAdd, Nat.reduceLeDiff, if_true, if_false, decide_true, Bool.true_and, Bool.and_true, zok_n0, zok_n1, zok_bI, bI_eq0, bI_eq1, Bool.true_eq_false, Bool.false_eq_true, not_false_eq_true, not_true_eq_false, decide_false, decide_eq_false_iff_not, decide_eq_true_eq, Classical.not_not, ite_not, lit, Nat.reduceEqDiff, Nat.reduceLT, nI_add, nI_lt', nI_le', nI_eq', nI_sub', pk_mul, nI_rem', nI_div', nI_nz, remN, clampN, inb_nI, Nat.not_lt_zero, Nat.zero_le, Nat.le_zero_eq, if_true, if_false, m1_lt0, m1_eq, t_ite, f_ite, nI_and, nI_or, nI_xor, nI_shl1, nI_shr, nI_ushr, nI_not, nI_and_p2, Nat.one_mul, vrf_s, vrf_n, oF_174, oO_174, oA_175, oS_175, oA_176, oS_176, oA_177, oS_177, oA_178, oS_178, oA_179, oS_179, oA_180, oS_180, oA_181, oS_181, oA_182, oS_182, oA_183, oS_183, oA_184, oS_184, oA_185, oS_185, oA_186, oS_186, oA_187, oS_187, oA_188, oS_188, mO_M_isFree, mO_M_has, mO_M_against, mO_M_objectedBy, h.f, h.nn, Nat.le_refl]
      rfl
    · have hx := hold_each h.okb hn hs
      by_cases e : mns (atk (mOb m) s) (tg (mOb m) s) = 0
      · rw [decide_eq_true e, fst'_none]
        intro j _ hj
        have := hx.mpr e j (by omega)
        cases e3 : s.testBit j
        · rfl
        · rw [this e3]; rfl
      · rw [decide_eq_false e]
        have hno : ¬ ∀ p, p < n → s.testBit p = true → mns (ag (mOb m) p) (tg (mOb m) s) = 0 := fun z => e (hx.mp z)
        have hall : allb (fun p => !(s.testBit p && !decide (mns (ag (mOb m) p) (tg (mOb m) s) = 0))) n 0 = false := by
          rw [Bool.eq_false_iff]
          intro z
          rw [allb_iff] at z
          apply hno
          intro p hp hsp
          have := z p (by omega) (by omega)
          rw [hsp] at this
          simpa using this
        refine Eq.trans ?_ (congrArg (fun b => (some (some (Value.int (bI b)), NX, M) : Option Res)) hall)
        rw [allb_fst]
        refine Eq.trans ?_ (fst'_map (fun b => (some (some (Value.int (bI b)), NX, M) : Option Res)) _ (fun _ => false) true n 0)
        simp only [Bool.not_not]
end SMm
