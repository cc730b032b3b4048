/-! INTS: numbers with a sign, in both widths -/
def iI (v : Int) : Int32 := Int32.ofInt v
def iL (v : Int) : Int64 := Int64.ofInt v
theorem iI_to {v : Int} (h1 : -2147483648 ≤ v) (h2 : v < 2147483648) : (iI v).toInt = v := fb_ofI h1 h2
theorem iL_to {v : Int} (h1 : -9223372036854775808 ≤ v) (h2 : v < 9223372036854775808) : (iL v).toInt = v := by
  unfold iL
  rw [Int64.toInt_ofInt, fb_bmodL h1 h2]
theorem iI_nat (n : Nat) : iI (n : Int) = nI n := Int32.ofInt_eq_ofNat
theorem iL_nat (n : Nat) : iL (n : Int) = lN n := Int64.ofInt_eq_ofNat
theorem iI_neg (v : Int) : -iI v = iI (-v) := (Int32.ofInt_neg v).symm
theorem iL_neg (v : Int) : -iL v = iL (-v) := (Int64.ofInt_neg v).symm
theorem iI_of (x : Int32) : x = iI x.toInt := (fb_asI x).symm
theorem iI_l {v : Int} (h1 : -2147483648 ≤ v) (h2 : v < 2147483648) : (iI v).toInt64 = iL v := by
  apply Int64.toInt_inj.mp
  rw [Int32.toInt_toInt64, iI_to h1 h2, iL_to (by omega) (by omega)]
theorem iL_i (v : Int) : (iL v).toInt32 = iI v := Int64.toInt32_ofInt
theorem iL_add (a b : Int) : iL a + iL b = iL (a + b) := (Int64.ofInt_add a b).symm
theorem iL_sub (a b : Int) : iL a - iL b = iL (a - b) := (Int64.ofInt_sub a b).symm
theorem iL_mul (a b : Int) : iL a * iL b = iL (a * b) := (Int64.ofInt_mul a b).symm
theorem iI_sub (a b : Int) : iI a - iI b = iI (a - b) := (Int32.ofInt_sub a b).symm
theorem iI_add (a b : Int) : iI a + iI b = iI (a + b) := (Int32.ofInt_add a b).symm
theorem iL_div {a b : Int} (h1 : -9223372036854775808 < a) (h2 : a < 9223372036854775808) (h3 : -9223372036854775808 ≤ b) (h4 : b < 9223372036854775808) : iL a / iL b = iL (a.tdiv b) := by
  have hm : iL a ≠ Int64.minValue := by
    intro z
    have := congrArg Int64.toInt z
    rw [iL_to (by omega) h2] at this
    have e : Int64.minValue.toInt = -9223372036854775808 := by decide
    omega
  apply Int64.toInt_inj.mp
  rw [Int64.toInt_div_of_ne_left _ _ hm, iL_to (by omega) h2, iL_to h3 h4]
  have hb : (a.tdiv b).natAbs ≤ a.natAbs := by rw [Int.natAbs_tdiv]; exact Nat.div_le_self _ _
  rw [iL_to (by omega) (by omega)]
theorem iL_lt {a b : Int} (h1 : -9223372036854775808 ≤ a) (h2 : a < 9223372036854775808) (h3 : -9223372036854775808 ≤ b) (h4 : b < 9223372036854775808) : (iL a < iL b) = (a < b) := by
  apply propext; rw [Int64.lt_iff_toInt_lt, iL_to h1 h2, iL_to h3 h4]
theorem iL_le {a b : Int} (h1 : -9223372036854775808 ≤ a) (h2 : a < 9223372036854775808) (h3 : -9223372036854775808 ≤ b) (h4 : b < 9223372036854775808) : (iL a ≤ iL b) = (a ≤ b) := by
  apply propext; rw [Int64.le_iff_toInt_le, iL_to h1 h2, iL_to h3 h4]
theorem iL_eq {a b : Int} (h1 : -9223372036854775808 ≤ a) (h2 : a < 9223372036854775808) (h3 : -9223372036854775808 ≤ b) (h4 : b < 9223372036854775808) : (iL a = iL b) = (a = b) := by
  apply propext
  constructor
  · intro h
    have := congrArg Int64.toInt h
    rwa [iL_to h1 h2, iL_to h3 h4] at this
  · intro h; rw [h]
theorem iI_lt {a b : Int} (h1 : -2147483648 ≤ a) (h2 : a < 2147483648) (h3 : -2147483648 ≤ b) (h4 : b < 2147483648) : (iI a < iI b) = (a < b) := by
  apply propext; rw [Int32.lt_iff_toInt_lt, iI_to h1 h2, iI_to h3 h4]
theorem iI_le {a b : Int} (h1 : -2147483648 ≤ a) (h2 : a < 2147483648) (h3 : -2147483648 ≤ b) (h4 : b < 2147483648) : (iI a ≤ iI b) = (a ≤ b) := by
  apply propext; rw [Int32.le_iff_toInt_le, iI_to h1 h2, iI_to h3 h4]
theorem iI_eq {a b : Int} (h1 : -2147483648 ≤ a) (h2 : a < 2147483648) (h3 : -2147483648 ≤ b) (h4 : b < 2147483648) : (iI a = iI b) = (a = b) := by
  apply propext
  constructor
  · intro h
    have := congrArg Int32.toInt h
    rwa [iI_to h1 h2, iI_to h3 h4] at this
  · intro h; rw [h]
/-- within -/
def clm (lo hi v : Int) : Int := if v < lo then lo else if hi < v then hi else v
theorem clm_b {lo hi v : Int} (h : lo ≤ hi) : lo ≤ clm lo hi v ∧ clm lo hi v ≤ hi := by unfold clm; split <;> (try split) <;> omega
/-- a value that counts -/
def VB (v : Int) : Prop := -1000000 ≤ v ∧ v ≤ 1000000
theorem VB.to {v : Int} (h : VB v) : (iI v).toInt = v := iI_to (by have := h.1; omega) (by have := h.2; omega)
section IW
variable {d : Nat} {M : Mem}
theorem y_within {v : Int} {lo hi : Int32} (h1 : -9223372036854775808 ≤ v) (h2 : v < 9223372036854775808) (hlh : lo.toInt ≤ hi.toInt) : ev (d + 1) m_Sc_within [.long (iL v), .int lo, .int hi] NX M = some (some (.int (iI (clm lo.toInt hi.toInt v))), NX, M) := by
  have a1 := fb_rng lo
  have a2 := fb_rng hi
  have e1 : lo.toInt64 = iL lo.toInt := by conv => lhs; rw [iI_of lo]
                                           exact iI_l a1.1 a1.2
  have e2 : hi.toInt64 = iL hi.toInt := by conv => lhs; rw [iI_of hi]
                                           exact iI_l a2.1 a2.2
  rw [e_Sc_within]
  simp only [r_Sc_within_0, r_Sc_within_1, r_Sc_within_2, r_Sc_within_3, r_Sc_within_4, r_Sc_within_5, r_Sc_within_8, r_Sc_within_11, r_Sc_within_12, bnd, tl_s, tl_n, wt_nil, wt_int, wt_ref, wt_null, wt_long, Nat.reduceAdd, Nat.reduceLeDiff, if_true, if_false, decide_true, Bool.true_and, Bool.and_true, zok_n0, zok_n1, zok_bI, bI_eq0, bI_eq1, Bool.true_eq_false, Bool.false_eq_true, not_false_eq_true, not_true_eq_false, decide_false, decide_eq_false_iff_not, decide_eq_true_eq, Classical.not_not, ite_not, e1, e2]
  have hmin : (if iL v < iL hi.toInt then iL v else iL hi.toInt) = iL (if v < hi.toInt then v else hi.toInt) := by
    simp only [iL_lt h1 h2 (show -9223372036854775808 ≤ hi.toInt by omega) (show hi.toInt < 9223372036854775808 by omega)]; split <;> rfl
  rw [hmin]
  have hmax : (if iL (if v < hi.toInt then v else hi.toInt) < iL lo.toInt then iL lo.toInt else iL (if v < hi.toInt then v else hi.toInt)) = iL (clm lo.toInt hi.toInt v) := by
    simp only [iL_lt (show -9223372036854775808 ≤ (if v < hi.toInt then v else hi.toInt) by split <;> omega) (show (if v < hi.toInt then v else hi.toInt) < 9223372036854775808 by split <;> omega) (show -9223372036854775808 ≤ lo.toInt by omega) (show lo.toInt < 9223372036854775808 by omega)]
    unfold clm
    by_cases c1 : v < hi.toInt
    · rw [if_pos c1]
      by_cases c2 : v < lo.toInt
      · rw [if_pos c2, if_pos c2]
      · rw [if_neg c2, if_neg c2, if_neg (by omega)]
    · rw [if_neg c1, if_neg (by omega), if_neg (by omega)]
      by_cases c2 : hi.toInt < v
      · rw [if_pos c2]
      · rw [if_neg c2, show v = hi.toInt by omega]
  rw [hmax, iL_i]
theorem x_cut {v : Int} {lo hi : Int32} (h1 : -9223372036854775808 ≤ v) (h2 : v < 9223372036854775808) : ev (d + 1) m_M_cut [.long (iL v), .int lo, .int hi] NX M = some (some (.int (iI (clm lo.toInt hi.toInt v))), NX, M) := by
  have a1 := fb_rng lo
  have a2 := fb_rng hi
  have e1 : lo.toInt64 = iL lo.toInt := by conv => lhs; rw [iI_of lo]
                                           exact iI_l a1.1 a1.2
  have e2 : hi.toInt64 = iL hi.toInt := by conv => lhs; rw [iI_of hi]
                                           exact iI_l a2.1 a2.2
  rw [e_M_cut]
  simp only [r_M_cut_0, r_M_cut_1, r_M_cut_2, r_M_cut_3, r_M_cut_4, r_M_cut_7, r_M_cut_8, r_M_cut_11, r_M_cut_12, r_M_cut_13, r_M_cut_14, r_M_cut_15, r_M_cut_18, r_M_cut_19, r_M_cut_22, r_M_cut_23, r_M_cut_24, bnd, tl_s, tl_n, wt_nil, wt_int, wt_ref, wt_null, wt_long, Nat.reduceAdd, Nat.reduceLeDiff, if_true, if_false, decide_true, Bool.true_and, Bool.and_true, zok_n0, zok_n1, zok_bI, bI_eq0, bI_eq1, Bool.true_eq_false, Bool.false_eq_true, not_false_eq_true, not_true_eq_false, decide_false, decide_eq_false_iff_not, decide_eq_true_eq, Classical.not_not, ite_not, lit, e1, e2, cmp_ge, cmp_le, iL_i]
  simp only [iL_le (show -9223372036854775808 ≤ lo.toInt by omega) (show lo.toInt < 9223372036854775808 by omega) h1 h2, iL_le h1 h2 (show -9223372036854775808 ≤ hi.toInt by omega) (show hi.toInt < 9223372036854775808 by omega)]
  unfold clm
  by_cases c1 : v < lo.toInt
  · rw [if_neg (by omega), if_pos c1, ← iI_of]
  · rw [if_pos (by omega), if_neg c1]
    by_cases c2 : hi.toInt < v
    · rw [if_neg (by omega), if_pos c2, ← iI_of]
    · rw [if_pos (by omega), if_neg c2]
theorem x_clip {v : Int} (h1 : -9223372036854775808 ≤ v) (h2 : v < 9223372036854775808) : ev (d + 1) m_M_clip [.long (iL v)] NX M = some (some (.long (iL (clm (-1000000) 1000000 v))), NX, M) := by
  rw [e_M_clip]
  have e1 : (1000000 : Int64) = iL 1000000 := by decide
  simp only [r_M_clip_0, r_M_clip_1, r_M_clip_4, r_M_clip_5, r_M_clip_8, r_M_clip_11, r_M_clip_14, r_M_clip_15, r_M_clip_18, r_M_clip_19, r_M_clip_22, r_M_clip_25, r_M_clip_28, r_M_clip_29, bnd, tl_s, tl_n, wt_nil, wt_int, wt_ref, wt_null, wt_long, Nat.reduceAdd, Nat.reduceLeDiff, if_true, if_false, decide_true, Bool.true_and, Bool.and_true, zok_n0, zok_n1, zok_bI, bI_eq0, bI_eq1, Bool.true_eq_false, Bool.false_eq_true, not_false_eq_true, not_true_eq_false, decide_false, decide_eq_false_iff_not, decide_eq_true_eq, Classical.not_not, ite_not, lit, e1, iL_neg, cmp_ge, cmp_le]
  simp only [iL_le h1 h2 (show -9223372036854775808 ≤ (1000000 : Int) by omega) (show (1000000 : Int) < 9223372036854775808 by omega), iL_le (show -9223372036854775808 ≤ (-1000000 : Int) by omega) (show (-1000000 : Int) < 9223372036854775808 by omega) h1 h2]
  unfold clm
  by_cases c1 : v ≤ 1000000
  · rw [if_pos c1]
    by_cases c2 : v < -1000000
    · rw [if_neg (by omega), if_pos c2]
    · rw [if_pos (by omega), if_neg c2, if_neg (by omega)]
  · rw [if_neg c1, if_neg (by omega), if_pos (by omega)]
end IW
