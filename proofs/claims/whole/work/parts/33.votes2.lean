/-! VOTES, the class's side -/
def VC (M : Mem) (k : Nat) (V : Nat → Nat) : Prop := gR M 0 0 = some 1 ∧ gR M 1 9 = some 7 ∧ gI M 1 10 = nI k ∧ k ≤ 7 ∧ ∀ i, i < k → gI M 7 i = nI (V i) ∧ isO (V i) = true
def VMo (M : Mem) (k : Nat) (V : Nat → Nat) : Prop := FM M ∧ gI M 175 4 = nI k ∧ k ≤ 7 ∧ ∀ i, i < k → gI M 175 (42 + i) = nI (V i) ∧ isO (V i) = true
section VC
variable {d nx : Nat} {M : Mem} {k : Nat} {V : Nat → Nat}
theorem y_isOption {a : Nat} (ha : a < 2 ^ 31) : ev (d + 1) m_Bal_isOption [.int (nI a)] nx M = some (some (.int (bI (decide (a < 4)))), nx, M) := by
  rw [e_Bal_isOption]
  simp (disch := omega) only [r_Bal_isOption_0, r_Bal_isOption_1, r_Bal_isOption_4, r_Bal_isOption_5, r_Bal_isOption_6, r_Bal_isOption_9, r_Bal_isOption_10, r_Bal_isOption_13, r_Bal_isOption_14, lit, nI_add, nI_lt', nI_le', nI_eq', nI_sub', pk_mul, nI_rem', nI_div', nI_nz, remN, clampN, inb_nI, Nat.not_lt_zero, Nat.zero_le, Nat.le_zero_eq, if_true, if_false, m1_lt0, m1_eq, t_ite, f_ite, bnd, tl_s, tl_n, wt_nil, wt_int, wt_ref, wt_null, wt_long, Nat.reduceAdd, Nat.reduceLeDiff, if_true, if_false, decide_true, Bool.true_and, Bool.and_true, zok_n0, zok_n1, zok_bI, bI_eq0, bI_eq1, Bool.true_eq_false, Bool.false_eq_true, not_false_eq_true, not_true_eq_false, decide_false, decide_eq_false_iff_not, decide_eq_true_eq, Classical.not_not, ite_not]
  by_cases h : a < 4
  · rw [if_neg (by omega), decide_eq_true h]; rfl
  · rw [if_pos (by omega), decide_eq_false h]; rfl
theorem y_optionAt {o j : Nat} (ho : o < 2 ^ 31) (hk : j < 2 ^ 31) : ev (d + 1) m_Bal_optionAt [.int (nI o), .int (nI j)] nx M = some (some (.int (nI (dig o j))), nx, M) := by
  rw [e_Bal_optionAt]
  have h1 : o / 100 < 2 ^ 31 := by omega
  have h2 : o / 10 < 2 ^ 31 := by omega
  simp (disch := omega) only [r_Bal_optionAt_0, r_Bal_optionAt_1, r_Bal_optionAt_28, r_Bal_optionAt_29, r_Bal_optionAt_32, r_Bal_optionAt_33, r_Bal_optionAt_34, r_Bal_optionAt_35, r_Bal_optionAt_37, r_Bal_optionAt_38, r_Bal_optionAt_40, r_Bal_optionAt_41, r_Bal_optionAt_42, r_Bal_optionAt_43, r_Bal_optionAt_45, r_Bal_optionAt_46, r_Bal_optionAt_48, r_Bal_optionAt_49, r_Bal_optionAt_50, r_Bal_optionAt_51, r_Bal_optionAt_53, r_Bal_optionAt_54, lit, nI_add, nI_lt', nI_le', nI_eq', nI_sub', pk_mul, nI_rem', nI_div', nI_nz, remN, clampN, inb_nI, Nat.not_lt_zero, Nat.zero_le, Nat.le_zero_eq, if_true, if_false, m1_lt0, m1_eq, t_ite, f_ite]
  unfold dig
  by_cases e0 : j = 0
  · simp [e0]
  · by_cases e1 : j = 1
    · simp [e1]
    · by_cases e2 : j = 2
      · simp [e2]
      · simp [e0, e1, e2]
theorem l_placeOf {o x j : Nat} (ho : o < 2 ^ 31) (hx : x < 2 ^ 31) (hk : j < 4) : run (ev (d + 1)) m_Bal_placeOf 2 [some (.int (nI o)), some (.int (nI x)), some (.int (nI j))] [] nx M = if dig o j = x then some (some (.int (nI j)), nx, M) else run (ev (d + 1)) m_Bal_placeOf 2 [some (.int (nI o)), some (.int (nI x)), some (.int (nI (j + 1)))] [] nx M := by
  have hd := dig_le o j
  rw [r_Bal_placeOf_2]
  simp (disch := omega) only [r_Bal_placeOf_0, r_Bal_placeOf_1, r_Bal_placeOf_3, r_Bal_placeOf_4, r_Bal_placeOf_7, r_Bal_placeOf_8, r_Bal_placeOf_9, r_Bal_placeOf_12, r_Bal_placeOf_13, r_Bal_placeOf_16, r_Bal_placeOf_17, r_Bal_placeOf_18, r_Bal_placeOf_21, r_Bal_placeOf_24, r_Bal_placeOf_25, bnd, tl_s, tl_n, wt_nil, wt_int, wt_ref, wt_null, wt_long, Nat.reduceAdd, Nat.reduceLeDiff, if_true, if_false, decide_true, Bool.true_and, Bool.and_true, zok_n0, zok_n1, zok_bI, bI_eq0, bI_eq1, Bool.true_eq_false, Bool.false_eq_true, not_false_eq_true, not_true_eq_false, decide_false, decide_eq_false_iff_not, decide_eq_true_eq, Classical.not_not, ite_not, lit, nI_add, nI_lt', nI_le', nI_eq', nI_sub', pk_mul, nI_rem', nI_div', nI_nz, remN, clampN, inb_nI, Nat.not_lt_zero, Nat.zero_le, Nat.le_zero_eq, if_true, if_false, m1_lt0, m1_eq, t_ite, f_ite, y_optionAt]
  rw [if_neg (by omega)]
theorem y_placeOf {o x : Nat} (ho : o < 2 ^ 31) (hx : x < 2 ^ 31) : ev (d + 2) m_Bal_placeOf [.int (nI o), .int (nI x)] nx M = some (some (.int (nI (plc o x))), nx, M) := by
  rw [e_Bal_placeOf]
  simp only [r_Bal_placeOf_0, r_Bal_placeOf_1, lit]
  unfold plc
  rw [l_placeOf ho hx (by decide)]
  by_cases e0 : dig o 0 = x
  · rw [if_pos e0, if_pos e0]
  · rw [if_neg e0, if_neg e0, l_placeOf ho hx (by decide)]
    by_cases e1 : dig o 1 = x
    · rw [if_pos e1, if_pos e1]
    · rw [if_neg e1, if_neg e1, l_placeOf ho hx (by decide)]
      by_cases e2 : dig o 2 = x
      · rw [if_pos e2, if_pos e2]
      · rw [if_neg e2, if_neg e2, l_placeOf ho hx (by decide)]
        by_cases e3 : dig o 3 = x
        · rw [if_pos e3, if_pos e3]
        · rw [if_neg e3, if_neg e3]
          simp (disch := omega) only [r_Bal_placeOf_0, r_Bal_placeOf_1, r_Bal_placeOf_2, r_Bal_placeOf_3, r_Bal_placeOf_4, r_Bal_placeOf_7, r_Bal_placeOf_8, r_Bal_placeOf_9, r_Bal_placeOf_12, r_Bal_placeOf_13, r_Bal_placeOf_16, r_Bal_placeOf_17, r_Bal_placeOf_18, r_Bal_placeOf_21, r_Bal_placeOf_24, r_Bal_placeOf_25, bnd, tl_s, tl_n, wt_nil, wt_int, wt_ref, wt_null, wt_long, Nat.reduceAdd, Nat.reduceLeDiff, if_true, if_false, decide_true, Bool.true_and, Bool.and_true, zok_n0, zok_n1, zok_bI, bI_eq0, bI_eq1, Bool.true_eq_false, Bool.false_eq_true, not_false_eq_true, not_true_eq_false, decide_false, decide_eq_false_iff_not, decide_eq_true_eq, Classical.not_not, ite_not, lit, nI_add, nI_lt', nI_le', nI_eq', nI_sub', pk_mul, nI_rem', nI_div', nI_nz, remN, clampN, inb_nI, Nat.not_lt_zero, Nat.zero_le, Nat.le_zero_eq, if_true, if_false, m1_lt0, m1_eq, t_ite, f_ite]
theorem l_margin {a b : Nat} (hC : VC M k V) (ha : a < 4) (hb : b < 4) : ∀ m i z, i + m = k → run (ev (d + 2)) m_Bal_margin 5 [some (.ref 1), some (.int (nI a)), some (.int (nI b)), some (.int (mg V a b i)), some (.int (nI i)), z] [] NX M = some (some (.int (mg V a b k)), NX, M) := by
  obtain ⟨h0, h1, h2, h3, h4⟩ := hC
  intro m
  induction m with
  | zero =>
    intro i z hi
    rw [r_Bal_margin_5]
    simp (disch := omega) only [r_Bal_margin_7, r_Bal_margin_7n, r_Bal_margin_8, r_Bal_margin_11, r_Bal_margin_59, r_Bal_margin_60, bnd, tl_s, tl_n, wt_nil, wt_int, wt_ref, wt_null, wt_long, Nat.reduceAdd, Nat.reduceLeDiff, if_true, if_false, decide_true, Bool.true_and, Bool.and_true, zok_n0, zok_n1, zok_bI, bI_eq0, bI_eq1, Bool.true_eq_false, Bool.false_eq_true, not_false_eq_true, not_true_eq_false, decide_false, decide_eq_false_iff_not, decide_eq_true_eq, Classical.not_not, ite_not, lit, nI_add, nI_lt', nI_le', nI_eq', nI_sub', pk_mul, nI_rem', nI_div', nI_nz, remN, clampN, inb_nI, Nat.not_lt_zero, Nat.zero_le, Nat.le_zero_eq, if_true, if_false, m1_lt0, m1_eq, t_ite, f_ite, oF_1, oO_1, oA_7, oS_7, h1, vrf_s, h2]
    rw [if_pos (by omega), show i = k by omega]
  | succ m ih =>
    intro i z hi
    have hVi := (h4 i (by omega)).1
    have hO := (h4 i (by omega)).2
    have hle := isO_le hO
    have pa := plc_ok hO ha
    have pb := plc_ok hO hb
    rw [r_Bal_margin_5]
    simp (disch := omega) only [r_Bal_margin_7, r_Bal_margin_7n, r_Bal_margin_8, r_Bal_margin_11, r_Bal_margin_14, r_Bal_margin_16, r_Bal_margin_18, r_Bal_margin_21, r_Bal_margin_21n, r_Bal_margin_22, r_Bal_margin_25, r_Bal_margin_27, r_Bal_margin_28, r_Bal_margin_30, r_Bal_margin_31, r_Bal_margin_33, r_Bal_margin_34, r_Bal_margin_37, r_Bal_margin_39, r_Bal_margin_40, r_Bal_margin_43, r_Bal_margin_46, r_Bal_margin_47, r_Bal_margin_50, r_Bal_margin_51, r_Bal_margin_52, r_Bal_margin_53, r_Bal_margin_56, bnd, tl_s, tl_n, wt_nil, wt_int, wt_ref, wt_null, wt_long, Nat.reduceAdd, Nat.reduceLeDiff, if_true, if_false, decide_true, Bool.true_and, Bool.and_true, zok_n0, zok_n1, zok_bI, bI_eq0, bI_eq1, Bool.true_eq_false, Bool.false_eq_true, not_false_eq_true, not_true_eq_false, decide_false, decide_eq_false_iff_not, decide_eq_true_eq, Classical.not_not, ite_not, lit, nI_add, nI_lt', nI_le', nI_eq', nI_sub', pk_mul, nI_rem', nI_div', nI_nz, remN, clampN, inb_nI, Nat.not_lt_zero, Nat.zero_le, Nat.le_zero_eq, if_true, if_false, m1_lt0, m1_eq, t_ite, f_ite, oF_1, oO_1, oA_7, oS_7, h1, vrf_s, h2, hVi, y_placeOf]
    rw [if_neg (by omega), if_neg (by omega)]
    have h5 := ih (i + 1) (some (.int (nI (V i)))) (by omega)
    rw [mg] at h5
    by_cases h : plc (V i) b ≤ plc (V i) a
    · rw [if_pos h] at h5 ⊢
      exact h5
    · rw [if_neg h] at h5 ⊢
      exact h5
theorem y_margin {a b : Nat} (hC : VC M k V) (ha : a < 4) (hb : b < 4) : ev (d + 3) m_Bal_margin [.ref 1, .int (nI a), .int (nI b)] NX M = some (some (.int (mg V a b k)), NX, M) := by
  rw [e_Bal_margin]
  simp only [r_Bal_margin_0, r_Bal_margin_1, r_Bal_margin_2, r_Bal_margin_3, lit]
  exact l_margin hC ha hb k 0 none (by omega)
/-- the class asks the same of an order -/
theorem l_isOrd {o s j : Nat} {z : Option Value} (ho : o ≤ 3210) (hs : s < 1024) (hk : j < 4) : run (ev (d + 1)) m_Bal_isOrder 17 [some (.int (nI o)), some (.int (nI s)), some (.int (nI j)), z] [] nx M = if dig o j < 4 then run (ev (d + 1)) m_Bal_isOrder 17 [some (.int (nI o)), some (.int (nI (s ||| 2 ^ dig o j))), some (.int (nI (j + 1))), some (.int (nI (dig o j)))] [] nx M else some (some (.int (nI 0)), nx, M) := by
  have hd := dig9 ho j
  have hp := pow9 hd
  rw [r_Bal_isOrder_17]
  simp (disch := omega) only [r_Bal_isOrder_18, r_Bal_isOrder_19, r_Bal_isOrder_22, r_Bal_isOrder_23, r_Bal_isOrder_24, r_Bal_isOrder_27, r_Bal_isOrder_28, r_Bal_isOrder_29, r_Bal_isOrder_32, r_Bal_isOrder_35, r_Bal_isOrder_36, r_Bal_isOrder_37, r_Bal_isOrder_38, r_Bal_isOrder_39, r_Bal_isOrder_40, r_Bal_isOrder_41, r_Bal_isOrder_42, r_Bal_isOrder_43, r_Bal_isOrder_46, bnd, tl_s, tl_n, wt_nil, wt_int, wt_ref, wt_null, wt_long, Nat.reduceAdd, Nat.reduceLeDiff, if_true, if_false, decide_true, Bool.true_and, Bool.and_true, zok_n0, zok_n1, zok_bI, bI_eq0, bI_eq1, Bool.true_eq_false, Bool.false_eq_true, not_false_eq_true, not_true_eq_false, decide_false, decide_eq_false_iff_not, decide_eq_true_eq, Classical.not_not, ite_not, lit, nI_add, nI_lt', nI_le', nI_eq', nI_sub', pk_mul, nI_rem', nI_div', nI_nz, remN, clampN, inb_nI, Nat.not_lt_zero, Nat.zero_le, Nat.le_zero_eq, if_true, if_false, m1_lt0, m1_eq, t_ite, f_ite, nI_and, nI_or, nI_xor, nI_shl, nI_shr, nI_not, Nat.one_mul, y_optionAt, y_isOption]
  rw [if_neg (by omega)]
def isO4 (o : Nat) : Bool := decide (dig o 0 < 4) && decide (dig o 1 < 4) && decide (dig o 2 < 4) && decide (dig o 3 < 4)
theorem isO4_chk : chk (fun o => !isO o || isO4 o) 3211 = true := by decide +kernel
theorem isO4_of {o : Nat} (h : isO o = true) : isO4 o = true := by
  have h1 := chk_all isO4_chk o (by have := isO_le h; omega)
  rw [h] at h1
  exact h1
theorem dig4 {o j : Nat} (h : isO o = true) (hj : j < 4) : dig o j < 4 := by
  have h1 := isO4_of h
  unfold isO4 at h1
  simp only [Bool.and_eq_true, decide_eq_true_eq] at h1
  obtain ⟨⟨⟨a, b⟩, c⟩, e⟩ := h1
  have : j = 0 ∨ j = 1 ∨ j = 2 ∨ j = 3 := by omega
  rcases this with rfl | rfl | rfl | rfl <;> assumption
theorem y_isOrderN {o : Nat} (ho : o ≤ 3210) : ev (d + 2) m_Bal_isOrder [.int (nI o)] nx M = some (some (.int (bI (isO o))), nx, M) := by
  rw [e_Bal_isOrder]
  simp (disch := omega) only [r_Bal_isOrder_0, r_Bal_isOrder_1, r_Bal_isOrder_4, r_Bal_isOrder_5, r_Bal_isOrder_8, r_Bal_isOrder_11, r_Bal_isOrder_12, bnd, tl_s, tl_n, wt_nil, wt_int, wt_ref, wt_null, wt_long, Nat.reduceAdd, Nat.reduceLeDiff, if_true, if_false, decide_true, Bool.true_and, Bool.and_true, zok_n0, zok_n1, zok_bI, bI_eq0, bI_eq1, Bool.true_eq_false, Bool.false_eq_true, not_false_eq_true, not_true_eq_false, decide_false, decide_eq_false_iff_not, decide_eq_true_eq, Classical.not_not, ite_not, lit, nI_add, nI_lt', nI_le', nI_eq', nI_sub', pk_mul, nI_rem', nI_div', nI_nz, remN, clampN, inb_nI, Nat.not_lt_zero, Nat.zero_le, Nat.le_zero_eq, if_true, if_false, m1_lt0, m1_eq, t_ite, f_ite]
  rw [if_pos ho]
  simp only [r_Bal_isOrder_13, r_Bal_isOrder_14, r_Bal_isOrder_15, r_Bal_isOrder_16, lit]
  have d0 := pow9 (dig9 ho 0)
  have d1 := pow9 (dig9 ho 1)
  have d2 := pow9 (dig9 ho 2)
  have d3 := pow9 (dig9 ho 3)
  have o1 := or1024 d0 d1
  have o2 := or1024 o1 d2
  have o3 := or1024 o2 d3
  have no : isO4 o = false → isO o = false := fun h => by
    cases hb : isO o with
    | false => rfl
    | true => rw [isO4_of hb] at h; cases h
  rw [l_isOrd ho (by decide) (by decide), Nat.zero_or]
  by_cases e0 : dig o 0 < 4
  · rw [if_pos e0, l_isOrd ho d0 (by decide)]
    by_cases e1 : dig o 1 < 4
    · rw [if_pos e1, l_isOrd ho o1 (by decide)]
      by_cases e2 : dig o 2 < 4
      · rw [if_pos e2, l_isOrd ho o2 (by decide)]
        by_cases e3 : dig o 3 < 4
        · rw [if_pos e3]
          simp (disch := omega) only [r_Bal_isOrder_17, r_Bal_isOrder_18, r_Bal_isOrder_19, r_Bal_isOrder_49, r_Bal_isOrder_50, r_Bal_isOrder_52, r_Bal_isOrder_55, r_Bal_isOrder_56, r_Bal_isOrder_59, r_Bal_isOrder_60, lit, nI_add, nI_lt', nI_le', nI_eq', nI_sub', pk_mul, nI_rem', nI_div', nI_nz, remN, clampN, inb_nI, Nat.not_lt_zero, Nat.zero_le, Nat.le_zero_eq, if_true, if_false, m1_lt0, m1_eq, t_ite, f_ite, bnd, tl_s, tl_n, wt_nil, wt_int, wt_ref, wt_null, wt_long, Nat.reduceAdd, Nat.reduceLeDiff, if_true, if_false, decide_true, Bool.true_and, Bool.and_true, zok_n0, zok_n1, zok_bI, bI_eq0, bI_eq1, Bool.true_eq_false, Bool.false_eq_true, not_false_eq_true, not_true_eq_false, decide_false, decide_eq_false_iff_not, decide_eq_true_eq, Classical.not_not, ite_not]
          unfold isO
          rw [decide_eq_true ho, Bool.true_and]
          by_cases h15 : 2 ^ dig o 0 ||| 2 ^ dig o 1 ||| 2 ^ dig o 2 ||| 2 ^ dig o 3 = 15
          · rw [if_pos h15, decide_eq_true h15]; rfl
          · rw [if_neg h15, decide_eq_false h15]; rfl
        · rw [if_neg e3, no (by unfold isO4; rw [decide_eq_false e3, Bool.and_false])]; rfl
      · rw [if_neg e2, no (by unfold isO4; rw [decide_eq_false e2, Bool.and_false, Bool.false_and])]; rfl
    · rw [if_neg e1, no (by unfold isO4; rw [decide_eq_false e1, Bool.and_false, Bool.false_and, Bool.false_and])]; rfl
  · rw [if_neg e0, no (by unfold isO4; rw [decide_eq_false e0, Bool.false_and, Bool.false_and, Bool.false_and])]; rfl
/-- any int: an order that both sides take, or one that neither does -/
theorem ord_cases (v : Int32) : (∃ o, o ≤ 3210 ∧ v = nI o) ∨ v < nI 0 ∨ nI 3211 ≤ v := by
  rcases pk_ix v (n := 3211) (by decide) with h | h | ⟨j, hj, h⟩
  · exact Or.inr (Or.inl h)
  · exact Or.inr (Or.inr h)
  · exact Or.inl ⟨j, by omega, h⟩
theorem x_isOrderN {o : Nat} (ho : o ≤ 3210) : ev (d + 2) m_M_isOrder [.int (nI o)] nx M = some (some (.int (bI (isO o))), nx, M) := by
  obtain ⟨b, h1, h2, h3⟩ := x_isOrder (d := d) (nx := nx) (M := M) (v := nI o)
  cases b with
  | false => rw [h1, h3 rfl o ho rfl]
  | true =>
    obtain ⟨o', e, h⟩ := h2 rfl
    rw [nI_eq (by omega) (by have := isO_le h; omega)] at e
    rw [h1, e, h]
theorem ge_ne {v : Int32} (h : nI 3211 ≤ v) : ¬ v < nI 0 ∧ ¬ v ≤ nI 3210 := by
  have h1 := Int32.le_iff_toInt_le.mp h
  have e1 : (nI 3211).toInt = 3211 := by decide
  have e2 : (nI 3210).toInt = 3210 := by decide
  have e0 : (nI 0).toInt = 0 := by decide
  exact ⟨fun z => by have := Int32.lt_iff_toInt_lt.mp z; omega, fun z => by have := Int32.le_iff_toInt_le.mp z; omega⟩
theorem isOrder_no {v : Int32} (h : v < nI 0 ∨ nI 3211 ≤ v) : ev (d + 2) m_Bal_isOrder [.int v] nx M = some (some (.int (nI 0)), nx, M) ∧ ev (d + 2) m_M_isOrder [.int v] nx M = some (some (.int (nI 0)), nx, M) := by
  constructor
  · rw [e_Bal_isOrder]
    simp (disch := omega) only [r_Bal_isOrder_0, r_Bal_isOrder_1, r_Bal_isOrder_4, r_Bal_isOrder_5, r_Bal_isOrder_8, r_Bal_isOrder_11, r_Bal_isOrder_12, bnd, tl_s, tl_n, wt_nil, wt_int, wt_ref, wt_null, wt_long, Nat.reduceAdd, Nat.reduceLeDiff, if_true, if_false, decide_true, Bool.true_and, Bool.and_true, zok_n0, zok_n1, zok_bI, bI_eq0, bI_eq1, Bool.true_eq_false, Bool.false_eq_true, not_false_eq_true, not_true_eq_false, decide_false, decide_eq_false_iff_not, decide_eq_true_eq, Classical.not_not, ite_not, lit, nI_add, nI_lt', nI_le', nI_eq', nI_sub', pk_mul, nI_rem', nI_div', nI_nz, remN, clampN, inb_nI, Nat.not_lt_zero, Nat.zero_le, Nat.le_zero_eq, if_true, if_false, m1_lt0, m1_eq, t_ite, f_ite]
    rcases h with h | h
    · rw [if_pos h]
    · rw [if_neg (ge_ne h).1, if_neg (ge_ne h).2]
  · obtain ⟨b, h1, h2, h3⟩ := x_isOrder (d := d) (nx := nx) (M := M) (v := v)
    cases b with
    | false => exact h1
    | true =>
      obtain ⟨o', e, h'⟩ := h2 rfl
      have hle := isO_le h'
      subst e
      rcases h with h | h
      · exact absurd h (nI_pos (by omega))
      · exact absurd (nI_le hle (by decide)) (ge_ne h).2
end VC
