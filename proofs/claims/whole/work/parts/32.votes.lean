/-! VOTES: what both sides reckon -/
def dig (o k : Nat) : Nat := if k = 0 then o / 1000 else if k = 1 then o / 100 % 10 else if k = 2 then o / 10 % 10 else o % 10
/-- the place of an option in an order; 4: none -/
def plc (o x : Nat) : Nat := if dig o 0 = x then 0 else if dig o 1 = x then 1 else if dig o 2 = x then 2 else if dig o 3 = x then 3 else 4
theorem dig_le (o k : Nat) : dig o k ≤ o := by
  unfold dig
  split
  · exact Nat.div_le_self _ _
  · split
    · exact Nat.le_trans (Nat.mod_le _ _) (Nat.div_le_self _ _)
    · split
      · exact Nat.le_trans (Nat.mod_le _ _) (Nat.div_le_self _ _)
      · exact Nat.mod_le _ _
section VM
variable {d nx : Nat} {M : Mem}
theorem x_isIn {v lo hi : Int32} : ev (d + 1) m_M_isIn [.int v, .int lo, .int hi] nx M = some (some (.int (bI (decide (lo ≤ v ∧ v ≤ hi)))), nx, M) := by
  rw [e_M_isIn]
  simp only [r_M_isIn_0, r_M_isIn_1, r_M_isIn_2, r_M_isIn_5, r_M_isIn_6, r_M_isIn_7, r_M_isIn_10, r_M_isIn_11, r_M_isIn_14, r_M_isIn_15, zok_0, zok_1, t_ite]
  by_cases h1 : v < lo
  · rw [if_pos h1, decide_eq_false (fun z => by have := Int32.lt_iff_toInt_lt.mp h1; have := Int32.le_iff_toInt_le.mp z.1; omega)]; rfl
  · rw [if_neg h1]
    have h1' : lo ≤ v := Int32.not_lt.mp h1
    by_cases h2 : hi < v
    · rw [if_pos h2, decide_eq_false (fun z => by have := Int32.lt_iff_toInt_lt.mp h2; have := Int32.le_iff_toInt_le.mp z.2; omega)]; rfl
    · rw [if_neg h2, decide_eq_true ⟨h1', Int32.not_lt.mp h2⟩]; rfl
theorem x_digitOf {o k : Nat} (ho : o < 2 ^ 31) (hk : k < 2 ^ 31) : ev (d + 1) m_M_digitOf [.int (nI o), .int (nI k)] nx M = some (some (.int (nI (dig o k))), nx, M) := by
  rw [e_M_digitOf]
  have h1 : o / 100 < 2 ^ 31 := by omega
  have h2 : o / 10 < 2 ^ 31 := by omega
  simp (disch := omega) only [r_M_digitOf_0, r_M_digitOf_1, r_M_digitOf_4, r_M_digitOf_5, r_M_digitOf_8, r_M_digitOf_9, r_M_digitOf_12, r_M_digitOf_13, r_M_digitOf_14, r_M_digitOf_17, r_M_digitOf_18, r_M_digitOf_20, r_M_digitOf_21, r_M_digitOf_23, r_M_digitOf_24, r_M_digitOf_27, r_M_digitOf_28, r_M_digitOf_29, r_M_digitOf_32, r_M_digitOf_33, r_M_digitOf_35, r_M_digitOf_36, r_M_digitOf_38, r_M_digitOf_39, r_M_digitOf_42, r_M_digitOf_43, r_M_digitOf_45, r_M_digitOf_46, lit, nI_add, nI_lt', nI_le', nI_eq', nI_sub', pk_mul, nI_rem', nI_div', nI_nz, remN, clampN, inb_nI, Nat.not_lt_zero, Nat.zero_le, Nat.le_zero_eq, if_true, if_false, m1_lt0, m1_eq, t_ite, f_ite]
  unfold dig
  by_cases e0 : k = 0
  · simp [e0]
  · by_cases e1 : k = 1
    · simp [e1]
    · by_cases e2 : k = 2
      · simp [e2]
      · simp [e0, e1, e2]
theorem l_placeIn {o x k : Nat} (ho : o < 2 ^ 31) (hx : x < 2 ^ 31) (hk : k < 1000) : run (ev (d + 1)) m_M_placeIn 2 [some (.int (nI o)), some (.int (nI x)), some (.int (nI k))] [] nx M = if dig o k = x then some (some (.int (nI k)), nx, M) else run (ev (d + 1)) m_M_placeIn 2 [some (.int (nI o)), some (.int (nI x)), some (.int (nI (k + 1)))] [] nx M := by
  have hd := dig_le o k
  rw [r_M_placeIn_2]
  simp (disch := omega) only [r_M_placeIn_0, r_M_placeIn_1, r_M_placeIn_3, r_M_placeIn_4, r_M_placeIn_7, r_M_placeIn_8, r_M_placeIn_11, r_M_placeIn_14, r_M_placeIn_17, r_M_placeIn_18, bnd, tl_s, tl_n, wt_nil, wt_int, wt_ref, wt_null, wt_long, Nat.reduceAdd, Nat.reduceLeDiff, if_true, if_false, decide_true, Bool.true_and, Bool.and_true, zok_n0, zok_n1, zok_bI, bI_eq0, bI_eq1, Bool.true_eq_false, Bool.false_eq_true, not_false_eq_true, not_true_eq_false, decide_false, decide_eq_false_iff_not, decide_eq_true_eq, Classical.not_not, ite_not, lit, nI_add, nI_lt', nI_le', nI_eq', nI_sub', pk_mul, nI_rem', nI_div', nI_nz, remN, clampN, inb_nI, Nat.not_lt_zero, Nat.zero_le, Nat.le_zero_eq, if_true, if_false, m1_lt0, m1_eq, t_ite, f_ite, x_digitOf]
theorem x_placeIn {o x : Nat} (ho : o < 2 ^ 31) (hx : x < 2 ^ 31) (h : plc o x < 4) : ev (d + 2) m_M_placeIn [.int (nI o), .int (nI x)] nx M = some (some (.int (nI (plc o x))), nx, M) := by
  rw [e_M_placeIn]
  simp only [r_M_placeIn_0, r_M_placeIn_1, lit]
  unfold plc at h ⊢
  rw [l_placeIn ho hx (by decide)]
  by_cases e0 : dig o 0 = x
  · rw [if_pos e0, if_pos e0]
  · rw [if_neg e0] at h ⊢
    rw [if_neg e0, l_placeIn ho hx (by decide)]
    by_cases e1 : dig o 1 = x
    · rw [if_pos e1, if_pos e1]
    · rw [if_neg e1] at h ⊢
      rw [if_neg e1, l_placeIn ho hx (by decide)]
      by_cases e2 : dig o 2 = x
      · rw [if_pos e2, if_pos e2]
      · rw [if_neg e2] at h ⊢
        rw [if_neg e2, l_placeIn ho hx (by decide)]
        by_cases e3 : dig o 3 = x
        · rw [if_pos e3, if_pos e3]
        · rw [if_neg e3] at h
          omega
/-- an order of the four options -/
def isO (o : Nat) : Bool := decide (o ≤ 3210) && decide (2 ^ dig o 0 ||| 2 ^ dig o 1 ||| 2 ^ dig o 2 ||| 2 ^ dig o 3 = 15)
theorem isO_chk : chk (fun o => !isO o || (decide (123 ≤ o) && decide (plc o 0 < 4) && decide (plc o 1 < 4) && decide (plc o 2 < 4) && decide (plc o 3 < 4))) 3211 = true := by decide +kernel
theorem isO_all (o : Nat) (ho : o ≤ 3210) (h : isO o = true) : 123 ≤ o ∧ ∀ x, x < 4 → plc o x < 4 := by
  have h1 := chk_all isO_chk o (by omega)
  rw [h] at h1
  simp only [Bool.not_true, Bool.false_or, Bool.and_eq_true, decide_eq_true_eq] at h1
  obtain ⟨⟨⟨⟨a, b⟩, c⟩, e⟩, f⟩ := h1
  refine ⟨a, fun x hx => ?_⟩
  have : x = 0 ∨ x = 1 ∨ x = 2 ∨ x = 3 := by omega
  rcases this with rfl | rfl | rfl | rfl <;> assumption
theorem isO_le {o : Nat} (h : isO o = true) : o ≤ 3210 := of_decide_eq_true (and3 h).1
theorem plc_ok {o x : Nat} (h : isO o = true) (hx : x < 4) : plc o x < 4 := (isO_all o (isO_le h) h).2 x hx
theorem dig9 {o : Nat} (h : o ≤ 3210) (k : Nat) : dig o k < 10 := by
  unfold dig
  split
  · omega
  · split
    · omega
    · split <;> omega
theorem pow9 {k : Nat} (h : k < 10) : 2 ^ k < 1024 := by
  have : 2 ^ k < 2 ^ 10 := Nat.pow_lt_pow_right (by decide) h
  omega
theorem or1024 {a b : Nat} (ha : a < 1024) (hb : b < 1024) : a ||| b < 1024 := Nat.or_lt_two_pow (n := 10) ha hb
theorem l_isOrder {o s k : Nat} (ho : o ≤ 3210) (hs : s < 1024) (hk : k < 4) : run (ev (d + 1)) m_M_isOrder 18 [some (.int (nI o)), some (.int (nI s)), some (.int (nI k))] [] nx M = run (ev (d + 1)) m_M_isOrder 18 [some (.int (nI o)), some (.int (nI (s ||| 2 ^ dig o k))), some (.int (nI (k + 1)))] [] nx M := by
  have hd := dig9 ho k
  have hp := pow9 hd
  rw [r_M_isOrder_18]
  simp (disch := omega) only [r_M_isOrder_19, r_M_isOrder_20, r_M_isOrder_23, r_M_isOrder_24, r_M_isOrder_25, r_M_isOrder_26, r_M_isOrder_27, r_M_isOrder_30, r_M_isOrder_31, r_M_isOrder_32, r_M_isOrder_33, r_M_isOrder_36, bnd, tl_s, tl_n, wt_nil, wt_int, wt_ref, wt_null, wt_long, Nat.reduceAdd, Nat.reduceLeDiff, if_true, if_false, decide_true, Bool.true_and, Bool.and_true, zok_n0, zok_n1, zok_bI, bI_eq0, bI_eq1, Bool.true_eq_false, Bool.false_eq_true, not_false_eq_true, not_true_eq_false, decide_false, decide_eq_false_iff_not, decide_eq_true_eq, Classical.not_not, ite_not, lit, nI_add, nI_lt', nI_le', nI_eq', nI_sub', pk_mul, nI_rem', nI_div', nI_nz, remN, clampN, inb_nI, Nat.not_lt_zero, Nat.zero_le, Nat.le_zero_eq, if_true, if_false, m1_lt0, m1_eq, t_ite, f_ite, nI_and, nI_or, nI_xor, nI_shl, nI_shr, nI_not, Nat.one_mul, x_digitOf]
  rw [if_neg (by omega)]
theorem x_isOrder {v : Int32} : ∃ b : Bool, ev (d + 2) m_M_isOrder [.int v] nx M = some (some (.int (bI b)), nx, M) ∧ (b = true → ∃ o, v = nI o ∧ isO o = true) ∧ (b = false → ∀ o, o ≤ 3210 → v = nI o → isO o = false) := by
  by_cases hv : nI 123 ≤ v ∧ v ≤ nI 3210
  · have hpos : ¬ v < 0 := by
      intro z
      have h1 := Int32.lt_iff_toInt_lt.mp z
      have h2 := Int32.le_iff_toInt_le.mp hv.1
      have e1 : (nI 123).toInt = 123 := by decide
      have e0 : (0 : Int32).toInt = 0 := by decide
      omega
    obtain ⟨o, ho, rfl⟩ := nI_of2 (M := nI 3210) (n := 3210) (by decide) (x := v) hpos hv.2
    refine ⟨isO o, ?_, fun h => ⟨o, rfl, h⟩, fun h o' ho' e => ?_⟩
    · rw [e_M_isOrder]
      simp (disch := omega) only [r_M_isOrder_0, r_M_isOrder_1, r_M_isOrder_3, r_M_isOrder_6, r_M_isOrder_9, r_M_isOrder_12, r_M_isOrder_13, bnd, tl_s, tl_n, wt_nil, wt_int, wt_ref, wt_null, wt_long, Nat.reduceAdd, Nat.reduceLeDiff, if_true, if_false, decide_true, Bool.true_and, Bool.and_true, zok_n0, zok_n1, zok_bI, bI_eq0, bI_eq1, Bool.true_eq_false, Bool.false_eq_true, not_false_eq_true, not_true_eq_false, decide_false, decide_eq_false_iff_not, decide_eq_true_eq, Classical.not_not, ite_not, x_isIn, lit, nI_add, nI_lt', nI_le', nI_eq', nI_sub', pk_mul, nI_rem', nI_div', nI_nz, remN, clampN, inb_nI, Nat.not_lt_zero, Nat.zero_le, Nat.le_zero_eq, if_true, if_false, m1_lt0, m1_eq, t_ite, f_ite]
      have h123 : 123 ≤ o := (nI_leI (by decide) (by omega)).mp hv.1
      rw [if_pos ⟨h123, ho⟩]
      simp only [r_M_isOrder_14, r_M_isOrder_15, r_M_isOrder_16, r_M_isOrder_17, lit]
      have d0 := pow9 (dig9 ho 0)
      have d1 := pow9 (dig9 ho 1)
      have d2 := pow9 (dig9 ho 2)
      have d3 := pow9 (dig9 ho 3)
      have o1 := or1024 d0 d1
      have o2 := or1024 o1 d2
      have o3 := or1024 o2 d3
      rw [l_isOrder ho (by decide) (by decide), Nat.zero_or, l_isOrder ho d0 (by decide), l_isOrder ho o1 (by decide), l_isOrder ho o2 (by decide)]
      simp (disch := omega) only [r_M_isOrder_18, r_M_isOrder_19, r_M_isOrder_20, r_M_isOrder_39, r_M_isOrder_40, r_M_isOrder_42, r_M_isOrder_45, r_M_isOrder_46, r_M_isOrder_49, r_M_isOrder_50, lit, nI_add, nI_lt', nI_le', nI_eq', nI_sub', pk_mul, nI_rem', nI_div', nI_nz, remN, clampN, inb_nI, Nat.not_lt_zero, Nat.zero_le, Nat.le_zero_eq, if_true, if_false, m1_lt0, m1_eq, t_ite, f_ite, bnd, tl_s, tl_n, wt_nil, wt_int, wt_ref, wt_null, wt_long, Nat.reduceAdd, Nat.reduceLeDiff, if_true, if_false, decide_true, Bool.true_and, Bool.and_true, zok_n0, zok_n1, zok_bI, bI_eq0, bI_eq1, Bool.true_eq_false, Bool.false_eq_true, not_false_eq_true, not_true_eq_false, decide_false, decide_eq_false_iff_not, decide_eq_true_eq, Classical.not_not, ite_not]
      unfold isO
      rw [decide_eq_true ho, Bool.true_and]
      by_cases h15 : 2 ^ dig o 0 ||| 2 ^ dig o 1 ||| 2 ^ dig o 2 ||| 2 ^ dig o 3 = 15
      · rw [if_pos h15, decide_eq_true h15]; rfl
      · rw [if_neg h15, decide_eq_false h15]; rfl
    · rw [nI_eq (by omega) (by omega)] at e
      rw [← e]; exact h
  · refine ⟨false, ?_, (fun h => by cases h), fun _ o ho e => ?_⟩
    · rw [e_M_isOrder]
      simp (disch := omega) only [r_M_isOrder_0, r_M_isOrder_1, r_M_isOrder_3, r_M_isOrder_6, r_M_isOrder_9, r_M_isOrder_12, r_M_isOrder_13, bnd, tl_s, tl_n, wt_nil, wt_int, wt_ref, wt_null, wt_long, Nat.reduceAdd, Nat.reduceLeDiff, if_true, if_false, decide_true, Bool.true_and, Bool.and_true, zok_n0, zok_n1, zok_bI, bI_eq0, bI_eq1, Bool.true_eq_false, Bool.false_eq_true, not_false_eq_true, not_true_eq_false, decide_false, decide_eq_false_iff_not, decide_eq_true_eq, Classical.not_not, ite_not, x_isIn, lit, nI_add, nI_lt', nI_le', nI_eq', nI_sub', pk_mul, nI_rem', nI_div', nI_nz, remN, clampN, inb_nI, Nat.not_lt_zero, Nat.zero_le, Nat.le_zero_eq, if_true, if_false, m1_lt0, m1_eq, t_ite, f_ite]
      rw [if_neg hv]
      rfl
    · cases hb : isO o with
      | false => rfl
      | true =>
        have h123 := (isO_all o ho hb).1
        exact absurd ⟨by rw [e]; exact nI_le h123 (by omega), by rw [e]; exact nI_le ho (by decide)⟩ hv
/-- how many more prefer the one, by the first i votes -/
def mg (V : Nat → Nat) (a b : Nat) : Nat → Int32
  | 0 => nI 0
  | i + 1 => mg V a b i + (if plc (V i) b ≤ plc (V i) a then -nI 1 else nI 1)
theorem l_more {k a b : Nat} {V : Nat → Nat} (hF : FM M) (hk : gI M 175 4 = nI k) (hk7 : k ≤ 7) (hV : ∀ i, i < k → gI M 175 (42 + i) = nI (V i) ∧ isO (V i) = true) (ha : a < 4) (hb : b < 4) : ∀ m i, i + m = k → run (ev (d + 2)) m_M_more 5 [some (.ref 174), some (.int (nI a)), some (.int (nI b)), some (.int (mg V a b i)), some (.int (nI i))] [] NX M = some (some (.int (mg V a b k)), NX, M) := by
  intro m
  induction m with
  | zero =>
    intro i hi
    rw [r_M_more_5]
    simp (disch := omega) only [r_M_more_7, r_M_more_7n, r_M_more_8, r_M_more_11, r_M_more_12, r_M_more_13, r_M_more_61, r_M_more_62, bnd, tl_s, tl_n, wt_nil, wt_int, wt_ref, wt_null, wt_long, Nat.reduceAdd, Nat.reduceLeDiff, if_true, if_false, decide_true, Bool.true_and, Bool.and_true, zok_n0, zok_n1, zok_bI, bI_eq0, bI_eq1, Bool.true_eq_false, Bool.false_eq_true, not_false_eq_true, not_true_eq_false, decide_false, decide_eq_false_iff_not, decide_eq_true_eq, Classical.not_not, ite_not, lit, nI_add, nI_lt', nI_le', nI_eq', nI_sub', pk_mul, nI_rem', nI_div', nI_nz, remN, clampN, inb_nI, Nat.not_lt_zero, Nat.zero_le, Nat.le_zero_eq, if_true, if_false, m1_lt0, m1_eq, t_ite, f_ite, oF_174, oO_174, oA_175, oS_175, hF.a, vrf_s, hk]
    rw [if_pos (by omega), show i = k by omega]
  | succ m ih =>
    intro i hi
    have hVi := (hV i (by omega)).1
    have hO := (hV i (by omega)).2
    have hle := isO_le hO
    have pa := plc_ok hO ha
    have pb := plc_ok hO hb
    rw [r_M_more_5]
    simp (disch := omega) only [r_M_more_7, r_M_more_7n, r_M_more_8, r_M_more_11, r_M_more_12, r_M_more_13, r_M_more_16, r_M_more_17, r_M_more_17n, r_M_more_18, r_M_more_21, r_M_more_23, r_M_more_25, r_M_more_26, r_M_more_27, r_M_more_28, r_M_more_31, r_M_more_31n, r_M_more_32, r_M_more_35, r_M_more_37, r_M_more_39, r_M_more_40, r_M_more_41, r_M_more_42, r_M_more_45, r_M_more_48, r_M_more_49, r_M_more_52, r_M_more_53, r_M_more_54, r_M_more_55, r_M_more_58, bnd, tl_s, tl_n, wt_nil, wt_int, wt_ref, wt_null, wt_long, Nat.reduceAdd, Nat.reduceLeDiff, if_true, if_false, decide_true, Bool.true_and, Bool.and_true, zok_n0, zok_n1, zok_bI, bI_eq0, bI_eq1, Bool.true_eq_false, Bool.false_eq_true, not_false_eq_true, not_true_eq_false, decide_false, decide_eq_false_iff_not, decide_eq_true_eq, Classical.not_not, ite_not, lit, nI_add, nI_lt', nI_le', nI_eq', nI_sub', pk_mul, nI_rem', nI_div', nI_nz, remN, clampN, inb_nI, Nat.not_lt_zero, Nat.zero_le, Nat.le_zero_eq, if_true, if_false, m1_lt0, m1_eq, t_ite, f_ite, oF_174, oO_174, oA_175, oS_175, hF.a, vrf_s, hk, hVi, x_placeIn]
    rw [if_neg (by omega)]
    have h2 := ih (i + 1) (by omega)
    rw [mg] at h2
    by_cases h : plc (V i) b ≤ plc (V i) a
    · rw [if_pos h] at h2 ⊢
      exact h2
    · rw [if_neg h] at h2 ⊢
      exact h2
theorem x_more {k a b : Nat} {V : Nat → Nat} (hF : FM M) (hk : gI M 175 4 = nI k) (hk7 : k ≤ 7) (hV : ∀ i, i < k → gI M 175 (42 + i) = nI (V i) ∧ isO (V i) = true) (ha : a < 4) (hb : b < 4) : ev (d + 3) m_M_more [.ref 174, .int (nI a), .int (nI b)] NX M = some (some (.int (mg V a b k)), NX, M) := by
  rw [e_M_more]
  simp only [r_M_more_0, r_M_more_1, r_M_more_2, r_M_more_3, lit]
  exact l_more hF hk hk7 hV ha hb k 0 (by omega)
end VM
