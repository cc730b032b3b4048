/-! VOTES: what both sides reckon -/
def dig (o k : Nat) : Nat := if k = 0 then o / 1000 else if k = 1 then o / 100 % 10 else if k = 2 then o / 10 % 10 else o % 10
/-- the place of an option in an order; 4: none -/
def plc (o x : Nat) : Nat := if dig o 0 = x then 0 else if dig o 1 = x then 1 else if dig o 2 = x then 2 else if dig o 3 = x then 3 else 4
theorem dig_le (o k : Nat) : dig o k ≤ o := by
  unfold dig
  split
  · exact Nat.div_le_self _ _
  · split
    · exact Nat.le_trans (Nat.mod_le _ _) (Nat.div_le_self _ _)
    · split
      · exact Nat.le_trans (Nat.mod_le _ _) (Nat.div_le_self _ _)
      · exact Nat.mod_le _ _
section VM
variable {d nx : Nat} {M : Mem}
theorem x_isIn {v lo hi : Int32} : ev (d + 1) m_M_isIn [.int v, .int lo, .int hi] nx M = some (some (.int (bI (decide (lo ≤ v ∧ v ≤ hi)))), nx, M) := by
  rw [e_M_isIn]
  simp only [r_M_isIn_0, r_M_isIn_1, r_M_isIn_2, r_M_isIn_5, r_M_isIn_6, r_M_isIn_7, r_M_isIn_10, r_M_isIn_11, r_M_isIn_14, r_M_isIn_15, zok_0, zok_1, t_ite]
  by_cases h1 : v < lo
  · rw [if_pos h1, decide_eq_false (fun z => by have := Int32.lt_iff_toInt_lt.mp h1; have := Int32.le_iff_toInt_le.mp z.1; omega)]; rfl
  · rw [if_neg h1]
    have h1' : lo ≤ v := Int32.not_lt.mp h1
    by_cases h2 : hi < v
    · rw [if_pos h2, decide_eq_false (fun z => by have := Int32.lt_iff_toInt_lt.mp h2; have := Int32.le_iff_toInt_le.mp z.2; omega)]; rfl
    · rw [if_neg h2, decide_eq_true ⟨h1', Int32.not_lt.mp h2⟩]; rfl
theorem x_digitOf {o k : Nat} (ho : o < 2 ^ 31) (hk : k < 2 ^ 31) : ev (d + 1) m_M_digitOf [.int (nI o), .int (nI k)] nx M = some (some (.int (nI (dig o k))), nx, M) := by
  rw [e_M_digitOf]
  have h1 : o / 100 < 2 ^ 31 := by omega
  have h2 : o / 10 < 2 ^ 31 := by omega
  simp (disch := omega) only [r_M_digitOf_0, r_M_digitOf_1, r_M_digitOf_4, r_M_digitOf_5, r_M_digitOf_8, r_M_digitOf_9, r_M_digitOf_12, r_M_digitOf_13, r_M_digitOf_14, r_M_digitOf_17, r_M_digitOf_18, r_M_digitOf_20, r_M_digitOf_21, r_M_digitOf_23, r_M_digitOf_24, r_M_digitOf_27, r_M_digitOf_28, r_M_digitOf_29, r_M_digitOf_32, r_M_digitOf_33, r_M_digitOf_35, r_M_digitOf_36, r_M_digitOf_38, r_M_digitOf_39, r_M_digitOf_42, r_M_digitOf_43, r_M_digitOf_45, r_M_digitOf_46, lit, nI_add, nI_lt', nI_le', nI_eq', nI_sub', pk_mul, nI_rem', nI_div', nI_nz, clampN, inb_nI, nI_neg, m1_lt0, m1_eq, t_ite, f_ite]
  unfold dig
  by_cases e0 : k = 0
  · simp [e0]
  · by_cases e1 : k = 1
    · simp [e1]
    · by_cases e2 : k = 2
      · simp [e2]
      · simp [e0, e1, e2]
theorem l_placeIn {o x k : Nat} (ho : o < 2 ^ 31) (hx : x < 2 ^ 31) (hk : k < 1000) : run (ev (d + 1)) m_M_placeIn 2 [some (.int (nI o)), some (.int (nI x)), some (.int (nI k))] [] nx M = if dig o k = x then some (some (.int (nI k)), nx, M) else run (ev (d + 1)) m_M_placeIn 2 [some (.int (nI o)), some (.int (nI x)), some (.int (nI (k + 1)))] [] nx M := by
  have hd := dig_le o k
  rw [r_M_placeIn_2]
  simp (disch := omega) only [r_M_placeIn_0, r_M_placeIn_1, r_M_placeIn_3, r_M_placeIn_4, r_M_placeIn_7, r_M_placeIn_8, r_M_placeIn_11, r_M_placeIn_14, r_M_placeIn_17, r_M_placeIn_18, bnd, tl_s, tl_n, wt_nil, wt_int, wt_ref, wt_null, wt_long, decide_true, Bool.true_and, Bool.and_true, zok_n0, zok_n1, zok_bI, lit, nI_add, nI_lt', nI_le', nI_eq', nI_sub', pk_mul, nI_rem', nI_div', nI_nz, clampN, inb_nI, nI_neg, m1_lt0, m1_eq, t_ite, f_ite, x_digitOf]
theorem x_placeIn {o x : Nat} (ho : o < 2 ^ 31) (hx : x < 2 ^ 31) (h : plc o x < 4) : ev (d + 2) m_M_placeIn [.int (nI o), .int (nI x)] nx M = some (some (.int (nI (plc o x))), nx, M) := by
  rw [e_M_placeIn]
  simp only [r_M_placeIn_0, r_M_placeIn_1, lit]
  unfold plc at h ⊢
  rw [l_placeIn ho hx (by decide)]
  by_cases e0 : dig o 0 = x
  · rw [if_pos e0, if_pos e0]
  · rw [if_neg e0] at h ⊢
    rw [if_neg e0, l_placeIn ho hx (by decide)]
    by_cases e1 : dig o 1 = x
    · rw [if_pos e1, if_pos e1]
    · rw [if_neg e1] at h ⊢
      rw [if_neg e1, l_placeIn ho hx (by decide)]
      by_cases e2 : dig o 2 = x
      · rw [if_pos e2, if_pos e2]
      · rw [if_neg e2] at h ⊢
        rw [if_neg e2, l_placeIn ho hx (by decide)]
        by_cases e3 : dig o 3 = x
        · rw [if_pos e3, if_pos e3]
        · rw [if_neg e3] at h
          omega
end VM
