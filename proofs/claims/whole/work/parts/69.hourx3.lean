/-! HOURS: the class passes one; steps -/
theorem fal_xx {g : Option (Env → Int)} {n : Nat} {W Rs : Nat → Nat} {m : Mo} {x p : Nat} : fal g n W Rs (mXxS m x) p = fal g n W Rs m p := rfl
theorem OkM.xx' {n : Nat} {m : Mo} (h : OkM n m) {x : Nat} (hx : x < 30829) : OkM n (mXxS m x) := ⟨h.1, h.2.1, h.2.2.1, h.2.2.2.1, h.2.2.2.2.1, h.2.2.2.2.2.1, hx, h.2.2.2.2.2.2.2⟩
theorem OkM.xx {n : Nat} {m : Mo} (h : OkM n m) (x : Nat) : OkM n (mXxS m (trn x)) := h.xx' (trn_lt x)
theorem mHr_xx (m : Mo) (x : Nat) : mHr (mXxS m x) = mHr m := rfl
theorem mUp_xx (m : Mo) (x : Nat) : mUp (mXxS m x) = mUp m := rfl
theorem mHr_wd (m : Mo) (x : Nat) : mHr (mWdS m x) = mHr m := rfl
theorem OkM.wd {n : Nat} {m : Mo} (h : OkM n m) {w : Nat} (hw : w < 10) : OkM n (mWdS m w) := ⟨h.1, h.2.1, h.2.2.1, h.2.2.2.1, hw, h.2.2.2.2.2⟩
theorem OkM.hr {n : Nat} {m : Mo} (h : OkM n m) {w : Nat} (hw : w ≤ 9999) : OkM n (mHrS m w) := ⟨h.1, h.2.1, h.2.2.1, h.2.2.2.1, h.2.2.2.2.1, hw, h.2.2.2.2.2.2⟩
theorem wrK_hr {m : Mo} {F p : Nat} : ∀ j, mHr (wrK m F p j) = mHr m ∧ mUp (wrK m F p j) = mUp m ∧ mCo (wrK m F p j) = mCo m ∧ mOb (wrK m F p j) = mOb m ∧ mWd (wrK m F p j) = mWd m ∧ mXx (wrK m F p j) = mXx m := by
  intro j
  induction j with
  | zero => exact ⟨rfl, rfl, rfl, rfl, rfl, rfl⟩
  | succ j ih =>
    rw [wrK]
    split
    · exact ih
    · exact ih
theorem fallM_hr {n : Nat} {Rs : Nat → Nat} {m : Mo} {p : Nat} : mHr (fallM n Rs m p) = mHr m := (wrK_hr _).1
theorem psK_hr {g : Option (Env → Int)} {n : Nat} {W Rs : Nat → Nat} {m : Mo} : ∀ p, mHr (psK g n W Rs m p).1 = mHr m := by
  intro p
  induction p with
  | zero => rw [psK]; dsimp only; rw [mHr_wd, mHr_xx]
  | succ p ih =>
    rw [psK]
    split
    · split
      · dsimp only; rw [fallM_hr, mHr_xx]; exact ih
      · dsimp only; rw [mHr_xx]; exact ih
    · exact ih
theorem psK_n {g : Option (Env → Int)} {n : Nat} {W Rs : Nat → Nat} {m : Mo} : ∀ p, p ≤ n → n ≤ 8 → (psK g n W Rs m p).2 ≤ 8 * p := by
  intro p
  induction p with
  | zero => intro _ _; exact Nat.le_refl _
  | succ p ih =>
    intro hp hn
    have h1 := ih (by omega) hn
    rw [psK]
    split
    · split
      · have := pc_le (flK_8 (Rs := Rs) (u := mUp (psK g n W Rs m p).1) (p := p) (j := n - (p + 1)) (by omega))
        show (psK g n W Rs m p).2 + pc (flK Rs (mUp (psK g n W Rs m p).1) p (n - (p + 1))) ≤ 8 * (p + 1)
        omega
      · show (psK g n W Rs m p).2 ≤ 8 * (p + 1)
        omega
    · omega
section HY
variable {d c : Nat} {M M' : Mem} {s : St} {T : Nat → Tx} {m : Mo}
theorem y_passHour (h : CXm M c s T m) (hhr : mHr m ≤ 9998) : ∃ M', D (Pm c) M M' ∧ MX M' c (pasM (lwO (rlT s T) 1) (sN s) (sW s) (sRs s) m) ∧ OkM (sN s) (pasM (lwO (rlT s T) 1) (sN s) (sW s) (sRs s) m) ∧ ev (d + 6) m_X_passHour [.ref 0, .ref c] NX M = some (some (.int (nI (pasN (lwO (rlT s T) 1) (sN s) (sW s) (sRs s) m))), NX, M') := by
  have hK := h.1
  have h8 := hK.n8
  have hm := h.mo
  obtain ⟨f1, f2, f3, f4, f5, f6⟩ := moF hm
  have hx := hK.okm.2.2.2.2.2.2.1
  have hdr := y_draw (d := d + 3) hm hK.2.2.1 hx
  have hm1 := (hK.2.2.1.xx (trn (mXx m))).wd' (mXx m % 10)
  have ho1 : OkM (sN s) (mWdS (mXxS m (trn (mXx m))) (mXx m % 10)) := (hK.okm.xx _).wd (Nat.mod_lt _ (by decide))
  have hd1 : D (Pm c) M (sI (sI M c 5 (nI (trn (mXx m)))) c 3 (nI (mXx m % 10))) := (D.rfl'.sI (Or.inl ⟨rfl, by decide⟩)).sI (Or.inl ⟨rfl, by decide⟩)
  obtain ⟨M2, ⟨i1, i2, i3⟩, i4⟩ := lpE (R := fun p (X : Mem) => run (ev (d + 5)) m_X_passHour 14 [some (.ref 0), some (.ref c), some (.int (nI (psK (lwO (rlT s T) 1) (sN s) (sW s) (sRs s) m p).2)), some (.int (nI p))] [] NX X) (I := fun p X => D (Pm c) M X ∧ MX X c (psK (lwO (rlT s T) 1) (sN s) (sW s) (sRs s) m p).1 ∧ OkM (sN s) (psK (lwO (rlT s T) 1) (sN s) (sW s) (sRs s) m p).1) (n := sN s) (by
    intro p X hp ⟨x1, x2, x3⟩
    have hC := h.set x1 x2 x3
    have hni : ¬ sN s ≤ p := by omega
    have hu8 := x3.u8 h8
    have hN := psK_n (g := lwO (rlT s T) 1) (W := sW s) (Rs := sRs s) (m := m) p (by omega) h8
    try dsimp only
    rw [r_X_passHour_14]
    cases e : (mUp (psK (lwO (rlT s T) 1) (sN s) (sW s) (sRs s) m p).1).testBit p
    · refine ⟨X, ⟨x1, by rw [psK, e, f_ite]; exact x2, by rw [psK, e, f_ite]; exact x3⟩, ?_⟩
      rw [psK, e, f_ite]
      simp (disch := omega) only [r_X_passHour_15, r_X_passHour_15n, r_X_passHour_16, r_X_passHour_19, r_X_passHour_22, r_X_passHour_25, r_X_passHour_25n, r_X_passHour_26, r_X_passHour_29, r_X_passHour_30, r_X_passHour_33, r_X_passHour_36, r_X_passHour_36n, r_X_passHour_37, r_X_passHour_39, r_X_passHour_42, r_X_passHour_42n, r_X_passHour_43, r_X_passHour_46, r_X_passHour_46n, r_X_passHour_47, r_X_passHour_50, r_X_passHour_50n, r_X_passHour_51, r_X_passHour_54, r_X_passHour_54n, r_X_passHour_55, r_X_passHour_56, r_X_passHour_59, r_X_passHour_62, r_X_passHour_63, r_X_passHour_63n, r_X_passHour_64, r_X_passHour_64n, r_X_passHour_65, r_X_passHour_66, r_X_passHour_69, r_X_passHour_70, r_X_passHour_71, r_X_passHour_74, bnd, tl_s, tl_n, wt_nil, wt_int, wt_ref, wt_null, wt_long, Nat.reduceAdd, Nat.reduceLeDiff, if_true, if_false, decide_true, Bool.true_and, Bool.and_true, zok_n0, zok_n1, zok_bI, bI_eq0, bI_eq1, Bool.true_eq_false, Bool.false_eq_true, not_false_eq_true, not_true_eq_false, decide_false, decide_eq_false_iff_not, decide_eq_true_eq, Classical.not_not, ite_not, lit, Nat.reduceEqDiff, Nat.reduceLT, nI_add, nI_lt', nI_le', nI_eq', nI_sub', pk_mul, nI_rem', nI_div', nI_nz, remN, clampN, inb_nI, Nat.not_lt_zero, Nat.zero_le, Nat.le_zero_eq, if_true, if_false, m1_lt0, m1_eq, t_ite, f_ite, Bool.not_false, Bool.not_true, nI_and, nI_or, nI_xor, nI_shl1, nI_shr, nI_ushr, nI_not, nI_and_p2, Nat.one_mul, vrf_s, vrf_n, oF_0, oO_0, oF_1, oO_1, oA_2, oS_2, oA_3, oS_3, oF_4, oO_4, oA_5, oS_5, oA_6, oS_6, oA_7, oS_7, oA_8, oS_8, oA_9, oS_9, oF_70, oO_70, oA_71, oS_71, oA_72, oS_72, oF_73, oO_73, oA_74, oS_74, oA_75, oS_75, oA_76, oS_76, oA_77, oS_77, oA_78, oS_78, oA_139, oS_139, oF_140, oO_140, oA_141, oS_141, oA_142, oS_142, oA_143, oS_143, oA_144, oS_144, oF_145, oO_145, oF_146, oO_146, oA_147, oS_147, oF_148, oO_148, oA_149, oS_149, oA_150, oS_150, oA_151, oS_151, oF_152, oO_152, oA_153, oS_153, oF_154, oO_154, oA_155, oS_155, oA_156, oS_156, oA_157, oS_157, oA_158, oS_158, oF_159, oO_159, oA_160, oS_160, oA_161, oS_161, oA_162, oS_162, oA_163, oS_163, oF_164, oO_164, oA_165, oS_165, oA_166, oS_166, oA_167, oS_167, oA_168, oS_168, oF_169, oO_169, oA_170, oS_170, oA_171, oS_171, oA_172, oS_172, oA_173, oS_173, mO_Mom_draw, mO_X_hasBit, mO_X_ruling, mO_Sc_fallsOf, mO_X_letFall, hC.1.r 0 0 1 rfl, hC.1.r 0 1 70 rfl, hC.1.r 0 2 139 rfl, hC.1.r 0 3 140 rfl, hC.1.r 0 4 145 rfl, hC.1.r 0 5 146 rfl, hC.1.r 0 6 148 rfl, hC.1.r 0 7 152 rfl, hC.1.r 1 1 2 rfl, hC.1.r 1 2 3 rfl, hC.1.r 1 3 4 rfl, hC.1.r 1 4 6 rfl, hC.1.r 1 9 7 rfl, hC.1.r 1 11 8 rfl, hC.1.r 1 12 9 rfl, hC.1.r 4 6 5 rfl, hC.1.r 152 6 153 rfl, hC.1.r 140 0 141 rfl, hC.1.r 140 2 142 rfl, hC.1.r 140 3 143 rfl, hC.1.r 140 4 144 rfl, hC.1.r 146 0 147 rfl, hC.1.r 148 0 149 rfl, hC.1.r 148 2 150 rfl, hC.1.r 148 3 151 rfl, hC.1.nn, hni, f1, hC.1.up, y_hasBit, e, bI_f]
    · have hx2 := x3.2.2.2.2.2.2.1
      have hdr2 := y_draw (d := d + 3) hm x2 hx2
      have hd2 : D (Pm c) X (sI X c 5 (nI (trn (mXx (psK (lwO (rlT s T) 1) (sN s) (sW s) (sRs s) m p).1)))) := D.rfl'.sI (Or.inl ⟨rfl, by decide⟩)
      have hC2 := hC.set hd2 (x2.xx (trn (mXx (psK (lwO (rlT s T) 1) (sN s) (sW s) (sRs s) m p).1))) (x3.xx _)
      obtain ⟨V, Y, v1, v2, v3⟩ := y_fallsR (d := d) hC2 hp
      rw [fal_xx] at v3
      have hC3 := hC2.same v2
      have hfl := fal_le (g := lwO (rlT s T) 1) (n := sN s) (W := sW s) (Rs := sRs s) (m := (psK (lwO (rlT s T) 1) (sN s) (sW s) (sRs s) m p).1) (p := p)
      have hmod : mXx (psK (lwO (rlT s T) 1) (sN s) (sW s) (sRs s) m p).1 % 10 < 10 := Nat.mod_lt _ (by decide)
      by_cases e2 : mXx (psK (lwO (rlT s T) 1) (sN s) (sW s) (sRs s) m p).1 % 10 < fal (lwO (rlT s T) 1) (sN s) (sW s) (sRs s) (psK (lwO (rlT s T) 1) (sN s) (sW s) (sRs s) m p).1 p
      · obtain ⟨Z, w1, w2, w3, w4⟩ := y_letFall (d := d + 2) hC3 hp
        have e2' : ¬ fal (lwO (rlT s T) 1) (sN s) (sW s) (sRs s) (psK (lwO (rlT s T) 1) (sN s) (sW s) (sRs s) m p).1 p ≤ mXx (psK (lwO (rlT s T) 1) (sN s) (sW s) (sRs s) m p).1 % 10 := by omega
        refine ⟨Z, ⟨((x1.trans hd2).trans (v2.mono (fun k j z => Or.inr (Or.inr z)))).trans w1, by rw [psK, e, t_ite, if_pos e2]; exact w2, by rw [psK, e, t_ite, if_pos e2]; exact w3⟩, ?_⟩
        rw [psK, e, t_ite, if_pos e2]
        rw [mUp_xx] at w4
        simp (disch := omega) only [r_X_passHour_15, r_X_passHour_15n, r_X_passHour_16, r_X_passHour_19, r_X_passHour_22, r_X_passHour_25, r_X_passHour_25n, r_X_passHour_26, r_X_passHour_29, r_X_passHour_30, r_X_passHour_33, r_X_passHour_36, r_X_passHour_36n, r_X_passHour_37, r_X_passHour_39, r_X_passHour_42, r_X_passHour_42n, r_X_passHour_43, r_X_passHour_46, r_X_passHour_46n, r_X_passHour_47, r_X_passHour_50, r_X_passHour_50n, r_X_passHour_51, r_X_passHour_54, r_X_passHour_54n, r_X_passHour_55, r_X_passHour_56, r_X_passHour_59, r_X_passHour_62, r_X_passHour_63, r_X_passHour_63n, r_X_passHour_64, r_X_passHour_64n, r_X_passHour_65, r_X_passHour_66, r_X_passHour_69, r_X_passHour_70, r_X_passHour_71, r_X_passHour_74, bnd, tl_s, tl_n, wt_nil, wt_int, wt_ref, wt_null, wt_long, Nat.reduceAdd, Nat.reduceLeDiff, if_true, if_false, decide_true, Bool.true_and, Bool.and_true, zok_n0, zok_n1, zok_bI, bI_eq0, bI_eq1, Bool.true_eq_false, Bool.false_eq_true, not_false_eq_true, not_true_eq_false, decide_false, decide_eq_false_iff_not, decide_eq_true_eq, Classical.not_not, ite_not, lit, Nat.reduceEqDiff, Nat.reduceLT, nI_add, nI_lt', nI_le', nI_eq', nI_sub', pk_mul, nI_rem', nI_div', nI_nz, remN, clampN, inb_nI, Nat.not_lt_zero, Nat.zero_le, Nat.le_zero_eq, if_true, if_false, m1_lt0, m1_eq, t_ite, f_ite, Bool.not_false, Bool.not_true, nI_and, nI_or, nI_xor, nI_shl1, nI_shr, nI_ushr, nI_not, nI_and_p2, Nat.one_mul, vrf_s, vrf_n, oF_0, oO_0, oF_1, oO_1, oA_2, oS_2, oA_3, oS_3, oF_4, oO_4, oA_5, oS_5, oA_6, oS_6, oA_7, oS_7, oA_8, oS_8, oA_9, oS_9, oF_70, oO_70, oA_71, oS_71, oA_72, oS_72, oF_73, oO_73, oA_74, oS_74, oA_75, oS_75, oA_76, oS_76, oA_77, oS_77, oA_78, oS_78, oA_139, oS_139, oF_140, oO_140, oA_141, oS_141, oA_142, oS_142, oA_143, oS_143, oA_144, oS_144, oF_145, oO_145, oF_146, oO_146, oA_147, oS_147, oF_148, oO_148, oA_149, oS_149, oA_150, oS_150, oA_151, oS_151, oF_152, oO_152, oA_153, oS_153, oF_154, oO_154, oA_155, oS_155, oA_156, oS_156, oA_157, oS_157, oA_158, oS_158, oF_159, oO_159, oA_160, oS_160, oA_161, oS_161, oA_162, oS_162, oA_163, oS_163, oF_164, oO_164, oA_165, oS_165, oA_166, oS_166, oA_167, oS_167, oA_168, oS_168, oF_169, oO_169, oA_170, oS_170, oA_171, oS_171, oA_172, oS_172, oA_173, oS_173, mO_Mom_draw, mO_X_hasBit, mO_X_ruling, mO_Sc_fallsOf, mO_X_letFall, hC.1.r 0 0 1 rfl, hC.1.r 0 1 70 rfl, hC.1.r 0 2 139 rfl, hC.1.r 0 3 140 rfl, hC.1.r 0 4 145 rfl, hC.1.r 0 5 146 rfl, hC.1.r 0 6 148 rfl, hC.1.r 0 7 152 rfl, hC.1.r 1 1 2 rfl, hC.1.r 1 2 3 rfl, hC.1.r 1 3 4 rfl, hC.1.r 1 4 6 rfl, hC.1.r 1 9 7 rfl, hC.1.r 1 11 8 rfl, hC.1.r 1 12 9 rfl, hC.1.r 4 6 5 rfl, hC.1.r 152 6 153 rfl, hC.1.r 140 0 141 rfl, hC.1.r 140 2 142 rfl, hC.1.r 140 3 143 rfl, hC.1.r 140 4 144 rfl, hC.1.r 146 0 147 rfl, hC.1.r 148 0 149 rfl, hC.1.r 148 2 150 rfl, hC.1.r 148 3 151 rfl, gR_sI, hC.1.nn, hni, f1, f2, hC.1.up, y_hasBit, e, bI_t, hdr2, v1, v3, e2', w4]
      · have e2' : fal (lwO (rlT s T) 1) (sN s) (sW s) (sRs s) (psK (lwO (rlT s T) 1) (sN s) (sW s) (sRs s) m p).1 p ≤ mXx (psK (lwO (rlT s T) 1) (sN s) (sW s) (sRs s) m p).1 % 10 := by omega
        refine ⟨Y, ⟨(x1.trans hd2).trans (v2.mono (fun k j z => Or.inr (Or.inr z))), by rw [psK, e, t_ite, if_neg e2]; exact hC3.1.2.2.1, by rw [psK, e, t_ite, if_neg e2]; exact hC3.1.okm⟩, ?_⟩
        rw [psK, e, t_ite, if_neg e2]
        simp (disch := omega) only [r_X_passHour_15, r_X_passHour_15n, r_X_passHour_16, r_X_passHour_19, r_X_passHour_22, r_X_passHour_25, r_X_passHour_25n, r_X_passHour_26, r_X_passHour_29, r_X_passHour_30, r_X_passHour_33, r_X_passHour_36, r_X_passHour_36n, r_X_passHour_37, r_X_passHour_39, r_X_passHour_42, r_X_passHour_42n, r_X_passHour_43, r_X_passHour_46, r_X_passHour_46n, r_X_passHour_47, r_X_passHour_50, r_X_passHour_50n, r_X_passHour_51, r_X_passHour_54, r_X_passHour_54n, r_X_passHour_55, r_X_passHour_56, r_X_passHour_59, r_X_passHour_62, r_X_passHour_63, r_X_passHour_63n, r_X_passHour_64, r_X_passHour_64n, r_X_passHour_65, r_X_passHour_66, r_X_passHour_69, r_X_passHour_70, r_X_passHour_71, r_X_passHour_74, bnd, tl_s, tl_n, wt_nil, wt_int, wt_ref, wt_null, wt_long, Nat.reduceAdd, Nat.reduceLeDiff, if_true, if_false, decide_true, Bool.true_and, Bool.and_true, zok_n0, zok_n1, zok_bI, bI_eq0, bI_eq1, Bool.true_eq_false, Bool.false_eq_true, not_false_eq_true, not_true_eq_false, decide_false, decide_eq_false_iff_not, decide_eq_true_eq, Classical.not_not, ite_not, lit, Nat.reduceEqDiff, Nat.reduceLT, nI_add, nI_lt', nI_le', nI_eq', nI_sub', pk_mul, nI_rem', nI_div', nI_nz, remN, clampN, inb_nI, Nat.not_lt_zero, Nat.zero_le, Nat.le_zero_eq, if_true, if_false, m1_lt0, m1_eq, t_ite, f_ite, Bool.not_false, Bool.not_true, nI_and, nI_or, nI_xor, nI_shl1, nI_shr, nI_ushr, nI_not, nI_and_p2, Nat.one_mul, vrf_s, vrf_n, oF_0, oO_0, oF_1, oO_1, oA_2, oS_2, oA_3, oS_3, oF_4, oO_4, oA_5, oS_5, oA_6, oS_6, oA_7, oS_7, oA_8, oS_8, oA_9, oS_9, oF_70, oO_70, oA_71, oS_71, oA_72, oS_72, oF_73, oO_73, oA_74, oS_74, oA_75, oS_75, oA_76, oS_76, oA_77, oS_77, oA_78, oS_78, oA_139, oS_139, oF_140, oO_140, oA_141, oS_141, oA_142, oS_142, oA_143, oS_143, oA_144, oS_144, oF_145, oO_145, oF_146, oO_146, oA_147, oS_147, oF_148, oO_148, oA_149, oS_149, oA_150, oS_150, oA_151, oS_151, oF_152, oO_152, oA_153, oS_153, oF_154, oO_154, oA_155, oS_155, oA_156, oS_156, oA_157, oS_157, oA_158, oS_158, oF_159, oO_159, oA_160, oS_160, oA_161, oS_161, oA_162, oS_162, oA_163, oS_163, oF_164, oO_164, oA_165, oS_165, oA_166, oS_166, oA_167, oS_167, oA_168, oS_168, oF_169, oO_169, oA_170, oS_170, oA_171, oS_171, oA_172, oS_172, oA_173, oS_173, mO_Mom_draw, mO_X_hasBit, mO_X_ruling, mO_Sc_fallsOf, mO_X_letFall, hC.1.r 0 0 1 rfl, hC.1.r 0 1 70 rfl, hC.1.r 0 2 139 rfl, hC.1.r 0 3 140 rfl, hC.1.r 0 4 145 rfl, hC.1.r 0 5 146 rfl, hC.1.r 0 6 148 rfl, hC.1.r 0 7 152 rfl, hC.1.r 1 1 2 rfl, hC.1.r 1 2 3 rfl, hC.1.r 1 3 4 rfl, hC.1.r 1 4 6 rfl, hC.1.r 1 9 7 rfl, hC.1.r 1 11 8 rfl, hC.1.r 1 12 9 rfl, hC.1.r 4 6 5 rfl, hC.1.r 152 6 153 rfl, hC.1.r 140 0 141 rfl, hC.1.r 140 2 142 rfl, hC.1.r 140 3 143 rfl, hC.1.r 140 4 144 rfl, hC.1.r 146 0 147 rfl, hC.1.r 148 0 149 rfl, hC.1.r 148 2 150 rfl, hC.1.r 148 3 151 rfl, gR_sI, hC.1.nn, hni, f1, f2, hC.1.up, y_hasBit, e, bI_t, hdr2, v1, v3, e2']) (sN s) 0 _ (by omega) ⟨hd1, hm1, ho1⟩
  have hC2 := h.set i1 i2 i3
  have hhr2 : gI M2 c 4 = nI (mHr m) := by rw [i2.2.2.2.2.1, psK_hr]
  refine ⟨sI M2 c 4 (nI (mHr m + 1)), i1.sI (Or.inl ⟨rfl, by decide⟩), i2.hr' _, i3.hr (by omega), ?_⟩
  rw [e_X_passHour]
  simp (disch := omega) only [r_X_passHour_0, r_X_passHour_1, r_X_passHour_2, r_X_passHour_2n, r_X_passHour_3, r_X_passHour_3n, r_X_passHour_4, r_X_passHour_6, r_X_passHour_9, r_X_passHour_12, r_X_passHour_13, bnd, tl_s, tl_n, wt_nil, wt_int, wt_ref, wt_null, wt_long, Nat.reduceAdd, Nat.reduceLeDiff, if_true, if_false, decide_true, Bool.true_and, Bool.and_true, zok_n0, zok_n1, zok_bI, bI_eq0, bI_eq1, Bool.true_eq_false, Bool.false_eq_true, not_false_eq_true, not_true_eq_false, decide_false, decide_eq_false_iff_not, decide_eq_true_eq, Classical.not_not, ite_not, lit, Nat.reduceEqDiff, Nat.reduceLT, nI_add, nI_lt', nI_le', nI_eq', nI_sub', pk_mul, nI_rem', nI_div', nI_nz, remN, clampN, inb_nI, Nat.not_lt_zero, Nat.zero_le, Nat.le_zero_eq, if_true, if_false, m1_lt0, m1_eq, t_ite, f_ite, Bool.not_false, Bool.not_true, nI_and, nI_or, nI_xor, nI_shl1, nI_shr, nI_ushr, nI_not, nI_and_p2, Nat.one_mul, vrf_s, vrf_n, oF_0, oO_0, oF_1, oO_1, oA_2, oS_2, oA_3, oS_3, oF_4, oO_4, oA_5, oS_5, oA_6, oS_6, oA_7, oS_7, oA_8, oS_8, oA_9, oS_9, oF_70, oO_70, oA_71, oS_71, oA_72, oS_72, oF_73, oO_73, oA_74, oS_74, oA_75, oS_75, oA_76, oS_76, oA_77, oS_77, oA_78, oS_78, oA_139, oS_139, oF_140, oO_140, oA_141, oS_141, oA_142, oS_142, oA_143, oS_143, oA_144, oS_144, oF_145, oO_145, oF_146, oO_146, oA_147, oS_147, oF_148, oO_148, oA_149, oS_149, oA_150, oS_150, oA_151, oS_151, oF_152, oO_152, oA_153, oS_153, oF_154, oO_154, oA_155, oS_155, oA_156, oS_156, oA_157, oS_157, oA_158, oS_158, oF_159, oO_159, oA_160, oS_160, oA_161, oS_161, oA_162, oS_162, oA_163, oS_163, oF_164, oO_164, oA_165, oS_165, oA_166, oS_166, oA_167, oS_167, oA_168, oS_168, oF_169, oO_169, oA_170, oS_170, oA_171, oS_171, oA_172, oS_172, oA_173, oS_173, mO_Mom_draw, mO_X_hasBit, mO_X_ruling, mO_Sc_fallsOf, mO_X_letFall, f1, f2, hdr]
  refine Eq.trans i4 ?_
  try dsimp only
  rw [r_X_passHour_14]
  simp (disch := omega) only [r_X_passHour_15, r_X_passHour_15n, r_X_passHour_16, r_X_passHour_19, r_X_passHour_22, r_X_passHour_77, r_X_passHour_77n, r_X_passHour_78, r_X_passHour_78i, r_X_passHour_79, r_X_passHour_82, r_X_passHour_83, r_X_passHour_84, r_X_passHour_87, r_X_passHour_88, bnd, tl_s, tl_n, wt_nil, wt_int, wt_ref, wt_null, wt_long, Nat.reduceAdd, Nat.reduceLeDiff, if_true, if_false, decide_true, Bool.true_and, Bool.and_true, zok_n0, zok_n1, zok_bI, bI_eq0, bI_eq1, Bool.true_eq_false, Bool.false_eq_true, not_false_eq_true, not_true_eq_false, decide_false, decide_eq_false_iff_not, decide_eq_true_eq, Classical.not_not, ite_not, lit, Nat.reduceEqDiff, Nat.reduceLT, nI_add, nI_lt', nI_le', nI_eq', nI_sub', pk_mul, nI_rem', nI_div', nI_nz, remN, clampN, inb_nI, Nat.not_lt_zero, Nat.zero_le, Nat.le_zero_eq, if_true, if_false, m1_lt0, m1_eq, t_ite, f_ite, Bool.not_false, Bool.not_true, nI_and, nI_or, nI_xor, nI_shl1, nI_shr, nI_ushr, nI_not, nI_and_p2, Nat.one_mul, vrf_s, vrf_n, oF_0, oO_0, oF_1, oO_1, oA_2, oS_2, oA_3, oS_3, oF_4, oO_4, oA_5, oS_5, oA_6, oS_6, oA_7, oS_7, oA_8, oS_8, oA_9, oS_9, oF_70, oO_70, oA_71, oS_71, oA_72, oS_72, oF_73, oO_73, oA_74, oS_74, oA_75, oS_75, oA_76, oS_76, oA_77, oS_77, oA_78, oS_78, oA_139, oS_139, oF_140, oO_140, oA_141, oS_141, oA_142, oS_142, oA_143, oS_143, oA_144, oS_144, oF_145, oO_145, oF_146, oO_146, oA_147, oS_147, oF_148, oO_148, oA_149, oS_149, oA_150, oS_150, oA_151, oS_151, oF_152, oO_152, oA_153, oS_153, oF_154, oO_154, oA_155, oS_155, oA_156, oS_156, oA_157, oS_157, oA_158, oS_158, oF_159, oO_159, oA_160, oS_160, oA_161, oS_161, oA_162, oS_162, oA_163, oS_163, oF_164, oO_164, oA_165, oS_165, oA_166, oS_166, oA_167, oS_167, oA_168, oS_168, oF_169, oO_169, oA_170, oS_170, oA_171, oS_171, oA_172, oS_172, oA_173, oS_173, mO_Mom_draw, mO_X_hasBit, mO_X_ruling, mO_Sc_fallsOf, mO_X_letFall, hC2.1.r 0 0 1 rfl, hC2.1.r 0 1 70 rfl, hC2.1.r 0 2 139 rfl, hC2.1.r 0 3 140 rfl, hC2.1.r 0 4 145 rfl, hC2.1.r 0 5 146 rfl, hC2.1.r 0 6 148 rfl, hC2.1.r 0 7 152 rfl, hC2.1.r 1 1 2 rfl, hC2.1.r 1 2 3 rfl, hC2.1.r 1 3 4 rfl, hC2.1.r 1 4 6 rfl, hC2.1.r 1 9 7 rfl, hC2.1.r 1 11 8 rfl, hC2.1.r 1 12 9 rfl, hC2.1.r 4 6 5 rfl, hC2.1.r 152 6 153 rfl, hC2.1.r 140 0 141 rfl, hC2.1.r 140 2 142 rfl, hC2.1.r 140 3 143 rfl, hC2.1.r 140 4 144 rfl, hC2.1.r 146 0 147 rfl, hC2.1.r 148 0 149 rfl, hC2.1.r 148 2 150 rfl, hC2.1.r 148 3 151 rfl, hC2.1.nn, Nat.le_refl, f1, hhr2]
  rfl
end HY
