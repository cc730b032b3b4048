/-! HOURS: the reference passes one -/
section HP
variable {d : Nat} {M M' : Mem} {s : St} {T : Nat → Tx} {m mb : Mo} {wf : Bool}
theorem mBk_xx (m : Mo) (x c : Nat) (b : Nat → Nat × Nat × Nat × Nat) : mBkS (mXxS m x) c b = mXxS (mBkS m c b) x := rfl
theorem mBk_wd (m : Mo) (x c : Nat) (b : Nat → Nat × Nat × Nat × Nat) : mBkS (mWdS m x) c b = mWdS (mBkS m c b) x := rfl
theorem mBk_hr (m : Mo) (x c : Nat) (b : Nat → Nat × Nat × Nat × Nat) : mBkS (mHrS m x) c b = mHrS (mBkS m c b) x := rfl
theorem mCn_xx (m : Mo) (x : Nat) : mCn (mXxS m x) = mCn m := rfl
theorem mBkk_xx (m : Mo) (x : Nat) : mBk (mXxS m x) = mBk m := rfl
theorem mCn_wd (m : Mo) (x : Nat) : mCn (mWdS m x) = mCn m := rfl
theorem mBkk_wd (m : Mo) (x : Nat) : mBk (mWdS m x) = mBk m := rfl
theorem mCn_hr (m : Mo) (x : Nat) : mCn (mHrS m x) = mCn m := rfl
theorem mBkk_hr (m : Mo) (x : Nat) : mBk (mHrS m x) = mBk m := rfl
theorem MW.xx (h : MW wf M s T m mb) {x : Nat} (hx : x < 30829) : MW wf (sI M 175 7 (nI x)) s T (mXxS m x) (mXxS mb x) :=
  h.set (D.qp (D.rfl'.sI ⟨rfl, by omega⟩)) (mm_x h.1.2.2.1 x) (h.1.okm.xx' hx) (by rw [mBk_xx, mCn_xx, mBkk_xx, h.2.1]) ⟨fun z => by rw [h.2.2.1.1 z], h.2.2.1.2⟩ (h.2.2.2.1.xx' hx)
theorem MW.wd (h : MW wf M s T m mb) {x : Nat} (hx : x < 10) : MW wf (sI M 175 8 (nI x)) s T (mWdS m x) (mWdS mb x) :=
  h.set (D.qp (D.rfl'.sI ⟨rfl, by omega⟩)) (mm_w h.1.2.2.1 x) (h.1.okm.wd hx) (by rw [mBk_wd, mCn_wd, mBkk_wd, h.2.1]) ⟨fun z => by rw [h.2.2.1.1 z], h.2.2.1.2⟩ (h.2.2.2.1.wd hx)
theorem MW.hr (h : MW wf M s T m mb) {x : Nat} (hx : x ≤ 9999) : MW wf (sI M 175 6 (nI x)) s T (mHrS m x) (mHrS mb x) :=
  h.set (D.qp (D.rfl'.sI ⟨rfl, by omega⟩)) (mm_h h.1.2.2.1 x) (h.1.okm.hr hx) (by rw [mBk_hr, mCn_hr, mBkk_hr, h.2.1]) ⟨fun z => by rw [h.2.2.1.1 z], h.2.2.1.2⟩ (h.2.2.2.1.hr hx)
theorem x_pass (h : MW wf M s T m mb) (hhr : mHr m ≤ 9998) : ∃ M' mb', D Pp M M' ∧ MW wf M' s T (pasM (lwO (rlT s T) 1) (sN s) (sW s) (sRs s) m) mb' ∧ gI M' 174 25 = gI M 174 25 + nI (pasN (lwO (rlT s T) 1) (sN s) (sW s) (sRs s) m) ∧ ev (d + 7) m_M_pass [.ref 174] NX M = some (none, NX, M') := by
  have hK := h.1
  have h8 := hK.n8
  obtain ⟨q1, q2, q3, q4, q5, q6⟩ := h.eqs
  have hdr := x_drawnBy (d := d + 4) hK
  rw [q6] at hdr
  have hmod : mXx m % 10 < 10 := Nat.mod_lt _ (by decide)
  have hW1 := (h.xx (trn_lt (mXx m))).wd hmod
  have hd1 : D Pp M (sI (sI M 175 7 (nI (trn (mXx m)))) 175 8 (nI (mXx m % 10))) := D.qp ((D.rfl'.sI ⟨rfl, by omega⟩).sI ⟨rfl, by omega⟩)
  obtain ⟨⟨M2, mb2, z⟩, ⟨i1, i2, i3⟩, i4⟩ := lpE (R := fun p (x : Mem × Mo × Option Value) => run (ev (d + 6)) m_M_pass 15 [some (.ref 174), some (.int (nI p)), x.2.2] [] NX x.1) (I := fun p x => D Pp M x.1 ∧ MW wf x.1 s T (psK (lwO (rlT s T) 1) (sN s) (sW s) (sRs s) m p).1 x.2.1 ∧ gI x.1 174 25 = gI M 174 25 + nI (psK (lwO (rlT s T) 1) (sN s) (sW s) (sRs s) m p).2) (n := sN s) (by
    intro p ⟨X, mbx, z⟩ hp ⟨x1, x2, x3⟩
    try dsimp only at x1 x2 x3
    have hKX := x2.1
    obtain ⟨p1, p2, p3, p4, p5, p6⟩ := x2.eqs
    have hni : ¬ sN s ≤ p := by omega
    have h3 := how_3 (m := mbx) (p := p)
    have hh := how_1 (p := p) hKX.okm
    rw [p1] at hh
    try dsimp only
    rw [r_M_pass_15]
    cases e : (mUp (psK (lwO (rlT s T) 1) (sN s) (sW s) (sRs s) m p).1).testBit p
    · have hne : ¬ how mbx p = 1 := fun z => by rw [hh.mp z] at e; cases e
      refine ⟨(X, mbx, z), ⟨x1, by rw [psK, e, f_ite]; exact x2, by rw [psK, e, f_ite]; exact x3⟩, ?_⟩
      simp (disch := omega) only [r_M_pass_16, r_M_pass_16n, r_M_pass_17, r_M_pass_20, r_M_pass_21, r_M_pass_22, r_M_pass_25, r_M_pass_25n, r_M_pass_26, r_M_pass_29, r_M_pass_31, r_M_pass_32, r_M_pass_33, r_M_pass_34, r_M_pass_35, r_M_pass_38, r_M_pass_41, r_M_pass_41n, r_M_pass_42, r_M_pass_42n, r_M_pass_43, r_M_pass_46, r_M_pass_47, r_M_pass_48, r_M_pass_49, r_M_pass_52, r_M_pass_53, r_M_pass_53n, r_M_pass_54, r_M_pass_56, r_M_pass_59, r_M_pass_60, r_M_pass_63, r_M_pass_63n, r_M_pass_64, r_M_pass_65, r_M_pass_68, r_M_pass_71, bnd, tl_s, tl_n, wt_nil, wt_int, wt_ref, wt_null, wt_long, Nat.reduceAdd, Nat.reduceLeDiff, if_true, if_false, decide_true, Bool.true_and, Bool.and_true, zok_n0, zok_n1, zok_bI, bI_eq0, bI_eq1, Bool.true_eq_false, Bool.false_eq_true, not_false_eq_true, not_true_eq_false, decide_false, decide_eq_false_iff_not, decide_eq_true_eq, Classical.not_not, ite_not, lit, Nat.reduceEqDiff, Nat.reduceLT, nI_add, nI_lt', nI_le', nI_eq', nI_sub', pk_mul, nI_rem', nI_div', nI_nz, remN, clampN, inb_nI, Nat.not_lt_zero, Nat.zero_le, Nat.le_zero_eq, if_true, if_false, m1_lt0, m1_eq, t_ite, f_ite, Bool.not_false, Bool.not_true, nI_and, nI_or, nI_xor, nI_shl1, nI_shr, nI_ushr, nI_not, nI_and_p2, Nat.one_mul, vrf_s, vrf_n, oF_174, oO_174, oA_175, oS_175, oA_176, oS_176, oA_177, oS_177, oA_178, oS_178, oA_179, oS_179, oA_180, oS_180, oA_181, oS_181, oA_182, oS_182, oA_183, oS_183, oA_184, oS_184, oA_185, oS_185, oA_186, oS_186, oA_187, oS_187, oA_188, oS_188, mO_M_drawnBy, mO_M_fallsOf, mO_M_fall, hKX.f, hKX.nn, hni, hKX.how (show p < 8 by omega), hne]
    · have he := hh.mpr e
      obtain ⟨Y, y0, y2⟩ := x_fallsR (d := d) x2 hp
      have y1 := y0.ns
      have hWY := x2.same y1
      have hdr2 := x_drawnBy (d := d + 4) hWY.1
      rw [p6] at hdr2
      have hW3 := hWY.xx (trn_lt (mXx (psK (lwO (rlT s T) 1) (sN s) (sW s) (sRs s) m p).1))
      have hd3 : D Pp X (sI Y 175 7 (nI (trn (mXx (psK (lwO (rlT s T) 1) (sN s) (sW s) (sRs s) m p).1)))) := (D.pp (y0.mono (fun k j z => by unfold Pn at z; omega))).trans (D.qp (D.rfl'.sI ⟨rfl, by omega⟩))
      have hfl := fal_le (g := lwO (rlT s T) 1) (n := sN s) (W := sW s) (Rs := sRs s) (m := (psK (lwO (rlT s T) 1) (sN s) (sW s) (sRs s) m p).1) (p := p)
      have hmod2 : mXx (psK (lwO (rlT s T) 1) (sN s) (sW s) (sRs s) m p).1 % 10 < 10 := Nat.mod_lt _ (by decide)
      have g2 := x2.2.2.2.2.2.1
      have g25 : gI (sI Y 175 7 (nI (trn (mXx (psK (lwO (rlT s T) 1) (sN s) (sW s) (sRs s) m p).1)))) 174 25 = gI M 174 25 + nI (psK (lwO (rlT s T) 1) (sN s) (sW s) (sRs s) m p).2 := by
        rw [gI_sI_nk (by decide)]
        exact (y0.i (by unfold Pn; omega)).trans x3
      by_cases e2 : mXx (psK (lwO (rlT s T) 1) (sN s) (sW s) (sRs s) m p).1 % 10 < fal (lwO (rlT s T) 1) (sN s) (sW s) (sRs s) (psK (lwO (rlT s T) 1) (sN s) (sW s) (sRs s) m p).1 p
      · have e2' : ¬ fal (lwO (rlT s T) 1) (sN s) (sW s) (sRs s) (psK (lwO (rlT s T) 1) (sN s) (sW s) (sRs s) m p).1 p ≤ mXx (psK (lwO (rlT s T) 1) (sN s) (sW s) (sRs s) m p).1 % 10 := by omega
        obtain ⟨Z, mbz, z1, z2, z3, z4⟩ := x_fall (d := d + 3) hW3 hp (by rw [mUp_xx]; exact e)
        rw [mUp_xx, g25, Int32.add_assoc, nI_add] at z3
        refine ⟨(Z, mbz, some (.int (nI (fal (lwO (rlT s T) 1) (sN s) (sW s) (sRs s) (psK (lwO (rlT s T) 1) (sN s) (sW s) (sRs s) m p).1 p)))), ⟨(x1.trans hd3).trans z1, by rw [psK, e, t_ite, if_pos e2]; exact z2, by rw [psK, e, t_ite, if_pos e2]; exact z3⟩, ?_⟩
        simp (disch := omega) only [r_M_pass_16, r_M_pass_16n, r_M_pass_17, r_M_pass_20, r_M_pass_21, r_M_pass_22, r_M_pass_25, r_M_pass_25n, r_M_pass_26, r_M_pass_29, r_M_pass_31, r_M_pass_32, r_M_pass_33, r_M_pass_34, r_M_pass_35, r_M_pass_38, r_M_pass_41, r_M_pass_41n, r_M_pass_42, r_M_pass_42n, r_M_pass_43, r_M_pass_46, r_M_pass_47, r_M_pass_48, r_M_pass_49, r_M_pass_52, r_M_pass_53, r_M_pass_53n, r_M_pass_54, r_M_pass_56, r_M_pass_59, r_M_pass_60, r_M_pass_63, r_M_pass_63n, r_M_pass_64, r_M_pass_65, r_M_pass_68, r_M_pass_71, bnd, tl_s, tl_n, wt_nil, wt_int, wt_ref, wt_null, wt_long, Nat.reduceAdd, Nat.reduceLeDiff, if_true, if_false, decide_true, Bool.true_and, Bool.and_true, zok_n0, zok_n1, zok_bI, bI_eq0, bI_eq1, Bool.true_eq_false, Bool.false_eq_true, not_false_eq_true, not_true_eq_false, decide_false, decide_eq_false_iff_not, decide_eq_true_eq, Classical.not_not, ite_not, lit, Nat.reduceEqDiff, Nat.reduceLT, nI_add, nI_lt', nI_le', nI_eq', nI_sub', pk_mul, nI_rem', nI_div', nI_nz, remN, clampN, inb_nI, Nat.not_lt_zero, Nat.zero_le, Nat.le_zero_eq, if_true, if_false, m1_lt0, m1_eq, t_ite, f_ite, Bool.not_false, Bool.not_true, nI_and, nI_or, nI_xor, nI_shl1, nI_shr, nI_ushr, nI_not, nI_and_p2, Nat.one_mul, vrf_s, vrf_n, oF_174, oO_174, oA_175, oS_175, oA_176, oS_176, oA_177, oS_177, oA_178, oS_178, oA_179, oS_179, oA_180, oS_180, oA_181, oS_181, oA_182, oS_182, oA_183, oS_183, oA_184, oS_184, oA_185, oS_185, oA_186, oS_186, oA_187, oS_187, oA_188, oS_188, mO_M_drawnBy, mO_M_fallsOf, mO_M_fall, hKX.f, hKX.nn, hni, hKX.how (show p < 8 by omega), he, g2, y2, hdr2, e2', z4]
      · have e2' : fal (lwO (rlT s T) 1) (sN s) (sW s) (sRs s) (psK (lwO (rlT s T) 1) (sN s) (sW s) (sRs s) m p).1 p ≤ mXx (psK (lwO (rlT s T) 1) (sN s) (sW s) (sRs s) m p).1 % 10 := by omega
        refine ⟨(sI Y 175 7 (nI (trn (mXx (psK (lwO (rlT s T) 1) (sN s) (sW s) (sRs s) m p).1))), mXxS mbx (trn (mXx (psK (lwO (rlT s T) 1) (sN s) (sW s) (sRs s) m p).1)), some (.int (nI (fal (lwO (rlT s T) 1) (sN s) (sW s) (sRs s) (psK (lwO (rlT s T) 1) (sN s) (sW s) (sRs s) m p).1 p)))), ⟨x1.trans hd3, by rw [psK, e, t_ite, if_neg e2]; exact hW3, by rw [psK, e, t_ite, if_neg e2]; exact g25⟩, ?_⟩
        simp (disch := omega) only [r_M_pass_16, r_M_pass_16n, r_M_pass_17, r_M_pass_20, r_M_pass_21, r_M_pass_22, r_M_pass_25, r_M_pass_25n, r_M_pass_26, r_M_pass_29, r_M_pass_31, r_M_pass_32, r_M_pass_33, r_M_pass_34, r_M_pass_35, r_M_pass_38, r_M_pass_41, r_M_pass_41n, r_M_pass_42, r_M_pass_42n, r_M_pass_43, r_M_pass_46, r_M_pass_47, r_M_pass_48, r_M_pass_49, r_M_pass_52, r_M_pass_53, r_M_pass_53n, r_M_pass_54, r_M_pass_56, r_M_pass_59, r_M_pass_60, r_M_pass_63, r_M_pass_63n, r_M_pass_64, r_M_pass_65, r_M_pass_68, r_M_pass_71, bnd, tl_s, tl_n, wt_nil, wt_int, wt_ref, wt_null, wt_long, Nat.reduceAdd, Nat.reduceLeDiff, if_true, if_false, decide_true, Bool.true_and, Bool.and_true, zok_n0, zok_n1, zok_bI, bI_eq0, bI_eq1, Bool.true_eq_false, Bool.false_eq_true, not_false_eq_true, not_true_eq_false, decide_false, decide_eq_false_iff_not, decide_eq_true_eq, Classical.not_not, ite_not, lit, Nat.reduceEqDiff, Nat.reduceLT, nI_add, nI_lt', nI_le', nI_eq', nI_sub', pk_mul, nI_rem', nI_div', nI_nz, remN, clampN, inb_nI, Nat.not_lt_zero, Nat.zero_le, Nat.le_zero_eq, if_true, if_false, m1_lt0, m1_eq, t_ite, f_ite, Bool.not_false, Bool.not_true, nI_and, nI_or, nI_xor, nI_shl1, nI_shr, nI_ushr, nI_not, nI_and_p2, Nat.one_mul, vrf_s, vrf_n, oF_174, oO_174, oA_175, oS_175, oA_176, oS_176, oA_177, oS_177, oA_178, oS_178, oA_179, oS_179, oA_180, oS_180, oA_181, oS_181, oA_182, oS_182, oA_183, oS_183, oA_184, oS_184, oA_185, oS_185, oA_186, oS_186, oA_187, oS_187, oA_188, oS_188, mO_M_drawnBy, mO_M_fallsOf, mO_M_fall, hKX.f, hKX.nn, hni, hKX.how (show p < 8 by omega), he, g2, y2, hdr2, e2']) (sN s) 0 (sI (sI M 175 7 (nI (trn (mXx m)))) 175 8 (nI (mXx m % 10)), mWdS (mXxS mb (trn (mXx m))) (mXx m % 10), none) (by omega) ⟨hd1, hW1, by
          try dsimp only
          rw [gI_sI_nk (by decide), gI_sI_nk (by decide), psK]
          exact (Int32.add_zero _).symm⟩
  try dsimp only at i1 i2 i3
  have hhr2 : gI M2 175 6 = nI (mHr m) := by rw [i2.1.hr, i2.eqs.2.2.2.2.1, psK_hr]
  refine ⟨sI M2 175 6 (nI (mHr m + 1)), mHrS mb2 (mHr m + 1), i1.trans (D.qp (D.rfl'.sI ⟨rfl, by omega⟩)), i2.hr (by omega), ?_, ?_⟩
  · rw [gI_sI_nk (by decide)]; exact i3
  · rw [e_M_pass]
    simp (disch := omega) only [r_M_pass_0, r_M_pass_0n, r_M_pass_1, r_M_pass_4, r_M_pass_6, r_M_pass_6n, r_M_pass_7, r_M_pass_9, r_M_pass_12, r_M_pass_13, r_M_pass_14, bnd, tl_s, tl_n, wt_nil, wt_int, wt_ref, wt_null, wt_long, Nat.reduceAdd, Nat.reduceLeDiff, if_true, if_false, decide_true, Bool.true_and, Bool.and_true, zok_n0, zok_n1, zok_bI, bI_eq0, bI_eq1, Bool.true_eq_false, Bool.false_eq_true, not_false_eq_true, not_true_eq_false, decide_false, decide_eq_false_iff_not, decide_eq_true_eq, Classical.not_not, ite_not, lit, Nat.reduceEqDiff, Nat.reduceLT, nI_add, nI_lt', nI_le', nI_eq', nI_sub', pk_mul, nI_rem', nI_div', nI_nz, remN, clampN, inb_nI, Nat.not_lt_zero, Nat.zero_le, Nat.le_zero_eq, if_true, if_false, m1_lt0, m1_eq, t_ite, f_ite, Bool.not_false, Bool.not_true, nI_and, nI_or, nI_xor, nI_shl1, nI_shr, nI_ushr, nI_not, nI_and_p2, Nat.one_mul, vrf_s, vrf_n, oF_174, oO_174, oA_175, oS_175, oA_176, oS_176, oA_177, oS_177, oA_178, oS_178, oA_179, oS_179, oA_180, oS_180, oA_181, oS_181, oA_182, oS_182, oA_183, oS_183, oA_184, oS_184, oA_185, oS_185, oA_186, oS_186, oA_187, oS_187, oA_188, oS_188, mO_M_drawnBy, mO_M_fallsOf, mO_M_fall, hK.f, hdr]
    refine Eq.trans i4 ?_
    try dsimp only
    rw [r_M_pass_15]
    simp (disch := omega) only [r_M_pass_16, r_M_pass_16n, r_M_pass_17, r_M_pass_20, r_M_pass_21, r_M_pass_22, r_M_pass_74, r_M_pass_74n, r_M_pass_75, r_M_pass_78, r_M_pass_80, r_M_pass_81, r_M_pass_82, r_M_pass_83, r_M_pass_84, r_M_pass_85, bnd, tl_s, tl_n, wt_nil, wt_int, wt_ref, wt_null, wt_long, Nat.reduceAdd, Nat.reduceLeDiff, if_true, if_false, decide_true, Bool.true_and, Bool.and_true, zok_n0, zok_n1, zok_bI, bI_eq0, bI_eq1, Bool.true_eq_false, Bool.false_eq_true, not_false_eq_true, not_true_eq_false, decide_false, decide_eq_false_iff_not, decide_eq_true_eq, Classical.not_not, ite_not, lit, Nat.reduceEqDiff, Nat.reduceLT, nI_add, nI_lt', nI_le', nI_eq', nI_sub', pk_mul, nI_rem', nI_div', nI_nz, remN, clampN, inb_nI, Nat.not_lt_zero, Nat.zero_le, Nat.le_zero_eq, if_true, if_false, m1_lt0, m1_eq, t_ite, f_ite, Bool.not_false, Bool.not_true, nI_and, nI_or, nI_xor, nI_shl1, nI_shr, nI_ushr, nI_not, nI_and_p2, Nat.one_mul, vrf_s, vrf_n, oF_174, oO_174, oA_175, oS_175, oA_176, oS_176, oA_177, oS_177, oA_178, oS_178, oA_179, oS_179, oA_180, oS_180, oA_181, oS_181, oA_182, oS_182, oA_183, oS_183, oA_184, oS_184, oA_185, oS_185, oA_186, oS_186, oA_187, oS_187, oA_188, oS_188, mO_M_drawnBy, mO_M_fallsOf, mO_M_fall, i2.1.f, i2.1.nn, Nat.le_refl, hhr2]
end HP
