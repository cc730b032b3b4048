/-! CALLS: hours passed -/
def hrS (s : St) (T : Nat → Tx) : St := setNow (kpS s) (pasM (lwO (rlT s T) 1) (sN s) (sW s) (sRs s) (sNow s))
def hrN (s : St) (T : Nat → Tx) : Nat := pasN (lwO (rlT s T) 1) (sN s) (sW s) (sRs s) (sNow s)
def hrsK (s : St) (T : Nat → Tx) : Nat → St × Nat
  | 0 => (s, 0)
  | i + 1 => (hrS (hrsK s T i).1 T, (hrsK s T i).2 + hrN (hrsK s T i).1 T)
theorem hrS_hr (s : St) (T : Nat → Tx) : mHr (sNow (hrS s T)) = mHr (sNow s) + 1 := rfl
theorem hrsK_hr {s : St} {T : Nat → Tx} : ∀ i, mHr (sNow (hrsK s T i).1) = mHr (sNow s) + i := by
  intro i
  induction i with
  | zero => rfl
  | succ i ih => rw [hrsK]; dsimp only; rw [hrS_hr, ih]; omega
section H8
variable {d : Nat} {M M' : Mem} {s s' : St} {T : Nat → Tx} {tb : Nat → Nat} {tl : Nat} {f : Fa} {m : Mo}
theorem y_passNow (hX : IX M s s' T tb tl f) (ho : IO s s' tb tl) (hh : mHr (sNow s) ≤ 9998) : ∃ M', D LX M M' ∧ IX M' (setNow s (pasM (lwO (rlT s T) 1) (sN s) (sW s) (sRs s) (sNow s))) s' T tb tl f ∧ IO (setNow s (pasM (lwO (rlT s T) 1) (sN s) (sW s) (sRs s) (sNow s))) s' tb tl ∧ ev (d + 6) m_X_passHour [.ref 0, .ref 4] NX M = some (some (.int (nI (hrN s T))), NX, M') := by
  obtain ⟨M', a1, a2, a3, a4⟩ := y_passHour (d := d) (hX.cx ho) hh
  exact ⟨M', pmLX (Or.inl rfl) a1, hX.now ho a1 a2, setNow_ok ho a3, a4⟩
theorem x_passNow (hI : IM M s s' T tb tl f) (ho : IO s s' tb tl) (hh : mHr (sNow s) ≤ 9998) : ∃ M', D LM M M' ∧ IM M' (setNow s (pasM (lwO (rlT s T) 1) (sN s) (sW s) (sRs s) (sNow s))) s' T tb tl f ∧ gI M' 174 25 = gI M 174 25 + nI (hrN s T) ∧ ev (d + 7) m_M_pass [.ref 174] NX M = some (none, NX, M') := by
  obtain ⟨M', mb, a1, a2, a3, a4⟩ := x_pass (d := d) (hI.mw ho) hh
  have hmb := a2.2.2.1.1 rfl
  refine ⟨M', ppLM a1, hI.now ho a1 ?_, a3, a4⟩
  rw [← hmb]
  exact a2.1.2.2.1
theorem pas_ok (hX : IX M s s' T tb tl f) (ho : IO s s' tb tl) (hh : mHr (sNow s) ≤ 9998) : OkM (sN s) (pasM (lwO (rlT s T) 1) (sN s) (sW s) (sRs s) (sNow s)) := by
  obtain ⟨M', a1, a2, a3, a4⟩ := y_passHour (d := 0) (hX.cx ho) hh
  exact a3
/-- one hour, its step kept -/
theorem y_hr1 (hX : IX M s s' T tb tl f) (ho : IO s s' tb tl) (hh : mHr (sNow s) ≤ 9998) : ∃ X M', D LX M M' ∧ IX M' (hrS s T) s' T tb tl f ∧ IO (hrS s T) s' tb tl ∧ IX X (kpS s) s' T tb tl f ∧ ev (d + 3) m_Site_keepStep [.ref 1] NX M = some (none, NX, X) ∧ ev (d + 6) m_X_passHour [.ref 0, .ref 4] NX X = some (some (.int (nI (hrN s T))), NX, M') := by
  obtain ⟨X, x1, x2, x3⟩ := y_keepStep (d := d) hX ho
  obtain ⟨M', a1, a2, a3, a4⟩ := y_passNow (d := d) x2 (kpS_ok ho) hh
  exact ⟨X, M', x1.trans a1, a2, a3, x2, x3, a4⟩
theorem x_hr1 (hI : IM M s s' T tb tl f) (ho : IO s s' tb tl) (hh : mHr (sNow s) ≤ 9998) : ∃ X M', D LM M M' ∧ IM M' (hrS s T) s' T tb tl f ∧ gI M' 174 25 = gI M 174 25 + nI (hrN s T) ∧ ev (d + 1) m_M_keep [.ref 174] NX M = some (none, NX, X) ∧ ev (d + 7) m_M_pass [.ref 174] NX X = some (none, NX, M') := by
  obtain ⟨X, x1, x2, x3⟩ := x_keep (d := d) hI ho
  obtain ⟨M', a1, a2, a3, a4⟩ := x_passNow (d := d) x2 (kpS_ok ho) hh
  refine ⟨X, M', (stLM x1).trans a1, a2, ?_, x3, a4⟩
  rw [a3]
  exact congrArg (· + nI (hrN s T)) (x1.i (by unfold Pst; omega))
/-- how many hours pass of n -/
def hrC (s : St) (n : Nat) : Nat := min n (9999 - mHr (sNow s))
theorem x_arePassed {n : Nat} (hX : ∃ Y, IX Y s s' T tb tl f) (hI : IM M s s' T tb tl f) (ho : IO s s' tb tl) (hn : n ≤ 60) : ∃ M', D LM M M' ∧ IM M' (hrsK s T (hrC s n)).1 s' T tb tl f ∧ IO (hrsK s T (hrC s n)).1 s' tb tl ∧ gI M' 174 25 = nI (hrsK s T (hrC s n)).2 ∧ ev (d + 8) m_M_arePassed [.ref 174, .int (nI n)] NX M = some (some (.int (bI (decide (hrC s n = n)))), NX, M') := by
  have h99 := ho.1.2.1.2.2.2.2.2.1
  have hC1 : hrC s n ≤ n := Nat.min_le_left _ _
  have hC2 : hrC s n ≤ 9999 - mHr (sNow s) := Nat.min_le_right _ _
  have hd0 : D PSM M (sI M 174 25 (nI 0)) := D.rfl'.sI (by unfold PSM; omega)
  obtain ⟨X, ⟨x1, x2, x3, x4, x5⟩, x6⟩ := lpE (R := fun i (X : Mem) => run (ev (d + 7)) m_M_arePassed 7 [some (.ref 174), some (.int (nI n)), some (.int (nI i))] [] NX X) (I := fun i X => D LM M X ∧ IM X (hrsK s T i).1 s' T tb tl f ∧ IO (hrsK s T i).1 s' tb tl ∧ gI X 174 25 = nI (hrsK s T i).2 ∧ ∃ Y, IX Y (hrsK s T i).1 s' T tb tl f) (n := hrC s n) (by
    intro i X hi ⟨x1, x2, x3, x4, ⟨Y, x5⟩⟩
    have hni : ¬ n ≤ i := by omega
    have hhr := hrsK_hr (s := s) (T := T) i
    have h6 : gI X 175 6 = nI (mHr (sNow s) + i) := by rw [(x2.km x3).hr, hhr]
    have hne : ¬ mHr (sNow s) + i = 9999 := by omega
    obtain ⟨Z, M', a1, a2, a3, a4, a5⟩ := x_hr1 (d := d) x2 x3 (by omega)
    obtain ⟨Z2, M2, b1, b2, b3, b4⟩ := y_hr1 (d := d) x5 x3 (by omega)
    have a4' := x_keep (d := d + 6) x2 x3
    obtain ⟨Z', c1, c2, c3⟩ := a4'
    obtain ⟨M'', e1, e2, e3, e4⟩ := x_passNow (d := d) c2 (kpS_ok x3) (show mHr (sNow (kpS (hrsK s T i).1)) ≤ 9998 by show mHr (sNow (hrsK s T i).1) ≤ 9998; omega)
    refine ⟨M'', ⟨(x1.trans (stLM c1)).trans e1, e2, b3, ?_, M2, b2⟩, ?_⟩
    · rw [e3, c1.i (by unfold Pst; omega), x4, nI_add]; rfl
    · try dsimp only
      rw [r_M_arePassed_7]
      simp (disch := omega) only [r_M_arePassed_8, r_M_arePassed_9, r_M_arePassed_12, r_M_arePassed_12n, r_M_arePassed_13, r_M_arePassed_16, r_M_arePassed_18, r_M_arePassed_19, r_M_arePassed_22, r_M_arePassed_25, r_M_arePassed_26, r_M_arePassed_27, r_M_arePassed_27n, r_M_arePassed_28, r_M_arePassed_31, r_M_arePassed_31n, r_M_arePassed_32, r_M_arePassed_35, r_M_arePassed_38, bnd, tl_s, tl_n, wt_nil, wt_int, wt_ref, wt_null, wt_long, Nat.reduceAdd, Nat.reduceLeDiff, if_true, if_false, decide_true, Bool.true_and, Bool.and_true, zok_n0, zok_n1, zok_bI, bI_eq0, bI_eq1, Bool.true_eq_false, Bool.false_eq_true, not_false_eq_true, not_true_eq_false, decide_false, decide_eq_false_iff_not, decide_eq_true_eq, Classical.not_not, ite_not, lit, Nat.reduceEqDiff, Nat.reduceLT, nI_add, nI_lt', nI_le', nI_eq', nI_sub', pk_mul, nI_rem', nI_div', nI_nz, remN, clampN, inb_nI, Nat.not_lt_zero, Nat.zero_le, Nat.le_zero_eq, if_true, if_false, m1_lt0, m1_eq, t_ite, f_ite, Bool.not_false, Bool.not_true, nI_and, nI_or, nI_xor, nI_shl1, nI_shr, nI_ushr, nI_not, nI_and_p2, Nat.one_mul, vrf_s, vrf_n, oF_174, oO_174, oA_175, oS_175, oA_176, oS_176, oA_177, oS_177, oA_178, oS_178, oA_179, oS_179, oA_180, oS_180, oA_181, oS_181, oA_182, oS_182, oA_183, oS_183, oA_184, oS_184, oA_185, oS_185, oA_186, oS_186, oA_187, oS_187, oA_188, oS_188, mO_M_keep, mO_M_pass, x2.1.a, hni, h6, hne, c3, e4]) (hrC s n) 0 (sI M 174 25 (nI 0)) (by omega) ⟨psLM hd0, hI.dM ho hd0, ho, gI_sI_eq, hX⟩
  refine ⟨X, x1, x2, x3, x4, ?_⟩
  rw [e_M_arePassed]
  simp (disch := omega) only [r_M_arePassed_0, r_M_arePassed_0n, r_M_arePassed_1, r_M_arePassed_2, r_M_arePassed_5, r_M_arePassed_6, bnd, tl_s, tl_n, wt_nil, wt_int, wt_ref, wt_null, wt_long, Nat.reduceAdd, Nat.reduceLeDiff, if_true, if_false, decide_true, Bool.true_and, Bool.and_true, zok_n0, zok_n1, zok_bI, bI_eq0, bI_eq1, Bool.true_eq_false, Bool.false_eq_true, not_false_eq_true, not_true_eq_false, decide_false, decide_eq_false_iff_not, decide_eq_true_eq, Classical.not_not, ite_not, lit, Nat.reduceEqDiff, Nat.reduceLT, nI_add, nI_lt', nI_le', nI_eq', nI_sub', pk_mul, nI_rem', nI_div', nI_nz, remN, clampN, inb_nI, Nat.not_lt_zero, Nat.zero_le, Nat.le_zero_eq, if_true, if_false, m1_lt0, m1_eq, t_ite, f_ite, Bool.not_false, Bool.not_true, nI_and, nI_or, nI_xor, nI_shl1, nI_shr, nI_ushr, nI_not, nI_and_p2, Nat.one_mul, vrf_s, vrf_n, oF_174, oO_174, oA_175, oS_175, oA_176, oS_176, oA_177, oS_177, oA_178, oS_178, oA_179, oS_179, oA_180, oS_180, oA_181, oS_181, oA_182, oS_182, oA_183, oS_183, oA_184, oS_184, oA_185, oS_185, oA_186, oS_186, oA_187, oS_187, oA_188, oS_188, mO_M_keep, mO_M_pass]
  refine Eq.trans x6 ?_
  try dsimp only
  rw [r_M_arePassed_7]
  by_cases e : hrC s n = n
  · rw [decide_eq_true e, e]
    simp (disch := omega) only [r_M_arePassed_8, r_M_arePassed_9, r_M_arePassed_41, r_M_arePassed_42, bnd, tl_s, tl_n, wt_nil, wt_int, wt_ref, wt_null, wt_long, Nat.reduceAdd, Nat.reduceLeDiff, if_true, if_false, decide_true, Bool.true_and, Bool.and_true, zok_n0, zok_n1, zok_bI, bI_eq0, bI_eq1, Bool.true_eq_false, Bool.false_eq_true, not_false_eq_true, not_true_eq_false, decide_false, decide_eq_false_iff_not, decide_eq_true_eq, Classical.not_not, ite_not, lit, Nat.reduceEqDiff, Nat.reduceLT, nI_add, nI_lt', nI_le', nI_eq', nI_sub', pk_mul, nI_rem', nI_div', nI_nz, remN, clampN, inb_nI, Nat.not_lt_zero, Nat.zero_le, Nat.le_zero_eq, if_true, if_false, m1_lt0, m1_eq, t_ite, f_ite, Bool.not_false, Bool.not_true, nI_and, nI_or, nI_xor, nI_shl1, nI_shr, nI_ushr, nI_not, nI_and_p2, Nat.one_mul, vrf_s, vrf_n, oF_174, oO_174, oA_175, oS_175, oA_176, oS_176, oA_177, oS_177, oA_178, oS_178, oA_179, oS_179, oA_180, oS_180, oA_181, oS_181, oA_182, oS_182, oA_183, oS_183, oA_184, oS_184, oA_185, oS_185, oA_186, oS_186, oA_187, oS_187, oA_188, oS_188, mO_M_keep, mO_M_pass, Nat.le_refl]
    rfl
  · have hni : ¬ n ≤ hrC s n := by omega
    have hhr := hrsK_hr (s := s) (T := T) (hrC s n)
    have h6 : gI X 175 6 = nI 9999 := by
      rw [(x2.km x3).hr, hhr]
      unfold hrC at e ⊢
      congr 1
      omega
    rw [decide_eq_false e]
    simp (disch := omega) only [r_M_arePassed_8, r_M_arePassed_9, r_M_arePassed_12, r_M_arePassed_12n, r_M_arePassed_13, r_M_arePassed_16, r_M_arePassed_18, r_M_arePassed_19, r_M_arePassed_22, r_M_arePassed_25, r_M_arePassed_26, bnd, tl_s, tl_n, wt_nil, wt_int, wt_ref, wt_null, wt_long, Nat.reduceAdd, Nat.reduceLeDiff, if_true, if_false, decide_true, Bool.true_and, Bool.and_true, zok_n0, zok_n1, zok_bI, bI_eq0, bI_eq1, Bool.true_eq_false, Bool.false_eq_true, not_false_eq_true, not_true_eq_false, decide_false, decide_eq_false_iff_not, decide_eq_true_eq, Classical.not_not, ite_not, lit, Nat.reduceEqDiff, Nat.reduceLT, nI_add, nI_lt', nI_le', nI_eq', nI_sub', pk_mul, nI_rem', nI_div', nI_nz, remN, clampN, inb_nI, Nat.not_lt_zero, Nat.zero_le, Nat.le_zero_eq, if_true, if_false, m1_lt0, m1_eq, t_ite, f_ite, Bool.not_false, Bool.not_true, nI_and, nI_or, nI_xor, nI_shl1, nI_shr, nI_ushr, nI_not, nI_and_p2, Nat.one_mul, vrf_s, vrf_n, oF_174, oO_174, oA_175, oS_175, oA_176, oS_176, oA_177, oS_177, oA_178, oS_178, oA_179, oS_179, oA_180, oS_180, oA_181, oS_181, oA_182, oS_182, oA_183, oS_183, oA_184, oS_184, oA_185, oS_185, oA_186, oS_186, oA_187, oS_187, oA_188, oS_188, mO_M_keep, mO_M_pass, x2.1.a, hni, h6]
    rfl
theorem y_playHours {n : Nat} (hX : IX M s s' T tb tl f) (ho : IO s s' tb tl) (hn : n ≤ 63) : ∃ M', D LX M M' ∧ IX M' (hrsK s T (hrC s n)).1 s' T tb tl f ∧ IO (hrsK s T (hrC s n)).1 s' tb tl ∧ ev (d + 7) m_X_playHours [.ref 0, .int (nI n)] NX M = some (some (.int (bI (decide (hrC s n = n)))), NX, M') := by
  have h99 := ho.1.2.1.2.2.2.2.2.1
  have hC1 : hrC s n ≤ n := Nat.min_le_left _ _
  have hC2 : hrC s n ≤ 9999 - mHr (sNow s) := Nat.min_le_right _ _
  obtain ⟨X, ⟨x1, x2, x3⟩, x6⟩ := lpE (R := fun i (X : Mem) => run (ev (d + 6)) m_X_playHours 2 [some (.ref 0), some (.int (nI n)), some (.int (nI i))] [] NX X) (I := fun i X => D LX M X ∧ IX X (hrsK s T i).1 s' T tb tl f ∧ IO (hrsK s T i).1 s' tb tl) (n := hrC s n) (by
    intro i X hi ⟨x1, x2, x3⟩
    have hni : ¬ n ≤ i := by omega
    have hhr := hrsK_hr (s := s) (T := T) i
    have h6 : gI X 4 4 = nI (mHr (sNow s) + i) := by rw [(x2.kx x3).hr, hhr]
    have hne : mHr (sNow s) + i < 9999 := by omega
    obtain ⟨Z, M', a1, a2, a3, a3', a4, a5⟩ := y_hr1 (d := d) x2 x3 (by omega)
    obtain ⟨Z', c1, c2, c3⟩ := y_keepStep (d := d + 3) x2 x3
    obtain ⟨M'', e1, e2, e3, e4⟩ := y_passNow (d := d) c2 (kpS_ok x3) (show mHr (sNow (kpS (hrsK s T i).1)) ≤ 9998 by show mHr (sNow (hrsK s T i).1) ≤ 9998; omega)
    refine ⟨M'', ⟨(x1.trans c1).trans e1, e2, e3⟩, ?_⟩
    try dsimp only
    rw [r_X_playHours_2]
    simp (disch := omega) only [r_X_playHours_3, r_X_playHours_4, r_X_playHours_7, r_X_playHours_7n, r_X_playHours_8, r_X_playHours_11, r_X_playHours_14, r_X_playHours_17, r_X_playHours_20, r_X_playHours_23, r_X_playHours_24, r_X_playHours_25, r_X_playHours_25n, r_X_playHours_26, r_X_playHours_29, r_X_playHours_32, r_X_playHours_32n, r_X_playHours_33, r_X_playHours_33n, r_X_playHours_34, r_X_playHours_37, r_X_playHours_40, r_X_playHours_43, r_X_playHours_44, r_X_playHours_47, bnd, tl_s, tl_n, wt_nil, wt_int, wt_ref, wt_null, wt_long, Nat.reduceAdd, Nat.reduceLeDiff, if_true, if_false, decide_true, Bool.true_and, Bool.and_true, zok_n0, zok_n1, zok_bI, bI_eq0, bI_eq1, Bool.true_eq_false, Bool.false_eq_true, not_false_eq_true, not_true_eq_false, decide_false, decide_eq_false_iff_not, decide_eq_true_eq, Classical.not_not, ite_not, lit, Nat.reduceEqDiff, Nat.reduceLT, nI_add, nI_lt', nI_le', nI_eq', nI_sub', pk_mul, nI_rem', nI_div', nI_nz, remN, clampN, inb_nI, Nat.not_lt_zero, Nat.zero_le, Nat.le_zero_eq, if_true, if_false, m1_lt0, m1_eq, t_ite, f_ite, Bool.not_false, Bool.not_true, nI_and, nI_or, nI_xor, nI_shl1, nI_shr, nI_ushr, nI_not, nI_and_p2, Nat.one_mul, vrf_s, vrf_n, oF_0, oO_0, oF_1, oO_1, oA_2, oS_2, oA_3, oS_3, oF_4, oO_4, oA_5, oS_5, oA_6, oS_6, oA_7, oS_7, oA_8, oS_8, oA_9, oS_9, oF_70, oO_70, oA_71, oS_71, oA_72, oS_72, oF_73, oO_73, oA_74, oS_74, oA_75, oS_75, oA_76, oS_76, oA_77, oS_77, oA_78, oS_78, oA_139, oS_139, oF_140, oO_140, oA_141, oS_141, oA_142, oS_142, oA_143, oS_143, oA_144, oS_144, oF_145, oO_145, oF_146, oO_146, oA_147, oS_147, oF_148, oO_148, oA_149, oS_149, oA_150, oS_150, oA_151, oS_151, oF_152, oO_152, oA_153, oS_153, oF_154, oO_154, oA_155, oS_155, oA_156, oS_156, oA_157, oS_157, oA_158, oS_158, oF_159, oO_159, oA_160, oS_160, oA_161, oS_161, oA_162, oS_162, oA_163, oS_163, oF_164, oO_164, oA_165, oS_165, oA_166, oS_166, oA_167, oS_167, oA_168, oS_168, oF_169, oO_169, oA_170, oS_170, oA_171, oS_171, oA_172, oS_172, oA_173, oS_173, mO_Site_keepStep, mO_X_passHour, x2.1 0 0 1 rfl, x2.1 0 1 70 rfl, x2.1 0 2 139 rfl, x2.1 0 3 140 rfl, x2.1 0 4 145 rfl, x2.1 0 5 146 rfl, x2.1 0 6 148 rfl, x2.1 0 7 152 rfl, x2.1 1 1 2 rfl, x2.1 1 2 3 rfl, x2.1 1 3 4 rfl, x2.1 1 4 6 rfl, x2.1 1 9 7 rfl, x2.1 1 11 8 rfl, x2.1 1 12 9 rfl, x2.1 4 6 5 rfl, x2.1 152 6 153 rfl, x2.1 140 0 141 rfl, x2.1 140 2 142 rfl, x2.1 140 3 143 rfl, x2.1 140 4 144 rfl, x2.1 146 0 147 rfl, x2.1 148 0 149 rfl, x2.1 148 2 150 rfl, x2.1 148 3 151 rfl, c2.1 0 0 1 rfl, c2.1 0 1 70 rfl, c2.1 0 2 139 rfl, c2.1 0 3 140 rfl, c2.1 0 4 145 rfl, c2.1 0 5 146 rfl, c2.1 0 6 148 rfl, c2.1 0 7 152 rfl, c2.1 1 1 2 rfl, c2.1 1 2 3 rfl, c2.1 1 3 4 rfl, c2.1 1 4 6 rfl, c2.1 1 9 7 rfl, c2.1 1 11 8 rfl, c2.1 1 12 9 rfl, c2.1 4 6 5 rfl, c2.1 152 6 153 rfl, c2.1 140 0 141 rfl, c2.1 140 2 142 rfl, c2.1 140 3 143 rfl, c2.1 140 4 144 rfl, c2.1 146 0 147 rfl, c2.1 148 0 149 rfl, c2.1 148 2 150 rfl, c2.1 148 3 151 rfl, hni, h6, hne, c3, e4]) (hrC s n) 0 M (by omega) ⟨D.rfl', hX, ho⟩
  refine ⟨X, x1, x2, x3, ?_⟩
  rw [e_X_playHours]
  simp (disch := omega) only [r_X_playHours_0, r_X_playHours_1, bnd, tl_s, tl_n, wt_nil, wt_int, wt_ref, wt_null, wt_long, Nat.reduceAdd, Nat.reduceLeDiff, if_true, if_false, decide_true, Bool.true_and, Bool.and_true, zok_n0, zok_n1, zok_bI, bI_eq0, bI_eq1, Bool.true_eq_false, Bool.false_eq_true, not_false_eq_true, not_true_eq_false, decide_false, decide_eq_false_iff_not, decide_eq_true_eq, Classical.not_not, ite_not, lit, Nat.reduceEqDiff, Nat.reduceLT, nI_add, nI_lt', nI_le', nI_eq', nI_sub', pk_mul, nI_rem', nI_div', nI_nz, remN, clampN, inb_nI, Nat.not_lt_zero, Nat.zero_le, Nat.le_zero_eq, if_true, if_false, m1_lt0, m1_eq, t_ite, f_ite, Bool.not_false, Bool.not_true, nI_and, nI_or, nI_xor, nI_shl1, nI_shr, nI_ushr, nI_not, nI_and_p2, Nat.one_mul, vrf_s, vrf_n, oF_0, oO_0, oF_1, oO_1, oA_2, oS_2, oA_3, oS_3, oF_4, oO_4, oA_5, oS_5, oA_6, oS_6, oA_7, oS_7, oA_8, oS_8, oA_9, oS_9, oF_70, oO_70, oA_71, oS_71, oA_72, oS_72, oF_73, oO_73, oA_74, oS_74, oA_75, oS_75, oA_76, oS_76, oA_77, oS_77, oA_78, oS_78, oA_139, oS_139, oF_140, oO_140, oA_141, oS_141, oA_142, oS_142, oA_143, oS_143, oA_144, oS_144, oF_145, oO_145, oF_146, oO_146, oA_147, oS_147, oF_148, oO_148, oA_149, oS_149, oA_150, oS_150, oA_151, oS_151, oF_152, oO_152, oA_153, oS_153, oF_154, oO_154, oA_155, oS_155, oA_156, oS_156, oA_157, oS_157, oA_158, oS_158, oF_159, oO_159, oA_160, oS_160, oA_161, oS_161, oA_162, oS_162, oA_163, oS_163, oF_164, oO_164, oA_165, oS_165, oA_166, oS_166, oA_167, oS_167, oA_168, oS_168, oF_169, oO_169, oA_170, oS_170, oA_171, oS_171, oA_172, oS_172, oA_173, oS_173, mO_Site_keepStep, mO_X_passHour]
  refine Eq.trans x6 ?_
  try dsimp only
  rw [r_X_playHours_2]
  by_cases e : hrC s n = n
  · rw [decide_eq_true e, e]
    simp (disch := omega) only [r_X_playHours_0, r_X_playHours_1, r_X_playHours_2, r_X_playHours_3, r_X_playHours_4, r_X_playHours_7, r_X_playHours_7n, r_X_playHours_8, r_X_playHours_11, r_X_playHours_14, r_X_playHours_17, r_X_playHours_20, r_X_playHours_23, r_X_playHours_24, r_X_playHours_25, r_X_playHours_25n, r_X_playHours_26, r_X_playHours_29, r_X_playHours_32, r_X_playHours_32n, r_X_playHours_33, r_X_playHours_33n, r_X_playHours_34, r_X_playHours_37, r_X_playHours_40, r_X_playHours_43, r_X_playHours_44, r_X_playHours_47, r_X_playHours_50, r_X_playHours_51, bnd, tl_s, tl_n, wt_nil, wt_int, wt_ref, wt_null, wt_long, Nat.reduceAdd, Nat.reduceLeDiff, if_true, if_false, decide_true, Bool.true_and, Bool.and_true, zok_n0, zok_n1, zok_bI, bI_eq0, bI_eq1, Bool.true_eq_false, Bool.false_eq_true, not_false_eq_true, not_true_eq_false, decide_false, decide_eq_false_iff_not, decide_eq_true_eq, Classical.not_not, ite_not, lit, Nat.reduceEqDiff, Nat.reduceLT, nI_add, nI_lt', nI_le', nI_eq', nI_sub', pk_mul, nI_rem', nI_div', nI_nz, remN, clampN, inb_nI, Nat.not_lt_zero, Nat.zero_le, Nat.le_zero_eq, if_true, if_false, m1_lt0, m1_eq, t_ite, f_ite, Bool.not_false, Bool.not_true, nI_and, nI_or, nI_xor, nI_shl1, nI_shr, nI_ushr, nI_not, nI_and_p2, Nat.one_mul, vrf_s, vrf_n, oF_0, oO_0, oF_1, oO_1, oA_2, oS_2, oA_3, oS_3, oF_4, oO_4, oA_5, oS_5, oA_6, oS_6, oA_7, oS_7, oA_8, oS_8, oA_9, oS_9, oF_70, oO_70, oA_71, oS_71, oA_72, oS_72, oF_73, oO_73, oA_74, oS_74, oA_75, oS_75, oA_76, oS_76, oA_77, oS_77, oA_78, oS_78, oA_139, oS_139, oF_140, oO_140, oA_141, oS_141, oA_142, oS_142, oA_143, oS_143, oA_144, oS_144, oF_145, oO_145, oF_146, oO_146, oA_147, oS_147, oF_148, oO_148, oA_149, oS_149, oA_150, oS_150, oA_151, oS_151, oF_152, oO_152, oA_153, oS_153, oF_154, oO_154, oA_155, oS_155, oA_156, oS_156, oA_157, oS_157, oA_158, oS_158, oF_159, oO_159, oA_160, oS_160, oA_161, oS_161, oA_162, oS_162, oA_163, oS_163, oF_164, oO_164, oA_165, oS_165, oA_166, oS_166, oA_167, oS_167, oA_168, oS_168, oF_169, oO_169, oA_170, oS_170, oA_171, oS_171, oA_172, oS_172, oA_173, oS_173, mO_Site_keepStep, mO_X_passHour, Nat.le_refl]
    rfl
  · have hni : ¬ n ≤ hrC s n := by omega
    have hhr := hrsK_hr (s := s) (T := T) (hrC s n)
    have h6 : gI X 4 4 = nI 9999 := by
      rw [(x2.kx x3).hr, hhr]
      unfold hrC at e ⊢
      congr 1
      omega
    rw [decide_eq_false e]
    simp (disch := omega) only [r_X_playHours_0, r_X_playHours_1, r_X_playHours_2, r_X_playHours_3, r_X_playHours_4, r_X_playHours_7, r_X_playHours_7n, r_X_playHours_8, r_X_playHours_11, r_X_playHours_14, r_X_playHours_17, r_X_playHours_20, r_X_playHours_23, r_X_playHours_24, r_X_playHours_25, r_X_playHours_25n, r_X_playHours_26, r_X_playHours_29, r_X_playHours_32, r_X_playHours_32n, r_X_playHours_33, r_X_playHours_33n, r_X_playHours_34, r_X_playHours_37, r_X_playHours_40, r_X_playHours_43, r_X_playHours_44, r_X_playHours_47, r_X_playHours_50, r_X_playHours_51, bnd, tl_s, tl_n, wt_nil, wt_int, wt_ref, wt_null, wt_long, Nat.reduceAdd, Nat.reduceLeDiff, if_true, if_false, decide_true, Bool.true_and, Bool.and_true, zok_n0, zok_n1, zok_bI, bI_eq0, bI_eq1, Bool.true_eq_false, Bool.false_eq_true, not_false_eq_true, not_true_eq_false, decide_false, decide_eq_false_iff_not, decide_eq_true_eq, Classical.not_not, ite_not, lit, Nat.reduceEqDiff, Nat.reduceLT, nI_add, nI_lt', nI_le', nI_eq', nI_sub', pk_mul, nI_rem', nI_div', nI_nz, remN, clampN, inb_nI, Nat.not_lt_zero, Nat.zero_le, Nat.le_zero_eq, if_true, if_false, m1_lt0, m1_eq, t_ite, f_ite, Bool.not_false, Bool.not_true, nI_and, nI_or, nI_xor, nI_shl1, nI_shr, nI_ushr, nI_not, nI_and_p2, Nat.one_mul, vrf_s, vrf_n, oF_0, oO_0, oF_1, oO_1, oA_2, oS_2, oA_3, oS_3, oF_4, oO_4, oA_5, oS_5, oA_6, oS_6, oA_7, oS_7, oA_8, oS_8, oA_9, oS_9, oF_70, oO_70, oA_71, oS_71, oA_72, oS_72, oF_73, oO_73, oA_74, oS_74, oA_75, oS_75, oA_76, oS_76, oA_77, oS_77, oA_78, oS_78, oA_139, oS_139, oF_140, oO_140, oA_141, oS_141, oA_142, oS_142, oA_143, oS_143, oA_144, oS_144, oF_145, oO_145, oF_146, oO_146, oA_147, oS_147, oF_148, oO_148, oA_149, oS_149, oA_150, oS_150, oA_151, oS_151, oF_152, oO_152, oA_153, oS_153, oF_154, oO_154, oA_155, oS_155, oA_156, oS_156, oA_157, oS_157, oA_158, oS_158, oF_159, oO_159, oA_160, oS_160, oA_161, oS_161, oA_162, oS_162, oA_163, oS_163, oF_164, oO_164, oA_165, oS_165, oA_166, oS_166, oA_167, oS_167, oA_168, oS_168, oF_169, oO_169, oA_170, oS_170, oA_171, oS_171, oA_172, oS_172, oA_173, oS_173, mO_Site_keepStep, mO_X_passHour, x2.1 0 0 1 rfl, x2.1 0 1 70 rfl, x2.1 0 2 139 rfl, x2.1 0 3 140 rfl, x2.1 0 4 145 rfl, x2.1 0 5 146 rfl, x2.1 0 6 148 rfl, x2.1 0 7 152 rfl, x2.1 1 1 2 rfl, x2.1 1 2 3 rfl, x2.1 1 3 4 rfl, x2.1 1 4 6 rfl, x2.1 1 9 7 rfl, x2.1 1 11 8 rfl, x2.1 1 12 9 rfl, x2.1 4 6 5 rfl, x2.1 152 6 153 rfl, x2.1 140 0 141 rfl, x2.1 140 2 142 rfl, x2.1 140 3 143 rfl, x2.1 140 4 144 rfl, x2.1 146 0 147 rfl, x2.1 148 0 149 rfl, x2.1 148 2 150 rfl, x2.1 148 3 151 rfl, hni, h6]
    rfl
end H8
