/-! CALLS: feed -/
def by4 (v : Int32) (k : Nat) : Nat := ((v >>> nI k) &&& nI 255).toNatClampNeg
def upT (tb : Nat → Nat) (t b : Nat) : Nat → Nat := fun j => if j = t then b else tb j
def t4 (v : Int32) (tb : Nat → Nat) (tl : Nat) : Nat → Nat := upT (upT (upT (upT tb tl (by4 v 24)) (tl + 1) (by4 v 16)) (tl + 2) (by4 v 8)) (tl + 3) (by4 v 0)
theorem and255 (x : Int32) : (x &&& nI 255).toNatClampNeg < 256 ∧ nI (x &&& nI 255).toNatClampNeg = x &&& nI 255 := by
  have h1 : (x &&& nI 255).toBitVec.toNat < 256 := by
    rw [Int32.toBitVec_and, BitVec.toNat_and]
    exact Nat.lt_of_le_of_lt Nat.and_le_right (by decide)
  have h2 : (x &&& nI 255).toInt = ((x &&& nI 255).toBitVec.toNat : Int) := BitVec.toInt_eq_toNat_of_lt (by omega)
  have h3 : (x &&& nI 255).toNatClampNeg = (x &&& nI 255).toBitVec.toNat := by
    show (x &&& nI 255).toInt.toNat = _
    rw [h2]
    rfl
  refine ⟨by rw [h3]; exact h1, Int32.toInt_inj.mp ?_⟩
  rw [h3, nI_toInt (by omega), h2]
theorem and255_8 (x : Int32) : (x &&& nI 255).toInt8 = x.toInt8 := by
  apply Int8.toBitVec_inj.mp
  rw [Int32.toBitVec_toInt8, Int32.toBitVec_toInt8, Int32.toBitVec_and, BitVec.signExtend_eq_setWidth_of_le _ (by decide), BitVec.signExtend_eq_setWidth_of_le _ (by decide), BitVec.setWidth_and, show BitVec.setWidth 8 (nI 255).toBitVec = BitVec.allOnes 8 by decide, BitVec.and_allOnes]
section FD
variable {d : Nat} {M M' : Mem} {s s' : St} {T : Nat → Tx} {tb : Nat → Nat} {tl : Nat} {f : Fa} {m : Mo}
theorem by4_lt (v : Int32) (k : Nat) : by4 v k < 256 := (and255 _).1
theorem by4_I (v : Int32) (k : Nat) : nI (by4 v k) = v >>> nI k &&& nI 255 := (and255 _).2
theorem by4_8 (v : Int32) (k : Nat) : (nI (by4 v k)).toInt8.toInt32 = (v >>> nI k).toInt8.toInt32 := by rw [by4_I, and255_8]
theorem upT_ok {b : Nat} (ho : IO s s' tb tl) (hb : b < 256) (ht : tl < 300) : IO s s' (upT tb tl b) (tl + 1) := ⟨ho.1, ho.2.1, ho.2.2.1, by omega, fun i => by unfold upT; split; exact hb; exact ho.2.2.2.2 i⟩
theorem IX.tape {b : Nat} {x : Int32} (h : IX M s s' T tb tl f) (ho : IO s s' tb tl) (hx : x = (nI b).toInt8.toInt32) : D (fun k j => (k = 140 ∧ j = 1) ∨ k = 141) M (sI (sI M 141 tl x) 140 1 (nI (tl + 1))) ∧ IX (sI (sI M 141 tl x) 140 1 (nI (tl + 1))) s s' T (upT tb tl b) (tl + 1) f := by
  have hd : D (fun k j => (k = 140 ∧ j = 1) ∨ k = 141) M (sI (sI M 141 tl x) 140 1 (nI (tl + 1))) := (D.rfl'.sI (Or.inr rfl)).sI (Or.inl ⟨rfl, rfl⟩)
  obtain ⟨a1, a2, a3, a4, a5, a6⟩ := h
  have h4 := ho.1.2.2.2.2.1
  refine ⟨hd, a1.D hd (fun k j z => by rcases z with ⟨rfl, rfl⟩ | rfl <;> rfl), a2.dP ho.1 hd (fun k j z => by omega), a3.dP ho.2.1 hd (fun k j z => by omega), fun t ht => (a4 t ht).dP hd (fun k j z => by omega), ⟨gI_sI_eq, fun i hi => ?_⟩, ⟨(hd.i (by omega)).trans a6.1, fun hf => ⟨(hd.i (by omega)).trans (a6.2 hf).1, (hd.i (by omega)).trans (a6.2 hf).2⟩⟩⟩
  rw [gI_sI_nk (by decide)]
  unfold upT
  by_cases e : i = tl
  · rw [if_pos e, e, gI_sI_eq, hx]
  · rw [if_neg e, gI_sI_nj e]; exact a5.2 i (by omega)
theorem IM.tape {b : Nat} {x : Int32} (h : IM M s s' T tb tl f) (ho : IO s s' tb tl) (hx : x = nI b) : D (fun k j => (k = 174 ∧ j = 4) ∨ k = 178) M (sI (sI M 178 tl x) 174 4 (nI (tl + 1))) ∧ IM (sI (sI M 178 tl x) 174 4 (nI (tl + 1))) s s' T (upT tb tl b) (tl + 1) f := by
  have hd : D (fun k j => (k = 174 ∧ j = 4) ∨ k = 178) M (sI (sI M 178 tl x) 174 4 (nI (tl + 1))) := (D.rfl'.sI (Or.inr rfl)).sI (Or.inl ⟨rfl, rfl⟩)
  obtain ⟨a1, a2, a3, a4, a5, a6, a7⟩ := h
  refine ⟨hd, a1, a2.dP ho.1 hd (fun j => by omega), a3.dP ho.2.1 hd (fun j => by omega), fun t ht => (a4 t ht).dP hd (fun j => by omega), ⟨gI_sI_eq, fun i hi => ?_⟩, ⟨(hd.i (by omega)).trans a6.1, (hd.i (by omega)).trans a6.2⟩, (hd.i (by omega)).trans a7⟩
  rw [gI_sI_nk (by decide)]
  unfold upT
  by_cases e : i = tl
  · rw [if_pos e, e, gI_sI_eq, hx]
  · rw [if_neg e, gI_sI_nj e]; exact a5.2 i (by omega)
theorem and31 {k : Nat} (hk : k < 32) : nI k &&& nI 31 = nI k := by
  rw [nI_and, Nat.and_two_pow_sub_one_eq_mod _ 5, Nat.mod_eq_of_lt hk]
theorem vn8 (x : Int8) : vp_nar .byte x.toInt32 = x.toInt32 := by
  unfold vp_nar
  show x.toInt32.toInt8.toInt32 = x.toInt32
  rw [Int8.toInt8_toInt32]
theorem y_af1 {v : Int32} {k : Nat} (hX : IX M s s' T tb tl f) (hk : k < 32) (ht : tl < 300) : run (ev d) m_Tape_addFour 3 [some (.ref 140), some (.int v), some (.int (nI k))] [] NX M = run (ev d) m_Tape_addFour 3 [some (.ref 140), some (.int v), some (.int (nI k + -nI 8))] [] NX (sI (sI M 141 tl (v >>> nI k).toInt8.toInt32) 140 1 (nI (tl + 1))) := by
  have hl := hX.2.2.2.2.1.1
  have ht' : ¬ 300 ≤ tl := by omega
  have hs : k &&& 31 = k := by rw [Nat.and_two_pow_sub_one_eq_mod _ 5, Nat.mod_eq_of_lt hk]
  have hs2 : k % 32 = k := Nat.mod_eq_of_lt hk
  rw [r_Tape_addFour_3]
  simp (disch := omega) only [r_Tape_addFour_4, r_Tape_addFour_7, r_Tape_addFour_7n, r_Tape_addFour_8, r_Tape_addFour_11, r_Tape_addFour_14, r_Tape_addFour_17, r_Tape_addFour_17n, r_Tape_addFour_18, r_Tape_addFour_21, r_Tape_addFour_21n, r_Tape_addFour_22, r_Tape_addFour_25, r_Tape_addFour_26, r_Tape_addFour_27, r_Tape_addFour_28, r_Tape_addFour_29, r_Tape_addFour_30, r_Tape_addFour_30n, r_Tape_addFour_31, r_Tape_addFour_31i, r_Tape_addFour_32, r_Tape_addFour_35, r_Tape_addFour_36, r_Tape_addFour_37, r_Tape_addFour_40, r_Tape_addFour_43, bnd, tl_s, tl_n, wt_nil, wt_int, wt_ref, wt_null, wt_long, Nat.reduceAdd, Nat.reduceLeDiff, if_true, if_false, decide_true, Bool.true_and, Bool.and_true, zok_n0, zok_n1, zok_bI, bI_eq0, bI_eq1, Bool.true_eq_false, Bool.false_eq_true, not_false_eq_true, not_true_eq_false, decide_false, decide_eq_false_iff_not, decide_eq_true_eq, Classical.not_not, ite_not, lit, Nat.reduceEqDiff, Nat.reduceLT, nI_add, nI_lt', nI_le', nI_eq', nI_sub', pk_mul, nI_rem', nI_div', nI_nz, remN, clampN, inb_nI, Nat.not_lt_zero, Nat.zero_le, Nat.le_zero_eq, if_true, if_false, m1_lt0, m1_eq, t_ite, f_ite, Bool.not_false, Bool.not_true, nI_and, nI_or, nI_xor, nI_shl1, nI_shr, nI_ushr, nI_not, nI_and_p2, Nat.one_mul, vrf_s, vrf_n, oF_0, oO_0, oF_1, oO_1, oA_2, oS_2, oA_3, oS_3, oF_4, oO_4, oA_5, oS_5, oA_6, oS_6, oA_7, oS_7, oA_8, oS_8, oA_9, oS_9, oF_70, oO_70, oA_71, oS_71, oA_72, oS_72, oF_73, oO_73, oA_74, oS_74, oA_75, oS_75, oA_76, oS_76, oA_77, oS_77, oA_78, oS_78, oA_139, oS_139, oF_140, oO_140, oA_141, oS_141, oA_142, oS_142, oA_143, oS_143, oA_144, oS_144, oF_145, oO_145, oF_146, oO_146, oA_147, oS_147, oF_148, oO_148, oA_149, oS_149, oA_150, oS_150, oA_151, oS_151, oF_152, oO_152, oA_153, oS_153, oF_154, oO_154, oA_155, oS_155, oA_156, oS_156, oA_157, oS_157, oA_158, oS_158, oF_159, oO_159, oA_160, oS_160, oA_161, oS_161, oA_162, oS_162, oA_163, oS_163, oF_164, oO_164, oA_165, oS_165, oA_166, oS_166, oA_167, oS_167, oA_168, oS_168, oF_169, oO_169, oA_170, oS_170, oA_171, oS_171, oA_172, oS_172, oA_173, oS_173, hX.1 0 0 1 rfl, hX.1 0 1 70 rfl, hX.1 0 2 139 rfl, hX.1 0 3 140 rfl, hX.1 0 4 145 rfl, hX.1 0 5 146 rfl, hX.1 0 6 148 rfl, hX.1 0 7 152 rfl, hX.1 1 1 2 rfl, hX.1 1 2 3 rfl, hX.1 1 3 4 rfl, hX.1 1 4 6 rfl, hX.1 1 9 7 rfl, hX.1 1 11 8 rfl, hX.1 1 12 9 rfl, hX.1 4 6 5 rfl, hX.1 152 6 153 rfl, hX.1 140 0 141 rfl, hX.1 140 2 142 rfl, hX.1 140 3 143 rfl, hX.1 140 4 144 rfl, hX.1 146 0 147 rfl, hX.1 148 0 149 rfl, hX.1 148 2 150 rfl, hX.1 148 3 151 rfl, hl, ht', hs, hs2, gI_sI_nk]
  rw [vn8]
theorem y_af {v : Int32} (hX : IX M s s' T tb tl f) (ho : IO s s' tb tl) (ht : tl + 4 ≤ 300) : ∃ M', D LX M M' ∧ IX M' s s' T (t4 v tb tl) (tl + 4) f ∧ IO s s' (t4 v tb tl) (tl + 4) ∧ ev (d + 1) m_Tape_addFour [.ref 140, .int v] NX M = some (none, NX, M') := by
  obtain ⟨d1, i1⟩ := hX.tape (b := by4 v 24) ho (by4_8 v 24).symm
  have o1 := upT_ok ho (by4_lt v 24) (by omega)
  obtain ⟨d2, i2⟩ := i1.tape (b := by4 v 16) o1 (by4_8 v 16).symm
  have o2 := upT_ok o1 (by4_lt v 16) (by omega)
  obtain ⟨d3, i3⟩ := i2.tape (b := by4 v 8) o2 (by4_8 v 8).symm
  have o3 := upT_ok o2 (by4_lt v 8) (by omega)
  obtain ⟨d4, i4⟩ := i3.tape (b := by4 v 0) o3 (by4_8 v 0).symm
  have o4 := upT_ok o3 (by4_lt v 0) (by omega)
  refine ⟨_, (((d1.trans d2).trans d3).trans d4).mono (fun k j z => by unfold LX; omega), i4, o4, ?_⟩
  have s1 := y_af1 (d := d) (v := v) (k := 24) hX (by decide) (by omega)
  have s2 := y_af1 (d := d) (v := v) (k := 16) i1 (by decide) (by omega)
  have s3 := y_af1 (d := d) (v := v) (k := 8) i2 (by decide) (by omega)
  have s4 := y_af1 (d := d) (v := v) (k := 0) i3 (by decide) (by omega)
  rw [show nI 24 + -nI 8 = nI 16 by decide] at s1
  rw [show nI 16 + -nI 8 = nI 8 by decide] at s2
  rw [show nI 8 + -nI 8 = nI 0 by decide] at s3
  rw [show nI 0 + -nI 8 = -nI 8 by decide] at s4
  have hneg : (-nI 8 < nI 0) = True := eq_true (by decide)
  rw [e_Tape_addFour]
  simp (disch := omega) only [r_Tape_addFour_0, r_Tape_addFour_2, bnd, tl_s, tl_n, wt_nil, wt_int, wt_ref, wt_null, wt_long, Nat.reduceAdd, Nat.reduceLeDiff, if_true, if_false, decide_true, Bool.true_and, Bool.and_true, zok_n0, zok_n1, zok_bI, bI_eq0, bI_eq1, Bool.true_eq_false, Bool.false_eq_true, not_false_eq_true, not_true_eq_false, decide_false, decide_eq_false_iff_not, decide_eq_true_eq, Classical.not_not, ite_not, lit, Nat.reduceEqDiff, Nat.reduceLT, nI_add, nI_lt', nI_le', nI_eq', nI_sub', pk_mul, nI_rem', nI_div', nI_nz, remN, clampN, inb_nI, Nat.not_lt_zero, Nat.zero_le, Nat.le_zero_eq, if_true, if_false, m1_lt0, m1_eq, t_ite, f_ite, Bool.not_false, Bool.not_true, nI_and, nI_or, nI_xor, nI_shl1, nI_shr, nI_ushr, nI_not, nI_and_p2, Nat.one_mul, vrf_s, vrf_n, oF_0, oO_0, oF_1, oO_1, oA_2, oS_2, oA_3, oS_3, oF_4, oO_4, oA_5, oS_5, oA_6, oS_6, oA_7, oS_7, oA_8, oS_8, oA_9, oS_9, oF_70, oO_70, oA_71, oS_71, oA_72, oS_72, oF_73, oO_73, oA_74, oS_74, oA_75, oS_75, oA_76, oS_76, oA_77, oS_77, oA_78, oS_78, oA_139, oS_139, oF_140, oO_140, oA_141, oS_141, oA_142, oS_142, oA_143, oS_143, oA_144, oS_144, oF_145, oO_145, oF_146, oO_146, oA_147, oS_147, oF_148, oO_148, oA_149, oS_149, oA_150, oS_150, oA_151, oS_151, oF_152, oO_152, oA_153, oS_153, oF_154, oO_154, oA_155, oS_155, oA_156, oS_156, oA_157, oS_157, oA_158, oS_158, oF_159, oO_159, oA_160, oS_160, oA_161, oS_161, oA_162, oS_162, oA_163, oS_163, oF_164, oO_164, oA_165, oS_165, oA_166, oS_166, oA_167, oS_167, oA_168, oS_168, oF_169, oO_169, oA_170, oS_170, oA_171, oS_171, oA_172, oS_172, oA_173, oS_173]
  rw [s1, s2, s3, s4, r_Tape_addFour_3]
  simp (disch := omega) only [r_Tape_addFour_4, r_Tape_addFour_46, bnd, tl_s, tl_n, wt_nil, wt_int, wt_ref, wt_null, wt_long, Nat.reduceAdd, Nat.reduceLeDiff, if_true, if_false, decide_true, Bool.true_and, Bool.and_true, zok_n0, zok_n1, zok_bI, bI_eq0, bI_eq1, Bool.true_eq_false, Bool.false_eq_true, not_false_eq_true, not_true_eq_false, decide_false, decide_eq_false_iff_not, decide_eq_true_eq, Classical.not_not, ite_not, lit, Nat.reduceEqDiff, Nat.reduceLT, nI_add, nI_lt', nI_le', nI_eq', nI_sub', pk_mul, nI_rem', nI_div', nI_nz, remN, clampN, inb_nI, Nat.not_lt_zero, Nat.zero_le, Nat.le_zero_eq, if_true, if_false, m1_lt0, m1_eq, t_ite, f_ite, Bool.not_false, Bool.not_true, nI_and, nI_or, nI_xor, nI_shl1, nI_shr, nI_ushr, nI_not, nI_and_p2, Nat.one_mul, vrf_s, vrf_n, oF_0, oO_0, oF_1, oO_1, oA_2, oS_2, oA_3, oS_3, oF_4, oO_4, oA_5, oS_5, oA_6, oS_6, oA_7, oS_7, oA_8, oS_8, oA_9, oS_9, oF_70, oO_70, oA_71, oS_71, oA_72, oS_72, oF_73, oO_73, oA_74, oS_74, oA_75, oS_75, oA_76, oS_76, oA_77, oS_77, oA_78, oS_78, oA_139, oS_139, oF_140, oO_140, oA_141, oS_141, oA_142, oS_142, oA_143, oS_143, oA_144, oS_144, oF_145, oO_145, oF_146, oO_146, oA_147, oS_147, oF_148, oO_148, oA_149, oS_149, oA_150, oS_150, oA_151, oS_151, oF_152, oO_152, oA_153, oS_153, oF_154, oO_154, oA_155, oS_155, oA_156, oS_156, oA_157, oS_157, oA_158, oS_158, oF_159, oO_159, oA_160, oS_160, oA_161, oS_161, oA_162, oS_162, oA_163, oS_163, oF_164, oO_164, oA_165, oS_165, oA_166, oS_166, oA_167, oS_167, oA_168, oS_168, oF_169, oO_169, oA_170, oS_170, oA_171, oS_171, oA_172, oS_172, oA_173, oS_173, hneg]
theorem x_af1 {v : Int32} {k : Nat} (hI : IM M s s' T tb tl f) (hk : k < 32) (ht : tl < 300) : run (ev d) m_M_four 3 [some (.ref 174), some (.int v), some (.int (nI k))] [] NX M = run (ev d) m_M_four 3 [some (.ref 174), some (.int v), some (.int (nI k + -nI 8))] [] NX (sI (sI M 178 tl (v >>> nI k &&& nI 255)) 174 4 (nI (tl + 1))) := by
  have hl := hI.2.2.2.2.1.1
  have hs : k &&& 31 = k := by rw [Nat.and_two_pow_sub_one_eq_mod _ 5, Nat.mod_eq_of_lt hk]
  have hs2 : k % 32 = k := Nat.mod_eq_of_lt hk
  have r3 : gR M 174 3 = some 178 := hI.1.2.2.2.1
  rw [r_M_four_3]
  simp (disch := omega) only [r_M_four_4, r_M_four_7, r_M_four_7n, r_M_four_8, r_M_four_11, r_M_four_11n, r_M_four_12, r_M_four_15, r_M_four_16, r_M_four_17, r_M_four_18, r_M_four_21, r_M_four_22, r_M_four_23, r_M_four_23n, r_M_four_24, r_M_four_24i, r_M_four_25, r_M_four_28, r_M_four_29, r_M_four_30, r_M_four_33, r_M_four_36, bnd, tl_s, tl_n, wt_nil, wt_int, wt_ref, wt_null, wt_long, Nat.reduceAdd, Nat.reduceLeDiff, if_true, if_false, decide_true, Bool.true_and, Bool.and_true, zok_n0, zok_n1, zok_bI, bI_eq0, bI_eq1, Bool.true_eq_false, Bool.false_eq_true, not_false_eq_true, not_true_eq_false, decide_false, decide_eq_false_iff_not, decide_eq_true_eq, Classical.not_not, ite_not, lit, Nat.reduceEqDiff, Nat.reduceLT, nI_add, nI_lt', nI_le', nI_eq', nI_sub', pk_mul, nI_rem', nI_div', nI_nz, remN, clampN, inb_nI, Nat.not_lt_zero, Nat.zero_le, Nat.le_zero_eq, if_true, if_false, m1_lt0, m1_eq, t_ite, f_ite, Bool.not_false, Bool.not_true, nI_and, nI_or, nI_xor, nI_shl1, nI_shr, nI_ushr, nI_not, nI_and_p2, Nat.one_mul, vrf_s, vrf_n, oF_174, oO_174, oA_175, oS_175, oA_176, oS_176, oA_177, oS_177, oA_178, oS_178, oA_179, oS_179, oA_180, oS_180, oA_181, oS_181, oA_182, oS_182, oA_183, oS_183, oA_184, oS_184, oA_185, oS_185, oA_186, oS_186, oA_187, oS_187, oA_188, oS_188, hI.1.a, r3, hl, hs, hs2, gI_sI_nk]
theorem x_af {v : Int32} (hX : IM M s s' T tb tl f) (ho : IO s s' tb tl) (ht : tl + 4 ≤ 300) : ∃ M', D LM M M' ∧ IM M' s s' T (t4 v tb tl) (tl + 4) f ∧ ev (d + 1) m_M_four [.ref 174, .int v] NX M = some (none, NX, M') := by
  obtain ⟨d1, i1⟩ := hX.tape (b := by4 v 24) ho (by4_I v 24).symm
  have o1 := upT_ok ho (by4_lt v 24) (by omega)
  obtain ⟨d2, i2⟩ := i1.tape (b := by4 v 16) o1 (by4_I v 16).symm
  have o2 := upT_ok o1 (by4_lt v 16) (by omega)
  obtain ⟨d3, i3⟩ := i2.tape (b := by4 v 8) o2 (by4_I v 8).symm
  have o3 := upT_ok o2 (by4_lt v 8) (by omega)
  obtain ⟨d4, i4⟩ := i3.tape (b := by4 v 0) o3 (by4_I v 0).symm
  refine ⟨_, (((d1.trans d2).trans d3).trans d4).mono (fun k j z => by unfold LM; omega), i4, ?_⟩
  have s1 := x_af1 (d := d) (v := v) (k := 24) hX (by decide) (by omega)
  have s2 := x_af1 (d := d) (v := v) (k := 16) i1 (by decide) (by omega)
  have s3 := x_af1 (d := d) (v := v) (k := 8) i2 (by decide) (by omega)
  have s4 := x_af1 (d := d) (v := v) (k := 0) i3 (by decide) (by omega)
  rw [show nI 24 + -nI 8 = nI 16 by decide] at s1
  rw [show nI 16 + -nI 8 = nI 8 by decide] at s2
  rw [show nI 8 + -nI 8 = nI 0 by decide] at s3
  rw [show nI 0 + -nI 8 = -nI 8 by decide] at s4
  have hneg : (-nI 8 < nI 0) = True := eq_true (by decide)
  rw [e_M_four]
  simp (disch := omega) only [r_M_four_0, r_M_four_2, bnd, tl_s, tl_n, wt_nil, wt_int, wt_ref, wt_null, wt_long, Nat.reduceAdd, Nat.reduceLeDiff, if_true, if_false, decide_true, Bool.true_and, Bool.and_true, zok_n0, zok_n1, zok_bI, bI_eq0, bI_eq1, Bool.true_eq_false, Bool.false_eq_true, not_false_eq_true, not_true_eq_false, decide_false, decide_eq_false_iff_not, decide_eq_true_eq, Classical.not_not, ite_not, lit, Nat.reduceEqDiff, Nat.reduceLT, nI_add, nI_lt', nI_le', nI_eq', nI_sub', pk_mul, nI_rem', nI_div', nI_nz, remN, clampN, inb_nI, Nat.not_lt_zero, Nat.zero_le, Nat.le_zero_eq, if_true, if_false, m1_lt0, m1_eq, t_ite, f_ite, Bool.not_false, Bool.not_true, nI_and, nI_or, nI_xor, nI_shl1, nI_shr, nI_ushr, nI_not, nI_and_p2, Nat.one_mul, vrf_s, vrf_n, oF_174, oO_174, oA_175, oS_175, oA_176, oS_176, oA_177, oS_177, oA_178, oS_178, oA_179, oS_179, oA_180, oS_180, oA_181, oS_181, oA_182, oS_182, oA_183, oS_183, oA_184, oS_184, oA_185, oS_185, oA_186, oS_186, oA_187, oS_187, oA_188, oS_188]
  rw [s1, s2, s3, s4, r_M_four_3]
  simp (disch := omega) only [r_M_four_4, r_M_four_39, bnd, tl_s, tl_n, wt_nil, wt_int, wt_ref, wt_null, wt_long, Nat.reduceAdd, Nat.reduceLeDiff, if_true, if_false, decide_true, Bool.true_and, Bool.and_true, zok_n0, zok_n1, zok_bI, bI_eq0, bI_eq1, Bool.true_eq_false, Bool.false_eq_true, not_false_eq_true, not_true_eq_false, decide_false, decide_eq_false_iff_not, decide_eq_true_eq, Classical.not_not, ite_not, lit, Nat.reduceEqDiff, Nat.reduceLT, nI_add, nI_lt', nI_le', nI_eq', nI_sub', pk_mul, nI_rem', nI_div', nI_nz, remN, clampN, inb_nI, Nat.not_lt_zero, Nat.zero_le, Nat.le_zero_eq, if_true, if_false, m1_lt0, m1_eq, t_ite, f_ite, Bool.not_false, Bool.not_true, nI_and, nI_or, nI_xor, nI_shl1, nI_shr, nI_ushr, nI_not, nI_and_p2, Nat.one_mul, vrf_s, vrf_n, oF_174, oO_174, oA_175, oS_175, oA_176, oS_176, oA_177, oS_177, oA_178, oS_178, oA_179, oS_179, oA_180, oS_180, oA_181, oS_181, oA_182, oS_182, oA_183, oS_183, oA_184, oS_184, oA_185, oS_185, oA_186, oS_186, oA_187, oS_187, oA_188, oS_188, hneg]
end FD
