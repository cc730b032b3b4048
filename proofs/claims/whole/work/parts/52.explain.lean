/-! PUBLIC: explain; objections flipped -/
def obS (m : Mo) (B : Nat) : Mo := (m.1, m.2.1, B, m.2.2.2)
theorem obS_self (m : Mo) : obS m (mOb m) = m := rfl
theorem obS_ob (m : Mo) (B : Nat) : mOb (obS m B) = B := rfl
theorem obS_obS (m : Mo) (B C : Nat) : obS (obS m B) C = obS m C := rfl
theorem wb_shl' (n : Nat) {k : Nat} (hk : k < 64) : lN n <<< ((nI k).toInt64 &&& lN 63) = lN (n * 2 ^ k) := wb_shl n hk
theorem row_flip {B c p : Nat} (hc : c < 64) (hp : p < 8) : row (B ^^^ 2 ^ c) p = if p = c / 8 then row B p ^^^ 2 ^ (c % 8) else row B p := by
  apply eq_bits
  intro i
  by_cases hi : i < 8
  · rw [row_bit hi, Nat.testBit_xor, Nat.testBit_two_pow]
    by_cases e : p = c / 8
    · rw [if_pos e, Nat.testBit_xor, row_bit hi, Nat.testBit_two_pow]
      congr 1
      apply decide_eq_decide.mpr
      omega
    · rw [if_neg e, row_bit hi, decide_eq_false (by omega), Bool.xor_false]
  · rw [row_big (by omega)]
    by_cases e : p = c / 8
    · rw [if_pos e, Nat.testBit_xor, row_big (by omega), Nat.testBit_two_pow, decide_eq_false (by omega)]; rfl
    · rw [if_neg e, row_big (by omega)]
theorem OkB_flip {n B c : Nat} (h : OkB n B) (hc : c < 64) (h1 : c / 8 < n) (h2 : c % 8 < n) : OkB n (B ^^^ 2 ^ c) := by
  refine ⟨Nat.xor_lt_two_pow h.1 (Nat.pow_lt_pow_right (by decide) hc), fun p i hp hi hb => ?_⟩
  rw [row_flip hc hp] at hb
  by_cases e : p = c / 8
  · rw [if_pos e, Nat.testBit_xor, Nat.testBit_two_pow] at hb
    by_cases ei : c % 8 = i
    · omega
    · rw [decide_eq_false ei, Bool.xor_false] at hb
      exact h.2 p i hp hi hb
  · rw [if_neg e] at hb
    exact h.2 p i hp hi hb
theorem xx (B x : Nat) : B ^^^ x ^^^ x = B := by rw [Nat.xor_assoc, Nat.xor_self, Nat.xor_zero]
def chg (M : Mem) (m : Mo) (c : Nat) : Mem := sI M 175 (18 + c / 8) (nI (row (mOb m) (c / 8) ^^^ 2 ^ (c % 8)))
def PSO (k j : Nat) : Prop := PSM k j ∨ (k = 175 ∧ 18 ≤ j ∧ j < 26)
def DO (M X : Mem) : Prop := D PSO M X ∧ ∀ j, gL X 175 j = gL M 175 j ∧ gR X 175 j = gR M 175 j
theorem DO.rf {M : Mem} : DO M M := ⟨D.rfl', fun _ => ⟨rfl, rfl⟩⟩
theorem DO.sI {M X : Mem} {k j : Nat} {v : Int32} (h : DO M X) (hp : PSO k j) : DO M (sI X k j v) := ⟨h.1.sI hp, h.2⟩
theorem DO.fI {M X : Mem} {c i : Nat} {f : Nat → Int32} (h : DO M X) (hp : ∀ j, j < i → PSO c j) : DO M (fI X c f i) := ⟨h.1.fI hp, h.2⟩
theorem DO.chg {M X : Mem} {m : Mo} {c : Nat} (h : DO M X) (hc : c < 64) : DO M (chg X m c) := h.sI (by unfold PSO; omega)
def tens (s : Nat) : Nat := s / 8 * 10 + s % 8
section EX
variable {d : Nat} {M M' : Mem} {n : Nat} {W Rs : Nat → Nat} {m : Mo}
theorem DO.back {X : Mem} (hM : KM M n W Rs m) (hX : KM X n W Rs m) (hd : DO M X) : D PSM M X := by
  refine ⟨fun k j hp => ?_, hd.1.2⟩
  by_cases e : k = 175 ∧ 18 ≤ j ∧ j < 26
  · obtain ⟨rfl, e1, e2⟩ := e
    refine ⟨?_, (hd.2 j).1, (hd.2 j).2⟩
    have a := hM.ob (p := j - 18) (by omega)
    have b := hX.ob (p := j - 18) (by omega)
    rw [show 18 + (j - 18) = j by omega] at a b
    rw [a, b]
  · exact hd.1.1 k j (fun z => by
      rcases z with z | z
      · exact hp z
      · exact e z)
theorem OkM.flip {c : Nat} (h : OkM n m) (hc : c < 64) (h1 : c / 8 < n) (h2 : c % 8 < n) : OkM n (obS m (mOb m ^^^ 2 ^ c)) :=
  ⟨h.1, h.2.1, h.2.2.1, OkB_flip h.2.2.2.1 hc h1 h2, h.2.2.2.2⟩
theorem km_chg {c : Nat} (h : KM M n W Rs m) (hc : c < 64) (h1 : c / 8 < n) (h2 : c % 8 < n) : KM (chg M m c) n W Rs (obS m (mOb m ^^^ 2 ^ c)) := by
  have hd : D (fun k j => k = 175 ∧ j = 18 + c / 8) M (chg M m c) := D.rfl'.sI ⟨rfl, rfl⟩
  have hn := h.n8
  refine ⟨h.1, h.2.1.D hn hd (by omega) (fun j a b => by omega), ⟨(hd.i (by omega)).trans h.hr, (hd.i (by omega)).trans h.x, (hd.i (by omega)).trans h.wd, (hd.i (by omega)).trans h.cn, fun p hp => (hd.i (by omega)).trans (h.how hp), fun p hp => ?_, fun k hk => (hd.i (by omega)).trans (h.bk hk)⟩, h.okp, h.okm.flip hc h1 h2⟩
  show gI (chg M m c) 175 (18 + p) = nI (row (mOb m ^^^ 2 ^ c) p)
  rw [row_flip hc hp]
  by_cases e : p = c / 8
  · rw [if_pos e, e]; exact gI_sI_eq
  · rw [if_neg e]
    exact (hd.i (by omega)).trans (h.ob hp)
theorem x_change {c : Nat} (h : KM M n W Rs m) (hc : c < 64) : ev (d + 1) m_M_change [.ref 174, .int (nI c)] NX M = some (none, NX, chg M m c) := by
  have h8 : c / 8 < 8 := by omega
  have hr := row_8 (B := mOb m) (p := c / 8)
  rw [e_M_change]
  simp (disch := omega) only [r_M_change_0, r_M_change_0n, r_M_change_1, r_M_change_4, r_M_change_6, r_M_change_7, r_M_change_9, r_M_change_10, r_M_change_11, r_M_change_12, r_M_change_13, r_M_change_14, r_M_change_15, r_M_change_17, r_M_change_18, r_M_change_19, r_M_change_20, r_M_change_21, bnd, tl_s, tl_n, wt_nil, wt_int, wt_ref, wt_null, wt_long, Nat.reduceAdd, Nat.reduceLeDiff, if_true, if_false, decide_true, Bool.true_and, Bool.and_true, zok_n0, zok_n1, zok_bI, bI_eq0, bI_eq1, Bool.true_eq_false, Bool.false_eq_true, not_false_eq_true, not_true_eq_false, decide_false, decide_eq_false_iff_not, decide_eq_true_eq, Classical.not_not, ite_not, lit, Nat.reduceEqDiff, Nat.reduceLT, nI_add, nI_lt', nI_le', nI_eq', nI_sub', pk_mul, nI_rem', nI_div', nI_nz, remN, clampN, inb_nI, Nat.not_lt_zero, Nat.zero_le, Nat.le_zero_eq, if_true, if_false, m1_lt0, m1_eq, t_ite, f_ite, nI_and, nI_or, nI_xor, nI_shl1, nI_shr, nI_ushr, nI_not, nI_and_p2, Nat.one_mul, vrf_s, vrf_n, oF_174, oO_174, oA_175, oS_175, oA_176, oS_176, oA_177, oS_177, oA_178, oS_178, oA_179, oS_179, oA_180, oS_180, oA_181, oS_181, oA_182, oS_182, oA_183, oS_183, oA_184, oS_184, oA_185, oS_185, oA_186, oS_186, oA_187, oS_187, oA_188, oS_188, h.f, h.ob h8]
  rfl
theorem y_asTens {s : Nat} (hs : s < 64) : ev (d + 1) m_X_asTens [.int (nI s)] NX M = some (some (.int (nI (tens s))), NX, M) := by
  rw [e_X_asTens]
  simp (disch := omega) only [r_X_asTens_0, r_X_asTens_1, r_X_asTens_4, r_X_asTens_5, r_X_asTens_8, r_X_asTens_9, r_X_asTens_11, r_X_asTens_12, r_X_asTens_14, r_X_asTens_15, r_X_asTens_16, r_X_asTens_18, r_X_asTens_19, r_X_asTens_20, bnd, tl_s, tl_n, wt_nil, wt_int, wt_ref, wt_null, wt_long, Nat.reduceAdd, Nat.reduceLeDiff, if_true, if_false, decide_true, Bool.true_and, Bool.and_true, zok_n0, zok_n1, zok_bI, bI_eq0, bI_eq1, Bool.true_eq_false, Bool.false_eq_true, not_false_eq_true, not_true_eq_false, decide_false, decide_eq_false_iff_not, decide_eq_true_eq, Classical.not_not, ite_not, lit, Nat.reduceEqDiff, Nat.reduceLT, nI_add, nI_lt', nI_le', nI_eq', nI_sub', pk_mul, nI_rem', nI_div', nI_nz, remN, clampN, inb_nI, Nat.not_lt_zero, Nat.zero_le, Nat.le_zero_eq, if_true, if_false, m1_lt0, m1_eq, t_ite, f_ite, nI_and, nI_or, nI_xor, nI_shl1, nI_shr, nI_ushr, nI_not, nI_and_p2, Nat.one_mul, vrf_s, vrf_n, oF_0, oO_0, oF_1, oO_1, oA_2, oS_2, oA_3, oS_3, oF_4, oO_4, oA_5, oS_5, oA_6, oS_6, oA_7, oS_7, oA_8, oS_8, oA_9, oS_9, oF_70, oO_70, oA_71, oS_71, oA_72, oS_72, oF_73, oO_73, oA_74, oS_74, oA_75, oS_75, oA_76, oS_76, oA_77, oS_77, oA_78, oS_78, oA_139, oS_139, oF_140, oO_140, oA_141, oS_141, oA_142, oS_142, oA_143, oS_143, oA_144, oS_144, oF_145, oO_145, oF_146, oO_146, oA_147, oS_147, oF_148, oO_148, oA_149, oS_149, oA_150, oS_150, oA_151, oS_151, oF_152, oO_152, oA_153, oS_153, oF_154, oO_154, oA_155, oS_155, oA_156, oS_156, oA_157, oS_157, oA_158, oS_158, oF_159, oO_159, oA_160, oS_160, oA_161, oS_161, oA_162, oS_162, oA_163, oS_163, oF_164, oO_164, oA_165, oS_165, oA_166, oS_166, oA_167, oS_167, oA_168, oS_168, oF_169, oO_169, oA_170, oS_170, oA_171, oS_171, oA_172, oS_172, oA_173, oS_173]
  rfl
theorem y_answerG {C : Nat} {L : Nat → Int32} {v : Int32} (hr : gR M 148 0 = some 149) (h2 : gI M 148 1 = nI C) (hl : ∀ j, j < C → gI M 149 j = L j) (hC : C ≤ 256) : ev (d + 1) m_Dis_answer [.ref 148, .int v] NX M = some (some (.int (if v = -nI 1 then nI C else if ∃ j, j < C ∧ v = nI j then L v.toNatClampNeg else -nI 2)), NX, M) := by
  rw [e_Dis_answer]
  by_cases e : v = -nI 1
  · rw [if_pos e, e]
    simp (disch := omega) only [r_Dis_answer_0, r_Dis_answer_1, r_Dis_answer_2, r_Dis_answer_5, r_Dis_answer_5n, r_Dis_answer_6, r_Dis_answer_9, r_Dis_answer_10, r_Dis_answer_11, r_Dis_answer_14, r_Dis_answer_15, r_Dis_answer_15n, r_Dis_answer_16, r_Dis_answer_19, r_Dis_answer_22, r_Dis_answer_23, r_Dis_answer_26, r_Dis_answer_29, r_Dis_answer_29n, r_Dis_answer_30, r_Dis_answer_33, r_Dis_answer_34, r_Dis_answer_35, r_Dis_answer_38, r_Dis_answer_40, bnd, tl_s, tl_n, wt_nil, wt_int, wt_ref, wt_null, wt_long, Nat.reduceAdd, Nat.reduceLeDiff, if_true, if_false, decide_true, Bool.true_and, Bool.and_true, zok_n0, zok_n1, zok_bI, bI_eq0, bI_eq1, Bool.true_eq_false, Bool.false_eq_true, not_false_eq_true, not_true_eq_false, decide_false, decide_eq_false_iff_not, decide_eq_true_eq, Classical.not_not, ite_not, lit, Nat.reduceEqDiff, Nat.reduceLT, nI_add, nI_lt', nI_le', nI_eq', nI_sub', pk_mul, nI_rem', nI_div', nI_nz, remN, clampN, inb_nI, Nat.not_lt_zero, Nat.zero_le, Nat.le_zero_eq, if_true, if_false, m1_lt0, m1_eq, t_ite, f_ite, nI_and, nI_or, nI_xor, nI_shl1, nI_shr, nI_ushr, nI_not, nI_and_p2, Nat.one_mul, vrf_s, vrf_n, oF_0, oO_0, oF_1, oO_1, oA_2, oS_2, oA_3, oS_3, oF_4, oO_4, oA_5, oS_5, oA_6, oS_6, oA_7, oS_7, oA_8, oS_8, oA_9, oS_9, oF_70, oO_70, oA_71, oS_71, oA_72, oS_72, oF_73, oO_73, oA_74, oS_74, oA_75, oS_75, oA_76, oS_76, oA_77, oS_77, oA_78, oS_78, oA_139, oS_139, oF_140, oO_140, oA_141, oS_141, oA_142, oS_142, oA_143, oS_143, oA_144, oS_144, oF_145, oO_145, oF_146, oO_146, oA_147, oS_147, oF_148, oO_148, oA_149, oS_149, oA_150, oS_150, oA_151, oS_151, oF_152, oO_152, oA_153, oS_153, oF_154, oO_154, oA_155, oS_155, oA_156, oS_156, oA_157, oS_157, oA_158, oS_158, oF_159, oO_159, oA_160, oS_160, oA_161, oS_161, oA_162, oS_162, oA_163, oS_163, oF_164, oO_164, oA_165, oS_165, oA_166, oS_166, oA_167, oS_167, oA_168, oS_168, oF_169, oO_169, oA_170, oS_170, oA_171, oS_171, oA_172, oS_172, oA_173, oS_173, hr, h2]
  · rw [if_neg e]
    rcases ix_cases v (n := C) (by omega) with ⟨j, hj, rfl⟩ | hv
    · rw [if_pos ⟨j, hj, rfl⟩]
      have hn1 : ¬ C ≤ j := by omega
      have hn2 : ¬ 256 ≤ j := by omega
      simp (disch := omega) only [r_Dis_answer_0, r_Dis_answer_1, r_Dis_answer_2, r_Dis_answer_5, r_Dis_answer_5n, r_Dis_answer_6, r_Dis_answer_9, r_Dis_answer_10, r_Dis_answer_11, r_Dis_answer_14, r_Dis_answer_15, r_Dis_answer_15n, r_Dis_answer_16, r_Dis_answer_19, r_Dis_answer_22, r_Dis_answer_23, r_Dis_answer_26, r_Dis_answer_29, r_Dis_answer_29n, r_Dis_answer_30, r_Dis_answer_33, r_Dis_answer_34, r_Dis_answer_35, r_Dis_answer_38, r_Dis_answer_40, bnd, tl_s, tl_n, wt_nil, wt_int, wt_ref, wt_null, wt_long, Nat.reduceAdd, Nat.reduceLeDiff, if_true, if_false, decide_true, Bool.true_and, Bool.and_true, zok_n0, zok_n1, zok_bI, bI_eq0, bI_eq1, Bool.true_eq_false, Bool.false_eq_true, not_false_eq_true, not_true_eq_false, decide_false, decide_eq_false_iff_not, decide_eq_true_eq, Classical.not_not, ite_not, lit, Nat.reduceEqDiff, Nat.reduceLT, nI_add, nI_lt', nI_le', nI_eq', nI_sub', pk_mul, nI_rem', nI_div', nI_nz, remN, clampN, inb_nI, Nat.not_lt_zero, Nat.zero_le, Nat.le_zero_eq, if_true, if_false, m1_lt0, m1_eq, t_ite, f_ite, nI_and, nI_or, nI_xor, nI_shl1, nI_shr, nI_ushr, nI_not, nI_and_p2, Nat.one_mul, vrf_s, vrf_n, oF_0, oO_0, oF_1, oO_1, oA_2, oS_2, oA_3, oS_3, oF_4, oO_4, oA_5, oS_5, oA_6, oS_6, oA_7, oS_7, oA_8, oS_8, oA_9, oS_9, oF_70, oO_70, oA_71, oS_71, oA_72, oS_72, oF_73, oO_73, oA_74, oS_74, oA_75, oS_75, oA_76, oS_76, oA_77, oS_77, oA_78, oS_78, oA_139, oS_139, oF_140, oO_140, oA_141, oS_141, oA_142, oS_142, oA_143, oS_143, oA_144, oS_144, oF_145, oO_145, oF_146, oO_146, oA_147, oS_147, oF_148, oO_148, oA_149, oS_149, oA_150, oS_150, oA_151, oS_151, oF_152, oO_152, oA_153, oS_153, oF_154, oO_154, oA_155, oS_155, oA_156, oS_156, oA_157, oS_157, oA_158, oS_158, oF_159, oO_159, oA_160, oS_160, oA_161, oS_161, oA_162, oS_162, oA_163, oS_163, oF_164, oO_164, oA_165, oS_165, oA_166, oS_166, oA_167, oS_167, oA_168, oS_168, oF_169, oO_169, oA_170, oS_170, oA_171, oS_171, oA_172, oS_172, oA_173, oS_173, hr, h2, hn1, hn2, hl j hj]
    · rw [if_neg (fun ⟨j, hj, z⟩ => by have := ne_bad hv hj (by omega); rw [← this]; exact z)]
      simp (disch := omega) only [r_Dis_answer_0, r_Dis_answer_1, r_Dis_answer_2, r_Dis_answer_5, r_Dis_answer_5n, r_Dis_answer_6, r_Dis_answer_9, r_Dis_answer_10, r_Dis_answer_11, r_Dis_answer_14, r_Dis_answer_15, r_Dis_answer_15n, r_Dis_answer_16, r_Dis_answer_19, r_Dis_answer_22, r_Dis_answer_23, r_Dis_answer_26, r_Dis_answer_29, r_Dis_answer_29n, r_Dis_answer_30, r_Dis_answer_33, r_Dis_answer_34, r_Dis_answer_35, r_Dis_answer_38, r_Dis_answer_40, bnd, tl_s, tl_n, wt_nil, wt_int, wt_ref, wt_null, wt_long, Nat.reduceAdd, Nat.reduceLeDiff, if_true, if_false, decide_true, Bool.true_and, Bool.and_true, zok_n0, zok_n1, zok_bI, bI_eq0, bI_eq1, Bool.true_eq_false, Bool.false_eq_true, not_false_eq_true, not_true_eq_false, decide_false, decide_eq_false_iff_not, decide_eq_true_eq, Classical.not_not, ite_not, lit, oF_148, oO_148, oA_149, oS_149, hr, vrf_s, h2, e]
      by_cases ev0 : v < nI 0
      · rw [if_pos ev0]
      · rw [if_neg ev0, if_pos (by rcases hv with z | z; exact absurd z ev0; exact z)]
def qX (B n P s : Nat) : Bool := decide (s / 8 < n) && decide (s % 8 < n) && decide (gnd (B ^^^ 2 ^ s) n = P)
theorem y_findExplaining {P : Nat} (h : KX M 4 n W Rs m) (hP : P < 2 ^ n) : ∃ M', D PSX M M' ∧ gI M' 148 1 = nI (fb_ct (qX (mOb m) n P) 64) ∧ (∀ s, s < 64 → qX (mOb m) n P s = true → gI M' 149 (fb_ct (qX (mOb m) n P) s) = nI (tens s)) ∧ ev (d + 4) m_Dis_findExplaining [.ref 148, .long (lN (mOb m)), .int (nI (2 ^ n - 1)), .int (nI P)] NX M = some (none, NX, M') := by
  have hn := h.n8
  have h2 := p2_le8 hn
  have ht := told_8 hn
  obtain ⟨⟨M', z⟩, ⟨a1, a2, a3⟩, a4⟩ := lpE (R := fun i (x : Mem × Option Value) => run (ev (d + 3)) m_Dis_findExplaining 8 [some (.ref 148), some (.long (lN (mOb m))), none, some (.int (nI (2 ^ n - 1))), some (.int (nI P)), some (.int (nI i)), x.2] [] NX x.1) (I := fun i x => D PSX M x.1 ∧ gI x.1 148 1 = nI (fb_ct (qX (mOb m) n P) i) ∧ ∀ s, s < i → qX (mOb m) n P s = true → gI x.1 149 (fb_ct (qX (mOb m) n P) s) = nI (tens s)) (n := 64) (by
    intro i ⟨X, z⟩ hi ⟨x1, x2, x3⟩
    try dsimp only at x1 x2 x3
    have hK := kxX h x1
    have hni : ¬ 64 ≤ i := by omega
    have hc := fb_ct_le (qX (mOb m) n P) i
    have hB : mOb m ^^^ 2 ^ i < 2 ^ 64 := Nat.xor_lt_two_pow h.okb.1 (Nat.pow_lt_pow_right (by decide) hi)
    have hg := y_groundedBits (d := d) (nx := NX) (M := X) hB hn
    have hg8 : gnd (mOb m ^^^ 2 ^ i) n < 256 := grd_8 hn
    have ha := y_addFound (d := d + 2) (v := nI (tens i)) (hK.r 148 0 149 rfl) x2 (show fb_ct (qX (mOb m) n P) i < 256 by omega)
    cases e : qX (mOb m) n P i
    · refine ⟨(X, some (.int (bI (decide (i / 8 < n) && decide (i % 8 < n))))), ⟨x1, by rw [ct_n e]; exact x2, fun s hs hq => ?_⟩, ?_⟩
      · by_cases es : s = i
        · rw [es, e] at hq; cases hq
        · exact x3 s (by omega) hq
      · try dsimp only
        rw [r_Dis_findExplaining_8]
        unfold qX at e
        cases e1 : decide (i / 8 < n)
        · simp (disch := omega) only [r_Dis_findExplaining_10, r_Dis_findExplaining_12, r_Dis_findExplaining_15, r_Dis_findExplaining_16, r_Dis_findExplaining_18, r_Dis_findExplaining_20, r_Dis_findExplaining_21, r_Dis_findExplaining_24, r_Dis_findExplaining_27, r_Dis_findExplaining_28, r_Dis_findExplaining_30, r_Dis_findExplaining_32, r_Dis_findExplaining_33, r_Dis_findExplaining_36, r_Dis_findExplaining_39, r_Dis_findExplaining_40, r_Dis_findExplaining_43, r_Dis_findExplaining_44, r_Dis_findExplaining_46, r_Dis_findExplaining_48, r_Dis_findExplaining_51, r_Dis_findExplaining_52, r_Dis_findExplaining_53, r_Dis_findExplaining_55, r_Dis_findExplaining_56, r_Dis_findExplaining_57, r_Dis_findExplaining_58, r_Dis_findExplaining_61, r_Dis_findExplaining_63, r_Dis_findExplaining_66, r_Dis_findExplaining_66n, r_Dis_findExplaining_67, r_Dis_findExplaining_69, r_Dis_findExplaining_72, r_Dis_findExplaining_75, r_Dis_findExplaining_78, bnd, tl_s, tl_n, wt_nil, wt_int, wt_ref, wt_null, wt_long, Nat.reduceAdd, Nat.reduceLeDiff, if_true, if_false, decide_true, Bool.true_and, Bool.and_true, zok_n0, zok_n1, zok_bI, bI_eq0, bI_eq1, Bool.true_eq_false, Bool.false_eq_true, not_false_eq_true, not_true_eq_false, decide_false, decide_eq_false_iff_not, decide_eq_true_eq, Classical.not_not, ite_not, lit, Nat.reduceEqDiff, Nat.reduceLT, nI_add, nI_lt', nI_le', nI_eq', nI_sub', pk_mul, nI_rem', nI_div', nI_nz, remN, clampN, inb_nI, Nat.not_lt_zero, Nat.zero_le, Nat.le_zero_eq, if_true, if_false, m1_lt0, m1_eq, t_ite, f_ite, nI_and, nI_or, nI_xor, nI_shl1, nI_shr, nI_ushr, nI_not, nI_and_p2, Nat.one_mul, vrf_s, vrf_n, oF_0, oO_0, oF_1, oO_1, oA_2, oS_2, oA_3, oS_3, oF_4, oO_4, oA_5, oS_5, oA_6, oS_6, oA_7, oS_7, oA_8, oS_8, oA_9, oS_9, oF_70, oO_70, oA_71, oS_71, oA_72, oS_72, oF_73, oO_73, oA_74, oS_74, oA_75, oS_75, oA_76, oS_76, oA_77, oS_77, oA_78, oS_78, oA_139, oS_139, oF_140, oO_140, oA_141, oS_141, oA_142, oS_142, oA_143, oS_143, oA_144, oS_144, oF_145, oO_145, oF_146, oO_146, oA_147, oS_147, oF_148, oO_148, oA_149, oS_149, oA_150, oS_150, oA_151, oS_151, oF_152, oO_152, oA_153, oS_153, oF_154, oO_154, oA_155, oS_155, oA_156, oS_156, oA_157, oS_157, oA_158, oS_158, oF_159, oO_159, oA_160, oS_160, oA_161, oS_161, oA_162, oS_162, oA_163, oS_163, oF_164, oO_164, oA_165, oS_165, oA_166, oS_166, oA_167, oS_167, oA_168, oS_168, oF_169, oO_169, oA_170, oS_170, oA_171, oS_171, oA_172, oS_172, oA_173, oS_173, mO_X_hasBit, mO_Dis_groundedBits, mO_X_asTens, mO_Dis_addFound, hni, y_hasBit, told_bit, e1, bI_f]
          rfl
        · cases e2 : decide (i % 8 < n)
          · simp (disch := omega) only [r_Dis_findExplaining_10, r_Dis_findExplaining_12, r_Dis_findExplaining_15, r_Dis_findExplaining_16, r_Dis_findExplaining_18, r_Dis_findExplaining_20, r_Dis_findExplaining_21, r_Dis_findExplaining_24, r_Dis_findExplaining_27, r_Dis_findExplaining_28, r_Dis_findExplaining_30, r_Dis_findExplaining_32, r_Dis_findExplaining_33, r_Dis_findExplaining_36, r_Dis_findExplaining_39, r_Dis_findExplaining_40, r_Dis_findExplaining_43, r_Dis_findExplaining_44, r_Dis_findExplaining_46, r_Dis_findExplaining_48, r_Dis_findExplaining_51, r_Dis_findExplaining_52, r_Dis_findExplaining_53, r_Dis_findExplaining_55, r_Dis_findExplaining_56, r_Dis_findExplaining_57, r_Dis_findExplaining_58, r_Dis_findExplaining_61, r_Dis_findExplaining_63, r_Dis_findExplaining_66, r_Dis_findExplaining_66n, r_Dis_findExplaining_67, r_Dis_findExplaining_69, r_Dis_findExplaining_72, r_Dis_findExplaining_75, r_Dis_findExplaining_78, bnd, tl_s, tl_n, wt_nil, wt_int, wt_ref, wt_null, wt_long, Nat.reduceAdd, Nat.reduceLeDiff, if_true, if_false, decide_true, Bool.true_and, Bool.and_true, zok_n0, zok_n1, zok_bI, bI_eq0, bI_eq1, Bool.true_eq_false, Bool.false_eq_true, not_false_eq_true, not_true_eq_false, decide_false, decide_eq_false_iff_not, decide_eq_true_eq, Classical.not_not, ite_not, lit, Nat.reduceEqDiff, Nat.reduceLT, nI_add, nI_lt', nI_le', nI_eq', nI_sub', pk_mul, nI_rem', nI_div', nI_nz, remN, clampN, inb_nI, Nat.not_lt_zero, Nat.zero_le, Nat.le_zero_eq, if_true, if_false, m1_lt0, m1_eq, t_ite, f_ite, nI_and, nI_or, nI_xor, nI_shl1, nI_shr, nI_ushr, nI_not, nI_and_p2, Nat.one_mul, vrf_s, vrf_n, oF_0, oO_0, oF_1, oO_1, oA_2, oS_2, oA_3, oS_3, oF_4, oO_4, oA_5, oS_5, oA_6, oS_6, oA_7, oS_7, oA_8, oS_8, oA_9, oS_9, oF_70, oO_70, oA_71, oS_71, oA_72, oS_72, oF_73, oO_73, oA_74, oS_74, oA_75, oS_75, oA_76, oS_76, oA_77, oS_77, oA_78, oS_78, oA_139, oS_139, oF_140, oO_140, oA_141, oS_141, oA_142, oS_142, oA_143, oS_143, oA_144, oS_144, oF_145, oO_145, oF_146, oO_146, oA_147, oS_147, oF_148, oO_148, oA_149, oS_149, oA_150, oS_150, oA_151, oS_151, oF_152, oO_152, oA_153, oS_153, oF_154, oO_154, oA_155, oS_155, oA_156, oS_156, oA_157, oS_157, oA_158, oS_158, oF_159, oO_159, oA_160, oS_160, oA_161, oS_161, oA_162, oS_162, oA_163, oS_163, oF_164, oO_164, oA_165, oS_165, oA_166, oS_166, oA_167, oS_167, oA_168, oS_168, oF_169, oO_169, oA_170, oS_170, oA_171, oS_171, oA_172, oS_172, oA_173, oS_173, mO_X_hasBit, mO_Dis_groundedBits, mO_X_asTens, mO_Dis_addFound, hni, y_hasBit, told_bit, e1, e2, bI_f, bI_t]
            rfl
          · rw [e1, e2, Bool.true_and, Bool.true_and, decide_eq_false_iff_not] at e
            simp (disch := omega) only [r_Dis_findExplaining_10, r_Dis_findExplaining_12, r_Dis_findExplaining_15, r_Dis_findExplaining_16, r_Dis_findExplaining_18, r_Dis_findExplaining_20, r_Dis_findExplaining_21, r_Dis_findExplaining_24, r_Dis_findExplaining_27, r_Dis_findExplaining_28, r_Dis_findExplaining_30, r_Dis_findExplaining_32, r_Dis_findExplaining_33, r_Dis_findExplaining_36, r_Dis_findExplaining_39, r_Dis_findExplaining_40, r_Dis_findExplaining_43, r_Dis_findExplaining_44, r_Dis_findExplaining_46, r_Dis_findExplaining_48, r_Dis_findExplaining_51, r_Dis_findExplaining_52, r_Dis_findExplaining_53, r_Dis_findExplaining_55, r_Dis_findExplaining_56, r_Dis_findExplaining_57, r_Dis_findExplaining_58, r_Dis_findExplaining_61, r_Dis_findExplaining_63, r_Dis_findExplaining_66, r_Dis_findExplaining_66n, r_Dis_findExplaining_67, r_Dis_findExplaining_69, r_Dis_findExplaining_72, r_Dis_findExplaining_75, r_Dis_findExplaining_78, bnd, tl_s, tl_n, wt_nil, wt_int, wt_ref, wt_null, wt_long, Nat.reduceAdd, Nat.reduceLeDiff, if_true, if_false, decide_true, Bool.true_and, Bool.and_true, zok_n0, zok_n1, zok_bI, bI_eq0, bI_eq1, Bool.true_eq_false, Bool.false_eq_true, not_false_eq_true, not_true_eq_false, decide_false, decide_eq_false_iff_not, decide_eq_true_eq, Classical.not_not, ite_not, lit, Nat.reduceEqDiff, Nat.reduceLT, nI_add, nI_lt', nI_le', nI_eq', nI_sub', pk_mul, nI_rem', nI_div', nI_nz, remN, clampN, inb_nI, Nat.not_lt_zero, Nat.zero_le, Nat.le_zero_eq, if_true, if_false, m1_lt0, m1_eq, t_ite, f_ite, nI_and, nI_or, nI_xor, nI_shl1, nI_shr, nI_ushr, nI_not, nI_and_p2, Nat.one_mul, vrf_s, vrf_n, oF_0, oO_0, oF_1, oO_1, oA_2, oS_2, oA_3, oS_3, oF_4, oO_4, oA_5, oS_5, oA_6, oS_6, oA_7, oS_7, oA_8, oS_8, oA_9, oS_9, oF_70, oO_70, oA_71, oS_71, oA_72, oS_72, oF_73, oO_73, oA_74, oS_74, oA_75, oS_75, oA_76, oS_76, oA_77, oS_77, oA_78, oS_78, oA_139, oS_139, oF_140, oO_140, oA_141, oS_141, oA_142, oS_142, oA_143, oS_143, oA_144, oS_144, oF_145, oO_145, oF_146, oO_146, oA_147, oS_147, oF_148, oO_148, oA_149, oS_149, oA_150, oS_150, oA_151, oS_151, oF_152, oO_152, oA_153, oS_153, oF_154, oO_154, oA_155, oS_155, oA_156, oS_156, oA_157, oS_157, oA_158, oS_158, oF_159, oO_159, oA_160, oS_160, oA_161, oS_161, oA_162, oS_162, oA_163, oS_163, oF_164, oO_164, oA_165, oS_165, oA_166, oS_166, oA_167, oS_167, oA_168, oS_168, oF_169, oO_169, oA_170, oS_170, oA_171, oS_171, oA_172, oS_172, oA_173, oS_173, mO_X_hasBit, mO_Dis_groundedBits, mO_X_asTens, mO_Dis_addFound, hni, y_hasBit, told_bit, e1, e2, bI_t, litL, wb_shl', fb_xorL, hg, e]
            rfl
    · refine ⟨(sI (sI X 149 (fb_ct (qX (mOb m) n P) i) (nI (tens i))) 148 1 (nI (fb_ct (qX (mOb m) n P) i + 1)), some (.int (nI 1))), ⟨(x1.sI (by unfold PSX; omega)).sI (by unfold PSX; omega), by rw [ct_s e]; exact gI_sI_eq, fun s hs hq => ?_⟩, ?_⟩
      · try dsimp only
        rw [gI_sI_nk (by decide)]
        by_cases es : s = i
        · rw [es, gI_sI_eq]
        · have := ct_lt (q := qX (mOb m) n P) (show s < i by omega) hq
          rw [gI_sI_nj (by omega)]
          exact x3 s (by omega) hq
      · try dsimp only
        rw [r_Dis_findExplaining_8]
        unfold qX at e
        rw [Bool.and_eq_true, Bool.and_eq_true, decide_eq_true_eq] at e
        obtain ⟨⟨e1, e2⟩, e3⟩ := e
        have e1' := decide_eq_true e1
        simp (disch := omega) only [r_Dis_findExplaining_10, r_Dis_findExplaining_12, r_Dis_findExplaining_15, r_Dis_findExplaining_16, r_Dis_findExplaining_18, r_Dis_findExplaining_20, r_Dis_findExplaining_21, r_Dis_findExplaining_24, r_Dis_findExplaining_27, r_Dis_findExplaining_28, r_Dis_findExplaining_30, r_Dis_findExplaining_32, r_Dis_findExplaining_33, r_Dis_findExplaining_36, r_Dis_findExplaining_39, r_Dis_findExplaining_40, r_Dis_findExplaining_43, r_Dis_findExplaining_44, r_Dis_findExplaining_46, r_Dis_findExplaining_48, r_Dis_findExplaining_51, r_Dis_findExplaining_52, r_Dis_findExplaining_53, r_Dis_findExplaining_55, r_Dis_findExplaining_56, r_Dis_findExplaining_57, r_Dis_findExplaining_58, r_Dis_findExplaining_61, r_Dis_findExplaining_63, r_Dis_findExplaining_66, r_Dis_findExplaining_66n, r_Dis_findExplaining_67, r_Dis_findExplaining_69, r_Dis_findExplaining_72, r_Dis_findExplaining_75, r_Dis_findExplaining_78, bnd, tl_s, tl_n, wt_nil, wt_int, wt_ref, wt_null, wt_long, Nat.reduceAdd, Nat.reduceLeDiff, if_true, if_false, decide_true, Bool.true_and, Bool.and_true, zok_n0, zok_n1, zok_bI, bI_eq0, bI_eq1, Bool.true_eq_false, Bool.false_eq_true, not_false_eq_true, not_true_eq_false, decide_false, decide_eq_false_iff_not, decide_eq_true_eq, Classical.not_not, ite_not, lit, Nat.reduceEqDiff, Nat.reduceLT, nI_add, nI_lt', nI_le', nI_eq', nI_sub', pk_mul, nI_rem', nI_div', nI_nz, remN, clampN, inb_nI, Nat.not_lt_zero, Nat.zero_le, Nat.le_zero_eq, if_true, if_false, m1_lt0, m1_eq, t_ite, f_ite, nI_and, nI_or, nI_xor, nI_shl1, nI_shr, nI_ushr, nI_not, nI_and_p2, Nat.one_mul, vrf_s, vrf_n, oF_0, oO_0, oF_1, oO_1, oA_2, oS_2, oA_3, oS_3, oF_4, oO_4, oA_5, oS_5, oA_6, oS_6, oA_7, oS_7, oA_8, oS_8, oA_9, oS_9, oF_70, oO_70, oA_71, oS_71, oA_72, oS_72, oF_73, oO_73, oA_74, oS_74, oA_75, oS_75, oA_76, oS_76, oA_77, oS_77, oA_78, oS_78, oA_139, oS_139, oF_140, oO_140, oA_141, oS_141, oA_142, oS_142, oA_143, oS_143, oA_144, oS_144, oF_145, oO_145, oF_146, oO_146, oA_147, oS_147, oF_148, oO_148, oA_149, oS_149, oA_150, oS_150, oA_151, oS_151, oF_152, oO_152, oA_153, oS_153, oF_154, oO_154, oA_155, oS_155, oA_156, oS_156, oA_157, oS_157, oA_158, oS_158, oF_159, oO_159, oA_160, oS_160, oA_161, oS_161, oA_162, oS_162, oA_163, oS_163, oF_164, oO_164, oA_165, oS_165, oA_166, oS_166, oA_167, oS_167, oA_168, oS_168, oF_169, oO_169, oA_170, oS_170, oA_171, oS_171, oA_172, oS_172, oA_173, oS_173, mO_X_hasBit, mO_Dis_groundedBits, mO_X_asTens, mO_Dis_addFound, hni, y_hasBit, told_bit, e1', e2, bI_t, litL, wb_shl', fb_xorL, hg, of_decide_eq_true e3, y_asTens hi, ha, Bool.not_false]) 64 0 (sI M 148 1 (nI 0), none) (by omega) ⟨D.rfl'.sI (by unfold PSX; omega), gI_sI_eq, fun s hs => by omega⟩
  try dsimp only at a1 a2 a3
  refine ⟨M', a1, a2, a3, ?_⟩
  rw [e_Dis_findExplaining]
  simp (disch := omega) only [r_Dis_findExplaining_0, r_Dis_findExplaining_0n, r_Dis_findExplaining_1, r_Dis_findExplaining_2, r_Dis_findExplaining_5, r_Dis_findExplaining_6, bnd, tl_s, tl_n, wt_nil, wt_int, wt_ref, wt_null, wt_long, Nat.reduceAdd, Nat.reduceLeDiff, if_true, if_false, decide_true, Bool.true_and, Bool.and_true, zok_n0, zok_n1, zok_bI, bI_eq0, bI_eq1, Bool.true_eq_false, Bool.false_eq_true, not_false_eq_true, not_true_eq_false, decide_false, decide_eq_false_iff_not, decide_eq_true_eq, Classical.not_not, ite_not, lit, Nat.reduceEqDiff, Nat.reduceLT, nI_add, nI_lt', nI_le', nI_eq', nI_sub', pk_mul, nI_rem', nI_div', nI_nz, remN, clampN, inb_nI, Nat.not_lt_zero, Nat.zero_le, Nat.le_zero_eq, if_true, if_false, m1_lt0, m1_eq, t_ite, f_ite, nI_and, nI_or, nI_xor, nI_shl1, nI_shr, nI_ushr, nI_not, nI_and_p2, Nat.one_mul, vrf_s, vrf_n, oF_0, oO_0, oF_1, oO_1, oA_2, oS_2, oA_3, oS_3, oF_4, oO_4, oA_5, oS_5, oA_6, oS_6, oA_7, oS_7, oA_8, oS_8, oA_9, oS_9, oF_70, oO_70, oA_71, oS_71, oA_72, oS_72, oF_73, oO_73, oA_74, oS_74, oA_75, oS_75, oA_76, oS_76, oA_77, oS_77, oA_78, oS_78, oA_139, oS_139, oF_140, oO_140, oA_141, oS_141, oA_142, oS_142, oA_143, oS_143, oA_144, oS_144, oF_145, oO_145, oF_146, oO_146, oA_147, oS_147, oF_148, oO_148, oA_149, oS_149, oA_150, oS_150, oA_151, oS_151, oF_152, oO_152, oA_153, oS_153, oF_154, oO_154, oA_155, oS_155, oA_156, oS_156, oA_157, oS_157, oA_158, oS_158, oF_159, oO_159, oA_160, oS_160, oA_161, oS_161, oA_162, oS_162, oA_163, oS_163, oF_164, oO_164, oA_165, oS_165, oA_166, oS_166, oA_167, oS_167, oA_168, oS_168, oF_169, oO_169, oA_170, oS_170, oA_171, oS_171, oA_172, oS_172, oA_173, oS_173, mO_X_hasBit, mO_Dis_groundedBits, mO_X_asTens, mO_Dis_addFound]
  refine Eq.trans a4 ?_
  try dsimp only
  rw [r_Dis_findExplaining_8]
  simp (disch := omega) only [r_Dis_findExplaining_10, r_Dis_findExplaining_12, bnd, tl_s, tl_n, wt_nil, wt_int, wt_ref, wt_null, wt_long, Nat.reduceAdd, Nat.reduceLeDiff, if_true, if_false, decide_true, Bool.true_and, Bool.and_true, zok_n0, zok_n1, zok_bI, bI_eq0, bI_eq1, Bool.true_eq_false, Bool.false_eq_true, not_false_eq_true, not_true_eq_false, decide_false, decide_eq_false_iff_not, decide_eq_true_eq, Classical.not_not, ite_not, lit, Nat.reduceEqDiff, Nat.reduceLT, nI_add, nI_lt', nI_le', nI_eq', nI_sub', pk_mul, nI_rem', nI_div', nI_nz, remN, clampN, inb_nI, Nat.not_lt_zero, Nat.zero_le, Nat.le_zero_eq, if_true, if_false, m1_lt0, m1_eq, t_ite, f_ite, nI_and, nI_or, nI_xor, nI_shl1, nI_shr, nI_ushr, nI_not, nI_and_p2, Nat.one_mul, vrf_s, vrf_n, oF_0, oO_0, oF_1, oO_1, oA_2, oS_2, oA_3, oS_3, oF_4, oO_4, oA_5, oS_5, oA_6, oS_6, oA_7, oS_7, oA_8, oS_8, oA_9, oS_9, oF_70, oO_70, oA_71, oS_71, oA_72, oS_72, oF_73, oO_73, oA_74, oS_74, oA_75, oS_75, oA_76, oS_76, oA_77, oS_77, oA_78, oS_78, oA_139, oS_139, oF_140, oO_140, oA_141, oS_141, oA_142, oS_142, oA_143, oS_143, oA_144, oS_144, oF_145, oO_145, oF_146, oO_146, oA_147, oS_147, oF_148, oO_148, oA_149, oS_149, oA_150, oS_150, oA_151, oS_151, oF_152, oO_152, oA_153, oS_153, oF_154, oO_154, oA_155, oS_155, oA_156, oS_156, oA_157, oS_157, oA_158, oS_158, oF_159, oO_159, oA_160, oS_160, oA_161, oS_161, oA_162, oS_162, oA_163, oS_163, oF_164, oO_164, oA_165, oS_165, oA_166, oS_166, oA_167, oS_167, oA_168, oS_168, oF_169, oO_169, oA_170, oS_170, oA_171, oS_171, oA_172, oS_172, oA_173, oS_173, mO_X_hasBit, mO_Dis_groundedBits, mO_X_asTens, mO_Dis_addFound, Nat.le_refl]
  simp (disch := omega) only [r_Dis_findExplaining_81, bnd, tl_s, tl_n, wt_nil, wt_int, wt_ref, wt_null, wt_long, Nat.reduceAdd, Nat.reduceLeDiff, if_true, if_false, decide_true, Bool.true_and, Bool.and_true, zok_n0, zok_n1, zok_bI, bI_eq0, bI_eq1, Bool.true_eq_false, Bool.false_eq_true, not_false_eq_true, not_true_eq_false, decide_false, decide_eq_false_iff_not, decide_eq_true_eq, Classical.not_not, ite_not, lit, Nat.reduceEqDiff, Nat.reduceLT, nI_add, nI_lt', nI_le', nI_eq', nI_sub', pk_mul, nI_rem', nI_div', nI_nz, remN, clampN, inb_nI, Nat.not_lt_zero, Nat.zero_le, Nat.le_zero_eq, if_true, if_false, m1_lt0, m1_eq, t_ite, f_ite, nI_and, nI_or, nI_xor, nI_shl1, nI_shr, nI_ushr, nI_not, nI_and_p2, Nat.one_mul, vrf_s, vrf_n, oF_0, oO_0, oF_1, oO_1, oA_2, oS_2, oA_3, oS_3, oF_4, oO_4, oA_5, oS_5, oA_6, oS_6, oA_7, oS_7, oA_8, oS_8, oA_9, oS_9, oF_70, oO_70, oA_71, oS_71, oA_72, oS_72, oF_73, oO_73, oA_74, oS_74, oA_75, oS_75, oA_76, oS_76, oA_77, oS_77, oA_78, oS_78, oA_139, oS_139, oF_140, oO_140, oA_141, oS_141, oA_142, oS_142, oA_143, oS_143, oA_144, oS_144, oF_145, oO_145, oF_146, oO_146, oA_147, oS_147, oF_148, oO_148, oA_149, oS_149, oA_150, oS_150, oA_151, oS_151, oF_152, oO_152, oA_153, oS_153, oF_154, oO_154, oA_155, oS_155, oA_156, oS_156, oA_157, oS_157, oA_158, oS_158, oF_159, oO_159, oA_160, oS_160, oA_161, oS_161, oA_162, oS_162, oA_163, oS_163, oF_164, oO_164, oA_165, oS_165, oA_166, oS_166, oA_167, oS_167, oA_168, oS_168, oF_169, oO_169, oA_170, oS_170, oA_171, oS_171, oA_172, oS_172, oA_173, oS_173, mO_X_hasBit, mO_Dis_groundedBits, mO_X_asTens, mO_Dis_addFound]
def fnd (q : Nat → Bool) (v : Int32) : Nat → Int32
  | 0 => -nI 2
  | s + 1 => if q s = true ∧ nI (fb_ct q s) = v then nI (tens s) else fnd q v s
theorem fnd_n {q : Nat → Bool} {v : Int32} {s : Nat} (h : q s = false) : fnd q v (s + 1) = fnd q v s := by rw [fnd, if_neg (fun z => by rw [h] at z; cases z.1)]
theorem fnd_ok {q : Nat → Bool} {v : Int32} : ∀ s, s ≤ 64 → fnd q v s = if ∃ j, j < fb_ct q s ∧ v = nI j then nI (tens (el q s v.toNatClampNeg)) else -nI 2 := by
  intro s
  induction s with
  | zero => intro _; rw [if_neg (fun ⟨j, hj, _⟩ => by have : j < 0 := hj; omega)]; rfl
  | succ s ih =>
    intro hs
    have hi := ih (by omega)
    have hc := fb_ct_le q s
    have hel : ∀ j, j < fb_ct q s → el q (s + 1) j = el q s j := by
      intro j hj
      obtain ⟨a1, a2, a3⟩ := el_ok hj
      have := el_at (q := q) (N := s + 1) (s := el q s j) (by omega) a2
      rw [a3] at this
      exact this
    rw [fnd]
    by_cases e : q s = true
    · by_cases ev : nI (fb_ct q s) = v
      · rw [if_pos ⟨e, ev⟩, if_pos ⟨fb_ct q s, by rw [ct_s e]; omega, ev.symm⟩, ← ev, clampN (by omega), el_at (by omega) e]
      · rw [if_neg (fun z => ev z.2), hi]
        by_cases ex : ∃ j, j < fb_ct q s ∧ v = nI j
        · rw [if_pos ex]
          obtain ⟨j, hj, rfl⟩ := ex
          rw [if_pos ⟨j, by rw [ct_s e]; omega, rfl⟩, clampN (by omega), hel j hj]
        · rw [if_neg ex, if_neg]
          rintro ⟨j, hj, rfl⟩
          rw [ct_s e] at hj
          by_cases ej : j = fb_ct q s
          · exact ev (by rw [ej])
          · exact ex ⟨j, by omega, rfl⟩
    · have e' := Bool.eq_false_iff.mpr e
      rw [if_neg (fun z => e z.1), hi, ct_n e']
      by_cases ex : ∃ j, j < fb_ct q s ∧ v = nI j
      · rw [if_pos ex, if_pos ex]
        obtain ⟨j, hj, rfl⟩ := ex
        rw [clampN (by omega), hel j hj]
      · rw [if_neg ex, if_neg ex]
theorem ct_stay {q : Nat → Bool} {v : Int32} {a : Nat} : ∀ k, (∀ s, a ≤ s → s < a + k → q s = false) → fb_ct q (a + k) = fb_ct q a ∧ fnd q v (a + k) = fnd q v a := by
  intro k
  induction k with
  | zero => intro _; exact ⟨rfl, rfl⟩
  | succ k ih =>
    intro h
    obtain ⟨h1, h2⟩ := ih (fun s a b => h s a (by omega))
    have h3 := h (a + k) (by omega) (by omega)
    exact ⟨(ct_n h3).trans h1, (fnd_n h3).trans h2⟩
theorem x_explain {P : Nat} {v : Int32} (h : KM M n W Rs m) (hP : P < 2 ^ n) : ∃ M', D PSM M M' ∧ ev (d + 4) m_M_explain [.ref 174, .int (nI P), .int v] NX M = some (some (.int (if v = -nI 1 then nI (fb_ct (qX (mOb m) n P) 64) else fnd (qX (mOb m) n P) v 64)), NX, M') := by
  have hn := h.n8
  have h2 := p2_le8 hn
  have hc64 := fb_ct_le (qX (mOb m) n P)
  obtain ⟨⟨X, z6, z7⟩, ⟨a1, a2⟩, a3⟩ := lpE (R := fun p (x : Mem × Option Value × Option Value) => run (ev (d + 3)) m_M_explain 20 [some (.ref 174), some (.int (nI P)), some (.int v), some (.int (nI (fb_ct (qX (mOb m) n P) (8 * p)))), some (.int (fnd (qX (mOb m) n P) v (8 * p))), some (.int (nI p)), x.2.1, x.2.2] [] NX x.1) (I := fun _ x => DO M x.1 ∧ KM x.1 n W Rs m) (n := n) (by
    intro p ⟨X, z6, z7⟩ hp ⟨x1, x2⟩
    try dsimp only at x1 x2
    have hnp : ¬ n ≤ p := by omega
    obtain ⟨⟨Y, z⟩, ⟨b1, b2⟩, b3⟩ := lpE (R := fun q (x : Mem × Option Value) => run (ev (d + 3)) m_M_explain 34 [some (.ref 174), some (.int (nI P)), some (.int v), some (.int (nI (fb_ct (qX (mOb m) n P) (8 * p + q)))), some (.int (fnd (qX (mOb m) n P) v (8 * p + q))), some (.int (nI p)), some (.int (nI q)), x.2] [] NX x.1) (I := fun _ x => DO M x.1 ∧ KM x.1 n W Rs m) (n := n) (by
      intro q ⟨Y, z⟩ hq ⟨y1, y2⟩
      try dsimp only at y1 y2
      have hnq : ¬ n ≤ q := by omega
      have hs : 8 * p + q < 64 := by omega
      have hd8 : (8 * p + q) / 8 = p := by omega
      have hm8 : (8 * p + q) % 8 = q := by omega
      have k1 := x_change (d := d + 2) y2 hs
      have k2 := km_chg y2 hs (by omega) (by omega)
      have k3 := x_layGrounded (d := d) k2
      rw [obS_ob] at k3
      have k4 := k2.fI (c := 183) (f := rnd (mOb m ^^^ 2 ^ (8 * p + q)) n (n + 1)) (i := n) (by decide)
      have k5 := x_change (d := d + 2) k4 hs
      have k6 := km_chg k4 hs (by omega) (by omega)
      rw [obS_ob, obS_obS, xx, obS_self] at k6
      have k7 : DO M (chg (fI (chg Y m (8 * p + q)) 183 (rnd (mOb m ^^^ 2 ^ (8 * p + q)) n (n + 1)) n) (obS m (mOb m ^^^ 2 ^ (8 * p + q))) (8 * p + q)) := ((y1.chg hs).fI (fun j _ => by unfold PSO PSM; omega)).chg hs
      have hg8 : gnd (mOb m ^^^ 2 ^ (8 * p + q)) n < 256 := grd_8 hn
      have hqx : qX (mOb m) n P (8 * p + q) = decide (gnd (mOb m ^^^ 2 ^ (8 * p + q)) n = P) := by
        unfold qX
        rw [hd8, hm8, decide_eq_true hp, decide_eq_true hq, Bool.true_and, Bool.true_and]
      have ht : tens (8 * p + q) = 10 * p + q := by unfold tens; omega
      have hcl := hc64 (8 * p + q)
      refine ⟨(chg (fI (chg Y m (8 * p + q)) 183 (rnd (mOb m ^^^ 2 ^ (8 * p + q)) n (n + 1)) n) (obS m (mOb m ^^^ 2 ^ (8 * p + q))) (8 * p + q), some (.int (bI (qX (mOb m) n P (8 * p + q))))), ⟨k7, k6⟩, ?_⟩
      try dsimp only
      rw [r_M_explain_34]
      by_cases e : gnd (mOb m ^^^ 2 ^ (8 * p + q)) n = P
      · have e' : qX (mOb m) n P (8 * p + q) = true := by rw [hqx]; exact decide_eq_true e
        rw [← Nat.add_assoc, ct_s e', fnd, ht, e']
        simp (disch := omega) only [r_M_explain_36, r_M_explain_36n, r_M_explain_37, r_M_explain_40, r_M_explain_41, r_M_explain_42, r_M_explain_45, r_M_explain_45n, r_M_explain_46, r_M_explain_48, r_M_explain_50, r_M_explain_51, r_M_explain_53, r_M_explain_54, r_M_explain_57, r_M_explain_57n, r_M_explain_58, r_M_explain_61, r_M_explain_62, r_M_explain_65, r_M_explain_66, r_M_explain_69, r_M_explain_70, r_M_explain_72, r_M_explain_72n, r_M_explain_73, r_M_explain_75, r_M_explain_77, r_M_explain_78, r_M_explain_80, r_M_explain_81, r_M_explain_84, r_M_explain_86, r_M_explain_89, r_M_explain_92, r_M_explain_93, r_M_explain_94, r_M_explain_97, r_M_explain_99, r_M_explain_101, r_M_explain_102, r_M_explain_104, r_M_explain_105, r_M_explain_107, r_M_explain_110, r_M_explain_113, bnd, tl_s, tl_n, wt_nil, wt_int, wt_ref, wt_null, wt_long, Nat.reduceAdd, Nat.reduceLeDiff, if_true, if_false, decide_true, Bool.true_and, Bool.and_true, zok_n0, zok_n1, zok_bI, bI_eq0, bI_eq1, Bool.true_eq_false, Bool.false_eq_true, not_false_eq_true, not_true_eq_false, decide_false, decide_eq_false_iff_not, decide_eq_true_eq, Classical.not_not, ite_not, lit, Nat.reduceEqDiff, Nat.reduceLT, nI_add, nI_lt', nI_le', nI_eq', nI_sub', pk_mul, nI_rem', nI_div', nI_nz, remN, clampN, inb_nI, Nat.not_lt_zero, Nat.zero_le, Nat.le_zero_eq, if_true, if_false, m1_lt0, m1_eq, t_ite, f_ite, nI_and, nI_or, nI_xor, nI_shl1, nI_shr, nI_ushr, nI_not, nI_and_p2, Nat.one_mul, vrf_s, vrf_n, oF_174, oO_174, oA_175, oS_175, oA_176, oS_176, oA_177, oS_177, oA_178, oS_178, oA_179, oS_179, oA_180, oS_180, oA_181, oS_181, oA_182, oS_182, oA_183, oS_183, oA_184, oS_184, oA_185, oS_185, oA_186, oS_186, oA_187, oS_187, oA_188, oS_188, mO_M_arePlanks, mO_M_change, mO_M_layGrounded, y2.f, y2.nn, hnq, k1, k3, k5, e, bI_t]
        by_cases ev : nI (fb_ct (qX (mOb m) n P) (8 * p + q)) = v
        · rw [if_pos ev, if_pos ⟨trivial, ev⟩]
        · rw [if_neg ev, if_neg (fun z => ev z.2)]
      · have e' : qX (mOb m) n P (8 * p + q) = false := by rw [hqx]; exact decide_eq_false e
        rw [← Nat.add_assoc, ct_n e', fnd_n e', e']
        simp (disch := omega) only [r_M_explain_36, r_M_explain_36n, r_M_explain_37, r_M_explain_40, r_M_explain_41, r_M_explain_42, r_M_explain_45, r_M_explain_45n, r_M_explain_46, r_M_explain_48, r_M_explain_50, r_M_explain_51, r_M_explain_53, r_M_explain_54, r_M_explain_57, r_M_explain_57n, r_M_explain_58, r_M_explain_61, r_M_explain_62, r_M_explain_65, r_M_explain_66, r_M_explain_69, r_M_explain_70, r_M_explain_72, r_M_explain_72n, r_M_explain_73, r_M_explain_75, r_M_explain_77, r_M_explain_78, r_M_explain_80, r_M_explain_81, r_M_explain_84, r_M_explain_86, r_M_explain_89, r_M_explain_92, r_M_explain_93, r_M_explain_94, r_M_explain_97, r_M_explain_99, r_M_explain_101, r_M_explain_102, r_M_explain_104, r_M_explain_105, r_M_explain_107, r_M_explain_110, r_M_explain_113, bnd, tl_s, tl_n, wt_nil, wt_int, wt_ref, wt_null, wt_long, Nat.reduceAdd, Nat.reduceLeDiff, if_true, if_false, decide_true, Bool.true_and, Bool.and_true, zok_n0, zok_n1, zok_bI, bI_eq0, bI_eq1, Bool.true_eq_false, Bool.false_eq_true, not_false_eq_true, not_true_eq_false, decide_false, decide_eq_false_iff_not, decide_eq_true_eq, Classical.not_not, ite_not, lit, Nat.reduceEqDiff, Nat.reduceLT, nI_add, nI_lt', nI_le', nI_eq', nI_sub', pk_mul, nI_rem', nI_div', nI_nz, remN, clampN, inb_nI, Nat.not_lt_zero, Nat.zero_le, Nat.le_zero_eq, if_true, if_false, m1_lt0, m1_eq, t_ite, f_ite, nI_and, nI_or, nI_xor, nI_shl1, nI_shr, nI_ushr, nI_not, nI_and_p2, Nat.one_mul, vrf_s, vrf_n, oF_174, oO_174, oA_175, oS_175, oA_176, oS_176, oA_177, oS_177, oA_178, oS_178, oA_179, oS_179, oA_180, oS_180, oA_181, oS_181, oA_182, oS_182, oA_183, oS_183, oA_184, oS_184, oA_185, oS_185, oA_186, oS_186, oA_187, oS_187, oA_188, oS_188, mO_M_arePlanks, mO_M_change, mO_M_layGrounded, y2.f, y2.nn, hnq, k1, k3, k5, e, bI_f]) n 0 (X, z7) (by omega) ⟨x1, x2⟩
    try dsimp only at b1 b2
    refine ⟨(Y, some (.int (nI n)), z), ⟨b1, b2⟩, ?_⟩
    have hst := ct_stay (q := qX (mOb m) n P) (v := v) (a := 8 * p + n) (8 - n) (fun s s1 s2 => by
      unfold qX
      rw [decide_eq_false (show ¬ s % 8 < n by omega), Bool.and_false, Bool.false_and])
    rw [show 8 * p + n + (8 - n) = 8 * (p + 1) by omega] at hst
    try dsimp only
    rw [hst.1, hst.2, r_M_explain_20]
    simp (disch := omega) only [r_M_explain_22, r_M_explain_22n, r_M_explain_23, r_M_explain_26, r_M_explain_27, r_M_explain_28, r_M_explain_31, r_M_explain_32, bnd, tl_s, tl_n, wt_nil, wt_int, wt_ref, wt_null, wt_long, Nat.reduceAdd, Nat.reduceLeDiff, if_true, if_false, decide_true, Bool.true_and, Bool.and_true, zok_n0, zok_n1, zok_bI, bI_eq0, bI_eq1, Bool.true_eq_false, Bool.false_eq_true, not_false_eq_true, not_true_eq_false, decide_false, decide_eq_false_iff_not, decide_eq_true_eq, Classical.not_not, ite_not, lit, Nat.reduceEqDiff, Nat.reduceLT, nI_add, nI_lt', nI_le', nI_eq', nI_sub', pk_mul, nI_rem', nI_div', nI_nz, remN, clampN, inb_nI, Nat.not_lt_zero, Nat.zero_le, Nat.le_zero_eq, if_true, if_false, m1_lt0, m1_eq, t_ite, f_ite, nI_and, nI_or, nI_xor, nI_shl1, nI_shr, nI_ushr, nI_not, nI_and_p2, Nat.one_mul, vrf_s, vrf_n, oF_174, oO_174, oA_175, oS_175, oA_176, oS_176, oA_177, oS_177, oA_178, oS_178, oA_179, oS_179, oA_180, oS_180, oA_181, oS_181, oA_182, oS_182, oA_183, oS_183, oA_184, oS_184, oA_185, oS_185, oA_186, oS_186, oA_187, oS_187, oA_188, oS_188, mO_M_arePlanks, mO_M_change, mO_M_layGrounded, x2.f, x2.nn, hnp]
    refine Eq.trans b3 ?_
    try dsimp only
    rw [r_M_explain_34]
    simp (disch := omega) only [r_M_explain_36, r_M_explain_36n, r_M_explain_37, r_M_explain_40, r_M_explain_41, r_M_explain_42, bnd, tl_s, tl_n, wt_nil, wt_int, wt_ref, wt_null, wt_long, Nat.reduceAdd, Nat.reduceLeDiff, if_true, if_false, decide_true, Bool.true_and, Bool.and_true, zok_n0, zok_n1, zok_bI, bI_eq0, bI_eq1, Bool.true_eq_false, Bool.false_eq_true, not_false_eq_true, not_true_eq_false, decide_false, decide_eq_false_iff_not, decide_eq_true_eq, Classical.not_not, ite_not, lit, Nat.reduceEqDiff, Nat.reduceLT, nI_add, nI_lt', nI_le', nI_eq', nI_sub', pk_mul, nI_rem', nI_div', nI_nz, remN, clampN, inb_nI, Nat.not_lt_zero, Nat.zero_le, Nat.le_zero_eq, if_true, if_false, m1_lt0, m1_eq, t_ite, f_ite, nI_and, nI_or, nI_xor, nI_shl1, nI_shr, nI_ushr, nI_not, nI_and_p2, Nat.one_mul, vrf_s, vrf_n, oF_174, oO_174, oA_175, oS_175, oA_176, oS_176, oA_177, oS_177, oA_178, oS_178, oA_179, oS_179, oA_180, oS_180, oA_181, oS_181, oA_182, oS_182, oA_183, oS_183, oA_184, oS_184, oA_185, oS_185, oA_186, oS_186, oA_187, oS_187, oA_188, oS_188, mO_M_arePlanks, mO_M_change, mO_M_layGrounded, b2.f, b2.nn, Nat.le_refl]
    simp (disch := omega) only [r_M_explain_116, r_M_explain_119, bnd, tl_s, tl_n, wt_nil, wt_int, wt_ref, wt_null, wt_long, Nat.reduceAdd, Nat.reduceLeDiff, if_true, if_false, decide_true, Bool.true_and, Bool.and_true, zok_n0, zok_n1, zok_bI, bI_eq0, bI_eq1, Bool.true_eq_false, Bool.false_eq_true, not_false_eq_true, not_true_eq_false, decide_false, decide_eq_false_iff_not, decide_eq_true_eq, Classical.not_not, ite_not, lit, Nat.reduceEqDiff, Nat.reduceLT, nI_add, nI_lt', nI_le', nI_eq', nI_sub', pk_mul, nI_rem', nI_div', nI_nz, remN, clampN, inb_nI, Nat.not_lt_zero, Nat.zero_le, Nat.le_zero_eq, if_true, if_false, m1_lt0, m1_eq, t_ite, f_ite, nI_and, nI_or, nI_xor, nI_shl1, nI_shr, nI_ushr, nI_not, nI_and_p2, Nat.one_mul, vrf_s, vrf_n, oF_174, oO_174, oA_175, oS_175, oA_176, oS_176, oA_177, oS_177, oA_178, oS_178, oA_179, oS_179, oA_180, oS_180, oA_181, oS_181, oA_182, oS_182, oA_183, oS_183, oA_184, oS_184, oA_185, oS_185, oA_186, oS_186, oA_187, oS_187, oA_188, oS_188, mO_M_arePlanks, mO_M_change, mO_M_layGrounded]) n 0 (M, none, none) (by omega) ⟨DO.rf, h⟩
  try dsimp only at a1 a2
  refine ⟨X, DO.back h a2 a1, ?_⟩
  have hst := ct_stay (q := qX (mOb m) n P) (v := v) (a := 8 * n) (64 - 8 * n) (fun s s1 s2 => by
    unfold qX
    rw [decide_eq_false (show ¬ s / 8 < n by omega), Bool.false_and, Bool.false_and])
  rw [show 8 * n + (64 - 8 * n) = 64 by omega] at hst
  rw [hst.1, hst.2, e_M_explain]
  simp (disch := omega) only [r_M_explain_0, r_M_explain_0n, r_M_explain_1, r_M_explain_2, r_M_explain_5, r_M_explain_8, r_M_explain_10, r_M_explain_11, r_M_explain_12, r_M_explain_13, r_M_explain_15, r_M_explain_17, r_M_explain_18, bnd, tl_s, tl_n, wt_nil, wt_int, wt_ref, wt_null, wt_long, Nat.reduceAdd, Nat.reduceLeDiff, if_true, if_false, decide_true, Bool.true_and, Bool.and_true, zok_n0, zok_n1, zok_bI, bI_eq0, bI_eq1, Bool.true_eq_false, Bool.false_eq_true, not_false_eq_true, not_true_eq_false, decide_false, decide_eq_false_iff_not, decide_eq_true_eq, Classical.not_not, ite_not, lit, Nat.reduceEqDiff, Nat.reduceLT, nI_add, nI_lt', nI_le', nI_eq', nI_sub', pk_mul, nI_rem', nI_div', nI_nz, remN, clampN, inb_nI, Nat.not_lt_zero, Nat.zero_le, Nat.le_zero_eq, if_true, if_false, m1_lt0, m1_eq, t_ite, f_ite, nI_and, nI_or, nI_xor, nI_shl1, nI_shr, nI_ushr, nI_not, nI_and_p2, Nat.one_mul, vrf_s, vrf_n, oF_174, oO_174, oA_175, oS_175, oA_176, oS_176, oA_177, oS_177, oA_178, oS_178, oA_179, oS_179, oA_180, oS_180, oA_181, oS_181, oA_182, oS_182, oA_183, oS_183, oA_184, oS_184, oA_185, oS_185, oA_186, oS_186, oA_187, oS_187, oA_188, oS_188, mO_M_arePlanks, mO_M_change, mO_M_layGrounded, x_arePlanks h hP]
  refine Eq.trans a3 ?_
  try dsimp only
  rw [r_M_explain_20]
  simp (disch := omega) only [r_M_explain_22, r_M_explain_22n, r_M_explain_23, r_M_explain_26, r_M_explain_27, r_M_explain_28, bnd, tl_s, tl_n, wt_nil, wt_int, wt_ref, wt_null, wt_long, Nat.reduceAdd, Nat.reduceLeDiff, if_true, if_false, decide_true, Bool.true_and, Bool.and_true, zok_n0, zok_n1, zok_bI, bI_eq0, bI_eq1, Bool.true_eq_false, Bool.false_eq_true, not_false_eq_true, not_true_eq_false, decide_false, decide_eq_false_iff_not, decide_eq_true_eq, Classical.not_not, ite_not, lit, Nat.reduceEqDiff, Nat.reduceLT, nI_add, nI_lt', nI_le', nI_eq', nI_sub', pk_mul, nI_rem', nI_div', nI_nz, remN, clampN, inb_nI, Nat.not_lt_zero, Nat.zero_le, Nat.le_zero_eq, if_true, if_false, m1_lt0, m1_eq, t_ite, f_ite, nI_and, nI_or, nI_xor, nI_shl1, nI_shr, nI_ushr, nI_not, nI_and_p2, Nat.one_mul, vrf_s, vrf_n, oF_174, oO_174, oA_175, oS_175, oA_176, oS_176, oA_177, oS_177, oA_178, oS_178, oA_179, oS_179, oA_180, oS_180, oA_181, oS_181, oA_182, oS_182, oA_183, oS_183, oA_184, oS_184, oA_185, oS_185, oA_186, oS_186, oA_187, oS_187, oA_188, oS_188, mO_M_arePlanks, mO_M_change, mO_M_layGrounded, a2.f, a2.nn, Nat.le_refl]
  simp only [r_M_explain_122, r_M_explain_123, r_M_explain_124, r_M_explain_127, r_M_explain_128, r_M_explain_131, r_M_explain_133, lit]
  by_cases e : v = -nI 1
  · rw [if_neg (fun z => z e), if_pos e]
  · rw [if_pos e, if_neg e]
theorem P_explain {v w : Int32} (hX : KX M 4 n W Rs m) (hM : KM M n W Rs m) : PubR m_X_explain m_M_explain [.int v, .int w] M := by
  have h2 := p2_le8 hX.n8
  rcases ix_cases v (n := 2 ^ n) (by omega) with ⟨P, hP, rfl⟩ | hv
  · obtain ⟨M1, c1, c2, c3, c4⟩ := y_findExplaining (d := 95) hX hP
    have hX1 := kxX hX c1
    obtain ⟨M2, m1, m2⟩ := x_explain (d := 96) (v := w) (kmX hM c1) hP
    have hc := fb_ct_le (qX (mOb m) n P) 64
    have ha := y_answerG (d := 98) (v := w) (L := fun j => nI (tens (el (qX (mOb m) n P) 64 j))) (hX1.r 148 0 149 rfl) c2 (fun j hj => by
      obtain ⟨a1, a2, a3⟩ := el_ok hj
      have := c3 _ a1 a2
      rw [a3] at this
      exact this) (by omega)
    refine ⟨_, M1, M2, ?_, c1, m2, m1⟩
    rw [e_X_explain]
    simp (disch := omega) only [r_X_explain_0, r_X_explain_0n, r_X_explain_1, r_X_explain_4, r_X_explain_5, r_X_explain_8, r_X_explain_11, r_X_explain_13, r_X_explain_14, r_X_explain_14n, r_X_explain_15, r_X_explain_18, r_X_explain_18n, r_X_explain_19, r_X_explain_22, r_X_explain_25, r_X_explain_28, r_X_explain_28n, r_X_explain_29, r_X_explain_32, r_X_explain_35, r_X_explain_36, r_X_explain_39, r_X_explain_39n, r_X_explain_40, r_X_explain_43, r_X_explain_44, r_X_explain_47, bnd, tl_s, tl_n, wt_nil, wt_int, wt_ref, wt_null, wt_long, Nat.reduceAdd, Nat.reduceLeDiff, if_true, if_false, decide_true, Bool.true_and, Bool.and_true, zok_n0, zok_n1, zok_bI, bI_eq0, bI_eq1, Bool.true_eq_false, Bool.false_eq_true, not_false_eq_true, not_true_eq_false, decide_false, decide_eq_false_iff_not, decide_eq_true_eq, Classical.not_not, ite_not, lit, Nat.reduceEqDiff, Nat.reduceLT, nI_add, nI_lt', nI_le', nI_eq', nI_sub', pk_mul, nI_rem', nI_div', nI_nz, remN, clampN, inb_nI, Nat.not_lt_zero, Nat.zero_le, Nat.le_zero_eq, if_true, if_false, m1_lt0, m1_eq, t_ite, f_ite, nI_and, nI_or, nI_xor, nI_shl1, nI_shr, nI_ushr, nI_not, nI_and_p2, Nat.one_mul, vrf_s, vrf_n, oF_0, oO_0, oF_1, oO_1, oA_2, oS_2, oA_3, oS_3, oF_4, oO_4, oA_5, oS_5, oA_6, oS_6, oA_7, oS_7, oA_8, oS_8, oA_9, oS_9, oF_70, oO_70, oA_71, oS_71, oA_72, oS_72, oF_73, oO_73, oA_74, oS_74, oA_75, oS_75, oA_76, oS_76, oA_77, oS_77, oA_78, oS_78, oA_139, oS_139, oF_140, oO_140, oA_141, oS_141, oA_142, oS_142, oA_143, oS_143, oA_144, oS_144, oF_145, oO_145, oF_146, oO_146, oA_147, oS_147, oF_148, oO_148, oA_149, oS_149, oA_150, oS_150, oA_151, oS_151, oF_152, oO_152, oA_153, oS_153, oF_154, oO_154, oA_155, oS_155, oA_156, oS_156, oA_157, oS_157, oA_158, oS_158, oF_159, oO_159, oA_160, oS_160, oA_161, oS_161, oA_162, oS_162, oA_163, oS_163, oF_164, oO_164, oA_165, oS_165, oA_166, oS_166, oA_167, oS_167, oA_168, oS_168, oF_169, oO_169, oA_170, oS_170, oA_171, oS_171, oA_172, oS_172, oA_173, oS_173, mO_Site_areBits, mO_Site_told, mO_Dis_findExplaining, mO_Dis_answer, hX.r 0 0 1 rfl, hX.r 0 1 70 rfl, hX.r 0 2 139 rfl, hX.r 0 3 140 rfl, hX.r 0 4 145 rfl, hX.r 0 5 146 rfl, hX.r 0 6 148 rfl, hX.r 0 7 152 rfl, hX.r 1 1 2 rfl, hX.r 1 2 3 rfl, hX.r 1 3 4 rfl, hX.r 1 4 6 rfl, hX.r 1 9 7 rfl, hX.r 1 11 8 rfl, hX.r 1 12 9 rfl, hX.r 4 6 5 rfl, hX.r 152 6 153 rfl, hX.r 140 0 141 rfl, hX.r 140 2 142 rfl, hX.r 140 3 143 rfl, hX.r 140 4 144 rfl, hX.r 146 0 147 rfl, hX.r 148 0 149 rfl, hX.r 148 2 150 rfl, hX.r 148 3 151 rfl, hX1.r 0 0 1 rfl, hX1.r 0 1 70 rfl, hX1.r 0 2 139 rfl, hX1.r 0 3 140 rfl, hX1.r 0 4 145 rfl, hX1.r 0 5 146 rfl, hX1.r 0 6 148 rfl, hX1.r 0 7 152 rfl, hX1.r 1 1 2 rfl, hX1.r 1 2 3 rfl, hX1.r 1 3 4 rfl, hX1.r 1 4 6 rfl, hX1.r 1 9 7 rfl, hX1.r 1 11 8 rfl, hX1.r 1 12 9 rfl, hX1.r 4 6 5 rfl, hX1.r 152 6 153 rfl, hX1.r 140 0 141 rfl, hX1.r 140 2 142 rfl, hX1.r 140 3 143 rfl, hX1.r 140 4 144 rfl, hX1.r 146 0 147 rfl, hX1.r 148 0 149 rfl, hX1.r 148 2 150 rfl, hX1.r 148 3 151 rfl, hX.ob, y_areBits hX hP, y_told hX, c4, ha]
    rw [fnd_ok 64 (Nat.le_refl _)]
  · refine PubR.same (.int (-nI 2)) ?_ ?_
    · rw [e_X_explain]
      simp (disch := omega) only [r_X_explain_0, r_X_explain_0n, r_X_explain_1, r_X_explain_4, r_X_explain_5, r_X_explain_8, r_X_explain_11, r_X_explain_13, r_X_explain_14, r_X_explain_14n, r_X_explain_15, r_X_explain_18, r_X_explain_18n, r_X_explain_19, r_X_explain_22, r_X_explain_25, r_X_explain_28, r_X_explain_28n, r_X_explain_29, r_X_explain_32, r_X_explain_35, r_X_explain_36, r_X_explain_39, r_X_explain_39n, r_X_explain_40, r_X_explain_43, r_X_explain_44, r_X_explain_47, bnd, tl_s, tl_n, wt_nil, wt_int, wt_ref, wt_null, wt_long, Nat.reduceAdd, Nat.reduceLeDiff, if_true, if_false, decide_true, Bool.true_and, Bool.and_true, zok_n0, zok_n1, zok_bI, bI_eq0, bI_eq1, Bool.true_eq_false, Bool.false_eq_true, not_false_eq_true, not_true_eq_false, decide_false, decide_eq_false_iff_not, decide_eq_true_eq, Classical.not_not, ite_not, lit, Nat.reduceEqDiff, Nat.reduceLT, nI_add, nI_lt', nI_le', nI_eq', nI_sub', pk_mul, nI_rem', nI_div', nI_nz, remN, clampN, inb_nI, Nat.not_lt_zero, Nat.zero_le, Nat.le_zero_eq, if_true, if_false, m1_lt0, m1_eq, t_ite, f_ite, nI_and, nI_or, nI_xor, nI_shl1, nI_shr, nI_ushr, nI_not, nI_and_p2, Nat.one_mul, vrf_s, vrf_n, oF_0, oO_0, oF_1, oO_1, oA_2, oS_2, oA_3, oS_3, oF_4, oO_4, oA_5, oS_5, oA_6, oS_6, oA_7, oS_7, oA_8, oS_8, oA_9, oS_9, oF_70, oO_70, oA_71, oS_71, oA_72, oS_72, oF_73, oO_73, oA_74, oS_74, oA_75, oS_75, oA_76, oS_76, oA_77, oS_77, oA_78, oS_78, oA_139, oS_139, oF_140, oO_140, oA_141, oS_141, oA_142, oS_142, oA_143, oS_143, oA_144, oS_144, oF_145, oO_145, oF_146, oO_146, oA_147, oS_147, oF_148, oO_148, oA_149, oS_149, oA_150, oS_150, oA_151, oS_151, oF_152, oO_152, oA_153, oS_153, oF_154, oO_154, oA_155, oS_155, oA_156, oS_156, oA_157, oS_157, oA_158, oS_158, oF_159, oO_159, oA_160, oS_160, oA_161, oS_161, oA_162, oS_162, oA_163, oS_163, oF_164, oO_164, oA_165, oS_165, oA_166, oS_166, oA_167, oS_167, oA_168, oS_168, oF_169, oO_169, oA_170, oS_170, oA_171, oS_171, oA_172, oS_172, oA_173, oS_173, mO_Site_areBits, mO_Site_told, mO_Dis_findExplaining, mO_Dis_answer, hX.r 0 0 1 rfl, hX.r 0 1 70 rfl, hX.r 0 2 139 rfl, hX.r 0 3 140 rfl, hX.r 0 4 145 rfl, hX.r 0 5 146 rfl, hX.r 0 6 148 rfl, hX.r 0 7 152 rfl, hX.r 1 1 2 rfl, hX.r 1 2 3 rfl, hX.r 1 3 4 rfl, hX.r 1 4 6 rfl, hX.r 1 9 7 rfl, hX.r 1 11 8 rfl, hX.r 1 12 9 rfl, hX.r 4 6 5 rfl, hX.r 152 6 153 rfl, hX.r 140 0 141 rfl, hX.r 140 2 142 rfl, hX.r 140 3 143 rfl, hX.r 140 4 144 rfl, hX.r 146 0 147 rfl, hX.r 148 0 149 rfl, hX.r 148 2 150 rfl, hX.r 148 3 151 rfl, y_areBits_n hX hv]
    · rw [e_M_explain]
      simp (disch := omega) only [r_M_explain_0, r_M_explain_0n, r_M_explain_1, r_M_explain_2, r_M_explain_5, r_M_explain_8, r_M_explain_10, r_M_explain_11, r_M_explain_12, r_M_explain_13, r_M_explain_15, r_M_explain_17, r_M_explain_18, r_M_explain_20, r_M_explain_22, r_M_explain_22n, r_M_explain_23, r_M_explain_26, r_M_explain_27, r_M_explain_28, r_M_explain_31, r_M_explain_32, r_M_explain_34, r_M_explain_36, r_M_explain_36n, r_M_explain_37, r_M_explain_40, r_M_explain_41, r_M_explain_42, r_M_explain_45, r_M_explain_45n, r_M_explain_46, r_M_explain_48, r_M_explain_50, r_M_explain_51, r_M_explain_53, r_M_explain_54, r_M_explain_57, r_M_explain_57n, r_M_explain_58, r_M_explain_61, r_M_explain_62, r_M_explain_65, r_M_explain_66, r_M_explain_69, r_M_explain_70, r_M_explain_72, r_M_explain_72n, r_M_explain_73, r_M_explain_75, r_M_explain_77, r_M_explain_78, r_M_explain_80, r_M_explain_81, r_M_explain_84, r_M_explain_86, r_M_explain_89, r_M_explain_92, r_M_explain_93, r_M_explain_94, r_M_explain_97, r_M_explain_99, r_M_explain_101, r_M_explain_102, r_M_explain_104, r_M_explain_105, r_M_explain_107, r_M_explain_110, r_M_explain_113, r_M_explain_116, r_M_explain_119, r_M_explain_122, r_M_explain_123, r_M_explain_124, r_M_explain_127, r_M_explain_128, r_M_explain_131, r_M_explain_133, bnd, tl_s, tl_n, wt_nil, wt_int, wt_ref, wt_null, wt_long, Nat.reduceAdd, Nat.reduceLeDiff, if_true, if_false, decide_true, Bool.true_and, Bool.and_true, zok_n0, zok_n1, zok_bI, bI_eq0, bI_eq1, Bool.true_eq_false, Bool.false_eq_true, not_false_eq_true, not_true_eq_false, decide_false, decide_eq_false_iff_not, decide_eq_true_eq, Classical.not_not, ite_not, lit, Nat.reduceEqDiff, Nat.reduceLT, nI_add, nI_lt', nI_le', nI_eq', nI_sub', pk_mul, nI_rem', nI_div', nI_nz, remN, clampN, inb_nI, Nat.not_lt_zero, Nat.zero_le, Nat.le_zero_eq, if_true, if_false, m1_lt0, m1_eq, t_ite, f_ite, nI_and, nI_or, nI_xor, nI_shl1, nI_shr, nI_ushr, nI_not, nI_and_p2, Nat.one_mul, vrf_s, vrf_n, oF_174, oO_174, oA_175, oS_175, oA_176, oS_176, oA_177, oS_177, oA_178, oS_178, oA_179, oS_179, oA_180, oS_180, oA_181, oS_181, oA_182, oS_182, oA_183, oS_183, oA_184, oS_184, oA_185, oS_185, oA_186, oS_186, oA_187, oS_187, oA_188, oS_188, mO_M_arePlanks, mO_M_change, mO_M_layGrounded, x_arePlanks_n hM hv]
end EX
