/-! MOMENTS: what a class's moment does -/
def trn (x : Nat) : Nat := (x * 593 + 461) % 30829
def mUpS (m : Mo) (u : Nat) : Mo := (u, m.2)
def mCoS (m : Mo) (c : Nat) : Mo := (m.1, c, m.2.2)
def mWdS (m : Mo) (w : Nat) : Mo := (m.1, m.2.1, m.2.2.1, w, m.2.2.2.2)
def mHrS (m : Mo) (h : Nat) : Mo := (m.1, m.2.1, m.2.2.1, m.2.2.2.1, h, m.2.2.2.2.2)
def mXxS (m : Mo) (x : Nat) : Mo := (m.1, m.2.1, m.2.2.1, m.2.2.2.1, m.2.2.2.2.1, x, m.2.2.2.2.2.2)
def mBkS (m : Mo) (c : Nat) (b : Nat → Nat × Nat × Nat × Nat) : Mo := (m.1, m.2.1, m.2.2.1, m.2.2.2.1, m.2.2.2.2.1, m.2.2.2.2.2.1, c, b)
/-- how many lines stay -/
def cnK (m : Mo) : Nat := if mCn m = 30 then 29 else mCn m
def wr (m : Mo) (p a : Nat) : Mo := mBkS m (cnK m + 1) (fun k => if k = cnK m then (mHr m, p, a, mWd m) else if mCn m = 30 then mBk m (k + 1) else mBk m k)
theorem cnK_le {m : Mo} (h : mCn m ≤ 30) : cnK m ≤ 29 := by unfold cnK; split <;> omega
theorem wr_ok {n p a : Nat} {m : Mo} (h : OkM n m) (hp : p < 8) (ha : a < 4) : OkM n (wr m p a) := by
  obtain ⟨a1, a2, a3, a4, a5, a6, a7, a8, a9⟩ := h
  have hk := cnK_le a8
  refine ⟨a1, a2, a3, a4, a5, a6, a7, show cnK m + 1 ≤ 30 by omega, fun k hk' => ?_⟩
  have hk2 : k < cnK m + 1 := hk'
  show eOk (if k = cnK m then (mHr m, p, a, mWd m) else if mCn m = 30 then mBk m (k + 1) else mBk m k)
  by_cases e : k = cnK m
  · rw [if_pos e]; exact ⟨a6, hp, ha, a5⟩
  · rw [if_neg e]
    by_cases e2 : mCn m = 30
    · rw [if_pos e2]
      have : cnK m = 29 := by unfold cnK; rw [if_pos e2]
      exact a9 (k + 1) (by omega)
    · rw [if_neg e2]
      have : cnK m = mCn m := by unfold cnK; rw [if_neg e2]
      exact a9 k (by omega)
theorem cC_or {h p a w : Nat} (hp : p < 8) (ha : a < 4) (hw : w < 16) : h * 2 ^ 9 ||| p * 2 ^ 6 ||| a * 2 ^ 4 ||| w = cC (h, p, a, w) := by
  have e1 : h * 2 ^ 9 ||| p * 2 ^ 6 = h * 2 ^ 9 + p * 2 ^ 6 := by
    rw [Nat.mul_comm h, ← Nat.two_pow_add_eq_or_of_lt (by omega)]
  have e2 : (h * 2 ^ 9 + p * 2 ^ 6) ||| a * 2 ^ 4 = h * 2 ^ 9 + p * 2 ^ 6 + a * 2 ^ 4 := by
    rw [show h * 2 ^ 9 + p * 2 ^ 6 = 2 ^ 6 * (h * 8 + p) by omega, ← Nat.two_pow_add_eq_or_of_lt (by omega)]
  have e3 : (h * 2 ^ 9 + p * 2 ^ 6 + a * 2 ^ 4) ||| w = h * 2 ^ 9 + p * 2 ^ 6 + a * 2 ^ 4 + w := by
    rw [show h * 2 ^ 9 + p * 2 ^ 6 + a * 2 ^ 4 = 2 ^ 4 * (h * 32 + p * 4 + a) by omega, ← Nat.two_pow_add_eq_or_of_lt (by omega)]
  rw [e1, e2, e3]
  unfold cC
  rfl
theorem gI_cpI_nk {M : Mem} {k0 k1 sp dp n k j : Nat} (h : k ≠ k1) : gI (cpI M k0 k1 sp dp n) k j = gI M k j := by
  unfold gI cpI u1
  dsimp only
  rw [if_neg h]
theorem gI_cpI_in {M : Mem} {k0 k1 sp dp n j : Nat} (h1 : dp ≤ j) (h2 : j < dp + n) : gI (cpI M k0 k1 sp dp n) k1 j = gI M k0 (sp + (j - dp)) := by
  unfold gI cpI u1
  dsimp only
  rw [if_pos rfl]
  unfold va_cpy
  rw [if_pos ⟨h1, h2⟩]
theorem gI_cpI_out {M : Mem} {k0 k1 sp dp n j : Nat} (h : dp + n ≤ j) : gI (cpI M k0 k1 sp dp n) k1 j = gI M k1 j := by
  unfold gI cpI u1
  dsimp only
  rw [if_pos rfl]
  unfold va_cpy
  rw [if_neg (by omega)]
theorem gL_cpI {M : Mem} {k0 k1 sp dp n k j : Nat} : gL (cpI M k0 k1 sp dp n) k j = gL M k j := rfl
theorem gR_cpI {M : Mem} {k0 k1 sp dp n k j : Nat} : gR (cpI M k0 k1 sp dp n) k j = gR M k j := rfl
theorem D_cpI {P : Nat → Nat → Prop} {M M' : Mem} {k0 k1 sp dp n : Nat} (h : D P M M') (hp : ∀ j, P k1 j) : D P M (cpI M' k0 k1 sp dp n) := by
  refine h.trans ⟨fun a b hab => ⟨?_, rfl, rfl⟩, rfl⟩
  exact gI_cpI_nk (fun z => hab (z ▸ hp b))
/-- a moment's cell -/
def moB (c : Nat) : Bool := okF NX c 2 && okO NX c 2 && okW NX (c + 1) && decide (sh (c + 1) = (100, 30)) && decide (rxt c 6 = some (c + 1)) && live NX (c + 1)
theorem moB_site : moB 4 = true := by decide +kernel
theorem moB_kept : moB 73 = true := by decide +kernel
theorem moB_ahead : moB 152 = true := by decide +kernel
theorem moB_chk : chk (fun i => moB (10 + 2 * i) && moB (79 + 2 * i)) 30 = true := by decide +kernel
theorem moB_1 {i : Nat} (h : i < 30) : moB (10 + 2 * i) = true := (and3 (chk_all moB_chk i h)).1
theorem moB_2 {i : Nat} (h : i < 30) : moB (79 + 2 * i) = true := (and3 (chk_all moB_chk i h)).2
section MO
variable {d c c0 c1 n : Nat} {M : Mem} {m : Mo}
theorem moF (h : moB c = true) : okF NX c 2 = true ∧ okO NX c 2 = true ∧ okW NX (c + 1) = true ∧ sh (c + 1) = (100, 30) ∧ rxt c 6 = some (c + 1) ∧ live NX (c + 1) = true := by
  unfold moB at h
  rw [Bool.and_eq_true, Bool.and_eq_true, Bool.and_eq_true, Bool.and_eq_true, Bool.and_eq_true, decide_eq_true_eq, decide_eq_true_eq] at h
  exact ⟨h.1.1.1.1.1, h.1.1.1.1.2, h.1.1.1.2, h.1.1.2, h.1.2, h.2⟩
theorem moA (h : moB c = true) {i : Int32} : okA M NX (c + 1) 100 i = inb i 30 ∧ okS M NX (c + 1) 100 i = inb i 30 := by
  obtain ⟨h1, h2, h3, h4, h5, h6⟩ := moF h
  have hlt : c + 1 < NX := of_decide_eq_true h3
  have hN : NX = 189 := by decide
  have a : okA M NX (c + 1) 100 i = inb i 30 := by
    unfold okA lenOf
    rw [h6, h4, if_neg (by omega)]
    rfl
  exact ⟨a, by unfold okS; rw [h3, a]; rfl⟩
theorem y_copyFrom (hr : RX M) (h1 : moB c1 = true) (h0 : moB c0 = true) (hne : c0 ≠ c1) (hne1 : c0 + 1 ≠ c1) (hne2 : c1 + 1 ≠ c0) (h : MX M c0 m) (hcn : mCn m ≤ 30) : ∃ M', D (fun k j => (k = c1 ∧ j ≠ 6) ∨ k = c1 + 1) M M' ∧ MX M' c1 m ∧ ev (d + 1) m_Mom_copyFrom [.ref c1, .ref c0] NX M = some (none, NX, M') := by
  obtain ⟨f1, f2, f3, f4, f5, f6⟩ := moF h1
  obtain ⟨g1, g2, g3, g4, g5, g6⟩ := moF h0
  obtain ⟨a0, a1, a2, a3, a4, a5, a7, a8⟩ := h
  have r0 := hr c0 6 (c0 + 1) g5
  have r1 := hr c1 6 (c1 + 1) f5
  refine ⟨sI (cpI (sI (sI (sI (sL (sI (sI M c1 0 (nI (mUp m))) c1 1 (nI (mCo m))) c1 2 (lN (mOb m))) c1 3 (nI (mWd m))) c1 4 (nI (mHr m))) c1 5 (nI (mXx m))) (c0 + 1) (c1 + 1) 0 0 30) c1 7 (nI (mCn m)), ?_, ?_, ?_⟩
  · refine (D_cpI ((((((D.rfl'.sI (Or.inl ⟨rfl, by omega⟩)).sI (Or.inl ⟨rfl, by omega⟩)).sL (Or.inl ⟨rfl, by omega⟩)).sI (Or.inl ⟨rfl, by omega⟩)).sI (Or.inl ⟨rfl, by omega⟩)).sI (Or.inl ⟨rfl, by omega⟩)) (fun j => Or.inr rfl)).sI (Or.inl ⟨rfl, by omega⟩)
  · refine ⟨?_, ?_, ?_, ?_, ?_, ?_, gI_sI_eq, fun k hk => ?_⟩
    · rw [gI_sI_nj (by decide), gI_cpI_nk (by omega), gI_sI_nj (by decide), gI_sI_nj (by decide), gI_sI_nj (by decide), gI_sL, gI_sI_nj (by decide), gI_sI_eq]
    · rw [gI_sI_nj (by decide), gI_cpI_nk (by omega), gI_sI_nj (by decide), gI_sI_nj (by decide), gI_sI_nj (by decide), gI_sL, gI_sI_eq]
    · rw [gL_sI, gL_cpI, gL_sI, gL_sI, gL_sI, gL_sL_eq]
    · rw [gI_sI_nj (by decide), gI_cpI_nk (by omega), gI_sI_nj (by decide), gI_sI_nj (by decide), gI_sI_eq]
    · rw [gI_sI_nj (by decide), gI_cpI_nk (by omega), gI_sI_nj (by decide), gI_sI_eq]
    · rw [gI_sI_nj (by decide), gI_cpI_nk (by omega), gI_sI_eq]
    · rw [gI_sI_nk (by omega), gI_cpI_in (by omega) (by omega), gI_sI_nk (by omega), gI_sI_nk (by omega), gI_sI_nk (by omega), gI_sL, gI_sI_nk (by omega), gI_sI_nk (by omega), show 0 + (k - 0) = k by omega]
      exact a8 k hk
  · have e1 : (sh (c0 + 1)).1 == 100 := by rw [g4]; rfl
    have e2 : (sh (c1 + 1)).1 == 100 := by rw [f4]; rfl
    have e3 : (sh (c0 + 1)).2 = 30 := by rw [g4]
    have e4 : (sh (c1 + 1)).2 = 30 := by rw [f4]
    rw [e_Mom_copyFrom]
    simp (disch := omega) only [r_Mom_copyFrom_0, r_Mom_copyFrom_0n, r_Mom_copyFrom_1, r_Mom_copyFrom_1n, r_Mom_copyFrom_2, r_Mom_copyFrom_5, r_Mom_copyFrom_8, r_Mom_copyFrom_8n, r_Mom_copyFrom_9, r_Mom_copyFrom_9n, r_Mom_copyFrom_10, r_Mom_copyFrom_13, r_Mom_copyFrom_16, r_Mom_copyFrom_16n, r_Mom_copyFrom_17, r_Mom_copyFrom_17n, r_Mom_copyFrom_18, r_Mom_copyFrom_21, r_Mom_copyFrom_24, r_Mom_copyFrom_24n, r_Mom_copyFrom_25, r_Mom_copyFrom_25n, r_Mom_copyFrom_26, r_Mom_copyFrom_29, r_Mom_copyFrom_32, r_Mom_copyFrom_32n, r_Mom_copyFrom_33, r_Mom_copyFrom_33n, r_Mom_copyFrom_34, r_Mom_copyFrom_37, r_Mom_copyFrom_40, r_Mom_copyFrom_40n, r_Mom_copyFrom_41, r_Mom_copyFrom_41n, r_Mom_copyFrom_42, r_Mom_copyFrom_45, r_Mom_copyFrom_48, r_Mom_copyFrom_48n, r_Mom_copyFrom_49, r_Mom_copyFrom_52, r_Mom_copyFrom_53, r_Mom_copyFrom_53n, r_Mom_copyFrom_54, r_Mom_copyFrom_57, r_Mom_copyFrom_58, r_Mom_copyFrom_60, r_Mom_copyFrom_63, r_Mom_copyFrom_63n, r_Mom_copyFrom_64, r_Mom_copyFrom_64n, r_Mom_copyFrom_65, r_Mom_copyFrom_68, r_Mom_copyFrom_71, bnd, tl_s, tl_n, wt_nil, wt_int, wt_ref, wt_null, wt_long, Nat.reduceAdd, Nat.reduceLeDiff, if_true, if_false, decide_true, Bool.true_and, Bool.and_true, zok_n0, zok_n1, zok_bI, bI_eq0, bI_eq1, Bool.true_eq_false, Bool.false_eq_true, not_false_eq_true, not_true_eq_false, decide_false, decide_eq_false_iff_not, decide_eq_true_eq, Classical.not_not, ite_not, lit, Nat.reduceEqDiff, Nat.reduceLT, nI_add, nI_lt', nI_le', nI_eq', nI_sub', pk_mul, nI_rem', nI_div', nI_nz, remN, clampN, inb_nI, Nat.not_lt_zero, Nat.zero_le, Nat.le_zero_eq, if_true, if_false, m1_lt0, m1_eq, t_ite, f_ite, Bool.not_false, Bool.not_true, nI_and, nI_or, nI_xor, nI_shl1, nI_shr, nI_ushr, nI_not, nI_and_p2, Nat.one_mul, vrf_s, vrf_n, oF_0, oO_0, oF_1, oO_1, oA_2, oS_2, oA_3, oS_3, oF_4, oO_4, oA_5, oS_5, oA_6, oS_6, oA_7, oS_7, oA_8, oS_8, oA_9, oS_9, oF_70, oO_70, oA_71, oS_71, oA_72, oS_72, oF_73, oO_73, oA_74, oS_74, oA_75, oS_75, oA_76, oS_76, oA_77, oS_77, oA_78, oS_78, oA_139, oS_139, oF_140, oO_140, oA_141, oS_141, oA_142, oS_142, oA_143, oS_143, oA_144, oS_144, oF_145, oO_145, oF_146, oO_146, oA_147, oS_147, oF_148, oO_148, oA_149, oS_149, oA_150, oS_150, oA_151, oS_151, oF_152, oO_152, oA_153, oS_153, oF_154, oO_154, oA_155, oS_155, oA_156, oS_156, oA_157, oS_157, oA_158, oS_158, oF_159, oO_159, oA_160, oS_160, oA_161, oS_161, oA_162, oS_162, oA_163, oS_163, oF_164, oO_164, oA_165, oS_165, oA_166, oS_166, oA_167, oS_167, oA_168, oS_168, oF_169, oO_169, oA_170, oS_170, oA_171, oS_171, oA_172, oS_172, oA_173, oS_173, f1, g1, gI_sI_nk, gI_sL, gL_sI, gL_cpI, gI_cpI_nk, gR_sI, gR_sL, gR_cpI, a0, a1, a2, a3, a4, a5, a7, r0, r1, g3, f3, e1, e2, e3, e4, Nat.zero_add, Nat.le_refl]
theorem y_turnX (hm : moB c = true) (h : MX M c m) (hx : mXx m < 30829) : ev (d + 1) m_Mom_turnX [.ref c] NX M = some (none, NX, sI M c 5 (nI (trn (mXx m)))) := by
  have f1 := (moF hm).1
  rw [e_Mom_turnX]
  simp (disch := omega) only [r_Mom_turnX_0, r_Mom_turnX_0n, r_Mom_turnX_1, r_Mom_turnX_1n, r_Mom_turnX_2, r_Mom_turnX_5, r_Mom_turnX_8, r_Mom_turnX_9, r_Mom_turnX_12, r_Mom_turnX_13, r_Mom_turnX_16, r_Mom_turnX_17, r_Mom_turnX_20, bnd, tl_s, tl_n, wt_nil, wt_int, wt_ref, wt_null, wt_long, Nat.reduceAdd, Nat.reduceLeDiff, if_true, if_false, decide_true, Bool.true_and, Bool.and_true, zok_n0, zok_n1, zok_bI, bI_eq0, bI_eq1, Bool.true_eq_false, Bool.false_eq_true, not_false_eq_true, not_true_eq_false, decide_false, decide_eq_false_iff_not, decide_eq_true_eq, Classical.not_not, ite_not, lit, Nat.reduceEqDiff, Nat.reduceLT, nI_add, nI_lt', nI_le', nI_eq', nI_sub', pk_mul, nI_rem', nI_div', nI_nz, remN, clampN, inb_nI, Nat.not_lt_zero, Nat.zero_le, Nat.le_zero_eq, if_true, if_false, m1_lt0, m1_eq, t_ite, f_ite, Bool.not_false, Bool.not_true, nI_and, nI_or, nI_xor, nI_shl1, nI_shr, nI_ushr, nI_not, nI_and_p2, Nat.one_mul, vrf_s, vrf_n, oF_0, oO_0, oF_1, oO_1, oA_2, oS_2, oA_3, oS_3, oF_4, oO_4, oA_5, oS_5, oA_6, oS_6, oA_7, oS_7, oA_8, oS_8, oA_9, oS_9, oF_70, oO_70, oA_71, oS_71, oA_72, oS_72, oF_73, oO_73, oA_74, oS_74, oA_75, oS_75, oA_76, oS_76, oA_77, oS_77, oA_78, oS_78, oA_139, oS_139, oF_140, oO_140, oA_141, oS_141, oA_142, oS_142, oA_143, oS_143, oA_144, oS_144, oF_145, oO_145, oF_146, oO_146, oA_147, oS_147, oF_148, oO_148, oA_149, oS_149, oA_150, oS_150, oA_151, oS_151, oF_152, oO_152, oA_153, oS_153, oF_154, oO_154, oA_155, oS_155, oA_156, oS_156, oA_157, oS_157, oA_158, oS_158, oF_159, oO_159, oA_160, oS_160, oA_161, oS_161, oA_162, oS_162, oA_163, oS_163, oF_164, oO_164, oA_165, oS_165, oA_166, oS_166, oA_167, oS_167, oA_168, oS_168, oF_169, oO_169, oA_170, oS_170, oA_171, oS_171, oA_172, oS_172, oA_173, oS_173, f1, h.2.2.2.2.2.1]
  rfl
theorem MX.xx (h : MX M c m) (x : Nat) : MX (sI M c 5 (nI x)) c (mXxS m x) := by
  obtain ⟨a0, a1, a2, a3, a4, a5, a7, a8⟩ := h
  exact ⟨by rw [gI_sI_nj (by decide)]; exact a0, by rw [gI_sI_nj (by decide)]; exact a1, a2, by rw [gI_sI_nj (by decide)]; exact a3, by rw [gI_sI_nj (by decide)]; exact a4, gI_sI_eq, by rw [gI_sI_nj (by decide)]; exact a7, fun k hk => by rw [gI_sI_nk (by omega)]; exact a8 k hk⟩
theorem MX.up' (h : MX M c m) (x : Nat) : MX (sI M c 0 (nI x)) c (mUpS m x) := by
  obtain ⟨a0, a1, a2, a3, a4, a5, a7, a8⟩ := h
  exact ⟨gI_sI_eq, by rw [gI_sI_nj (by decide)]; exact a1, a2, by rw [gI_sI_nj (by decide)]; exact a3, by rw [gI_sI_nj (by decide)]; exact a4, by rw [gI_sI_nj (by decide)]; exact a5, by rw [gI_sI_nj (by decide)]; exact a7, fun k hk => by rw [gI_sI_nk (by omega)]; exact a8 k hk⟩
theorem MX.co' (h : MX M c m) (x : Nat) : MX (sI M c 1 (nI x)) c (mCoS m x) := by
  obtain ⟨a0, a1, a2, a3, a4, a5, a7, a8⟩ := h
  exact ⟨by rw [gI_sI_nj (by decide)]; exact a0, gI_sI_eq, a2, by rw [gI_sI_nj (by decide)]; exact a3, by rw [gI_sI_nj (by decide)]; exact a4, by rw [gI_sI_nj (by decide)]; exact a5, by rw [gI_sI_nj (by decide)]; exact a7, fun k hk => by rw [gI_sI_nk (by omega)]; exact a8 k hk⟩
theorem MX.wd' (h : MX M c m) (x : Nat) : MX (sI M c 3 (nI x)) c (mWdS m x) := by
  obtain ⟨a0, a1, a2, a3, a4, a5, a7, a8⟩ := h
  exact ⟨by rw [gI_sI_nj (by decide)]; exact a0, by rw [gI_sI_nj (by decide)]; exact a1, a2, gI_sI_eq, by rw [gI_sI_nj (by decide)]; exact a4, by rw [gI_sI_nj (by decide)]; exact a5, by rw [gI_sI_nj (by decide)]; exact a7, fun k hk => by rw [gI_sI_nk (by omega)]; exact a8 k hk⟩
theorem MX.hr' (h : MX M c m) (x : Nat) : MX (sI M c 4 (nI x)) c (mHrS m x) := by
  obtain ⟨a0, a1, a2, a3, a4, a5, a7, a8⟩ := h
  exact ⟨by rw [gI_sI_nj (by decide)]; exact a0, by rw [gI_sI_nj (by decide)]; exact a1, a2, by rw [gI_sI_nj (by decide)]; exact a3, gI_sI_eq, by rw [gI_sI_nj (by decide)]; exact a5, by rw [gI_sI_nj (by decide)]; exact a7, fun k hk => by rw [gI_sI_nk (by omega)]; exact a8 k hk⟩
theorem MX.ob' (h : MX M c m) (x : Nat) : MX (sL M c 2 (lN x)) c (obS m x) := by
  obtain ⟨a0, a1, a2, a3, a4, a5, a7, a8⟩ := h
  exact ⟨a0, a1, gL_sL_eq, a3, a4, a5, a7, a8⟩
theorem y_draw (hm : moB c = true) (h : MX M c m) (hx : mXx m < 30829) : ev (d + 2) m_Mom_draw [.ref c, .int (nI 10)] NX M = some (some (.int (nI (mXx m % 10))), NX, sI M c 5 (nI (trn (mXx m)))) := by
  have f1 := (moF hm).1
  have f2 := (moF hm).2.1
  rw [e_Mom_draw]
  simp (disch := omega) only [r_Mom_draw_0, r_Mom_draw_1, r_Mom_draw_2, r_Mom_draw_5, r_Mom_draw_6, r_Mom_draw_9, r_Mom_draw_9n, r_Mom_draw_10, r_Mom_draw_13, r_Mom_draw_14, r_Mom_draw_15, r_Mom_draw_16, r_Mom_draw_16n, r_Mom_draw_17, r_Mom_draw_20, r_Mom_draw_21, bnd, tl_s, tl_n, wt_nil, wt_int, wt_ref, wt_null, wt_long, Nat.reduceAdd, Nat.reduceLeDiff, if_true, if_false, decide_true, Bool.true_and, Bool.and_true, zok_n0, zok_n1, zok_bI, bI_eq0, bI_eq1, Bool.true_eq_false, Bool.false_eq_true, not_false_eq_true, not_true_eq_false, decide_false, decide_eq_false_iff_not, decide_eq_true_eq, Classical.not_not, ite_not, lit, Nat.reduceEqDiff, Nat.reduceLT, nI_add, nI_lt', nI_le', nI_eq', nI_sub', pk_mul, nI_rem', nI_div', nI_nz, remN, clampN, inb_nI, Nat.not_lt_zero, Nat.zero_le, Nat.le_zero_eq, if_true, if_false, m1_lt0, m1_eq, t_ite, f_ite, Bool.not_false, Bool.not_true, nI_and, nI_or, nI_xor, nI_shl1, nI_shr, nI_ushr, nI_not, nI_and_p2, Nat.one_mul, vrf_s, vrf_n, oF_0, oO_0, oF_1, oO_1, oA_2, oS_2, oA_3, oS_3, oF_4, oO_4, oA_5, oS_5, oA_6, oS_6, oA_7, oS_7, oA_8, oS_8, oA_9, oS_9, oF_70, oO_70, oA_71, oS_71, oA_72, oS_72, oF_73, oO_73, oA_74, oS_74, oA_75, oS_75, oA_76, oS_76, oA_77, oS_77, oA_78, oS_78, oA_139, oS_139, oF_140, oO_140, oA_141, oS_141, oA_142, oS_142, oA_143, oS_143, oA_144, oS_144, oF_145, oO_145, oF_146, oO_146, oA_147, oS_147, oF_148, oO_148, oA_149, oS_149, oA_150, oS_150, oA_151, oS_151, oF_152, oO_152, oA_153, oS_153, oF_154, oO_154, oA_155, oS_155, oA_156, oS_156, oA_157, oS_157, oA_158, oS_158, oF_159, oO_159, oA_160, oS_160, oA_161, oS_161, oA_162, oS_162, oA_163, oS_163, oF_164, oO_164, oA_165, oS_165, oA_166, oS_166, oA_167, oS_167, oA_168, oS_168, oF_169, oO_169, oA_170, oS_170, oA_171, oS_171, oA_172, oS_172, oA_173, oS_173, mO_Mom_turnX, f1, f2, h.2.2.2.2.2.1, y_turnX hm h hx]
theorem y_write {p a : Nat} (hr : RX M) (hm : moB c = true) (h : MX M c m) (ho : OkM n m) (hp : p < 8) (ha : a < 4) : ∃ M', D (fun k j => (k = c ∧ j = 7) ∨ k = c + 1) M M' ∧ MX M' c (wr m p a) ∧ ev (d + 1) m_Mom_write [.ref c, .int (nI p), .int (nI a)] NX M = some (none, NX, M') := by
  obtain ⟨f1, f2, f3, f4, f5, f6⟩ := moF hm
  obtain ⟨a0, a1, a2, a3, a4, a5, a7, a8⟩ := h
  have r1 := hr c 6 (c + 1) f5
  have hcn := ho.2.2.2.2.2.2.2.1
  have hwd := ho.2.2.2.2.1
  have hhr := ho.2.2.2.2.2.1
  have hline := cC_or (h := mHr m) (w := mWd m) hp ha (by omega)
  have e2 : (sh (c + 1)).1 == 100 := by rw [f4]; rfl
  have e4 : (sh (c + 1)).2 = 30 := by rw [f4]
  by_cases h30 : mCn m = 30
  · have hk : cnK m = 29 := by unfold cnK; rw [if_pos h30]
    have hn30 : ¬ mCn m < 30 := by omega
    refine ⟨sI (sI (sI (cpI M (c + 1) (c + 1) 1 0 29) c 7 (nI 29)) (c + 1) 29 (nI (cC (mHr m, p, a, mWd m)))) c 7 (nI 30), ?_, ?_, ?_⟩
    · exact (((D_cpI D.rfl' (fun j => Or.inr rfl)).sI (Or.inl ⟨rfl, rfl⟩)).sI (Or.inr rfl)).sI (Or.inl ⟨rfl, rfl⟩)
    · refine ⟨?_, ?_, ?_, ?_, ?_, ?_, ?_, fun k hk' => ?_⟩
      · rw [gI_sI_nj (by decide), gI_sI_nk (by omega), gI_sI_nj (by decide), gI_cpI_nk (by omega)]; exact a0
      · rw [gI_sI_nj (by decide), gI_sI_nk (by omega), gI_sI_nj (by decide), gI_cpI_nk (by omega)]; exact a1
      · exact a2
      · rw [gI_sI_nj (by decide), gI_sI_nk (by omega), gI_sI_nj (by decide), gI_cpI_nk (by omega)]; exact a3
      · rw [gI_sI_nj (by decide), gI_sI_nk (by omega), gI_sI_nj (by decide), gI_cpI_nk (by omega)]; exact a4
      · rw [gI_sI_nj (by decide), gI_sI_nk (by omega), gI_sI_nj (by decide), gI_cpI_nk (by omega)]; exact a5
      · show gI _ c 7 = nI (cnK m + 1)
        rw [hk, gI_sI_eq]
      · have hk2 : k < cnK m + 1 := hk'
        show gI _ (c + 1) k = nI (cC (if k = cnK m then (mHr m, p, a, mWd m) else if mCn m = 30 then mBk m (k + 1) else mBk m k))
        rw [hk] at hk2 ⊢
        rw [gI_sI_nk (by omega)]
        by_cases e : k = 29
        · rw [if_pos e, e, gI_sI_eq]
        · rw [if_neg e, if_pos h30, gI_sI_nj e, gI_sI_nk (by omega), gI_cpI_in (by omega) (by omega), show 1 + (k - 0) = k + 1 by omega]
          exact a8 (k + 1) (by omega)
    · rw [e_Mom_write]
      simp (disch := omega) only [r_Mom_write_0, r_Mom_write_0n, r_Mom_write_1, r_Mom_write_4, r_Mom_write_6, r_Mom_write_9, r_Mom_write_9n, r_Mom_write_10, r_Mom_write_13, r_Mom_write_14, r_Mom_write_14n, r_Mom_write_15, r_Mom_write_18, r_Mom_write_19, r_Mom_write_21, r_Mom_write_24, r_Mom_write_24n, r_Mom_write_25, r_Mom_write_27, r_Mom_write_30, r_Mom_write_30n, r_Mom_write_31, r_Mom_write_34, r_Mom_write_34n, r_Mom_write_35, r_Mom_write_38, r_Mom_write_38n, r_Mom_write_39, r_Mom_write_42, r_Mom_write_44, r_Mom_write_45, r_Mom_write_46, r_Mom_write_48, r_Mom_write_49, r_Mom_write_50, r_Mom_write_51, r_Mom_write_52, r_Mom_write_53, r_Mom_write_54, r_Mom_write_54n, r_Mom_write_55, r_Mom_write_58, r_Mom_write_59, r_Mom_write_60, r_Mom_write_60n, r_Mom_write_61, r_Mom_write_61i, r_Mom_write_62, r_Mom_write_65, r_Mom_write_66, r_Mom_write_67, r_Mom_write_70, bnd, tl_s, tl_n, wt_nil, wt_int, wt_ref, wt_null, wt_long, Nat.reduceAdd, Nat.reduceLeDiff, if_true, if_false, decide_true, Bool.true_and, Bool.and_true, zok_n0, zok_n1, zok_bI, bI_eq0, bI_eq1, Bool.true_eq_false, Bool.false_eq_true, not_false_eq_true, not_true_eq_false, decide_false, decide_eq_false_iff_not, decide_eq_true_eq, Classical.not_not, ite_not, lit, Nat.reduceEqDiff, Nat.reduceLT, nI_add, nI_lt', nI_le', nI_eq', nI_sub', pk_mul, nI_rem', nI_div', nI_nz, remN, clampN, inb_nI, Nat.not_lt_zero, Nat.zero_le, Nat.le_zero_eq, if_true, if_false, m1_lt0, m1_eq, t_ite, f_ite, Bool.not_false, Bool.not_true, nI_and, nI_or, nI_xor, nI_shl1, nI_shr, nI_ushr, nI_not, nI_and_p2, Nat.one_mul, vrf_s, vrf_n, oF_0, oO_0, oF_1, oO_1, oA_2, oS_2, oA_3, oS_3, oF_4, oO_4, oA_5, oS_5, oA_6, oS_6, oA_7, oS_7, oA_8, oS_8, oA_9, oS_9, oF_70, oO_70, oA_71, oS_71, oA_72, oS_72, oF_73, oO_73, oA_74, oS_74, oA_75, oS_75, oA_76, oS_76, oA_77, oS_77, oA_78, oS_78, oA_139, oS_139, oF_140, oO_140, oA_141, oS_141, oA_142, oS_142, oA_143, oS_143, oA_144, oS_144, oF_145, oO_145, oF_146, oO_146, oA_147, oS_147, oF_148, oO_148, oA_149, oS_149, oA_150, oS_150, oA_151, oS_151, oF_152, oO_152, oA_153, oS_153, oF_154, oO_154, oA_155, oS_155, oA_156, oS_156, oA_157, oS_157, oA_158, oS_158, oF_159, oO_159, oA_160, oS_160, oA_161, oS_161, oA_162, oS_162, oA_163, oS_163, oF_164, oO_164, oA_165, oS_165, oA_166, oS_166, oA_167, oS_167, oA_168, oS_168, oF_169, oO_169, oA_170, oS_170, oA_171, oS_171, oA_172, oS_172, oA_173, oS_173, f1, gI_sI_nk, gI_sI_nj, gI_sI_eq, gI_cpI_nk, gR_sI, gR_cpI, a3, a4, a7, r1, hn30, f3, e2, e4, (moA hm).2, Nat.zero_add]
      rw [nI_shl (a := mHr m) (by decide) (by omega), nI_shl (a := p) (by decide) (by omega), nI_shl (a := a) (by decide) (by omega), nI_or, nI_or, nI_or, hline]
  · have hk : cnK m = mCn m := by unfold cnK; rw [if_neg h30]
    have hn30 : mCn m < 30 := by omega
    refine ⟨sI (sI M (c + 1) (mCn m) (nI (cC (mHr m, p, a, mWd m)))) c 7 (nI (mCn m + 1)), ?_, ?_, ?_⟩
    · exact (D.rfl'.sI (Or.inr rfl)).sI (Or.inl ⟨rfl, rfl⟩)
    · refine ⟨?_, ?_, ?_, ?_, ?_, ?_, ?_, fun k hk' => ?_⟩
      · rw [gI_sI_nj (by decide), gI_sI_nk (by omega)]; exact a0
      · rw [gI_sI_nj (by decide), gI_sI_nk (by omega)]; exact a1
      · exact a2
      · rw [gI_sI_nj (by decide), gI_sI_nk (by omega)]; exact a3
      · rw [gI_sI_nj (by decide), gI_sI_nk (by omega)]; exact a4
      · rw [gI_sI_nj (by decide), gI_sI_nk (by omega)]; exact a5
      · show gI _ c 7 = nI (cnK m + 1)
        rw [hk, gI_sI_eq]
      · have hk2 : k < cnK m + 1 := hk'
        show gI _ (c + 1) k = nI (cC (if k = cnK m then (mHr m, p, a, mWd m) else if mCn m = 30 then mBk m (k + 1) else mBk m k))
        rw [hk] at hk2 ⊢
        rw [gI_sI_nk (by omega)]
        by_cases e : k = mCn m
        · rw [if_pos e, e, gI_sI_eq]
        · rw [if_neg e, if_neg h30, gI_sI_nj e]
          exact a8 k (by omega)
    · rw [e_Mom_write]
      simp (disch := omega) only [r_Mom_write_0, r_Mom_write_0n, r_Mom_write_1, r_Mom_write_4, r_Mom_write_6, r_Mom_write_9, r_Mom_write_9n, r_Mom_write_10, r_Mom_write_13, r_Mom_write_14, r_Mom_write_14n, r_Mom_write_15, r_Mom_write_18, r_Mom_write_19, r_Mom_write_21, r_Mom_write_24, r_Mom_write_24n, r_Mom_write_25, r_Mom_write_27, r_Mom_write_30, r_Mom_write_30n, r_Mom_write_31, r_Mom_write_34, r_Mom_write_34n, r_Mom_write_35, r_Mom_write_38, r_Mom_write_38n, r_Mom_write_39, r_Mom_write_42, r_Mom_write_44, r_Mom_write_45, r_Mom_write_46, r_Mom_write_48, r_Mom_write_49, r_Mom_write_50, r_Mom_write_51, r_Mom_write_52, r_Mom_write_53, r_Mom_write_54, r_Mom_write_54n, r_Mom_write_55, r_Mom_write_58, r_Mom_write_59, r_Mom_write_60, r_Mom_write_60n, r_Mom_write_61, r_Mom_write_61i, r_Mom_write_62, r_Mom_write_65, r_Mom_write_66, r_Mom_write_67, r_Mom_write_70, bnd, tl_s, tl_n, wt_nil, wt_int, wt_ref, wt_null, wt_long, Nat.reduceAdd, Nat.reduceLeDiff, if_true, if_false, decide_true, Bool.true_and, Bool.and_true, zok_n0, zok_n1, zok_bI, bI_eq0, bI_eq1, Bool.true_eq_false, Bool.false_eq_true, not_false_eq_true, not_true_eq_false, decide_false, decide_eq_false_iff_not, decide_eq_true_eq, Classical.not_not, ite_not, lit, Nat.reduceEqDiff, Nat.reduceLT, nI_add, nI_lt', nI_le', nI_eq', nI_sub', pk_mul, nI_rem', nI_div', nI_nz, remN, clampN, inb_nI, Nat.not_lt_zero, Nat.zero_le, Nat.le_zero_eq, if_true, if_false, m1_lt0, m1_eq, t_ite, f_ite, Bool.not_false, Bool.not_true, nI_and, nI_or, nI_xor, nI_shl1, nI_shr, nI_ushr, nI_not, nI_and_p2, Nat.one_mul, vrf_s, vrf_n, oF_0, oO_0, oF_1, oO_1, oA_2, oS_2, oA_3, oS_3, oF_4, oO_4, oA_5, oS_5, oA_6, oS_6, oA_7, oS_7, oA_8, oS_8, oA_9, oS_9, oF_70, oO_70, oA_71, oS_71, oA_72, oS_72, oF_73, oO_73, oA_74, oS_74, oA_75, oS_75, oA_76, oS_76, oA_77, oS_77, oA_78, oS_78, oA_139, oS_139, oF_140, oO_140, oA_141, oS_141, oA_142, oS_142, oA_143, oS_143, oA_144, oS_144, oF_145, oO_145, oF_146, oO_146, oA_147, oS_147, oF_148, oO_148, oA_149, oS_149, oA_150, oS_150, oA_151, oS_151, oF_152, oO_152, oA_153, oS_153, oF_154, oO_154, oA_155, oS_155, oA_156, oS_156, oA_157, oS_157, oA_158, oS_158, oF_159, oO_159, oA_160, oS_160, oA_161, oS_161, oA_162, oS_162, oA_163, oS_163, oF_164, oO_164, oA_165, oS_165, oA_166, oS_166, oA_167, oS_167, oA_168, oS_168, oF_169, oO_169, oA_170, oS_170, oA_171, oS_171, oA_172, oS_172, oA_173, oS_173, f1, gI_sI_nk, gI_sI_nj, gI_sI_eq, gR_sI, a3, a4, a7, r1, hn30, (moA hm).2]
      rw [nI_shl (a := mHr m) (by decide) (by omega), nI_shl (a := p) (by decide) (by omega), nI_shl (a := a) (by decide) (by omega), nI_or, nI_or, nI_or, hline]
end MO
