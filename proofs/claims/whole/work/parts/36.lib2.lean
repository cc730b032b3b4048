/-! More of numbers and bits; loops -/
theorem lp {α : Sort _} {R : Nat → α} {n : Nat} (h : ∀ i, i < n → R i = R (i + 1)) : ∀ k i, i + k = n → R i = R n := by
  intro k
  induction k with
  | zero => intro i e; rw [show i = n by omega]
  | succ k ih => intro i e; rw [h i (by omega)]; exact ih (i + 1) (by omega)
theorem lp0 {α : Sort _} {R : Nat → α} {n : Nat} (h : ∀ i, i < n → R i = R (i + 1)) : R 0 = R n := lp h n 0 (by omega)
/-- the first from i on, within k, that is so, as it is said; else another -/
def fst' {α : Type} (p : Nat → Bool) (a : Nat → α) (z : α) : Nat → Nat → α
  | 0, _ => z
  | k + 1, i => if p i = true then a i else fst' p a z k (i + 1)
theorem lpf {α : Type} {R : Nat → α} {p : Nat → Bool} {a : Nat → α} {z : α} {n : Nat} (h : ∀ i, i < n → R i = if p i = true then a i else R (i + 1)) (hz : R n = z) : ∀ k i, i + k = n → R i = fst' p a z k i := by
  intro k
  induction k with
  | zero => intro i e; rw [show i = n by omega, hz]; rfl
  | succ k ih => intro i e; rw [h i (by omega), fst', ih (i + 1) (by omega)]
theorem lpf0 {α : Type} {R : Nat → α} {p : Nat → Bool} {a : Nat → α} {z : α} {n : Nat} (h : ∀ i, i < n → R i = if p i = true then a i else R (i + 1)) (hz : R n = z) : R 0 = fst' p a z n 0 := lpf h hz n 0 (by omega)
theorem fst'_map {α β : Type} (g : α → β) (p : Nat → Bool) (a : Nat → α) (z : α) : ∀ k i, fst' p (fun j => g (a j)) (g z) k i = g (fst' p a z k i) := by
  intro k
  induction k with
  | zero => intro i; rfl
  | succ k ih => intro i; rw [fst', fst', ih]; by_cases h : p i = true <;> simp [h]
theorem fst'_congr {α : Type} {p q : Nat → Bool} {a b : Nat → α} {z : α} : ∀ {k i}, (∀ j, i ≤ j → j < i + k → p j = q j ∧ (p j = true → a j = b j)) → fst' p a z k i = fst' q b z k i := by
  intro k
  induction k with
  | zero => intro i _; rfl
  | succ k ih =>
    intro i h
    obtain ⟨h1, h2⟩ := h i (Nat.le_refl _) (by omega)
    rw [fst', fst', ← h1, ih (fun j hj hk => h j (by omega) (by omega))]
    by_cases e : p i = true
    · rw [if_pos e, if_pos e, h2 e]
    · rw [if_neg e, if_neg e]
theorem fst'_none {α : Type} {p : Nat → Bool} {a : Nat → α} {z : α} : ∀ {k i}, (∀ j, i ≤ j → j < i + k → p j = false) → fst' p a z k i = z := by
  intro k
  induction k with
  | zero => intro i _; rfl
  | succ k ih =>
    intro i h
    rw [fst', h i (Nat.le_refl _) (by omega), f_ite]
    exact ih (fun j hj hk => h j (by omega) (by omega))
theorem fst'_some {α : Type} {p : Nat → Bool} {a : Nat → α} {z : α} {m : Nat} (hm : p m = true) : ∀ {k i}, i ≤ m → m < i + k → (∀ j, i ≤ j → j < m → p j = false) → fst' p a z k i = a m := by
  intro k
  induction k with
  | zero => intro i h1 h2; omega
  | succ k ih =>
    intro i h1 h2 h
    rw [fst']
    by_cases e : i = m
    · rw [e, hm, t_ite]
    · rw [h i (Nat.le_refl _) (by omega), f_ite]
      exact ih (by omega) (by omega) (fun j hj hk => h j (by omega) hk)
/-- whether all from i on, within k -/
def allb (p : Nat → Bool) : Nat → Nat → Bool
  | 0, _ => true
  | k + 1, i => p i && allb p k (i + 1)
theorem allb_fst {p : Nat → Bool} : ∀ k i, allb p k i = fst' (fun j => !p j) (fun _ => false) true k i := by
  intro k
  induction k with
  | zero => intro i; rfl
  | succ k ih => intro i; rw [allb, fst', ih]; cases p i <;> simp
theorem allb_iff {p : Nat → Bool} : ∀ {k i}, allb p k i = true ↔ ∀ j, i ≤ j → j < i + k → p j = true := by
  intro k
  induction k with
  | zero => intro i; exact ⟨fun _ j h1 h2 => by omega, fun _ => rfl⟩
  | succ k ih =>
    intro i
    rw [allb, Bool.and_eq_true, ih]
    constructor
    · intro ⟨h1, h2⟩ j hj hk
      by_cases e : j = i
      · rw [e]; exact h1
      · exact h2 j (by omega) (by omega)
    · intro h
      exact ⟨h i (Nat.le_refl _) (by omega), fun j hj hk => h j (by omega) (by omega)⟩
theorem nI_shl1 {k : Nat} (hk : k < 32) : nI 1 <<< nI (k &&& 31) = nI (2 ^ k) := by
  rw [nI_shl hk (by rw [Nat.one_mul]; exact Nat.pow_lt_pow_right (by decide) hk), Nat.one_mul]
theorem nI_ushr {n k : Nat} (hn : n < 2 ^ 31) (hk : k < 32) : ((nI n).toUInt32 >>> ((nI k).toUInt32 &&& Int32.toUInt32 (nI 31))).toInt32 = nI (n / 2 ^ k) := pk_ushrN (by omega) _ k (s_u k hk)
theorem and_le {a b : Nat} : a &&& b ≤ a := Nat.and_le_left
theorem nI_and_p2 {s p : Nat} (hp : p < 31) : (nI (s &&& 2 ^ p) = nI 0) = (s.testBit p = false) := by
  have h1 : 2 ^ p < 2 ^ 31 := Nat.pow_lt_pow_right (by decide) hp
  have h2 : s &&& 2 ^ p ≤ 2 ^ p := Nat.and_le_right
  rw [nI_eq' (by omega) (by decide)]
  exact propext (fb_bit_nat s p)
theorem nI_1bit {s k : Nat} : (nI (s / 2 ^ k &&& 1) = nI 1) = (s.testBit k = true) := by
  have h : s / 2 ^ k &&& 1 ≤ 1 := Nat.and_le_right
  rw [nI_eq' (by omega) (by decide), and_1, bit_div]
  cases s.testBit k <;> simp
theorem bsum_t {f : Nat → Bool} {n : Nat} (h : f n = true) : bsum (n + 1) f = bsum n f ||| 2 ^ n := by rw [bsum, if_pos h]
theorem bsum_f {f : Nat → Bool} {n : Nat} (h : f n = false) : bsum (n + 1) f = bsum n f := by rw [bsum, h, if_neg (by decide), Nat.or_zero]
theorem p2_8 {k : Nat} (h : k < 8) : 2 ^ k < 256 := Nat.pow_lt_pow_right (n := 8) (by decide) h
theorem p2_le8 {k : Nat} (h : k ≤ 8) : 2 ^ k ≤ 256 := by have := Nat.pow_le_pow_right (n := 2) (by decide) h; omega
theorem p2_pos {k : Nat} : 0 < 2 ^ k := Nat.two_pow_pos k
theorem or_p {a b k : Nat} (ha : a < 2 ^ k) (hb : b < 2 ^ k) : a ||| b < 2 ^ k := Nat.or_lt_two_pow ha hb
theorem or_8 {a b : Nat} (ha : a < 256) (hb : b < 256) : a ||| b < 256 := Nat.or_lt_two_pow (n := 8) ha hb
theorem xor_8 {a b : Nat} (ha : a < 256) (hb : b < 256) : a ^^^ b < 256 := Nat.xor_lt_two_pow (n := 8) ha hb
theorem and_8 {a b : Nat} (ha : a < 256) : a &&& b < 256 := Nat.lt_of_le_of_lt Nat.and_le_left ha
theorem and_8' {a b : Nat} (hb : b < 256) : a &&& b < 256 := Nat.lt_of_le_of_lt Nat.and_le_right hb
theorem mns_le (a b : Nat) : mns a b ≤ a := by
  apply Nat.le_of_testBit
  intro i h
  rw [mns_bit] at h
  cases e : a.testBit i with
  | true => rfl
  | false => rw [e] at h; simp at h
theorem bit_big {a i n : Nat} (h : a < 2 ^ n) (hi : n ≤ i) : a.testBit i = false := Nat.testBit_lt_two_pow (Nat.lt_of_lt_of_le h (Nat.pow_le_pow_right (by decide) hi))
theorem lt_bits {a n : Nat} (h : ∀ i, n ≤ i → a.testBit i = false) : a < 2 ^ n := Nat.lt_pow_two_of_testBit a h
theorem told_bit (n i : Nat) : (2 ^ n - 1).testBit i = decide (i < n) := Nat.testBit_two_pow_sub_one n i
section L2
variable {d nx : Nat} {M : Mem}
theorem x_has {s k : Nat} (hs : s < 2 ^ 31) (hk : k < 32) : ev (d + 1) m_M_has [.int (nI s), .int (nI k)] nx M = some (some (.int (bI (s.testBit k))), nx, M) := by
  rw [e_M_has]
  simp (disch := omega) only [r_M_has_0, r_M_has_1, r_M_has_2, r_M_has_3, r_M_has_4, r_M_has_5, r_M_has_6, r_M_has_9, r_M_has_10, r_M_has_13, r_M_has_14, bnd, tl_s, tl_n, wt_nil, wt_int, wt_ref, wt_null, wt_long, Nat.reduceAdd, Nat.reduceLeDiff, if_true, if_false, decide_true, Bool.true_and, Bool.and_true, zok_n0, zok_n1, zok_bI, bI_eq0, bI_eq1, Bool.true_eq_false, Bool.false_eq_true, not_false_eq_true, not_true_eq_false, decide_false, decide_eq_false_iff_not, decide_eq_true_eq, Classical.not_not, ite_not, lit, Nat.reduceEqDiff, Nat.reduceLT, nI_add, nI_lt', nI_le', nI_eq', nI_sub', pk_mul, nI_rem', nI_div', nI_nz, remN, clampN, inb_nI, Nat.not_lt_zero, Nat.zero_le, Nat.le_zero_eq, if_true, if_false, m1_lt0, m1_eq, t_ite, f_ite, nI_and, nI_or, nI_xor, nI_shl1, nI_shr, nI_ushr, nI_not, nI_and_p2, Nat.one_mul, vrf_s, vrf_n, oF_174, oO_174, oA_175, oS_175, oA_176, oS_176, oA_177, oS_177, oA_178, oS_178, oA_179, oS_179, oA_180, oS_180, oA_181, oS_181, oA_182, oS_182, oA_183, oS_183, oA_184, oS_184, oA_185, oS_185, oA_186, oS_186, oA_187, oS_187, oA_188, oS_188, nI_1bit]
  cases s.testBit k <;> rfl
theorem y_hasBit {s k : Nat} (hs : s < 2 ^ 31) (hk : k < 32) : ev (d + 1) m_X_hasBit [.int (nI s), .int (nI k)] nx M = some (some (.int (bI (s.testBit k))), nx, M) := by
  rw [e_X_hasBit]
  simp (disch := omega) only [r_X_hasBit_0, r_X_hasBit_1, r_X_hasBit_4, r_X_hasBit_5, r_X_hasBit_7, r_X_hasBit_10, r_X_hasBit_11, r_X_hasBit_12, r_X_hasBit_13, r_X_hasBit_14, r_X_hasBit_15, r_X_hasBit_16, r_X_hasBit_19, r_X_hasBit_20, r_X_hasBit_23, r_X_hasBit_24, bnd, tl_s, tl_n, wt_nil, wt_int, wt_ref, wt_null, wt_long, Nat.reduceAdd, Nat.reduceLeDiff, if_true, if_false, decide_true, Bool.true_and, Bool.and_true, zok_n0, zok_n1, zok_bI, bI_eq0, bI_eq1, Bool.true_eq_false, Bool.false_eq_true, not_false_eq_true, not_true_eq_false, decide_false, decide_eq_false_iff_not, decide_eq_true_eq, Classical.not_not, ite_not, lit, Nat.reduceEqDiff, Nat.reduceLT, nI_add, nI_lt', nI_le', nI_eq', nI_sub', pk_mul, nI_rem', nI_div', nI_nz, remN, clampN, inb_nI, Nat.not_lt_zero, Nat.zero_le, Nat.le_zero_eq, if_true, if_false, m1_lt0, m1_eq, t_ite, f_ite, nI_and, nI_or, nI_xor, nI_shl1, nI_shr, nI_ushr, nI_not, nI_and_p2, Nat.one_mul, vrf_s, vrf_n, oF_0, oO_0, oF_1, oO_1, oA_2, oS_2, oA_3, oS_3, oF_4, oO_4, oA_5, oS_5, oA_6, oS_6, oA_7, oS_7, oA_8, oS_8, oA_9, oS_9, oF_70, oO_70, oA_71, oS_71, oA_72, oS_72, oF_73, oO_73, oA_74, oS_74, oA_75, oS_75, oA_76, oS_76, oA_77, oS_77, oA_78, oS_78, oA_139, oS_139, oF_140, oO_140, oA_141, oS_141, oA_142, oS_142, oA_143, oS_143, oA_144, oS_144, oF_145, oO_145, oF_146, oO_146, oA_147, oS_147, oF_148, oO_148, oA_149, oS_149, oA_150, oS_150, oA_151, oS_151, oF_152, oO_152, oA_153, oS_153, oF_154, oO_154, oA_155, oS_155, oA_156, oS_156, oA_157, oS_157, oA_158, oS_158, oF_159, oO_159, oA_160, oS_160, oA_161, oS_161, oA_162, oS_162, oA_163, oS_163, oF_164, oO_164, oA_165, oS_165, oA_166, oS_166, oA_167, oS_167, oA_168, oS_168, oF_169, oO_169, oA_170, oS_170, oA_171, oS_171, oA_172, oS_172, oA_173, oS_173, nI_1bit]
  rw [if_neg (by omega)]
  cases s.testBit k <;> rfl
/-! the number of bits -/
def pcF : Nat → Nat → Nat
  | 0, _ => 0
  | k + 1, s => if s = 0 then 0 else 1 + pcF k (s &&& (s - 1))
def pc (s : Nat) : Nat := pcF 9 s
theorem pcF_ok : chk (fun s => decide (pcF 9 s ≤ 8) && decide (pcF 10 s = pcF 9 s)) 256 = true := by decide +kernel
def bcRaw (a : Int32) : Int32 :=
  let b := a - ((a.toUInt32 >>> ((1 : Int32).toUInt32 &&& Int32.toUInt32 31)).toInt32 &&& 1431655765)
  let c := (b &&& 858993459) + ((b.toUInt32 >>> ((2 : Int32).toUInt32 &&& Int32.toUInt32 31)).toInt32 &&& 858993459)
  let e := (c + (c.toUInt32 >>> ((4 : Int32).toUInt32 &&& Int32.toUInt32 31)).toInt32) &&& 252645135
  let f := e + (e.toUInt32 >>> ((8 : Int32).toUInt32 &&& Int32.toUInt32 31)).toInt32
  let g := f + (f.toUInt32 >>> ((16 : Int32).toUInt32 &&& Int32.toUInt32 31)).toInt32
  g &&& 63
theorem bcRaw_ok : chk (fun s => decide (bcRaw (nI s) = nI (pc s))) 256 = true := by decide +kernel
theorem y_bitCount {s : Nat} (hs : s < 256) : ev (d + 1) m_Int_bitCount [.int (nI s)] nx M = some (some (.int (nI (pc s))), nx, M) := by
  rw [e_Int_bitCount]
  simp only [r_Int_bitCount_0, r_Int_bitCount_1, r_Int_bitCount_2, r_Int_bitCount_3, r_Int_bitCount_4, r_Int_bitCount_7, r_Int_bitCount_8, r_Int_bitCount_9, r_Int_bitCount_10, r_Int_bitCount_11, r_Int_bitCount_14, r_Int_bitCount_15, r_Int_bitCount_16, r_Int_bitCount_17, r_Int_bitCount_18, r_Int_bitCount_21, r_Int_bitCount_22, r_Int_bitCount_23, r_Int_bitCount_24, r_Int_bitCount_25, r_Int_bitCount_26, r_Int_bitCount_27, r_Int_bitCount_28, r_Int_bitCount_29, r_Int_bitCount_32, r_Int_bitCount_33, r_Int_bitCount_34, r_Int_bitCount_35, r_Int_bitCount_36, r_Int_bitCount_38, r_Int_bitCount_39, r_Int_bitCount_40, r_Int_bitCount_41, r_Int_bitCount_42, r_Int_bitCount_43, r_Int_bitCount_45, r_Int_bitCount_46, r_Int_bitCount_47, r_Int_bitCount_48, r_Int_bitCount_49, r_Int_bitCount_51, r_Int_bitCount_52]
  rw [← of_decide_eq_true (chk_all bcRaw_ok s hs)]
  rfl
theorem pc_le {s : Nat} (hs : s < 256) : pc s ≤ 8 := of_decide_eq_true (and3 (chk_all pcF_ok s hs)).1
theorem l_bits {c z : Nat} : ∀ k s, s < 256 → pcF (k + 1) s = pcF k s → c + pcF k s < 100 → run (ev d) m_M_bits 4 [some (.int (nI z)), some (.int (nI c)), some (.int (nI s))] [] nx M = some (some (.int (nI (c + pcF k s))), nx, M) := by
  intro k
  induction k generalizing c with
  | zero =>
    intro s hs h _
    have h0 : s = 0 := by
      by_cases e : s = 0
      · exact e
      · simp [pcF, e] at h
    rw [r_M_bits_4]
    simp (disch := omega) only [r_M_bits_5, r_M_bits_8, r_M_bits_11, r_M_bits_12, r_M_bits_13, r_M_bits_14, r_M_bits_15, r_M_bits_16, r_M_bits_17, r_M_bits_20, r_M_bits_21, bnd, tl_s, tl_n, wt_nil, wt_int, wt_ref, wt_null, wt_long, Nat.reduceAdd, Nat.reduceLeDiff, if_true, if_false, decide_true, Bool.true_and, Bool.and_true, zok_n0, zok_n1, zok_bI, bI_eq0, bI_eq1, Bool.true_eq_false, Bool.false_eq_true, not_false_eq_true, not_true_eq_false, decide_false, decide_eq_false_iff_not, decide_eq_true_eq, Classical.not_not, ite_not, lit, Nat.reduceEqDiff, Nat.reduceLT, nI_add, nI_lt', nI_le', nI_eq', nI_sub', pk_mul, nI_rem', nI_div', nI_nz, remN, clampN, inb_nI, Nat.not_lt_zero, Nat.zero_le, Nat.le_zero_eq, if_true, if_false, m1_lt0, m1_eq, t_ite, f_ite, nI_and, nI_or, nI_xor, nI_shl1, nI_shr, nI_ushr, nI_not, nI_and_p2, Nat.one_mul, vrf_s, vrf_n, oF_174, oO_174, oA_175, oS_175, oA_176, oS_176, oA_177, oS_177, oA_178, oS_178, oA_179, oS_179, oA_180, oS_180, oA_181, oS_181, oA_182, oS_182, oA_183, oS_183, oA_184, oS_184, oA_185, oS_185, oA_186, oS_186, oA_187, oS_187, oA_188, oS_188, h0]
    rfl
  | succ k ih =>
    intro s hs h hc
    by_cases e : s = 0
    · rw [r_M_bits_4]
      simp (disch := omega) only [r_M_bits_5, r_M_bits_8, r_M_bits_11, r_M_bits_12, r_M_bits_13, r_M_bits_14, r_M_bits_15, r_M_bits_16, r_M_bits_17, r_M_bits_20, r_M_bits_21, bnd, tl_s, tl_n, wt_nil, wt_int, wt_ref, wt_null, wt_long, Nat.reduceAdd, Nat.reduceLeDiff, if_true, if_false, decide_true, Bool.true_and, Bool.and_true, zok_n0, zok_n1, zok_bI, bI_eq0, bI_eq1, Bool.true_eq_false, Bool.false_eq_true, not_false_eq_true, not_true_eq_false, decide_false, decide_eq_false_iff_not, decide_eq_true_eq, Classical.not_not, ite_not, lit, Nat.reduceEqDiff, Nat.reduceLT, nI_add, nI_lt', nI_le', nI_eq', nI_sub', pk_mul, nI_rem', nI_div', nI_nz, remN, clampN, inb_nI, Nat.not_lt_zero, Nat.zero_le, Nat.le_zero_eq, if_true, if_false, m1_lt0, m1_eq, t_ite, f_ite, nI_and, nI_or, nI_xor, nI_shl1, nI_shr, nI_ushr, nI_not, nI_and_p2, Nat.one_mul, vrf_s, vrf_n, oF_174, oO_174, oA_175, oS_175, oA_176, oS_176, oA_177, oS_177, oA_178, oS_178, oA_179, oS_179, oA_180, oS_180, oA_181, oS_181, oA_182, oS_182, oA_183, oS_183, oA_184, oS_184, oA_185, oS_185, oA_186, oS_186, oA_187, oS_187, oA_188, oS_188, e]
      rfl
    · have e2 : pcF (k + 1) s = 1 + pcF k (s &&& (s - 1)) := by rw [pcF, if_neg e]
      have e3 : pcF (k + 1 + 1) s = 1 + pcF (k + 1) (s &&& (s - 1)) := by rw [pcF, if_neg e]
      have h4 := ih (c := c + 1) (s &&& (s - 1)) (and_8 hs) (by omega) (by omega)
      rw [r_M_bits_4]
      simp (disch := omega) only [r_M_bits_5, r_M_bits_8, r_M_bits_11, r_M_bits_12, r_M_bits_13, r_M_bits_14, r_M_bits_15, r_M_bits_16, r_M_bits_17, r_M_bits_20, r_M_bits_21, bnd, tl_s, tl_n, wt_nil, wt_int, wt_ref, wt_null, wt_long, Nat.reduceAdd, Nat.reduceLeDiff, if_true, if_false, decide_true, Bool.true_and, Bool.and_true, zok_n0, zok_n1, zok_bI, bI_eq0, bI_eq1, Bool.true_eq_false, Bool.false_eq_true, not_false_eq_true, not_true_eq_false, decide_false, decide_eq_false_iff_not, decide_eq_true_eq, Classical.not_not, ite_not, lit, Nat.reduceEqDiff, Nat.reduceLT, nI_add, nI_lt', nI_le', nI_eq', nI_sub', pk_mul, nI_rem', nI_div', nI_nz, remN, clampN, inb_nI, Nat.not_lt_zero, Nat.zero_le, Nat.le_zero_eq, if_true, if_false, m1_lt0, m1_eq, t_ite, f_ite, nI_and, nI_or, nI_xor, nI_shl1, nI_shr, nI_ushr, nI_not, nI_and_p2, Nat.one_mul, vrf_s, vrf_n, oF_174, oO_174, oA_175, oS_175, oA_176, oS_176, oA_177, oS_177, oA_178, oS_178, oA_179, oS_179, oA_180, oS_180, oA_181, oS_181, oA_182, oS_182, oA_183, oS_183, oA_184, oS_184, oA_185, oS_185, oA_186, oS_186, oA_187, oS_187, oA_188, oS_188, e]
      rw [h4, e2, Nat.add_assoc]
theorem x_bits {s : Nat} (hs : s < 256) : ev (d + 1) m_M_bits [.int (nI s)] nx M = some (some (.int (nI (pc s))), nx, M) := by
  have h1 := pc_le hs
  rw [e_M_bits]
  simp only [r_M_bits_0, r_M_bits_1, r_M_bits_2, r_M_bits_3, lit]
  rw [l_bits 9 s hs (of_decide_eq_true (and3 (chk_all pcF_ok s hs)).2) (by unfold pc at h1; omega), Nat.zero_add]
  rfl
end L2
theorem lpz {α β : Type} {R : Nat → β → α} {n : Nat} {out : α} (h : ∀ i z, i < n → ∃ z', R i z = R (i + 1) z') (hz : ∀ z, R n z = out) : ∀ k i z, i + k = n → R i z = out := by
  intro k
  induction k with
  | zero => intro i z e; rw [show i = n by omega]; exact hz z
  | succ k ih => intro i z e; obtain ⟨z', e'⟩ := h i z (by omega); rw [e']; exact ih (i + 1) z' (by omega)
theorem lpzf {α β : Type} {R : Nat → β → α} {p : Nat → Bool} {a : Nat → α} {n : Nat} {out : α} (h : ∀ i z, i < n → ∃ z', R i z = if p i = true then a i else R (i + 1) z') (hz : ∀ z, R n z = out) : ∀ k i z, i + k = n → R i z = fst' p a out k i := by
  intro k
  induction k with
  | zero => intro i z e; rw [show i = n by omega, hz z]; rfl
  | succ k ih => intro i z e; obtain ⟨z', e'⟩ := h i z (by omega); rw [e', fst', ih (i + 1) z' (by omega)]
