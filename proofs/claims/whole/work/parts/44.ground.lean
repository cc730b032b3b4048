/-! GROUNDED: the reference's rounds; both sides' tests -/
theorem FM.D {P : Nat → Nat → Prop} {M M' : Mem} (h : FM M) (hd : D P M M') (h0 : ∀ j, P 174 j → (4 ≤ j ∧ j < 15) ∨ (16 ≤ j ∧ j < 20) ∨ j = 24 ∨ j = 25) : FM M' := by
  have hh : ∀ j a, gR M 174 j = some a → ¬ ((4 ≤ j ∧ j < 15) ∨ (16 ≤ j ∧ j < 20) ∨ j = 24 ∨ j = 25) → gR M' 174 j = some a := fun j a e hj => (hd.r (fun z => hj (h0 j z))).trans e
  exact ⟨hh _ _ h.a (by decide), hh _ _ h.im (by decide), hh _ _ h.tx (by decide), hh _ _ h.tp (by decide), hh _ _ h.pi (by decide), hh _ _ h.nm (by decide), hh _ _ h.va (by decide), hh _ _ h.tr (by decide), hh _ _ h.ro (by decide), hh _ _ h.as (by decide), hh _ _ h.se (by decide), hh _ _ h.dr (by decide), hh _ _ h.wa (by decide), hh _ _ h.hi (by decide)⟩
theorem RX.D {P : Nat → Nat → Prop} {M M' : Mem} (h : RX M) (hd : D P M M') (h0 : ∀ k j, P k j → rxt k j = none) : RX M' := by
  intro k j a e
  refine (hd.r (fun z => ?_)).trans (h k j a e)
  rw [h0 k j z] at e
  cases e
section GR
variable {d nx c : Nat} {M : Mem} {n : Nat} {W Rs : Nat → Nat} {m : Mo}
theorem KM.D {P : Nat → Nat → Prop} {M' : Mem} (h : KM M n W Rs m) (hd : D P M M') (h0 : ∀ j, P 174 j → (4 ≤ j ∧ j < 15) ∨ (16 ≤ j ∧ j < 20) ∨ j = 24 ∨ j = 25) (h1 : ∀ j, ¬ P 175 j) : KM M' n W Rs m :=
  ⟨h.1.D hd h0, h.2.1.D h.n8 hd (h1 _) (fun j _ _ => h1 j), h.2.2.1.D h.okm.2.2.2.2.2.2.2.1 hd (fun j _ => h1 _) (fun j _ => h1 _), h.2.2.2⟩
theorem KM.fI {c i : Nat} {f : Nat → Int32} (h : KM M n W Rs m) (hc : 175 < c) : KM (fI M c f i) n W Rs m :=
  h.D (D.fI (P := fun k _ => k = c) D.rfl' (fun _ _ => rfl)) (fun j z => by omega) (fun j z => by omega)
theorem KM.sI {c i : Nat} {v : Int32} (h : KM M n W Rs m) (hc : 175 < c) : KM (sI M c i v) n W Rs m :=
  h.D (D.sI (P := fun k _ => k = c) D.rfl' rfl) (fun j z => by omega) (fun j z => by omega)
theorem y_isPlank {p : Nat} (h : KX M c n W Rs m) (hp : p < n) : ev (d + 1) m_Site_isPlank [.ref 1, .int (nI p)] NX M = some (some (.int (nI 1)), NX, M) := by
  have hn := h.n8
  have h1 : ¬ n ≤ p := by omega
  rw [e_Site_isPlank]
  simp (disch := omega) only [r_Site_isPlank_0, r_Site_isPlank_1, r_Site_isPlank_4, r_Site_isPlank_5, r_Site_isPlank_5n, r_Site_isPlank_6, r_Site_isPlank_9, r_Site_isPlank_12, r_Site_isPlank_13, r_Site_isPlank_16, r_Site_isPlank_17, bnd, tl_s, tl_n, wt_nil, wt_int, wt_ref, wt_null, wt_long, Nat.reduceAdd, Nat.reduceLeDiff, if_true, if_false, decide_true, Bool.true_and, Bool.and_true, zok_n0, zok_n1, zok_bI, bI_eq0, bI_eq1, Bool.true_eq_false, Bool.false_eq_true, not_false_eq_true, not_true_eq_false, decide_false, decide_eq_false_iff_not, decide_eq_true_eq, Classical.not_not, ite_not, lit, Nat.reduceEqDiff, Nat.reduceLT, nI_add, nI_lt', nI_le', nI_eq', nI_sub', pk_mul, nI_rem', nI_div', nI_nz, remN, clampN, inb_nI, Nat.not_lt_zero, Nat.zero_le, Nat.le_zero_eq, if_true, if_false, m1_lt0, m1_eq, t_ite, f_ite, nI_and, nI_or, nI_xor, nI_shl1, nI_shr, nI_ushr, nI_not, nI_and_p2, Nat.one_mul, vrf_s, vrf_n, oF_0, oO_0, oF_1, oO_1, oA_2, oS_2, oA_3, oS_3, oF_4, oO_4, oA_5, oS_5, oA_6, oS_6, oA_7, oS_7, oA_8, oS_8, oA_9, oS_9, oF_70, oO_70, oA_71, oS_71, oA_72, oS_72, oF_73, oO_73, oA_74, oS_74, oA_75, oS_75, oA_76, oS_76, oA_77, oS_77, oA_78, oS_78, oA_139, oS_139, oF_140, oO_140, oA_141, oS_141, oA_142, oS_142, oA_143, oS_143, oA_144, oS_144, oF_145, oO_145, oF_146, oO_146, oA_147, oS_147, oF_148, oO_148, oA_149, oS_149, oA_150, oS_150, oA_151, oS_151, oF_152, oO_152, oA_153, oS_153, oF_154, oO_154, oA_155, oS_155, oA_156, oS_156, oA_157, oS_157, oA_158, oS_158, oF_159, oO_159, oA_160, oS_160, oA_161, oS_161, oA_162, oS_162, oA_163, oS_163, oF_164, oO_164, oA_165, oS_165, oA_166, oS_166, oA_167, oS_167, oA_168, oS_168, oF_169, oO_169, oA_170, oS_170, oA_171, oS_171, oA_172, oS_172, oA_173, oS_173, h.nn, h1]
theorem y_isPlank_n {v : Int32} (h : KX M c n W Rs m) (hv : v < nI 0 ∨ nI n ≤ v) : ev (d + 1) m_Site_isPlank [.ref 1, .int v] NX M = some (some (.int (nI 0)), NX, M) := by
  rw [e_Site_isPlank]
  simp (disch := omega) only [r_Site_isPlank_0, r_Site_isPlank_1, r_Site_isPlank_4, r_Site_isPlank_5, r_Site_isPlank_5n, r_Site_isPlank_6, r_Site_isPlank_9, r_Site_isPlank_12, r_Site_isPlank_13, r_Site_isPlank_16, r_Site_isPlank_17, bnd, tl_s, tl_n, wt_nil, wt_int, wt_ref, wt_null, wt_long, Nat.reduceAdd, Nat.reduceLeDiff, if_true, if_false, decide_true, Bool.true_and, Bool.and_true, zok_n0, zok_n1, zok_bI, bI_eq0, bI_eq1, Bool.true_eq_false, Bool.false_eq_true, not_false_eq_true, not_true_eq_false, decide_false, decide_eq_false_iff_not, decide_eq_true_eq, Classical.not_not, ite_not, lit, oF_1, oO_1, h.nn]
  by_cases e : v < nI 0
  · rw [if_pos e]
  · rw [if_neg e, if_pos (by rcases hv with z | z; exact absurd z e; exact z)]
theorem y_told (h : KX M c n W Rs m) : ev (d + 1) m_Site_told [.ref 1] NX M = some (some (.int (nI (2 ^ n - 1))), NX, M) := by
  have hn := h.n8
  have := p2_pos (k := n)
  rw [e_Site_told]
  simp (disch := omega) only [r_Site_told_0, r_Site_told_1, r_Site_told_1n, r_Site_told_2, r_Site_told_5, r_Site_told_6, r_Site_told_7, r_Site_told_8, bnd, tl_s, tl_n, wt_nil, wt_int, wt_ref, wt_null, wt_long, Nat.reduceAdd, Nat.reduceLeDiff, if_true, if_false, decide_true, Bool.true_and, Bool.and_true, zok_n0, zok_n1, zok_bI, bI_eq0, bI_eq1, Bool.true_eq_false, Bool.false_eq_true, not_false_eq_true, not_true_eq_false, decide_false, decide_eq_false_iff_not, decide_eq_true_eq, Classical.not_not, ite_not, lit, Nat.reduceEqDiff, Nat.reduceLT, nI_add, nI_lt', nI_le', nI_eq', nI_sub', pk_mul, nI_rem', nI_div', nI_nz, remN, clampN, inb_nI, Nat.not_lt_zero, Nat.zero_le, Nat.le_zero_eq, if_true, if_false, m1_lt0, m1_eq, t_ite, f_ite, nI_and, nI_or, nI_xor, nI_shl1, nI_shr, nI_ushr, nI_not, nI_and_p2, Nat.one_mul, vrf_s, vrf_n, oF_0, oO_0, oF_1, oO_1, oA_2, oS_2, oA_3, oS_3, oF_4, oO_4, oA_5, oS_5, oA_6, oS_6, oA_7, oS_7, oA_8, oS_8, oA_9, oS_9, oF_70, oO_70, oA_71, oS_71, oA_72, oS_72, oF_73, oO_73, oA_74, oS_74, oA_75, oS_75, oA_76, oS_76, oA_77, oS_77, oA_78, oS_78, oA_139, oS_139, oF_140, oO_140, oA_141, oS_141, oA_142, oS_142, oA_143, oS_143, oA_144, oS_144, oF_145, oO_145, oF_146, oO_146, oA_147, oS_147, oF_148, oO_148, oA_149, oS_149, oA_150, oS_150, oA_151, oS_151, oF_152, oO_152, oA_153, oS_153, oF_154, oO_154, oA_155, oS_155, oA_156, oS_156, oA_157, oS_157, oA_158, oS_158, oF_159, oO_159, oA_160, oS_160, oA_161, oS_161, oA_162, oS_162, oA_163, oS_163, oF_164, oO_164, oA_165, oS_165, oA_166, oS_166, oA_167, oS_167, oA_168, oS_168, oF_169, oO_169, oA_170, oS_170, oA_171, oS_171, oA_172, oS_172, oA_173, oS_173, h.nn]
theorem mns_told {s n : Nat} : mns s (2 ^ n - 1) = 0 ↔ s < 2 ^ n := by
  rw [mns0]
  constructor
  · intro h
    apply lt_bits
    intro i hi
    rw [Bool.eq_false_iff]
    intro z
    have := h i z
    rw [told_bit] at this
    have := of_decide_eq_true this
    omega
  · intro h i hi
    rw [told_bit]
    apply decide_eq_true
    apply Classical.byContradiction
    intro z
    rw [bit_big h (by omega)] at hi
    cases hi
theorem y_areBits {s : Nat} (h : KX M c n W Rs m) (hs : s < 2 ^ n) : ev (d + 2) m_Site_areBits [.ref 1, .int (nI s)] NX M = some (some (.int (nI 1)), NX, M) := by
  rw [e_Site_areBits]
  simp (disch := omega) only [r_Site_areBits_0, r_Site_areBits_1, r_Site_areBits_1n, r_Site_areBits_2, r_Site_areBits_5, r_Site_areBits_6, r_Site_areBits_7, r_Site_areBits_8, r_Site_areBits_11, r_Site_areBits_12, r_Site_areBits_15, r_Site_areBits_16, bnd, tl_s, tl_n, wt_nil, wt_int, wt_ref, wt_null, wt_long, Nat.reduceAdd, Nat.reduceLeDiff, if_true, if_false, decide_true, Bool.true_and, Bool.and_true, zok_n0, zok_n1, zok_bI, bI_eq0, bI_eq1, Bool.true_eq_false, Bool.false_eq_true, not_false_eq_true, not_true_eq_false, decide_false, decide_eq_false_iff_not, decide_eq_true_eq, Classical.not_not, ite_not, lit, Nat.reduceEqDiff, Nat.reduceLT, nI_add, nI_lt', nI_le', nI_eq', nI_sub', pk_mul, nI_rem', nI_div', nI_nz, remN, clampN, inb_nI, Nat.not_lt_zero, Nat.zero_le, Nat.le_zero_eq, if_true, if_false, m1_lt0, m1_eq, t_ite, f_ite, nI_and, nI_or, nI_xor, nI_shl1, nI_shr, nI_ushr, nI_not, nI_and_p2, Nat.one_mul, vrf_s, vrf_n, oF_0, oO_0, oF_1, oO_1, oA_2, oS_2, oA_3, oS_3, oF_4, oO_4, oA_5, oS_5, oA_6, oS_6, oA_7, oS_7, oA_8, oS_8, oA_9, oS_9, oF_70, oO_70, oA_71, oS_71, oA_72, oS_72, oF_73, oO_73, oA_74, oS_74, oA_75, oS_75, oA_76, oS_76, oA_77, oS_77, oA_78, oS_78, oA_139, oS_139, oF_140, oO_140, oA_141, oS_141, oA_142, oS_142, oA_143, oS_143, oA_144, oS_144, oF_145, oO_145, oF_146, oO_146, oA_147, oS_147, oF_148, oO_148, oA_149, oS_149, oA_150, oS_150, oA_151, oS_151, oF_152, oO_152, oA_153, oS_153, oF_154, oO_154, oA_155, oS_155, oA_156, oS_156, oA_157, oS_157, oA_158, oS_158, oF_159, oO_159, oA_160, oS_160, oA_161, oS_161, oA_162, oS_162, oA_163, oS_163, oF_164, oO_164, oA_165, oS_165, oA_166, oS_166, oA_167, oS_167, oA_168, oS_168, oF_169, oO_169, oA_170, oS_170, oA_171, oS_171, oA_172, oS_172, oA_173, oS_173, mO_Site_told, y_told h, mns_told.mpr hs]
theorem y_areBits_n {v : Int32} (h : KX M c n W Rs m) (hv : v < nI 0 ∨ nI (2 ^ n) ≤ v) : ev (d + 2) m_Site_areBits [.ref 1, .int v] NX M = some (some (.int (nI 0)), NX, M) := by
  have hn := p2_le8 h.n8
  obtain ⟨u, hu, e⟩ := wb_of32 v
  subst e
  have hm := mns_le u (2 ^ n - 1)
  have hz : ¬ nI (mns u (2 ^ n - 1)) = nI 0 := by
    intro z
    have z2 : (nI (mns u (2 ^ n - 1))).toBitVec.toNat = (nI 0).toBitVec.toNat := by rw [z]
    rw [pk_tn (by omega), pk_tn (by decide), mns_told] at z2
    have := ne_bad (j := u) hv z2 (by omega)
    rw [← this]
  rw [e_Site_areBits]
  simp (disch := omega) only [r_Site_areBits_0, r_Site_areBits_1, r_Site_areBits_1n, r_Site_areBits_2, r_Site_areBits_5, r_Site_areBits_6, r_Site_areBits_7, r_Site_areBits_8, r_Site_areBits_11, r_Site_areBits_12, r_Site_areBits_15, r_Site_areBits_16, bnd, tl_s, tl_n, wt_nil, wt_int, wt_ref, wt_null, wt_long, Nat.reduceAdd, Nat.reduceLeDiff, if_true, if_false, decide_true, Bool.true_and, Bool.and_true, zok_n0, zok_n1, zok_bI, bI_eq0, bI_eq1, Bool.true_eq_false, Bool.false_eq_true, not_false_eq_true, not_true_eq_false, decide_false, decide_eq_false_iff_not, decide_eq_true_eq, Classical.not_not, ite_not, lit, oF_1, oO_1, mO_Site_told, y_told h, nI_not, hz]
/-! the reference's rounds -/
def rnd (B n : Nat) : Nat → Nat → Int32
  | 0, _ => -nI 1
  | r + 1, p => if rnd B n r p = -nI 1 then (if (grd B (2 ^ n - 1) (r + 1)).testBit p = true then nI r else -nI 1) else rnd B n r p
theorem m1_ne {a : Nat} (ha : a < 2 ^ 31) : ¬ nI a = -nI 1 := by rw [m1_eq ha]; exact id
theorem rnd_cases {B : Nat} (p : Nat) : ∀ r, r < 2 ^ 31 → (rnd B n r p = -nI 1 ∧ ∀ j, j < r → (grd B (2 ^ n - 1) (j + 1)).testBit p = false) ∨ (∃ j, j < r ∧ rnd B n r p = nI j ∧ (grd B (2 ^ n - 1) (j + 1)).testBit p = true ∧ ∀ i, i < j → (grd B (2 ^ n - 1) (i + 1)).testBit p = false) := by
  intro r
  induction r with
  | zero => intro _; exact Or.inl ⟨rfl, fun j hj => by omega⟩
  | succ r ih =>
    intro hr
    rcases ih (by omega) with ⟨h1, h2⟩ | ⟨j, hj, h1, h2, h3⟩
    · rw [rnd, if_pos h1]
      cases e : (grd B (2 ^ n - 1) (r + 1)).testBit p
      · rw [f_ite]
        refine Or.inl ⟨rfl, fun j hj => ?_⟩
        by_cases ej : j = r
        · rw [ej]; exact e
        · exact h2 j (by omega)
      · rw [t_ite]
        exact Or.inr ⟨r, by omega, rfl, e, h2⟩
    · rw [rnd, if_neg (by rw [h1]; exact m1_ne (by omega))]
      exact Or.inr ⟨j, by omega, h1, h2, h3⟩
theorem grd_up {B : Nat} {p r j : Nat} (h : (grd B (2 ^ n - 1) r).testBit p = true) (hj : r ≤ j) : (grd B (2 ^ n - 1) j).testBit p = true := by
  have := itr_le (F := dfd B (2 ^ n - 1)) dfd_mono (r := r) (j - r) p h
  rw [show r + (j - r) = j by omega] at this
  exact this
theorem rnd_iff {B : Nat} {p r : Nat} (hr : r < 2 ^ 31) : rnd B n r p = -nI 1 ↔ (grd B (2 ^ n - 1) r).testBit p = false := by
  rcases rnd_cases (B := B) (n := n) p r hr with ⟨h1, h2⟩ | ⟨j, hj, h1, h2, h3⟩
  · refine ⟨fun _ => ?_, fun _ => h1⟩
    cases r with
    | zero => exact Nat.zero_testBit p
    | succ r => exact h2 r (by omega)
  · rw [h1]
    refine ⟨fun z => absurd z (m1_ne (by omega)), fun z => ?_⟩
    rw [grd_up h2 (by omega)] at z
    cases z
theorem l_layInit (h : KM M n W Rs m) : run (ev (d + 2)) m_M_layGrounded 4 [some (.ref 174), some (.int (nI 0)), some (.int (nI 0)), none, none] [] NX M = run (ev (d + 2)) m_M_layGrounded 27 [some (.ref 174), some (.int (nI 0)), some (.int (nI n)), none, none] [] NX (fI M 183 (fun _ => -nI 1) n) := by
  have hn := h.n8
  refine Eq.trans ?_ ((lp0 (R := fun i => run (ev (d + 2)) m_M_layGrounded 4 [some (.ref 174), some (.int (nI 0)), some (.int (nI i)), none, none] [] NX (fI M 183 (fun _ => -nI 1) i)) (n := n) ?_).trans ?_)
  · rw [fI_0]
  · intro i hi
    have hni : ¬ n ≤ i := by omega
    have h' := h.fI (c := 183) (f := fun _ => -nI 1) (i := i) (by decide)
    have hs := fI_s (M := M) (c := 183) (i := i) (f := fun _ => -nI 1)
    try dsimp only at hs
    try dsimp only
    rw [r_M_layGrounded_4]
    simp (disch := omega) only [r_M_layGrounded_5, r_M_layGrounded_5n, r_M_layGrounded_6, r_M_layGrounded_9, r_M_layGrounded_10, r_M_layGrounded_11, r_M_layGrounded_14, r_M_layGrounded_14n, r_M_layGrounded_15, r_M_layGrounded_18, r_M_layGrounded_19, r_M_layGrounded_20, r_M_layGrounded_21, r_M_layGrounded_24, bnd, tl_s, tl_n, wt_nil, wt_int, wt_ref, wt_null, wt_long, Nat.reduceAdd, Nat.reduceLeDiff, if_true, if_false, decide_true, Bool.true_and, Bool.and_true, zok_n0, zok_n1, zok_bI, bI_eq0, bI_eq1, Bool.true_eq_false, Bool.false_eq_true, not_false_eq_true, not_true_eq_false, decide_false, decide_eq_false_iff_not, decide_eq_true_eq, Classical.not_not, ite_not, lit, Nat.reduceEqDiff, Nat.reduceLT, nI_add, nI_lt', nI_le', nI_eq', nI_sub', pk_mul, nI_rem', nI_div', nI_nz, remN, clampN, inb_nI, Nat.not_lt_zero, Nat.zero_le, Nat.le_zero_eq, if_true, if_false, m1_lt0, m1_eq, t_ite, f_ite, nI_and, nI_or, nI_xor, nI_shl1, nI_shr, nI_ushr, nI_not, nI_and_p2, Nat.one_mul, vrf_s, vrf_n, oF_174, oO_174, oA_175, oS_175, oA_176, oS_176, oA_177, oS_177, oA_178, oS_178, oA_179, oS_179, oA_180, oS_180, oA_181, oS_181, oA_182, oS_182, oA_183, oS_183, oA_184, oS_184, oA_185, oS_185, oA_186, oS_186, oA_187, oS_187, oA_188, oS_188, mO_M_objectedBy, mO_M_against, h'.f, h'.nn, h'.1.ro, hni, hs]
  · have h' := h.fI (c := 183) (f := fun _ => -nI 1) (i := n) (by decide)
    rw [r_M_layGrounded_4]
    simp (disch := omega) only [r_M_layGrounded_5, r_M_layGrounded_5n, r_M_layGrounded_6, r_M_layGrounded_9, r_M_layGrounded_10, r_M_layGrounded_11, bnd, tl_s, tl_n, wt_nil, wt_int, wt_ref, wt_null, wt_long, Nat.reduceAdd, Nat.reduceLeDiff, if_true, if_false, decide_true, Bool.true_and, Bool.and_true, zok_n0, zok_n1, zok_bI, bI_eq0, bI_eq1, Bool.true_eq_false, Bool.false_eq_true, not_false_eq_true, not_true_eq_false, decide_false, decide_eq_false_iff_not, decide_eq_true_eq, Classical.not_not, ite_not, lit, Nat.reduceEqDiff, Nat.reduceLT, nI_add, nI_lt', nI_le', nI_eq', nI_sub', pk_mul, nI_rem', nI_div', nI_nz, remN, clampN, inb_nI, Nat.not_lt_zero, Nat.zero_le, Nat.le_zero_eq, if_true, if_false, m1_lt0, m1_eq, t_ite, f_ite, nI_and, nI_or, nI_xor, nI_shl1, nI_shr, nI_ushr, nI_not, nI_and_p2, Nat.one_mul, vrf_s, vrf_n, oF_174, oO_174, oA_175, oS_175, oA_176, oS_176, oA_177, oS_177, oA_178, oS_178, oA_179, oS_179, oA_180, oS_180, oA_181, oS_181, oA_182, oS_182, oA_183, oS_183, oA_184, oS_184, oA_185, oS_185, oA_186, oS_186, oA_187, oS_187, oA_188, oS_188, mO_M_objectedBy, mO_M_against, h'.f, h'.nn, Nat.le_refl]
theorem l_layOne {r : Nat} (h : KM M n W Rs m) (hr : r < 100) : run (ev (d + 2)) m_M_layGrounded 48 [some (.ref 174), some (.int (nI (grd (mOb m) (2 ^ n - 1) r))), some (.int (nI r)), some (.int (nI (tg (mOb m) (grd (mOb m) (2 ^ n - 1) r)))), some (.int (nI 0))] [] NX (fI M 183 (rnd (mOb m) n r) n) = run (ev (d + 2)) m_M_layGrounded 97 [some (.ref 174), some (.int (nI (grd (mOb m) (2 ^ n - 1) r))), some (.int (nI r)), some (.int (nI (tg (mOb m) (grd (mOb m) (2 ^ n - 1) r)))), some (.int (nI n))] [] NX (fI M 183 (rnd (mOb m) n (r + 1)) n) := by
  have hn := h.n8
  refine Eq.trans ?_ ((lp0 (R := fun i => run (ev (d + 2)) m_M_layGrounded 48 [some (.ref 174), some (.int (nI (grd (mOb m) (2 ^ n - 1) r))), some (.int (nI r)), some (.int (nI (tg (mOb m) (grd (mOb m) (2 ^ n - 1) r)))), some (.int (nI i))] [] NX (fI (fI M 183 (rnd (mOb m) n r) n) 183 (rnd (mOb m) n (r + 1)) i)) (n := n) ?_).trans ?_)
  · rw [fI_0]
  · intro i hi
    have hni : ¬ n ≤ i := by omega
    have h1 := h.fI (c := 183) (f := rnd (mOb m) n r) (i := n) (by decide)
    have h' := h1.fI (c := 183) (f := rnd (mOb m) n (r + 1)) (i := i) (by decide)
    have hs := fI_s (M := fI M 183 (rnd (mOb m) n r) n) (c := 183) (i := i) (f := rnd (mOb m) n (r + 1))
    have hg : gI (fI (fI M 183 (rnd (mOb m) n r) n) 183 (rnd (mOb m) n (r + 1)) i) 183 i = rnd (mOb m) n r i := by rw [gI_fI_out (Nat.le_refl _), gI_fI_in hi]
    have h7 := mns_le (ag (mOb m) i) (tg (mOb m) (grd (mOb m) (2 ^ n - 1) r))
    have h8 := ag_8 (B := mOb m) (p := i)
    have hd := dfd_n (s := grd (mOb m) (2 ^ n - 1) r) (p := i) h.okb hn
    rw [show dfd (mOb m) (2 ^ n - 1) (grd (mOb m) (2 ^ n - 1) r) = grd (mOb m) (2 ^ n - 1) (r + 1) from rfl, decide_eq_true hi, Bool.true_and] at hd
    have hsame : rnd (mOb m) n r i = rnd (mOb m) n (r + 1) i → fI (fI M 183 (rnd (mOb m) n r) n) 183 (rnd (mOb m) n (r + 1)) i = fI (fI M 183 (rnd (mOb m) n r) n) 183 (rnd (mOb m) n (r + 1)) (i + 1) := fun z => fI_same (by rw [gI_fI_in hi]; exact z)
    try dsimp only
    rw [r_M_layGrounded_48]
    simp (disch := omega) only [r_M_layGrounded_50, r_M_layGrounded_50n, r_M_layGrounded_51, r_M_layGrounded_54, r_M_layGrounded_55, r_M_layGrounded_56, r_M_layGrounded_59, r_M_layGrounded_59n, r_M_layGrounded_60, r_M_layGrounded_63, r_M_layGrounded_65, r_M_layGrounded_66, r_M_layGrounded_67, r_M_layGrounded_70, r_M_layGrounded_70n, r_M_layGrounded_71, r_M_layGrounded_73, r_M_layGrounded_76, r_M_layGrounded_77, r_M_layGrounded_78, r_M_layGrounded_79, r_M_layGrounded_80, r_M_layGrounded_83, r_M_layGrounded_83n, r_M_layGrounded_84, r_M_layGrounded_87, r_M_layGrounded_89, r_M_layGrounded_90, r_M_layGrounded_91, r_M_layGrounded_94, bnd, tl_s, tl_n, wt_nil, wt_int, wt_ref, wt_null, wt_long, Nat.reduceAdd, Nat.reduceLeDiff, if_true, if_false, decide_true, Bool.true_and, Bool.and_true, zok_n0, zok_n1, zok_bI, bI_eq0, bI_eq1, Bool.true_eq_false, Bool.false_eq_true, not_false_eq_true, not_true_eq_false, decide_false, decide_eq_false_iff_not, decide_eq_true_eq, Classical.not_not, ite_not, lit, Nat.reduceEqDiff, Nat.reduceLT, nI_add, nI_lt', nI_le', nI_eq', nI_sub', pk_mul, nI_rem', nI_div', nI_nz, remN, clampN, inb_nI, Nat.not_lt_zero, Nat.zero_le, Nat.le_zero_eq, if_true, if_false, m1_lt0, m1_eq, t_ite, f_ite, nI_and, nI_or, nI_xor, nI_shl1, nI_shr, nI_ushr, nI_not, nI_and_p2, Nat.one_mul, vrf_s, vrf_n, oF_174, oO_174, oA_175, oS_175, oA_176, oS_176, oA_177, oS_177, oA_178, oS_178, oA_179, oS_179, oA_180, oS_180, oA_181, oS_181, oA_182, oS_182, oA_183, oS_183, oA_184, oS_184, oA_185, oS_185, oA_186, oS_186, oA_187, oS_187, oA_188, oS_188, mO_M_objectedBy, mO_M_against, h'.f, h'.nn, h'.1.ro, hni, hg, x_against h' (show i < 8 by omega)]
    by_cases e : rnd (mOb m) n r i = -nI 1
    · rw [if_pos e]
      by_cases e2 : mns (ag (mOb m) i) (tg (mOb m) (grd (mOb m) (2 ^ n - 1) r)) = 0
      · rw [if_pos e2]
        rw [show rnd (mOb m) n (r + 1) i = nI r by rw [rnd, if_pos e, hd, decide_eq_true e2, t_ite]] at hs
        rw [hs]
      · rw [if_neg e2, ← hsame]
        rw [e, rnd, if_pos e, hd, decide_eq_false e2, f_ite]
    · rw [if_neg e, ← hsame]
      rw [rnd, if_neg e]
  · have h1 := h.fI (c := 183) (f := rnd (mOb m) n (r + 1)) (i := n) (by decide)
    rw [fI_over, r_M_layGrounded_48]
    simp (disch := omega) only [r_M_layGrounded_50, r_M_layGrounded_50n, r_M_layGrounded_51, r_M_layGrounded_54, r_M_layGrounded_55, r_M_layGrounded_56, bnd, tl_s, tl_n, wt_nil, wt_int, wt_ref, wt_null, wt_long, Nat.reduceAdd, Nat.reduceLeDiff, if_true, if_false, decide_true, Bool.true_and, Bool.and_true, zok_n0, zok_n1, zok_bI, bI_eq0, bI_eq1, Bool.true_eq_false, Bool.false_eq_true, not_false_eq_true, not_true_eq_false, decide_false, decide_eq_false_iff_not, decide_eq_true_eq, Classical.not_not, ite_not, lit, Nat.reduceEqDiff, Nat.reduceLT, nI_add, nI_lt', nI_le', nI_eq', nI_sub', pk_mul, nI_rem', nI_div', nI_nz, remN, clampN, inb_nI, Nat.not_lt_zero, Nat.zero_le, Nat.le_zero_eq, if_true, if_false, m1_lt0, m1_eq, t_ite, f_ite, nI_and, nI_or, nI_xor, nI_shl1, nI_shr, nI_ushr, nI_not, nI_and_p2, Nat.one_mul, vrf_s, vrf_n, oF_174, oO_174, oA_175, oS_175, oA_176, oS_176, oA_177, oS_177, oA_178, oS_178, oA_179, oS_179, oA_180, oS_180, oA_181, oS_181, oA_182, oS_182, oA_183, oS_183, oA_184, oS_184, oA_185, oS_185, oA_186, oS_186, oA_187, oS_187, oA_188, oS_188, mO_M_objectedBy, mO_M_against, h1.f, h1.nn, Nat.le_refl]
theorem l_laySet {r : Nat} {z3 : Option Value} (h : KM M n W Rs m) (hr : r < 100) : run (ev (d + 2)) m_M_layGrounded 100 [some (.ref 174), some (.int (nI (grd (mOb m) (2 ^ n - 1) r))), some (.int (nI r)), z3, some (.int (nI 0))] [] NX (fI M 183 (rnd (mOb m) n (r + 1)) n) = run (ev (d + 2)) m_M_layGrounded 29 [some (.ref 174), some (.int (nI (grd (mOb m) (2 ^ n - 1) (r + 1)))), some (.int (nI (r + 1))), z3, some (.int (nI n))] [] NX (fI M 183 (rnd (mOb m) n (r + 1)) n) := by
  have hn := h.n8
  have h1 := h.fI (c := 183) (f := rnd (mOb m) n (r + 1)) (i := n) (by decide)
  refine Eq.trans ?_ ((lp0 (R := fun i => run (ev (d + 2)) m_M_layGrounded 100 [some (.ref 174), some (.int (nI (grd (mOb m) (2 ^ n - 1) r ||| bsum i (fun p => (grd (mOb m) (2 ^ n - 1) (r + 1)).testBit p)))), some (.int (nI r)), z3, some (.int (nI i))] [] NX (fI M 183 (rnd (mOb m) n (r + 1)) n)) (n := n) ?_).trans ?_)
  · rw [bsum, Nat.or_zero]
  · intro i hi
    have hni : ¬ n ≤ i := by omega
    have hg : gI (fI M 183 (rnd (mOb m) n (r + 1)) n) 183 i = rnd (mOb m) n (r + 1) i := by rw [gI_fI_in hi]
    have hx := rnd_iff (B := mOb m) (n := n) (p := i) (r := r + 1) (by omega)
    try dsimp only
    rw [r_M_layGrounded_100]
    simp (disch := omega) only [r_M_layGrounded_102, r_M_layGrounded_102n, r_M_layGrounded_103, r_M_layGrounded_106, r_M_layGrounded_107, r_M_layGrounded_108, r_M_layGrounded_111, r_M_layGrounded_112, r_M_layGrounded_112n, r_M_layGrounded_113, r_M_layGrounded_116, r_M_layGrounded_118, r_M_layGrounded_119, r_M_layGrounded_120, r_M_layGrounded_123, r_M_layGrounded_124, r_M_layGrounded_126, r_M_layGrounded_127, r_M_layGrounded_130, r_M_layGrounded_131, r_M_layGrounded_132, r_M_layGrounded_133, r_M_layGrounded_136, bnd, tl_s, tl_n, wt_nil, wt_int, wt_ref, wt_null, wt_long, Nat.reduceAdd, Nat.reduceLeDiff, if_true, if_false, decide_true, Bool.true_and, Bool.and_true, zok_n0, zok_n1, zok_bI, bI_eq0, bI_eq1, Bool.true_eq_false, Bool.false_eq_true, not_false_eq_true, not_true_eq_false, decide_false, decide_eq_false_iff_not, decide_eq_true_eq, Classical.not_not, ite_not, lit, Nat.reduceEqDiff, Nat.reduceLT, nI_add, nI_lt', nI_le', nI_eq', nI_sub', pk_mul, nI_rem', nI_div', nI_nz, remN, clampN, inb_nI, Nat.not_lt_zero, Nat.zero_le, Nat.le_zero_eq, if_true, if_false, m1_lt0, m1_eq, t_ite, f_ite, nI_and, nI_or, nI_xor, nI_shl1, nI_shr, nI_ushr, nI_not, nI_and_p2, Nat.one_mul, vrf_s, vrf_n, oF_174, oO_174, oA_175, oS_175, oA_176, oS_176, oA_177, oS_177, oA_178, oS_178, oA_179, oS_179, oA_180, oS_180, oA_181, oS_181, oA_182, oS_182, oA_183, oS_183, oA_184, oS_184, oA_185, oS_185, oA_186, oS_186, oA_187, oS_187, oA_188, oS_188, mO_M_objectedBy, mO_M_against, h1.f, h1.nn, h1.1.ro, hni, hg]
    cases e : (grd (mOb m) (2 ^ n - 1) (r + 1)).testBit i
    · rw [if_pos (hx.mpr e), bsum_f (f := fun p => (grd (mOb m) (2 ^ n - 1) (r + 1)).testBit p) e, Nat.or_zero]
    · rw [if_neg (fun z => by rw [hx.mp z] at e; cases e), bsum_t (f := fun p => (grd (mOb m) (2 ^ n - 1) (r + 1)).testBit p) e, Nat.or_assoc]
  · have e1 : grd (mOb m) (2 ^ n - 1) r ||| bsum n (fun p => (grd (mOb m) (2 ^ n - 1) (r + 1)).testBit p) = grd (mOb m) (2 ^ n - 1) (r + 1) := by
      rw [bsum_of (grd_lt (r + 1)) (fun i _ => rfl)]
      apply eq_bits
      intro i
      rw [Nat.testBit_or]
      cases e : (grd (mOb m) (2 ^ n - 1) r).testBit i
      · rfl
      · rw [grd_up e (show r ≤ r + 1 by omega)]; rfl
    rw [e1, r_M_layGrounded_100]
    simp (disch := omega) only [r_M_layGrounded_102, r_M_layGrounded_102n, r_M_layGrounded_103, r_M_layGrounded_106, r_M_layGrounded_107, r_M_layGrounded_108, bnd, tl_s, tl_n, wt_nil, wt_int, wt_ref, wt_null, wt_long, Nat.reduceAdd, Nat.reduceLeDiff, if_true, if_false, decide_true, Bool.true_and, Bool.and_true, zok_n0, zok_n1, zok_bI, bI_eq0, bI_eq1, Bool.true_eq_false, Bool.false_eq_true, not_false_eq_true, not_true_eq_false, decide_false, decide_eq_false_iff_not, decide_eq_true_eq, Classical.not_not, ite_not, lit, Nat.reduceEqDiff, Nat.reduceLT, nI_add, nI_lt', nI_le', nI_eq', nI_sub', pk_mul, nI_rem', nI_div', nI_nz, remN, clampN, inb_nI, Nat.not_lt_zero, Nat.zero_le, Nat.le_zero_eq, if_true, if_false, m1_lt0, m1_eq, t_ite, f_ite, nI_and, nI_or, nI_xor, nI_shl1, nI_shr, nI_ushr, nI_not, nI_and_p2, Nat.one_mul, vrf_s, vrf_n, oF_174, oO_174, oA_175, oS_175, oA_176, oS_176, oA_177, oS_177, oA_178, oS_178, oA_179, oS_179, oA_180, oS_180, oA_181, oS_181, oA_182, oS_182, oA_183, oS_183, oA_184, oS_184, oA_185, oS_185, oA_186, oS_186, oA_187, oS_187, oA_188, oS_188, mO_M_objectedBy, mO_M_against, h1.f, h1.nn, Nat.le_refl]
    simp (disch := omega) only [r_M_layGrounded_139, r_M_layGrounded_142, bnd, tl_s, tl_n, wt_nil, wt_int, wt_ref, wt_null, wt_long, Nat.reduceAdd, Nat.reduceLeDiff, if_true, if_false, decide_true, Bool.true_and, Bool.and_true, zok_n0, zok_n1, zok_bI, bI_eq0, bI_eq1, Bool.true_eq_false, Bool.false_eq_true, not_false_eq_true, not_true_eq_false, decide_false, decide_eq_false_iff_not, decide_eq_true_eq, Classical.not_not, ite_not, lit, Nat.reduceEqDiff, Nat.reduceLT, nI_add, nI_lt', nI_le', nI_eq', nI_sub', pk_mul, nI_rem', nI_div', nI_nz, remN, clampN, inb_nI, Nat.not_lt_zero, Nat.zero_le, Nat.le_zero_eq, if_true, if_false, m1_lt0, m1_eq, t_ite, f_ite, nI_and, nI_or, nI_xor, nI_shl1, nI_shr, nI_ushr, nI_not, nI_and_p2, Nat.one_mul, vrf_s, vrf_n, oF_174, oO_174, oA_175, oS_175, oA_176, oS_176, oA_177, oS_177, oA_178, oS_178, oA_179, oS_179, oA_180, oS_180, oA_181, oS_181, oA_182, oS_182, oA_183, oS_183, oA_184, oS_184, oA_185, oS_185, oA_186, oS_186, oA_187, oS_187, oA_188, oS_188, mO_M_objectedBy, mO_M_against]
theorem x_layGrounded (h : KM M n W Rs m) : ev (d + 3) m_M_layGrounded [.ref 174] NX M = some (some (.int (nI (gnd (mOb m) n))), NX, fI M 183 (rnd (mOb m) n (n + 1)) n) := by
  have hn := h.n8
  rw [e_M_layGrounded]
  simp only [r_M_layGrounded_0, r_M_layGrounded_1, r_M_layGrounded_2, r_M_layGrounded_3, lit]
  rw [l_layInit h]
  simp only [r_M_layGrounded_27, r_M_layGrounded_28, lit]
  refine Eq.trans ?_ (lpz (R := fun r (z : Option Value × Option Value) => run (ev (d + 2)) m_M_layGrounded 29 [some (.ref 174), some (.int (nI (grd (mOb m) (2 ^ n - 1) r))), some (.int (nI r)), z.1, z.2] [] NX (fI M 183 (rnd (mOb m) n r) n)) (n := n + 1) (out := some (some (.int (nI (gnd (mOb m) n))), NX, fI M 183 (rnd (mOb m) n (n + 1)) n)) ?_ ?_ (n + 1) 0 (none, none) (by omega))
  · rfl
  · intro r z hr
    have hnr : ¬ n < r := by omega
    have h1 := h.fI (c := 183) (f := rnd (mOb m) n r) (i := n) (by decide)
    have h8 := grd_8 (B := mOb m) (r := r) hn
    refine ⟨(some (.int (nI (tg (mOb m) (grd (mOb m) (2 ^ n - 1) r)))), some (.int (nI n))), ?_⟩
    try dsimp only
    rw [r_M_layGrounded_29]
    simp (disch := omega) only [r_M_layGrounded_30, r_M_layGrounded_30n, r_M_layGrounded_31, r_M_layGrounded_34, r_M_layGrounded_35, r_M_layGrounded_36, r_M_layGrounded_39, r_M_layGrounded_39n, r_M_layGrounded_40, r_M_layGrounded_41, r_M_layGrounded_44, r_M_layGrounded_45, r_M_layGrounded_46, bnd, tl_s, tl_n, wt_nil, wt_int, wt_ref, wt_null, wt_long, Nat.reduceAdd, Nat.reduceLeDiff, if_true, if_false, decide_true, Bool.true_and, Bool.and_true, zok_n0, zok_n1, zok_bI, bI_eq0, bI_eq1, Bool.true_eq_false, Bool.false_eq_true, not_false_eq_true, not_true_eq_false, decide_false, decide_eq_false_iff_not, decide_eq_true_eq, Classical.not_not, ite_not, lit, Nat.reduceEqDiff, Nat.reduceLT, nI_add, nI_lt', nI_le', nI_eq', nI_sub', pk_mul, nI_rem', nI_div', nI_nz, remN, clampN, inb_nI, Nat.not_lt_zero, Nat.zero_le, Nat.le_zero_eq, if_true, if_false, m1_lt0, m1_eq, t_ite, f_ite, nI_and, nI_or, nI_xor, nI_shl1, nI_shr, nI_ushr, nI_not, nI_and_p2, Nat.one_mul, vrf_s, vrf_n, oF_174, oO_174, oA_175, oS_175, oA_176, oS_176, oA_177, oS_177, oA_178, oS_178, oA_179, oS_179, oA_180, oS_180, oA_181, oS_181, oA_182, oS_182, oA_183, oS_183, oA_184, oS_184, oA_185, oS_185, oA_186, oS_186, oA_187, oS_187, oA_188, oS_188, mO_M_objectedBy, mO_M_against, h1.f, h1.nn, hnr, x_objectedBy h1 h8]
    rw [l_layOne h (by omega)]
    simp (disch := omega) only [r_M_layGrounded_97, r_M_layGrounded_98, bnd, tl_s, tl_n, wt_nil, wt_int, wt_ref, wt_null, wt_long, Nat.reduceAdd, Nat.reduceLeDiff, if_true, if_false, decide_true, Bool.true_and, Bool.and_true, zok_n0, zok_n1, zok_bI, bI_eq0, bI_eq1, Bool.true_eq_false, Bool.false_eq_true, not_false_eq_true, not_true_eq_false, decide_false, decide_eq_false_iff_not, decide_eq_true_eq, Classical.not_not, ite_not, lit, Nat.reduceEqDiff, Nat.reduceLT, nI_add, nI_lt', nI_le', nI_eq', nI_sub', pk_mul, nI_rem', nI_div', nI_nz, remN, clampN, inb_nI, Nat.not_lt_zero, Nat.zero_le, Nat.le_zero_eq, if_true, if_false, m1_lt0, m1_eq, t_ite, f_ite, nI_and, nI_or, nI_xor, nI_shl1, nI_shr, nI_ushr, nI_not, nI_and_p2, Nat.one_mul, vrf_s, vrf_n, oF_174, oO_174, oA_175, oS_175, oA_176, oS_176, oA_177, oS_177, oA_178, oS_178, oA_179, oS_179, oA_180, oS_180, oA_181, oS_181, oA_182, oS_182, oA_183, oS_183, oA_184, oS_184, oA_185, oS_185, oA_186, oS_186, oA_187, oS_187, oA_188, oS_188, mO_M_objectedBy, mO_M_against]
    rw [l_laySet h (by omega)]
  · intro z
    have h1 := h.fI (c := 183) (f := rnd (mOb m) n (n + 1)) (i := n) (by decide)
    have hlt : n < n + 1 := by omega
    try dsimp only
    rw [r_M_layGrounded_29]
    simp (disch := omega) only [r_M_layGrounded_30, r_M_layGrounded_30n, r_M_layGrounded_31, r_M_layGrounded_34, r_M_layGrounded_35, r_M_layGrounded_36, bnd, tl_s, tl_n, wt_nil, wt_int, wt_ref, wt_null, wt_long, Nat.reduceAdd, Nat.reduceLeDiff, if_true, if_false, decide_true, Bool.true_and, Bool.and_true, zok_n0, zok_n1, zok_bI, bI_eq0, bI_eq1, Bool.true_eq_false, Bool.false_eq_true, not_false_eq_true, not_true_eq_false, decide_false, decide_eq_false_iff_not, decide_eq_true_eq, Classical.not_not, ite_not, lit, Nat.reduceEqDiff, Nat.reduceLT, nI_add, nI_lt', nI_le', nI_eq', nI_sub', pk_mul, nI_rem', nI_div', nI_nz, remN, clampN, inb_nI, Nat.not_lt_zero, Nat.zero_le, Nat.le_zero_eq, if_true, if_false, m1_lt0, m1_eq, t_ite, f_ite, nI_and, nI_or, nI_xor, nI_shl1, nI_shr, nI_ushr, nI_not, nI_and_p2, Nat.one_mul, vrf_s, vrf_n, oF_174, oO_174, oA_175, oS_175, oA_176, oS_176, oA_177, oS_177, oA_178, oS_178, oA_179, oS_179, oA_180, oS_180, oA_181, oS_181, oA_182, oS_182, oA_183, oS_183, oA_184, oS_184, oA_185, oS_185, oA_186, oS_186, oA_187, oS_187, oA_188, oS_188, mO_M_objectedBy, mO_M_against, h1.f, h1.nn, hlt]
    simp only [r_M_layGrounded_145, r_M_layGrounded_146]
    rw [grd_end (by omega)]
end GR
