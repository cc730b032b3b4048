/-! SETS FOUND: the reference's list; stables, preferred, naive, inSets -/
theorem allb_snoc {p : Nat → Bool} : ∀ k i, allb p (k + 1) i = (allb p k i && p (i + k)) := by
  intro k
  induction k with
  | zero => intro i; simp [allb]
  | succ k ih => intro i; rw [allb, ih, allb, Bool.and_assoc, show i + 1 + k = i + (k + 1) by omega]
theorem bI_and1 {a : Bool} : bI a &&& nI 1 = bI a := by cases a <;> decide
theorem bI_and0 {a : Bool} : bI a &&& nI 0 = bI false := by cases a <;> decide
theorem ct_comp {q q2 : Nat → Bool} {N : Nat} (h : ∀ s, q2 s = true → q s = true) : ∀ s, s ≤ N → fb_ct q2 s = fb_ct (fun j => q2 (el q N j)) (fb_ct q s) := by
  intro s
  induction s with
  | zero => intro _; rfl
  | succ s ih =>
    intro hs
    have h1 := ih (by omega)
    cases e : q s
    · have e2 : q2 s = false := by
        cases e3 : q2 s
        · rfl
        · rw [h s e3] at e; cases e
      rw [ct_n e, ct_n e2, h1]
    · rw [ct_s e, fb_ct_succ, fb_ct_succ, h1, el_at (by omega) e]
theorem el_congr {q q' : Nat → Bool} {N : Nat} (h : ∀ s, s < N → q s = q' s) (j : Nat) : el q N j = el q' N j := by
  unfold el
  apply fst'_congr
  intro s _ hs
  rw [h s (by omega), fb_ct_cong (fun k hk => h k (by omega))]
  exact ⟨rfl, fun _ => rfl⟩
def ansI (q : Nat → Bool) (N : Nat) (v : Int32) : Int32 := if v = -nI 1 then nI (fb_ct q N) else if ∃ j, j < fb_ct q N ∧ v = nI j then nI (el q N v.toNatClampNeg) else -nI 2
theorem ansI_congr {q q' : Nat → Bool} {N : Nat} (h : ∀ s, s < N → q s = q' s) (v : Int32) : ansI q N v = ansI q' N v := by
  unfold ansI
  rw [fb_ct_cong h]
  simp only [el_congr h]
def srt (B n k s : Nat) : Bool := if k = 1 then hold B s else free B s && (decide (k = 2) || decide (tg B s ||| s = 2 ^ n - 1))
def mxs (q : Nat → Bool) (N s : Nat) : Bool := allb (fun t => !q t || !decide (mns s t = 0)) (N - (s + 1)) (s + 1)
def mst (q : Nat → Bool) (N j : Nat) : Bool := allb (fun k => !decide (mns (el q N j) (el q N k) = 0)) (fb_ct q N - (j + 1)) (j + 1)
theorem mst_mxs {q : Nat → Bool} {N j : Nat} (hj : j < fb_ct q N) : mst q N j = mxs q N (el q N j) := by
  obtain ⟨h1, h2, h3⟩ := el_ok hj
  unfold mst mxs
  rw [Bool.eq_iff_iff, allb_iff, allb_iff]
  constructor
  · intro h t ht1 ht2
    cases e : q t
    · rfl
    · have hc := ct_lt (q := q) (show el q N j < t by omega) h2
      have hc2 := ct_lt (q := q) (show t < N by omega) e
      have := h (fb_ct q t) (by omega) (by omega)
      rw [el_at (by omega) e] at this
      rw [this]; rfl
  · intro h k hk1 hk2
    have hl := el_lt (q := q) (N := N) (show j < k by omega) (by omega)
    obtain ⟨k1, k2, _⟩ := el_ok (q := q) (N := N) (show k < fb_ct q N by omega)
    have := h (el q N k) (by omega) (by omega)
    rw [k2] at this
    exact this
section F3
variable {d : Nat} {M M' : Mem} {n : Nat} {W Rs : Nat → Nat} {m : Mo}
theorem x_isSort {k s : Nat} (h : KM M n W Rs m) (hk : k < 3) (hs : s < 2 ^ n) : ev (d + 5) m_M_isSort [.ref 174, .int (nI k), .int (nI s)] NX M = some (some (.int (bI (srt (mOb m) n k s))), NX, M) := by
  have hn := h.n8
  have h2 := p2_le8 hn
  have h3 : tg (mOb m) s ||| s < 256 := or_8 tg_8 (by omega)
  rw [e_M_isSort]
  have hk3 : k = 0 ∨ k = 1 ∨ k = 2 := by omega
  rcases hk3 with rfl | rfl | rfl
  · simp (disch := omega) only [r_M_isSort_0, r_M_isSort_1, r_M_isSort_2, r_M_isSort_5, r_M_isSort_5n, r_M_isSort_6, r_M_isSort_7, r_M_isSort_10, r_M_isSort_13, r_M_isSort_13n, r_M_isSort_14, r_M_isSort_15, r_M_isSort_18, r_M_isSort_21, r_M_isSort_22, r_M_isSort_23, r_M_isSort_26, r_M_isSort_26n, r_M_isSort_27, r_M_isSort_28, r_M_isSort_31, r_M_isSort_32, r_M_isSort_33, r_M_isSort_33n, r_M_isSort_34, r_M_isSort_37, r_M_isSort_40, r_M_isSort_41, r_M_isSort_44, r_M_isSort_45, bnd, tl_s, tl_n, wt_nil, wt_int, wt_ref, wt_null, wt_long, Nat.reduceAdd, Nat.reduceLeDiff, if_true, if_false, decide_true, Bool.true_and, Bool.and_true, zok_n0, zok_n1, zok_bI, bI_eq0, bI_eq1, Bool.true_eq_false, Bool.false_eq_true, not_false_eq_true, not_true_eq_false, decide_false, decide_eq_false_iff_not, decide_eq_true_eq, Classical.not_not, ite_not, lit, Nat.reduceEqDiff, Nat.reduceLT, nI_add, nI_lt', nI_le', nI_eq', nI_sub', pk_mul, nI_rem', nI_div', nI_nz, remN, clampN, inb_nI, Nat.not_lt_zero, Nat.zero_le, Nat.le_zero_eq, if_true, if_false, m1_lt0, m1_eq, t_ite, f_ite, nI_and, nI_or, nI_xor, nI_shl1, nI_shr, nI_ushr, nI_not, nI_and_p2, Nat.one_mul, vrf_s, vrf_n, oF_174, oO_174, oA_175, oS_175, oA_176, oS_176, oA_177, oS_177, oA_178, oS_178, oA_179, oS_179, oA_180, oS_180, oA_181, oS_181, oA_182, oS_182, oA_183, oS_183, oA_184, oS_184, oA_185, oS_185, oA_186, oS_186, oA_187, oS_187, oA_188, oS_188, mO_M_isHeld, mO_M_isFree, mO_M_objectedBy, mO_M_everyone, x_isFree h (show s < 256 by omega), x_objectedBy h (show s < 256 by omega), x_everyone h]
    unfold srt
    cases free (mOb m) s
    · rfl
    · by_cases e : tg (mOb m) s ||| s = 2 ^ n - 1 <;> simp [e, bI]
  · simp (disch := omega) only [r_M_isSort_0, r_M_isSort_1, r_M_isSort_2, r_M_isSort_5, r_M_isSort_5n, r_M_isSort_6, r_M_isSort_7, r_M_isSort_10, r_M_isSort_13, r_M_isSort_13n, r_M_isSort_14, r_M_isSort_15, r_M_isSort_18, r_M_isSort_21, r_M_isSort_22, r_M_isSort_23, r_M_isSort_26, r_M_isSort_26n, r_M_isSort_27, r_M_isSort_28, r_M_isSort_31, r_M_isSort_32, r_M_isSort_33, r_M_isSort_33n, r_M_isSort_34, r_M_isSort_37, r_M_isSort_40, r_M_isSort_41, r_M_isSort_44, r_M_isSort_45, bnd, tl_s, tl_n, wt_nil, wt_int, wt_ref, wt_null, wt_long, Nat.reduceAdd, Nat.reduceLeDiff, if_true, if_false, decide_true, Bool.true_and, Bool.and_true, zok_n0, zok_n1, zok_bI, bI_eq0, bI_eq1, Bool.true_eq_false, Bool.false_eq_true, not_false_eq_true, not_true_eq_false, decide_false, decide_eq_false_iff_not, decide_eq_true_eq, Classical.not_not, ite_not, lit, Nat.reduceEqDiff, Nat.reduceLT, nI_add, nI_lt', nI_le', nI_eq', nI_sub', pk_mul, nI_rem', nI_div', nI_nz, remN, clampN, inb_nI, Nat.not_lt_zero, Nat.zero_le, Nat.le_zero_eq, if_true, if_false, m1_lt0, m1_eq, t_ite, f_ite, nI_and, nI_or, nI_xor, nI_shl1, nI_shr, nI_ushr, nI_not, nI_and_p2, Nat.one_mul, vrf_s, vrf_n, oF_174, oO_174, oA_175, oS_175, oA_176, oS_176, oA_177, oS_177, oA_178, oS_178, oA_179, oS_179, oA_180, oS_180, oA_181, oS_181, oA_182, oS_182, oA_183, oS_183, oA_184, oS_184, oA_185, oS_185, oA_186, oS_186, oA_187, oS_187, oA_188, oS_188, mO_M_isHeld, mO_M_isFree, mO_M_objectedBy, mO_M_everyone, x_isHeld h hs]
    rfl
  · simp (disch := omega) only [r_M_isSort_0, r_M_isSort_1, r_M_isSort_2, r_M_isSort_5, r_M_isSort_5n, r_M_isSort_6, r_M_isSort_7, r_M_isSort_10, r_M_isSort_13, r_M_isSort_13n, r_M_isSort_14, r_M_isSort_15, r_M_isSort_18, r_M_isSort_21, r_M_isSort_22, r_M_isSort_23, r_M_isSort_26, r_M_isSort_26n, r_M_isSort_27, r_M_isSort_28, r_M_isSort_31, r_M_isSort_32, r_M_isSort_33, r_M_isSort_33n, r_M_isSort_34, r_M_isSort_37, r_M_isSort_40, r_M_isSort_41, r_M_isSort_44, r_M_isSort_45, bnd, tl_s, tl_n, wt_nil, wt_int, wt_ref, wt_null, wt_long, Nat.reduceAdd, Nat.reduceLeDiff, if_true, if_false, decide_true, Bool.true_and, Bool.and_true, zok_n0, zok_n1, zok_bI, bI_eq0, bI_eq1, Bool.true_eq_false, Bool.false_eq_true, not_false_eq_true, not_true_eq_false, decide_false, decide_eq_false_iff_not, decide_eq_true_eq, Classical.not_not, ite_not, lit, Nat.reduceEqDiff, Nat.reduceLT, nI_add, nI_lt', nI_le', nI_eq', nI_sub', pk_mul, nI_rem', nI_div', nI_nz, remN, clampN, inb_nI, Nat.not_lt_zero, Nat.zero_le, Nat.le_zero_eq, if_true, if_false, m1_lt0, m1_eq, t_ite, f_ite, nI_and, nI_or, nI_xor, nI_shl1, nI_shr, nI_ushr, nI_not, nI_and_p2, Nat.one_mul, vrf_s, vrf_n, oF_174, oO_174, oA_175, oS_175, oA_176, oS_176, oA_177, oS_177, oA_178, oS_178, oA_179, oS_179, oA_180, oS_180, oA_181, oS_181, oA_182, oS_182, oA_183, oS_183, oA_184, oS_184, oA_185, oS_185, oA_186, oS_186, oA_187, oS_187, oA_188, oS_188, mO_M_isHeld, mO_M_isFree, mO_M_objectedBy, mO_M_everyone, x_isFree h (show s < 256 by omega)]
    unfold srt
    cases free (mOb m) s <;> rfl
theorem x_lay1 {k : Nat} (h : KM M n W Rs m) (hk : k < 3) : ∃ M', D PSM M M' ∧ Fl M' 185 (srt (mOb m) n k) (2 ^ n) ∧ ev (d + 6) m_M_laySets [.ref 174, .int (nI k)] NX M = run (ev (d + 5)) m_M_laySets 40 [some (.ref 174), some (.int (nI k)), some (.int (nI (fb_ct (srt (mOb m) n k) (2 ^ n)))), some (.int (nI (2 ^ n))), none, none, none] [] NX M' := by
  have hn := h.n8
  have h2 := p2_le8 hn
  have hpos := p2_pos (k := n)
  have hlt : 2 ^ n - 1 < 2 ^ n := by omega
  obtain ⟨M', ⟨h3, h5⟩, h4⟩ := lpE (R := fun i (X : Mem) => run (ev (d + 5)) m_M_laySets 4 [some (.ref 174), some (.int (nI k)), some (.int (nI (fb_ct (srt (mOb m) n k) i))), some (.int (nI i)), none, none, none] [] NX X) (I := fun i X => D PSM M X ∧ Fl X 185 (srt (mOb m) n k) i) (n := 2 ^ n) (by
    intro i X hi ⟨x1, x2⟩
    have hK := kmM h x1
    have hni : ¬ 2 ^ n - 1 < i := by omega
    have hc := fb_ct_le (srt (mOb m) n k) i
    cases e : srt (mOb m) n k i
    · refine ⟨X, ⟨x1, ?_⟩, ?_⟩
      · intro s hs hq
        by_cases es : s = i
        · rw [es, e] at hq; cases hq
        · exact x2 s (by omega) hq
      · try dsimp only
        rw [r_M_laySets_4]
        simp (disch := omega) only [r_M_laySets_5, r_M_laySets_5n, r_M_laySets_6, r_M_laySets_9, r_M_laySets_12, r_M_laySets_12n, r_M_laySets_13, r_M_laySets_14, r_M_laySets_15, r_M_laySets_18, r_M_laySets_21, r_M_laySets_24, r_M_laySets_24n, r_M_laySets_25, r_M_laySets_28, r_M_laySets_29, r_M_laySets_30, r_M_laySets_31, r_M_laySets_34, r_M_laySets_37, bnd, tl_s, tl_n, wt_nil, wt_int, wt_ref, wt_null, wt_long, Nat.reduceAdd, Nat.reduceLeDiff, if_true, if_false, decide_true, Bool.true_and, Bool.and_true, zok_n0, zok_n1, zok_bI, bI_eq0, bI_eq1, Bool.true_eq_false, Bool.false_eq_true, not_false_eq_true, not_true_eq_false, decide_false, decide_eq_false_iff_not, decide_eq_true_eq, Classical.not_not, ite_not, lit, Nat.reduceEqDiff, Nat.reduceLT, nI_add, nI_lt', nI_le', nI_eq', nI_sub', pk_mul, nI_rem', nI_div', nI_nz, remN, clampN, inb_nI, Nat.not_lt_zero, Nat.zero_le, Nat.le_zero_eq, if_true, if_false, m1_lt0, m1_eq, t_ite, f_ite, nI_and, nI_or, nI_xor, nI_shl1, nI_shr, nI_ushr, nI_not, nI_and_p2, Nat.one_mul, vrf_s, vrf_n, oF_174, oO_174, oA_175, oS_175, oA_176, oS_176, oA_177, oS_177, oA_178, oS_178, oA_179, oS_179, oA_180, oS_180, oA_181, oS_181, oA_182, oS_182, oA_183, oS_183, oA_184, oS_184, oA_185, oS_185, oA_186, oS_186, oA_187, oS_187, oA_188, oS_188, mO_M_everyone, mO_M_isSort, hni, x_everyone hK, x_isSort hK hk hi, e, bI_f]
        rw [ct_n e]
    · refine ⟨sI X 185 (fb_ct (srt (mOb m) n k) i) (nI i), ⟨x1.sI (by unfold PSM; omega), ?_⟩, ?_⟩
      · intro s hs hq
        by_cases es : s = i
        · rw [es, gI_sI_eq]
        · have := ct_lt (q := srt (mOb m) n k) (show s < i by omega) hq
          rw [gI_sI_nj (by omega)]
          exact x2 s (by omega) hq
      · try dsimp only
        rw [r_M_laySets_4]
        simp (disch := omega) only [r_M_laySets_5, r_M_laySets_5n, r_M_laySets_6, r_M_laySets_9, r_M_laySets_12, r_M_laySets_12n, r_M_laySets_13, r_M_laySets_14, r_M_laySets_15, r_M_laySets_18, r_M_laySets_21, r_M_laySets_24, r_M_laySets_24n, r_M_laySets_25, r_M_laySets_28, r_M_laySets_29, r_M_laySets_30, r_M_laySets_31, r_M_laySets_34, r_M_laySets_37, bnd, tl_s, tl_n, wt_nil, wt_int, wt_ref, wt_null, wt_long, Nat.reduceAdd, Nat.reduceLeDiff, if_true, if_false, decide_true, Bool.true_and, Bool.and_true, zok_n0, zok_n1, zok_bI, bI_eq0, bI_eq1, Bool.true_eq_false, Bool.false_eq_true, not_false_eq_true, not_true_eq_false, decide_false, decide_eq_false_iff_not, decide_eq_true_eq, Classical.not_not, ite_not, lit, Nat.reduceEqDiff, Nat.reduceLT, nI_add, nI_lt', nI_le', nI_eq', nI_sub', pk_mul, nI_rem', nI_div', nI_nz, remN, clampN, inb_nI, Nat.not_lt_zero, Nat.zero_le, Nat.le_zero_eq, if_true, if_false, m1_lt0, m1_eq, t_ite, f_ite, nI_and, nI_or, nI_xor, nI_shl1, nI_shr, nI_ushr, nI_not, nI_and_p2, Nat.one_mul, vrf_s, vrf_n, oF_174, oO_174, oA_175, oS_175, oA_176, oS_176, oA_177, oS_177, oA_178, oS_178, oA_179, oS_179, oA_180, oS_180, oA_181, oS_181, oA_182, oS_182, oA_183, oS_183, oA_184, oS_184, oA_185, oS_185, oA_186, oS_186, oA_187, oS_187, oA_188, oS_188, mO_M_everyone, mO_M_isSort, hni, x_everyone hK, x_isSort hK hk hi, e, bI_t, hK.1.se]
        rw [ct_s e]) (2 ^ n) 0 M (by omega) ⟨D.rfl', fun s hs => by omega⟩
  refine ⟨M', h3, h5, ?_⟩
  have hK := kmM h h3
  rw [e_M_laySets]
  simp (disch := omega) only [r_M_laySets_0, r_M_laySets_1, r_M_laySets_2, r_M_laySets_3, bnd, tl_s, tl_n, wt_nil, wt_int, wt_ref, wt_null, wt_long, Nat.reduceAdd, Nat.reduceLeDiff, if_true, if_false, decide_true, Bool.true_and, Bool.and_true, zok_n0, zok_n1, zok_bI, bI_eq0, bI_eq1, Bool.true_eq_false, Bool.false_eq_true, not_false_eq_true, not_true_eq_false, decide_false, decide_eq_false_iff_not, decide_eq_true_eq, Classical.not_not, ite_not, lit, Nat.reduceEqDiff, Nat.reduceLT, nI_add, nI_lt', nI_le', nI_eq', nI_sub', pk_mul, nI_rem', nI_div', nI_nz, remN, clampN, inb_nI, Nat.not_lt_zero, Nat.zero_le, Nat.le_zero_eq, if_true, if_false, m1_lt0, m1_eq, t_ite, f_ite, nI_and, nI_or, nI_xor, nI_shl1, nI_shr, nI_ushr, nI_not, nI_and_p2, Nat.one_mul, vrf_s, vrf_n, oF_174, oO_174, oA_175, oS_175, oA_176, oS_176, oA_177, oS_177, oA_178, oS_178, oA_179, oS_179, oA_180, oS_180, oA_181, oS_181, oA_182, oS_182, oA_183, oS_183, oA_184, oS_184, oA_185, oS_185, oA_186, oS_186, oA_187, oS_187, oA_188, oS_188, mO_M_everyone, mO_M_isSort]
  rw [show run (ev (d + 5)) m_M_laySets 4 [some (.ref 174), some (.int (nI k)), some (.int (nI 0)), some (.int (nI 0)), none, none, none] [] NX M = _ from h4]
  try dsimp only
  rw [r_M_laySets_4]
  simp (disch := omega) only [r_M_laySets_5, r_M_laySets_5n, r_M_laySets_6, r_M_laySets_9, bnd, tl_s, tl_n, wt_nil, wt_int, wt_ref, wt_null, wt_long, Nat.reduceAdd, Nat.reduceLeDiff, if_true, if_false, decide_true, Bool.true_and, Bool.and_true, zok_n0, zok_n1, zok_bI, bI_eq0, bI_eq1, Bool.true_eq_false, Bool.false_eq_true, not_false_eq_true, not_true_eq_false, decide_false, decide_eq_false_iff_not, decide_eq_true_eq, Classical.not_not, ite_not, lit, Nat.reduceEqDiff, Nat.reduceLT, nI_add, nI_lt', nI_le', nI_eq', nI_sub', pk_mul, nI_rem', nI_div', nI_nz, remN, clampN, inb_nI, Nat.not_lt_zero, Nat.zero_le, Nat.le_zero_eq, if_true, if_false, m1_lt0, m1_eq, t_ite, f_ite, nI_and, nI_or, nI_xor, nI_shl1, nI_shr, nI_ushr, nI_not, nI_and_p2, Nat.one_mul, vrf_s, vrf_n, oF_174, oO_174, oA_175, oS_175, oA_176, oS_176, oA_177, oS_177, oA_178, oS_178, oA_179, oS_179, oA_180, oS_180, oA_181, oS_181, oA_182, oS_182, oA_183, oS_183, oA_184, oS_184, oA_185, oS_185, oA_186, oS_186, oA_187, oS_187, oA_188, oS_188, mO_M_everyone, mO_M_isSort, hlt, x_everyone hK]
theorem l_mst {q : Nat → Bool} {N k kp i C : Nat} {X : Mem} (hr : gR X 174 27 = some 185) (hC : C = fb_ct q N) (hC2 : C ≤ 256) (hN : N ≤ 256) (hi : i < C) (hl : ∀ j, i ≤ j → j < C → gI X 185 j = nI (el q N j)) : run (ev d) m_M_laySets 66 [some (.ref 174), some (.int (nI k)), some (.int (nI C)), some (.int (nI kp)), some (.int (nI i)), some (.int (nI 1)), some (.int (nI (i + 1)))] [] NX X = run (ev d) m_M_laySets 108 [some (.ref 174), some (.int (nI k)), some (.int (nI C)), some (.int (nI kp)), some (.int (nI i)), some (.int (bI (mst q N i))), some (.int (nI C))] [] NX X := by
  refine (lp0 (R := fun t => run (ev d) m_M_laySets 66 [some (.ref 174), some (.int (nI k)), some (.int (nI C)), some (.int (nI kp)), some (.int (nI i)), some (.int (bI (allb (fun k => !decide (mns (el q N i) (el q N k) = 0)) t (i + 1)))), some (.int (nI (i + 1 + t)))] [] NX X) (n := C - (i + 1)) ?_).trans ?_
  · intro t ht
    have hni : ¬ C ≤ i + 1 + t := by omega
    have h1 := hl i (by omega) hi
    have h2 := hl (i + 1 + t) (by omega) (by omega)
    have e1 := (el_ok (q := q) (N := N) (k := i) (by omega)).1
    have h3 := mns_le (el q N i) (el q N (i + 1 + t))
    try dsimp only
    rw [r_M_laySets_66]
    simp (disch := omega) only [r_M_laySets_68, r_M_laySets_69, r_M_laySets_72, r_M_laySets_74, r_M_laySets_74n, r_M_laySets_75, r_M_laySets_78, r_M_laySets_80, r_M_laySets_81, r_M_laySets_81n, r_M_laySets_82, r_M_laySets_85, r_M_laySets_87, r_M_laySets_88, r_M_laySets_89, r_M_laySets_90, r_M_laySets_91, r_M_laySets_94, r_M_laySets_95, r_M_laySets_98, r_M_laySets_99, r_M_laySets_100, r_M_laySets_102, r_M_laySets_105, bnd, tl_s, tl_n, wt_nil, wt_int, wt_ref, wt_null, wt_long, Nat.reduceAdd, Nat.reduceLeDiff, if_true, if_false, decide_true, Bool.true_and, Bool.and_true, zok_n0, zok_n1, zok_bI, bI_eq0, bI_eq1, Bool.true_eq_false, Bool.false_eq_true, not_false_eq_true, not_true_eq_false, decide_false, decide_eq_false_iff_not, decide_eq_true_eq, Classical.not_not, ite_not, lit, Nat.reduceEqDiff, Nat.reduceLT, nI_add, nI_lt', nI_le', nI_eq', nI_sub', pk_mul, nI_rem', nI_div', nI_nz, remN, clampN, inb_nI, Nat.not_lt_zero, Nat.zero_le, Nat.le_zero_eq, if_true, if_false, m1_lt0, m1_eq, t_ite, f_ite, nI_and, nI_or, nI_xor, nI_shl1, nI_shr, nI_ushr, nI_not, nI_and_p2, Nat.one_mul, vrf_s, vrf_n, oF_174, oO_174, oA_175, oS_175, oA_176, oS_176, oA_177, oS_177, oA_178, oS_178, oA_179, oS_179, oA_180, oS_180, oA_181, oS_181, oA_182, oS_182, oA_183, oS_183, oA_184, oS_184, oA_185, oS_185, oA_186, oS_186, oA_187, oS_187, oA_188, oS_188, mO_M_everyone, mO_M_isSort, hr, hni, h1, h2, bI_and1, bI_and0]
    rw [allb_snoc]
    by_cases e : mns (el q N i) (el q N (i + 1 + t)) = 0
    · rw [if_pos e, decide_eq_true e, Bool.not_true, Bool.and_false, Nat.add_assoc]
    · rw [if_neg e, decide_eq_false e, Bool.not_false, Bool.and_true, Nat.add_assoc]
  · have hle : C ≤ i + 1 + (C - (i + 1)) := by omega
    try dsimp only
    rw [r_M_laySets_66]
    simp (disch := omega) only [r_M_laySets_68, r_M_laySets_69, bnd, tl_s, tl_n, wt_nil, wt_int, wt_ref, wt_null, wt_long, Nat.reduceAdd, Nat.reduceLeDiff, if_true, if_false, decide_true, Bool.true_and, Bool.and_true, zok_n0, zok_n1, zok_bI, bI_eq0, bI_eq1, Bool.true_eq_false, Bool.false_eq_true, not_false_eq_true, not_true_eq_false, decide_false, decide_eq_false_iff_not, decide_eq_true_eq, Classical.not_not, ite_not, lit, Nat.reduceEqDiff, Nat.reduceLT, nI_add, nI_lt', nI_le', nI_eq', nI_sub', pk_mul, nI_rem', nI_div', nI_nz, remN, clampN, inb_nI, Nat.not_lt_zero, Nat.zero_le, Nat.le_zero_eq, if_true, if_false, m1_lt0, m1_eq, t_ite, f_ite, nI_and, nI_or, nI_xor, nI_shl1, nI_shr, nI_ushr, nI_not, nI_and_p2, Nat.one_mul, vrf_s, vrf_n, oF_174, oO_174, oA_175, oS_175, oA_176, oS_176, oA_177, oS_177, oA_178, oS_178, oA_179, oS_179, oA_180, oS_180, oA_181, oS_181, oA_182, oS_182, oA_183, oS_183, oA_184, oS_184, oA_185, oS_185, oA_186, oS_186, oA_187, oS_187, oA_188, oS_188, mO_M_everyone, mO_M_isSort, hle]
    rw [show i + 1 + (C - (i + 1)) = C by omega]
    unfold mst
    rw [← hC]
def q2s (B n k s : Nat) : Bool := srt B n k s && (decide (k = 0) || mxs (srt B n k) (2 ^ n) s)
theorem x_laySets {k : Nat} (h : KM M n W Rs m) (hk : k < 3) : ∃ M', D PSM M M' ∧ Lst M' 185 (q2s (mOb m) n k) (2 ^ n) ∧ ev (d + 6) m_M_laySets [.ref 174, .int (nI k)] NX M = some (some (.int (nI (fb_ct (q2s (mOb m) n k) (2 ^ n)))), NX, M') := by
  have hn := h.n8
  have h2 := p2_le8 hn
  obtain ⟨M1, h3, h4, h5⟩ := x_lay1 (d := d) h hk
  have hK1 := kmM h h3
  have hc := fb_ct_le (srt (mOb m) n k) (2 ^ n)
  by_cases e0 : k = 0
  · refine ⟨M1, h3, ?_, ?_⟩
    · have e : ∀ s, s < 2 ^ n → q2s (mOb m) n k s = srt (mOb m) n k s := fun s _ => by unfold q2s; rw [decide_eq_true e0, Bool.true_or, Bool.and_true]
      intro j hj
      rw [fb_ct_cong e] at hj
      rw [el_congr e]
      exact h4.lst j hj
    · have e : ∀ s, s < 2 ^ n → q2s (mOb m) n k s = srt (mOb m) n k s := fun s _ => by unfold q2s; rw [decide_eq_true e0, Bool.true_or, Bool.and_true]
      rw [h5, fb_ct_cong e]
      rw [e0]
      simp (disch := omega) only [r_M_laySets_40, r_M_laySets_41, r_M_laySets_44, r_M_laySets_45, bnd, tl_s, tl_n, wt_nil, wt_int, wt_ref, wt_null, wt_long, Nat.reduceAdd, Nat.reduceLeDiff, if_true, if_false, decide_true, Bool.true_and, Bool.and_true, zok_n0, zok_n1, zok_bI, bI_eq0, bI_eq1, Bool.true_eq_false, Bool.false_eq_true, not_false_eq_true, not_true_eq_false, decide_false, decide_eq_false_iff_not, decide_eq_true_eq, Classical.not_not, ite_not, lit, Nat.reduceEqDiff, Nat.reduceLT, nI_add, nI_lt', nI_le', nI_eq', nI_sub', pk_mul, nI_rem', nI_div', nI_nz, remN, clampN, inb_nI, Nat.not_lt_zero, Nat.zero_le, Nat.le_zero_eq, if_true, if_false, m1_lt0, m1_eq, t_ite, f_ite, nI_and, nI_or, nI_xor, nI_shl1, nI_shr, nI_ushr, nI_not, nI_and_p2, Nat.one_mul, vrf_s, vrf_n, oF_174, oO_174, oA_175, oS_175, oA_176, oS_176, oA_177, oS_177, oA_178, oS_178, oA_179, oS_179, oA_180, oS_180, oA_181, oS_181, oA_182, oS_182, oA_183, oS_183, oA_184, oS_184, oA_185, oS_185, oA_186, oS_186, oA_187, oS_187, oA_188, oS_188, mO_M_everyone, mO_M_isSort]
  · have hCe : ∃ C, C = fb_ct (srt (mOb m) n k) (2 ^ n) := ⟨_, rfl⟩
    obtain ⟨C, hC⟩ := hCe
    rw [← hC] at h5
    have hl := h4.lst
    obtain ⟨⟨X, z5, z6⟩, ⟨i1, i2, i3⟩, h6⟩ := lpE (R := fun i (x : Mem × Option Value × Option Value) => run (ev (d + 5)) m_M_laySets 51 [some (.ref 174), some (.int (nI k)), some (.int (nI C)), some (.int (nI (fb_ct (mst (srt (mOb m) n k) (2 ^ n)) i))), some (.int (nI i)), x.2.1, x.2.2] [] NX x.1) (I := fun i x => D PSM M x.1 ∧ (∀ j, i ≤ j → j < C → gI x.1 185 j = nI (el (srt (mOb m) n k) (2 ^ n) j)) ∧ ∀ j, j < i → mst (srt (mOb m) n k) (2 ^ n) j = true → gI x.1 185 (fb_ct (mst (srt (mOb m) n k) (2 ^ n)) j) = nI (el (srt (mOb m) n k) (2 ^ n) j)) (n := C) (by
      intro i ⟨X, z5, z6⟩ hi ⟨i1, i2, i3⟩
      try dsimp only at i1 i2 i3
      have hK := kmM h i1
      have hni : ¬ C ≤ i := by omega
      have hkc := fb_ct_le (mst (srt (mOb m) n k) (2 ^ n)) i
      have hm := l_mst (d := d + 5) (k := k) (kp := fb_ct (mst (srt (mOb m) n k) (2 ^ n)) i) hK.1.se hC (show C ≤ 256 by omega) h2 hi i2
      have hread := i2 i (Nat.le_refl _) hi
      cases e : mst (srt (mOb m) n k) (2 ^ n) i
      · refine ⟨(X, some (.int (bI false)), some (.int (nI C))), ⟨i1, fun j a b => i2 j (by omega) b, fun j a b => ?_⟩, ?_⟩
        · by_cases ej : j = i
          · rw [ej, e] at b; cases b
          · exact i3 j (by omega) b
        · try dsimp only
          rw [r_M_laySets_51]
          simp (disch := omega) only [r_M_laySets_53, r_M_laySets_54, r_M_laySets_57, r_M_laySets_58, r_M_laySets_60, r_M_laySets_62, r_M_laySets_63, r_M_laySets_64, bnd, tl_s, tl_n, wt_nil, wt_int, wt_ref, wt_null, wt_long, Nat.reduceAdd, Nat.reduceLeDiff, if_true, if_false, decide_true, Bool.true_and, Bool.and_true, zok_n0, zok_n1, zok_bI, bI_eq0, bI_eq1, Bool.true_eq_false, Bool.false_eq_true, not_false_eq_true, not_true_eq_false, decide_false, decide_eq_false_iff_not, decide_eq_true_eq, Classical.not_not, ite_not, lit, Nat.reduceEqDiff, Nat.reduceLT, nI_add, nI_lt', nI_le', nI_eq', nI_sub', pk_mul, nI_rem', nI_div', nI_nz, remN, clampN, inb_nI, Nat.not_lt_zero, Nat.zero_le, Nat.le_zero_eq, if_true, if_false, m1_lt0, m1_eq, t_ite, f_ite, nI_and, nI_or, nI_xor, nI_shl1, nI_shr, nI_ushr, nI_not, nI_and_p2, Nat.one_mul, vrf_s, vrf_n, oF_174, oO_174, oA_175, oS_175, oA_176, oS_176, oA_177, oS_177, oA_178, oS_178, oA_179, oS_179, oA_180, oS_180, oA_181, oS_181, oA_182, oS_182, oA_183, oS_183, oA_184, oS_184, oA_185, oS_185, oA_186, oS_186, oA_187, oS_187, oA_188, oS_188, mO_M_everyone, mO_M_isSort, hni]
          rw [hm, e, ct_n e]
          simp (disch := omega) only [r_M_laySets_108, r_M_laySets_110, r_M_laySets_113, r_M_laySets_116, r_M_laySets_116n, r_M_laySets_117, r_M_laySets_120, r_M_laySets_121, r_M_laySets_121n, r_M_laySets_122, r_M_laySets_125, r_M_laySets_127, r_M_laySets_128, r_M_laySets_129, r_M_laySets_132, r_M_laySets_135, bnd, tl_s, tl_n, wt_nil, wt_int, wt_ref, wt_null, wt_long, Nat.reduceAdd, Nat.reduceLeDiff, if_true, if_false, decide_true, Bool.true_and, Bool.and_true, zok_n0, zok_n1, zok_bI, bI_eq0, bI_eq1, Bool.true_eq_false, Bool.false_eq_true, not_false_eq_true, not_true_eq_false, decide_false, decide_eq_false_iff_not, decide_eq_true_eq, Classical.not_not, ite_not, lit, Nat.reduceEqDiff, Nat.reduceLT, nI_add, nI_lt', nI_le', nI_eq', nI_sub', pk_mul, nI_rem', nI_div', nI_nz, remN, clampN, inb_nI, Nat.not_lt_zero, Nat.zero_le, Nat.le_zero_eq, if_true, if_false, m1_lt0, m1_eq, t_ite, f_ite, nI_and, nI_or, nI_xor, nI_shl1, nI_shr, nI_ushr, nI_not, nI_and_p2, Nat.one_mul, vrf_s, vrf_n, oF_174, oO_174, oA_175, oS_175, oA_176, oS_176, oA_177, oS_177, oA_178, oS_178, oA_179, oS_179, oA_180, oS_180, oA_181, oS_181, oA_182, oS_182, oA_183, oS_183, oA_184, oS_184, oA_185, oS_185, oA_186, oS_186, oA_187, oS_187, oA_188, oS_188, mO_M_everyone, mO_M_isSort]
      · refine ⟨(sI X 185 (fb_ct (mst (srt (mOb m) n k) (2 ^ n)) i) (nI (el (srt (mOb m) n k) (2 ^ n) i)), some (.int (bI true)), some (.int (nI C))), ⟨i1.sI (by unfold PSM; omega), fun j a b => ?_, fun j a b => ?_⟩, ?_⟩
        · try dsimp only
          rw [gI_sI_nj (by omega)]
          exact i2 j (by omega) b
        · try dsimp only
          by_cases ej : j = i
          · rw [ej, gI_sI_eq]
          · have := ct_lt (q := mst (srt (mOb m) n k) (2 ^ n)) (show j < i by omega) b
            rw [gI_sI_nj (by omega)]
            exact i3 j (by omega) b
        · try dsimp only
          rw [r_M_laySets_51]
          simp (disch := omega) only [r_M_laySets_53, r_M_laySets_54, r_M_laySets_57, r_M_laySets_58, r_M_laySets_60, r_M_laySets_62, r_M_laySets_63, r_M_laySets_64, bnd, tl_s, tl_n, wt_nil, wt_int, wt_ref, wt_null, wt_long, Nat.reduceAdd, Nat.reduceLeDiff, if_true, if_false, decide_true, Bool.true_and, Bool.and_true, zok_n0, zok_n1, zok_bI, bI_eq0, bI_eq1, Bool.true_eq_false, Bool.false_eq_true, not_false_eq_true, not_true_eq_false, decide_false, decide_eq_false_iff_not, decide_eq_true_eq, Classical.not_not, ite_not, lit, Nat.reduceEqDiff, Nat.reduceLT, nI_add, nI_lt', nI_le', nI_eq', nI_sub', pk_mul, nI_rem', nI_div', nI_nz, remN, clampN, inb_nI, Nat.not_lt_zero, Nat.zero_le, Nat.le_zero_eq, if_true, if_false, m1_lt0, m1_eq, t_ite, f_ite, nI_and, nI_or, nI_xor, nI_shl1, nI_shr, nI_ushr, nI_not, nI_and_p2, Nat.one_mul, vrf_s, vrf_n, oF_174, oO_174, oA_175, oS_175, oA_176, oS_176, oA_177, oS_177, oA_178, oS_178, oA_179, oS_179, oA_180, oS_180, oA_181, oS_181, oA_182, oS_182, oA_183, oS_183, oA_184, oS_184, oA_185, oS_185, oA_186, oS_186, oA_187, oS_187, oA_188, oS_188, mO_M_everyone, mO_M_isSort, hni]
          rw [hm, e, ct_s e]
          simp (disch := omega) only [r_M_laySets_108, r_M_laySets_110, r_M_laySets_113, r_M_laySets_116, r_M_laySets_116n, r_M_laySets_117, r_M_laySets_120, r_M_laySets_121, r_M_laySets_121n, r_M_laySets_122, r_M_laySets_125, r_M_laySets_127, r_M_laySets_128, r_M_laySets_129, r_M_laySets_132, r_M_laySets_135, bnd, tl_s, tl_n, wt_nil, wt_int, wt_ref, wt_null, wt_long, Nat.reduceAdd, Nat.reduceLeDiff, if_true, if_false, decide_true, Bool.true_and, Bool.and_true, zok_n0, zok_n1, zok_bI, bI_eq0, bI_eq1, Bool.true_eq_false, Bool.false_eq_true, not_false_eq_true, not_true_eq_false, decide_false, decide_eq_false_iff_not, decide_eq_true_eq, Classical.not_not, ite_not, lit, Nat.reduceEqDiff, Nat.reduceLT, nI_add, nI_lt', nI_le', nI_eq', nI_sub', pk_mul, nI_rem', nI_div', nI_nz, remN, clampN, inb_nI, Nat.not_lt_zero, Nat.zero_le, Nat.le_zero_eq, if_true, if_false, m1_lt0, m1_eq, t_ite, f_ite, nI_and, nI_or, nI_xor, nI_shl1, nI_shr, nI_ushr, nI_not, nI_and_p2, Nat.one_mul, vrf_s, vrf_n, oF_174, oO_174, oA_175, oS_175, oA_176, oS_176, oA_177, oS_177, oA_178, oS_178, oA_179, oS_179, oA_180, oS_180, oA_181, oS_181, oA_182, oS_182, oA_183, oS_183, oA_184, oS_184, oA_185, oS_185, oA_186, oS_186, oA_187, oS_187, oA_188, oS_188, mO_M_everyone, mO_M_isSort, hK.1.se, hread]) C 0 (M1, none, none) (by omega) ⟨h3, fun j _ hj => hl j (by omega), fun j hj => by omega⟩
    try dsimp only at i1 i2 i3
    have e2 : ∀ s, q2s (mOb m) n k s = true → srt (mOb m) n k s = true := fun s hs => by unfold q2s at hs; rw [Bool.and_eq_true] at hs; exact hs.1
    have e3 : ∀ j, j < C → q2s (mOb m) n k (el (srt (mOb m) n k) (2 ^ n) j) = mst (srt (mOb m) n k) (2 ^ n) j := by
      intro j hj
      unfold q2s
      rw [(el_ok (q := srt (mOb m) n k) (N := 2 ^ n) (k := j) (by omega)).2.1, decide_eq_false e0, Bool.false_or, Bool.true_and, mst_mxs (by omega)]
    have e4 : ∀ s, s ≤ 2 ^ n → fb_ct (q2s (mOb m) n k) s = fb_ct (mst (srt (mOb m) n k) (2 ^ n)) (fb_ct (srt (mOb m) n k) s) := by
      intro s hs
      rw [ct_comp e2 s hs]
      apply fb_ct_cong
      intro j hj
      have := fb_ct_mono (srt (mOb m) n k) hs
      exact e3 j (by omega)
    refine ⟨X, i1, ?_, ?_⟩
    · intro j hj
      obtain ⟨a1, a2, a3⟩ := el_ok hj
      have b1 := e2 _ a2
      have b2 := ct_lt (q := srt (mOb m) n k) a1 b1
      have b3 := el_at a1 b1
      have b4 := i3 (fb_ct (srt (mOb m) n k) (el (q2s (mOb m) n k) (2 ^ n) j)) (by omega) (by rw [← e3 _ (by omega), b3]; exact a2)
      rw [b3, ← e4 _ (by omega), a3] at b4
      exact b4
    · rw [h5]
      have hk0 : ¬ nI k = nI 0 := by rw [nI_eq' (by omega) (by decide)]; exact e0
      have hk0' : ¬ k = 0 := e0
      simp (disch := omega) only [r_M_laySets_40, r_M_laySets_41, r_M_laySets_44, r_M_laySets_45, r_M_laySets_46, r_M_laySets_47, r_M_laySets_48, r_M_laySets_49, bnd, tl_s, tl_n, wt_nil, wt_int, wt_ref, wt_null, wt_long, Nat.reduceAdd, Nat.reduceLeDiff, if_true, if_false, decide_true, Bool.true_and, Bool.and_true, zok_n0, zok_n1, zok_bI, bI_eq0, bI_eq1, Bool.true_eq_false, Bool.false_eq_true, not_false_eq_true, not_true_eq_false, decide_false, decide_eq_false_iff_not, decide_eq_true_eq, Classical.not_not, ite_not, lit, Nat.reduceEqDiff, Nat.reduceLT, nI_add, nI_lt', nI_le', nI_eq', nI_sub', pk_mul, nI_rem', nI_div', nI_nz, remN, clampN, inb_nI, Nat.not_lt_zero, Nat.zero_le, Nat.le_zero_eq, if_true, if_false, m1_lt0, m1_eq, t_ite, f_ite, nI_and, nI_or, nI_xor, nI_shl1, nI_shr, nI_ushr, nI_not, nI_and_p2, Nat.one_mul, vrf_s, vrf_n, oF_174, oO_174, oA_175, oS_175, oA_176, oS_176, oA_177, oS_177, oA_178, oS_178, oA_179, oS_179, oA_180, oS_180, oA_181, oS_181, oA_182, oS_182, oA_183, oS_183, oA_184, oS_184, oA_185, oS_185, oA_186, oS_186, oA_187, oS_187, oA_188, oS_188, mO_M_everyone, mO_M_isSort, hk0']
      rw [show run (ev (d + 5)) m_M_laySets 51 [some (.ref 174), some (.int (nI k)), some (.int (nI C)), some (.int (nI 0)), some (.int (nI 0)), none, none] [] NX M1 = _ from h6]
      try dsimp only
      rw [r_M_laySets_51]
      simp (disch := omega) only [r_M_laySets_53, r_M_laySets_54, bnd, tl_s, tl_n, wt_nil, wt_int, wt_ref, wt_null, wt_long, Nat.reduceAdd, Nat.reduceLeDiff, if_true, if_false, decide_true, Bool.true_and, Bool.and_true, zok_n0, zok_n1, zok_bI, bI_eq0, bI_eq1, Bool.true_eq_false, Bool.false_eq_true, not_false_eq_true, not_true_eq_false, decide_false, decide_eq_false_iff_not, decide_eq_true_eq, Classical.not_not, ite_not, lit, Nat.reduceEqDiff, Nat.reduceLT, nI_add, nI_lt', nI_le', nI_eq', nI_sub', pk_mul, nI_rem', nI_div', nI_nz, remN, clampN, inb_nI, Nat.not_lt_zero, Nat.zero_le, Nat.le_zero_eq, if_true, if_false, m1_lt0, m1_eq, t_ite, f_ite, nI_and, nI_or, nI_xor, nI_shl1, nI_shr, nI_ushr, nI_not, nI_and_p2, Nat.one_mul, vrf_s, vrf_n, oF_174, oO_174, oA_175, oS_175, oA_176, oS_176, oA_177, oS_177, oA_178, oS_178, oA_179, oS_179, oA_180, oS_180, oA_181, oS_181, oA_182, oS_182, oA_183, oS_183, oA_184, oS_184, oA_185, oS_185, oA_186, oS_186, oA_187, oS_187, oA_188, oS_188, mO_M_everyone, mO_M_isSort, Nat.le_refl]
      simp (disch := omega) only [r_M_laySets_138, r_M_laySets_139, bnd, tl_s, tl_n, wt_nil, wt_int, wt_ref, wt_null, wt_long, Nat.reduceAdd, Nat.reduceLeDiff, if_true, if_false, decide_true, Bool.true_and, Bool.and_true, zok_n0, zok_n1, zok_bI, bI_eq0, bI_eq1, Bool.true_eq_false, Bool.false_eq_true, not_false_eq_true, not_true_eq_false, decide_false, decide_eq_false_iff_not, decide_eq_true_eq, Classical.not_not, ite_not, lit, Nat.reduceEqDiff, Nat.reduceLT, nI_add, nI_lt', nI_le', nI_eq', nI_sub', pk_mul, nI_rem', nI_div', nI_nz, remN, clampN, inb_nI, Nat.not_lt_zero, Nat.zero_le, Nat.le_zero_eq, if_true, if_false, m1_lt0, m1_eq, t_ite, f_ite, nI_and, nI_or, nI_xor, nI_shl1, nI_shr, nI_ushr, nI_not, nI_and_p2, Nat.one_mul, vrf_s, vrf_n, oF_174, oO_174, oA_175, oS_175, oA_176, oS_176, oA_177, oS_177, oA_178, oS_178, oA_179, oS_179, oA_180, oS_180, oA_181, oS_181, oA_182, oS_182, oA_183, oS_183, oA_184, oS_184, oA_185, oS_185, oA_186, oS_186, oA_187, oS_187, oA_188, oS_188, mO_M_everyone, mO_M_isSort]
      rw [e4 _ (Nat.le_refl _), ← hC]
theorem x_setOf {k : Nat} {v : Int32} (h : KM M n W Rs m) (hk : k < 3) : ∃ M', D PSM M M' ∧ ev (d + 7) m_M_setOf [.ref 174, .int (nI k), .int v] NX M = some (some (.int (ansI (q2s (mOb m) n k) (2 ^ n) v)), NX, M') := by
  have hn := h.n8
  have h2 := p2_le8 hn
  obtain ⟨M1, h3, h4, h5⟩ := x_laySets (d := d) h hk
  have hK := kmM h h3
  have hc := fb_ct_le (q2s (mOb m) n k) (2 ^ n)
  refine ⟨M1, h3, ?_⟩
  rw [e_M_setOf]
  unfold ansI
  by_cases e : v = -nI 1
  · rw [if_pos e, e]
    simp (disch := omega) only [r_M_setOf_0, r_M_setOf_0n, r_M_setOf_1, r_M_setOf_2, r_M_setOf_5, r_M_setOf_6, r_M_setOf_7, r_M_setOf_8, r_M_setOf_11, r_M_setOf_12, r_M_setOf_15, r_M_setOf_16, r_M_setOf_17, r_M_setOf_18, r_M_setOf_19, r_M_setOf_20, r_M_setOf_23, r_M_setOf_26, r_M_setOf_26n, r_M_setOf_27, r_M_setOf_30, r_M_setOf_31, r_M_setOf_32, r_M_setOf_35, r_M_setOf_37, bnd, tl_s, tl_n, wt_nil, wt_int, wt_ref, wt_null, wt_long, Nat.reduceAdd, Nat.reduceLeDiff, if_true, if_false, decide_true, Bool.true_and, Bool.and_true, zok_n0, zok_n1, zok_bI, bI_eq0, bI_eq1, Bool.true_eq_false, Bool.false_eq_true, not_false_eq_true, not_true_eq_false, decide_false, decide_eq_false_iff_not, decide_eq_true_eq, Classical.not_not, ite_not, lit, Nat.reduceEqDiff, Nat.reduceLT, nI_add, nI_lt', nI_le', nI_eq', nI_sub', pk_mul, nI_rem', nI_div', nI_nz, remN, clampN, inb_nI, Nat.not_lt_zero, Nat.zero_le, Nat.le_zero_eq, if_true, if_false, m1_lt0, m1_eq, t_ite, f_ite, nI_and, nI_or, nI_xor, nI_shl1, nI_shr, nI_ushr, nI_not, nI_and_p2, Nat.one_mul, vrf_s, vrf_n, oF_174, oO_174, oA_175, oS_175, oA_176, oS_176, oA_177, oS_177, oA_178, oS_178, oA_179, oS_179, oA_180, oS_180, oA_181, oS_181, oA_182, oS_182, oA_183, oS_183, oA_184, oS_184, oA_185, oS_185, oA_186, oS_186, oA_187, oS_187, oA_188, oS_188, mO_M_laySets, mO_M_isIn, h5]
  · rw [if_neg e]
    rcases ix_cases v (n := fb_ct (q2s (mOb m) n k) (2 ^ n)) (by omega) with ⟨j, hj, rfl⟩ | hv
    · rw [if_pos ⟨j, hj, rfl⟩]
      have hj1 : j ≤ fb_ct (q2s (mOb m) n k) (2 ^ n) - 1 := by omega
      simp (disch := omega) only [r_M_setOf_0, r_M_setOf_0n, r_M_setOf_1, r_M_setOf_2, r_M_setOf_5, r_M_setOf_6, r_M_setOf_7, r_M_setOf_8, r_M_setOf_11, r_M_setOf_12, r_M_setOf_15, r_M_setOf_16, r_M_setOf_17, r_M_setOf_18, r_M_setOf_19, r_M_setOf_20, r_M_setOf_23, r_M_setOf_26, r_M_setOf_26n, r_M_setOf_27, r_M_setOf_30, r_M_setOf_31, r_M_setOf_32, r_M_setOf_35, r_M_setOf_37, bnd, tl_s, tl_n, wt_nil, wt_int, wt_ref, wt_null, wt_long, Nat.reduceAdd, Nat.reduceLeDiff, if_true, if_false, decide_true, Bool.true_and, Bool.and_true, zok_n0, zok_n1, zok_bI, bI_eq0, bI_eq1, Bool.true_eq_false, Bool.false_eq_true, not_false_eq_true, not_true_eq_false, decide_false, decide_eq_false_iff_not, decide_eq_true_eq, Classical.not_not, ite_not, lit, Nat.reduceEqDiff, Nat.reduceLT, nI_add, nI_lt', nI_le', nI_eq', nI_sub', pk_mul, nI_rem', nI_div', nI_nz, remN, clampN, inb_nI, Nat.not_lt_zero, Nat.zero_le, Nat.le_zero_eq, if_true, if_false, m1_lt0, m1_eq, t_ite, f_ite, nI_and, nI_or, nI_xor, nI_shl1, nI_shr, nI_ushr, nI_not, nI_and_p2, Nat.one_mul, vrf_s, vrf_n, oF_174, oO_174, oA_175, oS_175, oA_176, oS_176, oA_177, oS_177, oA_178, oS_178, oA_179, oS_179, oA_180, oS_180, oA_181, oS_181, oA_182, oS_182, oA_183, oS_183, oA_184, oS_184, oA_185, oS_185, oA_186, oS_186, oA_187, oS_187, oA_188, oS_188, mO_M_laySets, mO_M_isIn, h5, x_isIn, hj1, true_and, bI_t, hK.1.se, h4 j hj]
    · rw [if_neg (fun ⟨j, hj, z⟩ => by have := ne_bad hv hj (by omega); rw [← this]; exact z)]
      have h1 := no_ix1 (n := fb_ct (q2s (mOb m) n k) (2 ^ n)) (by omega) hv
      simp (disch := omega) only [r_M_setOf_0, r_M_setOf_0n, r_M_setOf_1, r_M_setOf_2, r_M_setOf_5, r_M_setOf_6, r_M_setOf_7, r_M_setOf_8, r_M_setOf_11, r_M_setOf_12, r_M_setOf_15, r_M_setOf_16, r_M_setOf_17, r_M_setOf_18, r_M_setOf_19, r_M_setOf_20, r_M_setOf_23, r_M_setOf_26, r_M_setOf_26n, r_M_setOf_27, r_M_setOf_30, r_M_setOf_31, r_M_setOf_32, r_M_setOf_35, r_M_setOf_37, bnd, tl_s, tl_n, wt_nil, wt_int, wt_ref, wt_null, wt_long, Nat.reduceAdd, Nat.reduceLeDiff, if_true, if_false, decide_true, Bool.true_and, Bool.and_true, zok_n0, zok_n1, zok_bI, bI_eq0, bI_eq1, Bool.true_eq_false, Bool.false_eq_true, not_false_eq_true, not_true_eq_false, decide_false, decide_eq_false_iff_not, decide_eq_true_eq, Classical.not_not, ite_not, lit, oF_174, oO_174, oA_185, oS_185, mO_M_laySets, h5, vrf_s, e, x_isIn, decide_eq_false h1, bI_f, nI_eq', Nat.reduceEqDiff]
theorem sub_free {B s t : Nat} (h : sub s t) (hf : free B t = true) : free B s = true := by
  unfold free at hf ⊢
  rw [decide_eq_true_eq, and0] at hf ⊢
  intro i ⟨h1, h2⟩
  exact hf i ⟨tg_mono h i h1, h i h2⟩
theorem q_st {B : Nat} (hB : OkB n B) {s : Nat} (hs : s < 2 ^ n) : q2s B n 0 s = qSt B n s := by
  unfold q2s srt qSt free
  rw [if_neg (by decide), decide_eq_false (show ¬ 0 = 2 by decide), Bool.false_or, decide_eq_true (show 0 = 0 from rfl), Bool.true_or, Bool.and_true, Bool.eq_iff_iff, Bool.and_eq_true, decide_eq_true_eq, decide_eq_true_eq, decide_eq_true_eq, and0]
  have ht := tg_lt (s := s) hB
  constructor
  · intro ⟨h1, h2⟩
    apply eq_bits
    intro i
    have e := congrArg (fun x => Nat.testBit x i) h2
    simp only [Nat.testBit_or, told_bit] at e
    rw [mns_bit, told_bit, ← e]
    have := h1 i
    cases e1 : (tg B s).testBit i <;> cases e2 : s.testBit i <;> simp
    exact this ⟨e1, e2⟩
  · intro h
    constructor
    · intro i ⟨h1, h2⟩
      rw [h, mns_bit, h2] at h1
      simp at h1
    · apply eq_bits
      intro i
      rw [h, Nat.testBit_or, mns_bit, told_bit]
      cases e2 : s.testBit i
      · simp
      · have : i < n := by
          apply Classical.byContradiction; intro z; rw [bit_big hs (by omega)] at e2; cases e2
        simp [this]
theorem and_self_iff {s t : Nat} : t &&& s = s ↔ mns s t = 0 := by
  rw [mns0]
  constructor
  · intro h i hi
    rw [← h, Nat.testBit_and, Bool.and_eq_true] at hi
    exact hi.1
  · intro h
    apply eq_bits
    intro i
    rw [Nat.testBit_and]
    cases e : s.testBit i
    · simp
    · rw [h i e]; rfl
theorem q_pf {B s : Nat} : q2s B n 1 s = qPf B (2 ^ n) s := by
  unfold q2s srt qPf wth mxs
  rw [if_pos rfl, decide_eq_false (show ¬ 1 = 0 by decide), Bool.false_or, Bool.not_not]
  congr 1
  have : (fun t => !(if 1 = 1 then hold B t else free B t && (decide (1 = 2) || decide (tg B t ||| t = 2 ^ n - 1))) || !decide (mns s t = 0)) = fun t => !(hold B t && decide (t &&& s = s)) := by
    funext t
    rw [if_pos rfl, Bool.not_and]
    congr 2
    exact decide_eq_decide.mpr and_self_iff.symm
  exact congrArg (fun f => allb f (2 ^ n - (s + 1)) (s + 1)) this
theorem q_nv {B s : Nat} (hn : n ≤ 8) (hs : s < 2 ^ n) : q2s B n 2 s = qNv B n s := by
  have hsr : ∀ t, srt B n 2 t = free B t := by
    intro t
    unfold srt
    rw [if_neg (by decide), decide_eq_true (show 2 = 2 from rfl), Bool.true_or, Bool.and_true]
  unfold q2s qNv
  rw [hsr, decide_eq_false (show ¬ 2 = 0 by decide), Bool.false_or]
  cases hf : free B s
  · rfl
  · rw [Bool.true_and, Bool.true_and]
    unfold mxs grw
    rw [Bool.not_not, Bool.eq_iff_iff, allb_iff, allb_iff]
    constructor
    · intro h p hp1 hp2
      cases e1 : (mns (2 ^ n - 1) s).testBit p
      · rfl
      · cases e2 : free B (s ||| 2 ^ p)
        · rfl
        · exfalso
          rw [mns_bit, told_bit, Bool.and_eq_true, decide_eq_true_eq, Bool.not_eq_true'] at e1
          have hlt : s ||| 2 ^ p < 2 ^ n := or_p hs (Nat.pow_lt_pow_right (by decide) e1.1)
          have hgt : s < s ||| 2 ^ p := by
            have h1 : s ≤ s ||| 2 ^ p := Nat.left_le_or
            have h2 : s ≠ s ||| 2 ^ p := by
              intro z
              have := congrArg (fun x => Nat.testBit x p) z
              simp only [Nat.testBit_or, Nat.testBit_two_pow_self, Bool.or_true] at this
              rw [e1.2] at this; cases this
            omega
          have := h (s ||| 2 ^ p) (by omega) (by omega)
          rw [hsr, e2, Bool.not_true, Bool.false_or, Bool.not_eq_true', decide_eq_false_iff_not, mns0] at this
          exact this (fun i hi => by rw [Nat.testBit_or, hi]; rfl)
    · intro h t ht1 ht2
      rw [hsr]
      cases e : free B t
      · rfl
      · rw [Bool.not_true, Bool.false_or, Bool.not_eq_true', decide_eq_false_iff_not, mns0]
        intro hsub
        have hne : ∃ p, t.testBit p = true ∧ s.testBit p = false := by
          apply Classical.byContradiction
          intro z
          have : t = s := by
            apply sub_antisymm _ hsub
            intro i hi
            cases e2 : s.testBit i
            · exact absurd ⟨i, hi, e2⟩ z
            · rfl
          omega
        obtain ⟨p, hp1, hp2⟩ := hne
        have hpn : p < n := by
          apply Classical.byContradiction; intro z; rw [bit_big (show t < 2 ^ n by omega) (by omega)] at hp1; cases hp1
        have := h p (by omega) (by omega)
        rw [mns_bit, told_bit, decide_eq_true hpn, hp2] at this
        rw [sub_free (t := t) (s := s ||| 2 ^ p) (fun i hi => by
          rw [Nat.testBit_or, Bool.or_eq_true, Nat.testBit_two_pow, decide_eq_true_eq] at hi
          rcases hi with hi | rfl
          · exact hsub i hi
          · exact hp1) e] at this
        cases this
theorem P_stables {v : Int32} (hX : KX M 4 n W Rs m) (hM : KM M n W Rs m) : PubR m_X_stables m_M_stables [.int v] M := by
  have h2 := p2_le8 hX.n8
  obtain ⟨M1, c1, c2⟩ := y_findStable (d := 96) hX
  have hX1 := kxX hX c1.1
  obtain ⟨M2, m1, m2⟩ := x_setOf (d := 92) (k := 0) (v := v) (kmX hM c1.1) (by decide)
  rw [ansI_congr (fun s hs => q_st hX.okb hs)] at m2
  have ha := y_found (d := 98) (hX1.r 148 0 149 rfl) c1 h2 (v := v)
  refine ⟨.int (ansI (qSt (mOb m) n) (2 ^ n) v), M1, M2, ?_, c1.1, ?_, m1⟩
  · rw [e_X_stables]
    simp (disch := omega) only [r_X_stables_0, r_X_stables_0n, r_X_stables_1, r_X_stables_4, r_X_stables_4n, r_X_stables_5, r_X_stables_8, r_X_stables_11, r_X_stables_14, r_X_stables_14n, r_X_stables_15, r_X_stables_18, r_X_stables_21, r_X_stables_24, r_X_stables_24n, r_X_stables_25, r_X_stables_28, r_X_stables_29, r_X_stables_32, bnd, tl_s, tl_n, wt_nil, wt_int, wt_ref, wt_null, wt_long, Nat.reduceAdd, Nat.reduceLeDiff, if_true, if_false, decide_true, Bool.true_and, Bool.and_true, zok_n0, zok_n1, zok_bI, bI_eq0, bI_eq1, Bool.true_eq_false, Bool.false_eq_true, not_false_eq_true, not_true_eq_false, decide_false, decide_eq_false_iff_not, decide_eq_true_eq, Classical.not_not, ite_not, lit, Nat.reduceEqDiff, Nat.reduceLT, nI_add, nI_lt', nI_le', nI_eq', nI_sub', pk_mul, nI_rem', nI_div', nI_nz, remN, clampN, inb_nI, Nat.not_lt_zero, Nat.zero_le, Nat.le_zero_eq, if_true, if_false, m1_lt0, m1_eq, t_ite, f_ite, nI_and, nI_or, nI_xor, nI_shl1, nI_shr, nI_ushr, nI_not, nI_and_p2, Nat.one_mul, vrf_s, vrf_n, oF_0, oO_0, oF_1, oO_1, oA_2, oS_2, oA_3, oS_3, oF_4, oO_4, oA_5, oS_5, oA_6, oS_6, oA_7, oS_7, oA_8, oS_8, oA_9, oS_9, oF_70, oO_70, oA_71, oS_71, oA_72, oS_72, oF_73, oO_73, oA_74, oS_74, oA_75, oS_75, oA_76, oS_76, oA_77, oS_77, oA_78, oS_78, oA_139, oS_139, oF_140, oO_140, oA_141, oS_141, oA_142, oS_142, oA_143, oS_143, oA_144, oS_144, oF_145, oO_145, oF_146, oO_146, oA_147, oS_147, oF_148, oO_148, oA_149, oS_149, oA_150, oS_150, oA_151, oS_151, oF_152, oO_152, oA_153, oS_153, oF_154, oO_154, oA_155, oS_155, oA_156, oS_156, oA_157, oS_157, oA_158, oS_158, oF_159, oO_159, oA_160, oS_160, oA_161, oS_161, oA_162, oS_162, oA_163, oS_163, oF_164, oO_164, oA_165, oS_165, oA_166, oS_166, oA_167, oS_167, oA_168, oS_168, oF_169, oO_169, oA_170, oS_170, oA_171, oS_171, oA_172, oS_172, oA_173, oS_173, mO_Site_told, mO_Dis_findStable, mO_Dis_answer, hX.r 0 0 1 rfl, hX.r 0 1 70 rfl, hX.r 0 2 139 rfl, hX.r 0 3 140 rfl, hX.r 0 4 145 rfl, hX.r 0 5 146 rfl, hX.r 0 6 148 rfl, hX.r 0 7 152 rfl, hX.r 1 1 2 rfl, hX.r 1 2 3 rfl, hX.r 1 3 4 rfl, hX.r 1 4 6 rfl, hX.r 1 9 7 rfl, hX.r 1 11 8 rfl, hX.r 1 12 9 rfl, hX.r 4 6 5 rfl, hX.r 152 6 153 rfl, hX.r 140 0 141 rfl, hX.r 140 2 142 rfl, hX.r 140 3 143 rfl, hX.r 140 4 144 rfl, hX.r 146 0 147 rfl, hX.r 148 0 149 rfl, hX.r 148 2 150 rfl, hX.r 148 3 151 rfl, hX1.r 0 0 1 rfl, hX1.r 0 1 70 rfl, hX1.r 0 2 139 rfl, hX1.r 0 3 140 rfl, hX1.r 0 4 145 rfl, hX1.r 0 5 146 rfl, hX1.r 0 6 148 rfl, hX1.r 0 7 152 rfl, hX1.r 1 1 2 rfl, hX1.r 1 2 3 rfl, hX1.r 1 3 4 rfl, hX1.r 1 4 6 rfl, hX1.r 1 9 7 rfl, hX1.r 1 11 8 rfl, hX1.r 1 12 9 rfl, hX1.r 4 6 5 rfl, hX1.r 152 6 153 rfl, hX1.r 140 0 141 rfl, hX1.r 140 2 142 rfl, hX1.r 140 3 143 rfl, hX1.r 140 4 144 rfl, hX1.r 146 0 147 rfl, hX1.r 148 0 149 rfl, hX1.r 148 2 150 rfl, hX1.r 148 3 151 rfl, hX.ob, y_told hX, c2, ha]
    rfl
  · rw [e_M_stables]
    simp (disch := omega) only [r_M_stables_0, r_M_stables_0n, r_M_stables_1, r_M_stables_2, r_M_stables_3, r_M_stables_6, bnd, tl_s, tl_n, wt_nil, wt_int, wt_ref, wt_null, wt_long, Nat.reduceAdd, Nat.reduceLeDiff, if_true, if_false, decide_true, Bool.true_and, Bool.and_true, zok_n0, zok_n1, zok_bI, bI_eq0, bI_eq1, Bool.true_eq_false, Bool.false_eq_true, not_false_eq_true, not_true_eq_false, decide_false, decide_eq_false_iff_not, decide_eq_true_eq, Classical.not_not, ite_not, lit, Nat.reduceEqDiff, Nat.reduceLT, nI_add, nI_lt', nI_le', nI_eq', nI_sub', pk_mul, nI_rem', nI_div', nI_nz, remN, clampN, inb_nI, Nat.not_lt_zero, Nat.zero_le, Nat.le_zero_eq, if_true, if_false, m1_lt0, m1_eq, t_ite, f_ite, nI_and, nI_or, nI_xor, nI_shl1, nI_shr, nI_ushr, nI_not, nI_and_p2, Nat.one_mul, vrf_s, vrf_n, oF_174, oO_174, oA_175, oS_175, oA_176, oS_176, oA_177, oS_177, oA_178, oS_178, oA_179, oS_179, oA_180, oS_180, oA_181, oS_181, oA_182, oS_182, oA_183, oS_183, oA_184, oS_184, oA_185, oS_185, oA_186, oS_186, oA_187, oS_187, oA_188, oS_188, mO_M_setOf, m2]
theorem P_preferred {v : Int32} (hX : KX M 4 n W Rs m) (hM : KM M n W Rs m) : PubR m_X_preferred m_M_preferred [.int v] M := by
  have h2 := p2_le8 hX.n8
  obtain ⟨M1, c1, c2⟩ := y_findPreferred (d := 96) hX
  have hX1 := kxX hX c1.1
  obtain ⟨M2, m1, m2⟩ := x_setOf (d := 92) (k := 1) (v := v) (kmX hM c1.1) (by decide)
  rw [ansI_congr (fun s hs => q_pf)] at m2
  have ha := y_found (d := 98) (hX1.r 148 0 149 rfl) c1 h2 (v := v)
  refine ⟨.int (ansI (qPf (mOb m) (2 ^ n)) (2 ^ n) v), M1, M2, ?_, c1.1, ?_, m1⟩
  · rw [e_X_preferred]
    simp (disch := omega) only [r_X_preferred_0, r_X_preferred_0n, r_X_preferred_1, r_X_preferred_4, r_X_preferred_4n, r_X_preferred_5, r_X_preferred_8, r_X_preferred_11, r_X_preferred_14, r_X_preferred_14n, r_X_preferred_15, r_X_preferred_18, r_X_preferred_21, r_X_preferred_24, r_X_preferred_24n, r_X_preferred_25, r_X_preferred_28, r_X_preferred_29, r_X_preferred_32, bnd, tl_s, tl_n, wt_nil, wt_int, wt_ref, wt_null, wt_long, Nat.reduceAdd, Nat.reduceLeDiff, if_true, if_false, decide_true, Bool.true_and, Bool.and_true, zok_n0, zok_n1, zok_bI, bI_eq0, bI_eq1, Bool.true_eq_false, Bool.false_eq_true, not_false_eq_true, not_true_eq_false, decide_false, decide_eq_false_iff_not, decide_eq_true_eq, Classical.not_not, ite_not, lit, Nat.reduceEqDiff, Nat.reduceLT, nI_add, nI_lt', nI_le', nI_eq', nI_sub', pk_mul, nI_rem', nI_div', nI_nz, remN, clampN, inb_nI, Nat.not_lt_zero, Nat.zero_le, Nat.le_zero_eq, if_true, if_false, m1_lt0, m1_eq, t_ite, f_ite, nI_and, nI_or, nI_xor, nI_shl1, nI_shr, nI_ushr, nI_not, nI_and_p2, Nat.one_mul, vrf_s, vrf_n, oF_0, oO_0, oF_1, oO_1, oA_2, oS_2, oA_3, oS_3, oF_4, oO_4, oA_5, oS_5, oA_6, oS_6, oA_7, oS_7, oA_8, oS_8, oA_9, oS_9, oF_70, oO_70, oA_71, oS_71, oA_72, oS_72, oF_73, oO_73, oA_74, oS_74, oA_75, oS_75, oA_76, oS_76, oA_77, oS_77, oA_78, oS_78, oA_139, oS_139, oF_140, oO_140, oA_141, oS_141, oA_142, oS_142, oA_143, oS_143, oA_144, oS_144, oF_145, oO_145, oF_146, oO_146, oA_147, oS_147, oF_148, oO_148, oA_149, oS_149, oA_150, oS_150, oA_151, oS_151, oF_152, oO_152, oA_153, oS_153, oF_154, oO_154, oA_155, oS_155, oA_156, oS_156, oA_157, oS_157, oA_158, oS_158, oF_159, oO_159, oA_160, oS_160, oA_161, oS_161, oA_162, oS_162, oA_163, oS_163, oF_164, oO_164, oA_165, oS_165, oA_166, oS_166, oA_167, oS_167, oA_168, oS_168, oF_169, oO_169, oA_170, oS_170, oA_171, oS_171, oA_172, oS_172, oA_173, oS_173, mO_Site_told, mO_Dis_findPreferred, mO_Dis_answer, hX.r 0 0 1 rfl, hX.r 0 1 70 rfl, hX.r 0 2 139 rfl, hX.r 0 3 140 rfl, hX.r 0 4 145 rfl, hX.r 0 5 146 rfl, hX.r 0 6 148 rfl, hX.r 0 7 152 rfl, hX.r 1 1 2 rfl, hX.r 1 2 3 rfl, hX.r 1 3 4 rfl, hX.r 1 4 6 rfl, hX.r 1 9 7 rfl, hX.r 1 11 8 rfl, hX.r 1 12 9 rfl, hX.r 4 6 5 rfl, hX.r 152 6 153 rfl, hX.r 140 0 141 rfl, hX.r 140 2 142 rfl, hX.r 140 3 143 rfl, hX.r 140 4 144 rfl, hX.r 146 0 147 rfl, hX.r 148 0 149 rfl, hX.r 148 2 150 rfl, hX.r 148 3 151 rfl, hX1.r 0 0 1 rfl, hX1.r 0 1 70 rfl, hX1.r 0 2 139 rfl, hX1.r 0 3 140 rfl, hX1.r 0 4 145 rfl, hX1.r 0 5 146 rfl, hX1.r 0 6 148 rfl, hX1.r 0 7 152 rfl, hX1.r 1 1 2 rfl, hX1.r 1 2 3 rfl, hX1.r 1 3 4 rfl, hX1.r 1 4 6 rfl, hX1.r 1 9 7 rfl, hX1.r 1 11 8 rfl, hX1.r 1 12 9 rfl, hX1.r 4 6 5 rfl, hX1.r 152 6 153 rfl, hX1.r 140 0 141 rfl, hX1.r 140 2 142 rfl, hX1.r 140 3 143 rfl, hX1.r 140 4 144 rfl, hX1.r 146 0 147 rfl, hX1.r 148 0 149 rfl, hX1.r 148 2 150 rfl, hX1.r 148 3 151 rfl, hX.ob, y_told hX, c2, ha]
    rfl
  · rw [e_M_preferred]
    simp (disch := omega) only [r_M_preferred_0, r_M_preferred_0n, r_M_preferred_1, r_M_preferred_2, r_M_preferred_3, r_M_preferred_6, bnd, tl_s, tl_n, wt_nil, wt_int, wt_ref, wt_null, wt_long, Nat.reduceAdd, Nat.reduceLeDiff, if_true, if_false, decide_true, Bool.true_and, Bool.and_true, zok_n0, zok_n1, zok_bI, bI_eq0, bI_eq1, Bool.true_eq_false, Bool.false_eq_true, not_false_eq_true, not_true_eq_false, decide_false, decide_eq_false_iff_not, decide_eq_true_eq, Classical.not_not, ite_not, lit, Nat.reduceEqDiff, Nat.reduceLT, nI_add, nI_lt', nI_le', nI_eq', nI_sub', pk_mul, nI_rem', nI_div', nI_nz, remN, clampN, inb_nI, Nat.not_lt_zero, Nat.zero_le, Nat.le_zero_eq, if_true, if_false, m1_lt0, m1_eq, t_ite, f_ite, nI_and, nI_or, nI_xor, nI_shl1, nI_shr, nI_ushr, nI_not, nI_and_p2, Nat.one_mul, vrf_s, vrf_n, oF_174, oO_174, oA_175, oS_175, oA_176, oS_176, oA_177, oS_177, oA_178, oS_178, oA_179, oS_179, oA_180, oS_180, oA_181, oS_181, oA_182, oS_182, oA_183, oS_183, oA_184, oS_184, oA_185, oS_185, oA_186, oS_186, oA_187, oS_187, oA_188, oS_188, mO_M_setOf, m2]
theorem P_naive {v : Int32} (hX : KX M 4 n W Rs m) (hM : KM M n W Rs m) : PubR m_X_naive m_M_naive [.int v] M := by
  have h2 := p2_le8 hX.n8
  obtain ⟨M1, c1, c2⟩ := y_findNaive (d := 95) hX
  have hX1 := kxX hX c1.1
  obtain ⟨M2, m1, m2⟩ := x_setOf (d := 92) (k := 2) (v := v) (kmX hM c1.1) (by decide)
  rw [ansI_congr (fun s hs => q_nv hX.n8 hs)] at m2
  have ha := y_found (d := 98) (hX1.r 148 0 149 rfl) c1 h2 (v := v)
  refine ⟨.int (ansI (qNv (mOb m) n) (2 ^ n) v), M1, M2, ?_, c1.1, ?_, m1⟩
  · rw [e_X_naive]
    simp (disch := omega) only [r_X_naive_0, r_X_naive_0n, r_X_naive_1, r_X_naive_4, r_X_naive_4n, r_X_naive_5, r_X_naive_8, r_X_naive_11, r_X_naive_14, r_X_naive_14n, r_X_naive_15, r_X_naive_18, r_X_naive_21, r_X_naive_24, r_X_naive_24n, r_X_naive_25, r_X_naive_28, r_X_naive_29, r_X_naive_32, bnd, tl_s, tl_n, wt_nil, wt_int, wt_ref, wt_null, wt_long, Nat.reduceAdd, Nat.reduceLeDiff, if_true, if_false, decide_true, Bool.true_and, Bool.and_true, zok_n0, zok_n1, zok_bI, bI_eq0, bI_eq1, Bool.true_eq_false, Bool.false_eq_true, not_false_eq_true, not_true_eq_false, decide_false, decide_eq_false_iff_not, decide_eq_true_eq, Classical.not_not, ite_not, lit, Nat.reduceEqDiff, Nat.reduceLT, nI_add, nI_lt', nI_le', nI_eq', nI_sub', pk_mul, nI_rem', nI_div', nI_nz, remN, clampN, inb_nI, Nat.not_lt_zero, Nat.zero_le, Nat.le_zero_eq, if_true, if_false, m1_lt0, m1_eq, t_ite, f_ite, nI_and, nI_or, nI_xor, nI_shl1, nI_shr, nI_ushr, nI_not, nI_and_p2, Nat.one_mul, vrf_s, vrf_n, oF_0, oO_0, oF_1, oO_1, oA_2, oS_2, oA_3, oS_3, oF_4, oO_4, oA_5, oS_5, oA_6, oS_6, oA_7, oS_7, oA_8, oS_8, oA_9, oS_9, oF_70, oO_70, oA_71, oS_71, oA_72, oS_72, oF_73, oO_73, oA_74, oS_74, oA_75, oS_75, oA_76, oS_76, oA_77, oS_77, oA_78, oS_78, oA_139, oS_139, oF_140, oO_140, oA_141, oS_141, oA_142, oS_142, oA_143, oS_143, oA_144, oS_144, oF_145, oO_145, oF_146, oO_146, oA_147, oS_147, oF_148, oO_148, oA_149, oS_149, oA_150, oS_150, oA_151, oS_151, oF_152, oO_152, oA_153, oS_153, oF_154, oO_154, oA_155, oS_155, oA_156, oS_156, oA_157, oS_157, oA_158, oS_158, oF_159, oO_159, oA_160, oS_160, oA_161, oS_161, oA_162, oS_162, oA_163, oS_163, oF_164, oO_164, oA_165, oS_165, oA_166, oS_166, oA_167, oS_167, oA_168, oS_168, oF_169, oO_169, oA_170, oS_170, oA_171, oS_171, oA_172, oS_172, oA_173, oS_173, mO_Site_told, mO_Dis_findNaive, mO_Dis_answer, hX.r 0 0 1 rfl, hX.r 0 1 70 rfl, hX.r 0 2 139 rfl, hX.r 0 3 140 rfl, hX.r 0 4 145 rfl, hX.r 0 5 146 rfl, hX.r 0 6 148 rfl, hX.r 0 7 152 rfl, hX.r 1 1 2 rfl, hX.r 1 2 3 rfl, hX.r 1 3 4 rfl, hX.r 1 4 6 rfl, hX.r 1 9 7 rfl, hX.r 1 11 8 rfl, hX.r 1 12 9 rfl, hX.r 4 6 5 rfl, hX.r 152 6 153 rfl, hX.r 140 0 141 rfl, hX.r 140 2 142 rfl, hX.r 140 3 143 rfl, hX.r 140 4 144 rfl, hX.r 146 0 147 rfl, hX.r 148 0 149 rfl, hX.r 148 2 150 rfl, hX.r 148 3 151 rfl, hX1.r 0 0 1 rfl, hX1.r 0 1 70 rfl, hX1.r 0 2 139 rfl, hX1.r 0 3 140 rfl, hX1.r 0 4 145 rfl, hX1.r 0 5 146 rfl, hX1.r 0 6 148 rfl, hX1.r 0 7 152 rfl, hX1.r 1 1 2 rfl, hX1.r 1 2 3 rfl, hX1.r 1 3 4 rfl, hX1.r 1 4 6 rfl, hX1.r 1 9 7 rfl, hX1.r 1 11 8 rfl, hX1.r 1 12 9 rfl, hX1.r 4 6 5 rfl, hX1.r 152 6 153 rfl, hX1.r 140 0 141 rfl, hX1.r 140 2 142 rfl, hX1.r 140 3 143 rfl, hX1.r 140 4 144 rfl, hX1.r 146 0 147 rfl, hX1.r 148 0 149 rfl, hX1.r 148 2 150 rfl, hX1.r 148 3 151 rfl, hX.ob, y_told hX, c2, ha]
    rfl
  · rw [e_M_naive]
    simp (disch := omega) only [r_M_naive_0, r_M_naive_0n, r_M_naive_1, r_M_naive_2, r_M_naive_3, r_M_naive_6, bnd, tl_s, tl_n, wt_nil, wt_int, wt_ref, wt_null, wt_long, Nat.reduceAdd, Nat.reduceLeDiff, if_true, if_false, decide_true, Bool.true_and, Bool.and_true, zok_n0, zok_n1, zok_bI, bI_eq0, bI_eq1, Bool.true_eq_false, Bool.false_eq_true, not_false_eq_true, not_true_eq_false, decide_false, decide_eq_false_iff_not, decide_eq_true_eq, Classical.not_not, ite_not, lit, Nat.reduceEqDiff, Nat.reduceLT, nI_add, nI_lt', nI_le', nI_eq', nI_sub', pk_mul, nI_rem', nI_div', nI_nz, remN, clampN, inb_nI, Nat.not_lt_zero, Nat.zero_le, Nat.le_zero_eq, if_true, if_false, m1_lt0, m1_eq, t_ite, f_ite, nI_and, nI_or, nI_xor, nI_shl1, nI_shr, nI_ushr, nI_not, nI_and_p2, Nat.one_mul, vrf_s, vrf_n, oF_174, oO_174, oA_175, oS_175, oA_176, oS_176, oA_177, oS_177, oA_178, oS_178, oA_179, oS_179, oA_180, oS_180, oA_181, oS_181, oA_182, oS_182, oA_183, oS_183, oA_184, oS_184, oA_185, oS_185, oA_186, oS_186, oA_187, oS_187, oA_188, oS_188, mO_M_setOf, m2]
def inN (q : Nat → Bool) (N p k : Nat) : Nat := fb_ct (fun i => (el q N i).testBit p) k
theorem y_foundWith {q : Nat → Bool} {N p : Nat} {M0 : Mem} (hr : gR M 148 0 = some 149) (h : CI q M0 N M) (hN : N ≤ 256) (hp : p < 8) : ev (d + 1) m_Dis_foundWith [.ref 148, .int (nI (2 ^ p))] NX M = some (some (.int (nI (inN q N p (fb_ct q N)))), NX, M) := by
  have hc := fb_ct_le q N
  have hp2 := p2_8 hp
  obtain ⟨h1, h2, h3⟩ := h
  have hl := h3.lst
  rw [e_Dis_foundWith]
  simp (disch := omega) only [r_Dis_foundWith_0, r_Dis_foundWith_1, r_Dis_foundWith_2, r_Dis_foundWith_3, bnd, tl_s, tl_n, wt_nil, wt_int, wt_ref, wt_null, wt_long, Nat.reduceAdd, Nat.reduceLeDiff, if_true, if_false, decide_true, Bool.true_and, Bool.and_true, zok_n0, zok_n1, zok_bI, bI_eq0, bI_eq1, Bool.true_eq_false, Bool.false_eq_true, not_false_eq_true, not_true_eq_false, decide_false, decide_eq_false_iff_not, decide_eq_true_eq, Classical.not_not, ite_not, lit, Nat.reduceEqDiff, Nat.reduceLT, nI_add, nI_lt', nI_le', nI_eq', nI_sub', pk_mul, nI_rem', nI_div', nI_nz, remN, clampN, inb_nI, Nat.not_lt_zero, Nat.zero_le, Nat.le_zero_eq, if_true, if_false, m1_lt0, m1_eq, t_ite, f_ite, nI_and, nI_or, nI_xor, nI_shl1, nI_shr, nI_ushr, nI_not, nI_and_p2, Nat.one_mul, vrf_s, vrf_n, oF_0, oO_0, oF_1, oO_1, oA_2, oS_2, oA_3, oS_3, oF_4, oO_4, oA_5, oS_5, oA_6, oS_6, oA_7, oS_7, oA_8, oS_8, oA_9, oS_9, oF_70, oO_70, oA_71, oS_71, oA_72, oS_72, oF_73, oO_73, oA_74, oS_74, oA_75, oS_75, oA_76, oS_76, oA_77, oS_77, oA_78, oS_78, oA_139, oS_139, oF_140, oO_140, oA_141, oS_141, oA_142, oS_142, oA_143, oS_143, oA_144, oS_144, oF_145, oO_145, oF_146, oO_146, oA_147, oS_147, oF_148, oO_148, oA_149, oS_149, oA_150, oS_150, oA_151, oS_151, oF_152, oO_152, oA_153, oS_153, oF_154, oO_154, oA_155, oS_155, oA_156, oS_156, oA_157, oS_157, oA_158, oS_158, oF_159, oO_159, oA_160, oS_160, oA_161, oS_161, oA_162, oS_162, oA_163, oS_163, oF_164, oO_164, oA_165, oS_165, oA_166, oS_166, oA_167, oS_167, oA_168, oS_168, oF_169, oO_169, oA_170, oS_170, oA_171, oS_171, oA_172, oS_172, oA_173, oS_173]
  refine (lp0 (R := fun i => run (ev d) m_Dis_foundWith 4 [some (.ref 148), some (.int (nI (2 ^ p))), some (.int (nI (inN q N p i))), some (.int (nI i))] [] NX M) (n := fb_ct q N) ?_).trans ?_
  · intro i hi
    have hn1 : ¬ fb_ct q N ≤ i := by omega
    have hn2 : ¬ 256 ≤ i := by omega
    try dsimp only
    rw [r_Dis_foundWith_4]
    simp (disch := omega) only [r_Dis_foundWith_5, r_Dis_foundWith_5n, r_Dis_foundWith_6, r_Dis_foundWith_9, r_Dis_foundWith_12, r_Dis_foundWith_13, r_Dis_foundWith_16, r_Dis_foundWith_19, r_Dis_foundWith_19n, r_Dis_foundWith_20, r_Dis_foundWith_23, r_Dis_foundWith_24, r_Dis_foundWith_25, r_Dis_foundWith_26, r_Dis_foundWith_27, r_Dis_foundWith_30, r_Dis_foundWith_33, r_Dis_foundWith_36, bnd, tl_s, tl_n, wt_nil, wt_int, wt_ref, wt_null, wt_long, Nat.reduceAdd, Nat.reduceLeDiff, if_true, if_false, decide_true, Bool.true_and, Bool.and_true, zok_n0, zok_n1, zok_bI, bI_eq0, bI_eq1, Bool.true_eq_false, Bool.false_eq_true, not_false_eq_true, not_true_eq_false, decide_false, decide_eq_false_iff_not, decide_eq_true_eq, Classical.not_not, ite_not, lit, Nat.reduceEqDiff, Nat.reduceLT, nI_add, nI_lt', nI_le', nI_eq', nI_sub', pk_mul, nI_rem', nI_div', nI_nz, remN, clampN, inb_nI, Nat.not_lt_zero, Nat.zero_le, Nat.le_zero_eq, if_true, if_false, m1_lt0, m1_eq, t_ite, f_ite, nI_and, nI_or, nI_xor, nI_shl1, nI_shr, nI_ushr, nI_not, nI_and_p2, Nat.one_mul, vrf_s, vrf_n, oF_0, oO_0, oF_1, oO_1, oA_2, oS_2, oA_3, oS_3, oF_4, oO_4, oA_5, oS_5, oA_6, oS_6, oA_7, oS_7, oA_8, oS_8, oA_9, oS_9, oF_70, oO_70, oA_71, oS_71, oA_72, oS_72, oF_73, oO_73, oA_74, oS_74, oA_75, oS_75, oA_76, oS_76, oA_77, oS_77, oA_78, oS_78, oA_139, oS_139, oF_140, oO_140, oA_141, oS_141, oA_142, oS_142, oA_143, oS_143, oA_144, oS_144, oF_145, oO_145, oF_146, oO_146, oA_147, oS_147, oF_148, oO_148, oA_149, oS_149, oA_150, oS_150, oA_151, oS_151, oF_152, oO_152, oA_153, oS_153, oF_154, oO_154, oA_155, oS_155, oA_156, oS_156, oA_157, oS_157, oA_158, oS_158, oF_159, oO_159, oA_160, oS_160, oA_161, oS_161, oA_162, oS_162, oA_163, oS_163, oF_164, oO_164, oA_165, oS_165, oA_166, oS_166, oA_167, oS_167, oA_168, oS_168, oF_169, oO_169, oA_170, oS_170, oA_171, oS_171, oA_172, oS_172, oA_173, oS_173, hr, h2, hn1, hn2, hl i hi]
    unfold inN
    rw [fb_ct_succ]
    cases (el q N i).testBit p
    · rw [if_pos rfl]; rfl
    · rw [if_neg (by decide)]; rfl
  · rw [r_Dis_foundWith_4]
    simp (disch := omega) only [r_Dis_foundWith_5, r_Dis_foundWith_5n, r_Dis_foundWith_6, r_Dis_foundWith_9, r_Dis_foundWith_12, r_Dis_foundWith_13, r_Dis_foundWith_16, r_Dis_foundWith_19, r_Dis_foundWith_19n, r_Dis_foundWith_20, r_Dis_foundWith_23, r_Dis_foundWith_24, r_Dis_foundWith_25, r_Dis_foundWith_26, r_Dis_foundWith_27, r_Dis_foundWith_30, r_Dis_foundWith_33, r_Dis_foundWith_36, r_Dis_foundWith_39, r_Dis_foundWith_40, bnd, tl_s, tl_n, wt_nil, wt_int, wt_ref, wt_null, wt_long, Nat.reduceAdd, Nat.reduceLeDiff, if_true, if_false, decide_true, Bool.true_and, Bool.and_true, zok_n0, zok_n1, zok_bI, bI_eq0, bI_eq1, Bool.true_eq_false, Bool.false_eq_true, not_false_eq_true, not_true_eq_false, decide_false, decide_eq_false_iff_not, decide_eq_true_eq, Classical.not_not, ite_not, lit, Nat.reduceEqDiff, Nat.reduceLT, nI_add, nI_lt', nI_le', nI_eq', nI_sub', pk_mul, nI_rem', nI_div', nI_nz, remN, clampN, inb_nI, Nat.not_lt_zero, Nat.zero_le, Nat.le_zero_eq, if_true, if_false, m1_lt0, m1_eq, t_ite, f_ite, nI_and, nI_or, nI_xor, nI_shl1, nI_shr, nI_ushr, nI_not, nI_and_p2, Nat.one_mul, vrf_s, vrf_n, oF_0, oO_0, oF_1, oO_1, oA_2, oS_2, oA_3, oS_3, oF_4, oO_4, oA_5, oS_5, oA_6, oS_6, oA_7, oS_7, oA_8, oS_8, oA_9, oS_9, oF_70, oO_70, oA_71, oS_71, oA_72, oS_72, oF_73, oO_73, oA_74, oS_74, oA_75, oS_75, oA_76, oS_76, oA_77, oS_77, oA_78, oS_78, oA_139, oS_139, oF_140, oO_140, oA_141, oS_141, oA_142, oS_142, oA_143, oS_143, oA_144, oS_144, oF_145, oO_145, oF_146, oO_146, oA_147, oS_147, oF_148, oO_148, oA_149, oS_149, oA_150, oS_150, oA_151, oS_151, oF_152, oO_152, oA_153, oS_153, oF_154, oO_154, oA_155, oS_155, oA_156, oS_156, oA_157, oS_157, oA_158, oS_158, oF_159, oO_159, oA_160, oS_160, oA_161, oS_161, oA_162, oS_162, oA_163, oS_163, oF_164, oO_164, oA_165, oS_165, oA_166, oS_166, oA_167, oS_167, oA_168, oS_168, oF_169, oO_169, oA_170, oS_170, oA_171, oS_171, oA_172, oS_172, oA_173, oS_173, h2, Nat.le_refl]
theorem P_inSets {v : Int32} {b : Bool} (hX : KX M 4 n W Rs m) (hM : KM M n W Rs m) : PubR m_X_inSets m_M_inSets [.int v, .int (bI b)] M := by
  have h8 := hX.n8
  have h2 := p2_le8 h8
  rcases ix_cases v (n := n) (by omega) with ⟨p, hp, rfl⟩ | hv
  · obtain ⟨M1, c1, c2⟩ := y_findPreferred (d := 96) hX
    have hX1 := kxX hX c1.1
    have hM1 := kmX hM c1.1
    obtain ⟨M2, m1, m3, m2⟩ := x_laySets (d := 93) (k := 1) hM1 (by decide)
    have hM2 := kmM hM1 m1
    have eq : ∀ s, s < 2 ^ n → q2s (mOb m) n 1 s = qPf (mOb m) (2 ^ n) s := fun s _ => q_pf
    rw [fb_ct_cong eq] at m2
    have hc := fb_ct_le (qPf (mOb m) (2 ^ n)) (2 ^ n)
    have hl : ∀ j, j < fb_ct (qPf (mOb m) (2 ^ n)) (2 ^ n) → gI M2 185 j = nI (el (qPf (mOb m) (2 ^ n)) (2 ^ n) j) := by
      intro j hj
      rw [m3 j (by rw [fb_ct_cong eq]; exact hj), el_congr eq]
    have ha := y_foundWith (d := 98) (hX1.r 148 0 149 rfl) c1 h2 (show p < 8 by omega)
    have hin : inN (qPf (mOb m) (2 ^ n)) (2 ^ n) p (fb_ct (qPf (mOb m) (2 ^ n)) (2 ^ n)) ≤ fb_ct (qPf (mOb m) (2 ^ n)) (2 ^ n) := fb_ct_le _ _
    refine ⟨.int (if b = true then (if inN (qPf (mOb m) (2 ^ n)) (2 ^ n) p (fb_ct (qPf (mOb m) (2 ^ n)) (2 ^ n)) = fb_ct (qPf (mOb m) (2 ^ n)) (2 ^ n) then nI 1 else nI 0) else nI (inN (qPf (mOb m) (2 ^ n)) (2 ^ n) p (fb_ct (qPf (mOb m) (2 ^ n)) (2 ^ n)))), M1, M2, ?_, c1.1, ?_, m1⟩
    · rw [e_X_inSets]
      simp (disch := omega) only [r_X_inSets_0, r_X_inSets_0n, r_X_inSets_1, r_X_inSets_4, r_X_inSets_5, r_X_inSets_8, r_X_inSets_11, r_X_inSets_12, r_X_inSets_13, r_X_inSets_13n, r_X_inSets_14, r_X_inSets_17, r_X_inSets_17n, r_X_inSets_18, r_X_inSets_21, r_X_inSets_24, r_X_inSets_27, r_X_inSets_27n, r_X_inSets_28, r_X_inSets_31, r_X_inSets_34, r_X_inSets_37, r_X_inSets_37n, r_X_inSets_38, r_X_inSets_41, r_X_inSets_42, r_X_inSets_43, r_X_inSets_44, r_X_inSets_47, r_X_inSets_48, r_X_inSets_49, r_X_inSets_52, r_X_inSets_53, r_X_inSets_54, r_X_inSets_55, r_X_inSets_55n, r_X_inSets_56, r_X_inSets_59, r_X_inSets_62, r_X_inSets_65, r_X_inSets_66, r_X_inSets_69, r_X_inSets_70, bnd, tl_s, tl_n, wt_nil, wt_int, wt_ref, wt_null, wt_long, Nat.reduceAdd, Nat.reduceLeDiff, if_true, if_false, decide_true, Bool.true_and, Bool.and_true, zok_n0, zok_n1, zok_bI, bI_eq0, bI_eq1, Bool.true_eq_false, Bool.false_eq_true, not_false_eq_true, not_true_eq_false, decide_false, decide_eq_false_iff_not, decide_eq_true_eq, Classical.not_not, ite_not, lit, Nat.reduceEqDiff, Nat.reduceLT, nI_add, nI_lt', nI_le', nI_eq', nI_sub', pk_mul, nI_rem', nI_div', nI_nz, remN, clampN, inb_nI, Nat.not_lt_zero, Nat.zero_le, Nat.le_zero_eq, if_true, if_false, m1_lt0, m1_eq, t_ite, f_ite, nI_and, nI_or, nI_xor, nI_shl1, nI_shr, nI_ushr, nI_not, nI_and_p2, Nat.one_mul, vrf_s, vrf_n, oF_0, oO_0, oF_1, oO_1, oA_2, oS_2, oA_3, oS_3, oF_4, oO_4, oA_5, oS_5, oA_6, oS_6, oA_7, oS_7, oA_8, oS_8, oA_9, oS_9, oF_70, oO_70, oA_71, oS_71, oA_72, oS_72, oF_73, oO_73, oA_74, oS_74, oA_75, oS_75, oA_76, oS_76, oA_77, oS_77, oA_78, oS_78, oA_139, oS_139, oF_140, oO_140, oA_141, oS_141, oA_142, oS_142, oA_143, oS_143, oA_144, oS_144, oF_145, oO_145, oF_146, oO_146, oA_147, oS_147, oF_148, oO_148, oA_149, oS_149, oA_150, oS_150, oA_151, oS_151, oF_152, oO_152, oA_153, oS_153, oF_154, oO_154, oA_155, oS_155, oA_156, oS_156, oA_157, oS_157, oA_158, oS_158, oF_159, oO_159, oA_160, oS_160, oA_161, oS_161, oA_162, oS_162, oA_163, oS_163, oF_164, oO_164, oA_165, oS_165, oA_166, oS_166, oA_167, oS_167, oA_168, oS_168, oF_169, oO_169, oA_170, oS_170, oA_171, oS_171, oA_172, oS_172, oA_173, oS_173, mO_Site_isPlank, mO_Site_told, mO_Dis_findPreferred, mO_Dis_foundWith, hX.r 0 0 1 rfl, hX.r 0 1 70 rfl, hX.r 0 2 139 rfl, hX.r 0 3 140 rfl, hX.r 0 4 145 rfl, hX.r 0 5 146 rfl, hX.r 0 6 148 rfl, hX.r 0 7 152 rfl, hX.r 1 1 2 rfl, hX.r 1 2 3 rfl, hX.r 1 3 4 rfl, hX.r 1 4 6 rfl, hX.r 1 9 7 rfl, hX.r 1 11 8 rfl, hX.r 1 12 9 rfl, hX.r 4 6 5 rfl, hX.r 152 6 153 rfl, hX.r 140 0 141 rfl, hX.r 140 2 142 rfl, hX.r 140 3 143 rfl, hX.r 140 4 144 rfl, hX.r 146 0 147 rfl, hX.r 148 0 149 rfl, hX.r 148 2 150 rfl, hX.r 148 3 151 rfl, hX1.r 0 0 1 rfl, hX1.r 0 1 70 rfl, hX1.r 0 2 139 rfl, hX1.r 0 3 140 rfl, hX1.r 0 4 145 rfl, hX1.r 0 5 146 rfl, hX1.r 0 6 148 rfl, hX1.r 0 7 152 rfl, hX1.r 1 1 2 rfl, hX1.r 1 2 3 rfl, hX1.r 1 3 4 rfl, hX1.r 1 4 6 rfl, hX1.r 1 9 7 rfl, hX1.r 1 11 8 rfl, hX1.r 1 12 9 rfl, hX1.r 4 6 5 rfl, hX1.r 152 6 153 rfl, hX1.r 140 0 141 rfl, hX1.r 140 2 142 rfl, hX1.r 140 3 143 rfl, hX1.r 140 4 144 rfl, hX1.r 146 0 147 rfl, hX1.r 148 0 149 rfl, hX1.r 148 2 150 rfl, hX1.r 148 3 151 rfl, hX.ob, y_isPlank hX hp, y_told hX, c2, ha, c1.2.1]
      cases b
      · rfl
      · simp only [Bool.true_eq_false, if_false, if_true]
        split <;> rfl
    · rw [e_M_inSets]
      simp (disch := omega) only [r_M_inSets_0, r_M_inSets_0n, r_M_inSets_1, r_M_inSets_2, r_M_inSets_5, r_M_inSets_8, r_M_inSets_9, r_M_inSets_10, r_M_inSets_10n, r_M_inSets_11, r_M_inSets_12, r_M_inSets_15, r_M_inSets_16, r_M_inSets_17, r_M_inSets_19, r_M_inSets_20, bnd, tl_s, tl_n, wt_nil, wt_int, wt_ref, wt_null, wt_long, Nat.reduceAdd, Nat.reduceLeDiff, if_true, if_false, decide_true, Bool.true_and, Bool.and_true, zok_n0, zok_n1, zok_bI, bI_eq0, bI_eq1, Bool.true_eq_false, Bool.false_eq_true, not_false_eq_true, not_true_eq_false, decide_false, decide_eq_false_iff_not, decide_eq_true_eq, Classical.not_not, ite_not, lit, Nat.reduceEqDiff, Nat.reduceLT, nI_add, nI_lt', nI_le', nI_eq', nI_sub', pk_mul, nI_rem', nI_div', nI_nz, remN, clampN, inb_nI, Nat.not_lt_zero, Nat.zero_le, Nat.le_zero_eq, if_true, if_false, m1_lt0, m1_eq, t_ite, f_ite, nI_and, nI_or, nI_xor, nI_shl1, nI_shr, nI_ushr, nI_not, nI_and_p2, Nat.one_mul, vrf_s, vrf_n, oF_174, oO_174, oA_175, oS_175, oA_176, oS_176, oA_177, oS_177, oA_178, oS_178, oA_179, oS_179, oA_180, oS_180, oA_181, oS_181, oA_182, oS_182, oA_183, oS_183, oA_184, oS_184, oA_185, oS_185, oA_186, oS_186, oA_187, oS_187, oA_188, oS_188, mO_M_isPlank, mO_M_laySets, mO_M_has, x_isPlank hM1 hp, m2]
      refine (lp0 (R := fun i => run (ev 99) m_M_inSets 22 [some (.ref 174), some (.int (nI p)), some (.int (bI b)), some (.int (nI (fb_ct (qPf (mOb m) (2 ^ n)) (2 ^ n)))), some (.int (nI (inN (qPf (mOb m) (2 ^ n)) (2 ^ n) p i))), some (.int (nI i))] [] NX M2) (n := fb_ct (qPf (mOb m) (2 ^ n)) (2 ^ n)) ?_).trans ?_
      · intro i hi
        have hn1 : ¬ fb_ct (qPf (mOb m) (2 ^ n)) (2 ^ n) ≤ i := by omega
        have h3 := (el_ok hi).1
        try dsimp only
        rw [r_M_inSets_22]
        simp (disch := omega) only [r_M_inSets_24, r_M_inSets_25, r_M_inSets_28, r_M_inSets_30, r_M_inSets_30n, r_M_inSets_31, r_M_inSets_34, r_M_inSets_36, r_M_inSets_37, r_M_inSets_38, r_M_inSets_41, r_M_inSets_44, r_M_inSets_45, r_M_inSets_48, r_M_inSets_49, r_M_inSets_50, r_M_inSets_52, r_M_inSets_55, bnd, tl_s, tl_n, wt_nil, wt_int, wt_ref, wt_null, wt_long, Nat.reduceAdd, Nat.reduceLeDiff, if_true, if_false, decide_true, Bool.true_and, Bool.and_true, zok_n0, zok_n1, zok_bI, bI_eq0, bI_eq1, Bool.true_eq_false, Bool.false_eq_true, not_false_eq_true, not_true_eq_false, decide_false, decide_eq_false_iff_not, decide_eq_true_eq, Classical.not_not, ite_not, lit, Nat.reduceEqDiff, Nat.reduceLT, nI_add, nI_lt', nI_le', nI_eq', nI_sub', pk_mul, nI_rem', nI_div', nI_nz, remN, clampN, inb_nI, Nat.not_lt_zero, Nat.zero_le, Nat.le_zero_eq, if_true, if_false, m1_lt0, m1_eq, t_ite, f_ite, nI_and, nI_or, nI_xor, nI_shl1, nI_shr, nI_ushr, nI_not, nI_and_p2, Nat.one_mul, vrf_s, vrf_n, oF_174, oO_174, oA_175, oS_175, oA_176, oS_176, oA_177, oS_177, oA_178, oS_178, oA_179, oS_179, oA_180, oS_180, oA_181, oS_181, oA_182, oS_182, oA_183, oS_183, oA_184, oS_184, oA_185, oS_185, oA_186, oS_186, oA_187, oS_187, oA_188, oS_188, mO_M_isPlank, mO_M_laySets, mO_M_has, hn1, hM2.1.se, hl i hi, x_has]
        unfold inN
        rw [fb_ct_succ]
        cases (el (qPf (mOb m) (2 ^ n)) (2 ^ n) i).testBit p
        · rw [if_pos rfl]; rfl
        · rw [if_neg (by decide)]; rfl
      · rw [r_M_inSets_22]
        simp (disch := omega) only [r_M_inSets_24, r_M_inSets_25, r_M_inSets_28, r_M_inSets_30, r_M_inSets_30n, r_M_inSets_31, r_M_inSets_34, r_M_inSets_36, r_M_inSets_37, r_M_inSets_38, r_M_inSets_41, r_M_inSets_44, r_M_inSets_45, r_M_inSets_48, r_M_inSets_49, r_M_inSets_50, r_M_inSets_52, r_M_inSets_55, r_M_inSets_58, r_M_inSets_59, r_M_inSets_62, r_M_inSets_64, r_M_inSets_65, r_M_inSets_68, r_M_inSets_69, r_M_inSets_72, r_M_inSets_73, r_M_inSets_76, r_M_inSets_78, bnd, tl_s, tl_n, wt_nil, wt_int, wt_ref, wt_null, wt_long, Nat.reduceAdd, Nat.reduceLeDiff, if_true, if_false, decide_true, Bool.true_and, Bool.and_true, zok_n0, zok_n1, zok_bI, bI_eq0, bI_eq1, Bool.true_eq_false, Bool.false_eq_true, not_false_eq_true, not_true_eq_false, decide_false, decide_eq_false_iff_not, decide_eq_true_eq, Classical.not_not, ite_not, lit, Nat.reduceEqDiff, Nat.reduceLT, nI_add, nI_lt', nI_le', nI_eq', nI_sub', pk_mul, nI_rem', nI_div', nI_nz, remN, clampN, inb_nI, Nat.not_lt_zero, Nat.zero_le, Nat.le_zero_eq, if_true, if_false, m1_lt0, m1_eq, t_ite, f_ite, nI_and, nI_or, nI_xor, nI_shl1, nI_shr, nI_ushr, nI_not, nI_and_p2, Nat.one_mul, vrf_s, vrf_n, oF_174, oO_174, oA_175, oS_175, oA_176, oS_176, oA_177, oS_177, oA_178, oS_178, oA_179, oS_179, oA_180, oS_180, oA_181, oS_181, oA_182, oS_182, oA_183, oS_183, oA_184, oS_184, oA_185, oS_185, oA_186, oS_186, oA_187, oS_187, oA_188, oS_188, mO_M_isPlank, mO_M_laySets, mO_M_has, Nat.le_refl]
        cases b
        · rfl
        · simp only [Bool.true_eq_false, if_false, if_true]
          split <;> rfl
  · refine PubR.same (.int (-nI 1)) ?_ ?_
    · rw [e_X_inSets]
      simp (disch := omega) only [r_X_inSets_0, r_X_inSets_0n, r_X_inSets_1, r_X_inSets_4, r_X_inSets_5, r_X_inSets_8, r_X_inSets_11, r_X_inSets_12, r_X_inSets_13, r_X_inSets_13n, r_X_inSets_14, r_X_inSets_17, r_X_inSets_17n, r_X_inSets_18, r_X_inSets_21, r_X_inSets_24, r_X_inSets_27, r_X_inSets_27n, r_X_inSets_28, r_X_inSets_31, r_X_inSets_34, r_X_inSets_37, r_X_inSets_37n, r_X_inSets_38, r_X_inSets_41, r_X_inSets_42, r_X_inSets_43, r_X_inSets_44, r_X_inSets_47, r_X_inSets_48, r_X_inSets_49, r_X_inSets_52, r_X_inSets_53, r_X_inSets_54, r_X_inSets_55, r_X_inSets_55n, r_X_inSets_56, r_X_inSets_59, r_X_inSets_62, r_X_inSets_65, r_X_inSets_66, r_X_inSets_69, r_X_inSets_70, bnd, tl_s, tl_n, wt_nil, wt_int, wt_ref, wt_null, wt_long, Nat.reduceAdd, Nat.reduceLeDiff, if_true, if_false, decide_true, Bool.true_and, Bool.and_true, zok_n0, zok_n1, zok_bI, bI_eq0, bI_eq1, Bool.true_eq_false, Bool.false_eq_true, not_false_eq_true, not_true_eq_false, decide_false, decide_eq_false_iff_not, decide_eq_true_eq, Classical.not_not, ite_not, lit, Nat.reduceEqDiff, Nat.reduceLT, nI_add, nI_lt', nI_le', nI_eq', nI_sub', pk_mul, nI_rem', nI_div', nI_nz, remN, clampN, inb_nI, Nat.not_lt_zero, Nat.zero_le, Nat.le_zero_eq, if_true, if_false, m1_lt0, m1_eq, t_ite, f_ite, nI_and, nI_or, nI_xor, nI_shl1, nI_shr, nI_ushr, nI_not, nI_and_p2, Nat.one_mul, vrf_s, vrf_n, oF_0, oO_0, oF_1, oO_1, oA_2, oS_2, oA_3, oS_3, oF_4, oO_4, oA_5, oS_5, oA_6, oS_6, oA_7, oS_7, oA_8, oS_8, oA_9, oS_9, oF_70, oO_70, oA_71, oS_71, oA_72, oS_72, oF_73, oO_73, oA_74, oS_74, oA_75, oS_75, oA_76, oS_76, oA_77, oS_77, oA_78, oS_78, oA_139, oS_139, oF_140, oO_140, oA_141, oS_141, oA_142, oS_142, oA_143, oS_143, oA_144, oS_144, oF_145, oO_145, oF_146, oO_146, oA_147, oS_147, oF_148, oO_148, oA_149, oS_149, oA_150, oS_150, oA_151, oS_151, oF_152, oO_152, oA_153, oS_153, oF_154, oO_154, oA_155, oS_155, oA_156, oS_156, oA_157, oS_157, oA_158, oS_158, oF_159, oO_159, oA_160, oS_160, oA_161, oS_161, oA_162, oS_162, oA_163, oS_163, oF_164, oO_164, oA_165, oS_165, oA_166, oS_166, oA_167, oS_167, oA_168, oS_168, oF_169, oO_169, oA_170, oS_170, oA_171, oS_171, oA_172, oS_172, oA_173, oS_173, mO_Site_isPlank, mO_Site_told, mO_Dis_findPreferred, mO_Dis_foundWith, hX.r 0 0 1 rfl, hX.r 0 1 70 rfl, hX.r 0 2 139 rfl, hX.r 0 3 140 rfl, hX.r 0 4 145 rfl, hX.r 0 5 146 rfl, hX.r 0 6 148 rfl, hX.r 0 7 152 rfl, hX.r 1 1 2 rfl, hX.r 1 2 3 rfl, hX.r 1 3 4 rfl, hX.r 1 4 6 rfl, hX.r 1 9 7 rfl, hX.r 1 11 8 rfl, hX.r 1 12 9 rfl, hX.r 4 6 5 rfl, hX.r 152 6 153 rfl, hX.r 140 0 141 rfl, hX.r 140 2 142 rfl, hX.r 140 3 143 rfl, hX.r 140 4 144 rfl, hX.r 146 0 147 rfl, hX.r 148 0 149 rfl, hX.r 148 2 150 rfl, hX.r 148 3 151 rfl, y_isPlank_n hX hv]
    · rw [e_M_inSets]
      simp (disch := omega) only [r_M_inSets_0, r_M_inSets_0n, r_M_inSets_1, r_M_inSets_2, r_M_inSets_5, r_M_inSets_8, r_M_inSets_9, r_M_inSets_10, r_M_inSets_10n, r_M_inSets_11, r_M_inSets_12, r_M_inSets_15, r_M_inSets_16, r_M_inSets_17, r_M_inSets_19, r_M_inSets_20, r_M_inSets_22, r_M_inSets_24, r_M_inSets_25, r_M_inSets_28, r_M_inSets_30, r_M_inSets_30n, r_M_inSets_31, r_M_inSets_34, r_M_inSets_36, r_M_inSets_37, r_M_inSets_38, r_M_inSets_41, r_M_inSets_44, r_M_inSets_45, r_M_inSets_48, r_M_inSets_49, r_M_inSets_50, r_M_inSets_52, r_M_inSets_55, r_M_inSets_58, r_M_inSets_59, r_M_inSets_62, r_M_inSets_64, r_M_inSets_65, r_M_inSets_68, r_M_inSets_69, r_M_inSets_72, r_M_inSets_73, r_M_inSets_76, r_M_inSets_78, bnd, tl_s, tl_n, wt_nil, wt_int, wt_ref, wt_null, wt_long, Nat.reduceAdd, Nat.reduceLeDiff, if_true, if_false, decide_true, Bool.true_and, Bool.and_true, zok_n0, zok_n1, zok_bI, bI_eq0, bI_eq1, Bool.true_eq_false, Bool.false_eq_true, not_false_eq_true, not_true_eq_false, decide_false, decide_eq_false_iff_not, decide_eq_true_eq, Classical.not_not, ite_not, lit, Nat.reduceEqDiff, Nat.reduceLT, nI_add, nI_lt', nI_le', nI_eq', nI_sub', pk_mul, nI_rem', nI_div', nI_nz, remN, clampN, inb_nI, Nat.not_lt_zero, Nat.zero_le, Nat.le_zero_eq, if_true, if_false, m1_lt0, m1_eq, t_ite, f_ite, nI_and, nI_or, nI_xor, nI_shl1, nI_shr, nI_ushr, nI_not, nI_and_p2, Nat.one_mul, vrf_s, vrf_n, oF_174, oO_174, oA_175, oS_175, oA_176, oS_176, oA_177, oS_177, oA_178, oS_178, oA_179, oS_179, oA_180, oS_180, oA_181, oS_181, oA_182, oS_182, oA_183, oS_183, oA_184, oS_184, oA_185, oS_185, oA_186, oS_186, oA_187, oS_187, oA_188, oS_188, mO_M_isPlank, mO_M_laySets, mO_M_has, x_isPlank_n hM hv]
end F3
