/-! TEXT: the reference settles, and looks at what is open -/
def c20 : List Nat → Nat
  | [] => 0
  | x :: r => (if rk x = 7 ∨ x = 20 then 1 else 0) + c20 r
def emt (cm : Nat → Nat × Nat) : Nat → List Nat → Nat → Nat × Nat
  | _, [] => cm
  | w, x :: r => emt (upc cm w (x, 0)) (w + 1) r
def low (P : List Nat) (l : Nat) : Prop := match P with | [] => True | x :: _ => rk x < l
/-- where what is open lies, and what it is -/
def oAt : List Nat → Option (Nat × Nat)
  | [] => none
  | x :: r => if 40 ≤ x then some (x, r.length) else oAt r
def oNw (P : List Nat) : Int32 := match oAt P with | none => -nI 1 | some y => nI y.1
def oIx (P : List Nat) : Int32 := match oAt P with | none => -nI 1 | some y => nI y.2
def cmpd : List Nat → Bool
  | [] => false
  | x :: r => if 4 < rk x then cmpd r else decide (rk x = 4)
def oV (P : List Nat) : Nat := match oAt P with | none => 0 | some y => y.1
def askA (P : List Nat) : Bool := match P with | [] => false | x :: r => decide (oV (x :: r) = 42) && (decide (40 ≤ x) || (decide (1 ≤ rk x) && decide (rk x ≤ 3)))
theorem emt_lo {cm : Nat → Nat × Nat} : ∀ (p : List Nat) w j, j < w → emt cm w p j = cm j := by
  intro p
  induction p generalizing cm with
  | nil => intro w j _; rfl
  | cons x r ih =>
    intro w j h
    rw [emt, ih _ _ (by omega), upc_ne (by omega)]
theorem emt_at {cm : Nat → Nat × Nat} : ∀ (p : List Nat) w i, i < p.length → emt cm w p (w + i) = (p.getD i 0, 0) := by
  intro p
  induction p generalizing cm with
  | nil => intro w i h; cases h
  | cons x r ih =>
    intro w i h
    rw [emt]
    cases i with
    | zero => rw [emt_lo _ _ _ (by omega)]; exact upc_eq
    | succ i => rw [show w + (i + 1) = w + 1 + i by omega, ih _ _ (by rw [List.length_cons] at h; omega)]; rfl
section SET
variable {d : Nat} {M M' : Mem} {tb : Nat → Nat} {tl T law k w o : Nat} {cm : Nat → Nat × Nat} {P : List Nat}
theorem RfS.len {x : Nat} (h : RfS M tb tl T law k w o cm (x :: P)) : P.length < 60 ∧ x < 64 ∧ gI M 179 P.length = nI x ∧ gI M 174 16 = nI (P.length + 1) := by
  obtain ⟨a1, a2, a3, a7, a8, a9, a10⟩ := h
  have := a10.2.1
  rw [List.length_cons] at this
  exact ⟨by omega, a10.1 x (List.mem_cons_self ..), a7.2.1, a7.1⟩
theorem set_stop {l : Nat} (h : RfS M tb tl T law k w o cm P) (hl : low P l) (h7 : l ≤ 7) : run (ev (d + 1)) m_M_settle 0 [some (.ref 174), some (.int (nI l))] [] NX M = some (none, NX, M) := by
  rw [r_M_settle_0]
  cases P with
  | nil =>
    have g := h.2.2.2.1.1
    rw [List.length_nil] at g
    simp (disch := omega) only [r_M_settle_1, r_M_settle_4, r_M_settle_93, bnd, tl_s, tl_n, wt_nil, wt_int, wt_ref, wt_null, wt_long, Nat.reduceAdd, Nat.reduceLeDiff, if_true, if_false, decide_true, Bool.true_and, Bool.and_true, zok_n0, zok_n1, zok_bI, bI_eq0, bI_eq1, Bool.true_eq_false, Bool.false_eq_true, not_false_eq_true, not_true_eq_false, decide_false, decide_eq_false_iff_not, decide_eq_true_eq, Classical.not_not, ite_not, lit, Nat.reduceEqDiff, Nat.reduceLT, nI_add, nI_lt', nI_le', nI_eq', nI_sub', pk_mul, nI_rem', nI_div', nI_nz, remN, clampN, inb_nI, Nat.not_lt_zero, Nat.zero_le, Nat.le_zero_eq, if_true, if_false, m1_lt0, m1_eq, t_ite, f_ite, Bool.not_false, Bool.not_true, nI_and, nI_or, nI_xor, nI_shl1, nI_shr, nI_ushr, nI_not, nI_and_p2, Nat.one_mul, vrf_s, vrf_n, oF_174, oO_174, oA_175, oS_175, oA_176, oS_176, oA_177, oS_177, oA_178, oS_178, oA_179, oS_179, oA_180, oS_180, oA_181, oS_181, oA_182, oS_182, oA_183, oS_183, oA_184, oS_184, oA_185, oS_185, oA_186, oS_186, oA_187, oS_187, oA_188, oS_188, mO_M_rank, mO_M_emit, g]
  | cons x r =>
    obtain ⟨l1, l2, g1, g2⟩ := h.len
    have hpi := h.1.1.pi
    have hrk := x_rank (d := d) (M := M) (x := x) (by omega)
    have hrl := rk_le x
    have hlo : rk x < l := hl
    have n0 : ¬ r.length + 1 ≤ 0 := by omega
    have n160 : r.length < 160 := by omega
    simp (disch := omega) only [r_M_settle_1, r_M_settle_4, r_M_settle_7, r_M_settle_7n, r_M_settle_8, r_M_settle_11, r_M_settle_11n, r_M_settle_12, r_M_settle_15, r_M_settle_16, r_M_settle_17, r_M_settle_18, r_M_settle_21, r_M_settle_22, r_M_settle_93, bnd, tl_s, tl_n, wt_nil, wt_int, wt_ref, wt_null, wt_long, Nat.reduceAdd, Nat.reduceLeDiff, if_true, if_false, decide_true, Bool.true_and, Bool.and_true, zok_n0, zok_n1, zok_bI, bI_eq0, bI_eq1, Bool.true_eq_false, Bool.false_eq_true, not_false_eq_true, not_true_eq_false, decide_false, decide_eq_false_iff_not, decide_eq_true_eq, Classical.not_not, ite_not, lit, Nat.reduceEqDiff, Nat.reduceLT, nI_add, nI_lt', nI_le', nI_eq', nI_sub', pk_mul, nI_rem', nI_div', nI_nz, remN, clampN, inb_nI, Nat.not_lt_zero, Nat.zero_le, Nat.le_zero_eq, if_true, if_false, m1_lt0, m1_eq, t_ite, f_ite, Bool.not_false, Bool.not_true, nI_and, nI_or, nI_xor, nI_shl1, nI_shr, nI_ushr, nI_not, nI_and_p2, Nat.one_mul, vrf_s, vrf_n, oF_174, oO_174, oA_175, oS_175, oA_176, oS_176, oA_177, oS_177, oA_178, oS_178, oA_179, oS_179, oA_180, oS_180, oA_181, oS_181, oA_182, oS_182, oA_183, oS_183, oA_184, oS_184, oA_185, oS_185, oA_186, oS_186, oA_187, oS_187, oA_188, oS_188, mO_M_rank, mO_M_emit, g2, n0, hpi, Nat.add_sub_cancel, n160, g1, hrk, hlo]
theorem set_step {l x : Nat} (h : RfS M tb tl T law k w o cm (x :: P)) (hl : l ≤ rk x) (hw : w < 304) (ho : (if rk x = 7 ∨ x = 20 then 1 else 0) ≤ o) : ∃ M', D (PRm T) M M' ∧ RfS M' tb tl T law k (w + 1) (o - (if rk x = 7 ∨ x = 20 then 1 else 0)) (upc cm w (x, 0)) P ∧ run (ev (d + 1)) m_M_settle 0 [some (.ref 174), some (.int (nI l))] [] NX M = run (ev (d + 1)) m_M_settle 0 [some (.ref 174), some (.int (nI l))] [] NX M' := by
  obtain ⟨l1, l2, g1, g2⟩ := h.len
  have hpi := h.1.1.pi
  have hrk := x_rank (d := d) (M := M) (x := x) (by omega)
  have hrl := rk_le x
  have n0 : ¬ P.length + 1 ≤ 0 := by omega
  have n160 : P.length < 160 := by omega
  have nl : ¬ rk x < l := by omega
  have h1 := h.pop
  have h2 := h1.emit (x := x) (v := 0) hw l2 (by omega)
  have he := x_emit (d := d) (x := x) (v := 0) h1 hw
  have p1 : gI (sI M 174 16 (nI P.length)) 174 16 = nI P.length := gI_sI_eq
  have p2 : gI (sI M 174 16 (nI P.length)) 179 P.length = nI x := by rw [gI_sI_nk (by decide)]; exact g1
  have q1 : gI (emM (sI M 174 16 (nI P.length)) T w x 0) 174 16 = nI P.length := h2.2.2.2.1.1
  have q2 : gI (emM (sI M 174 16 (nI P.length)) T w x 0) 179 P.length = nI x := by
    unfold emM
    rw [gI_sI_nk (by decide), gI_sI_nk (by decide), gI_sI_nk (by decide)]
    exact p2
  have q3 : gI (emM (sI M 174 16 (nI P.length)) T w x 0) 174 17 = nI o := h2.2.2.2.2.1
  have qp : gR (emM (sI M 174 16 (nI P.length)) T w x 0) 174 15 = some 179 := h2.1.1.pi
  have hrk2 := x_rank (d := d) (M := emM (sI M 174 16 (nI P.length)) T w x 0) (x := x) (by omega)
  have d2 : D (PRm T) M (emM (sI M 174 16 (nI P.length)) T w x 0) := (D.rfl'.sI (Or.inl ⟨rfl, by omega⟩)).trans D_emM
  have ho8 := h.2.2.2.2.2.2.2.2
  have start : run (ev (d + 1)) m_M_settle 0 [some (.ref 174), some (.int (nI l))] [] NX M = run (ev (d + 1)) m_M_settle 49 [some (.ref 174), some (.int (nI l))] [] NX (emM (sI M 174 16 (nI P.length)) T w x 0) := by
    rw [r_M_settle_0]
    simp (disch := omega) only [r_M_settle_1, r_M_settle_4, r_M_settle_7, r_M_settle_7n, r_M_settle_8, r_M_settle_11, r_M_settle_11n, r_M_settle_12, r_M_settle_15, r_M_settle_16, r_M_settle_17, r_M_settle_18, r_M_settle_21, r_M_settle_22, r_M_settle_25, r_M_settle_25n, r_M_settle_26, r_M_settle_26i, r_M_settle_27, r_M_settle_30, r_M_settle_31, r_M_settle_32, r_M_settle_35, r_M_settle_35n, r_M_settle_36, r_M_settle_36n, r_M_settle_37, r_M_settle_40, r_M_settle_40n, r_M_settle_41, r_M_settle_44, r_M_settle_45, r_M_settle_46, bnd, tl_s, tl_n, wt_nil, wt_int, wt_ref, wt_null, wt_long, Nat.reduceAdd, Nat.reduceLeDiff, if_true, if_false, decide_true, Bool.true_and, Bool.and_true, zok_n0, zok_n1, zok_bI, bI_eq0, bI_eq1, Bool.true_eq_false, Bool.false_eq_true, not_false_eq_true, not_true_eq_false, decide_false, decide_eq_false_iff_not, decide_eq_true_eq, Classical.not_not, ite_not, lit, Nat.reduceEqDiff, Nat.reduceLT, nI_add, nI_lt', nI_le', nI_eq', nI_sub', pk_mul, nI_rem', nI_div', nI_nz, remN, clampN, inb_nI, Nat.not_lt_zero, Nat.zero_le, Nat.le_zero_eq, if_true, if_false, m1_lt0, m1_eq, t_ite, f_ite, Bool.not_false, Bool.not_true, nI_and, nI_or, nI_xor, nI_shl1, nI_shr, nI_ushr, nI_not, nI_and_p2, Nat.one_mul, vrf_s, vrf_n, oF_174, oO_174, oA_175, oS_175, oA_176, oS_176, oA_177, oS_177, oA_178, oS_178, oA_179, oS_179, oA_180, oS_180, oA_181, oS_181, oA_182, oS_182, oA_183, oS_183, oA_184, oS_184, oA_185, oS_185, oA_186, oS_186, oA_187, oS_187, oA_188, oS_188, mO_M_rank, mO_M_emit, g2, n0, hpi, Nat.add_sub_cancel, n160, g1, hrk, nl, p1, p2, gR_sI, he]
  by_cases e7 : rk x = 7
  · rw [if_pos (Or.inl e7)] at ho ⊢
    refine ⟨_, d2.sI (Or.inl ⟨rfl, by omega⟩), h2.opens (o' := o - 1) (by omega), ?_⟩
    rw [start]
    simp (disch := omega) only [r_M_settle_49, r_M_settle_49n, r_M_settle_50, r_M_settle_53, r_M_settle_53n, r_M_settle_54, r_M_settle_57, r_M_settle_58, r_M_settle_61, r_M_settle_63, r_M_settle_66, r_M_settle_66n, r_M_settle_67, r_M_settle_70, r_M_settle_70n, r_M_settle_71, r_M_settle_74, r_M_settle_75, r_M_settle_77, r_M_settle_80, r_M_settle_80n, r_M_settle_81, r_M_settle_81i, r_M_settle_82, r_M_settle_85, r_M_settle_86, r_M_settle_87, r_M_settle_90, bnd, tl_s, tl_n, wt_nil, wt_int, wt_ref, wt_null, wt_long, Nat.reduceAdd, Nat.reduceLeDiff, if_true, if_false, decide_true, Bool.true_and, Bool.and_true, zok_n0, zok_n1, zok_bI, bI_eq0, bI_eq1, Bool.true_eq_false, Bool.false_eq_true, not_false_eq_true, not_true_eq_false, decide_false, decide_eq_false_iff_not, decide_eq_true_eq, Classical.not_not, ite_not, lit, Nat.reduceEqDiff, Nat.reduceLT, nI_add, nI_lt', nI_le', nI_eq', nI_sub', pk_mul, nI_rem', nI_div', nI_nz, remN, clampN, inb_nI, Nat.not_lt_zero, Nat.zero_le, Nat.le_zero_eq, if_true, if_false, m1_lt0, m1_eq, t_ite, f_ite, Bool.not_false, Bool.not_true, nI_and, nI_or, nI_xor, nI_shl1, nI_shr, nI_ushr, nI_not, nI_and_p2, Nat.one_mul, vrf_s, vrf_n, oF_174, oO_174, oA_175, oS_175, oA_176, oS_176, oA_177, oS_177, oA_178, oS_178, oA_179, oS_179, oA_180, oS_180, oA_181, oS_181, oA_182, oS_182, oA_183, oS_183, oA_184, oS_184, oA_185, oS_185, oA_186, oS_186, oA_187, oS_187, oA_188, oS_188, mO_M_rank, mO_M_emit, qp, q1, q2, q3, n160, hrk2, e7]
  · by_cases e20 : x = 20
    · rw [if_pos (Or.inr e20)] at ho ⊢
      refine ⟨_, d2.sI (Or.inl ⟨rfl, by omega⟩), h2.opens (o' := o - 1) (by omega), ?_⟩
      rw [start]
      subst e20
      simp (disch := omega) only [r_M_settle_49, r_M_settle_49n, r_M_settle_50, r_M_settle_53, r_M_settle_53n, r_M_settle_54, r_M_settle_57, r_M_settle_58, r_M_settle_61, r_M_settle_63, r_M_settle_66, r_M_settle_66n, r_M_settle_67, r_M_settle_70, r_M_settle_70n, r_M_settle_71, r_M_settle_74, r_M_settle_75, r_M_settle_77, r_M_settle_80, r_M_settle_80n, r_M_settle_81, r_M_settle_81i, r_M_settle_82, r_M_settle_85, r_M_settle_86, r_M_settle_87, r_M_settle_90, bnd, tl_s, tl_n, wt_nil, wt_int, wt_ref, wt_null, wt_long, Nat.reduceAdd, Nat.reduceLeDiff, if_true, if_false, decide_true, Bool.true_and, Bool.and_true, zok_n0, zok_n1, zok_bI, bI_eq0, bI_eq1, Bool.true_eq_false, Bool.false_eq_true, not_false_eq_true, not_true_eq_false, decide_false, decide_eq_false_iff_not, decide_eq_true_eq, Classical.not_not, ite_not, lit, Nat.reduceEqDiff, Nat.reduceLT, nI_add, nI_lt', nI_le', nI_eq', nI_sub', pk_mul, nI_rem', nI_div', nI_nz, remN, clampN, inb_nI, Nat.not_lt_zero, Nat.zero_le, Nat.le_zero_eq, if_true, if_false, m1_lt0, m1_eq, t_ite, f_ite, Bool.not_false, Bool.not_true, nI_and, nI_or, nI_xor, nI_shl1, nI_shr, nI_ushr, nI_not, nI_and_p2, Nat.one_mul, vrf_s, vrf_n, oF_174, oO_174, oA_175, oS_175, oA_176, oS_176, oA_177, oS_177, oA_178, oS_178, oA_179, oS_179, oA_180, oS_180, oA_181, oS_181, oA_182, oS_182, oA_183, oS_183, oA_184, oS_184, oA_185, oS_185, oA_186, oS_186, oA_187, oS_187, oA_188, oS_188, mO_M_rank, mO_M_emit, qp, q1, q2, q3, n160, hrk2, e7]
    · rw [if_neg (by omega)] at ho ⊢
      refine ⟨_, d2, h2, ?_⟩
      rw [start]
      simp (disch := omega) only [r_M_settle_49, r_M_settle_49n, r_M_settle_50, r_M_settle_53, r_M_settle_53n, r_M_settle_54, r_M_settle_57, r_M_settle_58, r_M_settle_61, r_M_settle_63, r_M_settle_66, r_M_settle_66n, r_M_settle_67, r_M_settle_70, r_M_settle_70n, r_M_settle_71, r_M_settle_74, r_M_settle_75, r_M_settle_77, bnd, tl_s, tl_n, wt_nil, wt_int, wt_ref, wt_null, wt_long, Nat.reduceAdd, Nat.reduceLeDiff, if_true, if_false, decide_true, Bool.true_and, Bool.and_true, zok_n0, zok_n1, zok_bI, bI_eq0, bI_eq1, Bool.true_eq_false, Bool.false_eq_true, not_false_eq_true, not_true_eq_false, decide_false, decide_eq_false_iff_not, decide_eq_true_eq, Classical.not_not, ite_not, lit, Nat.reduceEqDiff, Nat.reduceLT, nI_add, nI_lt', nI_le', nI_eq', nI_sub', pk_mul, nI_rem', nI_div', nI_nz, remN, clampN, inb_nI, Nat.not_lt_zero, Nat.zero_le, Nat.le_zero_eq, if_true, if_false, m1_lt0, m1_eq, t_ite, f_ite, Bool.not_false, Bool.not_true, nI_and, nI_or, nI_xor, nI_shl1, nI_shr, nI_ushr, nI_not, nI_and_p2, Nat.one_mul, vrf_s, vrf_n, oF_174, oO_174, oA_175, oS_175, oA_176, oS_176, oA_177, oS_177, oA_178, oS_178, oA_179, oS_179, oA_180, oS_180, oA_181, oS_181, oA_182, oS_182, oA_183, oS_183, oA_184, oS_184, oA_185, oS_185, oA_186, oS_186, oA_187, oS_187, oA_188, oS_188, mO_M_rank, mO_M_emit, qp, q1, q2, q3, n160, hrk2, e7, e20]
theorem set_run {l : Nat} (h7 : l ≤ 7) : ∀ (p : List Nat) (M : Mem) w o cm, RfS M tb tl T law k w (o + c20 p) cm (p ++ P) → (∀ x ∈ p, l ≤ rk x) → low P l → w + p.length ≤ 304 → ∃ M', D (PRm T) M M' ∧ RfS M' tb tl T law k (w + p.length) o (emt cm w p) P ∧ run (ev (d + 1)) m_M_settle 0 [some (.ref 174), some (.int (nI l))] [] NX M = some (none, NX, M') := by
  intro p
  induction p with
  | nil =>
    intro M w o cm h _ hl _
    exact ⟨M, D.rfl', h, set_stop h hl h7⟩
  | cons x r ih =>
    intro M w o cm h hp hl hw
    rw [List.length_cons] at hw
    rw [c20] at h
    have h' : RfS M tb tl T law k w (o + ((if rk x = 7 ∨ x = 20 then 1 else 0) + c20 r)) cm (x :: (r ++ P)) := h
    obtain ⟨M1, b1, b2, b3⟩ := set_step (d := d) (l := l) h' (hp x (List.mem_cons_self ..)) (by omega) (by omega)
    rw [show o + ((if rk x = 7 ∨ x = 20 then 1 else 0) + c20 r) - (if rk x = 7 ∨ x = 20 then 1 else 0) = o + c20 r by omega] at b2
    obtain ⟨M2, c1, c2, c3⟩ := ih M1 (w + 1) o _ b2 (fun y hy => hp y (List.mem_cons_of_mem _ hy)) hl (by omega)
    refine ⟨M2, b1.trans c1, ?_, b3.trans c3⟩
    rw [List.length_cons, show w + (r.length + 1) = w + 1 + r.length by omega]
    exact c2
theorem x_settle {l : Nat} {p : List Nat} (h7 : l ≤ 7) (h : RfS M tb tl T law k w (o + c20 p) cm (p ++ P)) (hp : ∀ x ∈ p, l ≤ rk x) (hl : low P l) (hw : w + p.length ≤ 304) : ∃ M', D (PRm T) M M' ∧ RfS M' tb tl T law k (w + p.length) o (emt cm w p) P ∧ ev (d + 2) m_M_settle [.ref 174, .int (nI l)] NX M = some (none, NX, M') := by
  obtain ⟨M', b1, b2, b3⟩ := set_run (d := d) h7 p M w o cm h hp hl hw
  exact ⟨M', b1, b2, by rw [e_M_settle]; exact b3⟩
theorem x_openAt (h : RfS M tb tl T law k w o cm P) : ev (d + 1) m_M_openAt [.ref 174] NX M = some (some (.int (oIx P)), NX, M) := by
  have hpi := h.1.1.pi
  have base : ∀ (Q : List Nat) z, (∀ x ∈ Q, x < 64) → Q.length ≤ 60 → PlM M Q → z = (nI Q.length + -nI 1) → run (ev d) m_M_openAt 7 [some (.ref 174), some (.int z)] [] NX M = some (some (.int (oIx Q)), NX, M) := by
    intro Q
    induction Q with
    | nil =>
      intro z _ _ _ hz
      have c0 : (z < nI 0) = True := eq_true (by rw [hz]; decide)
      rw [r_M_openAt_7]
      simp (disch := omega) only [r_M_openAt_8, r_M_openAt_11, r_M_openAt_11n, r_M_openAt_12, r_M_openAt_15, r_M_openAt_16, r_M_openAt_17, r_M_openAt_19, r_M_openAt_22, r_M_openAt_25, r_M_openAt_28, r_M_openAt_29, bnd, tl_s, tl_n, wt_nil, wt_int, wt_ref, wt_null, wt_long, Nat.reduceAdd, Nat.reduceLeDiff, if_true, if_false, decide_true, Bool.true_and, Bool.and_true, zok_n0, zok_n1, zok_bI, bI_eq0, bI_eq1, Bool.true_eq_false, Bool.false_eq_true, not_false_eq_true, not_true_eq_false, decide_false, decide_eq_false_iff_not, decide_eq_true_eq, Classical.not_not, ite_not, lit, Nat.reduceEqDiff, Nat.reduceLT, nI_add, nI_lt', nI_le', nI_eq', nI_sub', pk_mul, nI_rem', nI_div', nI_nz, remN, clampN, inb_nI, Nat.not_lt_zero, Nat.zero_le, Nat.le_zero_eq, if_true, if_false, m1_lt0, m1_eq, t_ite, f_ite, Bool.not_false, Bool.not_true, nI_and, nI_or, nI_xor, nI_shl1, nI_shr, nI_ushr, nI_not, nI_and_p2, Nat.one_mul, vrf_s, vrf_n, oF_174, oO_174, oA_175, oS_175, oA_176, oS_176, oA_177, oS_177, oA_178, oS_178, oA_179, oS_179, oA_180, oS_180, oA_181, oS_181, oA_182, oS_182, oA_183, oS_183, oA_184, oS_184, oA_185, oS_185, oA_186, oS_186, oA_187, oS_187, oA_188, oS_188, c0]
      rw [hz]
      rfl
    | cons x r ih =>
      intro z hx hl hP hz
      rw [List.length_cons] at hl
      have hxx := hx x (List.mem_cons_self ..)
      have hz' : z = nI r.length := by rw [hz, List.length_cons, nI_dec]
      subst hz'
      have n160 : r.length < 160 := by omega
      have g := hP.1
      rw [r_M_openAt_7]
      unfold oIx
      rw [oAt]
      by_cases e : 40 ≤ x
      · rw [if_pos e]
        simp (disch := omega) only [r_M_openAt_8, r_M_openAt_11, r_M_openAt_11n, r_M_openAt_12, r_M_openAt_15, r_M_openAt_16, r_M_openAt_17, r_M_openAt_19, r_M_openAt_22, r_M_openAt_25, r_M_openAt_28, r_M_openAt_29, bnd, tl_s, tl_n, wt_nil, wt_int, wt_ref, wt_null, wt_long, Nat.reduceAdd, Nat.reduceLeDiff, if_true, if_false, decide_true, Bool.true_and, Bool.and_true, zok_n0, zok_n1, zok_bI, bI_eq0, bI_eq1, Bool.true_eq_false, Bool.false_eq_true, not_false_eq_true, not_true_eq_false, decide_false, decide_eq_false_iff_not, decide_eq_true_eq, Classical.not_not, ite_not, lit, Nat.reduceEqDiff, Nat.reduceLT, nI_add, nI_lt', nI_le', nI_eq', nI_sub', pk_mul, nI_rem', nI_div', nI_nz, remN, clampN, inb_nI, Nat.not_lt_zero, Nat.zero_le, Nat.le_zero_eq, if_true, if_false, m1_lt0, m1_eq, t_ite, f_ite, Bool.not_false, Bool.not_true, nI_and, nI_or, nI_xor, nI_shl1, nI_shr, nI_ushr, nI_not, nI_and_p2, Nat.one_mul, vrf_s, vrf_n, oF_174, oO_174, oA_175, oS_175, oA_176, oS_176, oA_177, oS_177, oA_178, oS_178, oA_179, oS_179, oA_180, oS_180, oA_181, oS_181, oA_182, oS_182, oA_183, oS_183, oA_184, oS_184, oA_185, oS_185, oA_186, oS_186, oA_187, oS_187, oA_188, oS_188, hpi, n160, g, e]
      · rw [if_neg e]
        have := ih (nI r.length + -nI 1) (fun y hy => hx y (List.mem_cons_of_mem _ hy)) (by omega) hP.2 rfl
        unfold oIx at this
        rw [← this]
        simp (disch := omega) only [r_M_openAt_8, r_M_openAt_11, r_M_openAt_11n, r_M_openAt_12, r_M_openAt_15, r_M_openAt_16, r_M_openAt_17, r_M_openAt_19, r_M_openAt_22, r_M_openAt_25, bnd, tl_s, tl_n, wt_nil, wt_int, wt_ref, wt_null, wt_long, Nat.reduceAdd, Nat.reduceLeDiff, if_true, if_false, decide_true, Bool.true_and, Bool.and_true, zok_n0, zok_n1, zok_bI, bI_eq0, bI_eq1, Bool.true_eq_false, Bool.false_eq_true, not_false_eq_true, not_true_eq_false, decide_false, decide_eq_false_iff_not, decide_eq_true_eq, Classical.not_not, ite_not, lit, Nat.reduceEqDiff, Nat.reduceLT, nI_add, nI_lt', nI_le', nI_eq', nI_sub', pk_mul, nI_rem', nI_div', nI_nz, remN, clampN, inb_nI, Nat.not_lt_zero, Nat.zero_le, Nat.le_zero_eq, if_true, if_false, m1_lt0, m1_eq, t_ite, f_ite, Bool.not_false, Bool.not_true, nI_and, nI_or, nI_xor, nI_shl1, nI_shr, nI_ushr, nI_not, nI_and_p2, Nat.one_mul, vrf_s, vrf_n, oF_174, oO_174, oA_175, oS_175, oA_176, oS_176, oA_177, oS_177, oA_178, oS_178, oA_179, oS_179, oA_180, oS_180, oA_181, oS_181, oA_182, oS_182, oA_183, oS_183, oA_184, oS_184, oA_185, oS_185, oA_186, oS_186, oA_187, oS_187, oA_188, oS_188, hpi, n160, g, e]
  have g := h.2.2.2.1.1
  rw [e_M_openAt]
  have hb := base P (nI P.length + -nI 1) h.2.2.2.2.2.2.1 h.2.2.2.2.2.2.2.1 h.2.2.2.1.2 rfl
  rw [← hb]
  simp (disch := omega) only [r_M_openAt_0, r_M_openAt_0n, r_M_openAt_1, r_M_openAt_4, r_M_openAt_5, r_M_openAt_6, bnd, tl_s, tl_n, wt_nil, wt_int, wt_ref, wt_null, wt_long, Nat.reduceAdd, Nat.reduceLeDiff, if_true, if_false, decide_true, Bool.true_and, Bool.and_true, zok_n0, zok_n1, zok_bI, bI_eq0, bI_eq1, Bool.true_eq_false, Bool.false_eq_true, not_false_eq_true, not_true_eq_false, decide_false, decide_eq_false_iff_not, decide_eq_true_eq, Classical.not_not, ite_not, lit, Nat.reduceEqDiff, Nat.reduceLT, nI_add, nI_lt', nI_le', nI_eq', nI_sub', pk_mul, nI_rem', nI_div', nI_nz, remN, clampN, inb_nI, Nat.not_lt_zero, Nat.zero_le, Nat.le_zero_eq, if_true, if_false, m1_lt0, m1_eq, t_ite, f_ite, Bool.not_false, Bool.not_true, nI_and, nI_or, nI_xor, nI_shl1, nI_shr, nI_ushr, nI_not, nI_and_p2, Nat.one_mul, vrf_s, vrf_n, oF_174, oO_174, oA_175, oS_175, oA_176, oS_176, oA_177, oS_177, oA_178, oS_178, oA_179, oS_179, oA_180, oS_180, oA_181, oS_181, oA_182, oS_182, oA_183, oS_183, oA_184, oS_184, oA_185, oS_185, oA_186, oS_186, oA_187, oS_187, oA_188, oS_188, g, Int32.sub_eq_add_neg]
theorem oAt_ok : ∀ (Q : List Nat) x i, (∀ y ∈ Q, y < 64) → oAt Q = some (x, i) → 40 ≤ x ∧ x < 64 ∧ i < Q.length ∧ (PlM M Q → gI M 179 i = nI x) := by
  intro Q
  induction Q with
  | nil => intro x i _ h; cases h
  | cons y r ih =>
    intro x i hy h
    rw [oAt] at h
    by_cases e : 40 ≤ y
    · rw [if_pos e] at h
      injection h with h
      injection h with h1 h2
      subst h1 h2
      exact ⟨e, hy y (List.mem_cons_self ..), by rw [List.length_cons]; omega, fun z => z.1⟩
    · rw [if_neg e] at h
      obtain ⟨a, b, c, f⟩ := ih x i (fun z hz => hy z (List.mem_cons_of_mem _ hz)) h
      exact ⟨a, b, by rw [List.length_cons]; omega, fun z => f z.2⟩
theorem x_openNow (h : RfS M tb tl T law k w o cm P) : ev (d + 2) m_M_openNow [.ref 174] NX M = some (some (.int (oNw P)), NX, M) := by
  have hpi := h.1.1.pi
  have ha := x_openAt (d := d) h
  have hl := h.2.2.2.2.2.2.2.1
  rw [e_M_openNow]
  unfold oNw
  unfold oIx at ha
  cases e : oAt P with
  | none =>
    rw [e] at ha
    have c0 : (nI 0 ≤ -nI 1) = False := eq_false (by decide)
    simp (disch := omega) only [r_M_openNow_0, r_M_openNow_0n, r_M_openNow_1, r_M_openNow_4, r_M_openNow_7, r_M_openNow_8, r_M_openNow_11, r_M_openNow_11n, r_M_openNow_12, r_M_openNow_15, r_M_openNow_15n, r_M_openNow_16, r_M_openNow_19, r_M_openNow_20, bnd, tl_s, tl_n, wt_nil, wt_int, wt_ref, wt_null, wt_long, Nat.reduceAdd, Nat.reduceLeDiff, if_true, if_false, decide_true, Bool.true_and, Bool.and_true, zok_n0, zok_n1, zok_bI, bI_eq0, bI_eq1, Bool.true_eq_false, Bool.false_eq_true, not_false_eq_true, not_true_eq_false, decide_false, decide_eq_false_iff_not, decide_eq_true_eq, Classical.not_not, ite_not, lit, Nat.reduceEqDiff, Nat.reduceLT, nI_add, nI_lt', nI_le', nI_eq', nI_sub', pk_mul, nI_rem', nI_div', nI_nz, remN, clampN, inb_nI, Nat.not_lt_zero, Nat.zero_le, Nat.le_zero_eq, if_true, if_false, m1_lt0, m1_eq, t_ite, f_ite, Bool.not_false, Bool.not_true, nI_and, nI_or, nI_xor, nI_shl1, nI_shr, nI_ushr, nI_not, nI_and_p2, Nat.one_mul, vrf_s, vrf_n, oF_174, oO_174, oA_175, oS_175, oA_176, oS_176, oA_177, oS_177, oA_178, oS_178, oA_179, oS_179, oA_180, oS_180, oA_181, oS_181, oA_182, oS_182, oA_183, oS_183, oA_184, oS_184, oA_185, oS_185, oA_186, oS_186, oA_187, oS_187, oA_188, oS_188, mO_M_openAt, ha, c0]
  | some y =>
    rw [e] at ha
    obtain ⟨b1, b2, b3, b4⟩ := oAt_ok (M := M) P y.1 y.2 h.2.2.2.2.2.2.1 e
    have g := b4 h.2.2.2.1.2
    have n160 : y.2 < 160 := by omega
    simp (disch := omega) only [r_M_openNow_0, r_M_openNow_0n, r_M_openNow_1, r_M_openNow_4, r_M_openNow_7, r_M_openNow_8, r_M_openNow_11, r_M_openNow_11n, r_M_openNow_12, r_M_openNow_15, r_M_openNow_15n, r_M_openNow_16, r_M_openNow_19, r_M_openNow_20, bnd, tl_s, tl_n, wt_nil, wt_int, wt_ref, wt_null, wt_long, Nat.reduceAdd, Nat.reduceLeDiff, if_true, if_false, decide_true, Bool.true_and, Bool.and_true, zok_n0, zok_n1, zok_bI, bI_eq0, bI_eq1, Bool.true_eq_false, Bool.false_eq_true, not_false_eq_true, not_true_eq_false, decide_false, decide_eq_false_iff_not, decide_eq_true_eq, Classical.not_not, ite_not, lit, Nat.reduceEqDiff, Nat.reduceLT, nI_add, nI_lt', nI_le', nI_eq', nI_sub', pk_mul, nI_rem', nI_div', nI_nz, remN, clampN, inb_nI, Nat.not_lt_zero, Nat.zero_le, Nat.le_zero_eq, if_true, if_false, m1_lt0, m1_eq, t_ite, f_ite, Bool.not_false, Bool.not_true, nI_and, nI_or, nI_xor, nI_shl1, nI_shr, nI_ushr, nI_not, nI_and_p2, Nat.one_mul, vrf_s, vrf_n, oF_174, oO_174, oA_175, oS_175, oA_176, oS_176, oA_177, oS_177, oA_178, oS_178, oA_179, oS_179, oA_180, oS_180, oA_181, oS_181, oA_182, oS_182, oA_183, oS_183, oA_184, oS_184, oA_185, oS_185, oA_186, oS_186, oA_187, oS_187, oA_188, oS_188, mO_M_openAt, ha, hpi, n160, g]
theorem x_isCompared (h : RfS M tb tl T law k w o cm P) : ev (d + 2) m_M_isCompared [.ref 174] NX M = some (some (.int (bI (cmpd P))), NX, M) := by
  have hpi := h.1.1.pi
  have base : ∀ (Q : List Nat) z, (∀ x ∈ Q, x < 64) → Q.length ≤ 60 → PlM M Q → z = (nI Q.length + -nI 1) → run (ev (d + 1)) m_M_isCompared 7 [some (.ref 174), some (.int z)] [] NX M = some (some (.int (bI (cmpd Q))), NX, M) := by
    intro Q
    induction Q with
    | nil =>
      intro z _ _ _ hz
      have c0 : (z < nI 0) = True := eq_true (by rw [hz]; decide)
      rw [r_M_isCompared_7]
      simp (disch := omega) only [r_M_isCompared_8, r_M_isCompared_30, r_M_isCompared_31, r_M_isCompared_34, r_M_isCompared_34n, r_M_isCompared_35, r_M_isCompared_38, r_M_isCompared_39, r_M_isCompared_40, r_M_isCompared_43, r_M_isCompared_44, r_M_isCompared_47, r_M_isCompared_48, r_M_isCompared_51, r_M_isCompared_52, bnd, tl_s, tl_n, wt_nil, wt_int, wt_ref, wt_null, wt_long, Nat.reduceAdd, Nat.reduceLeDiff, if_true, if_false, decide_true, Bool.true_and, Bool.and_true, zok_n0, zok_n1, zok_bI, bI_eq0, bI_eq1, Bool.true_eq_false, Bool.false_eq_true, not_false_eq_true, not_true_eq_false, decide_false, decide_eq_false_iff_not, decide_eq_true_eq, Classical.not_not, ite_not, lit, Nat.reduceEqDiff, Nat.reduceLT, nI_add, nI_lt', nI_le', nI_eq', nI_sub', pk_mul, nI_rem', nI_div', nI_nz, remN, clampN, inb_nI, Nat.not_lt_zero, Nat.zero_le, Nat.le_zero_eq, if_true, if_false, m1_lt0, m1_eq, t_ite, f_ite, Bool.not_false, Bool.not_true, nI_and, nI_or, nI_xor, nI_shl1, nI_shr, nI_ushr, nI_not, nI_and_p2, Nat.one_mul, vrf_s, vrf_n, oF_174, oO_174, oA_175, oS_175, oA_176, oS_176, oA_177, oS_177, oA_178, oS_178, oA_179, oS_179, oA_180, oS_180, oA_181, oS_181, oA_182, oS_182, oA_183, oS_183, oA_184, oS_184, oA_185, oS_185, oA_186, oS_186, oA_187, oS_187, oA_188, oS_188, mO_M_rank, c0]
      rfl
    | cons x r ih =>
      intro z hx hl hP hz
      rw [List.length_cons] at hl
      have hxx := hx x (List.mem_cons_self ..)
      have hz' : z = nI r.length := by rw [hz, List.length_cons, nI_dec]
      subst hz'
      have n160 : r.length < 160 := by omega
      have g := hP.1
      have hrk := x_rank (d := d) (M := M) (x := x) (by omega)
      have hrl := rk_le x
      rw [r_M_isCompared_7, cmpd]
      by_cases e : 4 < rk x
      · have e' : ¬ rk x ≤ 4 := by omega
        rw [if_pos e]
        have := ih (nI r.length + -nI 1) (fun y hy => hx y (List.mem_cons_of_mem _ hy)) (by omega) hP.2 rfl
        rw [← this]
        simp (disch := omega) only [r_M_isCompared_8, r_M_isCompared_11, r_M_isCompared_11n, r_M_isCompared_12, r_M_isCompared_15, r_M_isCompared_16, r_M_isCompared_17, r_M_isCompared_20, r_M_isCompared_21, r_M_isCompared_24, r_M_isCompared_27, bnd, tl_s, tl_n, wt_nil, wt_int, wt_ref, wt_null, wt_long, Nat.reduceAdd, Nat.reduceLeDiff, if_true, if_false, decide_true, Bool.true_and, Bool.and_true, zok_n0, zok_n1, zok_bI, bI_eq0, bI_eq1, Bool.true_eq_false, Bool.false_eq_true, not_false_eq_true, not_true_eq_false, decide_false, decide_eq_false_iff_not, decide_eq_true_eq, Classical.not_not, ite_not, lit, Nat.reduceEqDiff, Nat.reduceLT, nI_add, nI_lt', nI_le', nI_eq', nI_sub', pk_mul, nI_rem', nI_div', nI_nz, remN, clampN, inb_nI, Nat.not_lt_zero, Nat.zero_le, Nat.le_zero_eq, if_true, if_false, m1_lt0, m1_eq, t_ite, f_ite, Bool.not_false, Bool.not_true, nI_and, nI_or, nI_xor, nI_shl1, nI_shr, nI_ushr, nI_not, nI_and_p2, Nat.one_mul, vrf_s, vrf_n, oF_174, oO_174, oA_175, oS_175, oA_176, oS_176, oA_177, oS_177, oA_178, oS_178, oA_179, oS_179, oA_180, oS_180, oA_181, oS_181, oA_182, oS_182, oA_183, oS_183, oA_184, oS_184, oA_185, oS_185, oA_186, oS_186, oA_187, oS_187, oA_188, oS_188, mO_M_rank, hpi, n160, g, hrk, e']
      · have e' : rk x ≤ 4 := by omega
        rw [if_neg e]
        by_cases e4 : rk x = 4
        · rw [decide_eq_true e4]
          simp (disch := omega) only [r_M_isCompared_8, r_M_isCompared_11, r_M_isCompared_11n, r_M_isCompared_12, r_M_isCompared_15, r_M_isCompared_16, r_M_isCompared_17, r_M_isCompared_20, r_M_isCompared_21, r_M_isCompared_24, r_M_isCompared_27, r_M_isCompared_30, r_M_isCompared_31, r_M_isCompared_34, r_M_isCompared_34n, r_M_isCompared_35, r_M_isCompared_38, r_M_isCompared_39, r_M_isCompared_40, r_M_isCompared_43, r_M_isCompared_44, r_M_isCompared_47, r_M_isCompared_48, r_M_isCompared_51, r_M_isCompared_52, bnd, tl_s, tl_n, wt_nil, wt_int, wt_ref, wt_null, wt_long, Nat.reduceAdd, Nat.reduceLeDiff, if_true, if_false, decide_true, Bool.true_and, Bool.and_true, zok_n0, zok_n1, zok_bI, bI_eq0, bI_eq1, Bool.true_eq_false, Bool.false_eq_true, not_false_eq_true, not_true_eq_false, decide_false, decide_eq_false_iff_not, decide_eq_true_eq, Classical.not_not, ite_not, lit, Nat.reduceEqDiff, Nat.reduceLT, nI_add, nI_lt', nI_le', nI_eq', nI_sub', pk_mul, nI_rem', nI_div', nI_nz, remN, clampN, inb_nI, Nat.not_lt_zero, Nat.zero_le, Nat.le_zero_eq, if_true, if_false, m1_lt0, m1_eq, t_ite, f_ite, Bool.not_false, Bool.not_true, nI_and, nI_or, nI_xor, nI_shl1, nI_shr, nI_ushr, nI_not, nI_and_p2, Nat.one_mul, vrf_s, vrf_n, oF_174, oO_174, oA_175, oS_175, oA_176, oS_176, oA_177, oS_177, oA_178, oS_178, oA_179, oS_179, oA_180, oS_180, oA_181, oS_181, oA_182, oS_182, oA_183, oS_183, oA_184, oS_184, oA_185, oS_185, oA_186, oS_186, oA_187, oS_187, oA_188, oS_188, mO_M_rank, hpi, n160, g, hrk, e', e4]
          rfl
        · rw [decide_eq_false e4]
          simp (disch := omega) only [r_M_isCompared_8, r_M_isCompared_11, r_M_isCompared_11n, r_M_isCompared_12, r_M_isCompared_15, r_M_isCompared_16, r_M_isCompared_17, r_M_isCompared_20, r_M_isCompared_21, r_M_isCompared_24, r_M_isCompared_27, r_M_isCompared_30, r_M_isCompared_31, r_M_isCompared_34, r_M_isCompared_34n, r_M_isCompared_35, r_M_isCompared_38, r_M_isCompared_39, r_M_isCompared_40, r_M_isCompared_43, r_M_isCompared_44, r_M_isCompared_47, r_M_isCompared_48, r_M_isCompared_51, r_M_isCompared_52, bnd, tl_s, tl_n, wt_nil, wt_int, wt_ref, wt_null, wt_long, Nat.reduceAdd, Nat.reduceLeDiff, if_true, if_false, decide_true, Bool.true_and, Bool.and_true, zok_n0, zok_n1, zok_bI, bI_eq0, bI_eq1, Bool.true_eq_false, Bool.false_eq_true, not_false_eq_true, not_true_eq_false, decide_false, decide_eq_false_iff_not, decide_eq_true_eq, Classical.not_not, ite_not, lit, Nat.reduceEqDiff, Nat.reduceLT, nI_add, nI_lt', nI_le', nI_eq', nI_sub', pk_mul, nI_rem', nI_div', nI_nz, remN, clampN, inb_nI, Nat.not_lt_zero, Nat.zero_le, Nat.le_zero_eq, if_true, if_false, m1_lt0, m1_eq, t_ite, f_ite, Bool.not_false, Bool.not_true, nI_and, nI_or, nI_xor, nI_shl1, nI_shr, nI_ushr, nI_not, nI_and_p2, Nat.one_mul, vrf_s, vrf_n, oF_174, oO_174, oA_175, oS_175, oA_176, oS_176, oA_177, oS_177, oA_178, oS_178, oA_179, oS_179, oA_180, oS_180, oA_181, oS_181, oA_182, oS_182, oA_183, oS_183, oA_184, oS_184, oA_185, oS_185, oA_186, oS_186, oA_187, oS_187, oA_188, oS_188, mO_M_rank, hpi, n160, g, hrk, e', e4]
          rfl
  have g := h.2.2.2.1.1
  rw [e_M_isCompared]
  have hb := base P (nI P.length + -nI 1) h.2.2.2.2.2.2.1 h.2.2.2.2.2.2.2.1 h.2.2.2.1.2 rfl
  rw [← hb]
  simp (disch := omega) only [r_M_isCompared_0, r_M_isCompared_0n, r_M_isCompared_1, r_M_isCompared_4, r_M_isCompared_5, r_M_isCompared_6, bnd, tl_s, tl_n, wt_nil, wt_int, wt_ref, wt_null, wt_long, Nat.reduceAdd, Nat.reduceLeDiff, if_true, if_false, decide_true, Bool.true_and, Bool.and_true, zok_n0, zok_n1, zok_bI, bI_eq0, bI_eq1, Bool.true_eq_false, Bool.false_eq_true, not_false_eq_true, not_true_eq_false, decide_false, decide_eq_false_iff_not, decide_eq_true_eq, Classical.not_not, ite_not, lit, Nat.reduceEqDiff, Nat.reduceLT, nI_add, nI_lt', nI_le', nI_eq', nI_sub', pk_mul, nI_rem', nI_div', nI_nz, remN, clampN, inb_nI, Nat.not_lt_zero, Nat.zero_le, Nat.le_zero_eq, if_true, if_false, m1_lt0, m1_eq, t_ite, f_ite, Bool.not_false, Bool.not_true, nI_and, nI_or, nI_xor, nI_shl1, nI_shr, nI_ushr, nI_not, nI_and_p2, Nat.one_mul, vrf_s, vrf_n, oF_174, oO_174, oA_175, oS_175, oA_176, oS_176, oA_177, oS_177, oA_178, oS_178, oA_179, oS_179, oA_180, oS_180, oA_181, oS_181, oA_182, oS_182, oA_183, oS_183, oA_184, oS_184, oA_185, oS_185, oA_186, oS_186, oA_187, oS_187, oA_188, oS_188, mO_M_rank, g, Int32.sub_eq_add_neg]
theorem oV_nI (h : RfS M tb tl T law k w o cm P) {x : Nat} (hx : 40 ≤ x ∧ x < 64) : (oNw P = nI x) = (oV P = x) := by
  unfold oNw oV
  cases e : oAt P with
  | none =>
    refine propext ⟨fun z => ?_, fun z => ?_⟩
    · exact ((m1_eq (a := x) (by omega)).mp z.symm).elim
    · have z' : 0 = x := z; omega
  | some y =>
    obtain ⟨b1, b2, b3, b4⟩ := oAt_ok (M := M) P y.1 y.2 h.2.2.2.2.2.2.1 e
    dsimp only
    rw [nI_eq' (by omega) (by omega)]
theorem oV_rng (h : RfS M tb tl T law k w o cm P) : (oV P = 0 ∧ oNw P = -nI 1) ∨ (40 ≤ oV P ∧ oV P < 64 ∧ oNw P = nI (oV P)) := by
  unfold oNw oV
  cases e : oAt P with
  | none => exact Or.inl ⟨rfl, rfl⟩
  | some y =>
    obtain ⟨b1, b2, b3, b4⟩ := oAt_ok (M := M) P y.1 y.2 h.2.2.2.2.2.2.1 e
    exact Or.inr ⟨b1, b2, rfl⟩
theorem x_isAskAhead (h : RfS M tb tl T law k w o cm P) : ev (d + 3) m_M_isAskAhead [.ref 174] NX M = some (some (.int (bI (askA P))), NX, M) := by
  have hpi := h.1.1.pi
  have ho := x_openNow (d := d) h
  have hV := oV_nI h (x := 42) (by omega)
  rw [e_M_isAskAhead]
  cases P with
  | nil =>
    have c0 : (oNw [] = nI 42) = False := eq_false (by decide)
    simp (disch := omega) only [r_M_isAskAhead_0, r_M_isAskAhead_0n, r_M_isAskAhead_1, r_M_isAskAhead_4, r_M_isAskAhead_6, r_M_isAskAhead_51, r_M_isAskAhead_52, bnd, tl_s, tl_n, wt_nil, wt_int, wt_ref, wt_null, wt_long, Nat.reduceAdd, Nat.reduceLeDiff, if_true, if_false, decide_true, Bool.true_and, Bool.and_true, zok_n0, zok_n1, zok_bI, bI_eq0, bI_eq1, Bool.true_eq_false, Bool.false_eq_true, not_false_eq_true, not_true_eq_false, decide_false, decide_eq_false_iff_not, decide_eq_true_eq, Classical.not_not, ite_not, lit, Nat.reduceEqDiff, Nat.reduceLT, nI_add, nI_lt', nI_le', nI_eq', nI_sub', pk_mul, nI_rem', nI_div', nI_nz, remN, clampN, inb_nI, Nat.not_lt_zero, Nat.zero_le, Nat.le_zero_eq, if_true, if_false, m1_lt0, m1_eq, t_ite, f_ite, Bool.not_false, Bool.not_true, nI_and, nI_or, nI_xor, nI_shl1, nI_shr, nI_ushr, nI_not, nI_and_p2, Nat.one_mul, vrf_s, vrf_n, oF_174, oO_174, oA_175, oS_175, oA_176, oS_176, oA_177, oS_177, oA_178, oS_178, oA_179, oS_179, oA_180, oS_180, oA_181, oS_181, oA_182, oS_182, oA_183, oS_183, oA_184, oS_184, oA_185, oS_185, oA_186, oS_186, oA_187, oS_187, oA_188, oS_188, mO_M_openNow, mO_M_rank, mO_M_isIn, ho, c0]
    rfl
  | cons x r =>
    obtain ⟨l1, l2, g1, g2⟩ := h.len
    have hrk := x_rank (d := d + 1) (M := M) (x := x) (by omega)
    have hrl := rk_le x
    have n160 : r.length < 160 := by omega
    unfold askA
    dsimp only
    by_cases e : oV (x :: r) = 42
    · have c0 := hV.trans (eq_true e)
      rw [decide_eq_true e, Bool.true_and]
      by_cases e40 : 40 ≤ x
      · rw [decide_eq_true e40]
        simp (disch := omega) only [r_M_isAskAhead_0, r_M_isAskAhead_0n, r_M_isAskAhead_1, r_M_isAskAhead_4, r_M_isAskAhead_6, r_M_isAskAhead_9, r_M_isAskAhead_9n, r_M_isAskAhead_10, r_M_isAskAhead_13, r_M_isAskAhead_13n, r_M_isAskAhead_14, r_M_isAskAhead_17, r_M_isAskAhead_18, r_M_isAskAhead_19, r_M_isAskAhead_20, r_M_isAskAhead_22, r_M_isAskAhead_25, r_M_isAskAhead_25n, r_M_isAskAhead_26, r_M_isAskAhead_29, r_M_isAskAhead_29n, r_M_isAskAhead_30, r_M_isAskAhead_33, r_M_isAskAhead_34, r_M_isAskAhead_35, r_M_isAskAhead_36, r_M_isAskAhead_39, r_M_isAskAhead_40, r_M_isAskAhead_41, r_M_isAskAhead_44, r_M_isAskAhead_47, r_M_isAskAhead_48, r_M_isAskAhead_51, r_M_isAskAhead_52, bnd, tl_s, tl_n, wt_nil, wt_int, wt_ref, wt_null, wt_long, Nat.reduceAdd, Nat.reduceLeDiff, if_true, if_false, decide_true, Bool.true_and, Bool.and_true, zok_n0, zok_n1, zok_bI, bI_eq0, bI_eq1, Bool.true_eq_false, Bool.false_eq_true, not_false_eq_true, not_true_eq_false, decide_false, decide_eq_false_iff_not, decide_eq_true_eq, Classical.not_not, ite_not, lit, Nat.reduceEqDiff, Nat.reduceLT, nI_add, nI_lt', nI_le', nI_eq', nI_sub', pk_mul, nI_rem', nI_div', nI_nz, remN, clampN, inb_nI, Nat.not_lt_zero, Nat.zero_le, Nat.le_zero_eq, if_true, if_false, m1_lt0, m1_eq, t_ite, f_ite, Bool.not_false, Bool.not_true, nI_and, nI_or, nI_xor, nI_shl1, nI_shr, nI_ushr, nI_not, nI_and_p2, Nat.one_mul, vrf_s, vrf_n, oF_174, oO_174, oA_175, oS_175, oA_176, oS_176, oA_177, oS_177, oA_178, oS_178, oA_179, oS_179, oA_180, oS_180, oA_181, oS_181, oA_182, oS_182, oA_183, oS_183, oA_184, oS_184, oA_185, oS_185, oA_186, oS_186, oA_187, oS_187, oA_188, oS_188, mO_M_openNow, mO_M_rank, mO_M_isIn, ho, c0, hpi, g1, g2, Nat.add_sub_cancel, n160, e40]
        rfl
      · rw [decide_eq_false e40, Bool.false_or]
        have hin := x_isIn (d := d + 1) (nx := NX) (M := M) (v := nI (rk x)) (lo := nI 1) (hi := nI 3)
        have hd : decide (nI 1 ≤ nI (rk x) ∧ nI (rk x) ≤ nI 3) = (decide (1 ≤ rk x) && decide (rk x ≤ 3)) := by
          rw [Bool.eq_iff_iff, decide_eq_true_eq, Bool.and_eq_true, decide_eq_true_eq, decide_eq_true_eq, nI_le' (by omega) (by omega), nI_le' (by omega) (by omega)]
        rw [hd] at hin
        cases hq : (decide (1 ≤ rk x) && decide (rk x ≤ 3))
        · rw [hq, bI_f] at hin
          simp (disch := omega) only [r_M_isAskAhead_0, r_M_isAskAhead_0n, r_M_isAskAhead_1, r_M_isAskAhead_4, r_M_isAskAhead_6, r_M_isAskAhead_9, r_M_isAskAhead_9n, r_M_isAskAhead_10, r_M_isAskAhead_13, r_M_isAskAhead_13n, r_M_isAskAhead_14, r_M_isAskAhead_17, r_M_isAskAhead_18, r_M_isAskAhead_19, r_M_isAskAhead_20, r_M_isAskAhead_22, r_M_isAskAhead_25, r_M_isAskAhead_25n, r_M_isAskAhead_26, r_M_isAskAhead_29, r_M_isAskAhead_29n, r_M_isAskAhead_30, r_M_isAskAhead_33, r_M_isAskAhead_34, r_M_isAskAhead_35, r_M_isAskAhead_36, r_M_isAskAhead_39, r_M_isAskAhead_40, r_M_isAskAhead_41, r_M_isAskAhead_44, r_M_isAskAhead_47, r_M_isAskAhead_48, r_M_isAskAhead_51, r_M_isAskAhead_52, bnd, tl_s, tl_n, wt_nil, wt_int, wt_ref, wt_null, wt_long, Nat.reduceAdd, Nat.reduceLeDiff, if_true, if_false, decide_true, Bool.true_and, Bool.and_true, zok_n0, zok_n1, zok_bI, bI_eq0, bI_eq1, Bool.true_eq_false, Bool.false_eq_true, not_false_eq_true, not_true_eq_false, decide_false, decide_eq_false_iff_not, decide_eq_true_eq, Classical.not_not, ite_not, lit, Nat.reduceEqDiff, Nat.reduceLT, nI_add, nI_lt', nI_le', nI_eq', nI_sub', pk_mul, nI_rem', nI_div', nI_nz, remN, clampN, inb_nI, Nat.not_lt_zero, Nat.zero_le, Nat.le_zero_eq, if_true, if_false, m1_lt0, m1_eq, t_ite, f_ite, Bool.not_false, Bool.not_true, nI_and, nI_or, nI_xor, nI_shl1, nI_shr, nI_ushr, nI_not, nI_and_p2, Nat.one_mul, vrf_s, vrf_n, oF_174, oO_174, oA_175, oS_175, oA_176, oS_176, oA_177, oS_177, oA_178, oS_178, oA_179, oS_179, oA_180, oS_180, oA_181, oS_181, oA_182, oS_182, oA_183, oS_183, oA_184, oS_184, oA_185, oS_185, oA_186, oS_186, oA_187, oS_187, oA_188, oS_188, mO_M_openNow, mO_M_rank, mO_M_isIn, ho, c0, hpi, g1, g2, Nat.add_sub_cancel, n160, e40, hrk, hin]
          rfl
        · rw [hq, bI_t] at hin
          simp (disch := omega) only [r_M_isAskAhead_0, r_M_isAskAhead_0n, r_M_isAskAhead_1, r_M_isAskAhead_4, r_M_isAskAhead_6, r_M_isAskAhead_9, r_M_isAskAhead_9n, r_M_isAskAhead_10, r_M_isAskAhead_13, r_M_isAskAhead_13n, r_M_isAskAhead_14, r_M_isAskAhead_17, r_M_isAskAhead_18, r_M_isAskAhead_19, r_M_isAskAhead_20, r_M_isAskAhead_22, r_M_isAskAhead_25, r_M_isAskAhead_25n, r_M_isAskAhead_26, r_M_isAskAhead_29, r_M_isAskAhead_29n, r_M_isAskAhead_30, r_M_isAskAhead_33, r_M_isAskAhead_34, r_M_isAskAhead_35, r_M_isAskAhead_36, r_M_isAskAhead_39, r_M_isAskAhead_40, r_M_isAskAhead_41, r_M_isAskAhead_44, r_M_isAskAhead_47, r_M_isAskAhead_48, r_M_isAskAhead_51, r_M_isAskAhead_52, bnd, tl_s, tl_n, wt_nil, wt_int, wt_ref, wt_null, wt_long, Nat.reduceAdd, Nat.reduceLeDiff, if_true, if_false, decide_true, Bool.true_and, Bool.and_true, zok_n0, zok_n1, zok_bI, bI_eq0, bI_eq1, Bool.true_eq_false, Bool.false_eq_true, not_false_eq_true, not_true_eq_false, decide_false, decide_eq_false_iff_not, decide_eq_true_eq, Classical.not_not, ite_not, lit, Nat.reduceEqDiff, Nat.reduceLT, nI_add, nI_lt', nI_le', nI_eq', nI_sub', pk_mul, nI_rem', nI_div', nI_nz, remN, clampN, inb_nI, Nat.not_lt_zero, Nat.zero_le, Nat.le_zero_eq, if_true, if_false, m1_lt0, m1_eq, t_ite, f_ite, Bool.not_false, Bool.not_true, nI_and, nI_or, nI_xor, nI_shl1, nI_shr, nI_ushr, nI_not, nI_and_p2, Nat.one_mul, vrf_s, vrf_n, oF_174, oO_174, oA_175, oS_175, oA_176, oS_176, oA_177, oS_177, oA_178, oS_178, oA_179, oS_179, oA_180, oS_180, oA_181, oS_181, oA_182, oS_182, oA_183, oS_183, oA_184, oS_184, oA_185, oS_185, oA_186, oS_186, oA_187, oS_187, oA_188, oS_188, mO_M_openNow, mO_M_rank, mO_M_isIn, ho, c0, hpi, g1, g2, Nat.add_sub_cancel, n160, e40, hrk, hin]
          rfl
    · have c0 := hV.trans (eq_false e)
      rw [decide_eq_false e, Bool.false_and]
      simp (disch := omega) only [r_M_isAskAhead_0, r_M_isAskAhead_0n, r_M_isAskAhead_1, r_M_isAskAhead_4, r_M_isAskAhead_6, r_M_isAskAhead_51, r_M_isAskAhead_52, bnd, tl_s, tl_n, wt_nil, wt_int, wt_ref, wt_null, wt_long, Nat.reduceAdd, Nat.reduceLeDiff, if_true, if_false, decide_true, Bool.true_and, Bool.and_true, zok_n0, zok_n1, zok_bI, bI_eq0, bI_eq1, Bool.true_eq_false, Bool.false_eq_true, not_false_eq_true, not_true_eq_false, decide_false, decide_eq_false_iff_not, decide_eq_true_eq, Classical.not_not, ite_not, lit, Nat.reduceEqDiff, Nat.reduceLT, nI_add, nI_lt', nI_le', nI_eq', nI_sub', pk_mul, nI_rem', nI_div', nI_nz, remN, clampN, inb_nI, Nat.not_lt_zero, Nat.zero_le, Nat.le_zero_eq, if_true, if_false, m1_lt0, m1_eq, t_ite, f_ite, Bool.not_false, Bool.not_true, nI_and, nI_or, nI_xor, nI_shl1, nI_shr, nI_ushr, nI_not, nI_and_p2, Nat.one_mul, vrf_s, vrf_n, oF_174, oO_174, oA_175, oS_175, oA_176, oS_176, oA_177, oS_177, oA_178, oS_178, oA_179, oS_179, oA_180, oS_180, oA_181, oS_181, oA_182, oS_182, oA_183, oS_183, oA_184, oS_184, oA_185, oS_185, oA_186, oS_186, oA_187, oS_187, oA_188, oS_188, mO_M_openNow, mO_M_rank, mO_M_isIn, ho, c0]
      rfl
end SET
