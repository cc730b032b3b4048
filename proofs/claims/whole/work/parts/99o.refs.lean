/-! TEXT: the reference at work on a law -/
def PlM (M : Mem) : List Nat → Prop
  | [] => True
  | x :: r => gI M 179 r.length = nI x ∧ PlM M r
def PRm (T k j : Nat) : Prop := (k = 174 ∧ (7 ≤ j ∧ j ≤ 11 ∨ j = 13 ∨ j = 16 ∨ j = 17 ∨ j = 18)) ∨ k = 179 ∨ (k = 177 ∧ 681 * T + 73 ≤ j)
/-- token k, w of code, o open, the pile with its top first -/
def RfS (M : Mem) (tb : Nat → Nat) (tl T law k w o : Nat) (cm : Nat → Nat × Nat) (P : List Nat) : Prop := TpM M tb tl ∧ TkM M tb tl k ∧ (gI M 174 12 = nI (681 * T) ∧ gI M 174 14 = nI law ∧ T < 4 ∧ law < 2) ∧ (gI M 174 16 = nI P.length ∧ PlM M P) ∧ gI M 174 17 = nI o ∧ (gI M 174 13 = nI w ∧ TD M T cm w) ∧ ((∀ x ∈ P, x < 64) ∧ P.length ≤ 60 ∧ o ≤ 8)
def rk (o : Nat) : Nat := if 40 ≤ o then 0 else if o = 22 then 1 else if o = 21 then 2 else if o = 20 then 3 else if 10 ≤ o then 4 else if o = 5 ∨ o = 2 ∨ o = 4 then 7 else if 8 ≤ o then 6 else 5
def emM (M : Mem) (T w o v : Nat) : Mem := sI (sI (sI M 177 (681 * T + 73 + 2 * w) (nI o)) 177 (681 * T + 73 + 2 * w + 1) (nI v)) 174 13 (nI (w + 1))
section REF
variable {d : Nat} {M M' : Mem} {tb : Nat → Nat} {tl T law k w o : Nat} {cm : Nat → Nat × Nat} {P : List Nat}
theorem plm_sI {k0 j0 : Nat} {v : Int32} (hk : k0 ≠ 179) : ∀ {P : List Nat}, PlM M P → PlM (sI M k0 j0 v) P := by
  intro P
  induction P with
  | nil => intro _; trivial
  | cons x r ih => intro h; exact ⟨by rw [gI_sI_nk (fun z => hk z.symm)]; exact h.1, ih h.2⟩
theorem plm_up {j0 : Nat} {v : Int32} : ∀ {P : List Nat}, PlM M P → P.length ≤ j0 → PlM (sI M 179 j0 v) P := by
  intro P
  induction P with
  | nil => intro _ _; trivial
  | cons x r ih => intro h hl; rw [List.length_cons] at hl; exact ⟨by rw [gI_sI_nj (by omega)]; exact h.1, ih h.2 (by omega)⟩
theorem plm_D {Q : Nat → Nat → Prop} (hd : D Q M M') (hq : ∀ j, ¬ Q 179 j) : ∀ {P : List Nat}, PlM M P → PlM M' P := by
  intro P
  induction P with
  | nil => intro _; trivial
  | cons x r ih => intro h; exact ⟨(hd.i (hq _)).trans h.1, ih h.2⟩
theorem tpm_D (h : TpM M tb tl) (hd : D (PRm T) M M') : TpM M' tb tl := by
  obtain ⟨a1, a2, a3, a4, a5⟩ := h
  refine ⟨?_, (hd.i (by unfold PRm; omega)).trans a2, fun i hi => (hd.i (by unfold PRm; omega)).trans (a3 i hi), a4, a5⟩
  unfold FM at a1 ⊢
  obtain ⟨f1, f2, f3, f4, f5, f6, f7, f8, f9, f10, f11, f12, f13, f14⟩ := a1
  have r : ∀ {j v}, gR M 174 j = v → ¬ PRm T 174 j → gR M' 174 j = v := fun {j v} e n => (hd.r n).trans e
  exact ⟨r f1 (by unfold PRm; omega), r f2 (by unfold PRm; omega), r f3 (by unfold PRm; omega), r f4 (by unfold PRm; omega), r f5 (by unfold PRm; omega), r f6 (by unfold PRm; omega), r f7 (by unfold PRm; omega), r f8 (by unfold PRm; omega), r f9 (by unfold PRm; omega), r f10 (by unfold PRm; omega), r f11 (by unfold PRm; omega), r f12 (by unfold PRm; omega), r f13 (by unfold PRm; omega), r f14 (by unfold PRm; omega)⟩
theorem tkm_sI {k0 j0 : Nat} {v : Int32} (h : TkM M tb tl k) (hk : k0 ≠ 174 ∨ 12 ≤ j0) : TkM (sI M k0 j0 v) tb tl k := by
  obtain ⟨a1, a2, a3, a4, a5⟩ := h
  have q : ∀ j, j ≤ 11 → gI (sI M k0 j0 v) 174 j = gI M 174 j := fun j hj => by
    rcases hk with z | z
    · exact gI_sI_nk (fun y => z y.symm)
    · exact gI_sI_nj (by omega)
  exact ⟨(q 7 (by omega)).trans a1, (q 8 (by omega)).trans a2, (q 9 (by omega)).trans a3, fun z => (q 10 (by omega)).trans (a4 z), a5⟩
theorem tkm_D {Q : Nat → Nat → Prop} (h : TkM M tb tl k) (hd : D Q M M') (hq : ∀ j, j ≤ 11 → ¬ Q 174 j) : TkM M' tb tl k := by
  obtain ⟨a1, a2, a3, a4, a5⟩ := h
  exact ⟨(hd.i (hq 7 (by omega))).trans a1, (hd.i (hq 8 (by omega))).trans a2, (hd.i (hq 9 (by omega))).trans a3, fun z => (hd.i (hq 10 (by omega))).trans (a4 z), fun z => (hd.l (hq 11 (by omega))).trans (a5 z)⟩
theorem td_sI {k0 j0 : Nat} {v : Int32} (h : TD M T cm w) (hk : k0 ≠ 177) : TD (sI M k0 j0 v) T cm w := ⟨h.1, fun i hi => by rw [gI_sI_nk (fun z => hk z.symm), gI_sI_nk (fun z => hk z.symm)]; exact h.2 i hi⟩
theorem RfS.mk' {k' w' o' : Nat} {cm' : Nat → Nat × Nat} {P' : List Nat} (h : RfS M tb tl T law k w o cm P) (hd : D (PRm T) M M') (hk : TkM M' tb tl k') (hp : gI M' 174 16 = nI P'.length ∧ PlM M' P') (ho : gI M' 174 17 = nI o') (hc : gI M' 174 13 = nI w' ∧ TD M' T cm' w') (hx : (∀ x ∈ P', x < 64) ∧ P'.length ≤ 60 ∧ o' ≤ 8) : RfS M' tb tl T law k' w' o' cm' P' := by
  obtain ⟨a1, a2, ⟨a3, a4, a5, a6⟩, a7, a8, a9, a10⟩ := h
  exact ⟨tpm_D a1 hd, hk, ⟨(hd.i (by unfold PRm; omega)).trans a3, (hd.i (by unfold PRm; omega)).trans a4, a5, a6⟩, hp, ho, hc, hx⟩
theorem rk_le (x : Nat) : rk x ≤ 7 := by
  unfold rk
  repeat' split
  all_goals omega
theorem x_rank {x : Nat} (hx : x < 100) : ev (d + 1) m_M_rank [.int (nI x)] NX M = some (some (.int (nI (rk x))), NX, M) := by
  rw [e_M_rank]
  unfold rk
  by_cases c1 : 40 ≤ x
  · have n1 : ¬ x < 40 := by omega
    rw [if_pos c1]
    simp (disch := omega) only [r_M_rank_0, r_M_rank_1, r_M_rank_3, r_M_rank_6, r_M_rank_7, r_M_rank_10, r_M_rank_11, r_M_rank_13, r_M_rank_16, r_M_rank_17, r_M_rank_20, r_M_rank_21, r_M_rank_23, r_M_rank_26, r_M_rank_27, r_M_rank_30, r_M_rank_31, r_M_rank_33, r_M_rank_36, r_M_rank_37, r_M_rank_40, r_M_rank_41, r_M_rank_43, r_M_rank_46, r_M_rank_47, r_M_rank_50, r_M_rank_51, r_M_rank_52, r_M_rank_55, r_M_rank_56, r_M_rank_57, r_M_rank_60, r_M_rank_61, r_M_rank_62, r_M_rank_65, r_M_rank_67, r_M_rank_70, r_M_rank_71, r_M_rank_73, r_M_rank_76, r_M_rank_78, r_M_rank_81, r_M_rank_82, bnd, tl_s, tl_n, wt_nil, wt_int, wt_ref, wt_null, wt_long, Nat.reduceAdd, Nat.reduceLeDiff, if_true, if_false, decide_true, Bool.true_and, Bool.and_true, zok_n0, zok_n1, zok_bI, bI_eq0, bI_eq1, Bool.true_eq_false, Bool.false_eq_true, not_false_eq_true, not_true_eq_false, decide_false, decide_eq_false_iff_not, decide_eq_true_eq, Classical.not_not, ite_not, lit, Nat.reduceEqDiff, Nat.reduceLT, nI_add, nI_lt', nI_le', nI_eq', nI_sub', pk_mul, nI_rem', nI_div', nI_nz, remN, clampN, inb_nI, Nat.not_lt_zero, Nat.zero_le, Nat.le_zero_eq, if_true, if_false, m1_lt0, m1_eq, t_ite, f_ite, Bool.not_false, Bool.not_true, nI_and, nI_or, nI_xor, nI_shl1, nI_shr, nI_ushr, nI_not, nI_and_p2, Nat.one_mul, vrf_s, vrf_n, oF_174, oO_174, oA_175, oS_175, oA_176, oS_176, oA_177, oS_177, oA_178, oS_178, oA_179, oS_179, oA_180, oS_180, oA_181, oS_181, oA_182, oS_182, oA_183, oS_183, oA_184, oS_184, oA_185, oS_185, oA_186, oS_186, oA_187, oS_187, oA_188, oS_188, n1]
  · have n1 : x < 40 := by omega
    rw [if_neg c1]
    by_cases c2 : x = 22
    · rw [if_pos c2]
      simp (disch := omega) only [r_M_rank_0, r_M_rank_1, r_M_rank_3, r_M_rank_6, r_M_rank_7, r_M_rank_10, r_M_rank_11, r_M_rank_13, r_M_rank_16, r_M_rank_17, r_M_rank_20, r_M_rank_21, r_M_rank_23, r_M_rank_26, r_M_rank_27, r_M_rank_30, r_M_rank_31, r_M_rank_33, r_M_rank_36, r_M_rank_37, r_M_rank_40, r_M_rank_41, r_M_rank_43, r_M_rank_46, r_M_rank_47, r_M_rank_50, r_M_rank_51, r_M_rank_52, r_M_rank_55, r_M_rank_56, r_M_rank_57, r_M_rank_60, r_M_rank_61, r_M_rank_62, r_M_rank_65, r_M_rank_67, r_M_rank_70, r_M_rank_71, r_M_rank_73, r_M_rank_76, r_M_rank_78, r_M_rank_81, r_M_rank_82, bnd, tl_s, tl_n, wt_nil, wt_int, wt_ref, wt_null, wt_long, Nat.reduceAdd, Nat.reduceLeDiff, if_true, if_false, decide_true, Bool.true_and, Bool.and_true, zok_n0, zok_n1, zok_bI, bI_eq0, bI_eq1, Bool.true_eq_false, Bool.false_eq_true, not_false_eq_true, not_true_eq_false, decide_false, decide_eq_false_iff_not, decide_eq_true_eq, Classical.not_not, ite_not, lit, Nat.reduceEqDiff, Nat.reduceLT, nI_add, nI_lt', nI_le', nI_eq', nI_sub', pk_mul, nI_rem', nI_div', nI_nz, remN, clampN, inb_nI, Nat.not_lt_zero, Nat.zero_le, Nat.le_zero_eq, if_true, if_false, m1_lt0, m1_eq, t_ite, f_ite, Bool.not_false, Bool.not_true, nI_and, nI_or, nI_xor, nI_shl1, nI_shr, nI_ushr, nI_not, nI_and_p2, Nat.one_mul, vrf_s, vrf_n, oF_174, oO_174, oA_175, oS_175, oA_176, oS_176, oA_177, oS_177, oA_178, oS_178, oA_179, oS_179, oA_180, oS_180, oA_181, oS_181, oA_182, oS_182, oA_183, oS_183, oA_184, oS_184, oA_185, oS_185, oA_186, oS_186, oA_187, oS_187, oA_188, oS_188, n1, c2]
    · rw [if_neg c2]
      by_cases c3 : x = 21
      · rw [if_pos c3]
        simp (disch := omega) only [r_M_rank_0, r_M_rank_1, r_M_rank_3, r_M_rank_6, r_M_rank_7, r_M_rank_10, r_M_rank_11, r_M_rank_13, r_M_rank_16, r_M_rank_17, r_M_rank_20, r_M_rank_21, r_M_rank_23, r_M_rank_26, r_M_rank_27, r_M_rank_30, r_M_rank_31, r_M_rank_33, r_M_rank_36, r_M_rank_37, r_M_rank_40, r_M_rank_41, r_M_rank_43, r_M_rank_46, r_M_rank_47, r_M_rank_50, r_M_rank_51, r_M_rank_52, r_M_rank_55, r_M_rank_56, r_M_rank_57, r_M_rank_60, r_M_rank_61, r_M_rank_62, r_M_rank_65, r_M_rank_67, r_M_rank_70, r_M_rank_71, r_M_rank_73, r_M_rank_76, r_M_rank_78, r_M_rank_81, r_M_rank_82, bnd, tl_s, tl_n, wt_nil, wt_int, wt_ref, wt_null, wt_long, Nat.reduceAdd, Nat.reduceLeDiff, if_true, if_false, decide_true, Bool.true_and, Bool.and_true, zok_n0, zok_n1, zok_bI, bI_eq0, bI_eq1, Bool.true_eq_false, Bool.false_eq_true, not_false_eq_true, not_true_eq_false, decide_false, decide_eq_false_iff_not, decide_eq_true_eq, Classical.not_not, ite_not, lit, Nat.reduceEqDiff, Nat.reduceLT, nI_add, nI_lt', nI_le', nI_eq', nI_sub', pk_mul, nI_rem', nI_div', nI_nz, remN, clampN, inb_nI, Nat.not_lt_zero, Nat.zero_le, Nat.le_zero_eq, if_true, if_false, m1_lt0, m1_eq, t_ite, f_ite, Bool.not_false, Bool.not_true, nI_and, nI_or, nI_xor, nI_shl1, nI_shr, nI_ushr, nI_not, nI_and_p2, Nat.one_mul, vrf_s, vrf_n, oF_174, oO_174, oA_175, oS_175, oA_176, oS_176, oA_177, oS_177, oA_178, oS_178, oA_179, oS_179, oA_180, oS_180, oA_181, oS_181, oA_182, oS_182, oA_183, oS_183, oA_184, oS_184, oA_185, oS_185, oA_186, oS_186, oA_187, oS_187, oA_188, oS_188, n1, c2, c3]
      · rw [if_neg c3]
        by_cases c4 : x = 20
        · rw [if_pos c4]
          simp (disch := omega) only [r_M_rank_0, r_M_rank_1, r_M_rank_3, r_M_rank_6, r_M_rank_7, r_M_rank_10, r_M_rank_11, r_M_rank_13, r_M_rank_16, r_M_rank_17, r_M_rank_20, r_M_rank_21, r_M_rank_23, r_M_rank_26, r_M_rank_27, r_M_rank_30, r_M_rank_31, r_M_rank_33, r_M_rank_36, r_M_rank_37, r_M_rank_40, r_M_rank_41, r_M_rank_43, r_M_rank_46, r_M_rank_47, r_M_rank_50, r_M_rank_51, r_M_rank_52, r_M_rank_55, r_M_rank_56, r_M_rank_57, r_M_rank_60, r_M_rank_61, r_M_rank_62, r_M_rank_65, r_M_rank_67, r_M_rank_70, r_M_rank_71, r_M_rank_73, r_M_rank_76, r_M_rank_78, r_M_rank_81, r_M_rank_82, bnd, tl_s, tl_n, wt_nil, wt_int, wt_ref, wt_null, wt_long, Nat.reduceAdd, Nat.reduceLeDiff, if_true, if_false, decide_true, Bool.true_and, Bool.and_true, zok_n0, zok_n1, zok_bI, bI_eq0, bI_eq1, Bool.true_eq_false, Bool.false_eq_true, not_false_eq_true, not_true_eq_false, decide_false, decide_eq_false_iff_not, decide_eq_true_eq, Classical.not_not, ite_not, lit, Nat.reduceEqDiff, Nat.reduceLT, nI_add, nI_lt', nI_le', nI_eq', nI_sub', pk_mul, nI_rem', nI_div', nI_nz, remN, clampN, inb_nI, Nat.not_lt_zero, Nat.zero_le, Nat.le_zero_eq, if_true, if_false, m1_lt0, m1_eq, t_ite, f_ite, Bool.not_false, Bool.not_true, nI_and, nI_or, nI_xor, nI_shl1, nI_shr, nI_ushr, nI_not, nI_and_p2, Nat.one_mul, vrf_s, vrf_n, oF_174, oO_174, oA_175, oS_175, oA_176, oS_176, oA_177, oS_177, oA_178, oS_178, oA_179, oS_179, oA_180, oS_180, oA_181, oS_181, oA_182, oS_182, oA_183, oS_183, oA_184, oS_184, oA_185, oS_185, oA_186, oS_186, oA_187, oS_187, oA_188, oS_188, n1, c2, c3, c4]
        · rw [if_neg c4]
          by_cases c5 : 10 ≤ x
          · have n5 : ¬ x < 10 := by omega
            rw [if_pos c5]
            simp (disch := omega) only [r_M_rank_0, r_M_rank_1, r_M_rank_3, r_M_rank_6, r_M_rank_7, r_M_rank_10, r_M_rank_11, r_M_rank_13, r_M_rank_16, r_M_rank_17, r_M_rank_20, r_M_rank_21, r_M_rank_23, r_M_rank_26, r_M_rank_27, r_M_rank_30, r_M_rank_31, r_M_rank_33, r_M_rank_36, r_M_rank_37, r_M_rank_40, r_M_rank_41, r_M_rank_43, r_M_rank_46, r_M_rank_47, r_M_rank_50, r_M_rank_51, r_M_rank_52, r_M_rank_55, r_M_rank_56, r_M_rank_57, r_M_rank_60, r_M_rank_61, r_M_rank_62, r_M_rank_65, r_M_rank_67, r_M_rank_70, r_M_rank_71, r_M_rank_73, r_M_rank_76, r_M_rank_78, r_M_rank_81, r_M_rank_82, bnd, tl_s, tl_n, wt_nil, wt_int, wt_ref, wt_null, wt_long, Nat.reduceAdd, Nat.reduceLeDiff, if_true, if_false, decide_true, Bool.true_and, Bool.and_true, zok_n0, zok_n1, zok_bI, bI_eq0, bI_eq1, Bool.true_eq_false, Bool.false_eq_true, not_false_eq_true, not_true_eq_false, decide_false, decide_eq_false_iff_not, decide_eq_true_eq, Classical.not_not, ite_not, lit, Nat.reduceEqDiff, Nat.reduceLT, nI_add, nI_lt', nI_le', nI_eq', nI_sub', pk_mul, nI_rem', nI_div', nI_nz, remN, clampN, inb_nI, Nat.not_lt_zero, Nat.zero_le, Nat.le_zero_eq, if_true, if_false, m1_lt0, m1_eq, t_ite, f_ite, Bool.not_false, Bool.not_true, nI_and, nI_or, nI_xor, nI_shl1, nI_shr, nI_ushr, nI_not, nI_and_p2, Nat.one_mul, vrf_s, vrf_n, oF_174, oO_174, oA_175, oS_175, oA_176, oS_176, oA_177, oS_177, oA_178, oS_178, oA_179, oS_179, oA_180, oS_180, oA_181, oS_181, oA_182, oS_182, oA_183, oS_183, oA_184, oS_184, oA_185, oS_185, oA_186, oS_186, oA_187, oS_187, oA_188, oS_188, n1, c2, c3, c4, n5]
          · have n5 : x < 10 := by omega
            rw [if_neg c5]
            by_cases c6 : x = 5
            · rw [if_pos (Or.inl c6)]
              simp (disch := omega) only [r_M_rank_0, r_M_rank_1, r_M_rank_3, r_M_rank_6, r_M_rank_7, r_M_rank_10, r_M_rank_11, r_M_rank_13, r_M_rank_16, r_M_rank_17, r_M_rank_20, r_M_rank_21, r_M_rank_23, r_M_rank_26, r_M_rank_27, r_M_rank_30, r_M_rank_31, r_M_rank_33, r_M_rank_36, r_M_rank_37, r_M_rank_40, r_M_rank_41, r_M_rank_43, r_M_rank_46, r_M_rank_47, r_M_rank_50, r_M_rank_51, r_M_rank_52, r_M_rank_55, r_M_rank_56, r_M_rank_57, r_M_rank_60, r_M_rank_61, r_M_rank_62, r_M_rank_65, r_M_rank_67, r_M_rank_70, r_M_rank_71, r_M_rank_73, r_M_rank_76, r_M_rank_78, r_M_rank_81, r_M_rank_82, bnd, tl_s, tl_n, wt_nil, wt_int, wt_ref, wt_null, wt_long, Nat.reduceAdd, Nat.reduceLeDiff, if_true, if_false, decide_true, Bool.true_and, Bool.and_true, zok_n0, zok_n1, zok_bI, bI_eq0, bI_eq1, Bool.true_eq_false, Bool.false_eq_true, not_false_eq_true, not_true_eq_false, decide_false, decide_eq_false_iff_not, decide_eq_true_eq, Classical.not_not, ite_not, lit, Nat.reduceEqDiff, Nat.reduceLT, nI_add, nI_lt', nI_le', nI_eq', nI_sub', pk_mul, nI_rem', nI_div', nI_nz, remN, clampN, inb_nI, Nat.not_lt_zero, Nat.zero_le, Nat.le_zero_eq, if_true, if_false, m1_lt0, m1_eq, t_ite, f_ite, Bool.not_false, Bool.not_true, nI_and, nI_or, nI_xor, nI_shl1, nI_shr, nI_ushr, nI_not, nI_and_p2, Nat.one_mul, vrf_s, vrf_n, oF_174, oO_174, oA_175, oS_175, oA_176, oS_176, oA_177, oS_177, oA_178, oS_178, oA_179, oS_179, oA_180, oS_180, oA_181, oS_181, oA_182, oS_182, oA_183, oS_183, oA_184, oS_184, oA_185, oS_185, oA_186, oS_186, oA_187, oS_187, oA_188, oS_188, n1, c2, c3, c4, n5, c6]
            · by_cases c7 : x = 2
              · rw [if_pos (Or.inr (Or.inl c7))]
                simp (disch := omega) only [r_M_rank_0, r_M_rank_1, r_M_rank_3, r_M_rank_6, r_M_rank_7, r_M_rank_10, r_M_rank_11, r_M_rank_13, r_M_rank_16, r_M_rank_17, r_M_rank_20, r_M_rank_21, r_M_rank_23, r_M_rank_26, r_M_rank_27, r_M_rank_30, r_M_rank_31, r_M_rank_33, r_M_rank_36, r_M_rank_37, r_M_rank_40, r_M_rank_41, r_M_rank_43, r_M_rank_46, r_M_rank_47, r_M_rank_50, r_M_rank_51, r_M_rank_52, r_M_rank_55, r_M_rank_56, r_M_rank_57, r_M_rank_60, r_M_rank_61, r_M_rank_62, r_M_rank_65, r_M_rank_67, r_M_rank_70, r_M_rank_71, r_M_rank_73, r_M_rank_76, r_M_rank_78, r_M_rank_81, r_M_rank_82, bnd, tl_s, tl_n, wt_nil, wt_int, wt_ref, wt_null, wt_long, Nat.reduceAdd, Nat.reduceLeDiff, if_true, if_false, decide_true, Bool.true_and, Bool.and_true, zok_n0, zok_n1, zok_bI, bI_eq0, bI_eq1, Bool.true_eq_false, Bool.false_eq_true, not_false_eq_true, not_true_eq_false, decide_false, decide_eq_false_iff_not, decide_eq_true_eq, Classical.not_not, ite_not, lit, Nat.reduceEqDiff, Nat.reduceLT, nI_add, nI_lt', nI_le', nI_eq', nI_sub', pk_mul, nI_rem', nI_div', nI_nz, remN, clampN, inb_nI, Nat.not_lt_zero, Nat.zero_le, Nat.le_zero_eq, if_true, if_false, m1_lt0, m1_eq, t_ite, f_ite, Bool.not_false, Bool.not_true, nI_and, nI_or, nI_xor, nI_shl1, nI_shr, nI_ushr, nI_not, nI_and_p2, Nat.one_mul, vrf_s, vrf_n, oF_174, oO_174, oA_175, oS_175, oA_176, oS_176, oA_177, oS_177, oA_178, oS_178, oA_179, oS_179, oA_180, oS_180, oA_181, oS_181, oA_182, oS_182, oA_183, oS_183, oA_184, oS_184, oA_185, oS_185, oA_186, oS_186, oA_187, oS_187, oA_188, oS_188, n1, c2, c3, c4, n5, c6, c7]
              · by_cases c8 : x = 4
                · rw [if_pos (Or.inr (Or.inr c8))]
                  simp (disch := omega) only [r_M_rank_0, r_M_rank_1, r_M_rank_3, r_M_rank_6, r_M_rank_7, r_M_rank_10, r_M_rank_11, r_M_rank_13, r_M_rank_16, r_M_rank_17, r_M_rank_20, r_M_rank_21, r_M_rank_23, r_M_rank_26, r_M_rank_27, r_M_rank_30, r_M_rank_31, r_M_rank_33, r_M_rank_36, r_M_rank_37, r_M_rank_40, r_M_rank_41, r_M_rank_43, r_M_rank_46, r_M_rank_47, r_M_rank_50, r_M_rank_51, r_M_rank_52, r_M_rank_55, r_M_rank_56, r_M_rank_57, r_M_rank_60, r_M_rank_61, r_M_rank_62, r_M_rank_65, r_M_rank_67, r_M_rank_70, r_M_rank_71, r_M_rank_73, r_M_rank_76, r_M_rank_78, r_M_rank_81, r_M_rank_82, bnd, tl_s, tl_n, wt_nil, wt_int, wt_ref, wt_null, wt_long, Nat.reduceAdd, Nat.reduceLeDiff, if_true, if_false, decide_true, Bool.true_and, Bool.and_true, zok_n0, zok_n1, zok_bI, bI_eq0, bI_eq1, Bool.true_eq_false, Bool.false_eq_true, not_false_eq_true, not_true_eq_false, decide_false, decide_eq_false_iff_not, decide_eq_true_eq, Classical.not_not, ite_not, lit, Nat.reduceEqDiff, Nat.reduceLT, nI_add, nI_lt', nI_le', nI_eq', nI_sub', pk_mul, nI_rem', nI_div', nI_nz, remN, clampN, inb_nI, Nat.not_lt_zero, Nat.zero_le, Nat.le_zero_eq, if_true, if_false, m1_lt0, m1_eq, t_ite, f_ite, Bool.not_false, Bool.not_true, nI_and, nI_or, nI_xor, nI_shl1, nI_shr, nI_ushr, nI_not, nI_and_p2, Nat.one_mul, vrf_s, vrf_n, oF_174, oO_174, oA_175, oS_175, oA_176, oS_176, oA_177, oS_177, oA_178, oS_178, oA_179, oS_179, oA_180, oS_180, oA_181, oS_181, oA_182, oS_182, oA_183, oS_183, oA_184, oS_184, oA_185, oS_185, oA_186, oS_186, oA_187, oS_187, oA_188, oS_188, n1, c2, c3, c4, n5, c6, c7, c8]
                · rw [if_neg (by omega)]
                  by_cases c9 : 8 ≤ x
                  · have n9 : ¬ x < 8 := by omega
                    rw [if_pos c9]
                    simp (disch := omega) only [r_M_rank_0, r_M_rank_1, r_M_rank_3, r_M_rank_6, r_M_rank_7, r_M_rank_10, r_M_rank_11, r_M_rank_13, r_M_rank_16, r_M_rank_17, r_M_rank_20, r_M_rank_21, r_M_rank_23, r_M_rank_26, r_M_rank_27, r_M_rank_30, r_M_rank_31, r_M_rank_33, r_M_rank_36, r_M_rank_37, r_M_rank_40, r_M_rank_41, r_M_rank_43, r_M_rank_46, r_M_rank_47, r_M_rank_50, r_M_rank_51, r_M_rank_52, r_M_rank_55, r_M_rank_56, r_M_rank_57, r_M_rank_60, r_M_rank_61, r_M_rank_62, r_M_rank_65, r_M_rank_67, r_M_rank_70, r_M_rank_71, r_M_rank_73, r_M_rank_76, r_M_rank_78, r_M_rank_81, r_M_rank_82, bnd, tl_s, tl_n, wt_nil, wt_int, wt_ref, wt_null, wt_long, Nat.reduceAdd, Nat.reduceLeDiff, if_true, if_false, decide_true, Bool.true_and, Bool.and_true, zok_n0, zok_n1, zok_bI, bI_eq0, bI_eq1, Bool.true_eq_false, Bool.false_eq_true, not_false_eq_true, not_true_eq_false, decide_false, decide_eq_false_iff_not, decide_eq_true_eq, Classical.not_not, ite_not, lit, Nat.reduceEqDiff, Nat.reduceLT, nI_add, nI_lt', nI_le', nI_eq', nI_sub', pk_mul, nI_rem', nI_div', nI_nz, remN, clampN, inb_nI, Nat.not_lt_zero, Nat.zero_le, Nat.le_zero_eq, if_true, if_false, m1_lt0, m1_eq, t_ite, f_ite, Bool.not_false, Bool.not_true, nI_and, nI_or, nI_xor, nI_shl1, nI_shr, nI_ushr, nI_not, nI_and_p2, Nat.one_mul, vrf_s, vrf_n, oF_174, oO_174, oA_175, oS_175, oA_176, oS_176, oA_177, oS_177, oA_178, oS_178, oA_179, oS_179, oA_180, oS_180, oA_181, oS_181, oA_182, oS_182, oA_183, oS_183, oA_184, oS_184, oA_185, oS_185, oA_186, oS_186, oA_187, oS_187, oA_188, oS_188, n1, c2, c3, c4, n5, c6, c7, c8, n9]
                  · have n9 : x < 8 := by omega
                    rw [if_neg c9]
                    simp (disch := omega) only [r_M_rank_0, r_M_rank_1, r_M_rank_3, r_M_rank_6, r_M_rank_7, r_M_rank_10, r_M_rank_11, r_M_rank_13, r_M_rank_16, r_M_rank_17, r_M_rank_20, r_M_rank_21, r_M_rank_23, r_M_rank_26, r_M_rank_27, r_M_rank_30, r_M_rank_31, r_M_rank_33, r_M_rank_36, r_M_rank_37, r_M_rank_40, r_M_rank_41, r_M_rank_43, r_M_rank_46, r_M_rank_47, r_M_rank_50, r_M_rank_51, r_M_rank_52, r_M_rank_55, r_M_rank_56, r_M_rank_57, r_M_rank_60, r_M_rank_61, r_M_rank_62, r_M_rank_65, r_M_rank_67, r_M_rank_70, r_M_rank_71, r_M_rank_73, r_M_rank_76, r_M_rank_78, r_M_rank_81, r_M_rank_82, bnd, tl_s, tl_n, wt_nil, wt_int, wt_ref, wt_null, wt_long, Nat.reduceAdd, Nat.reduceLeDiff, if_true, if_false, decide_true, Bool.true_and, Bool.and_true, zok_n0, zok_n1, zok_bI, bI_eq0, bI_eq1, Bool.true_eq_false, Bool.false_eq_true, not_false_eq_true, not_true_eq_false, decide_false, decide_eq_false_iff_not, decide_eq_true_eq, Classical.not_not, ite_not, lit, Nat.reduceEqDiff, Nat.reduceLT, nI_add, nI_lt', nI_le', nI_eq', nI_sub', pk_mul, nI_rem', nI_div', nI_nz, remN, clampN, inb_nI, Nat.not_lt_zero, Nat.zero_le, Nat.le_zero_eq, if_true, if_false, m1_lt0, m1_eq, t_ite, f_ite, Bool.not_false, Bool.not_true, nI_and, nI_or, nI_xor, nI_shl1, nI_shr, nI_ushr, nI_not, nI_and_p2, Nat.one_mul, vrf_s, vrf_n, oF_174, oO_174, oA_175, oS_175, oA_176, oS_176, oA_177, oS_177, oA_178, oS_178, oA_179, oS_179, oA_180, oS_180, oA_181, oS_181, oA_182, oS_182, oA_183, oS_183, oA_184, oS_184, oA_185, oS_185, oA_186, oS_186, oA_187, oS_187, oA_188, oS_188, n1, c2, c3, c4, n5, c6, c7, c8, n9]
theorem D_emM {x v : Nat} : D (PRm T) M (emM M T w x v) := ((D.rfl'.sI (Or.inr (Or.inr ⟨rfl, by omega⟩))).sI (Or.inr (Or.inr ⟨rfl, by omega⟩))).sI (Or.inl ⟨rfl, by omega⟩)
theorem x_emit {x v : Nat} (h : RfS M tb tl T law k w o cm P) (hw : w < 304) : ev (d + 1) m_M_emit [.ref 174, .int (nI x), .int (nI v)] NX M = some (none, NX, emM M T w x v) := by
  obtain ⟨a1, a2, ⟨a3, a4, a5, a6⟩, a7, a8, a9, a10⟩ := h
  have htx := a1.1.tx
  have g13 := a9.1
  have g1 : ∀ i y, gI (sI M 177 i y) 174 12 = nI (681 * T) := fun i y => by rw [gI_sI_nk (by decide)]; exact a3
  have g2 : ∀ i y, gI (sI M 177 i y) 174 13 = nI w := fun i y => by rw [gI_sI_nk (by decide)]; exact g13
  have g3 : ∀ i y i' y', gI (sI (sI M 177 i y) 177 i' y') 174 13 = nI w := fun i y i' y' => by rw [gI_sI_nk (by decide)]; exact g2 i y
  have i1 : 681 * T + 73 + 2 * w < 2724 := by omega
  have i2 : 681 * T + 73 + 2 * w + 1 < 2724 := by omega
  rw [e_M_emit]
  unfold emM
  simp (disch := omega) only [r_M_emit_0, r_M_emit_0n, r_M_emit_1, r_M_emit_4, r_M_emit_4n, r_M_emit_5, r_M_emit_8, r_M_emit_10, r_M_emit_11, r_M_emit_12, r_M_emit_12n, r_M_emit_13, r_M_emit_16, r_M_emit_17, r_M_emit_18, r_M_emit_19, r_M_emit_20, r_M_emit_20n, r_M_emit_21, r_M_emit_24, r_M_emit_24n, r_M_emit_25, r_M_emit_28, r_M_emit_30, r_M_emit_31, r_M_emit_32, r_M_emit_32n, r_M_emit_33, r_M_emit_36, r_M_emit_37, r_M_emit_38, r_M_emit_39, r_M_emit_40, r_M_emit_41, r_M_emit_42, r_M_emit_42n, r_M_emit_43, r_M_emit_43i, r_M_emit_44, r_M_emit_47, r_M_emit_48, r_M_emit_49, r_M_emit_52, bnd, tl_s, tl_n, wt_nil, wt_int, wt_ref, wt_null, wt_long, Nat.reduceAdd, Nat.reduceLeDiff, if_true, if_false, decide_true, Bool.true_and, Bool.and_true, zok_n0, zok_n1, zok_bI, bI_eq0, bI_eq1, Bool.true_eq_false, Bool.false_eq_true, not_false_eq_true, not_true_eq_false, decide_false, decide_eq_false_iff_not, decide_eq_true_eq, Classical.not_not, ite_not, lit, Nat.reduceEqDiff, Nat.reduceLT, nI_add, nI_lt', nI_le', nI_eq', nI_sub', pk_mul, nI_rem', nI_div', nI_nz, remN, clampN, inb_nI, Nat.not_lt_zero, Nat.zero_le, Nat.le_zero_eq, if_true, if_false, m1_lt0, m1_eq, t_ite, f_ite, Bool.not_false, Bool.not_true, nI_and, nI_or, nI_xor, nI_shl1, nI_shr, nI_ushr, nI_not, nI_and_p2, Nat.one_mul, vrf_s, vrf_n, oF_174, oO_174, oA_175, oS_175, oA_176, oS_176, oA_177, oS_177, oA_178, oS_178, oA_179, oS_179, oA_180, oS_180, oA_181, oS_181, oA_182, oS_182, oA_183, oS_183, oA_184, oS_184, oA_185, oS_185, oA_186, oS_186, oA_187, oS_187, oA_188, oS_188, htx, a3, g13, g1, g2, g3, i1, i2, gR_sI]
theorem td_add {x v : Nat} (h : TD M T cm w) (hw : w < 304) (hx : x < 64) (hv : v ≤ 10000) : TD (emM M T w x v) T (upc cm w (x, v)) (w + 1) := by
  have q : ∀ j', gI (emM M T w x v) 177 j' = gI (sI (sI M 177 (681 * T + 73 + 2 * w) (nI x)) 177 (681 * T + 73 + 2 * w + 1) (nI v)) 177 j' := fun j' => by unfold emM; rw [gI_sI_nk (by decide)]
  refine ⟨by omega, fun i hi => ?_⟩
  rw [q, q]
  by_cases e : i = w
  · subst e
    rw [upc_eq]
    refine ⟨?_, gI_sI_eq, hx, hv⟩
    rw [gI_sI_nj (by omega), gI_sI_eq]
  · rw [upc_ne e]
    obtain ⟨c1, c2, c3, c4⟩ := h.2 i (by omega)
    refine ⟨?_, ?_, c3, c4⟩
    · rw [gI_sI_nj (by omega), gI_sI_nj (by omega)]; exact c1
    · rw [gI_sI_nj (by omega), gI_sI_nj (by omega)]; exact c2
theorem RfS.emit {x v : Nat} (h : RfS M tb tl T law k w o cm P) (hw : w < 304) (hx : x < 64) (hv : v ≤ 10000) : RfS (emM M T w x v) tb tl T law k (w + 1) o (upc cm w (x, v)) P := by
  obtain ⟨a1, a2, a3, a7, a8, a9, a10⟩ := h
  refine RfS.mk' ⟨a1, a2, a3, a7, a8, a9, a10⟩ D_emM (tkm_sI (tkm_sI (tkm_sI a2 (Or.inl (by decide))) (Or.inl (by decide))) (Or.inr (by decide))) ⟨?_, plm_sI (by decide) (plm_sI (by decide) (plm_sI (by decide) a7.2))⟩ ?_ ⟨gI_sI_eq, td_add a9.2 hw hx hv⟩ a10
  · unfold emM; rw [gI_sI_nj (by decide), gI_sI_nk (by decide), gI_sI_nk (by decide)]; exact a7.1
  · unfold emM; rw [gI_sI_nj (by decide), gI_sI_nk (by decide), gI_sI_nk (by decide)]; exact a8
theorem ptm_prm (h : D PTm M M') : D (PRm T) M M' := h.mono (fun k j z => by unfold PTm at z; unfold PRm; omega)
theorem RfS.nxt (h : RfS M tb tl T law k w o cm P) : ∃ M', D PTm M M' ∧ RfS M' tb tl T law (k + 1) w o cm P ∧ ev (d + 2) m_M_nextToken [.ref 174] NX M = some (none, NX, M') := by
  obtain ⟨a1, a2, a3, a7, a8, a9, a10⟩ := h
  obtain ⟨M', b1, b2, b3⟩ := x_nextToken (d := d) (k := k + 1) a1 a2.1
  refine ⟨M', b1, RfS.mk' ⟨a1, a2, a3, a7, a8, a9, a10⟩ (ptm_prm b1) b2 ⟨(b1.i (by unfold PTm; omega)).trans a7.1, plm_D b1 (fun j => by unfold PTm; omega) a7.2⟩ ((b1.i (by unfold PTm; omega)).trans a8) ⟨(b1.i (by unfold PTm; omega)).trans a9.1, a9.2.dP b1 (fun j => by unfold PTm; omega)⟩ a10, b3⟩
def phM (M : Mem) (P : List Nat) (x : Nat) : Mem := sI (sI M 179 P.length (nI x)) 174 16 (nI (P.length + 1))
theorem D_phM {x : Nat} : D (PRm T) M (phM M P x) := (D.rfl'.sI (Or.inr (Or.inl rfl))).sI (Or.inl ⟨rfl, by omega⟩)
theorem RfS.push {x : Nat} (h : RfS M tb tl T law k w o cm P) (hx : x < 64) (hl : P.length < 60) : RfS (phM M P x) tb tl T law k w o cm (x :: P) := by
  obtain ⟨a1, a2, a3, a7, a8, a9, a10⟩ := h
  refine RfS.mk' ⟨a1, a2, a3, a7, a8, a9, a10⟩ D_phM (tkm_sI (tkm_sI a2 (Or.inl (by decide))) (Or.inr (by decide))) ⟨gI_sI_eq, ⟨?_, plm_sI (by decide) (plm_up a7.2 (Nat.le_refl _))⟩⟩ ?_ ⟨?_, td_sI (td_sI a9.2 (by decide)) (by decide)⟩ ⟨fun y hy => by rcases List.mem_cons.mp hy with z | z; rw [z]; exact hx; exact a10.1 y z, by rw [List.length_cons]; omega, a10.2.2⟩
  · unfold phM; rw [gI_sI_nk (by decide), gI_sI_eq]
  · unfold phM; rw [gI_sI_nj (by decide), gI_sI_nk (by decide)]; exact a8
  · unfold phM; rw [gI_sI_nj (by decide), gI_sI_nk (by decide)]; exact a9.1
theorem RfS.pop {x : Nat} (h : RfS M tb tl T law k w o cm (x :: P)) : RfS (sI M 174 16 (nI P.length)) tb tl T law k w o cm P := by
  obtain ⟨a1, a2, a3, a7, a8, a9, a10⟩ := h
  refine RfS.mk' ⟨a1, a2, a3, a7, a8, a9, a10⟩ (D.rfl'.sI (Or.inl ⟨rfl, by omega⟩)) (tkm_sI a2 (Or.inr (by decide))) ⟨gI_sI_eq, plm_sI (by decide) a7.2.2⟩ ?_ ⟨?_, td_sI a9.2 (by decide)⟩ ⟨fun y hy => a10.1 y (List.mem_cons_of_mem _ hy), by have := a10.2.1; rw [List.length_cons] at this; omega, a10.2.2⟩
  · rw [gI_sI_nj (by decide)]; exact a8
  · rw [gI_sI_nj (by decide)]; exact a9.1
theorem RfS.opens {o' : Nat} (h : RfS M tb tl T law k w o cm P) (ho : o' ≤ 8) : RfS (sI M 174 17 (nI o')) tb tl T law k w o' cm P := by
  obtain ⟨a1, a2, a3, a7, a8, a9, a10⟩ := h
  refine RfS.mk' ⟨a1, a2, a3, a7, a8, a9, a10⟩ (D.rfl'.sI (Or.inl ⟨rfl, by omega⟩)) (tkm_sI a2 (Or.inr (by decide))) ⟨?_, plm_sI (by decide) a7.2⟩ gI_sI_eq ⟨?_, td_sI a9.2 (by decide)⟩ ⟨a10.1, a10.2.1, ho⟩
  · rw [gI_sI_nj (by decide)]; exact a7.1
  · rw [gI_sI_nj (by decide)]; exact a9.1
theorem RfS.whole {v : Int32} (h : RfS M tb tl T law k w o cm P) : RfS (sI M 174 18 v) tb tl T law k w o cm P := by
  obtain ⟨a1, a2, a3, a7, a8, a9, a10⟩ := h
  refine RfS.mk' ⟨a1, a2, a3, a7, a8, a9, a10⟩ (D.rfl'.sI (Or.inl ⟨rfl, by omega⟩)) (tkm_sI a2 (Or.inr (by decide))) ⟨?_, plm_sI (by decide) a7.2⟩ ?_ ⟨?_, td_sI a9.2 (by decide)⟩ a10
  · rw [gI_sI_nj (by decide)]; exact a7.1
  · rw [gI_sI_nj (by decide)]; exact a8
  · rw [gI_sI_nj (by decide)]; exact a9.1
/-- the pile's top, changed -/
theorem RfS.top {x y : Nat} (h : RfS M tb tl T law k w o cm (x :: P)) (hy : y < 64) : RfS (sI M 179 P.length (nI y)) tb tl T law k w o cm (y :: P) := by
  obtain ⟨a1, a2, a3, a7, a8, a9, a10⟩ := h
  refine RfS.mk' ⟨a1, a2, a3, a7, a8, a9, a10⟩ (D.rfl'.sI (Or.inr (Or.inl rfl))) (tkm_sI a2 (Or.inl (by decide))) ⟨?_, ⟨gI_sI_eq, plm_up a7.2.2 (Nat.le_refl _)⟩⟩ ?_ ⟨?_, td_sI a9.2 (by decide)⟩ ⟨fun z hz => by rcases List.mem_cons.mp hz with q | q; rw [q]; exact hy; exact a10.1 z (List.mem_cons_of_mem _ q), a10.2⟩
  · rw [gI_sI_nk (by decide)]; exact a7.1
  · rw [gI_sI_nk (by decide)]; exact a8
  · rw [gI_sI_nk (by decide)]; exact a9.1
end REF
