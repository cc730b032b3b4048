/-! TEXT: the reference reads a clause's body -/
def QX (X k j : Nat) : Prop := (k = 174 ∧ 7 ≤ j ∧ j ≤ 11) ∨ (k = 177 ∧ (j = X + 1 ∨ j = X + 2))
section ZBD
variable {d : Nat} {M M' : Mem} {tb : Nat → Nat} {tl T k w s X : Nat} {cm : Nat → Nat × Nat} {x : Tx}
theorem x_figure {lo hi : Nat} (hT : TpM M tb tl) (hk : TkM M tb tl k) (hX : X < 2724) (hhi : hi ≤ 9999) (hlo : lo ≤ 9999) : (kdT tb tl k ≠ 41 → ev (d + 3) m_M_figure [.ref 174, .int (nI X), .int (nI lo), .int (nI hi)] NX M = some (some (.int (nI 1)), NX, M)) ∧ (kdT tb tl k = 41 → ¬ (lo ≤ vlT tb tl k ∧ vlT tb tl k ≤ hi) → ev (d + 3) m_M_figure [.ref 174, .int (nI X), .int (nI lo), .int (nI hi)] NX M = some (some (.int (nI 2)), NX, M)) ∧ (kdT tb tl k = 41 → lo ≤ vlT tb tl k ∧ vlT tb tl k ≤ hi → ∃ M', D PTm (sI M 177 X (nI (vlT tb tl k))) M' ∧ TkM M' tb tl (k + 1) ∧ ev (d + 3) m_M_figure [.ref 174, .int (nI X), .int (nI lo), .int (nI hi)] NX M = some (some (.int (nI 0)), NX, M')) := by
  have h9 := hk.2.2.1
  have ht := tc_lt (tb := tb) (tl := tl) (k := k)
  have htx := hT.1.tx
  refine ⟨fun e => ?_, fun e hn => ?_, fun e hn => ?_⟩
  · have q1 := (tq_1 (tb := tb) (tl := tl) (k := k)).trans (eq_false e)
    rw [e_M_figure]
    simp (disch := omega) only [r_M_figure_0, r_M_figure_0n, r_M_figure_1, r_M_figure_4, r_M_figure_5, r_M_figure_8, r_M_figure_9, bnd, tl_s, tl_n, wt_nil, wt_int, wt_ref, wt_null, wt_long, Nat.reduceAdd, Nat.reduceLeDiff, if_true, if_false, decide_true, Bool.true_and, Bool.and_true, zok_n0, zok_n1, zok_bI, bI_eq0, bI_eq1, Bool.true_eq_false, Bool.false_eq_true, not_false_eq_true, not_true_eq_false, decide_false, decide_eq_false_iff_not, decide_eq_true_eq, Classical.not_not, ite_not, lit, Nat.reduceEqDiff, Nat.reduceLT, nI_add, nI_lt', nI_le', nI_eq', nI_sub', pk_mul, nI_rem', nI_div', nI_nz, remN, clampN, inb_nI, Nat.not_lt_zero, Nat.zero_le, Nat.le_zero_eq, if_true, if_false, m1_lt0, m1_eq, t_ite, f_ite, Bool.not_false, Bool.not_true, nI_and, nI_or, nI_xor, nI_shl1, nI_shr, nI_ushr, nI_not, nI_and_p2, Nat.one_mul, vrf_s, vrf_n, oF_174, oO_174, oA_175, oS_175, oA_176, oS_176, oA_177, oS_177, oA_178, oS_178, oA_179, oS_179, oA_180, oS_180, oA_181, oS_181, oA_182, oS_182, oA_183, oS_183, oA_184, oS_184, oA_185, oS_185, oA_186, oS_186, oA_187, oS_187, oA_188, oS_188, mO_M_isIn, mO_M_nextToken, h9, q1]
  · obtain ⟨n1, n2, n3, n4⟩ := nu_vl (M := M) e
    have h10 := n4 hk
    have q1 : tcA tb tl (plT tb tl k) = 1 := tq_1.mpr e
    have hin := x_isIn (d := d + 1) (nx := NX) (M := M) (v := nI (nuA tb tl (plT tb tl k))) (lo := nI lo) (hi := nI hi)
    have hd : decide (nI lo ≤ nI (nuA tb tl (plT tb tl k)) ∧ nI (nuA tb tl (plT tb tl k)) ≤ nI hi) = false := by
      rw [decide_eq_false_iff_not, nI_le' (by omega) (by omega), nI_le' (by omega) (by omega)]
      intro z
      exact hn (by rw [← n2 (n1.mpr (by omega))]; exact z)
    rw [hd, bI_f] at hin
    rw [e_M_figure]
    simp (disch := omega) only [r_M_figure_0, r_M_figure_0n, r_M_figure_1, r_M_figure_4, r_M_figure_5, r_M_figure_8, r_M_figure_9, r_M_figure_10, r_M_figure_10n, r_M_figure_11, r_M_figure_14, r_M_figure_15, r_M_figure_16, r_M_figure_19, r_M_figure_22, r_M_figure_23, bnd, tl_s, tl_n, wt_nil, wt_int, wt_ref, wt_null, wt_long, Nat.reduceAdd, Nat.reduceLeDiff, if_true, if_false, decide_true, Bool.true_and, Bool.and_true, zok_n0, zok_n1, zok_bI, bI_eq0, bI_eq1, Bool.true_eq_false, Bool.false_eq_true, not_false_eq_true, not_true_eq_false, decide_false, decide_eq_false_iff_not, decide_eq_true_eq, Classical.not_not, ite_not, lit, Nat.reduceEqDiff, Nat.reduceLT, nI_add, nI_lt', nI_le', nI_eq', nI_sub', pk_mul, nI_rem', nI_div', nI_nz, remN, clampN, inb_nI, Nat.not_lt_zero, Nat.zero_le, Nat.le_zero_eq, if_true, if_false, m1_lt0, m1_eq, t_ite, f_ite, Bool.not_false, Bool.not_true, nI_and, nI_or, nI_xor, nI_shl1, nI_shr, nI_ushr, nI_not, nI_and_p2, Nat.one_mul, vrf_s, vrf_n, oF_174, oO_174, oA_175, oS_175, oA_176, oS_176, oA_177, oS_177, oA_178, oS_178, oA_179, oS_179, oA_180, oS_180, oA_181, oS_181, oA_182, oS_182, oA_183, oS_183, oA_184, oS_184, oA_185, oS_185, oA_186, oS_186, oA_187, oS_187, oA_188, oS_188, mO_M_isIn, mO_M_nextToken, h9, q1, h10, hin]
  · obtain ⟨n1, n2, n3, n4⟩ := nu_vl (M := M) e
    have h10 := n4 hk
    rw [n2 (by omega)] at h10
    have q1 : tcA tb tl (plT tb tl k) = 1 := tq_1.mpr e
    have hin := x_isIn (d := d + 1) (nx := NX) (M := M) (v := nI (vlT tb tl k)) (lo := nI lo) (hi := nI hi)
    have hd : decide (nI lo ≤ nI (vlT tb tl k) ∧ nI (vlT tb tl k) ≤ nI hi) = true := by
      rw [decide_eq_true_eq, nI_le' (by omega) (by omega), nI_le' (by omega) (by omega)]
      exact hn
    rw [hd, bI_t] at hin
    have hT1 : TpM (sI M 177 X (nI (vlT tb tl k))) tb tl := ⟨hT.1, by rw [gI_sI_nk (by decide)]; exact hT.2.1, fun i hi => by rw [gI_sI_nk (by decide)]; exact hT.2.2.1 i hi, hT.2.2.2⟩
    have hk1 : TkM (sI M 177 X (nI (vlT tb tl k))) tb tl k := tkm_sI hk (Or.inl (by decide))
    obtain ⟨M', b1, b2, b3⟩ := x_nextToken (d := d) (k := k + 1) hT1 hk1.1
    refine ⟨M', b1, b2, ?_⟩
    rw [e_M_figure]
    simp (disch := omega) only [r_M_figure_0, r_M_figure_0n, r_M_figure_1, r_M_figure_4, r_M_figure_5, r_M_figure_8, r_M_figure_9, r_M_figure_10, r_M_figure_10n, r_M_figure_11, r_M_figure_14, r_M_figure_15, r_M_figure_16, r_M_figure_19, r_M_figure_22, r_M_figure_23, r_M_figure_24, r_M_figure_24n, r_M_figure_25, r_M_figure_28, r_M_figure_29, r_M_figure_29n, r_M_figure_30, r_M_figure_33, r_M_figure_34, r_M_figure_34n, r_M_figure_35, r_M_figure_38, r_M_figure_39, bnd, tl_s, tl_n, wt_nil, wt_int, wt_ref, wt_null, wt_long, Nat.reduceAdd, Nat.reduceLeDiff, if_true, if_false, decide_true, Bool.true_and, Bool.and_true, zok_n0, zok_n1, zok_bI, bI_eq0, bI_eq1, Bool.true_eq_false, Bool.false_eq_true, not_false_eq_true, not_true_eq_false, decide_false, decide_eq_false_iff_not, decide_eq_true_eq, Classical.not_not, ite_not, lit, Nat.reduceEqDiff, Nat.reduceLT, nI_add, nI_lt', nI_le', nI_eq', nI_sub', pk_mul, nI_rem', nI_div', nI_nz, remN, clampN, inb_nI, Nat.not_lt_zero, Nat.zero_le, Nat.le_zero_eq, if_true, if_false, m1_lt0, m1_eq, t_ite, f_ite, Bool.not_false, Bool.not_true, nI_and, nI_or, nI_xor, nI_shl1, nI_shr, nI_ushr, nI_not, nI_and_p2, Nat.one_mul, vrf_s, vrf_n, oF_174, oO_174, oA_175, oS_175, oA_176, oS_176, oA_177, oS_177, oA_178, oS_178, oA_179, oS_179, oA_180, oS_180, oA_181, oS_181, oA_182, oS_182, oA_183, oS_183, oA_184, oS_184, oA_185, oS_185, oA_186, oS_186, oA_187, oS_187, oA_188, oS_188, mO_M_isIn, mO_M_nextToken, h9, q1, h10, hin, htx, hX, b3]
def pF (kd vl : Nat → Nat) (lo hi wj t2 k : Nat) : Nat × Nat := if kd k = 41 then (if lo ≤ vl k ∧ vl k ≤ hi then (if kd (k + 1) = wj then (if kd (k + 2) = 41 then (if vl (k + 2) ≤ 7 ∨ (t2 = 9 ∧ vl (k + 2) = 9) then (0, k + 3) else (2, k + 2)) else (1, k + 2)) else (1, k + 1)) else (2, k)) else (1, k)
theorem x_pair {lo hi wj t2 : Nat} {W : Int64} (hT : TpM M tb tl) (hk : TkM M tb tl k) (hX : X + 2 < 2724) (hhi : hi ≤ 9999) (hlo : lo ≤ 9999) (ht2 : t2 = 7 ∨ t2 = 9) (hW : ∀ M k, TkM M tb tl k → ev (d + 3) m_M_isWord [.ref 174, .long W] NX M = some (some (.int (bI (decide (kdT tb tl k = wj)))), NX, M)) : ∃ M', D (QX X) M M' ∧ ev (d + 4) m_M_pair [.ref 174, .int (nI X), .int (nI lo), .int (nI hi), .long W, .int (nI t2)] NX M = some (some (.int (nI (pF (kdT tb tl) (vlT tb tl) lo hi wj t2 k).1)), NX, M') ∧ ((pF (kdT tb tl) (vlT tb tl) lo hi wj t2 k).1 ≠ 0 → gI M' 174 8 = nI (plT tb tl (pF (kdT tb tl) (vlT tb tl) lo hi wj t2 k).2)) ∧ ((pF (kdT tb tl) (vlT tb tl) lo hi wj t2 k).1 = 0 → TkM M' tb tl (pF (kdT tb tl) (vlT tb tl) lo hi wj t2 k).2 ∧ gI M' 177 (X + 1) = nI (vlT tb tl k) ∧ gI M' 177 (X + 2) = nI (vlT tb tl (k + 2))) := by
  obtain ⟨f1, f2, f3⟩ := x_figure (d := d) (X := X + 1) (lo := lo) (hi := hi) hT hk (by omega) hhi hlo
  rw [e_M_pair]
  unfold pF
  by_cases e1 : kdT tb tl k = 41
  · rw [if_pos e1]
    by_cases e2 : lo ≤ vlT tb tl k ∧ vlT tb tl k ≤ hi
    · rw [if_pos e2]
      obtain ⟨M1, b1, b2, b3⟩ := f3 e1 e2
      have dq1 : D (QX X) M M1 := (D.rfl'.sI (Or.inr ⟨rfl, Or.inl rfl⟩)).trans (b1.mono (fun k j z => Or.inl z))
      have hT1 : TpM M1 tb tl := TpM.tok (M := sI M 177 (X + 1) (nI (vlT tb tl k))) ⟨hT.1, by rw [gI_sI_nk (by decide)]; exact hT.2.1, fun i hi => by rw [gI_sI_nk (by decide)]; exact hT.2.2.1 i hi, hT.2.2.2⟩ b1
      have c1 : gI M1 177 (X + 1) = nI (vlT tb tl k) := by rw [b1.i (by unfold PTm; omega), gI_sI_eq]
      have hw := hW M1 (k + 1) b2
      by_cases e3 : kdT tb tl (k + 1) = wj
      · rw [if_pos e3]
        rw [decide_eq_true e3, bI_t] at hw
        obtain ⟨M2, g1, g2, g3⟩ := x_nextToken (d := d + 1) (k := k + 2) hT1 b2.1
        have hT2 := hT1.tok g1
        have dq2 : D (QX X) M M2 := dq1.trans (g1.mono (fun k j z => Or.inl z))
        have c2 : gI M2 177 (X + 1) = nI (vlT tb tl k) := by rw [g1.i (by unfold PTm; omega)]; exact c1
        have h9 := g2.2.2.1
        have ht := tc_lt (tb := tb) (tl := tl) (k := k + 2)
        obtain ⟨u1, u2, u3⟩ := x_figure (d := d) (X := X + 2) (lo := 0) (hi := t2) hT2 g2 (by omega) (by omega) (by omega)
        by_cases e4 : kdT tb tl (k + 2) = 41
        · rw [if_pos e4]
          obtain ⟨n1, n2, n3, n4⟩ := nu_vl (M := M2) e4
          have h10 := n4 g2
          have q1 : tcA tb tl (plT tb tl (k + 2)) = 1 := tq_1.mpr e4
          by_cases e5 : vlT tb tl (k + 2) ≤ 7 ∨ (t2 = 9 ∧ vlT tb tl (k + 2) = 9)
          · rw [if_pos e5]
            obtain ⟨M3, v1, v2, v3⟩ := u3 e4 (by omega)
            have n8 : ¬ nuA tb tl (plT tb tl (k + 2)) = 8 := by rw [n2 (by omega)]; omega
            have dq3 : D (QX X) M M3 := (dq2.sI (Or.inr ⟨rfl, Or.inr rfl⟩)).trans (v1.mono (fun k j z => Or.inl z))
            refine ⟨M3, dq3, ?_, fun q => absurd rfl q, fun _ => ⟨v2, ?_, ?_⟩⟩
            · rcases ht2 with rfl | rfl
              · simp (disch := omega) only [r_M_pair_0, r_M_pair_0n, r_M_pair_1, r_M_pair_2, r_M_pair_3, r_M_pair_4, r_M_pair_5, r_M_pair_6, r_M_pair_9, r_M_pair_11, r_M_pair_13, r_M_pair_16, r_M_pair_18, r_M_pair_19, r_M_pair_19n, r_M_pair_20, r_M_pair_22, r_M_pair_25, r_M_pair_28, r_M_pair_29, r_M_pair_30, r_M_pair_30n, r_M_pair_31, r_M_pair_34, r_M_pair_34n, r_M_pair_35, r_M_pair_38, r_M_pair_39, r_M_pair_42, r_M_pair_44, r_M_pair_46, r_M_pair_49, r_M_pair_49n, r_M_pair_50, r_M_pair_53, r_M_pair_55, r_M_pair_58, r_M_pair_59, r_M_pair_60, r_M_pair_60n, r_M_pair_61, r_M_pair_62, r_M_pair_63, r_M_pair_64, r_M_pair_65, r_M_pair_67, r_M_pair_70, bnd, tl_s, tl_n, wt_nil, wt_int, wt_ref, wt_null, wt_long, Nat.reduceAdd, Nat.reduceLeDiff, if_true, if_false, decide_true, Bool.true_and, Bool.and_true, zok_n0, zok_n1, zok_bI, bI_eq0, bI_eq1, Bool.true_eq_false, Bool.false_eq_true, not_false_eq_true, not_true_eq_false, decide_false, decide_eq_false_iff_not, decide_eq_true_eq, Classical.not_not, ite_not, lit, Nat.reduceEqDiff, Nat.reduceLT, nI_add, nI_lt', nI_le', nI_eq', nI_sub', pk_mul, nI_rem', nI_div', nI_nz, remN, clampN, inb_nI, Nat.not_lt_zero, Nat.zero_le, Nat.le_zero_eq, if_true, if_false, m1_lt0, m1_eq, t_ite, f_ite, Bool.not_false, Bool.not_true, nI_and, nI_or, nI_xor, nI_shl1, nI_shr, nI_ushr, nI_not, nI_and_p2, Nat.one_mul, vrf_s, vrf_n, oF_174, oO_174, oA_175, oS_175, oA_176, oS_176, oA_177, oS_177, oA_178, oS_178, oA_179, oS_179, oA_180, oS_180, oA_181, oS_181, oA_182, oS_182, oA_183, oS_183, oA_184, oS_184, oA_185, oS_185, oA_186, oS_186, oA_187, oS_187, oA_188, oS_188, mO_M_figure, mO_M_isWord, mO_M_nextToken, b3, hw, g3, h9, q1, v3]
              · simp (disch := omega) only [r_M_pair_0, r_M_pair_0n, r_M_pair_1, r_M_pair_2, r_M_pair_3, r_M_pair_4, r_M_pair_5, r_M_pair_6, r_M_pair_9, r_M_pair_11, r_M_pair_13, r_M_pair_16, r_M_pair_18, r_M_pair_19, r_M_pair_19n, r_M_pair_20, r_M_pair_22, r_M_pair_25, r_M_pair_28, r_M_pair_29, r_M_pair_30, r_M_pair_30n, r_M_pair_31, r_M_pair_34, r_M_pair_34n, r_M_pair_35, r_M_pair_38, r_M_pair_39, r_M_pair_42, r_M_pair_44, r_M_pair_46, r_M_pair_49, r_M_pair_49n, r_M_pair_50, r_M_pair_53, r_M_pair_55, r_M_pair_58, r_M_pair_59, r_M_pair_60, r_M_pair_60n, r_M_pair_61, r_M_pair_62, r_M_pair_63, r_M_pair_64, r_M_pair_65, r_M_pair_67, r_M_pair_70, bnd, tl_s, tl_n, wt_nil, wt_int, wt_ref, wt_null, wt_long, Nat.reduceAdd, Nat.reduceLeDiff, if_true, if_false, decide_true, Bool.true_and, Bool.and_true, zok_n0, zok_n1, zok_bI, bI_eq0, bI_eq1, Bool.true_eq_false, Bool.false_eq_true, not_false_eq_true, not_true_eq_false, decide_false, decide_eq_false_iff_not, decide_eq_true_eq, Classical.not_not, ite_not, lit, Nat.reduceEqDiff, Nat.reduceLT, nI_add, nI_lt', nI_le', nI_eq', nI_sub', pk_mul, nI_rem', nI_div', nI_nz, remN, clampN, inb_nI, Nat.not_lt_zero, Nat.zero_le, Nat.le_zero_eq, if_true, if_false, m1_lt0, m1_eq, t_ite, f_ite, Bool.not_false, Bool.not_true, nI_and, nI_or, nI_xor, nI_shl1, nI_shr, nI_ushr, nI_not, nI_and_p2, Nat.one_mul, vrf_s, vrf_n, oF_174, oO_174, oA_175, oS_175, oA_176, oS_176, oA_177, oS_177, oA_178, oS_178, oA_179, oS_179, oA_180, oS_180, oA_181, oS_181, oA_182, oS_182, oA_183, oS_183, oA_184, oS_184, oA_185, oS_185, oA_186, oS_186, oA_187, oS_187, oA_188, oS_188, mO_M_figure, mO_M_isWord, mO_M_nextToken, b3, hw, g3, h9, q1, h10, n8, v3]
            · rw [v1.i (by unfold PTm; omega), gI_sI_nj (by omega)]; exact c2
            · rw [v1.i (by unfold PTm; omega), gI_sI_eq]
          · rw [if_neg e5]
            refine ⟨M2, dq2, ?_, fun _ => g2.2.1, fun q => by cases q⟩
            rcases ht2 with rfl | rfl
            · have u := u2 e4 (by omega)
              simp (disch := omega) only [r_M_pair_0, r_M_pair_0n, r_M_pair_1, r_M_pair_2, r_M_pair_3, r_M_pair_4, r_M_pair_5, r_M_pair_6, r_M_pair_9, r_M_pair_11, r_M_pair_13, r_M_pair_16, r_M_pair_18, r_M_pair_19, r_M_pair_19n, r_M_pair_20, r_M_pair_22, r_M_pair_25, r_M_pair_28, r_M_pair_29, r_M_pair_30, r_M_pair_30n, r_M_pair_31, r_M_pair_34, r_M_pair_34n, r_M_pair_35, r_M_pair_38, r_M_pair_39, r_M_pair_42, r_M_pair_44, r_M_pair_46, r_M_pair_49, r_M_pair_49n, r_M_pair_50, r_M_pair_53, r_M_pair_55, r_M_pair_58, r_M_pair_59, r_M_pair_60, r_M_pair_60n, r_M_pair_61, r_M_pair_62, r_M_pair_63, r_M_pair_64, r_M_pair_65, r_M_pair_67, r_M_pair_70, bnd, tl_s, tl_n, wt_nil, wt_int, wt_ref, wt_null, wt_long, Nat.reduceAdd, Nat.reduceLeDiff, if_true, if_false, decide_true, Bool.true_and, Bool.and_true, zok_n0, zok_n1, zok_bI, bI_eq0, bI_eq1, Bool.true_eq_false, Bool.false_eq_true, not_false_eq_true, not_true_eq_false, decide_false, decide_eq_false_iff_not, decide_eq_true_eq, Classical.not_not, ite_not, lit, Nat.reduceEqDiff, Nat.reduceLT, nI_add, nI_lt', nI_le', nI_eq', nI_sub', pk_mul, nI_rem', nI_div', nI_nz, remN, clampN, inb_nI, Nat.not_lt_zero, Nat.zero_le, Nat.le_zero_eq, if_true, if_false, m1_lt0, m1_eq, t_ite, f_ite, Bool.not_false, Bool.not_true, nI_and, nI_or, nI_xor, nI_shl1, nI_shr, nI_ushr, nI_not, nI_and_p2, Nat.one_mul, vrf_s, vrf_n, oF_174, oO_174, oA_175, oS_175, oA_176, oS_176, oA_177, oS_177, oA_178, oS_178, oA_179, oS_179, oA_180, oS_180, oA_181, oS_181, oA_182, oS_182, oA_183, oS_183, oA_184, oS_184, oA_185, oS_185, oA_186, oS_186, oA_187, oS_187, oA_188, oS_188, mO_M_figure, mO_M_isWord, mO_M_nextToken, b3, hw, g3, h9, q1, u]
            · by_cases n8 : nuA tb tl (plT tb tl (k + 2)) = 8
              · simp (disch := omega) only [r_M_pair_0, r_M_pair_0n, r_M_pair_1, r_M_pair_2, r_M_pair_3, r_M_pair_4, r_M_pair_5, r_M_pair_6, r_M_pair_9, r_M_pair_11, r_M_pair_13, r_M_pair_16, r_M_pair_18, r_M_pair_19, r_M_pair_19n, r_M_pair_20, r_M_pair_22, r_M_pair_25, r_M_pair_28, r_M_pair_29, r_M_pair_30, r_M_pair_30n, r_M_pair_31, r_M_pair_34, r_M_pair_34n, r_M_pair_35, r_M_pair_38, r_M_pair_39, r_M_pair_42, r_M_pair_44, r_M_pair_46, r_M_pair_49, r_M_pair_49n, r_M_pair_50, r_M_pair_53, r_M_pair_55, r_M_pair_58, r_M_pair_59, r_M_pair_60, r_M_pair_60n, r_M_pair_61, r_M_pair_62, r_M_pair_63, r_M_pair_64, r_M_pair_65, r_M_pair_67, r_M_pair_70, bnd, tl_s, tl_n, wt_nil, wt_int, wt_ref, wt_null, wt_long, Nat.reduceAdd, Nat.reduceLeDiff, if_true, if_false, decide_true, Bool.true_and, Bool.and_true, zok_n0, zok_n1, zok_bI, bI_eq0, bI_eq1, Bool.true_eq_false, Bool.false_eq_true, not_false_eq_true, not_true_eq_false, decide_false, decide_eq_false_iff_not, decide_eq_true_eq, Classical.not_not, ite_not, lit, Nat.reduceEqDiff, Nat.reduceLT, nI_add, nI_lt', nI_le', nI_eq', nI_sub', pk_mul, nI_rem', nI_div', nI_nz, remN, clampN, inb_nI, Nat.not_lt_zero, Nat.zero_le, Nat.le_zero_eq, if_true, if_false, m1_lt0, m1_eq, t_ite, f_ite, Bool.not_false, Bool.not_true, nI_and, nI_or, nI_xor, nI_shl1, nI_shr, nI_ushr, nI_not, nI_and_p2, Nat.one_mul, vrf_s, vrf_n, oF_174, oO_174, oA_175, oS_175, oA_176, oS_176, oA_177, oS_177, oA_178, oS_178, oA_179, oS_179, oA_180, oS_180, oA_181, oS_181, oA_182, oS_182, oA_183, oS_183, oA_184, oS_184, oA_185, oS_185, oA_186, oS_186, oA_187, oS_187, oA_188, oS_188, mO_M_figure, mO_M_isWord, mO_M_nextToken, b3, hw, g3, h9, q1, h10, n8]
              · have u := u2 e4 (by
                  intro z
                  have := n2 (by omega)
                  omega)
                simp (disch := omega) only [r_M_pair_0, r_M_pair_0n, r_M_pair_1, r_M_pair_2, r_M_pair_3, r_M_pair_4, r_M_pair_5, r_M_pair_6, r_M_pair_9, r_M_pair_11, r_M_pair_13, r_M_pair_16, r_M_pair_18, r_M_pair_19, r_M_pair_19n, r_M_pair_20, r_M_pair_22, r_M_pair_25, r_M_pair_28, r_M_pair_29, r_M_pair_30, r_M_pair_30n, r_M_pair_31, r_M_pair_34, r_M_pair_34n, r_M_pair_35, r_M_pair_38, r_M_pair_39, r_M_pair_42, r_M_pair_44, r_M_pair_46, r_M_pair_49, r_M_pair_49n, r_M_pair_50, r_M_pair_53, r_M_pair_55, r_M_pair_58, r_M_pair_59, r_M_pair_60, r_M_pair_60n, r_M_pair_61, r_M_pair_62, r_M_pair_63, r_M_pair_64, r_M_pair_65, r_M_pair_67, r_M_pair_70, bnd, tl_s, tl_n, wt_nil, wt_int, wt_ref, wt_null, wt_long, Nat.reduceAdd, Nat.reduceLeDiff, if_true, if_false, decide_true, Bool.true_and, Bool.and_true, zok_n0, zok_n1, zok_bI, bI_eq0, bI_eq1, Bool.true_eq_false, Bool.false_eq_true, not_false_eq_true, not_true_eq_false, decide_false, decide_eq_false_iff_not, decide_eq_true_eq, Classical.not_not, ite_not, lit, Nat.reduceEqDiff, Nat.reduceLT, nI_add, nI_lt', nI_le', nI_eq', nI_sub', pk_mul, nI_rem', nI_div', nI_nz, remN, clampN, inb_nI, Nat.not_lt_zero, Nat.zero_le, Nat.le_zero_eq, if_true, if_false, m1_lt0, m1_eq, t_ite, f_ite, Bool.not_false, Bool.not_true, nI_and, nI_or, nI_xor, nI_shl1, nI_shr, nI_ushr, nI_not, nI_and_p2, Nat.one_mul, vrf_s, vrf_n, oF_174, oO_174, oA_175, oS_175, oA_176, oS_176, oA_177, oS_177, oA_178, oS_178, oA_179, oS_179, oA_180, oS_180, oA_181, oS_181, oA_182, oS_182, oA_183, oS_183, oA_184, oS_184, oA_185, oS_185, oA_186, oS_186, oA_187, oS_187, oA_188, oS_188, mO_M_figure, mO_M_isWord, mO_M_nextToken, b3, hw, g3, h9, q1, h10, n8, u]
        · rw [if_neg e4]
          have q1 := (tq_1 (tb := tb) (tl := tl) (k := k + 2)).trans (eq_false e4)
          refine ⟨M2, dq2, ?_, fun _ => g2.2.1, fun q => by cases q⟩
          simp (disch := omega) only [r_M_pair_0, r_M_pair_0n, r_M_pair_1, r_M_pair_2, r_M_pair_3, r_M_pair_4, r_M_pair_5, r_M_pair_6, r_M_pair_9, r_M_pair_11, r_M_pair_13, r_M_pair_16, r_M_pair_18, r_M_pair_19, r_M_pair_19n, r_M_pair_20, r_M_pair_22, r_M_pair_25, r_M_pair_28, r_M_pair_29, r_M_pair_30, r_M_pair_30n, r_M_pair_31, r_M_pair_34, r_M_pair_34n, r_M_pair_35, r_M_pair_38, r_M_pair_39, r_M_pair_42, r_M_pair_44, r_M_pair_46, r_M_pair_49, r_M_pair_49n, r_M_pair_50, r_M_pair_53, r_M_pair_55, r_M_pair_58, r_M_pair_59, r_M_pair_60, r_M_pair_60n, r_M_pair_61, r_M_pair_62, r_M_pair_63, r_M_pair_64, r_M_pair_65, r_M_pair_67, r_M_pair_70, bnd, tl_s, tl_n, wt_nil, wt_int, wt_ref, wt_null, wt_long, Nat.reduceAdd, Nat.reduceLeDiff, if_true, if_false, decide_true, Bool.true_and, Bool.and_true, zok_n0, zok_n1, zok_bI, bI_eq0, bI_eq1, Bool.true_eq_false, Bool.false_eq_true, not_false_eq_true, not_true_eq_false, decide_false, decide_eq_false_iff_not, decide_eq_true_eq, Classical.not_not, ite_not, lit, Nat.reduceEqDiff, Nat.reduceLT, nI_add, nI_lt', nI_le', nI_eq', nI_sub', pk_mul, nI_rem', nI_div', nI_nz, remN, clampN, inb_nI, Nat.not_lt_zero, Nat.zero_le, Nat.le_zero_eq, if_true, if_false, m1_lt0, m1_eq, t_ite, f_ite, Bool.not_false, Bool.not_true, nI_and, nI_or, nI_xor, nI_shl1, nI_shr, nI_ushr, nI_not, nI_and_p2, Nat.one_mul, vrf_s, vrf_n, oF_174, oO_174, oA_175, oS_175, oA_176, oS_176, oA_177, oS_177, oA_178, oS_178, oA_179, oS_179, oA_180, oS_180, oA_181, oS_181, oA_182, oS_182, oA_183, oS_183, oA_184, oS_184, oA_185, oS_185, oA_186, oS_186, oA_187, oS_187, oA_188, oS_188, mO_M_figure, mO_M_isWord, mO_M_nextToken, b3, hw, g3, h9, q1, u1 e4]
      · rw [if_neg e3]
        rw [decide_eq_false e3, bI_f] at hw
        refine ⟨M1, dq1, ?_, fun _ => b2.2.1, fun q => by cases q⟩
        simp (disch := omega) only [r_M_pair_0, r_M_pair_0n, r_M_pair_1, r_M_pair_2, r_M_pair_3, r_M_pair_4, r_M_pair_5, r_M_pair_6, r_M_pair_9, r_M_pair_11, r_M_pair_13, r_M_pair_16, r_M_pair_18, r_M_pair_19, r_M_pair_19n, r_M_pair_20, r_M_pair_22, r_M_pair_25, r_M_pair_28, r_M_pair_29, bnd, tl_s, tl_n, wt_nil, wt_int, wt_ref, wt_null, wt_long, Nat.reduceAdd, Nat.reduceLeDiff, if_true, if_false, decide_true, Bool.true_and, Bool.and_true, zok_n0, zok_n1, zok_bI, bI_eq0, bI_eq1, Bool.true_eq_false, Bool.false_eq_true, not_false_eq_true, not_true_eq_false, decide_false, decide_eq_false_iff_not, decide_eq_true_eq, Classical.not_not, ite_not, lit, Nat.reduceEqDiff, Nat.reduceLT, nI_add, nI_lt', nI_le', nI_eq', nI_sub', pk_mul, nI_rem', nI_div', nI_nz, remN, clampN, inb_nI, Nat.not_lt_zero, Nat.zero_le, Nat.le_zero_eq, if_true, if_false, m1_lt0, m1_eq, t_ite, f_ite, Bool.not_false, Bool.not_true, nI_and, nI_or, nI_xor, nI_shl1, nI_shr, nI_ushr, nI_not, nI_and_p2, Nat.one_mul, vrf_s, vrf_n, oF_174, oO_174, oA_175, oS_175, oA_176, oS_176, oA_177, oS_177, oA_178, oS_178, oA_179, oS_179, oA_180, oS_180, oA_181, oS_181, oA_182, oS_182, oA_183, oS_183, oA_184, oS_184, oA_185, oS_185, oA_186, oS_186, oA_187, oS_187, oA_188, oS_188, mO_M_figure, mO_M_isWord, mO_M_nextToken, b3, hw]
    · rw [if_neg e2]
      refine ⟨M, D.rfl', ?_, fun _ => hk.2.1, fun q => by cases q⟩
      simp (disch := omega) only [r_M_pair_0, r_M_pair_0n, r_M_pair_1, r_M_pair_2, r_M_pair_3, r_M_pair_4, r_M_pair_5, r_M_pair_6, r_M_pair_9, r_M_pair_11, r_M_pair_13, r_M_pair_16, r_M_pair_18, bnd, tl_s, tl_n, wt_nil, wt_int, wt_ref, wt_null, wt_long, Nat.reduceAdd, Nat.reduceLeDiff, if_true, if_false, decide_true, Bool.true_and, Bool.and_true, zok_n0, zok_n1, zok_bI, bI_eq0, bI_eq1, Bool.true_eq_false, Bool.false_eq_true, not_false_eq_true, not_true_eq_false, decide_false, decide_eq_false_iff_not, decide_eq_true_eq, Classical.not_not, ite_not, lit, Nat.reduceEqDiff, Nat.reduceLT, nI_add, nI_lt', nI_le', nI_eq', nI_sub', pk_mul, nI_rem', nI_div', nI_nz, remN, clampN, inb_nI, Nat.not_lt_zero, Nat.zero_le, Nat.le_zero_eq, if_true, if_false, m1_lt0, m1_eq, t_ite, f_ite, Bool.not_false, Bool.not_true, nI_and, nI_or, nI_xor, nI_shl1, nI_shr, nI_ushr, nI_not, nI_and_p2, Nat.one_mul, vrf_s, vrf_n, oF_174, oO_174, oA_175, oS_175, oA_176, oS_176, oA_177, oS_177, oA_178, oS_178, oA_179, oS_179, oA_180, oS_180, oA_181, oS_181, oA_182, oS_182, oA_183, oS_183, oA_184, oS_184, oA_185, oS_185, oA_186, oS_186, oA_187, oS_187, oA_188, oS_188, mO_M_figure, mO_M_isWord, mO_M_nextToken, f2 e1 e2]
  · rw [if_neg e1]
    refine ⟨M, D.rfl', ?_, fun _ => hk.2.1, fun q => by cases q⟩
    simp (disch := omega) only [r_M_pair_0, r_M_pair_0n, r_M_pair_1, r_M_pair_2, r_M_pair_3, r_M_pair_4, r_M_pair_5, r_M_pair_6, r_M_pair_9, r_M_pair_11, r_M_pair_13, r_M_pair_16, r_M_pair_18, bnd, tl_s, tl_n, wt_nil, wt_int, wt_ref, wt_null, wt_long, Nat.reduceAdd, Nat.reduceLeDiff, if_true, if_false, decide_true, Bool.true_and, Bool.and_true, zok_n0, zok_n1, zok_bI, bI_eq0, bI_eq1, Bool.true_eq_false, Bool.false_eq_true, not_false_eq_true, not_true_eq_false, decide_false, decide_eq_false_iff_not, decide_eq_true_eq, Classical.not_not, ite_not, lit, Nat.reduceEqDiff, Nat.reduceLT, nI_add, nI_lt', nI_le', nI_eq', nI_sub', pk_mul, nI_rem', nI_div', nI_nz, remN, clampN, inb_nI, Nat.not_lt_zero, Nat.zero_le, Nat.le_zero_eq, if_true, if_false, m1_lt0, m1_eq, t_ite, f_ite, Bool.not_false, Bool.not_true, nI_and, nI_or, nI_xor, nI_shl1, nI_shr, nI_ushr, nI_not, nI_and_p2, Nat.one_mul, vrf_s, vrf_n, oF_174, oO_174, oA_175, oS_175, oA_176, oS_176, oA_177, oS_177, oA_178, oS_178, oA_179, oS_179, oA_180, oS_180, oA_181, oS_181, oA_182, oS_182, oA_183, oS_183, oA_184, oS_184, oA_185, oS_185, oA_186, oS_186, oA_187, oS_187, oA_188, oS_188, mO_M_figure, mO_M_isWord, mO_M_nextToken, f1 e1]
/-- what comes of a body, or of a clause -/
def ZB (o : Option Res) (M : Mem) (tb : Nat → Nat) (tl T on n : Nat) (r : CR) : Prop := ∃ M', D (PMt T) M M' ∧ o = some (some (.int (nI r.1)), NX, M') ∧ (r.1 ≠ 0 → gI M' 174 8 = nI (plT tb tl r.2.1)) ∧ (r.1 = 0 → ∃ w cm, ZS M' tb tl T r.2.1 w cm r.2.2 on n)
theorem td_lo {j : Nat} {v : Int32} (h : TD M T cm w) (hj : j < 681 * T + 73) : TD (sI M 177 j v) T cm w := ⟨h.1, fun i hi => by rw [gI_sI_nj (by omega), gI_sI_nj (by omega)]; exact h.2 i hi⟩
theorem x_lawClause {on : Nat} (h : ZS M tb tl T k w cm x on (tN x)) (h14 : gI M 174 14 = nI s) (hX : gI M 177 (681 * T + 1 + 3 * tN x) = nI s) (hs : s < 2) (hn : tN x < 24) (hL : tL x s = none) : ZB (ev (d + 11) m_M_lawClause [.ref 174, .int (nI (681 * T + 1 + 3 * tN x))] NX M) M tb tl T on (tN x) (lwG x s (smF (kdT tb tl) (lv (kdT tb tl) (vlT tb tl) s 8).1 k)) := by
  obtain ⟨a1, a2, ⟨a3, a4⟩, ⟨a5, a6⟩, a7, a8, a9, a10, a11, a12, a13⟩ := h
  have htx := a1.1.tx
  have hT1 : TpM (sI M 177 (681 * T + 1 + 3 * tN x + 1) (nI w)) tb tl := ⟨a1.1, by rw [gI_sI_nk (by decide)]; exact a1.2.1, fun i hi => by rw [gI_sI_nk (by decide)]; exact a1.2.2.1 i hi, a1.2.2.2⟩
  obtain ⟨M2, b1, b2, b3, b4⟩ := x_summed (d := d) (M := sI M 177 (681 * T + 1 + 3 * tN x + 1) (nI w)) (T := T) (law := s) (k := k) (w := w) (cm := cm) hT1 (tkm_sI a2 (Or.inl (by decide))) (by rw [gI_sI_nk (by decide)]; exact a3) (by rw [gI_sI_nk (by decide)]; exact h14) a4 hs (by rw [gI_sI_nk (by decide)]; exact a5) (td_lo a6 (by omega)) a13.1 a13.2
  have hvb := gv_law (kd := kdT tb tl) (vl := vlT tb tl) (s := s) k
  have htx2 : gR M2 174 2 = some 177 := (tpm_D hT1 b1).1.tx
  have i1 : 681 * T + 1 + 3 * tN x + 1 < 2724 := by omega
  have i2 : 681 * T + 1 + 3 * tN x + 2 < 2724 := by omega
  have d2 : D (PMt T) M M2 := (D.rfl'.sI (Or.inr (Or.inr ⟨rfl, by omega⟩))).trans (prm_pmt b1)
  have hlo : ∀ j, j < 681 * T + 73 → j ≠ 681 * T + 1 + 3 * tN x + 1 → gI M2 177 j = gI M 177 j := fun j h1 h2 => by rw [b1.i (by unfold PRm; omega), gI_sI_nj h2]
  unfold lwG
  generalize (smF (kdT tb tl) (lv (kdT tb tl) (vlT tb tl) s 8).1 k) = r at *
  have hrun : ∀ v, gI M2 174 13 = v → ev (d + 11) m_M_lawClause [.ref 174, .int (nI (681 * T + 1 + 3 * tN x))] NX M = some (some (.int (nI r.1)), NX, sI M2 177 (681 * T + 1 + 3 * tN x + 2) v) := by
    intro v hv
    rw [e_M_lawClause]
    simp (disch := omega) only [r_M_lawClause_0, r_M_lawClause_0n, r_M_lawClause_1, r_M_lawClause_4, r_M_lawClause_5, r_M_lawClause_6, r_M_lawClause_7, r_M_lawClause_7n, r_M_lawClause_8, r_M_lawClause_11, r_M_lawClause_12, r_M_lawClause_12n, r_M_lawClause_13, r_M_lawClause_16, r_M_lawClause_17, r_M_lawClause_17n, r_M_lawClause_18, r_M_lawClause_21, r_M_lawClause_22, r_M_lawClause_23, r_M_lawClause_24, r_M_lawClause_24n, r_M_lawClause_25, r_M_lawClause_28, r_M_lawClause_29, r_M_lawClause_30, bnd, tl_s, tl_n, wt_nil, wt_int, wt_ref, wt_null, wt_long, Nat.reduceAdd, Nat.reduceLeDiff, if_true, if_false, decide_true, Bool.true_and, Bool.and_true, zok_n0, zok_n1, zok_bI, bI_eq0, bI_eq1, Bool.true_eq_false, Bool.false_eq_true, not_false_eq_true, not_true_eq_false, decide_false, decide_eq_false_iff_not, decide_eq_true_eq, Classical.not_not, ite_not, lit, Nat.reduceEqDiff, Nat.reduceLT, nI_add, nI_lt', nI_le', nI_eq', nI_sub', pk_mul, nI_rem', nI_div', nI_nz, remN, clampN, inb_nI, Nat.not_lt_zero, Nat.zero_le, Nat.le_zero_eq, if_true, if_false, m1_lt0, m1_eq, t_ite, f_ite, Bool.not_false, Bool.not_true, nI_and, nI_or, nI_xor, nI_shl1, nI_shr, nI_ushr, nI_not, nI_and_p2, Nat.one_mul, vrf_s, vrf_n, oF_174, oO_174, oA_175, oS_175, oA_176, oS_176, oA_177, oS_177, oA_178, oS_178, oA_179, oS_179, oA_180, oS_180, oA_181, oS_181, oA_182, oS_182, oA_183, oS_183, oA_184, oS_184, oA_185, oS_185, oA_186, oS_186, oA_187, oS_187, oA_188, oS_188, mO_M_summed, htx, a5, i1, b2, htx2, i2, hv]
  by_cases e1 : r.1 = 0
  · obtain ⟨w', cm', ⟨c1, c2, c3⟩, c4, c5, c6, c7, c8⟩ := b4 e1
    refine ⟨_, d2.sI (Or.inr (Or.inr ⟨rfl, by omega⟩)), hrun _ c5, fun q => absurd e1 q, fun _ => ⟨w', cm', ?_⟩⟩
    have hlo3 : ∀ j, j < 681 * T + 1 + 3 * tN x + 1 → gI (sI M2 177 (681 * T + 1 + 3 * tN x + 2) (nI w')) 177 j = gI M 177 j := fun j h1 => by rw [gI_sI_nj (by omega)]; exact hlo j (by omega) (by omega)
    have hT2 : TpM (sI M2 177 (681 * T + 1 + 3 * tN x + 2) (nI w')) tb tl := tpm_D2 a1 (d2.sI (Or.inr (Or.inr ⟨rfl, by omega⟩)))
    have oth : ∀ l, l < 2 → LMr M T cm w l x → LMr (sI M2 177 (681 * T + 1 + 3 * tN x + 2) (nI w')) T cm' w' l (addT (setL x s (fun e => (r.2.2 e).1)) (s, 0, 0)) := by
      intro l hl hm
      by_cases e : l = s
      · subst e
        unfold LMr
        rw [tL_add, tL_set hs hs, if_pos rfl]
        refine ⟨tN x, w, w', by rw [tN_add, tN_set]; omega, by rw [tC_add, tN_set, if_pos rfl], fun i hi => ?_, by omega, Nat.le_refl _, ?_, gI_sI_eq, fun e he vs ts => (c8.2 e he vs ts).2, hvb e1⟩
        · rw [tC_add, tN_set, if_neg (by omega), tC_set]
          unfold LMr at hm
          rw [hL] at hm
          exact hm i hi
        · rw [gI_sI_nj (by omega), b1.i (by unfold PRm; omega), gI_sI_eq]
      · refine hm.mv (fun j h1 h2 => hlo3 j (by omega)) (by omega) c7 (by rw [tL_add, tL_set hs hl, if_neg e]) (by rw [tN_add, tN_set]; omega) (fun i hi => by rw [tC_add, tN_set, if_neg (by omega), tC_set]) (fun _ i h1 h2 => ?_)
        rw [tN_add, tN_set] at h2
        rw [tC_add, tN_set, if_pos (by omega)]
        exact fun z => e z.symm
    refine ⟨hT2, tkm_sI c4 (Or.inl (by decide)), ⟨?_, a4⟩, ⟨?_, td_lo c6 (by omega)⟩, ?_, ?_, ?_, oth 0 (by decide) a10, oth 1 (by decide) a11, txOk_add (txOk_set a12) hn (by unfold clOk; dsimp only; omega), ⟨by dsimp only; omega, c3⟩⟩
    · rw [gI_sI_nk (by decide), b1.i (by unfold PRm; omega), gI_sI_nk (by decide)]; exact a3
    · rw [gI_sI_nk (by decide)]; exact c5
    · rw [gI_sI_nk (by decide), b1.i (by unfold PRm; omega), gI_sI_nk (by decide)]; exact a7
    · rw [hlo3 _ (by omega)]; exact a8
    · intro i hi
      rw [tN_add, tN_set] at hi
      rw [tC_add, tN_set]
      by_cases e : i = tN x
      · rw [if_pos e, e]
        exact ⟨by rw [hlo3 _ (by omega)]; exact hX, fun z => by have z' : 2 ≤ s := z; omega, fun z => by have z' : s = 2 ∨ s = 6 ∨ s = 7 := z; omega⟩
      · rw [if_neg e, tC_set]
        obtain ⟨p1, p2, p3⟩ := a9 i (by omega)
        exact ⟨by rw [hlo3 _ (by omega)]; exact p1, fun z => by rw [hlo3 _ (by omega)]; exact p2 z, fun z => by rw [hlo3 _ (by omega)]; exact p3 z⟩
  · refine ⟨_, d2.sI (Or.inr (Or.inr ⟨rfl, by omega⟩)), hrun _ rfl, fun _ => ?_, fun q => absurd q e1⟩
    rw [gI_sI_nk (by decide)]
    exact b3 e1
end ZBD
