/-! VOTES: winner, top -/
theorem ix_cases (v : Int32) {n : Nat} (hn : n < 2 ^ 31) : (∃ a, a < n ∧ v = nI a) ∨ (v < nI 0 ∨ nI n ≤ v) := by
  rcases pk_ix v hn with h | h | ⟨j, hj, h⟩
  · exact Or.inr (Or.inl h)
  · exact Or.inr (Or.inr h)
  · exact Or.inl ⟨j, hj, h⟩
theorem ne_bad {v : Int32} {n j : Nat} (h : v < nI 0 ∨ nI n ≤ v) (hj : j < n) (hn : n < 2 ^ 31) : (v = nI j) = False := by
  apply eq_false
  intro e
  rw [e] at h
  rcases h with h | h
  · rw [nI_lt' (by omega) (by decide)] at h; omega
  · rw [nI_le' hn (by omega)] at h; omega
section V6
variable {d nx : Nat} {M : Mem} {k : Nat} {V : Nat → Nat}
def wnp (V : Nat → Nat) (k how v u : Nat) : Bool := decide (u = v) || (if how = 0 then decide (nI 0 < mg V v u k) else decide (pts V (how == 2) u k < pts V (how == 2) v k))
theorem x_isWinner {v how : Nat} (hM : VMo M k V) (hv : v < 4) (hh : how < 3) : ev (d + 4) m_M_isWinner [.ref 174, .int (nI v), .int (nI how)] NX M = some (some (.int (bI (allb (wnp V k how v) 4 0))), NX, M) := by
  have hk := hM.2.2.1
  rw [e_M_isWinner]
  simp only [r_M_isWinner_0, r_M_isWinner_1, lit]
  rw [lpf0 (R := fun i => run (ev (d + 3)) m_M_isWinner 2 [some (.ref 174), some (.int (nI v)), some (.int (nI how)), some (.int (nI i))] [] NX M) (p := fun u => !wnp V k how v u) (a := fun _ => some (some (.int (bI false)), NX, M)) (n := 4) (z := some (some (.int (bI true)), NX, M)) ?_ ?_, allb_fst]
  · exact fst'_map (fun b => some (some (Value.int (bI b)), NX, M)) _ (fun _ => false) true 4 0
  · intro u hu
    have hn : ¬ 4 ≤ u := by omega
    have p1 := fun v hv => x_pointsOf (d := d) (v := v) (b := true) hM hv
    have p0 := fun v hv => x_pointsOf (d := d) (v := v) (b := false) hM hv
    rw [bI_t] at p1
    rw [bI_f] at p0
    have q1 := fun v => pts_le (V := V) (b := true) (v := v) k
    have q0 := fun v => pts_le (V := V) (b := false) (v := v) k
    have a1 := q1 u
    have a2 := q1 v
    have a3 := q0 u
    have a4 := q0 v
    try dsimp only
    rw [r_M_isWinner_2]
    unfold wnp
    have h3 : how = 0 ∨ how = 1 ∨ how = 2 := by omega
    rcases h3 with rfl | rfl | rfl
    · simp (disch := omega) only [r_M_isWinner_3, r_M_isWinner_4, r_M_isWinner_7, r_M_isWinner_8, r_M_isWinner_9, r_M_isWinner_12, r_M_isWinner_15, r_M_isWinner_16, r_M_isWinner_19, r_M_isWinner_19n, r_M_isWinner_20, r_M_isWinner_21, r_M_isWinner_22, r_M_isWinner_25, r_M_isWinner_28, r_M_isWinner_31, r_M_isWinner_31n, r_M_isWinner_32, r_M_isWinner_33, r_M_isWinner_34, r_M_isWinner_35, r_M_isWinner_38, r_M_isWinner_39, r_M_isWinner_42, r_M_isWinner_43, r_M_isWinner_46, r_M_isWinner_46n, r_M_isWinner_47, r_M_isWinner_48, r_M_isWinner_49, r_M_isWinner_50, r_M_isWinner_53, r_M_isWinner_54, r_M_isWinner_57, r_M_isWinner_58, r_M_isWinner_61, r_M_isWinner_64, r_M_isWinner_65, r_M_isWinner_66, r_M_isWinner_69, bnd, tl_s, tl_n, wt_nil, wt_int, wt_ref, wt_null, wt_long, Nat.reduceAdd, Nat.reduceLeDiff, if_true, if_false, decide_true, Bool.true_and, Bool.and_true, zok_n0, zok_n1, zok_bI, bI_eq0, bI_eq1, Bool.true_eq_false, Bool.false_eq_true, not_false_eq_true, not_true_eq_false, decide_false, decide_eq_false_iff_not, decide_eq_true_eq, Classical.not_not, ite_not, lit, Nat.reduceEqDiff, Nat.reduceLT, nI_add, nI_lt', nI_le', nI_eq', nI_sub', pk_mul, nI_rem', nI_div', nI_nz, remN, clampN, inb_nI, Nat.not_lt_zero, Nat.zero_le, Nat.le_zero_eq, if_true, if_false, m1_lt0, m1_eq, t_ite, f_ite, nI_and, nI_or, nI_xor, nI_shl1, nI_shr, nI_ushr, nI_not, nI_and_p2, Nat.one_mul, vrf_s, vrf_n, oF_174, oO_174, oA_175, oS_175, oA_176, oS_176, oA_177, oS_177, oA_178, oS_178, oA_179, oS_179, oA_180, oS_180, oA_181, oS_181, oA_182, oS_182, oA_183, oS_183, oA_184, oS_184, oA_185, oS_185, oA_186, oS_186, oA_187, oS_187, oA_188, oS_188, mO_M_more, mO_M_pointsOf, hn, x_moreV hM hv hu]
      by_cases e : u = v
      · simp [e]
      · by_cases e2 : nI 0 < mg V v u k
        · simp [e, e2]
        · simp [e, e2]; rfl
    · simp (disch := omega) only [r_M_isWinner_3, r_M_isWinner_4, r_M_isWinner_7, r_M_isWinner_8, r_M_isWinner_9, r_M_isWinner_12, r_M_isWinner_15, r_M_isWinner_16, r_M_isWinner_19, r_M_isWinner_19n, r_M_isWinner_20, r_M_isWinner_21, r_M_isWinner_22, r_M_isWinner_25, r_M_isWinner_28, r_M_isWinner_31, r_M_isWinner_31n, r_M_isWinner_32, r_M_isWinner_33, r_M_isWinner_34, r_M_isWinner_35, r_M_isWinner_38, r_M_isWinner_39, r_M_isWinner_42, r_M_isWinner_43, r_M_isWinner_46, r_M_isWinner_46n, r_M_isWinner_47, r_M_isWinner_48, r_M_isWinner_49, r_M_isWinner_50, r_M_isWinner_53, r_M_isWinner_54, r_M_isWinner_57, r_M_isWinner_58, r_M_isWinner_61, r_M_isWinner_64, r_M_isWinner_65, r_M_isWinner_66, r_M_isWinner_69, bnd, tl_s, tl_n, wt_nil, wt_int, wt_ref, wt_null, wt_long, Nat.reduceAdd, Nat.reduceLeDiff, if_true, if_false, decide_true, Bool.true_and, Bool.and_true, zok_n0, zok_n1, zok_bI, bI_eq0, bI_eq1, Bool.true_eq_false, Bool.false_eq_true, not_false_eq_true, not_true_eq_false, decide_false, decide_eq_false_iff_not, decide_eq_true_eq, Classical.not_not, ite_not, lit, Nat.reduceEqDiff, Nat.reduceLT, nI_add, nI_lt', nI_le', nI_eq', nI_sub', pk_mul, nI_rem', nI_div', nI_nz, remN, clampN, inb_nI, Nat.not_lt_zero, Nat.zero_le, Nat.le_zero_eq, if_true, if_false, m1_lt0, m1_eq, t_ite, f_ite, nI_and, nI_or, nI_xor, nI_shl1, nI_shr, nI_ushr, nI_not, nI_and_p2, Nat.one_mul, vrf_s, vrf_n, oF_174, oO_174, oA_175, oS_175, oA_176, oS_176, oA_177, oS_177, oA_178, oS_178, oA_179, oS_179, oA_180, oS_180, oA_181, oS_181, oA_182, oS_182, oA_183, oS_183, oA_184, oS_184, oA_185, oS_185, oA_186, oS_186, oA_187, oS_187, oA_188, oS_188, mO_M_more, mO_M_pointsOf, hn, p0 v hv, p0 u hu]
      by_cases e : u = v
      · simp [e]
      · by_cases e2 : pts V false u k < pts V false v k
        · simp [e, e2]
        · simp [e, e2]; rfl
    · simp (disch := omega) only [r_M_isWinner_3, r_M_isWinner_4, r_M_isWinner_7, r_M_isWinner_8, r_M_isWinner_9, r_M_isWinner_12, r_M_isWinner_15, r_M_isWinner_16, r_M_isWinner_19, r_M_isWinner_19n, r_M_isWinner_20, r_M_isWinner_21, r_M_isWinner_22, r_M_isWinner_25, r_M_isWinner_28, r_M_isWinner_31, r_M_isWinner_31n, r_M_isWinner_32, r_M_isWinner_33, r_M_isWinner_34, r_M_isWinner_35, r_M_isWinner_38, r_M_isWinner_39, r_M_isWinner_42, r_M_isWinner_43, r_M_isWinner_46, r_M_isWinner_46n, r_M_isWinner_47, r_M_isWinner_48, r_M_isWinner_49, r_M_isWinner_50, r_M_isWinner_53, r_M_isWinner_54, r_M_isWinner_57, r_M_isWinner_58, r_M_isWinner_61, r_M_isWinner_64, r_M_isWinner_65, r_M_isWinner_66, r_M_isWinner_69, bnd, tl_s, tl_n, wt_nil, wt_int, wt_ref, wt_null, wt_long, Nat.reduceAdd, Nat.reduceLeDiff, if_true, if_false, decide_true, Bool.true_and, Bool.and_true, zok_n0, zok_n1, zok_bI, bI_eq0, bI_eq1, Bool.true_eq_false, Bool.false_eq_true, not_false_eq_true, not_true_eq_false, decide_false, decide_eq_false_iff_not, decide_eq_true_eq, Classical.not_not, ite_not, lit, Nat.reduceEqDiff, Nat.reduceLT, nI_add, nI_lt', nI_le', nI_eq', nI_sub', pk_mul, nI_rem', nI_div', nI_nz, remN, clampN, inb_nI, Nat.not_lt_zero, Nat.zero_le, Nat.le_zero_eq, if_true, if_false, m1_lt0, m1_eq, t_ite, f_ite, nI_and, nI_or, nI_xor, nI_shl1, nI_shr, nI_ushr, nI_not, nI_and_p2, Nat.one_mul, vrf_s, vrf_n, oF_174, oO_174, oA_175, oS_175, oA_176, oS_176, oA_177, oS_177, oA_178, oS_178, oA_179, oS_179, oA_180, oS_180, oA_181, oS_181, oA_182, oS_182, oA_183, oS_183, oA_184, oS_184, oA_185, oS_185, oA_186, oS_186, oA_187, oS_187, oA_188, oS_188, mO_M_more, mO_M_pointsOf, hn, p1 v hv, p1 u hu]
      by_cases e : u = v
      · simp [e]
      · by_cases e2 : pts V true u k < pts V true v k
        · simp [e, e2]
        · simp [e, e2]; rfl
  · rw [r_M_isWinner_2]
    simp (disch := omega) only [r_M_isWinner_3, r_M_isWinner_4, r_M_isWinner_7, r_M_isWinner_8, r_M_isWinner_9, r_M_isWinner_12, r_M_isWinner_15, r_M_isWinner_16, r_M_isWinner_19, r_M_isWinner_19n, r_M_isWinner_20, r_M_isWinner_21, r_M_isWinner_22, r_M_isWinner_25, r_M_isWinner_28, r_M_isWinner_31, r_M_isWinner_31n, r_M_isWinner_32, r_M_isWinner_33, r_M_isWinner_34, r_M_isWinner_35, r_M_isWinner_38, r_M_isWinner_39, r_M_isWinner_42, r_M_isWinner_43, r_M_isWinner_46, r_M_isWinner_46n, r_M_isWinner_47, r_M_isWinner_48, r_M_isWinner_49, r_M_isWinner_50, r_M_isWinner_53, r_M_isWinner_54, r_M_isWinner_57, r_M_isWinner_58, r_M_isWinner_61, r_M_isWinner_64, r_M_isWinner_65, r_M_isWinner_66, r_M_isWinner_69, r_M_isWinner_72, r_M_isWinner_73, bnd, tl_s, tl_n, wt_nil, wt_int, wt_ref, wt_null, wt_long, Nat.reduceAdd, Nat.reduceLeDiff, if_true, if_false, decide_true, Bool.true_and, Bool.and_true, zok_n0, zok_n1, zok_bI, bI_eq0, bI_eq1, Bool.true_eq_false, Bool.false_eq_true, not_false_eq_true, not_true_eq_false, decide_false, decide_eq_false_iff_not, decide_eq_true_eq, Classical.not_not, ite_not, lit, Nat.reduceEqDiff, Nat.reduceLT, nI_add, nI_lt', nI_le', nI_eq', nI_sub', pk_mul, nI_rem', nI_div', nI_nz, remN, clampN, inb_nI, Nat.not_lt_zero, Nat.zero_le, Nat.le_zero_eq, if_true, if_false, m1_lt0, m1_eq, t_ite, f_ite, nI_and, nI_or, nI_xor, nI_shl1, nI_shr, nI_ushr, nI_not, nI_and_p2, Nat.one_mul, vrf_s, vrf_n, oF_174, oO_174, oA_175, oS_175, oA_176, oS_176, oA_177, oS_177, oA_178, oS_178, oA_179, oS_179, oA_180, oS_180, oA_181, oS_181, oA_182, oS_182, oA_183, oS_183, oA_184, oS_184, oA_185, oS_185, oA_186, oS_186, oA_187, oS_187, oA_188, oS_188, mO_M_more, mO_M_pointsOf, Nat.le_refl]
    rfl
def wnr (V : Nat → Nat) (k how : Nat) : Int32 := fst' (fun v => allb (wnp V k how v) 4 0) nI (-nI 1) 4 0
theorem x_winner {how : Nat} (hM : VMo M k V) (hh : how < 3) : ev (d + 5) m_M_winner [.ref 174, .int (nI how)] NX M = some (some (.int (wnr V k how)), NX, M) := by
  rw [e_M_winner]
  simp (disch := omega) only [r_M_winner_0, r_M_winner_1, r_M_winner_2, r_M_winner_3, r_M_winner_6, r_M_winner_9, r_M_winner_10, r_M_winner_11, r_M_winner_12, bnd, tl_s, tl_n, wt_nil, wt_int, wt_ref, wt_null, wt_long, Nat.reduceAdd, Nat.reduceLeDiff, if_true, if_false, decide_true, Bool.true_and, Bool.and_true, zok_n0, zok_n1, zok_bI, bI_eq0, bI_eq1, Bool.true_eq_false, Bool.false_eq_true, not_false_eq_true, not_true_eq_false, decide_false, decide_eq_false_iff_not, decide_eq_true_eq, Classical.not_not, ite_not, lit, Nat.reduceEqDiff, Nat.reduceLT, nI_add, nI_lt', nI_le', nI_eq', nI_sub', pk_mul, nI_rem', nI_div', nI_nz, remN, clampN, inb_nI, Nat.not_lt_zero, Nat.zero_le, Nat.le_zero_eq, if_true, if_false, m1_lt0, m1_eq, t_ite, f_ite, nI_and, nI_or, nI_xor, nI_shl1, nI_shr, nI_ushr, nI_not, nI_and_p2, Nat.one_mul, vrf_s, vrf_n, oF_174, oO_174, oA_175, oS_175, oA_176, oS_176, oA_177, oS_177, oA_178, oS_178, oA_179, oS_179, oA_180, oS_180, oA_181, oS_181, oA_182, oS_182, oA_183, oS_183, oA_184, oS_184, oA_185, oS_185, oA_186, oS_186, oA_187, oS_187, oA_188, oS_188, mO_M_isIn, mO_M_isWinner, x_isIn, show how ≤ 2 by omega, true_and]
  rw [lpf0 (R := fun i => run (ev (d + 4)) m_M_winner 13 [some (.ref 174), some (.int (nI how)), some (.int (nI i))] [] NX M) (p := fun v => allb (wnp V k how v) 4 0) (a := fun v => some (some (.int (nI v)), NX, M)) (n := 4) (z := some (some (.int (-nI 1)), NX, M)) ?_ ?_, wnr]
  · exact fst'_map (fun b => some (some (Value.int b), NX, M)) _ nI (-nI 1) 4 0
  · intro u hu
    have hn : ¬ 4 ≤ u := by omega
    try dsimp only
    rw [r_M_winner_13]
    simp (disch := omega) only [r_M_winner_14, r_M_winner_15, r_M_winner_18, r_M_winner_18n, r_M_winner_19, r_M_winner_20, r_M_winner_21, r_M_winner_24, r_M_winner_27, r_M_winner_28, r_M_winner_29, r_M_winner_32, bnd, tl_s, tl_n, wt_nil, wt_int, wt_ref, wt_null, wt_long, Nat.reduceAdd, Nat.reduceLeDiff, if_true, if_false, decide_true, Bool.true_and, Bool.and_true, zok_n0, zok_n1, zok_bI, bI_eq0, bI_eq1, Bool.true_eq_false, Bool.false_eq_true, not_false_eq_true, not_true_eq_false, decide_false, decide_eq_false_iff_not, decide_eq_true_eq, Classical.not_not, ite_not, lit, Nat.reduceEqDiff, Nat.reduceLT, nI_add, nI_lt', nI_le', nI_eq', nI_sub', pk_mul, nI_rem', nI_div', nI_nz, remN, clampN, inb_nI, Nat.not_lt_zero, Nat.zero_le, Nat.le_zero_eq, if_true, if_false, m1_lt0, m1_eq, t_ite, f_ite, nI_and, nI_or, nI_xor, nI_shl1, nI_shr, nI_ushr, nI_not, nI_and_p2, Nat.one_mul, vrf_s, vrf_n, oF_174, oO_174, oA_175, oS_175, oA_176, oS_176, oA_177, oS_177, oA_178, oS_178, oA_179, oS_179, oA_180, oS_180, oA_181, oS_181, oA_182, oS_182, oA_183, oS_183, oA_184, oS_184, oA_185, oS_185, oA_186, oS_186, oA_187, oS_187, oA_188, oS_188, mO_M_isIn, mO_M_isWinner, hn, x_isWinner hM hu hh]
    cases allb (wnp V k how u) 4 0 <;> simp
  · rw [r_M_winner_13]
    simp (disch := omega) only [r_M_winner_14, r_M_winner_15, r_M_winner_18, r_M_winner_18n, r_M_winner_19, r_M_winner_20, r_M_winner_21, r_M_winner_24, r_M_winner_27, r_M_winner_28, r_M_winner_29, r_M_winner_32, r_M_winner_35, r_M_winner_36, bnd, tl_s, tl_n, wt_nil, wt_int, wt_ref, wt_null, wt_long, Nat.reduceAdd, Nat.reduceLeDiff, if_true, if_false, decide_true, Bool.true_and, Bool.and_true, zok_n0, zok_n1, zok_bI, bI_eq0, bI_eq1, Bool.true_eq_false, Bool.false_eq_true, not_false_eq_true, not_true_eq_false, decide_false, decide_eq_false_iff_not, decide_eq_true_eq, Classical.not_not, ite_not, lit, Nat.reduceEqDiff, Nat.reduceLT, nI_add, nI_lt', nI_le', nI_eq', nI_sub', pk_mul, nI_rem', nI_div', nI_nz, remN, clampN, inb_nI, Nat.not_lt_zero, Nat.zero_le, Nat.le_zero_eq, if_true, if_false, m1_lt0, m1_eq, t_ite, f_ite, nI_and, nI_or, nI_xor, nI_shl1, nI_shr, nI_ushr, nI_not, nI_and_p2, Nat.one_mul, vrf_s, vrf_n, oF_174, oO_174, oA_175, oS_175, oA_176, oS_176, oA_177, oS_177, oA_178, oS_178, oA_179, oS_179, oA_180, oS_180, oA_181, oS_181, oA_182, oS_182, oA_183, oS_183, oA_184, oS_184, oA_185, oS_185, oA_186, oS_186, oA_187, oS_187, oA_188, oS_188, mO_M_isIn, mO_M_isWinner, Nat.le_refl]
theorem ovr_one {v : Nat} (hv : v < 4) : ovr V k (2 ^ v) = allb (wnp V k 0 v) 4 0 := by
  rw [Bool.eq_iff_iff, ovr_iff, allb_iff]
  constructor
  · intro h u _ hu
    unfold wnp
    by_cases e : u = v
    · simp [e]
    · have := h v hv u hu (Nat.testBit_two_pow_self) (by rw [Nat.testBit_two_pow]; simp; omega)
      simp [this]
  · intro h a ha b hb h1 h2
    rw [Nat.testBit_two_pow] at h1 h2
    have e1 : v = a := of_decide_eq_true h1
    have e2 : ¬ v = b := of_decide_eq_false h2
    have := h b (by omega) (by omega)
    unfold wnp at this
    rw [decide_eq_false (by omega), Bool.false_or, if_pos rfl] at this
    rw [← e1]
    exact of_decide_eq_true this
theorem y_pairsWinner (hC : VC M k V) : ev (d + 5) m_Bal_pairsWinner [.ref 1] NX M = some (some (.int (wnr V k 0)), NX, M) := by
  rw [e_Bal_pairsWinner]
  simp only [r_Bal_pairsWinner_0, r_Bal_pairsWinner_1, lit]
  rw [lpf0 (R := fun i => run (ev (d + 4)) m_Bal_pairsWinner 2 [some (.ref 1), some (.int (nI i))] [] NX M) (p := fun v => allb (wnp V k 0 v) 4 0) (a := fun v => some (some (.int (nI v)), NX, M)) (n := 4) (z := some (some (.int (-nI 1)), NX, M)) ?_ ?_, wnr]
  · exact fst'_map (fun b => some (some (Value.int b), NX, M)) _ nI (-nI 1) 4 0
  · intro u hu
    have hn : ¬ 4 ≤ u := by omega
    have h16 : 2 ^ u < 16 := Nat.pow_lt_pow_right (n := 4) (by decide) hu
    try dsimp only
    rw [r_Bal_pairsWinner_2]
    simp (disch := omega) only [r_Bal_pairsWinner_3, r_Bal_pairsWinner_4, r_Bal_pairsWinner_7, r_Bal_pairsWinner_7n, r_Bal_pairsWinner_8, r_Bal_pairsWinner_9, r_Bal_pairsWinner_10, r_Bal_pairsWinner_11, r_Bal_pairsWinner_14, r_Bal_pairsWinner_17, r_Bal_pairsWinner_18, r_Bal_pairsWinner_19, r_Bal_pairsWinner_22, bnd, tl_s, tl_n, wt_nil, wt_int, wt_ref, wt_null, wt_long, Nat.reduceAdd, Nat.reduceLeDiff, if_true, if_false, decide_true, Bool.true_and, Bool.and_true, zok_n0, zok_n1, zok_bI, bI_eq0, bI_eq1, Bool.true_eq_false, Bool.false_eq_true, not_false_eq_true, not_true_eq_false, decide_false, decide_eq_false_iff_not, decide_eq_true_eq, Classical.not_not, ite_not, lit, Nat.reduceEqDiff, Nat.reduceLT, nI_add, nI_lt', nI_le', nI_eq', nI_sub', pk_mul, nI_rem', nI_div', nI_nz, remN, clampN, inb_nI, Nat.not_lt_zero, Nat.zero_le, Nat.le_zero_eq, if_true, if_false, m1_lt0, m1_eq, t_ite, f_ite, nI_and, nI_or, nI_xor, nI_shl1, nI_shr, nI_ushr, nI_not, nI_and_p2, Nat.one_mul, vrf_s, vrf_n, oF_0, oO_0, oF_1, oO_1, oA_2, oS_2, oA_3, oS_3, oF_4, oO_4, oA_5, oS_5, oA_6, oS_6, oA_7, oS_7, oA_8, oS_8, oA_9, oS_9, oF_70, oO_70, oA_71, oS_71, oA_72, oS_72, oF_73, oO_73, oA_74, oS_74, oA_75, oS_75, oA_76, oS_76, oA_77, oS_77, oA_78, oS_78, oA_139, oS_139, oF_140, oO_140, oA_141, oS_141, oA_142, oS_142, oA_143, oS_143, oA_144, oS_144, oF_145, oO_145, oF_146, oO_146, oA_147, oS_147, oF_148, oO_148, oA_149, oS_149, oA_150, oS_150, oA_151, oS_151, oF_152, oO_152, oA_153, oS_153, oF_154, oO_154, oA_155, oS_155, oA_156, oS_156, oA_157, oS_157, oA_158, oS_158, oF_159, oO_159, oA_160, oS_160, oA_161, oS_161, oA_162, oS_162, oA_163, oS_163, oF_164, oO_164, oA_165, oS_165, oA_166, oS_166, oA_167, oS_167, oA_168, oS_168, oF_169, oO_169, oA_170, oS_170, oA_171, oS_171, oA_172, oS_172, oA_173, oS_173, mO_Bal_isAhead, hn, y_isAhead hC h16, ovr_one hu]
    cases allb (wnp V k 0 u) 4 0 <;> simp
  · rw [r_Bal_pairsWinner_2]
    simp (disch := omega) only [r_Bal_pairsWinner_3, r_Bal_pairsWinner_4, r_Bal_pairsWinner_7, r_Bal_pairsWinner_7n, r_Bal_pairsWinner_8, r_Bal_pairsWinner_9, r_Bal_pairsWinner_10, r_Bal_pairsWinner_11, r_Bal_pairsWinner_14, r_Bal_pairsWinner_17, r_Bal_pairsWinner_18, r_Bal_pairsWinner_19, r_Bal_pairsWinner_22, r_Bal_pairsWinner_25, r_Bal_pairsWinner_26, bnd, tl_s, tl_n, wt_nil, wt_int, wt_ref, wt_null, wt_long, Nat.reduceAdd, Nat.reduceLeDiff, if_true, if_false, decide_true, Bool.true_and, Bool.and_true, zok_n0, zok_n1, zok_bI, bI_eq0, bI_eq1, Bool.true_eq_false, Bool.false_eq_true, not_false_eq_true, not_true_eq_false, decide_false, decide_eq_false_iff_not, decide_eq_true_eq, Classical.not_not, ite_not, lit, Nat.reduceEqDiff, Nat.reduceLT, nI_add, nI_lt', nI_le', nI_eq', nI_sub', pk_mul, nI_rem', nI_div', nI_nz, remN, clampN, inb_nI, Nat.not_lt_zero, Nat.zero_le, Nat.le_zero_eq, if_true, if_false, m1_lt0, m1_eq, t_ite, f_ite, nI_and, nI_or, nI_xor, nI_shl1, nI_shr, nI_ushr, nI_not, nI_and_p2, Nat.one_mul, vrf_s, vrf_n, oF_0, oO_0, oF_1, oO_1, oA_2, oS_2, oA_3, oS_3, oF_4, oO_4, oA_5, oS_5, oA_6, oS_6, oA_7, oS_7, oA_8, oS_8, oA_9, oS_9, oF_70, oO_70, oA_71, oS_71, oA_72, oS_72, oF_73, oO_73, oA_74, oS_74, oA_75, oS_75, oA_76, oS_76, oA_77, oS_77, oA_78, oS_78, oA_139, oS_139, oF_140, oO_140, oA_141, oS_141, oA_142, oS_142, oA_143, oS_143, oA_144, oS_144, oF_145, oO_145, oF_146, oO_146, oA_147, oS_147, oF_148, oO_148, oA_149, oS_149, oA_150, oS_150, oA_151, oS_151, oF_152, oO_152, oA_153, oS_153, oF_154, oO_154, oA_155, oS_155, oA_156, oS_156, oA_157, oS_157, oA_158, oS_158, oF_159, oO_159, oA_160, oS_160, oA_161, oS_161, oA_162, oS_162, oA_163, oS_163, oF_164, oO_164, oA_165, oS_165, oA_166, oS_166, oA_167, oS_167, oA_168, oS_168, oF_169, oO_169, oA_170, oS_170, oA_171, oS_171, oA_172, oS_172, oA_173, oS_173, mO_Bal_isAhead, Nat.le_refl]
/-- the best and the most of the first i -/
def cntW (p : Nat → Nat) (i : Nat) (b m : Int32) : Prop := (i = 0 ∧ b = -nI 1 ∧ m = -nI 1) ∨ (∃ x, x < i ∧ m = nI (p x) ∧ (∀ j, j < i → p j ≤ p x) ∧ ((b = nI x ∧ ∀ j, j < i → j ≠ x → p j < p x) ∨ (b = -nI 1 ∧ ∃ y, y < i ∧ y ≠ x ∧ p y = p x)))
theorem l_countsWinner {b : Bool} (hC : VC M k V) : ∀ n i bs ms z, i + n = 4 → cntW (fun v => pts V b v k) i bs ms → ∃ bs' ms', cntW (fun v => pts V b v k) 4 bs' ms' ∧ run (ev (d + 3)) m_Bal_countsWinner 7 [some (.ref 1), some (.int (bI b)), some (.int bs), some (.int ms), some (.int (nI i)), z] [] NX M = some (some (.int bs'), NX, M) := by
  have hk := hC.2.2.2.1
  intro n
  induction n with
  | zero =>
    intro i bs ms z e hI
    have e4 : i = 4 := by omega
    subst e4
    refine ⟨bs, ms, hI, ?_⟩
    rw [r_Bal_countsWinner_7]
    simp (disch := omega) only [r_Bal_countsWinner_9, r_Bal_countsWinner_10, r_Bal_countsWinner_13, r_Bal_countsWinner_13n, r_Bal_countsWinner_14, r_Bal_countsWinner_16, r_Bal_countsWinner_17, r_Bal_countsWinner_20, r_Bal_countsWinner_22, r_Bal_countsWinner_24, r_Bal_countsWinner_25, r_Bal_countsWinner_28, r_Bal_countsWinner_30, r_Bal_countsWinner_31, r_Bal_countsWinner_33, r_Bal_countsWinner_34, r_Bal_countsWinner_37, r_Bal_countsWinner_39, r_Bal_countsWinner_40, r_Bal_countsWinner_43, r_Bal_countsWinner_44, r_Bal_countsWinner_45, r_Bal_countsWinner_48, r_Bal_countsWinner_51, r_Bal_countsWinner_52, bnd, tl_s, tl_n, wt_nil, wt_int, wt_ref, wt_null, wt_long, Nat.reduceAdd, Nat.reduceLeDiff, if_true, if_false, decide_true, Bool.true_and, Bool.and_true, zok_n0, zok_n1, zok_bI, bI_eq0, bI_eq1, Bool.true_eq_false, Bool.false_eq_true, not_false_eq_true, not_true_eq_false, decide_false, decide_eq_false_iff_not, decide_eq_true_eq, Classical.not_not, ite_not, lit, Nat.reduceEqDiff, Nat.reduceLT, nI_add, nI_lt', nI_le', nI_eq', nI_sub', pk_mul, nI_rem', nI_div', nI_nz, remN, clampN, inb_nI, Nat.not_lt_zero, Nat.zero_le, Nat.le_zero_eq, if_true, if_false, m1_lt0, m1_eq, t_ite, f_ite, nI_and, nI_or, nI_xor, nI_shl1, nI_shr, nI_ushr, nI_not, nI_and_p2, Nat.one_mul, vrf_s, vrf_n, oF_0, oO_0, oF_1, oO_1, oA_2, oS_2, oA_3, oS_3, oF_4, oO_4, oA_5, oS_5, oA_6, oS_6, oA_7, oS_7, oA_8, oS_8, oA_9, oS_9, oF_70, oO_70, oA_71, oS_71, oA_72, oS_72, oF_73, oO_73, oA_74, oS_74, oA_75, oS_75, oA_76, oS_76, oA_77, oS_77, oA_78, oS_78, oA_139, oS_139, oF_140, oO_140, oA_141, oS_141, oA_142, oS_142, oA_143, oS_143, oA_144, oS_144, oF_145, oO_145, oF_146, oO_146, oA_147, oS_147, oF_148, oO_148, oA_149, oS_149, oA_150, oS_150, oA_151, oS_151, oF_152, oO_152, oA_153, oS_153, oF_154, oO_154, oA_155, oS_155, oA_156, oS_156, oA_157, oS_157, oA_158, oS_158, oF_159, oO_159, oA_160, oS_160, oA_161, oS_161, oA_162, oS_162, oA_163, oS_163, oF_164, oO_164, oA_165, oS_165, oA_166, oS_166, oA_167, oS_167, oA_168, oS_168, oF_169, oO_169, oA_170, oS_170, oA_171, oS_171, oA_172, oS_172, oA_173, oS_173, mO_Bal_countOf, Nat.le_refl]
  | succ n ih =>
    intro i bs ms z e hI
    have hn : ¬ 4 ≤ i := by omega
    have q := pts_le (V := V) (b := b) (v := i) k
    have hlt : pts V b i k < 2 ^ 31 := by omega
    have key : ∃ bs' ms', cntW (fun v => pts V b v k) (i + 1) bs' ms' ∧ run (ev (d + 3)) m_Bal_countsWinner 7 [some (.ref 1), some (.int (bI b)), some (.int bs), some (.int ms), some (.int (nI i)), z] [] NX M = run (ev (d + 3)) m_Bal_countsWinner 7 [some (.ref 1), some (.int (bI b)), some (.int bs'), some (.int ms'), some (.int (nI (i + 1))), some (.int (nI (pts V b i k)))] [] NX M := by
      rw [r_Bal_countsWinner_7]
      simp (disch := omega) only [r_Bal_countsWinner_9, r_Bal_countsWinner_10, r_Bal_countsWinner_13, r_Bal_countsWinner_13n, r_Bal_countsWinner_14, r_Bal_countsWinner_16, r_Bal_countsWinner_17, r_Bal_countsWinner_20, r_Bal_countsWinner_22, r_Bal_countsWinner_24, r_Bal_countsWinner_25, r_Bal_countsWinner_28, r_Bal_countsWinner_30, r_Bal_countsWinner_31, r_Bal_countsWinner_33, r_Bal_countsWinner_34, r_Bal_countsWinner_37, r_Bal_countsWinner_39, r_Bal_countsWinner_40, r_Bal_countsWinner_43, r_Bal_countsWinner_44, r_Bal_countsWinner_45, r_Bal_countsWinner_48, bnd, tl_s, tl_n, wt_nil, wt_int, wt_ref, wt_null, wt_long, Nat.reduceAdd, Nat.reduceLeDiff, if_true, if_false, decide_true, Bool.true_and, Bool.and_true, zok_n0, zok_n1, zok_bI, bI_eq0, bI_eq1, Bool.true_eq_false, Bool.false_eq_true, not_false_eq_true, not_true_eq_false, decide_false, decide_eq_false_iff_not, decide_eq_true_eq, Classical.not_not, ite_not, lit, Nat.reduceEqDiff, Nat.reduceLT, nI_add, nI_lt', nI_le', nI_eq', nI_sub', pk_mul, nI_rem', nI_div', nI_nz, remN, clampN, inb_nI, Nat.not_lt_zero, Nat.zero_le, Nat.le_zero_eq, if_true, if_false, m1_lt0, m1_eq, t_ite, f_ite, nI_and, nI_or, nI_xor, nI_shl1, nI_shr, nI_ushr, nI_not, nI_and_p2, Nat.one_mul, vrf_s, vrf_n, oF_0, oO_0, oF_1, oO_1, oA_2, oS_2, oA_3, oS_3, oF_4, oO_4, oA_5, oS_5, oA_6, oS_6, oA_7, oS_7, oA_8, oS_8, oA_9, oS_9, oF_70, oO_70, oA_71, oS_71, oA_72, oS_72, oF_73, oO_73, oA_74, oS_74, oA_75, oS_75, oA_76, oS_76, oA_77, oS_77, oA_78, oS_78, oA_139, oS_139, oF_140, oO_140, oA_141, oS_141, oA_142, oS_142, oA_143, oS_143, oA_144, oS_144, oF_145, oO_145, oF_146, oO_146, oA_147, oS_147, oF_148, oO_148, oA_149, oS_149, oA_150, oS_150, oA_151, oS_151, oF_152, oO_152, oA_153, oS_153, oF_154, oO_154, oA_155, oS_155, oA_156, oS_156, oA_157, oS_157, oA_158, oS_158, oF_159, oO_159, oA_160, oS_160, oA_161, oS_161, oA_162, oS_162, oA_163, oS_163, oF_164, oO_164, oA_165, oS_165, oA_166, oS_166, oA_167, oS_167, oA_168, oS_168, oF_169, oO_169, oA_170, oS_170, oA_171, oS_171, oA_172, oS_172, oA_173, oS_173, mO_Bal_countOf, hn, y_countOf hC (show i < 4 by omega)]
      rcases hI with ⟨e0, e1, e2⟩ | ⟨x, hx, em, hmx, hb⟩
      · subst e0 e1 e2
        refine ⟨nI 0, nI (pts V b 0 k), Or.inr ⟨0, by omega, rfl, ?_, Or.inl ⟨rfl, ?_⟩⟩, ?_⟩
        · intro j hj; rw [show j = 0 by omega]; exact Nat.le_refl _
        · intro j hj hj2; omega
        · rw [if_neg]
          intro h
          have := Int32.le_iff_toInt_le.mp h
          rw [nI_toInt hlt] at this
          have e9 : (-nI 1 : Int32).toInt = -1 := by decide
          omega
      · subst em
        have qx := pts_le (V := V) (b := b) (v := x) k
        have qx2 : pts V b x k < 2 ^ 31 := by omega
        simp only [nI_le' hlt qx2, nI_eq' hlt qx2]
        by_cases h1 : pts V b i k ≤ pts V b x k
        · rw [if_pos h1]
          by_cases h2 : pts V b i k = pts V b x k
          · rw [if_pos h2]
            refine ⟨-nI 1, nI (pts V b x k), Or.inr ⟨x, by omega, rfl, ?_, Or.inr ⟨rfl, i, by omega, by omega, h2⟩⟩, rfl⟩
            intro j hj
            by_cases ej : j = i
            · rw [ej]; exact h1
            · exact hmx j (by omega)
          · rw [if_neg h2]
            refine ⟨bs, nI (pts V b x k), Or.inr ⟨x, by omega, rfl, ?_, ?_⟩, rfl⟩
            · intro j hj
              by_cases ej : j = i
              · rw [ej]; exact h1
              · exact hmx j (by omega)
            · rcases hb with ⟨hb1, hb2⟩ | ⟨hb1, y, hy1, hy2, hy3⟩
              · refine Or.inl ⟨hb1, ?_⟩
                intro j hj hj2
                by_cases ej : j = i
                · rw [ej]; dsimp only; omega
                · exact hb2 j (by omega) hj2
              · exact Or.inr ⟨hb1, y, by omega, hy2, hy3⟩
        · rw [if_neg h1]
          refine ⟨nI i, nI (pts V b i k), Or.inr ⟨i, by omega, rfl, ?_, Or.inl ⟨rfl, ?_⟩⟩, rfl⟩
          · intro j hj
            by_cases ej : j = i
            · rw [ej]; exact Nat.le_refl _
            · have := hmx j (by omega); dsimp only at this ⊢; omega
          · intro j hj hj2
            have := hmx j (by omega); dsimp only at this ⊢; omega
    obtain ⟨bs', ms', hI', e'⟩ := key
    obtain ⟨b2, m2, h2, e2⟩ := ih (i + 1) bs' ms' _ (by omega) hI'
    exact ⟨b2, m2, h2, e'.trans e2⟩
theorem y_countsWinner {how : Nat} (hC : VC M k V) (hh : how = 1 ∨ how = 2) : ev (d + 5) m_Bal_countsWinner [.ref 1, .int (bI (how == 2))] NX M = some (some (.int (wnr V k how)), NX, M) := by
  rw [e_Bal_countsWinner]
  simp only [r_Bal_countsWinner_0, r_Bal_countsWinner_1, r_Bal_countsWinner_2, r_Bal_countsWinner_3, r_Bal_countsWinner_4, r_Bal_countsWinner_5, lit]
  obtain ⟨bs, ms, hI, e⟩ := l_countsWinner (d := d + 1) (b := how == 2) hC 4 0 (-nI 1) (-nI 1) none rfl (Or.inl ⟨rfl, rfl, rfl⟩)
  rw [show run (ev (d + 4)) m_Bal_countsWinner 7 [some (.ref 1), some (.int (bI (how == 2))), some (.int (-nI 1)), some (.int (-nI 1)), some (.int (nI 0)), none] [] NX M = _ from e]
  have hw : ∀ v u, wnp V k how v u = (decide (u = v) || decide (pts V (how == 2) u k < pts V (how == 2) v k)) := by
    intro v u
    unfold wnp
    rw [if_neg (by omega)]
  rcases hI with ⟨e0, _, _⟩ | ⟨x, hx, em, hmx, hb⟩
  · omega
  · rcases hb with ⟨hb1, hb2⟩ | ⟨hb1, y, hy1, hy2, hy3⟩
    · subst hb1
      unfold wnr
      rw [fst'_some (m := x) ?_ (by omega) (by omega) ?_]
      · rw [allb_iff]
        intro j _ hj
        rw [hw]
        by_cases ej : j = x
        · simp [ej]
        · have := hb2 j (by omega) ej
          simp [this]
      · intro j _ hj
        rw [Bool.eq_false_iff]
        intro h
        rw [allb_iff] at h
        have := h x (by omega) (by omega)
        rw [hw, decide_eq_false (by omega), Bool.false_or] at this
        have h3 := of_decide_eq_true this
        have h4 := hmx j (by omega)
        dsimp only at h4
        omega
    · subst hb1
      unfold wnr
      rw [fst'_none]
      intro j _ hj
      rw [Bool.eq_false_iff]
      intro h
      rw [allb_iff] at h
      have h4 := hmx j (by omega)
      dsimp only at h4 hy3
      by_cases ej : j = x
      · have := h y (by omega) (by omega)
        rw [hw, decide_eq_false (by omega), Bool.false_or] at this
        have h3 := of_decide_eq_true this
        rw [ej] at h3
        omega
      · have := h x (by omega) (by omega)
        rw [hw, decide_eq_false (by omega), Bool.false_or] at this
        have h3 := of_decide_eq_true this
        omega
theorem p_winner {v : Int32} (hC : VC M k V) (hM : VMo M k V) : Q2 m_X_winner m_M_winner [.int v] M := by
  rcases ix_cases v (n := 3) (by decide) with ⟨a, ha, rfl⟩ | hv
  · refine ⟨.int (wnr V k a), ?_, x_winner hM ha⟩
    have c1 := y_countsWinner (d := 94) (how := 1) hC (Or.inl rfl)
    have c2 := y_countsWinner (d := 94) (how := 2) hC (Or.inr rfl)
    rw [show bI ((1 : Nat) == 2) = nI 0 from rfl] at c1
    rw [show bI ((2 : Nat) == 2) = nI 1 from rfl] at c2
    have h3 : a = 0 ∨ a = 1 ∨ a = 2 := by omega
    rw [e_X_winner]
    rcases h3 with rfl | rfl | rfl
    · simp (disch := omega) only [r_X_winner_0, r_X_winner_1, r_X_winner_28, r_X_winner_28n, r_X_winner_29, r_X_winner_32, r_X_winner_35, r_X_winner_36, r_X_winner_36n, r_X_winner_37, r_X_winner_40, r_X_winner_41, r_X_winner_44, r_X_winner_45, r_X_winner_45n, r_X_winner_46, r_X_winner_49, r_X_winner_50, r_X_winner_53, r_X_winner_54, r_X_winner_55, bnd, tl_s, tl_n, wt_nil, wt_int, wt_ref, wt_null, wt_long, Nat.reduceAdd, Nat.reduceLeDiff, if_true, if_false, decide_true, Bool.true_and, Bool.and_true, zok_n0, zok_n1, zok_bI, bI_eq0, bI_eq1, Bool.true_eq_false, Bool.false_eq_true, not_false_eq_true, not_true_eq_false, decide_false, decide_eq_false_iff_not, decide_eq_true_eq, Classical.not_not, ite_not, lit, Nat.reduceEqDiff, Nat.reduceLT, nI_add, nI_lt', nI_le', nI_eq', nI_sub', pk_mul, nI_rem', nI_div', nI_nz, remN, clampN, inb_nI, Nat.not_lt_zero, Nat.zero_le, Nat.le_zero_eq, if_true, if_false, m1_lt0, m1_eq, t_ite, f_ite, nI_and, nI_or, nI_xor, nI_shl1, nI_shr, nI_ushr, nI_not, nI_and_p2, Nat.one_mul, vrf_s, vrf_n, oF_0, oO_0, oF_1, oO_1, oA_2, oS_2, oA_3, oS_3, oF_4, oO_4, oA_5, oS_5, oA_6, oS_6, oA_7, oS_7, oA_8, oS_8, oA_9, oS_9, oF_70, oO_70, oA_71, oS_71, oA_72, oS_72, oF_73, oO_73, oA_74, oS_74, oA_75, oS_75, oA_76, oS_76, oA_77, oS_77, oA_78, oS_78, oA_139, oS_139, oF_140, oO_140, oA_141, oS_141, oA_142, oS_142, oA_143, oS_143, oA_144, oS_144, oF_145, oO_145, oF_146, oO_146, oA_147, oS_147, oF_148, oO_148, oA_149, oS_149, oA_150, oS_150, oA_151, oS_151, oF_152, oO_152, oA_153, oS_153, oF_154, oO_154, oA_155, oS_155, oA_156, oS_156, oA_157, oS_157, oA_158, oS_158, oF_159, oO_159, oA_160, oS_160, oA_161, oS_161, oA_162, oS_162, oA_163, oS_163, oF_164, oO_164, oA_165, oS_165, oA_166, oS_166, oA_167, oS_167, oA_168, oS_168, oF_169, oO_169, oA_170, oS_170, oA_171, oS_171, oA_172, oS_172, oA_173, oS_173, mO_Bal_pairsWinner, mO_Bal_countsWinner, hC.1, y_pairsWinner hC]
    · simp (disch := omega) only [r_X_winner_0, r_X_winner_1, r_X_winner_28, r_X_winner_28n, r_X_winner_29, r_X_winner_32, r_X_winner_35, r_X_winner_36, r_X_winner_36n, r_X_winner_37, r_X_winner_40, r_X_winner_41, r_X_winner_44, r_X_winner_45, r_X_winner_45n, r_X_winner_46, r_X_winner_49, r_X_winner_50, r_X_winner_53, r_X_winner_54, r_X_winner_55, bnd, tl_s, tl_n, wt_nil, wt_int, wt_ref, wt_null, wt_long, Nat.reduceAdd, Nat.reduceLeDiff, if_true, if_false, decide_true, Bool.true_and, Bool.and_true, zok_n0, zok_n1, zok_bI, bI_eq0, bI_eq1, Bool.true_eq_false, Bool.false_eq_true, not_false_eq_true, not_true_eq_false, decide_false, decide_eq_false_iff_not, decide_eq_true_eq, Classical.not_not, ite_not, lit, Nat.reduceEqDiff, Nat.reduceLT, nI_add, nI_lt', nI_le', nI_eq', nI_sub', pk_mul, nI_rem', nI_div', nI_nz, remN, clampN, inb_nI, Nat.not_lt_zero, Nat.zero_le, Nat.le_zero_eq, if_true, if_false, m1_lt0, m1_eq, t_ite, f_ite, nI_and, nI_or, nI_xor, nI_shl1, nI_shr, nI_ushr, nI_not, nI_and_p2, Nat.one_mul, vrf_s, vrf_n, oF_0, oO_0, oF_1, oO_1, oA_2, oS_2, oA_3, oS_3, oF_4, oO_4, oA_5, oS_5, oA_6, oS_6, oA_7, oS_7, oA_8, oS_8, oA_9, oS_9, oF_70, oO_70, oA_71, oS_71, oA_72, oS_72, oF_73, oO_73, oA_74, oS_74, oA_75, oS_75, oA_76, oS_76, oA_77, oS_77, oA_78, oS_78, oA_139, oS_139, oF_140, oO_140, oA_141, oS_141, oA_142, oS_142, oA_143, oS_143, oA_144, oS_144, oF_145, oO_145, oF_146, oO_146, oA_147, oS_147, oF_148, oO_148, oA_149, oS_149, oA_150, oS_150, oA_151, oS_151, oF_152, oO_152, oA_153, oS_153, oF_154, oO_154, oA_155, oS_155, oA_156, oS_156, oA_157, oS_157, oA_158, oS_158, oF_159, oO_159, oA_160, oS_160, oA_161, oS_161, oA_162, oS_162, oA_163, oS_163, oF_164, oO_164, oA_165, oS_165, oA_166, oS_166, oA_167, oS_167, oA_168, oS_168, oF_169, oO_169, oA_170, oS_170, oA_171, oS_171, oA_172, oS_172, oA_173, oS_173, mO_Bal_pairsWinner, mO_Bal_countsWinner, hC.1, c1]
    · simp (disch := omega) only [r_X_winner_0, r_X_winner_1, r_X_winner_28, r_X_winner_28n, r_X_winner_29, r_X_winner_32, r_X_winner_35, r_X_winner_36, r_X_winner_36n, r_X_winner_37, r_X_winner_40, r_X_winner_41, r_X_winner_44, r_X_winner_45, r_X_winner_45n, r_X_winner_46, r_X_winner_49, r_X_winner_50, r_X_winner_53, r_X_winner_54, r_X_winner_55, bnd, tl_s, tl_n, wt_nil, wt_int, wt_ref, wt_null, wt_long, Nat.reduceAdd, Nat.reduceLeDiff, if_true, if_false, decide_true, Bool.true_and, Bool.and_true, zok_n0, zok_n1, zok_bI, bI_eq0, bI_eq1, Bool.true_eq_false, Bool.false_eq_true, not_false_eq_true, not_true_eq_false, decide_false, decide_eq_false_iff_not, decide_eq_true_eq, Classical.not_not, ite_not, lit, Nat.reduceEqDiff, Nat.reduceLT, nI_add, nI_lt', nI_le', nI_eq', nI_sub', pk_mul, nI_rem', nI_div', nI_nz, remN, clampN, inb_nI, Nat.not_lt_zero, Nat.zero_le, Nat.le_zero_eq, if_true, if_false, m1_lt0, m1_eq, t_ite, f_ite, nI_and, nI_or, nI_xor, nI_shl1, nI_shr, nI_ushr, nI_not, nI_and_p2, Nat.one_mul, vrf_s, vrf_n, oF_0, oO_0, oF_1, oO_1, oA_2, oS_2, oA_3, oS_3, oF_4, oO_4, oA_5, oS_5, oA_6, oS_6, oA_7, oS_7, oA_8, oS_8, oA_9, oS_9, oF_70, oO_70, oA_71, oS_71, oA_72, oS_72, oF_73, oO_73, oA_74, oS_74, oA_75, oS_75, oA_76, oS_76, oA_77, oS_77, oA_78, oS_78, oA_139, oS_139, oF_140, oO_140, oA_141, oS_141, oA_142, oS_142, oA_143, oS_143, oA_144, oS_144, oF_145, oO_145, oF_146, oO_146, oA_147, oS_147, oF_148, oO_148, oA_149, oS_149, oA_150, oS_150, oA_151, oS_151, oF_152, oO_152, oA_153, oS_153, oF_154, oO_154, oA_155, oS_155, oA_156, oS_156, oA_157, oS_157, oA_158, oS_158, oF_159, oO_159, oA_160, oS_160, oA_161, oS_161, oA_162, oS_162, oA_163, oS_163, oF_164, oO_164, oA_165, oS_165, oA_166, oS_166, oA_167, oS_167, oA_168, oS_168, oF_169, oO_169, oA_170, oS_170, oA_171, oS_171, oA_172, oS_172, oA_173, oS_173, mO_Bal_pairsWinner, mO_Bal_countsWinner, hC.1, c2]
  · refine ⟨.int (-nI 1), ?_, ?_⟩
    · rw [e_X_winner]
      simp (disch := omega) only [r_X_winner_0, r_X_winner_1, r_X_winner_28, r_X_winner_28n, r_X_winner_29, r_X_winner_32, r_X_winner_35, r_X_winner_36, r_X_winner_36n, r_X_winner_37, r_X_winner_40, r_X_winner_41, r_X_winner_44, r_X_winner_45, r_X_winner_45n, r_X_winner_46, r_X_winner_49, r_X_winner_50, r_X_winner_53, r_X_winner_54, r_X_winner_55, bnd, tl_s, tl_n, wt_nil, wt_int, wt_ref, wt_null, wt_long, Nat.reduceAdd, Nat.reduceLeDiff, if_true, if_false, decide_true, Bool.true_and, Bool.and_true, zok_n0, zok_n1, zok_bI, bI_eq0, bI_eq1, Bool.true_eq_false, Bool.false_eq_true, not_false_eq_true, not_true_eq_false, decide_false, decide_eq_false_iff_not, decide_eq_true_eq, Classical.not_not, ite_not, lit, Nat.reduceEqDiff, Nat.reduceLT, nI_add, nI_lt', nI_le', nI_eq', nI_sub', pk_mul, nI_rem', nI_div', nI_nz, remN, clampN, inb_nI, Nat.not_lt_zero, Nat.zero_le, Nat.le_zero_eq, if_true, if_false, m1_lt0, m1_eq, t_ite, f_ite, nI_and, nI_or, nI_xor, nI_shl1, nI_shr, nI_ushr, nI_not, nI_and_p2, Nat.one_mul, vrf_s, vrf_n, oF_0, oO_0, oF_1, oO_1, oA_2, oS_2, oA_3, oS_3, oF_4, oO_4, oA_5, oS_5, oA_6, oS_6, oA_7, oS_7, oA_8, oS_8, oA_9, oS_9, oF_70, oO_70, oA_71, oS_71, oA_72, oS_72, oF_73, oO_73, oA_74, oS_74, oA_75, oS_75, oA_76, oS_76, oA_77, oS_77, oA_78, oS_78, oA_139, oS_139, oF_140, oO_140, oA_141, oS_141, oA_142, oS_142, oA_143, oS_143, oA_144, oS_144, oF_145, oO_145, oF_146, oO_146, oA_147, oS_147, oF_148, oO_148, oA_149, oS_149, oA_150, oS_150, oA_151, oS_151, oF_152, oO_152, oA_153, oS_153, oF_154, oO_154, oA_155, oS_155, oA_156, oS_156, oA_157, oS_157, oA_158, oS_158, oF_159, oO_159, oA_160, oS_160, oA_161, oS_161, oA_162, oS_162, oA_163, oS_163, oF_164, oO_164, oA_165, oS_165, oA_166, oS_166, oA_167, oS_167, oA_168, oS_168, oF_169, oO_169, oA_170, oS_170, oA_171, oS_171, oA_172, oS_172, oA_173, oS_173, mO_Bal_pairsWinner, mO_Bal_countsWinner, ne_bad (j := 0) hv (by decide) (by decide), ne_bad (j := 1) hv (by decide) (by decide), ne_bad (j := 2) hv (by decide) (by decide)]
    · rw [e_M_winner]
      obtain ⟨n1, _⟩ := no_ix (n := 3) (by decide) (by decide) hv
      simp (disch := omega) only [r_M_winner_0, r_M_winner_1, r_M_winner_2, r_M_winner_3, r_M_winner_6, r_M_winner_9, r_M_winner_10, r_M_winner_11, r_M_winner_12, bnd, tl_s, tl_n, wt_nil, wt_int, wt_ref, wt_null, wt_long, Nat.reduceAdd, Nat.reduceLeDiff, if_true, if_false, decide_true, Bool.true_and, Bool.and_true, zok_n0, zok_n1, zok_bI, bI_eq0, bI_eq1, Bool.true_eq_false, Bool.false_eq_true, not_false_eq_true, not_true_eq_false, decide_false, decide_eq_false_iff_not, decide_eq_true_eq, Classical.not_not, ite_not, lit, Nat.reduceEqDiff, Nat.reduceLT, nI_add, nI_lt', nI_le', nI_eq', nI_sub', pk_mul, nI_rem', nI_div', nI_nz, remN, clampN, inb_nI, Nat.not_lt_zero, Nat.zero_le, Nat.le_zero_eq, if_true, if_false, m1_lt0, m1_eq, t_ite, f_ite, nI_and, nI_or, nI_xor, nI_shl1, nI_shr, nI_ushr, nI_not, nI_and_p2, Nat.one_mul, vrf_s, vrf_n, oF_174, oO_174, oA_175, oS_175, oA_176, oS_176, oA_177, oS_177, oA_178, oS_178, oA_179, oS_179, oA_180, oS_180, oA_181, oS_181, oA_182, oS_182, oA_183, oS_183, oA_184, oS_184, oA_185, oS_185, oA_186, oS_186, oA_187, oS_187, oA_188, oS_188, mO_M_isIn, mO_M_isWinner, x_isIn]
      rw [if_neg n1]
end V6
