/-! TEXT: the reference's tokens -/
def tsA (tb : Nat → Nat) (tl p : Nat) : Nat := if sgE tb tl p = true ∧ tb p = 60 then 4 else if sgE tb tl p = true ∧ tb p = 62 then 5 else if sgi (tb p) ≠ 42 ∨ tb p = 58 then tb p else 3
def tcA (tb : Nat → Nat) (tl p : Nat) : Nat := if p < tl then (if isD (tb p) = true then 1 else if isL (tb p) = true then 2 else tsA tb tl p) else 0
def PTm (k j : Nat) : Prop := k = 174 ∧ 7 ≤ j ∧ j ≤ 11
def TpM (M : Mem) (tb : Nat → Nat) (tl : Nat) : Prop := FM M ∧ gI M 174 4 = nI tl ∧ (∀ i, i < tl → gI M 178 i = nI (tb i)) ∧ tl ≤ 300 ∧ ∀ i, tb i < 256
/-- the k-th token is at hand -/
def TkM (M : Mem) (tb : Nat → Nat) (tl k : Nat) : Prop := gI M 174 7 = nI (psT tb tl (k + 1)) ∧ gI M 174 8 = nI (plT tb tl k) ∧ gI M 174 9 = nI (tcA tb tl (plT tb tl k)) ∧ (sgD tb tl (plT tb tl k) = true → gI M 174 10 = nI (nuA tb tl (plT tb tl k))) ∧ (sgL tb tl (plT tb tl k) = true → gL M 174 11 = lN (wdA tb tl (plT tb tl k)))
section NXT
variable {d : Nat} {M M' : Mem} {tb : Nat → Nat} {tl : Nat}
theorem shl8L {w : Nat} : lN w <<< ((nI 8).toInt64 &&& 63) = lN (w * 256) := by
  apply Int64.toBitVec_inj.1
  show BitVec.ofNat 64 w <<< ((((nI 8).toInt64 &&& 63) : Int64).toBitVec.smod 64).toNat = BitVec.ofNat 64 (w * 256)
  rw [show ((((nI 8).toInt64 &&& 63) : Int64).toBitVec.smod 64).toNat = 8 by decide +kernel]
  apply BitVec.eq_of_toNat_eq
  rw [BitVec.toNat_shiftLeft, BitVec.toNat_ofNat, BitVec.toNat_ofNat, Nat.shiftLeft_eq]
  omega
theorem lN_to {w : Nat} (h : w < 2 ^ 63) : (lN w).toInt = (w : Int) := by rw [← iL_nat]; exact iL_to (by omega) (by omega)
theorem shr48L {w : Nat} (h : w < 2 ^ 62) : lN w >>> ((nI 48).toInt64 &&& 63) = lN (w / 2 ^ 48) := by
  apply Int64.toInt_inj.mp
  rw [lN_to (show w / 2 ^ 48 < 2 ^ 63 by omega)]
  show (BitVec.sshiftRight (lN w).toBitVec ((((nI 48).toInt64 &&& 63) : Int64).toBitVec.smod 64).toNat).toInt = _
  rw [show ((((nI 48).toInt64 &&& 63) : Int64).toBitVec.smod 64).toNat = 48 by decide +kernel, BitVec.toInt_sshiftRight]
  show (lN w).toInt >>> 48 = _
  rw [lN_to (by omega), Int.shiftRight_eq_div_pow]
  rfl
theorem or8L {w b : Nat} (h : b < 256) : lN (w * 256) ||| lN b = lN (w * 256 + b) := by
  have := fb_or_sumL (a := b) (k := 8) w (by omega)
  rw [show 2 ^ 8 * w = w * 256 by omega] at this
  exact this
theorem lN_eqv {a b : Nat} (ha : a < 2 ^ 63) (hb : b < 2 ^ 63) : (lN a = lN b) = (a = b) := by
  rw [← iL_nat, ← iL_nat, iL_eq (by omega) (by omega) (by omega) (by omega)]
  exact propext ⟨fun h => by omega, fun h => by omega⟩
theorem x_w2 {a b : Nat} (ha : a < 256) (hb : b < 256) : ev (d + 1) m_M_w2 [.int (nI a), .int (nI b)] NX M = some (some (.long (lN (a * 256 + b))), NX, M) := by
  have e1 : (nI a).toInt64 = lN a := nI_l (by omega)
  have e2 : (nI b).toInt64 = lN b := nI_l (by omega)
  rw [e_M_w2]
  simp (disch := omega) only [r_M_w2_0, r_M_w2_1, r_M_w2_2, r_M_w2_4, r_M_w2_5, r_M_w2_6, r_M_w2_7, r_M_w2_8, bnd, tl_s, tl_n, wt_nil, wt_int, wt_ref, wt_null, wt_long, Nat.reduceAdd, Nat.reduceLeDiff, if_true, if_false, decide_true, Bool.true_and, Bool.and_true, zok_n0, zok_n1, zok_bI, bI_eq0, bI_eq1, Bool.true_eq_false, Bool.false_eq_true, not_false_eq_true, not_true_eq_false, decide_false, decide_eq_false_iff_not, decide_eq_true_eq, Classical.not_not, ite_not, lit, Nat.reduceEqDiff, Nat.reduceLT, nI_add, nI_lt', nI_le', nI_eq', nI_sub', pk_mul, nI_rem', nI_div', nI_nz, remN, clampN, inb_nI, Nat.not_lt_zero, Nat.zero_le, Nat.le_zero_eq, if_true, if_false, m1_lt0, m1_eq, t_ite, f_ite, Bool.not_false, Bool.not_true, nI_and, nI_or, nI_xor, nI_shl1, nI_shr, nI_ushr, nI_not, nI_and_p2, Nat.one_mul, vrf_s, vrf_n, oF_174, oO_174, oA_175, oS_175, oA_176, oS_176, oA_177, oS_177, oA_178, oS_178, oA_179, oS_179, oA_180, oS_180, oA_181, oS_181, oA_182, oS_182, oA_183, oS_183, oA_184, oS_184, oA_185, oS_185, oA_186, oS_186, oA_187, oS_187, oA_188, oS_188, e1, e2, shl8L, or8L hb]
theorem x_w3 {a b c : Nat} (ha : a < 256) (hb : b < 256) (hc : c < 256) : ev (d + 2) m_M_w3 [.int (nI a), .int (nI b), .int (nI c)] NX M = some (some (.long (lN ((a * 256 + b) * 256 + c))), NX, M) := by
  have e2 : (nI c).toInt64 = lN c := nI_l (by omega)
  rw [e_M_w3]
  simp (disch := omega) only [r_M_w3_0, r_M_w3_1, r_M_w3_2, r_M_w3_5, r_M_w3_7, r_M_w3_8, r_M_w3_9, r_M_w3_10, r_M_w3_11, bnd, tl_s, tl_n, wt_nil, wt_int, wt_ref, wt_null, wt_long, Nat.reduceAdd, Nat.reduceLeDiff, if_true, if_false, decide_true, Bool.true_and, Bool.and_true, zok_n0, zok_n1, zok_bI, bI_eq0, bI_eq1, Bool.true_eq_false, Bool.false_eq_true, not_false_eq_true, not_true_eq_false, decide_false, decide_eq_false_iff_not, decide_eq_true_eq, Classical.not_not, ite_not, lit, Nat.reduceEqDiff, Nat.reduceLT, nI_add, nI_lt', nI_le', nI_eq', nI_sub', pk_mul, nI_rem', nI_div', nI_nz, remN, clampN, inb_nI, Nat.not_lt_zero, Nat.zero_le, Nat.le_zero_eq, if_true, if_false, m1_lt0, m1_eq, t_ite, f_ite, Bool.not_false, Bool.not_true, nI_and, nI_or, nI_xor, nI_shl1, nI_shr, nI_ushr, nI_not, nI_and_p2, Nat.one_mul, vrf_s, vrf_n, oF_174, oO_174, oA_175, oS_175, oA_176, oS_176, oA_177, oS_177, oA_178, oS_178, oA_179, oS_179, oA_180, oS_180, oA_181, oS_181, oA_182, oS_182, oA_183, oS_183, oA_184, oS_184, oA_185, oS_185, oA_186, oS_186, oA_187, oS_187, oA_188, oS_188, mO_M_w2, x_w2 ha hb, e2, shl8L, or8L hc]
theorem x_w4 {a b c e : Nat} (ha : a < 256) (hb : b < 256) (hc : c < 256) (he : e < 256) : ev (d + 3) m_M_w4 [.int (nI a), .int (nI b), .int (nI c), .int (nI e)] NX M = some (some (.long (lN (((a * 256 + b) * 256 + c) * 256 + e))), NX, M) := by
  have e2 : (nI e).toInt64 = lN e := nI_l (by omega)
  rw [e_M_w4]
  simp (disch := omega) only [r_M_w4_0, r_M_w4_1, r_M_w4_2, r_M_w4_3, r_M_w4_6, r_M_w4_8, r_M_w4_9, r_M_w4_10, r_M_w4_11, r_M_w4_12, bnd, tl_s, tl_n, wt_nil, wt_int, wt_ref, wt_null, wt_long, Nat.reduceAdd, Nat.reduceLeDiff, if_true, if_false, decide_true, Bool.true_and, Bool.and_true, zok_n0, zok_n1, zok_bI, bI_eq0, bI_eq1, Bool.true_eq_false, Bool.false_eq_true, not_false_eq_true, not_true_eq_false, decide_false, decide_eq_false_iff_not, decide_eq_true_eq, Classical.not_not, ite_not, lit, Nat.reduceEqDiff, Nat.reduceLT, nI_add, nI_lt', nI_le', nI_eq', nI_sub', pk_mul, nI_rem', nI_div', nI_nz, remN, clampN, inb_nI, Nat.not_lt_zero, Nat.zero_le, Nat.le_zero_eq, if_true, if_false, m1_lt0, m1_eq, t_ite, f_ite, Bool.not_false, Bool.not_true, nI_and, nI_or, nI_xor, nI_shl1, nI_shr, nI_ushr, nI_not, nI_and_p2, Nat.one_mul, vrf_s, vrf_n, oF_174, oO_174, oA_175, oS_175, oA_176, oS_176, oA_177, oS_177, oA_178, oS_178, oA_179, oS_179, oA_180, oS_180, oA_181, oS_181, oA_182, oS_182, oA_183, oS_183, oA_184, oS_184, oA_185, oS_185, oA_186, oS_186, oA_187, oS_187, oA_188, oS_188, mO_M_w3, x_w3 ha hb hc, e2, shl8L, or8L he]
theorem x_w5 {a b c e f : Nat} (ha : a < 256) (hb : b < 256) (hc : c < 256) (he : e < 256) (hf : f < 256) : ev (d + 4) m_M_w5 [.int (nI a), .int (nI b), .int (nI c), .int (nI e), .int (nI f)] NX M = some (some (.long (lN ((((a * 256 + b) * 256 + c) * 256 + e) * 256 + f))), NX, M) := by
  have e2 : (nI f).toInt64 = lN f := nI_l (by omega)
  rw [e_M_w5]
  simp (disch := omega) only [r_M_w5_0, r_M_w5_1, r_M_w5_2, r_M_w5_3, r_M_w5_4, r_M_w5_7, r_M_w5_9, r_M_w5_10, r_M_w5_12, r_M_w5_13, r_M_w5_14, bnd, tl_s, tl_n, wt_nil, wt_int, wt_ref, wt_null, wt_long, Nat.reduceAdd, Nat.reduceLeDiff, if_true, if_false, decide_true, Bool.true_and, Bool.and_true, zok_n0, zok_n1, zok_bI, bI_eq0, bI_eq1, Bool.true_eq_false, Bool.false_eq_true, not_false_eq_true, not_true_eq_false, decide_false, decide_eq_false_iff_not, decide_eq_true_eq, Classical.not_not, ite_not, lit, Nat.reduceEqDiff, Nat.reduceLT, nI_add, nI_lt', nI_le', nI_eq', nI_sub', pk_mul, nI_rem', nI_div', nI_nz, remN, clampN, inb_nI, Nat.not_lt_zero, Nat.zero_le, Nat.le_zero_eq, if_true, if_false, m1_lt0, m1_eq, t_ite, f_ite, Bool.not_false, Bool.not_true, nI_and, nI_or, nI_xor, nI_shl1, nI_shr, nI_ushr, nI_not, nI_and_p2, Nat.one_mul, vrf_s, vrf_n, oF_174, oO_174, oA_175, oS_175, oA_176, oS_176, oA_177, oS_177, oA_178, oS_178, oA_179, oS_179, oA_180, oS_180, oA_181, oS_181, oA_182, oS_182, oA_183, oS_183, oA_184, oS_184, oA_185, oS_185, oA_186, oS_186, oA_187, oS_187, oA_188, oS_188, mO_M_w4, x_w4 ha hb hc he, e2, shl8L, or8L hf]
theorem x_w6 {a b c e f g : Nat} (ha : a < 256) (hb : b < 256) (hc : c < 256) (he : e < 256) (hf : f < 256) (hg : g < 256) : ev (d + 5) m_M_w6 [.int (nI a), .int (nI b), .int (nI c), .int (nI e), .int (nI f), .int (nI g)] NX M = some (some (.long (lN (((((a * 256 + b) * 256 + c) * 256 + e) * 256 + f) * 256 + g))), NX, M) := by
  have e2 : (nI g).toInt64 = lN g := nI_l (by omega)
  rw [e_M_w6]
  simp (disch := omega) only [r_M_w6_0, r_M_w6_1, r_M_w6_2, r_M_w6_3, r_M_w6_4, r_M_w6_6, r_M_w6_9, r_M_w6_11, r_M_w6_12, r_M_w6_14, r_M_w6_15, r_M_w6_16, bnd, tl_s, tl_n, wt_nil, wt_int, wt_ref, wt_null, wt_long, Nat.reduceAdd, Nat.reduceLeDiff, if_true, if_false, decide_true, Bool.true_and, Bool.and_true, zok_n0, zok_n1, zok_bI, bI_eq0, bI_eq1, Bool.true_eq_false, Bool.false_eq_true, not_false_eq_true, not_true_eq_false, decide_false, decide_eq_false_iff_not, decide_eq_true_eq, Classical.not_not, ite_not, lit, Nat.reduceEqDiff, Nat.reduceLT, nI_add, nI_lt', nI_le', nI_eq', nI_sub', pk_mul, nI_rem', nI_div', nI_nz, remN, clampN, inb_nI, Nat.not_lt_zero, Nat.zero_le, Nat.le_zero_eq, if_true, if_false, m1_lt0, m1_eq, t_ite, f_ite, Bool.not_false, Bool.not_true, nI_and, nI_or, nI_xor, nI_shl1, nI_shr, nI_ushr, nI_not, nI_and_p2, Nat.one_mul, vrf_s, vrf_n, oF_174, oO_174, oA_175, oS_175, oA_176, oS_176, oA_177, oS_177, oA_178, oS_178, oA_179, oS_179, oA_180, oS_180, oA_181, oS_181, oA_182, oS_182, oA_183, oS_183, oA_184, oS_184, oA_185, oS_185, oA_186, oS_186, oA_187, oS_187, oA_188, oS_188, mO_M_w5, x_w5 ha hb hc he hf, e2, shl8L, or8L hg]
theorem TpM.at' (h : TpM M tb tl) {p : Nat} (hp : p < 2 ^ 30) : ev (d + 1) m_M_byteAt [.ref 174, .int (nI p)] NX M = some (some (.int (sgn tb tl p)), NX, M) := x_byteAt h.1 h.2.1 h.2.2.1 h.2.2.2.1 hp
theorem TpM.tok (h : TpM M tb tl) (hd : D PTm M M') : TpM M' tb tl := by
  obtain ⟨a1, a2, a3, a4, a5⟩ := h
  refine ⟨?_, (hd.i (by unfold PTm; omega)).trans a2, fun i hi => (hd.i (by unfold PTm; omega)).trans (a3 i hi), a4, a5⟩
  unfold FM at a1 ⊢
  obtain ⟨f1, f2, f3, f4, f5, f6, f7, f8, f9, f10, f11, f12, f13, f14⟩ := a1
  have q : ∀ j, gR M' 174 j = gR M 174 j ∨ (7 ≤ j ∧ j ≤ 11) := fun j => by
    by_cases e : 7 ≤ j ∧ j ≤ 11
    · exact Or.inr e
    · exact Or.inl (hd.r (fun z => e z.2))
  have r : ∀ {j v}, gR M 174 j = v → ¬ (7 ≤ j ∧ j ≤ 11) → gR M' 174 j = v := fun {j v} e n => by
    rcases q j with z | z
    · rw [z]; exact e
    · exact absurd z n
  exact ⟨r f1 (by omega), r f2 (by omega), r f3 (by omega), r f4 (by omega), r f5 (by omega), r f6 (by omega), r f7 (by omega), r f8 (by omega), r f9 (by omega), r f10 (by omega), r f11 (by omega), r f12 (by omega), r f13 (by omega), r f14 (by omega)⟩
theorem x_isSign {x : Nat} (hx : x < 256) : ev (d + 1) m_M_isSign [.int (nI x)] NX M = some (some (.int (bI (decide (sgi x ≠ 42 ∨ x = 58)))), NX, M) := by
  rw [e_M_isSign]
  by_cases h : x = 35 ∨ x = 40 ∨ x = 41 ∨ x = 42 ∨ x = 43 ∨ x = 45 ∨ x = 47 ∨ x = 58 ∨ x = 59 ∨ x = 60 ∨ x = 61 ∨ x = 62
  · rcases h with rfl | rfl | rfl | rfl | rfl | rfl | rfl | rfl | rfl | rfl | rfl | rfl
    all_goals (simp (disch := omega) only [r_M_isSign_0, r_M_isSign_1, r_M_isSign_128, r_M_isSign_129, r_M_isSign_130, r_M_isSign_131, bnd, tl_s, tl_n, wt_nil, wt_int, wt_ref, wt_null, wt_long, Nat.reduceAdd, Nat.reduceLeDiff, if_true, if_false, decide_true, Bool.true_and, Bool.and_true, zok_n0, zok_n1, zok_bI, bI_eq0, bI_eq1, Bool.true_eq_false, Bool.false_eq_true, not_false_eq_true, not_true_eq_false, decide_false, decide_eq_false_iff_not, decide_eq_true_eq, Classical.not_not, ite_not, lit, Nat.reduceEqDiff, Nat.reduceLT, nI_add, nI_lt', nI_le', nI_eq', nI_sub', pk_mul, nI_rem', nI_div', nI_nz, remN, clampN, inb_nI, Nat.not_lt_zero, Nat.zero_le, Nat.le_zero_eq, if_true, if_false, m1_lt0, m1_eq, t_ite, f_ite, Bool.not_false, Bool.not_true, nI_and, nI_or, nI_xor, nI_shl1, nI_shr, nI_ushr, nI_not, nI_and_p2, Nat.one_mul, vrf_s, vrf_n, oF_174, oO_174, oA_175, oS_175, oA_176, oS_176, oA_177, oS_177, oA_178, oS_178, oA_179, oS_179, oA_180, oS_180, oA_181, oS_181, oA_182, oS_182, oA_183, oS_183, oA_184, oS_184, oA_185, oS_185, oA_186, oS_186, oA_187, oS_187, oA_188, oS_188])
    all_goals rfl
  · have hd : decide (sgi x ≠ 42 ∨ x = 58) = false := by
      unfold sgi
      rw [decide_eq_false_iff_not]
      simp only [not_or] at h
      obtain ⟨a1, a2, a3, a4, a5, a6, a7, a8, a9, a10, a11, a12⟩ := h
      rw [if_neg a10, if_neg a12, if_neg a11, if_neg a1, if_neg a5, if_neg a6, if_neg a4, if_neg a7, if_neg a2, if_neg a3, if_neg a9]
      omega
    rw [hd]
    simp only [not_or] at h
    obtain ⟨a1, a2, a3, a4, a5, a6, a7, a8, a9, a10, a11, a12⟩ := h
    simp (disch := omega) only [r_M_isSign_0, r_M_isSign_1, r_M_isSign_128, r_M_isSign_129, r_M_isSign_130, r_M_isSign_131, bnd, tl_s, tl_n, wt_nil, wt_int, wt_ref, wt_null, wt_long, Nat.reduceAdd, Nat.reduceLeDiff, if_true, if_false, decide_true, Bool.true_and, Bool.and_true, zok_n0, zok_n1, zok_bI, bI_eq0, bI_eq1, Bool.true_eq_false, Bool.false_eq_true, not_false_eq_true, not_true_eq_false, decide_false, decide_eq_false_iff_not, decide_eq_true_eq, Classical.not_not, ite_not, lit, Nat.reduceEqDiff, Nat.reduceLT, nI_add, nI_lt', nI_le', nI_eq', nI_sub', pk_mul, nI_rem', nI_div', nI_nz, remN, clampN, inb_nI, Nat.not_lt_zero, Nat.zero_le, Nat.le_zero_eq, if_true, if_false, m1_lt0, m1_eq, t_ite, f_ite, Bool.not_false, Bool.not_true, nI_and, nI_or, nI_xor, nI_shl1, nI_shr, nI_ushr, nI_not, nI_and_p2, Nat.one_mul, vrf_s, vrf_n, oF_174, oO_174, oA_175, oS_175, oA_176, oS_176, oA_177, oS_177, oA_178, oS_178, oA_179, oS_179, oA_180, oS_180, oA_181, oS_181, oA_182, oS_182, oA_183, oS_183, oA_184, oS_184, oA_185, oS_185, oA_186, oS_186, oA_187, oS_187, oA_188, oS_188, a1, a2, a3, a4, a5, a6, a7, a8, a9, a10, a11, a12, ite_same]
    rfl
end NXT
