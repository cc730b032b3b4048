/-! STEPS: kept and taken back -/
def kpS (s : St) : St := setSt s (if sSc s = 30 then (30, fun i => if i = 29 then sNow s else sSt s (i + 1)) else (sSc s + 1, fun i => if i = sSc s then sNow s else sSt s i))
def unS (s : St) : St := setNow (setSt s (sSc s - 1, sSt s)) (sSt s (sSc s - 1))
theorem kpS_ok {s s' : St} {tb : Nat → Nat} {tl : Nat} (ho : IO s s' tb tl) : IO (kpS s) s' tb tl := by
  obtain ⟨⟨o1, o2, o3, o4, o5, o6, o7, o8, o9, o10⟩, p⟩ := ho
  refine ⟨⟨o1, o2, ?_, ?_, o5, o6, o7, o8, o9, o10⟩, p⟩
  · show (if sSc s = 30 then ((30, fun i => if i = 29 then sNow s else sSt s (i + 1)) : Nat × (Nat → Mo)) else (sSc s + 1, fun i => if i = sSc s then sNow s else sSt s i)).1 ≤ 30
    by_cases e : sSc s = 30
    · rw [if_pos e]; exact Nat.le_refl _
    · rw [if_neg e]; show sSc s + 1 ≤ 30; omega
  · intro i hi
    have hi' : i < (if sSc s = 30 then ((30, fun i => if i = 29 then sNow s else sSt s (i + 1)) : Nat × (Nat → Mo)) else (sSc s + 1, fun i => if i = sSc s then sNow s else sSt s i)).1 := hi
    show OkM (sN s) ((if sSc s = 30 then ((30, fun i => if i = 29 then sNow s else sSt s (i + 1)) : Nat × (Nat → Mo)) else (sSc s + 1, fun i => if i = sSc s then sNow s else sSt s i)).2 i)
    by_cases e : sSc s = 30
    · rw [if_pos e] at hi' ⊢
      have hi2 : i < 30 := hi'
      show OkM (sN s) (if i = 29 then sNow s else sSt s (i + 1))
      by_cases e2 : i = 29
      · rw [if_pos e2]; exact o2
      · rw [if_neg e2]; exact o4 (i + 1) (by omega)
    · rw [if_neg e] at hi' ⊢
      have hi2 : i < sSc s + 1 := hi'
      show OkM (sN s) (if i = sSc s then sNow s else sSt s i)
      by_cases e2 : i = sSc s
      · rw [if_pos e2]; exact o2
      · rw [if_neg e2]; exact o4 i (by omega)
theorem rxt_6 {j : Nat} (h : j < 30) : rxt 6 j = some (10 + 2 * j) := by simp [rxt, h]
theorem rxt_st {j : Nat} (h : j < 30) : rxt (10 + 2 * j) 6 = some (10 + 2 * j + 1) := (moF (moB_1 h)).2.2.2.2.1
/-- the ring's cells -/
def Pk (k j : Nat) : Prop := (k = 1 ∧ (j = 5 ∨ j = 6)) ∨ (10 ≤ k ∧ k < 70 ∧ rxt k j = none)
section ST
variable {d : Nat} {M M' : Mem} {s s' : St} {T : Nat → Tx} {tb : Nat → Nat} {tl : Nat} {f : Fa}
theorem y_copyStep {q : Nat} (hX : IX M s s' T tb tl f) (ho : IO s s' tb tl) (hq : q < 30) : ∃ M', D (fun k j => (k = 10 + 2 * q ∧ j ≠ 6) ∨ k = 10 + 2 * q + 1) M M' ∧ MX M' (10 + 2 * q) (sNow s) ∧ ev (d + 2) m_Site_copyStep [.ref 1, .int (nI q), .ref 4] NX M = some (none, NX, M') := by
  have hg := hX.1 6 q (10 + 2 * q) (rxt_6 hq)
  obtain ⟨M', d1, d2, d3⟩ := y_copyFrom (d := d) hX.1 (moB_1 hq) moB_site (by omega) (by omega) (by omega) hX.2.1.2.1 ho.1.2.1.2.2.2.2.2.2.2.1
  refine ⟨M', d1, d2, ?_⟩
  have f2 := (moF (moB_1 hq)).2.1
  rw [e_Site_copyStep]
  simp (disch := omega) only [r_Site_copyStep_0, r_Site_copyStep_0n, r_Site_copyStep_1, r_Site_copyStep_4, r_Site_copyStep_5, r_Site_copyStep_6, r_Site_copyStep_6n, r_Site_copyStep_7, r_Site_copyStep_7n, r_Site_copyStep_8, r_Site_copyStep_8n, r_Site_copyStep_11, r_Site_copyStep_11n, r_Site_copyStep_12, r_Site_copyStep_12n, r_Site_copyStep_15, r_Site_copyStep_15n, r_Site_copyStep_16, r_Site_copyStep_16n, r_Site_copyStep_17, r_Site_copyStep_20, bnd, tl_s, tl_n, wt_nil, wt_int, wt_ref, wt_null, wt_long, Nat.reduceAdd, Nat.reduceLeDiff, if_true, if_false, decide_true, Bool.true_and, Bool.and_true, zok_n0, zok_n1, zok_bI, bI_eq0, bI_eq1, Bool.true_eq_false, Bool.false_eq_true, not_false_eq_true, not_true_eq_false, decide_false, decide_eq_false_iff_not, decide_eq_true_eq, Classical.not_not, ite_not, lit, Nat.reduceEqDiff, Nat.reduceLT, nI_add, nI_lt', nI_le', nI_eq', nI_sub', pk_mul, nI_rem', nI_div', nI_nz, remN, clampN, inb_nI, Nat.not_lt_zero, Nat.zero_le, Nat.le_zero_eq, if_true, if_false, m1_lt0, m1_eq, t_ite, f_ite, Bool.not_false, Bool.not_true, nI_and, nI_or, nI_xor, nI_shl1, nI_shr, nI_ushr, nI_not, nI_and_p2, Nat.one_mul, vrf_s, vrf_n, oF_0, oO_0, oF_1, oO_1, oA_2, oS_2, oA_3, oS_3, oF_4, oO_4, oA_5, oS_5, oA_6, oS_6, oA_7, oS_7, oA_8, oS_8, oA_9, oS_9, oF_70, oO_70, oA_71, oS_71, oA_72, oS_72, oF_73, oO_73, oA_74, oS_74, oA_75, oS_75, oA_76, oS_76, oA_77, oS_77, oA_78, oS_78, oA_139, oS_139, oF_140, oO_140, oA_141, oS_141, oA_142, oS_142, oA_143, oS_143, oA_144, oS_144, oF_145, oO_145, oF_146, oO_146, oA_147, oS_147, oF_148, oO_148, oA_149, oS_149, oA_150, oS_150, oA_151, oS_151, oF_152, oO_152, oA_153, oS_153, oF_154, oO_154, oA_155, oS_155, oA_156, oS_156, oA_157, oS_157, oA_158, oS_158, oF_159, oO_159, oA_160, oS_160, oA_161, oS_161, oA_162, oS_162, oA_163, oS_163, oF_164, oO_164, oA_165, oS_165, oA_166, oS_166, oA_167, oS_167, oA_168, oS_168, oF_169, oO_169, oA_170, oS_170, oA_171, oS_171, oA_172, oS_172, oA_173, oS_173, mO_Mom_copyFrom, hX.1 0 0 1 rfl, hX.1 0 1 70 rfl, hX.1 0 2 139 rfl, hX.1 0 3 140 rfl, hX.1 0 4 145 rfl, hX.1 0 5 146 rfl, hX.1 0 6 148 rfl, hX.1 0 7 152 rfl, hX.1 1 1 2 rfl, hX.1 1 2 3 rfl, hX.1 1 3 4 rfl, hX.1 1 4 6 rfl, hX.1 1 9 7 rfl, hX.1 1 11 8 rfl, hX.1 1 12 9 rfl, hX.1 4 6 5 rfl, hX.1 152 6 153 rfl, hX.1 140 0 141 rfl, hX.1 140 2 142 rfl, hX.1 140 3 143 rfl, hX.1 140 4 144 rfl, hX.1 146 0 147 rfl, hX.1 148 0 149 rfl, hX.1 148 2 150 rfl, hX.1 148 3 151 rfl, oB_6, Bool.or_false, hg, f2, d3]
theorem y_keepStep (hX : IX M s s' T tb tl f) (ho : IO s s' tb tl) : ∃ M', D LX M M' ∧ IX M' (kpS s) s' T tb tl f ∧ ev (d + 3) m_Site_keepStep [.ref 1] NX M = some (none, NX, M') := by
  obtain ⟨g, g1, g2, g3, g4⟩ := hX.2.1.2.2.1
  have h30 := ho.1.2.2.1
  have hq : (g + sSc s) % 30 < 30 := Nat.mod_lt _ (by decide)
  obtain ⟨X, x1, x2, x3⟩ := y_copyStep (d := d) hX ho hq
  have hrx : ∀ k j, (k = 10 + 2 * ((g + sSc s) % 30) ∧ j ≠ 6) ∨ k = 10 + 2 * ((g + sSc s) % 30) + 1 → 10 ≤ k ∧ k < 70 ∧ rxt k j = none := by
    intro k j z
    refine ⟨by omega, by omega, ?_⟩
    rcases z with ⟨rfl, z⟩ | rfl
    · unfold rxt
      rw [if_neg (by omega), if_neg (by omega), if_neg (by omega), if_pos (by omega), if_neg z]
    · unfold rxt
      rw [if_neg (by omega), if_neg (by omega), if_neg (by omega), if_neg (by omega), if_neg (by omega), if_neg (by omega), if_neg (by omega), if_neg (by omega), if_neg (by omega)]
  have k5 : gI X 1 5 = nI g := (x1.i (by omega)).trans g2
  have k6 : gI X 1 6 = nI (sSc s) := (x1.i (by omega)).trans g3
  have old : ∀ i, i < sSc s → (g + i) % 30 ≠ (g + sSc s) % 30 → MX X (1 + 9 + 2 * ((g + i) % 30)) (sSt s i) := by
    intro i hi hne
    exact (g4 i hi).D (ho.1.2.2.2.1 i hi).2.2.2.2.2.2.2.1 x1 (fun j _ => by omega) (fun j _ => by omega)
  by_cases e : sSc s = 30
  · have hn30 : 30 ≤ sSc s := by omega
    have hd : D Pk M (sI X 1 5 (nI ((g + 1) % 30))) := (x1.mono (fun k j z => Or.inr (hrx k j z))).sI (Or.inl ⟨rfl, Or.inl rfl⟩)
    have hd2 : D (fun k j => k = 1 ∧ j = 5) X (sI X 1 5 (nI ((g + 1) % 30))) := D.rfl'.sI ⟨rfl, rfl⟩
    refine ⟨_, hd.mono (fun k j z => by unfold Pk at z; unfold LX; omega), ?_, ?_⟩
    · refine hX.set ho hd (fun k j z => Or.inl ⟨by unfold Pk at z; omega, by unfold Pk at z; omega, by rcases z with ⟨rfl, rfl | rfl⟩ | z; rfl; rfl; exact z.2.2⟩) ?_ (Nat.le_refl _)
      refine ⟨sxPl (s := s) hX.2.1 ho.1 hd (fun k j z => by unfold Pk at z; omega), sxNow (s := s) hX.2.1 ho.1 hd (fun k j z => by unfold Pk at z; omega), ?_, sxTx (s := s) hX.2.1 hd (fun k j z => by unfold Pk at z; omega), sxVo (s := s) hX.2.1 hd (fun k j z => by unfold Pk at z; omega), sxSa (s := s) hX.2.1 hd (fun k j z => by unfold Pk at z; omega)⟩
      have hkp : kpS s = setSt s (30, fun i => if i = 29 then sNow s else sSt s (i + 1)) := by unfold kpS; rw [if_pos e]
      rw [hkp]
      refine ⟨(g + 1) % 30, Nat.mod_lt _ (by decide), gI_sI_eq, by rw [gI_sI_nj (by decide), k6, e]; rfl, fun i hi => ?_⟩
      have hi2 : i < 30 := hi
      show MX _ _ (if i = 29 then sNow s else sSt s (i + 1))
      by_cases e2 : i = 29
      · rw [if_pos e2, show ((g + 1) % 30 + i) % 30 = (g + sSc s) % 30 by omega]
        exact x2.D ho.1.2.1.2.2.2.2.2.2.2.1 hd2 (fun j _ => by omega) (fun j _ => by omega)
      · rw [if_neg e2, show ((g + 1) % 30 + i) % 30 = (g + (i + 1)) % 30 by omega]
        exact (old (i + 1) (by omega) (by omega)).D (ho.1.2.2.2.1 (i + 1) (by omega)).2.2.2.2.2.2.2.1 hd2 (fun j _ => by omega) (fun j _ => by omega)
    · have hrX : RX X := hX.1.D x1 (fun k j z => (hrx k j z).2.2)
      rw [e_Site_keepStep]
      simp (disch := omega) only [r_Site_keepStep_0, r_Site_keepStep_0n, r_Site_keepStep_1, r_Site_keepStep_1n, r_Site_keepStep_2, r_Site_keepStep_5, r_Site_keepStep_5n, r_Site_keepStep_6, r_Site_keepStep_9, r_Site_keepStep_10, r_Site_keepStep_12, r_Site_keepStep_13, r_Site_keepStep_13n, r_Site_keepStep_14, r_Site_keepStep_17, r_Site_keepStep_20, r_Site_keepStep_20n, r_Site_keepStep_21, r_Site_keepStep_24, r_Site_keepStep_26, r_Site_keepStep_29, r_Site_keepStep_29n, r_Site_keepStep_30, r_Site_keepStep_30i, r_Site_keepStep_31, r_Site_keepStep_34, r_Site_keepStep_35, r_Site_keepStep_36, r_Site_keepStep_39, r_Site_keepStep_42, r_Site_keepStep_42n, r_Site_keepStep_43, r_Site_keepStep_43n, r_Site_keepStep_44, r_Site_keepStep_47, r_Site_keepStep_48, r_Site_keepStep_49, r_Site_keepStep_51, r_Site_keepStep_52, r_Site_keepStep_55, bnd, tl_s, tl_n, wt_nil, wt_int, wt_ref, wt_null, wt_long, Nat.reduceAdd, Nat.reduceLeDiff, if_true, if_false, decide_true, Bool.true_and, Bool.and_true, zok_n0, zok_n1, zok_bI, bI_eq0, bI_eq1, Bool.true_eq_false, Bool.false_eq_true, not_false_eq_true, not_true_eq_false, decide_false, decide_eq_false_iff_not, decide_eq_true_eq, Classical.not_not, ite_not, lit, Nat.reduceEqDiff, Nat.reduceLT, nI_add, nI_lt', nI_le', nI_eq', nI_sub', pk_mul, nI_rem', nI_div', nI_nz, remN, clampN, inb_nI, Nat.not_lt_zero, Nat.zero_le, Nat.le_zero_eq, if_true, if_false, m1_lt0, m1_eq, t_ite, f_ite, Bool.not_false, Bool.not_true, nI_and, nI_or, nI_xor, nI_shl1, nI_shr, nI_ushr, nI_not, nI_and_p2, Nat.one_mul, vrf_s, vrf_n, oF_0, oO_0, oF_1, oO_1, oA_2, oS_2, oA_3, oS_3, oF_4, oO_4, oA_5, oS_5, oA_6, oS_6, oA_7, oS_7, oA_8, oS_8, oA_9, oS_9, oF_70, oO_70, oA_71, oS_71, oA_72, oS_72, oF_73, oO_73, oA_74, oS_74, oA_75, oS_75, oA_76, oS_76, oA_77, oS_77, oA_78, oS_78, oA_139, oS_139, oF_140, oO_140, oA_141, oS_141, oA_142, oS_142, oA_143, oS_143, oA_144, oS_144, oF_145, oO_145, oF_146, oO_146, oA_147, oS_147, oF_148, oO_148, oA_149, oS_149, oA_150, oS_150, oA_151, oS_151, oF_152, oO_152, oA_153, oS_153, oF_154, oO_154, oA_155, oS_155, oA_156, oS_156, oA_157, oS_157, oA_158, oS_158, oF_159, oO_159, oA_160, oS_160, oA_161, oS_161, oA_162, oS_162, oA_163, oS_163, oF_164, oO_164, oA_165, oS_165, oA_166, oS_166, oA_167, oS_167, oA_168, oS_168, oF_169, oO_169, oA_170, oS_170, oA_171, oS_171, oA_172, oS_172, oA_173, oS_173, mO_Site_copyStep, hX.1 0 0 1 rfl, hX.1 0 1 70 rfl, hX.1 0 2 139 rfl, hX.1 0 3 140 rfl, hX.1 0 4 145 rfl, hX.1 0 5 146 rfl, hX.1 0 6 148 rfl, hX.1 0 7 152 rfl, hX.1 1 1 2 rfl, hX.1 1 2 3 rfl, hX.1 1 3 4 rfl, hX.1 1 4 6 rfl, hX.1 1 9 7 rfl, hX.1 1 11 8 rfl, hX.1 1 12 9 rfl, hX.1 4 6 5 rfl, hX.1 152 6 153 rfl, hX.1 140 0 141 rfl, hX.1 140 2 142 rfl, hX.1 140 3 143 rfl, hX.1 140 4 144 rfl, hX.1 146 0 147 rfl, hX.1 148 0 149 rfl, hX.1 148 2 150 rfl, hX.1 148 3 151 rfl, hrX 0 0 1 rfl, hrX 0 1 70 rfl, hrX 0 2 139 rfl, hrX 0 3 140 rfl, hrX 0 4 145 rfl, hrX 0 5 146 rfl, hrX 0 6 148 rfl, hrX 0 7 152 rfl, hrX 1 1 2 rfl, hrX 1 2 3 rfl, hrX 1 3 4 rfl, hrX 1 4 6 rfl, hrX 1 9 7 rfl, hrX 1 11 8 rfl, hrX 1 12 9 rfl, hrX 4 6 5 rfl, hrX 152 6 153 rfl, hrX 140 0 141 rfl, hrX 140 2 142 rfl, hrX 140 3 143 rfl, hrX 140 4 144 rfl, hrX 146 0 147 rfl, hrX 148 0 149 rfl, hrX 148 2 150 rfl, hrX 148 3 151 rfl, g2, g3, x3, k5, k6, hn30]
  · have hn30 : ¬ 30 ≤ sSc s := by omega
    have hd : D Pk M (sI X 1 6 (nI (sSc s + 1))) := (x1.mono (fun k j z => Or.inr (hrx k j z))).sI (Or.inl ⟨rfl, Or.inr rfl⟩)
    have hd2 : D (fun k j => k = 1 ∧ j = 6) X (sI X 1 6 (nI (sSc s + 1))) := D.rfl'.sI ⟨rfl, rfl⟩
    refine ⟨_, hd.mono (fun k j z => by unfold Pk at z; unfold LX; omega), ?_, ?_⟩
    · refine hX.set ho hd (fun k j z => Or.inl ⟨by unfold Pk at z; omega, by unfold Pk at z; omega, by rcases z with ⟨rfl, rfl | rfl⟩ | z; rfl; rfl; exact z.2.2⟩) ?_ (Nat.le_refl _)
      refine ⟨sxPl (s := s) hX.2.1 ho.1 hd (fun k j z => by unfold Pk at z; omega), sxNow (s := s) hX.2.1 ho.1 hd (fun k j z => by unfold Pk at z; omega), ?_, sxTx (s := s) hX.2.1 hd (fun k j z => by unfold Pk at z; omega), sxVo (s := s) hX.2.1 hd (fun k j z => by unfold Pk at z; omega), sxSa (s := s) hX.2.1 hd (fun k j z => by unfold Pk at z; omega)⟩
      have hkp : kpS s = setSt s (sSc s + 1, fun i => if i = sSc s then sNow s else sSt s i) := by unfold kpS; rw [if_neg e]
      rw [hkp]
      refine ⟨g, g1, by rw [gI_sI_nj (by decide)]; exact k5, gI_sI_eq, fun i hi => ?_⟩
      have hi2 : i < sSc s + 1 := hi
      show MX _ _ (if i = sSc s then sNow s else sSt s i)
      by_cases e2 : i = sSc s
      · rw [if_pos e2, e2]
        exact x2.D ho.1.2.1.2.2.2.2.2.2.2.1 hd2 (fun j _ => by omega) (fun j _ => by omega)
      · rw [if_neg e2]
        exact (old i (by omega) (by omega)).D (ho.1.2.2.2.1 i (by omega)).2.2.2.2.2.2.2.1 hd2 (fun j _ => by omega) (fun j _ => by omega)
    · have hrX : RX X := hX.1.D x1 (fun k j z => (hrx k j z).2.2)
      rw [e_Site_keepStep]
      simp (disch := omega) only [r_Site_keepStep_0, r_Site_keepStep_0n, r_Site_keepStep_1, r_Site_keepStep_1n, r_Site_keepStep_2, r_Site_keepStep_5, r_Site_keepStep_5n, r_Site_keepStep_6, r_Site_keepStep_9, r_Site_keepStep_10, r_Site_keepStep_12, r_Site_keepStep_13, r_Site_keepStep_13n, r_Site_keepStep_14, r_Site_keepStep_17, r_Site_keepStep_20, r_Site_keepStep_20n, r_Site_keepStep_21, r_Site_keepStep_24, r_Site_keepStep_26, r_Site_keepStep_29, r_Site_keepStep_29n, r_Site_keepStep_30, r_Site_keepStep_30i, r_Site_keepStep_31, r_Site_keepStep_34, r_Site_keepStep_35, r_Site_keepStep_36, r_Site_keepStep_39, r_Site_keepStep_42, r_Site_keepStep_42n, r_Site_keepStep_43, r_Site_keepStep_43n, r_Site_keepStep_44, r_Site_keepStep_47, r_Site_keepStep_48, r_Site_keepStep_49, r_Site_keepStep_51, r_Site_keepStep_52, r_Site_keepStep_55, bnd, tl_s, tl_n, wt_nil, wt_int, wt_ref, wt_null, wt_long, Nat.reduceAdd, Nat.reduceLeDiff, if_true, if_false, decide_true, Bool.true_and, Bool.and_true, zok_n0, zok_n1, zok_bI, bI_eq0, bI_eq1, Bool.true_eq_false, Bool.false_eq_true, not_false_eq_true, not_true_eq_false, decide_false, decide_eq_false_iff_not, decide_eq_true_eq, Classical.not_not, ite_not, lit, Nat.reduceEqDiff, Nat.reduceLT, nI_add, nI_lt', nI_le', nI_eq', nI_sub', pk_mul, nI_rem', nI_div', nI_nz, remN, clampN, inb_nI, Nat.not_lt_zero, Nat.zero_le, Nat.le_zero_eq, if_true, if_false, m1_lt0, m1_eq, t_ite, f_ite, Bool.not_false, Bool.not_true, nI_and, nI_or, nI_xor, nI_shl1, nI_shr, nI_ushr, nI_not, nI_and_p2, Nat.one_mul, vrf_s, vrf_n, oF_0, oO_0, oF_1, oO_1, oA_2, oS_2, oA_3, oS_3, oF_4, oO_4, oA_5, oS_5, oA_6, oS_6, oA_7, oS_7, oA_8, oS_8, oA_9, oS_9, oF_70, oO_70, oA_71, oS_71, oA_72, oS_72, oF_73, oO_73, oA_74, oS_74, oA_75, oS_75, oA_76, oS_76, oA_77, oS_77, oA_78, oS_78, oA_139, oS_139, oF_140, oO_140, oA_141, oS_141, oA_142, oS_142, oA_143, oS_143, oA_144, oS_144, oF_145, oO_145, oF_146, oO_146, oA_147, oS_147, oF_148, oO_148, oA_149, oS_149, oA_150, oS_150, oA_151, oS_151, oF_152, oO_152, oA_153, oS_153, oF_154, oO_154, oA_155, oS_155, oA_156, oS_156, oA_157, oS_157, oA_158, oS_158, oF_159, oO_159, oA_160, oS_160, oA_161, oS_161, oA_162, oS_162, oA_163, oS_163, oF_164, oO_164, oA_165, oS_165, oA_166, oS_166, oA_167, oS_167, oA_168, oS_168, oF_169, oO_169, oA_170, oS_170, oA_171, oS_171, oA_172, oS_172, oA_173, oS_173, mO_Site_copyStep, hX.1 0 0 1 rfl, hX.1 0 1 70 rfl, hX.1 0 2 139 rfl, hX.1 0 3 140 rfl, hX.1 0 4 145 rfl, hX.1 0 5 146 rfl, hX.1 0 6 148 rfl, hX.1 0 7 152 rfl, hX.1 1 1 2 rfl, hX.1 1 2 3 rfl, hX.1 1 3 4 rfl, hX.1 1 4 6 rfl, hX.1 1 9 7 rfl, hX.1 1 11 8 rfl, hX.1 1 12 9 rfl, hX.1 4 6 5 rfl, hX.1 152 6 153 rfl, hX.1 140 0 141 rfl, hX.1 140 2 142 rfl, hX.1 140 3 143 rfl, hX.1 140 4 144 rfl, hX.1 146 0 147 rfl, hX.1 148 0 149 rfl, hX.1 148 2 150 rfl, hX.1 148 3 151 rfl, hrX 0 0 1 rfl, hrX 0 1 70 rfl, hrX 0 2 139 rfl, hrX 0 3 140 rfl, hrX 0 4 145 rfl, hrX 0 5 146 rfl, hrX 0 6 148 rfl, hrX 0 7 152 rfl, hrX 1 1 2 rfl, hrX 1 2 3 rfl, hrX 1 3 4 rfl, hrX 1 4 6 rfl, hrX 1 9 7 rfl, hrX 1 11 8 rfl, hrX 1 12 9 rfl, hrX 4 6 5 rfl, hrX 152 6 153 rfl, hrX 140 0 141 rfl, hrX 140 2 142 rfl, hrX 140 3 143 rfl, hrX 140 4 144 rfl, hrX 146 0 147 rfl, hrX 148 0 149 rfl, hrX 148 2 150 rfl, hrX 148 3 151 rfl, g2, g3, x3, k5, k6, hn30]
theorem mm_move {X : Mem} {c b bb b' bb' : Nat} {m : Mo} (h : MM M c b bb m) (hn : mCn m ≤ 30) (h1 : ∀ j, j < 20 → gI X c (b' + j) = gI M c (b + j)) (h2 : ∀ j, j < 30 → gI X c (bb' + j) = gI M c (bb + j)) : MM X c b' bb' m := by
  obtain ⟨a0, a1, a2, a3, a4, a5, a6⟩ := h
  refine ⟨(h1 0 (by decide)).trans a0, (h1 1 (by decide)).trans a1, (h1 2 (by decide)).trans a2, (h1 3 (by decide)).trans a3, fun p hp => ?_, fun p hp => ?_, fun k hk => (h2 k (by omega)).trans (a6 k hk)⟩
  · have := h1 (4 + p) (by omega)
    rw [← Nat.add_assoc, ← Nat.add_assoc] at this
    exact this.trans (a4 p hp)
  · have := h1 (12 + p) (by omega)
    rw [← Nat.add_assoc, ← Nat.add_assoc] at this
    exact this.trans (a5 p hp)
def Pst (k j : Nat) : Prop := k = 175 ∧ (j = 3 ∨ (65 ≤ j ∧ j < 1565))
/-- the last rows of a keep: now is laid behind sc steps -/
theorem x_keepEnd {X : Mem} {sc : Nat} {st : Nat → Mo} (hI : IM M s s' T tb tl f) (ho : IO s s' tb tl) (hsc : sc ≤ 29) (hd : D Pst M X) (h3 : gI X 175 3 = nI sc) (hst : ∀ i, i < sc → MM X 175 (65 + 50 * i) (85 + 50 * i) (st i)) (hok : ∀ i, i < sc → OkM (sN s) (st i)) {z1 z2 : Option Value} : ∃ M', D Pst M M' ∧ IM M' (setSt s (sc + 1, fun i => if i = sc then sNow s else st i)) s' T tb tl f ∧ run (ev d) m_M_keep 54 [some (.ref 174), z1, z2] [] NX X = some (none, NX, M') := by
  have hf : gR X 174 0 = some 175 := (hd.r (by unfold Pst; omega)).trans hI.1.a
  obtain ⟨Y, ⟨y1, y2⟩, y3⟩ := lpE (R := fun k (Y : Mem) => run (ev d) m_M_keep 69 [some (.ref 174), some (.int (nI (65 + 50 * sc))), some (.int (nI k))] [] NX Y) (I := fun k Y => D (fun a b => a = 175 ∧ 65 + 50 * sc ≤ b ∧ b < 65 + 50 * sc + 20) X Y ∧ ∀ j, j < k → gI Y 175 (65 + 50 * sc + j) = gI M 175 (6 + j)) (n := 20) (by
    intro k Y hk ⟨y1, y2⟩
    have hfY := (y1.r (k := 174) (j := 0) (by omega)).trans hf
    have hni : ¬ 20 ≤ k := by omega
    have hrd : gI Y 175 (6 + k) = gI M 175 (6 + k) := (y1.i (by omega)).trans (hd.i (by unfold Pst; omega))
    refine ⟨sI Y 175 (65 + 50 * sc + k) (gI M 175 (6 + k)), ⟨y1.sI ⟨rfl, by omega, by omega⟩, fun j hj => ?_⟩, ?_⟩
    · by_cases e : j = k
      · rw [e, gI_sI_eq]
      · rw [gI_sI_nj (by omega)]; exact y2 j (by omega)
    · try dsimp only
      rw [r_M_keep_69]
      simp (disch := omega) only [r_M_keep_70, r_M_keep_72, r_M_keep_75, r_M_keep_75n, r_M_keep_76, r_M_keep_79, r_M_keep_80, r_M_keep_81, r_M_keep_82, r_M_keep_82n, r_M_keep_83, r_M_keep_86, r_M_keep_88, r_M_keep_89, r_M_keep_90, r_M_keep_91, r_M_keep_92, r_M_keep_95, bnd, tl_s, tl_n, wt_nil, wt_int, wt_ref, wt_null, wt_long, Nat.reduceAdd, Nat.reduceLeDiff, if_true, if_false, decide_true, Bool.true_and, Bool.and_true, zok_n0, zok_n1, zok_bI, bI_eq0, bI_eq1, Bool.true_eq_false, Bool.false_eq_true, not_false_eq_true, not_true_eq_false, decide_false, decide_eq_false_iff_not, decide_eq_true_eq, Classical.not_not, ite_not, lit, Nat.reduceEqDiff, Nat.reduceLT, nI_add, nI_lt', nI_le', nI_eq', nI_sub', pk_mul, nI_rem', nI_div', nI_nz, remN, clampN, inb_nI, Nat.not_lt_zero, Nat.zero_le, Nat.le_zero_eq, if_true, if_false, m1_lt0, m1_eq, t_ite, f_ite, Bool.not_false, Bool.not_true, nI_and, nI_or, nI_xor, nI_shl1, nI_shr, nI_ushr, nI_not, nI_and_p2, Nat.one_mul, vrf_s, vrf_n, oF_174, oO_174, oA_175, oS_175, oA_176, oS_176, oA_177, oS_177, oA_178, oS_178, oA_179, oS_179, oA_180, oS_180, oA_181, oS_181, oA_182, oS_182, oA_183, oS_183, oA_184, oS_184, oA_185, oS_185, oA_186, oS_186, oA_187, oS_187, oA_188, oS_188, hfY, hni, hrd]) 20 0 X (by omega) ⟨D.rfl', fun j hj => by omega⟩
  have hfY := (y1.r (k := 174) (j := 0) (by omega)).trans hf
  obtain ⟨Z, ⟨w1, w2⟩, w3⟩ := lpE (R := fun k (Z : Mem) => run (ev d) m_M_keep 100 [some (.ref 174), some (.int (nI (65 + 50 * sc))), some (.int (nI k))] [] NX Z) (I := fun k Z => D (fun a b => a = 175 ∧ 85 + 50 * sc ≤ b ∧ b < 85 + 50 * sc + 30) Y Z ∧ ∀ j, j < k → gI Z 175 (85 + 50 * sc + j) = gI M 175 (1565 + j)) (n := 30) (by
    intro k Z hk ⟨w1, w2⟩
    have hfZ := (w1.r (k := 174) (j := 0) (by omega)).trans hfY
    have hni : ¬ 30 ≤ k := by omega
    have hrd : gI Z 175 (1565 + k) = gI M 175 (1565 + k) := (w1.i (by omega)).trans ((y1.i (by omega)).trans (hd.i (by unfold Pst; omega)))
    refine ⟨sI Z 175 (65 + 50 * sc + 20 + k) (gI M 175 (1565 + k)), ⟨w1.sI ⟨rfl, by omega, by omega⟩, fun j hj => ?_⟩, ?_⟩
    · by_cases e : j = k
      · rw [e, show 85 + 50 * sc + k = 65 + 50 * sc + 20 + k by omega, gI_sI_eq]
      · rw [gI_sI_nj (by omega)]; exact w2 j (by omega)
    · try dsimp only
      rw [r_M_keep_100]
      simp (disch := omega) only [r_M_keep_101, r_M_keep_103, r_M_keep_106, r_M_keep_106n, r_M_keep_107, r_M_keep_110, r_M_keep_111, r_M_keep_113, r_M_keep_114, r_M_keep_115, r_M_keep_116, r_M_keep_116n, r_M_keep_117, r_M_keep_120, r_M_keep_123, r_M_keep_124, r_M_keep_125, r_M_keep_126, r_M_keep_127, r_M_keep_130, bnd, tl_s, tl_n, wt_nil, wt_int, wt_ref, wt_null, wt_long, Nat.reduceAdd, Nat.reduceLeDiff, if_true, if_false, decide_true, Bool.true_and, Bool.and_true, zok_n0, zok_n1, zok_bI, bI_eq0, bI_eq1, Bool.true_eq_false, Bool.false_eq_true, not_false_eq_true, not_true_eq_false, decide_false, decide_eq_false_iff_not, decide_eq_true_eq, Classical.not_not, ite_not, lit, Nat.reduceEqDiff, Nat.reduceLT, nI_add, nI_lt', nI_le', nI_eq', nI_sub', pk_mul, nI_rem', nI_div', nI_nz, remN, clampN, inb_nI, Nat.not_lt_zero, Nat.zero_le, Nat.le_zero_eq, if_true, if_false, m1_lt0, m1_eq, t_ite, f_ite, Bool.not_false, Bool.not_true, nI_and, nI_or, nI_xor, nI_shl1, nI_shr, nI_ushr, nI_not, nI_and_p2, Nat.one_mul, vrf_s, vrf_n, oF_174, oO_174, oA_175, oS_175, oA_176, oS_176, oA_177, oS_177, oA_178, oS_178, oA_179, oS_179, oA_180, oS_180, oA_181, oS_181, oA_182, oS_182, oA_183, oS_183, oA_184, oS_184, oA_185, oS_185, oA_186, oS_186, oA_187, oS_187, oA_188, oS_188, hfZ, hni, hrd]) 30 0 Y (by omega) ⟨D.rfl', fun j hj => by omega⟩
  have hfZ := (w1.r (k := 174) (j := 0) (by omega)).trans hfY
  have h3Z : gI Z 175 3 = nI sc := (w1.i (by omega)).trans ((y1.i (by omega)).trans h3)
  have hdZ : D Pst M (sI Z 175 3 (nI (sc + 1))) := ((hd.trans (y1.mono (fun a b z => by unfold Pst; omega))).trans (w1.mono (fun a b z => by unfold Pst; omega))).sI ⟨rfl, Or.inl rfl⟩
  refine ⟨_, hdZ, ?_, ?_⟩
  · refine hI.set ho hdZ (fun k j z => Or.inl z.1) ?_ (Nat.le_refl _)
    refine ⟨smPl (s := s) hI.2.1 ho.1 hdZ (fun k j z => by unfold Pst at z; omega), smNow (s := s) hI.2.1 ho.1 hdZ (fun k j z => by unfold Pst at z; omega), ⟨gI_sI_eq, fun i hi => ?_⟩, smTx (s := s) hI.2.1 hdZ (fun k j z => by unfold Pst at z; omega), smVo (s := s) hI.2.1 ho.1 hdZ (fun k j z => by unfold Pst at z; omega), smSa (s := s) hI.2.1 ho.1 hdZ (fun k j z => by unfold Pst at z; omega)⟩
    have hi2 : i < sc + 1 := hi
    show MM _ 175 (65 + 50 * i) (85 + 50 * i) (if i = sc then sNow s else st i)
    by_cases e : i = sc
    · rw [if_pos e, e]
      refine mm_move hI.2.1.2.1 ho.1.2.1.2.2.2.2.2.2.2.1 (fun j hj => ?_) (fun j hj => ?_)
      · rw [gI_sI_nj (by omega)]
        exact (w1.i (by omega)).trans (y2 j hj)
      · rw [gI_sI_nj (by omega)]
        exact w2 j hj
    · rw [if_neg e]
      refine mm_move (hst i (by omega)) (hok i (by omega)).2.2.2.2.2.2.2.1 (fun j hj => ?_) (fun j hj => ?_)
      · rw [gI_sI_nj (by omega)]
        exact (w1.i (by omega)).trans (y1.i (by omega))
      · rw [gI_sI_nj (by omega)]
        exact (w1.i (by omega)).trans (y1.i (by omega))
  · simp (disch := omega) only [r_M_keep_54, r_M_keep_56, r_M_keep_58, r_M_keep_58n, r_M_keep_59, r_M_keep_62, r_M_keep_63, r_M_keep_64, r_M_keep_65, r_M_keep_66, r_M_keep_67, r_M_keep_68, bnd, tl_s, tl_n, wt_nil, wt_int, wt_ref, wt_null, wt_long, Nat.reduceAdd, Nat.reduceLeDiff, if_true, if_false, decide_true, Bool.true_and, Bool.and_true, zok_n0, zok_n1, zok_bI, bI_eq0, bI_eq1, Bool.true_eq_false, Bool.false_eq_true, not_false_eq_true, not_true_eq_false, decide_false, decide_eq_false_iff_not, decide_eq_true_eq, Classical.not_not, ite_not, lit, Nat.reduceEqDiff, Nat.reduceLT, nI_add, nI_lt', nI_le', nI_eq', nI_sub', pk_mul, nI_rem', nI_div', nI_nz, remN, clampN, inb_nI, Nat.not_lt_zero, Nat.zero_le, Nat.le_zero_eq, if_true, if_false, m1_lt0, m1_eq, t_ite, f_ite, Bool.not_false, Bool.not_true, nI_and, nI_or, nI_xor, nI_shl1, nI_shr, nI_ushr, nI_not, nI_and_p2, Nat.one_mul, vrf_s, vrf_n, oF_174, oO_174, oA_175, oS_175, oA_176, oS_176, oA_177, oS_177, oA_178, oS_178, oA_179, oS_179, oA_180, oS_180, oA_181, oS_181, oA_182, oS_182, oA_183, oS_183, oA_184, oS_184, oA_185, oS_185, oA_186, oS_186, oA_187, oS_187, oA_188, oS_188, hf, h3]
    refine Eq.trans y3 ?_
    try dsimp only
    rw [r_M_keep_69]
    simp (disch := omega) only [r_M_keep_70, r_M_keep_72, r_M_keep_98, r_M_keep_99, bnd, tl_s, tl_n, wt_nil, wt_int, wt_ref, wt_null, wt_long, Nat.reduceAdd, Nat.reduceLeDiff, if_true, if_false, decide_true, Bool.true_and, Bool.and_true, zok_n0, zok_n1, zok_bI, bI_eq0, bI_eq1, Bool.true_eq_false, Bool.false_eq_true, not_false_eq_true, not_true_eq_false, decide_false, decide_eq_false_iff_not, decide_eq_true_eq, Classical.not_not, ite_not, lit, Nat.reduceEqDiff, Nat.reduceLT, nI_add, nI_lt', nI_le', nI_eq', nI_sub', pk_mul, nI_rem', nI_div', nI_nz, remN, clampN, inb_nI, Nat.not_lt_zero, Nat.zero_le, Nat.le_zero_eq, if_true, if_false, m1_lt0, m1_eq, t_ite, f_ite, Bool.not_false, Bool.not_true, nI_and, nI_or, nI_xor, nI_shl1, nI_shr, nI_ushr, nI_not, nI_and_p2, Nat.one_mul, vrf_s, vrf_n, oF_174, oO_174, oA_175, oS_175, oA_176, oS_176, oA_177, oS_177, oA_178, oS_178, oA_179, oS_179, oA_180, oS_180, oA_181, oS_181, oA_182, oS_182, oA_183, oS_183, oA_184, oS_184, oA_185, oS_185, oA_186, oS_186, oA_187, oS_187, oA_188, oS_188, Nat.le_refl]
    refine Eq.trans w3 ?_
    try dsimp only
    rw [r_M_keep_100]
    simp (disch := omega) only [r_M_keep_101, r_M_keep_103, r_M_keep_133, r_M_keep_133n, r_M_keep_134, r_M_keep_137, r_M_keep_138, r_M_keep_139, r_M_keep_140, r_M_keep_141, r_M_keep_142, r_M_keep_143, bnd, tl_s, tl_n, wt_nil, wt_int, wt_ref, wt_null, wt_long, Nat.reduceAdd, Nat.reduceLeDiff, if_true, if_false, decide_true, Bool.true_and, Bool.and_true, zok_n0, zok_n1, zok_bI, bI_eq0, bI_eq1, Bool.true_eq_false, Bool.false_eq_true, not_false_eq_true, not_true_eq_false, decide_false, decide_eq_false_iff_not, decide_eq_true_eq, Classical.not_not, ite_not, lit, Nat.reduceEqDiff, Nat.reduceLT, nI_add, nI_lt', nI_le', nI_eq', nI_sub', pk_mul, nI_rem', nI_div', nI_nz, remN, clampN, inb_nI, Nat.not_lt_zero, Nat.zero_le, Nat.le_zero_eq, if_true, if_false, m1_lt0, m1_eq, t_ite, f_ite, Bool.not_false, Bool.not_true, nI_and, nI_or, nI_xor, nI_shl1, nI_shr, nI_ushr, nI_not, nI_and_p2, Nat.one_mul, vrf_s, vrf_n, oF_174, oO_174, oA_175, oS_175, oA_176, oS_176, oA_177, oS_177, oA_178, oS_178, oA_179, oS_179, oA_180, oS_180, oA_181, oS_181, oA_182, oS_182, oA_183, oS_183, oA_184, oS_184, oA_185, oS_185, oA_186, oS_186, oA_187, oS_187, oA_188, oS_188, Nat.le_refl, hfZ, h3Z]
theorem x_keep (hI : IM M s s' T tb tl f) (ho : IO s s' tb tl) : ∃ M', D Pst M M' ∧ IM M' (kpS s) s' T tb tl f ∧ ev (d + 1) m_M_keep [.ref 174] NX M = some (none, NX, M') := by
  have h30 := ho.1.2.2.1
  have h3 := hI.2.1.2.2.1.1
  by_cases e : sSc s = 30
  · obtain ⟨X, ⟨x1, x2, x3⟩, x4⟩ := lpE (R := fun k (X : Mem) => run (ev d) m_M_keep 13 [some (.ref 174), some (.int (nI k)), none] [] NX X) (I := fun k X => D (fun a b => a = 175 ∧ 65 ≤ b ∧ b < 65 + 1450) M X ∧ (∀ j, j < k → gI X 175 (65 + j) = gI M 175 (115 + j)) ∧ ∀ j, k ≤ j → gI X 175 (65 + j) = gI M 175 (65 + j)) (n := 1450) (by
      intro k X hk ⟨x1, x2, x3⟩
      have hf := (x1.r (k := 174) (j := 0) (by omega)).trans hI.1.a
      have hni : ¬ 1450 ≤ k := by omega
      have hrd : gI X 175 (115 + k) = gI M 175 (115 + k) := by
        have := x3 (k + 50) (by omega)
        rw [show 65 + (k + 50) = 115 + k by omega] at this
        exact this
      refine ⟨sI X 175 (65 + k) (gI M 175 (115 + k)), ⟨x1.sI ⟨rfl, by omega, by omega⟩, fun j hj => ?_, fun j hj => ?_⟩, ?_⟩
      · by_cases e : j = k
        · rw [e, gI_sI_eq]
        · rw [gI_sI_nj (by omega)]; exact x2 j (by omega)
      · rw [gI_sI_nj (by omega)]; exact x3 j (by omega)
      · try dsimp only
        rw [r_M_keep_13]
        simp (disch := omega) only [r_M_keep_14, r_M_keep_17, r_M_keep_20, r_M_keep_20n, r_M_keep_21, r_M_keep_24, r_M_keep_26, r_M_keep_27, r_M_keep_28, r_M_keep_28n, r_M_keep_29, r_M_keep_32, r_M_keep_34, r_M_keep_35, r_M_keep_36, r_M_keep_37, r_M_keep_38, r_M_keep_41, bnd, tl_s, tl_n, wt_nil, wt_int, wt_ref, wt_null, wt_long, Nat.reduceAdd, Nat.reduceLeDiff, if_true, if_false, decide_true, Bool.true_and, Bool.and_true, zok_n0, zok_n1, zok_bI, bI_eq0, bI_eq1, Bool.true_eq_false, Bool.false_eq_true, not_false_eq_true, not_true_eq_false, decide_false, decide_eq_false_iff_not, decide_eq_true_eq, Classical.not_not, ite_not, lit, Nat.reduceEqDiff, Nat.reduceLT, nI_add, nI_lt', nI_le', nI_eq', nI_sub', pk_mul, nI_rem', nI_div', nI_nz, remN, clampN, inb_nI, Nat.not_lt_zero, Nat.zero_le, Nat.le_zero_eq, if_true, if_false, m1_lt0, m1_eq, t_ite, f_ite, Bool.not_false, Bool.not_true, nI_and, nI_or, nI_xor, nI_shl1, nI_shr, nI_ushr, nI_not, nI_and_p2, Nat.one_mul, vrf_s, vrf_n, oF_174, oO_174, oA_175, oS_175, oA_176, oS_176, oA_177, oS_177, oA_178, oS_178, oA_179, oS_179, oA_180, oS_180, oA_181, oS_181, oA_182, oS_182, oA_183, oS_183, oA_184, oS_184, oA_185, oS_185, oA_186, oS_186, oA_187, oS_187, oA_188, oS_188, hf, hni, hrd]) 1450 0 M (by omega) ⟨D.rfl', fun j hj => by omega, fun j _ => rfl⟩
    have hf := (x1.r (k := 174) (j := 0) (by omega)).trans hI.1.a
    have h3X : gI X 175 3 = nI 30 := ((x1.i (by omega)).trans h3).trans (by rw [e])
    have hd0 : D Pst M (sI X 175 3 (nI 29)) := (x1.mono (fun a b z => by unfold Pst; omega)).sI ⟨rfl, Or.inl rfl⟩
    obtain ⟨M', m1, m2, m3⟩ := x_keepEnd (d := d) (st := fun i => sSt s (i + 1)) (sc := 29) (z1 := some (.int (nI 1450))) (z2 := none) hI ho (Nat.le_refl _) hd0 gI_sI_eq (fun i hi => mm_move (hI.2.1.2.2.1.2 (i + 1) (by omega)) (ho.1.2.2.2.1 (i + 1) (by omega)).2.2.2.2.2.2.2.1 (fun j hj => by
        rw [gI_sI_nj (by omega), show 65 + 50 * i + j = 65 + (50 * i + j) by omega, x2 (50 * i + j) (by omega), show 115 + (50 * i + j) = 65 + 50 * (i + 1) + j by omega]) (fun j hj => by
        rw [gI_sI_nj (by omega), show 85 + 50 * i + j = 65 + (20 + 50 * i + j) by omega, x2 (20 + 50 * i + j) (by omega), show 115 + (20 + 50 * i + j) = 85 + 50 * (i + 1) + j by omega])) (fun i hi => ho.1.2.2.2.1 (i + 1) (by omega))
    refine ⟨M', m1, ?_, ?_⟩
    · have hkp : kpS s = setSt s (29 + 1, fun i => if i = 29 then sNow s else sSt s (i + 1)) := by unfold kpS; rw [if_pos e]
      rw [hkp]; exact m2
    · have h3' : gI M 175 3 = nI 30 := by rw [h3, e]
      rw [e_M_keep]
      simp (disch := omega) only [r_M_keep_0, r_M_keep_0n, r_M_keep_1, r_M_keep_4, r_M_keep_5, r_M_keep_6, r_M_keep_8, r_M_keep_11, r_M_keep_12, bnd, tl_s, tl_n, wt_nil, wt_int, wt_ref, wt_null, wt_long, Nat.reduceAdd, Nat.reduceLeDiff, if_true, if_false, decide_true, Bool.true_and, Bool.and_true, zok_n0, zok_n1, zok_bI, bI_eq0, bI_eq1, Bool.true_eq_false, Bool.false_eq_true, not_false_eq_true, not_true_eq_false, decide_false, decide_eq_false_iff_not, decide_eq_true_eq, Classical.not_not, ite_not, lit, Nat.reduceEqDiff, Nat.reduceLT, nI_add, nI_lt', nI_le', nI_eq', nI_sub', pk_mul, nI_rem', nI_div', nI_nz, remN, clampN, inb_nI, Nat.not_lt_zero, Nat.zero_le, Nat.le_zero_eq, if_true, if_false, m1_lt0, m1_eq, t_ite, f_ite, Bool.not_false, Bool.not_true, nI_and, nI_or, nI_xor, nI_shl1, nI_shr, nI_ushr, nI_not, nI_and_p2, Nat.one_mul, vrf_s, vrf_n, oF_174, oO_174, oA_175, oS_175, oA_176, oS_176, oA_177, oS_177, oA_178, oS_178, oA_179, oS_179, oA_180, oS_180, oA_181, oS_181, oA_182, oS_182, oA_183, oS_183, oA_184, oS_184, oA_185, oS_185, oA_186, oS_186, oA_187, oS_187, oA_188, oS_188, hI.1.a, h3']
      refine Eq.trans x4 ?_
      try dsimp only
      rw [r_M_keep_13]
      simp (disch := omega) only [r_M_keep_14, r_M_keep_17, r_M_keep_44, r_M_keep_44n, r_M_keep_45, r_M_keep_48, r_M_keep_49, r_M_keep_50, r_M_keep_51, r_M_keep_52, r_M_keep_53, bnd, tl_s, tl_n, wt_nil, wt_int, wt_ref, wt_null, wt_long, Nat.reduceAdd, Nat.reduceLeDiff, if_true, if_false, decide_true, Bool.true_and, Bool.and_true, zok_n0, zok_n1, zok_bI, bI_eq0, bI_eq1, Bool.true_eq_false, Bool.false_eq_true, not_false_eq_true, not_true_eq_false, decide_false, decide_eq_false_iff_not, decide_eq_true_eq, Classical.not_not, ite_not, lit, Nat.reduceEqDiff, Nat.reduceLT, nI_add, nI_lt', nI_le', nI_eq', nI_sub', pk_mul, nI_rem', nI_div', nI_nz, remN, clampN, inb_nI, Nat.not_lt_zero, Nat.zero_le, Nat.le_zero_eq, if_true, if_false, m1_lt0, m1_eq, t_ite, f_ite, Bool.not_false, Bool.not_true, nI_and, nI_or, nI_xor, nI_shl1, nI_shr, nI_ushr, nI_not, nI_and_p2, Nat.one_mul, vrf_s, vrf_n, oF_174, oO_174, oA_175, oS_175, oA_176, oS_176, oA_177, oS_177, oA_178, oS_178, oA_179, oS_179, oA_180, oS_180, oA_181, oS_181, oA_182, oS_182, oA_183, oS_183, oA_184, oS_184, oA_185, oS_185, oA_186, oS_186, oA_187, oS_187, oA_188, oS_188, Nat.le_refl, hf, h3X]
      exact m3
  · obtain ⟨M', m1, m2, m3⟩ := x_keepEnd (d := d) (st := sSt s) (sc := sSc s) (z1 := none) (z2 := none) hI ho (by omega) D.rfl' h3 hI.2.1.2.2.1.2 ho.1.2.2.2.1
    refine ⟨M', m1, ?_, ?_⟩
    · have hkp : kpS s = setSt s (sSc s + 1, fun i => if i = sSc s then sNow s else sSt s i) := by unfold kpS; rw [if_neg e]
      rw [hkp]; exact m2
    · have e' : ¬ sSc s = 30 := e
      rw [e_M_keep]
      simp (disch := omega) only [r_M_keep_0, r_M_keep_0n, r_M_keep_1, r_M_keep_4, r_M_keep_5, r_M_keep_6, r_M_keep_8, bnd, tl_s, tl_n, wt_nil, wt_int, wt_ref, wt_null, wt_long, Nat.reduceAdd, Nat.reduceLeDiff, if_true, if_false, decide_true, Bool.true_and, Bool.and_true, zok_n0, zok_n1, zok_bI, bI_eq0, bI_eq1, Bool.true_eq_false, Bool.false_eq_true, not_false_eq_true, not_true_eq_false, decide_false, decide_eq_false_iff_not, decide_eq_true_eq, Classical.not_not, ite_not, lit, Nat.reduceEqDiff, Nat.reduceLT, nI_add, nI_lt', nI_le', nI_eq', nI_sub', pk_mul, nI_rem', nI_div', nI_nz, remN, clampN, inb_nI, Nat.not_lt_zero, Nat.zero_le, Nat.le_zero_eq, if_true, if_false, m1_lt0, m1_eq, t_ite, f_ite, Bool.not_false, Bool.not_true, nI_and, nI_or, nI_xor, nI_shl1, nI_shr, nI_ushr, nI_not, nI_and_p2, Nat.one_mul, vrf_s, vrf_n, oF_174, oO_174, oA_175, oS_175, oA_176, oS_176, oA_177, oS_177, oA_178, oS_178, oA_179, oS_179, oA_180, oS_180, oA_181, oS_181, oA_182, oS_182, oA_183, oS_183, oA_184, oS_184, oA_185, oS_185, oA_186, oS_186, oA_187, oS_187, oA_188, oS_188, hI.1.a, h3, e']
      exact m3
end ST
