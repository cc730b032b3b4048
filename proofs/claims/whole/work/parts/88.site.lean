/-! CALLS: image, back: a site copied -/
/-- a site's cells, its references aside -/
def Pc (b k j : Nat) : Prop := b ≤ k ∧ k ≤ b + 68 ∧ rxt k j = none
theorem oB_75 {M : Mem} {i : Int32} : okA M NX 75 105 i = false := by unfold okA; rw [show (live NX 75 && (sh 75).1 == 105) = false by decide +kernel, Bool.false_and]
section SC
variable {d : Nat} {M M' : Mem} {s s' : St} {T : Nat → Tx} {tb : Nat → Nat} {tl : Nat} {f : Fa} {m : Mo}
theorem rxt_75 {j : Nat} (h : j < 30) : rxt 75 j = some (79 + 2 * j) := by simp [rxt, h]
theorem y_scIR {q : Nat} (hq : q < 30) : ∀ k j, (k = 79 + 2 * q ∧ j ≠ 6) ∨ k = 79 + 2 * q + 1 → Pc 70 k j := by
  intro k j z
  refine ⟨by omega, by omega, ?_⟩
  rcases z with ⟨rfl, z⟩ | rfl
  · unfold rxt
    rw [if_neg (by omega), if_neg (by omega), if_neg (by omega), if_pos (by omega), if_neg z]
  · unfold rxt
    rw [if_neg (by omega), if_neg (by omega), if_neg (by omega), if_neg (by omega), if_neg (by omega), if_neg (by omega), if_neg (by omega), if_neg (by omega), if_neg (by omega)]
theorem y_scIS {q : Nat} (hr : RX M) (hq : q < 30) : ∃ M', D (fun k j => (k = 79 + 2 * q ∧ j ≠ 6) ∨ k = 79 + 2 * q + 1) M M' ∧ (∀ m, MX M (10 + 2 * q) m → mCn m ≤ 30 → MX M' (79 + 2 * q) m) ∧ ev (d + 2) m_Site_copyStep [.ref 70, .int (nI q), .ref (10 + 2 * q)] NX M = some (none, NX, M') := by
  have hg := hr 75 q (79 + 2 * q) (rxt_75 hq)
  obtain ⟨M', d1, d2, d3⟩ := y_copyRaw (d := d) hr (moB_2 hq) (moB_1 hq) (by omega) (by omega) (by omega)
  refine ⟨M', d1, d2, ?_⟩
  have f2 := (moF (moB_2 hq)).2.1
  rw [e_Site_copyStep]
  simp (disch := omega) only [r_Site_copyStep_0, r_Site_copyStep_0n, r_Site_copyStep_1, r_Site_copyStep_4, r_Site_copyStep_5, r_Site_copyStep_6, r_Site_copyStep_6n, r_Site_copyStep_7, r_Site_copyStep_7n, r_Site_copyStep_8, r_Site_copyStep_8n, r_Site_copyStep_11, r_Site_copyStep_11n, r_Site_copyStep_12, r_Site_copyStep_12n, r_Site_copyStep_15, r_Site_copyStep_15n, r_Site_copyStep_16, r_Site_copyStep_16n, r_Site_copyStep_17, r_Site_copyStep_20, bnd, tl_s, tl_n, wt_nil, wt_int, wt_ref, wt_null, wt_long, Nat.reduceAdd, Nat.reduceLeDiff, if_true, if_false, decide_true, Bool.true_and, Bool.and_true, zok_n0, zok_n1, zok_bI, bI_eq0, bI_eq1, Bool.true_eq_false, Bool.false_eq_true, not_false_eq_true, not_true_eq_false, decide_false, decide_eq_false_iff_not, decide_eq_true_eq, Classical.not_not, ite_not, lit, Nat.reduceEqDiff, Nat.reduceLT, nI_add, nI_lt', nI_le', nI_eq', nI_sub', pk_mul, nI_rem', nI_div', nI_nz, remN, clampN, inb_nI, Nat.not_lt_zero, Nat.zero_le, Nat.le_zero_eq, if_true, if_false, m1_lt0, m1_eq, t_ite, f_ite, Bool.not_false, Bool.not_true, nI_and, nI_or, nI_xor, nI_shl1, nI_shr, nI_ushr, nI_not, nI_and_p2, Nat.one_mul, vrf_s, vrf_n, oF_0, oO_0, oF_1, oO_1, oA_2, oS_2, oA_3, oS_3, oF_4, oO_4, oA_5, oS_5, oA_6, oS_6, oA_7, oS_7, oA_8, oS_8, oA_9, oS_9, oF_70, oO_70, oA_71, oS_71, oA_72, oS_72, oF_73, oO_73, oA_74, oS_74, oA_75, oS_75, oA_76, oS_76, oA_77, oS_77, oA_78, oS_78, oA_139, oS_139, oF_140, oO_140, oA_141, oS_141, oA_142, oS_142, oA_143, oS_143, oA_144, oS_144, oF_145, oO_145, oF_146, oO_146, oA_147, oS_147, oF_148, oO_148, oA_149, oS_149, oA_150, oS_150, oA_151, oS_151, oF_152, oO_152, oA_153, oS_153, oF_154, oO_154, oA_155, oS_155, oA_156, oS_156, oA_157, oS_157, oA_158, oS_158, oF_159, oO_159, oA_160, oS_160, oA_161, oS_161, oA_162, oS_162, oA_163, oS_163, oF_164, oO_164, oA_165, oS_165, oA_166, oS_166, oA_167, oS_167, oA_168, oS_168, oF_169, oO_169, oA_170, oS_170, oA_171, oS_171, oA_172, oS_172, oA_173, oS_173, mO_Mom_copyFrom, hr 0 0 1 rfl, hr 0 1 70 rfl, hr 0 2 139 rfl, hr 0 3 140 rfl, hr 0 4 145 rfl, hr 0 5 146 rfl, hr 0 6 148 rfl, hr 0 7 152 rfl, hr 1 1 2 rfl, hr 1 2 3 rfl, hr 1 3 4 rfl, hr 1 4 6 rfl, hr 1 9 7 rfl, hr 1 11 8 rfl, hr 1 12 9 rfl, hr 4 6 5 rfl, hr 152 6 153 rfl, hr 140 0 141 rfl, hr 140 2 142 rfl, hr 140 3 143 rfl, hr 140 4 144 rfl, hr 146 0 147 rfl, hr 148 0 149 rfl, hr 148 2 150 rfl, hr 148 3 151 rfl, hr 70 1 71 rfl, hr 70 2 72 rfl, hr 70 3 73 rfl, hr 70 4 75 rfl, hr 70 9 76 rfl, hr 70 11 77 rfl, hr 70 12 78 rfl, oB_75, Bool.or_false, hg, f2, d3]
theorem y_scI (hr : RX M) (h : SX M 1 s) (ho : OkS s) : ∃ M', D (Pc 70) M M' ∧ SX M' 70 s ∧ ev (d + 3) m_Site_copyFrom [.ref 70, .ref 1] NX M = some (none, NX, M') := by
  obtain ⟨a1, a2, ⟨g, g1, g2, g3, g4⟩, a4, a5, a6⟩ := h
  obtain ⟨o1, o2, o3, o4, o5, o6, o7, o8, o9, o10⟩ := ho
  have hn8 := o1.1
  have nP : ∀ k j, 1 ≤ k → k ≤ 69 → ¬ Pc 70 k j := fun k j x y z => by unfold Pc at z; omega
  -- planks
  have hd3 : D (Pc 70) M (cpI (cpI (sI M 70 0 (gI M 1 0)) 2 71 0 0 8) 3 72 0 0 8) := D_cpI (D_cpI (D.rfl'.sI ⟨by omega, by omega, rfl⟩) (fun j => ⟨by omega, by omega, rfl⟩)) (fun j => ⟨by omega, by omega, rfl⟩)
  generalize hM3 : cpI (cpI (sI M 70 0 (gI M 1 0)) 2 71 0 0 8) 3 72 0 0 8 = M3 at hd3
  have hr3 : RX M3 := by rw [← hM3]; exact hr
  have c0 : gI M3 70 0 = gI M 1 0 := by rw [← hM3, gI_cpI_nk (by decide), gI_cpI_nk (by decide), gI_sI_eq]
  have c1 : ∀ p, p < 8 → gI M3 71 p = gI M 2 p := fun p hp => by
    rw [← hM3, gI_cpI_nk (by decide), gI_cpI_in (by omega) (by omega), gI_sI_nk (by decide), show 0 + (p - 0) = p by omega]
  have c2 : ∀ p, p < 8 → gI M3 72 p = gI M 3 p := fun p hp => by
    rw [← hM3, gI_cpI_in (by omega) (by omega), gI_cpI_nk (by decide), gI_sI_nk (by decide), show 0 + (p - 0) = p by omega]
  -- the moment
  obtain ⟨M4, e1, e2, e3⟩ := y_copyRaw (d := d + 1) hr3 moB_kept moB_site (by decide) (by decide) (by decide)
  have hm4 : MX M4 73 (sNow s) := e2 _ (a2.D o2.2.2.2.2.2.2.2.1 hd3 (fun j _ => nP _ _ (by omega) (by omega)) (fun j _ => nP _ _ (by omega) (by omega))) o2.2.2.2.2.2.2.2.1
  have e1' : D (Pc 70) M3 M4 := e1.mono (fun k j z => by
    rcases z with ⟨rfl, z⟩ | rfl
    · exact ⟨by omega, by omega, by simp [rxt, z]⟩
    · exact ⟨by omega, by omega, rfl⟩)
  have hr4 : RX M4 := hr3.D e1' (fun k j z => z.2.2)
  -- the steps
  obtain ⟨X, ⟨x1, x2, x3⟩, x4⟩ := lpE (R := fun i (X : Mem) => run (ev (d + 2)) m_Site_copyFrom 51 [some (.ref 70), some (.ref 1), some (.int (nI i))] [] NX X) (I := fun i X => D (fun k j => Pc 70 k j ∧ 79 ≤ k) M4 X ∧ RX X ∧ ∀ q, q < i → ∀ m, MX M (10 + 2 * q) m → mCn m ≤ 30 → MX X (79 + 2 * q) m) (n := 30) (by
    intro i X hi ⟨x1, x2, x3⟩
    have hni : ¬ 30 ≤ i := by omega
    have hg := x2 6 i (10 + 2 * i) (rxt_6 hi)
    obtain ⟨Y, y1, y2, y3⟩ := y_scIS (d := d) x2 hi
    have y1' : D (fun k j => Pc 70 k j ∧ 79 ≤ k) X Y := y1.mono (fun k j z => ⟨y_scIR hi k j z, by omega⟩)
    refine ⟨Y, ⟨x1.trans y1', x2.D y1' (fun k j z => z.1.2.2), fun q hq m hm hc => ?_⟩, ?_⟩
    · by_cases e : q = i
      · subst e
        exact y2 m (hm.D hc ((hd3.trans e1').trans (x1.mono (fun k j z => z.1))) (fun j _ => nP _ _ (by omega) (by omega)) (fun j _ => nP _ _ (by omega) (by omega))) hc
      · exact (x3 q (by omega) m hm hc).D hc y1 (fun j _ => by omega) (fun j _ => by omega)
    · try dsimp only
      rw [r_Site_copyFrom_51]
      simp (disch := omega) only [r_Site_copyFrom_52, r_Site_copyFrom_54, r_Site_copyFrom_57, r_Site_copyFrom_57n, r_Site_copyFrom_58, r_Site_copyFrom_59, r_Site_copyFrom_59n, r_Site_copyFrom_60, r_Site_copyFrom_63, r_Site_copyFrom_64, r_Site_copyFrom_65, r_Site_copyFrom_68, r_Site_copyFrom_71, bnd, tl_s, tl_n, wt_nil, wt_int, wt_ref, wt_null, wt_long, Nat.reduceAdd, Nat.reduceLeDiff, if_true, if_false, decide_true, Bool.true_and, Bool.and_true, zok_n0, zok_n1, zok_bI, bI_eq0, bI_eq1, Bool.true_eq_false, Bool.false_eq_true, not_false_eq_true, not_true_eq_false, decide_false, decide_eq_false_iff_not, decide_eq_true_eq, Classical.not_not, ite_not, lit, Nat.reduceEqDiff, Nat.reduceLT, nI_add, nI_lt', nI_le', nI_eq', nI_sub', pk_mul, nI_rem', nI_div', nI_nz, remN, clampN, inb_nI, Nat.not_lt_zero, Nat.zero_le, Nat.le_zero_eq, if_true, if_false, m1_lt0, m1_eq, t_ite, f_ite, Bool.not_false, Bool.not_true, nI_and, nI_or, nI_xor, nI_shl1, nI_shr, nI_ushr, nI_not, nI_and_p2, Nat.one_mul, vrf_s, vrf_n, oF_0, oO_0, oF_1, oO_1, oA_2, oS_2, oA_3, oS_3, oF_4, oO_4, oA_5, oS_5, oA_6, oS_6, oA_7, oS_7, oA_8, oS_8, oA_9, oS_9, oF_70, oO_70, oA_71, oS_71, oA_72, oS_72, oF_73, oO_73, oA_74, oS_74, oA_75, oS_75, oA_76, oS_76, oA_77, oS_77, oA_78, oS_78, oA_139, oS_139, oF_140, oO_140, oA_141, oS_141, oA_142, oS_142, oA_143, oS_143, oA_144, oS_144, oF_145, oO_145, oF_146, oO_146, oA_147, oS_147, oF_148, oO_148, oA_149, oS_149, oA_150, oS_150, oA_151, oS_151, oF_152, oO_152, oA_153, oS_153, oF_154, oO_154, oA_155, oS_155, oA_156, oS_156, oA_157, oS_157, oA_158, oS_158, oF_159, oO_159, oA_160, oS_160, oA_161, oS_161, oA_162, oS_162, oA_163, oS_163, oF_164, oO_164, oA_165, oS_165, oA_166, oS_166, oA_167, oS_167, oA_168, oS_168, oF_169, oO_169, oA_170, oS_170, oA_171, oS_171, oA_172, oS_172, oA_173, oS_173, mO_Mom_copyFrom, mO_Site_copyStep, x2 0 0 1 rfl, x2 0 1 70 rfl, x2 0 2 139 rfl, x2 0 3 140 rfl, x2 0 4 145 rfl, x2 0 5 146 rfl, x2 0 6 148 rfl, x2 0 7 152 rfl, x2 1 1 2 rfl, x2 1 2 3 rfl, x2 1 3 4 rfl, x2 1 4 6 rfl, x2 1 9 7 rfl, x2 1 11 8 rfl, x2 1 12 9 rfl, x2 4 6 5 rfl, x2 152 6 153 rfl, x2 140 0 141 rfl, x2 140 2 142 rfl, x2 140 3 143 rfl, x2 140 4 144 rfl, x2 146 0 147 rfl, x2 148 0 149 rfl, x2 148 2 150 rfl, x2 148 3 151 rfl, x2 70 1 71 rfl, x2 70 2 72 rfl, x2 70 3 73 rfl, x2 70 4 75 rfl, x2 70 9 76 rfl, x2 70 11 77 rfl, x2 70 12 78 rfl, oB_6, Bool.or_false, hg, hni, y3]) 30 0 M4 (by omega) ⟨D.rfl', hr4, fun q hq => by omega⟩
  have hdX : D (Pc 70) M X := (hd3.trans e1').trans (x1.mono (fun k j z => z.1))
  have rd : ∀ k j, 1 ≤ k → k ≤ 69 → gI X k j = gI M k j := fun k j x y => hdX.i (nP k j x y)
  have hd6 : D (fun k j => Pc 70 k j ∧ ((k = 70 ∧ 5 ≤ j) ∨ k = 76 ∨ k = 77 ∨ k = 78)) X (sI (cpI (cpI (sI (cpI (sI (sI (sI (sI X 70 5 (gI X 1 5)) 70 6 (gI X 1 6)) 70 7 (gI X 1 7)) 70 8 (gI X 1 8)) 7 76 0 0 7) 70 10 (gI X 1 10)) 8 77 0 0 8) 9 78 0 0 8) 70 13 (gI X 1 13)) :=
    (D_cpI (D_cpI ((D_cpI ((((D.rfl'.sI ⟨⟨by omega, by omega, rfl⟩, by omega⟩).sI ⟨⟨by omega, by omega, rfl⟩, by omega⟩).sI ⟨⟨by omega, by omega, rfl⟩, by omega⟩).sI ⟨⟨by omega, by omega, rfl⟩, by omega⟩) (fun j => ⟨⟨by omega, by omega, rfl⟩, by omega⟩)).sI ⟨⟨by omega, by omega, rfl⟩, by omega⟩) (fun j => ⟨⟨by omega, by omega, rfl⟩, by omega⟩)) (fun j => ⟨⟨by omega, by omega, rfl⟩, by omega⟩)).sI ⟨⟨by omega, by omega, rfl⟩, by omega⟩
  have hd46 := (x1.mono (fun k j z => (⟨z.1, Or.inl z.2⟩ : Pc 70 k j ∧ (79 ≤ k ∨ (k = 70 ∧ 5 ≤ j) ∨ k = 76 ∨ k = 77 ∨ k = 78)))).trans (hd6.mono (fun k j z => ⟨z.1, Or.inr z.2⟩))
  refine ⟨_, hdX.trans (hd6.mono (fun k j z => z.1)), ⟨⟨?_, fun p hp => ⟨?_, ?_⟩⟩, ?_, ⟨g, g1, ?_, ?_, fun i hi => ?_⟩, ⟨?_, ?_⟩, ⟨?_, fun i hi => ?_⟩, ⟨?_, fun i hi => ⟨?_, ?_⟩⟩⟩, ?_⟩
  · exact ((hd46.i (by omega)).trans (e1.i (by omega))).trans (c0.trans a1.1)
  · exact ((hd46.i (by omega)).trans (e1.i (by omega))).trans ((c1 p (by omega)).trans (a1.2 p hp).1)
  · exact ((hd46.i (by omega)).trans (e1.i (by omega))).trans ((c2 p (by omega)).trans (a1.2 p hp).2)
  · exact hm4.D o2.2.2.2.2.2.2.2.1 hd46 (fun j _ => by omega) (fun j _ => by omega)
  · rw [gI_sI_nj (by decide), gI_cpI_nk (by decide), gI_cpI_nk (by decide), gI_sI_nj (by decide), gI_cpI_nk (by decide), gI_sI_nj (by decide), gI_sI_nj (by decide), gI_sI_nj (by decide), gI_sI_eq]
    exact (rd _ _ (by omega) (by omega)).trans g2
  · rw [gI_sI_nj (by decide), gI_cpI_nk (by decide), gI_cpI_nk (by decide), gI_sI_nj (by decide), gI_cpI_nk (by decide), gI_sI_nj (by decide), gI_sI_nj (by decide), gI_sI_eq]
    exact (rd _ _ (by omega) (by omega)).trans g3
  · have h30 : (g + i) % 30 < 30 := Nat.mod_lt _ (by decide)
    exact (x3 _ h30 _ (g4 i hi) (o4 i hi).2.2.2.2.2.2.2.1).D (o4 i hi).2.2.2.2.2.2.2.1 hd6 (fun j _ => by omega) (fun j _ => by omega)
  · rw [gI_sI_nj (by decide), gI_cpI_nk (by decide), gI_cpI_nk (by decide), gI_sI_nj (by decide), gI_cpI_nk (by decide), gI_sI_nj (by decide), gI_sI_eq]
    exact (rd _ _ (by omega) (by omega)).trans a4.1
  · rw [gI_sI_nj (by decide), gI_cpI_nk (by decide), gI_cpI_nk (by decide), gI_sI_nj (by decide), gI_cpI_nk (by decide), gI_sI_eq]
    exact (rd _ _ (by omega) (by omega)).trans a4.2
  · rw [gI_sI_nj (by decide), gI_cpI_nk (by decide), gI_cpI_nk (by decide), gI_sI_eq]
    exact (rd _ _ (by omega) (by omega)).trans a5.1
  · rw [gI_sI_nk (by decide), gI_cpI_nk (by decide), gI_cpI_nk (by decide), gI_sI_nk (by decide), gI_cpI_in (by omega) (by omega), gI_sI_nk (by decide), gI_sI_nk (by decide), gI_sI_nk (by decide), gI_sI_nk (by decide), show 0 + (i - 0) = i by omega]
    exact (rd _ _ (by omega) (by omega)).trans (a5.2 i hi)
  · rw [gI_sI_eq]
    exact (rd _ _ (by omega) (by omega)).trans a6.1
  · rw [gI_sI_nk (by decide), gI_cpI_nk (by decide), gI_cpI_in (by omega) (by omega), gI_sI_nk (by decide), gI_cpI_nk (by decide), gI_sI_nk (by decide), gI_sI_nk (by decide), gI_sI_nk (by decide), gI_sI_nk (by decide), show 0 + (i - 0) = i by omega]
    exact (rd _ _ (by omega) (by omega)).trans (a6.2 i hi).1
  · rw [gI_sI_nk (by decide), gI_cpI_in (by omega) (by omega), gI_cpI_nk (by decide), gI_sI_nk (by decide), gI_cpI_nk (by decide), gI_sI_nk (by decide), gI_sI_nk (by decide), gI_sI_nk (by decide), gI_sI_nk (by decide), show 0 + (i - 0) = i by omega]
    exact (rd _ _ (by omega) (by omega)).trans (a6.2 i hi).2
  · have w2a : okW NX 2 = true := by decide +kernel
    have w2b : ((sh 2).1 == 100) = true := by decide +kernel
    have w2c : (sh 2).2 = 8 := by decide +kernel
    have w3a : okW NX 3 = true := by decide +kernel
    have w3b : ((sh 3).1 == 100) = true := by decide +kernel
    have w3c : (sh 3).2 = 8 := by decide +kernel
    have w7a : okW NX 7 = true := by decide +kernel
    have w7b : ((sh 7).1 == 100) = true := by decide +kernel
    have w7c : (sh 7).2 = 7 := by decide +kernel
    have w8a : okW NX 8 = true := by decide +kernel
    have w8b : ((sh 8).1 == 100) = true := by decide +kernel
    have w8c : (sh 8).2 = 8 := by decide +kernel
    have w9a : okW NX 9 = true := by decide +kernel
    have w9b : ((sh 9).1 == 100) = true := by decide +kernel
    have w9c : (sh 9).2 = 8 := by decide +kernel
    have w71a : okW NX 71 = true := by decide +kernel
    have w71b : ((sh 71).1 == 100) = true := by decide +kernel
    have w71c : (sh 71).2 = 8 := by decide +kernel
    have w72a : okW NX 72 = true := by decide +kernel
    have w72b : ((sh 72).1 == 100) = true := by decide +kernel
    have w72c : (sh 72).2 = 8 := by decide +kernel
    have w76a : okW NX 76 = true := by decide +kernel
    have w76b : ((sh 76).1 == 100) = true := by decide +kernel
    have w76c : (sh 76).2 = 7 := by decide +kernel
    have w77a : okW NX 77 = true := by decide +kernel
    have w77b : ((sh 77).1 == 100) = true := by decide +kernel
    have w77c : (sh 77).2 = 8 := by decide +kernel
    have w78a : okW NX 78 = true := by decide +kernel
    have w78b : ((sh 78).1 == 100) = true := by decide +kernel
    have w78c : (sh 78).2 = 8 := by decide +kernel
    rw [e_Site_copyFrom]
    simp (disch := omega) only [r_Site_copyFrom_0, r_Site_copyFrom_0n, r_Site_copyFrom_1, r_Site_copyFrom_1n, r_Site_copyFrom_2, r_Site_copyFrom_5, r_Site_copyFrom_8, r_Site_copyFrom_8n, r_Site_copyFrom_9, r_Site_copyFrom_12, r_Site_copyFrom_13, r_Site_copyFrom_13n, r_Site_copyFrom_14, r_Site_copyFrom_17, r_Site_copyFrom_18, r_Site_copyFrom_20, r_Site_copyFrom_23, r_Site_copyFrom_23n, r_Site_copyFrom_24, r_Site_copyFrom_27, r_Site_copyFrom_28, r_Site_copyFrom_28n, r_Site_copyFrom_29, r_Site_copyFrom_32, r_Site_copyFrom_33, r_Site_copyFrom_35, r_Site_copyFrom_38, r_Site_copyFrom_38n, r_Site_copyFrom_39, r_Site_copyFrom_42, r_Site_copyFrom_42n, r_Site_copyFrom_43, r_Site_copyFrom_46, r_Site_copyFrom_49, r_Site_copyFrom_50, bnd, tl_s, tl_n, wt_nil, wt_int, wt_ref, wt_null, wt_long, Nat.reduceAdd, Nat.reduceLeDiff, if_true, if_false, decide_true, Bool.true_and, Bool.and_true, zok_n0, zok_n1, zok_bI, bI_eq0, bI_eq1, Bool.true_eq_false, Bool.false_eq_true, not_false_eq_true, not_true_eq_false, decide_false, decide_eq_false_iff_not, decide_eq_true_eq, Classical.not_not, ite_not, lit, Nat.reduceEqDiff, Nat.reduceLT, nI_add, nI_lt', nI_le', nI_eq', nI_sub', pk_mul, nI_rem', nI_div', nI_nz, remN, clampN, inb_nI, Nat.not_lt_zero, Nat.zero_le, Nat.le_zero_eq, if_true, if_false, m1_lt0, m1_eq, t_ite, f_ite, Bool.not_false, Bool.not_true, nI_and, nI_or, nI_xor, nI_shl1, nI_shr, nI_ushr, nI_not, nI_and_p2, Nat.one_mul, vrf_s, vrf_n, oF_0, oO_0, oF_1, oO_1, oA_2, oS_2, oA_3, oS_3, oF_4, oO_4, oA_5, oS_5, oA_6, oS_6, oA_7, oS_7, oA_8, oS_8, oA_9, oS_9, oF_70, oO_70, oA_71, oS_71, oA_72, oS_72, oF_73, oO_73, oA_74, oS_74, oA_75, oS_75, oA_76, oS_76, oA_77, oS_77, oA_78, oS_78, oA_139, oS_139, oF_140, oO_140, oA_141, oS_141, oA_142, oS_142, oA_143, oS_143, oA_144, oS_144, oF_145, oO_145, oF_146, oO_146, oA_147, oS_147, oF_148, oO_148, oA_149, oS_149, oA_150, oS_150, oA_151, oS_151, oF_152, oO_152, oA_153, oS_153, oF_154, oO_154, oA_155, oS_155, oA_156, oS_156, oA_157, oS_157, oA_158, oS_158, oF_159, oO_159, oA_160, oS_160, oA_161, oS_161, oA_162, oS_162, oA_163, oS_163, oF_164, oO_164, oA_165, oS_165, oA_166, oS_166, oA_167, oS_167, oA_168, oS_168, oF_169, oO_169, oA_170, oS_170, oA_171, oS_171, oA_172, oS_172, oA_173, oS_173, mO_Mom_copyFrom, mO_Site_copyStep, hr 0 0 1 rfl, hr 0 1 70 rfl, hr 0 2 139 rfl, hr 0 3 140 rfl, hr 0 4 145 rfl, hr 0 5 146 rfl, hr 0 6 148 rfl, hr 0 7 152 rfl, hr 1 1 2 rfl, hr 1 2 3 rfl, hr 1 3 4 rfl, hr 1 4 6 rfl, hr 1 9 7 rfl, hr 1 11 8 rfl, hr 1 12 9 rfl, hr 4 6 5 rfl, hr 152 6 153 rfl, hr 140 0 141 rfl, hr 140 2 142 rfl, hr 140 3 143 rfl, hr 140 4 144 rfl, hr 146 0 147 rfl, hr 148 0 149 rfl, hr 148 2 150 rfl, hr 148 3 151 rfl, hr 70 1 71 rfl, hr 70 2 72 rfl, hr 70 3 73 rfl, hr 70 4 75 rfl, hr 70 9 76 rfl, hr 70 11 77 rfl, hr 70 12 78 rfl, w2a, w2b, w2c, w3a, w3b, w3c, w7a, w7b, w7c, w8a, w8b, w8c, w9a, w9b, w9c, w71a, w71b, w71c, w72a, w72b, w72c, w76a, w76b, w76c, w77a, w77b, w77c, w78a, w78b, w78c, gR_sI, gR_cpI, hM3, hr3 0 0 1 rfl, hr3 0 1 70 rfl, hr3 0 2 139 rfl, hr3 0 3 140 rfl, hr3 0 4 145 rfl, hr3 0 5 146 rfl, hr3 0 6 148 rfl, hr3 0 7 152 rfl, hr3 1 1 2 rfl, hr3 1 2 3 rfl, hr3 1 3 4 rfl, hr3 1 4 6 rfl, hr3 1 9 7 rfl, hr3 1 11 8 rfl, hr3 1 12 9 rfl, hr3 4 6 5 rfl, hr3 152 6 153 rfl, hr3 140 0 141 rfl, hr3 140 2 142 rfl, hr3 140 3 143 rfl, hr3 140 4 144 rfl, hr3 146 0 147 rfl, hr3 148 0 149 rfl, hr3 148 2 150 rfl, hr3 148 3 151 rfl, hr3 70 1 71 rfl, hr3 70 2 72 rfl, hr3 70 3 73 rfl, hr3 70 4 75 rfl, hr3 70 9 76 rfl, hr3 70 11 77 rfl, hr3 70 12 78 rfl, e3, Nat.zero_add, Nat.le_refl]
    refine Eq.trans x4 ?_
    try dsimp only
    rw [r_Site_copyFrom_51]
    simp (disch := omega) only [r_Site_copyFrom_52, r_Site_copyFrom_54, r_Site_copyFrom_74, r_Site_copyFrom_74n, r_Site_copyFrom_75, r_Site_copyFrom_75n, r_Site_copyFrom_76, r_Site_copyFrom_79, r_Site_copyFrom_82, r_Site_copyFrom_82n, r_Site_copyFrom_83, r_Site_copyFrom_83n, r_Site_copyFrom_84, r_Site_copyFrom_87, r_Site_copyFrom_90, r_Site_copyFrom_90n, r_Site_copyFrom_91, r_Site_copyFrom_91n, r_Site_copyFrom_92, r_Site_copyFrom_95, r_Site_copyFrom_98, r_Site_copyFrom_98n, r_Site_copyFrom_99, r_Site_copyFrom_99n, r_Site_copyFrom_100, r_Site_copyFrom_103, r_Site_copyFrom_106, r_Site_copyFrom_106n, r_Site_copyFrom_107, r_Site_copyFrom_110, r_Site_copyFrom_111, r_Site_copyFrom_111n, r_Site_copyFrom_112, r_Site_copyFrom_115, r_Site_copyFrom_116, r_Site_copyFrom_118, r_Site_copyFrom_121, r_Site_copyFrom_121n, r_Site_copyFrom_122, r_Site_copyFrom_122n, r_Site_copyFrom_123, r_Site_copyFrom_126, r_Site_copyFrom_129, r_Site_copyFrom_129n, r_Site_copyFrom_130, r_Site_copyFrom_133, r_Site_copyFrom_134, r_Site_copyFrom_134n, r_Site_copyFrom_135, r_Site_copyFrom_138, r_Site_copyFrom_139, r_Site_copyFrom_141, r_Site_copyFrom_144, r_Site_copyFrom_144n, r_Site_copyFrom_145, r_Site_copyFrom_148, r_Site_copyFrom_149, r_Site_copyFrom_149n, r_Site_copyFrom_150, r_Site_copyFrom_153, r_Site_copyFrom_154, r_Site_copyFrom_156, r_Site_copyFrom_159, r_Site_copyFrom_159n, r_Site_copyFrom_160, r_Site_copyFrom_160n, r_Site_copyFrom_161, r_Site_copyFrom_164, r_Site_copyFrom_167, bnd, tl_s, tl_n, wt_nil, wt_int, wt_ref, wt_null, wt_long, Nat.reduceAdd, Nat.reduceLeDiff, if_true, if_false, decide_true, Bool.true_and, Bool.and_true, zok_n0, zok_n1, zok_bI, bI_eq0, bI_eq1, Bool.true_eq_false, Bool.false_eq_true, not_false_eq_true, not_true_eq_false, decide_false, decide_eq_false_iff_not, decide_eq_true_eq, Classical.not_not, ite_not, lit, Nat.reduceEqDiff, Nat.reduceLT, nI_add, nI_lt', nI_le', nI_eq', nI_sub', pk_mul, nI_rem', nI_div', nI_nz, remN, clampN, inb_nI, Nat.not_lt_zero, Nat.zero_le, Nat.le_zero_eq, if_true, if_false, m1_lt0, m1_eq, t_ite, f_ite, Bool.not_false, Bool.not_true, nI_and, nI_or, nI_xor, nI_shl1, nI_shr, nI_ushr, nI_not, nI_and_p2, Nat.one_mul, vrf_s, vrf_n, oF_0, oO_0, oF_1, oO_1, oA_2, oS_2, oA_3, oS_3, oF_4, oO_4, oA_5, oS_5, oA_6, oS_6, oA_7, oS_7, oA_8, oS_8, oA_9, oS_9, oF_70, oO_70, oA_71, oS_71, oA_72, oS_72, oF_73, oO_73, oA_74, oS_74, oA_75, oS_75, oA_76, oS_76, oA_77, oS_77, oA_78, oS_78, oA_139, oS_139, oF_140, oO_140, oA_141, oS_141, oA_142, oS_142, oA_143, oS_143, oA_144, oS_144, oF_145, oO_145, oF_146, oO_146, oA_147, oS_147, oF_148, oO_148, oA_149, oS_149, oA_150, oS_150, oA_151, oS_151, oF_152, oO_152, oA_153, oS_153, oF_154, oO_154, oA_155, oS_155, oA_156, oS_156, oA_157, oS_157, oA_158, oS_158, oF_159, oO_159, oA_160, oS_160, oA_161, oS_161, oA_162, oS_162, oA_163, oS_163, oF_164, oO_164, oA_165, oS_165, oA_166, oS_166, oA_167, oS_167, oA_168, oS_168, oF_169, oO_169, oA_170, oS_170, oA_171, oS_171, oA_172, oS_172, oA_173, oS_173, mO_Mom_copyFrom, mO_Site_copyStep, x2 0 0 1 rfl, x2 0 1 70 rfl, x2 0 2 139 rfl, x2 0 3 140 rfl, x2 0 4 145 rfl, x2 0 5 146 rfl, x2 0 6 148 rfl, x2 0 7 152 rfl, x2 1 1 2 rfl, x2 1 2 3 rfl, x2 1 3 4 rfl, x2 1 4 6 rfl, x2 1 9 7 rfl, x2 1 11 8 rfl, x2 1 12 9 rfl, x2 4 6 5 rfl, x2 152 6 153 rfl, x2 140 0 141 rfl, x2 140 2 142 rfl, x2 140 3 143 rfl, x2 140 4 144 rfl, x2 146 0 147 rfl, x2 148 0 149 rfl, x2 148 2 150 rfl, x2 148 3 151 rfl, x2 70 1 71 rfl, x2 70 2 72 rfl, x2 70 3 73 rfl, x2 70 4 75 rfl, x2 70 9 76 rfl, x2 70 11 77 rfl, x2 70 12 78 rfl, w2a, w2b, w2c, w3a, w3b, w3c, w7a, w7b, w7c, w8a, w8b, w8c, w9a, w9b, w9c, w71a, w71b, w71c, w72a, w72b, w72c, w76a, w76b, w76c, w77a, w77b, w77c, w78a, w78b, w78c, gI_sI_nk, gI_cpI_nk, gR_sI, gR_cpI, Nat.zero_add, Nat.le_refl]
theorem y_scBR {q : Nat} (hq : q < 30) : ∀ k j, (k = 10 + 2 * q ∧ j ≠ 6) ∨ k = 10 + 2 * q + 1 → Pc 1 k j := by
  intro k j z
  refine ⟨by omega, by omega, ?_⟩
  rcases z with ⟨rfl, z⟩ | rfl
  · unfold rxt
    rw [if_neg (by omega), if_neg (by omega), if_neg (by omega), if_pos (by omega), if_neg z]
  · unfold rxt
    rw [if_neg (by omega), if_neg (by omega), if_neg (by omega), if_neg (by omega), if_neg (by omega), if_neg (by omega), if_neg (by omega), if_neg (by omega), if_neg (by omega)]
theorem y_scBS {q : Nat} (hr : RX M) (hq : q < 30) : ∃ M', D (fun k j => (k = 10 + 2 * q ∧ j ≠ 6) ∨ k = 10 + 2 * q + 1) M M' ∧ (∀ m, MX M (79 + 2 * q) m → mCn m ≤ 30 → MX M' (10 + 2 * q) m) ∧ ev (d + 2) m_Site_copyStep [.ref 1, .int (nI q), .ref (79 + 2 * q)] NX M = some (none, NX, M') := by
  have hg := hr 6 q (10 + 2 * q) (rxt_6 hq)
  obtain ⟨M', d1, d2, d3⟩ := y_copyRaw (d := d) hr (moB_1 hq) (moB_2 hq) (by omega) (by omega) (by omega)
  refine ⟨M', d1, d2, ?_⟩
  have f2 := (moF (moB_1 hq)).2.1
  rw [e_Site_copyStep]
  simp (disch := omega) only [r_Site_copyStep_0, r_Site_copyStep_0n, r_Site_copyStep_1, r_Site_copyStep_4, r_Site_copyStep_5, r_Site_copyStep_6, r_Site_copyStep_6n, r_Site_copyStep_7, r_Site_copyStep_7n, r_Site_copyStep_8, r_Site_copyStep_8n, r_Site_copyStep_11, r_Site_copyStep_11n, r_Site_copyStep_12, r_Site_copyStep_12n, r_Site_copyStep_15, r_Site_copyStep_15n, r_Site_copyStep_16, r_Site_copyStep_16n, r_Site_copyStep_17, r_Site_copyStep_20, bnd, tl_s, tl_n, wt_nil, wt_int, wt_ref, wt_null, wt_long, Nat.reduceAdd, Nat.reduceLeDiff, if_true, if_false, decide_true, Bool.true_and, Bool.and_true, zok_n0, zok_n1, zok_bI, bI_eq0, bI_eq1, Bool.true_eq_false, Bool.false_eq_true, not_false_eq_true, not_true_eq_false, decide_false, decide_eq_false_iff_not, decide_eq_true_eq, Classical.not_not, ite_not, lit, Nat.reduceEqDiff, Nat.reduceLT, nI_add, nI_lt', nI_le', nI_eq', nI_sub', pk_mul, nI_rem', nI_div', nI_nz, remN, clampN, inb_nI, Nat.not_lt_zero, Nat.zero_le, Nat.le_zero_eq, if_true, if_false, m1_lt0, m1_eq, t_ite, f_ite, Bool.not_false, Bool.not_true, nI_and, nI_or, nI_xor, nI_shl1, nI_shr, nI_ushr, nI_not, nI_and_p2, Nat.one_mul, vrf_s, vrf_n, oF_0, oO_0, oF_1, oO_1, oA_2, oS_2, oA_3, oS_3, oF_4, oO_4, oA_5, oS_5, oA_6, oS_6, oA_7, oS_7, oA_8, oS_8, oA_9, oS_9, oF_70, oO_70, oA_71, oS_71, oA_72, oS_72, oF_73, oO_73, oA_74, oS_74, oA_75, oS_75, oA_76, oS_76, oA_77, oS_77, oA_78, oS_78, oA_139, oS_139, oF_140, oO_140, oA_141, oS_141, oA_142, oS_142, oA_143, oS_143, oA_144, oS_144, oF_145, oO_145, oF_146, oO_146, oA_147, oS_147, oF_148, oO_148, oA_149, oS_149, oA_150, oS_150, oA_151, oS_151, oF_152, oO_152, oA_153, oS_153, oF_154, oO_154, oA_155, oS_155, oA_156, oS_156, oA_157, oS_157, oA_158, oS_158, oF_159, oO_159, oA_160, oS_160, oA_161, oS_161, oA_162, oS_162, oA_163, oS_163, oF_164, oO_164, oA_165, oS_165, oA_166, oS_166, oA_167, oS_167, oA_168, oS_168, oF_169, oO_169, oA_170, oS_170, oA_171, oS_171, oA_172, oS_172, oA_173, oS_173, mO_Mom_copyFrom, hr 0 0 1 rfl, hr 0 1 70 rfl, hr 0 2 139 rfl, hr 0 3 140 rfl, hr 0 4 145 rfl, hr 0 5 146 rfl, hr 0 6 148 rfl, hr 0 7 152 rfl, hr 1 1 2 rfl, hr 1 2 3 rfl, hr 1 3 4 rfl, hr 1 4 6 rfl, hr 1 9 7 rfl, hr 1 11 8 rfl, hr 1 12 9 rfl, hr 4 6 5 rfl, hr 152 6 153 rfl, hr 140 0 141 rfl, hr 140 2 142 rfl, hr 140 3 143 rfl, hr 140 4 144 rfl, hr 146 0 147 rfl, hr 148 0 149 rfl, hr 148 2 150 rfl, hr 148 3 151 rfl, hr 70 1 71 rfl, hr 70 2 72 rfl, hr 70 3 73 rfl, hr 70 4 75 rfl, hr 70 9 76 rfl, hr 70 11 77 rfl, hr 70 12 78 rfl, oB_6, Bool.or_false, hg, f2, d3]
theorem y_scB (hr : RX M) (h : SX M 70 s) (ho : OkS s) : ∃ M', D (Pc 1) M M' ∧ SX M' 1 s ∧ ev (d + 3) m_Site_copyFrom [.ref 1, .ref 70] NX M = some (none, NX, M') := by
  obtain ⟨a1, a2, ⟨g, g1, g2, g3, g4⟩, a4, a5, a6⟩ := h
  obtain ⟨o1, o2, o3, o4, o5, o6, o7, o8, o9, o10⟩ := ho
  have hn8 := o1.1
  have nP : ∀ k j, 70 ≤ k → k ≤ 138 → ¬ Pc 1 k j := fun k j x y z => by unfold Pc at z; omega
  -- planks
  have hd3 : D (Pc 1) M (cpI (cpI (sI M 1 0 (gI M 70 0)) 71 2 0 0 8) 72 3 0 0 8) := D_cpI (D_cpI (D.rfl'.sI ⟨by omega, by omega, rfl⟩) (fun j => ⟨by omega, by omega, rfl⟩)) (fun j => ⟨by omega, by omega, rfl⟩)
  generalize hM3 : cpI (cpI (sI M 1 0 (gI M 70 0)) 71 2 0 0 8) 72 3 0 0 8 = M3 at hd3
  have hr3 : RX M3 := by rw [← hM3]; exact hr
  have c0 : gI M3 1 0 = gI M 70 0 := by rw [← hM3, gI_cpI_nk (by decide), gI_cpI_nk (by decide), gI_sI_eq]
  have c1 : ∀ p, p < 8 → gI M3 2 p = gI M 71 p := fun p hp => by
    rw [← hM3, gI_cpI_nk (by decide), gI_cpI_in (by omega) (by omega), gI_sI_nk (by decide), show 0 + (p - 0) = p by omega]
  have c2 : ∀ p, p < 8 → gI M3 3 p = gI M 72 p := fun p hp => by
    rw [← hM3, gI_cpI_in (by omega) (by omega), gI_cpI_nk (by decide), gI_sI_nk (by decide), show 0 + (p - 0) = p by omega]
  -- the moment
  obtain ⟨M4, e1, e2, e3⟩ := y_copyRaw (d := d + 1) hr3 moB_site moB_kept (by decide) (by decide) (by decide)
  have hm4 : MX M4 4 (sNow s) := e2 _ (a2.D o2.2.2.2.2.2.2.2.1 hd3 (fun j _ => nP _ _ (by omega) (by omega)) (fun j _ => nP _ _ (by omega) (by omega))) o2.2.2.2.2.2.2.2.1
  have e1' : D (Pc 1) M3 M4 := e1.mono (fun k j z => by
    rcases z with ⟨rfl, z⟩ | rfl
    · exact ⟨by omega, by omega, by simp [rxt, z]⟩
    · exact ⟨by omega, by omega, rfl⟩)
  have hr4 : RX M4 := hr3.D e1' (fun k j z => z.2.2)
  -- the steps
  obtain ⟨X, ⟨x1, x2, x3⟩, x4⟩ := lpE (R := fun i (X : Mem) => run (ev (d + 2)) m_Site_copyFrom 51 [some (.ref 1), some (.ref 70), some (.int (nI i))] [] NX X) (I := fun i X => D (fun k j => Pc 1 k j ∧ 10 ≤ k) M4 X ∧ RX X ∧ ∀ q, q < i → ∀ m, MX M (79 + 2 * q) m → mCn m ≤ 30 → MX X (10 + 2 * q) m) (n := 30) (by
    intro i X hi ⟨x1, x2, x3⟩
    have hni : ¬ 30 ≤ i := by omega
    have hg := x2 75 i (79 + 2 * i) (rxt_75 hi)
    obtain ⟨Y, y1, y2, y3⟩ := y_scBS (d := d) x2 hi
    have y1' : D (fun k j => Pc 1 k j ∧ 10 ≤ k) X Y := y1.mono (fun k j z => ⟨y_scBR hi k j z, by omega⟩)
    refine ⟨Y, ⟨x1.trans y1', x2.D y1' (fun k j z => z.1.2.2), fun q hq m hm hc => ?_⟩, ?_⟩
    · by_cases e : q = i
      · subst e
        exact y2 m (hm.D hc ((hd3.trans e1').trans (x1.mono (fun k j z => z.1))) (fun j _ => nP _ _ (by omega) (by omega)) (fun j _ => nP _ _ (by omega) (by omega))) hc
      · exact (x3 q (by omega) m hm hc).D hc y1 (fun j _ => by omega) (fun j _ => by omega)
    · try dsimp only
      rw [r_Site_copyFrom_51]
      simp (disch := omega) only [r_Site_copyFrom_52, r_Site_copyFrom_54, r_Site_copyFrom_57, r_Site_copyFrom_57n, r_Site_copyFrom_58, r_Site_copyFrom_59, r_Site_copyFrom_59n, r_Site_copyFrom_60, r_Site_copyFrom_63, r_Site_copyFrom_64, r_Site_copyFrom_65, r_Site_copyFrom_68, r_Site_copyFrom_71, bnd, tl_s, tl_n, wt_nil, wt_int, wt_ref, wt_null, wt_long, Nat.reduceAdd, Nat.reduceLeDiff, if_true, if_false, decide_true, Bool.true_and, Bool.and_true, zok_n0, zok_n1, zok_bI, bI_eq0, bI_eq1, Bool.true_eq_false, Bool.false_eq_true, not_false_eq_true, not_true_eq_false, decide_false, decide_eq_false_iff_not, decide_eq_true_eq, Classical.not_not, ite_not, lit, Nat.reduceEqDiff, Nat.reduceLT, nI_add, nI_lt', nI_le', nI_eq', nI_sub', pk_mul, nI_rem', nI_div', nI_nz, remN, clampN, inb_nI, Nat.not_lt_zero, Nat.zero_le, Nat.le_zero_eq, if_true, if_false, m1_lt0, m1_eq, t_ite, f_ite, Bool.not_false, Bool.not_true, nI_and, nI_or, nI_xor, nI_shl1, nI_shr, nI_ushr, nI_not, nI_and_p2, Nat.one_mul, vrf_s, vrf_n, oF_0, oO_0, oF_1, oO_1, oA_2, oS_2, oA_3, oS_3, oF_4, oO_4, oA_5, oS_5, oA_6, oS_6, oA_7, oS_7, oA_8, oS_8, oA_9, oS_9, oF_70, oO_70, oA_71, oS_71, oA_72, oS_72, oF_73, oO_73, oA_74, oS_74, oA_75, oS_75, oA_76, oS_76, oA_77, oS_77, oA_78, oS_78, oA_139, oS_139, oF_140, oO_140, oA_141, oS_141, oA_142, oS_142, oA_143, oS_143, oA_144, oS_144, oF_145, oO_145, oF_146, oO_146, oA_147, oS_147, oF_148, oO_148, oA_149, oS_149, oA_150, oS_150, oA_151, oS_151, oF_152, oO_152, oA_153, oS_153, oF_154, oO_154, oA_155, oS_155, oA_156, oS_156, oA_157, oS_157, oA_158, oS_158, oF_159, oO_159, oA_160, oS_160, oA_161, oS_161, oA_162, oS_162, oA_163, oS_163, oF_164, oO_164, oA_165, oS_165, oA_166, oS_166, oA_167, oS_167, oA_168, oS_168, oF_169, oO_169, oA_170, oS_170, oA_171, oS_171, oA_172, oS_172, oA_173, oS_173, mO_Mom_copyFrom, mO_Site_copyStep, x2 0 0 1 rfl, x2 0 1 70 rfl, x2 0 2 139 rfl, x2 0 3 140 rfl, x2 0 4 145 rfl, x2 0 5 146 rfl, x2 0 6 148 rfl, x2 0 7 152 rfl, x2 1 1 2 rfl, x2 1 2 3 rfl, x2 1 3 4 rfl, x2 1 4 6 rfl, x2 1 9 7 rfl, x2 1 11 8 rfl, x2 1 12 9 rfl, x2 4 6 5 rfl, x2 152 6 153 rfl, x2 140 0 141 rfl, x2 140 2 142 rfl, x2 140 3 143 rfl, x2 140 4 144 rfl, x2 146 0 147 rfl, x2 148 0 149 rfl, x2 148 2 150 rfl, x2 148 3 151 rfl, x2 70 1 71 rfl, x2 70 2 72 rfl, x2 70 3 73 rfl, x2 70 4 75 rfl, x2 70 9 76 rfl, x2 70 11 77 rfl, x2 70 12 78 rfl, oB_75, Bool.or_false, hg, hni, y3]) 30 0 M4 (by omega) ⟨D.rfl', hr4, fun q hq => by omega⟩
  have hdX : D (Pc 1) M X := (hd3.trans e1').trans (x1.mono (fun k j z => z.1))
  have rd : ∀ k j, 70 ≤ k → k ≤ 138 → gI X k j = gI M k j := fun k j x y => hdX.i (nP k j x y)
  have hd6 : D (fun k j => Pc 1 k j ∧ ((k = 1 ∧ 5 ≤ j) ∨ k = 7 ∨ k = 8 ∨ k = 9)) X (sI (cpI (cpI (sI (cpI (sI (sI (sI (sI X 1 5 (gI X 70 5)) 1 6 (gI X 70 6)) 1 7 (gI X 70 7)) 1 8 (gI X 70 8)) 76 7 0 0 7) 1 10 (gI X 70 10)) 77 8 0 0 8) 78 9 0 0 8) 1 13 (gI X 70 13)) :=
    (D_cpI (D_cpI ((D_cpI ((((D.rfl'.sI ⟨⟨by omega, by omega, rfl⟩, by omega⟩).sI ⟨⟨by omega, by omega, rfl⟩, by omega⟩).sI ⟨⟨by omega, by omega, rfl⟩, by omega⟩).sI ⟨⟨by omega, by omega, rfl⟩, by omega⟩) (fun j => ⟨⟨by omega, by omega, rfl⟩, by omega⟩)).sI ⟨⟨by omega, by omega, rfl⟩, by omega⟩) (fun j => ⟨⟨by omega, by omega, rfl⟩, by omega⟩)) (fun j => ⟨⟨by omega, by omega, rfl⟩, by omega⟩)).sI ⟨⟨by omega, by omega, rfl⟩, by omega⟩
  have hd46 := (x1.mono (fun k j z => (⟨z.1, Or.inl z.2⟩ : Pc 1 k j ∧ (10 ≤ k ∨ (k = 1 ∧ 5 ≤ j) ∨ k = 7 ∨ k = 8 ∨ k = 9)))).trans (hd6.mono (fun k j z => ⟨z.1, Or.inr z.2⟩))
  refine ⟨_, hdX.trans (hd6.mono (fun k j z => z.1)), ⟨⟨?_, fun p hp => ⟨?_, ?_⟩⟩, ?_, ⟨g, g1, ?_, ?_, fun i hi => ?_⟩, ⟨?_, ?_⟩, ⟨?_, fun i hi => ?_⟩, ⟨?_, fun i hi => ⟨?_, ?_⟩⟩⟩, ?_⟩
  · exact ((hd46.i (by omega)).trans (e1.i (by omega))).trans (c0.trans a1.1)
  · exact ((hd46.i (by omega)).trans (e1.i (by omega))).trans ((c1 p (by omega)).trans (a1.2 p hp).1)
  · exact ((hd46.i (by omega)).trans (e1.i (by omega))).trans ((c2 p (by omega)).trans (a1.2 p hp).2)
  · exact hm4.D o2.2.2.2.2.2.2.2.1 hd46 (fun j _ => by omega) (fun j _ => by omega)
  · rw [gI_sI_nj (by decide), gI_cpI_nk (by decide), gI_cpI_nk (by decide), gI_sI_nj (by decide), gI_cpI_nk (by decide), gI_sI_nj (by decide), gI_sI_nj (by decide), gI_sI_nj (by decide), gI_sI_eq]
    exact (rd _ _ (by omega) (by omega)).trans g2
  · rw [gI_sI_nj (by decide), gI_cpI_nk (by decide), gI_cpI_nk (by decide), gI_sI_nj (by decide), gI_cpI_nk (by decide), gI_sI_nj (by decide), gI_sI_nj (by decide), gI_sI_eq]
    exact (rd _ _ (by omega) (by omega)).trans g3
  · have h30 : (g + i) % 30 < 30 := Nat.mod_lt _ (by decide)
    exact (x3 _ h30 _ (g4 i hi) (o4 i hi).2.2.2.2.2.2.2.1).D (o4 i hi).2.2.2.2.2.2.2.1 hd6 (fun j _ => by omega) (fun j _ => by omega)
  · rw [gI_sI_nj (by decide), gI_cpI_nk (by decide), gI_cpI_nk (by decide), gI_sI_nj (by decide), gI_cpI_nk (by decide), gI_sI_nj (by decide), gI_sI_eq]
    exact (rd _ _ (by omega) (by omega)).trans a4.1
  · rw [gI_sI_nj (by decide), gI_cpI_nk (by decide), gI_cpI_nk (by decide), gI_sI_nj (by decide), gI_cpI_nk (by decide), gI_sI_eq]
    exact (rd _ _ (by omega) (by omega)).trans a4.2
  · rw [gI_sI_nj (by decide), gI_cpI_nk (by decide), gI_cpI_nk (by decide), gI_sI_eq]
    exact (rd _ _ (by omega) (by omega)).trans a5.1
  · rw [gI_sI_nk (by decide), gI_cpI_nk (by decide), gI_cpI_nk (by decide), gI_sI_nk (by decide), gI_cpI_in (by omega) (by omega), gI_sI_nk (by decide), gI_sI_nk (by decide), gI_sI_nk (by decide), gI_sI_nk (by decide), show 0 + (i - 0) = i by omega]
    exact (rd _ _ (by omega) (by omega)).trans (a5.2 i hi)
  · rw [gI_sI_eq]
    exact (rd _ _ (by omega) (by omega)).trans a6.1
  · rw [gI_sI_nk (by decide), gI_cpI_nk (by decide), gI_cpI_in (by omega) (by omega), gI_sI_nk (by decide), gI_cpI_nk (by decide), gI_sI_nk (by decide), gI_sI_nk (by decide), gI_sI_nk (by decide), gI_sI_nk (by decide), show 0 + (i - 0) = i by omega]
    exact (rd _ _ (by omega) (by omega)).trans (a6.2 i hi).1
  · rw [gI_sI_nk (by decide), gI_cpI_in (by omega) (by omega), gI_cpI_nk (by decide), gI_sI_nk (by decide), gI_cpI_nk (by decide), gI_sI_nk (by decide), gI_sI_nk (by decide), gI_sI_nk (by decide), gI_sI_nk (by decide), show 0 + (i - 0) = i by omega]
    exact (rd _ _ (by omega) (by omega)).trans (a6.2 i hi).2
  · have w2a : okW NX 2 = true := by decide +kernel
    have w2b : ((sh 2).1 == 100) = true := by decide +kernel
    have w2c : (sh 2).2 = 8 := by decide +kernel
    have w3a : okW NX 3 = true := by decide +kernel
    have w3b : ((sh 3).1 == 100) = true := by decide +kernel
    have w3c : (sh 3).2 = 8 := by decide +kernel
    have w7a : okW NX 7 = true := by decide +kernel
    have w7b : ((sh 7).1 == 100) = true := by decide +kernel
    have w7c : (sh 7).2 = 7 := by decide +kernel
    have w8a : okW NX 8 = true := by decide +kernel
    have w8b : ((sh 8).1 == 100) = true := by decide +kernel
    have w8c : (sh 8).2 = 8 := by decide +kernel
    have w9a : okW NX 9 = true := by decide +kernel
    have w9b : ((sh 9).1 == 100) = true := by decide +kernel
    have w9c : (sh 9).2 = 8 := by decide +kernel
    have w71a : okW NX 71 = true := by decide +kernel
    have w71b : ((sh 71).1 == 100) = true := by decide +kernel
    have w71c : (sh 71).2 = 8 := by decide +kernel
    have w72a : okW NX 72 = true := by decide +kernel
    have w72b : ((sh 72).1 == 100) = true := by decide +kernel
    have w72c : (sh 72).2 = 8 := by decide +kernel
    have w76a : okW NX 76 = true := by decide +kernel
    have w76b : ((sh 76).1 == 100) = true := by decide +kernel
    have w76c : (sh 76).2 = 7 := by decide +kernel
    have w77a : okW NX 77 = true := by decide +kernel
    have w77b : ((sh 77).1 == 100) = true := by decide +kernel
    have w77c : (sh 77).2 = 8 := by decide +kernel
    have w78a : okW NX 78 = true := by decide +kernel
    have w78b : ((sh 78).1 == 100) = true := by decide +kernel
    have w78c : (sh 78).2 = 8 := by decide +kernel
    rw [e_Site_copyFrom]
    simp (disch := omega) only [r_Site_copyFrom_0, r_Site_copyFrom_0n, r_Site_copyFrom_1, r_Site_copyFrom_1n, r_Site_copyFrom_2, r_Site_copyFrom_5, r_Site_copyFrom_8, r_Site_copyFrom_8n, r_Site_copyFrom_9, r_Site_copyFrom_12, r_Site_copyFrom_13, r_Site_copyFrom_13n, r_Site_copyFrom_14, r_Site_copyFrom_17, r_Site_copyFrom_18, r_Site_copyFrom_20, r_Site_copyFrom_23, r_Site_copyFrom_23n, r_Site_copyFrom_24, r_Site_copyFrom_27, r_Site_copyFrom_28, r_Site_copyFrom_28n, r_Site_copyFrom_29, r_Site_copyFrom_32, r_Site_copyFrom_33, r_Site_copyFrom_35, r_Site_copyFrom_38, r_Site_copyFrom_38n, r_Site_copyFrom_39, r_Site_copyFrom_42, r_Site_copyFrom_42n, r_Site_copyFrom_43, r_Site_copyFrom_46, r_Site_copyFrom_49, r_Site_copyFrom_50, bnd, tl_s, tl_n, wt_nil, wt_int, wt_ref, wt_null, wt_long, Nat.reduceAdd, Nat.reduceLeDiff, if_true, if_false, decide_true, Bool.true_and, Bool.and_true, zok_n0, zok_n1, zok_bI, bI_eq0, bI_eq1, Bool.true_eq_false, Bool.false_eq_true, not_false_eq_true, not_true_eq_false, decide_false, decide_eq_false_iff_not, decide_eq_true_eq, Classical.not_not, ite_not, lit, Nat.reduceEqDiff, Nat.reduceLT, nI_add, nI_lt', nI_le', nI_eq', nI_sub', pk_mul, nI_rem', nI_div', nI_nz, remN, clampN, inb_nI, Nat.not_lt_zero, Nat.zero_le, Nat.le_zero_eq, if_true, if_false, m1_lt0, m1_eq, t_ite, f_ite, Bool.not_false, Bool.not_true, nI_and, nI_or, nI_xor, nI_shl1, nI_shr, nI_ushr, nI_not, nI_and_p2, Nat.one_mul, vrf_s, vrf_n, oF_0, oO_0, oF_1, oO_1, oA_2, oS_2, oA_3, oS_3, oF_4, oO_4, oA_5, oS_5, oA_6, oS_6, oA_7, oS_7, oA_8, oS_8, oA_9, oS_9, oF_70, oO_70, oA_71, oS_71, oA_72, oS_72, oF_73, oO_73, oA_74, oS_74, oA_75, oS_75, oA_76, oS_76, oA_77, oS_77, oA_78, oS_78, oA_139, oS_139, oF_140, oO_140, oA_141, oS_141, oA_142, oS_142, oA_143, oS_143, oA_144, oS_144, oF_145, oO_145, oF_146, oO_146, oA_147, oS_147, oF_148, oO_148, oA_149, oS_149, oA_150, oS_150, oA_151, oS_151, oF_152, oO_152, oA_153, oS_153, oF_154, oO_154, oA_155, oS_155, oA_156, oS_156, oA_157, oS_157, oA_158, oS_158, oF_159, oO_159, oA_160, oS_160, oA_161, oS_161, oA_162, oS_162, oA_163, oS_163, oF_164, oO_164, oA_165, oS_165, oA_166, oS_166, oA_167, oS_167, oA_168, oS_168, oF_169, oO_169, oA_170, oS_170, oA_171, oS_171, oA_172, oS_172, oA_173, oS_173, mO_Mom_copyFrom, mO_Site_copyStep, hr 0 0 1 rfl, hr 0 1 70 rfl, hr 0 2 139 rfl, hr 0 3 140 rfl, hr 0 4 145 rfl, hr 0 5 146 rfl, hr 0 6 148 rfl, hr 0 7 152 rfl, hr 1 1 2 rfl, hr 1 2 3 rfl, hr 1 3 4 rfl, hr 1 4 6 rfl, hr 1 9 7 rfl, hr 1 11 8 rfl, hr 1 12 9 rfl, hr 4 6 5 rfl, hr 152 6 153 rfl, hr 140 0 141 rfl, hr 140 2 142 rfl, hr 140 3 143 rfl, hr 140 4 144 rfl, hr 146 0 147 rfl, hr 148 0 149 rfl, hr 148 2 150 rfl, hr 148 3 151 rfl, hr 70 1 71 rfl, hr 70 2 72 rfl, hr 70 3 73 rfl, hr 70 4 75 rfl, hr 70 9 76 rfl, hr 70 11 77 rfl, hr 70 12 78 rfl, w2a, w2b, w2c, w3a, w3b, w3c, w7a, w7b, w7c, w8a, w8b, w8c, w9a, w9b, w9c, w71a, w71b, w71c, w72a, w72b, w72c, w76a, w76b, w76c, w77a, w77b, w77c, w78a, w78b, w78c, gR_sI, gR_cpI, hM3, hr3 0 0 1 rfl, hr3 0 1 70 rfl, hr3 0 2 139 rfl, hr3 0 3 140 rfl, hr3 0 4 145 rfl, hr3 0 5 146 rfl, hr3 0 6 148 rfl, hr3 0 7 152 rfl, hr3 1 1 2 rfl, hr3 1 2 3 rfl, hr3 1 3 4 rfl, hr3 1 4 6 rfl, hr3 1 9 7 rfl, hr3 1 11 8 rfl, hr3 1 12 9 rfl, hr3 4 6 5 rfl, hr3 152 6 153 rfl, hr3 140 0 141 rfl, hr3 140 2 142 rfl, hr3 140 3 143 rfl, hr3 140 4 144 rfl, hr3 146 0 147 rfl, hr3 148 0 149 rfl, hr3 148 2 150 rfl, hr3 148 3 151 rfl, hr3 70 1 71 rfl, hr3 70 2 72 rfl, hr3 70 3 73 rfl, hr3 70 4 75 rfl, hr3 70 9 76 rfl, hr3 70 11 77 rfl, hr3 70 12 78 rfl, e3, Nat.zero_add, Nat.le_refl]
    refine Eq.trans x4 ?_
    try dsimp only
    rw [r_Site_copyFrom_51]
    simp (disch := omega) only [r_Site_copyFrom_52, r_Site_copyFrom_54, r_Site_copyFrom_74, r_Site_copyFrom_74n, r_Site_copyFrom_75, r_Site_copyFrom_75n, r_Site_copyFrom_76, r_Site_copyFrom_79, r_Site_copyFrom_82, r_Site_copyFrom_82n, r_Site_copyFrom_83, r_Site_copyFrom_83n, r_Site_copyFrom_84, r_Site_copyFrom_87, r_Site_copyFrom_90, r_Site_copyFrom_90n, r_Site_copyFrom_91, r_Site_copyFrom_91n, r_Site_copyFrom_92, r_Site_copyFrom_95, r_Site_copyFrom_98, r_Site_copyFrom_98n, r_Site_copyFrom_99, r_Site_copyFrom_99n, r_Site_copyFrom_100, r_Site_copyFrom_103, r_Site_copyFrom_106, r_Site_copyFrom_106n, r_Site_copyFrom_107, r_Site_copyFrom_110, r_Site_copyFrom_111, r_Site_copyFrom_111n, r_Site_copyFrom_112, r_Site_copyFrom_115, r_Site_copyFrom_116, r_Site_copyFrom_118, r_Site_copyFrom_121, r_Site_copyFrom_121n, r_Site_copyFrom_122, r_Site_copyFrom_122n, r_Site_copyFrom_123, r_Site_copyFrom_126, r_Site_copyFrom_129, r_Site_copyFrom_129n, r_Site_copyFrom_130, r_Site_copyFrom_133, r_Site_copyFrom_134, r_Site_copyFrom_134n, r_Site_copyFrom_135, r_Site_copyFrom_138, r_Site_copyFrom_139, r_Site_copyFrom_141, r_Site_copyFrom_144, r_Site_copyFrom_144n, r_Site_copyFrom_145, r_Site_copyFrom_148, r_Site_copyFrom_149, r_Site_copyFrom_149n, r_Site_copyFrom_150, r_Site_copyFrom_153, r_Site_copyFrom_154, r_Site_copyFrom_156, r_Site_copyFrom_159, r_Site_copyFrom_159n, r_Site_copyFrom_160, r_Site_copyFrom_160n, r_Site_copyFrom_161, r_Site_copyFrom_164, r_Site_copyFrom_167, bnd, tl_s, tl_n, wt_nil, wt_int, wt_ref, wt_null, wt_long, Nat.reduceAdd, Nat.reduceLeDiff, if_true, if_false, decide_true, Bool.true_and, Bool.and_true, zok_n0, zok_n1, zok_bI, bI_eq0, bI_eq1, Bool.true_eq_false, Bool.false_eq_true, not_false_eq_true, not_true_eq_false, decide_false, decide_eq_false_iff_not, decide_eq_true_eq, Classical.not_not, ite_not, lit, Nat.reduceEqDiff, Nat.reduceLT, nI_add, nI_lt', nI_le', nI_eq', nI_sub', pk_mul, nI_rem', nI_div', nI_nz, remN, clampN, inb_nI, Nat.not_lt_zero, Nat.zero_le, Nat.le_zero_eq, if_true, if_false, m1_lt0, m1_eq, t_ite, f_ite, Bool.not_false, Bool.not_true, nI_and, nI_or, nI_xor, nI_shl1, nI_shr, nI_ushr, nI_not, nI_and_p2, Nat.one_mul, vrf_s, vrf_n, oF_0, oO_0, oF_1, oO_1, oA_2, oS_2, oA_3, oS_3, oF_4, oO_4, oA_5, oS_5, oA_6, oS_6, oA_7, oS_7, oA_8, oS_8, oA_9, oS_9, oF_70, oO_70, oA_71, oS_71, oA_72, oS_72, oF_73, oO_73, oA_74, oS_74, oA_75, oS_75, oA_76, oS_76, oA_77, oS_77, oA_78, oS_78, oA_139, oS_139, oF_140, oO_140, oA_141, oS_141, oA_142, oS_142, oA_143, oS_143, oA_144, oS_144, oF_145, oO_145, oF_146, oO_146, oA_147, oS_147, oF_148, oO_148, oA_149, oS_149, oA_150, oS_150, oA_151, oS_151, oF_152, oO_152, oA_153, oS_153, oF_154, oO_154, oA_155, oS_155, oA_156, oS_156, oA_157, oS_157, oA_158, oS_158, oF_159, oO_159, oA_160, oS_160, oA_161, oS_161, oA_162, oS_162, oA_163, oS_163, oF_164, oO_164, oA_165, oS_165, oA_166, oS_166, oA_167, oS_167, oA_168, oS_168, oF_169, oO_169, oA_170, oS_170, oA_171, oS_171, oA_172, oS_172, oA_173, oS_173, mO_Mom_copyFrom, mO_Site_copyStep, x2 0 0 1 rfl, x2 0 1 70 rfl, x2 0 2 139 rfl, x2 0 3 140 rfl, x2 0 4 145 rfl, x2 0 5 146 rfl, x2 0 6 148 rfl, x2 0 7 152 rfl, x2 1 1 2 rfl, x2 1 2 3 rfl, x2 1 3 4 rfl, x2 1 4 6 rfl, x2 1 9 7 rfl, x2 1 11 8 rfl, x2 1 12 9 rfl, x2 4 6 5 rfl, x2 152 6 153 rfl, x2 140 0 141 rfl, x2 140 2 142 rfl, x2 140 3 143 rfl, x2 140 4 144 rfl, x2 146 0 147 rfl, x2 148 0 149 rfl, x2 148 2 150 rfl, x2 148 3 151 rfl, x2 70 1 71 rfl, x2 70 2 72 rfl, x2 70 3 73 rfl, x2 70 4 75 rfl, x2 70 9 76 rfl, x2 70 11 77 rfl, x2 70 12 78 rfl, w2a, w2b, w2c, w3a, w3b, w3c, w7a, w7b, w7c, w8a, w8b, w8c, w9a, w9b, w9c, w71a, w71b, w71c, w72a, w72b, w72c, w76a, w76b, w76c, w77a, w77b, w77c, w78a, w78b, w78c, gI_sI_nk, gI_cpI_nk, gR_sI, gR_cpI, Nat.zero_add, Nat.le_refl]
end SC
