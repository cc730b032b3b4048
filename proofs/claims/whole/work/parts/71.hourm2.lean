/-! HOURS: the reference passes one -/
def Pq (k j : Nat) : Prop := k = 175 ∧ ((6 ≤ j ∧ j < 26) ∨ (1565 ≤ j ∧ j < 1595))
theorem D.qp {M M' : Mem} (h : D Pq M M') : D Pp M M' := h.mono (fun k j z => Or.inr z)
theorem wrK_up {m : Mo} {F p u : Nat} : ∀ j, wrK (mUpS m u) F p j = mUpS (wrK m F p j) u := by
  intro j
  induction j with
  | zero => rfl
  | succ j ih =>
    rw [wrK, wrK, ih]
    split <;> rfl
theorem how_dn {m : Mo} {q r : Nat} (hc : (mCo m).testBit q = false) : how (mUpS m (mns (mUp m) (2 ^ q))) r = if r = q then 0 else how m r := by
  unfold how
  show (if (mCo m).testBit r = true then 2 else if (mns (mUp m) (2 ^ q)).testBit r = true then 1 else 0) = _
  rw [mns_bit, Nat.testBit_two_pow]
  by_cases e : r = q
  · rw [if_pos e, e, hc]; simp
  · rw [if_neg e, decide_eq_false (fun z => e z.symm)]; simp
section HN
variable {d : Nat} {M M' : Mem} {s : St} {T : Nat → Tx} {m mb : Mo} {wf : Bool}
theorem MW.k (h : MW wf M s T m mb) : KM M (sN s) (sW s) (sRs s) mb := h.1
theorem MW.eqs (h : MW wf M s T m mb) : mUp mb = mUp m ∧ mCo mb = mCo m ∧ mOb mb = mOb m ∧ mWd mb = mWd m ∧ mHr mb = mHr m ∧ mXx mb = mXx m := by
  have := h.2.1
  rw [← this]
  exact ⟨rfl, rfl, rfl, rfl, rfl, rfl⟩
theorem x_become {p v a u c : Nat} (h : MW wf M s T m mb) (hp : p < 8) (hv3 : v < 3) (ha : a < 4) (hv : ∀ q, q < 8 → how (mUpS (mCoS m c) u) q = if q = p then v else how m q) (ho : OkM (sN s) (mUpS (mCoS m c) u)) : ∃ M' mb', D Pq M M' ∧ MW wf M' s T (wr (mUpS (mCoS m c) u) p a) mb' ∧ ev (d + 2) m_M_become [.ref 174, .int (nI p), .int (nI v), .int (nI a)] NX M = some (none, NX, M') := by
  obtain ⟨a1, a2, a3, a4, a5, a6, a7, a8⟩ := h
  have hK := a1
  have hvb : ∀ q, q < 8 → how (mUpS (mCoS mb c) u) q = if q = p then v else how mb q := by
    intro q hq
    have := hv q hq
    rw [← a2]
    exact this
  have hob : OkM (sN s) (mUpS (mCoS mb c) u) := ⟨ho.1, ho.2.1, ho.2.2.1, a1.okm.2.2.2⟩
  have hm1 := mm_how hK.2.2.1 hp hvb
  have hd1 : D Pq M (sI M 175 (10 + p) (nI v)) := D.rfl'.sI ⟨rfl, by omega⟩
  have hs1 : mBkS (mUpS (mCoS m c) u) (mCn (mUpS (mCoS mb c) u)) (mBk (mUpS (mCoS mb c) u)) = mUpS (mCoS mb c) u := by
    conv => rhs; rw [← a2]
    rfl
  have hMW1 : MW wf (sI M 175 (10 + p) (nI v)) s T (mUpS (mCoS m c) u) (mUpS (mCoS mb c) u) := MW.set ⟨a1, a2, a3, a4, a5, a6, a7, a8⟩ hd1.qp hm1 hob hs1 ⟨fun z => by rw [a3.1 z], a3.2⟩ ho
  cases hwf : wf
  · rw [hwf] at hMW1
    have g24 : gI (sI M 175 (10 + p) (nI v)) 174 24 = nI 0 := hMW1.2.2.2.2.1
    refine ⟨_, mUpS (mCoS mb c) u, hd1, ⟨hMW1.1, ?_, ⟨fun z => (by cases z), fun _ => a3.2 hwf⟩, wr_ok ho hp ha, hMW1.2.2.2.2.1, hMW1.2.2.2.2.2⟩, ?_⟩
    · conv => rhs; rw [← hs1]
      rfl
    · have hwr : ev (d + 1) m_M_write [.ref 174, .int (nI p), .int (nI a)] NX (sI M 175 (10 + p) (nI v)) = some (none, NX, sI M 175 (10 + p) (nI v)) := by
        rw [e_M_write]
        simp (disch := omega) only [r_M_write_0, r_M_write_0n, r_M_write_1, r_M_write_4, r_M_write_7, bnd, tl_s, tl_n, wt_nil, wt_int, wt_ref, wt_null, wt_long, Nat.reduceAdd, Nat.reduceLeDiff, if_true, if_false, decide_true, Bool.true_and, Bool.and_true, zok_n0, zok_n1, zok_bI, bI_eq0, bI_eq1, Bool.true_eq_false, Bool.false_eq_true, not_false_eq_true, not_true_eq_false, decide_false, decide_eq_false_iff_not, decide_eq_true_eq, Classical.not_not, ite_not, lit, Nat.reduceEqDiff, Nat.reduceLT, nI_add, nI_lt', nI_le', nI_eq', nI_sub', pk_mul, nI_rem', nI_div', nI_nz, remN, clampN, inb_nI, Nat.not_lt_zero, Nat.zero_le, Nat.le_zero_eq, if_true, if_false, m1_lt0, m1_eq, t_ite, f_ite, Bool.not_false, Bool.not_true, nI_and, nI_or, nI_xor, nI_shl1, nI_shr, nI_ushr, nI_not, nI_and_p2, Nat.one_mul, vrf_s, vrf_n, oF_174, oO_174, oA_175, oS_175, oA_176, oS_176, oA_177, oS_177, oA_178, oS_178, oA_179, oS_179, oA_180, oS_180, oA_181, oS_181, oA_182, oS_182, oA_183, oS_183, oA_184, oS_184, oA_185, oS_185, oA_186, oS_186, oA_187, oS_187, oA_188, oS_188, g24]
      rw [e_M_become]
      simp (disch := omega) only [r_M_become_0, r_M_become_0n, r_M_become_1, r_M_become_4, r_M_become_6, r_M_become_7, r_M_become_8, r_M_become_9, r_M_become_10, r_M_become_10n, r_M_become_11, r_M_become_12, r_M_become_13, r_M_become_16, bnd, tl_s, tl_n, wt_nil, wt_int, wt_ref, wt_null, wt_long, Nat.reduceAdd, Nat.reduceLeDiff, if_true, if_false, decide_true, Bool.true_and, Bool.and_true, zok_n0, zok_n1, zok_bI, bI_eq0, bI_eq1, Bool.true_eq_false, Bool.false_eq_true, not_false_eq_true, not_true_eq_false, decide_false, decide_eq_false_iff_not, decide_eq_true_eq, Classical.not_not, ite_not, lit, Nat.reduceEqDiff, Nat.reduceLT, nI_add, nI_lt', nI_le', nI_eq', nI_sub', pk_mul, nI_rem', nI_div', nI_nz, remN, clampN, inb_nI, Nat.not_lt_zero, Nat.zero_le, Nat.le_zero_eq, if_true, if_false, m1_lt0, m1_eq, t_ite, f_ite, Bool.not_false, Bool.not_true, nI_and, nI_or, nI_xor, nI_shl1, nI_shr, nI_ushr, nI_not, nI_and_p2, Nat.one_mul, vrf_s, vrf_n, oF_174, oO_174, oA_175, oS_175, oA_176, oS_176, oA_177, oS_177, oA_178, oS_178, oA_179, oS_179, oA_180, oS_180, oA_181, oS_181, oA_182, oS_182, oA_183, oS_183, oA_184, oS_184, oA_185, oS_185, oA_186, oS_186, oA_187, oS_187, oA_188, oS_188, mO_M_write, hK.f, hwr]
  · rw [hwf] at hMW1
    have hmb : mb = m := a3.1 hwf
    have g24 : gI (sI M 175 (10 + p) (nI v)) 174 24 = nI 1 := hMW1.2.2.2.2.1
    obtain ⟨X, x1, x2, x3⟩ := x_write1 (d := d) (p := p) (a := a) hMW1.1 g24 hp ha
    have hd2 : D Pq (sI M 175 (10 + p) (nI v)) X := x1.mono (fun k j z => by unfold Pq; omega)
    refine ⟨X, wr (mUpS (mCoS mb c) u) p a, hd1.trans hd2, ?_, ?_⟩
    · refine hMW1.set hd2.qp x2 (wr_ok hob hp ha) ?_ ⟨fun _ => by rw [hmb], fun z => (by cases z)⟩ (wr_ok ho hp ha)
      rw [hmb]
      rfl
    · rw [e_M_become]
      simp (disch := omega) only [r_M_become_0, r_M_become_0n, r_M_become_1, r_M_become_4, r_M_become_6, r_M_become_7, r_M_become_8, r_M_become_9, r_M_become_10, r_M_become_10n, r_M_become_11, r_M_become_12, r_M_become_13, r_M_become_16, bnd, tl_s, tl_n, wt_nil, wt_int, wt_ref, wt_null, wt_long, Nat.reduceAdd, Nat.reduceLeDiff, if_true, if_false, decide_true, Bool.true_and, Bool.and_true, zok_n0, zok_n1, zok_bI, bI_eq0, bI_eq1, Bool.true_eq_false, Bool.false_eq_true, not_false_eq_true, not_true_eq_false, decide_false, decide_eq_false_iff_not, decide_eq_true_eq, Classical.not_not, ite_not, lit, Nat.reduceEqDiff, Nat.reduceLT, nI_add, nI_lt', nI_le', nI_eq', nI_sub', pk_mul, nI_rem', nI_div', nI_nz, remN, clampN, inb_nI, Nat.not_lt_zero, Nat.zero_le, Nat.le_zero_eq, if_true, if_false, m1_lt0, m1_eq, t_ite, f_ite, Bool.not_false, Bool.not_true, nI_and, nI_or, nI_xor, nI_shl1, nI_shr, nI_ushr, nI_not, nI_and_p2, Nat.one_mul, vrf_s, vrf_n, oF_174, oO_174, oA_175, oS_175, oA_176, oS_176, oA_177, oS_177, oA_178, oS_178, oA_179, oS_179, oA_180, oS_180, oA_181, oS_181, oA_182, oS_182, oA_183, oS_183, oA_184, oS_184, oA_185, oS_185, oA_186, oS_186, oA_187, oS_187, oA_188, oS_188, mO_M_write, hK.f, x3]
theorem cut_s {F u q : Nat} (hb : F.testBit q = true) : mns (mns u (F &&& (2 ^ q - 1))) (2 ^ q) = mns u (F &&& (2 ^ (q + 1) - 1)) := by
  apply eq_bits
  intro i
  rw [mns_bit, mns_bit, mns_bit, Nat.testBit_and, Nat.testBit_and, told_bit, told_bit, Nat.testBit_two_pow]
  by_cases e : q = i
  · subst e
    rw [hb, decide_eq_true (show q < q + 1 by omega), decide_eq_true rfl]
    simp
  · have e2 : decide (i < q + 1) = decide (i < q) := decide_eq_decide.mpr (by omega)
    rw [e2, decide_eq_false e]
    simp
theorem cut_n {F q : Nat} (hb : F.testBit q = false) : F &&& (2 ^ q - 1) = F &&& (2 ^ (q + 1) - 1) := by
  apply eq_bits
  intro i
  rw [Nat.testBit_and, Nat.testBit_and, told_bit, told_bit]
  by_cases e : q = i
  · subst e; rw [hb]; rfl
  · have e2 : decide (i < q + 1) = decide (i < q) := decide_eq_decide.mpr (by omega)
    rw [e2]
theorem add_n1 (x : Int32) (k : Nat) : x + nI k + nI 1 = x + nI (k + 1) := by rw [Int32.add_assoc, nI_add]
theorem x_fall {p : Nat} (h : MW wf M s T m mb) (hp : p < sN s) (hup : (mUp m).testBit p = true) : ∃ M' mb', D Pp M M' ∧ MW wf M' s T (fallM (sN s) (sRs s) m p) mb' ∧ gI M' 174 25 = gI M 174 25 + nI (pc (flF (sN s) (sRs s) (mUp m) p)) ∧ ev (d + 3) m_M_fall [.ref 174, .int (nI p)] NX M = some (none, NX, M') := by
  have hK := h.1
  have h8 := hK.n8
  obtain ⟨q1, q2, q3, q4, q5, q6⟩ := h.eqs
  have ho := h.2.2.2.1
  have hF8 : flF (sN s) (sRs s) (mUp m) p < 256 := flK_8 (by omega)
  have hFb : ∀ i, (flF (sN s) (sRs s) (mUp m) p).testBit i = true → p ≤ i ∧ i < sN s ∧ (mUp m).testBit i = true := by
    intro i hi
    rcases flK_bit _ hi with rfl | ⟨z1, z2, z3⟩
    · exact ⟨Nat.le_refl _, hp, hup⟩
    · exact ⟨by omega, by omega, z1⟩
  have hF0 : flF (sN s) (sRs s) (mUp m) p &&& (2 ^ p - 1) = 0 := by
    rw [eq0_bits]
    intro i
    rw [Bool.eq_false_iff]
    intro z
    rw [Nat.testBit_and, told_bit, Bool.and_eq_true, decide_eq_true_eq] at z
    have := hFb i z.1
    omega
  have hFn : flF (sN s) (sRs s) (mUp m) p &&& (2 ^ sN s - 1) = flF (sN s) (sRs s) (mUp m) p := by
    apply eq_bits
    intro i
    rw [Nat.testBit_and, told_bit]
    cases e : (flF (sN s) (sRs s) (mUp m) p).testBit i
    · rfl
    · rw [decide_eq_true (hFb i e).2.1]; rfl
  have hct0 : bct (flF (sN s) (sRs s) (mUp m) p) p = 0 := by
    unfold bct
    rw [fb_ct_zero]
    intro k hk
    rw [Bool.eq_false_iff]
    intro z
    have := hFb k z
    omega
  have hctn : bct (flF (sN s) (sRs s) (mUp m) p) (sN s) = pc (flF (sN s) (sRs s) (mUp m) p) := by
    rw [pc_ct hF8]
    have key : ∀ k, sN s + k ≤ 8 → bct (flF (sN s) (sRs s) (mUp m) p) (sN s + k) = bct (flF (sN s) (sRs s) (mUp m) p) (sN s) := by
      intro k
      induction k with
      | zero => intro _; rfl
      | succ k ih =>
        intro hk
        have hb : (flF (sN s) (sRs s) (mUp m) p).testBit (sN s + k) = false := by
          rw [Bool.eq_false_iff]
          intro z
          have := hFb _ z
          omega
        have := ct_n (q := fun i => (flF (sN s) (sRs s) (mUp m) p).testBit i) (s := sN s + k) hb
        exact this.trans (ih (by omega))
    have := key (8 - sN s) (by omega)
    rw [show sN s + (8 - sN s) = 8 by omega] at this
    exact this.symm
  -- the loop over those that fall
  obtain ⟨⟨M2, mb2⟩, ⟨i1, i2, i3⟩, i4⟩ := lpE (R := fun j (x : Mem × Mo) => run (ev (d + 2)) m_M_fall 59 [some (.ref 174), some (.int (nI p)), some (.int (nI (flF (sN s) (sRs s) (mUp m) p))), some (.int (nI (p + j)))] [] NX x.1) (I := fun j x => D Pp M x.1 ∧ MW wf x.1 s T (mUpS (wrK m (flF (sN s) (sRs s) (mUp m) p) p j) (mns (mUp m) (flF (sN s) (sRs s) (mUp m) p &&& (2 ^ (p + j) - 1)))) x.2 ∧ gI x.1 174 25 = gI M 174 25 + nI (bct (flF (sN s) (sRs s) (mUp m) p) (p + j))) (n := sN s - p) (by
    intro j ⟨X, mbx⟩ hj ⟨x1, x2, x3⟩
    try dsimp only at x1 x2 x3
    have hKX := x2.1
    have hni : ¬ sN s ≤ p + j := by omega
    try dsimp only
    rw [r_M_fall_59]
    cases e : (flF (sN s) (sRs s) (mUp m) p).testBit (p + j)
    · refine ⟨(X, mbx), ⟨x1, ?_, ?_⟩, ?_⟩
      · rw [wrK, e, f_ite, ← Nat.add_assoc, ← cut_n e]; exact x2
      · try dsimp only
        rw [x3, ← Nat.add_assoc]
        have := ct_n (q := fun i => (flF (sN s) (sRs s) (mUp m) p).testBit i) (s := p + j) e
        rw [show bct (flF (sN s) (sRs s) (mUp m) p) (p + j + 1) = bct (flF (sN s) (sRs s) (mUp m) p) (p + j) from this]
      · simp (disch := omega) only [r_M_fall_60, r_M_fall_60n, r_M_fall_61, r_M_fall_64, r_M_fall_65, r_M_fall_66, r_M_fall_69, r_M_fall_70, r_M_fall_71, r_M_fall_74, r_M_fall_77, r_M_fall_80, r_M_fall_80n, r_M_fall_81, r_M_fall_82, r_M_fall_83, r_M_fall_84, r_M_fall_87, r_M_fall_87n, r_M_fall_88, r_M_fall_88i, r_M_fall_89, r_M_fall_92, r_M_fall_93, r_M_fall_94, r_M_fall_97, r_M_fall_100, bnd, tl_s, tl_n, wt_nil, wt_int, wt_ref, wt_null, wt_long, Nat.reduceAdd, Nat.reduceLeDiff, if_true, if_false, decide_true, Bool.true_and, Bool.and_true, zok_n0, zok_n1, zok_bI, bI_eq0, bI_eq1, Bool.true_eq_false, Bool.false_eq_true, not_false_eq_true, not_true_eq_false, decide_false, decide_eq_false_iff_not, decide_eq_true_eq, Classical.not_not, ite_not, lit, Nat.reduceEqDiff, Nat.reduceLT, nI_add, nI_lt', nI_le', nI_eq', nI_sub', pk_mul, nI_rem', nI_div', nI_nz, remN, clampN, inb_nI, Nat.not_lt_zero, Nat.zero_le, Nat.le_zero_eq, if_true, if_false, m1_lt0, m1_eq, t_ite, f_ite, Bool.not_false, Bool.not_true, nI_and, nI_or, nI_xor, nI_shl1, nI_shr, nI_ushr, nI_not, nI_and_p2, Nat.one_mul, vrf_s, vrf_n, oF_174, oO_174, oA_175, oS_175, oA_176, oS_176, oA_177, oS_177, oA_178, oS_178, oA_179, oS_179, oA_180, oS_180, oA_181, oS_181, oA_182, oS_182, oA_183, oS_183, oA_184, oS_184, oA_185, oS_185, oA_186, oS_186, oA_187, oS_187, oA_188, oS_188, mO_M_has, mO_M_become, hKX.f, hKX.nn, hni, x_has, e, bI_f]
        rw [Nat.add_assoc]
    · obtain ⟨b1, b2, b3⟩ := hFb _ e
      have hco : (mCo m).testBit (p + j) = false := by
        rw [Bool.eq_false_iff]
        intro z
        exact ho.2.2.1 _ ⟨b3, z⟩
      have hco2 : (mCo (mUpS (wrK m (flF (sN s) (sRs s) (mUp m) p) p j) (mns (mUp m) (flF (sN s) (sRs s) (mUp m) p &&& (2 ^ (p + j) - 1))))).testBit (p + j) = false := by
        show (mCo (wrK m (flF (sN s) (sRs s) (mUp m) p) p j)).testBit (p + j) = false
        rw [(wrK_hr j).2.2.1]; exact hco
      have hok2 : OkM (sN s) (mUpS (mUpS (wrK m (flF (sN s) (sRs s) (mUp m) p) p j) (mns (mUp m) (flF (sN s) (sRs s) (mUp m) p &&& (2 ^ (p + j) - 1)))) (mns (mns (mUp m) (flF (sN s) (sRs s) (mUp m) p &&& (2 ^ (p + j) - 1))) (2 ^ (p + j)))) := x2.2.2.2.1.upS (fun i z => by
          rw [mns_bit, Bool.and_eq_true] at z
          exact z.1)
      obtain ⟨Y, mby, y1, y2, y3⟩ := x_become (d := d) (p := p + j) (v := 0) (a := 2) (u := mns (mns (mUp m) (flF (sN s) (sRs s) (mUp m) p &&& (2 ^ (p + j) - 1))) (2 ^ (p + j))) (c := mCo (mUpS (wrK m (flF (sN s) (sRs s) (mUp m) p) p j) (mns (mUp m) (flF (sN s) (sRs s) (mUp m) p &&& (2 ^ (p + j) - 1))))) x2 (by omega) (by decide) (by decide) (fun q hq => how_dn hco2) hok2
      have g25 : gI Y 174 25 = gI M 174 25 + nI (bct (flF (sN s) (sRs s) (mUp m) p) (p + j)) := (y1.i (by unfold Pq; omega)).trans x3
      have hd3 : D PSM Y (sI Y 174 25 (gI M 174 25 + nI (bct (flF (sN s) (sRs s) (mUp m) p) (p + j)) + nI 1)) := D.rfl'.sI (by unfold PSM; omega)
      refine ⟨(sI Y 174 25 (gI M 174 25 + nI (bct (flF (sN s) (sRs s) (mUp m) p) (p + j)) + nI 1), mby), ⟨(x1.trans y1.qp).trans (D.pp (D.rfl'.sI (Or.inl ⟨rfl, rfl⟩))), ?_, ?_⟩, ?_⟩
      · have y4 := y2.same hd3
        rw [cut_s e] at y4
        rw [wrK, e, t_ite, ← Nat.add_assoc]
        exact y4
      · try dsimp only
        rw [gI_sI_eq, add_n1, ← Nat.add_assoc]
        have := ct_s (q := fun i => (flF (sN s) (sRs s) (mUp m) p).testBit i) (s := p + j) e
        rw [show bct (flF (sN s) (sRs s) (mUp m) p) (p + j + 1) = bct (flF (sN s) (sRs s) (mUp m) p) (p + j) + 1 from this]
      · simp (disch := omega) only [r_M_fall_60, r_M_fall_60n, r_M_fall_61, r_M_fall_64, r_M_fall_65, r_M_fall_66, r_M_fall_69, r_M_fall_70, r_M_fall_71, r_M_fall_74, r_M_fall_77, r_M_fall_80, r_M_fall_80n, r_M_fall_81, r_M_fall_82, r_M_fall_83, r_M_fall_84, r_M_fall_87, r_M_fall_87n, r_M_fall_88, r_M_fall_88i, r_M_fall_89, r_M_fall_92, r_M_fall_93, r_M_fall_94, r_M_fall_97, r_M_fall_100, bnd, tl_s, tl_n, wt_nil, wt_int, wt_ref, wt_null, wt_long, Nat.reduceAdd, Nat.reduceLeDiff, if_true, if_false, decide_true, Bool.true_and, Bool.and_true, zok_n0, zok_n1, zok_bI, bI_eq0, bI_eq1, Bool.true_eq_false, Bool.false_eq_true, not_false_eq_true, not_true_eq_false, decide_false, decide_eq_false_iff_not, decide_eq_true_eq, Classical.not_not, ite_not, lit, Nat.reduceEqDiff, Nat.reduceLT, nI_add, nI_lt', nI_le', nI_eq', nI_sub', pk_mul, nI_rem', nI_div', nI_nz, remN, clampN, inb_nI, Nat.not_lt_zero, Nat.zero_le, Nat.le_zero_eq, if_true, if_false, m1_lt0, m1_eq, t_ite, f_ite, Bool.not_false, Bool.not_true, nI_and, nI_or, nI_xor, nI_shl1, nI_shr, nI_ushr, nI_not, nI_and_p2, Nat.one_mul, vrf_s, vrf_n, oF_174, oO_174, oA_175, oS_175, oA_176, oS_176, oA_177, oS_177, oA_178, oS_178, oA_179, oS_179, oA_180, oS_180, oA_181, oS_181, oA_182, oS_182, oA_183, oS_183, oA_184, oS_184, oA_185, oS_185, oA_186, oS_186, oA_187, oS_187, oA_188, oS_188, mO_M_has, mO_M_become, hKX.f, hKX.nn, hni, x_has, e, bI_t, y3, g25]
        rw [Nat.add_assoc]) (sN s - p) 0 (M, mb) (by omega) ⟨D.rfl', by
          try dsimp only
          rw [Nat.add_zero, hF0, show mns (mUp m) 0 = mUp m by unfold mns; rw [Nat.and_zero, Nat.xor_zero]]
          exact h, by
          try dsimp only
          rw [Nat.add_zero, hct0]
          exact (Int32.add_zero _).symm⟩
  try dsimp only at i1 i2 i3
  rw [show p + (sN s - p) = sN s by omega, hFn, ← wrK_up] at i2
  rw [show p + (sN s - p) = sN s by omega, hctn] at i3
  refine ⟨M2, mb2, i1, i2, i3, ?_⟩
  rw [e_M_fall]
  simp (disch := omega) only [r_M_fall_0, r_M_fall_1, r_M_fall_2, r_M_fall_3, r_M_fall_4, r_M_fall_5, r_M_fall_6, r_M_fall_7, bnd, tl_s, tl_n, wt_nil, wt_int, wt_ref, wt_null, wt_long, Nat.reduceAdd, Nat.reduceLeDiff, if_true, if_false, decide_true, Bool.true_and, Bool.and_true, zok_n0, zok_n1, zok_bI, bI_eq0, bI_eq1, Bool.true_eq_false, Bool.false_eq_true, not_false_eq_true, not_true_eq_false, decide_false, decide_eq_false_iff_not, decide_eq_true_eq, Classical.not_not, ite_not, lit, Nat.reduceEqDiff, Nat.reduceLT, nI_add, nI_lt', nI_le', nI_eq', nI_sub', pk_mul, nI_rem', nI_div', nI_nz, remN, clampN, inb_nI, Nat.not_lt_zero, Nat.zero_le, Nat.le_zero_eq, if_true, if_false, m1_lt0, m1_eq, t_ite, f_ite, Bool.not_false, Bool.not_true, nI_and, nI_or, nI_xor, nI_shl1, nI_shr, nI_ushr, nI_not, nI_and_p2, Nat.one_mul, vrf_s, vrf_n, oF_174, oO_174, oA_175, oS_175, oA_176, oS_176, oA_177, oS_177, oA_178, oS_178, oA_179, oS_179, oA_180, oS_180, oA_181, oS_181, oA_182, oS_182, oA_183, oS_183, oA_184, oS_184, oA_185, oS_185, oA_186, oS_186, oA_187, oS_187, oA_188, oS_188, mO_M_has, mO_M_become]
  refine Eq.trans (lp0 (R := fun j => run (ev (d + 2)) m_M_fall 8 [some (.ref 174), some (.int (nI p)), some (.int (nI (flK (sRs s) (mUp m) p j))), some (.int (nI (p + 1 + j)))] [] NX M) (n := sN s - (p + 1)) ?_) ?_
  · intro j hj
    have hni : ¬ sN s ≤ p + 1 + j := by omega
    have hk8 := flK_8 (Rs := sRs s) (u := mUp m) (p := p) (j := j) (by omega)
    have h9 : sRs s (p + 1 + j) &&& flK (sRs s) (mUp m) p j < 256 := and_8' hk8
    have h3 := how_3 (m := mb) (p := p + 1 + j)
    have hh := how_1 (p := p + 1 + j) hK.okm
    rw [q1] at hh
    try dsimp only
    rw [r_M_fall_8, flK]
    cases e : (mUp m).testBit (p + 1 + j)
    · have hne : ¬ how mb (p + 1 + j) = 1 := fun z => by rw [hh.mp z] at e; cases e
      simp (disch := omega) only [r_M_fall_9, r_M_fall_9n, r_M_fall_10, r_M_fall_13, r_M_fall_14, r_M_fall_15, r_M_fall_18, r_M_fall_18n, r_M_fall_19, r_M_fall_22, r_M_fall_24, r_M_fall_25, r_M_fall_26, r_M_fall_27, r_M_fall_28, r_M_fall_31, r_M_fall_31n, r_M_fall_32, r_M_fall_35, r_M_fall_37, r_M_fall_38, r_M_fall_39, r_M_fall_40, r_M_fall_41, r_M_fall_42, r_M_fall_45, r_M_fall_46, r_M_fall_47, r_M_fall_48, r_M_fall_49, r_M_fall_50, r_M_fall_51, r_M_fall_54, bnd, tl_s, tl_n, wt_nil, wt_int, wt_ref, wt_null, wt_long, Nat.reduceAdd, Nat.reduceLeDiff, if_true, if_false, decide_true, Bool.true_and, Bool.and_true, zok_n0, zok_n1, zok_bI, bI_eq0, bI_eq1, Bool.true_eq_false, Bool.false_eq_true, not_false_eq_true, not_true_eq_false, decide_false, decide_eq_false_iff_not, decide_eq_true_eq, Classical.not_not, ite_not, lit, Nat.reduceEqDiff, Nat.reduceLT, nI_add, nI_lt', nI_le', nI_eq', nI_sub', pk_mul, nI_rem', nI_div', nI_nz, remN, clampN, inb_nI, Nat.not_lt_zero, Nat.zero_le, Nat.le_zero_eq, if_true, if_false, m1_lt0, m1_eq, t_ite, f_ite, Bool.not_false, Bool.not_true, nI_and, nI_or, nI_xor, nI_shl1, nI_shr, nI_ushr, nI_not, nI_and_p2, Nat.one_mul, vrf_s, vrf_n, oF_174, oO_174, oA_175, oS_175, oA_176, oS_176, oA_177, oS_177, oA_178, oS_178, oA_179, oS_179, oA_180, oS_180, oA_181, oS_181, oA_182, oS_182, oA_183, oS_183, oA_184, oS_184, oA_185, oS_185, oA_186, oS_186, oA_187, oS_187, oA_188, oS_188, mO_M_has, mO_M_become, hK.f, hK.nn, hni, hK.how (show p + 1 + j < 8 by omega), hne, Bool.false_and]
      rw [Nat.add_assoc (p + 1)]
    · have he := hh.mpr e
      by_cases e2 : sRs s (p + 1 + j) &&& flK (sRs s) (mUp m) p j = 0
      · simp (disch := omega) only [r_M_fall_9, r_M_fall_9n, r_M_fall_10, r_M_fall_13, r_M_fall_14, r_M_fall_15, r_M_fall_18, r_M_fall_18n, r_M_fall_19, r_M_fall_22, r_M_fall_24, r_M_fall_25, r_M_fall_26, r_M_fall_27, r_M_fall_28, r_M_fall_31, r_M_fall_31n, r_M_fall_32, r_M_fall_35, r_M_fall_37, r_M_fall_38, r_M_fall_39, r_M_fall_40, r_M_fall_41, r_M_fall_42, r_M_fall_45, r_M_fall_46, r_M_fall_47, r_M_fall_48, r_M_fall_49, r_M_fall_50, r_M_fall_51, r_M_fall_54, bnd, tl_s, tl_n, wt_nil, wt_int, wt_ref, wt_null, wt_long, Nat.reduceAdd, Nat.reduceLeDiff, if_true, if_false, decide_true, Bool.true_and, Bool.and_true, zok_n0, zok_n1, zok_bI, bI_eq0, bI_eq1, Bool.true_eq_false, Bool.false_eq_true, not_false_eq_true, not_true_eq_false, decide_false, decide_eq_false_iff_not, decide_eq_true_eq, Classical.not_not, ite_not, lit, Nat.reduceEqDiff, Nat.reduceLT, nI_add, nI_lt', nI_le', nI_eq', nI_sub', pk_mul, nI_rem', nI_div', nI_nz, remN, clampN, inb_nI, Nat.not_lt_zero, Nat.zero_le, Nat.le_zero_eq, if_true, if_false, m1_lt0, m1_eq, t_ite, f_ite, Bool.not_false, Bool.not_true, nI_and, nI_or, nI_xor, nI_shl1, nI_shr, nI_ushr, nI_not, nI_and_p2, Nat.one_mul, vrf_s, vrf_n, oF_174, oO_174, oA_175, oS_175, oA_176, oS_176, oA_177, oS_177, oA_178, oS_178, oA_179, oS_179, oA_180, oS_180, oA_181, oS_181, oA_182, oS_182, oA_183, oS_183, oA_184, oS_184, oA_185, oS_185, oA_186, oS_186, oA_187, oS_187, oA_188, oS_188, mO_M_has, mO_M_become, hK.f, hK.nn, hni, hK.how (show p + 1 + j < 8 by omega), he, hK.rs (show p + 1 + j < sN s by omega), e2, Bool.true_and]
        rw [Nat.add_assoc (p + 1)]
      · simp (disch := omega) only [r_M_fall_9, r_M_fall_9n, r_M_fall_10, r_M_fall_13, r_M_fall_14, r_M_fall_15, r_M_fall_18, r_M_fall_18n, r_M_fall_19, r_M_fall_22, r_M_fall_24, r_M_fall_25, r_M_fall_26, r_M_fall_27, r_M_fall_28, r_M_fall_31, r_M_fall_31n, r_M_fall_32, r_M_fall_35, r_M_fall_37, r_M_fall_38, r_M_fall_39, r_M_fall_40, r_M_fall_41, r_M_fall_42, r_M_fall_45, r_M_fall_46, r_M_fall_47, r_M_fall_48, r_M_fall_49, r_M_fall_50, r_M_fall_51, r_M_fall_54, bnd, tl_s, tl_n, wt_nil, wt_int, wt_ref, wt_null, wt_long, Nat.reduceAdd, Nat.reduceLeDiff, if_true, if_false, decide_true, Bool.true_and, Bool.and_true, zok_n0, zok_n1, zok_bI, bI_eq0, bI_eq1, Bool.true_eq_false, Bool.false_eq_true, not_false_eq_true, not_true_eq_false, decide_false, decide_eq_false_iff_not, decide_eq_true_eq, Classical.not_not, ite_not, lit, Nat.reduceEqDiff, Nat.reduceLT, nI_add, nI_lt', nI_le', nI_eq', nI_sub', pk_mul, nI_rem', nI_div', nI_nz, remN, clampN, inb_nI, Nat.not_lt_zero, Nat.zero_le, Nat.le_zero_eq, if_true, if_false, m1_lt0, m1_eq, t_ite, f_ite, Bool.not_false, Bool.not_true, nI_and, nI_or, nI_xor, nI_shl1, nI_shr, nI_ushr, nI_not, nI_and_p2, Nat.one_mul, vrf_s, vrf_n, oF_174, oO_174, oA_175, oS_175, oA_176, oS_176, oA_177, oS_177, oA_178, oS_178, oA_179, oS_179, oA_180, oS_180, oA_181, oS_181, oA_182, oS_182, oA_183, oS_183, oA_184, oS_184, oA_185, oS_185, oA_186, oS_186, oA_187, oS_187, oA_188, oS_188, mO_M_has, mO_M_become, hK.f, hK.nn, hni, hK.how (show p + 1 + j < 8 by omega), he, hK.rs (show p + 1 + j < sN s by omega), e2, Bool.true_and]
        rw [Nat.add_assoc (p + 1)]
  · have hle : sN s ≤ p + 1 + (sN s - (p + 1)) := by omega
    have hFd : flK (sRs s) (mUp m) p (sN s - (p + 1)) = flF (sN s) (sRs s) (mUp m) p := rfl
    try dsimp only
    rw [r_M_fall_8, hFd]
    simp (disch := omega) only [r_M_fall_9, r_M_fall_9n, r_M_fall_10, r_M_fall_13, r_M_fall_14, r_M_fall_15, r_M_fall_57, r_M_fall_58, bnd, tl_s, tl_n, wt_nil, wt_int, wt_ref, wt_null, wt_long, Nat.reduceAdd, Nat.reduceLeDiff, if_true, if_false, decide_true, Bool.true_and, Bool.and_true, zok_n0, zok_n1, zok_bI, bI_eq0, bI_eq1, Bool.true_eq_false, Bool.false_eq_true, not_false_eq_true, not_true_eq_false, decide_false, decide_eq_false_iff_not, decide_eq_true_eq, Classical.not_not, ite_not, lit, Nat.reduceEqDiff, Nat.reduceLT, nI_add, nI_lt', nI_le', nI_eq', nI_sub', pk_mul, nI_rem', nI_div', nI_nz, remN, clampN, inb_nI, Nat.not_lt_zero, Nat.zero_le, Nat.le_zero_eq, if_true, if_false, m1_lt0, m1_eq, t_ite, f_ite, Bool.not_false, Bool.not_true, nI_and, nI_or, nI_xor, nI_shl1, nI_shr, nI_ushr, nI_not, nI_and_p2, Nat.one_mul, vrf_s, vrf_n, oF_174, oO_174, oA_175, oS_175, oA_176, oS_176, oA_177, oS_177, oA_178, oS_178, oA_179, oS_179, oA_180, oS_180, oA_181, oS_181, oA_182, oS_182, oA_183, oS_183, oA_184, oS_184, oA_185, oS_185, oA_186, oS_186, oA_187, oS_187, oA_188, oS_188, mO_M_has, mO_M_become, hK.f, hK.nn, hle]
    refine Eq.trans i4 ?_
    have hle2 : sN s ≤ p + (sN s - p) := by omega
    try dsimp only
    rw [r_M_fall_59]
    simp (disch := omega) only [r_M_fall_60, r_M_fall_60n, r_M_fall_61, r_M_fall_64, r_M_fall_65, r_M_fall_66, r_M_fall_103, bnd, tl_s, tl_n, wt_nil, wt_int, wt_ref, wt_null, wt_long, Nat.reduceAdd, Nat.reduceLeDiff, if_true, if_false, decide_true, Bool.true_and, Bool.and_true, zok_n0, zok_n1, zok_bI, bI_eq0, bI_eq1, Bool.true_eq_false, Bool.false_eq_true, not_false_eq_true, not_true_eq_false, decide_false, decide_eq_false_iff_not, decide_eq_true_eq, Classical.not_not, ite_not, lit, Nat.reduceEqDiff, Nat.reduceLT, nI_add, nI_lt', nI_le', nI_eq', nI_sub', pk_mul, nI_rem', nI_div', nI_nz, remN, clampN, inb_nI, Nat.not_lt_zero, Nat.zero_le, Nat.le_zero_eq, if_true, if_false, m1_lt0, m1_eq, t_ite, f_ite, Bool.not_false, Bool.not_true, nI_and, nI_or, nI_xor, nI_shl1, nI_shr, nI_ushr, nI_not, nI_and_p2, Nat.one_mul, vrf_s, vrf_n, oF_174, oO_174, oA_175, oS_175, oA_176, oS_176, oA_177, oS_177, oA_178, oS_178, oA_179, oS_179, oA_180, oS_180, oA_181, oS_181, oA_182, oS_182, oA_183, oS_183, oA_184, oS_184, oA_185, oS_185, oA_186, oS_186, oA_187, oS_187, oA_188, oS_188, mO_M_has, mO_M_become, i2.1.f, i2.1.nn, hle2]
end HN
