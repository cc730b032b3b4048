/-! LAWS: what the reference says; texts -/
def MS (cm : Nat → Nat × Nat) (f t : Nat) (g : Env → Int) : Prop := ∀ e, EOk e → ∀ vs ts, rcM e cm (t - f) f vs ts = some (g e :: vs, ts)
/-- a text: its clauses (kind, first, second), its laws -/
def Tx : Type := (Nat × (Nat → Nat × Nat × Nat)) × (Option (Env → Int) × Option (Env → Int))
def tN (x : Tx) : Nat := x.1.1
def tC (x : Tx) : Nat → Nat × Nat × Nat := x.1.2
def tL (x : Tx) (law : Nat) : Option (Env → Int) := if law = 0 then x.2.1 else x.2.2
/-- a law in the reference's rows -/
def LwM (M : Mem) (T law : Nat) (x : Tx) : Prop := match tL x law with
  | none => ∀ i, i < tN x → (tC x i).1 ≠ law
  | some g => ∃ C, C < tN x ∧ (tC x C).1 = law ∧ (∀ i, i < C → (tC x i).1 ≠ law) ∧ ∃ cm cnt f t, TD M T cm cnt ∧ f ≤ t ∧ t ≤ cnt ∧ gI M 177 (681 * T + 1 + 3 * C + 1) = nI f ∧ gI M 177 (681 * T + 1 + 3 * C + 2) = nI t ∧ MS cm f t g ∧ ∀ e, EOk e → VB (g e)
/-- what a clause may hold -/
def clOk (c : Nat × Nat × Nat) : Prop := c.1 ≤ 8 ∧ c.2.1 ≤ 60 ∧ c.2.2 ≤ 9 ∧ (c.1 = 2 → 1 ≤ c.2.1 ∧ c.2.1 ≤ 9 ∧ c.2.2 ≠ 8) ∧ (3 ≤ c.1 ∧ c.1 ≤ 7 → c.2.1 ≤ 7) ∧ (c.1 = 6 ∨ c.1 = 7 → c.2.2 ≤ 7) ∧ (c.1 = 8 → 1 ≤ c.2.1)
def TxOk (x : Tx) : Prop := tN x ≤ 24 ∧ ∀ i, i < tN x → clOk (tC x i)
/-- a text in the reference's rows -/
def MT (M : Mem) (T : Nat) (x : Tx) : Prop := TxOk x ∧ gI M 177 (681 * T) = nI (tN x) ∧ (∀ i, i < tN x → gI M 177 (681 * T + 1 + 3 * i) = nI (tC x i).1 ∧ (2 ≤ (tC x i).1 → gI M 177 (681 * T + 1 + 3 * i + 1) = nI (tC x i).2.1) ∧ ((tC x i).1 = 2 ∨ (tC x i).1 = 6 ∨ (tC x i).1 = 7 → gI M 177 (681 * T + 1 + 3 * i + 2) = nI (tC x i).2.2)) ∧ LwM M T 0 x ∧ LwM M T 1 x
/-- a text in the class's cells -/
def CT (M : Mem) (b : Nat) (x : Tx) : Prop := TxOk x ∧ gI M b 5 = nI (tN x) ∧ (∀ i, i < tN x → gI M (b + 4) i = nI ((tC x i).1 + (tC x i).2.1 * 64 + (tC x i).2.2 * 4096)) ∧ LwC M b 0 (tL x 0) ∧ LwC M b 1 (tL x 1)
section SY
variable {d n p : Nat} {M M' : Mem} {W Rs : Nat → Nat} {m : Mo} {T C cnt : Nat} {cm : Nat → Nat × Nat}
theorem l_mrun {stop : Nat} {lv : List Int} {lt : List Bool} : ∀ K i (vs : List Int) (ts : List Bool) (M : Mem) z8 z9, SUc M n W Rs m p T C cm cnt stop → i + K = stop → Vr M vs → Tr M ts → vs.length + ts.length ≤ i → (∀ x ∈ vs, VB x) → rcM (env n W Rs m p) cm K i vs ts = some (lv, lt) → ∃ M' y8 y9, D PMV M M' ∧ Vr M' lv ∧ Tr M' lt ∧ mrun d T C vs.length ts.length i z8 z9 M = mrun d T C lv.length lt.length stop y8 y9 M' := by
  intro K
  induction K with
  | zero =>
    intro i vs ts M z8 z9 h hi hV hT hl hv hr
    rw [rcM, Option.some.injEq, Prod.mk.injEq] at hr
    obtain ⟨rfl, rfl⟩ := hr
    have : i = stop := by omega
    subst this
    exact ⟨M, z8, z9, D.rfl', hV, hT, rfl⟩
  | succ K ih =>
    intro i vs ts M z8 z9 h hi hV hT hl hv hr
    have hcn := h.2.2.2.2.1.1
    have hsc := h.2.2.2.2.2.1
    rw [rcM] at hr
    cases hs : stM (env n W Rs m p) (cm i).1 (cm i).2 vs ts with
    | none => rw [hs] at hr; cases hr
    | some x =>
      rw [hs] at hr
      have he := env_ok h.1.okp h.1.okm h.2.1
      obtain ⟨v1, v2⟩ := stM_vb (o := (cm i).1) (v := (cm i).2) (ts := ts) he hv x.1 x.2 hs
      obtain ⟨M1, y8, y9, d1, d2, d3, d4⟩ := l_mit (d := d) (z8 := z8) (z9 := z9) (vs' := x.1) (ts' := x.2) h (by omega) hV hT (by omega) hv hs
      obtain ⟨M2, y8', y9', f1, f2, f3, f4⟩ := ih (i + 1) x.1 x.2 M1 y8 y9 (h.dP d1) (by omega) d2 d3 (by omega) v1 hr
      exact ⟨M2, y8', y9', d1.trans f1, f2, f3, d4.trans f4⟩
theorem rcM_shift {e : Env} {cm : Nat → Nat × Nat} {f : Nat} : ∀ {k i vs ts}, rcM e cm k (f + i) vs ts = rcM e (fun j => cm (f + j)) k i vs ts := by
  intro k
  induction k with
  | zero => intro i vs ts; rfl
  | succ k ih =>
    intro i vs ts
    rw [rcM, rcM]
    cases stM e (cm (f + i)).1 (cm (f + i)).2 vs ts with
    | none => rfl
    | some x => exact ih (i := i + 1)
theorem x_summedUp {g : Env → Int} {f t : Nat} (hK : KM M n W Rs m) (hp : p < n) (hT4 : T < 4) (hC : C < 24) (hD : TD M T cm cnt) (hft : f ≤ t) (htc : t ≤ cnt) (h1 : gI M 177 (681 * T + 1 + 3 * C + 1) = nI f) (h2 : gI M 177 (681 * T + 1 + 3 * C + 2) = nI t) (hm : MS cm f t g) (hnm : ∀ v, v < 8 → gI M 180 v = nI (nmv n W Rs m p v)) : ∃ M', D PMV M M' ∧ ev (d + 4) m_M_summedUp [.ref 174, .int (nI T), .int (nI C)] NX M = some (some (.long (iL (g (env n W Rs m p)))), NX, M') := by
  have he := env_ok (p := p) hK.okp hK.okm hp
  have hr := hm _ he [] []
  have hcn := hD.1
  obtain ⟨M', y8, y9, d1, d2, d3, d4⟩ := l_mrun (d := d) (t - f) f [] [] M none none ⟨hK, hp, hT4, hC, hD, htc, h2, hnm⟩ (by omega) trivial trivial (by simp) (fun x hx => by cases hx) hr
  refine ⟨M', d1, ?_⟩
  have hK' := kmM hK (d1.mono (fun k j z => by unfold PMV at z; unfold PSM; omega))
  have h2' := (d1.i (k := 177) (j := 681 * T + 1 + 3 * C + 2) (by unfold PMV; omega)).trans h2
  have hv0 : gL M' 181 0 = iL (g (env n W Rs m p)) := d2.1
  rw [e_M_summedUp]
  simp (disch := omega) only [r_M_summedUp_0, r_M_summedUp_3, r_M_summedUp_4, r_M_summedUp_5, r_M_summedUp_6, r_M_summedUp_7, r_M_summedUp_8, r_M_summedUp_9, r_M_summedUp_10, r_M_summedUp_11, r_M_summedUp_12, r_M_summedUp_15, r_M_summedUp_16, r_M_summedUp_17, r_M_summedUp_19, r_M_summedUp_20, r_M_summedUp_22, r_M_summedUp_23, r_M_summedUp_25, r_M_summedUp_26, r_M_summedUp_28, r_M_summedUp_28n, r_M_summedUp_29, r_M_summedUp_32, r_M_summedUp_33, r_M_summedUp_34, r_M_summedUp_35, r_M_summedUp_36, bnd, tl_s, tl_n, wt_nil, wt_int, wt_ref, wt_null, wt_long, Nat.reduceAdd, Nat.reduceLeDiff, if_true, if_false, decide_true, Bool.true_and, Bool.and_true, zok_n0, zok_n1, zok_bI, bI_eq0, bI_eq1, Bool.true_eq_false, Bool.false_eq_true, not_false_eq_true, not_true_eq_false, decide_false, decide_eq_false_iff_not, decide_eq_true_eq, Classical.not_not, ite_not, lit, Nat.reduceEqDiff, Nat.reduceLT, nI_add, nI_lt', nI_le', nI_eq', nI_sub', pk_mul, nI_rem', nI_div', nI_nz, remN, clampN, inb_nI, Nat.not_lt_zero, Nat.zero_le, Nat.le_zero_eq, if_true, if_false, m1_lt0, m1_eq, t_ite, f_ite, Bool.not_false, Bool.not_true, nI_and, nI_or, nI_xor, nI_shl1, nI_shr, nI_ushr, nI_not, nI_and_p2, Nat.one_mul, vrf_s, vrf_n, oF_174, oO_174, oA_175, oS_175, oA_176, oS_176, oA_177, oS_177, oA_178, oS_178, oA_179, oS_179, oA_180, oS_180, oA_181, oS_181, oA_182, oS_182, oA_183, oS_183, oA_184, oS_184, oA_185, oS_185, oA_186, oS_186, oA_187, oS_187, oA_188, oS_188, mO_M_heavyOf, mO_M_bitsOf, mO_M_two, mO_M_isAsked, mO_M_joined, hK.1.tx, h1]
  refine Eq.trans d4 ?_
  unfold mrun
  rw [r_M_summedUp_38]
  simp (disch := omega) only [r_M_summedUp_40, r_M_summedUp_40n, r_M_summedUp_41, r_M_summedUp_44, r_M_summedUp_45, r_M_summedUp_46, r_M_summedUp_47, r_M_summedUp_48, r_M_summedUp_406, r_M_summedUp_406n, r_M_summedUp_407, r_M_summedUp_410, r_M_summedUp_411, r_M_summedUp_412, bnd, tl_s, tl_n, wt_nil, wt_int, wt_ref, wt_null, wt_long, Nat.reduceAdd, Nat.reduceLeDiff, if_true, if_false, decide_true, Bool.true_and, Bool.and_true, zok_n0, zok_n1, zok_bI, bI_eq0, bI_eq1, Bool.true_eq_false, Bool.false_eq_true, not_false_eq_true, not_true_eq_false, decide_false, decide_eq_false_iff_not, decide_eq_true_eq, Classical.not_not, ite_not, lit, Nat.reduceEqDiff, Nat.reduceLT, nI_add, nI_lt', nI_le', nI_eq', nI_sub', pk_mul, nI_rem', nI_div', nI_nz, remN, clampN, inb_nI, Nat.not_lt_zero, Nat.zero_le, Nat.le_zero_eq, if_true, if_false, m1_lt0, m1_eq, t_ite, f_ite, Bool.not_false, Bool.not_true, nI_and, nI_or, nI_xor, nI_shl1, nI_shr, nI_ushr, nI_not, nI_and_p2, Nat.one_mul, vrf_s, vrf_n, oF_174, oO_174, oA_175, oS_175, oA_176, oS_176, oA_177, oS_177, oA_178, oS_178, oA_179, oS_179, oA_180, oS_180, oA_181, oS_181, oA_182, oS_182, oA_183, oS_183, oA_184, oS_184, oA_185, oS_185, oA_186, oS_186, oA_187, oS_187, oA_188, oS_188, mO_M_heavyOf, mO_M_bitsOf, mO_M_two, mO_M_isAsked, mO_M_joined, hK'.1.tx, hK'.1.va, h2', Nat.le_refl, hv0]
def nmM (M : Mem) (n : Nat) (W Rs : Nat → Nat) (m : Mo) (p : Nat) : Mem := fI M 180 (fun i => nI (nmv n W Rs m p i)) 8
theorem nmM_at {v : Nat} (hv : v < 8) : gI (nmM M n W Rs m p) 180 v = nI (nmv n W Rs m p v) := gI_fI_in hv
theorem D_nmM : D PSM M (nmM M n W Rs m p) := D.rfl'.fI (fun j _ => by unfold PSM; omega)
theorem x_name (h : KM M n W Rs m) (hp : p < n) : ev (d + 3) m_M_name [.ref 174, .int (nI p)] NX M = some (none, NX, nmM M n W Rs m p) := by
  have hn := h.n8
  have hp8 : p < 8 := by omega
  have hu := h.okm.u8 hn
  have ha : ag (mOb m) p &&& mUp m < 256 := and_8 ag_8
  have hr : ron n Rs p &&& mUp m < 256 := and_8 (ron_8 hn)
  have hk : knd n m 1 = mUp m := rfl
  have s0 := fI_s (M := M) (c := 180) (i := 0) (f := fun i => nI (nmv n W Rs m p i))
  have s1 := fI_s (M := M) (c := 180) (i := 1) (f := fun i => nI (nmv n W Rs m p i))
  have s2 := fI_s (M := M) (c := 180) (i := 2) (f := fun i => nI (nmv n W Rs m p i))
  have s3 := fI_s (M := M) (c := 180) (i := 3) (f := fun i => nI (nmv n W Rs m p i))
  have s4 := fI_s (M := M) (c := 180) (i := 4) (f := fun i => nI (nmv n W Rs m p i))
  have s5 := fI_s (M := M) (c := 180) (i := 5) (f := fun i => nI (nmv n W Rs m p i))
  have s6 := fI_s (M := M) (c := 180) (i := 6) (f := fun i => nI (nmv n W Rs m p i))
  have s7 := fI_s (M := M) (c := 180) (i := 7) (f := fun i => nI (nmv n W Rs m p i))
  rw [fI_0] at s0
  have t0 : sI M 180 0 (nI (mHr m)) = fI M 180 (fun i => nI (nmv n W Rs m p i)) 1 := s0
  have t1 : sI (fI M 180 (fun i => nI (nmv n W Rs m p i)) 1) 180 1 (nI (mWd m)) = fI M 180 (fun i => nI (nmv n W Rs m p i)) 2 := s1
  have t2 : sI (fI M 180 (fun i => nI (nmv n W Rs m p i)) 2) 180 2 (nI p) = fI M 180 (fun i => nI (nmv n W Rs m p i)) 3 := s2
  have t3 : sI (fI M 180 (fun i => nI (nmv n W Rs m p i)) 3) 180 3 (nI (W p)) = fI M 180 (fun i => nI (nmv n W Rs m p i)) 4 := s3
  have t4 : sI (fI M 180 (fun i => nI (nmv n W Rs m p i)) 4) 180 4 (nI (pc (mUp m))) = fI M 180 (fun i => nI (nmv n W Rs m p i)) 5 := s4
  have t5 : sI (fI M 180 (fun i => nI (nmv n W Rs m p i)) 5) 180 5 (nI (pc (ag (mOb m) p &&& mUp m))) = fI M 180 (fun i => nI (nmv n W Rs m p i)) 6 := s5
  have t6 : sI (fI M 180 (fun i => nI (nmv n W Rs m p i)) 6) 180 6 (nI (pc (Rs p))) = fI M 180 (fun i => nI (nmv n W Rs m p i)) 7 := s6
  have t7 : sI (fI M 180 (fun i => nI (nmv n W Rs m p i)) 7) 180 7 (nI (pc (ron n Rs p &&& mUp m))) = fI M 180 (fun i => nI (nmv n W Rs m p i)) 8 := s7
  have g1 := h.fI (c := 180) (f := fun i => nI (nmv n W Rs m p i)) (i := 1) (by decide)
  have g2 := h.fI (c := 180) (f := fun i => nI (nmv n W Rs m p i)) (i := 2) (by decide)
  have g3 := h.fI (c := 180) (f := fun i => nI (nmv n W Rs m p i)) (i := 3) (by decide)
  have g4 := h.fI (c := 180) (f := fun i => nI (nmv n W Rs m p i)) (i := 4) (by decide)
  have g5 := h.fI (c := 180) (f := fun i => nI (nmv n W Rs m p i)) (i := 5) (by decide)
  have g6 := h.fI (c := 180) (f := fun i => nI (nmv n W Rs m p i)) (i := 6) (by decide)
  have g7 := h.fI (c := 180) (f := fun i => nI (nmv n W Rs m p i)) (i := 7) (by decide)
  rw [e_M_name]
  simp (disch := omega) only [r_M_name_0, r_M_name_0n, r_M_name_1, r_M_name_4, r_M_name_5, r_M_name_5n, r_M_name_6, r_M_name_9, r_M_name_11, r_M_name_12, bnd, tl_s, tl_n, wt_nil, wt_int, wt_ref, wt_null, wt_long, Nat.reduceAdd, Nat.reduceLeDiff, if_true, if_false, decide_true, Bool.true_and, Bool.and_true, zok_n0, zok_n1, zok_bI, bI_eq0, bI_eq1, Bool.true_eq_false, Bool.false_eq_true, not_false_eq_true, not_true_eq_false, decide_false, decide_eq_false_iff_not, decide_eq_true_eq, Classical.not_not, ite_not, lit, Nat.reduceEqDiff, Nat.reduceLT, nI_add, nI_lt', nI_le', nI_eq', nI_sub', pk_mul, nI_rem', nI_div', nI_nz, remN, clampN, inb_nI, Nat.not_lt_zero, Nat.zero_le, Nat.le_zero_eq, if_true, if_false, m1_lt0, m1_eq, t_ite, f_ite, Bool.not_false, Bool.not_true, nI_and, nI_or, nI_xor, nI_shl1, nI_shr, nI_ushr, nI_not, nI_and_p2, Nat.one_mul, vrf_s, vrf_n, oF_174, oO_174, oA_175, oS_175, oA_176, oS_176, oA_177, oS_177, oA_178, oS_178, oA_179, oS_179, oA_180, oS_180, oA_181, oS_181, oA_182, oS_182, oA_183, oS_183, oA_184, oS_184, oA_185, oS_185, oA_186, oS_186, oA_187, oS_187, oA_188, oS_188, mO_M_those, mO_M_bits, mO_M_against, mO_M_restingOn, h.f, h.1.nm, h.hr, t0]
  simp (disch := omega) only [r_M_name_13, r_M_name_13n, r_M_name_14, r_M_name_17, r_M_name_18, r_M_name_18n, r_M_name_19, r_M_name_22, r_M_name_24, r_M_name_25, bnd, tl_s, tl_n, wt_nil, wt_int, wt_ref, wt_null, wt_long, Nat.reduceAdd, Nat.reduceLeDiff, if_true, if_false, decide_true, Bool.true_and, Bool.and_true, zok_n0, zok_n1, zok_bI, bI_eq0, bI_eq1, Bool.true_eq_false, Bool.false_eq_true, not_false_eq_true, not_true_eq_false, decide_false, decide_eq_false_iff_not, decide_eq_true_eq, Classical.not_not, ite_not, lit, Nat.reduceEqDiff, Nat.reduceLT, nI_add, nI_lt', nI_le', nI_eq', nI_sub', pk_mul, nI_rem', nI_div', nI_nz, remN, clampN, inb_nI, Nat.not_lt_zero, Nat.zero_le, Nat.le_zero_eq, if_true, if_false, m1_lt0, m1_eq, t_ite, f_ite, Bool.not_false, Bool.not_true, nI_and, nI_or, nI_xor, nI_shl1, nI_shr, nI_ushr, nI_not, nI_and_p2, Nat.one_mul, vrf_s, vrf_n, oF_174, oO_174, oA_175, oS_175, oA_176, oS_176, oA_177, oS_177, oA_178, oS_178, oA_179, oS_179, oA_180, oS_180, oA_181, oS_181, oA_182, oS_182, oA_183, oS_183, oA_184, oS_184, oA_185, oS_185, oA_186, oS_186, oA_187, oS_187, oA_188, oS_188, mO_M_those, mO_M_bits, mO_M_against, mO_M_restingOn, g1.f, g1.1.nm, g1.wd, t1]
  simp (disch := omega) only [r_M_name_26, r_M_name_26n, r_M_name_27, r_M_name_30, r_M_name_31, r_M_name_32, bnd, tl_s, tl_n, wt_nil, wt_int, wt_ref, wt_null, wt_long, Nat.reduceAdd, Nat.reduceLeDiff, if_true, if_false, decide_true, Bool.true_and, Bool.and_true, zok_n0, zok_n1, zok_bI, bI_eq0, bI_eq1, Bool.true_eq_false, Bool.false_eq_true, not_false_eq_true, not_true_eq_false, decide_false, decide_eq_false_iff_not, decide_eq_true_eq, Classical.not_not, ite_not, lit, Nat.reduceEqDiff, Nat.reduceLT, nI_add, nI_lt', nI_le', nI_eq', nI_sub', pk_mul, nI_rem', nI_div', nI_nz, remN, clampN, inb_nI, Nat.not_lt_zero, Nat.zero_le, Nat.le_zero_eq, if_true, if_false, m1_lt0, m1_eq, t_ite, f_ite, Bool.not_false, Bool.not_true, nI_and, nI_or, nI_xor, nI_shl1, nI_shr, nI_ushr, nI_not, nI_and_p2, Nat.one_mul, vrf_s, vrf_n, oF_174, oO_174, oA_175, oS_175, oA_176, oS_176, oA_177, oS_177, oA_178, oS_178, oA_179, oS_179, oA_180, oS_180, oA_181, oS_181, oA_182, oS_182, oA_183, oS_183, oA_184, oS_184, oA_185, oS_185, oA_186, oS_186, oA_187, oS_187, oA_188, oS_188, mO_M_those, mO_M_bits, mO_M_against, mO_M_restingOn, g2.1.nm, t2]
  simp (disch := omega) only [r_M_name_33, r_M_name_33n, r_M_name_34, r_M_name_37, r_M_name_38, r_M_name_38n, r_M_name_39, r_M_name_42, r_M_name_44, r_M_name_45, r_M_name_46, r_M_name_47, bnd, tl_s, tl_n, wt_nil, wt_int, wt_ref, wt_null, wt_long, Nat.reduceAdd, Nat.reduceLeDiff, if_true, if_false, decide_true, Bool.true_and, Bool.and_true, zok_n0, zok_n1, zok_bI, bI_eq0, bI_eq1, Bool.true_eq_false, Bool.false_eq_true, not_false_eq_true, not_true_eq_false, decide_false, decide_eq_false_iff_not, decide_eq_true_eq, Classical.not_not, ite_not, lit, Nat.reduceEqDiff, Nat.reduceLT, nI_add, nI_lt', nI_le', nI_eq', nI_sub', pk_mul, nI_rem', nI_div', nI_nz, remN, clampN, inb_nI, Nat.not_lt_zero, Nat.zero_le, Nat.le_zero_eq, if_true, if_false, m1_lt0, m1_eq, t_ite, f_ite, Bool.not_false, Bool.not_true, nI_and, nI_or, nI_xor, nI_shl1, nI_shr, nI_ushr, nI_not, nI_and_p2, Nat.one_mul, vrf_s, vrf_n, oF_174, oO_174, oA_175, oS_175, oA_176, oS_176, oA_177, oS_177, oA_178, oS_178, oA_179, oS_179, oA_180, oS_180, oA_181, oS_181, oA_182, oS_182, oA_183, oS_183, oA_184, oS_184, oA_185, oS_185, oA_186, oS_186, oA_187, oS_187, oA_188, oS_188, mO_M_those, mO_M_bits, mO_M_against, mO_M_restingOn, g3.f, g3.1.nm, g3.w hp, t3]
  simp (disch := omega) only [r_M_name_48, r_M_name_48n, r_M_name_49, r_M_name_52, r_M_name_53, r_M_name_53n, r_M_name_54, r_M_name_55, r_M_name_58, r_M_name_61, bnd, tl_s, tl_n, wt_nil, wt_int, wt_ref, wt_null, wt_long, Nat.reduceAdd, Nat.reduceLeDiff, if_true, if_false, decide_true, Bool.true_and, Bool.and_true, zok_n0, zok_n1, zok_bI, bI_eq0, bI_eq1, Bool.true_eq_false, Bool.false_eq_true, not_false_eq_true, not_true_eq_false, decide_false, decide_eq_false_iff_not, decide_eq_true_eq, Classical.not_not, ite_not, lit, Nat.reduceEqDiff, Nat.reduceLT, nI_add, nI_lt', nI_le', nI_eq', nI_sub', pk_mul, nI_rem', nI_div', nI_nz, remN, clampN, inb_nI, Nat.not_lt_zero, Nat.zero_le, Nat.le_zero_eq, if_true, if_false, m1_lt0, m1_eq, t_ite, f_ite, Bool.not_false, Bool.not_true, nI_and, nI_or, nI_xor, nI_shl1, nI_shr, nI_ushr, nI_not, nI_and_p2, Nat.one_mul, vrf_s, vrf_n, oF_174, oO_174, oA_175, oS_175, oA_176, oS_176, oA_177, oS_177, oA_178, oS_178, oA_179, oS_179, oA_180, oS_180, oA_181, oS_181, oA_182, oS_182, oA_183, oS_183, oA_184, oS_184, oA_185, oS_185, oA_186, oS_186, oA_187, oS_187, oA_188, oS_188, mO_M_those, mO_M_bits, mO_M_against, mO_M_restingOn, g4.1.nm, x_those g4 (show 1 < 3 by decide), hk, x_bits hu, t4]
  simp (disch := omega) only [r_M_name_62, r_M_name_62n, r_M_name_63, r_M_name_66, r_M_name_67, r_M_name_67n, r_M_name_68, r_M_name_69, r_M_name_72, r_M_name_72n, r_M_name_73, r_M_name_74, r_M_name_77, r_M_name_78, r_M_name_81, bnd, tl_s, tl_n, wt_nil, wt_int, wt_ref, wt_null, wt_long, Nat.reduceAdd, Nat.reduceLeDiff, if_true, if_false, decide_true, Bool.true_and, Bool.and_true, zok_n0, zok_n1, zok_bI, bI_eq0, bI_eq1, Bool.true_eq_false, Bool.false_eq_true, not_false_eq_true, not_true_eq_false, decide_false, decide_eq_false_iff_not, decide_eq_true_eq, Classical.not_not, ite_not, lit, Nat.reduceEqDiff, Nat.reduceLT, nI_add, nI_lt', nI_le', nI_eq', nI_sub', pk_mul, nI_rem', nI_div', nI_nz, remN, clampN, inb_nI, Nat.not_lt_zero, Nat.zero_le, Nat.le_zero_eq, if_true, if_false, m1_lt0, m1_eq, t_ite, f_ite, Bool.not_false, Bool.not_true, nI_and, nI_or, nI_xor, nI_shl1, nI_shr, nI_ushr, nI_not, nI_and_p2, Nat.one_mul, vrf_s, vrf_n, oF_174, oO_174, oA_175, oS_175, oA_176, oS_176, oA_177, oS_177, oA_178, oS_178, oA_179, oS_179, oA_180, oS_180, oA_181, oS_181, oA_182, oS_182, oA_183, oS_183, oA_184, oS_184, oA_185, oS_185, oA_186, oS_186, oA_187, oS_187, oA_188, oS_188, mO_M_those, mO_M_bits, mO_M_against, mO_M_restingOn, g5.1.nm, x_against g5 hp8, x_those g5 (show 1 < 3 by decide), hk, x_bits ha, t5]
  simp (disch := omega) only [r_M_name_82, r_M_name_82n, r_M_name_83, r_M_name_86, r_M_name_88, r_M_name_88n, r_M_name_89, r_M_name_92, r_M_name_94, r_M_name_95, r_M_name_96, r_M_name_97, r_M_name_100, bnd, tl_s, tl_n, wt_nil, wt_int, wt_ref, wt_null, wt_long, Nat.reduceAdd, Nat.reduceLeDiff, if_true, if_false, decide_true, Bool.true_and, Bool.and_true, zok_n0, zok_n1, zok_bI, bI_eq0, bI_eq1, Bool.true_eq_false, Bool.false_eq_true, not_false_eq_true, not_true_eq_false, decide_false, decide_eq_false_iff_not, decide_eq_true_eq, Classical.not_not, ite_not, lit, Nat.reduceEqDiff, Nat.reduceLT, nI_add, nI_lt', nI_le', nI_eq', nI_sub', pk_mul, nI_rem', nI_div', nI_nz, remN, clampN, inb_nI, Nat.not_lt_zero, Nat.zero_le, Nat.le_zero_eq, if_true, if_false, m1_lt0, m1_eq, t_ite, f_ite, Bool.not_false, Bool.not_true, nI_and, nI_or, nI_xor, nI_shl1, nI_shr, nI_ushr, nI_not, nI_and_p2, Nat.one_mul, vrf_s, vrf_n, oF_174, oO_174, oA_175, oS_175, oA_176, oS_176, oA_177, oS_177, oA_178, oS_178, oA_179, oS_179, oA_180, oS_180, oA_181, oS_181, oA_182, oS_182, oA_183, oS_183, oA_184, oS_184, oA_185, oS_185, oA_186, oS_186, oA_187, oS_187, oA_188, oS_188, mO_M_those, mO_M_bits, mO_M_against, mO_M_restingOn, g6.f, g6.1.nm, g6.rs hp, x_bits (h.okp.r8 hp), t6]
  simp (disch := omega) only [r_M_name_101, r_M_name_101n, r_M_name_102, r_M_name_105, r_M_name_107, r_M_name_107n, r_M_name_108, r_M_name_109, r_M_name_112, r_M_name_112n, r_M_name_113, r_M_name_114, r_M_name_117, r_M_name_118, r_M_name_121, r_M_name_122, bnd, tl_s, tl_n, wt_nil, wt_int, wt_ref, wt_null, wt_long, Nat.reduceAdd, Nat.reduceLeDiff, if_true, if_false, decide_true, Bool.true_and, Bool.and_true, zok_n0, zok_n1, zok_bI, bI_eq0, bI_eq1, Bool.true_eq_false, Bool.false_eq_true, not_false_eq_true, not_true_eq_false, decide_false, decide_eq_false_iff_not, decide_eq_true_eq, Classical.not_not, ite_not, lit, Nat.reduceEqDiff, Nat.reduceLT, nI_add, nI_lt', nI_le', nI_eq', nI_sub', pk_mul, nI_rem', nI_div', nI_nz, remN, clampN, inb_nI, Nat.not_lt_zero, Nat.zero_le, Nat.le_zero_eq, if_true, if_false, m1_lt0, m1_eq, t_ite, f_ite, Bool.not_false, Bool.not_true, nI_and, nI_or, nI_xor, nI_shl1, nI_shr, nI_ushr, nI_not, nI_and_p2, Nat.one_mul, vrf_s, vrf_n, oF_174, oO_174, oA_175, oS_175, oA_176, oS_176, oA_177, oS_177, oA_178, oS_178, oA_179, oS_179, oA_180, oS_180, oA_181, oS_181, oA_182, oS_182, oA_183, oS_183, oA_184, oS_184, oA_185, oS_185, oA_186, oS_186, oA_187, oS_187, oA_188, oS_188, mO_M_those, mO_M_bits, mO_M_against, mO_M_restingOn, g7.1.nm, x_restingOn g7 hp8, x_those g7 (show 1 < 3 by decide), hk, x_bits hr, t7]
  rfl
theorem MT.dP {P : Nat → Nat → Prop} {x : Tx} (h : MT M T x) (hd : D P M M') (h0 : ∀ j, ¬ P 177 j) : MT M' T x := by
  obtain ⟨a1, a2, a3, a4, a5⟩ := h
  have key : ∀ law, LwM M T law x → LwM M' T law x := by
    intro law hl
    unfold LwM at hl ⊢
    cases e : tL x law with
    | none => rw [e] at hl; exact hl
    | some g =>
      rw [e] at hl
      obtain ⟨C, b1, b2, b3, cm, cnt, f, t, b4, b5, b6, b7, b8, b9⟩ := hl
      exact ⟨C, b1, b2, b3, cm, cnt, f, t, b4.dP hd h0, b5, b6, (hd.i (h0 _)).trans b7, (hd.i (h0 _)).trans b8, b9⟩
  exact ⟨a1, (hd.i (h0 _)).trans a2, fun i hi => ⟨(hd.i (h0 _)).trans (a3 i hi).1, fun z => (hd.i (h0 _)).trans ((a3 i hi).2.1 z), fun z => (hd.i (h0 _)).trans ((a3 i hi).2.2 z)⟩, key 0 a4, key 1 a5⟩
theorem x_says {x : Tx} {law : Nat} {w lo hi : Int32} (hK : KM M n W Rs m) (hp : p < n) (hT4 : T < 4) (hl : law < 2) (hx : MT M T x) (hnm : ∀ v, v < 8 → gI M 180 v = nI (nmv n W Rs m p v)) : ∃ M', D PMV M M' ∧ ev (d + 5) m_M_says [.ref 174, .int (nI T), .int (nI law), .int w, .int lo, .int hi] NX M = some (some (.int (iI (clm lo.toInt hi.toInt (match tL x law with | none => w.toInt | some g => g (env n W Rs m p))))), NX, M') := by
  have hx' := hx
  obtain ⟨a1, a2, a3, a4, a5⟩ := hx
  have h24 := a1.1
  have hlw : LwM M T law x := by
    have : law = 0 ∨ law = 1 := by omega
    rcases this with rfl | rfl
    · exact a4
    · exact a5
  have htx := hK.1.tx
  have step : ∀ i, i < tN x → (tC x i).1 ≠ law → run (ev (d + 4)) m_M_says 3 [some (.ref 174), some (.int (nI T)), some (.int (nI law)), some (.int w), some (.int lo), some (.int hi), some (.int (nI i))] [] NX M = run (ev (d + 4)) m_M_says 3 [some (.ref 174), some (.int (nI T)), some (.int (nI law)), some (.int w), some (.int lo), some (.int hi), some (.int (nI (i + 1)))] [] NX M := by
    intro i hi hne
    have hni : ¬ tN x ≤ i := by omega
    have hk8 := (a1.2 i hi).1
    rw [r_M_says_3]
    simp (disch := omega) only [r_M_says_4, r_M_says_7, r_M_says_9, r_M_says_9n, r_M_says_10, r_M_says_13, r_M_says_16, r_M_says_17, r_M_says_18, r_M_says_19, r_M_says_22, r_M_says_22n, r_M_says_23, r_M_says_26, r_M_says_29, r_M_says_30, r_M_says_31, r_M_says_32, r_M_says_33, r_M_says_34, r_M_says_36, r_M_says_37, r_M_says_38, r_M_says_39, r_M_says_40, r_M_says_43, r_M_says_43n, r_M_says_44, r_M_says_45, r_M_says_47, r_M_says_50, r_M_says_52, r_M_says_54, r_M_says_57, r_M_says_58, r_M_says_61, bnd, tl_s, tl_n, wt_nil, wt_int, wt_ref, wt_null, wt_long, Nat.reduceAdd, Nat.reduceLeDiff, if_true, if_false, decide_true, Bool.true_and, Bool.and_true, zok_n0, zok_n1, zok_bI, bI_eq0, bI_eq1, Bool.true_eq_false, Bool.false_eq_true, not_false_eq_true, not_true_eq_false, decide_false, decide_eq_false_iff_not, decide_eq_true_eq, Classical.not_not, ite_not, lit, Nat.reduceEqDiff, Nat.reduceLT, nI_add, nI_lt', nI_le', nI_eq', nI_sub', pk_mul, nI_rem', nI_div', nI_nz, remN, clampN, inb_nI, Nat.not_lt_zero, Nat.zero_le, Nat.le_zero_eq, if_true, if_false, m1_lt0, m1_eq, t_ite, f_ite, Bool.not_false, Bool.not_true, nI_and, nI_or, nI_xor, nI_shl1, nI_shr, nI_ushr, nI_not, nI_and_p2, Nat.one_mul, vrf_s, vrf_n, oF_174, oO_174, oA_175, oS_175, oA_176, oS_176, oA_177, oS_177, oA_178, oS_178, oA_179, oS_179, oA_180, oS_180, oA_181, oS_181, oA_182, oS_182, oA_183, oS_183, oA_184, oS_184, oA_185, oS_185, oA_186, oS_186, oA_187, oS_187, oA_188, oS_188, mO_M_summedUp, mO_M_cut, htx, a2, hni, (a3 i hi).1, hne]
  have hw := fb_rng w
  have hcutw : ev (d + 4) m_M_cut [.long w.toInt64, .int lo, .int hi] NX M = some (some (.int (iI (clm lo.toInt hi.toInt w.toInt))), NX, M) := by
    have e1 : w.toInt64 = iL w.toInt := by conv => lhs; rw [iI_of w]
                                           exact iI_l hw.1 hw.2
    rw [e1]
    exact x_cut (by omega) (by omega)
  unfold LwM at hlw
  cases e : tL x law with
  | none =>
    rw [e] at hlw
    refine ⟨M, D.rfl', ?_⟩
    rw [e_M_says]
    simp (disch := omega) only [r_M_says_0, r_M_says_1, bnd, tl_s, tl_n, wt_nil, wt_int, wt_ref, wt_null, wt_long, Nat.reduceAdd, Nat.reduceLeDiff, if_true, if_false, decide_true, Bool.true_and, Bool.and_true, zok_n0, zok_n1, zok_bI, bI_eq0, bI_eq1, Bool.true_eq_false, Bool.false_eq_true, not_false_eq_true, not_true_eq_false, decide_false, decide_eq_false_iff_not, decide_eq_true_eq, Classical.not_not, ite_not, lit, Nat.reduceEqDiff, Nat.reduceLT, nI_add, nI_lt', nI_le', nI_eq', nI_sub', pk_mul, nI_rem', nI_div', nI_nz, remN, clampN, inb_nI, Nat.not_lt_zero, Nat.zero_le, Nat.le_zero_eq, if_true, if_false, m1_lt0, m1_eq, t_ite, f_ite, Bool.not_false, Bool.not_true, nI_and, nI_or, nI_xor, nI_shl1, nI_shr, nI_ushr, nI_not, nI_and_p2, Nat.one_mul, vrf_s, vrf_n, oF_174, oO_174, oA_175, oS_175, oA_176, oS_176, oA_177, oS_177, oA_178, oS_178, oA_179, oS_179, oA_180, oS_180, oA_181, oS_181, oA_182, oS_182, oA_183, oS_183, oA_184, oS_184, oA_185, oS_185, oA_186, oS_186, oA_187, oS_187, oA_188, oS_188, mO_M_summedUp, mO_M_cut]
    refine (lp0 (R := fun i => run (ev (d + 4)) m_M_says 3 [some (.ref 174), some (.int (nI T)), some (.int (nI law)), some (.int w), some (.int lo), some (.int hi), some (.int (nI i))] [] NX M) (n := tN x) (fun i hi => step i hi (hlw i hi))).trans ?_
    try dsimp only
    rw [r_M_says_3]
    simp (disch := omega) only [r_M_says_4, r_M_says_7, r_M_says_9, r_M_says_9n, r_M_says_10, r_M_says_13, r_M_says_16, r_M_says_17, r_M_says_18, r_M_says_19, r_M_says_64, r_M_says_65, r_M_says_66, r_M_says_68, r_M_says_70, r_M_says_73, bnd, tl_s, tl_n, wt_nil, wt_int, wt_ref, wt_null, wt_long, Nat.reduceAdd, Nat.reduceLeDiff, if_true, if_false, decide_true, Bool.true_and, Bool.and_true, zok_n0, zok_n1, zok_bI, bI_eq0, bI_eq1, Bool.true_eq_false, Bool.false_eq_true, not_false_eq_true, not_true_eq_false, decide_false, decide_eq_false_iff_not, decide_eq_true_eq, Classical.not_not, ite_not, lit, Nat.reduceEqDiff, Nat.reduceLT, nI_add, nI_lt', nI_le', nI_eq', nI_sub', pk_mul, nI_rem', nI_div', nI_nz, remN, clampN, inb_nI, Nat.not_lt_zero, Nat.zero_le, Nat.le_zero_eq, if_true, if_false, m1_lt0, m1_eq, t_ite, f_ite, Bool.not_false, Bool.not_true, nI_and, nI_or, nI_xor, nI_shl1, nI_shr, nI_ushr, nI_not, nI_and_p2, Nat.one_mul, vrf_s, vrf_n, oF_174, oO_174, oA_175, oS_175, oA_176, oS_176, oA_177, oS_177, oA_178, oS_178, oA_179, oS_179, oA_180, oS_180, oA_181, oS_181, oA_182, oS_182, oA_183, oS_183, oA_184, oS_184, oA_185, oS_185, oA_186, oS_186, oA_187, oS_187, oA_188, oS_188, mO_M_summedUp, mO_M_cut, htx, a2, Nat.le_refl, hcutw]
  | some g =>
    rw [e] at hlw
    obtain ⟨C, b1, b2, b3, cm, cnt, f, t, b4, b5, b6, b7, b8, b9, b10⟩ := hlw
    obtain ⟨M', d1, d2⟩ := x_summedUp (d := d) hK hp hT4 (by omega) b4 b5 b6 b7 b8 b9 hnm
    refine ⟨M', d1, ?_⟩
    have hv := b10 _ (env_ok (p := p) hK.okp hK.okm hp)
    have hcut := x_cut (d := d + 3) (M := M') (v := g (env n W Rs m p)) (lo := lo) (hi := hi) (by have := hv.1; omega) (by have := hv.2; omega)
    have hnC : ¬ tN x ≤ C := by omega
    rw [e_M_says]
    simp (disch := omega) only [r_M_says_0, r_M_says_1, bnd, tl_s, tl_n, wt_nil, wt_int, wt_ref, wt_null, wt_long, Nat.reduceAdd, Nat.reduceLeDiff, if_true, if_false, decide_true, Bool.true_and, Bool.and_true, zok_n0, zok_n1, zok_bI, bI_eq0, bI_eq1, Bool.true_eq_false, Bool.false_eq_true, not_false_eq_true, not_true_eq_false, decide_false, decide_eq_false_iff_not, decide_eq_true_eq, Classical.not_not, ite_not, lit, Nat.reduceEqDiff, Nat.reduceLT, nI_add, nI_lt', nI_le', nI_eq', nI_sub', pk_mul, nI_rem', nI_div', nI_nz, remN, clampN, inb_nI, Nat.not_lt_zero, Nat.zero_le, Nat.le_zero_eq, if_true, if_false, m1_lt0, m1_eq, t_ite, f_ite, Bool.not_false, Bool.not_true, nI_and, nI_or, nI_xor, nI_shl1, nI_shr, nI_ushr, nI_not, nI_and_p2, Nat.one_mul, vrf_s, vrf_n, oF_174, oO_174, oA_175, oS_175, oA_176, oS_176, oA_177, oS_177, oA_178, oS_178, oA_179, oS_179, oA_180, oS_180, oA_181, oS_181, oA_182, oS_182, oA_183, oS_183, oA_184, oS_184, oA_185, oS_185, oA_186, oS_186, oA_187, oS_187, oA_188, oS_188, mO_M_summedUp, mO_M_cut]
    refine (lp0 (R := fun i => run (ev (d + 4)) m_M_says 3 [some (.ref 174), some (.int (nI T)), some (.int (nI law)), some (.int w), some (.int lo), some (.int hi), some (.int (nI i))] [] NX M) (n := C) (fun i hi => step i (by omega) (b3 i hi))).trans ?_
    try dsimp only
    rw [r_M_says_3]
    simp (disch := omega) only [r_M_says_4, r_M_says_7, r_M_says_9, r_M_says_9n, r_M_says_10, r_M_says_13, r_M_says_16, r_M_says_17, r_M_says_18, r_M_says_19, r_M_says_22, r_M_says_22n, r_M_says_23, r_M_says_26, r_M_says_29, r_M_says_30, r_M_says_31, r_M_says_32, r_M_says_33, r_M_says_34, r_M_says_36, r_M_says_37, r_M_says_38, r_M_says_39, r_M_says_40, r_M_says_43, r_M_says_43n, r_M_says_44, r_M_says_45, r_M_says_47, r_M_says_50, r_M_says_52, r_M_says_54, r_M_says_57, bnd, tl_s, tl_n, wt_nil, wt_int, wt_ref, wt_null, wt_long, Nat.reduceAdd, Nat.reduceLeDiff, if_true, if_false, decide_true, Bool.true_and, Bool.and_true, zok_n0, zok_n1, zok_bI, bI_eq0, bI_eq1, Bool.true_eq_false, Bool.false_eq_true, not_false_eq_true, not_true_eq_false, decide_false, decide_eq_false_iff_not, decide_eq_true_eq, Classical.not_not, ite_not, lit, Nat.reduceEqDiff, Nat.reduceLT, nI_add, nI_lt', nI_le', nI_eq', nI_sub', pk_mul, nI_rem', nI_div', nI_nz, remN, clampN, inb_nI, Nat.not_lt_zero, Nat.zero_le, Nat.le_zero_eq, if_true, if_false, m1_lt0, m1_eq, t_ite, f_ite, Bool.not_false, Bool.not_true, nI_and, nI_or, nI_xor, nI_shl1, nI_shr, nI_ushr, nI_not, nI_and_p2, Nat.one_mul, vrf_s, vrf_n, oF_174, oO_174, oA_175, oS_175, oA_176, oS_176, oA_177, oS_177, oA_178, oS_178, oA_179, oS_179, oA_180, oS_180, oA_181, oS_181, oA_182, oS_182, oA_183, oS_183, oA_184, oS_184, oA_185, oS_185, oA_186, oS_186, oA_187, oS_187, oA_188, oS_188, mO_M_summedUp, mO_M_cut, htx, a2, hnC, (a3 C b1).1, b2, d2, hcut]
theorem x_says_n {law : Nat} {w lo hi : Int32} : ev (d + 2) m_M_says [.ref 174, .int (-nI 1), .int (nI law), .int w, .int lo, .int hi] NX M = some (some (.int (iI (clm lo.toInt hi.toInt w.toInt))), NX, M) := by
  have hw := fb_rng w
  have hcutw : ev (d + 1) m_M_cut [.long w.toInt64, .int lo, .int hi] NX M = some (some (.int (iI (clm lo.toInt hi.toInt w.toInt))), NX, M) := by
    have e1 : w.toInt64 = iL w.toInt := by conv => lhs; rw [iI_of w]
                                           exact iI_l hw.1 hw.2
    rw [e1]
    exact x_cut (by omega) (by omega)
  rw [e_M_says]
  simp (disch := omega) only [r_M_says_0, r_M_says_1, r_M_says_3, r_M_says_4, r_M_says_64, r_M_says_65, r_M_says_66, r_M_says_68, r_M_says_70, r_M_says_73, bnd, tl_s, tl_n, wt_nil, wt_int, wt_ref, wt_null, wt_long, Nat.reduceAdd, Nat.reduceLeDiff, if_true, if_false, decide_true, Bool.true_and, Bool.and_true, zok_n0, zok_n1, zok_bI, bI_eq0, bI_eq1, Bool.true_eq_false, Bool.false_eq_true, not_false_eq_true, not_true_eq_false, decide_false, decide_eq_false_iff_not, decide_eq_true_eq, Classical.not_not, ite_not, lit, Nat.reduceEqDiff, Nat.reduceLT, nI_add, nI_lt', nI_le', nI_eq', nI_sub', pk_mul, nI_rem', nI_div', nI_nz, remN, clampN, inb_nI, Nat.not_lt_zero, Nat.zero_le, Nat.le_zero_eq, if_true, if_false, m1_lt0, m1_eq, t_ite, f_ite, Bool.not_false, Bool.not_true, nI_and, nI_or, nI_xor, nI_shl1, nI_shr, nI_ushr, nI_not, nI_and_p2, Nat.one_mul, vrf_s, vrf_n, oF_174, oO_174, oA_175, oS_175, oA_176, oS_176, oA_177, oS_177, oA_178, oS_178, oA_179, oS_179, oA_180, oS_180, oA_181, oS_181, oA_182, oS_182, oA_183, oS_183, oA_184, oS_184, oA_185, oS_185, oA_186, oS_186, oA_187, oS_187, oA_188, oS_188, mO_M_summedUp, mO_M_cut, hcutw]
end SY
