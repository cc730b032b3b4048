/-! HOURS: the reference's moment -/
def Pp (k j : Nat) : Prop := ((k = 174 ∧ j = 25) ∨ (180 ≤ k ∧ k ≤ 182)) ∨ (k = 175 ∧ ((6 ≤ j ∧ j < 26) ∨ (1565 ≤ j ∧ j < 1595)))
theorem D.pp {M M' : Mem} (h : D (fun k j => (k = 174 ∧ j = 25) ∨ (180 ≤ k ∧ k ≤ 182)) M M') : D Pp M M' := h.mono (fun k j z => Or.inl z)
def Pn (k _ : Nat) : Prop := 180 ≤ k ∧ k ≤ 182
theorem D.ns {M M' : Mem} (h : D Pn M M') : D PSM M M' := h.mono (fun k j z => by unfold Pn at z; unfold PSM; omega)
def BB (s : St) (mb : Mo) : Prop := mCn mb = mCn (sNow s) ∧ mBk mb = mBk (sNow s)
/-- the reference with a moment; its book may lag behind -/
def MW (wf : Bool) (X : Mem) (s : St) (T : Nat → Tx) (m mb : Mo) : Prop := KM X (sN s) (sW s) (sRs s) mb ∧ mBkS m (mCn mb) (mBk mb) = mb ∧ ((wf = true → mb = m) ∧ (wf = false → BB s mb)) ∧ OkM (sN s) m ∧ gI X 174 24 = bI wf ∧ gI X 175 2 = sRl s ∧ (rlOk (sTc s) (sRl s) ∧ sTc s ≤ 4) ∧ ∀ t, t < sTc s → MT X t (T t)
section HM
variable {d : Nat} {M M' : Mem} {s : St} {T : Nat → Tx} {m m' mb : Mo} {wf : Bool} {n : Nat} {W Rs : Nat → Nat}
theorem kmSet (h : KM M n W Rs m) (hd : D Pp M M') (hm : MM M' 175 6 1565 m') (ho : OkM n m') : KM M' n W Rs m' :=
  ⟨h.1.D hd (fun j z => by unfold Pp at z; omega), h.2.1.D h.n8 hd (by unfold Pp; omega) (fun j _ _ => by unfold Pp; omega), hm, h.okp, ho⟩
theorem MW.set {mb' : Mo} (h : MW wf M s T m mb) (hd : D Pp M M') (hm : MM M' 175 6 1565 mb') (hob : OkM (sN s) mb') (hs : mBkS m' (mCn mb') (mBk mb') = mb') (hw : (wf = true → mb' = m') ∧ (wf = false → BB s mb')) (ho : OkM (sN s) m') : MW wf M' s T m' mb' := by
  obtain ⟨a1, a2, a3, a4, a5, a6, a7, a8⟩ := h
  exact ⟨kmSet a1 hd hm hob, hs, hw, ho, (hd.i (by unfold Pp; omega)).trans a5, (hd.i (by unfold Pp; omega)).trans a6, a7, fun t ht => (a8 t ht).dP hd (fun j => by unfold Pp; omega)⟩
theorem MW.same (h : MW wf M s T m mb) (hd : D PSM M M') : MW wf M' s T m mb := by
  obtain ⟨a1, a2, a3, a4, a5, a6, a7, a8⟩ := h
  exact ⟨kmM a1 hd, a2, a3, a4, (hd.i (by unfold PSM; omega)).trans a5, (hd.i (by unfold PSM; omega)).trans a6, a7, fun t ht => (a8 t ht).dP hd (fun j => by unfold PSM; omega)⟩
theorem mm_x (h : MM M 175 6 1565 m) (x : Nat) : MM (sI M 175 7 (nI x)) 175 6 1565 (mXxS m x) := by
  have hd : D (fun k j => k = 175 ∧ j = 7) M (sI M 175 7 (nI x)) := D.rfl'.sI ⟨rfl, rfl⟩
  obtain ⟨a0, a1, a2, a3, a4, a5, a6⟩ := h
  exact ⟨(hd.i (by omega)).trans a0, gI_sI_eq, (hd.i (by omega)).trans a2, (hd.i (by omega)).trans a3, fun p hp => (hd.i (by omega)).trans (a4 p hp), fun p hp => (hd.i (by omega)).trans (a5 p hp), fun k hk => (hd.i (by omega)).trans (a6 k hk)⟩
theorem mm_w (h : MM M 175 6 1565 m) (x : Nat) : MM (sI M 175 8 (nI x)) 175 6 1565 (mWdS m x) := by
  have hd : D (fun k j => k = 175 ∧ j = 8) M (sI M 175 8 (nI x)) := D.rfl'.sI ⟨rfl, rfl⟩
  obtain ⟨a0, a1, a2, a3, a4, a5, a6⟩ := h
  exact ⟨(hd.i (by omega)).trans a0, (hd.i (by omega)).trans a1, gI_sI_eq, (hd.i (by omega)).trans a3, fun p hp => (hd.i (by omega)).trans (a4 p hp), fun p hp => (hd.i (by omega)).trans (a5 p hp), fun k hk => (hd.i (by omega)).trans (a6 k hk)⟩
theorem mm_h (h : MM M 175 6 1565 m) (x : Nat) : MM (sI M 175 6 (nI x)) 175 6 1565 (mHrS m x) := by
  have hd : D (fun k j => k = 175 ∧ j = 6) M (sI M 175 6 (nI x)) := D.rfl'.sI ⟨rfl, rfl⟩
  obtain ⟨a0, a1, a2, a3, a4, a5, a6⟩ := h
  exact ⟨gI_sI_eq, (hd.i (by omega)).trans a1, (hd.i (by omega)).trans a2, (hd.i (by omega)).trans a3, fun p hp => (hd.i (by omega)).trans (a4 p hp), fun p hp => (hd.i (by omega)).trans (a5 p hp), fun k hk => (hd.i (by omega)).trans (a6 k hk)⟩
theorem mm_how {p v u c : Nat} (h : MM M 175 6 1565 m) (hp : p < 8) (hv : ∀ q, q < 8 → how (mUpS (mCoS m c) u) q = if q = p then v else how m q) : MM (sI M 175 (10 + p) (nI v)) 175 6 1565 (mUpS (mCoS m c) u) := by
  have hd : D (fun k j => k = 175 ∧ j = 10 + p) M (sI M 175 (10 + p) (nI v)) := D.rfl'.sI ⟨rfl, rfl⟩
  obtain ⟨a0, a1, a2, a3, a4, a5, a6⟩ := h
  refine ⟨(hd.i (by omega)).trans a0, (hd.i (by omega)).trans a1, (hd.i (by omega)).trans a2, (hd.i (by omega)).trans a3, fun q hq => ?_, fun q hq => (hd.i (by omega)).trans (a5 q hq), fun k hk => (hd.i (by omega)).trans (a6 k hk)⟩
  rw [hv q hq]
  by_cases e : q = p
  · rw [if_pos e, e]; exact gI_sI_eq
  · rw [if_neg e]; exact (hd.i (by omega)).trans (a4 q hq)
theorem x_anew (h : KM M n W Rs m) : ev (d + 1) m_M_anew [.ref 174] NX M = some (none, NX, sI M 175 7 (nI (trn (mXx m)))) := by
  have hx := h.okm.2.2.2.2.2.2.1
  have e1 : (nI (mXx m)).toInt64 = lN (mXx m) := nI_l (by omega)
  have e2 : lN (mXx m * 593 + 461) - lN (mXx m * 593 + 461) / lN 30829 * lN 30829 = lN ((mXx m * 593 + 461) % 30829) := pk_lRem (by omega) (by decide) (by decide)
  have e3 : (lN 30829 = lN 0) = False := by rw [lN_eq' (by decide) (by decide)]; exact eq_false (by decide)
  rw [e_M_anew]
  simp (disch := omega) only [r_M_anew_0, r_M_anew_0n, r_M_anew_1, r_M_anew_4, r_M_anew_6, r_M_anew_6n, r_M_anew_7, r_M_anew_10, r_M_anew_12, r_M_anew_13, r_M_anew_14, r_M_anew_17, r_M_anew_18, r_M_anew_21, r_M_anew_22, r_M_anew_25, r_M_anew_26, r_M_anew_27, r_M_anew_28, bnd, tl_s, tl_n, wt_nil, wt_int, wt_ref, wt_null, wt_long, Nat.reduceAdd, Nat.reduceLeDiff, if_true, if_false, decide_true, Bool.true_and, Bool.and_true, zok_n0, zok_n1, zok_bI, bI_eq0, bI_eq1, Bool.true_eq_false, Bool.false_eq_true, not_false_eq_true, not_true_eq_false, decide_false, decide_eq_false_iff_not, decide_eq_true_eq, Classical.not_not, ite_not, lit, Nat.reduceEqDiff, Nat.reduceLT, nI_add, nI_lt', nI_le', nI_eq', nI_sub', pk_mul, nI_rem', nI_div', nI_nz, remN, clampN, inb_nI, Nat.not_lt_zero, Nat.zero_le, Nat.le_zero_eq, if_true, if_false, m1_lt0, m1_eq, t_ite, f_ite, Bool.not_false, Bool.not_true, nI_and, nI_or, nI_xor, nI_shl1, nI_shr, nI_ushr, nI_not, nI_and_p2, Nat.one_mul, vrf_s, vrf_n, oF_174, oO_174, oA_175, oS_175, oA_176, oS_176, oA_177, oS_177, oA_178, oS_178, oA_179, oS_179, oA_180, oS_180, oA_181, oS_181, oA_182, oS_182, oA_183, oS_183, oA_184, oS_184, oA_185, oS_185, oA_186, oS_186, oA_187, oS_187, oA_188, oS_188, h.f, h.x, e1, litL, lN_mul, lN_add, e2, e3, lN_i]
  rfl
theorem x_drawnBy (h : KM M n W Rs m) : ev (d + 2) m_M_drawnBy [.ref 174, .int (nI 10)] NX M = some (some (.int (nI (mXx m % 10))), NX, sI M 175 7 (nI (trn (mXx m)))) := by
  have hx := h.okm.2.2.2.2.2.2.1
  rw [e_M_drawnBy]
  simp (disch := omega) only [r_M_drawnBy_0, r_M_drawnBy_0n, r_M_drawnBy_1, r_M_drawnBy_4, r_M_drawnBy_6, r_M_drawnBy_7, r_M_drawnBy_8, r_M_drawnBy_9, r_M_drawnBy_10, r_M_drawnBy_10n, r_M_drawnBy_11, r_M_drawnBy_14, r_M_drawnBy_15, bnd, tl_s, tl_n, wt_nil, wt_int, wt_ref, wt_null, wt_long, Nat.reduceAdd, Nat.reduceLeDiff, if_true, if_false, decide_true, Bool.true_and, Bool.and_true, zok_n0, zok_n1, zok_bI, bI_eq0, bI_eq1, Bool.true_eq_false, Bool.false_eq_true, not_false_eq_true, not_true_eq_false, decide_false, decide_eq_false_iff_not, decide_eq_true_eq, Classical.not_not, ite_not, lit, Nat.reduceEqDiff, Nat.reduceLT, nI_add, nI_lt', nI_le', nI_eq', nI_sub', pk_mul, nI_rem', nI_div', nI_nz, remN, clampN, inb_nI, Nat.not_lt_zero, Nat.zero_le, Nat.le_zero_eq, if_true, if_false, m1_lt0, m1_eq, t_ite, f_ite, Bool.not_false, Bool.not_true, nI_and, nI_or, nI_xor, nI_shl1, nI_shr, nI_ushr, nI_not, nI_and_p2, Nat.one_mul, vrf_s, vrf_n, oF_174, oO_174, oA_175, oS_175, oA_176, oS_176, oA_177, oS_177, oA_178, oS_178, oA_179, oS_179, oA_180, oS_180, oA_181, oS_181, oA_182, oS_182, oA_183, oS_183, oA_184, oS_184, oA_185, oS_185, oA_186, oS_186, oA_187, oS_187, oA_188, oS_188, mO_M_anew, h.f, h.x, x_anew h]
theorem x_fallsR {p : Nat} (h : MW wf M s T m mb) (hp : p < sN s) : ∃ M', D Pn M M' ∧ ev (d + 6) m_M_fallsOf [.ref 174, .int (sRl s), .int (nI p)] NX M = some (some (.int (nI (fal (lwO (rlT s T) 1) (sN s) (sW s) (sRs s) m p))), NX, M') := by
  obtain ⟨a1, a2, a3, a4, a5, a6, ⟨a7, a7'⟩, a8⟩ := h
  have hfm : ∀ g, fal g (sN s) (sW s) (sRs s) mb p = fal g (sN s) (sW s) (sRs s) m p := fun g => by rw [← a2]; rfl
  have hn8 := a1.n8
  have hnm := x_name (d := d + 2) a1 hp
  have hd0 := D_nmM (M := M) (n := sN s) (W := sW s) (Rs := sRs s) (m := mb) (p := p)
  have hd0n : D Pn M (nmM M (sN s) (sW s) (sRs s) mb p) := D.rfl'.fI (fun j _ => by unfold Pn; omega)
  have hK0 := kmM a1 hd0
  have hw9 := a1.okp.2 p hp
  have hwd := a1.okm.2.2.2.2.1
  have ew : (nI (mWd mb) - nI (sW s p)).toInt = (mWd mb : Int) - (sW s p : Int) := pk_sub_toInt (by omega) (by omega)
  have z0 : (nI 0).toInt = 0 := by decide
  have z10 : (nI 10).toInt = 10 := by decide
  rcases a7 with hr | ⟨t, ht, hr⟩
  · have hsy := x_says_n (d := d + 3) (M := nmM M (sN s) (sW s) (sRs s) mb p) (law := 1) (w := nI (mWd mb) - nI (sW s p)) (lo := nI 0) (hi := nI 10)
    rw [ew, z0, z10, fal_I (g := none) (n := sN s) (Rs := sRs s), hfm] at hsy
    refine ⟨nmM M (sN s) (sW s) (sRs s) mb p, hd0n, ?_⟩
    have hrl : rlT s T = none := by unfold rlT; rw [if_pos hr]
    rw [hrl, hr, e_M_fallsOf]
    simp (disch := omega) only [r_M_fallsOf_0, r_M_fallsOf_0n, r_M_fallsOf_1, r_M_fallsOf_2, r_M_fallsOf_5, r_M_fallsOf_5n, r_M_fallsOf_6, r_M_fallsOf_7, r_M_fallsOf_8, r_M_fallsOf_8n, r_M_fallsOf_9, r_M_fallsOf_12, r_M_fallsOf_14, r_M_fallsOf_15, r_M_fallsOf_15n, r_M_fallsOf_16, r_M_fallsOf_19, r_M_fallsOf_21, r_M_fallsOf_22, r_M_fallsOf_23, r_M_fallsOf_24, r_M_fallsOf_25, r_M_fallsOf_26, r_M_fallsOf_28, r_M_fallsOf_31, bnd, tl_s, tl_n, wt_nil, wt_int, wt_ref, wt_null, wt_long, Nat.reduceAdd, Nat.reduceLeDiff, if_true, if_false, decide_true, Bool.true_and, Bool.and_true, zok_n0, zok_n1, zok_bI, bI_eq0, bI_eq1, Bool.true_eq_false, Bool.false_eq_true, not_false_eq_true, not_true_eq_false, decide_false, decide_eq_false_iff_not, decide_eq_true_eq, Classical.not_not, ite_not, lit, clampN, inb_nI, nI_add, oF_174, oO_174, oA_175, oS_175, mO_M_name, mO_M_says, vrf_s, hnm, hK0.f, hK0.wd, hK0.w hp, hsy]
    rfl
  · have hx := (a8 t ht).dP hd0 (fun j => by unfold PSM; omega)
    obtain ⟨M', d1, d2⟩ := x_says (d := d) (law := 1) (w := nI (mWd mb) - nI (sW s p)) (lo := nI 0) (hi := nI 10) hK0 hp (show t < 4 by omega) (by decide) hx (fun v hv => nmM_at hv)
    refine ⟨M', hd0n.trans (d1.mono (fun k j z => by unfold PMV at z; unfold Pn; omega)), ?_⟩
    have hrl : rlT s T = some (T t) := by unfold rlT; rw [if_neg (by rw [hr]; exact m1_ne (by omega)), hr, clampN (by omega)]
    have d2' : ev (d + 5) m_M_says [.ref 174, .int (nI t), .int (nI 1), .int (nI (mWd mb) - nI (sW s p)), .int (nI 0), .int (nI 10)] NX (nmM M (sN s) (sW s) (sRs s) mb p) = some (some (.int (nI (fal (tL (T t) 1) (sN s) (sW s) (sRs s) m p))), NX, M') := by
      rw [d2, ew, z0, z10, ← hfm, ← fal_I]
      cases tL (T t) 1 <;> rfl
    rw [hrl, hr, e_M_fallsOf]
    simp (disch := omega) only [r_M_fallsOf_0, r_M_fallsOf_0n, r_M_fallsOf_1, r_M_fallsOf_2, r_M_fallsOf_5, r_M_fallsOf_5n, r_M_fallsOf_6, r_M_fallsOf_7, r_M_fallsOf_8, r_M_fallsOf_8n, r_M_fallsOf_9, r_M_fallsOf_12, r_M_fallsOf_14, r_M_fallsOf_15, r_M_fallsOf_15n, r_M_fallsOf_16, r_M_fallsOf_19, r_M_fallsOf_21, r_M_fallsOf_22, r_M_fallsOf_23, r_M_fallsOf_24, r_M_fallsOf_25, r_M_fallsOf_26, r_M_fallsOf_28, r_M_fallsOf_31, bnd, tl_s, tl_n, wt_nil, wt_int, wt_ref, wt_null, wt_long, Nat.reduceAdd, Nat.reduceLeDiff, if_true, if_false, decide_true, Bool.true_and, Bool.and_true, zok_n0, zok_n1, zok_bI, bI_eq0, bI_eq1, Bool.true_eq_false, Bool.false_eq_true, not_false_eq_true, not_true_eq_false, decide_false, decide_eq_false_iff_not, decide_eq_true_eq, Classical.not_not, ite_not, lit, clampN, inb_nI, nI_add, oF_174, oO_174, oA_175, oS_175, mO_M_name, mO_M_says, vrf_s, hnm, hK0.f, hK0.wd, hK0.w hp, d2']
    rfl
theorem x_putsR {p : Nat} (h : MW wf M s T m mb) (hp : p < sN s) : ∃ M', D Pn M M' ∧ ev (d + 6) m_M_putsOf [.ref 174, .int (nI p)] NX M = some (some (.int (iI (putv (lwO (rlT s T) 0) (sN s) (sW s) (sRs s) m p))), NX, M') := by
  obtain ⟨a1, a2, a3, a4, a5, a6, ⟨a7, a7'⟩, a8⟩ := h
  have hfm : ∀ g, putv g (sN s) (sW s) (sRs s) mb p = putv g (sN s) (sW s) (sRs s) m p := fun g => by rw [← a2]; rfl
  have hn8 := a1.n8
  have hnm := x_name (d := d + 2) a1 hp
  have hd0 := D_nmM (M := M) (n := sN s) (W := sW s) (Rs := sRs s) (m := mb) (p := p)
  have hd0n : D Pn M (nmM M (sN s) (sW s) (sRs s) mb p) := D.rfl'.fI (fun j _ => by unfold Pn; omega)
  have hK0 := kmM a1 hd0
  have g2 := (hd0.i (k := 175) (j := 2) (by unfold PSM; omega)).trans a6
  have z1 : (nI 1).toInt = 1 := by decide
  have z0 : (-nI 99 : Int32).toInt = -99 := by decide
  have z10 : (nI 99).toInt = 99 := by decide
  rcases a7 with hr | ⟨t, ht, hr⟩
  · have hsy := x_says_n (d := d + 3) (M := nmM M (sN s) (sW s) (sRs s) mb p) (law := 0) (w := nI 1) (lo := -nI 99) (hi := nI 99)
    rw [z1, z0, z10] at hsy
    refine ⟨nmM M (sN s) (sW s) (sRs s) mb p, hd0n, ?_⟩
    have hrl : rlT s T = none := by unfold rlT; rw [if_pos hr]
    rw [hr] at g2
    rw [hrl, e_M_putsOf]
    simp (disch := omega) only [r_M_putsOf_0, r_M_putsOf_0n, r_M_putsOf_1, r_M_putsOf_2, r_M_putsOf_5, r_M_putsOf_5n, r_M_putsOf_6, r_M_putsOf_6n, r_M_putsOf_7, r_M_putsOf_10, r_M_putsOf_11, r_M_putsOf_12, r_M_putsOf_13, r_M_putsOf_14, r_M_putsOf_16, r_M_putsOf_18, r_M_putsOf_21, bnd, tl_s, tl_n, wt_nil, wt_int, wt_ref, wt_null, wt_long, Nat.reduceAdd, Nat.reduceLeDiff, if_true, if_false, decide_true, Bool.true_and, Bool.and_true, zok_n0, zok_n1, zok_bI, bI_eq0, bI_eq1, Bool.true_eq_false, Bool.false_eq_true, not_false_eq_true, not_true_eq_false, decide_false, decide_eq_false_iff_not, decide_eq_true_eq, Classical.not_not, ite_not, lit, clampN, inb_nI, oF_174, oO_174, oA_175, oS_175, mO_M_name, mO_M_says, vrf_s, hnm, hK0.f, g2, hsy]
    rfl
  · have hx := (a8 t ht).dP hd0 (fun j => by unfold PSM; omega)
    obtain ⟨M', d1, d2⟩ := x_says (d := d) (law := 0) (w := nI 1) (lo := -nI 99) (hi := nI 99) hK0 hp (show t < 4 by omega) (by decide) hx (fun v hv => nmM_at hv)
    refine ⟨M', hd0n.trans (d1.mono (fun k j z => by unfold PMV at z; unfold Pn; omega)), ?_⟩
    have hrl : rlT s T = some (T t) := by unfold rlT; rw [if_neg (by rw [hr]; exact m1_ne (by omega)), hr, clampN (by omega)]
    have d2' : ev (d + 5) m_M_says [.ref 174, .int (nI t), .int (nI 0), .int (nI 1), .int (-nI 99), .int (nI 99)] NX (nmM M (sN s) (sW s) (sRs s) mb p) = some (some (.int (iI (putv (tL (T t) 0) (sN s) (sW s) (sRs s) m p))), NX, M') := by
      rw [d2, z1, z0, z10, ← hfm]
      cases tL (T t) 0 <;> rfl
    rw [hr] at g2
    rw [hrl, e_M_putsOf]
    simp (disch := omega) only [r_M_putsOf_0, r_M_putsOf_0n, r_M_putsOf_1, r_M_putsOf_2, r_M_putsOf_5, r_M_putsOf_5n, r_M_putsOf_6, r_M_putsOf_6n, r_M_putsOf_7, r_M_putsOf_10, r_M_putsOf_11, r_M_putsOf_12, r_M_putsOf_13, r_M_putsOf_14, r_M_putsOf_16, r_M_putsOf_18, r_M_putsOf_21, bnd, tl_s, tl_n, wt_nil, wt_int, wt_ref, wt_null, wt_long, Nat.reduceAdd, Nat.reduceLeDiff, if_true, if_false, decide_true, Bool.true_and, Bool.and_true, zok_n0, zok_n1, zok_bI, bI_eq0, bI_eq1, Bool.true_eq_false, Bool.false_eq_true, not_false_eq_true, not_true_eq_false, decide_false, decide_eq_false_iff_not, decide_eq_true_eq, Classical.not_not, ite_not, lit, clampN, inb_nI, oF_174, oO_174, oA_175, oS_175, mO_M_name, mO_M_says, vrf_s, hnm, hK0.f, g2, d2']
    rfl
/-- a line more in the reference's book -/
theorem x_write1 {p a : Nat} (h : KM M n W Rs m) (hw : gI M 174 24 = nI 1) (hp : p < 8) (ha : a < 4) : ∃ M', D (fun k j => k = 175 ∧ (j = 9 ∨ (1565 ≤ j ∧ j < 1595))) M M' ∧ MM M' 175 6 1565 (wr m p a) ∧ ev (d + 1) m_M_write [.ref 174, .int (nI p), .int (nI a)] NX M = some (none, NX, M') := by
  have hcn := h.okm.2.2.2.2.2.2.2.1
  have hwd := h.okm.2.2.2.2.1
  have hhr := h.okm.2.2.2.2.2.1
  have hck := cnK_le hcn
  -- what stands in the book before the new line
  have pre : ∃ X, D (fun k j => k = 175 ∧ (j = 9 ∨ (1565 ≤ j ∧ j < 1595))) M X ∧ gI X 175 9 = nI (cnK m) ∧ (∀ k, k < cnK m → gI X 175 (1565 + k) = nI (mC (if mCn m = 30 then mBk m (k + 1) else mBk m k))) ∧ ∃ z, ev (d + 1) m_M_write [.ref 174, .int (nI p), .int (nI a)] NX M = run (ev d) m_M_write 67 [some (.ref 174), some (.int (nI p)), some (.int (nI a)), z] [] NX X := by
    by_cases h30 : mCn m = 30
    · have hk : cnK m = 29 := by unfold cnK; rw [if_pos h30]
      have g9 : gI M 175 9 = nI 30 := by rw [h.cn, h30]
      obtain ⟨X, ⟨x1, x2, x3⟩, x4⟩ := lpE (R := fun i (X : Mem) => run (ev d) m_M_write 22 [some (.ref 174), some (.int (nI p)), some (.int (nI a)), some (.int (nI (i + 1)))] [] NX X) (I := fun i X => D (fun k j => k = 175 ∧ (1565 ≤ j ∧ j < 1565 + 29)) M X ∧ (∀ k, k < i → gI X 175 (1565 + k) = nI (mC (mBk m (k + 1)))) ∧ ∀ k, i ≤ k → k < 30 → gI X 175 (1565 + k) = nI (mC (mBk m k))) (n := 29) (by
        intro i X hi ⟨x1, x2, x3⟩
        have hf := (x1.r (k := 174) (j := 0) (by omega)).trans h.f
        have hni : ¬ 30 ≤ i + 1 := by omega
        have hrd := x3 (i + 1) (by omega) (by omega)
        refine ⟨sI X 175 (1565 + i) (nI (mC (mBk m (i + 1)))), ⟨x1.sI ⟨rfl, by omega⟩, fun k hk => ?_, fun k h1 h2 => ?_⟩, ?_⟩
        · by_cases e : k = i
          · rw [e, gI_sI_eq]
          · rw [gI_sI_nj (by omega)]; exact x2 k (by omega)
        · rw [gI_sI_nj (by omega)]; exact x3 k (by omega) h2
        · have e1 : 1565 + (i + 1) - 1 = 1565 + i := by omega
          try dsimp only
          rw [r_M_write_22]
          simp (disch := omega) only [r_M_write_23, r_M_write_25, r_M_write_28, r_M_write_28n, r_M_write_29, r_M_write_32, r_M_write_35, r_M_write_36, r_M_write_37, r_M_write_38, r_M_write_39, r_M_write_39n, r_M_write_40, r_M_write_43, r_M_write_46, r_M_write_47, r_M_write_48, r_M_write_49, r_M_write_50, r_M_write_53, bnd, tl_s, tl_n, wt_nil, wt_int, wt_ref, wt_null, wt_long, Nat.reduceAdd, Nat.reduceLeDiff, if_true, if_false, decide_true, Bool.true_and, Bool.and_true, zok_n0, zok_n1, zok_bI, bI_eq0, bI_eq1, Bool.true_eq_false, Bool.false_eq_true, not_false_eq_true, not_true_eq_false, decide_false, decide_eq_false_iff_not, decide_eq_true_eq, Classical.not_not, ite_not, lit, Nat.reduceEqDiff, Nat.reduceLT, nI_add, nI_lt', nI_le', nI_eq', nI_sub', pk_mul, nI_rem', nI_div', nI_nz, remN, clampN, inb_nI, Nat.not_lt_zero, Nat.zero_le, Nat.le_zero_eq, if_true, if_false, m1_lt0, m1_eq, t_ite, f_ite, Bool.not_false, Bool.not_true, nI_and, nI_or, nI_xor, nI_shl1, nI_shr, nI_ushr, nI_not, nI_and_p2, Nat.one_mul, vrf_s, vrf_n, oF_174, oO_174, oA_175, oS_175, oA_176, oS_176, oA_177, oS_177, oA_178, oS_178, oA_179, oS_179, oA_180, oS_180, oA_181, oS_181, oA_182, oS_182, oA_183, oS_183, oA_184, oS_184, oA_185, oS_185, oA_186, oS_186, oA_187, oS_187, oA_188, oS_188, hf, hni, hrd, e1]) 29 0 M (by omega) ⟨D.rfl', fun k hk => by omega, fun k _ hk => h.bk (by omega)⟩
      have hf := (x1.r (k := 174) (j := 0) (by omega)).trans h.f
      have g9' := (x1.i (k := 175) (j := 9) (by omega)).trans g9
      refine ⟨sI X 175 9 (nI 29), (x1.mono (fun k j z => by omega)).sI ⟨rfl, Or.inl rfl⟩, by rw [hk, gI_sI_eq], fun k hk' => ?_, some (.int (nI 30)), ?_⟩
      · rw [if_pos h30, gI_sI_nj (by omega)]
        exact x2 k (by omega)
      · rw [e_M_write]
        simp (disch := omega) only [r_M_write_0, r_M_write_0n, r_M_write_1, r_M_write_4, r_M_write_7, r_M_write_8, r_M_write_8n, r_M_write_9, r_M_write_12, r_M_write_14, r_M_write_15, r_M_write_17, r_M_write_20, r_M_write_21, bnd, tl_s, tl_n, wt_nil, wt_int, wt_ref, wt_null, wt_long, Nat.reduceAdd, Nat.reduceLeDiff, if_true, if_false, decide_true, Bool.true_and, Bool.and_true, zok_n0, zok_n1, zok_bI, bI_eq0, bI_eq1, Bool.true_eq_false, Bool.false_eq_true, not_false_eq_true, not_true_eq_false, decide_false, decide_eq_false_iff_not, decide_eq_true_eq, Classical.not_not, ite_not, lit, Nat.reduceEqDiff, Nat.reduceLT, nI_add, nI_lt', nI_le', nI_eq', nI_sub', pk_mul, nI_rem', nI_div', nI_nz, remN, clampN, inb_nI, Nat.not_lt_zero, Nat.zero_le, Nat.le_zero_eq, if_true, if_false, m1_lt0, m1_eq, t_ite, f_ite, Bool.not_false, Bool.not_true, nI_and, nI_or, nI_xor, nI_shl1, nI_shr, nI_ushr, nI_not, nI_and_p2, Nat.one_mul, vrf_s, vrf_n, oF_174, oO_174, oA_175, oS_175, oA_176, oS_176, oA_177, oS_177, oA_178, oS_178, oA_179, oS_179, oA_180, oS_180, oA_181, oS_181, oA_182, oS_182, oA_183, oS_183, oA_184, oS_184, oA_185, oS_185, oA_186, oS_186, oA_187, oS_187, oA_188, oS_188, h.f, hw, g9]
        refine Eq.trans x4 ?_
        try dsimp only
        rw [r_M_write_22]
        simp (disch := omega) only [r_M_write_23, r_M_write_25, r_M_write_56, r_M_write_56n, r_M_write_57, r_M_write_60, r_M_write_62, r_M_write_63, r_M_write_64, r_M_write_65, r_M_write_66, bnd, tl_s, tl_n, wt_nil, wt_int, wt_ref, wt_null, wt_long, Nat.reduceAdd, Nat.reduceLeDiff, if_true, if_false, decide_true, Bool.true_and, Bool.and_true, zok_n0, zok_n1, zok_bI, bI_eq0, bI_eq1, Bool.true_eq_false, Bool.false_eq_true, not_false_eq_true, not_true_eq_false, decide_false, decide_eq_false_iff_not, decide_eq_true_eq, Classical.not_not, ite_not, lit, Nat.reduceEqDiff, Nat.reduceLT, nI_add, nI_lt', nI_le', nI_eq', nI_sub', pk_mul, nI_rem', nI_div', nI_nz, remN, clampN, inb_nI, Nat.not_lt_zero, Nat.zero_le, Nat.le_zero_eq, if_true, if_false, m1_lt0, m1_eq, t_ite, f_ite, Bool.not_false, Bool.not_true, nI_and, nI_or, nI_xor, nI_shl1, nI_shr, nI_ushr, nI_not, nI_and_p2, Nat.one_mul, vrf_s, vrf_n, oF_174, oO_174, oA_175, oS_175, oA_176, oS_176, oA_177, oS_177, oA_178, oS_178, oA_179, oS_179, oA_180, oS_180, oA_181, oS_181, oA_182, oS_182, oA_183, oS_183, oA_184, oS_184, oA_185, oS_185, oA_186, oS_186, oA_187, oS_187, oA_188, oS_188, hf, g9']
    · have hk : cnK m = mCn m := by unfold cnK; rw [if_neg h30]
      refine ⟨M, D.rfl', by rw [hk]; exact h.cn, fun k hk' => by rw [if_neg h30]; exact h.bk (by omega), none, ?_⟩
      rw [e_M_write]
      simp (disch := omega) only [r_M_write_0, r_M_write_0n, r_M_write_1, r_M_write_4, r_M_write_7, r_M_write_8, r_M_write_8n, r_M_write_9, r_M_write_12, r_M_write_14, r_M_write_15, r_M_write_17, bnd, tl_s, tl_n, wt_nil, wt_int, wt_ref, wt_null, wt_long, Nat.reduceAdd, Nat.reduceLeDiff, if_true, if_false, decide_true, Bool.true_and, Bool.and_true, zok_n0, zok_n1, zok_bI, bI_eq0, bI_eq1, Bool.true_eq_false, Bool.false_eq_true, not_false_eq_true, not_true_eq_false, decide_false, decide_eq_false_iff_not, decide_eq_true_eq, Classical.not_not, ite_not, lit, Nat.reduceEqDiff, Nat.reduceLT, nI_add, nI_lt', nI_le', nI_eq', nI_sub', pk_mul, nI_rem', nI_div', nI_nz, remN, clampN, inb_nI, Nat.not_lt_zero, Nat.zero_le, Nat.le_zero_eq, if_true, if_false, m1_lt0, m1_eq, t_ite, f_ite, Bool.not_false, Bool.not_true, nI_and, nI_or, nI_xor, nI_shl1, nI_shr, nI_ushr, nI_not, nI_and_p2, Nat.one_mul, vrf_s, vrf_n, oF_174, oO_174, oA_175, oS_175, oA_176, oS_176, oA_177, oS_177, oA_178, oS_178, oA_179, oS_179, oA_180, oS_180, oA_181, oS_181, oA_182, oS_182, oA_183, oS_183, oA_184, oS_184, oA_185, oS_185, oA_186, oS_186, oA_187, oS_187, oA_188, oS_188, h.f, hw, h.cn, h30]
  obtain ⟨X, x1, x2, x3, z, x4⟩ := pre
  have hf := (x1.r (k := 174) (j := 0) (by omega)).trans h.f
  have g6 := (x1.i (k := 175) (j := 6) (by omega)).trans h.hr
  have g8 := (x1.i (k := 175) (j := 8) (by omega)).trans h.wd
  have g9 : gI (sI X 175 (1565 + cnK m) (nI (mC (mHr m, p, a, mWd m)))) 175 9 = nI (cnK m) := by rw [gI_sI_nj (by omega)]; exact x2
  have hl : ((mHr m * 8 + p) * 4 + a) * 10 + mWd m = mC (mHr m, p, a, mWd m) := rfl
  have hd2 : D (fun k j => k = 175 ∧ (j = 9 ∨ (1565 ≤ j ∧ j < 1595))) M (sI (sI X 175 (1565 + cnK m) (nI (mC (mHr m, p, a, mWd m)))) 175 9 (nI (cnK m + 1))) := (x1.sI ⟨rfl, by omega⟩).sI ⟨rfl, Or.inl rfl⟩
  refine ⟨_, hd2, ?_, ?_⟩
  · refine ⟨(hd2.i (by omega)).trans h.hr, (hd2.i (by omega)).trans h.x, (hd2.i (by omega)).trans h.wd, gI_sI_eq, fun q hq => (hd2.i (by omega)).trans (h.how hq), fun q hq => (hd2.i (by omega)).trans (h.ob hq), fun k hk => ?_⟩
    have hk2 : k < cnK m + 1 := hk
    show gI _ 175 (1565 + k) = nI (mC (if k = cnK m then (mHr m, p, a, mWd m) else if mCn m = 30 then mBk m (k + 1) else mBk m k))
    rw [gI_sI_nj (by omega)]
    by_cases e : k = cnK m
    · rw [if_pos e, e, gI_sI_eq]
    · rw [if_neg e, gI_sI_nj (by omega)]
      exact x3 k (by omega)
  · rw [x4]
    simp (disch := omega) only [r_M_write_67, r_M_write_67n, r_M_write_68, r_M_write_71, r_M_write_74, r_M_write_74n, r_M_write_75, r_M_write_78, r_M_write_80, r_M_write_81, r_M_write_82, r_M_write_82n, r_M_write_83, r_M_write_86, r_M_write_88, r_M_write_89, r_M_write_91, r_M_write_92, r_M_write_93, r_M_write_94, r_M_write_95, r_M_write_96, r_M_write_97, r_M_write_98, r_M_write_100, r_M_write_101, r_M_write_101n, r_M_write_102, r_M_write_105, r_M_write_107, r_M_write_108, r_M_write_109, r_M_write_110, r_M_write_110n, r_M_write_111, r_M_write_114, r_M_write_116, r_M_write_117, r_M_write_118, r_M_write_119, r_M_write_120, r_M_write_121, bnd, tl_s, tl_n, wt_nil, wt_int, wt_ref, wt_null, wt_long, Nat.reduceAdd, Nat.reduceLeDiff, if_true, if_false, decide_true, Bool.true_and, Bool.and_true, zok_n0, zok_n1, zok_bI, bI_eq0, bI_eq1, Bool.true_eq_false, Bool.false_eq_true, not_false_eq_true, not_true_eq_false, decide_false, decide_eq_false_iff_not, decide_eq_true_eq, Classical.not_not, ite_not, lit, Nat.reduceEqDiff, Nat.reduceLT, nI_add, nI_lt', nI_le', nI_eq', nI_sub', pk_mul, nI_rem', nI_div', nI_nz, remN, clampN, inb_nI, Nat.not_lt_zero, Nat.zero_le, Nat.le_zero_eq, if_true, if_false, m1_lt0, m1_eq, t_ite, f_ite, Bool.not_false, Bool.not_true, nI_and, nI_or, nI_xor, nI_shl1, nI_shr, nI_ushr, nI_not, nI_and_p2, Nat.one_mul, vrf_s, vrf_n, oF_174, oO_174, oA_175, oS_175, oA_176, oS_176, oA_177, oS_177, oA_178, oS_178, oA_179, oS_179, oA_180, oS_180, oA_181, oS_181, oA_182, oS_182, oA_183, oS_183, oA_184, oS_184, oA_185, oS_185, oA_186, oS_186, oA_187, oS_187, oA_188, oS_188, hf, gR_sI, x2, g6, g8, g9, hl]
end HM
