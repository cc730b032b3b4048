/-! TEXT: the reference reads a law -/
section ZSU
variable {d : Nat} {M M' : Mem} {tb : Nat → Nat} {tl T law k w o : Nat} {cm : Nat → Nat × Nat} {P : List Nat} {x : Tx}
theorem CFe {p : List Nat} (h : RfS M tb tl T law k w (o + c20 p) cm (p ++ [])) (hp : ∀ y ∈ p, 1 ≤ rk y) (hw : w + p.length ≤ 304) : ∃ M', D (PRm T) M M' ∧ RfS M' tb tl T law k (w + p.length) o (emt cm w p) [] ∧ CFr d (-nI 1) M = some (some (.int (nI 0)), NX, M') := by
  have hop := x_openNow (d := d + 7) h
  rw [oNw_app hp, show oNw [] = -nI 1 from rfl] at hop
  obtain ⟨M1, b1, b2, b3⟩ := x_settle (d := d + 7) (l := 1) (by omega) h hp trivial hw
  have k1 : (-nI 1 ≤ nI 0) = True := eq_true (by decide)
  have k2 : (-nI 1 = nI 0) = False := eq_false (by decide)
  refine ⟨M1, b1, b2, ?_⟩
  unfold CFr
  simp (disch := omega) only [r_M_summed_34, r_M_summed_35, r_M_summed_38, r_M_summed_39, r_M_summed_40, r_M_summed_41, r_M_summed_44, r_M_summed_47, r_M_summed_47n, r_M_summed_48, r_M_summed_51, r_M_summed_54, r_M_summed_55, r_M_summed_56, r_M_summed_56n, r_M_summed_57, r_M_summed_58, r_M_summed_61, r_M_summed_62, bnd, tl_s, tl_n, wt_nil, wt_int, wt_ref, wt_null, wt_long, Nat.reduceAdd, Nat.reduceLeDiff, if_true, if_false, decide_true, Bool.true_and, Bool.and_true, zok_n0, zok_n1, zok_bI, bI_eq0, bI_eq1, Bool.true_eq_false, Bool.false_eq_true, not_false_eq_true, not_true_eq_false, decide_false, decide_eq_false_iff_not, decide_eq_true_eq, Classical.not_not, ite_not, lit, Nat.reduceEqDiff, Nat.reduceLT, nI_add, nI_lt', nI_le', nI_eq', nI_sub', pk_mul, nI_rem', nI_div', nI_nz, remN, clampN, inb_nI, Nat.not_lt_zero, Nat.zero_le, Nat.le_zero_eq, if_true, if_false, m1_lt0, m1_eq, t_ite, f_ite, Bool.not_false, Bool.not_true, nI_and, nI_or, nI_xor, nI_shl1, nI_shr, nI_ushr, nI_not, nI_and_p2, Nat.one_mul, vrf_s, vrf_n, oF_174, oO_174, oA_175, oS_175, oA_176, oS_176, oA_177, oS_177, oA_178, oS_178, oA_179, oS_179, oA_180, oS_180, oA_181, oS_181, oA_182, oS_182, oA_183, oS_183, oA_184, oS_184, oA_185, oS_185, oA_186, oS_186, oA_187, oS_187, oA_188, oS_188, mO_M_behindOne, mO_M_beginOne, mO_M_openNow, mO_M_settle, k1, k2, hop, b3]
/-- a law from its first token on -/
theorem x_summed (hT : TpM M tb tl) (hk : TkM M tb tl k) (h12 : gI M 174 12 = nI (681 * T)) (h14 : gI M 174 14 = nI law) (hT4 : T < 4) (hl2 : law < 2) (h13 : gI M 174 13 = nI w) (hD : TD M T cm w) (hwk : w ≤ k) (hk3 : k ≤ 300) : ∃ M', D (PRm T) M M' ∧ ev (d + 10) m_M_summed [.ref 174] NX M = some (some (.int (nI (smF (kdT tb tl) (lv (kdT tb tl) (vlT tb tl) law 8).1 k).1)), NX, M') ∧ ((smF (kdT tb tl) (lv (kdT tb tl) (vlT tb tl) law 8).1 k).1 ≠ 0 → gI M' 174 8 = nI (plT tb tl (smF (kdT tb tl) (lv (kdT tb tl) (vlT tb tl) law 8).1 k).2.1)) ∧ ((smF (kdT tb tl) (lv (kdT tb tl) (vlT tb tl) law 8).1 k).1 = 0 → ∃ w' cm', (w < w' ∧ w' + k ≤ w + (smF (kdT tb tl) (lv (kdT tb tl) (vlT tb tl) law 8).1 k).2.1 ∧ (smF (kdT tb tl) (lv (kdT tb tl) (vlT tb tl) law 8).1 k).2.1 ≤ 300) ∧ TkM M' tb tl (smF (kdT tb tl) (lv (kdT tb tl) (vlT tb tl) law 8).1 k).2.1 ∧ gI M' 174 13 = nI w' ∧ TD M' T cm' w' ∧ (∀ j, j < w → cm' j = cm j) ∧ MV cm' w w' (smF (kdT tb tl) (lv (kdT tb tl) (vlT tb tl) law 8).1 k).2.2) := by
  have hS : RfS (sI (sI (sI M 174 16 (nI 0)) 174 17 (nI 0)) 174 18 (nI 0)) tb tl T law k w 0 cm [] := by
    have hd : D (PRm T) M (sI (sI (sI M 174 16 (nI 0)) 174 17 (nI 0)) 174 18 (nI 0)) := ((D.rfl'.sI (Or.inl ⟨rfl, by omega⟩)).sI (Or.inl ⟨rfl, by omega⟩)).sI (Or.inl ⟨rfl, by omega⟩)
    refine ⟨tpm_D hT hd, tkm_sI (tkm_sI (tkm_sI hk (Or.inr (by decide))) (Or.inr (by decide))) (Or.inr (by decide)), ⟨(hd.i (by unfold PRm; omega)).trans h12, (hd.i (by unfold PRm; omega)).trans h14, hT4, hl2⟩, ⟨?_, trivial⟩, ?_, ⟨?_, td_sI (td_sI (td_sI hD (by decide)) (by decide)) (by decide)⟩, ⟨fun y hy => (by cases hy), by rw [List.length_nil]; omega, by omega⟩⟩
    · rw [gI_sI_nj (by decide), gI_sI_nj (by decide), gI_sI_eq]; rfl
    · rw [gI_sI_nj (by decide), gI_sI_eq]
    · rw [gI_sI_nj (by decide), gI_sI_nj (by decide), gI_sI_nj (by decide)]; exact h13
  have d0 : D (PRm T) M (sI (sI (sI M 174 16 (nI 0)) 174 17 (nI 0)) 174 18 (nI 0)) := ((D.rfl'.sI (Or.inl ⟨rfl, by omega⟩)).sI (Or.inl ⟨rfl, by omega⟩)).sI (Or.inl ⟨rfl, by omega⟩)
  have hrun : ev (d + 10) m_M_summed [.ref 174] NX M = LHd d (sI (sI (sI M 174 16 (nI 0)) 174 17 (nI 0)) 174 18 (nI 0)) none := by
    unfold LHd
    rw [e_M_summed]
    simp (disch := omega) only [r_M_summed_0, r_M_summed_0n, r_M_summed_1, r_M_summed_2, r_M_summed_5, r_M_summed_5n, r_M_summed_6, r_M_summed_7, r_M_summed_10, r_M_summed_10n, r_M_summed_11, r_M_summed_12, bnd, tl_s, tl_n, wt_nil, wt_int, wt_ref, wt_null, wt_long, Nat.reduceAdd, Nat.reduceLeDiff, if_true, if_false, decide_true, Bool.true_and, Bool.and_true, zok_n0, zok_n1, zok_bI, bI_eq0, bI_eq1, Bool.true_eq_false, Bool.false_eq_true, not_false_eq_true, not_true_eq_false, decide_false, decide_eq_false_iff_not, decide_eq_true_eq, Classical.not_not, ite_not, lit, Nat.reduceEqDiff, Nat.reduceLT, nI_add, nI_lt', nI_le', nI_eq', nI_sub', pk_mul, nI_rem', nI_div', nI_nz, remN, clampN, inb_nI, Nat.not_lt_zero, Nat.zero_le, Nat.le_zero_eq, if_true, if_false, m1_lt0, m1_eq, t_ite, f_ite, Bool.not_false, Bool.not_true, nI_and, nI_or, nI_xor, nI_shl1, nI_shr, nI_ushr, nI_not, nI_and_p2, Nat.one_mul, vrf_s, vrf_n, oF_174, oO_174, oA_175, oS_175, oA_176, oS_176, oA_177, oS_177, oA_178, oS_178, oA_179, oS_179, oA_180, oS_180, oA_181, oS_181, oA_182, oS_182, oA_183, oS_183, oA_184, oS_184, oA_185, oS_185, oA_186, oS_186, oA_187, oS_187, oA_188, oS_188, mO_M_behindOne, mO_M_beginOne, mO_M_openNow, mO_M_settle]
  obtain ⟨y1, y2⟩ := z_sum (o := 0) (by omega) (z_lv (d := d) (tb := tb) (tl := tl) (T := T) (law := law) 8 0 (by omega)).1 _ k w cm [] none hS gI_sI_eq ⟨trivial, (by intro q; cases q), fun _ => rfl⟩ (by rw [List.length_nil]; omega) (by rw [List.length_nil]; omega) hk3
  rw [hrun]
  generalize (smF (kdT tb tl) (lv (kdT tb tl) (vlT tb tl) law 8).1 k) = r at *
  by_cases e1 : r.1 = 0
  · obtain ⟨M1, w1, cm1, p1, z1, d1, hS1, hw1, hp1, _, hen1, ⟨b1, b2, b3, b4⟩, hag1, hpd1, hl1⟩ := y2 e1
    have h1 : ∀ y ∈ p1, 1 ≤ rk y := fun y hy => by have := hp1 y hy; omega
    have hv : oV (p1 ++ []) = 0 := by rw [oV_app h1]; rfl
    have hbw := bw_no (d := d + 5) hS1 (enS_nAr hen1) (by omega)
    have hpr : prt (oV (p1 ++ [])) (kdT tb tl r.2.1) (cmpd (p1 ++ [])) = -nI 1 := by
      rw [hv]
      rfl
    have r2 := bh_no (d := d) hS1 hbw hpr
    obtain ⟨M2, d2, hS2, r3⟩ := CFe (d := d) hS1 h1 (by omega)
    have hdone := hpd1.done
    refine ⟨M2, (d0.trans d1).trans d2, by rw [hl1, LH1 hw1 r2, r3, e1], fun q => absurd e1 q, fun _ => ⟨w1 + p1.length, _, ⟨hdone.1, by omega, b2⟩, hS2.2.1, hS2.2.2.2.2.2.1.1, hS2.2.2.2.2.2.1.2, fun j hj => by rw [emt_lo _ _ _ (by omega)]; exact hag1 j hj, hdone⟩⟩
  · obtain ⟨M1, d1, r1, g1⟩ := y1 e1
    exact ⟨M1, d0.trans d1, r1, fun _ => g1, fun q => absurd q e1⟩
/-! the reference's text, as far as it was read -/
def on2 (a b : Bool) : Nat := (if a = true then 1 else 0) + (if b = true then 2 else 0)
def onS (x : Tx) (s : Nat) : Nat := on2 ((tL x 0).isSome || decide (s = 0)) ((tL x 1).isSome || decide (s = 1))
def LMr (M : Mem) (T : Nat) (cm : Nat → Nat × Nat) (w law : Nat) (x : Tx) : Prop := match tL x law with
  | none => ∀ i, i < tN x → (tC x i).1 ≠ law
  | some g => ∃ C f t, C < tN x ∧ (tC x C).1 = law ∧ (∀ i, i < C → (tC x i).1 ≠ law) ∧ f ≤ t ∧ t ≤ w ∧ gI M 177 (681 * T + 1 + 3 * C + 1) = nI f ∧ gI M 177 (681 * T + 1 + 3 * C + 2) = nI t ∧ MS cm f t g ∧ ∀ e, EOk e → VB (g e)
def CLm (M : Mem) (T : Nat) (x : Tx) : Prop := ∀ i, i < tN x → gI M 177 (681 * T + 1 + 3 * i) = nI (tC x i).1 ∧ (2 ≤ (tC x i).1 → gI M 177 (681 * T + 1 + 3 * i + 1) = nI (tC x i).2.1) ∧ ((tC x i).1 = 2 ∨ (tC x i).1 = 6 ∨ (tC x i).1 = 7 → gI M 177 (681 * T + 1 + 3 * i + 2) = nI (tC x i).2.2)
/-- n clauses are counted, x is what was read -/
def ZS (M : Mem) (tb : Nat → Nat) (tl T k w : Nat) (cm : Nat → Nat × Nat) (x : Tx) (on n : Nat) : Prop := TpM M tb tl ∧ TkM M tb tl k ∧ (gI M 174 12 = nI (681 * T) ∧ T < 4) ∧ (gI M 174 13 = nI w ∧ TD M T cm w) ∧ gI M 174 19 = nI on ∧ gI M 177 (681 * T) = nI n ∧ CLm M T x ∧ LMr M T cm w 0 x ∧ LMr M T cm w 1 x ∧ TxOk x ∧ (w ≤ k ∧ k ≤ 300)
def PMt (T k j : Nat) : Prop := (k = 174 ∧ ((7 ≤ j ∧ j ≤ 14) ∨ (16 ≤ j ∧ j ≤ 19))) ∨ k = 179 ∨ (k = 177 ∧ 681 * T ≤ j)
theorem prm_pmt (h : D (PRm T) M M') : D (PMt T) M M' := h.mono (fun k j z => by unfold PRm at z; unfold PMt; omega)
theorem tpm_D2 (h : TpM M tb tl) (hd : D (PMt T) M M') : TpM M' tb tl := by
  obtain ⟨a1, a2, a3, a4, a5⟩ := h
  refine ⟨?_, (hd.i (by unfold PMt; omega)).trans a2, fun i hi => (hd.i (by unfold PMt; omega)).trans (a3 i hi), a4, a5⟩
  unfold FM at a1 ⊢
  obtain ⟨f1, f2, f3, f4, f5, f6, f7, f8, f9, f10, f11, f12, f13, f14⟩ := a1
  have r : ∀ {j v}, gR M 174 j = v → ¬ PMt T 174 j → gR M' 174 j = v := fun {j v} e n => (hd.r n).trans e
  exact ⟨r f1 (by unfold PMt; omega), r f2 (by unfold PMt; omega), r f3 (by unfold PMt; omega), r f4 (by unfold PMt; omega), r f5 (by unfold PMt; omega), r f6 (by unfold PMt; omega), r f7 (by unfold PMt; omega), r f8 (by unfold PMt; omega), r f9 (by unfold PMt; omega), r f10 (by unfold PMt; omega), r f11 (by unfold PMt; omega), r f12 (by unfold PMt; omega), r f13 (by unfold PMt; omega), r f14 (by unfold PMt; omega)⟩
theorem MS.congr {cm' : Nat → Nat × Nat} {f t : Nat} {g : Env → Int} (h : MS cm f t g) (hft : f ≤ t) (hc : ∀ j, f ≤ j → j < t → cm' j = cm j) : MS cm' f t g := fun e he vs ts => by rw [rcM_congr (cm := cm) (fun j a b => hc j a (by omega))]; exact h e he vs ts
theorem LMr.mv {cm' : Nat → Nat × Nat} {w' law : Nat} {x' : Tx} (h : LMr M T cm w law x) (hd : ∀ j, 681 * T + 1 ≤ j → j < 681 * T + 1 + 3 * tN x → gI M' 177 j = gI M 177 j) (hw : w ≤ w') (hc : ∀ j, j < w → cm' j = cm j) (hL : tL x' law = tL x law) (hN : tN x ≤ tN x') (hC : ∀ i, i < tN x → tC x' i = tC x i) (hnew : tL x law = none → ∀ i, tN x ≤ i → i < tN x' → (tC x' i).1 ≠ law) : LMr M' T cm' w' law x' := by
  unfold LMr at h ⊢
  rw [hL]
  cases e : tL x law with
  | none =>
    rw [e] at h
    intro i hi
    by_cases q : i < tN x
    · rw [hC i q]; exact h i q
    · exact hnew e i (by omega) hi
  | some g =>
    rw [e] at h
    obtain ⟨C, f, t, a1, a2, a3, a4, a5, a6, a7, a8, a9⟩ := h
    exact ⟨C, f, t, by omega, by rw [hC C a1]; exact a2, fun i hi => by rw [hC i (by omega)]; exact a3 i hi, a4, by omega, (hd _ (by omega) (by omega)).trans a6, (hd _ (by omega) (by omega)).trans a7, a8.congr a4 (fun j _ y => hc j (by omega)), a9⟩
end ZSU
