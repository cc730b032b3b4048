/-! TEXT: what the reference's code means; what its tokens are to it -/
def RM (e : Env) (cm : Nat → Nat × Nat) (s : Nat) (vs : List Int) (ts : List Bool) (t : Nat) (vs' : List Int) (ts' : List Bool) : Prop := s ≤ t ∧ rcM e cm (t - s) s vs ts = some (vs', ts')
theorem RM.trans {e : Env} {cm : Nat → Nat × Nat} {s t u : Nat} {vs vs' vs'' : List Int} {ts ts' ts'' : List Bool} (h1 : RM e cm s vs ts t vs' ts') (h2 : RM e cm t vs' ts' u vs'' ts'') : RM e cm s vs ts u vs'' ts'' := by
  obtain ⟨a1, a2⟩ := h1
  obtain ⟨b1, b2⟩ := h2
  refine ⟨by omega, ?_⟩
  rw [show u - s = (t - s) + (u - t) by omega, rcM_add, a2]
  show rcM e cm (u - t) (s + (t - s)) vs' ts' = _
  rw [show s + (t - s) = t by omega, b2]
theorem RM.step {e : Env} {cm : Nat → Nat × Nat} {s : Nat} {vs vs' : List Int} {ts ts' : List Bool} {x v : Nat} (hc : cm s = (x, v)) (h : stM e x v vs ts = some (vs', ts')) : RM e cm s vs ts (s + 1) vs' ts' := by
  refine ⟨by omega, ?_⟩
  rw [show s + 1 - s = 0 + 1 by omega, rcM, hc, h]
  rfl
theorem RM.congr {e : Env} {cm cm' : Nat → Nat × Nat} {s t : Nat} {vs vs' : List Int} {ts ts' : List Bool} (h : RM e cm s vs ts t vs' ts') (hc : ∀ j, s ≤ j → j < t → cm' j = cm j) : RM e cm' s vs ts t vs' ts' := ⟨h.1, by rw [rcM_congr (cm := cm) (fun j a b => hc j a (by have := h.1; omega))]; exact h.2⟩
def MV (cm : Nat → Nat × Nat) (s t : Nat) (g : Gv) : Prop := s < t ∧ ∀ e, EOk e → ∀ vs ts, RM e cm s vs ts t ((g e).1 :: vs) ts
def MB (cm : Nat → Nat × Nat) (s t : Nat) (g : Gv) : Prop := s < t ∧ ∀ e, EOk e → ∀ vs ts, RM e cm s vs ts t vs ((g e).2 :: ts)
def cmO (s : Nat) : Nat := if s = 28 then 10 else if s = 39 then 11 else if s = 29 then 12 else if s = 40 then 13 else if s = 30 then 14 else 15
theorem isC_or {k : Nat} (h : isC k = true) : k = 28 ∨ k = 29 ∨ k = 30 ∨ k = 31 ∨ k = 39 ∨ k = 40 := by
  unfold isC at h
  rw [Bool.or_eq_true, Bool.or_eq_true, Bool.and_eq_true, decide_eq_true_eq, decide_eq_true_eq, decide_eq_true_eq, decide_eq_true_eq] at h
  omega
theorem gd_app {x : Nat} : ∀ (p : List Nat) i, i < p.length → (p ++ [x]).getD i 0 = p.getD i 0 := by
  intro p
  induction p with
  | nil => intro i h; cases h
  | cons y r ih =>
    intro i h
    cases i with
    | zero => rfl
    | succ i => exact ih i (by rw [List.length_cons] at h; omega)
theorem gd_end {x : Nat} : ∀ (p : List Nat), (p ++ [x]).getD p.length 0 = x := by
  intro p
  induction p with
  | nil => rfl
  | cons y r ih => exact ih
section MSM
variable {cm cm' : Nat → Nat × Nat} {s t u m : Nat} {a b q : Gv}
theorem MV.congr (h : MV cm s t a) (hc : ∀ j, s ≤ j → j < t → cm' j = cm j) : MV cm' s t a := ⟨h.1, fun e he vs ts => (h.2 e he vs ts).congr hc⟩
theorem MB.congr (h : MB cm s t a) (hc : ∀ j, s ≤ j → j < t → cm' j = cm j) : MB cm' s t a := ⟨h.1, fun e he vs ts => (h.2 e he vs ts).congr hc⟩
theorem MV_num {v : Nat} (hc : cm s = (0, v)) (hv : v ≤ 9999) : MV cm s (s + 1) (gNum v) := by
  refine ⟨by omega, fun e he vs ts => RM.step hc ?_⟩
  show (if v ≤ 10000 then some ((v : Int) :: vs, ts) else none) = _
  rw [if_pos (by omega)]; rfl
theorem MV_nam {j : Nat} (hc : cm s = (1, j)) (hj : j < 8) : MV cm s (s + 1) (gNam j) := by
  refine ⟨by omega, fun e he vs ts => RM.step hc ?_⟩
  show (if j < 8 then some (e.1 j :: vs, ts) else none) = _
  rw [if_pos hj]; rfl
theorem MV_neg (h : MV cm s t a) (hc : cm t = (5, 0)) : MV cm s (t + 1) (gNeg a) := ⟨by have := h.1; omega, fun e he vs ts => (h.2 e he vs ts).trans (RM.step hc rfl)⟩
theorem MV_hvy (h : MV cm s t a) (hc : cm t = (2, 0)) : MV cm s (t + 1) (gHvy a) := ⟨by have := h.1; omega, fun e he vs ts => (h.2 e he vs ts).trans (RM.step hc rfl)⟩
theorem MV_bts (h : MV cm s t a) (h2 : MV cm t u b) (hc : cm u = (4, 0)) : MV cm s (u + 1) (gBts a b) := ⟨by have := h.1; have := h2.1; omega, fun e he vs ts => ((h.2 e he vs ts).trans (h2.2 e he _ ts)).trans (RM.step hc rfl)⟩
theorem MV_ar {k : Nat} (h : MV cm s t a) (h2 : MV cm t u b) (h3 : 32 ≤ k) (h4 : k ≤ 35) (hc : cm u = (k - 26, 0)) : MV cm s (u + 1) (gAr (k - 32) a b) := by
  refine ⟨by have := h.1; have := h2.1; omega, fun e he vs ts => ((h.2 e he vs ts).trans (h2.2 e he _ ts)).trans (RM.step hc ?_)⟩
  have hk : k = 32 ∨ k = 33 ∨ k = 34 ∨ k = 35 := by omega
  rcases hk with rfl | rfl | rfl | rfl <;> rfl
theorem MB_cp {k : Nat} (h : MV cm s t a) (h2 : MV cm t u b) (h3 : isC k = true) (hc : cm u = (cmO k, 0)) : MB cm s (u + 1) (gCp (ci k) a b) := by
  refine ⟨by have := h.1; have := h2.1; omega, fun e he vs ts => ((h.2 e he vs ts).trans (h2.2 e he _ ts)).trans (RM.step hc ?_)⟩
  rcases isC_or h3 with rfl | rfl | rfl | rfl | rfl | rfl <;> rfl
theorem MB_not (h : MB cm s t a) (hc : cm t = (20, 0)) : MB cm s (t + 1) (gNot a) := ⟨by have := h.1; omega, fun e he vs ts => (h.2 e he vs ts).trans (RM.step hc rfl)⟩
theorem MB_and (h : MB cm s t a) (h2 : MB cm t u b) (hc : cm u = (21, 0)) : MB cm s (u + 1) (gAnd a b) := ⟨by have := h.1; have := h2.1; omega, fun e he vs ts => ((h.2 e he vs ts).trans (h2.2 e he vs _)).trans (RM.step hc rfl)⟩
theorem MB_or (h : MB cm s t a) (h2 : MB cm t u b) (hc : cm u = (22, 0)) : MB cm s (u + 1) (gOr a b) := ⟨by have := h.1; have := h2.1; omega, fun e he vs ts => ((h.2 e he vs ts).trans (h2.2 e he vs _)).trans (RM.step hc rfl)⟩
theorem MV_sel (hq : MB cm s t q) (ha : MV cm t u a) (hb : MV cm u m b) (hc : cm m = (3, 0)) : MV cm s (m + 1) (gSel q a b) := ⟨by have := hq.1; have := ha.1; have := hb.1; omega, fun e he vs ts => (((hq.2 e he vs ts).trans (ha.2 e he _ _)).trans (hb.2 e he _ _)).trans (RM.step hc rfl)⟩
/-- code with what still waits for it -/
def PD (Sem : (Nat → Nat × Nat) → Nat → Nat → Gv → Prop) (cm : Nat → Nat × Nat) (w0 w : Nat) (p : List Nat) (g : Gv) : Prop := ∀ cm', (∀ j, w0 ≤ j → j < w → cm' j = cm j) → (∀ i, i < p.length → cm' (w + i) = (p.getD i 0, 0)) → Sem cm' w0 (w + p.length) g
theorem PD.nil {Sem : (Nat → Nat × Nat) → Nat → Nat → Gv → Prop} (hc : ∀ {c c' : Nat → Nat × Nat} {s t : Nat} {g : Gv}, Sem c s t g → (∀ j, s ≤ j → j < t → c' j = c j) → Sem c' s t g) (h : Sem cm s t a) : PD Sem cm s t [] a := fun cm' h1 _ => hc h h1
theorem PD.done {Sem : (Nat → Nat × Nat) → Nat → Nat → Gv → Prop} {w0 w : Nat} {p : List Nat} (h : PD Sem cm w0 w p a) : Sem (emt cm w p) w0 (w + p.length) a := h _ (fun j _ hj => emt_lo p w j hj) (fun i hi => emt_at p w i hi)
theorem PD.snoc {S1 S2 : (Nat → Nat × Nat) → Nat → Nat → Gv → Prop} {w1 w2 x : Nat} {p : List Nat} {g : Gv} (h : PD S1 cm w1 w2 p b) (hj : ∀ cm', (∀ j, s ≤ j → j < w2 → cm' j = cm j) → S1 cm' w1 (w2 + p.length) b → cm' (w2 + p.length) = (x, 0) → S2 cm' s (w2 + p.length + 1) g) (hs : s ≤ w1) : PD S2 cm s w2 (p ++ [x]) g := by
  intro cm' h1 h2
  rw [List.length_append, List.length_singleton] at h2 ⊢
  refine hj cm' h1 (h cm' (fun j a b => h1 j (by omega) b) (fun i hi => ?_)) ?_
  · rw [h2 i (by omega), gd_app _ _ hi]
  · rw [h2 p.length (by omega), gd_end]
end MSM
section TKN
variable {d : Nat} {M M' : Mem} {tb : Nat → Nat} {tl T law k w o : Nat} {cm : Nat → Nat × Nat} {P : List Nat}
theorem x_nameOf (hT : TpM M tb tl) (h : TkM M tb tl k) : ev (d + 6) m_M_nameOf [.ref 174] NX M = some (some (.int (if 8 ≤ kdT tb tl k ∧ kdT tb tl k ≤ 15 then nI (kdT tb tl k - 8) else -nI 1)), NX, M) := by
  have h9 := h.2.2.1
  have ht := tc_lt (tb := tb) (tl := tl) (k := k)
  rw [e_M_nameOf]
  by_cases e : tcA tb tl (plT tb tl k) = 2
  · have hL := tc_2.mp e
    have h11 := h.2.2.2.2 hL
    have q8 := wq_8 hL
    have q9 := wq_9 hL
    have q10 := wq_10 hL
    have q11 := wq_11 hL
    have q12 := wq_12 hL
    have q13 := x_isw_13 (d := d + 1) hT h
    have q14 := wq_14 hL
    have q15 := wq_15 hL
    by_cases en : 8 ≤ kdT tb tl k ∧ kdT tb tl k ≤ 15
    · rw [if_pos en]
      have hk : kdT tb tl k = 8 ∨ kdT tb tl k = 9 ∨ kdT tb tl k = 10 ∨ kdT tb tl k = 11 ∨ kdT tb tl k = 12 ∨ kdT tb tl k = 13 ∨ kdT tb tl k = 14 ∨ kdT tb tl k = 15 := by omega
      rcases hk with hk | hk | hk | hk | hk | hk | hk | hk
      all_goals (rw [hk] at q8 q9 q10 q11 q12 q13 q14 q15; rw [hk]; simp (disch := omega) only [r_M_nameOf_0, r_M_nameOf_0n, r_M_nameOf_1, r_M_nameOf_4, r_M_nameOf_5, r_M_nameOf_8, r_M_nameOf_9, r_M_nameOf_10, r_M_nameOf_10n, r_M_nameOf_11, r_M_nameOf_14, r_M_nameOf_16, r_M_nameOf_18, r_M_nameOf_20, r_M_nameOf_22, r_M_nameOf_25, r_M_nameOf_26, r_M_nameOf_29, r_M_nameOf_30, r_M_nameOf_31, r_M_nameOf_31n, r_M_nameOf_32, r_M_nameOf_35, r_M_nameOf_37, r_M_nameOf_39, r_M_nameOf_41, r_M_nameOf_43, r_M_nameOf_46, r_M_nameOf_47, r_M_nameOf_50, r_M_nameOf_51, r_M_nameOf_52, r_M_nameOf_52n, r_M_nameOf_53, r_M_nameOf_56, r_M_nameOf_58, r_M_nameOf_60, r_M_nameOf_62, r_M_nameOf_64, r_M_nameOf_66, r_M_nameOf_68, r_M_nameOf_71, r_M_nameOf_72, r_M_nameOf_75, r_M_nameOf_76, r_M_nameOf_77, r_M_nameOf_77n, r_M_nameOf_78, r_M_nameOf_81, r_M_nameOf_83, r_M_nameOf_85, r_M_nameOf_87, r_M_nameOf_89, r_M_nameOf_91, r_M_nameOf_93, r_M_nameOf_96, r_M_nameOf_97, r_M_nameOf_100, r_M_nameOf_101, r_M_nameOf_102, r_M_nameOf_102n, r_M_nameOf_103, r_M_nameOf_106, r_M_nameOf_108, r_M_nameOf_110, r_M_nameOf_113, r_M_nameOf_114, r_M_nameOf_117, r_M_nameOf_118, r_M_nameOf_119, r_M_nameOf_119n, r_M_nameOf_120, r_M_nameOf_122, r_M_nameOf_124, r_M_nameOf_126, r_M_nameOf_128, r_M_nameOf_131, r_M_nameOf_133, r_M_nameOf_135, r_M_nameOf_137, r_M_nameOf_140, r_M_nameOf_143, r_M_nameOf_146, r_M_nameOf_147, r_M_nameOf_148, r_M_nameOf_148n, r_M_nameOf_149, r_M_nameOf_152, r_M_nameOf_154, r_M_nameOf_156, r_M_nameOf_158, r_M_nameOf_160, r_M_nameOf_162, r_M_nameOf_165, r_M_nameOf_166, r_M_nameOf_169, r_M_nameOf_171, r_M_nameOf_174, r_M_nameOf_174n, r_M_nameOf_175, r_M_nameOf_178, r_M_nameOf_180, r_M_nameOf_182, r_M_nameOf_184, r_M_nameOf_186, r_M_nameOf_189, r_M_nameOf_190, r_M_nameOf_193, r_M_nameOf_195, r_M_nameOf_198, r_M_nameOf_199, bnd, tl_s, tl_n, wt_nil, wt_int, wt_ref, wt_null, wt_long, Nat.reduceAdd, Nat.reduceLeDiff, if_true, if_false, decide_true, Bool.true_and, Bool.and_true, zok_n0, zok_n1, zok_bI, bI_eq0, bI_eq1, Bool.true_eq_false, Bool.false_eq_true, not_false_eq_true, not_true_eq_false, decide_false, decide_eq_false_iff_not, decide_eq_true_eq, Classical.not_not, ite_not, lit, Nat.reduceEqDiff, Nat.reduceLT, nI_add, nI_lt', nI_le', nI_eq', nI_sub', pk_mul, nI_rem', nI_div', nI_nz, remN, clampN, inb_nI, Nat.not_lt_zero, Nat.zero_le, Nat.le_zero_eq, if_true, if_false, m1_lt0, m1_eq, t_ite, f_ite, Bool.not_false, Bool.not_true, oF_174, oO_174, mO_M_isLong, h9, e, h11, x_w2, x_w3, x_w4, x_w5, x_w6, cmp_eq, q8, q9, q10, q11, q12, q13, q14, q15, Nat.reduceSub])
    · rw [if_neg en]
      have n8 : ¬ kdT tb tl k = 8 := by omega
      have n9 : ¬ kdT tb tl k = 9 := by omega
      have n10 : ¬ kdT tb tl k = 10 := by omega
      have n11 : ¬ kdT tb tl k = 11 := by omega
      have n12 : ¬ kdT tb tl k = 12 := by omega
      have n13 : ¬ kdT tb tl k = 13 := by omega
      have n14 : ¬ kdT tb tl k = 14 := by omega
      have n15 : ¬ kdT tb tl k = 15 := by omega
      simp (disch := omega) only [r_M_nameOf_0, r_M_nameOf_0n, r_M_nameOf_1, r_M_nameOf_4, r_M_nameOf_5, r_M_nameOf_8, r_M_nameOf_9, r_M_nameOf_10, r_M_nameOf_10n, r_M_nameOf_11, r_M_nameOf_14, r_M_nameOf_16, r_M_nameOf_18, r_M_nameOf_20, r_M_nameOf_22, r_M_nameOf_25, r_M_nameOf_26, r_M_nameOf_29, r_M_nameOf_30, r_M_nameOf_31, r_M_nameOf_31n, r_M_nameOf_32, r_M_nameOf_35, r_M_nameOf_37, r_M_nameOf_39, r_M_nameOf_41, r_M_nameOf_43, r_M_nameOf_46, r_M_nameOf_47, r_M_nameOf_50, r_M_nameOf_51, r_M_nameOf_52, r_M_nameOf_52n, r_M_nameOf_53, r_M_nameOf_56, r_M_nameOf_58, r_M_nameOf_60, r_M_nameOf_62, r_M_nameOf_64, r_M_nameOf_66, r_M_nameOf_68, r_M_nameOf_71, r_M_nameOf_72, r_M_nameOf_75, r_M_nameOf_76, r_M_nameOf_77, r_M_nameOf_77n, r_M_nameOf_78, r_M_nameOf_81, r_M_nameOf_83, r_M_nameOf_85, r_M_nameOf_87, r_M_nameOf_89, r_M_nameOf_91, r_M_nameOf_93, r_M_nameOf_96, r_M_nameOf_97, r_M_nameOf_100, r_M_nameOf_101, r_M_nameOf_102, r_M_nameOf_102n, r_M_nameOf_103, r_M_nameOf_106, r_M_nameOf_108, r_M_nameOf_110, r_M_nameOf_113, r_M_nameOf_114, r_M_nameOf_117, r_M_nameOf_118, r_M_nameOf_119, r_M_nameOf_119n, r_M_nameOf_120, r_M_nameOf_122, r_M_nameOf_124, r_M_nameOf_126, r_M_nameOf_128, r_M_nameOf_131, r_M_nameOf_133, r_M_nameOf_135, r_M_nameOf_137, r_M_nameOf_140, r_M_nameOf_143, r_M_nameOf_146, r_M_nameOf_147, r_M_nameOf_148, r_M_nameOf_148n, r_M_nameOf_149, r_M_nameOf_152, r_M_nameOf_154, r_M_nameOf_156, r_M_nameOf_158, r_M_nameOf_160, r_M_nameOf_162, r_M_nameOf_165, r_M_nameOf_166, r_M_nameOf_169, r_M_nameOf_171, r_M_nameOf_174, r_M_nameOf_174n, r_M_nameOf_175, r_M_nameOf_178, r_M_nameOf_180, r_M_nameOf_182, r_M_nameOf_184, r_M_nameOf_186, r_M_nameOf_189, r_M_nameOf_190, r_M_nameOf_193, r_M_nameOf_195, r_M_nameOf_198, r_M_nameOf_199, bnd, tl_s, tl_n, wt_nil, wt_int, wt_ref, wt_null, wt_long, Nat.reduceAdd, Nat.reduceLeDiff, if_true, if_false, decide_true, Bool.true_and, Bool.and_true, zok_n0, zok_n1, zok_bI, bI_eq0, bI_eq1, Bool.true_eq_false, Bool.false_eq_true, not_false_eq_true, not_true_eq_false, decide_false, decide_eq_false_iff_not, decide_eq_true_eq, Classical.not_not, ite_not, lit, Nat.reduceEqDiff, Nat.reduceLT, nI_add, nI_lt', nI_le', nI_eq', nI_sub', pk_mul, nI_rem', nI_div', nI_nz, remN, clampN, inb_nI, Nat.not_lt_zero, Nat.zero_le, Nat.le_zero_eq, if_true, if_false, m1_lt0, m1_eq, t_ite, f_ite, Bool.not_false, Bool.not_true, oF_174, oO_174, mO_M_isLong, h9, e, h11, x_w2, x_w3, x_w4, x_w5, x_w6, cmp_eq, q8, q9, q10, q11, q12, q13, q14, q15, n8, n9, n10, n11, n12, n13, n14, n15]
  · have en : ¬ (8 ≤ kdT tb tl k ∧ kdT tb tl k ≤ 15) := fun z => e (kd_28 (j := kdT tb tl k) (by omega) rfl)
    rw [if_neg en]
    simp (disch := omega) only [r_M_nameOf_0, r_M_nameOf_0n, r_M_nameOf_1, r_M_nameOf_4, r_M_nameOf_5, r_M_nameOf_8, r_M_nameOf_9, bnd, tl_s, tl_n, wt_nil, wt_int, wt_ref, wt_null, wt_long, Nat.reduceAdd, Nat.reduceLeDiff, if_true, if_false, decide_true, Bool.true_and, Bool.and_true, zok_n0, zok_n1, zok_bI, bI_eq0, bI_eq1, Bool.true_eq_false, Bool.false_eq_true, not_false_eq_true, not_true_eq_false, decide_false, decide_eq_false_iff_not, decide_eq_true_eq, Classical.not_not, ite_not, lit, Nat.reduceEqDiff, Nat.reduceLT, nI_add, nI_lt', nI_le', nI_eq', nI_sub', pk_mul, nI_rem', nI_div', nI_nz, remN, clampN, inb_nI, Nat.not_lt_zero, Nat.zero_le, Nat.le_zero_eq, if_true, if_false, m1_lt0, m1_eq, t_ite, f_ite, Bool.not_false, Bool.not_true, oF_174, oO_174, h9, e]
theorem x_sortOf (hT : TpM M tb tl) (h : TkM M tb tl k) : ev (d + 6) m_M_sortOf [.ref 174] NX M = some (some (.int (if kdT tb tl k ≤ 8 then nI (kdT tb tl k) else -nI 1)), NX, M) := by
  have q0 := x_isw_0 (d := d + 4) h
  have q1 := x_isw_1 (d := d + 4) h
  have q2 := x_isw_2 (d := d + 4) h
  have q3 := x_isw_3 (d := d + 4) h
  have q4 := x_isw_4 (d := d + 4) h
  have q5 := x_isw_5 (d := d + 1) hT h
  have q6 := x_isw_6 (d := d + 4) h
  have q7 := x_isw_7 (d := d + 4) h
  have q8 := x_isw_8 (d := d + 4) h
  rw [e_M_sortOf]
  by_cases en : kdT tb tl k ≤ 8
  · rw [if_pos en]
    have hk : kdT tb tl k = 0 ∨ kdT tb tl k = 1 ∨ kdT tb tl k = 2 ∨ kdT tb tl k = 3 ∨ kdT tb tl k = 4 ∨ kdT tb tl k = 5 ∨ kdT tb tl k = 6 ∨ kdT tb tl k = 7 ∨ kdT tb tl k = 8 := by omega
    rcases hk with hk | hk | hk | hk | hk | hk | hk | hk | hk
    all_goals (rw [hk] at q0 q1 q2 q3 q4 q5 q6 q7 q8; rw [hk]; simp (disch := omega) only [r_M_sortOf_0, r_M_sortOf_0n, r_M_sortOf_1, r_M_sortOf_3, r_M_sortOf_5, r_M_sortOf_7, r_M_sortOf_9, r_M_sortOf_12, r_M_sortOf_15, r_M_sortOf_18, r_M_sortOf_19, r_M_sortOf_20, r_M_sortOf_20n, r_M_sortOf_21, r_M_sortOf_23, r_M_sortOf_25, r_M_sortOf_27, r_M_sortOf_29, r_M_sortOf_31, r_M_sortOf_34, r_M_sortOf_37, r_M_sortOf_40, r_M_sortOf_41, r_M_sortOf_42, r_M_sortOf_42n, r_M_sortOf_43, r_M_sortOf_45, r_M_sortOf_47, r_M_sortOf_49, r_M_sortOf_51, r_M_sortOf_53, r_M_sortOf_56, r_M_sortOf_59, r_M_sortOf_62, r_M_sortOf_63, r_M_sortOf_64, r_M_sortOf_64n, r_M_sortOf_65, r_M_sortOf_67, r_M_sortOf_69, r_M_sortOf_71, r_M_sortOf_74, r_M_sortOf_77, r_M_sortOf_80, r_M_sortOf_81, r_M_sortOf_82, r_M_sortOf_82n, r_M_sortOf_83, r_M_sortOf_85, r_M_sortOf_87, r_M_sortOf_89, r_M_sortOf_91, r_M_sortOf_94, r_M_sortOf_97, r_M_sortOf_100, r_M_sortOf_101, r_M_sortOf_102, r_M_sortOf_102n, r_M_sortOf_103, r_M_sortOf_105, r_M_sortOf_107, r_M_sortOf_109, r_M_sortOf_111, r_M_sortOf_114, r_M_sortOf_116, r_M_sortOf_118, r_M_sortOf_120, r_M_sortOf_123, r_M_sortOf_126, r_M_sortOf_129, r_M_sortOf_130, r_M_sortOf_131, r_M_sortOf_131n, r_M_sortOf_132, r_M_sortOf_134, r_M_sortOf_136, r_M_sortOf_138, r_M_sortOf_140, r_M_sortOf_142, r_M_sortOf_144, r_M_sortOf_147, r_M_sortOf_150, r_M_sortOf_153, r_M_sortOf_155, r_M_sortOf_156, r_M_sortOf_156n, r_M_sortOf_157, r_M_sortOf_159, r_M_sortOf_161, r_M_sortOf_163, r_M_sortOf_165, r_M_sortOf_168, r_M_sortOf_171, r_M_sortOf_174, r_M_sortOf_176, r_M_sortOf_179, r_M_sortOf_179n, r_M_sortOf_180, r_M_sortOf_182, r_M_sortOf_184, r_M_sortOf_186, r_M_sortOf_188, r_M_sortOf_191, r_M_sortOf_194, r_M_sortOf_197, r_M_sortOf_199, r_M_sortOf_202, r_M_sortOf_203, bnd, tl_s, tl_n, wt_nil, wt_int, wt_ref, wt_null, wt_long, Nat.reduceAdd, Nat.reduceLeDiff, if_true, if_false, decide_true, Bool.true_and, Bool.and_true, zok_n0, zok_n1, zok_bI, bI_eq0, bI_eq1, Bool.true_eq_false, Bool.false_eq_true, not_false_eq_true, not_true_eq_false, decide_false, decide_eq_false_iff_not, decide_eq_true_eq, Classical.not_not, ite_not, lit, Nat.reduceEqDiff, Nat.reduceLT, nI_add, nI_lt', nI_le', nI_eq', nI_sub', pk_mul, nI_rem', nI_div', nI_nz, remN, clampN, inb_nI, Nat.not_lt_zero, Nat.zero_le, Nat.le_zero_eq, if_true, if_false, m1_lt0, m1_eq, t_ite, f_ite, Bool.not_false, Bool.not_true, oF_174, oO_174, mO_M_isLong, mO_M_isWord, x_w2, x_w3, x_w4, x_w5, x_w6, q0, q1, q2, q3, q4, q5, q6, q7, q8])
  · rw [if_neg en]
    have n0 : ¬ kdT tb tl k = 0 := by omega
    have n1 : ¬ kdT tb tl k = 1 := by omega
    have n2 : ¬ kdT tb tl k = 2 := by omega
    have n3 : ¬ kdT tb tl k = 3 := by omega
    have n4 : ¬ kdT tb tl k = 4 := by omega
    have n5 : ¬ kdT tb tl k = 5 := by omega
    have n6 : ¬ kdT tb tl k = 6 := by omega
    have n7 : ¬ kdT tb tl k = 7 := by omega
    have n8 : ¬ kdT tb tl k = 8 := by omega
    simp (disch := omega) only [r_M_sortOf_0, r_M_sortOf_0n, r_M_sortOf_1, r_M_sortOf_3, r_M_sortOf_5, r_M_sortOf_7, r_M_sortOf_9, r_M_sortOf_12, r_M_sortOf_15, r_M_sortOf_18, r_M_sortOf_19, r_M_sortOf_20, r_M_sortOf_20n, r_M_sortOf_21, r_M_sortOf_23, r_M_sortOf_25, r_M_sortOf_27, r_M_sortOf_29, r_M_sortOf_31, r_M_sortOf_34, r_M_sortOf_37, r_M_sortOf_40, r_M_sortOf_41, r_M_sortOf_42, r_M_sortOf_42n, r_M_sortOf_43, r_M_sortOf_45, r_M_sortOf_47, r_M_sortOf_49, r_M_sortOf_51, r_M_sortOf_53, r_M_sortOf_56, r_M_sortOf_59, r_M_sortOf_62, r_M_sortOf_63, r_M_sortOf_64, r_M_sortOf_64n, r_M_sortOf_65, r_M_sortOf_67, r_M_sortOf_69, r_M_sortOf_71, r_M_sortOf_74, r_M_sortOf_77, r_M_sortOf_80, r_M_sortOf_81, r_M_sortOf_82, r_M_sortOf_82n, r_M_sortOf_83, r_M_sortOf_85, r_M_sortOf_87, r_M_sortOf_89, r_M_sortOf_91, r_M_sortOf_94, r_M_sortOf_97, r_M_sortOf_100, r_M_sortOf_101, r_M_sortOf_102, r_M_sortOf_102n, r_M_sortOf_103, r_M_sortOf_105, r_M_sortOf_107, r_M_sortOf_109, r_M_sortOf_111, r_M_sortOf_114, r_M_sortOf_116, r_M_sortOf_118, r_M_sortOf_120, r_M_sortOf_123, r_M_sortOf_126, r_M_sortOf_129, r_M_sortOf_130, r_M_sortOf_131, r_M_sortOf_131n, r_M_sortOf_132, r_M_sortOf_134, r_M_sortOf_136, r_M_sortOf_138, r_M_sortOf_140, r_M_sortOf_142, r_M_sortOf_144, r_M_sortOf_147, r_M_sortOf_150, r_M_sortOf_153, r_M_sortOf_155, r_M_sortOf_156, r_M_sortOf_156n, r_M_sortOf_157, r_M_sortOf_159, r_M_sortOf_161, r_M_sortOf_163, r_M_sortOf_165, r_M_sortOf_168, r_M_sortOf_171, r_M_sortOf_174, r_M_sortOf_176, r_M_sortOf_179, r_M_sortOf_179n, r_M_sortOf_180, r_M_sortOf_182, r_M_sortOf_184, r_M_sortOf_186, r_M_sortOf_188, r_M_sortOf_191, r_M_sortOf_194, r_M_sortOf_197, r_M_sortOf_199, r_M_sortOf_202, r_M_sortOf_203, bnd, tl_s, tl_n, wt_nil, wt_int, wt_ref, wt_null, wt_long, Nat.reduceAdd, Nat.reduceLeDiff, if_true, if_false, decide_true, Bool.true_and, Bool.and_true, zok_n0, zok_n1, zok_bI, bI_eq0, bI_eq1, Bool.true_eq_false, Bool.false_eq_true, not_false_eq_true, not_true_eq_false, decide_false, decide_eq_false_iff_not, decide_eq_true_eq, Classical.not_not, ite_not, lit, Nat.reduceEqDiff, Nat.reduceLT, nI_add, nI_lt', nI_le', nI_eq', nI_sub', pk_mul, nI_rem', nI_div', nI_nz, remN, clampN, inb_nI, Nat.not_lt_zero, Nat.zero_le, Nat.le_zero_eq, if_true, if_false, m1_lt0, m1_eq, t_ite, f_ite, Bool.not_false, Bool.not_true, oF_174, oO_174, mO_M_isLong, mO_M_isWord, x_w2, x_w3, x_w4, x_w5, x_w6, q0, q1, q2, q3, q4, q5, q6, q7, q8, n0, n1, n2, n3, n4, n5, n6, n7, n8]
theorem x_compareOf (h : TkM M tb tl k) : ev (d + 1) m_M_compareOf [.ref 174] NX M = some (some (.int (if isC (kdT tb tl k) = true then nI (cmO (kdT tb tl k)) else -nI 1)), NX, M) := by
  have h9 := h.2.2.1
  have ht := tc_lt (tb := tb) (tl := tl) (k := k)
  have q0 := tq_60 (tb := tb) (tl := tl) (k := k)
  have q1 := tq_4 (tb := tb) (tl := tl) (k := k)
  have q2 := tq_62 (tb := tb) (tl := tl) (k := k)
  have q3 := tq_5 (tb := tb) (tl := tl) (k := k)
  have q4 := tq_61 (tb := tb) (tl := tl) (k := k)
  have q5 := tq_35 (tb := tb) (tl := tl) (k := k)
  rw [e_M_compareOf]
  by_cases en : isC (kdT tb tl k) = true
  · rw [if_pos en]
    rcases isC_or en with hk | hk | hk | hk | hk | hk
    all_goals (rw [hk] at q0 q1 q2 q3 q4 q5; rw [hk]; simp (disch := omega) only [r_M_compareOf_0, r_M_compareOf_0n, r_M_compareOf_1, r_M_compareOf_4, r_M_compareOf_6, r_M_compareOf_9, r_M_compareOf_11, r_M_compareOf_14, r_M_compareOf_14n, r_M_compareOf_15, r_M_compareOf_18, r_M_compareOf_19, r_M_compareOf_22, r_M_compareOf_24, r_M_compareOf_27, r_M_compareOf_27n, r_M_compareOf_28, r_M_compareOf_31, r_M_compareOf_33, r_M_compareOf_36, r_M_compareOf_38, r_M_compareOf_41, r_M_compareOf_41n, r_M_compareOf_42, r_M_compareOf_45, r_M_compareOf_46, r_M_compareOf_49, r_M_compareOf_51, r_M_compareOf_54, r_M_compareOf_54n, r_M_compareOf_55, r_M_compareOf_58, r_M_compareOf_60, r_M_compareOf_63, r_M_compareOf_65, r_M_compareOf_68, r_M_compareOf_68n, r_M_compareOf_69, r_M_compareOf_72, r_M_compareOf_74, r_M_compareOf_77, r_M_compareOf_79, r_M_compareOf_82, r_M_compareOf_83, bnd, tl_s, tl_n, wt_nil, wt_int, wt_ref, wt_null, wt_long, Nat.reduceAdd, Nat.reduceLeDiff, if_true, if_false, decide_true, Bool.true_and, Bool.and_true, zok_n0, zok_n1, zok_bI, bI_eq0, bI_eq1, Bool.true_eq_false, Bool.false_eq_true, not_false_eq_true, not_true_eq_false, decide_false, decide_eq_false_iff_not, decide_eq_true_eq, Classical.not_not, ite_not, lit, Nat.reduceEqDiff, Nat.reduceLT, nI_add, nI_lt', nI_le', nI_eq', nI_sub', pk_mul, nI_rem', nI_div', nI_nz, remN, clampN, inb_nI, Nat.not_lt_zero, Nat.zero_le, Nat.le_zero_eq, if_true, if_false, m1_lt0, m1_eq, t_ite, f_ite, Bool.not_false, Bool.not_true, oF_174, oO_174, h9, q0, q1, q2, q3, q4, q5]; rfl)
  · rw [if_neg en]
    have n : ∀ j, isC j = true → ¬ kdT tb tl k = j := fun j hj z => en (by rw [z]; exact hj)
    simp (disch := omega) only [r_M_compareOf_0, r_M_compareOf_0n, r_M_compareOf_1, r_M_compareOf_4, r_M_compareOf_6, r_M_compareOf_9, r_M_compareOf_11, r_M_compareOf_14, r_M_compareOf_14n, r_M_compareOf_15, r_M_compareOf_18, r_M_compareOf_19, r_M_compareOf_22, r_M_compareOf_24, r_M_compareOf_27, r_M_compareOf_27n, r_M_compareOf_28, r_M_compareOf_31, r_M_compareOf_33, r_M_compareOf_36, r_M_compareOf_38, r_M_compareOf_41, r_M_compareOf_41n, r_M_compareOf_42, r_M_compareOf_45, r_M_compareOf_46, r_M_compareOf_49, r_M_compareOf_51, r_M_compareOf_54, r_M_compareOf_54n, r_M_compareOf_55, r_M_compareOf_58, r_M_compareOf_60, r_M_compareOf_63, r_M_compareOf_65, r_M_compareOf_68, r_M_compareOf_68n, r_M_compareOf_69, r_M_compareOf_72, r_M_compareOf_74, r_M_compareOf_77, r_M_compareOf_79, r_M_compareOf_82, r_M_compareOf_83, bnd, tl_s, tl_n, wt_nil, wt_int, wt_ref, wt_null, wt_long, Nat.reduceAdd, Nat.reduceLeDiff, if_true, if_false, decide_true, Bool.true_and, Bool.and_true, zok_n0, zok_n1, zok_bI, bI_eq0, bI_eq1, Bool.true_eq_false, Bool.false_eq_true, not_false_eq_true, not_true_eq_false, decide_false, decide_eq_false_iff_not, decide_eq_true_eq, Classical.not_not, ite_not, lit, Nat.reduceEqDiff, Nat.reduceLT, nI_add, nI_lt', nI_le', nI_eq', nI_sub', pk_mul, nI_rem', nI_div', nI_nz, remN, clampN, inb_nI, Nat.not_lt_zero, Nat.zero_le, Nat.le_zero_eq, if_true, if_false, m1_lt0, m1_eq, t_ite, f_ite, Bool.not_false, Bool.not_true, oF_174, oO_174, h9, q0, q1, q2, q3, q4, q5, n 28 rfl, n 39 rfl, n 29 rfl, n 40 rfl, n 30 rfl, n 31 rfl]
end TKN
