/-! CALLS: text -/
def upTx (T : Nat → Tx) (n : Nat) (x : Tx) : Nat → Tx := fun t => if t = n then x else T t
def QTx (b k j : Nat) : Prop := (k = 0 ∧ j = 8) ∨ (k = 140 ∧ (j = 1 ∨ j = 5)) ∨ (142 ≤ k ∧ k ≤ 144) ∨ (k = 145 ∧ j ≤ 5) ∨ (k = b ∧ (j = 1 ∨ j = 5)) ∨ (b + 1 ≤ k ∧ k ≤ b + 4)
def QTm (T k j : Nat) : Prop := PMt T k j ∨ (k = 174 ∧ (j = 4 ∨ j = 5 ∨ j = 6))
section OTX
variable {M M' : Mem} {s s' : St} {T : Nat → Tx} {tb : Nat → Nat} {tl : Nat} {f : Fa}
theorem qtx_rx {b : Nat} (hb : IsB b) (k j : Nat) (z : QTx b k j) : rxt k j = none := by
  unfold QTx at z
  have hr := isB_rng hb
  rcases z with ⟨rfl, rfl⟩ | ⟨rfl, rfl | rfl⟩ | z | ⟨rfl, hj⟩ | ⟨rfl, rfl | rfl⟩ | z
  · rfl
  · rfl
  · rfl
  · have hk : k = 142 ∨ k = 143 ∨ k = 144 := by omega
    rcases hk with rfl | rfl | rfl <;> rfl
  · rfl
  · rcases hb with rfl | rfl | rfl | rfl <;> rfl
  · rcases hb with rfl | rfl | rfl | rfl <;> rfl
  · have hk : k = b + 1 ∨ k = b + 2 ∨ k = b + 3 ∨ k = b + 4 := by omega
    rcases hk with rfl | rfl | rfl | rfl <;> rcases hb with rfl | rfl | rfl | rfl <;> rfl
theorem isB_of {n : Nat} (h : n < 4) : IsB (154 + 5 * n) := by unfold IsB; omega
theorem ix_txt {f2 : Fa} {n : Nat} (hX : IX M s s' T tb tl f) (ho : IO s s' tb tl) (hn : n = sTc s) (hn4 : n < 4) (hd : D (QTx (154 + 5 * n)) M M') (h0 : gI M' 0 8 = bI f2.1) (h1 : gI M' 140 1 = nI 0) (h2 : gI M' 145 0 = f2.2.1) (h3 : gI M' 145 1 = f2.2.2) : IX M' s s' T tb 0 f2 := by
  obtain ⟨a1, a2, a3, a4, a5, a6⟩ := hX
  have hb := isB_of hn4
  refine ⟨a1.D hd (qtx_rx hb), a2.dP ho.1 hd (fun k j z => by unfold QTx at z; omega), a3.dP ho.2.1 hd (fun k j z => by unfold QTx at z; omega), fun t ht => (a4 t ht).dP hd (fun k j z => by unfold QTx at z; omega), ⟨h1, fun i hi => by omega⟩, ⟨h0, fun _ => ⟨h2, h3⟩⟩⟩
theorem mt_mv {t : Nat} {x : Tx} (h : MT M t x) (hd : ∀ j, j < 681 * t + 681 → gI M' 177 j = gI M 177 j) : MT M' t x := by
  obtain ⟨a1, a2, a3, a4, a5⟩ := h
  have h24 := a1.1
  have key : ∀ law, LwM M t law x → LwM M' t law x := by
    intro law hl
    unfold LwM at hl ⊢
    cases e : tL x law with
    | none => rw [e] at hl; exact hl
    | some g =>
      rw [e] at hl
      obtain ⟨C, b1, b2, b3, cm, cnt, f, t', b4, b5, b6, b7, b8, b9⟩ := hl
      have h304 := b4.1
      exact ⟨C, b1, b2, b3, cm, cnt, f, t', ⟨b4.1, fun i hi => by rw [hd _ (by omega), hd _ (by omega)]; exact b4.2 i hi⟩, b5, b6, (hd _ (by omega)).trans b7, (hd _ (by omega)).trans b8, b9⟩
  exact ⟨a1, (hd _ (by omega)).trans a2, fun i hi => ⟨(hd _ (by omega)).trans (a3 i hi).1, fun z => (hd _ (by omega)).trans ((a3 i hi).2.1 z), fun z => (hd _ (by omega)).trans ((a3 i hi).2.2 z)⟩, key 0 a4, key 1 a5⟩
theorem im_txt {f2 : Fa} {n : Nat} (hM : IM M s s' T tb tl f) (ho : IO s s' tb tl) (hn : n = sTc s) (hn4 : n < 4) (hd : D (QTm n) M M') (hFM : FM M') (h4 : gI M' 174 4 = nI 0) (h5 : gI M' 174 5 = (if f2.1 = true then f2.2.1 else -nI 1)) (h6 : gI M' 174 6 = (if f2.1 = true then f2.2.2 else -nI 1)) : IM M' s s' T tb 0 f2 := by
  obtain ⟨a1, a2, a3, a4, a5, a6, a7⟩ := hM
  refine ⟨hFM, a2.dP ho.1 hd (fun j => by unfold QTm PMt; omega), a3.dP ho.2.1 hd (fun j => by unfold QTm PMt; omega), fun t ht => mt_mv (a4 t ht) (fun j hj => hd.i (by unfold QTm PMt; omega)), ⟨h4, fun i hi => by omega⟩, ⟨h5, h6⟩, (hd.i (by unfold QTm PMt; omega)).trans a7⟩
theorem oks_tk (h : OkS s) (h4 : sTc s < 4) : OkS (setTx s (sTc s + 1, sRl s)) := by
  obtain ⟨o1, o2, o3, o4, o5, o6, o7⟩ := h
  refine ⟨o1, o2, o3, o4, by show sTc s + 1 ≤ 4; omega, ?_, o7⟩
  rcases o6 with z | ⟨t, z1, z2⟩
  · exact Or.inl z
  · exact Or.inr ⟨t, by show t < sTc s + 1; omega, z2⟩
theorem O_text (hX : IX M s s' T tb tl f) (hM : IM M s s' T tb tl f) (ho : IO s s' tb tl) (hw : StrW M) : ∃ s2 T2 f2 tl2, Op m_X_text m_M_text [] M s2 s' T2 tb tl2 f2 := by
  have h4 := ho.1.2.2.2.2.1
  have htl := ho.2.2.2.1
  have hr := hX.1
  have htc : gI M 1 7 = nI (sTc s) := hX.2.1.2.2.2.1.1
  by_cases e4 : sTc s = 4
  · refine ⟨s, T, f, tl, Op.mk' (r := .int (-nI 1)) (M1 := M) hX hM ho ?_ D.rfl' hX (fun X hI => ⟨X, ?_, D.rfl', hI⟩) ho⟩
    · rw [e4] at htc
      rw [e_X_text]
      simp (disch := omega) only [r_X_text_0, r_X_text_0n, r_X_text_1, r_X_text_4, r_X_text_7, r_X_text_8, r_X_text_9, r_X_text_12, r_X_text_13, r_X_text_13n, r_X_text_14, r_X_text_17, r_X_text_18, r_X_text_21, r_X_text_22, bnd, tl_s, tl_n, wt_nil, wt_int, wt_ref, wt_null, wt_long, Nat.reduceAdd, Nat.reduceLeDiff, if_true, if_false, decide_true, Bool.true_and, Bool.and_true, zok_n0, zok_n1, zok_bI, bI_eq0, bI_eq1, Bool.true_eq_false, Bool.false_eq_true, not_false_eq_true, not_true_eq_false, decide_false, decide_eq_false_iff_not, decide_eq_true_eq, Classical.not_not, ite_not, lit, Nat.reduceEqDiff, Nat.reduceLT, nI_add, nI_lt', nI_le', nI_eq', nI_sub', pk_mul, nI_rem', nI_div', nI_nz, remN, clampN, inb_nI, Nat.not_lt_zero, Nat.zero_le, Nat.le_zero_eq, if_true, if_false, m1_lt0, m1_eq, t_ite, f_ite, Bool.not_false, Bool.not_true, nI_and, nI_or, nI_xor, nI_shl1, nI_shr, nI_ushr, nI_not, nI_and_p2, Nat.one_mul, vrf_s, vrf_n, oF_0, oO_0, oF_1, oO_1, oA_2, oS_2, oA_3, oS_3, oF_4, oO_4, oA_5, oS_5, oA_6, oS_6, oA_7, oS_7, oA_8, oS_8, oA_9, oS_9, oF_70, oO_70, oA_71, oS_71, oA_72, oS_72, oF_73, oO_73, oA_74, oS_74, oA_75, oS_75, oA_76, oS_76, oA_77, oS_77, oA_78, oS_78, oA_139, oS_139, oF_140, oO_140, oA_141, oS_141, oA_142, oS_142, oA_143, oS_143, oA_144, oS_144, oF_145, oO_145, oF_146, oO_146, oA_147, oS_147, oF_148, oO_148, oA_149, oS_149, oA_150, oS_150, oA_151, oS_151, oF_152, oO_152, oA_153, oS_153, oF_154, oO_154, oA_155, oS_155, oA_156, oS_156, oA_157, oS_157, oA_158, oS_158, oF_159, oO_159, oA_160, oS_160, oA_161, oS_161, oA_162, oS_162, oA_163, oS_163, oF_164, oO_164, oA_165, oS_165, oA_166, oS_166, oA_167, oS_167, oA_168, oS_168, oF_169, oO_169, oA_170, oS_170, oA_171, oS_171, oA_172, oS_172, oA_173, oS_173, mO_Tape_cut, mO_Rd_readInto, hr 0 0 1 rfl, hr 0 1 70 rfl, hr 0 2 139 rfl, hr 0 3 140 rfl, hr 0 4 145 rfl, hr 0 5 146 rfl, hr 0 6 148 rfl, hr 0 7 152 rfl, hr 1 1 2 rfl, hr 1 2 3 rfl, hr 1 3 4 rfl, hr 1 4 6 rfl, hr 1 9 7 rfl, hr 1 11 8 rfl, hr 1 12 9 rfl, hr 4 6 5 rfl, hr 152 6 153 rfl, hr 140 0 141 rfl, hr 140 2 142 rfl, hr 140 3 143 rfl, hr 140 4 144 rfl, hr 146 0 147 rfl, hr 148 0 149 rfl, hr 148 2 150 rfl, hr 148 3 151 rfl, htc, oL_139, oN_139, ofN, Nat.lt_irrefl]
    · have hm1 : gI X 175 1 = nI (sTc s) := hI.2.1.2.2.2.1.1
      rw [e4] at hm1
      rw [e_M_text]
      simp (disch := omega) only [r_M_text_0, r_M_text_0n, r_M_text_1, r_M_text_4, r_M_text_5, r_M_text_6, r_M_text_7, r_M_text_10, r_M_text_11, bnd, tl_s, tl_n, wt_nil, wt_int, wt_ref, wt_null, wt_long, Nat.reduceAdd, Nat.reduceLeDiff, if_true, if_false, decide_true, Bool.true_and, Bool.and_true, zok_n0, zok_n1, zok_bI, bI_eq0, bI_eq1, Bool.true_eq_false, Bool.false_eq_true, not_false_eq_true, not_true_eq_false, decide_false, decide_eq_false_iff_not, decide_eq_true_eq, Classical.not_not, ite_not, lit, Nat.reduceEqDiff, Nat.reduceLT, nI_add, nI_lt', nI_le', nI_eq', nI_sub', pk_mul, nI_rem', nI_div', nI_nz, remN, clampN, inb_nI, Nat.not_lt_zero, Nat.zero_le, Nat.le_zero_eq, if_true, if_false, m1_lt0, m1_eq, t_ite, f_ite, Bool.not_false, Bool.not_true, nI_and, nI_or, nI_xor, nI_shl1, nI_shr, nI_ushr, nI_not, nI_and_p2, Nat.one_mul, vrf_s, vrf_n, oF_174, oO_174, oA_175, oS_175, oA_176, oS_176, oA_177, oS_177, oA_178, oS_178, oA_179, oS_179, oA_180, oS_180, oA_181, oS_181, oA_182, oS_182, oA_183, oS_183, oA_184, oS_184, oA_185, oS_185, oA_186, oS_186, oA_187, oS_187, oA_188, oS_188, mO_M_readText, hI.1.a, hm1]
  · have hn4 : sTc s < 4 := by omega
    have hb := isB_of hn4
    have hrg := isB_rng hb
    have n4 : ¬ 4 ≤ sTc s := by omega
    -- the class
    have hT1 : TpX (sI M 0 8 (nI 1)) tb tl := ⟨hr, ⟨fun i hi => by rw [gI_sI_nk (by decide)]; exact hw.1 i hi, fun i hi => by rw [gI_sI_nk (by decide)]; exact hw.2 i hi⟩, by rw [gI_sI_nk (by decide)]; exact hX.2.2.2.2.1.1, fun i hi => by rw [gI_sI_nk (by decide)]; exact hX.2.2.2.2.1.2 i hi, htl, ho.2.2.2.2⟩
    obtain ⟨M2, b1, b2, b3⟩ := y_cut (d := 93) hT1
    have hT2 := hT1.cut b1
    obtain ⟨M3, c1, c2, c3, c4⟩ := y_readInto (d := 34) (b := 154 + 5 * sTc s) hT2.1 b2 hT2.2.2.1 htl hb
    have d3 : D (QTx (154 + 5 * sTc s)) M M3 := ((D.rfl'.sI (Or.inl ⟨rfl, rfl⟩)).trans (b1.mono (fun k j z => by unfold PTk at z; unfold QTx; omega))).trans (c1.mono (fun k j z => by unfold PIn at z; unfold QTx; omega))
    have d4 : D (QTx (154 + 5 * sTc s)) M (sI M3 140 1 (nI 0)) := d3.sI (Or.inr (Or.inl ⟨rfl, Or.inl rfl⟩))
    have hr3 : RX M3 := hr.D d3 (qtx_rx hb)
    have h08 : gI M3 0 8 = nI 1 := by rw [c1.i (by unfold PIn; omega), b1.i (by unfold PTk; omega), gI_sI_eq]
    have hsc : gR M2 139 (sTc s) = some (154 + 5 * sTc s) := hT2.1 139 (sTc s) _ (by unfold rxt; rw [if_neg (by decide), if_neg (by decide), if_neg (by decide), if_neg (by decide), if_pos rfl, if_pos hn4])
    have to53 : ∀ v : Bool, decide ((txF (kdT tb tl) (vlT tb tl) 25 0 x0T).1 = 0) = v → ev 100 m_X_text [.ref 0] NX M = run (ev 99) m_X_text 53 [some (.ref 0), some (.int (nI (sTc s))), some (.int (bI v))] [] NX M3 := by
      intro v hv
      rw [hv] at c2
      rw [e_X_text]
      simp (disch := omega) only [r_X_text_0, r_X_text_0n, r_X_text_1, r_X_text_4, r_X_text_7, r_X_text_8, r_X_text_9, r_X_text_12, r_X_text_13, r_X_text_13n, r_X_text_14, r_X_text_17, r_X_text_18, r_X_text_21, r_X_text_22, r_X_text_23, r_X_text_23n, r_X_text_24, r_X_text_25, r_X_text_28, r_X_text_28n, r_X_text_29, r_X_text_32, r_X_text_35, r_X_text_35n, r_X_text_36, r_X_text_39, r_X_text_39n, r_X_text_40, r_X_text_43, r_X_text_44, r_X_text_45, r_X_text_45n, r_X_text_46, r_X_text_49, r_X_text_52, bnd, tl_s, tl_n, wt_nil, wt_int, wt_ref, wt_null, wt_long, Nat.reduceAdd, Nat.reduceLeDiff, if_true, if_false, decide_true, Bool.true_and, Bool.and_true, zok_n0, zok_n1, zok_bI, bI_eq0, bI_eq1, Bool.true_eq_false, Bool.false_eq_true, not_false_eq_true, not_true_eq_false, decide_false, decide_eq_false_iff_not, decide_eq_true_eq, Classical.not_not, ite_not, lit, Nat.reduceEqDiff, Nat.reduceLT, nI_add, nI_lt', nI_le', nI_eq', nI_sub', pk_mul, nI_rem', nI_div', nI_nz, remN, clampN, inb_nI, Nat.not_lt_zero, Nat.zero_le, Nat.le_zero_eq, if_true, if_false, m1_lt0, m1_eq, t_ite, f_ite, Bool.not_false, Bool.not_true, nI_and, nI_or, nI_xor, nI_shl1, nI_shr, nI_ushr, nI_not, nI_and_p2, Nat.one_mul, vrf_s, vrf_n, oF_0, oO_0, oF_1, oO_1, oA_2, oS_2, oA_3, oS_3, oF_4, oO_4, oA_5, oS_5, oA_6, oS_6, oA_7, oS_7, oA_8, oS_8, oA_9, oS_9, oF_70, oO_70, oA_71, oS_71, oA_72, oS_72, oF_73, oO_73, oA_74, oS_74, oA_75, oS_75, oA_76, oS_76, oA_77, oS_77, oA_78, oS_78, oA_139, oS_139, oF_140, oO_140, oA_141, oS_141, oA_142, oS_142, oA_143, oS_143, oA_144, oS_144, oF_145, oO_145, oF_146, oO_146, oA_147, oS_147, oF_148, oO_148, oA_149, oS_149, oA_150, oS_150, oA_151, oS_151, oF_152, oO_152, oA_153, oS_153, oF_154, oO_154, oA_155, oS_155, oA_156, oS_156, oA_157, oS_157, oA_158, oS_158, oF_159, oO_159, oA_160, oS_160, oA_161, oS_161, oA_162, oS_162, oA_163, oS_163, oF_164, oO_164, oA_165, oS_165, oA_166, oS_166, oA_167, oS_167, oA_168, oS_168, oF_169, oO_169, oA_170, oS_170, oA_171, oS_171, oA_172, oS_172, oA_173, oS_173, mO_Tape_cut, mO_Rd_readInto, hr 0 0 1 rfl, hr 0 1 70 rfl, hr 0 2 139 rfl, hr 0 3 140 rfl, hr 0 4 145 rfl, hr 0 5 146 rfl, hr 0 6 148 rfl, hr 0 7 152 rfl, hr 1 1 2 rfl, hr 1 2 3 rfl, hr 1 3 4 rfl, hr 1 4 6 rfl, hr 1 9 7 rfl, hr 1 11 8 rfl, hr 1 12 9 rfl, hr 4 6 5 rfl, hr 152 6 153 rfl, hr 140 0 141 rfl, hr 140 2 142 rfl, hr 140 3 143 rfl, hr 140 4 144 rfl, hr 146 0 147 rfl, hr 148 0 149 rfl, hr 148 2 150 rfl, hr 148 3 151 rfl, hT2.1 0 0 1 rfl, hT2.1 0 1 70 rfl, hT2.1 0 2 139 rfl, hT2.1 0 3 140 rfl, hT2.1 0 4 145 rfl, hT2.1 0 5 146 rfl, hT2.1 0 6 148 rfl, hT2.1 0 7 152 rfl, hT2.1 1 1 2 rfl, hT2.1 1 2 3 rfl, hT2.1 1 3 4 rfl, hT2.1 1 4 6 rfl, hT2.1 1 9 7 rfl, hT2.1 1 11 8 rfl, hT2.1 1 12 9 rfl, hT2.1 4 6 5 rfl, hT2.1 152 6 153 rfl, hT2.1 140 0 141 rfl, hT2.1 140 2 142 rfl, hT2.1 140 3 143 rfl, hT2.1 140 4 144 rfl, hT2.1 146 0 147 rfl, hT2.1 148 0 149 rfl, hT2.1 148 2 150 rfl, hT2.1 148 3 151 rfl, htc, oL_139, oN_139, ofN, n4, hn4, Bool.or_true, Bool.true_or, gR_sI, b3, hsc, c2]
    -- the reference
    have ref : ∀ X, IM X s s' T tb tl f → ZT (ev 99 m_M_readText [.ref 174] NX X) X tb tl (sTc s) (txF (kdT tb tl) (vlT tb tl) 25 0 x0T) := fun X hI => x_readText (d := 85) ⟨hI.1, hI.2.2.2.2.1.1, hI.2.2.2.2.1.2, htl, ho.2.2.2.2⟩ hn4 hI.2.1.2.2.2.1.1
    have hf6 := fq_tx (kd := kdT tb tl) (vl := vlT tb tl) 25 0 x0T
    generalize txF (kdT tb tl) (vlT tb tl) 25 0 x0T = r at *
    have dLX : D LX M (sI M3 140 1 (nI 0)) := d4.mono (fun k j z => by unfold QTx at z; unfold LX; omega)
    by_cases e0 : r.1 = 0
    · obtain ⟨lw, c, code, hXS⟩ := c4 e0
      have hTx := hXS.2.2.2.2.2
      have f0 : gI M3 145 0 = nI 0 := hXS.1.2.2.2.2.2.1.2.2.1
      have f1 : gI M3 145 1 = -nI 1 := hXS.1.2.2.2.2.2.1.2.2.2
      have hct : CT M3 (154 + 5 * sTc s) r.2.2 := ⟨hTx, hXS.2.2.1.1, hXS.2.2.1.2, hXS.2.2.2.1.toLw hXS.1.cd, hXS.2.2.2.2.1.toLw hXS.1.cd⟩
      have i4 : IX (sI M3 140 1 (nI 0)) s s' T tb 0 (true, nI 0, -nI 1) := ix_txt hX ho rfl hn4 d4 (by rw [gI_sI_nk (by decide)]; exact h08) gI_sI_eq (by rw [gI_sI_nk (by decide)]; exact f0) (by rw [gI_sI_nk (by decide)]; exact f1)
      have d5 : D (fun k j => k = 1 ∧ j = 7) (sI M3 140 1 (nI 0)) (sI (sI M3 140 1 (nI 0)) 1 7 (nI (sTc s + 1))) := D.rfl'.sI ⟨rfl, rfl⟩
      have d34 : D (fun k j => k = 140 ∧ j = 1) M3 (sI M3 140 1 (nI 0)) := D.rfl'.sI ⟨rfl, rfl⟩
      have ho4 : IO s s' tb 0 := ⟨ho.1, ho.2.1, ho.2.2.1, by omega, ho.2.2.2.2⟩
      refine ⟨setTx s (sTc s + 1, sRl s), upTx T (sTc s) r.2.2, (true, nI 0, -nI 1), 0, Op.mk' (r := .int (nI (sTc s))) (M1 := sI (sI M3 140 1 (nI 0)) 1 7 (nI (sTc s + 1))) hX hM ho ?_ (dLX.sI (by unfold LX; omega)) ?_ (fun X hI => ?_) ⟨oks_tk ho.1 hn4, ho.2.1, by show sTc s' ≤ sTc s + 1; have := ho.2.2.1; omega, by omega, ho.2.2.2.2⟩⟩
      · rw [to53 true (decide_eq_true e0), bI_t]
        simp (disch := omega) only [r_X_text_53, r_X_text_53n, r_X_text_54, r_X_text_57, r_X_text_58, r_X_text_61, r_X_text_62, r_X_text_65, r_X_text_66, r_X_text_67, r_X_text_67n, r_X_text_68, r_X_text_71, r_X_text_72, r_X_text_73, r_X_text_74, r_X_text_77, r_X_text_78, bnd, tl_s, tl_n, wt_nil, wt_int, wt_ref, wt_null, wt_long, Nat.reduceAdd, Nat.reduceLeDiff, if_true, if_false, decide_true, Bool.true_and, Bool.and_true, zok_n0, zok_n1, zok_bI, bI_eq0, bI_eq1, Bool.true_eq_false, Bool.false_eq_true, not_false_eq_true, not_true_eq_false, decide_false, decide_eq_false_iff_not, decide_eq_true_eq, Classical.not_not, ite_not, lit, Nat.reduceEqDiff, Nat.reduceLT, nI_add, nI_lt', nI_le', nI_eq', nI_sub', pk_mul, nI_rem', nI_div', nI_nz, remN, clampN, inb_nI, Nat.not_lt_zero, Nat.zero_le, Nat.le_zero_eq, if_true, if_false, m1_lt0, m1_eq, t_ite, f_ite, Bool.not_false, Bool.not_true, nI_and, nI_or, nI_xor, nI_shl1, nI_shr, nI_ushr, nI_not, nI_and_p2, Nat.one_mul, vrf_s, vrf_n, oF_0, oO_0, oF_1, oO_1, oA_2, oS_2, oA_3, oS_3, oF_4, oO_4, oA_5, oS_5, oA_6, oS_6, oA_7, oS_7, oA_8, oS_8, oA_9, oS_9, oF_70, oO_70, oA_71, oS_71, oA_72, oS_72, oF_73, oO_73, oA_74, oS_74, oA_75, oS_75, oA_76, oS_76, oA_77, oS_77, oA_78, oS_78, oA_139, oS_139, oF_140, oO_140, oA_141, oS_141, oA_142, oS_142, oA_143, oS_143, oA_144, oS_144, oF_145, oO_145, oF_146, oO_146, oA_147, oS_147, oF_148, oO_148, oA_149, oS_149, oA_150, oS_150, oA_151, oS_151, oF_152, oO_152, oA_153, oS_153, oF_154, oO_154, oA_155, oS_155, oA_156, oS_156, oA_157, oS_157, oA_158, oS_158, oF_159, oO_159, oA_160, oS_160, oA_161, oS_161, oA_162, oS_162, oA_163, oS_163, oF_164, oO_164, oA_165, oS_165, oA_166, oS_166, oA_167, oS_167, oA_168, oS_168, oF_169, oO_169, oA_170, oS_170, oA_171, oS_171, oA_172, oS_172, oA_173, oS_173, mO_Tape_cut, mO_Rd_readInto, hr3 0 0 1 rfl, hr3 0 1 70 rfl, hr3 0 2 139 rfl, hr3 0 3 140 rfl, hr3 0 4 145 rfl, hr3 0 5 146 rfl, hr3 0 6 148 rfl, hr3 0 7 152 rfl, hr3 1 1 2 rfl, hr3 1 2 3 rfl, hr3 1 3 4 rfl, hr3 1 4 6 rfl, hr3 1 9 7 rfl, hr3 1 11 8 rfl, hr3 1 12 9 rfl, hr3 4 6 5 rfl, hr3 152 6 153 rfl, hr3 140 0 141 rfl, hr3 140 2 142 rfl, hr3 140 3 143 rfl, hr3 140 4 144 rfl, hr3 146 0 147 rfl, hr3 148 0 149 rfl, hr3 148 2 150 rfl, hr3 148 3 151 rfl, gR_sI]
      · obtain ⟨a1, a2, a3, a4, a5, a6⟩ := i4
        refine ⟨a1.D d5 (fun k j z => by rw [z.1, z.2]; rfl), ⟨sxPl (s := s) a2 ho.1 d5 (fun k j z => by omega), sxNow (s := s) a2 ho.1 d5 (fun k j z => by omega), sxSt (s := s) a2 ho.1 d5 (fun k j z => by omega), ⟨gI_sI_eq, (d5.i (by omega)).trans a2.2.2.2.1.2⟩, sxVo (s := s) a2 d5 (fun k j z => by omega), sxSa (s := s) a2 d5 (fun k j z => by omega)⟩, a3.dP ho.2.1 d5 (fun k j z => by omega), fun t ht => ?_, ⟨(d5.i (by omega)).trans a5.1, fun i hi => by omega⟩, ⟨(d5.i (by omega)).trans a6.1, fun hf => ⟨(d5.i (by omega)).trans (a6.2 hf).1, (d5.i (by omega)).trans (a6.2 hf).2⟩⟩⟩
        have ht' : t < sTc s + 1 := ht
        unfold upTx
        by_cases et : t = sTc s
        · rw [if_pos et, et]
          exact (hct.dP d34 (fun k j z => by omega)).dP d5 (fun k j z => by omega)
        · rw [if_neg et]
          exact (a4 t (by omega)).dP d5 (fun k j z => by omega)
      · obtain ⟨X1, g1, g2, g3, g4⟩ := ref X hI
        obtain ⟨w5, cm5, hZ⟩ := g4 e0
        have hX1 := hZ.1
        have hm1 : gI X1 175 1 = nI (sTc s) := by rw [g1.i (by unfold PMt; omega)]; exact hI.2.1.2.2.2.1.1
        have hm0 : gI X 175 1 = nI (sTc s) := hI.2.1.2.2.2.1.1
        rw [e0] at g2
        have d6 : D (QTm (sTc s)) X (sI (sI (sI X1 174 5 (nI 0)) 174 6 (-nI 1)) 174 4 (nI 0)) := (((g1.mono (fun k j z => Or.inl z)).sI (Or.inr ⟨rfl, by omega⟩)).sI (Or.inr ⟨rfl, by omega⟩)).sI (Or.inr ⟨rfl, by omega⟩)
        have i6 : IM (sI (sI (sI X1 174 5 (nI 0)) 174 6 (-nI 1)) 174 4 (nI 0)) s s' T tb 0 (true, nI 0, -nI 1) := im_txt hI ho rfl hn4 d6 hX1.1 gI_sI_eq (by rw [gI_sI_nj (by decide), gI_sI_nj (by decide), gI_sI_eq]; rfl) (by rw [gI_sI_nj (by decide), gI_sI_eq]; rfl)
        have d7 : D (fun k j => k = 175 ∧ j = 1) (sI (sI (sI X1 174 5 (nI 0)) 174 6 (-nI 1)) 174 4 (nI 0)) (sI (sI (sI (sI X1 174 5 (nI 0)) 174 6 (-nI 1)) 174 4 (nI 0)) 175 1 (nI (sTc s + 1))) := D.rfl'.sI ⟨rfl, rfl⟩
        refine ⟨sI (sI (sI (sI X1 174 5 (nI 0)) 174 6 (-nI 1)) 174 4 (nI 0)) 175 1 (nI (sTc s + 1)), ?_, (d6.mono (fun k j z => by unfold QTm PMt at z; unfold LM; omega)).sI (by unfold LM; omega), ?_⟩
        · have n4' : ¬ sTc s = 4 := e4
          have q5 : ∀ v w, gI (sI (sI X1 174 5 v) 174 6 w) 174 5 = v := fun v w => by rw [gI_sI_nj (by decide), gI_sI_eq]
          have q55 : ∀ v w u, gI (sI (sI (sI X1 174 5 v) 174 6 w) 174 4 u) 174 5 = v := fun v w u => by rw [gI_sI_nj (by decide)]; exact q5 v w
          have q1 : ∀ v w u, gI (sI (sI (sI X1 174 5 v) 174 6 w) 174 4 u) 175 1 = nI (sTc s) := fun v w u => by rw [gI_sI_nk (by decide), gI_sI_nk (by decide), gI_sI_nk (by decide)]; exact hm1
          rw [e_M_text]
          simp (disch := omega) only [r_M_text_0, r_M_text_0n, r_M_text_1, r_M_text_4, r_M_text_5, r_M_text_6, r_M_text_7, r_M_text_10, r_M_text_11, r_M_text_12, r_M_text_12n, r_M_text_13, r_M_text_13n, r_M_text_14, r_M_text_17, r_M_text_20, r_M_text_20n, r_M_text_21, r_M_text_21n, r_M_text_22, r_M_text_25, r_M_text_28, r_M_text_29, r_M_text_32, r_M_text_32n, r_M_text_33, r_M_text_36, r_M_text_39, r_M_text_39n, r_M_text_40, r_M_text_41, r_M_text_44, r_M_text_44n, r_M_text_45, r_M_text_48, r_M_text_51, r_M_text_52, r_M_text_53, r_M_text_53n, r_M_text_54, r_M_text_57, r_M_text_58, r_M_text_59, r_M_text_60, r_M_text_61, r_M_text_62, r_M_text_63, r_M_text_63n, r_M_text_64, r_M_text_67, r_M_text_68, r_M_text_69, r_M_text_70, r_M_text_71, bnd, tl_s, tl_n, wt_nil, wt_int, wt_ref, wt_null, wt_long, Nat.reduceAdd, Nat.reduceLeDiff, if_true, if_false, decide_true, Bool.true_and, Bool.and_true, zok_n0, zok_n1, zok_bI, bI_eq0, bI_eq1, Bool.true_eq_false, Bool.false_eq_true, not_false_eq_true, not_true_eq_false, decide_false, decide_eq_false_iff_not, decide_eq_true_eq, Classical.not_not, ite_not, lit, Nat.reduceEqDiff, Nat.reduceLT, nI_add, nI_lt', nI_le', nI_eq', nI_sub', pk_mul, nI_rem', nI_div', nI_nz, remN, clampN, inb_nI, Nat.not_lt_zero, Nat.zero_le, Nat.le_zero_eq, if_true, if_false, m1_lt0, m1_eq, t_ite, f_ite, Bool.not_false, Bool.not_true, nI_and, nI_or, nI_xor, nI_shl1, nI_shr, nI_ushr, nI_not, nI_and_p2, Nat.one_mul, vrf_s, vrf_n, oF_174, oO_174, oA_175, oS_175, oA_176, oS_176, oA_177, oS_177, oA_178, oS_178, oA_179, oS_179, oA_180, oS_180, oA_181, oS_181, oA_182, oS_182, oA_183, oS_183, oA_184, oS_184, oA_185, oS_185, oA_186, oS_186, oA_187, oS_187, oA_188, oS_188, mO_M_readText, gR_sI, hI.1.a, hX1.1.a, hm0, n4', g2, gI_sI_eq, q5, q55, q1, Nat.add_sub_cancel]
        · obtain ⟨a1, a2, a3, a4, a5, a6, a7⟩ := i6
          refine ⟨a1, ⟨smPl (s := s) a2 ho.1 d7 (fun k j z => by omega), smNow (s := s) a2 ho.1 d7 (fun k j z => by omega), smSt (s := s) a2 ho.1 d7 (fun k j z => by omega), ⟨gI_sI_eq, (d7.i (by omega)).trans a2.2.2.2.1.2⟩, smVo (s := s) a2 ho.1 d7 (fun k j z => by omega), smSa (s := s) a2 ho.1 d7 (fun k j z => by omega)⟩, a3.dP ho.2.1 d7 (fun j z => by omega), fun t ht => ?_, ⟨(d7.i (by omega)).trans a5.1, fun i hi => by omega⟩, ⟨(d7.i (by omega)).trans a6.1, (d7.i (by omega)).trans a6.2⟩, (d7.i (by omega)).trans a7⟩
          have ht' : t < sTc s + 1 := ht
          have q7 : ∀ j, gI (sI (sI (sI (sI X1 174 5 (nI 0)) 174 6 (-nI 1)) 174 4 (nI 0)) 175 1 (nI (sTc s + 1))) 177 j = gI X1 177 j := fun j => by rw [gI_sI_nk (by decide), gI_sI_nk (by decide), gI_sI_nk (by decide), gI_sI_nk (by decide)]
          unfold upTx
          by_cases et : t = sTc s
          · rw [if_pos et, et]
            obtain ⟨z1, z2, ⟨z3, z4⟩, ⟨z5, z6⟩, z7, z8, z9, z10, z11, z12, z13⟩ := hZ
            have lw : ∀ law, LMr X1 (sTc s) cm5 w5 law r.2.2 → LwM X1 (sTc s) law r.2.2 := by
              intro law hl
              unfold LMr at hl
              unfold LwM
              cases e : tL r.2.2 law with
              | none => rw [e] at hl; exact hl
              | some g =>
                rw [e] at hl
                obtain ⟨C, f, t, p1, p2, p3, p4, p5, p6, p7, p8, p9⟩ := hl
                exact ⟨C, p1, p2, p3, cm5, w5, f, t, z6, p4, p5, p6, p7, p8, p9⟩
            have hmt : MT X1 (sTc s) r.2.2 := ⟨z12, z8, z9, lw 0 z10, lw 1 z11⟩
            exact mt_mv hmt (fun j _ => q7 j)
          · rw [if_neg et]
            exact mt_mv (a4 t (by omega)) (fun j _ => d7.i (by omega))
    · have hrf := c3 e0
      have e0' : ¬ r.1 = 0 := e0
      refine ⟨s, T, (true, nI r.1, nI (plT tb tl r.2.1)), 0, Op.mk' (r := .int (-nI 1)) (M1 := sI M3 140 1 (nI 0)) hX hM ho ?_ dLX (ix_txt hX ho rfl hn4 d4 (by rw [gI_sI_nk (by decide)]; exact h08) gI_sI_eq (by rw [gI_sI_nk (by decide)]; exact hrf.1) (by rw [gI_sI_nk (by decide)]; exact hrf.2)) (fun X hI => ?_) ⟨ho.1, ho.2.1, ho.2.2.1, by omega, ho.2.2.2.2⟩⟩
      · rw [to53 false (decide_eq_false e0), bI_f]
        simp (disch := omega) only [r_X_text_53, r_X_text_53n, r_X_text_54, r_X_text_57, r_X_text_58, r_X_text_61, r_X_text_62, r_X_text_65, r_X_text_66, bnd, tl_s, tl_n, wt_nil, wt_int, wt_ref, wt_null, wt_long, Nat.reduceAdd, Nat.reduceLeDiff, if_true, if_false, decide_true, Bool.true_and, Bool.and_true, zok_n0, zok_n1, zok_bI, bI_eq0, bI_eq1, Bool.true_eq_false, Bool.false_eq_true, not_false_eq_true, not_true_eq_false, decide_false, decide_eq_false_iff_not, decide_eq_true_eq, Classical.not_not, ite_not, lit, Nat.reduceEqDiff, Nat.reduceLT, nI_add, nI_lt', nI_le', nI_eq', nI_sub', pk_mul, nI_rem', nI_div', nI_nz, remN, clampN, inb_nI, Nat.not_lt_zero, Nat.zero_le, Nat.le_zero_eq, if_true, if_false, m1_lt0, m1_eq, t_ite, f_ite, Bool.not_false, Bool.not_true, nI_and, nI_or, nI_xor, nI_shl1, nI_shr, nI_ushr, nI_not, nI_and_p2, Nat.one_mul, vrf_s, vrf_n, oF_0, oO_0, oF_1, oO_1, oA_2, oS_2, oA_3, oS_3, oF_4, oO_4, oA_5, oS_5, oA_6, oS_6, oA_7, oS_7, oA_8, oS_8, oA_9, oS_9, oF_70, oO_70, oA_71, oS_71, oA_72, oS_72, oF_73, oO_73, oA_74, oS_74, oA_75, oS_75, oA_76, oS_76, oA_77, oS_77, oA_78, oS_78, oA_139, oS_139, oF_140, oO_140, oA_141, oS_141, oA_142, oS_142, oA_143, oS_143, oA_144, oS_144, oF_145, oO_145, oF_146, oO_146, oA_147, oS_147, oF_148, oO_148, oA_149, oS_149, oA_150, oS_150, oA_151, oS_151, oF_152, oO_152, oA_153, oS_153, oF_154, oO_154, oA_155, oS_155, oA_156, oS_156, oA_157, oS_157, oA_158, oS_158, oF_159, oO_159, oA_160, oS_160, oA_161, oS_161, oA_162, oS_162, oA_163, oS_163, oF_164, oO_164, oA_165, oS_165, oA_166, oS_166, oA_167, oS_167, oA_168, oS_168, oF_169, oO_169, oA_170, oS_170, oA_171, oS_171, oA_172, oS_172, oA_173, oS_173, mO_Tape_cut, mO_Rd_readInto, hr3 0 0 1 rfl, hr3 0 1 70 rfl, hr3 0 2 139 rfl, hr3 0 3 140 rfl, hr3 0 4 145 rfl, hr3 0 5 146 rfl, hr3 0 6 148 rfl, hr3 0 7 152 rfl, hr3 1 1 2 rfl, hr3 1 2 3 rfl, hr3 1 3 4 rfl, hr3 1 4 6 rfl, hr3 1 9 7 rfl, hr3 1 11 8 rfl, hr3 1 12 9 rfl, hr3 4 6 5 rfl, hr3 152 6 153 rfl, hr3 140 0 141 rfl, hr3 140 2 142 rfl, hr3 140 3 143 rfl, hr3 140 4 144 rfl, hr3 146 0 147 rfl, hr3 148 0 149 rfl, hr3 148 2 150 rfl, hr3 148 3 151 rfl, gR_sI]
      · obtain ⟨X1, g1, g2, g3, g4⟩ := ref X hI
        have hX1 := tpm_D2 (T := sTc s) (tb := tb) (tl := tl) ⟨hI.1, hI.2.2.2.2.1.1, hI.2.2.2.2.1.2, htl, ho.2.2.2.2⟩ g1
        have hm0 : gI X 175 1 = nI (sTc s) := hI.2.1.2.2.2.1.1
        have h8 := g3 e0
        have hpl := plT_le (tb := tb) (tl := tl) r.2.1
        have d6 : D (QTm (sTc s)) X (sI (sI (sI X1 174 5 (nI r.1)) 174 6 (nI (plT tb tl r.2.1))) 174 4 (nI 0)) := (((g1.mono (fun k j z => Or.inl z)).sI (Or.inr ⟨rfl, by omega⟩)).sI (Or.inr ⟨rfl, by omega⟩)).sI (Or.inr ⟨rfl, by omega⟩)
        refine ⟨sI (sI (sI X1 174 5 (nI r.1)) 174 6 (nI (plT tb tl r.2.1))) 174 4 (nI 0), ?_, d6.mono (fun k j z => by unfold QTm PMt at z; unfold LM; omega), im_txt hI ho rfl hn4 d6 hX1.1 gI_sI_eq (by rw [gI_sI_nj (by decide), gI_sI_nj (by decide), gI_sI_eq]; rfl) (by rw [gI_sI_nj (by decide), gI_sI_eq]; rfl)⟩
        have n4' : ¬ sTc s = 4 := e4
        have q8 : ∀ v, gI (sI X1 174 5 v) 174 8 = nI (plT tb tl r.2.1) := fun v => by rw [gI_sI_nj (by decide)]; exact h8
        have q55 : ∀ v w u, gI (sI (sI (sI X1 174 5 v) 174 6 w) 174 4 u) 174 5 = v := fun v w u => by rw [gI_sI_nj (by decide), gI_sI_nj (by decide), gI_sI_eq]
        rw [e_M_text]
        simp (disch := omega) only [r_M_text_0, r_M_text_0n, r_M_text_1, r_M_text_4, r_M_text_5, r_M_text_6, r_M_text_7, r_M_text_10, r_M_text_11, r_M_text_12, r_M_text_12n, r_M_text_13, r_M_text_13n, r_M_text_14, r_M_text_17, r_M_text_20, r_M_text_20n, r_M_text_21, r_M_text_21n, r_M_text_22, r_M_text_25, r_M_text_28, r_M_text_29, r_M_text_32, r_M_text_32n, r_M_text_33, r_M_text_36, r_M_text_39, r_M_text_39n, r_M_text_40, r_M_text_41, r_M_text_44, r_M_text_44n, r_M_text_45, r_M_text_48, r_M_text_51, r_M_text_52, bnd, tl_s, tl_n, wt_nil, wt_int, wt_ref, wt_null, wt_long, Nat.reduceAdd, Nat.reduceLeDiff, if_true, if_false, decide_true, Bool.true_and, Bool.and_true, zok_n0, zok_n1, zok_bI, bI_eq0, bI_eq1, Bool.true_eq_false, Bool.false_eq_true, not_false_eq_true, not_true_eq_false, decide_false, decide_eq_false_iff_not, decide_eq_true_eq, Classical.not_not, ite_not, lit, Nat.reduceEqDiff, Nat.reduceLT, nI_add, nI_lt', nI_le', nI_eq', nI_sub', pk_mul, nI_rem', nI_div', nI_nz, remN, clampN, inb_nI, Nat.not_lt_zero, Nat.zero_le, Nat.le_zero_eq, if_true, if_false, m1_lt0, m1_eq, t_ite, f_ite, Bool.not_false, Bool.not_true, nI_and, nI_or, nI_xor, nI_shl1, nI_shr, nI_ushr, nI_not, nI_and_p2, Nat.one_mul, vrf_s, vrf_n, oF_174, oO_174, oA_175, oS_175, oA_176, oS_176, oA_177, oS_177, oA_178, oS_178, oA_179, oS_179, oA_180, oS_180, oA_181, oS_181, oA_182, oS_182, oA_183, oS_183, oA_184, oS_184, oA_185, oS_185, oA_186, oS_186, oA_187, oS_187, oA_188, oS_188, mO_M_readText, gR_sI, hI.1.a, hm0, n4', g2, gI_sI_eq, q8, q55, e0']
end OTX
