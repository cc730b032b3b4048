/-! TEXT: the reference's texts -/
section ZTX
variable {d : Nat} {M M' : Mem} {tb : Nat → Nat} {tl T k w s : Nat} {cm : Nat → Nat × Nat} {x : Tx}
/-- what comes of a clause, or of a text -/
def ZT (o : Option Res) (M : Mem) (tb : Nat → Nat) (tl T : Nat) (r : CR) : Prop := ∃ M', D (PMt T) M M' ∧ o = some (some (.int (nI r.1)), NX, M') ∧ (r.1 ≠ 0 → gI M' 174 8 = nI (plT tb tl r.2.1)) ∧ (r.1 = 0 → ∃ w cm, ZS M' tb tl T r.2.1 w cm r.2.2 (onc r.2.2) (tN r.2.2))
theorem zs_tok {on n k' : Nat} (h : ZS M tb tl T k w cm x on n) (hd : D PTm M M') (hk : TkM M' tb tl k') (hkk : k ≤ k' ∧ k' ≤ 300) : ZS M' tb tl T k' w cm x on n := by
  obtain ⟨a1, a2, ⟨a3, a4⟩, ⟨a5, a6⟩, a7, a8, a9, a10, a11, a12, a13⟩ := h
  have hlo : ∀ j, gI M' 177 j = gI M 177 j := fun j => hd.i (by unfold PTm; omega)
  have hm : ∀ l, LMr M T cm w l x → LMr M' T cm w l x := fun l hm => hm.mv (fun j _ _ => hlo j) (Nat.le_refl _) (fun _ _ => rfl) rfl (Nat.le_refl _) (fun _ _ => rfl) (fun _ i z y => by omega)
  exact ⟨a1.tok hd, hk, ⟨(hd.i (by unfold PTm; omega)).trans a3, a4⟩, ⟨(hd.i (by unfold PTm; omega)).trans a5, a6.dP hd (fun j => by unfold PTm; omega)⟩, (hd.i (by unfold PTm; omega)).trans a7, (hlo _).trans a8, fun i hi => by rw [hlo, hlo, hlo]; exact a9 i hi, hm 0 a10, hm 1 a11, a12, by omega⟩
theorem zs_set {on n j : Nat} {v : Int32} (h : ZS M tb tl T k w cm x on n) (hj : j = 14) : ZS (sI M 174 j v) tb tl T k w cm x on n := by
  subst hj
  obtain ⟨a1, a2, ⟨a3, a4⟩, ⟨a5, a6⟩, a7, a8, a9, a10, a11, a12, a13⟩ := h
  have hlo : ∀ j, gI (sI M 174 14 v) 177 j = gI M 177 j := fun j => gI_sI_nk (by decide)
  have hm : ∀ l, LMr M T cm w l x → LMr (sI M 174 14 v) T cm w l x := fun l hm => hm.mv (fun j _ _ => hlo j) (Nat.le_refl _) (fun _ _ => rfl) rfl (Nat.le_refl _) (fun _ _ => rfl) (fun _ i z y => by omega)
  exact ⟨⟨a1.1, by rw [gI_sI_nj (by decide)]; exact a1.2.1, fun i hi => by rw [gI_sI_nk (by decide)]; exact a1.2.2.1 i hi, a1.2.2.2⟩, tkm_sI a2 (Or.inr (by decide)), ⟨by rw [gI_sI_nj (by decide)]; exact a3, a4⟩, ⟨by rw [gI_sI_nj (by decide)]; exact a5, td_sI a6 (by decide)⟩, by rw [gI_sI_nj (by decide)]; exact a7, (hlo _).trans a8, fun i hi => by rw [hlo, hlo, hlo]; exact a9 i hi, hm 0 a10, hm 1 a11, a12, a13⟩
theorem zs_on {on n on' : Nat} (h : ZS M tb tl T k w cm x on n) : ZS (sI M 174 19 (nI on')) tb tl T k w cm x on' n := by
  obtain ⟨a1, a2, ⟨a3, a4⟩, ⟨a5, a6⟩, a7, a8, a9, a10, a11, a12, a13⟩ := h
  have hlo : ∀ j, gI (sI M 174 19 (nI on')) 177 j = gI M 177 j := fun j => gI_sI_nk (by decide)
  have hm : ∀ l, LMr M T cm w l x → LMr (sI M 174 19 (nI on')) T cm w l x := fun l hm => hm.mv (fun j _ _ => hlo j) (Nat.le_refl _) (fun _ _ => rfl) rfl (Nat.le_refl _) (fun _ _ => rfl) (fun _ i z y => by omega)
  exact ⟨⟨a1.1, by rw [gI_sI_nj (by decide)]; exact a1.2.1, fun i hi => by rw [gI_sI_nk (by decide)]; exact a1.2.2.1 i hi, a1.2.2.2⟩, tkm_sI a2 (Or.inr (by decide)), ⟨by rw [gI_sI_nj (by decide)]; exact a3, a4⟩, ⟨by rw [gI_sI_nj (by decide)]; exact a5, td_sI a6 (by decide)⟩, gI_sI_eq, (hlo _).trans a8, fun i hi => by rw [hlo, hlo, hlo]; exact a9 i hi, hm 0 a10, hm 1 a11, a12, a13⟩
theorem zs_new {on n : Nat} {v : Int32} (h : ZS M tb tl T k w cm x on n) (hn : tN x < 24) : ZS (sI M 177 (681 * T + 1 + 3 * tN x) v) tb tl T k w cm x on n := by
  obtain ⟨a1, a2, ⟨a3, a4⟩, ⟨a5, a6⟩, a7, a8, a9, a10, a11, a12, a13⟩ := h
  have hlo : ∀ j, j < 681 * T + 1 + 3 * tN x → gI (sI M 177 (681 * T + 1 + 3 * tN x) v) 177 j = gI M 177 j := fun j z => gI_sI_nj (by omega)
  have hm : ∀ l, LMr M T cm w l x → LMr (sI M 177 (681 * T + 1 + 3 * tN x) v) T cm w l x := fun l hm => hm.mv (fun j _ y => hlo j y) (Nat.le_refl _) (fun _ _ => rfl) rfl (Nat.le_refl _) (fun _ _ => rfl) (fun _ i z y => by omega)
  exact ⟨⟨a1.1, by rw [gI_sI_nk (by decide)]; exact a1.2.1, fun i hi => by rw [gI_sI_nk (by decide)]; exact a1.2.2.1 i hi, a1.2.2.2⟩, tkm_sI a2 (Or.inl (by decide)), ⟨by rw [gI_sI_nk (by decide)]; exact a3, a4⟩, ⟨by rw [gI_sI_nk (by decide)]; exact a5, td_lo a6 (by omega)⟩, by rw [gI_sI_nk (by decide)]; exact a7, (hlo _ (by omega)).trans a8, fun i hi => by rw [hlo _ (by omega), hlo _ (by omega), hlo _ (by omega)]; exact a9 i hi, hm 0 a10, hm 1 a11, a12, a13⟩
theorem zs_cnt {on n n' : Nat} (h : ZS M tb tl T k w cm x on n) : ZS (sI M 177 (681 * T) (nI n')) tb tl T k w cm x on n' := by
  obtain ⟨a1, a2, ⟨a3, a4⟩, ⟨a5, a6⟩, a7, a8, a9, a10, a11, a12, a13⟩ := h
  have hlo : ∀ j, 681 * T < j → gI (sI M 177 (681 * T) (nI n')) 177 j = gI M 177 j := fun j z => gI_sI_nj (by omega)
  have hm : ∀ l, LMr M T cm w l x → LMr (sI M 177 (681 * T) (nI n')) T cm w l x := fun l hm => hm.mv (fun j z y => hlo j (by omega)) (Nat.le_refl _) (fun _ _ => rfl) rfl (Nat.le_refl _) (fun _ _ => rfl) (fun _ i z y => by omega)
  exact ⟨⟨a1.1, by rw [gI_sI_nk (by decide)]; exact a1.2.1, fun i hi => by rw [gI_sI_nk (by decide)]; exact a1.2.2.1 i hi, a1.2.2.2⟩, tkm_sI a2 (Or.inl (by decide)), ⟨by rw [gI_sI_nk (by decide)]; exact a3, a4⟩, ⟨by rw [gI_sI_nk (by decide)]; exact a5, td_lo a6 (by omega)⟩, by rw [gI_sI_nk (by decide)]; exact a7, gI_sI_eq, fun i hi => by rw [hlo _ (by omega), hlo _ (by omega), hlo _ (by omega)]; exact a9 i hi, hm 0 a10, hm 1 a11, a12, a13⟩
theorem x_clause (h : ZS M tb tl T k w cm x (onc x) (tN x)) : ZT (ev (d + 13) m_M_clause [.ref 174] NX M) M tb tl T (clF (kdT tb tl) (vlT tb tl) x k) := by
  have hT4 := h.2.2.1.2
  have h3t : tl ≤ 300 := h.1.2.2.2.1
  have hso := x_sortOf (d := d + 6) h.1 h.2.1
  have htx := h.1.1.tx
  have h12 := h.2.2.1.1
  have h19 := h.2.2.2.2.1
  have hcn := h.2.2.2.2.2.1
  have hTx := h.2.2.2.2.2.2.2.2.2.1
  obtain ⟨o0, o1, o4, oo0, oo1⟩ := on2_bit (tL x 0).isSome (tL x 1).isSome
  have i0 : 681 * T < 2724 := by omega
  have kn : (nI 0 ≤ -nI 1) = False := eq_false (by decide)
  unfold clF
  by_cases e8 : kdT tb tl k ≤ 8
  · rw [if_pos e8]
    rw [if_pos e8] at hso
    have hk300 := kd_lt (tb := tb) (k := k) h3t (by omega)
    by_cases e4 : kdT tb tl k ≤ 1 ∧ (tL x (kdT tb tl k)).isSome = true
    · rw [if_pos e4]
      have hha : ev (d + 12) m_M_has [.int (nI (onc x)), .int (nI (kdT tb tl k))] NX M = some (some (.int (nI 1)), NX, M) := by
        have hh := x_has (d := d + 11) (nx := NX) (M := M) (s := onc x) (k := kdT tb tl k) (by unfold onc; omega) (by omega)
        have : (onc x).testBit (kdT tb tl k) = true := by
          have hk : kdT tb tl k = 0 ∨ kdT tb tl k = 1 := by omega
          have e := e4.2
          rcases hk with q | q
          · rw [q] at e ⊢; rw [show (onc x).testBit 0 = (tL x 0).isSome from o0]; exact e
          · rw [q] at e ⊢; rw [show (onc x).testBit 1 = (tL x 1).isSome from o1]; exact e
        rw [this, bI_t] at hh
        exact hh
      refine ⟨M, D.rfl', ?_, fun _ => h.2.1.2.1, fun q => by cases q⟩
      have e1' : ¬ 1 < kdT tb tl k := by omega
      rw [e_M_clause]
      simp (disch := omega) only [r_M_clause_0, r_M_clause_0n, r_M_clause_1, r_M_clause_4, r_M_clause_5, r_M_clause_6, r_M_clause_9, r_M_clause_10, r_M_clause_11, r_M_clause_12, r_M_clause_13, r_M_clause_16, r_M_clause_16n, r_M_clause_17, r_M_clause_20, r_M_clause_21, r_M_clause_24, r_M_clause_27, r_M_clause_28, bnd, tl_s, tl_n, wt_nil, wt_int, wt_ref, wt_null, wt_long, Nat.reduceAdd, Nat.reduceLeDiff, if_true, if_false, decide_true, Bool.true_and, Bool.and_true, zok_n0, zok_n1, zok_bI, bI_eq0, bI_eq1, Bool.true_eq_false, Bool.false_eq_true, not_false_eq_true, not_true_eq_false, decide_false, decide_eq_false_iff_not, decide_eq_true_eq, Classical.not_not, ite_not, lit, Nat.reduceEqDiff, Nat.reduceLT, nI_add, nI_lt', nI_le', nI_eq', nI_sub', pk_mul, nI_rem', nI_div', nI_nz, remN, clampN, inb_nI, Nat.not_lt_zero, Nat.zero_le, Nat.le_zero_eq, if_true, if_false, m1_lt0, m1_eq, t_ite, f_ite, Bool.not_false, Bool.not_true, nI_and, nI_or, nI_xor, nI_shl1, nI_shr, nI_ushr, nI_not, nI_and_p2, Nat.one_mul, vrf_s, vrf_n, oF_174, oO_174, oA_175, oS_175, oA_176, oS_176, oA_177, oS_177, oA_178, oS_178, oA_179, oS_179, oA_180, oS_180, oA_181, oS_181, oA_182, oS_182, oA_183, oS_183, oA_184, oS_184, oA_185, oS_185, oA_186, oS_186, oA_187, oS_187, oA_188, oS_188, mO_M_sortOf, mO_M_has, mO_M_nextToken, mO_M_body, hso, e1', h19, hha]
    · rw [if_neg e4]
      have to29 : ev (d + 13) m_M_clause [.ref 174] NX M = run (ev (d + 12)) m_M_clause 29 [some (.ref 174), some (.int (nI (kdT tb tl k))), none, none, none] [] NX M := by
        rw [e_M_clause]
        by_cases e1 : kdT tb tl k ≤ 1
        · have e1' : ¬ 1 < kdT tb tl k := by omega
          have hha : ev (d + 12) m_M_has [.int (nI (onc x)), .int (nI (kdT tb tl k))] NX M = some (some (.int (nI 0)), NX, M) := by
            have hh := x_has (d := d + 11) (nx := NX) (M := M) (s := onc x) (k := kdT tb tl k) (by unfold onc; omega) (by omega)
            have : (onc x).testBit (kdT tb tl k) = false := by
              have hk : kdT tb tl k = 0 ∨ kdT tb tl k = 1 := by omega
              have e : ¬ (tL x (kdT tb tl k)).isSome = true := fun z => e4 ⟨e1, z⟩
              rcases hk with q | q
              · rw [q] at e ⊢; rw [show (onc x).testBit 0 = (tL x 0).isSome from o0]; exact Bool.eq_false_iff.mpr e
              · rw [q] at e ⊢; rw [show (onc x).testBit 1 = (tL x 1).isSome from o1]; exact Bool.eq_false_iff.mpr e
            rw [this, bI_f] at hh
            exact hh
          simp (disch := omega) only [r_M_clause_0, r_M_clause_0n, r_M_clause_1, r_M_clause_4, r_M_clause_5, r_M_clause_6, r_M_clause_9, r_M_clause_10, r_M_clause_11, r_M_clause_12, r_M_clause_13, r_M_clause_16, r_M_clause_16n, r_M_clause_17, r_M_clause_20, r_M_clause_21, r_M_clause_24, bnd, tl_s, tl_n, wt_nil, wt_int, wt_ref, wt_null, wt_long, Nat.reduceAdd, Nat.reduceLeDiff, if_true, if_false, decide_true, Bool.true_and, Bool.and_true, zok_n0, zok_n1, zok_bI, bI_eq0, bI_eq1, Bool.true_eq_false, Bool.false_eq_true, not_false_eq_true, not_true_eq_false, decide_false, decide_eq_false_iff_not, decide_eq_true_eq, Classical.not_not, ite_not, lit, Nat.reduceEqDiff, Nat.reduceLT, nI_add, nI_lt', nI_le', nI_eq', nI_sub', pk_mul, nI_rem', nI_div', nI_nz, remN, clampN, inb_nI, Nat.not_lt_zero, Nat.zero_le, Nat.le_zero_eq, if_true, if_false, m1_lt0, m1_eq, t_ite, f_ite, Bool.not_false, Bool.not_true, nI_and, nI_or, nI_xor, nI_shl1, nI_shr, nI_ushr, nI_not, nI_and_p2, Nat.one_mul, vrf_s, vrf_n, oF_174, oO_174, oA_175, oS_175, oA_176, oS_176, oA_177, oS_177, oA_178, oS_178, oA_179, oS_179, oA_180, oS_180, oA_181, oS_181, oA_182, oS_182, oA_183, oS_183, oA_184, oS_184, oA_185, oS_185, oA_186, oS_186, oA_187, oS_187, oA_188, oS_188, mO_M_sortOf, mO_M_has, mO_M_nextToken, mO_M_body, hso, e1', h19, hha]
        · have e1' : 1 < kdT tb tl k := by omega
          simp (disch := omega) only [r_M_clause_0, r_M_clause_0n, r_M_clause_1, r_M_clause_4, r_M_clause_5, r_M_clause_6, r_M_clause_9, r_M_clause_10, r_M_clause_11, r_M_clause_12, r_M_clause_13, bnd, tl_s, tl_n, wt_nil, wt_int, wt_ref, wt_null, wt_long, Nat.reduceAdd, Nat.reduceLeDiff, if_true, if_false, decide_true, Bool.true_and, Bool.and_true, zok_n0, zok_n1, zok_bI, bI_eq0, bI_eq1, Bool.true_eq_false, Bool.false_eq_true, not_false_eq_true, not_true_eq_false, decide_false, decide_eq_false_iff_not, decide_eq_true_eq, Classical.not_not, ite_not, lit, Nat.reduceEqDiff, Nat.reduceLT, nI_add, nI_lt', nI_le', nI_eq', nI_sub', pk_mul, nI_rem', nI_div', nI_nz, remN, clampN, inb_nI, Nat.not_lt_zero, Nat.zero_le, Nat.le_zero_eq, if_true, if_false, m1_lt0, m1_eq, t_ite, f_ite, Bool.not_false, Bool.not_true, nI_and, nI_or, nI_xor, nI_shl1, nI_shr, nI_ushr, nI_not, nI_and_p2, Nat.one_mul, vrf_s, vrf_n, oF_174, oO_174, oA_175, oS_175, oA_176, oS_176, oA_177, oS_177, oA_178, oS_178, oA_179, oS_179, oA_180, oS_180, oA_181, oS_181, oA_182, oS_182, oA_183, oS_183, oA_184, oS_184, oA_185, oS_185, oA_186, oS_186, oA_187, oS_187, oA_188, oS_188, mO_M_sortOf, mO_M_has, mO_M_nextToken, mO_M_body, hso, e1']
      rw [to29]
      by_cases e24 : tN x < 24
      · rw [if_pos e24]
        have n24 : ¬ tN x = 24 := by omega
        have hon : ∃ M1, (M1 = M ∨ M1 = sI M 174 19 (nI (onS x (kdT tb tl k)))) ∧ ZS M1 tb tl T k w cm x (onS x (kdT tb tl k)) (tN x) ∧ run (ev (d + 12)) m_M_clause 29 [some (.ref 174), some (.int (nI (kdT tb tl k))), none, none, none] [] NX M = run (ev (d + 12)) m_M_clause 65 [some (.ref 174), some (.int (nI (kdT tb tl k))), some (.int (nI (tN x))), none, none] [] NX M1 := by
          by_cases e1 : kdT tb tl k ≤ 1
          · refine ⟨_, Or.inr rfl, zs_on h, ?_⟩
            have e1' : ¬ 1 < kdT tb tl k := by omega
            have hk : kdT tb tl k = 0 ∨ kdT tb tl k = 1 := by omega
            rcases hk with q | q
            · have z : onc x ||| 2 ^ 0 = onS x 0 := by
                show on2 _ _ ||| 1 = _
                rw [oo0]
                unfold onS
                rw [decide_eq_true (show (0 : Nat) = 0 from rfl), decide_eq_false (show ¬ (0 : Nat) = 1 by decide), Bool.or_true, Bool.or_false]
              rw [q]
              simp (disch := omega) only [r_M_clause_29, r_M_clause_29n, r_M_clause_30, r_M_clause_33, r_M_clause_33n, r_M_clause_34, r_M_clause_37, r_M_clause_38, r_M_clause_39, r_M_clause_40, r_M_clause_42, r_M_clause_45, r_M_clause_47, r_M_clause_48, r_M_clause_49, r_M_clause_50, r_M_clause_53, r_M_clause_53n, r_M_clause_54, r_M_clause_54i, r_M_clause_55, r_M_clause_58, r_M_clause_59, r_M_clause_60, r_M_clause_61, r_M_clause_62, bnd, tl_s, tl_n, wt_nil, wt_int, wt_ref, wt_null, wt_long, Nat.reduceAdd, Nat.reduceLeDiff, if_true, if_false, decide_true, Bool.true_and, Bool.and_true, zok_n0, zok_n1, zok_bI, bI_eq0, bI_eq1, Bool.true_eq_false, Bool.false_eq_true, not_false_eq_true, not_true_eq_false, decide_false, decide_eq_false_iff_not, decide_eq_true_eq, Classical.not_not, ite_not, lit, Nat.reduceEqDiff, Nat.reduceLT, nI_add, nI_lt', nI_le', nI_eq', nI_sub', pk_mul, nI_rem', nI_div', nI_nz, remN, clampN, inb_nI, Nat.not_lt_zero, Nat.zero_le, Nat.le_zero_eq, if_true, if_false, m1_lt0, m1_eq, t_ite, f_ite, Bool.not_false, Bool.not_true, nI_and, nI_or, nI_xor, nI_shl1, nI_shr, nI_ushr, nI_not, nI_and_p2, Nat.one_mul, vrf_s, vrf_n, oF_174, oO_174, oA_175, oS_175, oA_176, oS_176, oA_177, oS_177, oA_178, oS_178, oA_179, oS_179, oA_180, oS_180, oA_181, oS_181, oA_182, oS_182, oA_183, oS_183, oA_184, oS_184, oA_185, oS_185, oA_186, oS_186, oA_187, oS_187, oA_188, oS_188, mO_M_sortOf, mO_M_has, mO_M_nextToken, mO_M_body, htx, h12, i0, hcn, n24, h19, z]
            · have z : onc x ||| 2 ^ 1 = onS x 1 := by
                show on2 _ _ ||| 2 = _
                rw [oo1]
                unfold onS
                rw [decide_eq_false (show ¬ (1 : Nat) = 0 by decide), decide_eq_true (show (1 : Nat) = 1 from rfl), Bool.or_true, Bool.or_false]
              rw [q]
              simp (disch := omega) only [r_M_clause_29, r_M_clause_29n, r_M_clause_30, r_M_clause_33, r_M_clause_33n, r_M_clause_34, r_M_clause_37, r_M_clause_38, r_M_clause_39, r_M_clause_40, r_M_clause_42, r_M_clause_45, r_M_clause_47, r_M_clause_48, r_M_clause_49, r_M_clause_50, r_M_clause_53, r_M_clause_53n, r_M_clause_54, r_M_clause_54i, r_M_clause_55, r_M_clause_58, r_M_clause_59, r_M_clause_60, r_M_clause_61, r_M_clause_62, bnd, tl_s, tl_n, wt_nil, wt_int, wt_ref, wt_null, wt_long, Nat.reduceAdd, Nat.reduceLeDiff, if_true, if_false, decide_true, Bool.true_and, Bool.and_true, zok_n0, zok_n1, zok_bI, bI_eq0, bI_eq1, Bool.true_eq_false, Bool.false_eq_true, not_false_eq_true, not_true_eq_false, decide_false, decide_eq_false_iff_not, decide_eq_true_eq, Classical.not_not, ite_not, lit, Nat.reduceEqDiff, Nat.reduceLT, nI_add, nI_lt', nI_le', nI_eq', nI_sub', pk_mul, nI_rem', nI_div', nI_nz, remN, clampN, inb_nI, Nat.not_lt_zero, Nat.zero_le, Nat.le_zero_eq, if_true, if_false, m1_lt0, m1_eq, t_ite, f_ite, Bool.not_false, Bool.not_true, nI_and, nI_or, nI_xor, nI_shl1, nI_shr, nI_ushr, nI_not, nI_and_p2, Nat.one_mul, vrf_s, vrf_n, oF_174, oO_174, oA_175, oS_175, oA_176, oS_176, oA_177, oS_177, oA_178, oS_178, oA_179, oS_179, oA_180, oS_180, oA_181, oS_181, oA_182, oS_182, oA_183, oS_183, oA_184, oS_184, oA_185, oS_185, oA_186, oS_186, oA_187, oS_187, oA_188, oS_188, mO_M_sortOf, mO_M_has, mO_M_nextToken, mO_M_body, htx, h12, i0, hcn, n24, h19, z]
          · have e1' : 1 < kdT tb tl k := by omega
            have z : onS x (kdT tb tl k) = onc x := by unfold onS onc; rw [decide_eq_false (by omega), decide_eq_false (by omega), Bool.or_false, Bool.or_false]
            refine ⟨M, Or.inl rfl, by rw [z]; exact h, ?_⟩
            simp (disch := omega) only [r_M_clause_29, r_M_clause_29n, r_M_clause_30, r_M_clause_33, r_M_clause_33n, r_M_clause_34, r_M_clause_37, r_M_clause_38, r_M_clause_39, r_M_clause_40, r_M_clause_42, r_M_clause_45, r_M_clause_47, r_M_clause_48, r_M_clause_49, r_M_clause_50, bnd, tl_s, tl_n, wt_nil, wt_int, wt_ref, wt_null, wt_long, Nat.reduceAdd, Nat.reduceLeDiff, if_true, if_false, decide_true, Bool.true_and, Bool.and_true, zok_n0, zok_n1, zok_bI, bI_eq0, bI_eq1, Bool.true_eq_false, Bool.false_eq_true, not_false_eq_true, not_true_eq_false, decide_false, decide_eq_false_iff_not, decide_eq_true_eq, Classical.not_not, ite_not, lit, Nat.reduceEqDiff, Nat.reduceLT, nI_add, nI_lt', nI_le', nI_eq', nI_sub', pk_mul, nI_rem', nI_div', nI_nz, remN, clampN, inb_nI, Nat.not_lt_zero, Nat.zero_le, Nat.le_zero_eq, if_true, if_false, m1_lt0, m1_eq, t_ite, f_ite, Bool.not_false, Bool.not_true, nI_and, nI_or, nI_xor, nI_shl1, nI_shr, nI_ushr, nI_not, nI_and_p2, Nat.one_mul, vrf_s, vrf_n, oF_174, oO_174, oA_175, oS_175, oA_176, oS_176, oA_177, oS_177, oA_178, oS_178, oA_179, oS_179, oA_180, oS_180, oA_181, oS_181, oA_182, oS_182, oA_183, oS_183, oA_184, oS_184, oA_185, oS_185, oA_186, oS_186, oA_187, oS_187, oA_188, oS_188, mO_M_sortOf, mO_M_has, mO_M_nextToken, mO_M_body, htx, h12, i0, hcn, n24, e1']
        obtain ⟨M1, hM1, hZ1, r1⟩ := hon
        rw [r1]
        have d1 : D (PMt T) M M1 := by rcases hM1 with q | q <;> rw [q]; exact D.rfl'; exact D.rfl'.sI (Or.inl ⟨rfl, by omega⟩)
        have hZ2 := zs_set (j := 14) (v := nI (kdT tb tl k)) hZ1 rfl
        obtain ⟨M3, b1, b2, b3⟩ := x_nextToken (d := d + 10) (k := k + 1) hZ2.1 hZ2.2.1.1
        have hZ3 := zs_tok hZ2 b1 b2 (by omega)
        have hZ4 := zs_new (v := nI (kdT tb tl k)) hZ3 e24
        have g14 : gI (sI M3 177 (681 * T + 1 + 3 * tN x) (nI (kdT tb tl k))) 174 14 = nI (kdT tb tl k) := by rw [gI_sI_nk (by decide), b1.i (by unfold PTm; omega), gI_sI_eq]
        have hbd := x_body (d := d) hZ4 g14 gI_sI_eq e8 e24 (fun hl => by
          cases hq : tL x (kdT tb tl k) with
          | none => rfl
          | some g => exact absurd ⟨by omega, by rw [hq]; rfl⟩ e4)
        obtain ⟨M5, c1, c2, c3, c4⟩ := hbd
        have htx3 := hZ3.1.1.tx
        have h123 := hZ3.2.2.1.1
        have i1 : 681 * T + 1 + 3 * tN x < 2724 := by omega
        have d4 : D (PMt T) M (sI M3 177 (681 * T + 1 + 3 * tN x) (nI (kdT tb tl k))) := ((d1.sI (Or.inl ⟨rfl, by omega⟩)).trans (b1.mono (fun k j z => by unfold PTm at z; unfold PMt; omega))).sI (Or.inr (Or.inr ⟨rfl, by omega⟩))
        have to100 : run (ev (d + 12)) m_M_clause 65 [some (.ref 174), some (.int (nI (kdT tb tl k))), some (.int (nI (tN x))), none, none] [] NX M1 = run (ev (d + 12)) m_M_clause 100 [some (.ref 174), some (.int (nI (kdT tb tl k))), some (.int (nI (tN x))), some (.int (nI (681 * T + 1 + 3 * tN x))), some (.int (nI (bdF (kdT tb tl) (vlT tb tl) x (kdT tb tl k) (k + 1)).1))] [] NX M5 := by
          simp (disch := omega) only [r_M_clause_65, r_M_clause_65n, r_M_clause_66, r_M_clause_67, r_M_clause_70, r_M_clause_70n, r_M_clause_71, r_M_clause_74, r_M_clause_74n, r_M_clause_75, r_M_clause_78, r_M_clause_79, r_M_clause_80, r_M_clause_81, r_M_clause_82, r_M_clause_83, r_M_clause_84, r_M_clause_85, r_M_clause_85n, r_M_clause_86, r_M_clause_89, r_M_clause_90, r_M_clause_91, r_M_clause_92, r_M_clause_92n, r_M_clause_93, r_M_clause_94, r_M_clause_95, r_M_clause_98, bnd, tl_s, tl_n, wt_nil, wt_int, wt_ref, wt_null, wt_long, Nat.reduceAdd, Nat.reduceLeDiff, if_true, if_false, decide_true, Bool.true_and, Bool.and_true, zok_n0, zok_n1, zok_bI, bI_eq0, bI_eq1, Bool.true_eq_false, Bool.false_eq_true, not_false_eq_true, not_true_eq_false, decide_false, decide_eq_false_iff_not, decide_eq_true_eq, Classical.not_not, ite_not, lit, Nat.reduceEqDiff, Nat.reduceLT, nI_add, nI_lt', nI_le', nI_eq', nI_sub', pk_mul, nI_rem', nI_div', nI_nz, remN, clampN, inb_nI, Nat.not_lt_zero, Nat.zero_le, Nat.le_zero_eq, if_true, if_false, m1_lt0, m1_eq, t_ite, f_ite, Bool.not_false, Bool.not_true, nI_and, nI_or, nI_xor, nI_shl1, nI_shr, nI_ushr, nI_not, nI_and_p2, Nat.one_mul, vrf_s, vrf_n, oF_174, oO_174, oA_175, oS_175, oA_176, oS_176, oA_177, oS_177, oA_178, oS_178, oA_179, oS_179, oA_180, oS_180, oA_181, oS_181, oA_182, oS_182, oA_183, oS_183, oA_184, oS_184, oA_185, oS_185, oA_186, oS_186, oA_187, oS_187, oA_188, oS_188, mO_M_sortOf, mO_M_has, mO_M_nextToken, mO_M_body, b3, htx3, h123, i1, c2]
        rw [to100]
        have hf6 : (bdF (kdT tb tl) (vlT tb tl) x (kdT tb tl k) (k + 1)).1 = 0 → tN (bdF (kdT tb tl) (vlT tb tl) x (kdT tb tl k) (k + 1)).2.2 = tN x + 1 := bd_tN
        have hf7 : (bdF (kdT tb tl) (vlT tb tl) x (kdT tb tl k) (k + 1)).1 = 0 → onc (bdF (kdT tb tl) (vlT tb tl) x (kdT tb tl k) (k + 1)).2.2 = onS x (kdT tb tl k) := bd_on e8
        have hf8 : (bdF (kdT tb tl) (vlT tb tl) x (kdT tb tl k) (k + 1)).1 ≤ 6 := fq_bd
        unfold smc
        generalize (bdF (kdT tb tl) (vlT tb tl) x (kdT tb tl k) (k + 1)) = r at *
        by_cases e0 : r.1 = 0
        · rw [if_pos e0]
          obtain ⟨w5, cm5, hZ5⟩ := c4 e0
          have htx5 := hZ5.1.1.tx
          have h125 := hZ5.2.2.1.1
          have hcn5 := hZ5.2.2.2.2.2.1
          have hZ6 := zs_cnt (n' := tN x + 1) hZ5
          have h9 := hZ6.2.1.2.2.1
          have ht := tc_lt (tb := tb) (tl := tl) (k := r.2.1)
          rw [e0]
          by_cases e38 : kdT tb tl r.2.1 = 38
          · rw [if_pos e38]
            have hk5 := kd_lt (tb := tb) (k := r.2.1) h3t (by omega)
            have q := (tq_59 (tb := tb) (tl := tl) (k := r.2.1)).trans (eq_true e38)
            obtain ⟨M7, g1, g2, g3⟩ := x_nextToken (d := d + 10) (k := r.2.1 + 1) hZ6.1 hZ6.2.1.1
            refine ⟨M7, (((d4.trans c1).sI (Or.inr (Or.inr ⟨rfl, Nat.le_refl _⟩)))).trans (g1.mono (fun k j z => by unfold PTm at z; unfold PMt; omega)), ?_, fun q => absurd rfl q, fun _ => ⟨w5, cm5, ?_⟩⟩
            · simp (disch := omega) only [r_M_clause_100, r_M_clause_102, r_M_clause_105, r_M_clause_107, r_M_clause_108, r_M_clause_108n, r_M_clause_109, r_M_clause_112, r_M_clause_112n, r_M_clause_113, r_M_clause_116, r_M_clause_117, r_M_clause_118, r_M_clause_119, r_M_clause_120, r_M_clause_121, r_M_clause_121n, r_M_clause_122, r_M_clause_125, r_M_clause_127, r_M_clause_130, r_M_clause_131, r_M_clause_132, r_M_clause_132n, r_M_clause_133, r_M_clause_136, r_M_clause_137, bnd, tl_s, tl_n, wt_nil, wt_int, wt_ref, wt_null, wt_long, Nat.reduceAdd, Nat.reduceLeDiff, if_true, if_false, decide_true, Bool.true_and, Bool.and_true, zok_n0, zok_n1, zok_bI, bI_eq0, bI_eq1, Bool.true_eq_false, Bool.false_eq_true, not_false_eq_true, not_true_eq_false, decide_false, decide_eq_false_iff_not, decide_eq_true_eq, Classical.not_not, ite_not, lit, Nat.reduceEqDiff, Nat.reduceLT, nI_add, nI_lt', nI_le', nI_eq', nI_sub', pk_mul, nI_rem', nI_div', nI_nz, remN, clampN, inb_nI, Nat.not_lt_zero, Nat.zero_le, Nat.le_zero_eq, if_true, if_false, m1_lt0, m1_eq, t_ite, f_ite, Bool.not_false, Bool.not_true, nI_and, nI_or, nI_xor, nI_shl1, nI_shr, nI_ushr, nI_not, nI_and_p2, Nat.one_mul, vrf_s, vrf_n, oF_174, oO_174, oA_175, oS_175, oA_176, oS_176, oA_177, oS_177, oA_178, oS_178, oA_179, oS_179, oA_180, oS_180, oA_181, oS_181, oA_182, oS_182, oA_183, oS_183, oA_184, oS_184, oA_185, oS_185, oA_186, oS_186, oA_187, oS_187, oA_188, oS_188, mO_M_sortOf, mO_M_has, mO_M_nextToken, mO_M_body, htx5, h125, hcn5, i0, h9, q, g3]
            · dsimp only
              rw [hf6 e0, hf7 e0]
              exact zs_tok hZ6 g1 g2 (by omega)
          · rw [if_neg e38]
            have q := (tq_59 (tb := tb) (tl := tl) (k := r.2.1)).trans (eq_false e38)
            refine ⟨_, (d4.trans c1).sI (Or.inr (Or.inr ⟨rfl, Nat.le_refl _⟩)), ?_, fun _ => hZ6.2.1.2.1, fun q => by cases q⟩
            simp (disch := omega) only [r_M_clause_100, r_M_clause_102, r_M_clause_105, r_M_clause_107, r_M_clause_108, r_M_clause_108n, r_M_clause_109, r_M_clause_112, r_M_clause_112n, r_M_clause_113, r_M_clause_116, r_M_clause_117, r_M_clause_118, r_M_clause_119, r_M_clause_120, r_M_clause_121, r_M_clause_121n, r_M_clause_122, r_M_clause_125, r_M_clause_127, r_M_clause_130, r_M_clause_131, bnd, tl_s, tl_n, wt_nil, wt_int, wt_ref, wt_null, wt_long, Nat.reduceAdd, Nat.reduceLeDiff, if_true, if_false, decide_true, Bool.true_and, Bool.and_true, zok_n0, zok_n1, zok_bI, bI_eq0, bI_eq1, Bool.true_eq_false, Bool.false_eq_true, not_false_eq_true, not_true_eq_false, decide_false, decide_eq_false_iff_not, decide_eq_true_eq, Classical.not_not, ite_not, lit, Nat.reduceEqDiff, Nat.reduceLT, nI_add, nI_lt', nI_le', nI_eq', nI_sub', pk_mul, nI_rem', nI_div', nI_nz, remN, clampN, inb_nI, Nat.not_lt_zero, Nat.zero_le, Nat.le_zero_eq, if_true, if_false, m1_lt0, m1_eq, t_ite, f_ite, Bool.not_false, Bool.not_true, nI_and, nI_or, nI_xor, nI_shl1, nI_shr, nI_ushr, nI_not, nI_and_p2, Nat.one_mul, vrf_s, vrf_n, oF_174, oO_174, oA_175, oS_175, oA_176, oS_176, oA_177, oS_177, oA_178, oS_178, oA_179, oS_179, oA_180, oS_180, oA_181, oS_181, oA_182, oS_182, oA_183, oS_183, oA_184, oS_184, oA_185, oS_185, oA_186, oS_186, oA_187, oS_187, oA_188, oS_188, mO_M_sortOf, mO_M_has, mO_M_nextToken, mO_M_body, htx5, h125, hcn5, i0, h9, q]
        · rw [if_neg e0]
          refine ⟨M5, d4.trans c1, ?_, c3, fun q => absurd q e0⟩
          have hne : (nI r.1 = nI 0) = False := by rw [nI_eq' (by omega) (by omega)]; exact eq_false e0
          simp (disch := omega) only [r_M_clause_100, r_M_clause_102, r_M_clause_105, r_M_clause_107, bnd, tl_s, tl_n, wt_nil, wt_int, wt_ref, wt_null, wt_long, Nat.reduceAdd, Nat.reduceLeDiff, if_true, if_false, decide_true, Bool.true_and, Bool.and_true, zok_n0, zok_n1, zok_bI, bI_eq0, bI_eq1, Bool.true_eq_false, Bool.false_eq_true, not_false_eq_true, not_true_eq_false, decide_false, decide_eq_false_iff_not, decide_eq_true_eq, Classical.not_not, ite_not, lit, hne]
      · rw [if_neg e24]
        have n24 : tN x = 24 := by have := hTx.1; omega
        refine ⟨M, D.rfl', ?_, fun _ => h.2.1.2.1, fun q => by cases q⟩
        simp (disch := omega) only [r_M_clause_29, r_M_clause_29n, r_M_clause_30, r_M_clause_33, r_M_clause_33n, r_M_clause_34, r_M_clause_37, r_M_clause_38, r_M_clause_39, r_M_clause_40, r_M_clause_42, r_M_clause_45, r_M_clause_47, bnd, tl_s, tl_n, wt_nil, wt_int, wt_ref, wt_null, wt_long, Nat.reduceAdd, Nat.reduceLeDiff, if_true, if_false, decide_true, Bool.true_and, Bool.and_true, zok_n0, zok_n1, zok_bI, bI_eq0, bI_eq1, Bool.true_eq_false, Bool.false_eq_true, not_false_eq_true, not_true_eq_false, decide_false, decide_eq_false_iff_not, decide_eq_true_eq, Classical.not_not, ite_not, lit, Nat.reduceEqDiff, Nat.reduceLT, nI_add, nI_lt', nI_le', nI_eq', nI_sub', pk_mul, nI_rem', nI_div', nI_nz, remN, clampN, inb_nI, Nat.not_lt_zero, Nat.zero_le, Nat.le_zero_eq, if_true, if_false, m1_lt0, m1_eq, t_ite, f_ite, Bool.not_false, Bool.not_true, nI_and, nI_or, nI_xor, nI_shl1, nI_shr, nI_ushr, nI_not, nI_and_p2, Nat.one_mul, vrf_s, vrf_n, oF_174, oO_174, oA_175, oS_175, oA_176, oS_176, oA_177, oS_177, oA_178, oS_178, oA_179, oS_179, oA_180, oS_180, oA_181, oS_181, oA_182, oS_182, oA_183, oS_183, oA_184, oS_184, oA_185, oS_185, oA_186, oS_186, oA_187, oS_187, oA_188, oS_188, mO_M_sortOf, mO_M_has, mO_M_nextToken, mO_M_body, htx, h12, i0, hcn, n24]
  · rw [if_neg e8]
    rw [if_neg e8] at hso
    refine ⟨M, D.rfl', ?_, fun _ => h.2.1.2.1, fun q => by cases q⟩
    rw [e_M_clause]
    simp (disch := omega) only [r_M_clause_0, r_M_clause_0n, r_M_clause_1, r_M_clause_4, r_M_clause_5, r_M_clause_6, r_M_clause_9, r_M_clause_10, bnd, tl_s, tl_n, wt_nil, wt_int, wt_ref, wt_null, wt_long, Nat.reduceAdd, Nat.reduceLeDiff, if_true, if_false, decide_true, Bool.true_and, Bool.and_true, zok_n0, zok_n1, zok_bI, bI_eq0, bI_eq1, Bool.true_eq_false, Bool.false_eq_true, not_false_eq_true, not_true_eq_false, decide_false, decide_eq_false_iff_not, decide_eq_true_eq, Classical.not_not, ite_not, lit, Nat.reduceEqDiff, Nat.reduceLT, nI_add, nI_lt', nI_le', nI_eq', nI_sub', pk_mul, nI_rem', nI_div', nI_nz, remN, clampN, inb_nI, Nat.not_lt_zero, Nat.zero_le, Nat.le_zero_eq, if_true, if_false, m1_lt0, m1_eq, t_ite, f_ite, Bool.not_false, Bool.not_true, nI_and, nI_or, nI_xor, nI_shl1, nI_shr, nI_ushr, nI_not, nI_and_p2, Nat.one_mul, vrf_s, vrf_n, oF_174, oO_174, oA_175, oS_175, oA_176, oS_176, oA_177, oS_177, oA_178, oS_178, oA_179, oS_179, oA_180, oS_180, oA_181, oS_181, oA_182, oS_182, oA_183, oS_183, oA_184, oS_184, oA_185, oS_185, oA_186, oS_186, oA_187, oS_187, oA_188, oS_188, mO_M_sortOf, mO_M_has, mO_M_nextToken, mO_M_body, hso, kn]
theorem l_text : ∀ n k w cm (x : Tx) (M : Mem) z, tN x + n = 25 → ZS M tb tl T k w cm x (onc x) (tN x) → ZT (run (ev (d + 13)) m_M_readText 43 [some (.ref 174), z] [] NX M) M tb tl T (txF (kdT tb tl) (vlT tb tl) n k x) := by
  intro n
  induction n with
  | zero =>
    intro k w cm x M z hn h
    have := h.2.2.2.2.2.2.2.2.2.1.1
    omega
  | succ n ih =>
    intro k w cm x M z hn h
    have h9 := h.2.1.2.2.1
    have ht := tc_lt (tb := tb) (tl := tl) (k := k)
    rw [txF]
    by_cases e43 : kdT tb tl k = 43
    · rw [if_pos e43]
      have q := (tq_0 (tb := tb) (tl := tl) (k := k)).trans (eq_true e43)
      refine ⟨M, D.rfl', ?_, fun q => absurd rfl q, fun _ => ⟨w, cm, h⟩⟩
      rw [r_M_readText_43]
      simp (disch := omega) only [r_M_readText_44, r_M_readText_47, r_M_readText_64, r_M_readText_65, bnd, tl_s, tl_n, wt_nil, wt_int, wt_ref, wt_null, wt_long, Nat.reduceAdd, Nat.reduceLeDiff, if_true, if_false, decide_true, Bool.true_and, Bool.and_true, zok_n0, zok_n1, zok_bI, bI_eq0, bI_eq1, Bool.true_eq_false, Bool.false_eq_true, not_false_eq_true, not_true_eq_false, decide_false, decide_eq_false_iff_not, decide_eq_true_eq, Classical.not_not, ite_not, lit, Nat.reduceEqDiff, Nat.reduceLT, nI_add, nI_lt', nI_le', nI_eq', nI_sub', pk_mul, nI_rem', nI_div', nI_nz, remN, clampN, inb_nI, Nat.not_lt_zero, Nat.zero_le, Nat.le_zero_eq, if_true, if_false, m1_lt0, m1_eq, t_ite, f_ite, Bool.not_false, Bool.not_true, nI_and, nI_or, nI_xor, nI_shl1, nI_shr, nI_ushr, nI_not, nI_and_p2, Nat.one_mul, vrf_s, vrf_n, oF_174, oO_174, oA_175, oS_175, oA_176, oS_176, oA_177, oS_177, oA_178, oS_178, oA_179, oS_179, oA_180, oS_180, oA_181, oS_181, oA_182, oS_182, oA_183, oS_183, oA_184, oS_184, oA_185, oS_185, oA_186, oS_186, oA_187, oS_187, oA_188, oS_188, mO_M_nextToken, mO_M_clause, h9, q]
    · rw [if_neg e43]
      have q := (tq_0 (tb := tb) (tl := tl) (k := k)).trans (eq_false e43)
      obtain ⟨M1, b1, b2, b3, b4⟩ := x_clause (d := d) h
      have hf := fq_cl (kd := kdT tb tl) (vl := vlT tb tl) (x := x) (k := k)
      have ht1 := cl_tN (kd := kdT tb tl) (vl := vlT tb tl) (x := x) (k := k)
      generalize clF (kdT tb tl) (vlT tb tl) x k = r at *
      by_cases e0 : r.1 = 0
      · rw [if_pos e0]
        obtain ⟨w1, cm1, hZ⟩ := b4 e0
        rw [e0] at b2
        obtain ⟨M2, c1, c2, c3⟩ := ih r.2.1 w1 cm1 r.2.2 M1 (some (.int (nI 0))) (by rw [ht1 e0]; omega) hZ
        refine ⟨M2, b1.trans c1, ?_, c3⟩
        rw [← c2, r_M_readText_43]
        simp (disch := omega) only [r_M_readText_44, r_M_readText_47, r_M_readText_50, r_M_readText_50n, r_M_readText_51, r_M_readText_54, r_M_readText_55, r_M_readText_56, r_M_readText_59, r_M_readText_60, r_M_readText_61, bnd, tl_s, tl_n, wt_nil, wt_int, wt_ref, wt_null, wt_long, Nat.reduceAdd, Nat.reduceLeDiff, if_true, if_false, decide_true, Bool.true_and, Bool.and_true, zok_n0, zok_n1, zok_bI, bI_eq0, bI_eq1, Bool.true_eq_false, Bool.false_eq_true, not_false_eq_true, not_true_eq_false, decide_false, decide_eq_false_iff_not, decide_eq_true_eq, Classical.not_not, ite_not, lit, Nat.reduceEqDiff, Nat.reduceLT, nI_add, nI_lt', nI_le', nI_eq', nI_sub', pk_mul, nI_rem', nI_div', nI_nz, remN, clampN, inb_nI, Nat.not_lt_zero, Nat.zero_le, Nat.le_zero_eq, if_true, if_false, m1_lt0, m1_eq, t_ite, f_ite, Bool.not_false, Bool.not_true, nI_and, nI_or, nI_xor, nI_shl1, nI_shr, nI_ushr, nI_not, nI_and_p2, Nat.one_mul, vrf_s, vrf_n, oF_174, oO_174, oA_175, oS_175, oA_176, oS_176, oA_177, oS_177, oA_178, oS_178, oA_179, oS_179, oA_180, oS_180, oA_181, oS_181, oA_182, oS_182, oA_183, oS_183, oA_184, oS_184, oA_185, oS_185, oA_186, oS_186, oA_187, oS_187, oA_188, oS_188, mO_M_nextToken, mO_M_clause, h9, q, b2]
      · rw [if_neg e0]
        refine ⟨M1, b1, ?_, b3, fun q => absurd q e0⟩
        rw [r_M_readText_43]
        simp (disch := omega) only [r_M_readText_44, r_M_readText_47, r_M_readText_50, r_M_readText_50n, r_M_readText_51, r_M_readText_54, r_M_readText_55, r_M_readText_56, r_M_readText_59, r_M_readText_60, bnd, tl_s, tl_n, wt_nil, wt_int, wt_ref, wt_null, wt_long, Nat.reduceAdd, Nat.reduceLeDiff, if_true, if_false, decide_true, Bool.true_and, Bool.and_true, zok_n0, zok_n1, zok_bI, bI_eq0, bI_eq1, Bool.true_eq_false, Bool.false_eq_true, not_false_eq_true, not_true_eq_false, decide_false, decide_eq_false_iff_not, decide_eq_true_eq, Classical.not_not, ite_not, lit, Nat.reduceEqDiff, Nat.reduceLT, nI_add, nI_lt', nI_le', nI_eq', nI_sub', pk_mul, nI_rem', nI_div', nI_nz, remN, clampN, inb_nI, Nat.not_lt_zero, Nat.zero_le, Nat.le_zero_eq, if_true, if_false, m1_lt0, m1_eq, t_ite, f_ite, Bool.not_false, Bool.not_true, nI_and, nI_or, nI_xor, nI_shl1, nI_shr, nI_ushr, nI_not, nI_and_p2, Nat.one_mul, vrf_s, vrf_n, oF_174, oO_174, oA_175, oS_175, oA_176, oS_176, oA_177, oS_177, oA_178, oS_178, oA_179, oS_179, oA_180, oS_180, oA_181, oS_181, oA_182, oS_182, oA_183, oS_183, oA_184, oS_184, oA_185, oS_185, oA_186, oS_186, oA_187, oS_187, oA_188, oS_188, mO_M_nextToken, mO_M_clause, h9, q, b2, e0]
theorem x_readText (hT : TpM M tb tl) (hT4 : T < 4) (ha : gI M 175 1 = nI T) : ZT (ev (d + 14) m_M_readText [.ref 174] NX M) M tb tl T (txF (kdT tb tl) (vlT tb tl) 25 0 x0T) := by
  have d1 : D (PMt T) M (sI (sI (sI (sI (sI M 174 12 (nI (681 * T))) 177 (681 * T) (nI 0)) 174 13 (nI 0)) 174 19 (nI 0)) 174 7 (nI 0)) := ((((D.rfl'.sI (Or.inl ⟨rfl, by omega⟩)).sI (Or.inr (Or.inr ⟨rfl, Nat.le_refl _⟩))).sI (Or.inl ⟨rfl, by omega⟩)).sI (Or.inl ⟨rfl, by omega⟩)).sI (Or.inl ⟨rfl, by omega⟩)
  have hT1 := tpm_D2 hT d1
  have haa := hT.1.a
  have htx := hT.1.tx
  have i0 : 681 * T < 2724 := by omega
  obtain ⟨M2, b1, b2, b3⟩ := x_nextToken (d := d + 11) (k := 0) hT1 gI_sI_eq
  have hZ : ZS M2 tb tl T 0 0 (fun _ => (0, 0)) x0T (onc x0T) (tN x0T) := by
    refine ⟨hT1.tok b1, b2, ⟨?_, hT4⟩, ⟨?_, ⟨by omega, fun i hi => by omega⟩⟩, ?_, ?_, fun i hi => (by cases hi), fun i hi => (by cases hi), fun i hi => (by cases hi), ⟨by decide, fun i hi => (by cases hi)⟩, by omega⟩
    · rw [b1.i (by unfold PTm; omega), gI_sI_nj (by decide), gI_sI_nj (by decide), gI_sI_nj (by decide), gI_sI_nk (by decide), gI_sI_eq]
    · rw [b1.i (by unfold PTm; omega), gI_sI_nj (by decide), gI_sI_nj (by decide), gI_sI_eq]
    · rw [b1.i (by unfold PTm; omega), gI_sI_nj (by decide), gI_sI_eq]; rfl
    · rw [b1.i (by unfold PTm; omega), gI_sI_nk (by decide), gI_sI_nk (by decide), gI_sI_nk (by decide), gI_sI_eq]; rfl
  obtain ⟨M3, c1, c2, c3⟩ := l_text (d := d) (tb := tb) (tl := tl) (T := T) 25 0 0 (fun _ => (0, 0)) x0T M2 none rfl hZ
  refine ⟨M3, (d1.trans (b1.mono (fun k j z => by unfold PTm at z; unfold PMt; omega))).trans c1, ?_, c3⟩
  rw [← c2, e_M_readText]
  simp (disch := omega) only [r_M_readText_0, r_M_readText_0n, r_M_readText_1, r_M_readText_4, r_M_readText_4n, r_M_readText_5, r_M_readText_8, r_M_readText_9, r_M_readText_10, r_M_readText_11, r_M_readText_14, r_M_readText_14n, r_M_readText_15, r_M_readText_18, r_M_readText_18n, r_M_readText_19, r_M_readText_22, r_M_readText_23, r_M_readText_24, r_M_readText_24n, r_M_readText_25, r_M_readText_26, r_M_readText_29, r_M_readText_29n, r_M_readText_30, r_M_readText_31, r_M_readText_34, r_M_readText_34n, r_M_readText_35, r_M_readText_36, r_M_readText_39, r_M_readText_39n, r_M_readText_40, bnd, tl_s, tl_n, wt_nil, wt_int, wt_ref, wt_null, wt_long, Nat.reduceAdd, Nat.reduceLeDiff, if_true, if_false, decide_true, Bool.true_and, Bool.and_true, zok_n0, zok_n1, zok_bI, bI_eq0, bI_eq1, Bool.true_eq_false, Bool.false_eq_true, not_false_eq_true, not_true_eq_false, decide_false, decide_eq_false_iff_not, decide_eq_true_eq, Classical.not_not, ite_not, lit, Nat.reduceEqDiff, Nat.reduceLT, nI_add, nI_lt', nI_le', nI_eq', nI_sub', pk_mul, nI_rem', nI_div', nI_nz, remN, clampN, inb_nI, Nat.not_lt_zero, Nat.zero_le, Nat.le_zero_eq, if_true, if_false, m1_lt0, m1_eq, t_ite, f_ite, Bool.not_false, Bool.not_true, nI_and, nI_or, nI_xor, nI_shl1, nI_shr, nI_ushr, nI_not, nI_and_p2, Nat.one_mul, vrf_s, vrf_n, oF_174, oO_174, oA_175, oS_175, oA_176, oS_176, oA_177, oS_177, oA_178, oS_178, oA_179, oS_179, oA_180, oS_180, oA_181, oS_181, oA_182, oS_182, oA_183, oS_183, oA_184, oS_184, oA_185, oS_185, oA_186, oS_186, oA_187, oS_187, oA_188, oS_188, mO_M_nextToken, mO_M_clause, gR_sI, haa, ha, htx, i0, gI_sI_eq, b3]
end ZTX
