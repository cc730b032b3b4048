/-! TEXT: the reference reads clauses and texts -/
def onc (x : Tx) : Nat := on2 (tL x 0).isSome (tL x 1).isSome
section ZCL
variable {d : Nat} {M M' : Mem} {tb : Nat → Nat} {tl T k w s : Nat} {cm : Nat → Nat × Nat} {x : Tx}
theorem mv_zs {on f g k' : Nat} (h : ZS M tb tl T k w cm x on (tN x)) (hX : gI M 177 (681 * T + 1 + 3 * tN x) = nI s) (hs : 2 ≤ s) (hn : tN x < 24) (hd : D (QX (681 * T + 1 + 3 * tN x)) M M') (hk : TkM M' tb tl k') (h1 : gI M' 177 (681 * T + 1 + 3 * tN x + 1) = nI f) (h2 : s = 2 ∨ s = 6 ∨ s = 7 → gI M' 177 (681 * T + 1 + 3 * tN x + 2) = nI g) (hc : clOk (s, f, g)) (hkk : k < k' ∧ k' ≤ 300) : ZS M' tb tl T k' w cm (addT x (s, f, g)) on (tN x) := by
  obtain ⟨a1, a2, ⟨a3, a4⟩, ⟨a5, a6⟩, a7, a8, a9, a10, a11, a12, a13⟩ := h
  have hlo : ∀ j, j < 681 * T + 1 + 3 * tN x + 1 → gI M' 177 j = gI M 177 j := fun j z => hd.i (by unfold QX; omega)
  have hm : ∀ l, l < 2 → LMr M T cm w l x → LMr M' T cm w l (addT x (s, f, g)) := fun l hl hm => hm.mv (fun j z y => hlo j (by omega)) (Nat.le_refl _) (fun _ _ => rfl) rfl (by rw [tN_add]; omega) (fun i hi => by rw [tC_add, if_neg (by omega)]) (fun _ i z y => by
    rw [tN_add] at y
    rw [tC_add, if_pos (by omega)]
    show s ≠ l
    omega)
  refine ⟨tpm_D2 (T := T) a1 (hd.mono (fun k j z => by unfold QX at z; unfold PMt; omega)), hk, ⟨(hd.i (by unfold QX; omega)).trans a3, a4⟩, ⟨(hd.i (by unfold QX; omega)).trans a5, ⟨a6.1, fun i hi => ?_⟩⟩, (hd.i (by unfold QX; omega)).trans a7, (hlo _ (by omega)).trans a8, fun i hi => ?_, hm 0 (by decide) a10, hm 1 (by decide) a11, txOk_add a12 hn hc, by omega⟩
  · rw [hd.i (by unfold QX; omega), hd.i (by unfold QX; omega)]
    exact a6.2 i hi
  · rw [tN_add] at hi
    rw [tC_add]
    by_cases e : i = tN x
    · rw [if_pos e, e]
      exact ⟨(hlo _ (by omega)).trans hX, fun _ => h1, h2⟩
    · rw [if_neg e]
      obtain ⟨p1, p2, p3⟩ := a9 i (by omega)
      exact ⟨by rw [hlo _ (by omega)]; exact p1, fun z => by rw [hlo _ (by omega)]; exact p2 z, fun z => by rw [hlo _ (by omega)]; exact p3 z⟩
theorem x_body {on : Nat} (h : ZS M tb tl T k w cm x on (tN x)) (h14 : gI M 174 14 = nI s) (hX : gI M 177 (681 * T + 1 + 3 * tN x) = nI s) (hs : s ≤ 8) (hn : tN x < 24) (hL : s < 2 → tL x s = none) : ZB (ev (d + 12) m_M_body [.ref 174, .int (nI s), .int (nI (681 * T + 1 + 3 * tN x))] NX M) M tb tl T on (tN x) (bdF (kdT tb tl) (vlT tb tl) x s k) := by
  have hT4 := h.2.2.1.2
  have h3t : tl ≤ 300 := h.1.2.2.2.1
  unfold bdF
  by_cases e1 : s ≤ 1
  · rw [if_pos e1]
    have hl := x_lawClause (d := d) h h14 hX (by omega) hn (hL (by omega))
    obtain ⟨M', b1, b2, b3⟩ := hl
    refine ⟨M', b1, ?_, b3⟩
    rw [e_M_body]
    have hs2 : s = 0 ∨ s = 1 := by omega
    rcases hs2 with rfl | rfl
    · simp (disch := omega) only [r_M_body_0, r_M_body_1, r_M_body_142, r_M_body_142n, r_M_body_143, r_M_body_144, r_M_body_147, bnd, tl_s, tl_n, wt_nil, wt_int, wt_ref, wt_null, wt_long, Nat.reduceAdd, Nat.reduceLeDiff, if_true, if_false, decide_true, Bool.true_and, Bool.and_true, zok_n0, zok_n1, zok_bI, bI_eq0, bI_eq1, Bool.true_eq_false, Bool.false_eq_true, not_false_eq_true, not_true_eq_false, decide_false, decide_eq_false_iff_not, decide_eq_true_eq, Classical.not_not, ite_not, lit, Nat.reduceEqDiff, Nat.reduceLT, nI_add, nI_lt', nI_le', nI_eq', nI_sub', pk_mul, nI_rem', nI_div', nI_nz, remN, clampN, inb_nI, Nat.not_lt_zero, Nat.zero_le, Nat.le_zero_eq, if_true, if_false, m1_lt0, m1_eq, t_ite, f_ite, Bool.not_false, Bool.not_true, nI_and, nI_or, nI_xor, nI_shl1, nI_shr, nI_ushr, nI_not, nI_and_p2, Nat.one_mul, vrf_s, vrf_n, oF_174, oO_174, oA_175, oS_175, oA_176, oS_176, oA_177, oS_177, oA_178, oS_178, oA_179, oS_179, oA_180, oS_180, oA_181, oS_181, oA_182, oS_182, oA_183, oS_183, oA_184, oS_184, oA_185, oS_185, oA_186, oS_186, oA_187, oS_187, oA_188, oS_188, mO_M_w2, mO_M_pair, mO_M_figure, mO_M_lawClause, b2]
    · simp (disch := omega) only [r_M_body_0, r_M_body_1, r_M_body_142, r_M_body_142n, r_M_body_143, r_M_body_144, r_M_body_147, bnd, tl_s, tl_n, wt_nil, wt_int, wt_ref, wt_null, wt_long, Nat.reduceAdd, Nat.reduceLeDiff, if_true, if_false, decide_true, Bool.true_and, Bool.and_true, zok_n0, zok_n1, zok_bI, bI_eq0, bI_eq1, Bool.true_eq_false, Bool.false_eq_true, not_false_eq_true, not_true_eq_false, decide_false, decide_eq_false_iff_not, decide_eq_true_eq, Classical.not_not, ite_not, lit, Nat.reduceEqDiff, Nat.reduceLT, nI_add, nI_lt', nI_le', nI_eq', nI_sub', pk_mul, nI_rem', nI_div', nI_nz, remN, clampN, inb_nI, Nat.not_lt_zero, Nat.zero_le, Nat.le_zero_eq, if_true, if_false, m1_lt0, m1_eq, t_ite, f_ite, Bool.not_false, Bool.not_true, nI_and, nI_or, nI_xor, nI_shl1, nI_shr, nI_ushr, nI_not, nI_and_p2, Nat.one_mul, vrf_s, vrf_n, oF_174, oO_174, oA_175, oS_175, oA_176, oS_176, oA_177, oS_177, oA_178, oS_178, oA_179, oS_179, oA_180, oS_180, oA_181, oS_181, oA_182, oS_182, oA_183, oS_183, oA_184, oS_184, oA_185, oS_185, oA_186, oS_186, oA_187, oS_187, oA_188, oS_188, mO_M_w2, mO_M_pair, mO_M_figure, mO_M_lawClause, b2]
  · rw [if_neg e1]
    have hs9 : s = 2 ∨ s = 3 ∨ s = 4 ∨ s = 5 ∨ s = 6 ∨ s = 7 ∨ s = 8 := by omega
    have fig : ∀ lo hi, lo = loS s → hi = hiS s → ¬ (s = 2 ∨ s = 6 ∨ s = 7) → hi ≤ 60 → ZB (ev (d + 11) m_M_figure [.ref 174, .int (nI (681 * T + 1 + 3 * tN x + 1)), .int (nI lo), .int (nI hi)] NX M) M tb tl T on (tN x) (mvF (kdT tb tl) (vlT tb tl) x s k) := by
      intro lo hi hlo hhi hns h60
      obtain ⟨f1, f2, f3⟩ := x_figure (d := d + 8) (X := 681 * T + 1 + 3 * tN x + 1) (lo := lo) (hi := hi) h.1 h.2.1 (by omega) (by omega) (by rw [hlo]; unfold loS; split <;> omega)
      unfold mvF
      rw [← hlo, ← hhi, if_neg hns]
      by_cases c1 : kdT tb tl k = 41
      · rw [if_pos c1]
        have hk300 := kd_lt (tb := tb) (k := k) h3t (by omega)
        by_cases c2 : lo ≤ vlT tb tl k ∧ vlT tb tl k ≤ hi
        · rw [if_pos c2]
          obtain ⟨M', b1, b2, b3⟩ := f3 c1 c2
          have dq : D (QX (681 * T + 1 + 3 * tN x)) M M' := (D.rfl'.sI (Or.inr ⟨rfl, Or.inl rfl⟩)).trans (b1.mono (fun k j z => Or.inl z))
          refine ⟨M', dq.mono (fun k j z => by unfold QX at z; unfold PMt; omega), b3, fun q => absurd rfl q, fun _ => ⟨w, cm, mv_zs h hX (by omega) hn dq b2 (by rw [b1.i (by unfold PTm; omega), gI_sI_eq]) (fun z => absurd z hns) ?_ (by dsimp only; omega)⟩⟩
          unfold clOk
          dsimp only
          unfold loS at hlo
          unfold hiS at hhi
          by_cases e8 : s = 8
          · rw [if_pos (Or.inr e8)] at hlo; rw [if_neg (by omega), if_pos e8] at hhi; omega
          · rw [if_neg (by omega), if_neg e8] at hhi; omega
        · rw [if_neg c2]
          exact ⟨M, D.rfl', f2 c1 c2, fun _ => h.2.1.2.1, fun q => by cases q⟩
      · rw [if_neg c1]
        exact ⟨M, D.rfl', f1 c1, fun _ => h.2.1.2.1, fun q => by cases q⟩
    have pr : ∀ lo hi wj t2 W, lo = loS s → hi = hiS s → wj = wdS s → (t2 = 9 ↔ s = 2) → (t2 = 7 ∨ t2 = 9) → s = 2 ∨ s = 6 ∨ s = 7 → hi ≤ 60 → (∀ M k, TkM M tb tl k → ev (d + 10) m_M_isWord [.ref 174, .long W] NX M = some (some (.int (bI (decide (kdT tb tl k = wj)))), NX, M)) → ZB (ev (d + 11) m_M_pair [.ref 174, .int (nI (681 * T + 1 + 3 * tN x)), .int (nI lo), .int (nI hi), .long W, .int (nI t2)] NX M) M tb tl T on (tN x) (mvF (kdT tb tl) (vlT tb tl) x s k) := by
      intro lo hi wj t2 W hlo hhi hwj ht9 ht2 hss h60 hW
      obtain ⟨M', b1, b2, b3, b4⟩ := x_pair (d := d + 7) (X := 681 * T + 1 + 3 * tN x) (lo := lo) (hi := hi) (wj := wj) (t2 := t2) (W := W) h.1 h.2.1 (by omega) (by omega) (by rw [hlo]; unfold loS; split <;> omega) ht2 hW
      have dm : D (PMt T) M M' := b1.mono (fun k j z => by unfold QX at z; unfold PMt; omega)
      unfold mvF
      unfold pF at b2 b3 b4
      rw [← hlo, ← hhi, ← hwj, if_pos hss]
      by_cases c1 : kdT tb tl k = 41
      · rw [if_pos c1] at b2 b3 b4 ⊢
        by_cases c2 : lo ≤ vlT tb tl k ∧ vlT tb tl k ≤ hi
        · rw [if_pos c2] at b2 b3 b4 ⊢
          by_cases c3 : kdT tb tl (k + 1) = wj
          · rw [if_pos c3] at b2 b3 b4 ⊢
            by_cases c4 : kdT tb tl (k + 2) = 41
            · rw [if_pos c4] at b2 b3 b4 ⊢
              have hk300 := kd_lt (tb := tb) (k := k + 2) h3t (by omega)
              by_cases c5 : vlT tb tl (k + 2) ≤ 7 ∨ (t2 = 9 ∧ vlT tb tl (k + 2) = 9)
              · rw [if_pos c5] at b2 b3 b4
                rw [if_pos (by omega)]
                obtain ⟨g1, g2, g3⟩ := b4 rfl
                refine ⟨M', dm, b2, fun q => absurd rfl q, fun _ => ⟨w, cm, mv_zs h hX (by omega) hn b1 g1 g2 (fun _ => g3) ?_ (by dsimp only; omega)⟩⟩
                unfold clOk
                dsimp only
                unfold loS at hlo
                unfold hiS at hhi
                rcases hss with rfl | rfl | rfl
                · rw [if_pos (by omega)] at hlo; rw [if_pos rfl] at hhi; omega
                · rw [if_neg (by omega), if_neg (by omega)] at hhi; omega
                · rw [if_neg (by omega), if_neg (by omega)] at hhi; omega
              · rw [if_neg c5] at b2 b3 b4
                rw [if_neg (by omega)]
                exact ⟨M', dm, b2, fun _ => b3 (by simp), fun q => by cases q⟩
            · rw [if_neg c4] at b2 b3 b4 ⊢
              exact ⟨M', dm, b2, fun _ => b3 (by simp), fun q => by cases q⟩
          · rw [if_neg c3] at b2 b3 b4 ⊢
            exact ⟨M', dm, b2, fun _ => b3 (by simp), fun q => by cases q⟩
        · rw [if_neg c2] at b2 b3 b4 ⊢
          exact ⟨M', dm, b2, fun _ => b3 (by simp), fun q => by cases q⟩
      · rw [if_neg c1] at b2 b3 b4 ⊢
        exact ⟨M', dm, b2, fun _ => b3 (by simp), fun q => by cases q⟩
    rcases hs9 with rfl | rfl | rfl | rfl | rfl | rfl | rfl
    · obtain ⟨M', b1, b2, b3⟩ := pr 1 9 16 9 (lN (111 * 256 + 110)) rfl rfl rfl (by decide) (Or.inr rfl) (by decide) (by decide) (fun M k hk => x_isw_16 (d := d + 9) hk)
      refine ⟨M', b1, ?_, b3⟩
      rw [e_M_body]
      simp (disch := omega) only [r_M_body_0, r_M_body_1, r_M_body_44, r_M_body_44n, r_M_body_45, r_M_body_46, r_M_body_47, r_M_body_49, r_M_body_51, r_M_body_53, r_M_body_56, r_M_body_58, r_M_body_61, bnd, tl_s, tl_n, wt_nil, wt_int, wt_ref, wt_null, wt_long, Nat.reduceAdd, Nat.reduceLeDiff, if_true, if_false, decide_true, Bool.true_and, Bool.and_true, zok_n0, zok_n1, zok_bI, bI_eq0, bI_eq1, Bool.true_eq_false, Bool.false_eq_true, not_false_eq_true, not_true_eq_false, decide_false, decide_eq_false_iff_not, decide_eq_true_eq, Classical.not_not, ite_not, lit, Nat.reduceEqDiff, Nat.reduceLT, nI_add, nI_lt', nI_le', nI_eq', nI_sub', pk_mul, nI_rem', nI_div', nI_nz, remN, clampN, inb_nI, Nat.not_lt_zero, Nat.zero_le, Nat.le_zero_eq, if_true, if_false, m1_lt0, m1_eq, t_ite, f_ite, Bool.not_false, Bool.not_true, nI_and, nI_or, nI_xor, nI_shl1, nI_shr, nI_ushr, nI_not, nI_and_p2, Nat.one_mul, vrf_s, vrf_n, oF_174, oO_174, oA_175, oS_175, oA_176, oS_176, oA_177, oS_177, oA_178, oS_178, oA_179, oS_179, oA_180, oS_180, oA_181, oS_181, oA_182, oS_182, oA_183, oS_183, oA_184, oS_184, oA_185, oS_185, oA_186, oS_186, oA_187, oS_187, oA_188, oS_188, mO_M_w2, mO_M_pair, mO_M_figure, mO_M_lawClause, x_w2, b2]
    · obtain ⟨M', b1, b2, b3⟩ := fig 0 7 rfl rfl (by decide) (by decide)
      refine ⟨M', b1, ?_, b3⟩
      rw [e_M_body]
      simp (disch := omega) only [r_M_body_0, r_M_body_1, r_M_body_62, r_M_body_62n, r_M_body_63, r_M_body_64, r_M_body_65, r_M_body_66, r_M_body_67, r_M_body_69, r_M_body_72, bnd, tl_s, tl_n, wt_nil, wt_int, wt_ref, wt_null, wt_long, Nat.reduceAdd, Nat.reduceLeDiff, if_true, if_false, decide_true, Bool.true_and, Bool.and_true, zok_n0, zok_n1, zok_bI, bI_eq0, bI_eq1, Bool.true_eq_false, Bool.false_eq_true, not_false_eq_true, not_true_eq_false, decide_false, decide_eq_false_iff_not, decide_eq_true_eq, Classical.not_not, ite_not, lit, Nat.reduceEqDiff, Nat.reduceLT, nI_add, nI_lt', nI_le', nI_eq', nI_sub', pk_mul, nI_rem', nI_div', nI_nz, remN, clampN, inb_nI, Nat.not_lt_zero, Nat.zero_le, Nat.le_zero_eq, if_true, if_false, m1_lt0, m1_eq, t_ite, f_ite, Bool.not_false, Bool.not_true, nI_and, nI_or, nI_xor, nI_shl1, nI_shr, nI_ushr, nI_not, nI_and_p2, Nat.one_mul, vrf_s, vrf_n, oF_174, oO_174, oA_175, oS_175, oA_176, oS_176, oA_177, oS_177, oA_178, oS_178, oA_179, oS_179, oA_180, oS_180, oA_181, oS_181, oA_182, oS_182, oA_183, oS_183, oA_184, oS_184, oA_185, oS_185, oA_186, oS_186, oA_187, oS_187, oA_188, oS_188, mO_M_w2, mO_M_pair, mO_M_figure, mO_M_lawClause, b2]
    · obtain ⟨M', b1, b2, b3⟩ := fig 0 7 rfl rfl (by decide) (by decide)
      refine ⟨M', b1, ?_, b3⟩
      rw [e_M_body]
      simp (disch := omega) only [r_M_body_0, r_M_body_1, r_M_body_73, r_M_body_73n, r_M_body_74, r_M_body_75, r_M_body_76, r_M_body_77, r_M_body_78, r_M_body_80, r_M_body_83, bnd, tl_s, tl_n, wt_nil, wt_int, wt_ref, wt_null, wt_long, Nat.reduceAdd, Nat.reduceLeDiff, if_true, if_false, decide_true, Bool.true_and, Bool.and_true, zok_n0, zok_n1, zok_bI, bI_eq0, bI_eq1, Bool.true_eq_false, Bool.false_eq_true, not_false_eq_true, not_true_eq_false, decide_false, decide_eq_false_iff_not, decide_eq_true_eq, Classical.not_not, ite_not, lit, Nat.reduceEqDiff, Nat.reduceLT, nI_add, nI_lt', nI_le', nI_eq', nI_sub', pk_mul, nI_rem', nI_div', nI_nz, remN, clampN, inb_nI, Nat.not_lt_zero, Nat.zero_le, Nat.le_zero_eq, if_true, if_false, m1_lt0, m1_eq, t_ite, f_ite, Bool.not_false, Bool.not_true, nI_and, nI_or, nI_xor, nI_shl1, nI_shr, nI_ushr, nI_not, nI_and_p2, Nat.one_mul, vrf_s, vrf_n, oF_174, oO_174, oA_175, oS_175, oA_176, oS_176, oA_177, oS_177, oA_178, oS_178, oA_179, oS_179, oA_180, oS_180, oA_181, oS_181, oA_182, oS_182, oA_183, oS_183, oA_184, oS_184, oA_185, oS_185, oA_186, oS_186, oA_187, oS_187, oA_188, oS_188, mO_M_w2, mO_M_pair, mO_M_figure, mO_M_lawClause, b2]
    · obtain ⟨M', b1, b2, b3⟩ := fig 0 7 rfl rfl (by decide) (by decide)
      refine ⟨M', b1, ?_, b3⟩
      rw [e_M_body]
      simp (disch := omega) only [r_M_body_0, r_M_body_1, r_M_body_84, r_M_body_84n, r_M_body_85, r_M_body_86, r_M_body_87, r_M_body_88, r_M_body_89, r_M_body_91, r_M_body_94, bnd, tl_s, tl_n, wt_nil, wt_int, wt_ref, wt_null, wt_long, Nat.reduceAdd, Nat.reduceLeDiff, if_true, if_false, decide_true, Bool.true_and, Bool.and_true, zok_n0, zok_n1, zok_bI, bI_eq0, bI_eq1, Bool.true_eq_false, Bool.false_eq_true, not_false_eq_true, not_true_eq_false, decide_false, decide_eq_false_iff_not, decide_eq_true_eq, Classical.not_not, ite_not, lit, Nat.reduceEqDiff, Nat.reduceLT, nI_add, nI_lt', nI_le', nI_eq', nI_sub', pk_mul, nI_rem', nI_div', nI_nz, remN, clampN, inb_nI, Nat.not_lt_zero, Nat.zero_le, Nat.le_zero_eq, if_true, if_false, m1_lt0, m1_eq, t_ite, f_ite, Bool.not_false, Bool.not_true, nI_and, nI_or, nI_xor, nI_shl1, nI_shr, nI_ushr, nI_not, nI_and_p2, Nat.one_mul, vrf_s, vrf_n, oF_174, oO_174, oA_175, oS_175, oA_176, oS_176, oA_177, oS_177, oA_178, oS_178, oA_179, oS_179, oA_180, oS_180, oA_181, oS_181, oA_182, oS_182, oA_183, oS_183, oA_184, oS_184, oA_185, oS_185, oA_186, oS_186, oA_187, oS_187, oA_188, oS_188, mO_M_w2, mO_M_pair, mO_M_figure, mO_M_lawClause, b2]
    · obtain ⟨M', b1, b2, b3⟩ := pr 0 7 17 7 (lN (116 * 256 + 111)) rfl rfl rfl (by decide) (Or.inl rfl) (by decide) (by decide) (fun M k hk => x_isw_17 (d := d + 9) hk)
      refine ⟨M', b1, ?_, b3⟩
      rw [e_M_body]
      simp (disch := omega) only [r_M_body_0, r_M_body_1, r_M_body_95, r_M_body_95n, r_M_body_96, r_M_body_97, r_M_body_98, r_M_body_100, r_M_body_102, r_M_body_104, r_M_body_107, r_M_body_109, r_M_body_112, bnd, tl_s, tl_n, wt_nil, wt_int, wt_ref, wt_null, wt_long, Nat.reduceAdd, Nat.reduceLeDiff, if_true, if_false, decide_true, Bool.true_and, Bool.and_true, zok_n0, zok_n1, zok_bI, bI_eq0, bI_eq1, Bool.true_eq_false, Bool.false_eq_true, not_false_eq_true, not_true_eq_false, decide_false, decide_eq_false_iff_not, decide_eq_true_eq, Classical.not_not, ite_not, lit, Nat.reduceEqDiff, Nat.reduceLT, nI_add, nI_lt', nI_le', nI_eq', nI_sub', pk_mul, nI_rem', nI_div', nI_nz, remN, clampN, inb_nI, Nat.not_lt_zero, Nat.zero_le, Nat.le_zero_eq, if_true, if_false, m1_lt0, m1_eq, t_ite, f_ite, Bool.not_false, Bool.not_true, nI_and, nI_or, nI_xor, nI_shl1, nI_shr, nI_ushr, nI_not, nI_and_p2, Nat.one_mul, vrf_s, vrf_n, oF_174, oO_174, oA_175, oS_175, oA_176, oS_176, oA_177, oS_177, oA_178, oS_178, oA_179, oS_179, oA_180, oS_180, oA_181, oS_181, oA_182, oS_182, oA_183, oS_183, oA_184, oS_184, oA_185, oS_185, oA_186, oS_186, oA_187, oS_187, oA_188, oS_188, mO_M_w2, mO_M_pair, mO_M_figure, mO_M_lawClause, x_w2, b2]
    · obtain ⟨M', b1, b2, b3⟩ := pr 0 7 17 7 (lN (116 * 256 + 111)) rfl rfl rfl (by decide) (Or.inl rfl) (by decide) (by decide) (fun M k hk => x_isw_17 (d := d + 9) hk)
      refine ⟨M', b1, ?_, b3⟩
      rw [e_M_body]
      simp (disch := omega) only [r_M_body_0, r_M_body_1, r_M_body_113, r_M_body_113n, r_M_body_114, r_M_body_115, r_M_body_116, r_M_body_118, r_M_body_120, r_M_body_122, r_M_body_125, r_M_body_127, r_M_body_130, bnd, tl_s, tl_n, wt_nil, wt_int, wt_ref, wt_null, wt_long, Nat.reduceAdd, Nat.reduceLeDiff, if_true, if_false, decide_true, Bool.true_and, Bool.and_true, zok_n0, zok_n1, zok_bI, bI_eq0, bI_eq1, Bool.true_eq_false, Bool.false_eq_true, not_false_eq_true, not_true_eq_false, decide_false, decide_eq_false_iff_not, decide_eq_true_eq, Classical.not_not, ite_not, lit, Nat.reduceEqDiff, Nat.reduceLT, nI_add, nI_lt', nI_le', nI_eq', nI_sub', pk_mul, nI_rem', nI_div', nI_nz, remN, clampN, inb_nI, Nat.not_lt_zero, Nat.zero_le, Nat.le_zero_eq, if_true, if_false, m1_lt0, m1_eq, t_ite, f_ite, Bool.not_false, Bool.not_true, nI_and, nI_or, nI_xor, nI_shl1, nI_shr, nI_ushr, nI_not, nI_and_p2, Nat.one_mul, vrf_s, vrf_n, oF_174, oO_174, oA_175, oS_175, oA_176, oS_176, oA_177, oS_177, oA_178, oS_178, oA_179, oS_179, oA_180, oS_180, oA_181, oS_181, oA_182, oS_182, oA_183, oS_183, oA_184, oS_184, oA_185, oS_185, oA_186, oS_186, oA_187, oS_187, oA_188, oS_188, mO_M_w2, mO_M_pair, mO_M_figure, mO_M_lawClause, x_w2, b2]
    · obtain ⟨M', b1, b2, b3⟩ := fig 1 60 rfl rfl (by decide) (by decide)
      refine ⟨M', b1, ?_, b3⟩
      rw [e_M_body]
      simp (disch := omega) only [r_M_body_0, r_M_body_1, r_M_body_131, r_M_body_131n, r_M_body_132, r_M_body_133, r_M_body_134, r_M_body_135, r_M_body_136, r_M_body_138, r_M_body_141, bnd, tl_s, tl_n, wt_nil, wt_int, wt_ref, wt_null, wt_long, Nat.reduceAdd, Nat.reduceLeDiff, if_true, if_false, decide_true, Bool.true_and, Bool.and_true, zok_n0, zok_n1, zok_bI, bI_eq0, bI_eq1, Bool.true_eq_false, Bool.false_eq_true, not_false_eq_true, not_true_eq_false, decide_false, decide_eq_false_iff_not, decide_eq_true_eq, Classical.not_not, ite_not, lit, Nat.reduceEqDiff, Nat.reduceLT, nI_add, nI_lt', nI_le', nI_eq', nI_sub', pk_mul, nI_rem', nI_div', nI_nz, remN, clampN, inb_nI, Nat.not_lt_zero, Nat.zero_le, Nat.le_zero_eq, if_true, if_false, m1_lt0, m1_eq, t_ite, f_ite, Bool.not_false, Bool.not_true, nI_and, nI_or, nI_xor, nI_shl1, nI_shr, nI_ushr, nI_not, nI_and_p2, Nat.one_mul, vrf_s, vrf_n, oF_174, oO_174, oA_175, oS_175, oA_176, oS_176, oA_177, oS_177, oA_178, oS_178, oA_179, oS_179, oA_180, oS_180, oA_181, oS_181, oA_182, oS_182, oA_183, oS_183, oA_184, oS_184, oA_185, oS_185, oA_186, oS_186, oA_187, oS_187, oA_188, oS_188, mO_M_w2, mO_M_pair, mO_M_figure, mO_M_lawClause, b2]
theorem on2_bit (a b : Bool) : (on2 a b).testBit 0 = a ∧ (on2 a b).testBit 1 = b ∧ on2 a b < 4 ∧ on2 a b ||| 1 = on2 true b ∧ on2 a b ||| 2 = on2 a true := by cases a <;> cases b <;> decide
theorem bd_tN {kd vl : Nat → Nat} : (bdF kd vl x s k).1 = 0 → tN (bdF kd vl x s k).2.2 = tN x + 1 := by
  unfold bdF
  by_cases b1 : s ≤ 1
  · rw [if_pos b1]; intro _; rfl
  · rw [if_neg b1]
    unfold mvF
    repeat' split
    all_goals (intro z; first | rfl | cases z)
theorem bd_on {kd vl : Nat → Nat} (hs : s ≤ 8) : (bdF kd vl x s k).1 = 0 → onc (bdF kd vl x s k).2.2 = onS x s := by
  unfold bdF
  by_cases b1 : s ≤ 1
  · rw [if_pos b1]
    intro _
    have h : s = 0 ∨ s = 1 := by omega
    unfold onc onS lwG
    dsimp only
    rw [tL_add, tL_add, tL_set (by omega) (by decide), tL_set (by omega) (by decide)]
    rcases h with rfl | rfl
    · rw [if_pos rfl, if_neg (by decide), decide_eq_true (by rfl), decide_eq_false (by decide), Bool.or_true, Bool.or_false]; rfl
    · rw [if_neg (by decide), if_pos rfl, decide_eq_false (by decide), decide_eq_true (by rfl), Bool.or_true, Bool.or_false]; rfl
  · rw [if_neg b1]
    have e : onS x s = onc x := by unfold onS onc; rw [decide_eq_false (by omega), decide_eq_false (by omega), Bool.or_false, Bool.or_false]
    rw [e]
    unfold mvF
    repeat' split
    all_goals (intro z; first | rfl | cases z)
end ZCL
