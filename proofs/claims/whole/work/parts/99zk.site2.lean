/-! THE START: the steps of a site -/
theorem sl_1 {d : Nat} : ∀ n i (M : Mem), i + n = 30 → FI 1 6 M → (∀ j, gI M 6 j = 0) → FI 7 (10 + 2 * i) M → (∀ j, j < i → gR M 6 j = some (10 + 2 * j)) → ∃ M', run (ev (d + 1)) m_Site_init 71 [some (.ref 1), some (.int (nI i))] [] (10 + 2 * i) M = some (none, 70, M') ∧ D (fun k _ => k = 6 ∨ (10 + 2 * i ≤ k ∧ k < 70)) M M' ∧ FI 1 70 M' ∧ Lz M M' := by
  intro n
  induction n with
  | zero =>
    intro i M hi h1 h2 h3 h4
    have e : i = 30 := by omega
    subst e
    obtain ⟨q1, q2⟩ := cl1_ok ⟨30, by decide⟩
    have g4 : gR M 1 4 = some 6 := (h1 1 4 (by omega) (by omega)).2 _ rfl
    have hlen : Int32.ofNat (lenOf M 6) = nI 30 := by unfold lenOf; rw [if_neg (by decide)]; decide +kernel
    have cc : (Int32.ofNat (lenOf M 6) ≤ nI 30) = True := eq_true (by rw [hlen]; decide)
    refine ⟨M, ?_, D.rfl', ?_, Lz.rf⟩
    · rw [r_Site_init_71]
      simp only [r_Site_init_72, r_Site_init_72n, r_Site_init_73, r_Site_init_76, r_Site_init_77, r_Site_init_99, q1, q2, g4, vrf_s, cc, if_true]
    · refine h1.app (FI.app (mi := 7) (fun k j a b => ?_) h3)
      have hk : k = 6 := by omega
      subst hk
      refine ⟨by rw [h2 j]; rfl, fun a ha => ?_⟩
      unfold rxt at ha
      simp only [Nat.reduceEqDiff, false_or, or_false, true_or, or_true, if_true, if_false] at ha
      by_cases e : j < 30
      · rw [if_pos e] at ha
        rw [h4 j e, ← ha]
      · rw [if_neg e] at ha; cases ha
  | succ n ih =>
    intro i M hi h1 h2 h3 h4
    have hi30 : i < 30 := by omega
    obtain ⟨q1, q2⟩ := cl1_ok ⟨i, by omega⟩
    have k0 : ck1 i = true := ck1_ok ⟨i, hi30⟩
    unfold ck1 at k0
    obtain ⟨k0, k8⟩ := and3 k0
    obtain ⟨k0, k7⟩ := and3 k0
    obtain ⟨k0, k6⟩ := and3 k0
    obtain ⟨k0, k5⟩ := and3 k0
    obtain ⟨k0, k4⟩ := and3 k0
    obtain ⟨k0, k3⟩ := and3 k0
    obtain ⟨k1, k2⟩ := and3 k0
    have g4 : gR M 1 4 = some 6 := (h1 1 4 (by omega) (by omega)).2 _ rfl
    have hlen : ∀ X : Mem, lenOf X 6 = 30 := fun X => by unfold lenOf; rw [if_neg (by decide)]; decide +kernel
    have cc : (Int32.ofNat (lenOf M 6) ≤ nI i) = False := by rw [hlen, show Int32.ofNat 30 = nI 30 from rfl, nI_le' (by omega) (by omega)]; exact eq_false (by omega)
    have hm := i_mom (d := d) (M := zr M (10 + 2 * i)) k3 k4 k5
    have hmc : mCl (10 + 2 * i) := by unfold mCl; omega
    have hf := f_mom (M := M) hmc
    have dm : D (fun k _ => k = 10 + 2 * i ∨ k = 10 + 2 * i + 1) M (sR (zr (sI (zr M (10 + 2 * i)) (10 + 2 * i) 5 337) (10 + 2 * i + 1)) (10 + 2 * i) 6 (some (10 + 2 * i + 1))) := by
      refine D.sR ?_ (by omega)
      refine D_zr ?_ (fun _ => by omega)
      refine D.sI ?_ (by omega)
      exact D_zr D.rfl' (fun _ => by omega)
    have lm : Lz M (sR (zr (sI (zr M (10 + 2 * i)) (10 + 2 * i) 5 337) (10 + 2 * i + 1)) (10 + 2 * i) 6 (some (10 + 2 * i + 1))) := lz_R (lz_z (lz_I (lz_z Lz.rf)))
    generalize hM1 : sR (zr (sI (zr M (10 + 2 * i)) (10 + 2 * i) 5 337) (10 + 2 * i + 1)) (10 + 2 * i) 6 (some (10 + 2 * i + 1)) = M1 at *
    have hA : okA M1 (10 + 2 * i + 1 + 1) 6 104 (nI i) = true := by unfold okA; rw [hlen, k7, inb_nI hi30 (by decide)]; rfl
    have hst : (okW (10 + 2 * i + 1 + 1) 6 && okW (10 + 2 * i + 1 + 1) (10 + 2 * i) && ((okA M1 (10 + 2 * i + 1 + 1) 6 104 (nI i) && (sh (10 + 2 * i)).1 == 2) || (okA M1 (10 + 2 * i + 1 + 1) 6 105 (nI i) && (sh (10 + 2 * i)).1 == 7))) = true := by rw [k6, hA, k8]; rfl
    have hcl : (nI i).toNatClampNeg = i := clampN (by omega)
    have h1' : FI 1 6 (sR M1 6 i (some (10 + 2 * i))) := (h1.mv dm (fun k j z => by omega)).mv (D.rfl'.sR (P := fun k j => k = 6) rfl) (fun k j z => by omega)
    have h2' : ∀ j, gI (sR M1 6 i (some (10 + 2 * i))) 6 j = 0 := fun j => by show gI M1 6 j = 0; rw [dm.i (by omega)]; exact h2 j
    have h3' : FI 7 (10 + 2 * (i + 1)) (sR M1 6 i (some (10 + 2 * i))) := ((h3.mv dm (fun k j z => by omega)).app hf).mv (D.rfl'.sR (P := fun k j => k = 6) rfl) (fun k j z => by omega)
    have h4' : ∀ j, j < i + 1 → gR (sR M1 6 i (some (10 + 2 * i))) 6 j = some (10 + 2 * j) := fun j hj => by
      by_cases e : j = i
      · rw [e, gR_sR_eq]
      · rw [gR_sR_nj e, dm.r (by omega)]; exact h4 j (by omega)
    obtain ⟨M2, r2, d2, f2, z2⟩ := ih (i + 1) _ (by omega) h1' h2' h3' h4'
    refine ⟨M2, ?_, ?_, f2, (lz_R lm).tr z2⟩
    · rw [← r2, r_Site_init_71]
      simp only [r_Site_init_72, r_Site_init_72n, r_Site_init_73, r_Site_init_76, r_Site_init_77, r_Site_init_80, r_Site_init_80n, r_Site_init_81, r_Site_init_84, r_Site_init_85, r_Site_init_88, r_Site_init_88i, r_Site_init_89, r_Site_init_92, r_Site_init_93, r_Site_init_96, q1, q2, g4, vrf_s, cc, if_true, if_false, k1, wt_nil, wt_ref, wt_int, Nat.reduceAdd, Nat.reduceLeDiff, decide_true, Bool.true_and, k2, hm, bnd, tl_n, hst, hcl]
      rw [show nI i + (1 : Int32) = nI (i + 1) by rw [show (1 : Int32) = nI 1 from rfl, nI_add], show 10 + 2 * i + 1 + 1 = 10 + 2 * (i + 1) by omega]
    · have e2 : 10 + 2 * (i + 1) = 10 + 2 * i + 2 := by omega
      exact ((dm.mono (fun k j z => by omega)).sR (Or.inl rfl)).trans (d2.mono (fun k j z => by omega))
theorem si_1 {d : Nat} {M : Mem} : ∃ M', ev (d + 2) m_Site_init [.ref 1] 2 (zr M 1) = some (none, 70, M') ∧ D (fun k _ => 1 ≤ k ∧ k < 70) M M' ∧ FI 1 70 M' ∧ Lz M M' := by
  obtain ⟨M1, r1, d1, f1, f2, f3, l1⟩ := st_1 (d := d) (M := M)
  obtain ⟨M2, r2, d2, f4, l2⟩ := sl_1 (d := d) 30 0 M1 (by omega) f1 f2 f3 (fun j hj => by omega)
  exact ⟨M2, r1.trans r2, (d1.mono (fun k j z => by omega)).trans (d2.mono (fun k j z => by omega)), f4, l1.tr l2⟩
theorem sl_70 {d : Nat} : ∀ n i (M : Mem), i + n = 30 → FI 70 75 M → (∀ j, gI M 75 j = 0) → FI 76 (79 + 2 * i) M → (∀ j, j < i → gR M 75 j = some (79 + 2 * j)) → ∃ M', run (ev (d + 1)) m_Site_init 71 [some (.ref 70), some (.int (nI i))] [] (79 + 2 * i) M = some (none, 139, M') ∧ D (fun k _ => k = 75 ∨ (79 + 2 * i ≤ k ∧ k < 139)) M M' ∧ FI 70 139 M' ∧ Lz M M' := by
  intro n
  induction n with
  | zero =>
    intro i M hi h1 h2 h3 h4
    have e : i = 30 := by omega
    subst e
    obtain ⟨q1, q2⟩ := cl70_ok ⟨30, by decide⟩
    have g4 : gR M 70 4 = some 75 := (h1 70 4 (by omega) (by omega)).2 _ rfl
    have hlen : Int32.ofNat (lenOf M 75) = nI 30 := by unfold lenOf; rw [if_neg (by decide)]; decide +kernel
    have cc : (Int32.ofNat (lenOf M 75) ≤ nI 30) = True := eq_true (by rw [hlen]; decide)
    refine ⟨M, ?_, D.rfl', ?_, Lz.rf⟩
    · rw [r_Site_init_71]
      simp only [r_Site_init_72, r_Site_init_72n, r_Site_init_73, r_Site_init_76, r_Site_init_77, r_Site_init_99, q1, q2, g4, vrf_s, cc, if_true]
    · refine h1.app (FI.app (mi := 76) (fun k j a b => ?_) h3)
      have hk : k = 75 := by omega
      subst hk
      refine ⟨by rw [h2 j]; rfl, fun a ha => ?_⟩
      unfold rxt at ha
      simp only [Nat.reduceEqDiff, false_or, or_false, true_or, or_true, if_true, if_false] at ha
      by_cases e : j < 30
      · rw [if_pos e] at ha
        rw [h4 j e, ← ha]
      · rw [if_neg e] at ha; cases ha
  | succ n ih =>
    intro i M hi h1 h2 h3 h4
    have hi30 : i < 30 := by omega
    obtain ⟨q1, q2⟩ := cl70_ok ⟨i, by omega⟩
    have k0 : ck70 i = true := ck70_ok ⟨i, hi30⟩
    unfold ck70 at k0
    obtain ⟨k0, k8⟩ := and3 k0
    obtain ⟨k0, k7⟩ := and3 k0
    obtain ⟨k0, k6⟩ := and3 k0
    obtain ⟨k0, k5⟩ := and3 k0
    obtain ⟨k0, k4⟩ := and3 k0
    obtain ⟨k0, k3⟩ := and3 k0
    obtain ⟨k1, k2⟩ := and3 k0
    have g4 : gR M 70 4 = some 75 := (h1 70 4 (by omega) (by omega)).2 _ rfl
    have hlen : ∀ X : Mem, lenOf X 75 = 30 := fun X => by unfold lenOf; rw [if_neg (by decide)]; decide +kernel
    have cc : (Int32.ofNat (lenOf M 75) ≤ nI i) = False := by rw [hlen, show Int32.ofNat 30 = nI 30 from rfl, nI_le' (by omega) (by omega)]; exact eq_false (by omega)
    have hm := i_mom (d := d) (M := zr M (79 + 2 * i)) k3 k4 k5
    have hmc : mCl (79 + 2 * i) := by unfold mCl; omega
    have hf := f_mom (M := M) hmc
    have dm : D (fun k _ => k = 79 + 2 * i ∨ k = 79 + 2 * i + 1) M (sR (zr (sI (zr M (79 + 2 * i)) (79 + 2 * i) 5 337) (79 + 2 * i + 1)) (79 + 2 * i) 6 (some (79 + 2 * i + 1))) := by
      refine D.sR ?_ (by omega)
      refine D_zr ?_ (fun _ => by omega)
      refine D.sI ?_ (by omega)
      exact D_zr D.rfl' (fun _ => by omega)
    have lm : Lz M (sR (zr (sI (zr M (79 + 2 * i)) (79 + 2 * i) 5 337) (79 + 2 * i + 1)) (79 + 2 * i) 6 (some (79 + 2 * i + 1))) := lz_R (lz_z (lz_I (lz_z Lz.rf)))
    generalize hM1 : sR (zr (sI (zr M (79 + 2 * i)) (79 + 2 * i) 5 337) (79 + 2 * i + 1)) (79 + 2 * i) 6 (some (79 + 2 * i + 1)) = M1 at *
    have hA : okA M1 (79 + 2 * i + 1 + 1) 75 104 (nI i) = true := by unfold okA; rw [hlen, k7, inb_nI hi30 (by decide)]; rfl
    have hst : (okW (79 + 2 * i + 1 + 1) 75 && okW (79 + 2 * i + 1 + 1) (79 + 2 * i) && ((okA M1 (79 + 2 * i + 1 + 1) 75 104 (nI i) && (sh (79 + 2 * i)).1 == 2) || (okA M1 (79 + 2 * i + 1 + 1) 75 105 (nI i) && (sh (79 + 2 * i)).1 == 7))) = true := by rw [k6, hA, k8]; rfl
    have hcl : (nI i).toNatClampNeg = i := clampN (by omega)
    have h1' : FI 70 75 (sR M1 75 i (some (79 + 2 * i))) := (h1.mv dm (fun k j z => by omega)).mv (D.rfl'.sR (P := fun k j => k = 75) rfl) (fun k j z => by omega)
    have h2' : ∀ j, gI (sR M1 75 i (some (79 + 2 * i))) 75 j = 0 := fun j => by show gI M1 75 j = 0; rw [dm.i (by omega)]; exact h2 j
    have h3' : FI 76 (79 + 2 * (i + 1)) (sR M1 75 i (some (79 + 2 * i))) := ((h3.mv dm (fun k j z => by omega)).app hf).mv (D.rfl'.sR (P := fun k j => k = 75) rfl) (fun k j z => by omega)
    have h4' : ∀ j, j < i + 1 → gR (sR M1 75 i (some (79 + 2 * i))) 75 j = some (79 + 2 * j) := fun j hj => by
      by_cases e : j = i
      · rw [e, gR_sR_eq]
      · rw [gR_sR_nj e, dm.r (by omega)]; exact h4 j (by omega)
    obtain ⟨M2, r2, d2, f2, z2⟩ := ih (i + 1) _ (by omega) h1' h2' h3' h4'
    refine ⟨M2, ?_, ?_, f2, (lz_R lm).tr z2⟩
    · rw [← r2, r_Site_init_71]
      simp only [r_Site_init_72, r_Site_init_72n, r_Site_init_73, r_Site_init_76, r_Site_init_77, r_Site_init_80, r_Site_init_80n, r_Site_init_81, r_Site_init_84, r_Site_init_85, r_Site_init_88, r_Site_init_88i, r_Site_init_89, r_Site_init_92, r_Site_init_93, r_Site_init_96, q1, q2, g4, vrf_s, cc, if_true, if_false, k1, wt_nil, wt_ref, wt_int, Nat.reduceAdd, Nat.reduceLeDiff, decide_true, Bool.true_and, k2, hm, bnd, tl_n, hst, hcl]
      rw [show nI i + (1 : Int32) = nI (i + 1) by rw [show (1 : Int32) = nI 1 from rfl, nI_add], show 79 + 2 * i + 1 + 1 = 79 + 2 * (i + 1) by omega]
    · have e2 : 79 + 2 * (i + 1) = 79 + 2 * i + 2 := by omega
      exact ((dm.mono (fun k j z => by omega)).sR (Or.inl rfl)).trans (d2.mono (fun k j z => by omega))
theorem si_70 {d : Nat} {M : Mem} : ∃ M', ev (d + 2) m_Site_init [.ref 70] 71 (zr M 70) = some (none, 139, M') ∧ D (fun k _ => 70 ≤ k ∧ k < 139) M M' ∧ FI 70 139 M' ∧ Lz M M' := by
  obtain ⟨M1, r1, d1, f1, f2, f3, l1⟩ := st_70 (d := d) (M := M)
  obtain ⟨M2, r2, d2, f4, l2⟩ := sl_70 (d := d) 30 0 M1 (by omega) f1 f2 f3 (fun j hj => by omega)
  exact ⟨M2, r1.trans r2, (d1.mono (fun k j z => by omega)).trans (d2.mono (fun k j z => by omega)), f4, l1.tr l2⟩
