/-! THE START: sites -/
theorem gI_sR0 {M : Mem} {k j k' j' : Nat} {v : Option Nat} : gI (sR M k j v) k' j' = gI M k' j' := rfl
def ck1 (i : Nat) : Bool := (decide (10 + 2 * i < NX) && (sh (10 + 2 * i)).1 == 2) && okO (10 + 2 * i + 1) (10 + 2 * i) (mO m_Mom_init) && okF (10 + 2 * i + 1) (10 + 2 * i) 2 && (decide (10 + 2 * i + 1 < NX) && sh (10 + 2 * i + 1) == (100, Int32.toNatClampNeg 30) && decide (¬ (30 : Int32) < 0)) && okF (10 + 2 * i + 1 + 1) (10 + 2 * i) 2 && (okW (10 + 2 * i + 1 + 1) 6 && okW (10 + 2 * i + 1 + 1) (10 + 2 * i)) && (live (10 + 2 * i + 1 + 1) 6 && (sh 6).1 == 104) && ((sh (10 + 2 * i)).1 == 2)
theorem ck1_ok : ∀ i : Fin 30, ck1 i.1 = true := by decide +kernel
theorem cl1_ok : ∀ i : Fin 31, okF (10 + 2 * i.1) 1 1 = true ∧ (live (10 + 2 * i.1) 6 && decide (100 ≤ (sh 6).1)) = true := by decide +kernel
theorem st_1 {d : Nat} {M : Mem} : ∃ M1, ev (d + 2) m_Site_init [.ref 1] 2 (zr M 1) = run (ev (d + 1)) m_Site_init 71 [some (.ref 1), some (.int (nI 0))] [] 10 M1 ∧ D (fun k _ => 1 ≤ k ∧ k < 10) M M1 ∧ FI 1 6 M1 ∧ (∀ j, gI M1 6 j = 0) ∧ FI 7 10 M1 ∧ Lz M M1 := by
  refine ⟨sR (zr (sR (zr (sR (zr (sI (sR (zr (sR (sR (zr (sI (zr (sR (zr (sR (zr (zr M 1) 2) 1 1 (some 2)) 3) 1 2 (some 3)) 4) 4 5 (337)) 5) 4 6 (some 5)) 1 3 (some 4)) 6) 1 4 (some 6)) 1 8 (-1)) 7) 1 9 (some 7)) 8) 1 11 (some 8)) 9) 1 12 (some 9), ?_, ?_, ?_, ?_, ?_, ?_⟩
  · rw [e_Site_init]
    simp (disch := decide +kernel) only [r_Site_init_0, r_Site_init_0n, r_Site_init_1, r_Site_init_4, r_Site_init_4n, r_Site_init_5, r_Site_init_7, r_Site_init_9, r_Site_init_9n, r_Site_init_12, r_Site_init_12n, r_Site_init_13, r_Site_init_15, r_Site_init_17, r_Site_init_17n, r_Site_init_20, r_Site_init_20n, r_Site_init_21, r_Site_init_24, r_Site_init_24i, r_Site_init_25, r_Site_init_28, r_Site_init_28n, r_Site_init_31, r_Site_init_31n, r_Site_init_32, r_Site_init_34, r_Site_init_37, r_Site_init_37n, r_Site_init_40, r_Site_init_40n, r_Site_init_41, r_Site_init_42, r_Site_init_45, r_Site_init_45n, r_Site_init_46, r_Site_init_48, r_Site_init_50, r_Site_init_50n, r_Site_init_53, r_Site_init_53n, r_Site_init_54, r_Site_init_56, r_Site_init_58, r_Site_init_58n, r_Site_init_61, r_Site_init_61n, r_Site_init_62, r_Site_init_64, r_Site_init_66, r_Site_init_66n, r_Site_init_69, r_Site_init_70, if_pos, bnd, tl_n, tl_s, Nat.reduceAdd, i_mom]
    rfl
  · refine D.sR ?_ (by omega)
    refine D_zr ?_ (fun _ => by omega)
    refine D.sR ?_ (by omega)
    refine D_zr ?_ (fun _ => by omega)
    refine D.sR ?_ (by omega)
    refine D_zr ?_ (fun _ => by omega)
    refine D.sI ?_ (by omega)
    refine D.sR ?_ (by omega)
    refine D_zr ?_ (fun _ => by omega)
    refine D.sR ?_ (by omega)
    refine D.sR ?_ (by omega)
    refine D_zr ?_ (fun _ => by omega)
    refine D.sI ?_ (by omega)
    refine D_zr ?_ (fun _ => by omega)
    refine D.sR ?_ (by omega)
    refine D_zr ?_ (fun _ => by omega)
    refine D.sR ?_ (by omega)
    refine D_zr ?_ (fun _ => by omega)
    refine D_zr ?_ (fun _ => by omega)
    exact D.rfl'
  · intro k j h1 h2
    have hk : k = 1 ∨ k = 2 ∨ k = 3 ∨ k = 4 ∨ k = 5 := by omega
    rcases hk with rfl | rfl | rfl | rfl | rfl
    all_goals (unfold ini rxt; simp only [gI_sR0, gI_sI, gI_zr, gR_sR, gR_zr, gR_sI, Nat.reduceEqDiff, Nat.reduceLeDiff, Nat.reduceLT, Nat.reduceMod, false_and, true_and, and_true, and_false, or_false, false_or, or_true, true_or, if_true, if_false, Nat.reduceAdd, reduceCtorEq])
    all_goals (repeat' split)
    all_goals first | (exfalso; omega) | (refine ⟨rfl, fun a h => ?_⟩; first | exact h | (cases h; done)) | (intro a h; first | exact h | (cases h; done) | (injection h with h; rw [← h]; congr 1; omega)) | rfl
  · intro j
    simp only [gI_sR0, gI_sI, gI_zr, gR_sR, gR_zr, gR_sI, Nat.reduceEqDiff, Nat.reduceLeDiff, Nat.reduceLT, Nat.reduceMod, false_and, true_and, and_true, and_false, or_false, false_or, or_true, true_or, if_true, if_false, Nat.reduceAdd, reduceCtorEq]
  · intro k j h1 h2
    have hk : k = 7 ∨ k = 8 ∨ k = 9 := by omega
    rcases hk with rfl | rfl | rfl
    all_goals (unfold ini rxt; simp only [gI_sR0, gI_sI, gI_zr, gR_sR, gR_zr, gR_sI, Nat.reduceEqDiff, Nat.reduceLeDiff, Nat.reduceLT, Nat.reduceMod, false_and, true_and, and_true, and_false, or_false, false_or, or_true, true_or, if_true, if_false, Nat.reduceAdd, reduceCtorEq])
    all_goals (repeat' split)
    all_goals first | (exfalso; omega) | (refine ⟨rfl, fun a h => ?_⟩; first | exact h | (cases h; done)) | (intro a h; first | exact h | (cases h; done) | (injection h with h; rw [← h]; congr 1; omega)) | rfl
  · refine lz_R ?_
    refine lz_z ?_
    refine lz_R ?_
    refine lz_z ?_
    refine lz_R ?_
    refine lz_z ?_
    refine lz_I ?_
    refine lz_R ?_
    refine lz_z ?_
    refine lz_R ?_
    refine lz_R ?_
    refine lz_z ?_
    refine lz_I ?_
    refine lz_z ?_
    refine lz_R ?_
    refine lz_z ?_
    refine lz_R ?_
    refine lz_z ?_
    refine lz_z ?_
    exact Lz.rf
def ck70 (i : Nat) : Bool := (decide (79 + 2 * i < NX) && (sh (79 + 2 * i)).1 == 2) && okO (79 + 2 * i + 1) (79 + 2 * i) (mO m_Mom_init) && okF (79 + 2 * i + 1) (79 + 2 * i) 2 && (decide (79 + 2 * i + 1 < NX) && sh (79 + 2 * i + 1) == (100, Int32.toNatClampNeg 30) && decide (¬ (30 : Int32) < 0)) && okF (79 + 2 * i + 1 + 1) (79 + 2 * i) 2 && (okW (79 + 2 * i + 1 + 1) 75 && okW (79 + 2 * i + 1 + 1) (79 + 2 * i)) && (live (79 + 2 * i + 1 + 1) 75 && (sh 75).1 == 104) && ((sh (79 + 2 * i)).1 == 2)
theorem ck70_ok : ∀ i : Fin 30, ck70 i.1 = true := by decide +kernel
theorem cl70_ok : ∀ i : Fin 31, okF (79 + 2 * i.1) 70 1 = true ∧ (live (79 + 2 * i.1) 75 && decide (100 ≤ (sh 75).1)) = true := by decide +kernel
theorem st_70 {d : Nat} {M : Mem} : ∃ M1, ev (d + 2) m_Site_init [.ref 70] 71 (zr M 70) = run (ev (d + 1)) m_Site_init 71 [some (.ref 70), some (.int (nI 0))] [] 79 M1 ∧ D (fun k _ => 70 ≤ k ∧ k < 79) M M1 ∧ FI 70 75 M1 ∧ (∀ j, gI M1 75 j = 0) ∧ FI 76 79 M1 ∧ Lz M M1 := by
  refine ⟨sR (zr (sR (zr (sR (zr (sI (sR (zr (sR (sR (zr (sI (zr (sR (zr (sR (zr (zr M 70) 71) 70 1 (some 71)) 72) 70 2 (some 72)) 73) 73 5 (337)) 74) 73 6 (some 74)) 70 3 (some 73)) 75) 70 4 (some 75)) 70 8 (-1)) 76) 70 9 (some 76)) 77) 70 11 (some 77)) 78) 70 12 (some 78), ?_, ?_, ?_, ?_, ?_, ?_⟩
  · rw [e_Site_init]
    simp (disch := decide +kernel) only [r_Site_init_0, r_Site_init_0n, r_Site_init_1, r_Site_init_4, r_Site_init_4n, r_Site_init_5, r_Site_init_7, r_Site_init_9, r_Site_init_9n, r_Site_init_12, r_Site_init_12n, r_Site_init_13, r_Site_init_15, r_Site_init_17, r_Site_init_17n, r_Site_init_20, r_Site_init_20n, r_Site_init_21, r_Site_init_24, r_Site_init_24i, r_Site_init_25, r_Site_init_28, r_Site_init_28n, r_Site_init_31, r_Site_init_31n, r_Site_init_32, r_Site_init_34, r_Site_init_37, r_Site_init_37n, r_Site_init_40, r_Site_init_40n, r_Site_init_41, r_Site_init_42, r_Site_init_45, r_Site_init_45n, r_Site_init_46, r_Site_init_48, r_Site_init_50, r_Site_init_50n, r_Site_init_53, r_Site_init_53n, r_Site_init_54, r_Site_init_56, r_Site_init_58, r_Site_init_58n, r_Site_init_61, r_Site_init_61n, r_Site_init_62, r_Site_init_64, r_Site_init_66, r_Site_init_66n, r_Site_init_69, r_Site_init_70, if_pos, bnd, tl_n, tl_s, Nat.reduceAdd, i_mom]
    rfl
  · refine D.sR ?_ (by omega)
    refine D_zr ?_ (fun _ => by omega)
    refine D.sR ?_ (by omega)
    refine D_zr ?_ (fun _ => by omega)
    refine D.sR ?_ (by omega)
    refine D_zr ?_ (fun _ => by omega)
    refine D.sI ?_ (by omega)
    refine D.sR ?_ (by omega)
    refine D_zr ?_ (fun _ => by omega)
    refine D.sR ?_ (by omega)
    refine D.sR ?_ (by omega)
    refine D_zr ?_ (fun _ => by omega)
    refine D.sI ?_ (by omega)
    refine D_zr ?_ (fun _ => by omega)
    refine D.sR ?_ (by omega)
    refine D_zr ?_ (fun _ => by omega)
    refine D.sR ?_ (by omega)
    refine D_zr ?_ (fun _ => by omega)
    refine D_zr ?_ (fun _ => by omega)
    exact D.rfl'
  · intro k j h1 h2
    have hk : k = 70 ∨ k = 71 ∨ k = 72 ∨ k = 73 ∨ k = 74 := by omega
    rcases hk with rfl | rfl | rfl | rfl | rfl
    all_goals (unfold ini rxt; simp only [gI_sR0, gI_sI, gI_zr, gR_sR, gR_zr, gR_sI, Nat.reduceEqDiff, Nat.reduceLeDiff, Nat.reduceLT, Nat.reduceMod, false_and, true_and, and_true, and_false, or_false, false_or, or_true, true_or, if_true, if_false, Nat.reduceAdd, reduceCtorEq])
    all_goals (repeat' split)
    all_goals first | (exfalso; omega) | (refine ⟨rfl, fun a h => ?_⟩; first | exact h | (cases h; done)) | (intro a h; first | exact h | (cases h; done) | (injection h with h; rw [← h]; congr 1; omega)) | rfl
  · intro j
    simp only [gI_sR0, gI_sI, gI_zr, gR_sR, gR_zr, gR_sI, Nat.reduceEqDiff, Nat.reduceLeDiff, Nat.reduceLT, Nat.reduceMod, false_and, true_and, and_true, and_false, or_false, false_or, or_true, true_or, if_true, if_false, Nat.reduceAdd, reduceCtorEq]
  · intro k j h1 h2
    have hk : k = 76 ∨ k = 77 ∨ k = 78 := by omega
    rcases hk with rfl | rfl | rfl
    all_goals (unfold ini rxt; simp only [gI_sR0, gI_sI, gI_zr, gR_sR, gR_zr, gR_sI, Nat.reduceEqDiff, Nat.reduceLeDiff, Nat.reduceLT, Nat.reduceMod, false_and, true_and, and_true, and_false, or_false, false_or, or_true, true_or, if_true, if_false, Nat.reduceAdd, reduceCtorEq])
    all_goals (repeat' split)
    all_goals first | (exfalso; omega) | (refine ⟨rfl, fun a h => ?_⟩; first | exact h | (cases h; done)) | (intro a h; first | exact h | (cases h; done) | (injection h with h; rw [← h]; congr 1; omega)) | rfl
  · refine lz_R ?_
    refine lz_z ?_
    refine lz_R ?_
    refine lz_z ?_
    refine lz_R ?_
    refine lz_z ?_
    refine lz_I ?_
    refine lz_R ?_
    refine lz_z ?_
    refine lz_R ?_
    refine lz_R ?_
    refine lz_z ?_
    refine lz_I ?_
    refine lz_z ?_
    refine lz_R ?_
    refine lz_z ?_
    refine lz_R ?_
    refine lz_z ?_
    refine lz_z ?_
    exact Lz.rf
