/-! THE START: the reference's object -/
section MIN
variable {d : Nat} {M : Mem}
theorem mi_all : ∃ M', ev (d + 2) m_M_init [.ref 174] 175 (zr M 174) = some (none, NX, M') ∧ D (fun k _ => 174 ≤ k ∧ k < 189) M M' ∧ FM M' ∧ (∀ j, j < 1595 → gI M' 175 j = if j = 2 then -1 else if j = 7 then 337 else 0) ∧ (∀ j, j < 1595 → gI M' 176 j = if j = 2 then -1 else if j = 7 then 337 else 0) ∧ (∀ j, gI M' 174 j = if j = 24 then 1 else if j = 6 then -1 else if j = 5 then -1 else 0) := by
  have dM : D (fun k _ => 174 ≤ k ∧ k < 189) M (sI (sI (sR (zr (sR (zr (sR (zr (sR (zr (sR (zr (sI (sR (zr (sR (zr (sR (zr (sR (zr (sR (zr (sI (sI (sR (zr (sR (zr (sR (zr (sR (zr (zr M 174) 175) 174 0 (some 175)) 176) 174 1 (some 176)) 177) 174 2 (some 177)) 178) 174 3 (some 178)) 174 5 (-1)) 174 6 (-1)) 179) 174 15 (some 179)) 180) 174 20 (some 180)) 181) 174 21 (some 181)) 182) 174 22 (some 182)) 183) 174 23 (some 183)) 174 24 (1)) 184) 174 26 (some 184)) 185) 174 27 (some 185)) 186) 174 28 (some 186)) 187) 174 29 (some 187)) 188) 174 30 (some 188)) 175 7 (337)) 175 2 (-1)) := by
    refine D.sI ?_ (by omega)
    refine D.sI ?_ (by omega)
    refine D.sR ?_ (by omega)
    refine D_zr ?_ (fun _ => by omega)
    refine D.sR ?_ (by omega)
    refine D_zr ?_ (fun _ => by omega)
    refine D.sR ?_ (by omega)
    refine D_zr ?_ (fun _ => by omega)
    refine D.sR ?_ (by omega)
    refine D_zr ?_ (fun _ => by omega)
    refine D.sR ?_ (by omega)
    refine D_zr ?_ (fun _ => by omega)
    refine D.sI ?_ (by omega)
    refine D.sR ?_ (by omega)
    refine D_zr ?_ (fun _ => by omega)
    refine D.sR ?_ (by omega)
    refine D_zr ?_ (fun _ => by omega)
    refine D.sR ?_ (by omega)
    refine D_zr ?_ (fun _ => by omega)
    refine D.sR ?_ (by omega)
    refine D_zr ?_ (fun _ => by omega)
    refine D.sR ?_ (by omega)
    refine D_zr ?_ (fun _ => by omega)
    refine D.sI ?_ (by omega)
    refine D.sI ?_ (by omega)
    refine D.sR ?_ (by omega)
    refine D_zr ?_ (fun _ => by omega)
    refine D.sR ?_ (by omega)
    refine D_zr ?_ (fun _ => by omega)
    refine D.sR ?_ (by omega)
    refine D_zr ?_ (fun _ => by omega)
    refine D.sR ?_ (by omega)
    refine D_zr ?_ (fun _ => by omega)
    refine D_zr ?_ (fun _ => by omega)
    exact D.rfl'
  have fM : FM (sI (sI (sR (zr (sR (zr (sR (zr (sR (zr (sR (zr (sI (sR (zr (sR (zr (sR (zr (sR (zr (sR (zr (sI (sI (sR (zr (sR (zr (sR (zr (sR (zr (zr M 174) 175) 174 0 (some 175)) 176) 174 1 (some 176)) 177) 174 2 (some 177)) 178) 174 3 (some 178)) 174 5 (-1)) 174 6 (-1)) 179) 174 15 (some 179)) 180) 174 20 (some 180)) 181) 174 21 (some 181)) 182) 174 22 (some 182)) 183) 174 23 (some 183)) 174 24 (1)) 184) 174 26 (some 184)) 185) 174 27 (some 185)) 186) 174 28 (some 186)) 187) 174 29 (some 187)) 188) 174 30 (some 188)) 175 7 (337)) 175 2 (-1)) := by
    unfold FM
    simp only [gI_sR0, gI_sI, gI_zr, gR_sR, gR_zr, gR_sI, Nat.reduceEqDiff, Nat.reduceLeDiff, Nat.reduceLT, Nat.reduceMod, false_and, true_and, and_true, and_false, or_false, false_or, or_true, true_or, if_true, if_false, Nat.reduceAdd, reduceCtorEq]
  have g5 : ∀ j, gI (sI (sI (sR (zr (sR (zr (sR (zr (sR (zr (sR (zr (sI (sR (zr (sR (zr (sR (zr (sR (zr (sR (zr (sI (sI (sR (zr (sR (zr (sR (zr (sR (zr (zr M 174) 175) 174 0 (some 175)) 176) 174 1 (some 176)) 177) 174 2 (some 177)) 178) 174 3 (some 178)) 174 5 (-1)) 174 6 (-1)) 179) 174 15 (some 179)) 180) 174 20 (some 180)) 181) 174 21 (some 181)) 182) 174 22 (some 182)) 183) 174 23 (some 183)) 174 24 (1)) 184) 174 26 (some 184)) 185) 174 27 (some 185)) 186) 174 28 (some 186)) 187) 174 29 (some 187)) 188) 174 30 (some 188)) 175 7 (337)) 175 2 (-1)) 175 j = if j = 2 then -1 else if j = 7 then 337 else 0 := by
    intro j
    simp only [gI_sR0, gI_sI, gI_zr, gR_sR, gR_zr, gR_sI, Nat.reduceEqDiff, Nat.reduceLeDiff, Nat.reduceLT, Nat.reduceMod, false_and, true_and, and_true, and_false, or_false, false_or, or_true, true_or, if_true, if_false, Nat.reduceAdd, reduceCtorEq]
  have g4 : ∀ j, gI (sI (sI (sR (zr (sR (zr (sR (zr (sR (zr (sR (zr (sI (sR (zr (sR (zr (sR (zr (sR (zr (sR (zr (sI (sI (sR (zr (sR (zr (sR (zr (sR (zr (zr M 174) 175) 174 0 (some 175)) 176) 174 1 (some 176)) 177) 174 2 (some 177)) 178) 174 3 (some 178)) 174 5 (-1)) 174 6 (-1)) 179) 174 15 (some 179)) 180) 174 20 (some 180)) 181) 174 21 (some 181)) 182) 174 22 (some 182)) 183) 174 23 (some 183)) 174 24 (1)) 184) 174 26 (some 184)) 185) 174 27 (some 185)) 186) 174 28 (some 186)) 187) 174 29 (some 187)) 188) 174 30 (some 188)) 175 7 (337)) 175 2 (-1)) 174 j = if j = 24 then 1 else if j = 6 then -1 else if j = 5 then -1 else 0 := by
    intro j
    simp only [gI_sR0, gI_sI, gI_zr, gR_sR, gR_zr, gR_sI, Nat.reduceEqDiff, Nat.reduceLeDiff, Nat.reduceLT, Nat.reduceMod, false_and, true_and, and_true, and_false, or_false, false_or, or_true, true_or, if_true, if_false, Nat.reduceAdd, reduceCtorEq]
  have hr : ∀ M', ev (d + 1) m_M_copy [.ref 175, .ref 176] NX (sI (sI (sR (zr (sR (zr (sR (zr (sR (zr (sR (zr (sI (sR (zr (sR (zr (sR (zr (sR (zr (sR (zr (sI (sI (sR (zr (sR (zr (sR (zr (sR (zr (zr M 174) 175) 174 0 (some 175)) 176) 174 1 (some 176)) 177) 174 2 (some 177)) 178) 174 3 (some 178)) 174 5 (-1)) 174 6 (-1)) 179) 174 15 (some 179)) 180) 174 20 (some 180)) 181) 174 21 (some 181)) 182) 174 22 (some 182)) 183) 174 23 (some 183)) 174 24 (1)) 184) 174 26 (some 184)) 185) 174 27 (some 185)) 186) 174 28 (some 186)) 187) 174 29 (some 187)) 188) 174 30 (some 188)) 175 7 (337)) 175 2 (-1)) = some (none, NX, M') → ev (d + 2) m_M_init [.ref 174] 175 (zr M 174) = some (none, NX, M') := by
    intro M' hc
    have ga : gR (sR (zr (sR (zr (sR (zr (sR (zr (sR (zr (sI (sR (zr (sR (zr (sR (zr (sR (zr (sR (zr (sI (sI (sR (zr (sR (zr (sR (zr (sR (zr (zr M 174) 175) 174 0 (some 175)) 176) 174 1 (some 176)) 177) 174 2 (some 177)) 178) 174 3 (some 178)) 174 5 (-1)) 174 6 (-1)) 179) 174 15 (some 179)) 180) 174 20 (some 180)) 181) 174 21 (some 181)) 182) 174 22 (some 182)) 183) 174 23 (some 183)) 174 24 (1)) 184) 174 26 (some 184)) 185) 174 27 (some 185)) 186) 174 28 (some 186)) 187) 174 29 (some 187)) 188) 174 30 (some 188)) 174 0 = some 175 := by simp only [gI_sR0, gI_sI, gI_zr, gR_sR, gR_zr, gR_sI, Nat.reduceEqDiff, Nat.reduceLeDiff, Nat.reduceLT, Nat.reduceMod, false_and, true_and, and_true, and_false, or_false, false_or, or_true, true_or, if_true, if_false, Nat.reduceAdd, reduceCtorEq]
    have ga2 : gR (sI (sR (zr (sR (zr (sR (zr (sR (zr (sR (zr (sI (sR (zr (sR (zr (sR (zr (sR (zr (sR (zr (sI (sI (sR (zr (sR (zr (sR (zr (sR (zr (zr M 174) 175) 174 0 (some 175)) 176) 174 1 (some 176)) 177) 174 2 (some 177)) 178) 174 3 (some 178)) 174 5 (-1)) 174 6 (-1)) 179) 174 15 (some 179)) 180) 174 20 (some 180)) 181) 174 21 (some 181)) 182) 174 22 (some 182)) 183) 174 23 (some 183)) 174 24 (1)) 184) 174 26 (some 184)) 185) 174 27 (some 185)) 186) 174 28 (some 186)) 187) 174 29 (some 187)) 188) 174 30 (some 188)) 175 7 337) 174 0 = some 175 := ga
    have ga3 : gR (sI (sI (sR (zr (sR (zr (sR (zr (sR (zr (sR (zr (sI (sR (zr (sR (zr (sR (zr (sR (zr (sR (zr (sI (sI (sR (zr (sR (zr (sR (zr (sR (zr (zr M 174) 175) 174 0 (some 175)) 176) 174 1 (some 176)) 177) 174 2 (some 177)) 178) 174 3 (some 178)) 174 5 (-1)) 174 6 (-1)) 179) 174 15 (some 179)) 180) 174 20 (some 180)) 181) 174 21 (some 181)) 182) 174 22 (some 182)) 183) 174 23 (some 183)) 174 24 (1)) 184) 174 26 (some 184)) 185) 174 27 (some 185)) 186) 174 28 (some 186)) 187) 174 29 (some 187)) 188) 174 30 (some 188)) 175 7 (337)) 175 2 (-1)) 174 0 = some 175 := ga
    have gb3 : gR (sI (sI (sR (zr (sR (zr (sR (zr (sR (zr (sR (zr (sI (sR (zr (sR (zr (sR (zr (sR (zr (sR (zr (sI (sI (sR (zr (sR (zr (sR (zr (sR (zr (zr M 174) 175) 174 0 (some 175)) 176) 174 1 (some 176)) 177) 174 2 (some 177)) 178) 174 3 (some 178)) 174 5 (-1)) 174 6 (-1)) 179) 174 15 (some 179)) 180) 174 20 (some 180)) 181) 174 21 (some 181)) 182) 174 22 (some 182)) 183) 174 23 (some 183)) 174 24 (1)) 184) 174 26 (some 184)) 185) 174 27 (some 185)) 186) 174 28 (some 186)) 187) 174 29 (some 187)) 188) 174 30 (some 188)) 175 7 (337)) 175 2 (-1)) 174 1 = some 176 := by simp only [gI_sR0, gI_sI, gI_zr, gR_sR, gR_zr, gR_sI, Nat.reduceEqDiff, Nat.reduceLeDiff, Nat.reduceLT, Nat.reduceMod, false_and, true_and, and_true, and_false, or_false, false_or, or_true, true_or, if_true, if_false, Nat.reduceAdd, reduceCtorEq]
    have oA : ∀ X z, okA X 189 175 100 z = (live 189 175 && (sh 175).1 == 100 && inb z 1595) := fun X z => by unfold okA; rw [show lenOf X 175 = 1595 by unfold lenOf; rw [if_neg (by decide)]; decide +kernel]
    have hA7 : ∀ X : Mem, okA X 189 175 100 7 = true := fun X => by rw [oA]; decide +kernel
    have hA2 : ∀ X : Mem, okA X 189 175 100 2 = true := fun X => by rw [oA]; decide +kernel
    have hW : okW 189 175 = true := by decide +kernel
    have hS7 : ∀ X : Mem, okS X 189 175 100 7 = true := fun X => by unfold okS; rw [hA7, hW]; rfl
    have hS2 : ∀ X : Mem, okS X 189 175 100 2 = true := fun X => by unfold okS; rw [hA2, hW]; rfl
    have c7 : Int32.toNatClampNeg 7 = 7 := by decide +kernel
    have c2 : Int32.toNatClampNeg 2 = 2 := by decide +kernel
    have hc' : ev (d + 1) m_M_copy [.ref 175, .ref 176] 189 (sI (sI (sR (zr (sR (zr (sR (zr (sR (zr (sR (zr (sI (sR (zr (sR (zr (sR (zr (sR (zr (sR (zr (sI (sI (sR (zr (sR (zr (sR (zr (sR (zr (zr M 174) 175) 174 0 (some 175)) 176) 174 1 (some 176)) 177) 174 2 (some 177)) 178) 174 3 (some 178)) 174 5 (-1)) 174 6 (-1)) 179) 174 15 (some 179)) 180) 174 20 (some 180)) 181) 174 21 (some 181)) 182) 174 22 (some 182)) 183) 174 23 (some 183)) 174 24 (1)) 184) 174 26 (some 184)) 185) 174 27 (some 185)) 186) 174 28 (some 186)) 187) 174 29 (some 187)) 188) 174 30 (some 188)) 175 7 (337)) 175 2 (-1)) = some (none, NX, M') := hc
    have st : ev (d + 2) m_M_init [.ref 174] 175 (zr M 174) = run (ev (d + 1)) m_M_init 139 [some (.ref 174)] [] 189 (sR (zr (sR (zr (sR (zr (sR (zr (sR (zr (sI (sR (zr (sR (zr (sR (zr (sR (zr (sR (zr (sI (sI (sR (zr (sR (zr (sR (zr (sR (zr (zr M 174) 175) 174 0 (some 175)) 176) 174 1 (some 176)) 177) 174 2 (some 177)) 178) 174 3 (some 178)) 174 5 (-1)) 174 6 (-1)) 179) 174 15 (some 179)) 180) 174 20 (some 180)) 181) 174 21 (some 181)) 182) 174 22 (some 182)) 183) 174 23 (some 183)) 174 24 (1)) 184) 174 26 (some 184)) 185) 174 27 (some 185)) 186) 174 28 (some 186)) 187) 174 29 (some 187)) 188) 174 30 (some 188)) := by
      rw [e_M_init]
      simp (disch := decide +kernel) only [r_M_init_0, r_M_init_0n, r_M_init_1, r_M_init_4, r_M_init_4n, r_M_init_5, r_M_init_8, r_M_init_10, r_M_init_10n, r_M_init_13, r_M_init_13n, r_M_init_14, r_M_init_17, r_M_init_19, r_M_init_19n, r_M_init_22, r_M_init_22n, r_M_init_23, r_M_init_26, r_M_init_28, r_M_init_28n, r_M_init_31, r_M_init_31n, r_M_init_32, r_M_init_35, r_M_init_37, r_M_init_37n, r_M_init_40, r_M_init_40n, r_M_init_41, r_M_init_42, r_M_init_45, r_M_init_45n, r_M_init_46, r_M_init_47, r_M_init_50, r_M_init_50n, r_M_init_51, r_M_init_54, r_M_init_56, r_M_init_56n, r_M_init_59, r_M_init_59n, r_M_init_60, r_M_init_62, r_M_init_64, r_M_init_64n, r_M_init_67, r_M_init_67n, r_M_init_68, r_M_init_71, r_M_init_73, r_M_init_73n, r_M_init_76, r_M_init_76n, r_M_init_77, r_M_init_80, r_M_init_82, r_M_init_82n, r_M_init_85, r_M_init_85n, r_M_init_86, r_M_init_88, r_M_init_90, r_M_init_90n, r_M_init_93, r_M_init_93n, r_M_init_94, r_M_init_95, r_M_init_98, r_M_init_98n, r_M_init_99, r_M_init_101, r_M_init_103, r_M_init_103n, r_M_init_106, r_M_init_106n, r_M_init_107, r_M_init_110, r_M_init_112, r_M_init_112n, r_M_init_115, r_M_init_115n, r_M_init_116, r_M_init_117, r_M_init_119, r_M_init_119n, r_M_init_122, r_M_init_122n, r_M_init_123, r_M_init_126, r_M_init_128, r_M_init_128n, r_M_init_131, r_M_init_131n, r_M_init_132, r_M_init_134, r_M_init_136, r_M_init_136n, if_pos, bnd, tl_n, tl_s, Nat.reduceAdd]
    rw [st]
    simp (disch := decide +kernel) only [r_M_init_139, r_M_init_139n, r_M_init_140, r_M_init_143, r_M_init_145, r_M_init_148, r_M_init_149, r_M_init_149n, r_M_init_150, r_M_init_153, r_M_init_154, r_M_init_155, r_M_init_156, r_M_init_156n, r_M_init_157, r_M_init_160, r_M_init_160n, r_M_init_161, r_M_init_164, r_M_init_167, if_pos, bnd, tl_n, tl_s, Nat.reduceAdd, ga, ga2, ga3, gb3, vrf_s, hS7, hS2, Bool.true_and, Bool.and_true, Bool.and_self, if_true, c7, c2, hc']
  generalize (sI (sI (sR (zr (sR (zr (sR (zr (sR (zr (sR (zr (sI (sR (zr (sR (zr (sR (zr (sR (zr (sR (zr (sI (sI (sR (zr (sR (zr (sR (zr (sR (zr (zr M 174) 175) 174 0 (some 175)) 176) 174 1 (some 176)) 177) 174 2 (some 177)) 178) 174 3 (some 178)) 174 5 (-1)) 174 6 (-1)) 179) 174 15 (some 179)) 180) 174 20 (some 180)) 181) 174 21 (some 181)) 182) 174 22 (some 182)) 183) 174 23 (some 183)) 174 24 (1)) 184) 174 26 (some 184)) 185) 174 27 (some 185)) 186) 174 28 (some 186)) 187) 174 29 (some 187)) 188) 174 30 (some 188)) 175 7 (337)) 175 2 (-1)) = X at *
  obtain ⟨M', d1, c1, r1⟩ := x_cpI (d := d) (M := X)
  refine ⟨M', hr M' r1, dM.trans (d1.mono (fun k j z => by omega)), ?_, fun j hj => by rw [d1.i (by omega)]; exact g5 j, fun j hj => by rw [c1 j hj]; exact g5 j, fun j => by rw [d1.i (by omega)]; exact g4 j⟩
  exact fM.D d1 (fun j z => by omega)
end MIN
