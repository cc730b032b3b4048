/-! THE START: the class's object, whole -/
section XIN
variable {d : Nat} {M X : Mem}
def xiM (X : Mem) : Mem := sR (sR (zr (sR (zr (sR (zr (sR (zr (zr (sR (sR (zr (sR (zr (sR (zr (sR (zr (zr (sR (sR (zr (sR (zr (sR (zr (sR (zr (zr (sR (sR (zr (sR (zr (sR (zr (sR (zr (zr (sR (sR (zr (sI (zr (sR (sR (zr (sR (zr (sR (zr (zr (sR (sR (zr (zr (sR (sI (zr (sR (sR (zr (sR (zr (sR (zr (sR (zr (zr (sR (zr X 139) 0 2 (some 139)) 140) 141) 140 0 (some 141)) 142) 140 2 (some 142)) 143) 140 3 (some 143)) 144) 140 4 (some 144)) 0 3 (some 140)) 145) 145 1 (-1)) 0 4 (some 145)) 146) 147) 146 0 (some 147)) 0 5 (some 146)) 148) 149) 148 0 (some 149)) 150) 148 2 (some 150)) 151) 148 3 (some 151)) 0 6 (some 148)) 152) 152 5 (337)) 153) 152 6 (some 153)) 0 7 (some 152)) 154) 155) 154 0 (some 155)) 156) 154 2 (some 156)) 157) 154 3 (some 157)) 158) 154 4 (some 158)) 139 0 (some 154)) 159) 160) 159 0 (some 160)) 161) 159 2 (some 161)) 162) 159 3 (some 162)) 163) 159 4 (some 163)) 139 1 (some 159)) 164) 165) 164 0 (some 165)) 166) 164 2 (some 166)) 167) 164 3 (some 167)) 168) 164 4 (some 168)) 139 2 (some 164)) 169) 170) 169 0 (some 170)) 171) 169 2 (some 171)) 172) 169 3 (some 172)) 173) 169 4 (some 173)) 139 3 (some 169)
theorem l139 (X : Mem) : lenOf X 139 = 4 := by unfold lenOf; rw [if_neg (by decide)]; decide +kernel
theorem a139 {X : Mem} {nx t : Nat} {z : Int32} : okA X nx 139 t z = (live nx 139 && (sh 139).1 == t && inb z 4) := by unfold okA; rw [l139]
theorem cN0 : Int32.toNatClampNeg 0 = 0 ∧ Int32.toNatClampNeg (0 + 1) = 1 ∧ Int32.toNatClampNeg (0 + 1 + 1) = 2 ∧ Int32.toNatClampNeg (0 + 1 + 1 + 1) = 3 := by decide +kernel
theorem xs_0 (hg : gR X 0 2 = some 139) : run (ev (d + 2)) m_X_init 91 [some (.ref 0), some (.int (0))] [] 154 X = run (ev (d + 2)) m_X_init 91 [some (.ref 0), some (.int (0 + 1))] [] 159 (sR (sR (zr (sR (zr (sR (zr (sR (zr (zr X 154) 155) 154 0 (some 155)) 156) 154 2 (some 156)) 157) 154 3 (some 157)) 158) 154 4 (some 158)) 139 0 (some 154)) ∧ gR (sR (sR (zr (sR (zr (sR (zr (sR (zr (zr X 154) 155) 154 0 (some 155)) 156) 154 2 (some 156)) 157) 154 3 (some 157)) 158) 154 4 (some 158)) 139 0 (some 154)) 0 2 = some 139 := by
  obtain ⟨c0, c1, c2, c3⟩ := cN0
  refine ⟨?_, ?_⟩
  · rw [r_X_init_91]
    simp (disch := decide +kernel) only [r_X_init_92, r_X_init_92n, r_X_init_93, r_X_init_96, r_X_init_97, r_X_init_100, r_X_init_100n, r_X_init_101, r_X_init_104, r_X_init_105, r_X_init_108, r_X_init_108i, r_X_init_109, r_X_init_112, r_X_init_113, r_X_init_116, r_Scr_init_0, r_Scr_init_0n, r_Scr_init_1, r_Scr_init_4, r_Scr_init_4n, r_Scr_init_5, r_Scr_init_8, r_Scr_init_10, r_Scr_init_10n, r_Scr_init_13, r_Scr_init_13n, r_Scr_init_14, r_Scr_init_15, r_Scr_init_17, r_Scr_init_17n, r_Scr_init_20, r_Scr_init_20n, r_Scr_init_21, r_Scr_init_22, r_Scr_init_24, r_Scr_init_24n, r_Scr_init_27, r_Scr_init_27n, r_Scr_init_28, r_Scr_init_30, r_Scr_init_32, r_Scr_init_32n, r_Scr_init_35, e_Scr_init, if_pos, if_neg, bnd, tl_n, tl_s, Nat.reduceAdd, hg, vrf_s, l139, a139, c0, c1, c2, c3]
  · simp only [gR_sR, gR_zr, gR_sI, Nat.reduceEqDiff, false_and, true_and, if_false, if_true, hg]
theorem xs_1 (hg : gR X 0 2 = some 139) : run (ev (d + 2)) m_X_init 91 [some (.ref 0), some (.int (0 + 1))] [] 159 X = run (ev (d + 2)) m_X_init 91 [some (.ref 0), some (.int (0 + 1 + 1))] [] 164 (sR (sR (zr (sR (zr (sR (zr (sR (zr (zr X 159) 160) 159 0 (some 160)) 161) 159 2 (some 161)) 162) 159 3 (some 162)) 163) 159 4 (some 163)) 139 1 (some 159)) ∧ gR (sR (sR (zr (sR (zr (sR (zr (sR (zr (zr X 159) 160) 159 0 (some 160)) 161) 159 2 (some 161)) 162) 159 3 (some 162)) 163) 159 4 (some 163)) 139 1 (some 159)) 0 2 = some 139 := by
  obtain ⟨c0, c1, c2, c3⟩ := cN0
  refine ⟨?_, ?_⟩
  · rw [r_X_init_91]
    simp (disch := decide +kernel) only [r_X_init_92, r_X_init_92n, r_X_init_93, r_X_init_96, r_X_init_97, r_X_init_100, r_X_init_100n, r_X_init_101, r_X_init_104, r_X_init_105, r_X_init_108, r_X_init_108i, r_X_init_109, r_X_init_112, r_X_init_113, r_X_init_116, r_Scr_init_0, r_Scr_init_0n, r_Scr_init_1, r_Scr_init_4, r_Scr_init_4n, r_Scr_init_5, r_Scr_init_8, r_Scr_init_10, r_Scr_init_10n, r_Scr_init_13, r_Scr_init_13n, r_Scr_init_14, r_Scr_init_15, r_Scr_init_17, r_Scr_init_17n, r_Scr_init_20, r_Scr_init_20n, r_Scr_init_21, r_Scr_init_22, r_Scr_init_24, r_Scr_init_24n, r_Scr_init_27, r_Scr_init_27n, r_Scr_init_28, r_Scr_init_30, r_Scr_init_32, r_Scr_init_32n, r_Scr_init_35, e_Scr_init, if_pos, if_neg, bnd, tl_n, tl_s, Nat.reduceAdd, hg, vrf_s, l139, a139, c0, c1, c2, c3]
  · simp only [gR_sR, gR_zr, gR_sI, Nat.reduceEqDiff, false_and, true_and, if_false, if_true, hg]
theorem xs_2 (hg : gR X 0 2 = some 139) : run (ev (d + 2)) m_X_init 91 [some (.ref 0), some (.int (0 + 1 + 1))] [] 164 X = run (ev (d + 2)) m_X_init 91 [some (.ref 0), some (.int (0 + 1 + 1 + 1))] [] 169 (sR (sR (zr (sR (zr (sR (zr (sR (zr (zr X 164) 165) 164 0 (some 165)) 166) 164 2 (some 166)) 167) 164 3 (some 167)) 168) 164 4 (some 168)) 139 2 (some 164)) ∧ gR (sR (sR (zr (sR (zr (sR (zr (sR (zr (zr X 164) 165) 164 0 (some 165)) 166) 164 2 (some 166)) 167) 164 3 (some 167)) 168) 164 4 (some 168)) 139 2 (some 164)) 0 2 = some 139 := by
  obtain ⟨c0, c1, c2, c3⟩ := cN0
  refine ⟨?_, ?_⟩
  · rw [r_X_init_91]
    simp (disch := decide +kernel) only [r_X_init_92, r_X_init_92n, r_X_init_93, r_X_init_96, r_X_init_97, r_X_init_100, r_X_init_100n, r_X_init_101, r_X_init_104, r_X_init_105, r_X_init_108, r_X_init_108i, r_X_init_109, r_X_init_112, r_X_init_113, r_X_init_116, r_Scr_init_0, r_Scr_init_0n, r_Scr_init_1, r_Scr_init_4, r_Scr_init_4n, r_Scr_init_5, r_Scr_init_8, r_Scr_init_10, r_Scr_init_10n, r_Scr_init_13, r_Scr_init_13n, r_Scr_init_14, r_Scr_init_15, r_Scr_init_17, r_Scr_init_17n, r_Scr_init_20, r_Scr_init_20n, r_Scr_init_21, r_Scr_init_22, r_Scr_init_24, r_Scr_init_24n, r_Scr_init_27, r_Scr_init_27n, r_Scr_init_28, r_Scr_init_30, r_Scr_init_32, r_Scr_init_32n, r_Scr_init_35, e_Scr_init, if_pos, if_neg, bnd, tl_n, tl_s, Nat.reduceAdd, hg, vrf_s, l139, a139, c0, c1, c2, c3]
  · simp only [gR_sR, gR_zr, gR_sI, Nat.reduceEqDiff, false_and, true_and, if_false, if_true, hg]
theorem xs_3 (hg : gR X 0 2 = some 139) : run (ev (d + 2)) m_X_init 91 [some (.ref 0), some (.int (0 + 1 + 1 + 1))] [] 169 X = run (ev (d + 2)) m_X_init 91 [some (.ref 0), some (.int (0 + 1 + 1 + 1 + 1))] [] 174 (sR (sR (zr (sR (zr (sR (zr (sR (zr (zr X 169) 170) 169 0 (some 170)) 171) 169 2 (some 171)) 172) 169 3 (some 172)) 173) 169 4 (some 173)) 139 3 (some 169)) ∧ gR (sR (sR (zr (sR (zr (sR (zr (sR (zr (zr X 169) 170) 169 0 (some 170)) 171) 169 2 (some 171)) 172) 169 3 (some 172)) 173) 169 4 (some 173)) 139 3 (some 169)) 0 2 = some 139 := by
  obtain ⟨c0, c1, c2, c3⟩ := cN0
  refine ⟨?_, ?_⟩
  · rw [r_X_init_91]
    simp (disch := decide +kernel) only [r_X_init_92, r_X_init_92n, r_X_init_93, r_X_init_96, r_X_init_97, r_X_init_100, r_X_init_100n, r_X_init_101, r_X_init_104, r_X_init_105, r_X_init_108, r_X_init_108i, r_X_init_109, r_X_init_112, r_X_init_113, r_X_init_116, r_Scr_init_0, r_Scr_init_0n, r_Scr_init_1, r_Scr_init_4, r_Scr_init_4n, r_Scr_init_5, r_Scr_init_8, r_Scr_init_10, r_Scr_init_10n, r_Scr_init_13, r_Scr_init_13n, r_Scr_init_14, r_Scr_init_15, r_Scr_init_17, r_Scr_init_17n, r_Scr_init_20, r_Scr_init_20n, r_Scr_init_21, r_Scr_init_22, r_Scr_init_24, r_Scr_init_24n, r_Scr_init_27, r_Scr_init_27n, r_Scr_init_28, r_Scr_init_30, r_Scr_init_32, r_Scr_init_32n, r_Scr_init_35, e_Scr_init, if_pos, if_neg, bnd, tl_n, tl_s, Nat.reduceAdd, hg, vrf_s, l139, a139, c0, c1, c2, c3]
  · simp only [gR_sR, gR_zr, gR_sI, Nat.reduceEqDiff, false_and, true_and, if_false, if_true, hg]
theorem xi_run : run (ev (d + 2)) m_X_init 26 [some (.ref 0), none] [] 139 X = some (none, 174, xiM X) := by
  have hg : gR (sR (sR (zr (sI (zr (sR (sR (zr (sR (zr (sR (zr (zr (sR (sR (zr (zr (sR (sI (zr (sR (sR (zr (sR (zr (sR (zr (sR (zr (zr (sR (zr X 139) 0 2 (some 139)) 140) 141) 140 0 (some 141)) 142) 140 2 (some 142)) 143) 140 3 (some 143)) 144) 140 4 (some 144)) 0 3 (some 140)) 145) 145 1 (-1)) 0 4 (some 145)) 146) 147) 146 0 (some 147)) 0 5 (some 146)) 148) 149) 148 0 (some 149)) 150) 148 2 (some 150)) 151) 148 3 (some 151)) 0 6 (some 148)) 152) 152 5 (337)) 153) 152 6 (some 153)) 0 7 (some 152)) 0 2 = some 139 := by simp only [gR_sR, gR_zr, gR_sI, Nat.reduceEqDiff, false_and, true_and, and_true, and_false, if_false, if_true]
  obtain ⟨r0, g0⟩ := xs_0 (d := d) hg
  obtain ⟨r1, g1⟩ := xs_1 (d := d) g0
  obtain ⟨r2, g2⟩ := xs_2 (d := d) g1
  obtain ⟨r3, g3⟩ := xs_3 (d := d) g2
  have st : run (ev (d + 2)) m_X_init 26 [some (.ref 0), none] [] 139 X = run (ev (d + 2)) m_X_init 91 [some (.ref 0), some (.int 0)] [] 154 (sR (sR (zr (sI (zr (sR (sR (zr (sR (zr (sR (zr (zr (sR (sR (zr (zr (sR (sI (zr (sR (sR (zr (sR (zr (sR (zr (sR (zr (zr (sR (zr X 139) 0 2 (some 139)) 140) 141) 140 0 (some 141)) 142) 140 2 (some 142)) 143) 140 3 (some 143)) 144) 140 4 (some 144)) 0 3 (some 140)) 145) 145 1 (-1)) 0 4 (some 145)) 146) 147) 146 0 (some 147)) 0 5 (some 146)) 148) 149) 148 0 (some 149)) 150) 148 2 (some 150)) 151) 148 3 (some 151)) 0 6 (some 148)) 152) 152 5 (337)) 153) 152 6 (some 153)) 0 7 (some 152)) := by
    simp (disch := decide +kernel) only [r_X_init_26, r_X_init_26n, r_X_init_27, r_X_init_28, r_X_init_31, r_X_init_31n, r_X_init_34, r_X_init_34n, r_X_init_35, r_X_init_38, r_X_init_38i, r_X_init_39, r_X_init_42, r_X_init_42n, r_X_init_45, r_X_init_45n, r_X_init_46, r_X_init_49, r_X_init_49i, r_X_init_50, r_X_init_53, r_X_init_53n, r_X_init_56, r_X_init_56n, r_X_init_57, r_X_init_60, r_X_init_60i, r_X_init_61, r_X_init_64, r_X_init_64n, r_X_init_67, r_X_init_67n, r_X_init_68, r_X_init_71, r_X_init_71i, r_X_init_72, r_X_init_75, r_X_init_75n, r_X_init_78, r_X_init_78n, r_X_init_79, r_X_init_82, r_X_init_82i, r_X_init_83, r_X_init_86, r_X_init_86n, r_X_init_89, r_X_init_90, r_Tape_init_0, r_Tape_init_0n, r_Tape_init_1, r_Tape_init_4, r_Tape_init_4n, r_Tape_init_5, r_Tape_init_8, r_Tape_init_10, r_Tape_init_10n, r_Tape_init_13, r_Tape_init_13n, r_Tape_init_14, r_Tape_init_17, r_Tape_init_19, r_Tape_init_19n, r_Tape_init_22, r_Tape_init_22n, r_Tape_init_23, r_Tape_init_26, r_Tape_init_28, r_Tape_init_28n, r_Tape_init_31, r_Tape_init_31n, r_Tape_init_32, r_Tape_init_35, r_Tape_init_37, r_Tape_init_37n, r_Tape_init_40, r_Rd_init_0, r_Rd_init_0n, r_Rd_init_1, r_Rd_init_4, r_Rd_init_4n, r_Rd_init_5, r_Rd_init_6, r_Rd_init_9, r_Sc_init_0, r_Sc_init_0n, r_Sc_init_1, r_Sc_init_4, r_Sc_init_4n, r_Sc_init_5, r_Sc_init_8, r_Sc_init_10, r_Sc_init_10n, r_Sc_init_13, r_Dis_init_0, r_Dis_init_0n, r_Dis_init_1, r_Dis_init_4, r_Dis_init_4n, r_Dis_init_5, r_Dis_init_8, r_Dis_init_10, r_Dis_init_10n, r_Dis_init_13, r_Dis_init_13n, r_Dis_init_14, r_Dis_init_17, r_Dis_init_19, r_Dis_init_19n, r_Dis_init_22, r_Dis_init_22n, r_Dis_init_23, r_Dis_init_26, r_Dis_init_28, r_Dis_init_28n, r_Dis_init_31, e_Tape_init, e_Rd_init, e_Sc_init, e_Dis_init, if_pos, bnd, tl_n, tl_s, Nat.reduceAdd, i_mom]
  rw [st, r0, r1, r2, r3, r_X_init_91]
  unfold xiM
  simp (disch := decide +kernel) only [r_X_init_92, r_X_init_92n, r_X_init_93, r_X_init_96, r_X_init_97, r_X_init_100, r_X_init_100n, r_X_init_101, r_X_init_104, r_X_init_105, r_X_init_108, r_X_init_108i, r_X_init_109, r_X_init_112, r_X_init_113, r_X_init_116, r_X_init_119, if_pos, bnd, tl_n, tl_s, g3, vrf_s, l139]
theorem xi_D : D (fun k _ => k = 0 ∨ (139 ≤ k ∧ k < 174)) X (xiM X) := by
  unfold xiM
  refine D.sR ?_ (by omega)
  refine D.sR ?_ (by omega)
  refine D_zr ?_ (fun _ => by omega)
  refine D.sR ?_ (by omega)
  refine D_zr ?_ (fun _ => by omega)
  refine D.sR ?_ (by omega)
  refine D_zr ?_ (fun _ => by omega)
  refine D.sR ?_ (by omega)
  refine D_zr ?_ (fun _ => by omega)
  refine D_zr ?_ (fun _ => by omega)
  refine D.sR ?_ (by omega)
  refine D.sR ?_ (by omega)
  refine D_zr ?_ (fun _ => by omega)
  refine D.sR ?_ (by omega)
  refine D_zr ?_ (fun _ => by omega)
  refine D.sR ?_ (by omega)
  refine D_zr ?_ (fun _ => by omega)
  refine D.sR ?_ (by omega)
  refine D_zr ?_ (fun _ => by omega)
  refine D_zr ?_ (fun _ => by omega)
  refine D.sR ?_ (by omega)
  refine D.sR ?_ (by omega)
  refine D_zr ?_ (fun _ => by omega)
  refine D.sR ?_ (by omega)
  refine D_zr ?_ (fun _ => by omega)
  refine D.sR ?_ (by omega)
  refine D_zr ?_ (fun _ => by omega)
  refine D.sR ?_ (by omega)
  refine D_zr ?_ (fun _ => by omega)
  refine D_zr ?_ (fun _ => by omega)
  refine D.sR ?_ (by omega)
  refine D.sR ?_ (by omega)
  refine D_zr ?_ (fun _ => by omega)
  refine D.sR ?_ (by omega)
  refine D_zr ?_ (fun _ => by omega)
  refine D.sR ?_ (by omega)
  refine D_zr ?_ (fun _ => by omega)
  refine D.sR ?_ (by omega)
  refine D_zr ?_ (fun _ => by omega)
  refine D_zr ?_ (fun _ => by omega)
  refine D.sR ?_ (by omega)
  refine D.sR ?_ (by omega)
  refine D_zr ?_ (fun _ => by omega)
  refine D.sI ?_ (by omega)
  refine D_zr ?_ (fun _ => by omega)
  refine D.sR ?_ (by omega)
  refine D.sR ?_ (by omega)
  refine D_zr ?_ (fun _ => by omega)
  refine D.sR ?_ (by omega)
  refine D_zr ?_ (fun _ => by omega)
  refine D.sR ?_ (by omega)
  refine D_zr ?_ (fun _ => by omega)
  refine D_zr ?_ (fun _ => by omega)
  refine D.sR ?_ (by omega)
  refine D.sR ?_ (by omega)
  refine D_zr ?_ (fun _ => by omega)
  refine D_zr ?_ (fun _ => by omega)
  refine D.sR ?_ (by omega)
  refine D.sI ?_ (by omega)
  refine D_zr ?_ (fun _ => by omega)
  refine D.sR ?_ (by omega)
  refine D.sR ?_ (by omega)
  refine D_zr ?_ (fun _ => by omega)
  refine D.sR ?_ (by omega)
  refine D_zr ?_ (fun _ => by omega)
  refine D.sR ?_ (by omega)
  refine D_zr ?_ (fun _ => by omega)
  refine D.sR ?_ (by omega)
  refine D_zr ?_ (fun _ => by omega)
  refine D_zr ?_ (fun _ => by omega)
  refine D.sR ?_ (by omega)
  refine D_zr ?_ (fun _ => by omega)
  exact D.rfl'
theorem xi_l : Lz X (xiM X) := by
  unfold xiM
  refine lz_R ?_
  refine lz_R ?_
  refine lz_z ?_
  refine lz_R ?_
  refine lz_z ?_
  refine lz_R ?_
  refine lz_z ?_
  refine lz_R ?_
  refine lz_z ?_
  refine lz_z ?_
  refine lz_R ?_
  refine lz_R ?_
  refine lz_z ?_
  refine lz_R ?_
  refine lz_z ?_
  refine lz_R ?_
  refine lz_z ?_
  refine lz_R ?_
  refine lz_z ?_
  refine lz_z ?_
  refine lz_R ?_
  refine lz_R ?_
  refine lz_z ?_
  refine lz_R ?_
  refine lz_z ?_
  refine lz_R ?_
  refine lz_z ?_
  refine lz_R ?_
  refine lz_z ?_
  refine lz_z ?_
  refine lz_R ?_
  refine lz_R ?_
  refine lz_z ?_
  refine lz_R ?_
  refine lz_z ?_
  refine lz_R ?_
  refine lz_z ?_
  refine lz_R ?_
  refine lz_z ?_
  refine lz_z ?_
  refine lz_R ?_
  refine lz_R ?_
  refine lz_z ?_
  refine lz_I ?_
  refine lz_z ?_
  refine lz_R ?_
  refine lz_R ?_
  refine lz_z ?_
  refine lz_R ?_
  refine lz_z ?_
  refine lz_R ?_
  refine lz_z ?_
  refine lz_z ?_
  refine lz_R ?_
  refine lz_R ?_
  refine lz_z ?_
  refine lz_z ?_
  refine lz_R ?_
  refine lz_I ?_
  refine lz_z ?_
  refine lz_R ?_
  refine lz_R ?_
  refine lz_z ?_
  refine lz_R ?_
  refine lz_z ?_
  refine lz_R ?_
  refine lz_z ?_
  refine lz_R ?_
  refine lz_z ?_
  refine lz_z ?_
  refine lz_R ?_
  refine lz_z ?_
  exact Lz.rf
theorem xi_f : FI 139 174 (xiM X) := by
  unfold xiM
  intro k j h1 h2
  have hk : k = 139 ∨ k = 140 ∨ k = 141 ∨ k = 142 ∨ k = 143 ∨ k = 144 ∨ k = 145 ∨ k = 146 ∨ k = 147 ∨ k = 148 ∨ k = 149 ∨ k = 150 ∨ k = 151 ∨ k = 152 ∨ k = 153 ∨ k = 154 ∨ k = 155 ∨ k = 156 ∨ k = 157 ∨ k = 158 ∨ k = 159 ∨ k = 160 ∨ k = 161 ∨ k = 162 ∨ k = 163 ∨ k = 164 ∨ k = 165 ∨ k = 166 ∨ k = 167 ∨ k = 168 ∨ k = 169 ∨ k = 170 ∨ k = 171 ∨ k = 172 ∨ k = 173 := by omega
  rcases hk with rfl | rfl | rfl | rfl | rfl | rfl | rfl | rfl | rfl | rfl | rfl | rfl | rfl | rfl | rfl | rfl | rfl | rfl | rfl | rfl | rfl | rfl | rfl | rfl | rfl | rfl | rfl | rfl | rfl | rfl | rfl | rfl | rfl | rfl | rfl
  all_goals (unfold ini rxt; simp only [gI_sR0, gI_sI, gI_zr, gR_sR, gR_zr, gR_sI, Nat.reduceEqDiff, Nat.reduceLeDiff, Nat.reduceLT, Nat.reduceMod, false_and, true_and, and_true, and_false, or_false, false_or, or_true, true_or, if_true, if_false, Nat.reduceAdd, reduceCtorEq])
  all_goals (repeat' split)
  all_goals first | (exfalso; omega) | (refine ⟨rfl, fun a h => ?_⟩; first | exact h | (cases h; done)) | (intro a h; first | exact h | (cases h; done) | (injection h with h; rw [← h]; congr 1; omega)) | rfl
theorem xi_0 (h0 : gR X 0 0 = some 1) (h1 : gR X 0 1 = some 70) (hi : ∀ j, gI X 0 j = 0) : FI 0 1 (xiM X) := by
  unfold xiM
  intro k j h1' h2'
  have hk : k = 0 := by omega
  subst hk
  unfold ini rxt
  simp only [gI_sR0, gI_sI, gI_zr, gR_sR, gR_zr, gR_sI, Nat.reduceEqDiff, Nat.reduceLeDiff, Nat.reduceLT, Nat.reduceMod, false_and, true_and, and_true, and_false, or_false, false_or, or_true, true_or, if_true, if_false, Nat.reduceAdd, reduceCtorEq, hi]
  intro a ha
  by_cases e0 : j = 0
  · subst e0; simp only [Nat.reduceEqDiff, if_true, if_false] at ha ⊢; rw [h0]; exact ha
  · by_cases e1 : j = 1
    · subst e1; simp only [Nat.reduceEqDiff, if_true, if_false] at ha ⊢; rw [h1]; exact ha
    · rw [if_neg e0, if_neg e1] at ha
      revert ha
      repeat' split
      all_goals (intro ha; first | exact ha | (exfalso; omega) | (cases ha; done))
theorem xi_all : ∃ M', ev (d + 3) m_X_init [.ref 0] 1 (zr M 0) = some (none, 174, M') ∧ D (fun k _ => k < 174) M M' ∧ FI 0 174 M' ∧ Lz M M' := by
  obtain ⟨M1, r1, d1, f1, l1⟩ := si_1 (d := d) (M := zr M 0)
  obtain ⟨M2, r2, d2, f2, l2⟩ := si_70 (d := d) (M := sR M1 0 0 (some 1))
  have hs1 : D (fun k _ => k = 0) M1 (sR M1 0 0 (some 1)) := D.rfl'.sR rfl
  have hs2 : D (fun k _ => k = 0) M2 (sR M2 0 1 (some 70)) := D.rfl'.sR rfl
  have hx := xi_D (X := sR M2 0 1 (some 70))
  have g0 : gR (sR M2 0 1 (some 70)) 0 0 = some 1 := by rw [gR_sR_nj (by decide), d2.r (by omega), gR_sR_eq]
  have gi : ∀ j, gI (sR M2 0 1 (some 70)) 0 j = 0 := fun j => by
    show gI M2 0 j = 0
    rw [d2.i (by omega)]
    show gI M1 0 j = 0
    rw [d1.i (by omega), gI_zr, if_pos rfl]
  refine ⟨xiM (sR M2 0 1 (some 70)), ?_, ?_, (xi_0 g0 gR_sR_eq gi).app ((((f1.mv hs1 (fun k j z => by omega)).mv d2 (fun k j z => by omega)).mv hs2 (fun k j z => by omega)).mv hx (fun k j z => by omega) |>.app (((f2.mv hs2 (fun k j z => by omega)).mv hx (fun k j z => by omega)).app xi_f)), (((lz_z Lz.rf).tr l1).tr (lz_R Lz.rf)).tr (l2.tr ((lz_R Lz.rf).tr xi_l))⟩
  · rw [← xi_run (d := d), e_X_init]
    simp (disch := decide +kernel) only [r_X_init_0, r_X_init_0n, r_X_init_1, r_X_init_4, r_X_init_4n, r_X_init_5, r_X_init_8, r_X_init_8i, r_X_init_9, r_X_init_12, r_X_init_12n, r_X_init_15, r_X_init_15n, r_X_init_16, r_X_init_19, r_X_init_19i, r_X_init_20, r_X_init_23, r_X_init_23n, if_pos, bnd, tl_n, tl_s, Nat.reduceAdd, r1, r2]
  · exact ((((D_zr D.rfl' (fun _ => by omega)).trans (d1.mono (fun k j z => by omega))).sR (by omega)).trans (d2.mono (fun k j z => by omega))).sR (by omega) |>.trans (hx.mono (fun k j z => by omega))
end XIN
