/-! Cells and classes, by program (wip/whole/gen/glib.py) -/
section CELLS
variable {M : Mem} {i : Int32}
theorem oF_0 : okF NX 0 0 = true := by decide +kernel
theorem oO_0 : okO NX 0 0 = true := by decide +kernel
theorem oW_0 : okW NX 0 = true := by decide +kernel
theorem oF_1 : okF NX 1 1 = true := by decide +kernel
theorem oO_1 : okO NX 1 1 = true := by decide +kernel
theorem oW_1 : okW NX 1 = true := by decide +kernel
theorem oA_2 : okA M NX 2 100 i = inb i 8 := by unfold okA lenOf; rw [show (live NX 2 && (sh 2).1 == 100) = true by decide +kernel, Bool.true_and, if_neg (by decide), show (sh 2).2 = 8 by decide +kernel]
theorem oS_2 : okS M NX 2 100 i = inb i 8 := by unfold okS; rw [oA_2, show okW NX 2 = true by decide +kernel, Bool.true_and]
theorem oL_2 : (live NX 2 && decide (100 ≤ (sh 2).1)) = true := by decide +kernel
theorem oN_2 : lenOf M 2 = 8 := by unfold lenOf; rw [if_neg (by decide)]; decide +kernel
theorem oW_2 : okW NX 2 = true := by decide +kernel
theorem oA_3 : okA M NX 3 100 i = inb i 8 := by unfold okA lenOf; rw [show (live NX 3 && (sh 3).1 == 100) = true by decide +kernel, Bool.true_and, if_neg (by decide), show (sh 3).2 = 8 by decide +kernel]
theorem oS_3 : okS M NX 3 100 i = inb i 8 := by unfold okS; rw [oA_3, show okW NX 3 = true by decide +kernel, Bool.true_and]
theorem oL_3 : (live NX 3 && decide (100 ≤ (sh 3).1)) = true := by decide +kernel
theorem oN_3 : lenOf M 3 = 8 := by unfold lenOf; rw [if_neg (by decide)]; decide +kernel
theorem oW_3 : okW NX 3 = true := by decide +kernel
theorem oF_4 : okF NX 4 2 = true := by decide +kernel
theorem oO_4 : okO NX 4 2 = true := by decide +kernel
theorem oW_4 : okW NX 4 = true := by decide +kernel
theorem oA_5 : okA M NX 5 100 i = inb i 30 := by unfold okA lenOf; rw [show (live NX 5 && (sh 5).1 == 100) = true by decide +kernel, Bool.true_and, if_neg (by decide), show (sh 5).2 = 30 by decide +kernel]
theorem oS_5 : okS M NX 5 100 i = inb i 30 := by unfold okS; rw [oA_5, show okW NX 5 = true by decide +kernel, Bool.true_and]
theorem oL_5 : (live NX 5 && decide (100 ≤ (sh 5).1)) = true := by decide +kernel
theorem oN_5 : lenOf M 5 = 30 := by unfold lenOf; rw [if_neg (by decide)]; decide +kernel
theorem oW_5 : okW NX 5 = true := by decide +kernel
theorem oA_6 : okA M NX 6 104 i = inb i 30 := by unfold okA lenOf; rw [show (live NX 6 && (sh 6).1 == 104) = true by decide +kernel, Bool.true_and, if_neg (by decide), show (sh 6).2 = 30 by decide +kernel]
theorem oS_6 : okS M NX 6 104 i = inb i 30 := by unfold okS; rw [oA_6, show okW NX 6 = true by decide +kernel, Bool.true_and]
theorem oL_6 : (live NX 6 && decide (100 ≤ (sh 6).1)) = true := by decide +kernel
theorem oN_6 : lenOf M 6 = 30 := by unfold lenOf; rw [if_neg (by decide)]; decide +kernel
theorem oW_6 : okW NX 6 = true := by decide +kernel
theorem oA_7 : okA M NX 7 100 i = inb i 7 := by unfold okA lenOf; rw [show (live NX 7 && (sh 7).1 == 100) = true by decide +kernel, Bool.true_and, if_neg (by decide), show (sh 7).2 = 7 by decide +kernel]
theorem oS_7 : okS M NX 7 100 i = inb i 7 := by unfold okS; rw [oA_7, show okW NX 7 = true by decide +kernel, Bool.true_and]
theorem oL_7 : (live NX 7 && decide (100 ≤ (sh 7).1)) = true := by decide +kernel
theorem oN_7 : lenOf M 7 = 7 := by unfold lenOf; rw [if_neg (by decide)]; decide +kernel
theorem oW_7 : okW NX 7 = true := by decide +kernel
theorem oA_8 : okA M NX 8 100 i = inb i 8 := by unfold okA lenOf; rw [show (live NX 8 && (sh 8).1 == 100) = true by decide +kernel, Bool.true_and, if_neg (by decide), show (sh 8).2 = 8 by decide +kernel]
theorem oS_8 : okS M NX 8 100 i = inb i 8 := by unfold okS; rw [oA_8, show okW NX 8 = true by decide +kernel, Bool.true_and]
theorem oL_8 : (live NX 8 && decide (100 ≤ (sh 8).1)) = true := by decide +kernel
theorem oN_8 : lenOf M 8 = 8 := by unfold lenOf; rw [if_neg (by decide)]; decide +kernel
theorem oW_8 : okW NX 8 = true := by decide +kernel
theorem oA_9 : okA M NX 9 100 i = inb i 8 := by unfold okA lenOf; rw [show (live NX 9 && (sh 9).1 == 100) = true by decide +kernel, Bool.true_and, if_neg (by decide), show (sh 9).2 = 8 by decide +kernel]
theorem oS_9 : okS M NX 9 100 i = inb i 8 := by unfold okS; rw [oA_9, show okW NX 9 = true by decide +kernel, Bool.true_and]
theorem oL_9 : (live NX 9 && decide (100 ≤ (sh 9).1)) = true := by decide +kernel
theorem oN_9 : lenOf M 9 = 8 := by unfold lenOf; rw [if_neg (by decide)]; decide +kernel
theorem oW_9 : okW NX 9 = true := by decide +kernel
theorem oF_10 : okF NX 10 2 = true := by decide +kernel
theorem oO_10 : okO NX 10 2 = true := by decide +kernel
theorem oW_10 : okW NX 10 = true := by decide +kernel
theorem oA_11 : okA M NX 11 100 i = inb i 30 := by unfold okA lenOf; rw [show (live NX 11 && (sh 11).1 == 100) = true by decide +kernel, Bool.true_and, if_neg (by decide), show (sh 11).2 = 30 by decide +kernel]
theorem oS_11 : okS M NX 11 100 i = inb i 30 := by unfold okS; rw [oA_11, show okW NX 11 = true by decide +kernel, Bool.true_and]
theorem oL_11 : (live NX 11 && decide (100 ≤ (sh 11).1)) = true := by decide +kernel
theorem oN_11 : lenOf M 11 = 30 := by unfold lenOf; rw [if_neg (by decide)]; decide +kernel
theorem oW_11 : okW NX 11 = true := by decide +kernel
theorem oF_12 : okF NX 12 2 = true := by decide +kernel
theorem oO_12 : okO NX 12 2 = true := by decide +kernel
theorem oW_12 : okW NX 12 = true := by decide +kernel
theorem oA_13 : okA M NX 13 100 i = inb i 30 := by unfold okA lenOf; rw [show (live NX 13 && (sh 13).1 == 100) = true by decide +kernel, Bool.true_and, if_neg (by decide), show (sh 13).2 = 30 by decide +kernel]
theorem oS_13 : okS M NX 13 100 i = inb i 30 := by unfold okS; rw [oA_13, show okW NX 13 = true by decide +kernel, Bool.true_and]
theorem oL_13 : (live NX 13 && decide (100 ≤ (sh 13).1)) = true := by decide +kernel
theorem oN_13 : lenOf M 13 = 30 := by unfold lenOf; rw [if_neg (by decide)]; decide +kernel
theorem oW_13 : okW NX 13 = true := by decide +kernel
theorem oF_14 : okF NX 14 2 = true := by decide +kernel
theorem oO_14 : okO NX 14 2 = true := by decide +kernel
theorem oW_14 : okW NX 14 = true := by decide +kernel
theorem oA_15 : okA M NX 15 100 i = inb i 30 := by unfold okA lenOf; rw [show (live NX 15 && (sh 15).1 == 100) = true by decide +kernel, Bool.true_and, if_neg (by decide), show (sh 15).2 = 30 by decide +kernel]
theorem oS_15 : okS M NX 15 100 i = inb i 30 := by unfold okS; rw [oA_15, show okW NX 15 = true by decide +kernel, Bool.true_and]
theorem oL_15 : (live NX 15 && decide (100 ≤ (sh 15).1)) = true := by decide +kernel
theorem oN_15 : lenOf M 15 = 30 := by unfold lenOf; rw [if_neg (by decide)]; decide +kernel
theorem oW_15 : okW NX 15 = true := by decide +kernel
theorem oF_16 : okF NX 16 2 = true := by decide +kernel
theorem oO_16 : okO NX 16 2 = true := by decide +kernel
theorem oW_16 : okW NX 16 = true := by decide +kernel
theorem oA_17 : okA M NX 17 100 i = inb i 30 := by unfold okA lenOf; rw [show (live NX 17 && (sh 17).1 == 100) = true by decide +kernel, Bool.true_and, if_neg (by decide), show (sh 17).2 = 30 by decide +kernel]
theorem oS_17 : okS M NX 17 100 i = inb i 30 := by unfold okS; rw [oA_17, show okW NX 17 = true by decide +kernel, Bool.true_and]
theorem oL_17 : (live NX 17 && decide (100 ≤ (sh 17).1)) = true := by decide +kernel
theorem oN_17 : lenOf M 17 = 30 := by unfold lenOf; rw [if_neg (by decide)]; decide +kernel
theorem oW_17 : okW NX 17 = true := by decide +kernel
theorem oF_18 : okF NX 18 2 = true := by decide +kernel
theorem oO_18 : okO NX 18 2 = true := by decide +kernel
theorem oW_18 : okW NX 18 = true := by decide +kernel
theorem oA_19 : okA M NX 19 100 i = inb i 30 := by unfold okA lenOf; rw [show (live NX 19 && (sh 19).1 == 100) = true by decide +kernel, Bool.true_and, if_neg (by decide), show (sh 19).2 = 30 by decide +kernel]
theorem oS_19 : okS M NX 19 100 i = inb i 30 := by unfold okS; rw [oA_19, show okW NX 19 = true by decide +kernel, Bool.true_and]
theorem oL_19 : (live NX 19 && decide (100 ≤ (sh 19).1)) = true := by decide +kernel
theorem oN_19 : lenOf M 19 = 30 := by unfold lenOf; rw [if_neg (by decide)]; decide +kernel
theorem oW_19 : okW NX 19 = true := by decide +kernel
theorem oF_20 : okF NX 20 2 = true := by decide +kernel
theorem oO_20 : okO NX 20 2 = true := by decide +kernel
theorem oW_20 : okW NX 20 = true := by decide +kernel
theorem oA_21 : okA M NX 21 100 i = inb i 30 := by unfold okA lenOf; rw [show (live NX 21 && (sh 21).1 == 100) = true by decide +kernel, Bool.true_and, if_neg (by decide), show (sh 21).2 = 30 by decide +kernel]
theorem oS_21 : okS M NX 21 100 i = inb i 30 := by unfold okS; rw [oA_21, show okW NX 21 = true by decide +kernel, Bool.true_and]
theorem oL_21 : (live NX 21 && decide (100 ≤ (sh 21).1)) = true := by decide +kernel
theorem oN_21 : lenOf M 21 = 30 := by unfold lenOf; rw [if_neg (by decide)]; decide +kernel
theorem oW_21 : okW NX 21 = true := by decide +kernel
theorem oF_22 : okF NX 22 2 = true := by decide +kernel
theorem oO_22 : okO NX 22 2 = true := by decide +kernel
theorem oW_22 : okW NX 22 = true := by decide +kernel
theorem oA_23 : okA M NX 23 100 i = inb i 30 := by unfold okA lenOf; rw [show (live NX 23 && (sh 23).1 == 100) = true by decide +kernel, Bool.true_and, if_neg (by decide), show (sh 23).2 = 30 by decide +kernel]
theorem oS_23 : okS M NX 23 100 i = inb i 30 := by unfold okS; rw [oA_23, show okW NX 23 = true by decide +kernel, Bool.true_and]
theorem oL_23 : (live NX 23 && decide (100 ≤ (sh 23).1)) = true := by decide +kernel
theorem oN_23 : lenOf M 23 = 30 := by unfold lenOf; rw [if_neg (by decide)]; decide +kernel
theorem oW_23 : okW NX 23 = true := by decide +kernel
theorem oF_24 : okF NX 24 2 = true := by decide +kernel
theorem oO_24 : okO NX 24 2 = true := by decide +kernel
theorem oW_24 : okW NX 24 = true := by decide +kernel
theorem oA_25 : okA M NX 25 100 i = inb i 30 := by unfold okA lenOf; rw [show (live NX 25 && (sh 25).1 == 100) = true by decide +kernel, Bool.true_and, if_neg (by decide), show (sh 25).2 = 30 by decide +kernel]
theorem oS_25 : okS M NX 25 100 i = inb i 30 := by unfold okS; rw [oA_25, show okW NX 25 = true by decide +kernel, Bool.true_and]
theorem oL_25 : (live NX 25 && decide (100 ≤ (sh 25).1)) = true := by decide +kernel
theorem oN_25 : lenOf M 25 = 30 := by unfold lenOf; rw [if_neg (by decide)]; decide +kernel
theorem oW_25 : okW NX 25 = true := by decide +kernel
theorem oF_26 : okF NX 26 2 = true := by decide +kernel
theorem oO_26 : okO NX 26 2 = true := by decide +kernel
theorem oW_26 : okW NX 26 = true := by decide +kernel
theorem oA_27 : okA M NX 27 100 i = inb i 30 := by unfold okA lenOf; rw [show (live NX 27 && (sh 27).1 == 100) = true by decide +kernel, Bool.true_and, if_neg (by decide), show (sh 27).2 = 30 by decide +kernel]
theorem oS_27 : okS M NX 27 100 i = inb i 30 := by unfold okS; rw [oA_27, show okW NX 27 = true by decide +kernel, Bool.true_and]
theorem oL_27 : (live NX 27 && decide (100 ≤ (sh 27).1)) = true := by decide +kernel
theorem oN_27 : lenOf M 27 = 30 := by unfold lenOf; rw [if_neg (by decide)]; decide +kernel
theorem oW_27 : okW NX 27 = true := by decide +kernel
theorem oF_28 : okF NX 28 2 = true := by decide +kernel
theorem oO_28 : okO NX 28 2 = true := by decide +kernel
theorem oW_28 : okW NX 28 = true := by decide +kernel
theorem oA_29 : okA M NX 29 100 i = inb i 30 := by unfold okA lenOf; rw [show (live NX 29 && (sh 29).1 == 100) = true by decide +kernel, Bool.true_and, if_neg (by decide), show (sh 29).2 = 30 by decide +kernel]
theorem oS_29 : okS M NX 29 100 i = inb i 30 := by unfold okS; rw [oA_29, show okW NX 29 = true by decide +kernel, Bool.true_and]
theorem oL_29 : (live NX 29 && decide (100 ≤ (sh 29).1)) = true := by decide +kernel
theorem oN_29 : lenOf M 29 = 30 := by unfold lenOf; rw [if_neg (by decide)]; decide +kernel
theorem oW_29 : okW NX 29 = true := by decide +kernel
theorem oF_30 : okF NX 30 2 = true := by decide +kernel
theorem oO_30 : okO NX 30 2 = true := by decide +kernel
theorem oW_30 : okW NX 30 = true := by decide +kernel
theorem oA_31 : okA M NX 31 100 i = inb i 30 := by unfold okA lenOf; rw [show (live NX 31 && (sh 31).1 == 100) = true by decide +kernel, Bool.true_and, if_neg (by decide), show (sh 31).2 = 30 by decide +kernel]
theorem oS_31 : okS M NX 31 100 i = inb i 30 := by unfold okS; rw [oA_31, show okW NX 31 = true by decide +kernel, Bool.true_and]
theorem oL_31 : (live NX 31 && decide (100 ≤ (sh 31).1)) = true := by decide +kernel
theorem oN_31 : lenOf M 31 = 30 := by unfold lenOf; rw [if_neg (by decide)]; decide +kernel
theorem oW_31 : okW NX 31 = true := by decide +kernel
theorem oF_32 : okF NX 32 2 = true := by decide +kernel
theorem oO_32 : okO NX 32 2 = true := by decide +kernel
theorem oW_32 : okW NX 32 = true := by decide +kernel
theorem oA_33 : okA M NX 33 100 i = inb i 30 := by unfold okA lenOf; rw [show (live NX 33 && (sh 33).1 == 100) = true by decide +kernel, Bool.true_and, if_neg (by decide), show (sh 33).2 = 30 by decide +kernel]
theorem oS_33 : okS M NX 33 100 i = inb i 30 := by unfold okS; rw [oA_33, show okW NX 33 = true by decide +kernel, Bool.true_and]
theorem oL_33 : (live NX 33 && decide (100 ≤ (sh 33).1)) = true := by decide +kernel
theorem oN_33 : lenOf M 33 = 30 := by unfold lenOf; rw [if_neg (by decide)]; decide +kernel
theorem oW_33 : okW NX 33 = true := by decide +kernel
theorem oF_34 : okF NX 34 2 = true := by decide +kernel
theorem oO_34 : okO NX 34 2 = true := by decide +kernel
theorem oW_34 : okW NX 34 = true := by decide +kernel
theorem oA_35 : okA M NX 35 100 i = inb i 30 := by unfold okA lenOf; rw [show (live NX 35 && (sh 35).1 == 100) = true by decide +kernel, Bool.true_and, if_neg (by decide), show (sh 35).2 = 30 by decide +kernel]
theorem oS_35 : okS M NX 35 100 i = inb i 30 := by unfold okS; rw [oA_35, show okW NX 35 = true by decide +kernel, Bool.true_and]
theorem oL_35 : (live NX 35 && decide (100 ≤ (sh 35).1)) = true := by decide +kernel
theorem oN_35 : lenOf M 35 = 30 := by unfold lenOf; rw [if_neg (by decide)]; decide +kernel
theorem oW_35 : okW NX 35 = true := by decide +kernel
theorem oF_36 : okF NX 36 2 = true := by decide +kernel
theorem oO_36 : okO NX 36 2 = true := by decide +kernel
theorem oW_36 : okW NX 36 = true := by decide +kernel
theorem oA_37 : okA M NX 37 100 i = inb i 30 := by unfold okA lenOf; rw [show (live NX 37 && (sh 37).1 == 100) = true by decide +kernel, Bool.true_and, if_neg (by decide), show (sh 37).2 = 30 by decide +kernel]
theorem oS_37 : okS M NX 37 100 i = inb i 30 := by unfold okS; rw [oA_37, show okW NX 37 = true by decide +kernel, Bool.true_and]
theorem oL_37 : (live NX 37 && decide (100 ≤ (sh 37).1)) = true := by decide +kernel
theorem oN_37 : lenOf M 37 = 30 := by unfold lenOf; rw [if_neg (by decide)]; decide +kernel
theorem oW_37 : okW NX 37 = true := by decide +kernel
theorem oF_38 : okF NX 38 2 = true := by decide +kernel
theorem oO_38 : okO NX 38 2 = true := by decide +kernel
theorem oW_38 : okW NX 38 = true := by decide +kernel
theorem oA_39 : okA M NX 39 100 i = inb i 30 := by unfold okA lenOf; rw [show (live NX 39 && (sh 39).1 == 100) = true by decide +kernel, Bool.true_and, if_neg (by decide), show (sh 39).2 = 30 by decide +kernel]
theorem oS_39 : okS M NX 39 100 i = inb i 30 := by unfold okS; rw [oA_39, show okW NX 39 = true by decide +kernel, Bool.true_and]
theorem oL_39 : (live NX 39 && decide (100 ≤ (sh 39).1)) = true := by decide +kernel
theorem oN_39 : lenOf M 39 = 30 := by unfold lenOf; rw [if_neg (by decide)]; decide +kernel
theorem oW_39 : okW NX 39 = true := by decide +kernel
theorem oF_40 : okF NX 40 2 = true := by decide +kernel
theorem oO_40 : okO NX 40 2 = true := by decide +kernel
theorem oW_40 : okW NX 40 = true := by decide +kernel
theorem oA_41 : okA M NX 41 100 i = inb i 30 := by unfold okA lenOf; rw [show (live NX 41 && (sh 41).1 == 100) = true by decide +kernel, Bool.true_and, if_neg (by decide), show (sh 41).2 = 30 by decide +kernel]
theorem oS_41 : okS M NX 41 100 i = inb i 30 := by unfold okS; rw [oA_41, show okW NX 41 = true by decide +kernel, Bool.true_and]
theorem oL_41 : (live NX 41 && decide (100 ≤ (sh 41).1)) = true := by decide +kernel
theorem oN_41 : lenOf M 41 = 30 := by unfold lenOf; rw [if_neg (by decide)]; decide +kernel
theorem oW_41 : okW NX 41 = true := by decide +kernel
theorem oF_42 : okF NX 42 2 = true := by decide +kernel
theorem oO_42 : okO NX 42 2 = true := by decide +kernel
theorem oW_42 : okW NX 42 = true := by decide +kernel
theorem oA_43 : okA M NX 43 100 i = inb i 30 := by unfold okA lenOf; rw [show (live NX 43 && (sh 43).1 == 100) = true by decide +kernel, Bool.true_and, if_neg (by decide), show (sh 43).2 = 30 by decide +kernel]
theorem oS_43 : okS M NX 43 100 i = inb i 30 := by unfold okS; rw [oA_43, show okW NX 43 = true by decide +kernel, Bool.true_and]
theorem oL_43 : (live NX 43 && decide (100 ≤ (sh 43).1)) = true := by decide +kernel
theorem oN_43 : lenOf M 43 = 30 := by unfold lenOf; rw [if_neg (by decide)]; decide +kernel
theorem oW_43 : okW NX 43 = true := by decide +kernel
theorem oF_44 : okF NX 44 2 = true := by decide +kernel
theorem oO_44 : okO NX 44 2 = true := by decide +kernel
theorem oW_44 : okW NX 44 = true := by decide +kernel
theorem oA_45 : okA M NX 45 100 i = inb i 30 := by unfold okA lenOf; rw [show (live NX 45 && (sh 45).1 == 100) = true by decide +kernel, Bool.true_and, if_neg (by decide), show (sh 45).2 = 30 by decide +kernel]
theorem oS_45 : okS M NX 45 100 i = inb i 30 := by unfold okS; rw [oA_45, show okW NX 45 = true by decide +kernel, Bool.true_and]
theorem oL_45 : (live NX 45 && decide (100 ≤ (sh 45).1)) = true := by decide +kernel
theorem oN_45 : lenOf M 45 = 30 := by unfold lenOf; rw [if_neg (by decide)]; decide +kernel
theorem oW_45 : okW NX 45 = true := by decide +kernel
theorem oF_46 : okF NX 46 2 = true := by decide +kernel
theorem oO_46 : okO NX 46 2 = true := by decide +kernel
theorem oW_46 : okW NX 46 = true := by decide +kernel
theorem oA_47 : okA M NX 47 100 i = inb i 30 := by unfold okA lenOf; rw [show (live NX 47 && (sh 47).1 == 100) = true by decide +kernel, Bool.true_and, if_neg (by decide), show (sh 47).2 = 30 by decide +kernel]
theorem oS_47 : okS M NX 47 100 i = inb i 30 := by unfold okS; rw [oA_47, show okW NX 47 = true by decide +kernel, Bool.true_and]
theorem oL_47 : (live NX 47 && decide (100 ≤ (sh 47).1)) = true := by decide +kernel
theorem oN_47 : lenOf M 47 = 30 := by unfold lenOf; rw [if_neg (by decide)]; decide +kernel
theorem oW_47 : okW NX 47 = true := by decide +kernel
theorem oF_48 : okF NX 48 2 = true := by decide +kernel
theorem oO_48 : okO NX 48 2 = true := by decide +kernel
theorem oW_48 : okW NX 48 = true := by decide +kernel
theorem oA_49 : okA M NX 49 100 i = inb i 30 := by unfold okA lenOf; rw [show (live NX 49 && (sh 49).1 == 100) = true by decide +kernel, Bool.true_and, if_neg (by decide), show (sh 49).2 = 30 by decide +kernel]
theorem oS_49 : okS M NX 49 100 i = inb i 30 := by unfold okS; rw [oA_49, show okW NX 49 = true by decide +kernel, Bool.true_and]
theorem oL_49 : (live NX 49 && decide (100 ≤ (sh 49).1)) = true := by decide +kernel
theorem oN_49 : lenOf M 49 = 30 := by unfold lenOf; rw [if_neg (by decide)]; decide +kernel
theorem oW_49 : okW NX 49 = true := by decide +kernel
theorem oF_50 : okF NX 50 2 = true := by decide +kernel
theorem oO_50 : okO NX 50 2 = true := by decide +kernel
theorem oW_50 : okW NX 50 = true := by decide +kernel
theorem oA_51 : okA M NX 51 100 i = inb i 30 := by unfold okA lenOf; rw [show (live NX 51 && (sh 51).1 == 100) = true by decide +kernel, Bool.true_and, if_neg (by decide), show (sh 51).2 = 30 by decide +kernel]
theorem oS_51 : okS M NX 51 100 i = inb i 30 := by unfold okS; rw [oA_51, show okW NX 51 = true by decide +kernel, Bool.true_and]
theorem oL_51 : (live NX 51 && decide (100 ≤ (sh 51).1)) = true := by decide +kernel
theorem oN_51 : lenOf M 51 = 30 := by unfold lenOf; rw [if_neg (by decide)]; decide +kernel
theorem oW_51 : okW NX 51 = true := by decide +kernel
theorem oF_52 : okF NX 52 2 = true := by decide +kernel
theorem oO_52 : okO NX 52 2 = true := by decide +kernel
theorem oW_52 : okW NX 52 = true := by decide +kernel
theorem oA_53 : okA M NX 53 100 i = inb i 30 := by unfold okA lenOf; rw [show (live NX 53 && (sh 53).1 == 100) = true by decide +kernel, Bool.true_and, if_neg (by decide), show (sh 53).2 = 30 by decide +kernel]
theorem oS_53 : okS M NX 53 100 i = inb i 30 := by unfold okS; rw [oA_53, show okW NX 53 = true by decide +kernel, Bool.true_and]
theorem oL_53 : (live NX 53 && decide (100 ≤ (sh 53).1)) = true := by decide +kernel
theorem oN_53 : lenOf M 53 = 30 := by unfold lenOf; rw [if_neg (by decide)]; decide +kernel
theorem oW_53 : okW NX 53 = true := by decide +kernel
theorem oF_54 : okF NX 54 2 = true := by decide +kernel
theorem oO_54 : okO NX 54 2 = true := by decide +kernel
theorem oW_54 : okW NX 54 = true := by decide +kernel
theorem oA_55 : okA M NX 55 100 i = inb i 30 := by unfold okA lenOf; rw [show (live NX 55 && (sh 55).1 == 100) = true by decide +kernel, Bool.true_and, if_neg (by decide), show (sh 55).2 = 30 by decide +kernel]
theorem oS_55 : okS M NX 55 100 i = inb i 30 := by unfold okS; rw [oA_55, show okW NX 55 = true by decide +kernel, Bool.true_and]
theorem oL_55 : (live NX 55 && decide (100 ≤ (sh 55).1)) = true := by decide +kernel
theorem oN_55 : lenOf M 55 = 30 := by unfold lenOf; rw [if_neg (by decide)]; decide +kernel
theorem oW_55 : okW NX 55 = true := by decide +kernel
theorem oF_56 : okF NX 56 2 = true := by decide +kernel
theorem oO_56 : okO NX 56 2 = true := by decide +kernel
theorem oW_56 : okW NX 56 = true := by decide +kernel
theorem oA_57 : okA M NX 57 100 i = inb i 30 := by unfold okA lenOf; rw [show (live NX 57 && (sh 57).1 == 100) = true by decide +kernel, Bool.true_and, if_neg (by decide), show (sh 57).2 = 30 by decide +kernel]
theorem oS_57 : okS M NX 57 100 i = inb i 30 := by unfold okS; rw [oA_57, show okW NX 57 = true by decide +kernel, Bool.true_and]
theorem oL_57 : (live NX 57 && decide (100 ≤ (sh 57).1)) = true := by decide +kernel
theorem oN_57 : lenOf M 57 = 30 := by unfold lenOf; rw [if_neg (by decide)]; decide +kernel
theorem oW_57 : okW NX 57 = true := by decide +kernel
theorem oF_58 : okF NX 58 2 = true := by decide +kernel
theorem oO_58 : okO NX 58 2 = true := by decide +kernel
theorem oW_58 : okW NX 58 = true := by decide +kernel
theorem oA_59 : okA M NX 59 100 i = inb i 30 := by unfold okA lenOf; rw [show (live NX 59 && (sh 59).1 == 100) = true by decide +kernel, Bool.true_and, if_neg (by decide), show (sh 59).2 = 30 by decide +kernel]
theorem oS_59 : okS M NX 59 100 i = inb i 30 := by unfold okS; rw [oA_59, show okW NX 59 = true by decide +kernel, Bool.true_and]
theorem oL_59 : (live NX 59 && decide (100 ≤ (sh 59).1)) = true := by decide +kernel
theorem oN_59 : lenOf M 59 = 30 := by unfold lenOf; rw [if_neg (by decide)]; decide +kernel
theorem oW_59 : okW NX 59 = true := by decide +kernel
theorem oF_60 : okF NX 60 2 = true := by decide +kernel
theorem oO_60 : okO NX 60 2 = true := by decide +kernel
theorem oW_60 : okW NX 60 = true := by decide +kernel
theorem oA_61 : okA M NX 61 100 i = inb i 30 := by unfold okA lenOf; rw [show (live NX 61 && (sh 61).1 == 100) = true by decide +kernel, Bool.true_and, if_neg (by decide), show (sh 61).2 = 30 by decide +kernel]
theorem oS_61 : okS M NX 61 100 i = inb i 30 := by unfold okS; rw [oA_61, show okW NX 61 = true by decide +kernel, Bool.true_and]
theorem oL_61 : (live NX 61 && decide (100 ≤ (sh 61).1)) = true := by decide +kernel
theorem oN_61 : lenOf M 61 = 30 := by unfold lenOf; rw [if_neg (by decide)]; decide +kernel
theorem oW_61 : okW NX 61 = true := by decide +kernel
theorem oF_62 : okF NX 62 2 = true := by decide +kernel
theorem oO_62 : okO NX 62 2 = true := by decide +kernel
theorem oW_62 : okW NX 62 = true := by decide +kernel
theorem oA_63 : okA M NX 63 100 i = inb i 30 := by unfold okA lenOf; rw [show (live NX 63 && (sh 63).1 == 100) = true by decide +kernel, Bool.true_and, if_neg (by decide), show (sh 63).2 = 30 by decide +kernel]
theorem oS_63 : okS M NX 63 100 i = inb i 30 := by unfold okS; rw [oA_63, show okW NX 63 = true by decide +kernel, Bool.true_and]
theorem oL_63 : (live NX 63 && decide (100 ≤ (sh 63).1)) = true := by decide +kernel
theorem oN_63 : lenOf M 63 = 30 := by unfold lenOf; rw [if_neg (by decide)]; decide +kernel
theorem oW_63 : okW NX 63 = true := by decide +kernel
theorem oF_64 : okF NX 64 2 = true := by decide +kernel
theorem oO_64 : okO NX 64 2 = true := by decide +kernel
theorem oW_64 : okW NX 64 = true := by decide +kernel
theorem oA_65 : okA M NX 65 100 i = inb i 30 := by unfold okA lenOf; rw [show (live NX 65 && (sh 65).1 == 100) = true by decide +kernel, Bool.true_and, if_neg (by decide), show (sh 65).2 = 30 by decide +kernel]
theorem oS_65 : okS M NX 65 100 i = inb i 30 := by unfold okS; rw [oA_65, show okW NX 65 = true by decide +kernel, Bool.true_and]
theorem oL_65 : (live NX 65 && decide (100 ≤ (sh 65).1)) = true := by decide +kernel
theorem oN_65 : lenOf M 65 = 30 := by unfold lenOf; rw [if_neg (by decide)]; decide +kernel
theorem oW_65 : okW NX 65 = true := by decide +kernel
theorem oF_66 : okF NX 66 2 = true := by decide +kernel
theorem oO_66 : okO NX 66 2 = true := by decide +kernel
theorem oW_66 : okW NX 66 = true := by decide +kernel
theorem oA_67 : okA M NX 67 100 i = inb i 30 := by unfold okA lenOf; rw [show (live NX 67 && (sh 67).1 == 100) = true by decide +kernel, Bool.true_and, if_neg (by decide), show (sh 67).2 = 30 by decide +kernel]
theorem oS_67 : okS M NX 67 100 i = inb i 30 := by unfold okS; rw [oA_67, show okW NX 67 = true by decide +kernel, Bool.true_and]
theorem oL_67 : (live NX 67 && decide (100 ≤ (sh 67).1)) = true := by decide +kernel
theorem oN_67 : lenOf M 67 = 30 := by unfold lenOf; rw [if_neg (by decide)]; decide +kernel
theorem oW_67 : okW NX 67 = true := by decide +kernel
theorem oF_68 : okF NX 68 2 = true := by decide +kernel
theorem oO_68 : okO NX 68 2 = true := by decide +kernel
theorem oW_68 : okW NX 68 = true := by decide +kernel
theorem oA_69 : okA M NX 69 100 i = inb i 30 := by unfold okA lenOf; rw [show (live NX 69 && (sh 69).1 == 100) = true by decide +kernel, Bool.true_and, if_neg (by decide), show (sh 69).2 = 30 by decide +kernel]
theorem oS_69 : okS M NX 69 100 i = inb i 30 := by unfold okS; rw [oA_69, show okW NX 69 = true by decide +kernel, Bool.true_and]
theorem oL_69 : (live NX 69 && decide (100 ≤ (sh 69).1)) = true := by decide +kernel
theorem oN_69 : lenOf M 69 = 30 := by unfold lenOf; rw [if_neg (by decide)]; decide +kernel
theorem oW_69 : okW NX 69 = true := by decide +kernel
theorem oF_70 : okF NX 70 1 = true := by decide +kernel
theorem oO_70 : okO NX 70 1 = true := by decide +kernel
theorem oW_70 : okW NX 70 = true := by decide +kernel
theorem oA_71 : okA M NX 71 100 i = inb i 8 := by unfold okA lenOf; rw [show (live NX 71 && (sh 71).1 == 100) = true by decide +kernel, Bool.true_and, if_neg (by decide), show (sh 71).2 = 8 by decide +kernel]
theorem oS_71 : okS M NX 71 100 i = inb i 8 := by unfold okS; rw [oA_71, show okW NX 71 = true by decide +kernel, Bool.true_and]
theorem oL_71 : (live NX 71 && decide (100 ≤ (sh 71).1)) = true := by decide +kernel
theorem oN_71 : lenOf M 71 = 8 := by unfold lenOf; rw [if_neg (by decide)]; decide +kernel
theorem oW_71 : okW NX 71 = true := by decide +kernel
theorem oA_72 : okA M NX 72 100 i = inb i 8 := by unfold okA lenOf; rw [show (live NX 72 && (sh 72).1 == 100) = true by decide +kernel, Bool.true_and, if_neg (by decide), show (sh 72).2 = 8 by decide +kernel]
theorem oS_72 : okS M NX 72 100 i = inb i 8 := by unfold okS; rw [oA_72, show okW NX 72 = true by decide +kernel, Bool.true_and]
theorem oL_72 : (live NX 72 && decide (100 ≤ (sh 72).1)) = true := by decide +kernel
theorem oN_72 : lenOf M 72 = 8 := by unfold lenOf; rw [if_neg (by decide)]; decide +kernel
theorem oW_72 : okW NX 72 = true := by decide +kernel
theorem oF_73 : okF NX 73 2 = true := by decide +kernel
theorem oO_73 : okO NX 73 2 = true := by decide +kernel
theorem oW_73 : okW NX 73 = true := by decide +kernel
theorem oA_74 : okA M NX 74 100 i = inb i 30 := by unfold okA lenOf; rw [show (live NX 74 && (sh 74).1 == 100) = true by decide +kernel, Bool.true_and, if_neg (by decide), show (sh 74).2 = 30 by decide +kernel]
theorem oS_74 : okS M NX 74 100 i = inb i 30 := by unfold okS; rw [oA_74, show okW NX 74 = true by decide +kernel, Bool.true_and]
theorem oL_74 : (live NX 74 && decide (100 ≤ (sh 74).1)) = true := by decide +kernel
theorem oN_74 : lenOf M 74 = 30 := by unfold lenOf; rw [if_neg (by decide)]; decide +kernel
theorem oW_74 : okW NX 74 = true := by decide +kernel
theorem oA_75 : okA M NX 75 104 i = inb i 30 := by unfold okA lenOf; rw [show (live NX 75 && (sh 75).1 == 104) = true by decide +kernel, Bool.true_and, if_neg (by decide), show (sh 75).2 = 30 by decide +kernel]
theorem oS_75 : okS M NX 75 104 i = inb i 30 := by unfold okS; rw [oA_75, show okW NX 75 = true by decide +kernel, Bool.true_and]
theorem oL_75 : (live NX 75 && decide (100 ≤ (sh 75).1)) = true := by decide +kernel
theorem oN_75 : lenOf M 75 = 30 := by unfold lenOf; rw [if_neg (by decide)]; decide +kernel
theorem oW_75 : okW NX 75 = true := by decide +kernel
theorem oA_76 : okA M NX 76 100 i = inb i 7 := by unfold okA lenOf; rw [show (live NX 76 && (sh 76).1 == 100) = true by decide +kernel, Bool.true_and, if_neg (by decide), show (sh 76).2 = 7 by decide +kernel]
theorem oS_76 : okS M NX 76 100 i = inb i 7 := by unfold okS; rw [oA_76, show okW NX 76 = true by decide +kernel, Bool.true_and]
theorem oL_76 : (live NX 76 && decide (100 ≤ (sh 76).1)) = true := by decide +kernel
theorem oN_76 : lenOf M 76 = 7 := by unfold lenOf; rw [if_neg (by decide)]; decide +kernel
theorem oW_76 : okW NX 76 = true := by decide +kernel
theorem oA_77 : okA M NX 77 100 i = inb i 8 := by unfold okA lenOf; rw [show (live NX 77 && (sh 77).1 == 100) = true by decide +kernel, Bool.true_and, if_neg (by decide), show (sh 77).2 = 8 by decide +kernel]
theorem oS_77 : okS M NX 77 100 i = inb i 8 := by unfold okS; rw [oA_77, show okW NX 77 = true by decide +kernel, Bool.true_and]
theorem oL_77 : (live NX 77 && decide (100 ≤ (sh 77).1)) = true := by decide +kernel
theorem oN_77 : lenOf M 77 = 8 := by unfold lenOf; rw [if_neg (by decide)]; decide +kernel
theorem oW_77 : okW NX 77 = true := by decide +kernel
theorem oA_78 : okA M NX 78 100 i = inb i 8 := by unfold okA lenOf; rw [show (live NX 78 && (sh 78).1 == 100) = true by decide +kernel, Bool.true_and, if_neg (by decide), show (sh 78).2 = 8 by decide +kernel]
theorem oS_78 : okS M NX 78 100 i = inb i 8 := by unfold okS; rw [oA_78, show okW NX 78 = true by decide +kernel, Bool.true_and]
theorem oL_78 : (live NX 78 && decide (100 ≤ (sh 78).1)) = true := by decide +kernel
theorem oN_78 : lenOf M 78 = 8 := by unfold lenOf; rw [if_neg (by decide)]; decide +kernel
theorem oW_78 : okW NX 78 = true := by decide +kernel
theorem oF_79 : okF NX 79 2 = true := by decide +kernel
theorem oO_79 : okO NX 79 2 = true := by decide +kernel
theorem oW_79 : okW NX 79 = true := by decide +kernel
theorem oA_80 : okA M NX 80 100 i = inb i 30 := by unfold okA lenOf; rw [show (live NX 80 && (sh 80).1 == 100) = true by decide +kernel, Bool.true_and, if_neg (by decide), show (sh 80).2 = 30 by decide +kernel]
theorem oS_80 : okS M NX 80 100 i = inb i 30 := by unfold okS; rw [oA_80, show okW NX 80 = true by decide +kernel, Bool.true_and]
theorem oL_80 : (live NX 80 && decide (100 ≤ (sh 80).1)) = true := by decide +kernel
theorem oN_80 : lenOf M 80 = 30 := by unfold lenOf; rw [if_neg (by decide)]; decide +kernel
theorem oW_80 : okW NX 80 = true := by decide +kernel
theorem oF_81 : okF NX 81 2 = true := by decide +kernel
theorem oO_81 : okO NX 81 2 = true := by decide +kernel
theorem oW_81 : okW NX 81 = true := by decide +kernel
theorem oA_82 : okA M NX 82 100 i = inb i 30 := by unfold okA lenOf; rw [show (live NX 82 && (sh 82).1 == 100) = true by decide +kernel, Bool.true_and, if_neg (by decide), show (sh 82).2 = 30 by decide +kernel]
theorem oS_82 : okS M NX 82 100 i = inb i 30 := by unfold okS; rw [oA_82, show okW NX 82 = true by decide +kernel, Bool.true_and]
theorem oL_82 : (live NX 82 && decide (100 ≤ (sh 82).1)) = true := by decide +kernel
theorem oN_82 : lenOf M 82 = 30 := by unfold lenOf; rw [if_neg (by decide)]; decide +kernel
theorem oW_82 : okW NX 82 = true := by decide +kernel
theorem oF_83 : okF NX 83 2 = true := by decide +kernel
theorem oO_83 : okO NX 83 2 = true := by decide +kernel
theorem oW_83 : okW NX 83 = true := by decide +kernel
theorem oA_84 : okA M NX 84 100 i = inb i 30 := by unfold okA lenOf; rw [show (live NX 84 && (sh 84).1 == 100) = true by decide +kernel, Bool.true_and, if_neg (by decide), show (sh 84).2 = 30 by decide +kernel]
theorem oS_84 : okS M NX 84 100 i = inb i 30 := by unfold okS; rw [oA_84, show okW NX 84 = true by decide +kernel, Bool.true_and]
theorem oL_84 : (live NX 84 && decide (100 ≤ (sh 84).1)) = true := by decide +kernel
theorem oN_84 : lenOf M 84 = 30 := by unfold lenOf; rw [if_neg (by decide)]; decide +kernel
theorem oW_84 : okW NX 84 = true := by decide +kernel
theorem oF_85 : okF NX 85 2 = true := by decide +kernel
theorem oO_85 : okO NX 85 2 = true := by decide +kernel
theorem oW_85 : okW NX 85 = true := by decide +kernel
theorem oA_86 : okA M NX 86 100 i = inb i 30 := by unfold okA lenOf; rw [show (live NX 86 && (sh 86).1 == 100) = true by decide +kernel, Bool.true_and, if_neg (by decide), show (sh 86).2 = 30 by decide +kernel]
theorem oS_86 : okS M NX 86 100 i = inb i 30 := by unfold okS; rw [oA_86, show okW NX 86 = true by decide +kernel, Bool.true_and]
theorem oL_86 : (live NX 86 && decide (100 ≤ (sh 86).1)) = true := by decide +kernel
theorem oN_86 : lenOf M 86 = 30 := by unfold lenOf; rw [if_neg (by decide)]; decide +kernel
theorem oW_86 : okW NX 86 = true := by decide +kernel
theorem oF_87 : okF NX 87 2 = true := by decide +kernel
theorem oO_87 : okO NX 87 2 = true := by decide +kernel
theorem oW_87 : okW NX 87 = true := by decide +kernel
theorem oA_88 : okA M NX 88 100 i = inb i 30 := by unfold okA lenOf; rw [show (live NX 88 && (sh 88).1 == 100) = true by decide +kernel, Bool.true_and, if_neg (by decide), show (sh 88).2 = 30 by decide +kernel]
theorem oS_88 : okS M NX 88 100 i = inb i 30 := by unfold okS; rw [oA_88, show okW NX 88 = true by decide +kernel, Bool.true_and]
theorem oL_88 : (live NX 88 && decide (100 ≤ (sh 88).1)) = true := by decide +kernel
theorem oN_88 : lenOf M 88 = 30 := by unfold lenOf; rw [if_neg (by decide)]; decide +kernel
theorem oW_88 : okW NX 88 = true := by decide +kernel
theorem oF_89 : okF NX 89 2 = true := by decide +kernel
theorem oO_89 : okO NX 89 2 = true := by decide +kernel
theorem oW_89 : okW NX 89 = true := by decide +kernel
theorem oA_90 : okA M NX 90 100 i = inb i 30 := by unfold okA lenOf; rw [show (live NX 90 && (sh 90).1 == 100) = true by decide +kernel, Bool.true_and, if_neg (by decide), show (sh 90).2 = 30 by decide +kernel]
theorem oS_90 : okS M NX 90 100 i = inb i 30 := by unfold okS; rw [oA_90, show okW NX 90 = true by decide +kernel, Bool.true_and]
theorem oL_90 : (live NX 90 && decide (100 ≤ (sh 90).1)) = true := by decide +kernel
theorem oN_90 : lenOf M 90 = 30 := by unfold lenOf; rw [if_neg (by decide)]; decide +kernel
theorem oW_90 : okW NX 90 = true := by decide +kernel
theorem oF_91 : okF NX 91 2 = true := by decide +kernel
theorem oO_91 : okO NX 91 2 = true := by decide +kernel
theorem oW_91 : okW NX 91 = true := by decide +kernel
theorem oA_92 : okA M NX 92 100 i = inb i 30 := by unfold okA lenOf; rw [show (live NX 92 && (sh 92).1 == 100) = true by decide +kernel, Bool.true_and, if_neg (by decide), show (sh 92).2 = 30 by decide +kernel]
theorem oS_92 : okS M NX 92 100 i = inb i 30 := by unfold okS; rw [oA_92, show okW NX 92 = true by decide +kernel, Bool.true_and]
theorem oL_92 : (live NX 92 && decide (100 ≤ (sh 92).1)) = true := by decide +kernel
theorem oN_92 : lenOf M 92 = 30 := by unfold lenOf; rw [if_neg (by decide)]; decide +kernel
theorem oW_92 : okW NX 92 = true := by decide +kernel
theorem oF_93 : okF NX 93 2 = true := by decide +kernel
theorem oO_93 : okO NX 93 2 = true := by decide +kernel
theorem oW_93 : okW NX 93 = true := by decide +kernel
theorem oA_94 : okA M NX 94 100 i = inb i 30 := by unfold okA lenOf; rw [show (live NX 94 && (sh 94).1 == 100) = true by decide +kernel, Bool.true_and, if_neg (by decide), show (sh 94).2 = 30 by decide +kernel]
theorem oS_94 : okS M NX 94 100 i = inb i 30 := by unfold okS; rw [oA_94, show okW NX 94 = true by decide +kernel, Bool.true_and]
theorem oL_94 : (live NX 94 && decide (100 ≤ (sh 94).1)) = true := by decide +kernel
theorem oN_94 : lenOf M 94 = 30 := by unfold lenOf; rw [if_neg (by decide)]; decide +kernel
theorem oW_94 : okW NX 94 = true := by decide +kernel
theorem oF_95 : okF NX 95 2 = true := by decide +kernel
theorem oO_95 : okO NX 95 2 = true := by decide +kernel
theorem oW_95 : okW NX 95 = true := by decide +kernel
theorem oA_96 : okA M NX 96 100 i = inb i 30 := by unfold okA lenOf; rw [show (live NX 96 && (sh 96).1 == 100) = true by decide +kernel, Bool.true_and, if_neg (by decide), show (sh 96).2 = 30 by decide +kernel]
theorem oS_96 : okS M NX 96 100 i = inb i 30 := by unfold okS; rw [oA_96, show okW NX 96 = true by decide +kernel, Bool.true_and]
theorem oL_96 : (live NX 96 && decide (100 ≤ (sh 96).1)) = true := by decide +kernel
theorem oN_96 : lenOf M 96 = 30 := by unfold lenOf; rw [if_neg (by decide)]; decide +kernel
theorem oW_96 : okW NX 96 = true := by decide +kernel
theorem oF_97 : okF NX 97 2 = true := by decide +kernel
theorem oO_97 : okO NX 97 2 = true := by decide +kernel
theorem oW_97 : okW NX 97 = true := by decide +kernel
theorem oA_98 : okA M NX 98 100 i = inb i 30 := by unfold okA lenOf; rw [show (live NX 98 && (sh 98).1 == 100) = true by decide +kernel, Bool.true_and, if_neg (by decide), show (sh 98).2 = 30 by decide +kernel]
theorem oS_98 : okS M NX 98 100 i = inb i 30 := by unfold okS; rw [oA_98, show okW NX 98 = true by decide +kernel, Bool.true_and]
theorem oL_98 : (live NX 98 && decide (100 ≤ (sh 98).1)) = true := by decide +kernel
theorem oN_98 : lenOf M 98 = 30 := by unfold lenOf; rw [if_neg (by decide)]; decide +kernel
theorem oW_98 : okW NX 98 = true := by decide +kernel
theorem oF_99 : okF NX 99 2 = true := by decide +kernel
theorem oO_99 : okO NX 99 2 = true := by decide +kernel
theorem oW_99 : okW NX 99 = true := by decide +kernel
theorem oA_100 : okA M NX 100 100 i = inb i 30 := by unfold okA lenOf; rw [show (live NX 100 && (sh 100).1 == 100) = true by decide +kernel, Bool.true_and, if_neg (by decide), show (sh 100).2 = 30 by decide +kernel]
theorem oS_100 : okS M NX 100 100 i = inb i 30 := by unfold okS; rw [oA_100, show okW NX 100 = true by decide +kernel, Bool.true_and]
theorem oL_100 : (live NX 100 && decide (100 ≤ (sh 100).1)) = true := by decide +kernel
theorem oN_100 : lenOf M 100 = 30 := by unfold lenOf; rw [if_neg (by decide)]; decide +kernel
theorem oW_100 : okW NX 100 = true := by decide +kernel
theorem oF_101 : okF NX 101 2 = true := by decide +kernel
theorem oO_101 : okO NX 101 2 = true := by decide +kernel
theorem oW_101 : okW NX 101 = true := by decide +kernel
theorem oA_102 : okA M NX 102 100 i = inb i 30 := by unfold okA lenOf; rw [show (live NX 102 && (sh 102).1 == 100) = true by decide +kernel, Bool.true_and, if_neg (by decide), show (sh 102).2 = 30 by decide +kernel]
theorem oS_102 : okS M NX 102 100 i = inb i 30 := by unfold okS; rw [oA_102, show okW NX 102 = true by decide +kernel, Bool.true_and]
theorem oL_102 : (live NX 102 && decide (100 ≤ (sh 102).1)) = true := by decide +kernel
theorem oN_102 : lenOf M 102 = 30 := by unfold lenOf; rw [if_neg (by decide)]; decide +kernel
theorem oW_102 : okW NX 102 = true := by decide +kernel
theorem oF_103 : okF NX 103 2 = true := by decide +kernel
theorem oO_103 : okO NX 103 2 = true := by decide +kernel
theorem oW_103 : okW NX 103 = true := by decide +kernel
theorem oA_104 : okA M NX 104 100 i = inb i 30 := by unfold okA lenOf; rw [show (live NX 104 && (sh 104).1 == 100) = true by decide +kernel, Bool.true_and, if_neg (by decide), show (sh 104).2 = 30 by decide +kernel]
theorem oS_104 : okS M NX 104 100 i = inb i 30 := by unfold okS; rw [oA_104, show okW NX 104 = true by decide +kernel, Bool.true_and]
theorem oL_104 : (live NX 104 && decide (100 ≤ (sh 104).1)) = true := by decide +kernel
theorem oN_104 : lenOf M 104 = 30 := by unfold lenOf; rw [if_neg (by decide)]; decide +kernel
theorem oW_104 : okW NX 104 = true := by decide +kernel
theorem oF_105 : okF NX 105 2 = true := by decide +kernel
theorem oO_105 : okO NX 105 2 = true := by decide +kernel
theorem oW_105 : okW NX 105 = true := by decide +kernel
theorem oA_106 : okA M NX 106 100 i = inb i 30 := by unfold okA lenOf; rw [show (live NX 106 && (sh 106).1 == 100) = true by decide +kernel, Bool.true_and, if_neg (by decide), show (sh 106).2 = 30 by decide +kernel]
theorem oS_106 : okS M NX 106 100 i = inb i 30 := by unfold okS; rw [oA_106, show okW NX 106 = true by decide +kernel, Bool.true_and]
theorem oL_106 : (live NX 106 && decide (100 ≤ (sh 106).1)) = true := by decide +kernel
theorem oN_106 : lenOf M 106 = 30 := by unfold lenOf; rw [if_neg (by decide)]; decide +kernel
theorem oW_106 : okW NX 106 = true := by decide +kernel
theorem oF_107 : okF NX 107 2 = true := by decide +kernel
theorem oO_107 : okO NX 107 2 = true := by decide +kernel
theorem oW_107 : okW NX 107 = true := by decide +kernel
theorem oA_108 : okA M NX 108 100 i = inb i 30 := by unfold okA lenOf; rw [show (live NX 108 && (sh 108).1 == 100) = true by decide +kernel, Bool.true_and, if_neg (by decide), show (sh 108).2 = 30 by decide +kernel]
theorem oS_108 : okS M NX 108 100 i = inb i 30 := by unfold okS; rw [oA_108, show okW NX 108 = true by decide +kernel, Bool.true_and]
theorem oL_108 : (live NX 108 && decide (100 ≤ (sh 108).1)) = true := by decide +kernel
theorem oN_108 : lenOf M 108 = 30 := by unfold lenOf; rw [if_neg (by decide)]; decide +kernel
theorem oW_108 : okW NX 108 = true := by decide +kernel
theorem oF_109 : okF NX 109 2 = true := by decide +kernel
theorem oO_109 : okO NX 109 2 = true := by decide +kernel
theorem oW_109 : okW NX 109 = true := by decide +kernel
theorem oA_110 : okA M NX 110 100 i = inb i 30 := by unfold okA lenOf; rw [show (live NX 110 && (sh 110).1 == 100) = true by decide +kernel, Bool.true_and, if_neg (by decide), show (sh 110).2 = 30 by decide +kernel]
theorem oS_110 : okS M NX 110 100 i = inb i 30 := by unfold okS; rw [oA_110, show okW NX 110 = true by decide +kernel, Bool.true_and]
theorem oL_110 : (live NX 110 && decide (100 ≤ (sh 110).1)) = true := by decide +kernel
theorem oN_110 : lenOf M 110 = 30 := by unfold lenOf; rw [if_neg (by decide)]; decide +kernel
theorem oW_110 : okW NX 110 = true := by decide +kernel
theorem oF_111 : okF NX 111 2 = true := by decide +kernel
theorem oO_111 : okO NX 111 2 = true := by decide +kernel
theorem oW_111 : okW NX 111 = true := by decide +kernel
theorem oA_112 : okA M NX 112 100 i = inb i 30 := by unfold okA lenOf; rw [show (live NX 112 && (sh 112).1 == 100) = true by decide +kernel, Bool.true_and, if_neg (by decide), show (sh 112).2 = 30 by decide +kernel]
theorem oS_112 : okS M NX 112 100 i = inb i 30 := by unfold okS; rw [oA_112, show okW NX 112 = true by decide +kernel, Bool.true_and]
theorem oL_112 : (live NX 112 && decide (100 ≤ (sh 112).1)) = true := by decide +kernel
theorem oN_112 : lenOf M 112 = 30 := by unfold lenOf; rw [if_neg (by decide)]; decide +kernel
theorem oW_112 : okW NX 112 = true := by decide +kernel
theorem oF_113 : okF NX 113 2 = true := by decide +kernel
theorem oO_113 : okO NX 113 2 = true := by decide +kernel
theorem oW_113 : okW NX 113 = true := by decide +kernel
theorem oA_114 : okA M NX 114 100 i = inb i 30 := by unfold okA lenOf; rw [show (live NX 114 && (sh 114).1 == 100) = true by decide +kernel, Bool.true_and, if_neg (by decide), show (sh 114).2 = 30 by decide +kernel]
theorem oS_114 : okS M NX 114 100 i = inb i 30 := by unfold okS; rw [oA_114, show okW NX 114 = true by decide +kernel, Bool.true_and]
theorem oL_114 : (live NX 114 && decide (100 ≤ (sh 114).1)) = true := by decide +kernel
theorem oN_114 : lenOf M 114 = 30 := by unfold lenOf; rw [if_neg (by decide)]; decide +kernel
theorem oW_114 : okW NX 114 = true := by decide +kernel
theorem oF_115 : okF NX 115 2 = true := by decide +kernel
theorem oO_115 : okO NX 115 2 = true := by decide +kernel
theorem oW_115 : okW NX 115 = true := by decide +kernel
theorem oA_116 : okA M NX 116 100 i = inb i 30 := by unfold okA lenOf; rw [show (live NX 116 && (sh 116).1 == 100) = true by decide +kernel, Bool.true_and, if_neg (by decide), show (sh 116).2 = 30 by decide +kernel]
theorem oS_116 : okS M NX 116 100 i = inb i 30 := by unfold okS; rw [oA_116, show okW NX 116 = true by decide +kernel, Bool.true_and]
theorem oL_116 : (live NX 116 && decide (100 ≤ (sh 116).1)) = true := by decide +kernel
theorem oN_116 : lenOf M 116 = 30 := by unfold lenOf; rw [if_neg (by decide)]; decide +kernel
theorem oW_116 : okW NX 116 = true := by decide +kernel
theorem oF_117 : okF NX 117 2 = true := by decide +kernel
theorem oO_117 : okO NX 117 2 = true := by decide +kernel
theorem oW_117 : okW NX 117 = true := by decide +kernel
theorem oA_118 : okA M NX 118 100 i = inb i 30 := by unfold okA lenOf; rw [show (live NX 118 && (sh 118).1 == 100) = true by decide +kernel, Bool.true_and, if_neg (by decide), show (sh 118).2 = 30 by decide +kernel]
theorem oS_118 : okS M NX 118 100 i = inb i 30 := by unfold okS; rw [oA_118, show okW NX 118 = true by decide +kernel, Bool.true_and]
theorem oL_118 : (live NX 118 && decide (100 ≤ (sh 118).1)) = true := by decide +kernel
theorem oN_118 : lenOf M 118 = 30 := by unfold lenOf; rw [if_neg (by decide)]; decide +kernel
theorem oW_118 : okW NX 118 = true := by decide +kernel
theorem oF_119 : okF NX 119 2 = true := by decide +kernel
theorem oO_119 : okO NX 119 2 = true := by decide +kernel
theorem oW_119 : okW NX 119 = true := by decide +kernel
theorem oA_120 : okA M NX 120 100 i = inb i 30 := by unfold okA lenOf; rw [show (live NX 120 && (sh 120).1 == 100) = true by decide +kernel, Bool.true_and, if_neg (by decide), show (sh 120).2 = 30 by decide +kernel]
theorem oS_120 : okS M NX 120 100 i = inb i 30 := by unfold okS; rw [oA_120, show okW NX 120 = true by decide +kernel, Bool.true_and]
theorem oL_120 : (live NX 120 && decide (100 ≤ (sh 120).1)) = true := by decide +kernel
theorem oN_120 : lenOf M 120 = 30 := by unfold lenOf; rw [if_neg (by decide)]; decide +kernel
theorem oW_120 : okW NX 120 = true := by decide +kernel
theorem oF_121 : okF NX 121 2 = true := by decide +kernel
theorem oO_121 : okO NX 121 2 = true := by decide +kernel
theorem oW_121 : okW NX 121 = true := by decide +kernel
theorem oA_122 : okA M NX 122 100 i = inb i 30 := by unfold okA lenOf; rw [show (live NX 122 && (sh 122).1 == 100) = true by decide +kernel, Bool.true_and, if_neg (by decide), show (sh 122).2 = 30 by decide +kernel]
theorem oS_122 : okS M NX 122 100 i = inb i 30 := by unfold okS; rw [oA_122, show okW NX 122 = true by decide +kernel, Bool.true_and]
theorem oL_122 : (live NX 122 && decide (100 ≤ (sh 122).1)) = true := by decide +kernel
theorem oN_122 : lenOf M 122 = 30 := by unfold lenOf; rw [if_neg (by decide)]; decide +kernel
theorem oW_122 : okW NX 122 = true := by decide +kernel
theorem oF_123 : okF NX 123 2 = true := by decide +kernel
theorem oO_123 : okO NX 123 2 = true := by decide +kernel
theorem oW_123 : okW NX 123 = true := by decide +kernel
theorem oA_124 : okA M NX 124 100 i = inb i 30 := by unfold okA lenOf; rw [show (live NX 124 && (sh 124).1 == 100) = true by decide +kernel, Bool.true_and, if_neg (by decide), show (sh 124).2 = 30 by decide +kernel]
theorem oS_124 : okS M NX 124 100 i = inb i 30 := by unfold okS; rw [oA_124, show okW NX 124 = true by decide +kernel, Bool.true_and]
theorem oL_124 : (live NX 124 && decide (100 ≤ (sh 124).1)) = true := by decide +kernel
theorem oN_124 : lenOf M 124 = 30 := by unfold lenOf; rw [if_neg (by decide)]; decide +kernel
theorem oW_124 : okW NX 124 = true := by decide +kernel
theorem oF_125 : okF NX 125 2 = true := by decide +kernel
theorem oO_125 : okO NX 125 2 = true := by decide +kernel
theorem oW_125 : okW NX 125 = true := by decide +kernel
theorem oA_126 : okA M NX 126 100 i = inb i 30 := by unfold okA lenOf; rw [show (live NX 126 && (sh 126).1 == 100) = true by decide +kernel, Bool.true_and, if_neg (by decide), show (sh 126).2 = 30 by decide +kernel]
theorem oS_126 : okS M NX 126 100 i = inb i 30 := by unfold okS; rw [oA_126, show okW NX 126 = true by decide +kernel, Bool.true_and]
theorem oL_126 : (live NX 126 && decide (100 ≤ (sh 126).1)) = true := by decide +kernel
theorem oN_126 : lenOf M 126 = 30 := by unfold lenOf; rw [if_neg (by decide)]; decide +kernel
theorem oW_126 : okW NX 126 = true := by decide +kernel
theorem oF_127 : okF NX 127 2 = true := by decide +kernel
theorem oO_127 : okO NX 127 2 = true := by decide +kernel
theorem oW_127 : okW NX 127 = true := by decide +kernel
theorem oA_128 : okA M NX 128 100 i = inb i 30 := by unfold okA lenOf; rw [show (live NX 128 && (sh 128).1 == 100) = true by decide +kernel, Bool.true_and, if_neg (by decide), show (sh 128).2 = 30 by decide +kernel]
theorem oS_128 : okS M NX 128 100 i = inb i 30 := by unfold okS; rw [oA_128, show okW NX 128 = true by decide +kernel, Bool.true_and]
theorem oL_128 : (live NX 128 && decide (100 ≤ (sh 128).1)) = true := by decide +kernel
theorem oN_128 : lenOf M 128 = 30 := by unfold lenOf; rw [if_neg (by decide)]; decide +kernel
theorem oW_128 : okW NX 128 = true := by decide +kernel
theorem oF_129 : okF NX 129 2 = true := by decide +kernel
theorem oO_129 : okO NX 129 2 = true := by decide +kernel
theorem oW_129 : okW NX 129 = true := by decide +kernel
theorem oA_130 : okA M NX 130 100 i = inb i 30 := by unfold okA lenOf; rw [show (live NX 130 && (sh 130).1 == 100) = true by decide +kernel, Bool.true_and, if_neg (by decide), show (sh 130).2 = 30 by decide +kernel]
theorem oS_130 : okS M NX 130 100 i = inb i 30 := by unfold okS; rw [oA_130, show okW NX 130 = true by decide +kernel, Bool.true_and]
theorem oL_130 : (live NX 130 && decide (100 ≤ (sh 130).1)) = true := by decide +kernel
theorem oN_130 : lenOf M 130 = 30 := by unfold lenOf; rw [if_neg (by decide)]; decide +kernel
theorem oW_130 : okW NX 130 = true := by decide +kernel
theorem oF_131 : okF NX 131 2 = true := by decide +kernel
theorem oO_131 : okO NX 131 2 = true := by decide +kernel
theorem oW_131 : okW NX 131 = true := by decide +kernel
theorem oA_132 : okA M NX 132 100 i = inb i 30 := by unfold okA lenOf; rw [show (live NX 132 && (sh 132).1 == 100) = true by decide +kernel, Bool.true_and, if_neg (by decide), show (sh 132).2 = 30 by decide +kernel]
theorem oS_132 : okS M NX 132 100 i = inb i 30 := by unfold okS; rw [oA_132, show okW NX 132 = true by decide +kernel, Bool.true_and]
theorem oL_132 : (live NX 132 && decide (100 ≤ (sh 132).1)) = true := by decide +kernel
theorem oN_132 : lenOf M 132 = 30 := by unfold lenOf; rw [if_neg (by decide)]; decide +kernel
theorem oW_132 : okW NX 132 = true := by decide +kernel
theorem oF_133 : okF NX 133 2 = true := by decide +kernel
theorem oO_133 : okO NX 133 2 = true := by decide +kernel
theorem oW_133 : okW NX 133 = true := by decide +kernel
theorem oA_134 : okA M NX 134 100 i = inb i 30 := by unfold okA lenOf; rw [show (live NX 134 && (sh 134).1 == 100) = true by decide +kernel, Bool.true_and, if_neg (by decide), show (sh 134).2 = 30 by decide +kernel]
theorem oS_134 : okS M NX 134 100 i = inb i 30 := by unfold okS; rw [oA_134, show okW NX 134 = true by decide +kernel, Bool.true_and]
theorem oL_134 : (live NX 134 && decide (100 ≤ (sh 134).1)) = true := by decide +kernel
theorem oN_134 : lenOf M 134 = 30 := by unfold lenOf; rw [if_neg (by decide)]; decide +kernel
theorem oW_134 : okW NX 134 = true := by decide +kernel
theorem oF_135 : okF NX 135 2 = true := by decide +kernel
theorem oO_135 : okO NX 135 2 = true := by decide +kernel
theorem oW_135 : okW NX 135 = true := by decide +kernel
theorem oA_136 : okA M NX 136 100 i = inb i 30 := by unfold okA lenOf; rw [show (live NX 136 && (sh 136).1 == 100) = true by decide +kernel, Bool.true_and, if_neg (by decide), show (sh 136).2 = 30 by decide +kernel]
theorem oS_136 : okS M NX 136 100 i = inb i 30 := by unfold okS; rw [oA_136, show okW NX 136 = true by decide +kernel, Bool.true_and]
theorem oL_136 : (live NX 136 && decide (100 ≤ (sh 136).1)) = true := by decide +kernel
theorem oN_136 : lenOf M 136 = 30 := by unfold lenOf; rw [if_neg (by decide)]; decide +kernel
theorem oW_136 : okW NX 136 = true := by decide +kernel
theorem oF_137 : okF NX 137 2 = true := by decide +kernel
theorem oO_137 : okO NX 137 2 = true := by decide +kernel
theorem oW_137 : okW NX 137 = true := by decide +kernel
theorem oA_138 : okA M NX 138 100 i = inb i 30 := by unfold okA lenOf; rw [show (live NX 138 && (sh 138).1 == 100) = true by decide +kernel, Bool.true_and, if_neg (by decide), show (sh 138).2 = 30 by decide +kernel]
theorem oS_138 : okS M NX 138 100 i = inb i 30 := by unfold okS; rw [oA_138, show okW NX 138 = true by decide +kernel, Bool.true_and]
theorem oL_138 : (live NX 138 && decide (100 ≤ (sh 138).1)) = true := by decide +kernel
theorem oN_138 : lenOf M 138 = 30 := by unfold lenOf; rw [if_neg (by decide)]; decide +kernel
theorem oW_138 : okW NX 138 = true := by decide +kernel
theorem oA_139 : okA M NX 139 105 i = inb i 4 := by unfold okA lenOf; rw [show (live NX 139 && (sh 139).1 == 105) = true by decide +kernel, Bool.true_and, if_neg (by decide), show (sh 139).2 = 4 by decide +kernel]
theorem oS_139 : okS M NX 139 105 i = inb i 4 := by unfold okS; rw [oA_139, show okW NX 139 = true by decide +kernel, Bool.true_and]
theorem oL_139 : (live NX 139 && decide (100 ≤ (sh 139).1)) = true := by decide +kernel
theorem oN_139 : lenOf M 139 = 4 := by unfold lenOf; rw [if_neg (by decide)]; decide +kernel
theorem oW_139 : okW NX 139 = true := by decide +kernel
theorem oF_140 : okF NX 140 3 = true := by decide +kernel
theorem oO_140 : okO NX 140 3 = true := by decide +kernel
theorem oW_140 : okW NX 140 = true := by decide +kernel
theorem oA_141 : okA M NX 141 101 i = inb i 300 := by unfold okA lenOf; rw [show (live NX 141 && (sh 141).1 == 101) = true by decide +kernel, Bool.true_and, if_neg (by decide), show (sh 141).2 = 300 by decide +kernel]
theorem oS_141 : okS M NX 141 101 i = inb i 300 := by unfold okS; rw [oA_141, show okW NX 141 = true by decide +kernel, Bool.true_and]
theorem oL_141 : (live NX 141 && decide (100 ≤ (sh 141).1)) = true := by decide +kernel
theorem oN_141 : lenOf M 141 = 300 := by unfold lenOf; rw [if_neg (by decide)]; decide +kernel
theorem oW_141 : okW NX 141 = true := by decide +kernel
theorem oA_142 : okA M NX 142 100 i = inb i 301 := by unfold okA lenOf; rw [show (live NX 142 && (sh 142).1 == 100) = true by decide +kernel, Bool.true_and, if_neg (by decide), show (sh 142).2 = 301 by decide +kernel]
theorem oS_142 : okS M NX 142 100 i = inb i 301 := by unfold okS; rw [oA_142, show okW NX 142 = true by decide +kernel, Bool.true_and]
theorem oL_142 : (live NX 142 && decide (100 ≤ (sh 142).1)) = true := by decide +kernel
theorem oN_142 : lenOf M 142 = 301 := by unfold lenOf; rw [if_neg (by decide)]; decide +kernel
theorem oW_142 : okW NX 142 = true := by decide +kernel
theorem oA_143 : okA M NX 143 100 i = inb i 301 := by unfold okA lenOf; rw [show (live NX 143 && (sh 143).1 == 100) = true by decide +kernel, Bool.true_and, if_neg (by decide), show (sh 143).2 = 301 by decide +kernel]
theorem oS_143 : okS M NX 143 100 i = inb i 301 := by unfold okS; rw [oA_143, show okW NX 143 = true by decide +kernel, Bool.true_and]
theorem oL_143 : (live NX 143 && decide (100 ≤ (sh 143).1)) = true := by decide +kernel
theorem oN_143 : lenOf M 143 = 301 := by unfold lenOf; rw [if_neg (by decide)]; decide +kernel
theorem oW_143 : okW NX 143 = true := by decide +kernel
theorem oA_144 : okA M NX 144 100 i = inb i 301 := by unfold okA lenOf; rw [show (live NX 144 && (sh 144).1 == 100) = true by decide +kernel, Bool.true_and, if_neg (by decide), show (sh 144).2 = 301 by decide +kernel]
theorem oS_144 : okS M NX 144 100 i = inb i 301 := by unfold okS; rw [oA_144, show okW NX 144 = true by decide +kernel, Bool.true_and]
theorem oL_144 : (live NX 144 && decide (100 ≤ (sh 144).1)) = true := by decide +kernel
theorem oN_144 : lenOf M 144 = 301 := by unfold lenOf; rw [if_neg (by decide)]; decide +kernel
theorem oW_144 : okW NX 144 = true := by decide +kernel
theorem oF_145 : okF NX 145 4 = true := by decide +kernel
theorem oO_145 : okO NX 145 4 = true := by decide +kernel
theorem oW_145 : okW NX 145 = true := by decide +kernel
theorem oF_146 : okF NX 146 5 = true := by decide +kernel
theorem oO_146 : okO NX 146 5 = true := by decide +kernel
theorem oW_146 : okW NX 146 = true := by decide +kernel
theorem oA_147 : okA M NX 147 100 i = inb i 300 := by unfold okA lenOf; rw [show (live NX 147 && (sh 147).1 == 100) = true by decide +kernel, Bool.true_and, if_neg (by decide), show (sh 147).2 = 300 by decide +kernel]
theorem oS_147 : okS M NX 147 100 i = inb i 300 := by unfold okS; rw [oA_147, show okW NX 147 = true by decide +kernel, Bool.true_and]
theorem oL_147 : (live NX 147 && decide (100 ≤ (sh 147).1)) = true := by decide +kernel
theorem oN_147 : lenOf M 147 = 300 := by unfold lenOf; rw [if_neg (by decide)]; decide +kernel
theorem oW_147 : okW NX 147 = true := by decide +kernel
theorem oF_148 : okF NX 148 6 = true := by decide +kernel
theorem oO_148 : okO NX 148 6 = true := by decide +kernel
theorem oW_148 : okW NX 148 = true := by decide +kernel
theorem oA_149 : okA M NX 149 100 i = inb i 256 := by unfold okA lenOf; rw [show (live NX 149 && (sh 149).1 == 100) = true by decide +kernel, Bool.true_and, if_neg (by decide), show (sh 149).2 = 256 by decide +kernel]
theorem oS_149 : okS M NX 149 100 i = inb i 256 := by unfold okS; rw [oA_149, show okW NX 149 = true by decide +kernel, Bool.true_and]
theorem oL_149 : (live NX 149 && decide (100 ≤ (sh 149).1)) = true := by decide +kernel
theorem oN_149 : lenOf M 149 = 256 := by unfold lenOf; rw [if_neg (by decide)]; decide +kernel
theorem oW_149 : okW NX 149 = true := by decide +kernel
theorem oA_150 : okA M NX 150 102 i = inb i 256 := by unfold okA lenOf; rw [show (live NX 150 && (sh 150).1 == 102) = true by decide +kernel, Bool.true_and, if_neg (by decide), show (sh 150).2 = 256 by decide +kernel]
theorem oS_150 : okS M NX 150 102 i = inb i 256 := by unfold okS; rw [oA_150, show okW NX 150 = true by decide +kernel, Bool.true_and]
theorem oL_150 : (live NX 150 && decide (100 ≤ (sh 150).1)) = true := by decide +kernel
theorem oN_150 : lenOf M 150 = 256 := by unfold lenOf; rw [if_neg (by decide)]; decide +kernel
theorem oW_150 : okW NX 150 = true := by decide +kernel
theorem oA_151 : okA M NX 151 103 i = inb i 256 := by unfold okA lenOf; rw [show (live NX 151 && (sh 151).1 == 103) = true by decide +kernel, Bool.true_and, if_neg (by decide), show (sh 151).2 = 256 by decide +kernel]
theorem oS_151 : okS M NX 151 103 i = inb i 256 := by unfold okS; rw [oA_151, show okW NX 151 = true by decide +kernel, Bool.true_and]
theorem oL_151 : (live NX 151 && decide (100 ≤ (sh 151).1)) = true := by decide +kernel
theorem oN_151 : lenOf M 151 = 256 := by unfold lenOf; rw [if_neg (by decide)]; decide +kernel
theorem oW_151 : okW NX 151 = true := by decide +kernel
theorem oF_152 : okF NX 152 2 = true := by decide +kernel
theorem oO_152 : okO NX 152 2 = true := by decide +kernel
theorem oW_152 : okW NX 152 = true := by decide +kernel
theorem oA_153 : okA M NX 153 100 i = inb i 30 := by unfold okA lenOf; rw [show (live NX 153 && (sh 153).1 == 100) = true by decide +kernel, Bool.true_and, if_neg (by decide), show (sh 153).2 = 30 by decide +kernel]
theorem oS_153 : okS M NX 153 100 i = inb i 30 := by unfold okS; rw [oA_153, show okW NX 153 = true by decide +kernel, Bool.true_and]
theorem oL_153 : (live NX 153 && decide (100 ≤ (sh 153).1)) = true := by decide +kernel
theorem oN_153 : lenOf M 153 = 30 := by unfold lenOf; rw [if_neg (by decide)]; decide +kernel
theorem oW_153 : okW NX 153 = true := by decide +kernel
theorem oF_154 : okF NX 154 7 = true := by decide +kernel
theorem oO_154 : okO NX 154 7 = true := by decide +kernel
theorem oW_154 : okW NX 154 = true := by decide +kernel
theorem oA_155 : okA M NX 155 100 i = inb i 300 := by unfold okA lenOf; rw [show (live NX 155 && (sh 155).1 == 100) = true by decide +kernel, Bool.true_and, if_neg (by decide), show (sh 155).2 = 300 by decide +kernel]
theorem oS_155 : okS M NX 155 100 i = inb i 300 := by unfold okS; rw [oA_155, show okW NX 155 = true by decide +kernel, Bool.true_and]
theorem oL_155 : (live NX 155 && decide (100 ≤ (sh 155).1)) = true := by decide +kernel
theorem oN_155 : lenOf M 155 = 300 := by unfold lenOf; rw [if_neg (by decide)]; decide +kernel
theorem oW_155 : okW NX 155 = true := by decide +kernel
theorem oA_156 : okA M NX 156 100 i = inb i 2 := by unfold okA lenOf; rw [show (live NX 156 && (sh 156).1 == 100) = true by decide +kernel, Bool.true_and, if_neg (by decide), show (sh 156).2 = 2 by decide +kernel]
theorem oS_156 : okS M NX 156 100 i = inb i 2 := by unfold okS; rw [oA_156, show okW NX 156 = true by decide +kernel, Bool.true_and]
theorem oL_156 : (live NX 156 && decide (100 ≤ (sh 156).1)) = true := by decide +kernel
theorem oN_156 : lenOf M 156 = 2 := by unfold lenOf; rw [if_neg (by decide)]; decide +kernel
theorem oW_156 : okW NX 156 = true := by decide +kernel
theorem oA_157 : okA M NX 157 100 i = inb i 2 := by unfold okA lenOf; rw [show (live NX 157 && (sh 157).1 == 100) = true by decide +kernel, Bool.true_and, if_neg (by decide), show (sh 157).2 = 2 by decide +kernel]
theorem oS_157 : okS M NX 157 100 i = inb i 2 := by unfold okS; rw [oA_157, show okW NX 157 = true by decide +kernel, Bool.true_and]
theorem oL_157 : (live NX 157 && decide (100 ≤ (sh 157).1)) = true := by decide +kernel
theorem oN_157 : lenOf M 157 = 2 := by unfold lenOf; rw [if_neg (by decide)]; decide +kernel
theorem oW_157 : okW NX 157 = true := by decide +kernel
theorem oA_158 : okA M NX 158 100 i = inb i 24 := by unfold okA lenOf; rw [show (live NX 158 && (sh 158).1 == 100) = true by decide +kernel, Bool.true_and, if_neg (by decide), show (sh 158).2 = 24 by decide +kernel]
theorem oS_158 : okS M NX 158 100 i = inb i 24 := by unfold okS; rw [oA_158, show okW NX 158 = true by decide +kernel, Bool.true_and]
theorem oL_158 : (live NX 158 && decide (100 ≤ (sh 158).1)) = true := by decide +kernel
theorem oN_158 : lenOf M 158 = 24 := by unfold lenOf; rw [if_neg (by decide)]; decide +kernel
theorem oW_158 : okW NX 158 = true := by decide +kernel
theorem oF_159 : okF NX 159 7 = true := by decide +kernel
theorem oO_159 : okO NX 159 7 = true := by decide +kernel
theorem oW_159 : okW NX 159 = true := by decide +kernel
theorem oA_160 : okA M NX 160 100 i = inb i 300 := by unfold okA lenOf; rw [show (live NX 160 && (sh 160).1 == 100) = true by decide +kernel, Bool.true_and, if_neg (by decide), show (sh 160).2 = 300 by decide +kernel]
theorem oS_160 : okS M NX 160 100 i = inb i 300 := by unfold okS; rw [oA_160, show okW NX 160 = true by decide +kernel, Bool.true_and]
theorem oL_160 : (live NX 160 && decide (100 ≤ (sh 160).1)) = true := by decide +kernel
theorem oN_160 : lenOf M 160 = 300 := by unfold lenOf; rw [if_neg (by decide)]; decide +kernel
theorem oW_160 : okW NX 160 = true := by decide +kernel
theorem oA_161 : okA M NX 161 100 i = inb i 2 := by unfold okA lenOf; rw [show (live NX 161 && (sh 161).1 == 100) = true by decide +kernel, Bool.true_and, if_neg (by decide), show (sh 161).2 = 2 by decide +kernel]
theorem oS_161 : okS M NX 161 100 i = inb i 2 := by unfold okS; rw [oA_161, show okW NX 161 = true by decide +kernel, Bool.true_and]
theorem oL_161 : (live NX 161 && decide (100 ≤ (sh 161).1)) = true := by decide +kernel
theorem oN_161 : lenOf M 161 = 2 := by unfold lenOf; rw [if_neg (by decide)]; decide +kernel
theorem oW_161 : okW NX 161 = true := by decide +kernel
theorem oA_162 : okA M NX 162 100 i = inb i 2 := by unfold okA lenOf; rw [show (live NX 162 && (sh 162).1 == 100) = true by decide +kernel, Bool.true_and, if_neg (by decide), show (sh 162).2 = 2 by decide +kernel]
theorem oS_162 : okS M NX 162 100 i = inb i 2 := by unfold okS; rw [oA_162, show okW NX 162 = true by decide +kernel, Bool.true_and]
theorem oL_162 : (live NX 162 && decide (100 ≤ (sh 162).1)) = true := by decide +kernel
theorem oN_162 : lenOf M 162 = 2 := by unfold lenOf; rw [if_neg (by decide)]; decide +kernel
theorem oW_162 : okW NX 162 = true := by decide +kernel
theorem oA_163 : okA M NX 163 100 i = inb i 24 := by unfold okA lenOf; rw [show (live NX 163 && (sh 163).1 == 100) = true by decide +kernel, Bool.true_and, if_neg (by decide), show (sh 163).2 = 24 by decide +kernel]
theorem oS_163 : okS M NX 163 100 i = inb i 24 := by unfold okS; rw [oA_163, show okW NX 163 = true by decide +kernel, Bool.true_and]
theorem oL_163 : (live NX 163 && decide (100 ≤ (sh 163).1)) = true := by decide +kernel
theorem oN_163 : lenOf M 163 = 24 := by unfold lenOf; rw [if_neg (by decide)]; decide +kernel
theorem oW_163 : okW NX 163 = true := by decide +kernel
theorem oF_164 : okF NX 164 7 = true := by decide +kernel
theorem oO_164 : okO NX 164 7 = true := by decide +kernel
theorem oW_164 : okW NX 164 = true := by decide +kernel
theorem oA_165 : okA M NX 165 100 i = inb i 300 := by unfold okA lenOf; rw [show (live NX 165 && (sh 165).1 == 100) = true by decide +kernel, Bool.true_and, if_neg (by decide), show (sh 165).2 = 300 by decide +kernel]
theorem oS_165 : okS M NX 165 100 i = inb i 300 := by unfold okS; rw [oA_165, show okW NX 165 = true by decide +kernel, Bool.true_and]
theorem oL_165 : (live NX 165 && decide (100 ≤ (sh 165).1)) = true := by decide +kernel
theorem oN_165 : lenOf M 165 = 300 := by unfold lenOf; rw [if_neg (by decide)]; decide +kernel
theorem oW_165 : okW NX 165 = true := by decide +kernel
theorem oA_166 : okA M NX 166 100 i = inb i 2 := by unfold okA lenOf; rw [show (live NX 166 && (sh 166).1 == 100) = true by decide +kernel, Bool.true_and, if_neg (by decide), show (sh 166).2 = 2 by decide +kernel]
theorem oS_166 : okS M NX 166 100 i = inb i 2 := by unfold okS; rw [oA_166, show okW NX 166 = true by decide +kernel, Bool.true_and]
theorem oL_166 : (live NX 166 && decide (100 ≤ (sh 166).1)) = true := by decide +kernel
theorem oN_166 : lenOf M 166 = 2 := by unfold lenOf; rw [if_neg (by decide)]; decide +kernel
theorem oW_166 : okW NX 166 = true := by decide +kernel
theorem oA_167 : okA M NX 167 100 i = inb i 2 := by unfold okA lenOf; rw [show (live NX 167 && (sh 167).1 == 100) = true by decide +kernel, Bool.true_and, if_neg (by decide), show (sh 167).2 = 2 by decide +kernel]
theorem oS_167 : okS M NX 167 100 i = inb i 2 := by unfold okS; rw [oA_167, show okW NX 167 = true by decide +kernel, Bool.true_and]
theorem oL_167 : (live NX 167 && decide (100 ≤ (sh 167).1)) = true := by decide +kernel
theorem oN_167 : lenOf M 167 = 2 := by unfold lenOf; rw [if_neg (by decide)]; decide +kernel
theorem oW_167 : okW NX 167 = true := by decide +kernel
theorem oA_168 : okA M NX 168 100 i = inb i 24 := by unfold okA lenOf; rw [show (live NX 168 && (sh 168).1 == 100) = true by decide +kernel, Bool.true_and, if_neg (by decide), show (sh 168).2 = 24 by decide +kernel]
theorem oS_168 : okS M NX 168 100 i = inb i 24 := by unfold okS; rw [oA_168, show okW NX 168 = true by decide +kernel, Bool.true_and]
theorem oL_168 : (live NX 168 && decide (100 ≤ (sh 168).1)) = true := by decide +kernel
theorem oN_168 : lenOf M 168 = 24 := by unfold lenOf; rw [if_neg (by decide)]; decide +kernel
theorem oW_168 : okW NX 168 = true := by decide +kernel
theorem oF_169 : okF NX 169 7 = true := by decide +kernel
theorem oO_169 : okO NX 169 7 = true := by decide +kernel
theorem oW_169 : okW NX 169 = true := by decide +kernel
theorem oA_170 : okA M NX 170 100 i = inb i 300 := by unfold okA lenOf; rw [show (live NX 170 && (sh 170).1 == 100) = true by decide +kernel, Bool.true_and, if_neg (by decide), show (sh 170).2 = 300 by decide +kernel]
theorem oS_170 : okS M NX 170 100 i = inb i 300 := by unfold okS; rw [oA_170, show okW NX 170 = true by decide +kernel, Bool.true_and]
theorem oL_170 : (live NX 170 && decide (100 ≤ (sh 170).1)) = true := by decide +kernel
theorem oN_170 : lenOf M 170 = 300 := by unfold lenOf; rw [if_neg (by decide)]; decide +kernel
theorem oW_170 : okW NX 170 = true := by decide +kernel
theorem oA_171 : okA M NX 171 100 i = inb i 2 := by unfold okA lenOf; rw [show (live NX 171 && (sh 171).1 == 100) = true by decide +kernel, Bool.true_and, if_neg (by decide), show (sh 171).2 = 2 by decide +kernel]
theorem oS_171 : okS M NX 171 100 i = inb i 2 := by unfold okS; rw [oA_171, show okW NX 171 = true by decide +kernel, Bool.true_and]
theorem oL_171 : (live NX 171 && decide (100 ≤ (sh 171).1)) = true := by decide +kernel
theorem oN_171 : lenOf M 171 = 2 := by unfold lenOf; rw [if_neg (by decide)]; decide +kernel
theorem oW_171 : okW NX 171 = true := by decide +kernel
theorem oA_172 : okA M NX 172 100 i = inb i 2 := by unfold okA lenOf; rw [show (live NX 172 && (sh 172).1 == 100) = true by decide +kernel, Bool.true_and, if_neg (by decide), show (sh 172).2 = 2 by decide +kernel]
theorem oS_172 : okS M NX 172 100 i = inb i 2 := by unfold okS; rw [oA_172, show okW NX 172 = true by decide +kernel, Bool.true_and]
theorem oL_172 : (live NX 172 && decide (100 ≤ (sh 172).1)) = true := by decide +kernel
theorem oN_172 : lenOf M 172 = 2 := by unfold lenOf; rw [if_neg (by decide)]; decide +kernel
theorem oW_172 : okW NX 172 = true := by decide +kernel
theorem oA_173 : okA M NX 173 100 i = inb i 24 := by unfold okA lenOf; rw [show (live NX 173 && (sh 173).1 == 100) = true by decide +kernel, Bool.true_and, if_neg (by decide), show (sh 173).2 = 24 by decide +kernel]
theorem oS_173 : okS M NX 173 100 i = inb i 24 := by unfold okS; rw [oA_173, show okW NX 173 = true by decide +kernel, Bool.true_and]
theorem oL_173 : (live NX 173 && decide (100 ≤ (sh 173).1)) = true := by decide +kernel
theorem oN_173 : lenOf M 173 = 24 := by unfold lenOf; rw [if_neg (by decide)]; decide +kernel
theorem oW_173 : okW NX 173 = true := by decide +kernel
theorem oF_174 : okF NX 174 8 = true := by decide +kernel
theorem oO_174 : okO NX 174 8 = true := by decide +kernel
theorem oW_174 : okW NX 174 = true := by decide +kernel
theorem oA_175 : okA M NX 175 100 i = inb i 1595 := by unfold okA lenOf; rw [show (live NX 175 && (sh 175).1 == 100) = true by decide +kernel, Bool.true_and, if_neg (by decide), show (sh 175).2 = 1595 by decide +kernel]
theorem oS_175 : okS M NX 175 100 i = inb i 1595 := by unfold okS; rw [oA_175, show okW NX 175 = true by decide +kernel, Bool.true_and]
theorem oL_175 : (live NX 175 && decide (100 ≤ (sh 175).1)) = true := by decide +kernel
theorem oN_175 : lenOf M 175 = 1595 := by unfold lenOf; rw [if_neg (by decide)]; decide +kernel
theorem oW_175 : okW NX 175 = true := by decide +kernel
theorem oA_176 : okA M NX 176 100 i = inb i 1595 := by unfold okA lenOf; rw [show (live NX 176 && (sh 176).1 == 100) = true by decide +kernel, Bool.true_and, if_neg (by decide), show (sh 176).2 = 1595 by decide +kernel]
theorem oS_176 : okS M NX 176 100 i = inb i 1595 := by unfold okS; rw [oA_176, show okW NX 176 = true by decide +kernel, Bool.true_and]
theorem oL_176 : (live NX 176 && decide (100 ≤ (sh 176).1)) = true := by decide +kernel
theorem oN_176 : lenOf M 176 = 1595 := by unfold lenOf; rw [if_neg (by decide)]; decide +kernel
theorem oW_176 : okW NX 176 = true := by decide +kernel
theorem oA_177 : okA M NX 177 100 i = inb i 2724 := by unfold okA lenOf; rw [show (live NX 177 && (sh 177).1 == 100) = true by decide +kernel, Bool.true_and, if_neg (by decide), show (sh 177).2 = 2724 by decide +kernel]
theorem oS_177 : okS M NX 177 100 i = inb i 2724 := by unfold okS; rw [oA_177, show okW NX 177 = true by decide +kernel, Bool.true_and]
theorem oL_177 : (live NX 177 && decide (100 ≤ (sh 177).1)) = true := by decide +kernel
theorem oN_177 : lenOf M 177 = 2724 := by unfold lenOf; rw [if_neg (by decide)]; decide +kernel
theorem oW_177 : okW NX 177 = true := by decide +kernel
theorem oA_178 : okA M NX 178 100 i = inb i 300 := by unfold okA lenOf; rw [show (live NX 178 && (sh 178).1 == 100) = true by decide +kernel, Bool.true_and, if_neg (by decide), show (sh 178).2 = 300 by decide +kernel]
theorem oS_178 : okS M NX 178 100 i = inb i 300 := by unfold okS; rw [oA_178, show okW NX 178 = true by decide +kernel, Bool.true_and]
theorem oL_178 : (live NX 178 && decide (100 ≤ (sh 178).1)) = true := by decide +kernel
theorem oN_178 : lenOf M 178 = 300 := by unfold lenOf; rw [if_neg (by decide)]; decide +kernel
theorem oW_178 : okW NX 178 = true := by decide +kernel
theorem oA_179 : okA M NX 179 100 i = inb i 160 := by unfold okA lenOf; rw [show (live NX 179 && (sh 179).1 == 100) = true by decide +kernel, Bool.true_and, if_neg (by decide), show (sh 179).2 = 160 by decide +kernel]
theorem oS_179 : okS M NX 179 100 i = inb i 160 := by unfold okS; rw [oA_179, show okW NX 179 = true by decide +kernel, Bool.true_and]
theorem oL_179 : (live NX 179 && decide (100 ≤ (sh 179).1)) = true := by decide +kernel
theorem oN_179 : lenOf M 179 = 160 := by unfold lenOf; rw [if_neg (by decide)]; decide +kernel
theorem oW_179 : okW NX 179 = true := by decide +kernel
theorem oA_180 : okA M NX 180 100 i = inb i 8 := by unfold okA lenOf; rw [show (live NX 180 && (sh 180).1 == 100) = true by decide +kernel, Bool.true_and, if_neg (by decide), show (sh 180).2 = 8 by decide +kernel]
theorem oS_180 : okS M NX 180 100 i = inb i 8 := by unfold okS; rw [oA_180, show okW NX 180 = true by decide +kernel, Bool.true_and]
theorem oL_180 : (live NX 180 && decide (100 ≤ (sh 180).1)) = true := by decide +kernel
theorem oN_180 : lenOf M 180 = 8 := by unfold lenOf; rw [if_neg (by decide)]; decide +kernel
theorem oW_180 : okW NX 180 = true := by decide +kernel
theorem oA_181 : okA M NX 181 103 i = inb i 330 := by unfold okA lenOf; rw [show (live NX 181 && (sh 181).1 == 103) = true by decide +kernel, Bool.true_and, if_neg (by decide), show (sh 181).2 = 330 by decide +kernel]
theorem oS_181 : okS M NX 181 103 i = inb i 330 := by unfold okS; rw [oA_181, show okW NX 181 = true by decide +kernel, Bool.true_and]
theorem oL_181 : (live NX 181 && decide (100 ≤ (sh 181).1)) = true := by decide +kernel
theorem oN_181 : lenOf M 181 = 330 := by unfold lenOf; rw [if_neg (by decide)]; decide +kernel
theorem oW_181 : okW NX 181 = true := by decide +kernel
theorem oA_182 : okA M NX 182 102 i = inb i 330 := by unfold okA lenOf; rw [show (live NX 182 && (sh 182).1 == 102) = true by decide +kernel, Bool.true_and, if_neg (by decide), show (sh 182).2 = 330 by decide +kernel]
theorem oS_182 : okS M NX 182 102 i = inb i 330 := by unfold okS; rw [oA_182, show okW NX 182 = true by decide +kernel, Bool.true_and]
theorem oL_182 : (live NX 182 && decide (100 ≤ (sh 182).1)) = true := by decide +kernel
theorem oN_182 : lenOf M 182 = 330 := by unfold lenOf; rw [if_neg (by decide)]; decide +kernel
theorem oW_182 : okW NX 182 = true := by decide +kernel
theorem oA_183 : okA M NX 183 100 i = inb i 8 := by unfold okA lenOf; rw [show (live NX 183 && (sh 183).1 == 100) = true by decide +kernel, Bool.true_and, if_neg (by decide), show (sh 183).2 = 8 by decide +kernel]
theorem oS_183 : okS M NX 183 100 i = inb i 8 := by unfold okS; rw [oA_183, show okW NX 183 = true by decide +kernel, Bool.true_and]
theorem oL_183 : (live NX 183 && decide (100 ≤ (sh 183).1)) = true := by decide +kernel
theorem oN_183 : lenOf M 183 = 8 := by unfold lenOf; rw [if_neg (by decide)]; decide +kernel
theorem oW_183 : okW NX 183 = true := by decide +kernel
theorem oA_184 : okA M NX 184 100 i = inb i 26 := by unfold okA lenOf; rw [show (live NX 184 && (sh 184).1 == 100) = true by decide +kernel, Bool.true_and, if_neg (by decide), show (sh 184).2 = 26 by decide +kernel]
theorem oS_184 : okS M NX 184 100 i = inb i 26 := by unfold okS; rw [oA_184, show okW NX 184 = true by decide +kernel, Bool.true_and]
theorem oL_184 : (live NX 184 && decide (100 ≤ (sh 184).1)) = true := by decide +kernel
theorem oN_184 : lenOf M 184 = 26 := by unfold lenOf; rw [if_neg (by decide)]; decide +kernel
theorem oW_184 : okW NX 184 = true := by decide +kernel
theorem oA_185 : okA M NX 185 100 i = inb i 256 := by unfold okA lenOf; rw [show (live NX 185 && (sh 185).1 == 100) = true by decide +kernel, Bool.true_and, if_neg (by decide), show (sh 185).2 = 256 by decide +kernel]
theorem oS_185 : okS M NX 185 100 i = inb i 256 := by unfold okS; rw [oA_185, show okW NX 185 = true by decide +kernel, Bool.true_and]
theorem oL_185 : (live NX 185 && decide (100 ≤ (sh 185).1)) = true := by decide +kernel
theorem oN_185 : lenOf M 185 = 256 := by unfold lenOf; rw [if_neg (by decide)]; decide +kernel
theorem oW_185 : okW NX 185 = true := by decide +kernel
theorem oA_186 : okA M NX 186 100 i = inb i 3 := by unfold okA lenOf; rw [show (live NX 186 && (sh 186).1 == 100) = true by decide +kernel, Bool.true_and, if_neg (by decide), show (sh 186).2 = 3 by decide +kernel]
theorem oS_186 : okS M NX 186 100 i = inb i 3 := by unfold okS; rw [oA_186, show okW NX 186 = true by decide +kernel, Bool.true_and]
theorem oL_186 : (live NX 186 && decide (100 ≤ (sh 186).1)) = true := by decide +kernel
theorem oN_186 : lenOf M 186 = 3 := by unfold lenOf; rw [if_neg (by decide)]; decide +kernel
theorem oW_186 : okW NX 186 = true := by decide +kernel
theorem oA_187 : okA M NX 187 103 i = inb i 256 := by unfold okA lenOf; rw [show (live NX 187 && (sh 187).1 == 103) = true by decide +kernel, Bool.true_and, if_neg (by decide), show (sh 187).2 = 256 by decide +kernel]
theorem oS_187 : okS M NX 187 103 i = inb i 256 := by unfold okS; rw [oA_187, show okW NX 187 = true by decide +kernel, Bool.true_and]
theorem oL_187 : (live NX 187 && decide (100 ≤ (sh 187).1)) = true := by decide +kernel
theorem oN_187 : lenOf M 187 = 256 := by unfold lenOf; rw [if_neg (by decide)]; decide +kernel
theorem oW_187 : okW NX 187 = true := by decide +kernel
theorem oA_188 : okA M NX 188 100 i = inb i 8 := by unfold okA lenOf; rw [show (live NX 188 && (sh 188).1 == 100) = true by decide +kernel, Bool.true_and, if_neg (by decide), show (sh 188).2 = 8 by decide +kernel]
theorem oS_188 : okS M NX 188 100 i = inb i 8 := by unfold okS; rw [oA_188, show okW NX 188 = true by decide +kernel, Bool.true_and]
theorem oL_188 : (live NX 188 && decide (100 ≤ (sh 188).1)) = true := by decide +kernel
theorem oN_188 : lenOf M 188 = 8 := by unfold lenOf; rw [if_neg (by decide)]; decide +kernel
theorem oW_188 : okW NX 188 = true := by decide +kernel
end CELLS
theorem mO_X_init : mO m_X_init = 0 := by decide +kernel
theorem mO_Site_init : mO m_Site_init = 1 := by decide +kernel
theorem mO_Mom_init : mO m_Mom_init = 2 := by decide +kernel
theorem mO_Tape_init : mO m_Tape_init = 3 := by decide +kernel
theorem mO_Rd_init : mO m_Rd_init = 4 := by decide +kernel
theorem mO_Sc_init : mO m_Sc_init = 5 := by decide +kernel
theorem mO_Dis_init : mO m_Dis_init = 6 := by decide +kernel
theorem mO_Scr_init : mO m_Scr_init = 7 := by decide +kernel
theorem mO_X_plank : mO m_X_plank = 0 := by decide +kernel
theorem mO_Site_tellPlank : mO m_Site_tellPlank = 1 := by decide +kernel
theorem mO_Site_areBits : mO m_Site_areBits = 1 := by decide +kernel
theorem mO_Site_told : mO m_Site_told = 1 := by decide +kernel
theorem mO_X_feed : mO m_X_feed = 0 := by decide +kernel
theorem mO_Tape_addFour : mO m_Tape_addFour = 3 := by decide +kernel
theorem mO_X_end : mO m_X_end = 0 := by decide +kernel
theorem mO_X_text : mO m_X_text = 0 := by decide +kernel
theorem mO_Tape_cut : mO m_Tape_cut = 3 := by decide +kernel
theorem mO_Tape_signAt : mO m_Tape_signAt = 3 := by decide +kernel
theorem mO_Tape_isLetter : mO m_Tape_isLetter = 3 := by decide +kernel
theorem mO_Tape_cutWord : mO m_Tape_cutWord = 3 := by decide +kernel
theorem mO_Tape_wordKind : mO m_Tape_wordKind = 3 := by decide +kernel
theorem mO_Str_length : mO m_Str_length = 12 := by decide +kernel
theorem mO_Str_coder : mO m_Str_coder = 12 := by decide +kernel
theorem mO_Str_charAt : mO m_Str_charAt = 12 := by decide +kernel
theorem mO_Str_isLatin1 : mO m_Str_isLatin1 = 12 := by decide +kernel
theorem mO_StrL_charAt : mO m_StrL_charAt = 13 := by decide +kernel
theorem mO_Tape_addToken : mO m_Tape_addToken = 3 := by decide +kernel
theorem mO_Tape_isDigit : mO m_Tape_isDigit = 3 := by decide +kernel
theorem mO_Tape_cutNumber : mO m_Tape_cutNumber = 3 := by decide +kernel
theorem mO_Tape_cutSign : mO m_Tape_cutSign = 3 := by decide +kernel
theorem mO_Str_indexOf_I : mO m_Str_indexOf_I = 12 := by decide +kernel
theorem mO_Str_indexOf_II : mO m_Str_indexOf_II = 12 := by decide +kernel
theorem mO_StrL_indexOf : mO m_StrL_indexOf = 13 := by decide +kernel
theorem mO_StrL_canEncode : mO m_StrL_canEncode = 13 := by decide +kernel
theorem mO_StrL_indexOfChar : mO m_StrL_indexOfChar = 13 := by decide +kernel
theorem mO_Rd_readInto : mO m_Rd_readInto = 4 := by decide +kernel
theorem mO_Scr_clear : mO m_Scr_clear = 7 := by decide +kernel
theorem mO_Arr_fill : mO m_Arr_fill = 16 := by decide +kernel
theorem mO_Rd_kind : mO m_Rd_kind = 4 := by decide +kernel
theorem mO_Tape_kindAt : mO m_Tape_kindAt = 3 := by decide +kernel
theorem mO_Rd_readClause : mO m_Rd_readClause = 4 := by decide +kernel
theorem mO_Rd_refuse : mO m_Rd_refuse = 4 := by decide +kernel
theorem mO_Tape_placeAt : mO m_Tape_placeAt = 3 := by decide +kernel
theorem mO_Scr_hasLaw : mO m_Scr_hasLaw = 7 := by decide +kernel
theorem mO_Rd_readLaw : mO m_Rd_readLaw = 4 := by decide +kernel
theorem mO_Scr_codeLength : mO m_Scr_codeLength = 7 := by decide +kernel
theorem mO_Rd_readSum : mO m_Rd_readSum = 4 := by decide +kernel
theorem mO_Rd_readProduct : mO m_Rd_readProduct = 4 := by decide +kernel
theorem mO_Rd_readOne : mO m_Rd_readOne = 4 := by decide +kernel
theorem mO_Tape_valueAt : mO m_Tape_valueAt = 3 := by decide +kernel
theorem mO_Scr_addCode : mO m_Scr_addCode = 7 := by decide +kernel
theorem mO_Rd_readNumber : mO m_Rd_readNumber = 4 := by decide +kernel
theorem mO_Rd_readName : mO m_Rd_readName = 4 := by decide +kernel
theorem mO_Rd_accept : mO m_Rd_accept = 4 := by decide +kernel
theorem mO_Rd_emit : mO m_Rd_emit = 4 := by decide +kernel
theorem mO_Rd_readChoice : mO m_Rd_readChoice = 4 := by decide +kernel
theorem mO_Rd_readEither : mO m_Rd_readEither = 4 := by decide +kernel
theorem mO_Rd_readBoth : mO m_Rd_readBoth = 4 := by decide +kernel
theorem mO_Rd_readAsk : mO m_Rd_readAsk = 4 := by decide +kernel
theorem mO_Rd_compares : mO m_Rd_compares = 4 := by decide +kernel
theorem mO_Scr_aimHere : mO m_Scr_aimHere = 7 := by decide +kernel
theorem mO_Scr_setLaw : mO m_Scr_setLaw = 7 := by decide +kernel
theorem mO_Scr_addClause : mO m_Scr_addClause = 7 := by decide +kernel
theorem mO_Rd_readMove : mO m_Rd_readMove = 4 := by decide +kernel
theorem mO_Rd_leastOf : mO m_Rd_leastOf = 4 := by decide +kernel
theorem mO_Rd_mostOf : mO m_Rd_mostOf = 4 := by decide +kernel
theorem mO_Rd_wordBetween : mO m_Rd_wordBetween = 4 := by decide +kernel
theorem mO_X_fault : mO m_X_fault = 0 := by decide +kernel
theorem mO_X_by : mO m_X_by = 0 := by decide +kernel
theorem mO_X_scriptOf : mO m_X_scriptOf = 0 := by decide +kernel
theorem mO_X_put : mO m_X_put = 0 := by decide +kernel
theorem mO_X_puttingUp : mO m_X_puttingUp = 0 := by decide +kernel
theorem mO_Site_isPlank : mO m_Site_isPlank = 1 := by decide +kernel
theorem mO_X_isGap : mO m_X_isGap = 0 := by decide +kernel
theorem mO_Mom_standing : mO m_Mom_standing = 2 := by decide +kernel
theorem mO_X_hasBit : mO m_X_hasBit = 0 := by decide +kernel
theorem mO_X_ruling : mO m_X_ruling = 0 := by decide +kernel
theorem mO_Sc_putsOf : mO m_Sc_putsOf = 5 := by decide +kernel
theorem mO_Sc_weigh : mO m_Sc_weigh = 5 := by decide +kernel
theorem mO_Scr_startOf : mO m_Scr_startOf = 7 := by decide +kernel
theorem mO_Scr_stopOf : mO m_Scr_stopOf = 7 := by decide +kernel
theorem mO_Scr_kindAt : mO m_Scr_kindAt = 7 := by decide +kernel
theorem mO_Scr_valueAt : mO m_Scr_valueAt = 7 := by decide +kernel
theorem mO_Sc_push : mO m_Sc_push = 5 := by decide +kernel
theorem mO_Sc_named : mO m_Sc_named = 5 := by decide +kernel
theorem mO_Sc_weightOf : mO m_Sc_weightOf = 5 := by decide +kernel
theorem mO_Int_bitCount : mO m_Int_bitCount = 15 := by decide +kernel
theorem mO_Dis_attackers : mO m_Dis_attackers = 6 := by decide +kernel
theorem mO_Frm_restingOn : mO m_Frm_restingOn = 10 := by decide +kernel
theorem mO_Sc_pop : mO m_Sc_pop = 5 := by decide +kernel
theorem mO_Sc_performOnOne : mO m_Sc_performOnOne = 5 := by decide +kernel
theorem mO_Sc_performOnTwo : mO m_Sc_performOnTwo = 5 := by decide +kernel
theorem mO_Sc_reckoned : mO m_Sc_reckoned = 5 := by decide +kernel
theorem mO_Sc_within : mO m_Sc_within = 5 := by decide +kernel
theorem mO_Sc_compared : mO m_Sc_compared = 5 := by decide +kernel
theorem mO_Site_keepStep : mO m_Site_keepStep = 1 := by decide +kernel
theorem mO_Site_copyStep : mO m_Site_copyStep = 1 := by decide +kernel
theorem mO_Mom_copyFrom : mO m_Mom_copyFrom = 2 := by decide +kernel
theorem mO_Mom_write : mO m_Mom_write = 2 := by decide +kernel
theorem mO_X_take : mO m_X_take = 0 := by decide +kernel
theorem mO_X_takingDown : mO m_X_takingDown = 0 := by decide +kernel
theorem mO_X_concede : mO m_X_concede = 0 := by decide +kernel
theorem mO_X_conceding : mO m_X_conceding = 0 := by decide +kernel
theorem mO_Dis_groundedBits : mO m_Dis_groundedBits = 6 := by decide +kernel
theorem mO_Dis_defended : mO m_Dis_defended = 6 := by decide +kernel
theorem mO_Dis_targets : mO m_Dis_targets = 6 := by decide +kernel
theorem mO_X_object : mO m_X_object = 0 := by decide +kernel
theorem mO_X_objecting : mO m_X_objecting = 0 := by decide +kernel
theorem mO_Dis_objects : mO m_Dis_objects = 6 := by decide +kernel
theorem mO_Dis_objection : mO m_Dis_objection = 6 := by decide +kernel
theorem mO_X_hour : mO m_X_hour = 0 := by decide +kernel
theorem mO_X_passHour : mO m_X_passHour = 0 := by decide +kernel
theorem mO_Mom_draw : mO m_Mom_draw = 2 := by decide +kernel
theorem mO_Mom_turnX : mO m_Mom_turnX = 2 := by decide +kernel
theorem mO_Sc_fallsOf : mO m_Sc_fallsOf = 5 := by decide +kernel
theorem mO_X_letFall : mO m_X_letFall = 0 := by decide +kernel
theorem mO_X_played : mO m_X_played = 0 := by decide +kernel
theorem mO_Scr_kindOf : mO m_Scr_kindOf = 7 := by decide +kernel
theorem mO_Scr_clauseAt : mO m_Scr_clauseAt = 7 := by decide +kernel
theorem mO_Scr_firstOf : mO m_Scr_firstOf = 7 := by decide +kernel
theorem mO_X_playHours : mO m_X_playHours = 0 := by decide +kernel
theorem mO_X_playMove : mO m_X_playMove = 0 := by decide +kernel
theorem mO_Scr_secondOf : mO m_Scr_secondOf = 7 := by decide +kernel
theorem mO_X_years : mO m_X_years = 0 := by decide +kernel
theorem mO_X_passYear : mO m_X_passYear = 0 := by decide +kernel
theorem mO_X_undo : mO m_X_undo = 0 := by decide +kernel
theorem mO_Site_takeBack : mO m_Site_takeBack = 1 := by decide +kernel
theorem mO_X_of : mO m_X_of = 0 := by decide +kernel
theorem mO_X_howItIs : mO m_X_howItIs = 0 := by decide +kernel
theorem mO_X_is : mO m_X_is = 0 := by decide +kernel
theorem mO_X_book : mO m_X_book = 0 := by decide +kernel
theorem mO_Mom_lineField : mO m_Mom_lineField = 2 := by decide +kernel
theorem mO_X_foretold : mO m_X_foretold = 0 := by decide +kernel
theorem mO_X_holds : mO m_X_holds = 0 := by decide +kernel
theorem mO_Dis_isHolding : mO m_Dis_isHolding = 6 := by decide +kernel
theorem mO_X_grounded : mO m_X_grounded = 0 := by decide +kernel
theorem mO_X_round : mO m_X_round = 0 := by decide +kernel
theorem mO_Dis_roundOf : mO m_Dis_roundOf = 6 := by decide +kernel
theorem mO_X_stables : mO m_X_stables = 0 := by decide +kernel
theorem mO_Dis_findStable : mO m_Dis_findStable = 6 := by decide +kernel
theorem mO_Dis_addFound : mO m_Dis_addFound = 6 := by decide +kernel
theorem mO_Dis_answer : mO m_Dis_answer = 6 := by decide +kernel
theorem mO_X_preferred : mO m_X_preferred = 0 := by decide +kernel
theorem mO_Dis_findPreferred : mO m_Dis_findPreferred = 6 := by decide +kernel
theorem mO_Dis_isWithinHolding : mO m_Dis_isWithinHolding = 6 := by decide +kernel
theorem mO_X_naive : mO m_X_naive = 0 := by decide +kernel
theorem mO_Dis_findNaive : mO m_Dis_findNaive = 6 := by decide +kernel
theorem mO_Dis_isFree : mO m_Dis_isFree = 6 := by decide +kernel
theorem mO_Dis_canGrowFree : mO m_Dis_canGrowFree = 6 := by decide +kernel
theorem mO_X_ring : mO m_X_ring = 0 := by decide +kernel
theorem mO_Dis_ringOf : mO m_Dis_ringOf = 6 := by decide +kernel
theorem mO_X_inSets : mO m_X_inSets = 0 := by decide +kernel
theorem mO_Dis_foundWith : mO m_Dis_foundWith = 6 := by decide +kernel
theorem mO_X_repair : mO m_X_repair = 0 := by decide +kernel
theorem mO_Dis_firstToDrop : mO m_Dis_firstToDrop = 6 := by decide +kernel
theorem mO_X_asTens : mO m_X_asTens = 0 := by decide +kernel
theorem mO_X_heaviest : mO m_X_heaviest = 0 := by decide +kernel
theorem mO_Frm_weightOf : mO m_Frm_weightOf = 10 := by decide +kernel
theorem mO_X_explain : mO m_X_explain = 0 := by decide +kernel
theorem mO_Dis_findExplaining : mO m_Dis_findExplaining = 6 := by decide +kernel
theorem mO_X_orders : mO m_X_orders = 0 := by decide +kernel
theorem mO_Dis_countOrders : mO m_Dis_countOrders = 6 := by decide +kernel
theorem mO_X_order : mO m_X_order = 0 := by decide +kernel
theorem mO_X_all : mO m_X_all = 0 := by decide +kernel
theorem mO_Frm_allUnder : mO m_Frm_allUnder = 10 := by decide +kernel
theorem mO_Frm_directlyUnder : mO m_Frm_directlyUnder = 10 := by decide +kernel
theorem mO_X_over : mO m_X_over = 0 := by decide +kernel
theorem mO_Frm_allOver : mO m_Frm_allOver = 10 := by decide +kernel
theorem mO_X_high : mO m_X_high = 0 := by decide +kernel
theorem mO_Frm_heightOf : mO m_Frm_heightOf = 10 := by decide +kernel
theorem mO_X_least : mO m_X_least = 0 := by decide +kernel
theorem mO_X_stand : mO m_X_stand = 0 := by decide +kernel
theorem mO_X_commonDivisor : mO m_X_commonDivisor = 0 := by decide +kernel
theorem mO_X_vote : mO m_X_vote = 0 := by decide +kernel
theorem mO_Bal_isOrder : mO m_Bal_isOrder = 9 := by decide +kernel
theorem mO_Bal_optionAt : mO m_Bal_optionAt = 9 := by decide +kernel
theorem mO_Bal_isOption : mO m_Bal_isOption = 9 := by decide +kernel
theorem mO_X_beats : mO m_X_beats = 0 := by decide +kernel
theorem mO_Bal_margin : mO m_Bal_margin = 9 := by decide +kernel
theorem mO_Bal_placeOf : mO m_Bal_placeOf = 9 := by decide +kernel
theorem mO_X_agenda : mO m_X_agenda = 0 := by decide +kernel
theorem mO_Bal_leftBy : mO m_Bal_leftBy = 9 := by decide +kernel
theorem mO_X_lead : mO m_X_lead = 0 := by decide +kernel
theorem mO_X_winner : mO m_X_winner = 0 := by decide +kernel
theorem mO_Bal_pairsWinner : mO m_Bal_pairsWinner = 9 := by decide +kernel
theorem mO_Bal_isAhead : mO m_Bal_isAhead = 9 := by decide +kernel
theorem mO_Bal_countsWinner : mO m_Bal_countsWinner = 9 := by decide +kernel
theorem mO_Bal_countOf : mO m_Bal_countOf = 9 := by decide +kernel
theorem mO_X_score : mO m_X_score = 0 := by decide +kernel
theorem mO_Bal_scoreOf : mO m_Bal_scoreOf = 9 := by decide +kernel
theorem mO_X_top : mO m_X_top = 0 := by decide +kernel
theorem mO_X_said : mO m_X_said = 0 := by decide +kernel
theorem mO_X_whose : mO m_X_whose = 0 := by decide +kernel
theorem mO_X_saysAllSaid : mO m_X_saysAllSaid = 0 := by decide +kernel
theorem mO_X_gaps : mO m_X_gaps = 0 := by decide +kernel
theorem mO_X_unopposed : mO m_X_unopposed = 0 := by decide +kernel
theorem mO_X_atOdds : mO m_X_atOdds = 0 := by decide +kernel
theorem mO_X_loaded : mO m_X_loaded = 0 := by decide +kernel
theorem mO_X_ledger : mO m_X_ledger = 0 := by decide +kernel
theorem mO_Mom_linesOf : mO m_Mom_linesOf = 2 := by decide +kernel
theorem mO_X_image : mO m_X_image = 0 := by decide +kernel
theorem mO_Site_copyFrom : mO m_Site_copyFrom = 1 := by decide +kernel
theorem mO_X_back : mO m_X_back = 0 := by decide +kernel
theorem mO_X_about : mO m_X_about = 0 := by decide +kernel
theorem mO_M_init : mO m_M_init = 8 := by decide +kernel
theorem mO_M_copy : mO m_M_copy = 8 := by decide +kernel
theorem mO_M_plank : mO m_M_plank = 8 := by decide +kernel
theorem mO_M_isIn : mO m_M_isIn = 8 := by decide +kernel
theorem mO_M_arePlanks : mO m_M_arePlanks = 8 := by decide +kernel
theorem mO_M_everyone : mO m_M_everyone = 8 := by decide +kernel
theorem mO_M_feed : mO m_M_feed = 8 := by decide +kernel
theorem mO_M_four : mO m_M_four = 8 := by decide +kernel
theorem mO_M_end : mO m_M_end = 8 := by decide +kernel
theorem mO_M_text : mO m_M_text = 8 := by decide +kernel
theorem mO_M_readText : mO m_M_readText = 8 := by decide +kernel
theorem mO_M_nextToken : mO m_M_nextToken = 8 := by decide +kernel
theorem mO_M_byteAt : mO m_M_byteAt = 8 := by decide +kernel
theorem mO_M_isFigure : mO m_M_isFigure = 8 := by decide +kernel
theorem mO_M_isLetterByte : mO m_M_isLetterByte = 8 := by decide +kernel
theorem mO_M_isSign : mO m_M_isSign = 8 := by decide +kernel
theorem mO_M_clause : mO m_M_clause = 8 := by decide +kernel
theorem mO_M_sortOf : mO m_M_sortOf = 8 := by decide +kernel
theorem mO_M_w4 : mO m_M_w4 = 8 := by decide +kernel
theorem mO_M_w3 : mO m_M_w3 = 8 := by decide +kernel
theorem mO_M_w2 : mO m_M_w2 = 8 := by decide +kernel
theorem mO_M_isWord : mO m_M_isWord = 8 := by decide +kernel
theorem mO_M_w5 : mO m_M_w5 = 8 := by decide +kernel
theorem mO_M_isLong : mO m_M_isLong = 8 := by decide +kernel
theorem mO_M_w6 : mO m_M_w6 = 8 := by decide +kernel
theorem mO_M_has : mO m_M_has = 8 := by decide +kernel
theorem mO_M_body : mO m_M_body = 8 := by decide +kernel
theorem mO_M_pair : mO m_M_pair = 8 := by decide +kernel
theorem mO_M_figure : mO m_M_figure = 8 := by decide +kernel
theorem mO_M_lawClause : mO m_M_lawClause = 8 := by decide +kernel
theorem mO_M_summed : mO m_M_summed = 8 := by decide +kernel
theorem mO_M_behindOne : mO m_M_behindOne = 8 := by decide +kernel
theorem mO_M_betweenOf : mO m_M_betweenOf = 8 := by decide +kernel
theorem mO_M_openNow : mO m_M_openNow = 8 := by decide +kernel
theorem mO_M_openAt : mO m_M_openAt = 8 := by decide +kernel
theorem mO_M_isCompared : mO m_M_isCompared = 8 := by decide +kernel
theorem mO_M_rank : mO m_M_rank = 8 := by decide +kernel
theorem mO_M_compareOf : mO m_M_compareOf = 8 := by decide +kernel
theorem mO_M_settle : mO m_M_settle = 8 := by decide +kernel
theorem mO_M_emit : mO m_M_emit = 8 := by decide +kernel
theorem mO_M_partOf : mO m_M_partOf = 8 := by decide +kernel
theorem mO_M_endOne : mO m_M_endOne = 8 := by decide +kernel
theorem mO_M_beginOne : mO m_M_beginOne = 8 := by decide +kernel
theorem mO_M_nameOf : mO m_M_nameOf = 8 := by decide +kernel
theorem mO_M_isOf : mO m_M_isOf = 8 := by decide +kernel
theorem mO_M_opened : mO m_M_opened = 8 := by decide +kernel
theorem mO_M_isAskAhead : mO m_M_isAskAhead = 8 := by decide +kernel
theorem mO_M_fault : mO m_M_fault = 8 := by decide +kernel
theorem mO_M_by : mO m_M_by = 8 := by decide +kernel
theorem mO_M_undo : mO m_M_undo = 8 := by decide +kernel
theorem mO_M_put : mO m_M_put = 8 := by decide +kernel
theorem mO_M_canPut : mO m_M_canPut = 8 := by decide +kernel
theorem mO_M_isPlank : mO m_M_isPlank = 8 := by decide +kernel
theorem mO_M_those : mO m_M_those = 8 := by decide +kernel
theorem mO_M_putsOf : mO m_M_putsOf = 8 := by decide +kernel
theorem mO_M_name : mO m_M_name = 8 := by decide +kernel
theorem mO_M_bits : mO m_M_bits = 8 := by decide +kernel
theorem mO_M_against : mO m_M_against = 8 := by decide +kernel
theorem mO_M_restingOn : mO m_M_restingOn = 8 := by decide +kernel
theorem mO_M_says : mO m_M_says = 8 := by decide +kernel
theorem mO_M_summedUp : mO m_M_summedUp = 8 := by decide +kernel
theorem mO_M_heavyOf : mO m_M_heavyOf = 8 := by decide +kernel
theorem mO_M_bitsOf : mO m_M_bitsOf = 8 := by decide +kernel
theorem mO_M_two : mO m_M_two = 8 := by decide +kernel
theorem mO_M_clip : mO m_M_clip = 8 := by decide +kernel
theorem mO_M_isAsked : mO m_M_isAsked = 8 := by decide +kernel
theorem mO_M_joined : mO m_M_joined = 8 := by decide +kernel
theorem mO_M_cut : mO m_M_cut = 8 := by decide +kernel
theorem mO_M_keep : mO m_M_keep = 8 := by decide +kernel
theorem mO_M_become : mO m_M_become = 8 := by decide +kernel
theorem mO_M_write : mO m_M_write = 8 := by decide +kernel
theorem mO_M_take : mO m_M_take = 8 := by decide +kernel
theorem mO_M_canTake : mO m_M_canTake = 8 := by decide +kernel
theorem mO_M_concede : mO m_M_concede = 8 := by decide +kernel
theorem mO_M_canConcede : mO m_M_canConcede = 8 := by decide +kernel
theorem mO_M_layGrounded : mO m_M_layGrounded = 8 := by decide +kernel
theorem mO_M_objectedBy : mO m_M_objectedBy = 8 := by decide +kernel
theorem mO_M_object : mO m_M_object = 8 := by decide +kernel
theorem mO_M_hour : mO m_M_hour = 8 := by decide +kernel
theorem mO_M_arePassed : mO m_M_arePassed = 8 := by decide +kernel
theorem mO_M_pass : mO m_M_pass = 8 := by decide +kernel
theorem mO_M_drawnBy : mO m_M_drawnBy = 8 := by decide +kernel
theorem mO_M_anew : mO m_M_anew = 8 := by decide +kernel
theorem mO_M_fallsOf : mO m_M_fallsOf = 8 := by decide +kernel
theorem mO_M_fall : mO m_M_fall = 8 := by decide +kernel
theorem mO_M_played : mO m_M_played = 8 := by decide +kernel
theorem mO_M_isPlayed : mO m_M_isPlayed = 8 := by decide +kernel
theorem mO_M_years : mO m_M_years = 8 := by decide +kernel
theorem mO_M_happens : mO m_M_happens = 8 := by decide +kernel
theorem mO_M_of : mO m_M_of = 8 := by decide +kernel
theorem mO_M_is : mO m_M_is = 8 := by decide +kernel
theorem mO_M_book : mO m_M_book = 8 := by decide +kernel
theorem mO_M_entry : mO m_M_entry = 8 := by decide +kernel
theorem mO_M_ledger : mO m_M_ledger = 8 := by decide +kernel
theorem mO_M_gaps : mO m_M_gaps = 8 := by decide +kernel
theorem mO_M_unopposed : mO m_M_unopposed = 8 := by decide +kernel
theorem mO_M_atOdds : mO m_M_atOdds = 8 := by decide +kernel
theorem mO_M_loaded : mO m_M_loaded = 8 := by decide +kernel
theorem mO_M_loadOf : mO m_M_loadOf = 8 := by decide +kernel
theorem mO_M_foretold : mO m_M_foretold = 8 := by decide +kernel
theorem mO_M_holds : mO m_M_holds = 8 := by decide +kernel
theorem mO_M_isHeld : mO m_M_isHeld = 8 := by decide +kernel
theorem mO_M_isFree : mO m_M_isFree = 8 := by decide +kernel
theorem mO_M_grounded : mO m_M_grounded = 8 := by decide +kernel
theorem mO_M_round : mO m_M_round = 8 := by decide +kernel
theorem mO_M_stables : mO m_M_stables = 8 := by decide +kernel
theorem mO_M_setOf : mO m_M_setOf = 8 := by decide +kernel
theorem mO_M_laySets : mO m_M_laySets = 8 := by decide +kernel
theorem mO_M_isSort : mO m_M_isSort = 8 := by decide +kernel
theorem mO_M_preferred : mO m_M_preferred = 8 := by decide +kernel
theorem mO_M_naive : mO m_M_naive = 8 := by decide +kernel
theorem mO_M_ring : mO m_M_ring = 8 := by decide +kernel
theorem mO_M_inSets : mO m_M_inSets = 8 := by decide +kernel
theorem mO_M_repair : mO m_M_repair = 8 := by decide +kernel
theorem mO_M_isRepaired : mO m_M_isRepaired = 8 := by decide +kernel
theorem mO_M_change : mO m_M_change = 8 := by decide +kernel
theorem mO_M_isMade : mO m_M_isMade = 8 := by decide +kernel
theorem mO_M_heaviest : mO m_M_heaviest = 8 := by decide +kernel
theorem mO_M_weightOf : mO m_M_weightOf = 8 := by decide +kernel
theorem mO_M_explain : mO m_M_explain = 8 := by decide +kernel
theorem mO_M_orders : mO m_M_orders = 8 := by decide +kernel
theorem mO_M_isNext : mO m_M_isNext = 8 := by decide +kernel
theorem mO_M_order : mO m_M_order = 8 := by decide +kernel
theorem mO_M_all : mO m_M_all = 8 := by decide +kernel
theorem mO_M_underOf : mO m_M_underOf = 8 := by decide +kernel
theorem mO_M_over : mO m_M_over = 8 := by decide +kernel
theorem mO_M_high : mO m_M_high = 8 := by decide +kernel
theorem mO_M_least : mO m_M_least = 8 := by decide +kernel
theorem mO_M_stand : mO m_M_stand = 8 := by decide +kernel
theorem mO_M_divisor : mO m_M_divisor = 8 := by decide +kernel
theorem mO_M_vote : mO m_M_vote = 8 := by decide +kernel
theorem mO_M_isOrder : mO m_M_isOrder = 8 := by decide +kernel
theorem mO_M_digitOf : mO m_M_digitOf = 8 := by decide +kernel
theorem mO_M_beats : mO m_M_beats = 8 := by decide +kernel
theorem mO_M_isOption : mO m_M_isOption = 8 := by decide +kernel
theorem mO_M_more : mO m_M_more = 8 := by decide +kernel
theorem mO_M_placeIn : mO m_M_placeIn = 8 := by decide +kernel
theorem mO_M_agenda : mO m_M_agenda = 8 := by decide +kernel
theorem mO_M_leftBy : mO m_M_leftBy = 8 := by decide +kernel
theorem mO_M_lead : mO m_M_lead = 8 := by decide +kernel
theorem mO_M_winner : mO m_M_winner = 8 := by decide +kernel
theorem mO_M_isWinner : mO m_M_isWinner = 8 := by decide +kernel
theorem mO_M_pointsOf : mO m_M_pointsOf = 8 := by decide +kernel
theorem mO_M_score : mO m_M_score = 8 := by decide +kernel
theorem mO_M_top : mO m_M_top = 8 := by decide +kernel
theorem mO_M_areOver : mO m_M_areOver = 8 := by decide +kernel
theorem mO_M_said : mO m_M_said = 8 := by decide +kernel
theorem mO_M_whose : mO m_M_whose = 8 := by decide +kernel
theorem mO_M_image : mO m_M_image = 8 := by decide +kernel
theorem mO_M_back : mO m_M_back = 8 := by decide +kernel
theorem mO_M_about : mO m_M_about = 8 := by decide +kernel
theorem mO_Law_law : mO m_Law_law = 11 := by decide +kernel
