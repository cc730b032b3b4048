/-! TEXT: the reference's ones, at all levels -/
section ZON
variable {d : Nat} {tb : Nat → Nat} {tl T law o : Nat}
theorem z_one {sub : Nat → PR} (hsub : ∀ M k w cm P z, RfS M tb tl T law k w o cm P → gI M 174 18 = nI 0 → opn (kdT tb tl k) = true → P.length ≤ 6 * o + 5 → w + P.length ≤ k → k ≤ 300 → ZOr d M z tb tl T law k w o cm P (sub k)) : ZO d tb tl T law o (oneF (kdT tb tl) (vlT tb tl) law sub) := by
  intro M k w cm P z hS hw0 hask hlen hwk hk
  have h3t : tl ≤ 300 := hS.1.2.2.2.1
  unfold oneF
  by_cases e41 : kdT tb tl k = 41
  · have hk300 := kd_lt (tb := tb) (k := k) h3t (by omega)
    rw [if_pos e41]
    by_cases ev9 : vlT tb tl k ≤ 9999
    · rw [if_pos ev9]
      obtain ⟨M1, d1, hS1, him⟩ := be_num (d := d) hS e41 ev9 (by omega)
      refine ⟨fun q => absurd rfl q, fun _ => ⟨M1, w + 1, _, d1, hS1, ⟨by dsimp only; omega, by dsimp only; omega, by dsimp only; omega, by omega⟩, fun j hj => upc_ne (by omega), MV_num upc_eq ev9, fun f M'' hf => LH0 hw0 (him f M'' hf)⟩⟩
    · rw [if_neg ev9]
      exact ⟨fun _ => ⟨M, D.rfl', by rw [LH0 hw0 (be_big (d := d) hS e41 ev9), CFp (by omega) (by omega)], hS.2.1.2.1⟩, fun q => by cases q⟩
  · rw [if_neg e41]
    by_cases en : 8 ≤ kdT tb tl k ∧ kdT tb tl k ≤ 15
    · have hk300 := kd_lt (tb := tb) (k := k) h3t (by omega)
      rw [if_pos en]
      by_cases hq : wrn law (kdT tb tl k) = true
      · rw [if_pos hq]
        exact ⟨fun _ => ⟨M, D.rfl', by rw [LH0 hw0 (be_wrn (d := d) hS en hq), CFp (by omega) (by omega)], hS.2.1.2.1⟩, fun q => by cases q⟩
      · rw [if_neg hq]
        obtain ⟨M1, d1, hS1, him⟩ := be_nam (d := d) hS en (Bool.eq_false_iff.mpr hq) (by omega)
        refine ⟨fun q => absurd rfl q, fun _ => ⟨M1, w + 1, _, d1, hS1, ⟨by dsimp only; omega, by dsimp only; omega, by dsimp only; omega, by omega⟩, fun j hj => upc_ne (by omega), MV_nam upc_eq (by omega), fun f M'' hf => LH0 hw0 (him f M'' hf)⟩⟩
    · rw [if_neg en]
      by_cases eo : opn (kdT tb tl k) = true
      · rw [if_pos eo]
        exact hsub M k w cm P z hS hw0 eo hlen hwk hk
      · rw [if_neg eo]
        exact ⟨fun _ => ⟨M, D.rfl', by rw [LH0 hw0 (be_1 (d := d) hS e41 en (Bool.eq_false_iff.mpr eo) hask), CFp (by omega) (by omega)], hS.2.1.2.1⟩, fun q => by cases q⟩
theorem z_sub8 (M k w cm P z) (hS : RfS M tb tl T law k w 8 cm P) (hw0 : gI M 174 18 = nI 0) (eo : opn (kdT tb tl k) = true) : ZOr d M z tb tl T law k w 8 cm P (3, k, gZ) :=
  ⟨fun _ => ⟨M, D.rfl', by rw [LH0 hw0 (be_opn (d := d) hS eo (op_8 (d := d + 5) hS)), CFp (by omega) (by omega)], hS.2.1.2.1⟩, fun q => by cases q⟩
theorem z_nt8 (M k w cm P z) (hS : RfS M tb tl T law k w 8 cm P) (hw0 : gI M 174 18 = nI 0) (hc : cndA 4 k P) (e27 : kdT tb tl k = 27) : ZR MB 3 (enS tb tl) qC d M z tb tl T law k w 8 cm P (3, k, gZ) :=
  ⟨fun _ => ⟨M, D.rfl', by rw [LH0 hw0 (be_not (d := d) hS e27 hc.2.2.2.1 (op_8 (d := d + 5) hS)), CFp (by omega) (by omega)], hS.2.1.2.1⟩, fun q => by cases q⟩
theorem z_nt {ask : Nat → PR} (ho : o < 8) (h : ZC MB d tb tl T law (o + 1) 3 2 (cndA 4) (enS tb tl) qC ask) (M k w cm P z) (hS : RfS M tb tl T law k w o cm P) (hw0 : gI M 174 18 = nI 0) (hc : cndA 4 k P) (hlen : P.length ≤ 6 * o + 2) (hwk : w + P.length ≤ k) (hk : k ≤ 300) (e27 : kdT tb tl k = 27) : ZR MB 3 (enS tb tl) qC d M z tb tl T law k w o cm P (sq (ask (k + 1)) (fun k g => (0, k, gNot g))) := by
  have h3t : tl ≤ 300 := hS.1.2.2.2.1
  have hk300 := kd_lt (tb := tb) (k := k) h3t (by omega)
  obtain ⟨M1, d1, hS1, g1, r1⟩ := op_x (d := d + 5) (x := 20) hS ho (by omega) (by omega)
  have l1 : LHd d M z = LHd d M1 (some (.int (nI 0))) := by rw [LH0 hw0 (be_not (d := d) hS e27 hc.2.2.2.1 r1), CF0]
  have hv : oV (20 :: P) = 42 := by rw [oV_lo (by decide)]; exact hc.2.2.1
  obtain ⟨u1, u2⟩ := h M1 (k + 1) w cm (20 :: P) (some (.int (nI 0))) hS1 (g1.trans hw0) ⟨by show rk 20 < 4; decide, (by intro q; cases q), hv, askA_y hv (Or.inr (by decide)), rfl⟩ (by rw [List.length_cons]; omega) (by rw [List.length_cons]; omega) (by omega)
  by_cases e1 : (ask (k + 1)).1 = 0
  · obtain ⟨M3, w3, cm3, p3, z3, d3, hS3, hw3, hp3, hq3, hen3, ⟨c1, c2, c3, c4⟩, hag3, hpd3, hl3⟩ := u2 e1
    rw [sq_0 e1]
    have c5 : o + c20 (p3 ++ [20]) = o + 1 + c20 p3 := by rw [c20_app, show c20 [20] = 1 from rfl]; omega
    refine ⟨fun q => absurd rfl q, fun _ => ⟨M3, w3, cm3, p3 ++ [20], z3, d1.trans d3, by rw [c5, List.append_assoc]; exact hS3, hw3, ?_, cmpd_app p3 hq3, hen3, ⟨by dsimp only; omega, c2, by rw [List.length_append, List.length_singleton]; dsimp only; omega, by omega⟩, hag3, PD.snoc hpd3 (fun cm' ha hb' hc' => MB_not hb' hc') (Nat.le_refl _), l1.trans hl3⟩⟩
    intro x hx'
    rcases List.mem_append.mp hx' with y | y
    · have := hp3 x y; omega
    · rw [List.mem_singleton] at y; rw [y]; decide
  · obtain ⟨M3, d3, r3, g3⟩ := u1 e1
    rw [sq_1 e1]
    exact ⟨fun _ => ⟨M3, d1.trans d3, l1.trans r3, g3⟩, fun q => absurd q e1⟩
/-- a sum within a bracket, and the token that shuts it -/
theorem z_brk {one : Nat → PR} {b wd nb : Nat} {M : Mem} {k w : Nat} {cm : Nat → Nat × Nat} {P : List Nat} {z : Option Value} (ho : o ≤ 8) (h : ZO d tb tl T law o one) (hS : RfS M tb tl T law k w o cm (b :: P)) (hw0 : gI M 174 18 = nI 0) (hb : (b = 40 ∧ wd = 37) ∨ (b = 43 ∧ wd = 23 ∧ nb = 44) ∨ (b = 44 ∧ wd = 24)) (hlen : P.length + 1 ≤ 6 * o + 3) (hwk : w + P.length + 1 ≤ k) (hk : k ≤ 300) : ((ac (kdT tb tl) wd (smF (kdT tb tl) one k)).1 ≠ 0 → ZF d M z tb tl T (ac (kdT tb tl) wd (smF (kdT tb tl) one k))) ∧ ((ac (kdT tb tl) wd (smF (kdT tb tl) one k)).1 = 0 → ∃ k1 g, ac (kdT tb tl) wd (smF (kdT tb tl) one k) = (0, k1 + 1, g) ∧ kdT tb tl k1 = wd ∧ k1 < 300 ∧ ∃ M1 w1 cm1 p z1, D (PRm T) M M1 ∧ RfS M1 tb tl T law k1 w1 (o + c20 p) cm1 (p ++ b :: P) ∧ gI M1 174 18 = nI 1 ∧ (∀ x ∈ p, 1 ≤ rk x) ∧ ev (d + 8) m_M_betweenOf [.ref 174] NX M1 = some (some (.int (-nI 1)), NX, M1) ∧ oV (p ++ b :: P) = b ∧ oNw (p ++ b :: P) = nI b ∧ (k < k1 ∧ w1 + p.length + k ≤ w + k1 ∧ w < w1) ∧ (∀ j, j < w → cm1 j = cm j) ∧ PD MV cm1 w w1 p g ∧ LHd d M z = LHd d M1 z1) := by
  have h3t : tl ≤ 300 := hS.1.2.2.2.1
  have h40 : 40 ≤ b ∧ b ≠ 42 ∧ b ≠ 41 := by omega
  have hv := oV_hd (P := P) h40.1
  have rb : rk b = 0 := by unfold rk; rw [if_pos h40.1]
  obtain ⟨y1, y2⟩ := z_sum ho h M k w cm (b :: P) z hS hw0 ⟨by show rk b < 5; omega, by intro q; injection q with q; omega, fun _ => askA_v (by omega)⟩ (by rw [List.length_cons]; omega) (by rw [List.length_cons]; omega) hk
  by_cases e1 : (smF (kdT tb tl) one k).1 = 0
  · obtain ⟨M1, w1, cm1, p1, z1, d1, hS1, hw1, hp1, _, hen1, ⟨b1, b2, b3, b4⟩, hag1, hpd1, hl1⟩ := y2 e1
    have h1 : ∀ x ∈ p1, 1 ≤ rk x := fun x hx => by have := hp1 x hx; omega
    have hv1 : oV (p1 ++ b :: P) = b := by rw [oV_app h1]; exact hv.1
    have hn1 : oNw (p1 ++ b :: P) = nI b := by rw [oNw_app h1]; exact hv.2
    have hbw := bw_no (d := d + 5) hS1 (enS_nAr hen1) (by omega)
    by_cases ek : kdT tb tl (smF (kdT tb tl) one k).2.1 = wd
    · rw [ac_y e1 ek]
      refine ⟨fun q => absurd rfl q, fun _ => ⟨_, _, rfl, ek, kd_lt (tb := tb) h3t (by omega), M1, w1, cm1, p1, z1, d1, hS1, hw1, h1, hbw, hv1, hn1, ⟨b1, b3, b4⟩, hag1, hpd1, hl1⟩⟩
    · rw [ac_n e1 ek]
      have hpr : prt (oV (p1 ++ b :: P)) (kdT tb tl (smF (kdT tb tl) one k).2.1) (cmpd (p1 ++ b :: P)) = -nI 1 := by
        rw [hv1]
        unfold prt
        rcases hb with ⟨rfl, rfl⟩ | ⟨rfl, rfl, _⟩ | ⟨rfl, rfl⟩
        · rw [if_pos rfl, if_neg ek]
        · rw [if_neg (by decide), if_neg (by decide), if_pos rfl, if_neg ek]
        · rw [if_neg (by decide), if_neg (by decide), if_neg (by decide), if_pos rfl, if_neg ek]
      have r2 := bh_no (d := d) hS1 hbw hpr
      refine ⟨fun _ => ⟨M1, d1, ?_, hS1.2.1.2.1⟩, fun q => by cases q⟩
      rw [hl1, LH1 hw1 r2, CFm hS1 (by omega)]
  · rw [ac_f e1]
    exact ⟨y1, fun q => absurd q e1⟩
end ZON
