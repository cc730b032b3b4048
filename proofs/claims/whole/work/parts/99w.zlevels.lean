/-! TEXT: the reference's choices, and all levels -/
section ZLV
variable {d : Nat} {tb : Nat → Nat} {tl T law o : Nat}
/-- from behind the if on: pile with it on its top -/
theorem z_cho {one ask : Nat → PR} (ho : o < 8) (h : ZO d tb tl T law (o + 1) one) (ha : ZC MB d tb tl T law (o + 1) 3 2 (cndA 4) (enS tb tl) qC ask) {M : Mem} {k w : Nat} {cm : Nat → Nat × Nat} {P : List Nat} {z : Option Value} (hS : RfS M tb tl T law k w (o + 1) cm (42 :: P)) (hw0 : gI M 174 18 = nI 0) (hlen : P.length ≤ 6 * o + 5) (hwk : w + P.length + 1 ≤ k) (hk : k ≤ 300) : ZOr d M z tb tl T law k w o cm P (choF (kdT tb tl) one ask k) := by
  have h3t : tl ≤ 300 := hS.1.2.2.2.1
  have hv := oV_hd (b := 42) (P := P) (by decide)
  obtain ⟨y1, y2⟩ := z_either (by omega) ha M k w cm (42 :: P) z hS hw0 ⟨by show rk 42 < 1; decide, (by intro q; cases q), hv.1, askA_y hv.1 (Or.inl (by decide)), rfl⟩ (by rw [List.length_cons]; omega) (by rw [List.length_cons]; omega) hk
  unfold choF
  by_cases e1 : (eitF (kdT tb tl) ask k).1 = 0
  · obtain ⟨M1, w1, cm1, p1, z1, d1, hS1, hw1, hp1, hq1, hen1, ⟨b1, b2, b3, b4⟩, hag1, hpd1, hl1⟩ := y2 e1
    have h1 : ∀ x ∈ p1, 1 ≤ rk x := fun x hx => (hp1 x hx).1
    have hv1 : oV (p1 ++ 42 :: P) = 42 := by rw [oV_app h1]; exact hv.1
    have hc1 : cmpd (p1 ++ 42 :: P) = true := cmpd_app p1 hq1
    have hbw := bw_log (d := d + 5) hS1 (enS_nAr hen1.1.1) hv1 hc1
    have n26 := hen1.1.2
    have n25 := hen1.2
    unfold o26 at n26
    unfold o25 at n25
    rw [decide_eq_false_iff_not] at n26 n25
    rw [if_neg n26, if_neg n25] at hbw
    by_cases ek : kdT tb tl (eitF (kdT tb tl) ask k).2.1 = 22
    · rw [ac_y e1 ek, sq_0 rfl]
      have hk300 := kd_lt (tb := tb) (k := (eitF (kdT tb tl) ask k).2.1) h3t (by omega)
      dsimp only
      generalize (eitF (kdT tb tl) ask k).2.1 = k1 at *
      generalize (eitF (kdT tb tl) ask k).2.2 = gq at *
      have hpr : prt (oV (p1 ++ 42 :: P)) (kdT tb tl k1) (cmpd (p1 ++ 42 :: P)) = nI 43 := by
        rw [hv1, hc1]
        unfold prt
        rw [if_neg (by decide), if_pos rfl, if_pos ⟨ek, rfl⟩]
      obtain ⟨M2, d2, hS2, hw2, r2⟩ := bh_part (d := d) (y := 43) (b := 42) hS1 hbw hpr (by decide) (by decide) h1 (by omega)
      have l2 : LHd d M z = LHd d M2 (some (.int (nI 0))) := by rw [hl1, LH1 hw1 r2, CF0]
      have hdq := hpd1.done
      obtain ⟨u1, u2⟩ := z_brk (b := 43) (wd := 23) (nb := 44) (z := some (.int (nI 0))) (by omega) h hS2 hw2 (Or.inr (Or.inl ⟨rfl, rfl, rfl⟩)) (by omega) (by omega) (by omega)
      by_cases e3 : (ac (kdT tb tl) 23 (smF (kdT tb tl) one (k1 + 1))).1 = 0
      · obtain ⟨k3, ga, ea, ek3, hk3, M3, w3, cm3, p3, z3, d3, hS3, hw3, h3, hbw3, hv3, hn3, ⟨c1, c2, c3⟩, hag3, hpd3, hl3⟩ := u2 e3
        rw [ea, sq_0 rfl]
        dsimp only
        have hpr3 : prt (oV (p3 ++ 43 :: P)) (kdT tb tl k3) (cmpd (p3 ++ 43 :: P)) = nI 44 := by
          rw [hv3, ek3]
          rfl
        obtain ⟨M4, d4, hS4, hw4, r4⟩ := bh_part (d := d) (y := 44) (b := 43) hS3 hbw3 hpr3 (by decide) (by decide) h3 (by omega)
        have l4 : LHd d M z = LHd d M4 (some (.int (nI 0))) := by rw [l2, hl3, LH1 hw3 r4, CF0]
        have hda := hpd3.done
        obtain ⟨v1, v2⟩ := z_brk (b := 44) (wd := 24) (nb := 0) (z := some (.int (nI 0))) (by omega) h hS4 hw4 (Or.inr (Or.inr ⟨rfl, rfl⟩)) (by omega) (by omega) (by omega)
        by_cases e5 : (ac (kdT tb tl) 24 (smF (kdT tb tl) one (k3 + 1))).1 = 0
        · obtain ⟨k5, gb, eb, ek5, hk5, M5, w5, cm5, p5, z5, d5, hS5, hw5, h5, hbw5, hv5, hn5, ⟨f1, f2, f3⟩, hag5, hpd5, hl5⟩ := v2 e5
          rw [eb, sq_0 rfl]
          dsimp only
          have hpr5 : prt (oV (p5 ++ 44 :: P)) (kdT tb tl k5) (cmpd (p5 ++ 44 :: P)) = nI 0 := by
            rw [hv5, ek5]
            rfl
          obtain ⟨M6, w6, cm6, d6, s1, s2, hS6, him⟩ := bh_shut (d := d) (b := 44) hS5 hbw5 hpr5 hn5 (by decide) h5 (by omega)
          obtain ⟨t1, t2⟩ := s1 rfl
          have hdb := hpd5.done
          have hlt1 := hdq.1
          have hlt3 := hda.1
          have hlt5 := hdb.1
          have g5 : ∀ j, j < w5 + p5.length → cm6 j = emt cm5 w5 p5 j := fun j hj => by rw [t2]; exact upc_ne (by omega)
          have g3 : ∀ j, j < w3 + p3.length → cm6 j = emt cm3 w3 p3 j := fun j hj => by rw [g5 j (by omega), emt_lo _ _ _ (by omega)]; exact hag5 j hj
          have g1 : ∀ j, j < w1 + p1.length → cm6 j = emt cm1 w1 p1 j := fun j hj => by rw [g3 j (by omega), emt_lo _ _ _ (by omega)]; exact hag3 j hj
          refine ⟨fun q => absurd rfl q, fun _ => ⟨M6, w6, cm6, ((((d1.trans d2).trans d3).trans d4).trans d5).trans d6, hS6, ⟨by dsimp only; omega, by dsimp only; omega, by dsimp only; omega, by omega⟩, fun j hj => ?_, ?_, fun f M'' hf => ?_⟩⟩
          · rw [g1 j (by omega), emt_lo _ _ _ (by omega)]
            exact hag1 j hj
          · rw [t1]
            exact MV_sel (hdq.congr (fun j _ y => g1 j y)) (hda.congr (fun j _ y => g3 j y)) (hdb.congr (fun j _ y => g5 j y)) (by rw [t2]; exact upc_eq)
          · rw [l4, hl5, LH1 hw5 (him f M'' hf)]
        · obtain ⟨M5, d5, r5, g5⟩ := v1 e5
          rw [sq_1 e5]
          exact ⟨fun _ => ⟨M5, (((d1.trans d2).trans d3).trans d4).trans d5, l4.trans r5, g5⟩, fun q => absurd q e5⟩
      · obtain ⟨M3, d3, r3, g3⟩ := u1 e3
        rw [sq_1 e3]
        exact ⟨fun _ => ⟨M3, (d1.trans d2).trans d3, l2.trans r3, g3⟩, fun q => absurd q e3⟩
    · rw [ac_n e1 ek, sq_1 (by simp)]
      have hpr : prt (oV (p1 ++ 42 :: P)) (kdT tb tl (eitF (kdT tb tl) ask k).2.1) (cmpd (p1 ++ 42 :: P)) = -nI 1 := by
        rw [hv1]
        unfold prt
        rw [if_neg (by decide), if_pos rfl, if_neg (fun q => ek q.1)]
      have r2 := bh_no (d := d) hS1 hbw hpr
      refine ⟨fun _ => ⟨M1, d1, ?_, hS1.2.1.2.1⟩, fun q => by cases q⟩
      rw [hl1, LH1 hw1 r2, CFm hS1 (by omega)]
  · rw [ac_f e1, sq_1 e1]
    exact ⟨y1, fun q => absurd q e1⟩
theorem z_inner {one ask : Nat → PR} (ho : o < 8) (h : ZO d tb tl T law (o + 1) one) (ha : ZC MB d tb tl T law (o + 1) 3 2 (cndA 4) (enS tb tl) qC ask) (M k w cm P z) (hS : RfS M tb tl T law k w o cm P) (hw0 : gI M 174 18 = nI 0) (eo : opn (kdT tb tl k) = true) (hlen : P.length ≤ 6 * o + 5) (hwk : w + P.length ≤ k) (hk : k ≤ 300) : ZOr d M z tb tl T law k w o cm P (innF (kdT tb tl) one ask k) := by
  have h3t : tl ≤ 300 := hS.1.2.2.2.1
  have eo' := eo
  unfold opn at eo'
  rw [decide_eq_true_eq] at eo'
  have hk300 := kd_lt (tb := tb) (k := k) h3t (by omega)
  have hx : oOf (kdT tb tl k) < 64 := by rcases eo' with q | q | q | q | q <;> rw [q] <;> decide
  obtain ⟨M1, d1, hS1, g1, r1⟩ := op_x (d := d + 5) (x := oOf (kdT tb tl k)) hS ho hx (by omega)
  have l1 : LHd d M z = LHd d M1 (some (.int (nI 0))) := by rw [LH0 hw0 (be_opn (d := d) hS eo r1), CF0]
  have hw1 := g1.trans hw0
  unfold innF
  by_cases f1 : kdT tb tl k = 36
  · rw [if_pos f1]
    rw [f1, show oOf 36 = 40 from rfl] at hS1
    obtain ⟨u1, u2⟩ := z_brk (b := 40) (wd := 37) (nb := 0) (z := some (.int (nI 0))) (by omega) h hS1 hw1 (Or.inl ⟨rfl, rfl⟩) (by omega) (by omega) (by omega)
    by_cases e1 : (ac (kdT tb tl) 37 (smF (kdT tb tl) one (k + 1))).1 = 0
    · obtain ⟨k3, ga, ea, ek3, hk3, M3, w3, cm3, p3, z3, d3, hS3, hw3, h3, hbw3, hv3, hn3, ⟨c1, c2, c3⟩, hag3, hpd3, hl3⟩ := u2 e1
      rw [ea]
      have hpr3 : prt (oV (p3 ++ 40 :: P)) (kdT tb tl k3) (cmpd (p3 ++ 40 :: P)) = nI 0 := by
        rw [hv3, ek3]
        rfl
      obtain ⟨M6, w6, cm6, d6, s1, s2, hS6, him⟩ := bh_shut (d := d) (b := 40) hS3 hbw3 hpr3 hn3 (by decide) h3 (by omega)
      obtain ⟨t1, t2⟩ := s2 (by decide)
      have hdb := hpd3.done
      have hlt := hdb.1
      refine ⟨fun q => absurd rfl q, fun _ => ⟨M6, w6, cm6, (d1.trans d3).trans d6, hS6, ⟨by dsimp only; omega, by dsimp only; omega, by dsimp only; omega, by omega⟩, fun j hj => ?_, ?_, fun f M'' hf => ?_⟩⟩
      · rw [t2, emt_lo _ _ _ (by omega)]
        exact hag3 j hj
      · rw [t1, t2]
        exact hdb
      · rw [l1, hl3, LH1 hw3 (him f M'' hf)]
    · obtain ⟨M3, d3, r3, g3⟩ := u1 e1
      exact ⟨fun _ => ⟨M3, d1.trans d3, l1.trans r3, g3⟩, fun q => absurd q e1⟩
  · rw [if_neg f1]
    have un : ∀ x (G : Gv → Gv), oOf (kdT tb tl k) = x → x < 40 → rk x = 7 → (∀ cm s t g, MV cm s t g → cm t = (x, 0) → MV cm s (t + 1) (G g)) → ZOr d M z tb tl T law k w o cm P (sq (one (k + 1)) (fun k g => (0, k, G g))) := by
      intro x G hxe hx40 hrk hG
      rw [hxe] at hS1
      obtain ⟨u1, u2⟩ := h M1 (k + 1) w cm (x :: P) (some (.int (nI 0))) hS1 hw1 (fun _ => askA_no hx40 (by omega)) (by rw [List.length_cons]; omega) (by rw [List.length_cons]; omega) (by omega)
      by_cases e1 : (one (k + 1)).1 = 0
      · obtain ⟨M2, w2, cm2, d2, hS2, ⟨c1, c2, c3, c4⟩, hag2, hmv, him⟩ := u2 e1
        rw [sq_0 e1]
        obtain ⟨M3, d3, hS3, r3⟩ := en_pop (d := d + 5) hS2 hrk (by omega)
        refine ⟨fun q => absurd rfl q, fun _ => ⟨M3, w2 + 1, _, (d1.trans d2).trans d3, hS3, ⟨by dsimp only; omega, c2, by dsimp only; omega, by omega⟩, fun j hj => by rw [upc_ne (by omega)]; exact hag2 j hj, hG _ _ _ _ (hmv.congr (fun j _ y => upc_ne (by omega))) upc_eq, fun f M'' hf => ?_⟩⟩
        rw [l1]
        exact him f M'' (r3.trans hf)
      · obtain ⟨M3, d3, r3, g3⟩ := u1 e1
        rw [sq_1 e1]
        exact ⟨fun _ => ⟨M3, d1.trans d3, l1.trans r3, g3⟩, fun q => absurd q e1⟩
    by_cases f2 : kdT tb tl k = 33
    · rw [if_pos f2]
      exact un 5 gNeg (by rw [f2]; rfl) (by decide) (by decide) (fun cm s t g a b => MV_neg a b)
    · rw [if_neg f2]
      by_cases f3 : kdT tb tl k = 19
      · rw [if_pos f3]
        rw [f3, show oOf 19 = 41 from rfl] at hS1
        obtain ⟨u1, u2⟩ := h M1 (k + 1) w cm (41 :: P) (some (.int (nI 0))) hS1 hw1 (fun _ => askA_v (by rw [(oV_hd (by decide)).1]; decide)) (by rw [List.length_cons]; omega) (by rw [List.length_cons]; omega) (by omega)
        by_cases e1 : (one (k + 1)).1 = 0
        · obtain ⟨M2, w2, cm2, d2, hS2, ⟨c1, c2, c3, c4⟩, hag2, hmv, him⟩ := u2 e1
          by_cases ek : kdT tb tl (one (k + 1)).2.1 = 18
          · rw [ac_y e1 ek, sq_0 rfl]
            have hk3 := kd_lt (tb := tb) (k := (one (k + 1)).2.1) h3t (by omega)
            dsimp only
            generalize (one (k + 1)).2.1 = k2 at *
            generalize (one (k + 1)).2.2 = ga at *
            obtain ⟨M3, d3, hS3, hw3, r3⟩ := en_of (d := d + 5) hS2 ek
            have l3 : LHd d M z = LHd d M3 (some (.int (nI 0))) := by rw [l1, him _ _ r3, CF0]
            obtain ⟨v1, v2⟩ := h M3 (k2 + 1) w2 cm2 (4 :: P) (some (.int (nI 0))) hS3 hw3 (fun _ => askA_no (by decide) (by decide)) (by rw [List.length_cons]; omega) (by rw [List.length_cons]; omega) (by omega)
            by_cases e4 : (one (k2 + 1)).1 = 0
            · obtain ⟨M4, w4, cm4, d4, hS4, ⟨b1, b2, b3, b4⟩, hag4, hmv4, him4⟩ := v2 e4
              rw [sq_0 e4]
              obtain ⟨M5, d5, hS5, r5⟩ := en_pop (d := d + 5) hS4 (by decide) (by omega)
              refine ⟨fun q => absurd rfl q, fun _ => ⟨M5, w4 + 1, _, (((d1.trans d2).trans d3).trans d4).trans d5, hS5, ⟨by dsimp only; omega, b2, by dsimp only; omega, by omega⟩, fun j hj => by rw [upc_ne (by omega), hag4 j (by omega)]; exact hag2 j hj, MV_bts (hmv.congr (fun j _ y => by rw [upc_ne (by omega)]; exact hag4 j y)) (hmv4.congr (fun j _ y => upc_ne (by omega))) upc_eq, fun f M'' hf => ?_⟩⟩
              rw [l3]
              exact him4 f M'' (r5.trans hf)
            · obtain ⟨M4, d4, r4, g4⟩ := v1 e4
              rw [sq_1 e4]
              exact ⟨fun _ => ⟨M4, ((d1.trans d2).trans d3).trans d4, l3.trans r4, g4⟩, fun q => absurd q e4⟩
          · rw [ac_n e1 ek, sq_1 (by simp)]
            have r3 := en_no (d := d + 5) hS2 ek
            refine ⟨fun _ => ⟨sI M2 174 18 (nI 1), (d1.trans d2).sI (Or.inl ⟨rfl, by omega⟩), by rw [l1, him _ _ r3, CFp (by omega) (by omega)], ?_⟩, fun q => by cases q⟩
            rw [gI_sI_nj (by decide)]
            exact hS2.2.1.2.1
        · obtain ⟨M3, d3, r3, g3⟩ := u1 e1
          rw [ac_f e1, sq_1 e1]
          exact ⟨fun _ => ⟨M3, d1.trans d3, l1.trans r3, g3⟩, fun q => absurd q e1⟩
      · rw [if_neg f3]
        by_cases f4 : kdT tb tl k = 20
        · rw [if_pos f4]
          exact un 2 gHvy (by rw [f4]; rfl) (by decide) (by decide) (fun cm s t g a b => MV_hvy a b)
        · have f5 : kdT tb tl k = 21 := by omega
          rw [if_neg f4]
          rw [f5, show oOf 21 = 42 from rfl] at hS1
          obtain ⟨y1, y2⟩ := z_cho (z := some (.int (nI 0))) ho h ha hS1 hw1 hlen (by omega) (by omega)
          refine ⟨fun q => ?_, fun q => ?_⟩
          · obtain ⟨M3, d3, r3, g3⟩ := y1 q
            exact ⟨M3, d1.trans d3, l1.trans r3, g3⟩
          · obtain ⟨M2, w2, cm2, d2, hS2, ⟨c1, c2, c3, c4⟩, hag2, hmv, him⟩ := y2 q
            exact ⟨M2, w2, cm2, d1.trans d2, hS2, ⟨by omega, c2, by omega, c4⟩, hag2, hmv, fun f M'' hf => l1.trans (him f M'' hf)⟩
theorem z_lv : ∀ n o, o + n = 8 → ZO d tb tl T law o (lv (kdT tb tl) (vlT tb tl) law n).1 ∧ ZC MB d tb tl T law o 3 2 (cndA 4) (enS tb tl) qC (lv (kdT tb tl) (vlT tb tl) law n).2 := by
  intro n
  induction n with
  | zero =>
    intro o ho
    have ho8 : o = 8 := by omega
    subst ho8
    have hone : ZO d tb tl T law 8 (lv (kdT tb tl) (vlT tb tl) law 0).1 := z_one (fun M k w cm P z h1 h2 h3 _ _ _ => z_sub8 M k w cm P z h1 h2 h3)
    exact ⟨hone, z_ask (by omega) hone (fun M k w cm P z h1 h2 h3 _ _ _ h7 => z_nt8 M k w cm P z h1 h2 h3 h7)⟩
  | succ n ih =>
    intro o ho
    obtain ⟨i1, i2⟩ := ih (o + 1) (by omega)
    have hone : ZO d tb tl T law o (lv (kdT tb tl) (vlT tb tl) law (n + 1)).1 := z_one (fun M k w cm P z h1 h2 h3 h4 h5 h6 => z_inner (by omega) i1 i2 M k w cm P z h1 h2 h3 h4 h5 h6)
    exact ⟨hone, z_ask (by omega) hone (fun M k w cm P z h1 h2 h3 h4 h5 h6 h7 => z_nt (by omega) i2 M k w cm P z h1 h2 h3 h4 h5 h6 h7)⟩
end ZLV
