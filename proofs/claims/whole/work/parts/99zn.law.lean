/-! THE LAW RUNS -/
def mo0 : Mo := (0, 0, 0, 0, 0, 337, 0, fun _ => (0, 0, 0, 0))
def st0 : St := ((0, fun _ => 0, fun _ => 0), mo0, (0, fun _ => mo0), (0, -nI 1), (0, fun _ => 0), (0, fun _ => 0, fun _ => 0))
theorem ok0 : OkS st0 := by
  have hb : OkB 0 0 := ⟨by decide, fun p i _ _ h => by unfold row at h; rw [Nat.zero_div, Nat.zero_and, Nat.zero_testBit] at h; cases h⟩
  have hm : OkM 0 mo0 := ⟨by decide, by decide, fun i z => (by have z1 := z.1; rw [show mUp mo0 = 0 from rfl, Nat.zero_testBit] at z1; cases z1), hb, by decide, by decide, by decide, by decide, fun k hk => absurd hk (Nat.not_lt_zero _)⟩
  exact ⟨⟨by decide, fun p hp => absurd hp (Nat.not_lt_zero _)⟩, hm, by decide, fun i hi => absurd hi (Nat.not_lt_zero _), by decide, Or.inl rfl, by decide, fun i hi => absurd hi (Nat.not_lt_zero _), by decide, fun i hi => absurd hi (Nat.not_lt_zero _)⟩
theorem wdB : (∀ i : Fin 139, wordsB.getD i.1 0 = nI (wds.getD i.1 0)) ∧ ∀ i : Fin 11, signsB.getD i.1 0 = nI (sgs.getD i.1 0) := by decide +kernel
section LRN
variable {M : Mem} {L : Nat} {xs : Nat → Int32}
theorem sx0 {b : Nat} (hb : b = 1 ∨ b = 70) (h : FI 0 174 M) (hl : ∀ k j, gL M k j = 0) : SX M b st0 := by
  have hz : ∀ j, j ≠ 8 → gI M b j = nI 0 := fun j hj => by
    rw [(h b j (by omega) (by omega)).1]
    unfold ini
    rw [if_neg (fun z => hj z.2), if_neg (by omega), if_neg (by omega)]
    rfl
  have h8 : gI M b 8 = -nI 1 := by
    rw [(h b 8 (by omega) (by omega)).1]
    unfold ini
    rw [if_pos ⟨hb, rfl⟩]
    rfl
  have hm : ∀ j, j ≠ 5 → gI M (b + 3) j = nI 0 := fun j hj => by
    rw [(h (b + 3) j (by omega) (by omega)).1]
    unfold ini
    rw [if_neg (by omega), if_neg (by omega), if_neg (fun z => hj z.2)]
    rfl
  have h5 : gI M (b + 3) 5 = nI 337 := by
    rw [(h (b + 3) 5 (by omega) (by omega)).1]
    unfold ini
    rw [if_neg (by omega), if_neg (by omega), if_pos (by omega)]
    rfl
  refine ⟨⟨hz 0 (by decide), fun p hp => absurd hp (Nat.not_lt_zero _)⟩, ⟨hm 0 (by decide), hm 1 (by decide), by rw [hl]; rfl, hm 3 (by decide), hm 4 (by decide), h5, hm 7 (by decide), fun k hk => absurd hk (Nat.not_lt_zero _)⟩, ⟨0, by decide, hz 5 (by decide), hz 6 (by decide), fun i hi => absurd hi (Nat.not_lt_zero _)⟩, ⟨hz 7 (by decide), h8⟩, ⟨hz 10 (by decide), fun i hi => absurd hi (Nat.not_lt_zero _)⟩, ⟨hz 13 (by decide), fun i hi => absurd hi (Nat.not_lt_zero _)⟩⟩
theorem sm0 {c : Nat} (h : ∀ j, j < 1595 → gI M c j = if j = 2 then -1 else if j = 7 then 337 else 0) : SM M c st0 := by
  have hz : ∀ j, j < 1595 → j ≠ 2 → j ≠ 7 → gI M c j = nI 0 := fun j h1 h2 h3 => by rw [h j h1, if_neg h2, if_neg h3]; rfl
  have h7 : gI M c 7 = nI 337 := by rw [h 7 (by decide)]; rfl
  have h2 : gI M c 2 = -nI 1 := by rw [h 2 (by decide)]; rfl
  refine ⟨⟨hz 0 (by decide) (by decide) (by decide), fun p hp => absurd hp (Nat.not_lt_zero _)⟩, ⟨hz 6 (by decide) (by decide) (by decide), h7, hz 8 (by decide) (by decide) (by decide), hz 9 (by decide) (by decide) (by decide), fun p hp => ?_, fun p hp => ?_, fun k hk => absurd hk (Nat.not_lt_zero _)⟩, ⟨hz 3 (by decide) (by decide) (by decide), fun i hi => absurd hi (Nat.not_lt_zero _)⟩, ⟨hz 1 (by decide) (by decide) (by decide), h2⟩, ⟨hz 4 (by decide) (by decide) (by decide), fun i hi => absurd hi (Nat.not_lt_zero _)⟩, ⟨hz 5 (by decide) (by decide) (by decide), fun i hi => absurd hi (Nat.not_lt_zero _)⟩⟩
  · rw [hz _ (by omega) (by omega) (by omega)]
    unfold how
    rw [show mCo (sNow st0) = 0 from rfl, show mUp (sNow st0) = 0 from rfl, Nat.zero_testBit, if_neg (by decide), if_neg (by decide)]
  · rw [hz _ (by omega) (by omega) (by omega)]
    unfold row
    rw [show mOb (sNow st0) = 0 from rfl, Nat.zero_div, Nat.zero_and]
theorem ing0 {M1 M2 : Mem} (d1 : D (fun k _ => k < 174) (M0 L xs) M1) (f1 : FI 0 174 M1) (l1 : Lz (M0 L xs) M1) (d2 : D (fun k _ => 174 ≤ k ∧ k < 189) M1 M2) (hF : FM M2) (h5 : ∀ j, j < 1595 → gI M2 175 j = if j = 2 then -1 else if j = 7 then 337 else 0) (h6 : ∀ j, j < 1595 → gI M2 176 j = if j = 2 then -1 else if j = 7 then 337 else 0) (h4 : ∀ j, gI M2 174 j = if j = 24 then 1 else if j = 6 then -1 else if j = 5 then -1 else 0) : Ing M2 L xs := by
  have hl : ∀ k j, gL M1 k j = 0 := l1 (fun _ _ => rfl)
  have dd : D (fun k _ => k < 1000) (M0 L xs) M2 := (d1.mono (fun k j z => by omega)).trans (d2.mono (fun k j z => by omega))
  have f2 : FI 0 174 M2 := f1.mv d2 (fun k j z => by omega)
  have hz : ∀ k j, k < 174 → (k ≠ 1 ∧ k ≠ 70 ∧ k ≠ 145 ∧ k = 0 ∨ k = 140) → gI M2 k j = nI 0 := fun k j h1 h2 => by
    rw [(f2 k j (by omega) h1).1]
    unfold ini
    rw [if_neg (by omega), if_neg (by omega), if_neg (by omega)]
    rfl
  have hsx : ∀ b, b = 1 ∨ b = 70 → SX M2 b st0 := fun b hb => (sx0 hb f1 hl).dP ok0 d2 (fun k j z => by omega)
  have hrx : RX M2 := fun k j a ha => by
    have hk : k < 174 := by
      by_cases e : k < 174
      · exact e
      · exfalso
        rw [rxt_hi (by omega)] at ha
        cases ha
    exact (f2 k j (by omega) hk).2 a ha
  have hx : IX M2 st0 st0 (fun _ => x0T) (fun _ => 0) 0 (false, 0, 0) := ⟨hrx, hsx 1 (Or.inl rfl), hsx 70 (Or.inr rfl), fun t ht => absurd ht (Nat.not_lt_zero _), ⟨hz 140 1 (by decide) (Or.inr rfl), fun i hi => absurd hi (Nat.not_lt_zero _)⟩, ⟨hz 0 8 (by decide) (Or.inl (by decide)), fun z => by cases z⟩⟩
  have hm : IM M2 st0 st0 (fun _ => x0T) (fun _ => 0) 0 (false, 0, 0) := ⟨hF, sm0 h5, sm0 h6, fun t ht => absurd ht (Nat.not_lt_zero _), ⟨by rw [h4]; rfl, fun i hi => absurd hi (Nat.not_lt_zero _)⟩, ⟨by rw [h4]; rfl, by rw [h4]; rfl⟩, by rw [h4]; rfl⟩
  have hw0 : StrW (M0 L xs) := ⟨fun i hi => wdB.1 ⟨i, hi⟩, fun i hi => wdB.2 ⟨i, hi⟩⟩
  exact ⟨⟨st0, st0, _, _, _, _, hx, hm, ⟨ok0, ok0, Nat.le_refl _, by decide, fun _ => (by show 0 < 256; decide)⟩⟩, hw0.D dd (fun k j z => z), fun j _ => by rw [dd.i (by omega)]; rfl, dd.2⟩
theorem law_runs : LawRuns := by
  intro L xs hL
  obtain ⟨M1, r1, d1, f1, l1⟩ := xi_all (d := 97) (M := M0 L xs)
  obtain ⟨M2, r2, d2, hF, h5, h6, h4⟩ := mi_all (d := 98) (M := M1)
  have hI := ing0 d1 f1 l1 d2 hF h5 h6 h4
  obtain ⟨M3, r3⟩ := law_all (xs := xs) hL 512 0 M2 hI (by omega) (by omega)
  refine ⟨M3, ?_⟩
  rw [← r3]
  simp (disch := decide +kernel) only [r_Law_law_0, r_Law_law_3, r_Law_law_3i, r_Law_law_4, r_Law_law_7, r_Law_law_7n, r_Law_law_8, r_Law_law_11, r_Law_law_11i, r_Law_law_12, r_Law_law_15, r_Law_law_15n, r_Law_law_16, r_Law_law_17, if_pos, bnd, tl_n, tl_s, Nat.reduceAdd, r1, r2]
  rfl
end LRN
theorem i_vc : Claimed_1_1 ∧ Claimed_1_2 := i_vc_of law_runs
