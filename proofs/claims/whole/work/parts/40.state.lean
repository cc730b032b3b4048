/-! THE STATE: what both sides keep, and how -/
/-- what differs lies in P -/
def D (P : Nat → Nat → Prop) (M M' : Mem) : Prop := (∀ k j, ¬ P k j → gI M' k j = gI M k j ∧ gL M' k j = gL M k j ∧ gR M' k j = gR M k j) ∧ M'.2.2.2 = M.2.2.2
theorem D.rfl' {P : Nat → Nat → Prop} {M : Mem} : D P M M := ⟨fun _ _ _ => ⟨rfl, rfl, rfl⟩, rfl⟩
theorem D.trans {P : Nat → Nat → Prop} {M M' M'' : Mem} (h1 : D P M M') (h2 : D P M' M'') : D P M M'' := by
  refine ⟨fun k j hp => ?_, h2.2.trans h1.2⟩
  obtain ⟨a1, a2, a3⟩ := h1.1 k j hp
  obtain ⟨b1, b2, b3⟩ := h2.1 k j hp
  exact ⟨b1.trans a1, b2.trans a2, b3.trans a3⟩
theorem D.mono {P Q : Nat → Nat → Prop} {M M' : Mem} (h : D P M M') (hq : ∀ k j, P k j → Q k j) : D Q M M' := ⟨fun k j hp => h.1 k j (fun z => hp (hq k j z)), h.2⟩
theorem D.i {P : Nat → Nat → Prop} {M M' : Mem} (h : D P M M') {k j : Nat} (hp : ¬ P k j) : gI M' k j = gI M k j := (h.1 k j hp).1
theorem D.l {P : Nat → Nat → Prop} {M M' : Mem} (h : D P M M') {k j : Nat} (hp : ¬ P k j) : gL M' k j = gL M k j := (h.1 k j hp).2.1
theorem D.r {P : Nat → Nat → Prop} {M M' : Mem} (h : D P M M') {k j : Nat} (hp : ¬ P k j) : gR M' k j = gR M k j := (h.1 k j hp).2.2
theorem D.sI {P : Nat → Nat → Prop} {M M' : Mem} {k j : Nat} {v : Int32} (h : D P M M') (hp : P k j) : D P M (sI M' k j v) := by
  refine h.trans ⟨fun a b hab => ⟨?_, rfl, rfl⟩, rfl⟩
  rw [gI_sI, if_neg]
  intro z
  rw [z.1, z.2] at hab
  exact hab hp
theorem D.sL {P : Nat → Nat → Prop} {M M' : Mem} {k j : Nat} {v : Int64} (h : D P M M') (hp : P k j) : D P M (sL M' k j v) := by
  refine h.trans ⟨fun a b hab => ⟨rfl, ?_, rfl⟩, rfl⟩
  rw [gL_sL, if_neg]
  intro z
  rw [z.1, z.2] at hab
  exact hab hp
theorem D.sR {P : Nat → Nat → Prop} {M M' : Mem} {k j : Nat} {v : Option Nat} (h : D P M M') (hp : P k j) : D P M (sR M' k j v) := by
  refine h.trans ⟨fun a b hab => ⟨rfl, rfl, ?_⟩, rfl⟩
  rw [gR_sR, if_neg]
  intro z
  rw [z.1, z.2] at hab
  exact hab hp
/-- the class's references that stand -/
def rxt (k j : Nat) : Option Nat :=
  if k = 0 then (if j = 0 then some 1 else if j = 1 then some 70 else if j = 2 then some 139 else if j = 3 then some 140 else if j = 4 then some 145 else if j = 5 then some 146 else if j = 6 then some 148 else if j = 7 then some 152 else none)
  else if k = 1 ∨ k = 70 then (if j = 1 then some (k + 1) else if j = 2 then some (k + 2) else if j = 3 then some (k + 3) else if j = 4 then some (k + 5) else if j = 9 then some (k + 6) else if j = 11 then some (k + 7) else if j = 12 then some (k + 8) else none)
  else if k = 6 ∨ k = 75 then (if j < 30 then some (k + 4 + 2 * j) else none)
  else if k = 4 ∨ k = 73 ∨ k = 152 ∨ (10 ≤ k ∧ k < 70 ∧ k % 2 = 0) ∨ (79 ≤ k ∧ k < 139 ∧ k % 2 = 1) then (if j = 6 then some (k + 1) else none)
  else if k = 139 then (if j < 4 then some (154 + 5 * j) else none)
  else if k = 140 then (if j = 0 then some 141 else if j = 2 then some 142 else if j = 3 then some 143 else if j = 4 then some 144 else none)
  else if k = 146 then (if j = 0 then some 147 else none)
  else if k = 148 then (if j = 0 then some 149 else if j = 2 then some 150 else if j = 3 then some 151 else none)
  else if k = 154 ∨ k = 159 ∨ k = 164 ∨ k = 169 then (if j = 0 then some (k + 1) else if j = 2 then some (k + 2) else if j = 3 then some (k + 3) else if j = 4 then some (k + 4) else none)
  else none
def RX (M : Mem) : Prop := ∀ k j a, rxt k j = some a → gR M k j = some a
theorem RX.sI {M : Mem} {k j : Nat} {v : Int32} (h : RX M) : RX (sI M k j v) := h
theorem RX.sL {M : Mem} {k j : Nat} {v : Int64} (h : RX M) : RX (sL M k j v) := h
/-- planks, weights and what they rest on -/
def OkP (n : Nat) (W Rs : Nat → Nat) : Prop := n ≤ 8 ∧ ∀ p, p < n → 1 ≤ W p ∧ W p ≤ 9 ∧ Rs p < 2 ^ p
def PX (M : Mem) (b n : Nat) (W Rs : Nat → Nat) : Prop := gI M b 0 = nI n ∧ ∀ p, p < n → gI M (b + 1) p = nI (W p) ∧ gI M (b + 2) p = nI (Rs p)
def PM (M : Mem) (c n : Nat) (W Rs : Nat → Nat) : Prop := gI M c 0 = nI n ∧ ∀ p, p < n → gI M c (26 + p) = nI (W p) ∧ gI M c (34 + p) = nI (Rs p)
/-- a moment: up, conceded, objections, wind, hour, x, lines, book -/
def Mo : Type := Nat × Nat × Nat × Nat × Nat × Nat × Nat × (Nat → Nat × Nat × Nat × Nat)
def mUp (m : Mo) : Nat := m.1
def mCo (m : Mo) : Nat := m.2.1
def mOb (m : Mo) : Nat := m.2.2.1
def mWd (m : Mo) : Nat := m.2.2.2.1
def mHr (m : Mo) : Nat := m.2.2.2.2.1
def mXx (m : Mo) : Nat := m.2.2.2.2.2.1
def mCn (m : Mo) : Nat := m.2.2.2.2.2.2.1
def mBk (m : Mo) : Nat → Nat × Nat × Nat × Nat := m.2.2.2.2.2.2.2
/-- a line: hour, plank, what, wind; as the class and as the reference packs it -/
def cC (e : Nat × Nat × Nat × Nat) : Nat := e.1 * 512 + e.2.1 * 64 + e.2.2.1 * 16 + e.2.2.2
def mC (e : Nat × Nat × Nat × Nat) : Nat := ((e.1 * 8 + e.2.1) * 4 + e.2.2.1) * 10 + e.2.2.2
def eOk (e : Nat × Nat × Nat × Nat) : Prop := e.1 ≤ 9999 ∧ e.2.1 < 8 ∧ e.2.2.1 < 4 ∧ e.2.2.2 < 10
/-- to which one objects -/
def row (B p : Nat) : Nat := B / 2 ^ (p * 8) &&& 255
def how (m : Mo) (p : Nat) : Nat := if (mCo m).testBit p = true then 2 else if (mUp m).testBit p = true then 1 else 0
def OkB (n B : Nat) : Prop := B < 2 ^ 64 ∧ ∀ p i, p < 8 → i < 8 → (row B p).testBit i = true → p < n ∧ i < n
def OkM (n : Nat) (m : Mo) : Prop := mUp m < 2 ^ n ∧ mCo m < 2 ^ n ∧ (∀ i, ¬ ((mUp m).testBit i = true ∧ (mCo m).testBit i = true)) ∧ OkB n (mOb m) ∧ mWd m < 10 ∧ mHr m ≤ 9999 ∧ mXx m < 30829 ∧ mCn m ≤ 30 ∧ ∀ k, k < mCn m → eOk (mBk m k)
def MX (M : Mem) (c : Nat) (m : Mo) : Prop := gI M c 0 = nI (mUp m) ∧ gI M c 1 = nI (mCo m) ∧ gL M c 2 = lN (mOb m) ∧ gI M c 3 = nI (mWd m) ∧ gI M c 4 = nI (mHr m) ∧ gI M c 5 = nI (mXx m) ∧ gI M c 7 = nI (mCn m) ∧ ∀ k, k < mCn m → gI M (c + 1) k = nI (cC (mBk m k))
def MM (M : Mem) (c b bb : Nat) (m : Mo) : Prop := gI M c b = nI (mHr m) ∧ gI M c (b + 1) = nI (mXx m) ∧ gI M c (b + 2) = nI (mWd m) ∧ gI M c (b + 3) = nI (mCn m) ∧ (∀ p, p < 8 → gI M c (b + 4 + p) = nI (how m p)) ∧ (∀ p, p < 8 → gI M c (b + 12 + p) = nI (row (mOb m) p)) ∧ ∀ k, k < mCn m → gI M c (bb + k) = nI (mC (mBk m k))
/-- all: planks, weights, rests; now; steps; texts, ruling; votes; said -/
def St : Type := (Nat × (Nat → Nat) × (Nat → Nat)) × Mo × (Nat × (Nat → Mo)) × (Nat × Int32) × (Nat × (Nat → Nat)) × (Nat × (Nat → Nat) × (Nat → Nat))
def sN (s : St) : Nat := s.1.1
def sW (s : St) : Nat → Nat := s.1.2.1
def sRs (s : St) : Nat → Nat := s.1.2.2
def sNow (s : St) : Mo := s.2.1
def sSc (s : St) : Nat := s.2.2.1.1
def sSt (s : St) : Nat → Mo := s.2.2.1.2
def sTc (s : St) : Nat := s.2.2.2.1.1
def sRl (s : St) : Int32 := s.2.2.2.1.2
def sVc (s : St) : Nat := s.2.2.2.2.1.1
def sV (s : St) : Nat → Nat := s.2.2.2.2.1.2
def sDc (s : St) : Nat := s.2.2.2.2.2.1
def sDp (s : St) : Nat → Nat := s.2.2.2.2.2.2.1
def sDf (s : St) : Nat → Nat := s.2.2.2.2.2.2.2
/-- the ruling text -/
def rlOk (tc : Nat) (r : Int32) : Prop := r = -nI 1 ∨ ∃ t, t < tc ∧ r = nI t
def OkS (s : St) : Prop := OkP (sN s) (sW s) (sRs s) ∧ OkM (sN s) (sNow s) ∧ sSc s ≤ 30 ∧ (∀ i, i < sSc s → OkM (sN s) (sSt s i)) ∧ sTc s ≤ 4 ∧ rlOk (sTc s) (sRl s) ∧ sVc s ≤ 7 ∧ (∀ i, i < sVc s → isO (sV s i) = true) ∧ sDc s ≤ 8 ∧ ∀ i, i < sDc s → sDp s i < sN s ∧ sDf s i ≤ 10
/-- the class's site at b -/
def SXp (M : Mem) (b : Nat) (s : St) : Prop := ∃ f, f < 30 ∧ gI M b 5 = nI f ∧ gI M b 6 = nI (sSc s) ∧ ∀ i, i < sSc s → MX M (b + 9 + 2 * ((f + i) % 30)) (sSt s i)
def SX (M : Mem) (b : Nat) (s : St) : Prop := PX M b (sN s) (sW s) (sRs s) ∧ MX M (b + 3) (sNow s) ∧ SXp M b s ∧ (gI M b 7 = nI (sTc s) ∧ gI M b 8 = sRl s) ∧ (gI M b 10 = nI (sVc s) ∧ ∀ i, i < sVc s → gI M (b + 6) i = nI (sV s i)) ∧ (gI M b 13 = nI (sDc s) ∧ ∀ i, i < sDc s → gI M (b + 7) i = nI (sDp s i) ∧ gI M (b + 8) i = nI (sDf s i))
/-- the reference's row at c -/
def SM (M : Mem) (c : Nat) (s : St) : Prop := PM M c (sN s) (sW s) (sRs s) ∧ MM M c 6 1565 (sNow s) ∧ (gI M c 3 = nI (sSc s) ∧ ∀ i, i < sSc s → MM M c (65 + 50 * i) (85 + 50 * i) (sSt s i)) ∧ (gI M c 1 = nI (sTc s) ∧ gI M c 2 = sRl s) ∧ (gI M c 4 = nI (sVc s) ∧ ∀ i, i < sVc s → gI M c (42 + i) = nI (sV s i)) ∧ (gI M c 5 = nI (sDc s) ∧ ∀ i, i < sDc s → gI M c (49 + 2 * i) = nI (sDp s i) ∧ gI M c (50 + 2 * i) = nI (sDf s i))
theorem PX.D {P : Nat → Nat → Prop} {M M' : Mem} {b n : Nat} {W Rs : Nat → Nat} (h : PX M b n W Rs) (hn : n ≤ 8) (hd : D P M M') (h0 : ¬ P b 0) (h1 : ∀ j, j < 8 → ¬ P (b + 1) j ∧ ¬ P (b + 2) j) : PX M' b n W Rs := by
  refine ⟨(hd.i h0).trans h.1, fun p hp => ?_⟩
  obtain ⟨a1, a2⟩ := h1 p (by omega)
  exact ⟨(hd.i a1).trans (h.2 p hp).1, (hd.i a2).trans (h.2 p hp).2⟩
theorem MX.D {P : Nat → Nat → Prop} {M M' : Mem} {c : Nat} {m : Mo} (h : MX M c m) (hn : mCn m ≤ 30) (hd : D P M M') (h0 : ∀ j, j < 8 → ¬ P c j) (h1 : ∀ j, j < 30 → ¬ P (c + 1) j) : MX M' c m := by
  obtain ⟨a0, a1, a2, a3, a4, a5, a7, a8⟩ := h
  refine ⟨(hd.i (h0 0 (by decide))).trans a0, (hd.i (h0 1 (by decide))).trans a1, (hd.l (h0 2 (by decide))).trans a2, (hd.i (h0 3 (by decide))).trans a3, (hd.i (h0 4 (by decide))).trans a4, (hd.i (h0 5 (by decide))).trans a5, (hd.i (h0 7 (by decide))).trans a7, fun k hk => ?_⟩
  exact (hd.i (h1 k (by omega))).trans (a8 k hk)
theorem PM.D {P : Nat → Nat → Prop} {M M' : Mem} {c n : Nat} {W Rs : Nat → Nat} (h : PM M c n W Rs) (hn : n ≤ 8) (hd : D P M M') (h0 : ¬ P c 0) (h1 : ∀ j, 26 ≤ j → j < 42 → ¬ P c j) : PM M' c n W Rs := by
  refine ⟨(hd.i h0).trans h.1, fun p hp => ?_⟩
  exact ⟨(hd.i (h1 (26 + p) (by omega) (by omega))).trans (h.2 p hp).1, (hd.i (h1 (34 + p) (by omega) (by omega))).trans (h.2 p hp).2⟩
theorem MM.D {P : Nat → Nat → Prop} {M M' : Mem} {c b bb : Nat} {m : Mo} (h : MM M c b bb m) (hn : mCn m ≤ 30) (hd : D P M M') (h0 : ∀ j, j < 20 → ¬ P c (b + j)) (h1 : ∀ j, j < 30 → ¬ P c (bb + j)) : MM M' c b bb m := by
  obtain ⟨a0, a1, a2, a3, a4, a5, a6⟩ := h
  refine ⟨(hd.i (h0 0 (by decide))).trans a0, (hd.i (h0 1 (by decide))).trans a1, (hd.i (h0 2 (by decide))).trans a2, (hd.i (h0 3 (by decide))).trans a3, fun p hp => ?_, fun p hp => ?_, fun k hk => ?_⟩
  · exact (hd.i (by have := h0 (4 + p) (by omega); rwa [← Nat.add_assoc] at this)).trans (a4 p hp)
  · exact (hd.i (by have := h0 (12 + p) (by omega); rwa [← Nat.add_assoc] at this)).trans (a5 p hp)
  · exact (hd.i (h1 k (by omega))).trans (a6 k hk)
