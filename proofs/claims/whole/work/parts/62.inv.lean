/-! THE WHOLE STATE: on both sides -/
def Fa : Type := Bool × Int32 × Int32
def IX (M : Mem) (s s' : St) (T : Nat → Tx) (tb : Nat → Nat) (tl : Nat) (f : Fa) : Prop := RX M ∧ SX M 1 s ∧ SX M 70 s' ∧ (∀ t, t < sTc s → CT M (154 + 5 * t) (T t)) ∧ (gI M 140 1 = nI tl ∧ ∀ i, i < tl → gI M 141 i = (nI (tb i)).toInt8.toInt32) ∧ (gI M 0 8 = bI f.1 ∧ (f.1 = true → gI M 145 0 = f.2.1 ∧ gI M 145 1 = f.2.2))
def IM (M : Mem) (s s' : St) (T : Nat → Tx) (tb : Nat → Nat) (tl : Nat) (f : Fa) : Prop := FM M ∧ SM M 175 s ∧ SM M 176 s' ∧ (∀ t, t < sTc s → MT M t (T t)) ∧ (gI M 174 4 = nI tl ∧ ∀ i, i < tl → gI M 178 i = nI (tb i)) ∧ (gI M 174 5 = (if f.1 = true then f.2.1 else -nI 1) ∧ gI M 174 6 = (if f.1 = true then f.2.2 else -nI 1)) ∧ gI M 174 24 = nI 1
def IO (s s' : St) (tb : Nat → Nat) (tl : Nat) : Prop := OkS s ∧ OkS s' ∧ sTc s' ≤ sTc s ∧ tl ≤ 300 ∧ ∀ i, tb i < 256
def LX (k _ : Nat) : Prop := k < 174
def LM (k _ : Nat) : Prop := 174 ≤ k ∧ k < 1000
theorem SX.dP {P : Nat → Nat → Prop} {M M' : Mem} {b : Nat} {s : St} (h : SX M b s) (ho : OkS s) (hd : D P M M') (hP : ∀ k j, P k j → ¬ (b ≤ k ∧ k < b + 69)) : SX M' b s := by
  obtain ⟨a1, a2, ⟨f, f1, f2, f3, f4⟩, a4, a5, a6⟩ := h
  obtain ⟨o1, o2, o3, o4, o5, o6, o7, o8, o9, o10⟩ := ho
  have hn := o1.1
  have q : ∀ k j, b ≤ k → k < b + 69 → ¬ P k j := fun k j x y z => hP k j z ⟨x, y⟩
  refine ⟨a1.D hn hd (q _ _ (by omega) (by omega)) (fun j _ => ⟨q _ _ (by omega) (by omega), q _ _ (by omega) (by omega)⟩), a2.D o2.2.2.2.2.2.2.2.1 hd (fun j _ => q _ _ (by omega) (by omega)) (fun j _ => q _ _ (by omega) (by omega)), ⟨f, f1, (hd.i (q _ _ (by omega) (by omega))).trans f2, (hd.i (q _ _ (by omega) (by omega))).trans f3, fun i hi => ?_⟩, ⟨(hd.i (q _ _ (by omega) (by omega))).trans a4.1, (hd.i (q _ _ (by omega) (by omega))).trans a4.2⟩, ⟨(hd.i (q _ _ (by omega) (by omega))).trans a5.1, fun i hi => (hd.i (q _ _ (by omega) (by omega))).trans (a5.2 i hi)⟩, ⟨(hd.i (q _ _ (by omega) (by omega))).trans a6.1, fun i hi => ⟨(hd.i (q _ _ (by omega) (by omega))).trans (a6.2 i hi).1, (hd.i (q _ _ (by omega) (by omega))).trans (a6.2 i hi).2⟩⟩⟩
  have h30 : (f + i) % 30 < 30 := Nat.mod_lt _ (by decide)
  exact (f4 i hi).D (o4 i hi).2.2.2.2.2.2.2.1 hd (fun j _ => q _ _ (by omega) (by omega)) (fun j _ => q _ _ (by omega) (by omega))
theorem SM.dP {P : Nat → Nat → Prop} {M M' : Mem} {c : Nat} {s : St} (h : SM M c s) (ho : OkS s) (hd : D P M M') (hP : ∀ j, ¬ P c j) : SM M' c s := by
  obtain ⟨a1, a2, a3, a4, a5, a6⟩ := h
  obtain ⟨o1, o2, o3, o4, o5, o6, o7, o8, o9, o10⟩ := ho
  exact ⟨a1.D o1.1 hd (hP _) (fun j _ _ => hP j), a2.D o2.2.2.2.2.2.2.2.1 hd (fun j _ => hP _) (fun j _ => hP _), ⟨(hd.i (hP _)).trans a3.1, fun i hi => (a3.2 i hi).D (o4 i hi).2.2.2.2.2.2.2.1 hd (fun j _ => hP _) (fun j _ => hP _)⟩, ⟨(hd.i (hP _)).trans a4.1, (hd.i (hP _)).trans a4.2⟩, ⟨(hd.i (hP _)).trans a5.1, fun i hi => (hd.i (hP _)).trans (a5.2 i hi)⟩, ⟨(hd.i (hP _)).trans a6.1, fun i hi => ⟨(hd.i (hP _)).trans (a6.2 i hi).1, (hd.i (hP _)).trans (a6.2 i hi).2⟩⟩⟩
theorem CT.dP {P : Nat → Nat → Prop} {M M' : Mem} {b : Nat} {x : Tx} (h : CT M b x) (hd : D P M M') (hP : ∀ k j, P k j → ¬ (b ≤ k ∧ k < b + 5)) : CT M' b x := by
  obtain ⟨a1, a2, a3, a4, a5⟩ := h
  have q : ∀ k j, b ≤ k → k < b + 5 → ¬ P k j := fun k j x y z => hP k j z ⟨x, y⟩
  exact ⟨a1, (hd.i (q _ _ (by omega) (by omega))).trans a2, fun i hi => (hd.i (q _ _ (by omega) (by omega))).trans (a3 i hi), a4.dP hd (q _ _ (by omega) (by omega)) (fun j _ => q _ _ (by omega) (by omega)) (q _ _ (by omega) (by omega)) (q _ _ (by omega) (by omega)), a5.dP hd (q _ _ (by omega) (by omega)) (fun j _ => q _ _ (by omega) (by omega)) (q _ _ (by omega) (by omega)) (q _ _ (by omega) (by omega))⟩
section INV
variable {M M' : Mem} {s s' s2 : St} {T : Nat → Tx} {tb : Nat → Nat} {tl : Nat} {f : Fa}
/-- the site changes alone -/
theorem IX.set {P : Nat → Nat → Prop} (h : IX M s s' T tb tl f) (ho : IO s s' tb tl) (hd : D P M M') (hP : ∀ k j, P k j → (1 ≤ k ∧ k ≤ 69 ∧ rxt k j = none) ∨ PSX k j) (hs : SX M' 1 s2) (htc : sTc s2 ≤ sTc s) : IX M' s2 s' T tb tl f := by
  obtain ⟨a1, a2, a3, a4, a5, a6⟩ := h
  have q : ∀ k j, (69 < k ∨ k = 0) → ¬ PSX k j → ¬ P k j := fun k j x y z => by
    rcases hP k j z with z | z
    · omega
    · exact y z
  refine ⟨a1.D hd (fun k j z => ?_), hs, a3.dP ho.2.1 hd (fun k j z => ?_), fun t ht => (a4 t (by omega)).dP hd (fun k j z => ?_), ⟨(hd.i (q _ _ (by omega) (by unfold PSX; omega))).trans a5.1, fun i hi => (hd.i (q _ _ (by omega) (by unfold PSX; omega))).trans (a5.2 i hi)⟩, ⟨(hd.i (q _ _ (by omega) (by unfold PSX; omega))).trans a6.1, fun hf => ⟨(hd.i (q _ _ (by omega) (by unfold PSX; omega))).trans (a6.2 hf).1, (hd.i (q _ _ (by omega) (by unfold PSX; omega))).trans (a6.2 hf).2⟩⟩⟩
  · rcases hP k j z with z | z
    · exact z.2.2
    · exact psx_rx k j z
  · rcases hP k j z with z | z
    · omega
    · unfold PSX at z; omega
  · have h4 := ho.1.2.2.2.2.1
    rcases hP k j z with z | z
    · omega
    · unfold PSX at z; omega
theorem IX.dX (h : IX M s s' T tb tl f) (ho : IO s s' tb tl) (hd : D PSX M M') : IX M' s s' T tb tl f := h.set ho hd (fun k j z => Or.inr z) (h.2.1.dP ho.1 hd (fun k j z => by unfold PSX at z; omega)) (Nat.le_refl _)
theorem IX.dM (h : IX M s s' T tb tl f) (ho : IO s s' tb tl) (hd : D LM M M') : IX M' s s' T tb tl f := by
  obtain ⟨a1, a2, a3, a4, a5, a6⟩ := h
  have h4 := ho.1.2.2.2.2.1
  have q : ∀ k j, k < 174 → ¬ LM k j := fun k j x z => by unfold LM at z; omega
  exact ⟨a1.D hd (fun k j z => rxt_hi z.1), a2.dP ho.1 hd (fun k j z => by unfold LM at z; omega), a3.dP ho.2.1 hd (fun k j z => by unfold LM at z; omega), fun t ht => (a4 t ht).dP hd (fun k j z => by unfold LM at z; omega), ⟨(hd.i (q _ _ (by omega))).trans a5.1, fun i hi => (hd.i (q _ _ (by omega))).trans (a5.2 i hi)⟩, ⟨(hd.i (q _ _ (by omega))).trans a6.1, fun hf => ⟨(hd.i (q _ _ (by omega))).trans (a6.2 hf).1, (hd.i (q _ _ (by omega))).trans (a6.2 hf).2⟩⟩⟩
/-- the reference's row changes alone -/
theorem IM.set {P : Nat → Nat → Prop} (h : IM M s s' T tb tl f) (ho : IO s s' tb tl) (hd : D P M M') (hP : ∀ k j, P k j → k = 175 ∨ PSM k j) (hs : SM M' 175 s2) (htc : sTc s2 ≤ sTc s) : IM M' s2 s' T tb tl f := by
  obtain ⟨a1, a2, a3, a4, a5, a6, a7⟩ := h
  have q : ∀ k j, k ≠ 175 → ¬ PSM k j → ¬ P k j := fun k j x y z => by
    rcases hP k j z with z | z
    · exact x z
    · exact y z
  exact ⟨a1.D hd (fun j z => by rcases hP 174 j z with z | z; omega; unfold PSM at z; omega), hs, a3.dP ho.2.1 hd (fun j => q _ _ (by omega) (by unfold PSM; omega)), fun t ht => (a4 t (by omega)).dP hd (fun j => q _ _ (by omega) (by unfold PSM; omega)), ⟨(hd.i (q _ _ (by omega) (by unfold PSM; omega))).trans a5.1, fun i hi => (hd.i (q _ _ (by omega) (by unfold PSM; omega))).trans (a5.2 i hi)⟩, ⟨(hd.i (q _ _ (by omega) (by unfold PSM; omega))).trans a6.1, (hd.i (q _ _ (by omega) (by unfold PSM; omega))).trans a6.2⟩, (hd.i (q _ _ (by omega) (by unfold PSM; omega))).trans a7⟩
theorem IM.dM (h : IM M s s' T tb tl f) (ho : IO s s' tb tl) (hd : D PSM M M') : IM M' s s' T tb tl f := h.set ho hd (fun k j z => Or.inr z) (h.2.1.dP ho.1 hd (fun j z => by unfold PSM at z; omega)) (Nat.le_refl _)
theorem IM.dX (h : IM M s s' T tb tl f) (ho : IO s s' tb tl) (hd : D LX M M') : IM M' s s' T tb tl f := by
  obtain ⟨a1, a2, a3, a4, a5, a6, a7⟩ := h
  have q : ∀ k j, 174 ≤ k → ¬ LX k j := fun k j x z => by unfold LX at z; omega
  exact ⟨a1.D hd (fun j z => by unfold LX at z; omega), a2.dP ho.1 hd (fun j => q _ _ (by omega)), a3.dP ho.2.1 hd (fun j => q _ _ (by omega)), fun t ht => (a4 t ht).dP hd (fun j => q _ _ (by omega)), ⟨(hd.i (q _ _ (by omega))).trans a5.1, fun i hi => (hd.i (q _ _ (by omega))).trans (a5.2 i hi)⟩, ⟨(hd.i (q _ _ (by omega))).trans a6.1, (hd.i (q _ _ (by omega))).trans a6.2⟩, (hd.i (q _ _ (by omega))).trans a7⟩
theorem IX.kx (h : IX M s s' T tb tl f) (ho : IO s s' tb tl) : KX M 4 (sN s) (sW s) (sRs s) (sNow s) := ⟨h.1, h.2.1.1, h.2.1.2.1, ho.1.1, ho.1.2.1⟩
theorem IM.km (h : IM M s s' T tb tl f) (ho : IO s s' tb tl) : KM M (sN s) (sW s) (sRs s) (sNow s) := ⟨h.1, h.2.1.1, h.2.1.2.1, ho.1.1, ho.1.2.1⟩
theorem IX.vc (h : IX M s s' T tb tl f) (ho : IO s s' tb tl) : VC M (sVc s) (sV s) := ⟨h.1 0 0 1 rfl, h.1 1 9 7 rfl, h.2.1.2.2.2.2.1.1, ho.1.2.2.2.2.2.2.1, fun i hi => ⟨h.2.1.2.2.2.2.1.2 i hi, ho.1.2.2.2.2.2.2.2.1 i hi⟩⟩
theorem IM.vm (h : IM M s s' T tb tl f) (ho : IO s s' tb tl) : VMo M (sVc s) (sV s) := ⟨h.1, h.2.1.2.2.2.2.1.1, ho.1.2.2.2.2.2.2.1, fun i hi => ⟨h.2.1.2.2.2.2.1.2 i hi, ho.1.2.2.2.2.2.2.2.1 i hi⟩⟩
end INV
/-- one call, on both sides: the same answer, and the state that comes of it -/
def Op (yX yM : Nat) (as : List Value) (M : Mem) (s s' : St) (T : Nat → Tx) (tb : Nat → Nat) (tl : Nat) (f : Fa) : Prop := ∃ r M1 M2, ev 100 yX (.ref 0 :: as) NX M = some (some r, NX, M1) ∧ ev 100 yM (.ref 174 :: as) NX M1 = some (some r, NX, M2) ∧ D (fun k _ => k < 1000) M M2 ∧ IX M2 s s' T tb tl f ∧ IM M2 s s' T tb tl f ∧ IO s s' tb tl ∧ D (fun k _ => k < 1000) M M1
section OPS
variable {M : Mem} {s s' s2 s2' : St} {T T2 : Nat → Tx} {tb tb2 : Nat → Nat} {tl tl2 : Nat} {f f2 : Fa} {yX yM : Nat} {as : List Value}
/-- out of what each side does -/
theorem Op.mk' {r : Value} {M1 : Mem} (hX : IX M s s' T tb tl f) (hM : IM M s s' T tb tl f) (ho : IO s s' tb tl) (h1 : ev 100 yX (.ref 0 :: as) NX M = some (some r, NX, M1)) (d1 : D LX M M1) (i1 : IX M1 s2 s2' T2 tb2 tl2 f2) (h2 : ∀ X, IM X s s' T tb tl f → ∃ X', ev 100 yM (.ref 174 :: as) NX X = some (some r, NX, X') ∧ D LM X X' ∧ IM X' s2 s2' T2 tb2 tl2 f2) (ho2 : IO s2 s2' tb2 tl2) : Op yX yM as M s2 s2' T2 tb2 tl2 f2 := by
  obtain ⟨M2, b1, b2, b3⟩ := h2 M1 (hM.dX ho d1)
  exact ⟨r, M1, M2, h1, b1, (d1.mono (fun k j z => by unfold LX at z; omega)).trans (b2.mono (fun k j z => by unfold LM at z; omega)), i1.dM ho2 b2, b3, ho2, d1.mono (fun k j z => by unfold LX at z; omega)⟩
theorem Op.ofPub (h : PubR yX yM as M) (hX : IX M s s' T tb tl f) (hM : IM M s s' T tb tl f) (ho : IO s s' tb tl) : Op yX yM as M s s' T tb tl f := by
  obtain ⟨r, M1, M2, a1, a2, a3, a4⟩ := h
  have l1 : D LX M M1 := a2.mono (fun k j z => by unfold PSX at z; unfold LX; omega)
  have l2 : D LM M1 M2 := a4.mono (fun k j z => by unfold PSM at z; unfold LM; omega)
  exact ⟨r, M1, M2, a1, a3, (l1.mono (fun k j z => by unfold LX at z; omega)).trans (l2.mono (fun k j z => by unfold LM at z; omega)), (hX.dX ho a2).dM ho l2, (hM.dX ho l1).dM ho a4, ho, l1.mono (fun k j z => by unfold LX at z; omega)⟩
theorem Op.ofQ2 (h : Q2 yX yM as M) (hX : IX M s s' T tb tl f) (hM : IM M s s' T tb tl f) (ho : IO s s' tb tl) : Op yX yM as M s s' T tb tl f := by
  obtain ⟨r, a1, a2⟩ := h
  exact ⟨r, M, M, a1, a2, D.rfl', hX, hM, ho, D.rfl'⟩
end OPS
