/-! EQUATIONS of the abstract machine, an instruction each -/
section RE
variable {E : Hdl} {y pc nx : Nat} {ls : Lcl} {st : List Value} {M : Mem}
theorem run_go {i : Instr} {len : Nat} {pc' : Nat} {ls' : Lcl} {st' : List Value} {nx' : Nat} {M' : Mem} (hd : decode (mB y) pc = .ok (i, len)) (hl : iln i = len ∨ iln i = 0) (hs : stp E y i pc ls st nx M = go pc' ls' st' nx' M') : run E y pc ls st nx M = run E y pc' ls' st' nx' M' := by
  unfold run
  rw [runF_eq (f := (pc, ls, st, nx, M)) hd hl]
  dsimp only
  rw [hs]
  rfl
theorem run_gd {i : Instr} {len : Nat} {b : Bool} {pc' : Nat} {ls' : Lcl} {st' : List Value} {nx' : Nat} {M' : Mem} (hd : decode (mB y) pc = .ok (i, len)) (hl : iln i = len ∨ iln i = 0) (hs : stp E y i pc ls st nx M = gd b (go pc' ls' st' nx' M')) : run E y pc ls st nx M = if b = true then run E y pc' ls' st' nx' M' else none := by
  unfold run
  rw [runF_eq (f := (pc, ls, st, nx, M)) hd hl]
  dsimp only
  rw [hs]
  unfold gd
  by_cases hb : b = true
  · rw [if_pos hb, if_pos hb]; rfl
  · rw [if_neg hb, if_neg hb]
theorem run_br {i : Instr} {len : Nat} {P : Prop} [Decidable P] {b c : Bool} {p1 p2 : Nat} {st' : List Value} (hd : decode (mB y) pc = .ok (i, len)) (hl : iln i = len ∨ iln i = 0) (hj : c = true) (hb : b = true ↔ P) (hs : stp E y i pc ls st nx M = gd c (if b = true then go p1 ls st' nx M else go p2 ls st' nx M)) : run E y pc ls st nx M = if P then run E y p1 ls st' nx M else run E y p2 ls st' nx M := by
  unfold run
  rw [runF_eq (f := (pc, ls, st, nx, M)) hd hl]
  dsimp only
  rw [hs]
  unfold gd
  rw [if_pos hj]
  by_cases hP : P
  · rw [if_pos (hb.mpr hP), if_pos hP]; rfl
  · rw [if_neg (fun z => hP (hb.mp z)), if_neg hP]; rfl
theorem run_end {i : Instr} {len : Nat} {r : Res} (hd : decode (mB y) pc = .ok (i, len)) (hl : iln i = len ∨ iln i = 0) (hs : stp E y i pc ls st nx M = some (.inr r)) : run E y pc ls st nx M = some r := by
  unfold run
  rw [runF_eq (f := (pc, ls, st, nx, M)) hd hl]
  dsimp only
  rw [hs]
theorem run_endz {i : Instr} {len : Nat} {b : Bool} {r : Res} (hd : decode (mB y) pc = .ok (i, len)) (hl : iln i = len ∨ iln i = 0) (hs : stp E y i pc ls st nx M = if b = true then some (.inr r) else none) : run E y pc ls st nx M = if b = true then some r else none := by
  unfold run
  rw [runF_eq (f := (pc, ls, st, nx, M)) hd hl]
  dsimp only
  rw [hs]
  by_cases hb : b = true
  · rw [if_pos hb, if_pos hb]
  · rw [if_neg hb, if_neg hb]
theorem run_call {i : Instr} {len : Nat} {b : Bool} {y' n : Nat} {as rest : List Value} (hd : decode (mB y) pc = .ok (i, len)) (hl : iln i = len ∨ iln i = 0) (hs : stp E y i pc ls st nx M = gd b (callE E y' n pc ls st nx M)) (ha : (st.take n).reverse = as) (hr : st.drop n = rest) : run E y pc ls st nx M = if b = true then (E y' as nx M).bind (fun r => run E y (pc + 3) ls (r.1.toList ++ rest) r.2.1 r.2.2) else none := by
  unfold run
  rw [runF_eq (f := (pc, ls, st, nx, M)) hd hl]
  dsimp only
  rw [hs]
  unfold gd
  by_cases hb : b = true
  · rw [if_pos hb, if_pos hb]
    unfold callE
    rw [ha, hr]
    cases E y' as nx M with
    | none => rfl
    | some o => rfl
  · rw [if_neg hb, if_neg hb]
/-- an int of a method that answers a truth -/
def zok (v : Int32) : Bool := v == 0 || v == 1
theorem rok_z {v : Int32} : rok (some .boolean) v = zok v := by
  unfold rok zok
  show (decide (Value.int (v &&& 1) = .int v) && true) = _
  rw [Bool.and_true]
  have key : (v &&& 1 = v) ↔ (v = 0 ∨ v = 1) := by
    constructor
    · intro h
      have h2 := pk_and v (m := 1) 1 (by decide)
      rw [h] at h2
      have : v.toBitVec.toNat % 2 ^ 1 = 0 ∨ v.toBitVec.toNat % 2 ^ 1 = 1 := by omega
      rcases this with e | e <;> rw [e] at h2
      · exact Or.inl h2
      · exact Or.inr h2
    · rintro (rfl | rfl) <;> decide
  by_cases h : v &&& 1 = v
  · rw [decide_eq_true (by rw [h])]
    rcases key.mp h with rfl | rfl <;> rfl
  · rw [decide_eq_false (fun z => h (Value.int.inj z))]
    have h2 : ¬ (v = 0 ∨ v = 1) := fun z => h (key.mpr z)
    cases hz : (v == 0 || v == 1) with
    | false => rfl
    | true =>
      rcases Bool.or_eq_true _ _ ▸ hz with z | z
      · exact absurd (Or.inl (eq_of_beq z)) h2
      · exact absurd (Or.inr (eq_of_beq z)) h2
theorem zok_ite {P : Prop} [Decidable P] : zok (if P then 1 else 0) = true := by by_cases h : P <;> simp [h] <;> decide
theorem zok_1 : zok 1 = true := by decide
theorem zok_0 : zok 0 = true := by decide
theorem rok_i {v : Int32} : rok (some .int) v = true := by
  unfold rok
  show (decide (Value.int v = .int v) && true) = true
  rw [decide_eq_true rfl]
  rfl
theorem cb_eq {x z : Int32} : cb .eq x z = true ↔ x = z := decide_eq_true_iff
theorem cb_ne {x z : Int32} : cb .ne x z = true ↔ ¬ x = z := by unfold cb; simp
theorem cb_lt {x z : Int32} : cb .lt x z = true ↔ x < z := decide_eq_true_iff
theorem cb_ge {x z : Int32} : cb .ge x z = true ↔ z ≤ x := decide_eq_true_iff
theorem cb_gt {x z : Int32} : cb .gt x z = true ↔ z < x := decide_eq_true_iff
theorem cb_le {x z : Int32} : cb .le x z = true ↔ x ≤ z := decide_eq_true_iff
theorem okT {P : Prop} [Decidable P] {α : Type} {a b : α} (h : P) : (if P then a else b) = a := if_pos h
/-- a field that is there -/
def okF (nx a c : Nat) : Bool := okW nx a && okO nx a c
/-- a place of an array that may be written -/
def okS (M : Mem) (nx k t : Nat) (i : Int32) : Bool := okW nx k && okA M nx k t i
theorem wt_nil : wt [] = 0 := rfl
theorem wt_int {v : Int32} {l : List Value} : wt (.int v :: l) = 1 + wt l := rfl
theorem wt_ref {v : Nat} {l : List Value} : wt (.ref v :: l) = 1 + wt l := rfl
theorem wt_null {l : List Value} : wt (.null :: l) = 1 + wt l := rfl
theorem wt_long {v : Int64} {l : List Value} : wt (.long v :: l) = 2 + wt l := rfl
theorem run_fput {i : Instr} {len : Nat} {b : Bool} {pc' : Nat} {st' : List Value} {M' : Mem} (hd : decode (mB y) pc = .ok (i, len)) (hl : iln i = len ∨ iln i = 0) (hs : stp E y i pc ls st nx M = if b = true then go pc' ls st' nx M' else none) : run E y pc ls st nx M = if b = true then run E y pc' ls st' nx M' else none := run_gd hd hl hs
theorem ev_run {d : Nat} {as : List Value} {l : Lcl} (h : (lcl as).length ≤ mL y) (he : entry y as = l) : ev (d + 1) y as nx M = run (ev d) y 0 l [] nx M := by
  rw [← he]
  show (if (lcl as).length ≤ mL y then run (ev d) y 0 (entry y as) [] nx M else none) = _
  rw [if_pos h]
end RE
section RE2
variable {E : Hdl} {y pc nx : Nat} {ls : Lcl} {st : List Value} {M : Mem}
theorem run_len {b b' : Bool} {α : Type} {a z : α} (h : b = b') : (if b = true then a else z) = if b' = true then a else z := by rw [h]
theorem run_bast {x : Nat} {z v : Int32} (hd : decode (mB y) pc = .ok (.bastore, 1)) : run E y pc ls (.int v :: .int z :: .ref x :: st) nx M = if okS M nx x 101 z = true then run E y (pc + 1) ls st nx (sI M x z.toNatClampNeg (vp_nar .byte v)) else if okS M nx x 102 z = true then run E y (pc + 1) ls st nx (sI M x z.toNatClampNeg (vp_nar .boolean v)) else none := by
  by_cases h : okS M nx x 101 z = true
  · rw [if_pos h]
    exact run_go hd (Or.inl rfl) (show (gd (okS M nx x 101 z) _ <|> _) = _ by unfold gd; rw [if_pos h]; rfl)
  · rw [if_neg h]
    exact run_gd hd (Or.inl rfl) (show (gd (okS M nx x 101 z) _ <|> _) = _ by unfold gd; rw [if_neg h]; rfl)
theorem run_putI {c j q x : Nat} {v : Int32} (hd : decode (mB y) pc = .ok (.putfield q, 3)) (hq : lk tFl (pk y q) = some (c, j)) (hf : (!fin c j || (isInit y && mO y == c)) = true) (ht : ft c j = 0) : run E y pc ls (.int v :: .ref x :: st) nx M = if okF nx x c = true then run E y (pc + 3) ls st nx (sI M x j v) else none := by
  refine run_gd hd (Or.inl rfl) ?_
  show (match lk tFl (pk y q) with | some (c, j) => putV y c j (.int v :: .ref x :: st) nx M (fun M' r => go (pc + 3) ls r nx M') | none => none) = _
  rw [hq]
  dsimp only
  unfold putV
  dsimp only
  rw [hf, Bool.and_true, ht]
  rfl
theorem run_putL {c j q x : Nat} {v : Int64} (hd : decode (mB y) pc = .ok (.putfield q, 3)) (hq : lk tFl (pk y q) = some (c, j)) (hf : (!fin c j || (isInit y && mO y == c)) = true) (ht : ft c j = 2) : run E y pc ls (.long v :: .ref x :: st) nx M = if okF nx x c = true then run E y (pc + 3) ls st nx (sL M x j v) else none := by
  refine run_gd hd (Or.inl rfl) ?_
  show (match lk tFl (pk y q) with | some (c, j) => putV y c j (.long v :: .ref x :: st) nx M (fun M' r => go (pc + 3) ls r nx M') | none => none) = _
  rw [hq]
  dsimp only
  unfold putV
  dsimp only
  rw [hf, Bool.and_true, ht]
  rfl
theorem run_putR {c j q x : Nat} {v : Nat} (hd : decode (mB y) pc = .ok (.putfield q, 3)) (hq : lk tFl (pk y q) = some (c, j)) (hf : (!fin c j || (isInit y && mO y == c)) = true) (ht : ft c j = 3) : run E y pc ls (.ref v :: .ref x :: st) nx M = if okF nx x c = true then run E y (pc + 3) ls st nx (sR M x j (some v)) else none := by
  refine run_gd hd (Or.inl rfl) ?_
  show (match lk tFl (pk y q) with | some (c, j) => putV y c j (.ref v :: .ref x :: st) nx M (fun M' r => go (pc + 3) ls r nx M') | none => none) = _
  rw [hq]
  dsimp only
  unfold putV
  dsimp only
  rw [hf, Bool.and_true, ht]
  rfl
theorem run_putN {c j q x : Nat} (hd : decode (mB y) pc = .ok (.putfield q, 3)) (hq : lk tFl (pk y q) = some (c, j)) (hf : (!fin c j || (isInit y && mO y == c)) = true) (ht : ft c j = 3) : run E y pc ls (.null :: .ref x :: st) nx M = if okF nx x c = true then run E y (pc + 3) ls st nx (sR M x j none) else none := by
  refine run_gd hd (Or.inl rfl) ?_
  show (match lk tFl (pk y q) with | some (c, j) => putV y c j (.null :: .ref x :: st) nx M (fun M' r => go (pc + 3) ls r nx M') | none => none) = _
  rw [hq]
  dsimp only
  unfold putV
  dsimp only
  rw [hf, Bool.and_true, ht]
  rfl
theorem run_putZ {c j q x : Nat} {v : Int32} (hd : decode (mB y) pc = .ok (.putfield q, 3)) (hq : lk tFl (pk y q) = some (c, j)) (hf : (!fin c j || (isInit y && mO y == c)) = true) (ht : ft c j = 1) : run E y pc ls (.int v :: .ref x :: st) nx M = if okF nx x c = true then (if zok v = true then run E y (pc + 3) ls st nx (sI M x j v) else none) else none := by
  have hz : (v = 0 ∨ v = 1) ↔ zok v = true := by
    unfold zok
    rw [Bool.or_eq_true, beq_iff_eq, beq_iff_eq]
  by_cases h1 : okF nx x c = true
  · rw [if_pos h1]
    refine run_gd hd (Or.inl rfl) ?_
    show (match lk tFl (pk y q) with | some (c, j) => putV y c j (.int v :: .ref x :: st) nx M (fun M' r => go (pc + 3) ls r nx M') | none => none) = _
    rw [hq]
    dsimp only
    unfold putV
    dsimp only
    rw [hf, Bool.and_true, ht]
    unfold okF at h1
    rw [if_pos h1]
    show (if v = 0 ∨ v = 1 then go (pc + 3) ls st nx (sI M x j v) else none) = _
    unfold gd
    by_cases h2 : v = 0 ∨ v = 1
    · rw [if_pos h2, if_pos (hz.mp h2)]
    · rw [if_neg h2, if_neg (fun z => h2 (hz.mpr z))]
  · rw [if_neg h1]
    have hs : stp E y (.putfield q) pc ls (.int v :: .ref x :: st) nx M = gd false (go 0 ls st nx M) := by
      show (match lk tFl (pk y q) with | some (c, j) => putV y c j (.int v :: .ref x :: st) nx M (fun M' r => go (pc + 3) ls r nx M') | none => none) = _
      rw [hq]
      dsimp only
      unfold putV
      dsimp only
      rw [hf, Bool.and_true]
      unfold okF at h1
      rw [if_neg h1]
      rfl
    rw [run_gd hd (Or.inl rfl) hs]
    rfl
theorem run_tsw {P : Int → Option Res} {d : Int} {x : Int32} : ∀ (offs : List Int) (k : Int32), P (tsw d offs k x) = P (tsw d offs k x) := fun _ _ => rfl
/-- the places of a switch, one behind the other -/
def tsj (f : Int → Option Res) (d : Int) : List Int → Int32 → Int32 → Option Res
  | [], _, _ => f d
  | o :: r, k, x => if x = k then f o else tsj f d r (k + 1) x
theorem tsj_eq {f : Int → Option Res} {d : Int} {x : Int32} : ∀ (offs : List Int) (k : Int32), f (tsw d offs k x) = tsj f d offs k x := by
  intro offs
  induction offs with
  | nil => intro k; rfl
  | cons o r ih =>
    intro k
    rw [tsw, tsj]
    by_cases h : x = k
    · rw [if_pos h, if_pos h]
    · rw [if_neg h, if_neg h]; exact ih (k + 1)
def lsj (f : Int → Option Res) (d : Int) : List (Int × Int) → Int32 → Option Res
  | [], _ => f d
  | (a, o) :: r, x => if x = Int32.ofInt a then f o else lsj f d r x
theorem lsj_eq {f : Int → Option Res} {d : Int} {x : Int32} : ∀ (ps : List (Int × Int)), f (lsw d ps x) = lsj f d ps x := by
  intro ps
  induction ps with
  | nil => rfl
  | cons q r ih =>
    obtain ⟨a, o⟩ := q
    rw [lsw, lsj]
    by_cases h : x = Int32.ofInt a
    · rw [if_pos h, if_pos h]
    · rw [if_neg h, if_neg h]; exact ih
theorem tsw_in {d : Int} {x : Int32} : ∀ (offs : List Int) (k : Int32), tsw d offs k x = d ∨ tsw d offs k x ∈ offs := by
  intro offs
  induction offs with
  | nil => intro k; exact Or.inl rfl
  | cons o r ih =>
    intro k
    rw [tsw]
    by_cases h : x = k
    · rw [if_pos h]; exact Or.inr List.mem_cons_self
    · rw [if_neg h]
      rcases ih (k + 1) with h | h
      · exact Or.inl h
      · exact Or.inr (List.mem_cons_of_mem _ h)
theorem lsw_in {d : Int} {x : Int32} : ∀ (ps : List (Int × Int)), lsw d ps x = d ∨ lsw d ps x ∈ ps.map Prod.snd := by
  intro ps
  induction ps with
  | nil => exact Or.inl rfl
  | cons q r ih =>
    obtain ⟨a, o⟩ := q
    rw [lsw]
    by_cases h : x = Int32.ofInt a
    · rw [if_pos h]; exact Or.inr List.mem_cons_self
    · rw [if_neg h]
      rcases ih with h | h
      · exact Or.inl h
      · exact Or.inr (List.mem_cons_of_mem _ h)
theorem run_ts {d lo hi : Int} {offs : Array Int} {len : Nat} {x : Int32} (hd : decode (mB y) pc = .ok (.tableswitch d lo hi offs, len)) (hg : (decide (hi + 1 = lo + offs.toList.length) && decide (-1000 ≤ lo) && decide (hi ≤ 1000) && jok pc d && offs.toList.all (jok pc)) = true) : run E y pc ls (.int x :: st) nx M = tsj (fun o => run E y (jump pc o) ls st nx M) d offs.toList (Int32.ofInt lo) x := by
  rw [← tsj_eq]
  obtain ⟨hg, g5⟩ := and3 hg
  obtain ⟨hg, g4⟩ := and3 hg
  have hj : jok pc (tsw d offs.toList (Int32.ofInt lo) x) = true := by
    rcases tsw_in (d := d) (x := x) offs.toList (Int32.ofInt lo) with h | h
    · rw [h]; exact g4
    · exact List.all_eq_true.mp g5 _ h
  refine (run_gd hd (Or.inr rfl) rfl).trans (if_pos ?_)
  rw [hj, Bool.and_true]
  exact hg
theorem run_ls {d : Int} {ps : Array (Int × Int)} {len : Nat} {x : Int32} (hd : decode (mB y) pc = .ok (.lookupswitch d ps, len)) (hg : ((ps.toList.zip (ps.toList.drop 1)).all (fun (a, next) => a.1 < next.1) && ps.toList.all (fun q => decide (-1000 ≤ q.1) && decide (q.1 ≤ 1000)) && jok pc d && (ps.toList.map Prod.snd).all (jok pc)) = true) : run E y pc ls (.int x :: st) nx M = lsj (fun o => run E y (jump pc o) ls st nx M) d ps.toList x := by
  rw [← lsj_eq]
  obtain ⟨hg, g5⟩ := and3 hg
  obtain ⟨hg, g4⟩ := and3 hg
  have hj : jok pc (lsw d ps.toList x) = true := by
    rcases lsw_in (d := d) (x := x) ps.toList with h | h
    · rw [h]; exact g4
    · exact List.all_eq_true.mp g5 _ h
  refine (run_gd hd (Or.inr rfl) rfl).trans (if_pos ?_)
  rw [hj, Bool.and_true]
  exact hg
end RE2
section RE3
variable {E : Hdl} {y pc nx : Nat} {ls : Lcl} {st : List Value} {M : Mem}
theorem run_getI {q c j x : Nat} (hd : decode (mB y) pc = .ok (.getfield q, 3)) (hq : lk tFl (pk y q) = some (c, j)) (ht : ¬ ft c j = 2 ∧ ¬ ft c j = 3) : run E y pc ls (.ref x :: st) nx M = if okF nx x c = true then run E y (pc + 3) ls (.int (gI M x j) :: st) nx M else none := by
  refine run_gd hd (Or.inl rfl) ?_
  unfold stp oneR
  dsimp only
  rw [hq]
  dsimp only
  unfold fval
  rw [if_neg ht.1, if_neg ht.2]
  rfl
theorem run_getL {q c j x : Nat} (hd : decode (mB y) pc = .ok (.getfield q, 3)) (hq : lk tFl (pk y q) = some (c, j)) (ht : ft c j = 2) : run E y pc ls (.ref x :: st) nx M = if okF nx x c = true then run E y (pc + 3) ls (.long (gL M x j) :: st) nx M else none := by
  refine run_gd hd (Or.inl rfl) ?_
  unfold stp oneR
  dsimp only
  rw [hq]
  dsimp only
  unfold fval
  rw [if_pos ht]
  rfl
theorem run_getR {q c j x : Nat} (hd : decode (mB y) pc = .ok (.getfield q, 3)) (hq : lk tFl (pk y q) = some (c, j)) (ht : ft c j = 3) : run E y pc ls (.ref x :: st) nx M = if okF nx x c = true then run E y (pc + 3) ls (vrf (gR M x j) :: st) nx M else none := by
  refine run_gd hd (Or.inl rfl) ?_
  unfold stp oneR
  dsimp only
  rw [hq]
  dsimp only
  unfold fval
  rw [if_neg (by omega), if_pos ht]
  rfl
theorem run_getS {q x : Nat} {v : Value} (hd : decode (mB y) pc = .ok (.getfield q, 3)) (hq : lk tFl (pk y q) = none) (hp : (pk y q = 24009 ∧ v = .ref (x + 1)) ∨ (pk y q = 24015 ∧ v = .int 0)) : run E y pc ls (.ref x :: st) nx M = if (x == 1001 || x == 1003) = true then run E y (pc + 3) ls (v :: st) nx M else none := by
  refine run_gd hd (Or.inl rfl) ?_
  unfold stp oneR
  dsimp only
  rw [hq]
  dsimp only
  rcases hp with ⟨hp, rfl⟩ | ⟨hp, rfl⟩
  · rw [if_pos hp]
  · rw [if_neg (by rw [hp]; decide), if_pos hp]
theorem run_gets {q : Nat} (hd : decode (mB y) pc = .ok (.getstatic q, 3)) (hp : pk y q = 24038) : run E y pc ls st nx M = run E y (pc + 3) ls (.int 1 :: st) nx M := by
  refine run_go hd (Or.inl rfl) ?_
  unfold stp
  dsimp only
  rw [if_pos hp]
theorem run_ldcI {q : Nat} {v : Int32} (hd : decode (mB y) pc = .ok (.ldc q, 2)) (hq : lk tKl (pk y q) = some v) : run E y pc ls st nx M = run E y (pc + 2) ls (.int v :: st) nx M := by
  refine run_go hd (Or.inl rfl) ?_
  unfold stp
  dsimp only
  rw [hq]
theorem run_ldcW {q : Nat} {v : Int32} (hd : decode (mB y) pc = .ok (.ldc_w q, 3)) (hq : lk tKl (pk y q) = some v) : run E y pc ls st nx M = run E y (pc + 3) ls (.int v :: st) nx M := by
  refine run_go hd (Or.inl rfl) ?_
  unfold stp
  dsimp only
  rw [hq]
theorem run_ldcS {q a : Nat} (hd : decode (mB y) pc = .ok (.ldc q, 2)) (hq : lk tKl (pk y q) = none) (hq2 : lk tSl (pk y q) = some a) : run E y pc ls st nx M = run E y (pc + 2) ls (.ref a :: st) nx M := by
  refine run_go hd (Or.inl rfl) ?_
  unfold stp
  dsimp only
  rw [hq, hq2]
theorem run_ldc2 {q : Nat} {v : Int64} (hd : decode (mB y) pc = .ok (.ldc2_w q, 3)) (hq : lk tJl (pk y q) = some v) : run E y pc ls st nx M = run E y (pc + 3) ls (.long v :: st) nx M := by
  refine run_go hd (Or.inl rfl) ?_
  unfold stp
  dsimp only
  rw [hq]
theorem run_new {q c : Nat} (hd : decode (mB y) pc = .ok (.new q, 3)) (hq : lk tCl (pk y q) = some c) : run E y pc ls st nx M = if (decide (nx < NX) && (sh nx).1 == c) = true then run E y (pc + 3) ls (.ref nx :: st) (nx + 1) (zr M nx) else none := by
  refine run_gd hd (Or.inl rfl) ?_
  unfold stp
  dsimp only
  rw [hq]
theorem run_anew {q c : Nat} {x : Int32} (hd : decode (mB y) pc = .ok (.anewarray q, 3)) (hq : lk tCl (pk y q) = some c) : run E y pc ls (.int x :: st) nx M = if (decide (nx < NX) && (sh nx == (if c = 2 then 104 else 105, x.toNatClampNeg)) && (c == 2 || c == 7) && decide (¬ x < 0)) = true then run E y (pc + 3) ls (.ref nx :: st) (nx + 1) (zr M nx) else none := by
  refine run_gd hd (Or.inl rfl) ?_
  unfold stp one
  dsimp only
  rw [hq]
theorem run_cS {q y' n : Nat} {as rest : List Value} (hd : decode (mB y) pc = .ok (.invokestatic q, 3)) (hq : lk tMl (pk y q) = some (0, y', n) ∨ lk tMl (pk y q) = some (10, y', n)) (hn : n ≤ st.length) (ha : (st.take n).reverse = as) (hr : st.drop n = rest) : run E y pc ls st nx M = if decide (wt rest ≤ 8) = true then (E y' as nx M).bind (fun r => run E y (pc + 3) ls (r.1.toList ++ rest) r.2.1 r.2.2) else none := by
  refine (run_call (y' := y') (b := decide (n ≤ st.length) && decide (wt (st.drop n) ≤ 8)) hd (Or.inl rfl) ?_ ha hr).trans ?_
  · unfold stp
    dsimp only
    rcases hq with hq | hq <;> rw [hq] <;> rfl
  · rw [decide_eq_true hn, Bool.true_and, hr]
theorem run_cV {q y' n x : Nat} {as rest : List Value} (hd : decode (mB y) pc = .ok (.invokevirtual q, 3)) (hq : lk tMl (pk y q) = some (1, y', n)) (hn : n + 1 ≤ st.length) (hx : st[n]? = some (.ref x)) (ha : (st.take (n + 1)).reverse = as) (hr : st.drop (n + 1) = rest) : run E y pc ls st nx M = if (decide (wt rest ≤ 8) && okO nx x (mO y')) = true then (E y' as nx M).bind (fun r => run E y (pc + 3) ls (r.1.toList ++ rest) r.2.1 r.2.2) else none := by
  refine (run_call (y' := y') (b := decide (n + 1 ≤ st.length) && decide (wt (st.drop (n + 1)) ≤ 8) && recv nx (mO y') n st) hd (Or.inl rfl) ?_ ha hr).trans ?_
  · unfold stp
    dsimp only
    rw [hq]
    rfl
  · rw [decide_eq_true hn, Bool.true_and, hr]
    unfold recv
    rw [hx]
theorem run_cI {q y' n x : Nat} {as rest : List Value} (hd : decode (mB y) pc = .ok (.invokespecial q, 3)) (hq : lk tMl (pk y q) = some (2, y', n) ∨ lk tMl (pk y q) = some (12, y', n)) (hn : n + 1 ≤ st.length) (hx : st[n]? = some (.ref x)) (ha : (st.take (n + 1)).reverse = as) (hr : st.drop (n + 1) = rest) : run E y pc ls st nx M = if (decide (wt rest ≤ 8) && okO nx x (mO y')) = true then (E y' as nx M).bind (fun r => run E y (pc + 3) ls (r.1.toList ++ rest) r.2.1 r.2.2) else none := by
  refine (run_call (y' := y') (b := decide (n + 1 ≤ st.length) && decide (wt (st.drop (n + 1)) ≤ 8) && recv nx (mO y') n st) hd (Or.inl rfl) ?_ ha hr).trans ?_
  · unfold stp
    dsimp only
    rcases hq with hq | hq <;> rw [hq] <;> rfl
  · rw [decide_eq_true hn, Bool.true_and, hr]
    unfold recv
    rw [hx]
theorem run_prim {q kd a b : Nat} {g : Bool} {st' : List Value} {M' : Mem} (hd : decode (mB y) pc = .ok (.invokestatic q, 3)) (hq : lk tMl (pk y q) = some (kd, a, b)) (hs : (match (some (kd, a, b) : Option (Nat × Nat × Nat)) with
    | some (0, y', n) => gd (decide (n ≤ st.length) && decide (wt (st.drop n) ≤ 8)) (callE E y' n pc ls st nx M)
    | some (10, y', n) => gd (decide (n ≤ st.length) && decide (wt (st.drop n) ≤ 8)) (callE E y' n pc ls st nx M)
    | some (7, _, _) => cpA st nx M (fun M' r => go (pc + 3) ls r nx M')
    | some (20, _, _) => two st (fun x y r => gd (decide (wt r ≤ 8)) (go (pc + 3) ls (.int (if x < y then y else x) :: r) nx M))
    | some (21, _, _) => two st (fun x y r => gd (decide (wt r ≤ 8)) (go (pc + 3) ls (.int (if y < x then y else x) :: r) nx M))
    | some (22, _, _) => one st (fun x r => gd (decide (wt r ≤ 8)) (go (pc + 3) ls (.int (if 0 ≤ x then x else 0 - x) :: r) nx M))
    | some (23, _, _) => twoL st (fun x y r => gd (decide (wt r ≤ 8)) (go (pc + 3) ls (.long (if y < x then x else y) :: r) nx M))
    | some (24, _, _) => twoL st (fun x y r => gd (decide (wt r ≤ 8)) (go (pc + 3) ls (.long (if y < x then y else x) :: r) nx M))
    | some (8, _, _) => two st (fun x n r => gd (decide (¬ x < 0) && decide (x < n) && decide (wt r ≤ 8)) (go (pc + 3) ls r nx M))
    | _ => none) = gd g (go (pc + 3) ls st' nx M')) : run E y pc ls st nx M = if g = true then run E y (pc + 3) ls st' nx M' else none := by
  refine run_gd hd (Or.inl rfl) ?_
  rw [← hs, ← hq]
  rfl
theorem run_oI {q a b x : Nat} (hd : decode (mB y) pc = .ok (.invokespecial q, 3)) (hq : lk tMl (pk y q) = some (6, a, b)) : run E y pc ls (.ref x :: st) nx M = if decide (wt st ≤ 8) = true then run E y (pc + 3) ls st nx M else none := by
  refine run_gd hd (Or.inl rfl) ?_
  unfold stp
  dsimp only
  rw [hq]
  rfl
theorem run_ireti {x : Int32} (hd : decode (mB y) pc = .ok (.ireturn, 1)) (hr : mR y = some .int) : run E y pc ls [.int x] nx M = some (some (.int x), nx, M) := by
  refine run_end hd (Or.inl rfl) ?_
  show (if rok (mR y) x = true then _ else none) = _
  rw [hr, if_pos rok_i]
theorem run_iretz {x : Int32} (hd : decode (mB y) pc = .ok (.ireturn, 1)) (hr : mR y = some .boolean) : run E y pc ls [.int x] nx M = if zok x = true then some (some (.int x), nx, M) else none := by
  refine run_endz hd (Or.inl rfl) ?_
  show (if rok (mR y) x = true then _ else none) = _
  rw [hr, rok_z]
theorem run_irett {x : Int32} {t : FieldType} (hd : decode (mB y) pc = .ok (.ireturn, 1)) (hr : mR y = some t) : run E y pc ls [.int x] nx M = if rok (some t) x = true then some (some (.int x), nx, M) else none := by
  refine run_endz hd (Or.inl rfl) ?_
  show (if rok (mR y) x = true then _ else none) = _
  rw [hr]
theorem run_lret {x : Int64} (hd : decode (mB y) pc = .ok (.lreturn, 1)) (hr : mR y = some .long) : run E y pc ls [.long x] nx M = some (some (.long x), nx, M) := by
  refine run_end hd (Or.inl rfl) ?_
  show (if mR y = some .long then _ else none) = _
  rw [if_pos hr]
theorem run_aret {x : Nat} (hd : decode (mB y) pc = .ok (.areturn, 1)) (hr : rokR (mR y) = true) : run E y pc ls [.ref x] nx M = some (some (.ref x), nx, M) := by
  refine run_end hd (Or.inl rfl) ?_
  show (if rokR (mR y) = true then _ else none) = _
  rw [if_pos hr]
theorem run_aretn (hd : decode (mB y) pc = .ok (.areturn, 1)) (hr : rokR (mR y) = true) : run E y pc ls [.null] nx M = some (some .null, nx, M) := by
  refine run_end hd (Or.inl rfl) ?_
  show (if rokR (mR y) = true then _ else none) = _
  rw [if_pos hr]
theorem run_vret (hd : decode (mB y) pc = .ok (.return_, 1)) (hr : mR y = none) : run E y pc ls [] nx M = some (none, nx, M) := by
  refine run_end hd (Or.inl rfl) ?_
  show (if mR y = none then _ else none) = _
  rw [if_pos hr]
theorem ev_in {d n : Nat} {as : List Value} {l : Lcl} (hm : mL y = n) (h : (lcl as).length ≤ n) (he : lcl as ++ List.replicate (n - (lcl as).length) none = l) : ev (d + 1) y as nx M = run (ev d) y 0 l [] nx M := by
  subst hm
  exact ev_run h he
end RE3
