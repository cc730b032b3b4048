/-! AN ABSTRACT MACHINE for this program: cells by number (in the order of making), contents as functions, locals and stack as lists; a method is a partial function. 'run' is its limit; the rows 'run_..' are its equations, an instruction each. -/
abbrev Mem : Type := (Nat → Nat → Int32) × (Nat → Nat → Int64) × (Nat → Nat → Option Nat) × Nat
abbrev Lcl : Type := List (Option Value)
abbrev Res : Type := Option Value × Nat × Mem
abbrev Fr : Type := Nat × Lcl × List Value × Nat × Mem
abbrev Hdl : Type := Nat → List Value → Nat → Mem → Option Res
def gI (M : Mem) (k j : Nat) : Int32 := M.1 k j
def gL (M : Mem) (k j : Nat) : Int64 := M.2.1 k j
def gR (M : Mem) (k j : Nat) : Option Nat := M.2.2.1 k j
def u2 {α : Type} (f : Nat → Nat → α) (k j : Nat) (v : α) : Nat → Nat → α := fun a b => if a = k ∧ b = j then v else f a b
def u1 {α : Type} (f : Nat → Nat → α) (k : Nat) (v : Nat → α) : Nat → Nat → α := fun a => if a = k then v else f a
def sI (M : Mem) (k j : Nat) (v : Int32) : Mem := (u2 M.1 k j v, M.2)
def sL (M : Mem) (k j : Nat) (v : Int64) : Mem := (M.1, u2 M.2.1 k j v, M.2.2)
def sR (M : Mem) (k j : Nat) (v : Option Nat) : Mem := (M.1, M.2.1, u2 M.2.2.1 k j v, M.2.2.2)
/-- a new cell: all zero -/
def zr (M : Mem) (k : Nat) : Mem := (u1 M.1 k (fun _ => 0), u1 M.2.1 k (fun _ => 0), u1 M.2.2.1 k (fun _ => none), M.2.2.2)
/-- arraycopy of ints -/
def cpI (M : Mem) (k0 k1 sp dp n : Nat) : Mem := (u1 M.1 k1 (va_cpy (M.1 k0) (M.1 k1) sp dp n), M.2)
def vrf : Option Nat → Value
  | none => .null
  | some a => .ref a
def inb (i : Int32) (n : Nat) : Bool := decide (¬ (i < 0 ∨ n ≤ i.toNatClampNeg))
def lenOf (M : Mem) (k : Nat) : Nat := if k = 1000 then M.2.2.2 else (sh k).2
def live (nx k : Nat) : Bool := decide (k < nx) || (decide (1000 ≤ k) && decide (k < 1005))
/-- an object of class c -/
def okO (nx k c : Nat) : Bool := live nx k && (sh k).1 == c
/-- an array of kind t, with place i -/
def okA (M : Mem) (nx k t : Nat) (i : Int32) : Bool := live nx k && (sh k).1 == t && inb i (lenOf M k)
/-- it may be written -/
def okW (nx k : Nat) : Bool := decide (k < nx)
def wt : List Value → Nat
  | [] => 0
  | v :: l => v.category + wt l
def jump (pc : Nat) (off : Int) : Nat := ((pc : Int) + off).toNat
def jok (pc : Nat) (off : Int) : Bool := decide (0 ≤ (pc : Int) + off)
def cb (c : ClassFile.Cond) (x y : Int32) : Bool := match c with
  | .eq => decide (x = y)
  | .ne => !decide (x = y)
  | .lt => decide (x < y)
  | .ge => decide (y ≤ x)
  | .gt => decide (y < x)
  | .le => decide (x ≤ y)
def tsw (d : Int) : List Int → Int32 → Int32 → Int
  | [], _, _ => d
  | o :: r, k, x => if x = k then o else tsw d r (k + 1) x
def lsw (d : Int) : List (Int × Int) → Int32 → Int
  | [], _ => d
  | (a, o) :: r, x => if x = Int32.ofInt a then o else lsw d r x
def cmpL (x y : Int64) : Int32 := lg_cmp x y
def atag : ArrayType → Nat
  | .int => 100
  | .byte => 101
  | .boolean => 102
  | .long => 103
  | _ => 998
/-- the value of a field -/
def fval (M : Mem) (c k j : Nat) : Value := if ft c j = 2 then .long (gL M k j) else if ft c j = 3 then vrf (gR M k j) else .int (gI M k j)
/-- what a boolean, byte or char method may answer -/
def rok (t : Option FieldType) (v : Int32) : Bool := match t with
  | some ty => decide (narrow ty (.int v) = .int v) && (match ty with | .int | .boolean | .byte | .char => true | _ => false)
  | none => false
def rokR (t : Option FieldType) : Bool := match t with
  | some (.object _) => true
  | some (.array _) => true
  | _ => false
def go (pc : Nat) (ls : Lcl) (st : List Value) (nx : Nat) (M : Mem) : Option (Fr ⊕ Res) := some (.inl (pc, ls, st, nx, M))
def iln : Instr → Nat
  | .bipush _ | .iload _ | .lload _ | .aload _ | .istore _ | .lstore _ | .astore _ | .ldc _ | .newarray _ => 2
  | .sipush _ | .iinc _ _ | .ifCond _ _ | .if_icmp _ _ | .goto _ | .ifnull _ | .ifnonnull _ | .getfield _ | .putfield _ | .getstatic _ | .invokevirtual _ | .invokespecial _ | .invokestatic _ | .new _ | .anewarray _ | .ldc2_w _ | .ldc_w _ => 3
  | .tableswitch _ _ _ _ | .lookupswitch _ _ => 0
  | _ => 1
def ldI (ls : Lcl) (k : Nat) (f : Value → Option (Fr ⊕ Res)) : Option (Fr ⊕ Res) := match ls[k]? with
  | some (some (.int x)) => f (.int x)
  | _ => none
def ldL (ls : Lcl) (k : Nat) (f : Value → Option (Fr ⊕ Res)) : Option (Fr ⊕ Res) := match ls[k]?, ls[k + 1]? with
  | some (some (.long x)), some none => f (.long x)
  | _, _ => none
def ldA (ls : Lcl) (k : Nat) (f : Value → Option (Fr ⊕ Res)) : Option (Fr ⊕ Res) := match ls[k]? with
  | some (some (.ref x)) => f (.ref x)
  | some (some .null) => f .null
  | _ => none
def callE (E : Hdl) (y n pc : Nat) (ls : Lcl) (st : List Value) (nx : Nat) (M : Mem) : Option (Fr ⊕ Res) :=
  (E y (st.take n).reverse nx M).map (fun r => .inl (pc + 3, ls, r.1.toList ++ st.drop n, r.2.1, r.2.2))
def two (st : List Value) (f : Int32 → Int32 → List Value → Option (Fr ⊕ Res)) : Option (Fr ⊕ Res) := match st with
  | .int y :: .int x :: r => f x y r
  | _ => none
def twoL (st : List Value) (f : Int64 → Int64 → List Value → Option (Fr ⊕ Res)) : Option (Fr ⊕ Res) := match st with
  | .long y :: .long x :: r => f x y r
  | _ => none
def one (st : List Value) (f : Int32 → List Value → Option (Fr ⊕ Res)) : Option (Fr ⊕ Res) := match st with
  | .int x :: r => f x r
  | _ => none
def oneL (st : List Value) (f : Int64 → List Value → Option (Fr ⊕ Res)) : Option (Fr ⊕ Res) := match st with
  | .long x :: r => f x r
  | _ => none
def oneR (st : List Value) (f : Nat → List Value → Option (Fr ⊕ Res)) : Option (Fr ⊕ Res) := match st with
  | .ref x :: r => f x r
  | _ => none
def gd (b : Bool) (x : Option (Fr ⊕ Res)) : Option (Fr ⊕ Res) := if b = true then x else none
def arl (st : List Value) (f : Nat → Int32 → List Value → Option (Fr ⊕ Res)) : Option (Fr ⊕ Res) := match st with
  | .int i :: .ref k :: r => f k i r
  | _ => none
def ars (st : List Value) (f : Nat → Int32 → Int32 → List Value → Option (Fr ⊕ Res)) : Option (Fr ⊕ Res) := match st with
  | .int x :: .int i :: .ref k :: r => f k i x r
  | _ => none
def arsL (st : List Value) (f : Nat → Int32 → Int64 → List Value → Option (Fr ⊕ Res)) : Option (Fr ⊕ Res) := match st with
  | .long x :: .int i :: .ref k :: r => f k i x r
  | _ => none
def arsR (st : List Value) (f : Nat → Int32 → Nat → List Value → Option (Fr ⊕ Res)) : Option (Fr ⊕ Res) := match st with
  | .ref x :: .int i :: .ref k :: r => f k i x r
  | _ => none
def isInit (y : Nat) : Bool := (mI y).1.name == "<init>"
def putV (y c j : Nat) (st : List Value) (nx : Nat) (M : Mem) (f : Mem → List Value → Option (Fr ⊕ Res)) : Option (Fr ⊕ Res) := match st with
  | v :: .ref k :: r => if okW nx k && okO nx k c && (!fin c j || (isInit y && mO y == c)) then
      (match ft c j, v with
        | 0, .int x => f (sI M k j x) r
        | 1, .int x => if x = 0 ∨ x = 1 then f (sI M k j x) r else none
        | 2, .long x => f (sL M k j x) r
        | 3, .ref a => f (sR M k j (some a)) r
        | 3, .null => f (sR M k j none) r
        | _, _ => none) else none
  | _ => none
def cpA (st : List Value) (nx : Nat) (M : Mem) (f : Mem → List Value → Option (Fr ⊕ Res)) : Option (Fr ⊕ Res) := match st with
  | .int n :: .int dp :: .ref k1 :: .int sp :: .ref k0 :: r => if okW nx k0 && okW nx k1 && (sh k0).1 == 100 && (sh k1).1 == 100 && decide (¬ sp < 0) && decide (¬ dp < 0) && decide (¬ n < 0) && decide (sp.toNatClampNeg + n.toNatClampNeg ≤ (sh k0).2) && decide (dp.toNatClampNeg + n.toNatClampNeg ≤ (sh k1).2) && decide (wt r ≤ 8) then f (cpI M k0 k1 sp.toNatClampNeg dp.toNatClampNeg n.toNatClampNeg) r else none
  | _ => none
def recv (nx c n : Nat) (st : List Value) : Bool := match st[n]? with
  | some (.ref k) => okO nx k c
  | _ => false
/-- one instruction -/
def stp (E : Hdl) (y : Nat) (i : Instr) (pc : Nat) (ls : Lcl) (st : List Value) (nx : Nat) (M : Mem) : Option (Fr ⊕ Res) :=
  match i with
  | .iconst n => go (pc + 1) ls (.int (Int32.ofInt n) :: st) nx M
  | .bipush n => go (pc + 2) ls (.int (Int8.ofInt n).toInt32 :: st) nx M
  | .sipush n => go (pc + 3) ls (.int (Int16.ofInt n).toInt32 :: st) nx M
  | .lconst n => go (pc + 1) ls (.long (Int64.ofNat (n : Nat)) :: st) nx M
  | .aconst_null => go (pc + 1) ls (.null :: st) nx M
  | .ldc k => (match lk tKl (pk y k), lk tSl (pk y k) with
    | some v, _ => go (pc + 2) ls (.int v :: st) nx M
    | none, some a => go (pc + 2) ls (.ref a :: st) nx M
    | none, none => none)
  | .ldc_w k => (match lk tKl (pk y k) with
    | some v => go (pc + 3) ls (.int v :: st) nx M
    | none => none)
  | .ldc2_w k => (match lk tJl (pk y k) with
    | some v => go (pc + 3) ls (.long v :: st) nx M
    | none => none)
  | .iload k => ldI ls k (fun v => go (pc + 2) ls (v :: st) nx M)
  | .iload_n k => ldI ls k (fun v => go (pc + 1) ls (v :: st) nx M)
  | .lload k => ldL ls k (fun v => go (pc + 2) ls (v :: st) nx M)
  | .lload_n k => ldL ls k (fun v => go (pc + 1) ls (v :: st) nx M)
  | .aload k => ldA ls k (fun v => go (pc + 2) ls (v :: st) nx M)
  | .aload_n k => ldA ls k (fun v => go (pc + 1) ls (v :: st) nx M)
  | .istore k => one st (fun x r => gd (decide (k < ls.length)) (go (pc + 2) (ls.set k (some (.int x))) r nx M))
  | .istore_n k => one st (fun x r => gd (decide ((k : Nat) < ls.length)) (go (pc + 1) (ls.set k (some (.int x))) r nx M))
  | .lstore k => oneL st (fun x r => gd (decide (k + 1 < ls.length)) (go (pc + 2) ((ls.set k (some (.long x))).set (k + 1) none) r nx M))
  | .lstore_n k => oneL st (fun x r => gd (decide ((k : Nat) + 1 < ls.length)) (go (pc + 1) ((ls.set k (some (.long x))).set (k + 1) none) r nx M))
  | .astore k => (match st with
    | .ref x :: r => gd (decide (k < ls.length)) (go (pc + 2) (ls.set k (some (.ref x))) r nx M)
    | .null :: r => gd (decide (k < ls.length)) (go (pc + 2) (ls.set k (some .null)) r nx M)
    | _ => none)
  | .astore_n k => (match st with
    | .ref x :: r => gd (decide ((k : Nat) < ls.length)) (go (pc + 1) (ls.set k (some (.ref x))) r nx M)
    | .null :: r => gd (decide ((k : Nat) < ls.length)) (go (pc + 1) (ls.set k (some .null)) r nx M)
    | _ => none)
  | .iinc k n => (match ls[k]? with
    | some (some (.int x)) => go (pc + 3) (ls.set k (some (.int (x + Int32.ofInt n)))) st nx M
    | _ => none)
  | .iadd => two st (fun x y r => go (pc + 1) ls (.int (x + y) :: r) nx M)
  | .isub => two st (fun x y r => go (pc + 1) ls (.int (x - y) :: r) nx M)
  | .imul => two st (fun x y r => go (pc + 1) ls (.int (x * y) :: r) nx M)
  | .iand => two st (fun x y r => go (pc + 1) ls (.int (x &&& y) :: r) nx M)
  | .ior => two st (fun x y r => go (pc + 1) ls (.int (x ||| y) :: r) nx M)
  | .ixor => two st (fun x y r => go (pc + 1) ls (.int (x ^^^ y) :: r) nx M)
  | .idiv => two st (fun x y r => gd (!decide (y = 0)) (go (pc + 1) ls (.int (x / y) :: r) nx M))
  | .irem => two st (fun x y r => gd (!decide (y = 0)) (go (pc + 1) ls (.int (x - x / y * y) :: r) nx M))
  | .ishl => two st (fun x y r => go (pc + 1) ls (.int (x <<< (y &&& 31)) :: r) nx M)
  | .ishr => two st (fun x y r => go (pc + 1) ls (.int (x >>> (y &&& 31)) :: r) nx M)
  | .iushr => two st (fun x y r => go (pc + 1) ls (.int (x.toUInt32 >>> (y.toUInt32 &&& Int32.toUInt32 31)).toInt32 :: r) nx M)
  | .ineg => one st (fun x r => go (pc + 1) ls (.int (-x) :: r) nx M)
  | .i2l => one st (fun x r => go (pc + 1) ls (.long x.toInt64 :: r) nx M)
  | .i2b => one st (fun x r => go (pc + 1) ls (.int x.toInt8.toInt32 :: r) nx M)
  | .i2c => one st (fun x r => go (pc + 1) ls (.int (x.toUInt32 % 65536).toInt32 :: r) nx M)
  | .ladd => twoL st (fun x y r => go (pc + 1) ls (.long (x + y) :: r) nx M)
  | .lsub => twoL st (fun x y r => go (pc + 1) ls (.long (x - y) :: r) nx M)
  | .lmul => twoL st (fun x y r => go (pc + 1) ls (.long (x * y) :: r) nx M)
  | .land => twoL st (fun x y r => go (pc + 1) ls (.long (x &&& y) :: r) nx M)
  | .lor => twoL st (fun x y r => go (pc + 1) ls (.long (x ||| y) :: r) nx M)
  | .lxor => twoL st (fun x y r => go (pc + 1) ls (.long (x ^^^ y) :: r) nx M)
  | .ldiv => twoL st (fun x y r => gd (!decide (y = 0)) (go (pc + 1) ls (.long (x / y) :: r) nx M))
  | .lrem => twoL st (fun x y r => gd (!decide (y = 0)) (go (pc + 1) ls (.long (x - x / y * y) :: r) nx M))
  | .lcmp => twoL st (fun x y r => go (pc + 1) ls (.int (cmpL x y) :: r) nx M)
  | .lneg => oneL st (fun x r => go (pc + 1) ls (.long (-x) :: r) nx M)
  | .l2i => oneL st (fun x r => go (pc + 1) ls (.int x.toInt32 :: r) nx M)
  | .lshl => (match st with
    | .int y :: .long x :: r => go (pc + 1) ls (.long (x <<< (y.toInt64 &&& 63)) :: r) nx M
    | _ => none)
  | .lshr => (match st with
    | .int y :: .long x :: r => go (pc + 1) ls (.long (x >>> (y.toInt64 &&& 63)) :: r) nx M
    | _ => none)
  | .lushr => (match st with
    | .int y :: .long x :: r => go (pc + 1) ls (.long (x.toUInt64 >>> (y.toInt64.toUInt64 &&& Int64.toUInt64 63)).toInt64 :: r) nx M
    | _ => none)
  | .dup => (match st with
    | v :: r => gd (v.category == 1) (go (pc + 1) ls (v :: v :: r) nx M)
    | _ => none)
  | .dup2 => (match st with
    | v :: w :: r => gd (v.category == 1 && w.category == 1) (go (pc + 1) ls (v :: w :: v :: w :: r) nx M)
    | _ => none)
  | .pop => (match st with
    | v :: r => gd (v.category == 1) (go (pc + 1) ls r nx M)
    | _ => none)
  | .ifCond c off => one st (fun x r => gd (jok pc off) (if cb c x 0 = true then go (jump pc off) ls r nx M else go (pc + 3) ls r nx M))
  | .if_icmp c off => two st (fun x y r => gd (jok pc off) (if cb c x y = true then go (jump pc off) ls r nx M else go (pc + 3) ls r nx M))
  | .goto off => gd (jok pc off) (go (jump pc off) ls st nx M)
  | .ifnull off => (match st with
    | .ref _ :: r => go (pc + 3) ls r nx M
    | .null :: r => gd (jok pc off) (go (jump pc off) ls r nx M)
    | _ => none)
  | .ifnonnull off => (match st with
    | .ref _ :: r => gd (jok pc off) (go (jump pc off) ls r nx M)
    | .null :: r => go (pc + 3) ls r nx M
    | _ => none)
  | .tableswitch d lo hi offs => one st (fun x r => gd (decide (hi + 1 = lo + offs.toList.length) && decide (-1000 ≤ lo) && decide (hi ≤ 1000) && jok pc (tsw d offs.toList (Int32.ofInt lo) x)) (go (jump pc (tsw d offs.toList (Int32.ofInt lo) x)) ls r nx M))
  | .lookupswitch d ps => one st (fun x r => gd ((ps.toList.zip (ps.toList.drop 1)).all (fun (a, next) => a.1 < next.1) && ps.toList.all (fun q => decide (-1000 ≤ q.1) && decide (q.1 ≤ 1000)) && jok pc (lsw d ps.toList x)) (go (jump pc (lsw d ps.toList x)) ls r nx M))
  | .getfield k => oneR st (fun a r => (match lk tFl (pk y k) with
    | some (c, j) => gd (okW nx a && okO nx a c) (go (pc + 3) ls (fval M c a j :: r) nx M)
    | none => if pk y k = 24009 then gd (a == 1001 || a == 1003) (go (pc + 3) ls (.ref (a + 1) :: r) nx M) else if pk y k = 24015 then gd (a == 1001 || a == 1003) (go (pc + 3) ls (.int 0 :: r) nx M) else none))
  | .putfield k => (match lk tFl (pk y k) with
    | some (c, j) => putV y c j st nx M (fun M' r => go (pc + 3) ls r nx M')
    | none => none)
  | .getstatic k => if pk y k = 24038 then go (pc + 3) ls (.int 1 :: st) nx M else none
  | .iaload => arl st (fun k i r => gd (okA M nx k 100 i) (go (pc + 1) ls (.int (gI M k i.toNatClampNeg) :: r) nx M))
  | .baload => arl st (fun k i r => gd (okA M nx k 101 i || okA M nx k 102 i) (go (pc + 1) ls (.int (gI M k i.toNatClampNeg) :: r) nx M))
  | .laload => arl st (fun k i r => gd (okA M nx k 103 i) (go (pc + 1) ls (.long (gL M k i.toNatClampNeg) :: r) nx M))
  | .aaload => arl st (fun k i r => gd (okA M nx k 104 i || okA M nx k 105 i) (go (pc + 1) ls (vrf (gR M k i.toNatClampNeg) :: r) nx M))
  | .iastore => ars st (fun k i x r => gd (okW nx k && okA M nx k 100 i) (go (pc + 1) ls r nx (sI M k i.toNatClampNeg x)))
  | .bastore => ars st (fun k i x r => gd (okW nx k && okA M nx k 101 i) (go (pc + 1) ls r nx (sI M k i.toNatClampNeg (vp_nar .byte x))) <|> gd (okW nx k && okA M nx k 102 i) (go (pc + 1) ls r nx (sI M k i.toNatClampNeg (vp_nar .boolean x))))
  | .lastore => arsL st (fun k i x r => gd (okW nx k && okA M nx k 103 i) (go (pc + 1) ls r nx (sL M k i.toNatClampNeg x)))
  | .aastore => arsR st (fun k i x r => gd (okW nx k && okW nx x && ((okA M nx k 104 i && (sh x).1 == 2) || (okA M nx k 105 i && (sh x).1 == 7))) (go (pc + 1) ls r nx (sR M k i.toNatClampNeg (some x))))
  | .arraylength => oneR st (fun k r => gd (live nx k && decide (100 ≤ (sh k).1)) (go (pc + 1) ls (.int (Int32.ofNat (lenOf M k)) :: r) nx M))
  | .new k => (match lk tCl (pk y k) with
    | some c => gd (decide (nx < NX) && (sh nx).1 == c) (go (pc + 3) ls (.ref nx :: st) (nx + 1) (zr M nx))
    | none => none)
  | .newarray t => one st (fun n r => gd (decide (nx < NX) && sh nx == (atag t, n.toNatClampNeg) && decide (¬ n < 0)) (go (pc + 2) ls (.ref nx :: r) (nx + 1) (zr M nx)))
  | .anewarray k => one st (fun n r => (match lk tCl (pk y k) with
    | some c => gd (decide (nx < NX) && (sh nx == (if c = 2 then 104 else 105, n.toNatClampNeg)) && (c == 2 || c == 7) && decide (¬ n < 0)) (go (pc + 3) ls (.ref nx :: r) (nx + 1) (zr M nx))
    | none => none))
  | .invokestatic k => (match lk tMl (pk y k) with
    | some (0, y', n) => gd (decide (n ≤ st.length) && decide (wt (st.drop n) ≤ 8)) (callE E y' n pc ls st nx M)
    | some (10, y', n) => gd (decide (n ≤ st.length) && decide (wt (st.drop n) ≤ 8)) (callE E y' n pc ls st nx M)
    | some (7, _, _) => cpA st nx M (fun M' r => go (pc + 3) ls r nx M')
    | some (20, _, _) => two st (fun x y r => gd (decide (wt r ≤ 8)) (go (pc + 3) ls (.int (if x < y then y else x) :: r) nx M))
    | some (21, _, _) => two st (fun x y r => gd (decide (wt r ≤ 8)) (go (pc + 3) ls (.int (if y < x then y else x) :: r) nx M))
    | some (22, _, _) => one st (fun x r => gd (decide (wt r ≤ 8)) (go (pc + 3) ls (.int (if 0 ≤ x then x else 0 - x) :: r) nx M))
    | some (23, _, _) => twoL st (fun x y r => gd (decide (wt r ≤ 8)) (go (pc + 3) ls (.long (if y < x then x else y) :: r) nx M))
    | some (24, _, _) => twoL st (fun x y r => gd (decide (wt r ≤ 8)) (go (pc + 3) ls (.long (if y < x then y else x) :: r) nx M))
    | some (8, _, _) => two st (fun x n r => gd (decide (¬ x < 0) && decide (x < n) && decide (wt r ≤ 8)) (go (pc + 3) ls r nx M))
    | _ => none)
  | .invokevirtual k => (match lk tMl (pk y k) with
    | some (1, y', n) => gd (decide (n + 1 ≤ st.length) && decide (wt (st.drop (n + 1)) ≤ 8) && recv nx (mO y') n st) (callE E y' (n + 1) pc ls st nx M)
    | _ => none)
  | .invokespecial k => (match lk tMl (pk y k) with
    | some (2, y', n) => gd (decide (n + 1 ≤ st.length) && decide (wt (st.drop (n + 1)) ≤ 8) && recv nx (mO y') n st) (callE E y' (n + 1) pc ls st nx M)
    | some (12, y', n) => gd (decide (n + 1 ≤ st.length) && decide (wt (st.drop (n + 1)) ≤ 8) && recv nx (mO y') n st) (callE E y' (n + 1) pc ls st nx M)
    | some (6, _, _) => oneR st (fun _ r => gd (decide (wt r ≤ 8)) (go (pc + 3) ls r nx M))
    | _ => none)
  | .ireturn => (match st with
    | [.int v] => if rok (mR y) v = true then some (.inr (some (.int v), nx, M)) else none
    | _ => none)
  | .lreturn => (match st with
    | [.long v] => if mR y = some .long then some (.inr (some (.long v), nx, M)) else none
    | _ => none)
  | .areturn => (match st with
    | [.ref v] => if rokR (mR y) = true then some (.inr (some (.ref v), nx, M)) else none
    | [.null] => if rokR (mR y) = true then some (.inr (some .null, nx, M)) else none
    | _ => none)
  | .return_ => (match st with
    | [] => if mR y = none then some (.inr (none, nx, M)) else none
    | _ => none)
  | _ => none
/-- n instructions at most -/
def exN (E : Hdl) (y : Nat) : Nat → Fr → Option Res
  | 0, _ => none
  | n + 1, f => match decode (mB y) f.1 with
    | .ok (i, l) => if iln i = l ∨ iln i = 0 then (match stp E y i f.1 f.2.1 f.2.2.1 f.2.2.2.1 f.2.2.2.2 with
        | some (.inl f') => exN E y n f'
        | some (.inr r) => some r
        | none => none) else none
    | .error _ => none
theorem exN_succ {E : Hdl} {y : Nat} : ∀ {n : Nat} {f : Fr} {r : Res}, exN E y n f = some r → exN E y (n + 1) f = some r := by
  intro n
  induction n with
  | zero => intro f r h; cases h
  | succ n ih =>
    intro f r h
    rw [exN] at h
    rw [exN]
    cases hd : decode (mB y) f.1 with
    | error e => rw [hd] at h; cases h
    | ok q =>
      obtain ⟨i, l⟩ := q
      rw [hd] at h
      dsimp only at h ⊢
      by_cases hl : iln i = l ∨ iln i = 0
      · rw [if_pos hl] at h ⊢
        cases hs : stp E y i f.1 f.2.1 f.2.2.1 f.2.2.2.1 f.2.2.2.2 with
        | none => rw [hs] at h; cases h
        | some v =>
          rw [hs] at h
          cases v with
          | inl f' => exact ih h
          | inr r' => exact h
      · rw [if_neg hl] at h; cases h
theorem exN_le {E : Hdl} {y : Nat} {n m : Nat} {f : Fr} {r : Res} (h : exN E y n f = some r) (hm : n ≤ m) : exN E y m f = some r := by
  induction hm with
  | refl => exact h
  | step _ ih => exact exN_succ ih
theorem exN_det {E : Hdl} {y : Nat} {n m : Nat} {f : Fr} {r r' : Res} (h : exN E y n f = some r) (h' : exN E y m f = some r') : r = r' := by
  have h1 := exN_le h (Nat.le_max_left n m)
  have h2 := exN_le h' (Nat.le_max_right n m)
  exact Option.some.inj (h1.symm.trans h2)
noncomputable def runF (E : Hdl) (y : Nat) (f : Fr) : Option Res := @dite _ (∃ n r, exN E y n f = some r) (Classical.propDecidable _) (fun h => some h.choose_spec.choose) (fun _ => none)
noncomputable def run (E : Hdl) (y pc : Nat) (ls : Lcl) (st : List Value) (nx : Nat) (M : Mem) : Option Res := runF E y (pc, ls, st, nx, M)
theorem runF_some {E : Hdl} {y : Nat} {f : Fr} {r : Res} : runF E y f = some r ↔ ∃ n, exN E y n f = some r := by
  unfold runF
  constructor
  · intro h
    split at h
    · rename_i hh
      have e := Option.some.inj h
      exact ⟨hh.choose, by rw [← e]; exact hh.choose_spec.choose_spec⟩
    · cases h
  · rintro ⟨n, h⟩
    have hh : ∃ n r, exN E y n f = some r := ⟨n, r, h⟩
    rw [dif_pos hh]
    congr 1
    exact exN_det hh.choose_spec.choose_spec h
theorem runF_eq {E : Hdl} {y : Nat} {f : Fr} {i : Instr} {l : Nat} (hd : decode (mB y) f.1 = .ok (i, l)) (hl : iln i = l ∨ iln i = 0) : runF E y f = match stp E y i f.1 f.2.1 f.2.2.1 f.2.2.2.1 f.2.2.2.2 with
    | some (.inl f') => runF E y f'
    | some (.inr r) => some r
    | none => none := by
  apply Option.ext
  intro r
  rw [runF_some]
  cases hs : stp E y i f.1 f.2.1 f.2.2.1 f.2.2.2.1 f.2.2.2.2 with
  | none =>
    dsimp only
    constructor
    · rintro ⟨n, h⟩
      cases n with
      | zero => cases h
      | succ n => rw [exN, hd] at h; dsimp only at h; rw [if_pos hl, hs] at h; cases h
    · intro h; cases h
  | some v =>
    cases v with
    | inl f' =>
      dsimp only
      rw [runF_some]
      constructor
      · rintro ⟨n, h⟩
        cases n with
        | zero => cases h
        | succ n => rw [exN, hd] at h; dsimp only at h; rw [if_pos hl, hs] at h; exact ⟨n, h⟩
      · rintro ⟨n, h⟩
        exact ⟨n + 1, by rw [exN, hd]; dsimp only; rw [if_pos hl, hs]; exact h⟩
    | inr r' =>
      dsimp only
      constructor
      · rintro ⟨n, h⟩
        cases n with
        | zero => cases h
        | succ n => rw [exN, hd] at h; dsimp only at h; rw [if_pos hl, hs] at h; exact h
      · intro h
        exact ⟨1, by rw [exN, hd]; dsimp only; rw [if_pos hl, hs]; exact h⟩
/-- the locals at a method's entry -/
def lcl : List Value → Lcl
  | [] => []
  | v :: l => if v.category = 2 then some v :: none :: lcl l else some v :: lcl l
def entry (y : Nat) (as : List Value) : Lcl := lcl as ++ List.replicate (mL y - (lcl as).length) none
/-- a method at depth d -/
noncomputable def ev : Nat → Hdl
  | 0 => fun _ _ _ _ => none
  | d + 1 => fun y as nx M => if (lcl as).length ≤ mL y then run (ev d) y 0 (entry y as) [] nx M else none
