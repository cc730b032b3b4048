/-! What the tables of part 02 say is what the Statement's words say: decided -/
theorem lw_tbl_mem {i : Nat} {w : Cond} (h : lw_tbl[i]? = some w) : w ∈ lw_tbl := List.mem_of_getElem? h
/-- a class's entry -/
def cls (c : Nat) : vw_C := clsl.getD c ("", T_X, 0)
def fty (c : Nat) : Nat → FieldType := tyl.getD c t_X
/-- the words that any method may take along -/
def gtl : List Cond := lw_tbl.filter (fun w => k2_isCode w || goodWord w)
def memT (w : Cond) : Bool := decide (w ∈ gtl)
/-- words in the order of the table -/
def subl : List Cond → List Cond → Bool
  | [], _ => true
  | _ :: _, [] => false
  | w :: ws, t :: ts => if w == t then subl ws ts else subl (w :: ws) ts
theorem subl_mem {ws : List Cond} : ∀ {ts : List Cond}, subl ws ts = true → ∀ w ∈ ws, w ∈ ts := by
  intro ts
  induction ts generalizing ws with
  | nil =>
    intro h w hw
    cases ws with
    | nil => cases hw
    | cons a ws => cases h
  | cons t ts ih =>
    intro h w hw
    cases ws with
    | nil => cases hw
    | cons a ws =>
      rw [subl] at h
      by_cases e : (a == t) = true
      · rw [if_pos e] at h
        rcases List.mem_cons.mp hw with rfl | hw
        · rw [eq_of_beq e]; exact List.mem_cons_self
        · exact List.mem_cons_of_mem _ (ih h w hw)
      · rw [if_neg e] at h
        exact List.mem_cons_of_mem _ (ih h w hw)
def chkF (e : Nat × Nat × Nat) : Bool := e.1 != 0 && decide (e.2.1 < 9) && decide (e.2.2 < (cls e.2.1).2.2) && memT (.fieldLink (oS (e.1 / 2000)) (e.1 % 2000) ((cls e.2.1).2.1 e.2.2).1 ((cls e.2.1).2.1 e.2.2).2.1 ((cls e.2.1).2.1 e.2.2).2.2.1)
theorem tF_ok : tFl.all chkF = true := by decide +kernel
theorem ws_ok : (List.range 9).all (fun c => (u_ws (cls c).1 (cls c).2.1 (cls c).2.2).all memT) = true := by decide +kernel
/-- fields: the descriptor, the kind, whether final, the declaring class -/
def chkC (c : Nat) : Bool := (List.range (cls c).2.2).all fun j =>
  decide (parseFieldDescriptor ((cls c).2.1 j).2.2.1 = some (fty c j)) && decide (((cls c).2.1 j).1 = oS c) && ((cls c).2.1 j).2.2.2 == fin c j && (List.range (cls c).2.2).all (fun i => decide (i = j) || decide (((cls c).2.1 i).2.1 ≠ ((cls c).2.1 j).2.1)) &&
  (match ft c j with | 0 => decide (fty c j = .int) | 1 => decide (fty c j = .boolean) | 2 => decide (fty c j = .long) | 3 => (match fty c j with | .object _ => true | .array _ => true | _ => false) | _ => false)
theorem cls_ok : (List.range 9).all chkC = true := by decide +kernel
theorem cls_at : (List.range 9).all (fun c => decide ((cls c).1 = oS c) && memT (.instantiable (cls c).1 (cls c).2.2) && memT (.initialized (cls c).1)) = true := by decide +kernel
def chkK (e : Nat × Int32) : Bool := e.1 != 0 && memT (.constant (oS (e.1 / 2000)) (e.1 % 2000) e.2)
theorem tK_ok : tKl.all chkK = true := by decide +kernel
def chkJ (e : Nat × Int64) : Bool := e.1 != 0 && memT (.constantLong (oS (e.1 / 2000)) (e.1 % 2000) e.2)
theorem tJ_ok : tJl.all chkJ = true := by decide +kernel
def chkL (e : Nat × Nat) : Bool := e.1 != 0 && decide (e.2 < 9) && memT (.classLink (oS (e.1 / 2000)) (e.1 % 2000) (cls e.2).1)
theorem tC_ok : tCl.all chkL = true := by decide +kernel
theorem arr_ok : memT (.arrayClass .int) && memT (.arrayClass .byte) && memT (.arrayClass .boolean) && memT (.arrayClass .long) && memT (.arrayOver (.object (oS 2))) && memT (.arrayOver (.object (oS 7))) = true := by decide +kernel
/-- methods: of the claim's or the library's own classes; the locals are few -/
def chkM (q : MethodName × ByteArray × Nat × Option FieldType × Nat) : Bool := decide (q.1.cls = oS q.2.2.2.2) && plainName q.1.cls && memT (.initialized q.1.cls) && decide (q.1.cls ≠ "java/lang/invoke/MethodHandle") && decide (q.1.cls ≠ "java/lang/invoke/VarHandle") && decide (q.2.2.1 ≤ 45)
theorem mt_ok : mtl.all chkM = true := by decide +kernel
def nP (y : Nat) : Option Nat := (parseMethodDescriptor (mI y).1.desc).map (fun d => d.parameters.length)
def lkW (e : Nat × Nat × Nat × Nat) : Cond :=
  let own := oS (e.1 / 2000)
  let idx := e.1 % 2000
  let y := (mI e.2.2.1).1
  match e.2.1 with
  | 10 | 12 => .methodLinkNest own idx y "ScaffoldReasons"
  | 6 => .methodLink own idx objectInit
  | 7 => .methodLink own idx arraycopyName
  | 8 => .methodLink own idx ⟨"java/lang/String", "checkIndex", "(II)V"⟩
  | 20 => .methodLink own idx Lib.Math.max.name
  | 21 => .methodLink own idx Lib.Math.min.name
  | 22 => .methodLink own idx Lib.Math.abs.name
  | 23 => .methodLink own idx Lib.MathLoose.max_long.x
  | 24 => .methodLink own idx Lib.MathLoose.min_long.x
  | _ => .methodLink own idx y
theorem lkW_ok : subl (tMl.map lkW) gtl = true := by decide +kernel
theorem stl_ok : subl (stl.map (fun y => .static (mI y).1)) gtl = true := by decide +kernel
theorem inl_ok : subl (inl.map (fun y => .instanceMethod (mI y).1)) gtl = true := by decide +kernel
theorem sel_ok : subl (sel.map (fun y => .selects (mI y).1.cls (mI y).1 (mI y).1)) gtl = true := by decide +kernel
def chkI (e : Nat × Nat × Nat × Nat) : Bool :=
  e.1 != 0 && decide (e.2.2.1 < mtl.length) && (match e.2.1 with
  | 0 | 10 => stl.contains e.2.2.1 && decide (nP e.2.2.1 = some e.2.2.2)
  | 1 => inl.contains e.2.2.1 && sel.contains e.2.2.1 && decide (nP e.2.2.1 = some e.2.2.2)
  | 2 | 12 => inl.contains e.2.2.1 && decide ((mI e.2.2.1).1.name = "<init>") && decide ((mI e.2.2.1).2.2.2.1 = none) && decide (nP e.2.2.1 = some e.2.2.2)
  | 6 | 7 | 8 | 20 | 21 | 22 | 23 | 24 => true
  | _ => false)
theorem tM_ok : tMl.all chkI = true := by decide +kernel
theorem misc_ok : memT (.instanceMethod objectInit) && memT (.native arraycopyName) && memT (.static arraycopyName) && memT (.initialized "java/lang/System") && memT (.static ⟨"java/lang/String", "checkIndex", "(II)V"⟩) && memT (.initialized "java/lang/Math") && memT (.static Lib.Math.max.name) && memT (.static Lib.Math.min.name) && memT (.static Lib.Math.abs.name) && memT (.static Lib.MathLoose.max_long.x) && memT (.static Lib.MathLoose.min_long.x) && memT (.initialized "jdk/internal/util/Preconditions") = true := by decide +kernel
theorem code_misc : memT (.code objectInit ⟨#[0xb1]⟩ 1 none) && memT (.code Lib.Math.max.name Lib.Math.max.code 2 (some .int)) && memT (.code Lib.Math.min.name Lib.Math.min.code 2 (some .int)) && memT (.code Lib.Math.abs.name Lib.Math.abs.code 1 (some .int)) && memT (.code Lib.MathLoose.max_long.x Lib.MathLoose.max_long.code 4 (some .long)) && memT (.code Lib.MathLoose.min_long.x Lib.MathLoose.min_long.code 4 (some .long)) = true := by decide +kernel
theorem code_ok : subl (mtl.dropLast.map (fun q => .code q.1 q.2.1 q.2.2.1 q.2.2.2.1)) gtl = true := by decide +kernel
