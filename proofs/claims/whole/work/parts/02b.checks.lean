/-! What the tables of part 02 say is what the Statement's words say: decided -/
theorem lw_tbl_mem {i : Nat} {w : Cond} (h : lw_tbl[i]? = some w) : w ∈ lw_tbl := List.mem_of_getElem? h
/-- a class's entry -/
def cls (c : Nat) : vw_C := clsl.getD c ("", T_X, 0)
def fty (c : Nat) : Nat → FieldType := tyl.getD c t_X
/-- the words that any method may take along -/
def gtl : List Cond := lw_tbl.filter (fun w => k2_isCode w || goodWord w)
def memT (w : Cond) : Bool := decide (w ∈ gtl)
/-- words in the order of the table -/
def subl : List Cond → List Cond → Bool
  | [], _ => true
  | _ :: _, [] => false
  | w :: ws, t :: ts => if w == t then subl ws ts else subl (w :: ws) ts
theorem subl_mem {ws : List Cond} : ∀ {ts : List Cond}, subl ws ts = true → ∀ w ∈ ws, w ∈ ts := by
  intro ts
  induction ts generalizing ws with
  | nil =>
    intro h w hw
    cases ws with
    | nil => cases hw
    | cons a ws => cases h
  | cons t ts ih =>
    intro h w hw
    cases ws with
    | nil => cases hw
    | cons a ws =>
      rw [subl] at h
      by_cases e : (a == t) = true
      · rw [if_pos e] at h
        rcases List.mem_cons.mp hw with rfl | hw
        · rw [eq_of_beq e]; exact List.mem_cons_self
        · exact List.mem_cons_of_mem _ (ih h w hw)
      · rw [if_neg e] at h
        exact List.mem_cons_of_mem _ (ih h w hw)
def chkF (e : Nat × Nat × Nat) : Bool := e.1 != 0 && decide (e.2.1 < 9) && decide (e.2.2 < (cls e.2.1).2.2) && memT (.fieldLink (oS (e.1 / 2000)) (e.1 % 2000) ((cls e.2.1).2.1 e.2.2).1 ((cls e.2.1).2.1 e.2.2).2.1 ((cls e.2.1).2.1 e.2.2).2.2.1)
theorem tF_ok : tFl.all chkF = true := by decide +kernel
theorem ws_ok : (List.range 9).all (fun c => (u_ws (cls c).1 (cls c).2.1 (cls c).2.2).all memT) = true := by decide +kernel
/-- fields: the descriptor, the kind, whether final, the declaring class -/
def chkC (c : Nat) : Bool := (List.range (cls c).2.2).all fun j =>
  decide (parseFieldDescriptor ((cls c).2.1 j).2.2.1 = some (fty c j)) && decide (((cls c).2.1 j).1 = oS c) && ((cls c).2.1 j).2.2.2 == fin c j && (List.range (cls c).2.2).all (fun i => decide (i = j) || decide (((cls c).2.1 i).2.1 ≠ ((cls c).2.1 j).2.1)) &&
  (match ft c j with | 0 => decide (fty c j = .int) | 1 => decide (fty c j = .boolean) | 2 => decide (fty c j = .long) | 3 => (match fty c j with | .object _ => true | .array _ => true | _ => false) | _ => false)
theorem cls_ok : (List.range 9).all chkC = true := by decide +kernel
theorem cls_at : (List.range 9).all (fun c => decide ((cls c).1 = oS c) && memT (.instantiable (cls c).1 (cls c).2.2) && memT (.initialized (cls c).1)) = true := by decide +kernel
def chkK (e : Nat × Int32) : Bool := e.1 != 0 && memT (.constant (oS (e.1 / 2000)) (e.1 % 2000) e.2)
theorem tK_ok : tKl.all chkK = true := by decide +kernel
def chkJ (e : Nat × Int64) : Bool := e.1 != 0 && memT (.constantLong (oS (e.1 / 2000)) (e.1 % 2000) e.2)
theorem tJ_ok : tJl.all chkJ = true := by decide +kernel
def chkL (e : Nat × Nat) : Bool := e.1 != 0 && decide (e.2 < 9) && memT (.classLink (oS (e.1 / 2000)) (e.1 % 2000) (cls e.2).1)
theorem tC_ok : tCl.all chkL = true := by decide +kernel
theorem arr_ok : (memT (.arrayClass .int) && memT (.arrayClass .byte) && memT (.arrayClass .boolean) && memT (.arrayClass .long)) = true := by decide +kernel
theorem over_ok : (decide (Cond.arrayOver (.object (oS 2)) ∈ lw_tbl) && decide (Cond.arrayOver (.object (oS 7)) ∈ lw_tbl)) = true := by decide +kernel
/-- methods: of the claim's or the library's own classes; the locals are few -/
def chkM (q : MethodName × ByteArray × Nat × Option FieldType × Nat) : Bool := decide (q.1.cls = oS q.2.2.2.2) && plainName q.1.cls && memT (.initialized q.1.cls) && decide (q.1.cls ≠ "java/lang/invoke/MethodHandle") && decide (q.1.cls ≠ "java/lang/invoke/VarHandle") && decide (q.2.2.1 ≤ 45)
theorem mt_ok : mtl.all chkM = true := by decide +kernel
def nP (y : Nat) : Option Nat := (parseMethodDescriptor (mI y).1.desc).map (fun d => d.parameters.length)
def lkW (e : Nat × Nat × Nat × Nat) : Cond :=
  let own := oS (e.1 / 2000)
  let idx := e.1 % 2000
  let y := (mI e.2.2.1).1
  match e.2.1 with
  | 10 | 12 => .methodLinkNest own idx y "ScaffoldReasons"
  | 6 => .methodLink own idx objectInit
  | 7 => .methodLink own idx arraycopyName
  | 8 => .methodLink own idx ⟨"java/lang/String", "checkIndex", "(II)V"⟩
  | 20 => .methodLink own idx Lib.Math.max.name
  | 21 => .methodLink own idx Lib.Math.min.name
  | 22 => .methodLink own idx Lib.Math.abs.name
  | 23 => .methodLink own idx Lib.MathLoose.max_long.x
  | 24 => .methodLink own idx Lib.MathLoose.min_long.x
  | _ => .methodLink own idx y
def isNest (e : Nat × Nat × Nat × Nat) : Bool := e.2.1 == 10 || e.2.1 == 12
theorem lkW_ok : subl ((tMl.filter (fun e => !isNest e)).map lkW) gtl = true := by decide +kernel
theorem nest_ok : subl ((tMl.filter isNest).map lkW) lw_tbl = true := by decide +kernel
theorem stl_ok : subl (stl.map (fun y => .static (mI y).1)) gtl = true := by decide +kernel
theorem inl_ok : subl (inl.map (fun y => .instanceMethod (mI y).1)) gtl = true := by decide +kernel
theorem sel_ok : subl (sel.map (fun y => .selects (mI y).1.cls (mI y).1 (mI y).1)) gtl = true := by decide +kernel
def chkI (e : Nat × Nat × Nat × Nat) : Bool :=
  e.1 != 0 && decide (e.2.2.1 < mtl.length) && (match e.2.1 with
  | 0 | 10 => stl.contains e.2.2.1 && decide (nP e.2.2.1 = some e.2.2.2)
  | 1 => inl.contains e.2.2.1 && sel.contains e.2.2.1 && decide (nP e.2.2.1 = some e.2.2.2)
  | 2 | 12 => inl.contains e.2.2.1 && decide ((mI e.2.2.1).1.name = "<init>") && decide ((mI e.2.2.1).2.2.2.1 = none) && decide (nP e.2.2.1 = some e.2.2.2)
  | 6 | 7 | 8 | 20 | 21 | 22 | 23 | 24 => true
  | _ => false)
theorem tM_ok : tMl.all chkI = true := by decide +kernel
theorem misc_ok : memT (.instanceMethod objectInit) && memT (.native arraycopyName) && memT (.static arraycopyName) && memT (.initialized "java/lang/System") && memT (.static ⟨"java/lang/String", "checkIndex", "(II)V"⟩) && memT (.initialized "java/lang/Math") && memT (.static Lib.Math.max.name) && memT (.static Lib.Math.min.name) && memT (.static Lib.Math.abs.name) && memT (.static Lib.MathLoose.max_long.x) && memT (.static Lib.MathLoose.min_long.x) && memT (.initialized "jdk/internal/util/Preconditions") = true := by decide +kernel
set_option maxRecDepth 100000 in
theorem cm_obj : Cond.code objectInit ⟨#[0xb1]⟩ 1 none ∈ lw_tbl := List.mem_of_getElem? (i := 147) rfl
set_option maxRecDepth 100000 in
theorem cm_max : Cond.code Lib.Math.max.name Lib.Math.max.code 2 (some .int) ∈ lw_tbl := List.mem_of_getElem? (i := 553) rfl
set_option maxRecDepth 100000 in
theorem cm_min : Cond.code Lib.Math.min.name Lib.Math.min.code 2 (some .int) ∈ lw_tbl := List.mem_of_getElem? (i := 530) rfl
set_option maxRecDepth 100000 in
theorem cm_abs : Cond.code Lib.Math.abs.name Lib.Math.abs.code 1 (some .int) ∈ lw_tbl := List.mem_of_getElem? (i := 819) rfl
set_option maxRecDepth 100000 in
theorem cm_maxl : Cond.code Lib.MathLoose.max_long.x Lib.MathLoose.max_long.code 4 (some .long) ∈ lw_tbl := List.mem_of_getElem? (i := 833) rfl
set_option maxRecDepth 100000 in
theorem cm_minl : Cond.code Lib.MathLoose.min_long.x Lib.MathLoose.min_long.code 4 (some .long) ∈ lw_tbl := List.mem_of_getElem? (i := 830) rfl
set_option maxRecDepth 100000 in
theorem cm_chk : Cond.code ⟨"java/lang/String", "checkIndex", "(II)V"⟩ prog_16_method_155_code 2 none ∈ lw_tbl := List.mem_of_getElem? (i := 492) rfl
set_option maxRecDepth 100000 in
theorem cm_pre : Cond.code ⟨"jdk/internal/util/Preconditions", "checkIndex", "(IILjava/util/function/BiFunction;)I"⟩ prog_21_method_11_code 3 (some .int) ∈ lw_tbl := List.mem_of_getElem? (i := 497) rfl
/-- the code of each method is what the Statement says -/
def cwP (y : Nat) : Prop := Cond.code (mI y).1 (mB y) (mL y) (mR y) ∈ lw_tbl
set_option maxRecDepth 100000 in
theorem cw_0 : cwP 0 := List.mem_of_getElem? (i := 144) rfl
set_option maxRecDepth 100000 in
theorem cw_1 : cwP 1 := List.mem_of_getElem? (i := 152) rfl
set_option maxRecDepth 100000 in
theorem cw_2 : cwP 2 := List.mem_of_getElem? (i := 158) rfl
set_option maxRecDepth 100000 in
theorem cw_3 : cwP 3 := List.mem_of_getElem? (i := 267) rfl
set_option maxRecDepth 100000 in
theorem cw_4 : cwP 4 := List.mem_of_getElem? (i := 294) rfl
set_option maxRecDepth 100000 in
theorem cw_5 : cwP 5 := List.mem_of_getElem? (i := 321) rfl
set_option maxRecDepth 100000 in
theorem cw_6 : cwP 6 := List.mem_of_getElem? (i := 343) rfl
set_option maxRecDepth 100000 in
theorem cw_7 : cwP 7 := List.mem_of_getElem? (i := 366) rfl
set_option maxRecDepth 100000 in
theorem cw_8 : cwP 8 := List.mem_of_getElem? (i := 420) rfl
set_option maxRecDepth 100000 in
theorem cw_9 : cwP 9 := List.mem_of_getElem? (i := 424) rfl
set_option maxRecDepth 100000 in
theorem cw_10 : cwP 10 := List.mem_of_getElem? (i := 428) rfl
set_option maxRecDepth 100000 in
theorem cw_11 : cwP 11 := List.mem_of_getElem? (i := 432) rfl
set_option maxRecDepth 100000 in
theorem cw_12 : cwP 12 := List.mem_of_getElem? (i := 436) rfl
set_option maxRecDepth 100000 in
theorem cw_13 : cwP 13 := List.mem_of_getElem? (i := 440) rfl
set_option maxRecDepth 100000 in
theorem cw_14 : cwP 14 := List.mem_of_getElem? (i := 444) rfl
set_option maxRecDepth 100000 in
theorem cw_15 : cwP 15 := List.mem_of_getElem? (i := 448) rfl
set_option maxRecDepth 100000 in
theorem cw_16 : cwP 16 := List.mem_of_getElem? (i := 452) rfl
set_option maxRecDepth 100000 in
theorem cw_17 : cwP 17 := List.mem_of_getElem? (i := 456) rfl
set_option maxRecDepth 100000 in
theorem cw_18 : cwP 18 := List.mem_of_getElem? (i := 459) rfl
set_option maxRecDepth 100000 in
theorem cw_19 : cwP 19 := List.mem_of_getElem? (i := 463) rfl
set_option maxRecDepth 100000 in
theorem cw_20 : cwP 20 := List.mem_of_getElem? (i := 467) rfl
set_option maxRecDepth 100000 in
theorem cw_21 : cwP 21 := List.mem_of_getElem? (i := 472) rfl
set_option maxRecDepth 100000 in
theorem cw_22 : cwP 22 := List.mem_of_getElem? (i := 476) rfl
set_option maxRecDepth 100000 in
theorem cw_23 : cwP 23 := List.mem_of_getElem? (i := 482) rfl
set_option maxRecDepth 100000 in
theorem cw_24 : cwP 24 := List.mem_of_getElem? (i := 486) rfl
set_option maxRecDepth 100000 in
theorem cw_25 : cwP 25 := List.mem_of_getElem? (i := 489) rfl
set_option maxRecDepth 100000 in
theorem cw_26 : cwP 26 := List.mem_of_getElem? (i := 520) rfl
set_option maxRecDepth 100000 in
theorem cw_27 : cwP 27 := List.mem_of_getElem? (i := 523) rfl
set_option maxRecDepth 100000 in
theorem cw_28 : cwP 28 := List.mem_of_getElem? (i := 527) rfl
set_option maxRecDepth 100000 in
theorem cw_29 : cwP 29 := List.mem_of_getElem? (i := 534) rfl
set_option maxRecDepth 100000 in
theorem cw_30 : cwP 30 := List.mem_of_getElem? (i := 539) rfl
set_option maxRecDepth 100000 in
theorem cw_31 : cwP 31 := List.mem_of_getElem? (i := 543) rfl
set_option maxRecDepth 100000 in
theorem cw_32 : cwP 32 := List.mem_of_getElem? (i := 547) rfl
set_option maxRecDepth 100000 in
theorem cw_33 : cwP 33 := List.mem_of_getElem? (i := 550) rfl
set_option maxRecDepth 100000 in
theorem cw_34 : cwP 34 := List.mem_of_getElem? (i := 557) rfl
set_option maxRecDepth 100000 in
theorem cw_35 : cwP 35 := List.mem_of_getElem? (i := 596) rfl
set_option maxRecDepth 100000 in
theorem cw_36 : cwP 36 := List.mem_of_getElem? (i := 600) rfl
set_option maxRecDepth 100000 in
theorem cw_37 : cwP 37 := List.mem_of_getElem? (i := 603) rfl
set_option maxRecDepth 100000 in
theorem cw_38 : cwP 38 := List.mem_of_getElem? (i := 607) rfl
set_option maxRecDepth 100000 in
theorem cw_39 : cwP 39 := List.mem_of_getElem? (i := 611) rfl
set_option maxRecDepth 100000 in
theorem cw_40 : cwP 40 := List.mem_of_getElem? (i := 615) rfl
set_option maxRecDepth 100000 in
theorem cw_41 : cwP 41 := List.mem_of_getElem? (i := 619) rfl
set_option maxRecDepth 100000 in
theorem cw_42 : cwP 42 := List.mem_of_getElem? (i := 623) rfl
set_option maxRecDepth 100000 in
theorem cw_43 : cwP 43 := List.mem_of_getElem? (i := 627) rfl
set_option maxRecDepth 100000 in
theorem cw_44 : cwP 44 := List.mem_of_getElem? (i := 631) rfl
set_option maxRecDepth 100000 in
theorem cw_45 : cwP 45 := List.mem_of_getElem? (i := 635) rfl
set_option maxRecDepth 100000 in
theorem cw_46 : cwP 46 := List.mem_of_getElem? (i := 639) rfl
set_option maxRecDepth 100000 in
theorem cw_47 : cwP 47 := List.mem_of_getElem? (i := 643) rfl
set_option maxRecDepth 100000 in
theorem cw_48 : cwP 48 := List.mem_of_getElem? (i := 647) rfl
set_option maxRecDepth 100000 in
theorem cw_49 : cwP 49 := List.mem_of_getElem? (i := 651) rfl
set_option maxRecDepth 100000 in
theorem cw_50 : cwP 50 := List.mem_of_getElem? (i := 655) rfl
set_option maxRecDepth 100000 in
theorem cw_51 : cwP 51 := List.mem_of_getElem? (i := 659) rfl
set_option maxRecDepth 100000 in
theorem cw_52 : cwP 52 := List.mem_of_getElem? (i := 663) rfl
set_option maxRecDepth 100000 in
theorem cw_53 : cwP 53 := List.mem_of_getElem? (i := 667) rfl
set_option maxRecDepth 100000 in
theorem cw_54 : cwP 54 := List.mem_of_getElem? (i := 671) rfl
set_option maxRecDepth 100000 in
theorem cw_55 : cwP 55 := List.mem_of_getElem? (i := 675) rfl
set_option maxRecDepth 100000 in
theorem cw_56 : cwP 56 := List.mem_of_getElem? (i := 679) rfl
set_option maxRecDepth 100000 in
theorem cw_57 : cwP 57 := List.mem_of_getElem? (i := 683) rfl
set_option maxRecDepth 100000 in
theorem cw_58 : cwP 58 := List.mem_of_getElem? (i := 687) rfl
set_option maxRecDepth 100000 in
theorem cw_59 : cwP 59 := List.mem_of_getElem? (i := 690) rfl
set_option maxRecDepth 100000 in
theorem cw_60 : cwP 60 := List.mem_of_getElem? (i := 694) rfl
set_option maxRecDepth 100000 in
theorem cw_61 : cwP 61 := List.mem_of_getElem? (i := 698) rfl
set_option maxRecDepth 100000 in
theorem cw_62 : cwP 62 := List.mem_of_getElem? (i := 702) rfl
set_option maxRecDepth 100000 in
theorem cw_63 : cwP 63 := List.mem_of_getElem? (i := 706) rfl
set_option maxRecDepth 100000 in
theorem cw_64 : cwP 64 := List.mem_of_getElem? (i := 709) rfl
set_option maxRecDepth 100000 in
theorem cw_65 : cwP 65 := List.mem_of_getElem? (i := 712) rfl
set_option maxRecDepth 100000 in
theorem cw_66 : cwP 66 := List.mem_of_getElem? (i := 715) rfl
set_option maxRecDepth 100000 in
theorem cw_67 : cwP 67 := List.mem_of_getElem? (i := 719) rfl
set_option maxRecDepth 100000 in
theorem cw_68 : cwP 68 := List.mem_of_getElem? (i := 723) rfl
set_option maxRecDepth 100000 in
theorem cw_69 : cwP 69 := List.mem_of_getElem? (i := 727) rfl
set_option maxRecDepth 100000 in
theorem cw_70 : cwP 70 := List.mem_of_getElem? (i := 731) rfl
set_option maxRecDepth 100000 in
theorem cw_71 : cwP 71 := List.mem_of_getElem? (i := 735) rfl
set_option maxRecDepth 100000 in
theorem cw_72 : cwP 72 := List.mem_of_getElem? (i := 739) rfl
set_option maxRecDepth 100000 in
theorem cw_73 : cwP 73 := List.mem_of_getElem? (i := 743) rfl
set_option maxRecDepth 100000 in
theorem cw_74 : cwP 74 := List.mem_of_getElem? (i := 747) rfl
set_option maxRecDepth 100000 in
theorem cw_75 : cwP 75 := List.mem_of_getElem? (i := 750) rfl
set_option maxRecDepth 100000 in
theorem cw_76 : cwP 76 := List.mem_of_getElem? (i := 754) rfl
set_option maxRecDepth 100000 in
theorem cw_77 : cwP 77 := List.mem_of_getElem? (i := 758) rfl
set_option maxRecDepth 100000 in
theorem cw_78 : cwP 78 := List.mem_of_getElem? (i := 763) rfl
set_option maxRecDepth 100000 in
theorem cw_79 : cwP 79 := List.mem_of_getElem? (i := 767) rfl
set_option maxRecDepth 100000 in
theorem cw_80 : cwP 80 := List.mem_of_getElem? (i := 771) rfl
set_option maxRecDepth 100000 in
theorem cw_81 : cwP 81 := List.mem_of_getElem? (i := 775) rfl
set_option maxRecDepth 100000 in
theorem cw_82 : cwP 82 := List.mem_of_getElem? (i := 779) rfl
set_option maxRecDepth 100000 in
theorem cw_83 : cwP 83 := List.mem_of_getElem? (i := 783) rfl
set_option maxRecDepth 100000 in
theorem cw_84 : cwP 84 := List.mem_of_getElem? (i := 787) rfl
set_option maxRecDepth 100000 in
theorem cw_85 : cwP 85 := List.mem_of_getElem? (i := 790) rfl
set_option maxRecDepth 100000 in
theorem cw_86 : cwP 86 := List.mem_of_getElem? (i := 793) rfl
set_option maxRecDepth 100000 in
theorem cw_87 : cwP 87 := List.mem_of_getElem? (i := 799) rfl
set_option maxRecDepth 100000 in
theorem cw_88 : cwP 88 := List.mem_of_getElem? (i := 803) rfl
set_option maxRecDepth 100000 in
theorem cw_89 : cwP 89 := List.mem_of_getElem? (i := 807) rfl
set_option maxRecDepth 100000 in
theorem cw_90 : cwP 90 := List.mem_of_getElem? (i := 812) rfl
set_option maxRecDepth 100000 in
theorem cw_91 : cwP 91 := List.mem_of_getElem? (i := 816) rfl
set_option maxRecDepth 100000 in
theorem cw_92 : cwP 92 := List.mem_of_getElem? (i := 822) rfl
set_option maxRecDepth 100000 in
theorem cw_93 : cwP 93 := List.mem_of_getElem? (i := 827) rfl
set_option maxRecDepth 100000 in
theorem cw_94 : cwP 94 := List.mem_of_getElem? (i := 836) rfl
set_option maxRecDepth 100000 in
theorem cw_95 : cwP 95 := List.mem_of_getElem? (i := 840) rfl
set_option maxRecDepth 100000 in
theorem cw_96 : cwP 96 := List.mem_of_getElem? (i := 844) rfl
set_option maxRecDepth 100000 in
theorem cw_97 : cwP 97 := List.mem_of_getElem? (i := 848) rfl
set_option maxRecDepth 100000 in
theorem cw_98 : cwP 98 := List.mem_of_getElem? (i := 855) rfl
set_option maxRecDepth 100000 in
theorem cw_99 : cwP 99 := List.mem_of_getElem? (i := 859) rfl
set_option maxRecDepth 100000 in
theorem cw_100 : cwP 100 := List.mem_of_getElem? (i := 863) rfl
set_option maxRecDepth 100000 in
theorem cw_101 : cwP 101 := List.mem_of_getElem? (i := 868) rfl
set_option maxRecDepth 100000 in
theorem cw_102 : cwP 102 := List.mem_of_getElem? (i := 872) rfl
set_option maxRecDepth 100000 in
theorem cw_103 : cwP 103 := List.mem_of_getElem? (i := 876) rfl
set_option maxRecDepth 100000 in
theorem cw_104 : cwP 104 := List.mem_of_getElem? (i := 879) rfl
set_option maxRecDepth 100000 in
theorem cw_105 : cwP 105 := List.mem_of_getElem? (i := 882) rfl
set_option maxRecDepth 100000 in
theorem cw_106 : cwP 106 := List.mem_of_getElem? (i := 886) rfl
set_option maxRecDepth 100000 in
theorem cw_107 : cwP 107 := List.mem_of_getElem? (i := 890) rfl
set_option maxRecDepth 100000 in
theorem cw_108 : cwP 108 := List.mem_of_getElem? (i := 893) rfl
set_option maxRecDepth 100000 in
theorem cw_109 : cwP 109 := List.mem_of_getElem? (i := 896) rfl
set_option maxRecDepth 100000 in
theorem cw_110 : cwP 110 := List.mem_of_getElem? (i := 901) rfl
set_option maxRecDepth 100000 in
theorem cw_111 : cwP 111 := List.mem_of_getElem? (i := 905) rfl
set_option maxRecDepth 100000 in
theorem cw_112 : cwP 112 := List.mem_of_getElem? (i := 909) rfl
set_option maxRecDepth 100000 in
theorem cw_113 : cwP 113 := List.mem_of_getElem? (i := 913) rfl
set_option maxRecDepth 100000 in
theorem cw_114 : cwP 114 := List.mem_of_getElem? (i := 917) rfl
set_option maxRecDepth 100000 in
theorem cw_115 : cwP 115 := List.mem_of_getElem? (i := 921) rfl
set_option maxRecDepth 100000 in
theorem cw_116 : cwP 116 := List.mem_of_getElem? (i := 926) rfl
set_option maxRecDepth 100000 in
theorem cw_117 : cwP 117 := List.mem_of_getElem? (i := 930) rfl
set_option maxRecDepth 100000 in
theorem cw_118 : cwP 118 := List.mem_of_getElem? (i := 934) rfl
set_option maxRecDepth 100000 in
theorem cw_119 : cwP 119 := List.mem_of_getElem? (i := 938) rfl
set_option maxRecDepth 100000 in
theorem cw_120 : cwP 120 := List.mem_of_getElem? (i := 942) rfl
set_option maxRecDepth 100000 in
theorem cw_121 : cwP 121 := List.mem_of_getElem? (i := 946) rfl
set_option maxRecDepth 100000 in
theorem cw_122 : cwP 122 := List.mem_of_getElem? (i := 950) rfl
set_option maxRecDepth 100000 in
theorem cw_123 : cwP 123 := List.mem_of_getElem? (i := 954) rfl
set_option maxRecDepth 100000 in
theorem cw_124 : cwP 124 := List.mem_of_getElem? (i := 959) rfl
set_option maxRecDepth 100000 in
theorem cw_125 : cwP 125 := List.mem_of_getElem? (i := 963) rfl
set_option maxRecDepth 100000 in
theorem cw_126 : cwP 126 := List.mem_of_getElem? (i := 967) rfl
set_option maxRecDepth 100000 in
theorem cw_127 : cwP 127 := List.mem_of_getElem? (i := 971) rfl
set_option maxRecDepth 100000 in
theorem cw_128 : cwP 128 := List.mem_of_getElem? (i := 975) rfl
set_option maxRecDepth 100000 in
theorem cw_129 : cwP 129 := List.mem_of_getElem? (i := 981) rfl
set_option maxRecDepth 100000 in
theorem cw_130 : cwP 130 := List.mem_of_getElem? (i := 985) rfl
set_option maxRecDepth 100000 in
theorem cw_131 : cwP 131 := List.mem_of_getElem? (i := 989) rfl
set_option maxRecDepth 100000 in
theorem cw_132 : cwP 132 := List.mem_of_getElem? (i := 993) rfl
set_option maxRecDepth 100000 in
theorem cw_133 : cwP 133 := List.mem_of_getElem? (i := 998) rfl
set_option maxRecDepth 100000 in
theorem cw_134 : cwP 134 := List.mem_of_getElem? (i := 1002) rfl
set_option maxRecDepth 100000 in
theorem cw_135 : cwP 135 := List.mem_of_getElem? (i := 1007) rfl
set_option maxRecDepth 100000 in
theorem cw_136 : cwP 136 := List.mem_of_getElem? (i := 1011) rfl
set_option maxRecDepth 100000 in
theorem cw_137 : cwP 137 := List.mem_of_getElem? (i := 1014) rfl
set_option maxRecDepth 100000 in
theorem cw_138 : cwP 138 := List.mem_of_getElem? (i := 1019) rfl
set_option maxRecDepth 100000 in
theorem cw_139 : cwP 139 := List.mem_of_getElem? (i := 1023) rfl
set_option maxRecDepth 100000 in
theorem cw_140 : cwP 140 := List.mem_of_getElem? (i := 1027) rfl
set_option maxRecDepth 100000 in
theorem cw_141 : cwP 141 := List.mem_of_getElem? (i := 1031) rfl
set_option maxRecDepth 100000 in
theorem cw_142 : cwP 142 := List.mem_of_getElem? (i := 1035) rfl
set_option maxRecDepth 100000 in
theorem cw_143 : cwP 143 := List.mem_of_getElem? (i := 1039) rfl
set_option maxRecDepth 100000 in
theorem cw_144 : cwP 144 := List.mem_of_getElem? (i := 1044) rfl
set_option maxRecDepth 100000 in
theorem cw_145 : cwP 145 := List.mem_of_getElem? (i := 1048) rfl
set_option maxRecDepth 100000 in
theorem cw_146 : cwP 146 := List.mem_of_getElem? (i := 1052) rfl
set_option maxRecDepth 100000 in
theorem cw_147 : cwP 147 := List.mem_of_getElem? (i := 1055) rfl
set_option maxRecDepth 100000 in
theorem cw_148 : cwP 148 := List.mem_of_getElem? (i := 1058) rfl
set_option maxRecDepth 100000 in
theorem cw_149 : cwP 149 := List.mem_of_getElem? (i := 1062) rfl
set_option maxRecDepth 100000 in
theorem cw_150 : cwP 150 := List.mem_of_getElem? (i := 1065) rfl
set_option maxRecDepth 100000 in
theorem cw_151 : cwP 151 := List.mem_of_getElem? (i := 1069) rfl
set_option maxRecDepth 100000 in
theorem cw_152 : cwP 152 := List.mem_of_getElem? (i := 1073) rfl
set_option maxRecDepth 100000 in
theorem cw_153 : cwP 153 := List.mem_of_getElem? (i := 1077) rfl
set_option maxRecDepth 100000 in
theorem cw_154 : cwP 154 := List.mem_of_getElem? (i := 1080) rfl
set_option maxRecDepth 100000 in
theorem cw_155 : cwP 155 := List.mem_of_getElem? (i := 1086) rfl
set_option maxRecDepth 100000 in
theorem cw_156 : cwP 156 := List.mem_of_getElem? (i := 1090) rfl
set_option maxRecDepth 100000 in
theorem cw_157 : cwP 157 := List.mem_of_getElem? (i := 1093) rfl
set_option maxRecDepth 100000 in
theorem cw_158 : cwP 158 := List.mem_of_getElem? (i := 1099) rfl
set_option maxRecDepth 100000 in
theorem cw_159 : cwP 159 := List.mem_of_getElem? (i := 1103) rfl
set_option maxRecDepth 100000 in
theorem cw_160 : cwP 160 := List.mem_of_getElem? (i := 1108) rfl
set_option maxRecDepth 100000 in
theorem cw_161 : cwP 161 := List.mem_of_getElem? (i := 1113) rfl
set_option maxRecDepth 100000 in
theorem cw_162 : cwP 162 := List.mem_of_getElem? (i := 1117) rfl
set_option maxRecDepth 100000 in
theorem cw_163 : cwP 163 := List.mem_of_getElem? (i := 1121) rfl
set_option maxRecDepth 100000 in
theorem cw_164 : cwP 164 := List.mem_of_getElem? (i := 1124) rfl
set_option maxRecDepth 100000 in
theorem cw_165 : cwP 165 := List.mem_of_getElem? (i := 1127) rfl
set_option maxRecDepth 100000 in
theorem cw_166 : cwP 166 := List.mem_of_getElem? (i := 1131) rfl
set_option maxRecDepth 100000 in
theorem cw_167 : cwP 167 := List.mem_of_getElem? (i := 1134) rfl
set_option maxRecDepth 100000 in
theorem cw_168 : cwP 168 := List.mem_of_getElem? (i := 1138) rfl
set_option maxRecDepth 100000 in
theorem cw_169 : cwP 169 := List.mem_of_getElem? (i := 1141) rfl
set_option maxRecDepth 100000 in
theorem cw_170 : cwP 170 := List.mem_of_getElem? (i := 1145) rfl
set_option maxRecDepth 100000 in
theorem cw_171 : cwP 171 := List.mem_of_getElem? (i := 1149) rfl
set_option maxRecDepth 100000 in
theorem cw_172 : cwP 172 := List.mem_of_getElem? (i := 1153) rfl
set_option maxRecDepth 100000 in
theorem cw_173 : cwP 173 := List.mem_of_getElem? (i := 1157) rfl
set_option maxRecDepth 100000 in
theorem cw_174 : cwP 174 := List.mem_of_getElem? (i := 1160) rfl
set_option maxRecDepth 100000 in
theorem cw_175 : cwP 175 := List.mem_of_getElem? (i := 1163) rfl
set_option maxRecDepth 100000 in
theorem cw_176 : cwP 176 := List.mem_of_getElem? (i := 1166) rfl
set_option maxRecDepth 100000 in
theorem cw_177 : cwP 177 := List.mem_of_getElem? (i := 1170) rfl
set_option maxRecDepth 100000 in
theorem cw_178 : cwP 178 := List.mem_of_getElem? (i := 1174) rfl
set_option maxRecDepth 100000 in
theorem cw_179 : cwP 179 := List.mem_of_getElem? (i := 1177) rfl
set_option maxRecDepth 100000 in
theorem cw_180 : cwP 180 := List.mem_of_getElem? (i := 1181) rfl
set_option maxRecDepth 100000 in
theorem cw_181 : cwP 181 := List.mem_of_getElem? (i := 1184) rfl
set_option maxRecDepth 100000 in
theorem cw_182 : cwP 182 := List.mem_of_getElem? (i := 1189) rfl
set_option maxRecDepth 100000 in
theorem cw_183 : cwP 183 := List.mem_of_getElem? (i := 1193) rfl
set_option maxRecDepth 100000 in
theorem cw_184 : cwP 184 := List.mem_of_getElem? (i := 1196) rfl
set_option maxRecDepth 100000 in
theorem cw_185 : cwP 185 := List.mem_of_getElem? (i := 1199) rfl
set_option maxRecDepth 100000 in
theorem cw_186 : cwP 186 := List.mem_of_getElem? (i := 1203) rfl
set_option maxRecDepth 100000 in
theorem cw_187 : cwP 187 := List.mem_of_getElem? (i := 1206) rfl
set_option maxRecDepth 100000 in
theorem cw_188 : cwP 188 := List.mem_of_getElem? (i := 1210) rfl
set_option maxRecDepth 100000 in
theorem cw_189 : cwP 189 := List.mem_of_getElem? (i := 1213) rfl
set_option maxRecDepth 100000 in
theorem cw_190 : cwP 190 := List.mem_of_getElem? (i := 1217) rfl
set_option maxRecDepth 100000 in
theorem cw_191 : cwP 191 := List.mem_of_getElem? (i := 1222) rfl
set_option maxRecDepth 100000 in
theorem cw_192 : cwP 192 := List.mem_of_getElem? (i := 1226) rfl
set_option maxRecDepth 100000 in
theorem cw_193 : cwP 193 := List.mem_of_getElem? (i := 1230) rfl
set_option maxRecDepth 100000 in
theorem cw_194 : cwP 194 := List.mem_of_getElem? (i := 1234) rfl
set_option maxRecDepth 100000 in
theorem cw_195 : cwP 195 := List.mem_of_getElem? (i := 1238) rfl
set_option maxRecDepth 100000 in
theorem cw_196 : cwP 196 := List.mem_of_getElem? (i := 1242) rfl
set_option maxRecDepth 100000 in
theorem cw_197 : cwP 197 := List.mem_of_getElem? (i := 1246) rfl
set_option maxRecDepth 100000 in
theorem cw_198 : cwP 198 := List.mem_of_getElem? (i := 1250) rfl
set_option maxRecDepth 100000 in
theorem cw_199 : cwP 199 := List.mem_of_getElem? (i := 1254) rfl
set_option maxRecDepth 100000 in
theorem cw_200 : cwP 200 := List.mem_of_getElem? (i := 1259) rfl
set_option maxRecDepth 100000 in
theorem cw_201 : cwP 201 := List.mem_of_getElem? (i := 1263) rfl
set_option maxRecDepth 100000 in
theorem cw_202 : cwP 202 := List.mem_of_getElem? (i := 1268) rfl
set_option maxRecDepth 100000 in
theorem cw_203 : cwP 203 := List.mem_of_getElem? (i := 1272) rfl
set_option maxRecDepth 100000 in
theorem cw_204 : cwP 204 := List.mem_of_getElem? (i := 1277) rfl
set_option maxRecDepth 100000 in
theorem cw_205 : cwP 205 := List.mem_of_getElem? (i := 1281) rfl
set_option maxRecDepth 100000 in
theorem cw_206 : cwP 206 := List.mem_of_getElem? (i := 1379) rfl
set_option maxRecDepth 100000 in
theorem cw_207 : cwP 207 := List.mem_of_getElem? (i := 1382) rfl
set_option maxRecDepth 100000 in
theorem cw_208 : cwP 208 := List.mem_of_getElem? (i := 1386) rfl
set_option maxRecDepth 100000 in
theorem cw_209 : cwP 209 := List.mem_of_getElem? (i := 1390) rfl
set_option maxRecDepth 100000 in
theorem cw_210 : cwP 210 := List.mem_of_getElem? (i := 1394) rfl
set_option maxRecDepth 100000 in
theorem cw_211 : cwP 211 := List.mem_of_getElem? (i := 1398) rfl
set_option maxRecDepth 100000 in
theorem cw_212 : cwP 212 := List.mem_of_getElem? (i := 1402) rfl
set_option maxRecDepth 100000 in
theorem cw_213 : cwP 213 := List.mem_of_getElem? (i := 1406) rfl
set_option maxRecDepth 100000 in
theorem cw_214 : cwP 214 := List.mem_of_getElem? (i := 1410) rfl
set_option maxRecDepth 100000 in
theorem cw_215 : cwP 215 := List.mem_of_getElem? (i := 1414) rfl
set_option maxRecDepth 100000 in
theorem cw_216 : cwP 216 := List.mem_of_getElem? (i := 1418) rfl
set_option maxRecDepth 100000 in
theorem cw_217 : cwP 217 := List.mem_of_getElem? (i := 1421) rfl
set_option maxRecDepth 100000 in
theorem cw_218 : cwP 218 := List.mem_of_getElem? (i := 1425) rfl
set_option maxRecDepth 100000 in
theorem cw_219 : cwP 219 := List.mem_of_getElem? (i := 1429) rfl
set_option maxRecDepth 100000 in
theorem cw_220 : cwP 220 := List.mem_of_getElem? (i := 1433) rfl
set_option maxRecDepth 100000 in
theorem cw_221 : cwP 221 := List.mem_of_getElem? (i := 1437) rfl
set_option maxRecDepth 100000 in
theorem cw_222 : cwP 222 := List.mem_of_getElem? (i := 1440) rfl
set_option maxRecDepth 100000 in
theorem cw_223 : cwP 223 := List.mem_of_getElem? (i := 1443) rfl
set_option maxRecDepth 100000 in
theorem cw_224 : cwP 224 := List.mem_of_getElem? (i := 1446) rfl
set_option maxRecDepth 100000 in
theorem cw_225 : cwP 225 := List.mem_of_getElem? (i := 1450) rfl
set_option maxRecDepth 100000 in
theorem cw_226 : cwP 226 := List.mem_of_getElem? (i := 1453) rfl
set_option maxRecDepth 100000 in
theorem cw_227 : cwP 227 := List.mem_of_getElem? (i := 1457) rfl
set_option maxRecDepth 100000 in
theorem cw_228 : cwP 228 := List.mem_of_getElem? (i := 1460) rfl
set_option maxRecDepth 100000 in
theorem cw_229 : cwP 229 := List.mem_of_getElem? (i := 1463) rfl
set_option maxRecDepth 100000 in
theorem cw_230 : cwP 230 := List.mem_of_getElem? (i := 1467) rfl
set_option maxRecDepth 100000 in
theorem cw_231 : cwP 231 := List.mem_of_getElem? (i := 1471) rfl
set_option maxRecDepth 100000 in
theorem cw_232 : cwP 232 := List.mem_of_getElem? (i := 1475) rfl
set_option maxRecDepth 100000 in
theorem cw_233 : cwP 233 := List.mem_of_getElem? (i := 1479) rfl
set_option maxRecDepth 100000 in
theorem cw_234 : cwP 234 := List.mem_of_getElem? (i := 1483) rfl
set_option maxRecDepth 100000 in
theorem cw_235 : cwP 235 := List.mem_of_getElem? (i := 1487) rfl
set_option maxRecDepth 100000 in
theorem cw_236 : cwP 236 := List.mem_of_getElem? (i := 1491) rfl
set_option maxRecDepth 100000 in
theorem cw_237 : cwP 237 := List.mem_of_getElem? (i := 1495) rfl
set_option maxRecDepth 100000 in
theorem cw_238 : cwP 238 := List.mem_of_getElem? (i := 1499) rfl
set_option maxRecDepth 100000 in
theorem cw_239 : cwP 239 := List.mem_of_getElem? (i := 1503) rfl
set_option maxRecDepth 100000 in
theorem cw_240 : cwP 240 := List.mem_of_getElem? (i := 1506) rfl
set_option maxRecDepth 100000 in
theorem cw_241 : cwP 241 := List.mem_of_getElem? (i := 1510) rfl
set_option maxRecDepth 100000 in
theorem cw_242 : cwP 242 := List.mem_of_getElem? (i := 1514) rfl
set_option maxRecDepth 100000 in
theorem cw_243 : cwP 243 := List.mem_of_getElem? (i := 1518) rfl
set_option maxRecDepth 100000 in
theorem cw_244 : cwP 244 := List.mem_of_getElem? (i := 1522) rfl
set_option maxRecDepth 100000 in
theorem cw_245 : cwP 245 := List.mem_of_getElem? (i := 1526) rfl
set_option maxRecDepth 100000 in
theorem cw_246 : cwP 246 := List.mem_of_getElem? (i := 1530) rfl
set_option maxRecDepth 100000 in
theorem cw_247 : cwP 247 := List.mem_of_getElem? (i := 1534) rfl
set_option maxRecDepth 100000 in
theorem cw_248 : cwP 248 := List.mem_of_getElem? (i := 1538) rfl
set_option maxRecDepth 100000 in
theorem cw_249 : cwP 249 := List.mem_of_getElem? (i := 1542) rfl
set_option maxRecDepth 100000 in
theorem cw_250 : cwP 250 := List.mem_of_getElem? (i := 1546) rfl
set_option maxRecDepth 100000 in
theorem cw_251 : cwP 251 := List.mem_of_getElem? (i := 1550) rfl
set_option maxRecDepth 100000 in
theorem cw_252 : cwP 252 := List.mem_of_getElem? (i := 1554) rfl
set_option maxRecDepth 100000 in
theorem cw_253 : cwP 253 := List.mem_of_getElem? (i := 1558) rfl
set_option maxRecDepth 100000 in
theorem cw_254 : cwP 254 := List.mem_of_getElem? (i := 1562) rfl
set_option maxRecDepth 100000 in
theorem cw_255 : cwP 255 := List.mem_of_getElem? (i := 1566) rfl
set_option maxRecDepth 100000 in
theorem cw_256 : cwP 256 := List.mem_of_getElem? (i := 1570) rfl
set_option maxRecDepth 100000 in
theorem cw_257 : cwP 257 := List.mem_of_getElem? (i := 1574) rfl
set_option maxRecDepth 100000 in
theorem cw_258 : cwP 258 := List.mem_of_getElem? (i := 1578) rfl
set_option maxRecDepth 100000 in
theorem cw_259 : cwP 259 := List.mem_of_getElem? (i := 1582) rfl
set_option maxRecDepth 100000 in
theorem cw_260 : cwP 260 := List.mem_of_getElem? (i := 1585) rfl
set_option maxRecDepth 100000 in
theorem cw_261 : cwP 261 := List.mem_of_getElem? (i := 1589) rfl
set_option maxRecDepth 100000 in
theorem cw_262 : cwP 262 := List.mem_of_getElem? (i := 1593) rfl
set_option maxRecDepth 100000 in
theorem cw_263 : cwP 263 := List.mem_of_getElem? (i := 1597) rfl
set_option maxRecDepth 100000 in
theorem cw_264 : cwP 264 := List.mem_of_getElem? (i := 1601) rfl
set_option maxRecDepth 100000 in
theorem cw_265 : cwP 265 := List.mem_of_getElem? (i := 1605) rfl
set_option maxRecDepth 100000 in
theorem cw_266 : cwP 266 := List.mem_of_getElem? (i := 1608) rfl
set_option maxRecDepth 100000 in
theorem cw_267 : cwP 267 := List.mem_of_getElem? (i := 1611) rfl
set_option maxRecDepth 100000 in
theorem cw_268 : cwP 268 := List.mem_of_getElem? (i := 1614) rfl
set_option maxRecDepth 100000 in
theorem cw_269 : cwP 269 := List.mem_of_getElem? (i := 1619) rfl
set_option maxRecDepth 100000 in
theorem cw_270 : cwP 270 := List.mem_of_getElem? (i := 1622) rfl
set_option maxRecDepth 100000 in
theorem cw_271 : cwP 271 := List.mem_of_getElem? (i := 1625) rfl
set_option maxRecDepth 100000 in
theorem cw_272 : cwP 272 := List.mem_of_getElem? (i := 1629) rfl
set_option maxRecDepth 100000 in
theorem cw_273 : cwP 273 := List.mem_of_getElem? (i := 1633) rfl
set_option maxRecDepth 100000 in
theorem cw_274 : cwP 274 := List.mem_of_getElem? (i := 1637) rfl
set_option maxRecDepth 100000 in
theorem cw_275 : cwP 275 := List.mem_of_getElem? (i := 1641) rfl
set_option maxRecDepth 100000 in
theorem cw_276 : cwP 276 := List.mem_of_getElem? (i := 1645) rfl
set_option maxRecDepth 100000 in
theorem cw_277 : cwP 277 := List.mem_of_getElem? (i := 1649) rfl
set_option maxRecDepth 100000 in
theorem cw_278 : cwP 278 := List.mem_of_getElem? (i := 1653) rfl
set_option maxRecDepth 100000 in
theorem cw_279 : cwP 279 := List.mem_of_getElem? (i := 1657) rfl
set_option maxRecDepth 100000 in
theorem cw_280 : cwP 280 := List.mem_of_getElem? (i := 1661) rfl
set_option maxRecDepth 100000 in
theorem cw_281 : cwP 281 := List.mem_of_getElem? (i := 1665) rfl
set_option maxRecDepth 100000 in
theorem cw_282 : cwP 282 := List.mem_of_getElem? (i := 1669) rfl
set_option maxRecDepth 100000 in
theorem cw_283 : cwP 283 := List.mem_of_getElem? (i := 1673) rfl
set_option maxRecDepth 100000 in
theorem cw_284 : cwP 284 := List.mem_of_getElem? (i := 1677) rfl
set_option maxRecDepth 100000 in
theorem cw_285 : cwP 285 := List.mem_of_getElem? (i := 1681) rfl
set_option maxRecDepth 100000 in
theorem cw_286 : cwP 286 := List.mem_of_getElem? (i := 1685) rfl
set_option maxRecDepth 100000 in
theorem cw_287 : cwP 287 := List.mem_of_getElem? (i := 1692) rfl
set_option maxRecDepth 100000 in
theorem cw_288 : cwP 288 := List.mem_of_getElem? (i := 1696) rfl
set_option maxRecDepth 100000 in
theorem cw_289 : cwP 289 := List.mem_of_getElem? (i := 1700) rfl
set_option maxRecDepth 100000 in
theorem cw_290 : cwP 290 := List.mem_of_getElem? (i := 1704) rfl
set_option maxRecDepth 100000 in
theorem cw_291 : cwP 291 := List.mem_of_getElem? (i := 1713) rfl
set_option maxRecDepth 100000 in
theorem cw_292 : cwP 292 := List.mem_of_getElem? (i := 1717) rfl
set_option maxRecDepth 100000 in
theorem cw_293 : cwP 293 := List.mem_of_getElem? (i := 1721) rfl
set_option maxRecDepth 100000 in
theorem cw_294 : cwP 294 := List.mem_of_getElem? (i := 1725) rfl
set_option maxRecDepth 100000 in
theorem cw_295 : cwP 295 := List.mem_of_getElem? (i := 1729) rfl
set_option maxRecDepth 100000 in
theorem cw_296 : cwP 296 := List.mem_of_getElem? (i := 1733) rfl
set_option maxRecDepth 100000 in
theorem cw_297 : cwP 297 := List.mem_of_getElem? (i := 1737) rfl
set_option maxRecDepth 100000 in
theorem cw_298 : cwP 298 := List.mem_of_getElem? (i := 1741) rfl
set_option maxRecDepth 100000 in
theorem cw_299 : cwP 299 := List.mem_of_getElem? (i := 1745) rfl
set_option maxRecDepth 100000 in
theorem cw_300 : cwP 300 := List.mem_of_getElem? (i := 1749) rfl
set_option maxRecDepth 100000 in
theorem cw_301 : cwP 301 := List.mem_of_getElem? (i := 1753) rfl
set_option maxRecDepth 100000 in
theorem cw_302 : cwP 302 := List.mem_of_getElem? (i := 1757) rfl
set_option maxRecDepth 100000 in
theorem cw_303 : cwP 303 := List.mem_of_getElem? (i := 1761) rfl
set_option maxRecDepth 100000 in
theorem cw_304 : cwP 304 := List.mem_of_getElem? (i := 1765) rfl
set_option maxRecDepth 100000 in
theorem cw_305 : cwP 305 := List.mem_of_getElem? (i := 1769) rfl
set_option maxRecDepth 100000 in
theorem cw_306 : cwP 306 := List.mem_of_getElem? (i := 1773) rfl
set_option maxRecDepth 100000 in
theorem cw_307 : cwP 307 := List.mem_of_getElem? (i := 1777) rfl
set_option maxRecDepth 100000 in
theorem cw_308 : cwP 308 := List.mem_of_getElem? (i := 1781) rfl
set_option maxRecDepth 100000 in
theorem cw_309 : cwP 309 := List.mem_of_getElem? (i := 1785) rfl
set_option maxRecDepth 100000 in
theorem cw_310 : cwP 310 := List.mem_of_getElem? (i := 1789) rfl
set_option maxRecDepth 100000 in
theorem cw_311 : cwP 311 := List.mem_of_getElem? (i := 1793) rfl
set_option maxRecDepth 100000 in
theorem cw_312 : cwP 312 := List.mem_of_getElem? (i := 1797) rfl
set_option maxRecDepth 100000 in
theorem cw_313 : cwP 313 := List.mem_of_getElem? (i := 1801) rfl
set_option maxRecDepth 100000 in
theorem cw_314 : cwP 314 := List.mem_of_getElem? (i := 1805) rfl
set_option maxRecDepth 100000 in
theorem cw_315 : cwP 315 := List.mem_of_getElem? (i := 1809) rfl
set_option maxRecDepth 100000 in
theorem cw_316 : cwP 316 := List.mem_of_getElem? (i := 1813) rfl
set_option maxRecDepth 100000 in
theorem cw_317 : cwP 317 := List.mem_of_getElem? (i := 1817) rfl
set_option maxRecDepth 100000 in
theorem cw_318 : cwP 318 := List.mem_of_getElem? (i := 1821) rfl
set_option maxRecDepth 100000 in
theorem cw_319 : cwP 319 := List.mem_of_getElem? (i := 1825) rfl
set_option maxRecDepth 100000 in
theorem cw_320 : cwP 320 := List.mem_of_getElem? (i := 1829) rfl
set_option maxRecDepth 100000 in
theorem cw_321 : cwP 321 := List.mem_of_getElem? (i := 1833) rfl
set_option maxRecDepth 100000 in
theorem cw_322 : cwP 322 := List.mem_of_getElem? (i := 1837) rfl
set_option maxRecDepth 100000 in
theorem cw_323 : cwP 323 := List.mem_of_getElem? (i := 1841) rfl
set_option maxRecDepth 100000 in
theorem cw_324 : cwP 324 := List.mem_of_getElem? (i := 1845) rfl
set_option maxRecDepth 100000 in
theorem cw_325 : cwP 325 := List.mem_of_getElem? (i := 1850) rfl
set_option maxRecDepth 100000 in
theorem cw_326 : cwP 326 := List.mem_of_getElem? (i := 1854) rfl
set_option maxRecDepth 100000 in
theorem cw_327 : cwP 327 := List.mem_of_getElem? (i := 1858) rfl
set_option maxRecDepth 100000 in
theorem cw_328 : cwP 328 := List.mem_of_getElem? (i := 1862) rfl
set_option maxRecDepth 100000 in
theorem cw_329 : cwP 329 := List.mem_of_getElem? (i := 1866) rfl
set_option maxRecDepth 100000 in
theorem cw_330 : cwP 330 := List.mem_of_getElem? (i := 1870) rfl
set_option maxRecDepth 100000 in
theorem cw_331 : cwP 331 := List.mem_of_getElem? (i := 1874) rfl
set_option maxRecDepth 100000 in
theorem cw_332 : cwP 332 := List.mem_of_getElem? (i := 1878) rfl
set_option maxRecDepth 100000 in
theorem cw_333 : cwP 333 := List.mem_of_getElem? (i := 1882) rfl
set_option maxRecDepth 100000 in
theorem cw_334 : cwP 334 := List.mem_of_getElem? (i := 1886) rfl
set_option maxRecDepth 100000 in
theorem cw_335 : cwP 335 := List.mem_of_getElem? (i := 1889) rfl
set_option maxRecDepth 100000 in
theorem cw_336 : cwP 336 := List.mem_of_getElem? (i := 1892) rfl
set_option maxRecDepth 100000 in
theorem cw_337 : cwP 337 := List.mem_of_getElem? (i := 1896) rfl
set_option maxRecDepth 100000 in
theorem cw_338 : cwP 338 := List.mem_of_getElem? (i := 1899) rfl
set_option maxRecDepth 100000 in
theorem cw_339 : cwP 339 := List.mem_of_getElem? (i := 1903) rfl
set_option maxRecDepth 100000 in
theorem cw_340 : cwP 340 := List.mem_of_getElem? (i := 1906) rfl
set_option maxRecDepth 100000 in
theorem cw_341 : cwP 341 := List.mem_of_getElem? (i := 1910) rfl
set_option maxRecDepth 100000 in
theorem cw_342 : cwP 342 := List.mem_of_getElem? (i := 1914) rfl
set_option maxRecDepth 100000 in
theorem cw_343 : cwP 343 := List.mem_of_getElem? (i := 1918) rfl
set_option maxRecDepth 100000 in
theorem cw_344 : cwP 344 := List.mem_of_getElem? (i := 1922) rfl
set_option maxRecDepth 100000 in
theorem cw_345 : cwP 345 := List.mem_of_getElem? (i := 1926) rfl
set_option maxRecDepth 100000 in
theorem cw_346 : cwP 346 := List.mem_of_getElem? (i := 1930) rfl
set_option maxRecDepth 100000 in
theorem cw_347 : cwP 347 := List.mem_of_getElem? (i := 1934) rfl
set_option maxRecDepth 100000 in
theorem cw_348 : cwP 348 := List.mem_of_getElem? (i := 1938) rfl
set_option maxRecDepth 100000 in
theorem cw_349 : cwP 349 := List.mem_of_getElem? (i := 1942) rfl
set_option maxRecDepth 100000 in
theorem cw_350 : cwP 350 := List.mem_of_getElem? (i := 1946) rfl
set_option maxRecDepth 100000 in
theorem cw_351 : cwP 351 := List.mem_of_getElem? (i := 1950) rfl
set_option maxRecDepth 100000 in
theorem cw_352 : cwP 352 := List.mem_of_getElem? (i := 1954) rfl
set_option maxRecDepth 100000 in
theorem cw_353 : cwP 353 := List.mem_of_getElem? (i := 1958) rfl
set_option maxRecDepth 100000 in
theorem cw_354 : cwP 354 := List.mem_of_getElem? (i := 1962) rfl
theorem cwl_0 : ∀ y ∈ [0, 1, 2, 3, 4, 5, 6, 7, 8, 9, 10, 11, 12, 13, 14, 15, 16, 17, 18, 19, 20, 21, 22, 23, 24, 25, 26, 27, 28, 29], cwP y := List.forall_mem_cons.mpr ⟨cw_0, List.forall_mem_cons.mpr ⟨cw_1, List.forall_mem_cons.mpr ⟨cw_2, List.forall_mem_cons.mpr ⟨cw_3, List.forall_mem_cons.mpr ⟨cw_4, List.forall_mem_cons.mpr ⟨cw_5, List.forall_mem_cons.mpr ⟨cw_6, List.forall_mem_cons.mpr ⟨cw_7, List.forall_mem_cons.mpr ⟨cw_8, List.forall_mem_cons.mpr ⟨cw_9, List.forall_mem_cons.mpr ⟨cw_10, List.forall_mem_cons.mpr ⟨cw_11, List.forall_mem_cons.mpr ⟨cw_12, List.forall_mem_cons.mpr ⟨cw_13, List.forall_mem_cons.mpr ⟨cw_14, List.forall_mem_cons.mpr ⟨cw_15, List.forall_mem_cons.mpr ⟨cw_16, List.forall_mem_cons.mpr ⟨cw_17, List.forall_mem_cons.mpr ⟨cw_18, List.forall_mem_cons.mpr ⟨cw_19, List.forall_mem_cons.mpr ⟨cw_20, List.forall_mem_cons.mpr ⟨cw_21, List.forall_mem_cons.mpr ⟨cw_22, List.forall_mem_cons.mpr ⟨cw_23, List.forall_mem_cons.mpr ⟨cw_24, List.forall_mem_cons.mpr ⟨cw_25, List.forall_mem_cons.mpr ⟨cw_26, List.forall_mem_cons.mpr ⟨cw_27, List.forall_mem_cons.mpr ⟨cw_28, List.forall_mem_cons.mpr ⟨cw_29, fun _ h => absurd h List.not_mem_nil⟩⟩⟩⟩⟩⟩⟩⟩⟩⟩⟩⟩⟩⟩⟩⟩⟩⟩⟩⟩⟩⟩⟩⟩⟩⟩⟩⟩⟩⟩
theorem cwl_1 : ∀ y ∈ [30, 31, 32, 33, 34, 35, 36, 37, 38, 39, 40, 41, 42, 43, 44, 45, 46, 47, 48, 49, 50, 51, 52, 53, 54, 55, 56, 57, 58, 59], cwP y := List.forall_mem_cons.mpr ⟨cw_30, List.forall_mem_cons.mpr ⟨cw_31, List.forall_mem_cons.mpr ⟨cw_32, List.forall_mem_cons.mpr ⟨cw_33, List.forall_mem_cons.mpr ⟨cw_34, List.forall_mem_cons.mpr ⟨cw_35, List.forall_mem_cons.mpr ⟨cw_36, List.forall_mem_cons.mpr ⟨cw_37, List.forall_mem_cons.mpr ⟨cw_38, List.forall_mem_cons.mpr ⟨cw_39, List.forall_mem_cons.mpr ⟨cw_40, List.forall_mem_cons.mpr ⟨cw_41, List.forall_mem_cons.mpr ⟨cw_42, List.forall_mem_cons.mpr ⟨cw_43, List.forall_mem_cons.mpr ⟨cw_44, List.forall_mem_cons.mpr ⟨cw_45, List.forall_mem_cons.mpr ⟨cw_46, List.forall_mem_cons.mpr ⟨cw_47, List.forall_mem_cons.mpr ⟨cw_48, List.forall_mem_cons.mpr ⟨cw_49, List.forall_mem_cons.mpr ⟨cw_50, List.forall_mem_cons.mpr ⟨cw_51, List.forall_mem_cons.mpr ⟨cw_52, List.forall_mem_cons.mpr ⟨cw_53, List.forall_mem_cons.mpr ⟨cw_54, List.forall_mem_cons.mpr ⟨cw_55, List.forall_mem_cons.mpr ⟨cw_56, List.forall_mem_cons.mpr ⟨cw_57, List.forall_mem_cons.mpr ⟨cw_58, List.forall_mem_cons.mpr ⟨cw_59, fun _ h => absurd h List.not_mem_nil⟩⟩⟩⟩⟩⟩⟩⟩⟩⟩⟩⟩⟩⟩⟩⟩⟩⟩⟩⟩⟩⟩⟩⟩⟩⟩⟩⟩⟩⟩
theorem cwl_2 : ∀ y ∈ [60, 61, 62, 63, 64, 65, 66, 67, 68, 69, 70, 71, 72, 73, 74, 75, 76, 77, 78, 79, 80, 81, 82, 83, 84, 85, 86, 87, 88, 89], cwP y := List.forall_mem_cons.mpr ⟨cw_60, List.forall_mem_cons.mpr ⟨cw_61, List.forall_mem_cons.mpr ⟨cw_62, List.forall_mem_cons.mpr ⟨cw_63, List.forall_mem_cons.mpr ⟨cw_64, List.forall_mem_cons.mpr ⟨cw_65, List.forall_mem_cons.mpr ⟨cw_66, List.forall_mem_cons.mpr ⟨cw_67, List.forall_mem_cons.mpr ⟨cw_68, List.forall_mem_cons.mpr ⟨cw_69, List.forall_mem_cons.mpr ⟨cw_70, List.forall_mem_cons.mpr ⟨cw_71, List.forall_mem_cons.mpr ⟨cw_72, List.forall_mem_cons.mpr ⟨cw_73, List.forall_mem_cons.mpr ⟨cw_74, List.forall_mem_cons.mpr ⟨cw_75, List.forall_mem_cons.mpr ⟨cw_76, List.forall_mem_cons.mpr ⟨cw_77, List.forall_mem_cons.mpr ⟨cw_78, List.forall_mem_cons.mpr ⟨cw_79, List.forall_mem_cons.mpr ⟨cw_80, List.forall_mem_cons.mpr ⟨cw_81, List.forall_mem_cons.mpr ⟨cw_82, List.forall_mem_cons.mpr ⟨cw_83, List.forall_mem_cons.mpr ⟨cw_84, List.forall_mem_cons.mpr ⟨cw_85, List.forall_mem_cons.mpr ⟨cw_86, List.forall_mem_cons.mpr ⟨cw_87, List.forall_mem_cons.mpr ⟨cw_88, List.forall_mem_cons.mpr ⟨cw_89, fun _ h => absurd h List.not_mem_nil⟩⟩⟩⟩⟩⟩⟩⟩⟩⟩⟩⟩⟩⟩⟩⟩⟩⟩⟩⟩⟩⟩⟩⟩⟩⟩⟩⟩⟩⟩
theorem cwl_3 : ∀ y ∈ [90, 91, 92, 93, 94, 95, 96, 97, 98, 99, 100, 101, 102, 103, 104, 105, 106, 107, 108, 109, 110, 111, 112, 113, 114, 115, 116, 117, 118, 119], cwP y := List.forall_mem_cons.mpr ⟨cw_90, List.forall_mem_cons.mpr ⟨cw_91, List.forall_mem_cons.mpr ⟨cw_92, List.forall_mem_cons.mpr ⟨cw_93, List.forall_mem_cons.mpr ⟨cw_94, List.forall_mem_cons.mpr ⟨cw_95, List.forall_mem_cons.mpr ⟨cw_96, List.forall_mem_cons.mpr ⟨cw_97, List.forall_mem_cons.mpr ⟨cw_98, List.forall_mem_cons.mpr ⟨cw_99, List.forall_mem_cons.mpr ⟨cw_100, List.forall_mem_cons.mpr ⟨cw_101, List.forall_mem_cons.mpr ⟨cw_102, List.forall_mem_cons.mpr ⟨cw_103, List.forall_mem_cons.mpr ⟨cw_104, List.forall_mem_cons.mpr ⟨cw_105, List.forall_mem_cons.mpr ⟨cw_106, List.forall_mem_cons.mpr ⟨cw_107, List.forall_mem_cons.mpr ⟨cw_108, List.forall_mem_cons.mpr ⟨cw_109, List.forall_mem_cons.mpr ⟨cw_110, List.forall_mem_cons.mpr ⟨cw_111, List.forall_mem_cons.mpr ⟨cw_112, List.forall_mem_cons.mpr ⟨cw_113, List.forall_mem_cons.mpr ⟨cw_114, List.forall_mem_cons.mpr ⟨cw_115, List.forall_mem_cons.mpr ⟨cw_116, List.forall_mem_cons.mpr ⟨cw_117, List.forall_mem_cons.mpr ⟨cw_118, List.forall_mem_cons.mpr ⟨cw_119, fun _ h => absurd h List.not_mem_nil⟩⟩⟩⟩⟩⟩⟩⟩⟩⟩⟩⟩⟩⟩⟩⟩⟩⟩⟩⟩⟩⟩⟩⟩⟩⟩⟩⟩⟩⟩
theorem cwl_4 : ∀ y ∈ [120, 121, 122, 123, 124, 125, 126, 127, 128, 129, 130, 131, 132, 133, 134, 135, 136, 137, 138, 139, 140, 141, 142, 143, 144, 145, 146, 147, 148, 149], cwP y := List.forall_mem_cons.mpr ⟨cw_120, List.forall_mem_cons.mpr ⟨cw_121, List.forall_mem_cons.mpr ⟨cw_122, List.forall_mem_cons.mpr ⟨cw_123, List.forall_mem_cons.mpr ⟨cw_124, List.forall_mem_cons.mpr ⟨cw_125, List.forall_mem_cons.mpr ⟨cw_126, List.forall_mem_cons.mpr ⟨cw_127, List.forall_mem_cons.mpr ⟨cw_128, List.forall_mem_cons.mpr ⟨cw_129, List.forall_mem_cons.mpr ⟨cw_130, List.forall_mem_cons.mpr ⟨cw_131, List.forall_mem_cons.mpr ⟨cw_132, List.forall_mem_cons.mpr ⟨cw_133, List.forall_mem_cons.mpr ⟨cw_134, List.forall_mem_cons.mpr ⟨cw_135, List.forall_mem_cons.mpr ⟨cw_136, List.forall_mem_cons.mpr ⟨cw_137, List.forall_mem_cons.mpr ⟨cw_138, List.forall_mem_cons.mpr ⟨cw_139, List.forall_mem_cons.mpr ⟨cw_140, List.forall_mem_cons.mpr ⟨cw_141, List.forall_mem_cons.mpr ⟨cw_142, List.forall_mem_cons.mpr ⟨cw_143, List.forall_mem_cons.mpr ⟨cw_144, List.forall_mem_cons.mpr ⟨cw_145, List.forall_mem_cons.mpr ⟨cw_146, List.forall_mem_cons.mpr ⟨cw_147, List.forall_mem_cons.mpr ⟨cw_148, List.forall_mem_cons.mpr ⟨cw_149, fun _ h => absurd h List.not_mem_nil⟩⟩⟩⟩⟩⟩⟩⟩⟩⟩⟩⟩⟩⟩⟩⟩⟩⟩⟩⟩⟩⟩⟩⟩⟩⟩⟩⟩⟩⟩
theorem cwl_5 : ∀ y ∈ [150, 151, 152, 153, 154, 155, 156, 157, 158, 159, 160, 161, 162, 163, 164, 165, 166, 167, 168, 169, 170, 171, 172, 173, 174, 175, 176, 177, 178, 179], cwP y := List.forall_mem_cons.mpr ⟨cw_150, List.forall_mem_cons.mpr ⟨cw_151, List.forall_mem_cons.mpr ⟨cw_152, List.forall_mem_cons.mpr ⟨cw_153, List.forall_mem_cons.mpr ⟨cw_154, List.forall_mem_cons.mpr ⟨cw_155, List.forall_mem_cons.mpr ⟨cw_156, List.forall_mem_cons.mpr ⟨cw_157, List.forall_mem_cons.mpr ⟨cw_158, List.forall_mem_cons.mpr ⟨cw_159, List.forall_mem_cons.mpr ⟨cw_160, List.forall_mem_cons.mpr ⟨cw_161, List.forall_mem_cons.mpr ⟨cw_162, List.forall_mem_cons.mpr ⟨cw_163, List.forall_mem_cons.mpr ⟨cw_164, List.forall_mem_cons.mpr ⟨cw_165, List.forall_mem_cons.mpr ⟨cw_166, List.forall_mem_cons.mpr ⟨cw_167, List.forall_mem_cons.mpr ⟨cw_168, List.forall_mem_cons.mpr ⟨cw_169, List.forall_mem_cons.mpr ⟨cw_170, List.forall_mem_cons.mpr ⟨cw_171, List.forall_mem_cons.mpr ⟨cw_172, List.forall_mem_cons.mpr ⟨cw_173, List.forall_mem_cons.mpr ⟨cw_174, List.forall_mem_cons.mpr ⟨cw_175, List.forall_mem_cons.mpr ⟨cw_176, List.forall_mem_cons.mpr ⟨cw_177, List.forall_mem_cons.mpr ⟨cw_178, List.forall_mem_cons.mpr ⟨cw_179, fun _ h => absurd h List.not_mem_nil⟩⟩⟩⟩⟩⟩⟩⟩⟩⟩⟩⟩⟩⟩⟩⟩⟩⟩⟩⟩⟩⟩⟩⟩⟩⟩⟩⟩⟩⟩
theorem cwl_6 : ∀ y ∈ [180, 181, 182, 183, 184, 185, 186, 187, 188, 189, 190, 191, 192, 193, 194, 195, 196, 197, 198, 199, 200, 201, 202, 203, 204, 205, 206, 207, 208, 209], cwP y := List.forall_mem_cons.mpr ⟨cw_180, List.forall_mem_cons.mpr ⟨cw_181, List.forall_mem_cons.mpr ⟨cw_182, List.forall_mem_cons.mpr ⟨cw_183, List.forall_mem_cons.mpr ⟨cw_184, List.forall_mem_cons.mpr ⟨cw_185, List.forall_mem_cons.mpr ⟨cw_186, List.forall_mem_cons.mpr ⟨cw_187, List.forall_mem_cons.mpr ⟨cw_188, List.forall_mem_cons.mpr ⟨cw_189, List.forall_mem_cons.mpr ⟨cw_190, List.forall_mem_cons.mpr ⟨cw_191, List.forall_mem_cons.mpr ⟨cw_192, List.forall_mem_cons.mpr ⟨cw_193, List.forall_mem_cons.mpr ⟨cw_194, List.forall_mem_cons.mpr ⟨cw_195, List.forall_mem_cons.mpr ⟨cw_196, List.forall_mem_cons.mpr ⟨cw_197, List.forall_mem_cons.mpr ⟨cw_198, List.forall_mem_cons.mpr ⟨cw_199, List.forall_mem_cons.mpr ⟨cw_200, List.forall_mem_cons.mpr ⟨cw_201, List.forall_mem_cons.mpr ⟨cw_202, List.forall_mem_cons.mpr ⟨cw_203, List.forall_mem_cons.mpr ⟨cw_204, List.forall_mem_cons.mpr ⟨cw_205, List.forall_mem_cons.mpr ⟨cw_206, List.forall_mem_cons.mpr ⟨cw_207, List.forall_mem_cons.mpr ⟨cw_208, List.forall_mem_cons.mpr ⟨cw_209, fun _ h => absurd h List.not_mem_nil⟩⟩⟩⟩⟩⟩⟩⟩⟩⟩⟩⟩⟩⟩⟩⟩⟩⟩⟩⟩⟩⟩⟩⟩⟩⟩⟩⟩⟩⟩
theorem cwl_7 : ∀ y ∈ [210, 211, 212, 213, 214, 215, 216, 217, 218, 219, 220, 221, 222, 223, 224, 225, 226, 227, 228, 229, 230, 231, 232, 233, 234, 235, 236, 237, 238, 239], cwP y := List.forall_mem_cons.mpr ⟨cw_210, List.forall_mem_cons.mpr ⟨cw_211, List.forall_mem_cons.mpr ⟨cw_212, List.forall_mem_cons.mpr ⟨cw_213, List.forall_mem_cons.mpr ⟨cw_214, List.forall_mem_cons.mpr ⟨cw_215, List.forall_mem_cons.mpr ⟨cw_216, List.forall_mem_cons.mpr ⟨cw_217, List.forall_mem_cons.mpr ⟨cw_218, List.forall_mem_cons.mpr ⟨cw_219, List.forall_mem_cons.mpr ⟨cw_220, List.forall_mem_cons.mpr ⟨cw_221, List.forall_mem_cons.mpr ⟨cw_222, List.forall_mem_cons.mpr ⟨cw_223, List.forall_mem_cons.mpr ⟨cw_224, List.forall_mem_cons.mpr ⟨cw_225, List.forall_mem_cons.mpr ⟨cw_226, List.forall_mem_cons.mpr ⟨cw_227, List.forall_mem_cons.mpr ⟨cw_228, List.forall_mem_cons.mpr ⟨cw_229, List.forall_mem_cons.mpr ⟨cw_230, List.forall_mem_cons.mpr ⟨cw_231, List.forall_mem_cons.mpr ⟨cw_232, List.forall_mem_cons.mpr ⟨cw_233, List.forall_mem_cons.mpr ⟨cw_234, List.forall_mem_cons.mpr ⟨cw_235, List.forall_mem_cons.mpr ⟨cw_236, List.forall_mem_cons.mpr ⟨cw_237, List.forall_mem_cons.mpr ⟨cw_238, List.forall_mem_cons.mpr ⟨cw_239, fun _ h => absurd h List.not_mem_nil⟩⟩⟩⟩⟩⟩⟩⟩⟩⟩⟩⟩⟩⟩⟩⟩⟩⟩⟩⟩⟩⟩⟩⟩⟩⟩⟩⟩⟩⟩
theorem cwl_8 : ∀ y ∈ [240, 241, 242, 243, 244, 245, 246, 247, 248, 249, 250, 251, 252, 253, 254, 255, 256, 257, 258, 259, 260, 261, 262, 263, 264, 265, 266, 267, 268, 269], cwP y := List.forall_mem_cons.mpr ⟨cw_240, List.forall_mem_cons.mpr ⟨cw_241, List.forall_mem_cons.mpr ⟨cw_242, List.forall_mem_cons.mpr ⟨cw_243, List.forall_mem_cons.mpr ⟨cw_244, List.forall_mem_cons.mpr ⟨cw_245, List.forall_mem_cons.mpr ⟨cw_246, List.forall_mem_cons.mpr ⟨cw_247, List.forall_mem_cons.mpr ⟨cw_248, List.forall_mem_cons.mpr ⟨cw_249, List.forall_mem_cons.mpr ⟨cw_250, List.forall_mem_cons.mpr ⟨cw_251, List.forall_mem_cons.mpr ⟨cw_252, List.forall_mem_cons.mpr ⟨cw_253, List.forall_mem_cons.mpr ⟨cw_254, List.forall_mem_cons.mpr ⟨cw_255, List.forall_mem_cons.mpr ⟨cw_256, List.forall_mem_cons.mpr ⟨cw_257, List.forall_mem_cons.mpr ⟨cw_258, List.forall_mem_cons.mpr ⟨cw_259, List.forall_mem_cons.mpr ⟨cw_260, List.forall_mem_cons.mpr ⟨cw_261, List.forall_mem_cons.mpr ⟨cw_262, List.forall_mem_cons.mpr ⟨cw_263, List.forall_mem_cons.mpr ⟨cw_264, List.forall_mem_cons.mpr ⟨cw_265, List.forall_mem_cons.mpr ⟨cw_266, List.forall_mem_cons.mpr ⟨cw_267, List.forall_mem_cons.mpr ⟨cw_268, List.forall_mem_cons.mpr ⟨cw_269, fun _ h => absurd h List.not_mem_nil⟩⟩⟩⟩⟩⟩⟩⟩⟩⟩⟩⟩⟩⟩⟩⟩⟩⟩⟩⟩⟩⟩⟩⟩⟩⟩⟩⟩⟩⟩
theorem cwl_9 : ∀ y ∈ [270, 271, 272, 273, 274, 275, 276, 277, 278, 279, 280, 281, 282, 283, 284, 285, 286, 287, 288, 289, 290, 291, 292, 293, 294, 295, 296, 297, 298, 299], cwP y := List.forall_mem_cons.mpr ⟨cw_270, List.forall_mem_cons.mpr ⟨cw_271, List.forall_mem_cons.mpr ⟨cw_272, List.forall_mem_cons.mpr ⟨cw_273, List.forall_mem_cons.mpr ⟨cw_274, List.forall_mem_cons.mpr ⟨cw_275, List.forall_mem_cons.mpr ⟨cw_276, List.forall_mem_cons.mpr ⟨cw_277, List.forall_mem_cons.mpr ⟨cw_278, List.forall_mem_cons.mpr ⟨cw_279, List.forall_mem_cons.mpr ⟨cw_280, List.forall_mem_cons.mpr ⟨cw_281, List.forall_mem_cons.mpr ⟨cw_282, List.forall_mem_cons.mpr ⟨cw_283, List.forall_mem_cons.mpr ⟨cw_284, List.forall_mem_cons.mpr ⟨cw_285, List.forall_mem_cons.mpr ⟨cw_286, List.forall_mem_cons.mpr ⟨cw_287, List.forall_mem_cons.mpr ⟨cw_288, List.forall_mem_cons.mpr ⟨cw_289, List.forall_mem_cons.mpr ⟨cw_290, List.forall_mem_cons.mpr ⟨cw_291, List.forall_mem_cons.mpr ⟨cw_292, List.forall_mem_cons.mpr ⟨cw_293, List.forall_mem_cons.mpr ⟨cw_294, List.forall_mem_cons.mpr ⟨cw_295, List.forall_mem_cons.mpr ⟨cw_296, List.forall_mem_cons.mpr ⟨cw_297, List.forall_mem_cons.mpr ⟨cw_298, List.forall_mem_cons.mpr ⟨cw_299, fun _ h => absurd h List.not_mem_nil⟩⟩⟩⟩⟩⟩⟩⟩⟩⟩⟩⟩⟩⟩⟩⟩⟩⟩⟩⟩⟩⟩⟩⟩⟩⟩⟩⟩⟩⟩
theorem cwl_10 : ∀ y ∈ [300, 301, 302, 303, 304, 305, 306, 307, 308, 309, 310, 311, 312, 313, 314, 315, 316, 317, 318, 319, 320, 321, 322, 323, 324, 325, 326, 327, 328, 329], cwP y := List.forall_mem_cons.mpr ⟨cw_300, List.forall_mem_cons.mpr ⟨cw_301, List.forall_mem_cons.mpr ⟨cw_302, List.forall_mem_cons.mpr ⟨cw_303, List.forall_mem_cons.mpr ⟨cw_304, List.forall_mem_cons.mpr ⟨cw_305, List.forall_mem_cons.mpr ⟨cw_306, List.forall_mem_cons.mpr ⟨cw_307, List.forall_mem_cons.mpr ⟨cw_308, List.forall_mem_cons.mpr ⟨cw_309, List.forall_mem_cons.mpr ⟨cw_310, List.forall_mem_cons.mpr ⟨cw_311, List.forall_mem_cons.mpr ⟨cw_312, List.forall_mem_cons.mpr ⟨cw_313, List.forall_mem_cons.mpr ⟨cw_314, List.forall_mem_cons.mpr ⟨cw_315, List.forall_mem_cons.mpr ⟨cw_316, List.forall_mem_cons.mpr ⟨cw_317, List.forall_mem_cons.mpr ⟨cw_318, List.forall_mem_cons.mpr ⟨cw_319, List.forall_mem_cons.mpr ⟨cw_320, List.forall_mem_cons.mpr ⟨cw_321, List.forall_mem_cons.mpr ⟨cw_322, List.forall_mem_cons.mpr ⟨cw_323, List.forall_mem_cons.mpr ⟨cw_324, List.forall_mem_cons.mpr ⟨cw_325, List.forall_mem_cons.mpr ⟨cw_326, List.forall_mem_cons.mpr ⟨cw_327, List.forall_mem_cons.mpr ⟨cw_328, List.forall_mem_cons.mpr ⟨cw_329, fun _ h => absurd h List.not_mem_nil⟩⟩⟩⟩⟩⟩⟩⟩⟩⟩⟩⟩⟩⟩⟩⟩⟩⟩⟩⟩⟩⟩⟩⟩⟩⟩⟩⟩⟩⟩
theorem cwl_11 : ∀ y ∈ [330, 331, 332, 333, 334, 335, 336, 337, 338, 339, 340, 341, 342, 343, 344, 345, 346, 347, 348, 349, 350, 351, 352, 353, 354], cwP y := List.forall_mem_cons.mpr ⟨cw_330, List.forall_mem_cons.mpr ⟨cw_331, List.forall_mem_cons.mpr ⟨cw_332, List.forall_mem_cons.mpr ⟨cw_333, List.forall_mem_cons.mpr ⟨cw_334, List.forall_mem_cons.mpr ⟨cw_335, List.forall_mem_cons.mpr ⟨cw_336, List.forall_mem_cons.mpr ⟨cw_337, List.forall_mem_cons.mpr ⟨cw_338, List.forall_mem_cons.mpr ⟨cw_339, List.forall_mem_cons.mpr ⟨cw_340, List.forall_mem_cons.mpr ⟨cw_341, List.forall_mem_cons.mpr ⟨cw_342, List.forall_mem_cons.mpr ⟨cw_343, List.forall_mem_cons.mpr ⟨cw_344, List.forall_mem_cons.mpr ⟨cw_345, List.forall_mem_cons.mpr ⟨cw_346, List.forall_mem_cons.mpr ⟨cw_347, List.forall_mem_cons.mpr ⟨cw_348, List.forall_mem_cons.mpr ⟨cw_349, List.forall_mem_cons.mpr ⟨cw_350, List.forall_mem_cons.mpr ⟨cw_351, List.forall_mem_cons.mpr ⟨cw_352, List.forall_mem_cons.mpr ⟨cw_353, List.forall_mem_cons.mpr ⟨cw_354, fun _ h => absurd h List.not_mem_nil⟩⟩⟩⟩⟩⟩⟩⟩⟩⟩⟩⟩⟩⟩⟩⟩⟩⟩⟩⟩⟩⟩⟩⟩⟩
def nM : Nat := 355
theorem range_M : List.range nM = [0, 1, 2, 3, 4, 5, 6, 7, 8, 9, 10, 11, 12, 13, 14, 15, 16, 17, 18, 19, 20, 21, 22, 23, 24, 25, 26, 27, 28, 29] ++ ([30, 31, 32, 33, 34, 35, 36, 37, 38, 39, 40, 41, 42, 43, 44, 45, 46, 47, 48, 49, 50, 51, 52, 53, 54, 55, 56, 57, 58, 59] ++ ([60, 61, 62, 63, 64, 65, 66, 67, 68, 69, 70, 71, 72, 73, 74, 75, 76, 77, 78, 79, 80, 81, 82, 83, 84, 85, 86, 87, 88, 89] ++ ([90, 91, 92, 93, 94, 95, 96, 97, 98, 99, 100, 101, 102, 103, 104, 105, 106, 107, 108, 109, 110, 111, 112, 113, 114, 115, 116, 117, 118, 119] ++ ([120, 121, 122, 123, 124, 125, 126, 127, 128, 129, 130, 131, 132, 133, 134, 135, 136, 137, 138, 139, 140, 141, 142, 143, 144, 145, 146, 147, 148, 149] ++ ([150, 151, 152, 153, 154, 155, 156, 157, 158, 159, 160, 161, 162, 163, 164, 165, 166, 167, 168, 169, 170, 171, 172, 173, 174, 175, 176, 177, 178, 179] ++ ([180, 181, 182, 183, 184, 185, 186, 187, 188, 189, 190, 191, 192, 193, 194, 195, 196, 197, 198, 199, 200, 201, 202, 203, 204, 205, 206, 207, 208, 209] ++ ([210, 211, 212, 213, 214, 215, 216, 217, 218, 219, 220, 221, 222, 223, 224, 225, 226, 227, 228, 229, 230, 231, 232, 233, 234, 235, 236, 237, 238, 239] ++ ([240, 241, 242, 243, 244, 245, 246, 247, 248, 249, 250, 251, 252, 253, 254, 255, 256, 257, 258, 259, 260, 261, 262, 263, 264, 265, 266, 267, 268, 269] ++ ([270, 271, 272, 273, 274, 275, 276, 277, 278, 279, 280, 281, 282, 283, 284, 285, 286, 287, 288, 289, 290, 291, 292, 293, 294, 295, 296, 297, 298, 299] ++ ([300, 301, 302, 303, 304, 305, 306, 307, 308, 309, 310, 311, 312, 313, 314, 315, 316, 317, 318, 319, 320, 321, 322, 323, 324, 325, 326, 327, 328, 329] ++ ([330, 331, 332, 333, 334, 335, 336, 337, 338, 339, 340, 341, 342, 343, 344, 345, 346, 347, 348, 349, 350, 351, 352, 353, 354]))))))))))) := by decide +kernel
theorem codes_all : ∀ y ∈ List.range nM, cwP y := by
  rw [range_M]
  exact List.forall_mem_append.mpr ⟨cwl_0, List.forall_mem_append.mpr ⟨cwl_1, List.forall_mem_append.mpr ⟨cwl_2, List.forall_mem_append.mpr ⟨cwl_3, List.forall_mem_append.mpr ⟨cwl_4, List.forall_mem_append.mpr ⟨cwl_5, List.forall_mem_append.mpr ⟨cwl_6, List.forall_mem_append.mpr ⟨cwl_7, List.forall_mem_append.mpr ⟨cwl_8, List.forall_mem_append.mpr ⟨cwl_9, List.forall_mem_append.mpr ⟨cwl_10, cwl_11⟩⟩⟩⟩⟩⟩⟩⟩⟩⟩⟩
theorem code_mem {y : Nat} (h : y < nM) : cwP y := codes_all y (List.mem_range.mpr h)
theorem gtl_mem {w : Cond} (h : w ∈ lw_tbl) (hg : (k2_isCode w || goodWord w) = true) : w ∈ gtl := List.mem_filter.mpr ⟨h, hg⟩
theorem memT_iff {w : Cond} : memT w = true ↔ w ∈ gtl := by unfold memT; exact decide_eq_true_iff
