/-! SOUNDNESS, the last part: every instruction; every method, at any depth -/
section SND9
variable {p : Program} {l : Launch} {e : Env} {R : Room} {s : State} {m : MethodId} {args : Array Value} {below : List Frame} {meth : Method} {c : Code} {Q : State → Prop} {G : Wd} {y nx0 nxE d : Nat} {E : Hdl} {pc nx : Nat} {ls : Lcl} {st : List Value} {M M' : Mem} {f' : Fr}
def Ok (nx : Nat) (v : Option (Fr ⊕ Res)) : Prop := ∀ w, v = some w → ∃ f : Fr, w = .inl f ∧ nx ≤ f.2.2.2.1
theorem Ok_none : Ok nx none := fun _ h => by cases h
theorem Ok_go {pc' : Nat} {ls' : Lcl} {st' : List Value} {nx' : Nat} {M1 : Mem} (h : nx ≤ nx') : Ok nx (go pc' ls' st' nx' M1) := fun w hw => by
  unfold go at hw
  exact ⟨_, (Option.some.inj hw).symm, h⟩
theorem Ok_gd {b : Bool} {x : Option (Fr ⊕ Res)} (h : Ok nx x) : Ok nx (gd b x) := fun w hw => h w (gd_eq hw).2
theorem Ok_two {k : Int32 → Int32 → List Value → Option (Fr ⊕ Res)} (h : ∀ x z r, Ok nx (k x z r)) : Ok nx (two st k) := fun w hw => by
  obtain ⟨x, z, t, -, hk⟩ := two_eq hw
  exact h x z t w hk
theorem Ok_twoL {k : Int64 → Int64 → List Value → Option (Fr ⊕ Res)} (h : ∀ x z r, Ok nx (k x z r)) : Ok nx (twoL st k) := fun w hw => by
  obtain ⟨x, z, t, -, hk⟩ := twoL_eq hw
  exact h x z t w hk
theorem Ok_one {k : Int32 → List Value → Option (Fr ⊕ Res)} (h : ∀ x r, Ok nx (k x r)) : Ok nx (one st k) := fun w hw => by
  obtain ⟨x, t, -, hk⟩ := one_eq hw
  exact h x t w hk
theorem Ok_oneL {k : Int64 → List Value → Option (Fr ⊕ Res)} (h : ∀ x r, Ok nx (k x r)) : Ok nx (oneL st k) := fun w hw => by
  obtain ⟨x, t, -, hk⟩ := oneL_eq hw
  exact h x t w hk
theorem Ok_oneR {k : Nat → List Value → Option (Fr ⊕ Res)} (h : ∀ x r, Ok nx (k x r)) : Ok nx (oneR st k) := fun w hw => by
  obtain ⟨x, t, -, hk⟩ := oneR_eq hw
  exact h x t w hk
theorem Ok_arl {k : Nat → Int32 → List Value → Option (Fr ⊕ Res)} (h : ∀ x z r, Ok nx (k x z r)) : Ok nx (arl st k) := fun w hw => by
  obtain ⟨x, z, t, -, hk⟩ := arl_eq hw
  exact h x z t w hk
theorem Ok_ars {k : Nat → Int32 → Int32 → List Value → Option (Fr ⊕ Res)} (h : ∀ x z v r, Ok nx (k x z v r)) : Ok nx (ars st k) := fun w hw => by
  obtain ⟨x, z, v, t, -, hk⟩ := ars_eq hw
  exact h x z v t w hk
theorem Ok_arsL {k : Nat → Int32 → Int64 → List Value → Option (Fr ⊕ Res)} (h : ∀ x z v r, Ok nx (k x z v r)) : Ok nx (arsL st k) := fun w hw => by
  obtain ⟨x, z, v, t, -, hk⟩ := arsL_eq hw
  exact h x z v t w hk
theorem Ok_arsR {k : Nat → Int32 → Nat → List Value → Option (Fr ⊕ Res)} (h : ∀ x z v r, Ok nx (k x z v r)) : Ok nx (arsR st k) := fun w hw => by
  obtain ⟨x, z, v, t, -, hk⟩ := arsR_eq hw
  exact h x z v t w hk
theorem Ok_ldI {q : Nat} {k : Value → Option (Fr ⊕ Res)} (h : ∀ x, Ok nx (k x)) : Ok nx (ldI ls q k) := fun w hw => by
  obtain ⟨x, -, hk⟩ := ldI_eq hw
  exact h _ w hk
theorem Ok_ldL {q : Nat} {k : Value → Option (Fr ⊕ Res)} (h : ∀ x, Ok nx (k x)) : Ok nx (ldL ls q k) := fun w hw => by
  obtain ⟨x, -, -, hk⟩ := ldL_eq hw
  exact h _ w hk
theorem Ok_ldA {q : Nat} {k : Value → Option (Fr ⊕ Res)} (h : ∀ x, Ok nx (k x)) : Ok nx (ldA ls q k) := fun w hw => by
  rcases ldA_eq hw with ⟨x, -, hk⟩ | ⟨-, hk⟩
  · exact h _ w hk
  · exact h _ w hk
theorem Ok_or {a b : Option (Fr ⊕ Res)} (ha : Ok nx a) (hb : Ok nx b) : Ok nx (a <|> b) := fun w hw => by
  cases a with
  | none => exact hb w hw
  | some v => exact ha w hw
theorem Ok_put {c' j : Nat} {k : Mem → List Value → Option (Fr ⊕ Res)} (h : ∀ x r, Ok nx (k x r)) : Ok nx (putV y c' j st nx M k) := by
  unfold putV
  split
  · split
    · split
      · exact h _ _
      · split
        · exact h _ _
        · exact Ok_none
      · exact h _ _
      · exact h _ _
      · exact h _ _
      · exact Ok_none
    · exact Ok_none
  · exact Ok_none
theorem Ok_cpA {k : Mem → List Value → Option (Fr ⊕ Res)} (h : ∀ x r, Ok nx (k x r)) : Ok nx (cpA st nx M k) := fun w hw => by
  obtain ⟨_, _, _, _, _, _, -, -, -, -, -, -, -, -, -, -, -, hk⟩ := cpA_eq hw
  exact h _ _ w hk
theorem Ok_call {y' n : Nat} (hE : mono E) : Ok nx (callE E y' n pc ls st nx M) := fun w hw => by
  unfold callE at hw
  cases hc : E y' (st.take n).reverse nx M with
  | none => rw [hc] at hw; cases hw
  | some o =>
    rw [hc] at hw
    exact ⟨_, (Option.some.inj hw).symm, hE _ _ _ _ _ hc⟩
def isRet : Instr → Bool
  | .ireturn | .lreturn | .areturn | .return_ => true
  | _ => false
theorem stp_ok {i : Instr} (hE : mono E) (hi : isRet i = false) : Ok nx (stp E y i pc ls st nx M) := by
  unfold stp
  split
  all_goals first
    | exact Ok_none
    | exact Ok_go (Nat.le_refl _)
    | (cases hi; done)
    | (apply Ok_two; intro _ _ _; first | exact Ok_go (Nat.le_refl _) | (apply Ok_gd; first | exact Ok_go (Nat.le_refl _) | (split <;> exact Ok_go (Nat.le_refl _))))
    | (apply Ok_twoL; intro _ _ _; first | exact Ok_go (Nat.le_refl _) | (apply Ok_gd; exact Ok_go (Nat.le_refl _)))
    | (apply Ok_one; intro _ _; first | exact Ok_go (Nat.le_refl _) | (apply Ok_gd; first | exact Ok_go (Nat.le_refl _) | exact Ok_go (Nat.le_succ _) | (split <;> exact Ok_go (Nat.le_refl _))) | (split <;> first | exact Ok_none | (apply Ok_gd; exact Ok_go (Nat.le_succ _))))
    | (apply Ok_oneL; intro _ _; first | exact Ok_go (Nat.le_refl _) | (apply Ok_gd; exact Ok_go (Nat.le_refl _)))
    | (apply Ok_oneR; intro _ _; first | (apply Ok_gd; exact Ok_go (Nat.le_refl _)) | (split <;> first | (apply Ok_gd; exact Ok_go (Nat.le_refl _)) | (split <;> first | (apply Ok_gd; exact Ok_go (Nat.le_refl _)) | (split <;> first | (apply Ok_gd; exact Ok_go (Nat.le_refl _)) | exact Ok_none))))
    | (apply Ok_arl; intro _ _ _; apply Ok_gd; exact Ok_go (Nat.le_refl _))
    | (apply Ok_ars; intro _ _ _ _; first | (apply Ok_gd; exact Ok_go (Nat.le_refl _)) | (apply Ok_or <;> (apply Ok_gd; exact Ok_go (Nat.le_refl _))))
    | (apply Ok_arsL; intro _ _ _ _; apply Ok_gd; exact Ok_go (Nat.le_refl _))
    | (apply Ok_arsR; intro _ _ _ _; apply Ok_gd; exact Ok_go (Nat.le_refl _))
    | (apply Ok_ldI; intro _; exact Ok_go (Nat.le_refl _))
    | (apply Ok_ldL; intro _; exact Ok_go (Nat.le_refl _))
    | (apply Ok_ldA; intro _; exact Ok_go (Nat.le_refl _))
    | (apply Ok_gd; first | exact Ok_go (Nat.le_refl _) | exact Ok_call hE)
    | (split <;> first | exact Ok_none | exact Ok_go (Nat.le_refl _) | (apply Ok_gd; first | exact Ok_go (Nat.le_refl _) | exact Ok_go (Nat.le_succ _) | exact Ok_call hE) | (apply Ok_put; intro _ _; exact Ok_go (Nat.le_refl _)) | (apply Ok_cpA; intro _ _; exact Ok_go (Nat.le_refl _)) | (apply Ok_two; intro _ _ _; apply Ok_gd; exact Ok_go (Nat.le_refl _)) | (apply Ok_twoL; intro _ _ _; apply Ok_gd; exact Ok_go (Nat.le_refl _)) | (apply Ok_one; intro _ _; apply Ok_gd; exact Ok_go (Nat.le_refl _)) | (apply Ok_oneR; intro _ _; apply Ok_gd; exact Ok_go (Nat.le_refl _)))
/-- how a method ends -/
def retI (i : Instr) (v : Option Value) (t : Option FieldType) : Prop := (i = .ireturn ∧ ∃ x, v = some (.int x) ∧ rok t x = true) ∨ (i = .lreturn ∧ ∃ x, v = some (.long x) ∧ t = some .long) ∨ (i = .areturn ∧ (v = some .null ∨ ∃ a, v = some (.ref a)) ∧ rokR t = true) ∨ (i = .return_ ∧ v = none ∧ t = none)
theorem stp_ret {i : Instr} {o : Res} (hi : isRet i = true) (h : stp E y i pc ls st nx M = some (.inr o)) : o.2 = (nx, M) ∧ st = o.1.toList ∧ retI i o.1 (mR y) := by
  unfold stp at h
  cases i with
  | ireturn =>
    dsimp only at h
    split at h
    · split at h
      · rename_i v hr
        cases h
        exact ⟨rfl, rfl, Or.inl ⟨rfl, v, rfl, hr⟩⟩
      · cases h
    · cases h
  | lreturn =>
    dsimp only at h
    split at h
    · split at h
      · rename_i v hr
        cases h
        exact ⟨rfl, rfl, Or.inr (Or.inl ⟨rfl, v, rfl, hr⟩)⟩
      · cases h
    · cases h
  | areturn =>
    dsimp only at h
    split at h
    · split at h
      · rename_i v hr
        cases h
        exact ⟨rfl, rfl, Or.inr (Or.inr (Or.inl ⟨rfl, Or.inr ⟨v, rfl⟩, hr⟩))⟩
      · cases h
    · split at h
      · rename_i hr
        cases h
        exact ⟨rfl, rfl, Or.inr (Or.inr (Or.inl ⟨rfl, Or.inl rfl, hr⟩))⟩
      · cases h
    · cases h
  | return_ =>
    dsimp only at h
    split at h
    · split at h
      · rename_i hr
        cases h
        exact ⟨rfl, rfl, Or.inr (Or.inr (Or.inr ⟨rfl, rfl, hr⟩))⟩
      · cases h
    · cases h
  | _ => cases hi
theorem stp_ret_l {i : Instr} (hi : isRet i = true) (h : stp E y i pc ls st nx M = some (.inl f')) : False := by
  unfold stp at h
  cases i with
  | ireturn =>
    dsimp only at h
    split at h
    · split at h <;> cases h
    · cases h
  | lreturn =>
    dsimp only at h
    split at h
    · split at h <;> cases h
    · cases h
  | areturn =>
    dsimp only at h
    split at h
    · split at h <;> cases h
    · split at h <;> cases h
    · cases h
  | return_ =>
    dsimp only at h
    split at h
    · split at h <;> cases h
    · cases h
  | _ => cases hi
theorem exN_mono (hE : mono E) : ∀ (n : Nat) (f : Fr) (o : Res), exN E y n f = some o → f.2.2.2.1 ≤ o.2.1 := by
  intro n
  induction n with
  | zero => intro f o h; cases h
  | succ n ih =>
    intro f o h
    obtain ⟨pc, ls, st, nx, M⟩ := f
    rw [exN] at h
    split at h
    · rename_i i len hd
      split at h
      · split at h
        · rename_i f' hs
          cases hi : isRet i with
          | false =>
            obtain ⟨f2, e1, e2⟩ := stp_ok hE hi _ hs
            cases e1
            exact Nat.le_trans e2 (ih _ _ h)
          | true => exact (stp_ret_l hi hs).elim
        · rename_i r hs
          cases h
          cases hi : isRet i with
          | false =>
            obtain ⟨f2, e1, e2⟩ := stp_ok hE hi _ hs
            cases e1
          | true =>
            obtain ⟨e1, -⟩ := stp_ret hi hs
            rw [e1]
            exact Nat.le_refl _
        · cases h
      · cases h
    · cases h
theorem ev_mono (d : Nat) : mono (ev d) := by
  induction d with
  | zero => intro y as nx M r h; cases h
  | succ d ih =>
    intro y as nx M r h
    unfold ev at h
    split at h
    · obtain ⟨n, hn⟩ := runF_some.mp h
      exact exN_mono ih n _ _ hn
    · cases h
/-- where the machine is to come, at a method's end -/
def RetH (p : Program) (l : Launch) (e : Env) (R : Room) (s : State) (m : MethodId) (args : Array Value) (below : List Frame) (meth : Method) (c : Code) (Q : State → Prop) (G : Wd) (y nx0 : Nat) (o : Res) : Prop :=
  ∀ (i : Instr) (pc : Nat) (lsC : Array Slot) (H : Heap) (locs : List Loc), decode (mB y) pc = .ok (i, 1) → retI i o.1 (mR y) → HN G o.2.1 o.2.2 H → OM G o.2.2 → va_S (AR G) s.heap H locs → nx0 ≤ o.2.1 → W p l e R s m args below meth c H locs (o.2.1 - nx0) (SLn o.2.1 - SLn nx0) Q (F0 m pc lsC (o.1.toList.map (cv G)))
theorem step_sound {i : Instr} {len : Nat} (hSD : SD l d) (hmn : mono (ev d)) (hR : d + 2 ≤ R.frames ∧ 64 * d + 320 ≤ R.locals) (C : CX p R s m args meth c G y nx0 nxE) (hd : decode (mB y) pc = .ok (i, len)) (hl : iln i = len ∨ iln i = 0) (h : stp (ev d) y i pc ls st nx M = some (.inl f')) (hE : f'.2.2.2.1 ≤ nxE) (k : GW p l e R s m args below meth c Q G y nx0 f') : GW p l e R s m args below meth c Q G y nx0 (pc, ls, st, nx, M) := by
  cases i with
  | iconst n =>
    rcases hl with rfl | hl
    · exact s_iconst C hd h k
    · cases hl
  | bipush n =>
    rcases hl with rfl | hl
    · exact s_bipush C hd h k
    · cases hl
  | sipush n =>
    rcases hl with rfl | hl
    · exact s_sipush C hd h k
    · cases hl
  | lconst n =>
    rcases hl with rfl | hl
    · exact s_lconst C hd h k
    · cases hl
  | aconst_null =>
    rcases hl with rfl | hl
    · exact s_aconst_null C hd h k
    · cases hl
  | ldc q =>
    rcases hl with rfl | hl
    · exact s_ldc C hd h k
    · cases hl
  | ldc_w q =>
    rcases hl with rfl | hl
    · exact s_ldc_w C hd h k
    · cases hl
  | ldc2_w q =>
    rcases hl with rfl | hl
    · exact s_ldc2_w C hd h k
    · cases hl
  | iload q =>
    rcases hl with rfl | hl
    · exact s_iload C hd h k
    · cases hl
  | iload_n q =>
    rcases hl with rfl | hl
    · exact s_iload_n C hd h k
    · cases hl
  | lload q =>
    rcases hl with rfl | hl
    · exact s_lload C hd h k
    · cases hl
  | lload_n q =>
    rcases hl with rfl | hl
    · exact s_lload_n C hd h k
    · cases hl
  | aload q =>
    rcases hl with rfl | hl
    · exact s_aload C hd h k
    · cases hl
  | aload_n q =>
    rcases hl with rfl | hl
    · exact s_aload_n C hd h k
    · cases hl
  | istore q =>
    rcases hl with rfl | hl
    · exact s_istore C hd h k
    · cases hl
  | istore_n q =>
    rcases hl with rfl | hl
    · exact s_istore_n C hd h k
    · cases hl
  | lstore q =>
    rcases hl with rfl | hl
    · exact s_lstore C hd h k
    · cases hl
  | lstore_n q =>
    rcases hl with rfl | hl
    · exact s_lstore_n C hd h k
    · cases hl
  | astore q =>
    rcases hl with rfl | hl
    · exact s_astore C hd h k
    · cases hl
  | astore_n q =>
    rcases hl with rfl | hl
    · exact s_astore_n C hd h k
    · cases hl
  | iinc q n =>
    rcases hl with rfl | hl
    · exact s_iinc C hd h k
    · cases hl
  | iadd =>
    rcases hl with rfl | hl
    · exact s_iadd C hd h k
    · cases hl
  | isub =>
    rcases hl with rfl | hl
    · exact s_isub C hd h k
    · cases hl
  | imul =>
    rcases hl with rfl | hl
    · exact s_imul C hd h k
    · cases hl
  | iand =>
    rcases hl with rfl | hl
    · exact s_iand C hd h k
    · cases hl
  | ior =>
    rcases hl with rfl | hl
    · exact s_ior C hd h k
    · cases hl
  | ixor =>
    rcases hl with rfl | hl
    · exact s_ixor C hd h k
    · cases hl
  | idiv =>
    rcases hl with rfl | hl
    · exact s_idiv C hd h k
    · cases hl
  | irem =>
    rcases hl with rfl | hl
    · exact s_irem C hd h k
    · cases hl
  | ishl =>
    rcases hl with rfl | hl
    · exact s_ishl C hd h k
    · cases hl
  | ishr =>
    rcases hl with rfl | hl
    · exact s_ishr C hd h k
    · cases hl
  | iushr =>
    rcases hl with rfl | hl
    · exact s_iushr C hd h k
    · cases hl
  | ineg =>
    rcases hl with rfl | hl
    · exact s_ineg C hd h k
    · cases hl
  | i2l =>
    rcases hl with rfl | hl
    · exact s_i2l C hd h k
    · cases hl
  | i2b =>
    rcases hl with rfl | hl
    · exact s_i2b C hd h k
    · cases hl
  | i2c =>
    rcases hl with rfl | hl
    · exact s_i2c C hd h k
    · cases hl
  | ladd =>
    rcases hl with rfl | hl
    · exact s_ladd C hd h k
    · cases hl
  | lsub =>
    rcases hl with rfl | hl
    · exact s_lsub C hd h k
    · cases hl
  | lmul =>
    rcases hl with rfl | hl
    · exact s_lmul C hd h k
    · cases hl
  | land =>
    rcases hl with rfl | hl
    · exact s_land C hd h k
    · cases hl
  | lor =>
    rcases hl with rfl | hl
    · exact s_lor C hd h k
    · cases hl
  | lxor =>
    rcases hl with rfl | hl
    · exact s_lxor C hd h k
    · cases hl
  | ldiv =>
    rcases hl with rfl | hl
    · exact s_ldiv C hd h k
    · cases hl
  | lrem =>
    rcases hl with rfl | hl
    · exact s_lrem C hd h k
    · cases hl
  | lcmp =>
    rcases hl with rfl | hl
    · exact s_lcmp C hd h k
    · cases hl
  | lneg =>
    rcases hl with rfl | hl
    · exact s_lneg C hd h k
    · cases hl
  | l2i =>
    rcases hl with rfl | hl
    · exact s_l2i C hd h k
    · cases hl
  | lshl =>
    rcases hl with rfl | hl
    · exact s_lshl C hd h k
    · cases hl
  | lshr =>
    rcases hl with rfl | hl
    · exact s_lshr C hd h k
    · cases hl
  | lushr =>
    rcases hl with rfl | hl
    · exact s_lushr C hd h k
    · cases hl
  | dup =>
    rcases hl with rfl | hl
    · exact s_dup C hd h k
    · cases hl
  | dup2 =>
    rcases hl with rfl | hl
    · exact s_dup2 C hd h k
    · cases hl
  | pop =>
    rcases hl with rfl | hl
    · exact s_pop C hd h k
    · cases hl
  | ifCond q off =>
    rcases hl with rfl | hl
    · exact s_ifCond C hd h k
    · cases hl
  | if_icmp q off =>
    rcases hl with rfl | hl
    · exact s_if_icmp C hd h k
    · cases hl
  | goto off =>
    rcases hl with rfl | hl
    · exact s_goto C hd h k
    · cases hl
  | ifnull off =>
    rcases hl with rfl | hl
    · exact s_ifnull C hd h k
    · cases hl
  | ifnonnull off =>
    rcases hl with rfl | hl
    · exact s_ifnonnull C hd h k
    · cases hl
  | tableswitch d lo hi offs => exact s_tableswitch C hd h k
  | lookupswitch d ps => exact s_lookupswitch C hd h k
  | getfield q =>
    rcases hl with rfl | hl
    · exact s_getfield C hd h k
    · cases hl
  | putfield q =>
    rcases hl with rfl | hl
    · exact s_putfield C hd h k
    · cases hl
  | getstatic q =>
    rcases hl with rfl | hl
    · exact s_getstatic C hd h k
    · cases hl
  | iaload =>
    rcases hl with rfl | hl
    · exact s_iaload C hd h k
    · cases hl
  | baload =>
    rcases hl with rfl | hl
    · exact s_baload C hd h k
    · cases hl
  | laload =>
    rcases hl with rfl | hl
    · exact s_laload C hd h k
    · cases hl
  | aaload =>
    rcases hl with rfl | hl
    · exact s_aaload C hd h k
    · cases hl
  | iastore =>
    rcases hl with rfl | hl
    · exact s_iastore C hd h k
    · cases hl
  | bastore =>
    rcases hl with rfl | hl
    · exact s_bastore C hd h k
    · cases hl
  | lastore =>
    rcases hl with rfl | hl
    · exact s_lastore C hd h k
    · cases hl
  | aastore =>
    rcases hl with rfl | hl
    · exact s_aastore C hd h k
    · cases hl
  | arraylength =>
    rcases hl with rfl | hl
    · exact s_arraylength C hd h k
    · cases hl
  | new q =>
    rcases hl with rfl | hl
    · exact s_new C hd h hE k
    · cases hl
  | newarray t =>
    rcases hl with rfl | hl
    · exact s_newarray C hd h hE k
    · cases hl
  | anewarray q =>
    rcases hl with rfl | hl
    · exact s_anewarray C hd h hE k
    · cases hl
  | invokestatic q =>
    rcases hl with rfl | hl
    · exact s_invokestatic hSD hmn hR C hd h hE k
    · cases hl
  | invokevirtual q =>
    rcases hl with rfl | hl
    · exact s_invokevirtual hSD hmn hR C hd h hE k
    · cases hl
  | invokespecial q =>
    rcases hl with rfl | hl
    · exact s_invokespecial hSD hmn hR C hd h hE k
    · cases hl
  | ireturn => exact (stp_ret_l rfl h).elim
  | lreturn => exact (stp_ret_l rfl h).elim
  | areturn => exact (stp_ret_l rfl h).elim
  | return_ => exact (stp_ret_l rfl h).elim
  | _ => unfold stp at h; dsimp only at h; cases h
theorem exN_sound (hSD : SD l d) (hmn : mono (ev d)) (hR : d + 2 ≤ R.frames ∧ 64 * d + 320 ≤ R.locals) (C : CX p R s m args meth c G y nx0 nxE) : ∀ (n : Nat) (f : Fr) (o : Res), exN (ev d) y n f = some o → o.2.1 = nxE → RetH p l e R s m args below meth c Q G y nx0 o → GW p l e R s m args below meth c Q G y nx0 f := by
  intro n
  induction n with
  | zero => intro f o h; cases h
  | succ n ih =>
    intro f o h hE hret
    obtain ⟨pc, ls, st, nx, M⟩ := f
    rw [exN] at h
    split at h
    · rename_i i len hd
      split at h
      · rename_i hl
        split at h
        · rename_i f' hs
          have h2 := exN_mono hmn n f' o h
          exact step_sound hSD hmn hR C hd hl hs (by omega) (ih f' o h hE hret)
        · rename_i r hs
          cases h
          cases hi : isRet i with
          | false =>
            obtain ⟨f2, e1, e2⟩ := stp_ok hmn hi _ hs
            cases e1
          | true =>
            obtain ⟨e1, e2, e3⟩ := stp_ret hi hs
            obtain ⟨v, nx', M'⟩ := o
            cases e1
            dsimp only at e2
            subst e2
            have hl1 : len = 1 := by
              rcases hl with hl | hl
              · rw [← hl]; cases i <;> first | (cases hi; done) | rfl
              · cases i <;> first | (cases hi; done) | (cases hl; done)
            subst hl1
            exact fun lsC H locs _ hn ho hs hx => hret i pc lsC H locs hd e3 hn ho hs hx
        · cases h
      · cases h
    · cases h
theorem rok_ty {t : Option FieldType} {x : Int32} (h : rok t x = true) : ∃ ty, t = some ty ∧ narrow ty (.int x) = .int x := by
  unfold rok at h
  split at h
  · obtain ⟨h1, -⟩ := and3 h
    exact ⟨_, rfl, of_decide_eq_true h1⟩
  · cases h
theorem rokR_ty {t : Option FieldType} (h : rokR t = true) : ∃ ty, t = some ty ∧ ((∃ n, ty = .object n) ∨ ∃ t', ty = .array t') := by
  unfold rokR at h
  split at h
  · exact ⟨_, rfl, Or.inl ⟨_, rfl⟩⟩
  · exact ⟨_, rfl, Or.inr ⟨_, rfl⟩⟩
  · cases h
/-! the locals at a method's entry -/
theorem lcl_len (as : List Value) : (lg_sl (as.map (cv G))).length = (lcl as).length := by
  induction as with
  | nil => rfl
  | cons v as ih =>
    show ((if (cv G v).category = 2 then [Slot.val (cv G v), Slot.second] else [Slot.val (cv G v)]) ++ lg_sl (as.map (cv G))).length = _
    rw [lcl, cat_cv, List.length_append, ih]
    by_cases h : v.category = 2
    · rw [if_pos h, if_pos h]; simp; omega
    · rw [if_neg h, if_neg h]; simp; omega
theorem lcl_args : ∀ (as : List Value) (o i : Nat) (v : Value), (lcl as)[i]? = some (some v) → (o + i, cv G v) ∈ lv_args o (as.map (cv G)) := by
  intro as
  induction as with
  | nil => intro o i v h; simp [lcl] at h
  | cons a as ih =>
    intro o i v h
    rw [lcl] at h
    show (o + i, cv G v) ∈ (o, cv G a) :: lv_args (if (cv G a).category = 2 then o + 2 else o + 1) (as.map (cv G))
    rw [cat_cv]
    by_cases hc : a.category = 2
    · rw [if_pos hc] at h ⊢
      match i, h with
      | 0, h => cases Option.some.inj (Option.some.inj h); exact List.mem_cons_self
      | 1, h => cases Option.some.inj h
      | i + 2, h =>
        have := ih (o + 2) i v h
        rw [show o + (i + 2) = o + 2 + i by omega]
        exact List.mem_cons_of_mem _ this
    · rw [if_neg hc] at h ⊢
      match i, h with
      | 0, h => cases Option.some.inj (Option.some.inj h); exact List.mem_cons_self
      | i + 1, h =>
        have := ih (o + 1) i v h
        rw [show o + (i + 1) = o + 1 + i by omega]
        exact List.mem_cons_of_mem _ this
theorem LH_entry {as : List Value} (h : (lcl as).length ≤ mL y) : LH G ((lg_sl (as.map (cv G)) ++ List.replicate (mL y - (lg_sl (as.map (cv G))).length) Slot.unset).toArray) (mL y) (entry y as) := by
  have hl := lv_entry (as.map (cv G)) (n := mL y) (by rw [lcl_len]; exact h)
  refine ⟨hl.1, hl.2.1, ?_, fun i v hi _ => ?_⟩
  · unfold entry
    rw [List.length_append, List.length_replicate]
    omega
  · unfold entry at hi
    by_cases hlt : i < (lcl as).length
    · rw [List.getElem?_append_left hlt] at hi
      have := lcl_args (G := G) as 0 i v hi
      rw [Nat.zero_add] at this
      exact hl.2.2 _ this
    · rw [List.getElem?_append_right (by omega)] at hi
      obtain ⟨h1, h2⟩ := List.getElem?_eq_some_iff.mp hi
      rw [List.getElem_replicate] at h2
      cases h2
end SND9
/-- EVERY METHOD OF THE PROGRAM, at any depth: what the abstract machine answers, the machine answers -/
theorem SD_all (l : Launch) (d : Nat) : SD l d := by
  induction d with
  | zero => intro y as nx M r nx' M' hy h; cases h
  | succ d ih =>
    intro y as nx M r nx' M' hy h G
    obtain ⟨c1, c2, c3, c4, c5, c6, c7⟩ := mt_word hy
    have hmo := ev_mono (d + 1) y as nx M _ h
    unfold ev at h
    split at h
    · rename_i hlen
      obtain ⟨n, hn⟩ := runF_some.mp h
      refine Met.ofW (cc := mB y) (maxL := mL y) (ret := mR y) c2 rfl ?_
      intro p e s m args below meth c s₁ B hml hv
      obtain ⟨rfl, hN, hO, hK⟩ := hv
      have hts0 := atoms_spec (ws := wsM y) B.pre
      have hown : s.vm.findClass (mI y).1.cls = some m.cls := findClass_of_methodNamed B.named
      have hname : meth.name = (mI y).1.name := (name_of_methodNamed B.named B.method).1
      have hlocks := B.notSynchronized
      rw [c1] at hown
      have hsz := hN.1
      have C : CX p (headSpec (wsM y) (rmD (d + 1) (nx' - nx) (SLn nx' - SLn nx))).room s m (as.map (cv G)).toArray meth c G y nx nx' := ⟨B.exec, B.bytes, hml, hown, fun w hw => hts0 w (List.mem_cons_of_mem _ hw), fun hi => hname.trans (eq_of_beq hi), hK, by omega, Nat.le_refl _, Nat.le_refl _, by show 1 ≤ d + 1 + 1; omega, by show 200 ≤ 64 * (d + 1) + 256; omega⟩
      rw [lg_entry_eq]
      have key := exN_sound (p := p) (l := l) (e := e) (below := below) (Q := MQ below (QcD G r nx' M') (as.map (cv G)).toArray s (nx' - nx) (SLn nx' - SLn nx) (AR G)) ih (ev_mono d) ⟨by show d + 2 ≤ d + 1 + 1; omega, by show 64 * d + 320 ≤ 64 * (d + 1) + 256; omega⟩ C n _ _ hn rfl ?_ _ s.heap [] (LH_entry (G := G) hlen) hN hO va_S.rf (Nat.le_refl _)
      · rw [show (0 : Nat) = nx - nx by omega] at *
        have e0 : nx - nx = 0 := Nat.sub_self _
        have e1 : SLn nx - SLn nx = 0 := Nat.sub_self _
        dsimp only at key
        rw [e0, e1] at key
        simpa using key
      · intro i pc lsC H locs hd hret hn' ho' hs hx
        have hq : ∀ t : State, t.heap = H → s.WarmedH t.vm → QcD G r nx' M' (as.map (cv G)).toArray s (.returned (r.map (cv G))) t := fun t ht _ => ⟨rfl, by rw [ht]; exact hn', ho', hs.F ht⟩
        have hr := B.returns
        rcases hret with ⟨rfl, x, rfl, hrk⟩ | ⟨rfl, x, rfl, hrk⟩ | ⟨rfl, hv, hrk⟩ | ⟨rfl, rfl, hrk⟩
        · obtain ⟨ty, e1, e2⟩ := rok_ty hrk
          rw [e1] at hr
          exact W.zret B.exec B.bytes hr e2 hq hs.2.2 hd
        · rw [hrk] at hr
          exact W.lret B.exec B.bytes hr hq hs.2.2 hd
        · obtain ⟨ty, e1, e2⟩ := rokR_ty hrk
          rw [e1] at hr
          rcases hv with rfl | ⟨a, rfl⟩
          · exact W.aret B.exec B.bytes hr e2 (Or.inl rfl) hq hs.2.2 hd
          · exact W.aret B.exec B.bytes hr e2 (Or.inr ⟨_, rfl⟩) hq hs.2.2 hd
        · rw [hrk] at hr
          exact W.vret B.exec B.bytes hr hq hs.2.2 hd
    · cases h
