/-! SOUNDNESS, part five: fields written, arraycopy, new cells -/
section SND5
variable {p : Program} {l : Launch} {e : Env} {R : Room} {s : State} {m : MethodId} {args : Array Value} {below : List Frame} {meth : Method} {c : Code} {Q : State → Prop} {G : Wd} {y nx0 nxE : Nat} {E : Hdl} {pc nx : Nat} {ls : Lcl} {st : List Value} {M M' : Mem} {f' : Fr}
theorem fld_ok {c' j : Nat} (h : c' < 9) (hj : j < (cls c').2.2) : parseFieldDescriptor ((cls c').2.1 j).2.2.1 = some (fty c' j) ∧ ((cls c').2.1 j).1 = oS c' ∧ ((cls c').2.1 j).2.2.2 = fin c' j ∧ (∀ i, i < (cls c').2.2 → i ≠ j → ((cls c').2.1 i).2.1 ≠ ((cls c').2.1 j).2.1) ∧
    (match ft c' j with | 0 => decide (fty c' j = .int) | 1 => decide (fty c' j = .boolean) | 2 => decide (fty c' j = .long) | 3 => (match fty c' j with | .object _ => true | .array _ => true | _ => false) | _ => false) = true := by
  have h1 := List.all_eq_true.mp cls_ok c' (List.mem_range.mpr h)
  unfold chkC at h1
  have h2 := List.all_eq_true.mp h1 j (List.mem_range.mpr hj)
  obtain ⟨h2, a5⟩ := and3 h2
  obtain ⟨h2, a4⟩ := and3 h2
  obtain ⟨h2, a3⟩ := and3 h2
  obtain ⟨a1, a2⟩ := and3 h2
  refine ⟨of_decide_eq_true a1, of_decide_eq_true a2, eq_of_beq a3, fun i hi hne => ?_, a5⟩
  have a6 := List.all_eq_true.mp a4 i (List.mem_range.mpr hi)
  rcases Bool.or_eq_true _ _ ▸ a6 with q | q
  · exact absurd (of_decide_eq_true q) hne
  · exact of_decide_eq_true q
theorem cls_own {c' : Nat} (h : c' < 9) : (cls c').1 = oS c' ∧ Cond.instantiable (cls c').1 (cls c').2.2 ∈ gtl ∧ Cond.initialized (cls c').1 ∈ gtl := by
  have h1 := List.all_eq_true.mp cls_at c' (List.mem_range.mpr h)
  obtain ⟨h1, a3⟩ := and3 h1
  obtain ⟨a1, a2⟩ := and3 h1
  exact ⟨of_decide_eq_true a1, memT_iff.mp a2, memT_iff.mp a3⟩
theorem put_core {a c' j q : Nat} {v : Value} {t : List Value} (C : CX p R s m args meth c G y nx0 nxE) (hd : decode (mB y) pc = .ok (.putfield q, 3)) (hq : lk tFl (pk y q) = some (c', j)) (ha : a < nx) (hc : (sh a).1 = c') (hfn : fin c' j = false ∨ (isInit y = true ∧ mO y = c')) (hnar : narrow (fty c' j) (cv G v) = cv G v) (hfit : fits (fty c' j) (cv G v) = true) (hM1 : ∀ j', cval M' a j' = if j' = j then v else cval M a j') (hM2 : ∀ k', k' ≠ a → ∀ j', cval M' k' j' = cval M k' j') (hO : nx ≤ NX → OM G M → OM G M') (k : GW p l e R s m args below meth c Q G y nx0 (pc + 3, ls, t, nx, M')) : GW p l e R s m args below meth c Q G y nx0 (pc, ls, v :: .ref a :: t, nx, M) := by
  obtain ⟨hc9, hj, hw⟩ := tF_word hq
  obtain ⟨f1, f2, f3, f4, -⟩ := fld_ok hc9 hj
  have hKW := C.2.2.2.2.2.2.1
  have hts := C.2.2.2.2.1
  have hap := va_apart (own := "") hts (ws_word hc9) (fty c') (fun k hk => (fld_ok hc9 hk).1) (fun x hx z hz hne => (fld_ok hc9 hz).2.2.2.1 x hx hne) hKW.1 (cls_get hc9)
  obtain ⟨hS, hfc, kC, hkC, hkind⟩ := hKW.1.1 c' _ (cls_get hc9)
  obtain ⟨cf, kf, fi, f, hi, hsl⟩ := hS j hj
  have hlay := hts _ (ws_word hc9 _ (u_in_lay hj))
  have hst := (u_facts hfc hkC (u_lays hts (ws_word hc9) hj) hi).1
  intro lsC H locs hl hn ho hs hx
  obtain ⟨cell, q1, q2, q3, q4⟩ := hn.obj ha (by omega)
  rw [hc] at q2 q4
  rw [← ad_new hn.2.1 ha] at q1
  have fin : ∀ H1 : Heap, H1[ad G a]? = some (cell.setSlot f.slot (cv G v)) → H1.size = H.size → (∀ q, q ≠ ad G a → H1[q]? = H[q]?) → W p l e R s m args below meth c H1 (locs ++ [⟨ad G a, f.slot⟩]) (nx - nx0) (SLn nx - SLn nx0) Q (F0 m (pc + 3) lsC (t.map (cv G))) := by
    intro H1 e1 z oq
    refine k lsC H1 _ hl (hn.upd ha z (fun q' hq' => oq q' (by rw [ad_new hn.2.1 ha]; exact hq')) hM2 ?_) (hO hn.2.1 ho) (hs.put z oq (AR_new hn.2.1 ha)) hx
    unfold cP
    rw [if_pos (by omega), hc, ← ad_new hn.2.1 ha]
    refine t_OB.to (V := updV (fun j => cv G (cval M a j)) j (cv G v)) ⟨_, e1, q2, q3, by rw [hsl]; exact t_set q4 hap hj _⟩ (fun j' _ => ?_)
    unfold updV
    rw [hM1 j']
    by_cases e' : j' = j
    · rw [if_pos e', if_pos e']
    · rw [if_neg e', if_neg e']
  show W p l e R s m args below meth c H locs _ _ Q (F0 m pc lsC (cv G v :: .ref (ad G a) :: t.map (cv G)))
  cases hfv : ((cls c').2.1 j).2.2.2 with
  | false =>
    unfold u_lay at hlay
    rw [if_neg (by rw [hfv]; decide)] at hlay
    have h6 := u_store hfc hkC hkind hlay hi f1 hnar hfit
    exact W.putK C.1 C.2.1 (f := f) ⟨C.2.2.2.1, hts _ hw, ⟨_, _, _, hi⟩, hst⟩ (by rw [q2]; exact h6) q1 q3 (by rw [hsl]; exact k2_hasslot (q4 j hj)) rfl rfl hd fin
  | true =>
    rw [f3] at hfv
    rcases hfn with hfn | ⟨hini, hown⟩
    · rw [hfn] at hfv; cases hfv
    · rw [← f3] at hfv
      unfold u_lay at hlay
      rw [if_pos hfv] at hlay
      have hcf : m.cls = cf := by
        obtain ⟨_, _, c'', _, _, _, -, -, hf', -, -, -, hown2, -⟩ := Cond.laysFinal_spec hlay
        have e1 : c'' = cf := by have := hi.symm.trans hf'; simp at this; exact this.1.symm
        rw [f2, ← hown] at hown2
        rw [← e1]
        exact Option.some.inj (C.2.2.2.1.symm.trans hown2)
      have h6 := u_fits hfc hkC hkind (Or.inr hlay) hi f1 hnar hfit
      exact W.putFinK C.1 C.2.1 C.2.2.2.1 (hts _ hw) hi hst hcf (C.2.2.2.2.2.1 hini) (by rw [q2]; exact h6) q1 q3 (by rw [hsl]; exact k2_hasslot (q4 j hj)) rfl rfl hd fin
theorem ite_and {α : Type} {P Q' : Prop} [Decidable P] [Decidable Q'] (hp : P) (a b : α) : (if P ∧ Q' then a else b) = if Q' then a else b := by
  by_cases h : Q'
  · rw [if_pos ⟨hp, h⟩, if_pos h]
  · rw [if_neg (fun z => h z.2), if_neg h]
theorem cvI_same {a c' j j' : Nat} {x : Int32} (hc : (sh a).1 = c') (h9 : c' < 100) (hf : ft c' j ≠ 2) (hf' : ft c' j ≠ 3) : cval (sI M a j x) a j' = if j' = j then .int x else cval M a j' := by
  unfold cval fval
  rw [hc, if_pos h9, if_pos h9, gI_sI, gL_sI, gR_sI, ite_and rfl]
  by_cases e : j' = j
  · subst e
    rw [if_pos rfl, if_neg hf, if_neg hf', if_pos rfl]
  · rw [if_neg e, if_neg e]
theorem cvL_same {a c' j j' : Nat} {x : Int64} (hc : (sh a).1 = c') (h9 : c' < 100) (hf : ft c' j = 2) : cval (sL M a j x) a j' = if j' = j then .long x else cval M a j' := by
  unfold cval fval
  rw [hc, if_pos h9, if_pos h9, gI_sL, gL_sL, gR_sL, ite_and rfl]
  by_cases e : j' = j
  · subst e
    rw [if_pos rfl, if_pos hf, if_pos rfl]
  · rw [if_neg e, if_neg e]
theorem cvR_same {a c' j j' : Nat} {x : Option Nat} (hc : (sh a).1 = c') (h9 : c' < 100) (hf : ft c' j = 3) : cval (sR M a j x) a j' = if j' = j then vrf x else cval M a j' := by
  unfold cval fval
  rw [hc, if_pos h9, if_pos h9, gI_sR, gL_sR, gR_sR, ite_and rfl]
  by_cases e : j' = j
  · subst e
    rw [if_pos rfl, if_neg (by omega), if_pos hf, if_pos rfl]
  · rw [if_neg e, if_neg e]
theorem s_putfield {q : Nat} (C : CX p R s m args meth c G y nx0 nxE) (hd : decode (mB y) pc = .ok (.putfield q, 3)) (h : stp E y (.putfield q) pc ls st nx M = some (.inl f')) (k : GW p l e R s m args below meth c Q G y nx0 f') : GW p l e R s m args below meth c Q G y nx0 (pc, ls, st, nx, M) := by
  unfold stp at h
  dsimp only at h
  split at h
  · rename_i c' j hq
    obtain ⟨hc9, hj, hw⟩ := tF_word hq
    obtain ⟨f1, f2, f3, f4, f5⟩ := fld_ok hc9 hj
    unfold putV at h
    split at h
    · rename_i v a r
      split at h
      · rename_i hg
        obtain ⟨hg, g3⟩ := and3 hg
        obtain ⟨g1, g2⟩ := and3 hg
        have ha := okW_ok g1
        have hc := okO_ok g2
        have hfn : fin c' j = false ∨ (isInit y = true ∧ mO y = c') := by
          rcases Bool.or_eq_true _ _ ▸ g3 with z | z
          · exact Or.inl (by simpa using z)
          · obtain ⟨z1, z2⟩ := and3 z
            exact Or.inr ⟨z1, eq_of_beq z2⟩
        split at h
        · rename_i x hft
          rw [hft] at f5
          have f5 : fty c' j = .int := of_decide_eq_true f5
          cases go_eq h
          exact put_core C hd hq ha hc hfn (by rw [f5]; rfl) (by rw [f5]; rfl) (fun j' => cvI_same hc (by omega) (by omega) (by omega)) (fun k' hk' j' => cvI hk' j') (fun hn ho => ho.sI ha hn) k
        · rename_i x hft
          rw [hft] at f5
          have f5 : fty c' j = .boolean := of_decide_eq_true f5
          split at h
          · rename_i h01
            cases go_eq h
            refine put_core C hd hq ha hc hfn ?_ ?_ (fun j' => cvI_same hc (by omega) (by omega) (by omega)) (fun k' hk' j' => cvI hk' j') (fun hn ho => ho.sI ha hn) k
            · rw [f5]; rcases h01 with rfl | rfl <;> rfl
            · rw [f5]; rcases h01 with rfl | rfl <;> rfl
          · cases h
        · rename_i x hft
          rw [hft] at f5
          have f5 : fty c' j = .long := of_decide_eq_true f5
          cases go_eq h
          exact put_core C hd hq ha hc hfn (by rw [f5]; rfl) (by rw [f5]; rfl) (fun j' => cvL_same hc (by omega) hft) (fun k' hk' j' => cvL hk' j') (fun _ ho => ho.sL) k
        · rename_i x hft
          rw [hft] at f5
          cases go_eq h
          refine put_core C hd hq ha hc hfn ?_ ?_ (fun j' => cvR_same hc (by omega) hft) (fun k' hk' j' => cvR hk' j') (fun _ ho => ho.sR) k
          · cases hty : fty c' j <;> rw [hty] at f5 <;> first | rfl | cases f5
          · cases hty : fty c' j <;> rw [hty] at f5 <;> first | rfl | cases f5
        · rename_i hft
          rw [hft] at f5
          cases go_eq h
          refine put_core C hd hq ha hc hfn ?_ ?_ (fun j' => cvR_same hc (by omega) hft) (fun k' hk' j' => cvR hk' j') (fun _ ho => ho.sR) k
          · cases hty : fty c' j <;> rw [hty] at f5 <;> first | rfl | cases f5
          · cases hty : fty c' j <;> rw [hty] at f5 <;> first | rfl | cases f5
        · cases h
      · cases h
    · cases h
  · cases h
/-- a new cell behind the others -/
theorem HN.push {H H1 : Heap} (h : HN G nx M H) (hlt : nx < NX) (z : H1.size = H.size + 1) (oq : ∀ q : Nat, q < H.size → H1[q]? = H[q]?) (hn : cP G (zr M nx) H1 nx) : HN G (nx + 1) (zr M nx) H1 := by
  refine ⟨by rw [z, h.1]; omega, hlt, fun k hk => ?_⟩
  by_cases e : k = nx
  · rw [e]; exact hn
  · have h1 := h.2.2 k (by omega)
    have hg : ∀ {α : Type} (f : Nat → Nat → α) (v : Nat → α), u1 f nx v k = f k := fun f v => by unfold u1; rw [if_neg e]
    have hf : (fun j => cv G (cval (zr M nx) k j)) = fun j => cv G (cval M k j) := funext fun j => by
      rw [cval_ne (M := M) (M' := zr M nx) (fun j => by unfold gI zr; dsimp only; rw [hg]) (fun j => by unfold gL zr; dsimp only; rw [hg]) (fun j => by unfold gR zr; dsimp only; rw [hg]) j]
    have ho := oq (w_B G + k) (by rw [h.1]; omega)
    unfold cP at h1 ⊢
    rw [hf]
    by_cases ht : (sh k).1 < 100
    · rw [if_pos ht] at h1 ⊢
      exact h1.kept ho
    · rw [if_neg ht] at h1 ⊢
      rw [ho]
      exact h1
theorem OM.zero (h : OM G M) (hn : nx ≤ NX) : OM G (zr M nx) := h.to rfl (fun k j hk => by
  unfold gI zr u1
  dsimp only
  rw [if_neg (by have := NX1000; omega)])
theorem zrI {j : Nat} : gI (zr M nx) nx j = 0 := by unfold gI zr u1; dsimp only; rw [if_pos rfl]
theorem zrL {j : Nat} : gL (zr M nx) nx j = 0 := by unfold gL zr u1; dsimp only; rw [if_pos rfl]
theorem zrR {j : Nat} : gR (zr M nx) nx j = none := by unfold gR zr u1; dsimp only; rw [if_pos rfl]
theorem ad_nx (hn : nx < NX) : ad G nx = w_B G + nx := by unfold ad; rw [if_pos (by have := NX1000; omega)]
theorem tC_word {q c' : Nat} (h : lk tCl (pk y q) = some c') : c' < 9 ∧ Cond.classLink (oS (mO y)) q (cls c').1 ∈ gtl := by
  have h1 := List.all_eq_true.mp tC_ok _ (lk_mem h)
  unfold chkL at h1
  obtain ⟨h1, h5⟩ := and3 h1
  obtain ⟨h2, h3⟩ := and3 h1
  obtain ⟨e1, e2⟩ := pk_eq0 h2
  have h5 := memT_iff.mp h5
  dsimp only at h5
  rw [e1, e2] at h5
  exact ⟨of_decide_eq_true h3, h5⟩
theorem room_new (hx : nx0 ≤ nx) (hE : nx + 1 ≤ nxE) (C : CX p R s m args meth c G y nx0 nxE) : nx - nx0 + 1 ≤ R.cells ∧ SLn nx - SLn nx0 + szC nx ≤ R.slots ∧ nx - nx0 + 1 = nx + 1 - nx0 ∧ SLn nx - SLn nx0 + szC nx = SLn (nx + 1) - SLn nx0 := by
  obtain ⟨-, -, -, -, -, -, -, -, h1, h2, -⟩ := C
  have h3 := SLn_succ hx
  have h4 := SLn_le hE
  refine ⟨by omega, by omega, by omega, by omega⟩
theorem s_new {q : Nat} (C : CX p R s m args meth c G y nx0 nxE) (hd : decode (mB y) pc = .ok (.new q, 3)) (h : stp E y (.new q) pc ls st nx M = some (.inl f')) (hE : f'.2.2.2.1 ≤ nxE) (k : GW p l e R s m args below meth c Q G y nx0 f') : GW p l e R s m args below meth c Q G y nx0 (pc, ls, st, nx, M) := by
  unfold stp at h
  dsimp only at h
  split at h
  · rename_i c' hq
    obtain ⟨hg, h⟩ := gd_eq h
    cases go_eq h
    obtain ⟨g1, g2⟩ := and3 hg
    have g1 := of_decide_eq_true g1
    have g2 : (sh nx).1 = c' := eq_of_beq g2
    obtain ⟨hc9, hw⟩ := tC_word hq
    obtain ⟨o1, o2, o3⟩ := cls_own hc9
    have hKW := C.2.2.2.2.2.2.1
    have hts := C.2.2.2.2.1
    intro lsC H locs hl hn ho hs hx
    obtain ⟨r1, r2, r3, r4⟩ := room_new hx hE C
    have hz : szC nx = (cls c').2.2 := by unfold szC; rw [g2, if_pos (by omega)]
    have hKn := hKW.1.1 c' _ (cls_get hc9)
    refine W.newcK C.1 C.2.1 C.2.2.2.1 (hts _ hw) (hts _ o2) (hts _ o3) rfl hd r1 (by rw [← hz]; exact r2) hKn.2.1 rfl (fun H1 kC hkC e1 z1 oq => ?_)
    have hB := u_born (fty c') hts (ws_word hc9) hKn hkC e1 (fun k hk => (fld_ok hc9 hk).1)
    have hk := k lsC H1 locs hl (hn.push g1 z1 oq ?_) (ho.zero hn.2.1) ⟨Nat.le_trans hs.1 (by omega), fun q h1 h2 => (oq q (Nat.lt_of_lt_of_le h1 hs.1)).trans (hs.2.1 q h1 h2), hs.2.2⟩ (Nat.le_succ_of_le hx)
    · rw [← hz]
      show W p l e R s m args below meth c H1 locs (nx - nx0 + 1) (SLn nx - SLn nx0 + szC nx) Q (F0 m (pc + 3) lsC (.ref H.size :: st.map (cv G)))
      rw [r3, r4, hn.1, ← ad_nx g1]
      exact hk
    · unfold cP
      rw [g2, if_pos (by omega)]
      rw [hn.1] at hB
      refine hB.to (fun j hj => ?_)
      obtain ⟨f1, f2, f3, f4, f5⟩ := fld_ok hc9 hj
      unfold cval fval
      rw [g2, if_pos (by omega), zrI, zrL, zrR]
      by_cases e2 : ft c' j = 2
      · rw [if_pos e2]
        rw [e2] at f5
        have f5 : fty c' j = .long := of_decide_eq_true f5
        rw [f5]; rfl
      · rw [if_neg e2]
        by_cases e3 : ft c' j = 3
        · rw [if_pos e3]
          rw [e3] at f5
          cases hty : fty c' j <;> rw [hty] at f5 <;> first | rfl | cases f5
        · rw [if_neg e3]
          have e01 : ft c' j = 0 ∨ ft c' j = 1 := by
            revert f5
            generalize ft c' j = n at e2 e3
            intro f5
            match n, e2, e3, f5 with
            | 0, _, _, _ => exact Or.inl rfl
            | 1, _, _, _ => exact Or.inr rfl
            | 2, e2, _, _ => exact absurd rfl e2
            | 3, _, e3, _ => exact absurd rfl e3
            | n + 4, _, _, f5 => cases f5
          rcases e01 with e0 | e1
          · rw [e0] at f5
            have f5 : fty c' j = .int := of_decide_eq_true f5
            rw [f5]; rfl
          · rw [e1] at f5
            have f5 : fty c' j = .boolean := of_decide_eq_true f5
            rw [f5]; rfl
  · cases h
theorem sh_small : (List.range NX).all (fun k => decide ((sh k).2 ≤ 5000)) = true := by decide +kernel
theorem s_newarray {t : ArrayType} (C : CX p R s m args meth c G y nx0 nxE) (hd : decode (mB y) pc = .ok (.newarray t, 2)) (h : stp E y (.newarray t) pc ls st nx M = some (.inl f')) (hE : f'.2.2.2.1 ≤ nxE) (k : GW p l e R s m args below meth c Q G y nx0 f') : GW p l e R s m args below meth c Q G y nx0 (pc, ls, st, nx, M) := by
  unfold stp at h
  dsimp only at h
  obtain ⟨n, r, rfl, h⟩ := one_eq h
  obtain ⟨hg, h⟩ := gd_eq h
  cases go_eq h
  obtain ⟨hg, g3⟩ := and3 hg
  obtain ⟨g1, g2⟩ := and3 hg
  have g1 := of_decide_eq_true g1
  have g2 : sh nx = (atag t, n.toNatClampNeg) := eq_of_beq g2
  have g3 := of_decide_eq_true g3
  have hKW := C.2.2.2.2.2.2.1
  have hts := C.2.2.2.2.1
  have ha1 := congrArg Prod.fst g2
  have ha2 := congrArg Prod.snd g2
  dsimp only at ha1 ha2
  intro lsC H locs hl hn ho hs hx
  obtain ⟨r1, r2, r3, r4⟩ := room_new hx hE C
  have h105 := sh_le' g1
  have hsmall : (sh nx).2 ≤ 5000 := of_decide_eq_true (List.all_eq_true.mp sh_small nx (List.mem_range.mpr g1))
  have key : ∀ (i : Nat) (ty : FieldType), newarray.typeOf t = ty → atag t = 100 + i → i < 4 → (tysG G)[i]? = some (w_A G i, ty) → Cond.arrayClass ty ∈ gtl → componentBytes ty ≤ 8 → (∀ cA, s.vm.findClass ("[" ++ ty.toString) = some cA → va_RA s (w_A G i) ty → cA = w_A G i) → (∀ j, cv G (cval (zr M nx) nx j) = defaultValue ty) → W p l e R s m args below meth c H locs (nx - nx0) (SLn nx - SLn nx0) Q (F0 m pc lsC (.int n :: r.map (cv G))) := by
    intro i ty hty hat hi4 hti hac hcb hcA hdf
    have hz : szC nx = n.toNatClampNeg := by unfold szC; rw [if_neg (by omega), ha2]
    subst hty
    have hRA := (hKW.1.2 i _ hti).2
    refine va_newaK (N := n.toNatClampNeg) C.1 C.2.1 (hts _ hac) rfl hd rfl g3 rfl ?_ r1 (by rw [← hz]; exact r2) rfl (fun H1 cA' e1 z1 oq hAr hNm => ?_)
    · rw [← ha2]
      exact Nat.le_trans (Nat.mul_le_mul hsmall hcb) (by decide)
    · have hcc := hcA cA' hNm hRA
      rw [hcc] at e1
      have hk := k lsC H1 locs hl (hn.push g1 z1 oq ?_) (ho.zero hn.2.1) ⟨Nat.le_trans hs.1 (by omega), fun q h1 h2 => (oq q (Nat.lt_of_lt_of_le h1 hs.1)).trans (hs.2.1 q h1 h2), hs.2.2⟩ (Nat.le_succ_of_le hx)
      · rw [← hz]
        show W p l e R s m args below meth c H1 locs (nx - nx0 + 1) (SLn nx - SLn nx0 + szC nx) Q (F0 m (pc + 2) lsC (.ref H.size :: r.map (cv G)))
        rw [r3, r4, hn.1, ← ad_nx g1]
        exact hk
      · show cP G (zr M nx) H1 nx
        unfold cP
        rw [if_neg (by omega), show w_B G + nx = H.size from hn.1.symm, e1, ha2, show (sh nx).1 - 100 = i by omega]
        congr 2
        funext j
        exact (hdf j).symm
  have fc : ∀ (ty : FieldType) (i : Nat) (cA : ClassId), s.vm.findClass ("[" ++ ty.toString) = some cA → s.vm.findClass ("[" ++ ty.toString) = some (w_A G i) → cA = w_A G i := fun ty i cA h1 h2 => Option.some.inj (h1.symm.trans h2)
  obtain ⟨a3, ar4⟩ := and3 arr_ok
  obtain ⟨a2, ar3⟩ := and3 a3
  obtain ⟨ar1, ar2⟩ := and3 a2
  cases t with
  | int => exact key 0 .int rfl rfl (by decide) rfl (memT_iff.mp ar1) (by decide) (fun cA h1 h2 => fc .int 0 cA h1 h2) (fun j => by rw [cval_i (by rw [ha1]; decide) (by rw [ha1]; decide), zrI]; rfl)
  | byte => exact key 1 .byte rfl rfl (by decide) rfl (memT_iff.mp ar2) (by decide) (fun cA h1 h2 => fc .byte 1 cA h1 h2) (fun j => by rw [cval_i (by rw [ha1]; decide) (by rw [ha1]; decide), zrI]; rfl)
  | boolean => exact key 2 .boolean rfl rfl (by decide) rfl (memT_iff.mp ar3) (by decide) (fun cA h1 h2 => fc .boolean 2 cA h1 h2) (fun j => by rw [cval_i (by rw [ha1]; decide) (by rw [ha1]; decide), zrI]; rfl)
  | long => exact key 3 .long rfl rfl (by decide) rfl (memT_iff.mp ar4) (by decide) (fun cA h1 h2 => fc .long 3 cA h1 h2) (fun j => by rw [cval_l (by rw [ha1]; rfl), zrL]; rfl)
  | _ => rw [ha1] at h105; exact absurd h105 (by decide)
theorem s_anewarray {q : Nat} (C : CX p R s m args meth c G y nx0 nxE) (hd : decode (mB y) pc = .ok (.anewarray q, 3)) (h : stp E y (.anewarray q) pc ls st nx M = some (.inl f')) (hE : f'.2.2.2.1 ≤ nxE) (k : GW p l e R s m args below meth c Q G y nx0 f') : GW p l e R s m args below meth c Q G y nx0 (pc, ls, st, nx, M) := by
  unfold stp at h
  dsimp only at h
  obtain ⟨n, r, rfl, h9⟩ := one_eq h
  clear h
  have h := h9
  clear h9
  split at h
  · rename_i c' hq
    obtain ⟨hg, h⟩ := gd_eq h
    cases go_eq h
    obtain ⟨hg, g3⟩ := and3 hg
    obtain ⟨hg, g4⟩ := and3 hg
    obtain ⟨g1, g2⟩ := and3 hg
    have g1 := of_decide_eq_true g1
    have g2 : sh nx = (if c' = 2 then 104 else 105, n.toNatClampNeg) := eq_of_beq g2
    have g3 := of_decide_eq_true g3
    have hKW := C.2.2.2.2.2.2.1
    have hts := C.2.2.2.2.1
    obtain ⟨hc9, hw⟩ := tC_word hq
    have ha1 := congrArg Prod.fst g2
    have ha2 := congrArg Prod.snd g2
    dsimp only at ha1 ha2
    have hsmall : (sh nx).2 ≤ 5000 := of_decide_eq_true (List.all_eq_true.mp sh_small nx (List.mem_range.mpr g1))
    intro lsC H locs hl hn ho hs hx
    obtain ⟨r1, r2, r3, r4⟩ := room_new hx hE C
    have key : ∀ (i : Nat), (sh nx).1 = 100 + i → i = 4 ∨ i = 5 → va_RA s (w_A G i) (.object (cls c').1) → va_AO (cls c').1 s → W p l e R s m args below meth c H locs (nx - nx0) (SLn nx - SLn nx0) Q (F0 m pc lsC (.int n :: r.map (cv G))) := by
      intro i hat hi hRA hAO
      have hz : szC nx = n.toNatClampNeg := by unfold szC; rw [if_neg (by omega), ha2]
      refine W.anew C.1 C.2.1 C.2.2.2.1 (hts _ hw) (va_AO.use hAO) rfl hd rfl g3 (by rw [← ha2]; exact Nat.le_trans (Nat.mul_le_mul_right 4 hsmall) (by decide)) r1 (by rw [← hz]; exact r2) (fun cA kA comp f1 f2 f3 f4 => ?_)
      obtain ⟨kA', comp', k1, k2, k3, k4⟩ := hRA
      have hcc : cA = w_A G i := Option.some.inj (f1.symm.trans k4)
      generalize hH1 : H.push ({ cls := cA, slots := Array.replicate n.toNatClampNeg .null, vm := .none } : Cell) = H1
      have z1 : H1.size = H.size + 1 := by rw [← hH1, Array.size_push]
      have e1 : H1[H.size]? = some (arrV cA n.toNatClampNeg (fun _ => .null)) := by rw [← hH1, Array.getElem?_push_size, ← arrV_new]
      have oq : ∀ q : Nat, q < H.size → H1[q]? = H[q]? := fun q hq => by rw [← hH1, Array.getElem?_push, if_neg (Nat.ne_of_lt hq)]
      rw [hcc] at e1
      have hk := k lsC H1 locs hl (hn.push g1 z1 oq ?_) (ho.zero hn.2.1) ⟨Nat.le_trans hs.1 (by omega), fun q h1 h2 => (oq q (Nat.lt_of_lt_of_le h1 hs.1)).trans (hs.2.1 q h1 h2), hs.2.2⟩ (Nat.le_succ_of_le hx)
      · rw [← hz]
        show W p l e R s m args below meth c H1 locs (nx - nx0 + 1) (SLn nx - SLn nx0 + szC nx) Q (F0 m (pc + 3) lsC (.ref H.size :: r.map (cv G)))
        rw [r3, r4, hn.1, ← ad_nx g1]
        exact hk
      · show cP G (zr M nx) H1 nx
        unfold cP
        rw [if_neg (by omega), show w_B G + nx = H.size from hn.1.symm, e1, ha2, show (sh nx).1 - 100 = i by omega]
        congr 2
        funext j
        rw [cval_r (by omega), zrR]
        rfl
    rcases Bool.or_eq_true _ _ ▸ g4 with g4 | g4
    · cases eq_of_beq g4
      exact key 4 ha1 (Or.inl rfl) (hKW.1.2 4 _ rfl).2 hKW.2.2.2.2.2.2.2.2.2.1
    · cases eq_of_beq g4
      exact key 5 ha1 (Or.inr rfl) (hKW.1.2 5 _ rfl).2 hKW.2.2.2.2.2.2.2.2.2.2.1
  · cases h
end SND5
