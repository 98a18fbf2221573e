/-! putfield, statics, Object's constructor, a copied stretch; every row -/
section XS2
variable {E : XE} {y : YM} {pc : Nat} {ls st : List Value} {h : XH}
variable {p : Program} {l : Launch} {e : Env} {R : Room} {s : State} {m : MethodId} {args : Array Value} {below : List Frame} {meth : Method} {c : Code} {H : Heap} {locs : List Loc} {cells slots : Nat} {Q : State → Prop} {lR : Array Slot} {N0 U0 : Nat}
theorem xs_put {n i ci b cd : Nat} {q : vw_C} {z : XC} (X : XHyp) (C : XCtx E y p s m args meth c) (hq : vwCl[ci]? = some q) (hbN : b < q.2.2) (hcd : cd = xtc (q.2.1 b).2.2.1)
    (hfin : (q.2.1 b).2.2.2 = false ∨ y.1.name = "<init>" ∧ (q.2.1 b).1 = y.1.cls)
    (hlk : Cond.fieldLink y.1.cls i (q.2.1 b).1 (q.2.1 b).2.1 (q.2.1 b).2.2.1 ∈ xTG) (hop : xput (10 + ci) b cd (pc + 3) ls st h = some z) (hdg : decode y.2.1 pc = .ok (.putfield i, 3)) (hL : XLoc E ls lR n) (hR : XRel E h H) (hlo : ∀ q ∈ locs, eB E < q.base) (hce : cells + N0 = gN h) (hsl : slots + U0 = gU h)
    (kk : XKont E n p l e R s m args below meth c Q N0 U0 z) : W p l e R s m args below meth c H locs cells slots Q (F0 m pc lR (st.map (mv E))) := by
  have G := C.2.2.2.2.2.2
  unfold xput at hop
  split at hop
  · rename_i v o t
    split at hop
    · rename_i hc
      cases hop
      obtain ⟨hk, hol, hv⟩ := hc
      have hk0 : gK h o ≠ 0 := by omega
      show W p l e R s m args below meth c H locs cells slots Q (F0 m pc lR (.int v :: mvA E o :: t.map (mv E)))
      rw [mvA_of G hR hk0, mvN_lt (Nat.lt_trans hol hR.2.1.1)]
      refine xs_putW X C hq hbN hfin hlk hdg hL hR hk (fun ty _ ht => xfit G ht hcd (Or.inl ⟨v, rfl, hv⟩)) fun H1 z1 oq hob => ?_
      refine kk lR H1 _ cells slots hL (hR.putI hol hk0 z1 oq (XA.mkO hk hq (hob.to fun j hj => ?_))) (locs_put hlo (hR.nz hk0)) hce hsl
      unfold updV xfv
      rw [sI_here]
      by_cases e : j = b
      · subst e
        rw [if_pos rfl, if_pos rfl, if_neg (by rw [← hcd]; omega), if_neg (by rw [← hcd]; omega)]
      · rw [if_neg e, if_neg e]; rfl
    · cases hop
  · rename_i v o t
    split at hop
    · rename_i hc
      cases hop
      obtain ⟨hk, hol, hv⟩ := hc
      have hk0 : gK h o ≠ 0 := by omega
      show W p l e R s m args below meth c H locs cells slots Q (F0 m pc lR (.long v :: mvA E o :: t.map (mv E)))
      rw [mvA_of G hR hk0, mvN_lt (Nat.lt_trans hol hR.2.1.1)]
      refine xs_putW X C hq hbN hfin hlk hdg hL hR hk (fun ty _ ht => xfit G ht hcd (Or.inr (Or.inl ⟨v, rfl, hv⟩))) fun H1 z1 oq hob => ?_
      refine kk lR H1 _ cells slots hL (hR.putL hol hk0 z1 oq (XA.mkO hk hq (hob.to fun j hj => ?_))) (locs_put hlo (hR.nz hk0)) hce hsl
      unfold updV xfv
      rw [sL_here]
      by_cases e : j = b
      · subst e
        rw [if_pos rfl, if_pos rfl, if_pos (by rw [← hcd]; exact hv)]
      · rw [if_neg e, if_neg e]; rfl
    · cases hop
  · rename_i v o t
    split at hop
    · rename_i hc
      cases hop
      obtain ⟨hk, hol, hv, hv0⟩ := hc
      have hk0 : gK h o ≠ 0 := by omega
      show W p l e R s m args below meth c H locs cells slots Q (F0 m pc lR (mvA E v :: mvA E o :: t.map (mv E)))
      rw [mvA_of G hR hk0, mvN_lt (Nat.lt_trans hol hR.2.1.1)]
      refine xs_putW X C hq hbN hfin hlk hdg hL hR hk (fun ty _ ht => xfit G ht hcd (Or.inr (Or.inr ⟨v, rfl, hv⟩))) fun H1 z1 oq hob => ?_
      refine kk lR H1 _ cells slots hL (hR.putR hol hk0 z1 oq (XA.mkO hk hq (hob.to fun j hj => ?_))) (locs_put hlo (hR.nz hk0)) hce hsl
      unfold updV xfv
      rw [sR_here]
      by_cases e : j = b
      · subst e
        rw [if_pos rfl, if_pos rfl, if_neg (by rw [← hcd]; omega), if_pos (by rw [← hcd]; exact hv)]
        unfold rvA
        rw [if_neg hv0]
      · rw [if_neg e, if_neg e]; rfl
    · cases hop
  · cases hop
theorem xs_gets {i : Nat} {C9 n9 d9 : String} {v : Value} (C : XCtx E y p s m args meth c) (hZ : va_Z C9 n9 d9 v (xnA E) s (eH E)) (hR : XRel E h H) (hlk : Cond.fieldLink y.1.cls i C9 n9 d9 ∈ xTG) (hdg : decode y.2.1 pc = .ok (.getstatic i, 3)) {t : List Value}
    (kk : W p l e R s m args below meth c H locs cells slots Q (F0 m (pc + 3) lR (v :: t))) : W p l e R s m args below meth c H locs cells slots Q (F0 m pc lR t) := by
  obtain ⟨hx, hb, -, hown, hts, -, G⟩ := C
  obtain ⟨cf, kf, fi, f, a, cell, w1, w2, w3, w4, w5, w6, w7, -⟩ := hZ.kept (hR.old G)
  exact W.gets hx hb hown (hts _ hlk) w1 w2 w3 w4 w5 (by intro q; rw [q] at w6; cases w6) w7 rfl hdg kk
theorem xs_obj {n i : Nat} {z : XC} (X : XHyp) (C : XCtx E y p s m args meth c) (hrf : 1 ≤ R.frames) (hrl : 40 ≤ R.locals) (hlk : Cond.methodLink y.1.cls i objectInit ∈ xTG) (hop : xobj (pc + 3) ls st h = some z) (hdg : decode y.2.1 pc = .ok (.invokespecial i, 3)) (hL : XLoc E ls lR y.2.2.1) (hR : XRel E h H) (hlo : ∀ q ∈ locs, eB E < q.base) (hce : cells + N0 = gN h) (hsl : slots + U0 = gU h)
    (kk : XKont E y.2.2.1 p l e R s m args below meth c Q N0 U0 z) : W p l e R s m args below meth c H locs cells slots Q (F0 m pc lR (st.map (mv E))) := by
  obtain ⟨hx, hb, hml, hown, hts, -, G⟩ := C
  unfold xobj at hop
  split at hop
  · rename_i o t
    split at hop
    · rename_i hc
      cases hop
      have hk0 := hc.1
      show W p l e R s m args below meth c H locs cells slots Q (F0 m pc lR (mvA E o :: t.map (mv E)))
      rw [mvA_of G hR hk0]
      have hcat : ((t.map (mv E)).map fun v => v.category).sum = xcat t := by
        unfold xcat
        rw [List.map_map]
        congr 1
        apply List.map_congr_left
        intro v _
        exact mv_cat G.fc v
      refine W.objInit hx hb hown (hts _ hlk) (hts _ X.2.2.2.2.1.1) (hts _ X.2.2.2.2.1.2) rfl (by rw [hml]; exact hL.2.1) rfl hdg hrf ?_ (kk lR H locs cells slots hL hR hlo hce hsl)
      rw [hcat]
      have := hc.2
      show 2 * 0 + xcat t + 12 ≤ R.locals
      omega
    · cases hop
  · cases hop
theorem xcpy_I (h : XH) (a0 a sp dp n a' j' : Nat) : gI (xcpy h a0 a sp dp n) a' j' = if a' = a then (if dp ≤ j' ∧ j' < dp + n then gI h a0 (sp + (j' - dp)) else gI h a' j') else gI h a' j' := rfl
theorem xs_copy {i : Nat} {z : XC} (X : XHyp) (C : XCtx E y p s m args meth c) (hrf : 1 ≤ R.frames) (hrl : 40 ≤ R.locals) (hlk : Cond.methodLink y.1.cls i arraycopyName ∈ xTG) (hop : xcopy (pc + 3) ls st h = some z) (hdg : decode y.2.1 pc = .ok (.invokestatic i, 3)) (hL : XLoc E ls lR y.2.2.1) (hR : XRel E h H) (hlo : ∀ q ∈ locs, eB E < q.base) (hce : cells + N0 = gN h) (hsl : slots + U0 = gU h)
    (kk : XKont E y.2.2.1 p l e R s m args below meth c Q N0 U0 z) : W p l e R s m args below meth c H locs cells slots Q (F0 m pc lR (st.map (mv E))) := by
  obtain ⟨hx, hb, hml, hown, hts, -, G⟩ := C
  unfold xcopy at hop
  split at hop
  · rename_i n dp a sp a0 t
    split at hop
    · rename_i hc
      cases hop
      obtain ⟨hne, k0, l0, k1, l1, h3, h2, h1, h4, h5, hcat⟩ := hc
      have hk0 : gK h a0 ≠ 0 := by rw [k0]; decide
      have hk1 : gK h a ≠ 0 := by rw [k1]; decide
      show W p l e R s m args below meth c H locs cells slots Q (F0 m pc lR (.int n :: .int dp :: mvA E a :: .int sp :: mvA E a0 :: t.map (mv E)))
      rw [mvA_of G hR hk0, mvA_of G hR hk1, mvN_lt (Nat.lt_trans l0 hR.2.1.1), mvN_lt (Nat.lt_trans l1 hR.2.1.1)]
      have hcs : ((t.map (mv E)).map fun v => v.category).sum = xcat t := by
        unfold xcat
        rw [List.map_map]
        congr 1
        apply List.map_congr_left
        intro v _
        exact mv_cat G.fc v
      have nn : ∀ z : Int32, ¬ z < 0 → z.toInt = (z.toNatClampNeg : Int) := by
        intro z hz
        have hz0 : (0 : Int) ≤ z.toInt := by
          have := Int32.not_lt.mp hz
          simpa using Int32.le_iff_toInt_le.mp this
        show z.toInt = ((z.toInt.toNat : Nat) : Int)
        omega
      intro T hT XX
      have hc0 := (hR.2.2.2.1 a0 l0).1 k0
      have hc1 := (hR.2.2.2.1 a l1).1 k1
      obtain ⟨-, ka, hka, cma, hkka⟩ := (G.1.2 0 _ rfl).1 (gZ h a0) (fun j => .int (gI h a0 j))
      obtain ⟨-, kb, hkb, cmb, hkkb⟩ := (G.1.2 0 _ rfl).1 (gZ h a) (fun j => .int (gI h a j))
      obtain ⟨vm', X', step⟩ := XX.arraycopy hx hown (hts _ hlk) (hts _ X.2.2.2.2.2.1) (hts _ X.2.2.2.2.2.2.1) (hts _ X.2.2.2.2.2.2.2) (src := eB E + a0) (dst := eB E + a) (cs := arrV (eA E 1) (gZ h a0) (fun j => .int (gI h a0 j))) (cd := arrV (eA E 1) (gZ h a) (fun j => .int (gI h a j))) (srcPos := sp) (destPos := dp) (n := n) (by rw [hT]; exact hc0) (by rw [hT]; exact hc1)
        (fun _ h => by cases h) (fun _ h => by cases h) (fun h => by cases h) (fun h => by cases h) hka hkb hkka hkkb rfl h1 h2 h3
        (by rw [nn sp h1, nn n h3]; show ¬ _ > ((arrV (eA E 1) (gZ h a0) (fun j => .int (gI h a0 j))).slots.size : Int); rw [arrV_size]; omega)
        (by rw [nn dp h2, nn n h3]; show ¬ _ > ((arrV (eA E 1) (gZ h a) (fun j => .int (gI h a j))).slots.size : Int); rw [arrV_size]; omega)
        (fun vm₁ _ i hi => by
          have e : (arrV (eA E 1) (gZ h a0) (fun j => .int (gI h a0 j))).slots.getD (sp.toNatClampNeg + i) .null = .int (gI h a0 (sp.toNatClampNeg + i)) := by
            rw [Array.getD_eq_getD_getElem?, arrV_read _ _ (by omega)]
            rfl
          refine ⟨?_, ?_⟩
          · rw [e]; rfl
          · rw [e]; exact trivial)
        (g := F0 m pc lR (.int n :: .int dp :: .ref (eB E + a) :: .int sp :: .ref (eB E + a0) :: t.map (mv E))) rfl (by rw [hml]; exact hL.2.1) (rest := t.map (mv E)) rfl (by rw [hb]; exact hdg) hrf (by rw [hcs]; show 2 * 0 + _ + (7 + 11) ≤ _; omega)
      have e1 : copied (arrV (eA E 1) (gZ h a0) (fun j => .int (gI h a0 j))) (arrV (eA E 1) (gZ h a) (fun j => .int (gI h a j))) sp dp n = arrV (eA E 1) (gZ h a) (fun j => .int (va_cpy (gI h a0) (gI h a) sp.toNatClampNeg dp.toNatClampNeg n.toNatClampNeg j)) := va_copied (fun z => .int z) (eA E 1) (eA E 1) (gI h a0) (gI h a) h4
      rw [e1] at X' step
      have hl : eB E + a < H.size := (Array.getElem?_eq_some_iff.mp hc1).1
      generalize hcell : arrV (eA E 1) (gZ h a) (fun j => Value.int (va_cpy (gI h a0) (gI h a) sp.toNatClampNeg dp.toNatClampNeg n.toNatClampNeg j)) = cell at X' step
      have hheap : ((T.setVm vm').setCell (eB E + a) cell).heap = H.setIfInBounds (eB E + a) cell := by rw [← hT]; rfl
      have oq : ∀ q : Nat, q ≠ eB E + a → (H.setIfInBounds (eB E + a) cell)[q]? = H[q]? := fun q hq => by simp [Array.getElem?_setIfInBounds, Ne.symm hq]
      have hR' : XRel E (xcpy h a0 a sp.toNatClampNeg dp.toNatClampNeg n.toNatClampNeg) (H.setIfInBounds (eB E + a) cell) := by
        refine hR.put (a := a) l1 (by simp) oq rfl (fun _ => rfl) (fun _ => rfl) (fun a' j' q => by rw [xcpy_I, if_neg q]) (fun _ _ _ => rfl) (fun _ _ _ => rfl) (XA.mk1 k1 ?_) (hR.nz hk1)
        rw [show (H.setIfInBounds (eB E + a) cell)[eB E + a]? = some cell by simp [Array.getElem?_setIfInBounds, hl], ← hcell]
        show some (arrV _ (gZ h a) _) = some (arrV _ (gZ h a) _)
        congr 2
        funext j
        rw [xcpy_I, if_pos rfl]
        rfl
      obtain ⟨t9, a1, b1⟩ := kk lR _ _ cells slots hL hR' (fun q hq => by
        rcases List.mem_append.mp hq with h | h
        · exact hlo q h
        · obtain ⟨z, -, hz⟩ := List.mem_map.mp h
          rw [← hz]
          have := hR.nz hk1
          show eB E < eB E + a
          omega) hce hsl _ hheap X'
      exact ⟨t9, step t9 a1, b1⟩
    · cases hop
  · cases hop
end XS2
