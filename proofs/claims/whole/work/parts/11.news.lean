/-! new cells, fields, statics -/
section XN
variable {E : XE} {y : YM} {pc : Nat} {ls st : List Value} {h : XH}
variable {p : Program} {l : Launch} {e : Env} {R : Room} {s : State} {m : MethodId} {args : Array Value} {below : List Frame} {meth : Method} {c : Code} {H : Heap} {locs : List Loc} {cells slots : Nat} {Q : State → Prop} {lR : Array Slot} {N0 U0 : Nat}
theorem xnew_K (h : XH) (k n a : Nat) : gK (xnew h k n) a = if a = gN h then k else gK h a := by
  show (if a = gN h then (k, n) else h.2.2.2.1 a).1 = _
  by_cases q : a = gN h
  · rw [if_pos q, if_pos q]
  · rw [if_neg q, if_neg q]; rfl
theorem xnew_Z (h : XH) (k n a : Nat) : gZ (xnew h k n) a = if a = gN h then n else gZ h a := by
  show (if a = gN h then (k, n) else h.2.2.2.1 a).2 = _
  by_cases q : a = gN h
  · rw [if_pos q, if_pos q]
  · rw [if_neg q, if_neg q]; rfl
theorem xnew_I (h : XH) (k n a j : Nat) : gI (xnew h k n) a j = if a = gN h then 0 else gI h a j := rfl
theorem xnew_L (h : XH) (k n a j : Nat) : gL (xnew h k n) a j = if a = gN h then 0 else gL h a j := rfl
theorem xnew_R (h : XH) (k n a j : Nat) : gR (xnew h k n) a j = if a = gN h then 0 else gR h a j := rfl
theorem xnew_N (h : XH) (k n : Nat) : gN (xnew h k n) = gN h + 1 := rfl
theorem xnew_U (h : XH) (k n : Nat) : gU (xnew h k n) = gU h + n := rfl
theorem XRel.new (hR : XRel E h H) {k n : Nat} {H' : Heap} (hs : H'.size = H.size + 1) (ho : ∀ q, q < H.size → H'[q]? = H[q]?) (hg : gN h < 999999) (hnew : XA E (xnew h k n) H' (gN h)) : XRel E (xnew h k n) H' := by
  obtain ⟨r1, r2, r3, r4, r5, r6⟩ := hR
  refine ⟨by rw [hs, r1, xnew_N]; omega, ⟨by rw [xnew_N]; omega, by rw [xnew_K, if_neg (by omega)]; exact r2.2.1, by rw [xnew_N]; omega⟩, fun q hq => ?_, fun a ha => ?_, fun a h1 h2 => ?_, fun a h1 => ?_⟩
  · rw [ho q (by omega)]; exact r3 q hq
  · rw [xnew_N] at ha
    by_cases q : a = gN h
    · rw [q]; exact hnew
    · exact (r4 a (by omega)).keep (ho _ (by omega)) (by rw [xnew_K, if_neg q]) (by rw [xnew_Z, if_neg q]) (fun j => by rw [xnew_I, if_neg q]) (fun j => by rw [xnew_L, if_neg q]) (fun j => by rw [xnew_R, if_neg q])
  · rw [xnew_N] at h1
    rw [xnew_K, if_neg (by omega)]
    exact r5 a (by omega) h2
  · have q : a ≠ gN h := by omega
    rw [xnew_K, xnew_Z, if_neg q, if_neg q]
    refine ⟨(r6 a h1).1, fun j => ?_⟩
    rw [xnew_I, xnew_R, if_neg q, if_neg q]
    exact (r6 a h1).2 j
theorem xs_newa {n : Nat} {z : XC} {t : ArrayType} (X : XHyp) (C : XCtx E y p s m args meth c) (ht : xatK t ≠ 0) (hop : xnewa (xatK t) (pc + 2) ls st h = some z) (hdg : decode y.2.1 pc = .ok (.newarray t, 2)) (hL : XLoc E ls lR n) (hR : XRel E h H) (hlo : ∀ q ∈ locs, eB E < q.base) (hce : cells + N0 = gN h) (hsl : slots + U0 = gU h)
    (hcN : gN z.2.2.2 ≤ R.cells + N0) (hcU : gU z.2.2.2 ≤ R.slots + U0)
    (kk : XKont E n p l e R s m args below meth c Q N0 U0 z) : W p l e R s m args below meth c H locs cells slots Q (F0 m pc lR (st.map (mv E))) := by
  obtain ⟨hx, hb, -, -, hts, -, G⟩ := C
  unfold xnewa at hop
  split at hop
  · rename_i x t'
    split at hop
    · rename_i hc
      cases hop
      obtain ⟨h0, hbig, hg⟩ := hc
      have hcN : gN h + 1 ≤ R.cells + N0 := hcN
      have hcU : gU h + x.toNatClampNeg ≤ R.slots + U0 := hcU
      have hwd : Cond.arrayClass (newarray.typeOf t) ∈ xTG := by
        cases t <;> first | exact X.2.2.2.1.1 | exact X.2.2.2.1.2.1 | exact X.2.2.2.1.2.2.1 | exact X.2.2.2.1.2.2.2 | exact absurd rfl ht
      have hbytes : x.toNatClampNeg * componentBytes (newarray.typeOf t) ≤ 536870912 := by
        cases t <;> simp only [newarray.typeOf, componentBytes] <;> omega
      show W p l e R s m args below meth c H locs cells slots Q (F0 m pc lR (.int x :: t'.map (mv E)))
      refine va_newaK hx hb (hts _ hwd) rfl hdg rfl h0 rfl hbytes (by omega) (by omega) rfl fun H1 cA e1 z1 o1 hAr hNm => ?_
      have hsz : H.size = eB E + gN h := hR.1
      have hv : mvA E (gN h) = .ref H.size := by
        unfold mvA
        rw [if_neg (by omega), mvN_lt (by omega), hsz]
      have kk := kk lR H1 locs (cells + 1) (slots + x.toNatClampNeg) hL (hR.new z1 o1 hg ?_) hlo (by show _ = gN h + 1; omega) (by show _ = gU h + _; omega)
      · show W p l e R s m args below meth c H1 locs (cells + 1) (slots + x.toNatClampNeg) Q (F0 m (pc + 2) lR (.ref H.size :: t'.map (mv E)))
        rw [← hv]
        exact kk
      · rw [hsz] at e1
        have hK : gK (xnew h (xatK t) x.toNatClampNeg) (gN h) = xatK t := by rw [xnew_K, if_pos rfl]
        have hZ : gZ (xnew h (xatK t) x.toNatClampNeg) (gN h) = x.toNatClampNeg := by rw [xnew_Z, if_pos rfl]
        cases t
        case int =>
          refine XA.mk1 hK ?_
          have e : cA = eA E 1 := Option.some.inj (hNm.symm.trans (G.1.2 0 _ rfl).2)
          rw [e1, hZ, e]
          congr 2
          funext j
          rw [xnew_I, if_pos rfl]; rfl
        case byte =>
          refine XA.mk2 hK ?_
          have e : cA = eA E 2 := Option.some.inj (hNm.symm.trans (G.1.2 1 _ rfl).2)
          rw [e1, hZ, e]
          congr 2
          funext j
          rw [xnew_I, if_pos rfl]; rfl
        case boolean =>
          refine XA.mk3 hK ?_
          have e : cA = eA E 3 := Option.some.inj (hNm.symm.trans (G.1.2 2 _ rfl).2)
          rw [e1, hZ, e]
          congr 2
          funext j
          rw [xnew_I, if_pos rfl]; rfl
        case long =>
          refine XA.mk4 hK ?_
          have e : cA = eA E 4 := Option.some.inj (hNm.symm.trans (G.1.2 3 _ rfl).2)
          rw [e1, hZ, e]
          congr 2
          funext j
          rw [xnew_L, if_pos rfl]; rfl
        all_goals exact absurd rfl ht
    · cases hop
  · cases hop
theorem xs_newq {n i : Nat} {z : XC} (C : XCtx E y p s m args meth c) (hlk : Cond.classLink y.1.cls i "SoftWheels$Plan" ∈ xTG) (hop : xnewa 5 (pc + 3) ls st h = some z) (hdg : decode y.2.1 pc = .ok (.anewarray i, 3)) (hL : XLoc E ls lR n) (hR : XRel E h H) (hlo : ∀ q ∈ locs, eB E < q.base) (hce : cells + N0 = gN h) (hsl : slots + U0 = gU h)
    (hcN : gN z.2.2.2 ≤ R.cells + N0) (hcU : gU z.2.2.2 ≤ R.slots + U0)
    (kk : XKont E n p l e R s m args below meth c Q N0 U0 z) : W p l e R s m args below meth c H locs cells slots Q (F0 m pc lR (st.map (mv E))) := by
  obtain ⟨hx, hb, -, hown, hts, -, G⟩ := C
  unfold xnewa at hop
  split at hop
  · rename_i x t'
    split at hop
    · rename_i hc
      cases hop
      obtain ⟨h0, hbig, hg⟩ := hc
      have hcN : gN h + 1 ≤ R.cells + N0 := hcN
      have hcU : gU h + x.toNatClampNeg ≤ R.slots + U0 := hcU
      show W p l e R s m args below meth c H locs cells slots Q (F0 m pc lR (.int x :: t'.map (mv E)))
      refine W.anew hx hb hown (hts _ hlk) (va_AO.use G.2.2.2.1) rfl hdg rfl h0 (by omega) (by omega) (by omega) fun cA kA comp f1 f2 f3 f4 => ?_
      generalize hH1 : H.push ({ cls := cA, slots := Array.replicate x.toNatClampNeg .null, vm := .none } : Cell) = H1
      have z1 : H1.size = H.size + 1 := by rw [← hH1, Array.size_push]
      have e1 : H1[H.size]? = some (arrV cA x.toNatClampNeg (fun _ => .null)) := by rw [← hH1, Array.getElem?_push_size, ← arrV_new]
      have o1 : ∀ q : Nat, q < H.size → H1[q]? = H[q]? := fun q hq => by rw [← hH1, Array.getElem?_push, if_neg (Nat.ne_of_lt hq)]
      have hsz : H.size = eB E + gN h := hR.1
      have hv : mvA E (gN h) = .ref H.size := by
        unfold mvA
        rw [if_neg (by omega), mvN_lt (by omega), hsz]
      have kk := kk lR H1 locs (cells + 1) (slots + x.toNatClampNeg) hL (hR.new z1 o1 hg ?_) hlo (by show _ = gN h + 1; omega) (by show _ = gU h + _; omega)
      · show W p l e R s m args below meth c H1 locs (cells + 1) (slots + x.toNatClampNeg) Q (F0 m (pc + 3) lR (.ref H.size :: t'.map (mv E)))
        rw [← hv]
        exact kk
      · rw [hsz] at e1
        refine XA.mk5 (by rw [xnew_K, if_pos rfl]) ?_
        obtain ⟨_, _, _, _, _, k4⟩ := (G.1.2 4 _ rfl).2
        have e : cA = eA E 5 := Option.some.inj (f1.symm.trans k4)
        rw [e1, xnew_Z, if_pos rfl, e]
        congr 2
        funext j
        rw [xnew_R, if_pos rfl]; rfl
    · cases hop
  · cases hop
theorem xfv_new {h : XH} {k n : Nat} {d : String} {ty : FieldType} (ht : xtyc ty = xtc d) (j : Nat) : defaultValue ty = xfv E (xnew h k n) (gN h) d j := by
  unfold xfv
  rw [xnew_L, xnew_R, xnew_I, if_pos rfl, if_pos rfl, if_pos rfl]
  unfold rvA
  rw [if_pos rfl, ← ht]
  cases ty <;> first | rfl | (exfalso; revert ht; unfold xtc; simp only [xtyc]; intro ht; split at ht <;> (try split at ht) <;> (try split at ht) <;> (try split at ht) <;> cases ht)
theorem xs_newo {n i ci : Nat} {q : vw_C} {z : XC} (X : XHyp) (C : XCtx E y p s m args meth c) (hq : vwCl[ci]? = some q) (hlk : Cond.classLink y.1.cls i q.1 ∈ xTG) (hop : xnewo (10 + ci) q.2.2 (pc + 3) ls st h = some z) (hdg : decode y.2.1 pc = .ok (.new i, 3)) (hL : XLoc E ls lR n) (hR : XRel E h H) (hlo : ∀ q ∈ locs, eB E < q.base) (hce : cells + N0 = gN h) (hsl : slots + U0 = gU h)
    (hcN : gN z.2.2.2 ≤ R.cells + N0) (hcU : gU z.2.2.2 ≤ R.slots + U0)
    (kk : XKont E n p l e R s m args below meth c Q N0 U0 z) : W p l e R s m args below meth c H locs cells slots Q (F0 m pc lR (st.map (mv E))) := by
  obtain ⟨hx, hb, -, hown, hts, -, G⟩ := C
  unfold xnewo at hop
  split at hop
  · rename_i hg
    cases hop
    have hcN : gN h + 1 ≤ R.cells + N0 := hcN
    have hcU : gU h + q.2.2 ≤ R.slots + U0 := hcU
    obtain ⟨x1, x2, x3, ⟨ty, x4, x5⟩, -⟩ := X.2.2.1 ci q hq
    have hKn := G.1.1 ci q hq
    refine W.newcK hx hb hown (hts _ hlk) (hts _ x3) (hts _ x2) rfl hdg (by omega) (by omega) hKn.2.1 rfl fun H1 kC hkC e1 z1 o1 => ?_
    have hsz : H.size = eB E + gN h := hR.1
    have hv : mvA E (gN h) = .ref H.size := by
      unfold mvA
      rw [if_neg (by omega), mvN_lt (by omega), hsz]
    have kk := kk lR H1 locs (cells + 1) (slots + q.2.2) hL (hR.new z1 o1 hg ?_) hlo (by show _ = gN h + 1; omega) (by show _ = gU h + _; omega)
    · show W p l e R s m args below meth c H1 locs (cells + 1) (slots + q.2.2) Q (F0 m (pc + 3) lR (.ref H.size :: st.map (mv E)))
      rw [← hv]
      exact kk
    · rw [hsz] at e1
      exact XA.mkO (by rw [xnew_K, if_pos rfl]) hq ((u_born ty hts x1 hKn hkC e1 x4).to fun j hj => xfv_new (x5 j hj) j)
  · cases hop
end XN
