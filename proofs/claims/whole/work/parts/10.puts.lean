/-! rows that write the heap -/
section XQ
variable {E : XE} {y : YM} {pc : Nat} {ls st : List Value} {h : XH}
variable {p : Program} {l : Launch} {e : Env} {R : Room} {s : State} {m : MethodId} {args : Array Value} {below : List Frame} {meth : Method} {c : Code} {H : Heap} {locs : List Loc} {cells slots : Nat} {Q : State → Prop} {lR : Array Slot} {N0 U0 : Nat}
theorem locs_put {a k : Nat} (hlo : ∀ q ∈ locs, eB E < q.base) (ha : a ≠ 0) : ∀ q ∈ locs ++ [(⟨eB E + a, k⟩ : Loc)], eB E < q.base := by
  intro q hq
  rcases List.mem_append.mp hq with h | h
  · exact hlo q h
  · rw [List.mem_singleton.mp h]
    show eB E < eB E + a
    omega
theorem sI_other {h : XH} {a j : Nat} {v : Int32} {a' : Nat} (j' : Nat) (ha : a' ≠ a) : gI (sI h a j v) a' j' = gI h a' j' := by
  show (if a' = a ∧ j' = j then v else h.1 a' j') = _
  rw [if_neg (fun q => ha q.1)]; rfl
theorem sL_other {h : XH} {a j : Nat} {v : Int64} {a' : Nat} (j' : Nat) (ha : a' ≠ a) : gL (sL h a j v) a' j' = gL h a' j' := by
  show (if a' = a ∧ j' = j then v else h.2.1 a' j') = _
  rw [if_neg (fun q => ha q.1)]; rfl
theorem sR_other {h : XH} {a j v : Nat} {a' : Nat} (j' : Nat) (ha : a' ≠ a) : gR (sR h a j v) a' j' = gR h a' j' := by
  show (if a' = a ∧ j' = j then v else h.2.2.1 a' j') = _
  rw [if_neg (fun q => ha q.1)]; rfl
theorem sI_here {h : XH} {a j : Nat} {v : Int32} (j' : Nat) : gI (sI h a j v) a j' = if j' = j then v else gI h a j' := by
  show (if a = a ∧ j' = j then v else h.1 a j') = _
  simp only [true_and]; rfl
theorem sL_here {h : XH} {a j : Nat} {v : Int64} (j' : Nat) : gL (sL h a j v) a j' = if j' = j then v else gL h a j' := by
  show (if a = a ∧ j' = j then v else h.2.1 a j') = _
  simp only [true_and]; rfl
theorem sR_here {h : XH} {a j v : Nat} (j' : Nat) : gR (sR h a j v) a j' = if j' = j then v else gR h a j' := by
  show (if a = a ∧ j' = j then v else h.2.2.1 a j') = _
  simp only [true_and]; rfl
theorem XRel.nz (hR : XRel E h H) {a : Nat} (hk : gK h a ≠ 0) : a ≠ 0 := fun q => hk (by rw [q]; exact hR.2.1.2.1)
theorem XRel.putI (hR : XRel E h H) {a j : Nat} {v : Int32} {H' : Heap} (ha : a < gN h) (hk : gK h a ≠ 0) (hsz : H'.size = H.size) (ho : ∀ q, q ≠ eB E + a → H'[q]? = H[q]?) (hnew : XA E (sI h a j v) H' a) : XRel E (sI h a j v) H' :=
  hR.put ha hsz ho rfl (fun _ => rfl) (fun _ => rfl) (fun a' j' q => sI_other j' q) (fun _ _ _ => rfl) (fun _ _ _ => rfl) hnew (hR.nz hk)
theorem XRel.putL (hR : XRel E h H) {a j : Nat} {v : Int64} {H' : Heap} (ha : a < gN h) (hk : gK h a ≠ 0) (hsz : H'.size = H.size) (ho : ∀ q, q ≠ eB E + a → H'[q]? = H[q]?) (hnew : XA E (sL h a j v) H' a) : XRel E (sL h a j v) H' :=
  hR.put ha hsz ho rfl (fun _ => rfl) (fun _ => rfl) (fun _ _ _ => rfl) (fun a' j' q => sL_other j' q) (fun _ _ _ => rfl) hnew (hR.nz hk)
theorem XRel.putR (hR : XRel E h H) {a j v : Nat} {H' : Heap} (ha : a < gN h) (hk : gK h a ≠ 0) (hsz : H'.size = H.size) (ho : ∀ q, q ≠ eB E + a → H'[q]? = H[q]?) (hnew : XA E (sR h a j v) H' a) : XRel E (sR h a j v) H' :=
  hR.put ha hsz ho rfl (fun _ => rfl) (fun _ => rfl) (fun _ _ _ => rfl) (fun _ _ _ => rfl) (fun a' j' q => sR_other j' q) hnew (hR.nz hk)
/-- the one kind that holds gives the whole cell -/
theorem XA.mk1 {h : XH} {H : Heap} {a : Nat} (hk : gK h a = 1) (hh : H[eB E + a]? = some (arrV (eA E 1) (gZ h a) (fun j => .int (gI h a j)))) : XA E h H a :=
  ⟨fun _ => hh, fun q => absurd (hk.symm.trans q) (by decide), fun q => absurd (hk.symm.trans q) (by decide), fun q => absurd (hk.symm.trans q) (by decide), fun q => absurd (hk.symm.trans q) (by decide), fun ci q k => (by rw [hk] at k; omega), by rw [hk]; decide⟩
theorem XA.mk2 {h : XH} {H : Heap} {a : Nat} (hk : gK h a = 2) (hh : H[eB E + a]? = some (arrV (eA E 2) (gZ h a) (fun j => .int (gI h a j)))) : XA E h H a :=
  ⟨fun q => absurd (hk.symm.trans q) (by decide), fun _ => hh, fun q => absurd (hk.symm.trans q) (by decide), fun q => absurd (hk.symm.trans q) (by decide), fun q => absurd (hk.symm.trans q) (by decide), fun ci q k => (by rw [hk] at k; omega), by rw [hk]; decide⟩
theorem XA.mk3 {h : XH} {H : Heap} {a : Nat} (hk : gK h a = 3) (hh : H[eB E + a]? = some (arrV (eA E 3) (gZ h a) (fun j => .int (gI h a j)))) : XA E h H a :=
  ⟨fun q => absurd (hk.symm.trans q) (by decide), fun q => absurd (hk.symm.trans q) (by decide), fun _ => hh, fun q => absurd (hk.symm.trans q) (by decide), fun q => absurd (hk.symm.trans q) (by decide), fun ci q k => (by rw [hk] at k; omega), by rw [hk]; decide⟩
theorem XA.mk4 {h : XH} {H : Heap} {a : Nat} (hk : gK h a = 4) (hh : H[eB E + a]? = some (arrV (eA E 4) (gZ h a) (fun j => .long (gL h a j)))) : XA E h H a :=
  ⟨fun q => absurd (hk.symm.trans q) (by decide), fun q => absurd (hk.symm.trans q) (by decide), fun q => absurd (hk.symm.trans q) (by decide), fun _ => hh, fun q => absurd (hk.symm.trans q) (by decide), fun ci q k => (by rw [hk] at k; omega), by rw [hk]; decide⟩
theorem XA.mk5 {h : XH} {H : Heap} {a : Nat} (hk : gK h a = 5) (hh : H[eB E + a]? = some (arrV (eA E 5) (gZ h a) (fun j => rvA E (gR h a j)))) : XA E h H a :=
  ⟨fun q => absurd (hk.symm.trans q) (by decide), fun q => absurd (hk.symm.trans q) (by decide), fun q => absurd (hk.symm.trans q) (by decide), fun q => absurd (hk.symm.trans q) (by decide), fun _ => hh, fun ci q k => (by rw [hk] at k; omega), by rw [hk]; decide⟩
theorem XA.mk0 {h : XH} {H : Heap} {a : Nat} (hk : gK h a = 0) : XA E h H a :=
  ⟨fun q => absurd (hk.symm.trans q) (by decide), fun q => absurd (hk.symm.trans q) (by decide), fun q => absurd (hk.symm.trans q) (by decide), fun q => absurd (hk.symm.trans q) (by decide), fun q => absurd (hk.symm.trans q) (by decide), fun ci q k => (by rw [hk] at k; omega), by rw [hk]; decide⟩
theorem XA.mkO {h : XH} {H : Heap} {a ci : Nat} {q : vw_C} (hk : gK h a = 10 + ci) (hq : vwCl[ci]? = some q) (hh : t_OB (eB E + a) ((eD E).1 ci) q.2.2 ((eD E).2 ci) H (fun j => xfv E h a (q.2.1 j).2.2.1 j)) : XA E h H a :=
  ⟨fun z => by rw [hk] at z; omega, fun z => by rw [hk] at z; omega, fun z => by rw [hk] at z; omega, fun z => by rw [hk] at z; omega, fun z => by rw [hk] at z; omega, fun cj q' k hq' => by
    have e : cj = ci := by omega
    subst e
    cases hq.symm.trans hq'
    exact hh, by
    have hci : ci < 13 := (List.getElem?_eq_some_iff.mp hq).1
    rw [hk]; omega⟩
theorem xs_astI {n : Nat} {z : XC} (C : XCtx E y p s m args meth c) (hop : xastI (pc + 1) ls st h = some z) (hdg : decode y.2.1 pc = .ok (.iastore, 1)) (hL : XLoc E ls lR n) (hR : XRel E h H) (hlo : ∀ q ∈ locs, eB E < q.base) (hce : cells + N0 = gN h) (hsl : slots + U0 = gU h)
    (kk : XKont E n p l e R s m args below meth c Q N0 U0 z) : W p l e R s m args below meth c H locs cells slots Q (F0 m pc lR (st.map (mv E))) := by
  obtain ⟨hx, hb, -, -, -, -, G⟩ := C
  unfold xastI at hop
  split at hop
  · rename_i x i a t
    split at hop
    · rename_i hc
      cases hop
      have hk0 : gK h a ≠ 0 := by rw [hc.1]; decide
      have hin := xin_in hc.2.2
      show W p l e R s m args below meth c H locs cells slots Q (F0 m pc lR (.int x :: .int i :: mvA E a :: t.map (mv E)))
      rw [mvA_of G hR hk0, mvN_lt (Nat.lt_trans hc.2.1 hR.2.1.1)]
      refine W.iast hx hb ((hR.2.2.2.1 a hc.2.1).1 hc.1) ((G.1.2 0 _ rfl).1 _ _) (fun q => by cases q) (by rw [arrV_size]; exact hin) rfl rfl hdg fun H1 e1 z1 oq => ?_
      refine kk lR H1 _ cells slots hL (hR.putI hc.2.1 hk0 z1 oq (XA.mk1 hc.1 ?_)) (locs_put hlo (hR.nz hk0)) hce hsl
      rw [e1, arrV_store]
      show some (arrV _ (gZ h a) _) = some (arrV _ (gZ h a) _)
      congr 2
      funext q
      rw [sI_here]
      unfold updV
      by_cases hq : q = i.toNatClampNeg <;> simp [hq]
    · cases hop
  · cases hop
theorem xs_astB {n : Nat} {z : XC} (C : XCtx E y p s m args meth c) (hop : xastB (pc + 1) ls st h = some z) (hdg : decode y.2.1 pc = .ok (.bastore, 1)) (hL : XLoc E ls lR n) (hR : XRel E h H) (hlo : ∀ q ∈ locs, eB E < q.base) (hce : cells + N0 = gN h) (hsl : slots + U0 = gU h)
    (kk : XKont E n p l e R s m args below meth c Q N0 U0 z) : W p l e R s m args below meth c H locs cells slots Q (F0 m pc lR (st.map (mv E))) := by
  obtain ⟨hx, hb, -, -, -, -, G⟩ := C
  unfold xastB at hop
  split at hop
  · rename_i x i a t
    split at hop
    · rename_i hc
      cases hop
      have hk0 : gK h a ≠ 0 := by rw [hc.1]; decide
      have hin := xin_in hc.2.2
      show W p l e R s m args below meth c H locs cells slots Q (F0 m pc lR (.int x :: .int i :: mvA E a :: t.map (mv E)))
      rw [mvA_of G hR hk0, mvN_lt (Nat.lt_trans hc.2.1 hR.2.1.1)]
      refine W.bast hx hb ((hR.2.2.2.1 a hc.2.1).2.1 hc.1) ((G.1.2 1 _ rfl).1 _ _) (fun q => by cases q) (by rw [arrV_size]; exact hin) rfl rfl hdg fun H1 e1 z1 oq => ?_
      refine kk lR H1 _ cells slots hL (hR.putI hc.2.1 hk0 z1 oq (XA.mk2 hc.1 ?_)) (locs_put hlo (hR.nz hk0)) hce hsl
      rw [e1, arrV_store]
      show some (arrV _ (gZ h a) _) = some (arrV _ (gZ h a) _)
      congr 2
      funext q
      rw [sI_here, narrow_byte]
      unfold updV
      by_cases hq : q = i.toNatClampNeg <;> simp [hq]
    · split at hop
      · rename_i hc
        cases hop
        have hk0 : gK h a ≠ 0 := by rw [hc.1]; decide
        have hin := xin_in hc.2.2.1
        show W p l e R s m args below meth c H locs cells slots Q (F0 m pc lR (.int x :: .int i :: mvA E a :: t.map (mv E)))
        rw [mvA_of G hR hk0, mvN_lt (Nat.lt_trans hc.2.1 hR.2.1.1)]
        have hnb : narrow .boolean (.int x) = .int x := by rcases hc.2.2.2 with q | q <;> rw [q] <;> rfl
        refine W.zast hx hb ((hR.2.2.2.1 a hc.2.1).2.2.1 hc.1) ((G.1.2 2 _ rfl).1 _ _) (fun q => by cases q) (by rw [arrV_size]; exact hin) rfl rfl hdg fun H1 e1 z1 oq => ?_
        refine kk lR H1 _ cells slots hL (hR.putI hc.2.1 hk0 z1 oq (XA.mk3 hc.1 ?_)) (locs_put hlo (hR.nz hk0)) hce hsl
        rw [e1, arrV_store, hnb]
        show some (arrV _ (gZ h a) _) = some (arrV _ (gZ h a) _)
        congr 2
        funext q
        rw [sI_here]
        unfold updV
        by_cases hq : q = i.toNatClampNeg <;> simp [hq]
      · cases hop
  · cases hop
theorem xs_astL {n : Nat} {z : XC} (C : XCtx E y p s m args meth c) (hop : xastL (pc + 1) ls st h = some z) (hdg : decode y.2.1 pc = .ok (.lastore, 1)) (hL : XLoc E ls lR n) (hR : XRel E h H) (hlo : ∀ q ∈ locs, eB E < q.base) (hce : cells + N0 = gN h) (hsl : slots + U0 = gU h)
    (kk : XKont E n p l e R s m args below meth c Q N0 U0 z) : W p l e R s m args below meth c H locs cells slots Q (F0 m pc lR (st.map (mv E))) := by
  obtain ⟨hx, hb, -, -, -, -, G⟩ := C
  unfold xastL at hop
  split at hop
  · rename_i x i a t
    split at hop
    · rename_i hc
      cases hop
      have hk0 : gK h a ≠ 0 := by rw [hc.1]; decide
      have hin := xin_in hc.2.2
      show W p l e R s m args below meth c H locs cells slots Q (F0 m pc lR (.long x :: .int i :: mvA E a :: t.map (mv E)))
      rw [mvA_of G hR hk0, mvN_lt (Nat.lt_trans hc.2.1 hR.2.1.1)]
      refine W.last hx hb ((hR.2.2.2.1 a hc.2.1).2.2.2.1 hc.1) ((G.1.2 3 _ rfl).1 _ _) (fun q => by cases q) (by rw [arrV_size]; exact hin) rfl rfl hdg fun H1 e1 z1 oq => ?_
      refine kk lR H1 _ cells slots hL (hR.putL hc.2.1 hk0 z1 oq (XA.mk4 hc.1 ?_)) (locs_put hlo (hR.nz hk0)) hce hsl
      rw [e1, arrV_store]
      show some (arrV _ (gZ h a) _) = some (arrV _ (gZ h a) _)
      congr 2
      funext q
      rw [sL_here]
      unfold updV
      by_cases hq : q = i.toNatClampNeg <;> simp [hq]
    · cases hop
  · cases hop
theorem xs_astA {n : Nat} {z : XC} (C : XCtx E y p s m args meth c) (hop : xastA 16 (pc + 1) ls st h = some z) (hdg : decode y.2.1 pc = .ok (.aastore, 1)) (hL : XLoc E ls lR n) (hR : XRel E h H) (hlo : ∀ q ∈ locs, eB E < q.base) (hce : cells + N0 = gN h) (hsl : slots + U0 = gU h)
    (kk : XKont E n p l e R s m args below meth c Q N0 U0 z) : W p l e R s m args below meth c H locs cells slots Q (F0 m pc lR (st.map (mv E))) := by
  obtain ⟨hx, hb, -, -, -, -, G⟩ := C
  unfold xastA at hop
  split at hop
  · rename_i x i a t
    split at hop
    · rename_i hc
      cases hop
      obtain ⟨ka, hal, hi, kx, hxl, hx0⟩ := hc
      have hk0 : gK h a ≠ 0 := by rw [ka]; decide
      have hin := xin_in hi
      have hlt : i.toNatClampNeg < gZ h a := Nat.not_le.mp fun q => hin (Or.inr q)
      have h0 : ¬ i < 0 := fun q => hin (Or.inl q)
      show W p l e R s m args below meth c H locs cells slots Q (F0 m pc lR (mvA E x :: .int i :: mvA E a :: t.map (mv E)))
      rw [mvA_of G hR hk0, mvA_of G hR (a := x) (by rw [kx]; decide), mvN_lt (Nat.lt_trans hal hR.2.1.1), mvN_lt (Nat.lt_trans hxl hR.2.1.1)]
      obtain ⟨cellV, g1, g2, g3, -⟩ := (hR.2.2.2.1 x hxl).2.2.2.2.2.1 6 _ kx rfl
      have hcls := (G.1.1 6 _ rfl).2
      obtain ⟨kA, comp, k1, k2, k3, -⟩ := (G.1.2 4 _ rfl).2
      have hcomp : comp = (eD E).1 6 := Option.some.inj (k3.symm.trans hcls.1)
      subst hcomp
      obtain ⟨kC, hkC, -⟩ := hcls.2
      refine W.aast hx hb ((hR.2.2.2.1 a hal).2.2.2.2.1 ka) (fun q h => by cases h) (fun h => by cases h) k1 k2 rfl hkC ⟨h0, by rw [arrV_size]; exact hlt⟩ g1 (fun q h => by rw [g3] at h; cases h) (by rw [g2]; exact hkC) (by rw [g2]; exact va_assign hcls) rfl rfl hdg fun H1 e1 z1 oq => ?_
      refine kk lR H1 _ cells slots hL (hR.putR hal hk0 z1 oq (XA.mk5 ka ?_)) (locs_put hlo (hR.nz hk0)) hce hsl
      rw [e1, arrV_store]
      show some (arrV _ (gZ h a) _) = some (arrV _ (gZ h a) _)
      congr 2
      funext q
      rw [sR_here]
      unfold updV
      by_cases hq : q = i.toNatClampNeg
      · simp only [hq, if_true]
        unfold rvA
        rw [if_neg hx0, mvA_of G hR (a := x) (by rw [kx]; decide), mvN_lt (Nat.lt_trans hxl hR.2.1.1)]
      · simp [hq]
    · cases hop
  · cases hop
end XQ
