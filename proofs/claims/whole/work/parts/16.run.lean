/-! a run of the small machine is a walk of the machine -/
def xFr (d : Nat) : Nat := d + 1
def xLo (d : Nat) : Nat := 40 + 60 * d
/-- what a run gives, said of the machine -/
def XSnd (E : XE) (n : Nat) : Prop := ∀ (d m : Nat) (q : YM × List (Nat × XRow)) (pc : Nat) (ls st : List Value) (h : XH) (v : Option Value) (h' : XH), xtm[m]? = some q → (∀ pc r, xrow m pc = some r → ¬ ∃ i, r.1 = .invokestatic i ∧ r.2.2.2.1 = 3) → xrun n d m pc ls st h = some (v, h') →
  ∀ (p : Program) (l : Launch) (e : Env) (R : Room) (s : State) (mi : MethodId) (args : Array Value) (below : List Frame) (meth : Method) (c : Code) (H : Heap) (locs : List Loc) (cells slots : Nat) (Q : State → Prop) (lR : Array Slot) (N0 U0 : Nat),
    XCtx E q.1 p s mi args meth c → xFr d ≤ R.frames → xLo d ≤ R.locals → gN h' ≤ R.cells + N0 → gU h' ≤ R.slots + U0 → XLoc E ls lR q.1.2.2.1 → XRel E h H → (∀ z ∈ locs, eB E < z.base) → cells + N0 = gN h → slots + U0 = gU h →
    (∀ (pc' : Nat) (lR' : Array Slot) (H' : Heap) (locs' : List Loc) (cells' slots' : Nat), XEnd q.1 pc' v → XRel E h' H' → (∀ z ∈ locs', eB E < z.base) → cells' + N0 = gN h' → slots' + U0 = gU h' → W p l e R s mi args below meth c H' locs' cells' slots' Q (F0 mi pc' lR' (v.toList.map (mv E)))) →
    W p l e R s mi args below meth c H locs cells slots Q (F0 mi pc lR (st.map (mv E)))
theorem xrel_blind (E : XE) (as : List Value) (h : XH) : FrameBlind (fun a U => a = (as.map (mv E)).toArray ∧ XRel E h U.heap ∧ XG E U) :=
  fun _ _ _ _ q => ⟨q.1, q.2.1, XG.same rfl q.2.2⟩
/-- the contract of a callee whose run is known -/
theorem xmet {E : XE} {n d m : Nat} {q : YM × List (Nat × XRow)} {as : List Value} {h h1 : XH} {v : Option Value} (l : Launch) (XM : XHypM) (IH : XSnd E n) (hq : xtm[m]? = some q) (hno : ∀ pc r, xrow m pc = some r → ¬ ∃ i, r.1 = .invokestatic i ∧ r.2.2.2.1 = 3) (hlaw : q.1.1.cls ≠ "SoftWheelsLaw") (hF : (eF E).category = 1)
    (hlen : (xflat as).length ≤ q.1.2.2.1) (hrun : xrun n d m 0 (xent q.1.2.2.1 as) [] h = some (v, h1)) :
    Met l q.1.1 (Cond.code q.1.1 q.1.2.1 q.1.2.2.1 q.1.2.2.2.1 :: xTG) { frames := xFr d, cells := gN h1 - gN h, slots := gU h1 - gU h, locals := xLo d }
      (fun a U => a = (as.map (mv E)).toArray ∧ XRel E h U.heap ∧ XG E U) (fun _ _ o t => o = .returned (v.map (mv E)) ∧ XRel E h1 t.heap) (gN h1 - gN h) (gU h1 - gU h) (fun z => eB E < z) := by
  obtain ⟨hm, hcd⟩ := XM q (List.mem_of_getElem? hq) hlaw
  unfold xmok at hm
  simp only [Bool.and_eq_true] at hm
  have hpl : plainFor q.1.1 = true := hm.1.1.1.1.1
  have hN := xrun_N _ _ _ _ _ _ _ _ _ hrun
  refine va_MetF (cc := q.1.2.1) (maxL := q.1.2.2.1) (ret := q.1.2.2.2.1) hpl rfl ?_
  intro p e s mi args below meth c s₁ B hml hv
  obtain ⟨rfl, hR, G⟩ := hv
  have hx := B.exec
  have hb := B.bytes
  have hr := B.returns
  have hts := atoms_spec (ws := Cond.code q.1.1 q.1.2.1 q.1.2.2.1 q.1.2.2.2.1 :: xTG) B.pre
  have hown : s.vm.findClass q.1.1.cls = some mi.cls := findClass_of_methodNamed B.named
  have hlocks := B.notSynchronized
  have hnm : meth.name = q.1.1.name := (name_of_methodNamed B.named B.method).1
  rw [lg_entry_eq]
  have hL := XLoc.entry (E := E) hF (as := as) hlen
  refine IH d m q 0 _ [] h v h1 hq hno hrun p l e _ s mi _ below meth c s.heap [] 0 0 _ _ (gN h) (gU h) ⟨hx, hb, hml, hown, fun w hw => hts w (List.mem_cons_of_mem _ hw), hnm, G⟩ (Nat.le_refl _) (Nat.le_refl _)
    (by show gN h1 ≤ gN h1 - gN h + gN h; omega) (by show gU h1 ≤ gU h1 - gU h + gU h; omega) hL hR (fun z hz => by cases hz) (Nat.zero_add _) (Nat.zero_add _) ?_
  intro pc' lR' H' locs' cells' slots' hE hR' hlo' hc' hs'
  obtain rfl : cells' = gN h1 - gN h := by omega
  obtain rfl : slots' = gU h1 - gU h := by omega
  rcases hE with ⟨x, ty, rfl, hty, hn, hd⟩ | ⟨x, rfl, hty, hd⟩ | ⟨rfl, hty, hd⟩
  · exact W.zret hx hb (hr.trans hty) hn (fun t ht _ => ⟨rfl, by rw [ht]; exact hR'⟩) hlo' hd
  · exact W.lret hx hb (hr.trans hty) (fun t ht _ => ⟨rfl, by rw [ht]; exact hR'⟩) hlo' hd
  · exact W.vret hx hb (hr.trans hty) (fun t ht _ => ⟨rfl, by rw [ht]; exact hR'⟩) hlo' hd
theorem xcat_mv {E : XE} (hF : (eF E).category = 1) (t : List Value) : ((t.map (mv E)).map fun v => v.category).sum = xcat t := by
  unfold xcat
  rw [List.map_map]
  congr 1
  apply List.map_congr_left
  intro v _
  exact mv_cat hF v
/-- how the walk goes on behind a call -/
theorem xbehind {E : XE} {p : Program} {l : Launch} {e : Env} {R : Room} {s : State} {m : MethodId} {args : Array Value} {below : List Frame} {meth : Method} {c : Code} {H : Heap} {locs : List Loc} {cells slots : Nat} {Q : State → Prop} {lR : Array Slot} {pc mc ms : Nat} {st rest : List Value} {v : Option Value} {h1 : XH}
    (hr : va_Run p l e R s m args below meth c H locs cells slots mc ms (F0 m pc lR st) (rest.map (mv E)) (fun (_ : State) (o : Outcome) (t : State) => o = .returned (v.map (mv E)) ∧ XRel E h1 t.heap) (fun z => eB E < z)) (hlo : ∀ z ∈ locs, eB E < z.base)
    (kk : ∀ (H' : Heap) (locs' : List Loc), XRel E h1 H' → (∀ z ∈ locs', eB E < z.base) → W p l e R s m args below meth c H' locs' (cells + mc) (slots + ms) Q (F0 m (pc + 3) lR ((v.toList ++ rest).map (mv E)))) :
    W p l e R s m args below meth c H locs cells slots Q (F0 m pc lR st) := by
  intro T hT X
  obtain ⟨v9, st₀, t, T', L, h0, X', hL, e1, e2, ⟨ho, hR⟩, go⟩ := hr T hT X
  have hv : v9 = v.map (mv E) := by cases ho; rfl
  subst hv
  obtain ⟨t2, a1, b1⟩ := kk t.heap (locs ++ L) hR (fun z hz => by
    rcases List.mem_append.mp hz with q | q
    · exact hlo z q
    · exact hL z q) T' e1 X'
  refine ⟨t2, go t2 ?_, b1⟩
  have e9 : (v.toList ++ rest).map (mv E) = (v.map (mv E)).toList ++ rest.map (mv E) := by
    cases v <;> simp
  rw [e9] at a1
  exact a1
theorem xrcv_cell {E : XE} {s : State} {h : XH} {H : Heap} (G : XG E s) (hR : XRel E h H) {k o : Nat} (hk : gK h o = k) (h60 : k = 60 ∨ 10 ≤ k ∧ k < 23) : ∃ cell : Cell, H[mvN E o]? = some cell ∧ cell.vm.isStatics = false ∧ s.vm.findClass (xkcls k) = some cell.cls := by
  rcases h60 with rfl | ⟨ha, hb⟩
  · have hol : 1000000 ≤ o := by
      rcases hR.alive (a := o) (by rw [hk]; decide) with hl | hl
      · exact absurd hk (hR.2.2.2.1 o hl).2.2.2.2.2.2
      · exact hl
    obtain ⟨⟨e1, -⟩, -⟩ := hR.2.2.2.2.2 o hol
    obtain ⟨o1, -⟩ := (G.2.2.2.2.2.2.2.1 o hol).2.2.1 (by rw [← e1]; exact hk)
    obtain ⟨cell, w1, w2, w3, -⟩ := o1.kept (hR.old G)
    rw [mvN_ge (Nat.not_lt.mpr hol)]
    exact ⟨cell, w1, w2, w3⟩
  · obtain ⟨ci, rfl⟩ : ∃ ci, k = 10 + ci := ⟨k - 10, by omega⟩
    have hci : ci < vwCl.length := by show ci < 13; omega
    have hq : vwCl[ci]? = some vwCl[ci] := List.getElem?_eq_getElem hci
    have hol := xobj_lt G hR hk hq
    obtain ⟨cell, q1, q2, q3, -⟩ := (hR.2.2.2.1 o hol).2.2.2.2.2.1 ci _ hk hq
    rw [mvN_lt (Nat.lt_trans hol hR.2.1.1)]
    refine ⟨cell, q1, by rw [q3]; rfl, ?_⟩
    have e : xkcls (10 + ci) = vwCl[ci].1 := by
      unfold xkcls
      rw [if_neg (by omega), show 10 + ci - 10 = ci by omega, hq]
    rw [e, q2]
    exact (G.1.1 ci _ hq).2.1
