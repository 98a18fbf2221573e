/-! the law's own led, called; a run of the law is a walk of the machine -/
theorem xl_d12 : decode ym283.2.1 12 = .ok (.astore_n 3, 1) := by decide +kernel
theorem xl_d13 : decode ym283.2.1 13 = .ok (.iconst 1, 1) := by decide +kernel
theorem xl_d14 : decode ym283.2.1 14 = .ok (.ireturn, 1) := by decide +kernel
theorem xl_d4 : decode ym283.2.1 4 = .ok (.invokevirtual 7, 3) := by decide +kernel
section LEDC
variable {E : XE}
theorem xled_pre2 {h : XH} {x out : Nat} {i : Int32} : xpre 283 4 0 [Value.ref x, .int i, .ref out, .null] [] h = some (4, [Value.ref x, .int i, .ref out, .null], [.int i, .ref x, .int (Int32.ofInt 0), .ref out], h) :=
  xpre_step r_283_0 rfl (xpre_step r_283_1 rfl (xpre_step r_283_2 rfl (xpre_step r_283_3 rfl rfl)))
set_option maxHeartbeats 4000000 in
/-- where the class throws -/
theorem xled_metT (hX : XCat) (l : Launch) (hl : l.stackTraces = false) {h : XH} {x out : Nat} {i : Int32} (hx : gK h x = 21) (hi : i < 0 ∨ gI h x 17 ≤ i ∨ 601 ≤ i) (hg : gN h < 999999) :
    Met l ym283.1 (Cond.codeWith ym283.1 ym283.2.1 ym283.2.2.1 ym283.2.2.2.1 [(0, 9, 12, 13)] :: xTG) { frames := 9, cells := 1, slots := 6, locals := 200 }
      (fun a U => a = ([Value.ref x, .int i, .ref out].map (mv E)).toArray ∧ XRel E h U.heap ∧ XG E U ∧ XTh E U) (fun _ _ o t => o = .returned ((some (.int 1) : Option Value).map (mv E)) ∧ XRel E (xnew h 0 6) t.heap) 1 6 (fun z => eB E < z) := by
  refine va_MetW (cc := ym283.2.1) (maxL := ym283.2.2.1) (ret := ym283.2.2.2.1) (hh := [(0, 9, 12, 13)]) (by decide) rfl ?_
  intro p e s mi args below meth c s₁ B hml hv
  obtain ⟨rfl, hR, G, hT⟩ := hv
  have hx9 := B.exec
  have hb := B.bytes
  have hr := B.returns
  have hts0 := atoms_spec (ws := Cond.codeWith ym283.1 ym283.2.1 ym283.2.2.1 ym283.2.2.2.1 [(0, 9, 12, 13)] :: xTG) B.pre
  have hts : ∀ w ∈ xTG, w.before _ s = true := fun w hw => hts0 w (List.mem_cons_of_mem _ hw)
  have hown : s.vm.findClass ym283.1.cls = some mi.cls := findClass_of_methodNamed B.named
  have hlocks := B.notSynchronized
  have hnm : meth.name = ym283.1.name := (name_of_methodNamed B.named B.method).1
  have C : XCtx E ym283 p s mi _ meth c := ⟨hx9, hb, hml, hown, hts, hnm, G⟩
  have htab : c.exceptionTable.toList = [⟨0, 9, 12, 13⟩] := vx_table (x := ym283.1) B (hts0 _ List.mem_cons_self)
  rw [lg_entry_eq]
  have hL := XLoc.entry (E := E) G.fc (as := [Value.ref x, .int i, .ref out]) (n := ym283.2.2.1) (show 3 ≤ 4 by decide)
  refine xpre_snd (N0 := gN h) (U0 := gU h) xl_q283 xl_n283 C (show 1 ≤ 9 by decide) (show 40 ≤ 200 by decide) 4 0 _ [] h _ xled_pre2 (Nat.le_add_left _ _) (Nat.le_add_left _ _) _ s.heap [] 0 0 hL hR (fun z hz => by cases hz) (Nat.zero_add _) (Nat.zero_add _) ?_
  intro lR' H' locs' cells' slots' hL' hR' hlo' hce' hsl'
  have hc0 : cells' = 0 := by
    have : cells' + gN h = gN h := hce'
    omega
  have hs0 : slots' = 0 := by
    have : slots' + gU h = gU h := hsl'
    omega
  subst hc0
  subst hs0
  have hmx : mvA E x = .ref (mvN E x) := mvA_of G hR' (by rw [hx]; decide)
  obtain ⟨cell, w1, w2, w3⟩ := xrcv_cell G hR' hx (Or.inr ⟨by decide, by decide⟩)
  have base := xled_throw (E := E) l hl hx hi hg
  have blind := xt_blind E [Value.ref x, .int i] h
  have hmv : ([Value.ref x, .int i].map (mv E)) = .ref (mvN E x) :: [Value.int i] := by
    show mvA E x :: _ = _
    rw [hmx]; rfl
  rw [hmv] at base blind
  have hwd : GoodIn xTG ([.methodLink ym283.1.cls 7 ym141.1, .instanceMethod ym141.1, .selects ym141.1.cls ym141.1 ym141.1, .initialized ym141.1.cls] ++ (Cond.code ym141.1 ym141.2.1 ym141.2.2.1 ym141.2.2.2.1 :: xTG)) := by
    refine xTG_in fun w hw => ?_
    simp only [List.mem_append, List.mem_cons, List.not_mem_nil, or_false] at hw
    rcases hw with (rfl | rfl | rfl | rfl) | rfl | hw
    · exact xl_w7
    · exact xl_w8
    · exact xl_w9
    · exact xl_w10
    · exact xl_w11
    · exact hw
  have hW8 : (([Value.int (Int32.ofInt 0), .ref out].map (mv E)).map fun v => v.category).sum ≤ 8 := by
    rw [xcat_mv G.fc]
    show 2 ≤ 8
    decide
  have run := vx_runV (p := p) (e := e) (R := (headSpec (Cond.codeWith ym283.1 ym283.2.1 ym283.2.2.1 ym283.2.2.2.1 [(0, 9, 12, 13)] :: xTG) { frames := 9, cells := 1, slots := 6, locals := 200 }).room) (below := below) (meth := meth) (H := H') (locs := locs') (cells := 0) (slots := 0) (As := [Value.int i]) (rest := [Value.int (Int32.ofInt 0), .ref out].map (mv E)) (b := mvN E x) (g := F0 mi 4 lR' (.int i :: .ref (mvN E x) :: [Value.int (Int32.ofInt 0), .ref out].map (mv E)))
    ⟨hx9, hb, hml, hown, hts⟩ base (cwV (C := ym141.1.cls) 1 hts hwd rfl rfl rfl ⟨rfl, by decide, by decide, by decide +kernel⟩ ⟨show 8 + 1 ≤ 9 by decide, show 8 + (2 + 11) + 120 ≤ 200 by decide⟩) ⟨blind, ⟨cell, w1, w2, w3⟩, fun U hU hW => ⟨rfl, by rw [hU]; exact hR', G.warm hW, hT.warm hW⟩⟩ rfl rfl hL'.2.1 rfl (lv_room hW8) xl_d4 ⟨Nat.le_refl _, Nat.le_refl _⟩
  show W p l e _ s mi _ below meth c H' locs' 0 0 _ (F0 mi 4 lR' (.int i :: mvA E x :: [Value.int (Int32.ofInt 0), .ref out].map (mv E)))
  rw [hmx]
  intro T hT9 X
  rcases run T hT9 X with ⟨v, st₀, t, T', L, h0, X', hL9, e1, e2, hq9, st⟩ | ⟨q, st₀, t, T', L, E9, ce, h0, X', hL9, e1, e2, ⟨hE9, hR9⟩, hce, hcv, hcl, st⟩
  · exact hq9.elim
  · subst hE9
    have hlo9 : ∀ z ∈ locs' ++ L, eB E < z.base := fun z hz => (List.mem_append.mp hz).elim (hlo' z) (hL9 z)
    have kk : W p l e (headSpec (Cond.codeWith ym283.1 ym283.2.1 ym283.2.2.1 ym283.2.2.2.1 [(0, 9, 12, 13)] :: xTG) { frames := 9, cells := 1, slots := 6, locals := 200 }).room s mi (([Value.ref x, .int i, .ref out].map (mv E)).toArray) below meth c T'.heap (locs' ++ L) (0 + 1) (0 + 6) (MQ below (fun _ _ o t => o = .returned ((some (.int 1) : Option Value).map (mv E)) ∧ XRel E (xnew h 0 6) t.heap) (([Value.ref x, .int i, .ref out].map (mv E)).toArray) s 1 6 (fun z => eB E < z)) (F0 mi 12 lR' [.ref q]) := by
      refine lv_astore_n hx9 hb xl_d12 rfl hL'.has (show 3 < 4 by decide) rfl fun l' hl' => ?_
      refine lv_iconst (v := 1) hx9 hb xl_d13 rfl ?_
      exact W.zret hx9 hb hr rfl (fun t ht _ => ⟨rfl, by rw [ht, e1]; exact hR9⟩) hlo9 xl_d14
    obtain ⟨t2, a1, b1⟩ := hX p l e _ s mi _ below meth c T'.heap (locs' ++ L) (0 + 1) (0 + 6) _ 4 lR' ([Value.int (Int32.ofInt 0), .ref out].map (mv E)) ym283.1.cls nse nse ce q ⟨0, 9, 12, 13⟩ hown htab (by decide) (by decide) (hts _ xl_w4) (va_Nw.use rfl hT.2.1) (by rw [e1]; exact hce) hcv hcl kk T' rfl X'
    exact ⟨t2, st.trans a1, b1⟩
/-- where it doesn't -/
theorem xled_run {h : XH} {x out : Nat} {i : Int32} (c1 : gK h x = 21) (c3 : gK h out = 4) (c4 : out < gN h) (c5 : 1 ≤ gZ h out) (c6 : gK h (gR h x 15) = 1) (c7 : gZ h (gR h x 15) = 601) (c9 : gR h x 15 ≠ 0) (hi : ¬ (i < 0 ∨ gI h x 17 ≤ i ∨ 601 ≤ i)) :
    XW 1 283 0 [.ref x, .int i, .ref out, .null] [] h (KI (fun v h' => v = 0 ∧ h' = sL h out 0 (gI h (gR h x 15) i.toNatClampNeg).toInt64)) := by
  have h0 : ¬ i < 0 := fun q => hi (Or.inl q)
  have h1 : ¬ gI h x 17 ≤ i := fun q => hi (Or.inr (Or.inl q))
  have h2 : ¬ (601 : Int32) ≤ i := fun q => hi (Or.inr (Or.inr q))
  have hin : xin i (gZ h (gR h x 15)) = true := by
    rw [c7]
    unfold xin
    rw [decide_eq_false h0]
    have e : i.toInt < (601 : Int32).toInt := Int32.lt_iff_toInt_lt.mp (Int32.not_le.mp h2)
    rw [show (601 : Int32).toInt = 601 from rfl] at e
    have f : i.toNatClampNeg = i.toInt.toNat := rfl
    rw [decide_eq_true (show i.toNatClampNeg < 601 by omega)]
    rfl
  refine w_aload2 r_283_0 ?_
  refine w_iconst (v := 0) r_283_1 rfl ?_
  refine w_aload0 r_283_2 ?_
  refine w_iload1 r_283_3 ?_
  refine k_141 r_283_4 c1 (Nat.le_of_ble_eq_true rfl) ?_
  refine w_iload1 r_141_0 ?_
  refine w_if_lt r_141_1 (fun q => absurd q h0) (fun _ => ?_)
  refine w_iload1 r_141_4 ?_
  refine w_aload0 r_141_5 ?_
  refine w_getI r_141_6 c1 ?_
  refine w_ic_ge r_141_9 (fun q => absurd q h1) (fun _ => ?_)
  refine w_iload1 r_141_12 ?_
  refine w_sipush (v := 601) r_141_13 rfl ?_
  refine w_ic_lt r_141_16 (fun _ => ?_) (fun q => absurd (Int32.not_lt.mp q) h2)
  refine w_aload0 r_141_30 ?_
  refine w_getA r_141_31 c1 rfl c9 ?_
  refine w_iload1 r_141_34 ?_
  refine w_iald r_141_35 c6 hin ?_
  refine w_iret r_141_36 ?_
  refine w_i2l r_283_7 ?_
  refine w_last r_283_8 c3 c4 ?_ ?_
  · show xin 0 (gZ h out) = true
    unfold xin
    rw [decide_eq_true (show (0 : Int32).toNatClampNeg < gZ h out from c5)]
    rfl
  refine w_goto r_283_9 ?_
  refine w_iconst (v := 0) r_283_15 rfl ?_
  exact w_iret r_283_16 ⟨rfl, rfl⟩
set_option maxHeartbeats 2000000 in
theorem xled_metN (l : Launch) {h : XH} {x out : Nat} {i : Int32} (c1 : gK h x = 21) (c3 : gK h out = 4) (c4 : out < gN h) (c5 : 1 ≤ gZ h out) (c6 : gK h (gR h x 15) = 1) (c7 : gZ h (gR h x 15) = 601) (c9 : gR h x 15 ≠ 0) (hi : ¬ (i < 0 ∨ gI h x 17 ≤ i ∨ 601 ≤ i)) :
    Met l ym283.1 (Cond.codeWith ym283.1 ym283.2.1 ym283.2.2.1 ym283.2.2.2.1 [(0, 9, 12, 13)] :: xTG) { frames := xFr 1, cells := 0, slots := 0, locals := xLo 1 }
      (fun a U => a = ([Value.ref x, .int i, .ref out].map (mv E)).toArray ∧ XRel E h U.heap ∧ XG E U ∧ XTh E U) (fun _ _ o t => o = .returned ((some (.int 0) : Option Value).map (mv E)) ∧ XRel E (sL h out 0 (gI h (gR h x 15) i.toNatClampNeg).toInt64) t.heap) 0 0 (fun z => eB E < z) := by
  obtain ⟨n, v, h', hrun, hQ⟩ := xled_run c1 c3 c4 c5 c6 c7 c9 hi
  have hv : v = some (.int 0) ∧ h' = sL h out 0 (gI h (gR h x 15) i.toNatClampNeg).toInt64 := by
    cases v with
    | none => exact hQ.elim
    | some w =>
      cases w with
      | int k => exact ⟨by rw [show k = 0 from hQ.1], hQ.2⟩
      | _ => exact hQ.elim
  obtain ⟨rfl, rfl⟩ := hv
  refine va_MetW (cc := ym283.2.1) (maxL := ym283.2.2.1) (ret := ym283.2.2.2.1) (hh := [(0, 9, 12, 13)]) (by decide) rfl ?_
  intro p e s mi args below meth c s₁ B hml hv
  obtain ⟨rfl, hR, G, hT⟩ := hv
  have hx9 := B.exec
  have hb := B.bytes
  have hr := B.returns
  have hts0 := atoms_spec (ws := Cond.codeWith ym283.1 ym283.2.1 ym283.2.2.1 ym283.2.2.2.1 [(0, 9, 12, 13)] :: xTG) B.pre
  have hown : s.vm.findClass ym283.1.cls = some mi.cls := findClass_of_methodNamed B.named
  have hlocks := B.notSynchronized
  have hnm : meth.name = ym283.1.name := (name_of_methodNamed B.named B.method).1
  rw [lg_entry_eq]
  have hL := XLoc.entry (E := E) G.fc (as := [Value.ref x, .int i, .ref out]) (n := ym283.2.2.1) (show 3 ≤ 4 by decide)
  refine xsnd xhyp xhypM E n 1 283 (ym283, xt283) 0 _ [] h _ _ xl_q283 xl_n283 hrun p l e _ s mi _ below meth c s.heap [] 0 0 _ _ (gN h) (gU h) ⟨hx9, hb, hml, hown, fun w hw => hts0 w (List.mem_cons_of_mem _ hw), hnm, G⟩ (Nat.le_refl _) (Nat.le_refl _)
    (Nat.le_add_left _ _) (Nat.le_add_left _ _) hL hR (fun z hz => by cases hz) (Nat.zero_add _) (Nat.zero_add _) ?_
  intro pc' lR' H' locs' cells' slots' hE hR' hlo' hc' hs'
  have hc0 : cells' = 0 := by
    have : cells' + gN h = gN h := hc'
    omega
  have hs0 : slots' = 0 := by
    have : slots' + gU h = gU h := hs'
    omega
  subst hc0
  subst hs0
  rcases hE with ⟨k, ty, hk, hty, hn, hd⟩ | ⟨k, hk, -⟩ | ⟨hk, -⟩
  · cases hk
    exact W.zret hx9 hb (hr.trans hty) hn (fun t ht _ => ⟨rfl, by rw [ht]; exact hR'⟩) hlo' hd
  · cases hk
  · cases hk
end LEDC
section LEDS
variable {E : XE} {p : Program} {l : Launch} {e : Env} {R : Room} {s : State} {mi : MethodId} {args : Array Value} {below : List Frame} {meth : Method} {c : Code} {H : Heap} {locs : List Loc} {cells slots : Nat} {Q : State → Prop} {lR : Array Slot} {N0 U0 : Nat}
set_option maxHeartbeats 4000000 in
theorem xled_snd (hX : XCat) (hl : l.stackTraces = false) {y : YM} {pc i : Nat} {ls st : List Value} {h : XH} {z : XC} (hlk : Cond.methodLink y.1.cls i ym283.1 ∈ xTG) (hop : xled (pc + 3) ls st h = some z) (hd : decode y.2.1 pc = .ok (.invokestatic i, 3)) (C : XCtx E y p s mi args meth c) (hT : XTh E s) (hrf : 10 ≤ R.frames) (hrl : 240 ≤ R.locals)
    (hcN : gN z.2.2.2 ≤ R.cells + N0) (hcU : gU z.2.2.2 ≤ R.slots + U0) (hL : XLoc E ls lR y.2.2.1) (hR : XRel E h H) (hlo : ∀ q ∈ locs, eB E < q.base) (hce : cells + N0 = gN h) (hsl : slots + U0 = gU h)
    (kk : XKont E y.2.2.1 p l e R s mi args below meth c Q N0 U0 z) : W p l e R s mi args below meth c H locs cells slots Q (F0 mi pc lR (st.map (mv E))) := by
  obtain ⟨hx, hb, hml, hown, hts, hnm, G⟩ := id C
  unfold xled at hop
  split at hop
  · rename_i out i9 x t
    split at hop
    · rename_i hcnd
      obtain ⟨c1, c2, c3, c4, c5, c6, c7, c8, c9, c10, c11⟩ := hcnd
      have hFix : CallFix p mi c y.2.1 y.2.2.1 s args xTG y.1.cls := ⟨hx, hb, hml, hown, hts⟩
      have hW8 : ((t.map (mv E)).map fun v => v.category).sum ≤ 8 := by rw [xcat_mv G.fc]; exact c10
      have hwd : GoodIn xTG (va_wsS y.1.cls i ym283.1 (Cond.codeWith ym283.1 ym283.2.1 ym283.2.2.1 ym283.2.2.2.1 [(0, 9, 12, 13)] :: xTG)) := by
        refine xTG_in fun w hw => ?_
        unfold va_wsS at hw
        simp only [List.mem_append, List.mem_cons, List.not_mem_nil, or_false] at hw
        rcases hw with (rfl | rfl | rfl) | rfl | hw
        · exact hlk
        · exact xl_w5
        · exact xl_w6
        · exact xl_w3
        · exact hw
      have hpre : ∀ U : State, U.heap = H → s.WarmedH U.vm → ([Value.ref x, .int i9, .ref out].map (mv E)).toArray = ([Value.ref x, .int i9, .ref out].map (mv E)).toArray ∧ XRel E h U.heap ∧ XG E U ∧ XTh E U := fun U hU hW => ⟨rfl, by rw [hU]; exact hR, G.warm hW, hT.warm hW⟩
      split at hop
      · rename_i hi
        cases hop
        have hcN : gN h + 1 ≤ R.cells + N0 := hcN
        have hcU : gU h + 6 ≤ R.slots + U0 := hcU
        refine xbehind (v := some (.int 1)) (rest := t) (h1 := xnew h 0 6) (vx_runSW (As := [Value.ref x, .int i9, .ref out].map (mv E)) (hh := [(0, 9, 12, 13)]) hFix (xled_metT (E := E) (out := out) hX l hl c1 hi c11) (vx_cwSW 3 hts hwd rfl rfl rfl ⟨by decide, by decide, by decide +kernel⟩ ⟨hrf, ?_⟩) ⟨xt_blind E _ h, hpre⟩ rfl rfl hL.2.1 rfl (lv_room hW8) hd ⟨by omega, by omega⟩) hlo (fun H' locs' hR' hlo' => kk lR H' locs' _ _ hL hR' hlo' ?_ ?_)
        · show 8 + (4 + 11) + 200 ≤ R.locals
          omega
        · show cells + 1 + N0 = gN h + 1
          omega
        · show slots + 6 + U0 = gU h + 6
          omega
      · rename_i hi
        cases hop
        have hcN : gN h ≤ R.cells + N0 := hcN
        have hcU : gU h ≤ R.slots + U0 := hcU
        refine xbehind (v := some (.int 0)) (rest := t) (h1 := sL h out 0 (gI h (gR h x 15) i9.toNatClampNeg).toInt64) (vx_runSW (As := [Value.ref x, .int i9, .ref out].map (mv E)) (hh := [(0, 9, 12, 13)]) hFix (xled_metN (E := E) (out := out) l c1 c3 c4 c5 c6 c7 c9 hi) (vx_cwSW 3 hts hwd rfl rfl rfl ⟨by decide, by decide, by decide +kernel⟩ ⟨?_, ?_⟩) ⟨xt_blind E _ h, hpre⟩ rfl rfl hL.2.1 rfl (lv_room hW8) hd ⟨by omega, by omega⟩) hlo (fun H' locs' hR' hlo' => kk lR H' locs' _ _ hL hR' hlo' ?_ ?_)
        · show 1 + 1 + 1 ≤ R.frames
          omega
        · show 8 + (4 + 11) + (40 + 60 * 1) ≤ R.locals
          omega
        · show cells + 0 + N0 = gN h
          omega
        · show slots + 0 + U0 = gU h
          omega
    · cases hop
  · cases hop
end LEDS
set_option maxRecDepth 100000 in
theorem xl_q284 : xtm[284]? = some (ym284, xt284) := rfl
theorem xlsnd (hX : XCat) (E : XE) : ∀ (n d pc : Nat) (ls st : List Value) (h : XH) (v : Option Value) (h' : XH), xrun n d 284 pc ls st h = some (v, h') →
  ∀ (p : Program) (l : Launch) (e : Env) (R : Room) (s : State) (mi : MethodId) (args : Array Value) (below : List Frame) (meth : Method) (c : Code) (H : Heap) (locs : List Loc) (cells slots : Nat) (Q : State → Prop) (lR : Array Slot) (N0 U0 : Nat),
    l.stackTraces = false → XTh E s → 10 ≤ R.frames → 240 ≤ R.locals → XCtx E ym284 p s mi args meth c → xFr d ≤ R.frames → xLo d ≤ R.locals → gN h' ≤ R.cells + N0 → gU h' ≤ R.slots + U0 → XLoc E ls lR ym284.2.2.1 → XRel E h H → (∀ z ∈ locs, eB E < z.base) → cells + N0 = gN h → slots + U0 = gU h →
    (∀ (pc' : Nat) (lR' : Array Slot) (H' : Heap) (locs' : List Loc) (cells' slots' : Nat), XEnd ym284 pc' v → XRel E h' H' → (∀ z ∈ locs', eB E < z.base) → cells' + N0 = gN h' → slots' + U0 = gU h' → W p l e R s mi args below meth c H' locs' cells' slots' Q (F0 mi pc' lR' (v.toList.map (mv E)))) →
    W p l e R s mi args below meth c H locs cells slots Q (F0 mi pc lR (st.map (mv E))) := by
  intro n
  induction n with
  | zero => intro d pc ls st h v h' hr; cases hr
  | succ n ih =>
    intro d pc ls st h v h' hr p l e R s mi args below meth c H locs cells slots Q lR N0 U0 hl hT hf9 hl9 C hrf hrl hcN hcU hL hR hlo hce hsl kk
    unfold xrun at hr
    split at hr
    · cases hr
    · rename_i r hrow
      obtain ⟨q', hq', hok⟩ := xrow_ok xhyp hrow
      cases xl_q284.symm.trans hq'
      split at hr
      · rename_i hE
        split at hr
        · cases hr
        · rename_i v9 hv9
          cases hr
          obtain ⟨h1, rfl⟩ := xend_end hok hE hv9
          exact kk pc lR H locs cells slots h1 hR hlo hce hsl
      · split at hr
        · rename_i hC
          split at hr
          · cases hr
          · split at hr
            · cases hr
            · rename_i d' _ _ y as rest hcal
              split at hr
              · cases hr
              · rename_i v1 h1 hcallee
                have hN := xrun_N _ _ _ _ _ _ _ _ _ hr
                refine xcall_snd xhyp xhypM (xsnd xhyp xhypM E n) hok hC hcal hcallee C hrf hrl (Nat.le_trans hN.1 hcN) (Nat.le_trans hN.2 hcU) hL hR hlo hce hsl ?_
                intro lR' H' locs' cells' slots' hL' hR' hlo' hce' hsl'
                exact ih _ _ _ _ _ _ _ hr p l e R s mi args below meth c H' locs' cells' slots' Q lR' N0 U0 hl hT hf9 hl9 C hrf hrl hcN hcU hL' hR' hlo' hce' hsl' kk
        · split at hr
          · cases hr
          · rename_i pc' ls' st' h1 hop
            have hN := xrun_N _ _ _ _ _ _ _ _ _ hr
            have go : XKont E ym284.2.2.1 p l e R s mi args below meth c Q N0 U0 (pc', ls', st', h1) := by
              intro lR' H' locs' cells' slots' hL' hR' hlo' hce' hsl'
              exact ih _ _ _ _ _ _ _ hr p l e R s mi args below meth c H' locs' cells' slots' Q lR' N0 U0 hl hT hf9 hl9 C hrf hrl hcN hcU hL' hR' hlo' hce' hsl' kk
            by_cases hled : ∃ i, r.1 = .invokestatic i ∧ r.2.2.2.1 = 3
            · obtain ⟨i, hr1, hr2⟩ := hled
              obtain ⟨hd, hln⟩ := xok_dec hok
              unfold xok at hok
              rw [Bool.and_eq_true] at hok
              replace hok := hok.2
              obtain ⟨ins, len, a, b, cd, w⟩ := r
              dsimp only at hr1 hr2
              subst hr1
              subst hr2
              dsimp only at hd hln hok hop
              obtain rfl : len = 3 := hln.resolve_left (by intro q; cases q)
              simp only [if_neg (show ¬ (3 = 0) by decide), if_neg (show ¬ (3 = 2) by decide), Bool.and_eq_true, decide_eq_true_eq] at hok
              exact xled_snd hX hl (xisW_in xhyp hok.2) hop hd C hT hf9 hl9 (Nat.le_trans hN.1 hcN) (Nat.le_trans hN.2 hcU) hL hR hlo hce hsl go
            · exact xop_snd xhyp hok hop hled C (Nat.le_trans (by unfold xFr; omega) hrf) (Nat.le_trans (by unfold xLo; omega) hrl) (Nat.le_trans hN.1 hcN) (Nat.le_trans hN.2 hcU) hL hR hlo hce hsl go
