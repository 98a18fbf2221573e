/-! the law's own led: a call that may throw; the throw is caught -/
abbrev dcl (c : String) : MethodName := ⟨c, "<init>", "(Ljava/lang/String;)V"⟩
/-- an exception is caught by the one row of a table (proved in the last part) -/
def XCat : Prop := ∀ (p : Program) (l : Launch) (e : Env) (R : Room) (s : State) (m : MethodId) (args : Array Value) (below : List Frame) (meth : Method) (c : Code) (H : Heap) (locs : List Loc) (cells slots : Nat) (Q : State → Prop) (pc : Nat) (ls : Array Slot) (rest : List Value) (own name E : String) (ce : Cell) (q : Addr) (x : ExceptionTableEntry),
  s.vm.findClass own = some m.cls → c.exceptionTable.toList = [x] → covers x pc = true → x.catchType ≠ 0 → (Cond.classLink own x.catchType name).before args s = true → (Cond.castable E name).before args s = true → H[q]? = some ce → ce.vm = .none → s.vm.findClass E = some ce.cls →
  W p l e R s m args below meth c H locs cells slots Q (F0 m x.handlerPc ls [.ref q]) → vx_W p l e R s m args below meth c H locs cells slots Q (F0 m pc ls rest) q
/-- what a throw reads beside the words of the tables -/
def XTh (E : XE) (s : State) : Prop :=
  (vx_Zq Bundle.tN "UNASSIGNED_STACK" Bundle.steD (xnA E) s (eH E) ∧ vx_Zq Bundle.tN "SUPPRESSED_SENTINEL" Bundle.listD (xnA E) s (eH E)) ∧
  va_Nw (.castable nse nse) s ∧ va_Nw (.declares (dcl "java/lang/RuntimeException")) s ∧ va_Nw (.declares (dcl "java/lang/Exception")) s ∧ va_Nw (.declares (dcl "java/lang/Throwable")) s
theorem XTh.warm {E : XE} {s U : State} (hW : s.WarmedH U.vm) (h : XTh E s) : XTh E U := by
  obtain ⟨⟨h1, h2⟩, h3, h4, h5, h6⟩ := h
  exact ⟨⟨vx_Zq.moved hW.alike h1, vx_Zq.moved hW.alike h2⟩, va_Nw.warmC hW h3, va_Nw.warmD hW h4, va_Nw.warmD hW h5, va_Nw.warmD hW h6⟩
theorem XTh.same {E : XE} {u U : State} (hv : U.vm = u.vm) (h : XTh E u) : XTh E U := by
  obtain ⟨⟨h1, h2⟩, h3, h4, h5, h6⟩ := h
  have ha : u.vm.Alike U.vm := by rw [hv]; exact Vm.Alike.refl _
  exact ⟨⟨vx_Zq.moved ha h1, vx_Zq.moved ha h2⟩, va_Nw.same rfl hv.symm h3, va_Nw.same rfl hv.symm h4, va_Nw.same rfl hv.symm h5, va_Nw.same rfl hv.symm h6⟩
theorem XA.nil {E : XE} {h : XH} {H : Heap} {a : Nat} (hk : gK h a = 0) : XA E h H a :=
  ⟨fun q => absurd q (by omega), fun q => absurd q (by omega), fun q => absurd q (by omega), fun q => absurd q (by omega), fun q => absurd q (by omega), fun ci q k => absurd k (by omega), by omega⟩
theorem xl_at : ∀ w ∈ ((nseAt "SoftWheels" 313).filter vx_no).filter goodWord, w ∈ lw_tbl := by decide +kernel
theorem xl_bad : ∀ w ∈ ((nseAt "SoftWheels" 313).filter vx_no).filter (fun w => !goodWord w), w ∈ [Cond.declares (dcl "java/lang/RuntimeException"), .declares (dcl "java/lang/Exception"), .declares (dcl "java/lang/Throwable")] := by decide +kernel
theorem xl_ot : ∀ w ∈ Cond.classLink "SoftWheels" 309 nse :: Cond.initialized nse :: (nseAt "SoftWheels" 313).filter vx_no, vx_ot w = true := by decide +kernel
theorem xl_w1 : Cond.classLink "SoftWheels" 309 nse ∈ xTG := List.mem_filter.mpr ⟨by decide +kernel, by decide +kernel⟩
theorem xl_w2 : Cond.initialized nse ∈ xTG := List.mem_filter.mpr ⟨by decide +kernel, by decide +kernel⟩
theorem xl_w3 : Cond.codeWith ym283.1 ym283.2.1 ym283.2.2.1 ym283.2.2.2.1 [(0, 9, 12, 13)] ∈ xTG := List.mem_filter.mpr ⟨by decide +kernel, by decide +kernel⟩
theorem xl_w4 : Cond.classLink "SoftWheelsLaw" 13 nse ∈ xTG := List.mem_filter.mpr ⟨by decide +kernel, by decide +kernel⟩
theorem xl_w5 : Cond.static ym283.1 ∈ xTG := List.mem_filter.mpr ⟨by decide +kernel, by decide +kernel⟩
theorem xl_w6 : Cond.initialized ym283.1.cls ∈ xTG := List.mem_filter.mpr ⟨by decide +kernel, by decide +kernel⟩
theorem xl_w7 : Cond.methodLink "SoftWheelsLaw" 7 ym141.1 ∈ xTG := List.mem_filter.mpr ⟨by decide +kernel, by decide +kernel⟩
theorem xl_w8 : Cond.instanceMethod ym141.1 ∈ xTG := List.mem_filter.mpr ⟨by decide +kernel, by decide +kernel⟩
theorem xl_w9 : Cond.selects ym141.1.cls ym141.1 ym141.1 ∈ xTG := List.mem_filter.mpr ⟨by decide +kernel, by decide +kernel⟩
theorem xl_w10 : Cond.initialized ym141.1.cls ∈ xTG := List.mem_filter.mpr ⟨by decide +kernel, by decide +kernel⟩
theorem xl_w11 : Cond.code ym141.1 ym141.2.1 ym141.2.2.1 ym141.2.2.2.1 ∈ xTG := List.mem_filter.mpr ⟨by decide +kernel, by decide +kernel⟩
set_option maxRecDepth 100000 in
theorem xl_q141 : xtm[141]? = some (ym141, xt141) := rfl
set_option maxRecDepth 100000 in
theorem xl_q283 : xtm[283]? = some (ym283, xt283) := rfl
def xisS (i : Instr) : Bool := match i with
  | .invokestatic _ => true
  | _ => false
theorem xl_n283 : ∀ pc r, xrow 283 pc = some r → ¬ ∃ i, r.1 = .invokestatic i ∧ r.2.2.2.1 = 3 := by
  intro pc r hr hh
  obtain ⟨i, h1, -⟩ := hh
  obtain ⟨q, hq, hm⟩ := xrow_in hr
  cases xl_q283.symm.trans hq
  have k : ∀ z ∈ xt283, xisS z.2.1 = false := by decide
  have := k _ hm
  dsimp only at this
  rw [h1] at this
  cases this
theorem xl_n141 : ∀ pc r, xrow 141 pc = some r → ¬ ∃ i, r.1 = .invokestatic i ∧ r.2.2.2.1 = 3 := xno_led xhyp xl_q141 (by decide)
/-- some instructions, one behind another, no call among them -/
def xpre (m : Nat) : Nat → Nat → List Value → List Value → XH → Option XC
  | 0, pc, ls, st, h => some (pc, ls, st, h)
  | n + 1, pc, ls, st, h => match xrow m pc with
    | none => none
    | some r => match xop r pc ls st h with
      | none => none
      | some (pc', ls', st', h') => xpre m n pc' ls' st' h'
theorem xpre_step {m n pc : Nat} {ls st : List Value} {h : XH} {R : XRow} {pc' : Nat} {ls' st' : List Value} {h' : XH} {z : XC} (r : xrow m pc = some R) (hop : xop R pc ls st h = some (pc', ls', st', h')) (k : xpre m n pc' ls' st' h' = some z) : xpre m (n + 1) pc ls st h = some z := by
  rw [xpre, r]
  dsimp only
  rw [hop]
  exact k
theorem xpre_N {m : Nat} : ∀ (n pc : Nat) (ls st : List Value) (h : XH) (z : XC), xpre m n pc ls st h = some z → gN h ≤ gN z.2.2.2 ∧ gU h ≤ gU z.2.2.2 := by
  intro n
  induction n with
  | zero => intro pc ls st h z hz; cases hz; exact ⟨Nat.le_refl _, Nat.le_refl _⟩
  | succ n ih =>
    intro pc ls st h z hz
    rw [xpre] at hz
    split at hz
    · cases hz
    · split at hz
      · cases hz
      · rename_i hop
        have h1 := xop_N hop
        have h2 := ih _ _ _ _ _ hz
        exact ⟨Nat.le_trans h1.1 h2.1, Nat.le_trans h1.2 h2.2⟩
section LED
variable {E : XE} {p : Program} {l : Launch} {e : Env} {R : Room} {s : State} {mi : MethodId} {args : Array Value} {below : List Frame} {meth : Method} {c : Code} {Q : State → Prop} {N0 U0 : Nat}
theorem xpre_snd {m : Nat} {q : YM × List (Nat × XRow)} (hq : xtm[m]? = some q) (hno : ∀ pc r, xrow m pc = some r → ¬ ∃ i, r.1 = .invokestatic i ∧ r.2.2.2.1 = 3) (C : XCtx E q.1 p s mi args meth c) (hrf : 1 ≤ R.frames) (hrl : 40 ≤ R.locals) :
    ∀ (n pc : Nat) (ls st : List Value) (h : XH) (z : XC), xpre m n pc ls st h = some z → gN z.2.2.2 ≤ R.cells + N0 → gU z.2.2.2 ≤ R.slots + U0 → ∀ (lR : Array Slot) (H : Heap) (locs : List Loc) (cells slots : Nat), XLoc E ls lR q.1.2.2.1 → XRel E h H → (∀ z ∈ locs, eB E < z.base) → cells + N0 = gN h → slots + U0 = gU h →
      XKont E q.1.2.2.1 p l e R s mi args below meth c Q N0 U0 z → W p l e R s mi args below meth c H locs cells slots Q (F0 mi pc lR (st.map (mv E))) := by
  intro n
  induction n with
  | zero =>
    intro pc ls st h z hz hcN hcU lR H locs cells slots hL hR hlo hce hsl kk
    cases hz
    exact kk lR H locs cells slots hL hR hlo hce hsl
  | succ n ih =>
    intro pc ls st h z hz hcN hcU lR H locs cells slots hL hR hlo hce hsl kk
    rw [xpre] at hz
    split at hz
    · cases hz
    · rename_i r hrow
      obtain ⟨q', hq', hok⟩ := xrow_ok xhyp hrow
      cases hq.symm.trans hq'
      split at hz
      · cases hz
      · rename_i pc' ls' st' h1 hop
        have h2 := xpre_N _ _ _ _ _ _ hz
        refine xop_snd xhyp hok hop (hno pc r hrow) C hrf hrl (Nat.le_trans h2.1 hcN) (Nat.le_trans h2.2 hcU) hL hR hlo hce hsl ?_
        intro lR' H' locs' cells' slots' hL' hR' hlo' hce' hsl'
        exact ih _ _ _ _ _ hz hcN hcU lR' H' locs' cells' slots' hL' hR' hlo' hce' hsl' kk
theorem xled_pre {h : XH} {x : Nat} {i : Int32} (hx : gK h x = 21) (hi : i < 0 ∨ gI h x 17 ≤ i ∨ 601 ≤ i) : ∃ n, xpre 141 n 0 [Value.ref x, .int i] [] h = some (19, [Value.ref x, .int i], [], h) := by
  have e6 : xop (.getfield 115, 3, 21, 17, 0, 901) 6 [Value.ref x, .int i] [.ref x, .int i] h = some (9, [Value.ref x, .int i], [.int (gI h x 17), .int i], h) := by
    show (if gK h x = 21 then _ else _) = _
    rw [if_pos hx]; rfl
  by_cases h0 : i < 0
  · refine ⟨2, xpre_step r_141_0 rfl (xpre_step (pc' := 19) r_141_1 ?_ rfl)⟩
    show xjmp (decide (i < 0)) 19 4 _ _ h = _
    rw [decide_eq_true h0]; rfl
  · have e1 : xop (.ifCond .lt 18, 3, 19, 0, 0, 0) 1 [Value.ref x, .int i] [.int i] h = some (4, [Value.ref x, .int i], [], h) := by
      show xjmp (decide (i < 0)) 19 4 _ _ h = _
      rw [decide_eq_false h0]; rfl
    by_cases h1 : gI h x 17 ≤ i
    · refine ⟨6, xpre_step r_141_0 rfl (xpre_step r_141_1 e1 (xpre_step r_141_4 rfl (xpre_step r_141_5 rfl (xpre_step r_141_6 e6 (xpre_step (pc' := 19) r_141_9 ?_ rfl)))))⟩
      show xjmp (decide (gI h x 17 ≤ i)) 19 12 _ _ h = _
      rw [decide_eq_true h1]; rfl
    · have e9 : xop (.if_icmp .ge 10, 3, 19, 0, 0, 0) 9 [Value.ref x, .int i] [.int (gI h x 17), .int i] h = some (12, [Value.ref x, .int i], [], h) := by
        show xjmp (decide (gI h x 17 ≤ i)) 19 12 _ _ h = _
        rw [decide_eq_false h1]; rfl
      have h2 : (601 : Int32) ≤ i := by
        rcases hi with q | q | q
        · exact absurd q h0
        · exact absurd q h1
        · exact q
      refine ⟨9, xpre_step r_141_0 rfl (xpre_step r_141_1 e1 (xpre_step r_141_4 rfl (xpre_step r_141_5 rfl (xpre_step r_141_6 e6 (xpre_step r_141_9 e9 (xpre_step r_141_12 rfl (xpre_step r_141_13 rfl (xpre_step (pc' := 19) r_141_16 ?_ rfl))))))))⟩
      show xjmp (decide (i < (Int16.ofInt 601).toInt32)) 30 19 _ _ h = _
      rw [show (Int16.ofInt 601).toInt32 = 601 from rfl, decide_eq_false (Int32.not_lt.mpr h2)]; rfl
theorem xt_blind (E : XE) (as : List Value) (h : XH) : FrameBlind (fun a U => a = (as.map (mv E)).toArray ∧ XRel E h U.heap ∧ XG E U ∧ XTh E U) :=
  fun _ _ _ _ q => ⟨q.1, q.2.1, XG.same rfl q.2.2.1, XTh.same rfl q.2.2.2⟩
theorem xl_d19 : decode ym141.2.1 19 = .ok (.new 309, 3) := by decide +kernel
theorem xl_d22 : decode ym141.2.1 22 = .ok (.dup, 1) := by decide +kernel
theorem xl_d23 : decode ym141.2.1 23 = .ok (.ldc_w 311, 3) := by decide +kernel
theorem xl_d26 : decode ym141.2.1 26 = .ok (.invokespecial 313, 3) := by decide +kernel
theorem xl_d29 : decode ym141.2.1 29 = .ok (.athrow, 1) := by decide +kernel
set_option maxHeartbeats 2000000 in
/-- the class's led, where it throws -/
theorem xled_throw (l : Launch) (hl : l.stackTraces = false) {h : XH} {x : Nat} {i : Int32} (hx : gK h x = 21) (hi : i < 0 ∨ gI h x 17 ≤ i ∨ 601 ≤ i) (hg : gN h < 999999) :
    vx_Met l ym141.1 (Cond.code ym141.1 ym141.2.1 ym141.2.2.1 ym141.2.2.2.1 :: xTG) { frames := 8, cells := 1, slots := 6, locals := 120 }
      (fun a U => a = ([Value.ref x, .int i].map (mv E)).toArray ∧ XRel E h U.heap ∧ XG E U ∧ XTh E U) (fun _ _ _ _ => False) (fun nm _ t => nm = nse ∧ XRel E (xnew h 0 6) t.heap) 1 6 (fun z => eB E < z) := by
  refine vx_ofW (cc := ym141.2.1) (maxL := ym141.2.2.1) (ret := ym141.2.2.2.1) (by decide) rfl ?_
  intro p e s mi args below meth c s₁ B hml htab hv
  obtain ⟨rfl, hR, G, hT⟩ := hv
  have hx9 := B.exec
  have hb := B.bytes
  have hts0 := atoms_spec (ws := Cond.code ym141.1 ym141.2.1 ym141.2.2.1 ym141.2.2.2.1 :: xTG) B.pre
  have hts : ∀ w ∈ xTG, w.before _ s = true := fun w hw => hts0 w (List.mem_cons_of_mem _ hw)
  have hown : s.vm.findClass ym141.1.cls = some mi.cls := findClass_of_methodNamed B.named
  have hlocks := B.notSynchronized
  have hnm : meth.name = ym141.1.name := (name_of_methodNamed B.named B.method).1
  have C : XCtx E ym141 p s mi _ meth c := ⟨hx9, hb, hml, hown, hts, hnm, G⟩
  rw [lg_entry_eq]
  have hL := XLoc.entry (E := E) G.fc (as := [Value.ref x, .int i]) (n := ym141.2.2.1) (show 2 ≤ 2 from Nat.le_refl 2)
  obtain ⟨n, hn⟩ := xled_pre hx hi
  refine xpre_snd (N0 := gN h) (U0 := gU h) xl_q141 xl_n141 C (show 1 ≤ 8 by decide) (show 40 ≤ 120 by decide) n 0 _ [] h _ hn (Nat.le_add_left _ _) (Nat.le_add_left _ _) _ s.heap [] 0 0 hL hR (fun z hz => by cases hz) (Nat.zero_add _) (Nat.zero_add _) ?_
  intro lR' H' locs' cells' slots' hL' hR' hlo' hce' hsl'
  have hc0 : cells' = 0 := by
    have : cells' + gN h = gN h := hce'
    omega
  have hs0 : slots' = 0 := by
    have : slots' + gU h = gU h := hsl'
    omega
  subst hc0
  subst hs0
  have hS : va_S (xnA E) s.heap H' locs' := ⟨by rw [hR.1, hR'.1]; exact Nat.le_refl _, fun q _ h2 => (hR'.2.2.1 q (Nat.not_lt.mp h2)).trans (hR.2.2.1 q (Nat.not_lt.mp h2)).symm, hlo'⟩
  refine nse_throw (cc := ym141.2.1) (pc := 19) (own := "SoftWheels") (text := "no such cell of a run") (ik := 309) (is := 311) (ic := 313) (sa := eC E (10 + 2 * 26)) (A := xnA E) (rest := []) hx9 hb hl hown (hts _ xl_w1) (hts _ xl_w2) (G.2.2.1 26 _ rfl)
    (vx_hat (fun w hw => hts w (List.mem_filter.mpr ⟨xl_at w hw, (List.mem_filter.mp hw).2⟩)) xl_bad (vx_c (va_Nw.use rfl hT.2.2.1) (vx_c (va_Nw.use rfl hT.2.2.2.1) (vx_c (va_Nw.use rfl hT.2.2.2.2) vx_n)))) xl_ot
    (hT.1.1.kept (hR.old G)) (hT.1.2.kept (hR.old G)) hS (hL'.2.1.trans hml.symm) xl_d19 xl_d22 xl_d23 xl_d26 xl_d29 (fun z hz => (htab z hz).elim) (show 5 < 8 by decide) (show 0 + (13 * 3 + 43) ≤ 120 by decide) (Nat.le_refl _) (Nat.le_refl _) hlocks
    (fun t _ hz ho => ⟨rfl, hR'.new hz ho hg (XA.nil (by rw [xnew_K, if_pos rfl]))⟩) hlo' (Nat.le_refl _) (Nat.le_refl _)
end LED
