/-! THE CLAIM OUT OF ONE WALK OF THE LAW'S BODY. Your part is whole_start (and what it stands on); all else here is the same for every law, but numbers. -/
def R_law : String := "SoftWheelsLaw"
def lw_P (b : Addr) (xs : List Int32) (args : Array Value) (s : State) : Prop := args = #[.ref b] ∧ s.IntsAt b xs ∧ xs.length ≤ 3072 ∧ (Jvm.Cond.and given_1 narrow_1).before args s = true
def lw_Q (_ : Array Value) (s : State) (o : Outcome) (t : State) : Prop := o = .returned (some (.int 1)) ∧ Framed s o t [] 601024 7293034
def lw_Z (below : List Frame) (a : Array Value) (s : State) : State → Prop := fun t => ∃ o, t.status = .running ∧ Ended t below o ∧ lw_Q a s o t
/-- the law's own end, with 1 on the stack, nothing written that was there before, its room as the claim has it -/
theorem lw_ret {p : Program} {l : Launch} {e : Env} {s : State} {m : MethodId} {below : List Frame} {meth : Method} {c : Code} {b : Nat} (hx : p.tables.exec = Jvm.exec) (hb : c.code = code) (hr : meth.sig.returnType = ret) (hlocks : meth.locks = false) {pc : Nat} {H : Heap} {ls : Array Slot} (hdg : decode code pc = .ok (.ireturn, 1)) : W p l e room_1 s m #[Value.ref b] below meth c H [] 601024 7293034 (lw_Z below #[Value.ref b] s) (F0 m pc ls [.int 1]) := by
  intro T hT X
  obtain ⟨fs, hret, hrun, hended, hW, hframe⟩ := X.leave (v := some (.int 1)) (hlocks := hlocks) (fun h => by rw [hr] at h; cases h)
  have hmeth' : T.vm.method? m = some meth := X.method'
  refine ⟨T.setFrames fs, ?_, .returned (some (.int 1)), hrun, hended, rfl, ⟨_, rfl⟩, hW, hframe⟩
  jvm_step X.here [X.here.top, hx, hb, hdg, hmeth', hr, ret, narrow_b1]
  (try refine ⟨rfl, ?_⟩); (try refine ⟨rfl, ?_⟩)
  first | (intro acts; rw [hret _ acts rfl rfl rfl]) | rw [hret _ _ rfl rfl rfl]
  exact Steps.refl _
/-- what holds at the law's entry: the machine, the code, the tables' words (any of lw_tbl by 'hts w (by decide +kernel)'), the script of L ints xs at the cell b, what the Statement gives of the start (any of its parts by flat_of_before) -/
def lw_At (p : Program) (s : State) (m : MethodId) (meth : Method) (c : Code) (b L : Nat) (xs : Nat → Int32) : Prop :=
  p.tables.exec = Jvm.exec ∧ c.code = code ∧ meth.sig.returnType = ret ∧ c.maxLocals = 7 ∧ s.vm.findClass R_law = some m.cls ∧ (∀ w ∈ lw_tbl, w.before #[Value.ref b] s = true) ∧ va_X b L xs s s.heap ∧ b < s.heap.size ∧ meth.locks = false ∧ (Jvm.Cond.and given_1 narrow_1).before #[Value.ref b] s = true ∧ meth.name = "law"
theorem env_at {p : Program} {s : State} {m : MethodId} {meth : Method} {c : Code} {b L : Nat} {xs : Nat → Int32} (C0 : lw_At p s m meth c b L xs) : ∃ E : XE, XG E s ∧ XTh E s ∧ eH E = s.heap ∧ eB E = s.heap.size - 1 ∧ eC E 0 = b ∧ BsK (wsB E) xs L ∧ (eH E).size = eB E + 1 := by
  obtain ⟨hx, hb, hr, hml, hown, hts, hX, hbl, hlocks, hgv, hnm⟩ := C0
  have hs : ∀ c ∈ flE, c.before #[Value.ref b] s = true := flat_of_before _ hgv
  have htg : ∀ w ∈ xTG, w.before #[Value.ref b] s = true := fun w hw => hts w (List.mem_filter.mp hw).1
  have hA : ∀ a : Nat, a < s.heap.size → ¬ (fun q : Nat => s.heap.size - 1 < q) a := fun a ha q => by
    have q : s.heap.size - 1 < a := q
    omega
  obtain ⟨aK, aV, hS⟩ := str_at hs hA
  obtain ⟨D, hD⟩ := cls_at htg
  obtain ⟨c1, a1, n1⟩ := arr_at (htg _ xhyp.2.2.2.1.1)
  obtain ⟨c2, a2, n2⟩ := arr_at (htg _ xhyp.2.2.2.1.2.1)
  obtain ⟨c3, a3, n3⟩ := arr_at (htg _ xhyp.2.2.2.1.2.2.1)
  obtain ⟨c4, a4, n4⟩ := arr_at (htg _ xhyp.2.2.2.1.2.2.2)
  obtain ⟨c5, a5, n5⟩ := plan_at (hts _ tb_14)
  obtain ⟨u, hu, hU⟩ := va_Tof (N := 5) (f := fun j => .int (unL.getD j 0)) (by decide) (hs _ (List.mem_of_getElem? fl_10)) (va_eqt (hs _ (List.mem_of_getElem? fl_11))) (fun j hj => va_eqt (hs _ (List.mem_of_getElem? (fl_12 j hj)))) hA
  have zC := va_Zof (hts _ tb_1) (hts _ tb_2) (va_eqt (hs _ (List.mem_of_getElem? fl_4))) hA
  have zU := va_Zof (hts _ tb_3) (hts _ tb_4) hu hA
  have zF := va_Zqof (hts _ tb_5) (hts _ tb_6) (hs _ (List.mem_of_getElem? fl_5)) hA
  obtain ⟨F, hF, zF⟩ : ∃ F : Value, (F = .null ∨ ∃ t, F = .ref t) ∧ va_Z "jdk/internal/util/Preconditions" "SIOOBE_FORMATTER" "Ljava/util/function/BiFunction;" F (fun q : Nat => s.heap.size - 1 < q) s s.heap := by
    rcases zF with q | ⟨t, q⟩
    · exact ⟨.null, Or.inl rfl, q⟩
    · exact ⟨.ref t, Or.inr ⟨t, rfl⟩, q⟩
  have h0 : va_T .int b L (fun j => .int (xs j)) (fun q : Nat => s.heap.size - 1 < q) s s.heap := by
    obtain ⟨scr, h1, h2, h3, h4, h5⟩ := hX
    exact ⟨scr, h1, h2, h3, Nat.le_of_eq h4.symm, by rw [h4], h5, hA b hbl⟩
  have hsz : s.heap.size = s.heap.size - 1 + 1 := by omega
  refine ⟨wsE b L xs u aK aV F D (fun k => if k = 1 then c1 else if k = 2 then c2 else if k = 3 then c3 else if k = 4 then c4 else c5) s.heap, ⟨⟨hD, ?_⟩, ?_, ?_, va_AO.of (hts _ tb_14), zC, zU, zF, wsE_K h0 hU (fun i hi => (hS i hi).2), hF, hsz, rfl⟩,
    ⟨⟨vx_Zqof (hts _ tb_7) (hts _ tb_9) (hs _ (List.mem_of_getElem? fl_17)) hA, vx_Zqof (hts _ tb_8) (hts _ tb_9) (hs _ (List.mem_of_getElem? fl_18)) hA⟩, va_Nw.of rfl (hts _ tb_10), va_Nw.of rfl (hts _ tb_11), va_Nw.of rfl (hts _ tb_12), va_Nw.of rfl (hts _ tb_13)⟩, rfl, rfl, rfl, wsB_k, hsz⟩
  · intro k q hk
    have hm := List.mem_of_getElem? hk
    unfold xtys at hm
    simp only [List.mem_cons, List.not_mem_nil, or_false] at hm
    rcases hm with rfl | rfl | rfl | rfl | rfl
    · exact ⟨a1, n1⟩
    · exact ⟨a2, n2⟩
    · exact ⟨a3, n3⟩
    · exact ⟨a4, n4⟩
    · exact ⟨a5, n5⟩
  · intro i q hq
    exact va_Nw.of rfl (hts _ (tb_n q (List.mem_of_getElem? hq)))
  · intro i q hq
    have hi : i < 47 := by rw [← fl_x]; exact (List.getElem?_eq_some_iff.mp hq).1
    have hg : xstr.getD i ("", 0, "") = q := by rw [List.getD_eq_getElem?_getD, hq]; rfl
    have e := (hS i hi).1
    unfold tmS at e
    rw [hg] at e
    rw [wsE_cK]
    exact vk_R.of (hts _ (tb_s q (List.mem_of_getElem? hq))) e
theorem inv_room {i : Nat} {h : XH} {s : Nat → Int32} {n : Nat} (hi : i ≤ 600) (I : INV i h s n) : gN h ≤ 10000 ∧ gU h ≤ 1000000 := by
  obtain ⟨B, dd, M, t, T, np, pl, L, tr, du, v, -, -, ⟨rb, va, zv, va2, zv2, a0, stp, stp2, -, -, c3, -, -, -, -, g1, g2⟩, -, -, -⟩ := I
  have z1 : zv ≤ 102400 := c3.1.1.1.2.2.2.2.2.1
  have z2 : zv2 ≤ 102400 := c3.2.1.1.1.2.2.2.2.2.1
  have p1 : potv zv ≤ 307200 := by unfold potv; split <;> omega
  have p2 : potv zv2 ≤ 307200 := by unfold potv; split <;> omega
  have p3 : (if a0 = 0 then 0 else 9331) ≤ 9331 := by split <;> omega
  exact ⟨by omega, by omega⟩
theorem whole_start {p : Program} {e : Env} {s : State} {m : MethodId} {below : List Frame} {meth : Method} {c : Code} (hX9 : XCat) (l : Launch) (hl : l.stackTraces = false) {b L : Nat} {xs : Nat → Int32} (hL : L ≤ 3072) (C0 : lw_At p s m meth c b L xs) : W p l e room_1 s m #[Value.ref b] below meth c s.heap [] 0 0 (lw_Z below #[Value.ref b] s) (entryFrame m ([Value.ref b] : List Value).toArray 7) := by
  obtain ⟨E, G, hT, eh, eb, ec, bk, hz⟩ := env_at C0
  obtain ⟨hx, hb, hr, hml, hown, hts, hX, hbl, hlocks, hgv, hnm⟩ := C0
  have xr := wsB_rel hz
  obtain ⟨n, v, h', hrun, hQ⟩ := law_start (K := fun v h => v = 1 ∧ gN h ≤ 10000 ∧ gU h ≤ 1000000) hL bk (fun i h hi I => ⟨rfl, inv_room hi I⟩)
  have hv : v = some (.int 1) ∧ gN h' ≤ 10000 ∧ gU h' ≤ 1000000 := by
    cases v with
    | none => exact hQ.elim
    | some w =>
      cases w with
      | int k => exact ⟨by rw [show k = 1 from hQ.1], hQ.2⟩
      | _ => exact hQ.elim
  obtain ⟨rfl, hN, hU⟩ := hv
  have hmv : ([Value.ref 1000000].map (mv E)) = [Value.ref b] := by
    show [mvA E 1000000] = _
    unfold mvA
    rw [if_neg (by decide), mvN_ge (by decide)]
    show [Value.ref (eC E 0)] = _
    rw [ec]
  have hLoc := XLoc.entry (E := E) G.fc (as := [Value.ref 1000000]) (n := 7) (show 1 ≤ 7 by decide)
  rw [hmv] at hLoc
  rw [eh] at xr
  rw [lg_entry_eq]
  refine xlsnd hX9 E n 41 0 _ [] _ _ _ hrun p l e room_1 s m #[Value.ref b] below meth c s.heap [] 0 0 _ _ 1 0 hl hT (show 10 ≤ 2048 by decide) (show 240 ≤ 84000 by decide) ⟨hx, hb, hml, hown, fun w hw => hts w (List.mem_filter.mp hw).1, hnm, G⟩ (show 42 ≤ 2048 by decide) (show 40 + 60 * 41 ≤ 84000 by decide)
    (Nat.le_trans hN (show 10000 ≤ 601024 + 1 by decide)) (Nat.le_trans hU (show 1000000 ≤ 7293034 + 0 by decide)) hLoc xr (fun z hz => by cases hz) rfl rfl ?_
  intro pc' lR' H' locs' cells' slots' hE hR' hlo' hc' hs'
  rcases hE with ⟨k, ty, hk, hty, hn, hd⟩ | ⟨k, hk, -⟩ | ⟨hk, -⟩
  · cases hk
    show W p l e room_1 s m #[Value.ref b] below meth c H' ([] ++ locs') cells' slots' (lw_Z below #[Value.ref b] s) (F0 m pc' lR' [.int 1])
    refine W.forget (fun q hq => ?_) (W.widen (k := 601024) (n := 7293034) (by omega) (by omega) (lw_ret hx hb hr hlocks hd))
    have := hlo' q hq
    rw [eb] at this
    omega
  · cases hk
  · cases hk
set_option maxHeartbeats 4000000 in
theorem lw_walk (hX9 : XCat) (l : Launch) (hl : l.stackTraces = false) (b : Addr) (xs : List Int32) : MetFree l x (headSpec (Jvm.Cond.code x code maxLocals ret :: tables_1) room_1) (lw_P b xs) (fun _ _ _ _ _ => True) lw_Q := by
  refine MetFree.of_bodyS (code := code) (maxLocals := maxLocals) (ret := ret) (by decide) ?_ ?_
  · intro args s m h hn
    obtain ⟨meth, c, h1, h2, h3, h4, h5, h6, -, -⟩ := Cond.code_spec hn (atoms_spec (ws := Jvm.Cond.code x code maxLocals ret :: tables_1) h _ List.mem_cons_self)
    exact ⟨meth, c, h1, h2, h3, h4, h5, h6⟩
  · intro p e s m args below meth c s₁ B hml0 hP _
    obtain ⟨rfl, hx, hbd, hgv⟩ := hP
    obtain ⟨scr, harrAt, hlist, hof, hsmall⟩ := hx
    obtain ⟨hcb, hkn, -, -⟩ := State.arrayAt?_spec harrAt
    have hown : s.vm.findClass R_law = some m.cls := findClass_of_methodNamed B.named
    have hts0 : ∀ c ∈ (Jvm.Cond.code x code maxLocals ret :: tables_1), c.before #[Value.ref b] s = true := atoms_spec (ws := Jvm.Cond.code x code maxLocals ret :: tables_1) B.pre
    have hts : ∀ w ∈ lw_tbl, w.before #[Value.ref b] s = true := k2_hts_sels lw_privs (fun w hw => hts0 w (List.mem_cons_of_mem _ hw)) lw_privs_ok
    have hml : c.maxLocals = 7 := B.maxLocals_eq (hts0 _ List.mem_cons_self)
    have X₀ : Stand p l e room_1 s m #[Value.ref b] below meth c s₁ [] 0 0 := Stand.of_body B
    have hh0 : s₁.heap = s.heap := by rw [B.state]; rfl
    have hsz : scr.slots.size = xs.length := by rw [← Array.length_toList, hlist, List.length_map]
    have hval : ∀ j : Nat, j < xs.length → scr.slots[j]? = some (.int (xs.getD j 0)) := fun j hj => by
      rw [← Array.getElem?_toList, hlist]
      simp [hj]
    have hbl : b < s.heap.size := (Array.getElem?_eq_some_iff.mp hcb).1
    have hX : va_X b xs.length (fun j => xs.getD j 0) s s.heap := ⟨scr, hcb, hof, hkn, hsz, hval⟩
    have K : W p l e room_1 s m #[Value.ref b] below meth c s₁.heap [] 0 0 (lw_Z below #[Value.ref b] s) (entryFrame m ([Value.ref b] : List Value).toArray 7) := by
      rw [hh0]
      exact whole_start hX9 l hl hbd ⟨B.exec, B.bytes, B.returns, hml, hown, hts, hX, hbl, B.notSynchronized, hgv, (name_of_methodNamed B.named B.method).1⟩
    obtain ⟨t, a1, o, b1, b2, b3⟩ := K s₁ rfl X₀
    exact ⟨t, o, a1, b1, b2, b3⟩
theorem lw_pre_spec {args : Array Value} {s : State} (h : (Jvm.Cond.and given_1 narrow_1).before args s = true) (hr : rest_1_c.before args s = true) : ∃ (b : Addr) (xs : List Int32), lw_P b xs args s := by
  have hs := flat_of_before _ h
  have hq := flat_of_before _ hr
  have hc : (Cond.count 1).before args s = true := hs _ (by decide +kernel)
  have harr : (Cond.arrayOf (.arg 0) .int).before args s = true := hs _ (by decide +kernel)
  have hle : (Cond.le (.length (.arg 0)) (.int 3072)).before args s = true := hs _ (by decide +kernel)
  have hlen : (Cond.isInt (.length (.arg 0))).before args s = true := hq _ (by decide +kernel)
  have hall : (Cond.all (.arg 0) (.isInt (.elem (.arg 0) (.index 0)))).before args s = true := hq _ (by decide +kernel)
  obtain ⟨b, xs, hb, hx⟩ := State.ints_of_pre rfl harr hlen hall
  have hsm : xs.length < 2 ^ 31 := hx.choose_spec.2.2.2
  have hev : (Term.length (.arg 0)).eval args s none [] s = some (.int xs.length.toInt32) := hx.length_eval hb
  have hv := Cond.le_ints hev (show (Term.int 3072).eval args s none [] s = some (.int 3072) from rfl)
  have hd : xs.length.toInt32 ≤ 3072 := by
    simpa [Cond.before, Cond.holds, hv] using hle
  have hN : xs.length ≤ 3072 := (Int32.ofNat_le_ofNat hsm (by decide)).mp (show Int32.ofNat xs.length ≤ Int32.ofNat 3072 from hd)
  exact ⟨b, xs, Cond.one_arg hc (show args[0]? = some (.ref b) from hb), hx, hN, h⟩
theorem lw_comes (hX9 : XCat) (l : Launch) (hl : l.stackTraces = false) : Comes l x (Jvm.Cond.code x code maxLocals ret :: tables_1) room_1 (fun tb e args s => Calls_1 tb e args s ∧ rest_1 tb e args s ∧ Pre_1 tb e args s)
    (fun _ _ args s o t => lw_Q args s o t) := by
  intro p e ha hc hk s m args below hf hfit hheap happ hpre
  obtain ⟨b, xs, hP⟩ := lw_pre_spec hpre.2.2 hpre.2.1
  obtain ⟨k, o, h1, h2, h3, hQ⟩ := lw_walk hX9 l hl b xs p e ha hc hk s m args below hf ((Spec.applies_iff_loose hf).mp happ).1 hP trivial
  exact ⟨k, o, h1, h2, h3, hQ⟩
theorem lw_frame {s t : State} {o : Outcome} {args : Array Value} (h : Framed s o t [] 601024 7293034) :
    Framed s o t (fieldLocs frame_1_writes args s ++ arrayLocs frame_1_arrays args s ++ staticLocs frame_1_statics s) 601024 7293034 := h
theorem lw_limb (hX9 : XCat) (L : Cond) (hL : ∀ (args : Array Value) (s t : State), L.after args s (.returned (some (.int 1))) t = true) :
    ArmFor flags0 classFile x code maxLocals ret World_1 tables_1 room_1 Calls_1 rest_1 Pre_1
      (fun tb e a s o t => postC L tb e a s o t ∧ Framed s o t (fieldLocs frame_1_writes a s ++ arrayLocs frame_1_arrays a s ++ staticLocs frame_1_statics s) 601024 7293034) := by
  intro l hfl _ _ p e ha hc hk s m args below hf hfit hheap happ hpre
  obtain ⟨k, o, h1, h2, h3, rfl, hF⟩ := lw_comes hX9 l (by unfold Launch.stackTraces; rw [hfl]; decide +kernel) p e ha hc hk s m args below hf hfit hheap happ hpre
  exact ⟨k, _, h1, h2, h3, hL args s _, lw_frame hF⟩
