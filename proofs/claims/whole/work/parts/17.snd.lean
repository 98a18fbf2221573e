/-! calls; the soundness of runs -/
theorem xno_led (X : XHyp) {m : Nat} {q : YM × List (Nat × XRow)} (hq : xtm[m]? = some q) (hlaw : q.1.1.cls ≠ "SoftWheelsLaw") : ∀ pc r, xrow m pc = some r → ¬ ∃ i, r.1 = .invokestatic i ∧ r.2.2.2.1 = 3 := by
  intro pc r hr ⟨i, h1, h2⟩
  obtain ⟨q', hq', hok⟩ := xrow_ok X hr
  cases hq.symm.trans hq'
  obtain ⟨ins, len, a, b, cd, w⟩ := r
  dsimp only at h1 h2
  subst h1; subst h2
  unfold xok at hok
  rw [Bool.and_eq_true] at hok
  have hok := hok.2
  simp only [if_neg (show ¬ (3 = 0) by decide), if_neg (show ¬ (3 = 2) by decide), Bool.and_eq_true, decide_eq_true_eq] at hok
  have h5 := hok.1.2
  rw [h5] at hlaw
  exact hlaw rfl
theorem xcal_spec {r : XRow} {st : List Value} {h : XH} {y : Nat} {as rest : List Value} (hc : xcal r st h = some (y, as, rest)) : y = r.2.2.1 ∧ ∃ q, xtm[y]? = some q ∧ as.length = q.1.2.2.2.2.1 ∧ st = as.reverse ++ rest ∧ xcat rest ≤ 8 ∧ (xflat as).length ≤ q.1.2.2.1 ∧ (q.1.2.2.2.2.2.2.1 = 0 ∨ xrcv q.1.2.2.2.2.2.1 q.1.2.2.2.2.2.2.1 as h = true) := by
  unfold xcal at hc
  split at hc
  · cases hc
  · rename_i q hq
    split at hc
    · rename_i hcc
      cases hc
      obtain ⟨h1, h2, h3, h4⟩ := hcc
      exact ⟨rfl, q, hq, by simp [h1], by simp, h2, h3, h4⟩
    · cases hc
theorem xrcv_spec {k sty : Nat} {as : List Value} {h : XH} (hv : xrcv k sty as h = true) : ∃ o t, as = .ref o :: t ∧ gK h o = k := by
  unfold xrcv at hv
  split at hv
  · rename_i o t
    simp only [Bool.and_eq_true, decide_eq_true_eq] at hv
    exact ⟨o, t, rfl, hv.1⟩
  · cases hv
section XL
variable {E : XE} {p : Program} {l : Launch} {e : Env} {R : Room} {s : State} {mi : MethodId} {args : Array Value} {below : List Frame} {meth : Method} {c : Code} {H : Heap} {locs : List Loc} {cells slots : Nat} {Q : State → Prop} {lR : Array Slot} {N0 U0 : Nat}
set_option maxHeartbeats 2000000 in
theorem xcall_snd (X : XHyp) (XM : XHypM) {n d : Nat} (IH : XSnd E n) {y : YM} {pc : Nat} {r : XRow} {ls st : List Value} {h h1 : XH} {v : Option Value} {m : Nat} {as rest : List Value} (hok : xok y (pc, r) = true) (hC : xisC r = true) (hc : xcal r st h = some (m, as, rest))
    (hrun : xrun n d m 0 (xent (xmL m) as) [] h = some (v, h1)) (C : XCtx E y p s mi args meth c) (hrf : xFr (d + 1) ≤ R.frames) (hrl : xLo (d + 1) ≤ R.locals) (hcN : gN h1 ≤ R.cells + N0) (hcU : gU h1 ≤ R.slots + U0) (hL : XLoc E ls lR y.2.2.1) (hR : XRel E h H) (hlo : ∀ q ∈ locs, eB E < q.base) (hce : cells + N0 = gN h) (hsl : slots + U0 = gU h)
    (kk : XKont E y.2.2.1 p l e R s mi args below meth c Q N0 U0 (pc + 3, ls, v.toList ++ rest, h1)) : W p l e R s mi args below meth c H locs cells slots Q (F0 mi pc lR (st.map (mv E))) := by
  obtain ⟨hd, hln⟩ := xok_dec hok
  unfold xok at hok
  rw [Bool.and_eq_true] at hok
  replace hok := hok.2
  obtain ⟨hx, hb, hml, hown, hts, hnm, G⟩ := id C
  obtain ⟨rfl, q, hq, hlen, rfl, hcat, hfl, hrv⟩ := xcal_spec hc
  have hN := xrun_N _ _ _ _ _ _ _ _ _ hrun
  have hmL : xmL r.2.2.1 = q.1.2.2.1 := by unfold xmL; rw [hq]
  rw [hmL] at hrun
  obtain ⟨ins, len, a, b, cd, w⟩ := r
  dsimp only at hd hln hok hq hrun
  have base : q.1.1.cls ≠ "SoftWheelsLaw" → Met l q.1.1 (Cond.code q.1.1 q.1.2.1 q.1.2.2.1 q.1.2.2.2.1 :: xTG) { frames := xFr d, cells := gN h1 - gN h, slots := gU h1 - gU h, locals := xLo d }
      (fun a U => a = (as.map (mv E)).toArray ∧ XRel E h U.heap ∧ XG E U) (fun _ _ o t => o = .returned (v.map (mv E)) ∧ XRel E h1 t.heap) (gN h1 - gN h) (gU h1 - gU h) (fun z => eB E < z) :=
    fun hlaw => xmet l XM IH hq (xno_led X hq hlaw) hlaw G.fc hfl hrun
  have kont : ∀ (H' : Heap) (locs' : List Loc), XRel E h1 H' → (∀ z ∈ locs', eB E < z.base) → W p l e R s mi args below meth c H' locs' (cells + (gN h1 - gN h)) (slots + (gU h1 - gU h)) Q (F0 mi (pc + 3) lR ((v.toList ++ rest).map (mv E))) :=
    fun H' locs' hR' hlo' => kk lR H' locs' _ _ hL hR' hlo' (by show _ = gN h1; omega) (by show _ = gU h1; omega)
  have hroom : cells + (gN h1 - gN h) ≤ R.cells ∧ slots + (gU h1 - gU h) ≤ R.slots := by omega
  have hW8 : ((rest.map (mv E)).map fun v => v.category).sum ≤ 8 := by rw [xcat_mv G.fc]; exact hcat
  have hFix : CallFix p mi c y.2.1 y.2.2.1 s args xTG y.1.cls := ⟨hx, hb, hml, hown, hts⟩
  have hblind := xrel_blind E as h
  have hpre : ∀ U : State, U.heap = H → s.WarmedH U.vm → (as.map (mv E)).toArray = (as.map (mv E)).toArray ∧ XRel E h U.heap ∧ XG E U := fun U hU hW => ⟨rfl, by rw [hU]; exact hR, G.warm hW⟩
  have hst : (as.reverse ++ rest).map (mv E) = (as.map (mv E)).reverse ++ rest.map (mv E) := by simp
  have words : ∀ ws : List Cond, (∀ w ∈ ws, w ∈ xTG) → Cond.code q.1.1 q.1.2.1 q.1.2.2.1 q.1.2.2.2.1 ∈ xTG → GoodIn xTG (ws ++ (Cond.code q.1.1 q.1.2.1 q.1.2.2.1 q.1.2.2.2.1 :: xTG)) := by
    intro ws h1 h2
    refine xTG_in fun w hw => ?_
    rcases List.mem_append.mp hw with q | q
    · exact h1 w q
    · rcases List.mem_cons.mp q with rfl | q
      · exact h2
      · exact q
  cases ins
  case invokevirtual i =>
    obtain rfl : len = 3 := hln.resolve_left (by intro q; cases q)
    simp only [Bool.and_eq_true, decide_eq_true_eq] at hok
    replace hok := hok.2
    unfold xokC at hok
    rw [hq] at hok
    simp only [Bool.and_eq_true, decide_eq_true_eq] at hok
    obtain ⟨⟨hsty, hlaw⟩, hlk⟩ := hok
    obtain ⟨hm, hcd⟩ := XM q (List.mem_of_getElem? hq) hlaw
    unfold xmok at hm
    rw [hsty] at hm
    simp only [Bool.and_eq_true, decide_eq_true_eq, Bool.or_eq_true, if_neg (show ¬ (1 = 0) by decide), if_true] at hm
    obtain ⟨⟨⟨⟨⟨m1, m2⟩, m3⟩, m4⟩, m5⟩, ⟨⟨⟨⟨⟨⟨n1, n2⟩, n3⟩, n4⟩, n5⟩, n6⟩, n7⟩⟩ := hm
    have hlk : Cond.methodLink y.1.cls i q.1.1 ∈ xTG := by
      split at hlk
      · simp at hlk
      · exact xisW_in X hlk
    obtain ⟨o, t, rfl, hk⟩ := xrcv_spec (hrv.resolve_left (by rw [hsty]; decide))
    have hk0 : gK h o ≠ 0 := by rw [hk]; omega
    obtain ⟨cell, w1, w2, w3⟩ := xrcv_cell G hR hk (by omega)
    rw [n5] at w3
    have hmv : ((Value.ref o :: t).map (mv E)) = .ref (mvN E o) :: t.map (mv E) := by
      show mvA E o :: _ = _
      rw [mvA_of G hR hk0]
    rw [hmv] at hpre hblind base hst
    rw [hst]
    refine xbehind (va_runV (As := t.map (mv E)) (b := mvN E o) hFix (base hlaw) (cwV (C := q.1.1.cls) (t.map (mv E)).length hts (words [.methodLink y.1.cls i q.1.1, .instanceMethod q.1.1, .selects q.1.1.cls q.1.1 q.1.1, .initialized q.1.1.cls] ?_ hcd) rfl rfl rfl ⟨rfl, m4, m5, ?_⟩ ⟨?_, ?_⟩) ⟨hblind, ⟨cell, w1, w2, w3⟩, hpre⟩ rfl rfl hL.2.1 ?_ (lv_room hW8) hd hroom) hlo kont
    · intro w hw
      simp only [List.mem_cons, List.not_mem_nil, or_false] at hw
      rcases hw with rfl | rfl | rfl | rfl
      · exact hlk
      · exact xisW_in X n3
      · exact xisW_in X n7
      · exact xisW_in X m3
    · rw [n2, ← hlen]
      simp
    · exact hrf
    · show 8 + (q.1.2.2.1 + 11) + xLo d ≤ R.locals
      have : xLo (d + 1) = xLo d + 60 := by unfold xLo; omega
      omega
    · simp
  case invokestatic i =>
    obtain rfl : len = 3 := hln.resolve_left (by intro q; cases q)
    have hb0 : b = 0 := of_decide_eq_true hC
    subst hb0
    simp only [if_true] at hok
    unfold xokC at hok
    rw [hq] at hok
    simp only [Bool.and_eq_true, decide_eq_true_eq] at hok
    obtain ⟨⟨hsty, hlaw⟩, hlk⟩ := hok
    obtain ⟨hm, hcd⟩ := XM q (List.mem_of_getElem? hq) hlaw
    unfold xmok at hm
    rw [hsty] at hm
    simp only [Bool.and_eq_true, decide_eq_true_eq, if_true] at hm
    obtain ⟨⟨⟨⟨⟨m1, m2⟩, m3⟩, m4⟩, m5⟩, ⟨n1, n2⟩⟩ := hm
    have hlk : Cond.methodLink y.1.cls i q.1.1 ∈ xTG := by
      split at hlk
      · simp at hlk
      · exact xisW_in X hlk
    rw [hst]
    refine xbehind (va_runS (As := as.map (mv E)) hFix (base hlaw) (va_cwS (as.map (mv E)).length hts (words [.methodLink y.1.cls i q.1.1, .static q.1.1, .initialized q.1.1.cls] ?_ hcd) rfl rfl rfl ⟨m4, m5, ?_⟩ ⟨?_, ?_⟩) ⟨hblind, hpre⟩ rfl rfl hL.2.1 rfl (lv_room hW8) hd hroom) hlo kont
    · intro w hw
      simp only [List.mem_cons, List.not_mem_nil, or_false] at hw
      rcases hw with rfl | rfl | rfl
      · exact hlk
      · exact xisW_in X n1
      · exact xisW_in X m3
    · rw [n2, ← hlen]
      simp
    · exact hrf
    · show 8 + (q.1.2.2.1 + 11) + xLo d ≤ R.locals
      have : xLo (d + 1) = xLo d + 60 := by unfold xLo; omega
      omega
  case invokespecial i =>
    obtain rfl : len = 3 := hln.resolve_left (by intro q; cases q)
    have hb0 : b = 0 := of_decide_eq_true hC
    subst hb0
    simp only [if_true] at hok
    unfold xokC at hok
    rw [hq] at hok
    simp only [Bool.and_eq_true, decide_eq_true_eq] at hok
    obtain ⟨⟨hsty, hlaw⟩, hlk⟩ := hok
    obtain ⟨hm, hcd⟩ := XM q (List.mem_of_getElem? hq) hlaw
    unfold xmok at hm
    rw [hsty] at hm
    simp only [Bool.and_eq_true, decide_eq_true_eq, Bool.or_eq_true, if_neg (show ¬ (2 = 0) by decide), if_neg (show ¬ (2 = 1) by decide)] at hm
    obtain ⟨⟨⟨⟨⟨m1, m2⟩, m3⟩, m4⟩, m5⟩, ⟨⟨⟨⟨⟨⟨n1, n2⟩, n3⟩, n4⟩, n5⟩, n6⟩, ⟨⟨n7, n8⟩, n9⟩⟩⟩ := hm
    obtain ⟨o, t, rfl, hk⟩ := xrcv_spec (hrv.resolve_left (by rw [hsty]; decide))
    have hk0 : gK h o ≠ 0 := by rw [hk]; omega
    have hmv : ((Value.ref o :: t).map (mv E)) = .ref (mvN E o) :: t.map (mv E) := by
      show mvA E o :: _ = _
      rw [mvA_of G hR hk0]
    rw [hmv] at hpre hblind base hst
    rw [n9] at base hcd words
    rw [hst]
    have hg : GoodIn xTG (Cond.code q.1.1 q.1.2.1 q.1.2.2.1 none :: xTG) := words [] (fun w hw => by cases hw) hcd
    have hpar : q.1.1.cls ≠ "java/lang/invoke/MethodHandle" ∧ q.1.1.cls ≠ "java/lang/invoke/VarHandle" ∧ (parseMethodDescriptor q.1.1.desc).map (fun d => d.parameters.length) = some (t.map (mv E)).length := ⟨m4, m5, by rw [n2, ← hlen]; simp⟩
    have hrm : xFr d + 1 ≤ R.frames ∧ 8 + (q.1.2.2.1 + 11) + xLo d ≤ R.locals := ⟨hrf, by
      have : xLo (d + 1) = xLo d + 60 := by unfold xLo; omega
      omega⟩
    split at hlk
    · rename_i hc1
      simp only [Bool.and_eq_true] at hlk
      replace hlk := hlk.2
      unfold xokN at hlk
      cases hs : xnest[w]? with
      | none => rw [hs] at hlk; cases hlk
      | some z =>
        rw [hs] at hlk
        simp only [Bool.and_eq_true, decide_eq_true_eq] at hlk
        have hZ := G.2.1 w z hs
        rw [hlk.1.1, hlk.1.2, hlk.2] at hZ
        refine xbehind (va_runIN (As := t.map (mv E)) (b := mvN E o) hFix (base hlaw) ⟨va_cnB (t.map (mv E)).length hts hg rfl rfl rfl hZ (hts _ (xisW_in X m3)) hpar hrm, n8, hts _ (xisW_in X n3)⟩ ⟨hblind, hpre⟩ rfl rfl hL.2.1 ?_ (lv_room hW8) hd hroom) hlo kont
        simp
    · refine xbehind (va_runI (As := t.map (mv E)) (b := mvN E o) hFix (base hlaw) (cwI (t.map (mv E)).length hts hg rfl rfl rfl (hts _ (xisW_in X m3)) (hts _ (xisW_in X hlk)) (hts _ (xisW_in X n3)) n8 hpar hrm) ⟨hblind, hpre⟩ rfl rfl hL.2.1 ?_ (lv_room hW8) hd hroom) hlo kont
      simp
  all_goals (simp [xisC] at hC)
end XL
theorem xsnd (X : XHyp) (XM : XHypM) (E : XE) : ∀ n, XSnd E n := by
  intro n
  induction n with
  | zero => intro d m q pc ls st h v h' hq hno hr; cases hr
  | succ n ih =>
    intro d m q pc ls st h v h' hq hno hr p l e R s mi args below meth c H locs cells slots Q lR N0 U0 C hrf hrl hcN hcU hL hR hlo hce hsl kk
    have hr0 := hr
    unfold xrun at hr
    split at hr
    · cases hr
    · rename_i r hrow
      obtain ⟨q', hq', hok⟩ := xrow_ok X hrow
      cases hq.symm.trans hq'
      split at hr
      · rename_i hE
        split at hr
        · cases hr
        · rename_i v9 hv9
          cases hr
          obtain ⟨h1, rfl⟩ := xend_end hok hE hv9
          exact kk pc lR H locs cells slots h1 hR hlo hce hsl
      · split at hr
        · rename_i hC
          split at hr
          · cases hr
          · split at hr
            · cases hr
            · rename_i d' _ _ y as rest hcal
              split at hr
              · cases hr
              · rename_i v1 h1 hcallee
                have hN := xrun_N _ _ _ _ _ _ _ _ _ hr
                refine xcall_snd X XM ih hok hC hcal hcallee C hrf hrl (Nat.le_trans hN.1 hcN) (Nat.le_trans hN.2 hcU) hL hR hlo hce hsl ?_
                intro lR' H' locs' cells' slots' hL' hR' hlo' hce' hsl'
                exact ih _ m q _ _ _ _ _ _ hq hno hr p l e R s mi args below meth c H' locs' cells' slots' Q lR' N0 U0 C hrf hrl hcN hcU hL' hR' hlo' hce' hsl' kk
        · split at hr
          · cases hr
          · rename_i pc' ls' st' h1 hop
            have hN := xrun_N _ _ _ _ _ _ _ _ _ hr
            refine xop_snd X hok hop (hno pc r hrow) C (Nat.le_trans (by unfold xFr; omega) hrf) (Nat.le_trans (by unfold xLo; omega) hrl) (Nat.le_trans hN.1 hcN) (Nat.le_trans hN.2 hcU) hL hR hlo hce hsl ?_
            intro lR' H' locs' cells' slots' hL' hR' hlo' hce' hsl'
            exact ih _ m q _ _ _ _ _ _ hq hno hr p l e R s mi args below meth c H' locs' cells' slots' Q lR' N0 U0 C hrf hrl hcN hcU hL' hR' hlo' hce' hsl' kk
