/-! fields, statics, Object's constructor, a copied stretch -/
section XF
variable {E : XE} {y : YM} {pc : Nat} {ls st : List Value} {h : XH}
variable {p : Program} {l : Launch} {e : Env} {R : Room} {s : State} {m : MethodId} {args : Array Value} {below : List Frame} {meth : Method} {c : Code} {H : Heap} {locs : List Loc} {cells slots : Nat} {Q : State → Prop} {lR : Array Slot} {N0 U0 : Nat}
theorem xobj_lt (G : XG E s) (hR : XRel E h H) {a ci : Nat} (hk : gK h a = 10 + ci) {q : vw_C} (hq : vwCl[ci]? = some q) : a < gN h := by
  rcases hR.alive (a := a) (by omega) with hl | hl
  · exact hl
  · exfalso
    have hci : ci < 13 := (List.getElem?_eq_some_iff.mp hq).1
    rcases (G.2.2.2.2.2.2.2.1 a hl).2.2.2 with q | q | q | q <;> rw [← (hR.2.2.2.2.2 a hl).1.1, hk] at q <;> omega
/-- the value that a field holds -/
def xgv (E : XE) (h : XH) (o b c : Nat) : Value := if c = 0 then .int (gI h o b) else if c = 1 then .long (gL h o b) else rvA E (gR h o b)
theorem xs_get {n i ci b cd : Nat} {q : vw_C} {z : XC} (X : XHyp) (C : XCtx E y p s m args meth c) (hq : vwCl[ci]? = some q) (hbN : b < q.2.2) (hcd : cd = if xtc (q.2.1 b).2.2.1 = 3 then 0 else xtc (q.2.1 b).2.2.1)
    (hlk : Cond.fieldLink y.1.cls i (q.2.1 b).1 (q.2.1 b).2.1 (q.2.1 b).2.2.1 ∈ xTG) (hop : xget (10 + ci) b cd (pc + 3) ls st h = some z) (hdg : decode y.2.1 pc = .ok (.getfield i, 3)) (hL : XLoc E ls lR n) (hR : XRel E h H) (hlo : ∀ q ∈ locs, eB E < q.base) (hce : cells + N0 = gN h) (hsl : slots + U0 = gU h)
    (kk : XKont E n p l e R s m args below meth c Q N0 U0 z) : W p l e R s m args below meth c H locs cells slots Q (F0 m pc lR (st.map (mv E))) := by
  obtain ⟨hx, hb, -, hown, hts, -, G⟩ := C
  obtain ⟨x1, -, -, -, -⟩ := X.2.2.1 ci q hq
  unfold xget at hop
  split at hop
  · rename_i o t
    split at hop
    · rename_i hk
      have hol := xobj_lt G hR hk hq
      have hob := (hR.2.2.2.1 o hol).2.2.2.2.2.1 ci q hk hq
      show W p l e R s m args below meth c H locs cells slots Q (F0 m pc lR (mvA E o :: t.map (mv E)))
      rw [mvA_of G hR (a := o) (by omega), mvN_lt (Nat.lt_trans hol hR.2.1.1)]
      have hP : va_P (eD E) vwCl [(eB E + o, .inr (ci, (List.range q.2.2).map (fun j => xfv E h o (q.2.1 j).2.2.1 j)))] H := by
        intro k x hx
        have hz : k < 1 := (List.getElem?_eq_some_iff.mp hx).1
        rw [show k = 0 by omega] at hx
        cases hx
        refine ⟨q, hq, hob.to fun j hj => ?_⟩
        simp [vp_V, hj]
      have key : ∀ v : Value, v = xfv E h o (q.2.1 b).2.2.1 b → W p l e R s m args below meth c H locs cells slots Q (F0 m (pc + 3) lR (v :: t.map (mv E))) → W p l e R s m args below meth c H locs cells slots Q (F0 m pc lR (.ref (eB E + o) :: t.map (mv E))) :=
        fun v hv k => va_get hx hb hts x1 hown G.1 hP 0 rfl hq b hbN (hts _ hlk) (fun _ h9 => h9) (by simp [hbN, hv]) hdg k
      split at hop
      · rename_i h0
        cases hop
        refine key _ ?_ (kk lR H locs cells slots hL hR hlo hce hsl)
        show Value.int _ = _
        unfold xfv
        rw [h0] at hcd
        split at hcd
        · rename_i h3; rw [h3]; rfl
        · rw [← hcd]; rfl
      · rename_i h0
        split at hop
        · rename_i h1
          cases hop
          refine key _ ?_ (kk lR H locs cells slots hL hR hlo hce hsl)
          show Value.long _ = _
          unfold xfv
          rw [h1] at hcd
          split at hcd
          · cases hcd
          · rw [← hcd]; rfl
        · rename_i h1
          split at hop
          · cases hop
          · rename_i hr
            cases hop
            refine key _ ?_ (kk lR H locs cells slots hL hR hlo hce hsl)
            show mvA E (gR h o b) = _
            have h2 : xtc (q.2.1 b).2.2.1 = 2 := by
              have : xtc (q.2.1 b).2.2.1 = 0 ∨ xtc (q.2.1 b).2.2.1 = 1 ∨ xtc (q.2.1 b).2.2.1 = 2 ∨ xtc (q.2.1 b).2.2.1 = 3 := by
                unfold xtc; split <;> (try split) <;> (try split) <;> (try split) <;> simp
              rcases this with w | w | w | w <;> rw [w] at hcd <;> simp at hcd <;> omega
            unfold xfv rvA
            rw [h2, if_neg hr]; rfl
    · cases hop
  · cases hop
/-- the two fields of a String constant -/
theorem xs_getS {n i b cd : Nat} {z : XC} (C : XCtx E y p s m args meth c) (hbc : (b = 0 ∧ cd = 2 ∧ Cond.fieldLink y.1.cls i "java/lang/String" "value" "[B" ∈ xTG) ∨ (b = 1 ∧ cd = 0 ∧ Cond.fieldLink y.1.cls i "java/lang/String" "coder" "B" ∈ xTG))
    (hop : xget 60 b cd (pc + 3) ls st h = some z) (hdg : decode y.2.1 pc = .ok (.getfield i, 3)) (hL : XLoc E ls lR n) (hR : XRel E h H) (hlo : ∀ q ∈ locs, eB E < q.base) (hce : cells + N0 = gN h) (hsl : slots + U0 = gU h)
    (kk : XKont E n p l e R s m args below meth c Q N0 U0 z) : W p l e R s m args below meth c H locs cells slots Q (F0 m pc lR (st.map (mv E))) := by
  obtain ⟨hx, hb, -, hown, hts, -, G⟩ := C
  unfold xget at hop
  split at hop
  · rename_i o t
    split at hop
    · rename_i hk
      have hk0 : gK h o ≠ 0 := by rw [hk]; decide
      have hol : 1000000 ≤ o := by
        rcases hR.alive hk0 with hl | hl
        · exact absurd hk (hR.2.2.2.1 o hl).2.2.2.2.2.2
        · exact hl
      obtain ⟨⟨e1, -⟩, e3⟩ := hR.2.2.2.2.2 o hol
      obtain ⟨-, o2, o3⟩ := (G.2.2.2.2.2.2.2.1 o hol).2.2.1 (by rw [← e1]; exact hk)
      show W p l e R s m args below meth c H locs cells slots Q (F0 m pc lR (mvA E o :: t.map (mv E)))
      rw [mvA_of G hR hk0, mvN_ge (Nat.not_lt.mpr hol)]
      rcases hbc with ⟨rfl, rfl, hlk⟩ | ⟨rfl, rfl, hlk⟩
      · obtain ⟨cf, k, fi, f, cell, w1, w2, w3, w4, w5, -⟩ := o2.kept (hR.old G)
        rw [if_neg (by decide), if_neg (by decide)] at hop
        split at hop
        · cases hop
        · cases hop
          refine W.getf hx hb hown (hts _ hlk) w1 w2 w3 w4 w5 rfl rfl hdg ?_
          have kk := kk lR H locs cells slots hL hR hlo hce hsl
          have kk : W p l e R s m args below meth c H locs cells slots Q (F0 m (pc + 3) lR (mvA E (gR h o 0) :: t.map (mv E))) := kk
          rw [(e3 0).2] at kk
          exact kk
      · obtain ⟨cf, k, fi, f, cell, w1, w2, w3, w4, w5, -⟩ := o3.kept (hR.old G)
        rw [if_pos rfl] at hop
        cases hop
        refine W.getf hx hb hown (hts _ hlk) w1 w2 w3 w4 w5 rfl rfl hdg ?_
        have kk := kk lR H locs cells slots hL hR hlo hce hsl
        have kk : W p l e R s m args below meth c H locs cells slots Q (F0 m (pc + 3) lR (.int (gI h o 1) :: t.map (mv E))) := kk
        rw [(e3 1).1] at kk
        exact kk
    · cases hop
  · cases hop
/-- what a field takes -/
theorem xfit (G : XG E s) {ty : FieldType} {d : String} (ht : xtyc ty = xtc d) {v : Value} {cd : Nat} (hcd : cd = xtc d) (hv : (∃ x : Int32, v = .int x ∧ (cd = 0 ∨ cd = 3 ∧ (x = 0 ∨ x = 1))) ∨ (∃ x : Int64, v = .long x ∧ cd = 1) ∨ (∃ x : Nat, v = mvA E x ∧ cd = 2)) : narrow ty v = v ∧ fits ty v = true := by
  subst hcd
  rw [← ht] at hv
  rcases hv with ⟨x, rfl, hc⟩ | ⟨x, rfl, hc⟩ | ⟨x, rfl, hc⟩
  · cases ty <;> simp [xtyc] at hc
    · exact ⟨rfl, rfl⟩
    · rcases hc with rfl | rfl <;> exact ⟨rfl, rfl⟩
  · cases ty <;> simp [xtyc] at hc
    exact ⟨rfl, rfl⟩
  · cases ty <;> simp [xtyc] at hc <;> rcases mvA_or G x with q | ⟨t, q⟩ <;> rw [q] <;> exact ⟨rfl, rfl⟩
/-- a field is written: the picture of its cell -/
theorem xs_putW {n i ci b : Nat} {q : vw_C} (X : XHyp) (C : XCtx E y p s m args meth c) (hq : vwCl[ci]? = some q) (hbN : b < q.2.2)
    (hfin : (q.2.1 b).2.2.2 = false ∨ y.1.name = "<init>" ∧ (q.2.1 b).1 = y.1.cls)
    (hlk : Cond.fieldLink y.1.cls i (q.2.1 b).1 (q.2.1 b).2.1 (q.2.1 b).2.2.1 ∈ xTG) (hdg : decode y.2.1 pc = .ok (.putfield i, 3)) (hL : XLoc E ls lR n) (hR : XRel E h H) {o : Nat} (hk : gK h o = 10 + ci) {v : Value}
    (hfit : ∀ ty, parseFieldDescriptor (q.2.1 b).2.2.1 = some ty → xtyc ty = xtc (q.2.1 b).2.2.1 → narrow ty v = v ∧ fits ty v = true) {t : List Value}
    (kk : ∀ H1 : Heap, H1.size = H.size → (∀ x, x ≠ eB E + o → H1[x]? = H[x]?) → t_OB (eB E + o) ((eD E).1 ci) q.2.2 ((eD E).2 ci) H1 (updV (fun j => xfv E h o (q.2.1 j).2.2.1 j) b v) → W p l e R s m args below meth c H1 (locs ++ [⟨eB E + o, (eD E).2 ci b⟩]) cells slots Q (F0 m (pc + 3) lR t)) :
    W p l e R s m args below meth c H locs cells slots Q (F0 m pc lR (v :: .ref (eB E + o) :: t)) := by
  obtain ⟨hx, hb, -, hown, hts, hnm, G⟩ := C
  obtain ⟨x1, -, -, ⟨ty, x4, x5⟩, x6⟩ := X.2.2.1 ci q hq
  have hol := xobj_lt G hR hk hq
  obtain ⟨cell, q1, q2, q3, q4⟩ := (hR.2.2.2.1 o hol).2.2.2.2.2.1 ci q hk hq
  have hap := va_apart (own := y.1.cls) hts x1 ty x4 x6 G.1 hq
  obtain ⟨hS, hfc, kC, hkC, hkind⟩ := G.1.1 ci _ hq
  obtain ⟨cf, kf, fi, f, hi, hsl⟩ := hS b hbN
  have hlay := hts _ (x1 _ (u_in_lay hbN))
  have hst := (u_facts hfc hkC (u_lays hts x1 hbN) hi).1
  obtain ⟨f1, f2⟩ := hfit _ (x4 b hbN) (x5 b hbN)
  by_cases hff : (q.2.1 b).2.2.2 = false
  · unfold u_lay at hlay
    rw [if_neg (by rw [hff]; decide)] at hlay
    have h6 := u_store hfc hkC hkind hlay hi (x4 b hbN) f1 f2
    refine W.putK hx hb (f := f) ⟨hown, hts _ hlk, ⟨_, _, _, hi⟩, hst⟩ (by rw [q2]; exact h6) q1 q3 (by rw [hsl]; exact k2_hasslot (q4 b hbN)) rfl rfl hdg fun H' e1 e2 e3 => ?_
    rw [hsl] at e1 ⊢
    exact kk H' e2 e3 ⟨_, e1, q2, q3, t_set q4 hap hbN v⟩
  · have hft : (q.2.1 b).2.2.2 = true := by simpa using hff
    obtain ⟨hin, hdecl⟩ := hfin.resolve_left hff
    unfold u_lay at hlay
    rw [if_pos hft] at hlay
    have hcf : m.cls = cf := by
      obtain ⟨_, _, c', _, _, _, -, -, hf', -, -, -, hown2, -⟩ := Cond.laysFinal_spec hlay
      have e1 : c' = cf := by have := hi.symm.trans hf'; simp at this; exact this.1.symm
      rw [hdecl] at hown2
      rw [← e1]; exact Option.some.inj (hown.symm.trans hown2)
    have h6 := u_fits hfc hkC hkind (Or.inr hlay) hi (x4 b hbN) f1 f2
    refine W.putFinK hx hb hown (hts _ hlk) hi hst hcf (hnm.trans hin) (by rw [q2]; exact h6) q1 q3 (by rw [hsl]; exact k2_hasslot (q4 b hbN)) rfl rfl hdg fun H' e1 e2 e3 => ?_
    rw [hsl] at e1 ⊢
    exact kk H' e2 e3 ⟨_, e1, q2, q3, t_set q4 hap hbN v⟩
end XF
