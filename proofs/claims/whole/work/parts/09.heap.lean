/-! rows that read and write the heap -/
section XP
variable {E : XE} {y : YM} {pc : Nat} {ls st : List Value} {h : XH}
variable {p : Program} {l : Launch} {e : Env} {R : Room} {s : State} {m : MethodId} {args : Array Value} {below : List Frame} {meth : Method} {c : Code} {H : Heap} {locs : List Loc} {cells slots : Nat} {Q : State → Prop} {lR : Array Slot} {N0 U0 : Nat}
theorem mvA_of {E : XE} {s : State} (G : XG E s) {h : XH} {H : Heap} (hR : XRel E h H) {a : Nat} (hk : gK h a ≠ 0) : mvA E a = .ref (mvN E a) := by
  unfold mvA
  by_cases e : a = 1000002
  · exfalso
    subst e
    rw [(hR.2.2.2.2.2 1000002 (by decide)).1.1] at hk
    exact hk G.2.2.2.2.2.2.2.2.2.2
  · rw [if_neg e]
theorem mvN_lt {a : Nat} (h : a < 1000000) : mvN E a = eB E + a := by unfold mvN; rw [if_pos h]
theorem mvN_ge {a : Nat} (h : ¬ a < 1000000) : mvN E a = eC E (a - 1000000) := by unfold mvN; rw [if_neg h]
/-- an address of a cell that is of some kind is below gN, or a constant's -/
theorem XRel.alive (hR : XRel E h H) {a : Nat} (hk : gK h a ≠ 0) : a < gN h ∨ 1000000 ≤ a := by
  rcases Nat.lt_or_ge a (gN h) with q | q
  · exact Or.inl q
  · rcases Nat.lt_or_ge a 1000000 with q2 | q2
    · exact absurd (hR.2.2.2.2.1 a q q2) hk
    · exact Or.inr q2
/-- the old cells are as they were -/
theorem XRel.old (G : XG E s) (hR : XRel E h H) : ∀ a : Nat, a < (eH E).size → ¬ xnA E a → H[a]? = (eH E)[a]? := fun a _ h2 => hR.2.2.1 a (Nat.not_lt.mp h2)
theorem xin_in {i : Int32} {n : Nat} (h : xin i n = true) : vp_in i n := by
  unfold xin at h
  simp only [Bool.and_eq_true, Bool.not_eq_true', decide_eq_false_iff_not, decide_eq_true_eq] at h
  intro q
  rcases q with q | q
  · exact h.1 q
  · omega
/-- what a row of ints, bytes or truth values is in the machine -/
theorem xarr_i (G : XG E s) (hR : XRel E h H) {a k : Nat} {ty : FieldType} (hkt : (k = 1 ∧ ty = .int) ∨ (k = 2 ∧ ty = .byte) ∨ (k = 3 ∧ ty = .boolean)) (hk : gK h a = k) :
    ∃ cell : Cell, H[mvN E a]? = some cell ∧ s.isArrayOf cell ty ∧ cell.vm ≠ .unknown ∧ gZ h a ≤ cell.slots.size ∧ cell.slots.size.toInt32 = (gZ h a).toInt32 ∧ ∀ j, j < gZ h a → cell.slots[j]? = some (.int (gI h a j)) := by
  have hk0 : gK h a ≠ 0 := by rw [hk]; rcases hkt with ⟨e, -⟩ | ⟨e, -⟩ | ⟨e, -⟩ <;> rw [e] <;> decide
  rcases hR.alive hk0 with hl | hl
  · have hA := hR.2.2.2.1 a hl
    rw [mvN_lt (Nat.lt_trans hl hR.2.1.1)]
    rcases hkt with ⟨rfl, rfl⟩ | ⟨rfl, rfl⟩ | ⟨rfl, rfl⟩
    · exact ⟨_, hA.1 hk, (G.1.2 0 _ rfl).1 _ _, (fun q => by cases q), by rw [arrV_size]; exact Nat.le_refl _, by rw [arrV_size], fun j hj => arrV_read _ _ hj⟩
    · exact ⟨_, hA.2.1 hk, (G.1.2 1 _ rfl).1 _ _, (fun q => by cases q), by rw [arrV_size]; exact Nat.le_refl _, by rw [arrV_size], fun j hj => arrV_read _ _ hj⟩
    · exact ⟨_, hA.2.2.1 hk, (G.1.2 2 _ rfl).1 _ _, (fun q => by cases q), by rw [arrV_size]; exact Nat.le_refl _, by rw [arrV_size], fun j hj => arrV_read _ _ hj⟩
  · obtain ⟨⟨e1, e2⟩, e3⟩ := hR.2.2.2.2.2 a hl
    rw [mvN_ge (by omega)]
    have hX := G.2.2.2.2.2.2.2.1 a hl
    have hkk : (eK E a).1 = k := by rw [← e1]; exact hk
    rcases hkt with ⟨rfl, rfl⟩ | ⟨rfl, rfl⟩ | ⟨rfl, rfl⟩
    · obtain ⟨cell, t1, t2, t3, t4, t5, t6, -⟩ := (hX.1 hkk).kept (hR.old G)
      exact ⟨cell, t1, t2, t3, by rw [e2]; exact t4, by rw [e2]; exact t5, fun j hj => by rw [(e3 j).1]; exact t6 j (by rw [← e2]; exact hj)⟩
    · obtain ⟨cell, t1, t2, t3, t4, t5, t6, -⟩ := (hX.2.1 hkk).kept (hR.old G)
      exact ⟨cell, t1, t2, t3, by rw [e2]; exact t4, by rw [e2]; exact t5, fun j hj => by rw [(e3 j).1]; exact t6 j (by rw [← e2]; exact hj)⟩
    · rcases hX.2.2.2 with q | q | q | q <;> rw [hkk] at q <;> cases q
theorem xs_aldI {n : Nat} {z : XC} (C : XCtx E y p s m args meth c) (hop : xaldI (pc + 1) ls st h = some z) (hdg : decode y.2.1 pc = .ok (.iaload, 1)) (hL : XLoc E ls lR n) (hR : XRel E h H) (hlo : ∀ q ∈ locs, eB E < q.base) (hce : cells + N0 = gN h) (hsl : slots + U0 = gU h)
    (kk : XKont E n p l e R s m args below meth c Q N0 U0 z) : W p l e R s m args below meth c H locs cells slots Q (F0 m pc lR (st.map (mv E))) := by
  obtain ⟨hx, hb, -, -, -, -, G⟩ := C
  unfold xaldI at hop
  split at hop
  · rename_i i a t
    split at hop
    · rename_i hc
      cases hop
      obtain ⟨cell, t1, t2, t3, t4, -, t6⟩ := xarr_i G hR (Or.inl ⟨rfl, rfl⟩) hc.1
      have hin := xin_in hc.2
      have hlt : i.toNatClampNeg < gZ h a := Nat.not_le.mp fun q => hin (Or.inr q)
      show W p l e R s m args below meth c H locs cells slots Q (F0 m pc lR (.int i :: mvA E a :: t.map (mv E)))
      rw [mvA_of G hR (by rw [hc.1]; decide)]
      exact W.iald hx hb t1 t2 t3 (fun q => hin (q.elim Or.inl fun q => Or.inr (Nat.le_trans t4 q))) (t6 _ hlt) rfl rfl hdg (kk lR H locs cells slots hL hR hlo hce hsl)
    · cases hop
  · cases hop
theorem xs_aldB {n : Nat} {z : XC} (C : XCtx E y p s m args meth c) (hop : xaldB (pc + 1) ls st h = some z) (hdg : decode y.2.1 pc = .ok (.baload, 1)) (hL : XLoc E ls lR n) (hR : XRel E h H) (hlo : ∀ q ∈ locs, eB E < q.base) (hce : cells + N0 = gN h) (hsl : slots + U0 = gU h)
    (kk : XKont E n p l e R s m args below meth c Q N0 U0 z) : W p l e R s m args below meth c H locs cells slots Q (F0 m pc lR (st.map (mv E))) := by
  obtain ⟨hx, hb, -, -, -, -, G⟩ := C
  unfold xaldB at hop
  split at hop
  · rename_i i a t
    split at hop
    · rename_i hc
      cases hop
      have hin := xin_in hc.2
      have hlt : i.toNatClampNeg < gZ h a := Nat.not_le.mp fun q => hin (Or.inr q)
      show W p l e R s m args below meth c H locs cells slots Q (F0 m pc lR (.int i :: mvA E a :: t.map (mv E)))
      rcases hc.1 with hk | hk
      · obtain ⟨cell, t1, t2, t3, t4, -, t6⟩ := xarr_i G hR (Or.inr (Or.inl ⟨rfl, rfl⟩)) hk
        rw [mvA_of G hR (by rw [hk]; decide)]
        exact W.bald hx hb t1 t2 t3 (fun q => hin (q.elim Or.inl fun q => Or.inr (Nat.le_trans t4 q))) (t6 _ hlt) rfl rfl hdg (kk lR H locs cells slots hL hR hlo hce hsl)
      · obtain ⟨cell, t1, t2, t3, t4, -, t6⟩ := xarr_i G hR (Or.inr (Or.inr ⟨rfl, rfl⟩)) hk
        rw [mvA_of G hR (by rw [hk]; decide)]
        exact W.zald hx hb t1 t2 t3 (fun q => hin (q.elim Or.inl fun q => Or.inr (Nat.le_trans t4 q))) (t6 _ hlt) rfl rfl hdg (kk lR H locs cells slots hL hR hlo hce hsl)
    · cases hop
  · cases hop
theorem xarr_l (G : XG E s) (hR : XRel E h H) {a : Nat} (hk : gK h a = 4) : a < gN h ∧ H[eB E + a]? = some (arrV (eA E 4) (gZ h a) (fun j => .long (gL h a j))) ∧ ArrOfT s (eA E 4) .long := by
  rcases hR.alive (a := a) (by rw [hk]; decide) with hl | hl
  · exact ⟨hl, (hR.2.2.2.1 a hl).2.2.2.1 hk, (G.1.2 3 _ rfl).1⟩
  · exfalso
    rcases (G.2.2.2.2.2.2.2.1 a hl).2.2.2 with q | q | q | q <;> rw [← (hR.2.2.2.2.2 a hl).1.1, hk] at q <;> cases q
theorem xarr_q (G : XG E s) (hR : XRel E h H) {a : Nat} (hk : gK h a = 5) : a < gN h ∧ H[eB E + a]? = some (arrV (eA E 5) (gZ h a) (fun j => rvA E (gR h a j))) ∧ ArrOfT s (eA E 5) (.object "SoftWheels$Plan") := by
  rcases hR.alive (a := a) (by rw [hk]; decide) with hl | hl
  · exact ⟨hl, (hR.2.2.2.1 a hl).2.2.2.2.1 hk, (G.1.2 4 _ rfl).1⟩
  · exfalso
    rcases (G.2.2.2.2.2.2.2.1 a hl).2.2.2 with q | q | q | q <;> rw [← (hR.2.2.2.2.2 a hl).1.1, hk] at q <;> cases q
theorem xs_aldL {n : Nat} {z : XC} (C : XCtx E y p s m args meth c) (hop : xaldL (pc + 1) ls st h = some z) (hdg : decode y.2.1 pc = .ok (.laload, 1)) (hL : XLoc E ls lR n) (hR : XRel E h H) (hlo : ∀ q ∈ locs, eB E < q.base) (hce : cells + N0 = gN h) (hsl : slots + U0 = gU h)
    (kk : XKont E n p l e R s m args below meth c Q N0 U0 z) : W p l e R s m args below meth c H locs cells slots Q (F0 m pc lR (st.map (mv E))) := by
  obtain ⟨hx, hb, -, -, -, -, G⟩ := C
  unfold xaldL at hop
  split at hop
  · rename_i i a t
    split at hop
    · rename_i hc
      cases hop
      obtain ⟨hl, t1, t2⟩ := xarr_l G hR hc.1
      have hin := xin_in hc.2
      have hlt : i.toNatClampNeg < gZ h a := Nat.not_le.mp fun q => hin (Or.inr q)
      show W p l e R s m args below meth c H locs cells slots Q (F0 m pc lR (.int i :: mvA E a :: t.map (mv E)))
      rw [mvA_of G hR (by rw [hc.1]; decide), mvN_lt (Nat.lt_trans hl hR.2.1.1)]
      exact W.lald hx hb t1 (t2 _ _) (fun q => by cases q) (by rw [arrV_size]; exact hin) (arrV_read _ _ hlt) rfl rfl hdg (kk lR H locs cells slots hL hR hlo hce hsl)
    · cases hop
  · cases hop
theorem xs_aldA {n : Nat} {z : XC} (C : XCtx E y p s m args meth c) (hop : xaldA (pc + 1) ls st h = some z) (hdg : decode y.2.1 pc = .ok (.aaload, 1)) (hL : XLoc E ls lR n) (hR : XRel E h H) (hlo : ∀ q ∈ locs, eB E < q.base) (hce : cells + N0 = gN h) (hsl : slots + U0 = gU h)
    (kk : XKont E n p l e R s m args below meth c Q N0 U0 z) : W p l e R s m args below meth c H locs cells slots Q (F0 m pc lR (st.map (mv E))) := by
  obtain ⟨hx, hb, -, -, -, -, G⟩ := C
  unfold xaldA at hop
  split at hop
  · rename_i i a t
    split at hop
    · rename_i hc
      cases hop
      obtain ⟨hl, t1, t2⟩ := xarr_q G hR hc.1
      have hin := xin_in hc.2.1
      have hlt : i.toNatClampNeg < gZ h a := Nat.not_le.mp fun q => hin (Or.inr q)
      show W p l e R s m args below meth c H locs cells slots Q (F0 m pc lR (.int i :: mvA E a :: t.map (mv E)))
      rw [mvA_of G hR (by rw [hc.1]; decide), mvN_lt (Nat.lt_trans hl hR.2.1.1)]
      have hv : rvA E (gR h a i.toNatClampNeg) = mvA E (gR h a i.toNatClampNeg) := by unfold rvA; rw [if_neg hc.2.2]
      exact W.aald (v := mvA E (gR h a i.toNatClampNeg)) hx hb t1 (t2 _ _) rfl (fun q => by cases q) (by rw [arrV_size]; exact hin) (by rw [arrV_read _ _ hlt, hv]) rfl rfl hdg (kk lR H locs cells slots hL hR hlo hce hsl)
    · cases hop
  · cases hop
theorem xs_len {n : Nat} {z : XC} (C : XCtx E y p s m args meth c) (hop : xlen (pc + 1) ls st h = some z) (hdg : decode y.2.1 pc = .ok (.arraylength, 1)) (hL : XLoc E ls lR n) (hR : XRel E h H) (hlo : ∀ q ∈ locs, eB E < q.base) (hce : cells + N0 = gN h) (hsl : slots + U0 = gU h)
    (kk : XKont E n p l e R s m args below meth c Q N0 U0 z) : W p l e R s m args below meth c H locs cells slots Q (F0 m pc lR (st.map (mv E))) := by
  obtain ⟨hx, hb, -, -, -, -, G⟩ := C
  unfold xlen at hop
  split at hop
  · rename_i a t
    split at hop
    · rename_i hc
      cases hop
      show W p l e R s m args below meth c H locs cells slots Q (F0 m pc lR (mvA E a :: t.map (mv E)))
      rw [mvA_of G hR (by omega)]
      have hk : gK h a = 1 ∨ gK h a = 2 ∨ gK h a = 3 ∨ gK h a = 4 ∨ gK h a = 5 := by omega
      have kk := kk lR H locs cells slots hL hR hlo hce hsl
      rcases hk with k | k | k | k | k
      · obtain ⟨cell, t1, t2, -, -, t5, -⟩ := xarr_i G hR (Or.inl ⟨rfl, rfl⟩) k
        exact W.alen hx hb t1 t2 t5 rfl rfl hdg kk
      · obtain ⟨cell, t1, t2, -, -, t5, -⟩ := xarr_i G hR (Or.inr (Or.inl ⟨rfl, rfl⟩)) k
        exact W.alen hx hb t1 t2 t5 rfl rfl hdg kk
      · obtain ⟨cell, t1, t2, -, -, t5, -⟩ := xarr_i G hR (Or.inr (Or.inr ⟨rfl, rfl⟩)) k
        exact W.alen hx hb t1 t2 t5 rfl rfl hdg kk
      · obtain ⟨hl, t1, t2⟩ := xarr_l G hR k
        rw [mvN_lt (Nat.lt_trans hl hR.2.1.1)]
        exact W.alen hx hb t1 (t2 _ _) (by rw [arrV_size]) rfl rfl hdg kk
      · obtain ⟨hl, t1, t2⟩ := xarr_q G hR k
        rw [mvN_lt (Nat.lt_trans hl hR.2.1.1)]
        exact W.alen hx hb t1 (t2 _ _) (by rw [arrV_size]) rfl rfl hdg kk
    · cases hop
  · cases hop
end XP
