/-! the small machine's heap and locals, held against the machine's -/
/-- the last old address; where the constants lie; the formatter; the classes' numbers and slots; the array classes; the old heap; kinds and ints of the constants -/
abbrev XE : Type := Nat × (Nat → Nat) × Value × va_G × (Nat → ClassId) × Heap × (Nat → Nat × Nat) × (Nat → Nat → Int32)
def eB (E : XE) : Nat := E.1
def eC (E : XE) : Nat → Nat := E.2.1
def eF (E : XE) : Value := E.2.2.1
def eD (E : XE) : va_G := E.2.2.2.1
def eA (E : XE) : Nat → ClassId := E.2.2.2.2.1
def eH (E : XE) : Heap := E.2.2.2.2.2.1
def eK (E : XE) : Nat → Nat × Nat := E.2.2.2.2.2.2.1
def eI (E : XE) : Nat → Nat → Int32 := E.2.2.2.2.2.2.2
def eR (a j : Nat) : Nat := if j = 0 then a + 1 else 0
def mvN (E : XE) (a : Nat) : Nat := if a < 1000000 then eB E + a else eC E (a - 1000000)
def mvA (E : XE) (a : Nat) : Value := if a = 1000002 then eF E else .ref (mvN E a)
def mv (E : XE) : Value → Value
  | .ref a => mvA E a
  | v => v
def rvA (E : XE) (x : Nat) : Value := if x = 0 then .null else mvA E x
def xnA (E : XE) : Nat → Prop := fun q => eB E < q
def xfv (E : XE) (h : XH) (a : Nat) (d : String) (j : Nat) : Value := if xtc d = 1 then .long (gL h a j) else if xtc d = 2 then rvA E (gR h a j) else .int (gI h a j)
def XA (E : XE) (h : XH) (H : Heap) (a : Nat) : Prop :=
  (gK h a = 1 → H[eB E + a]? = some (arrV (eA E 1) (gZ h a) (fun j => .int (gI h a j)))) ∧
  (gK h a = 2 → H[eB E + a]? = some (arrV (eA E 2) (gZ h a) (fun j => .int (gI h a j)))) ∧
  (gK h a = 3 → H[eB E + a]? = some (arrV (eA E 3) (gZ h a) (fun j => .int (gI h a j)))) ∧
  (gK h a = 4 → H[eB E + a]? = some (arrV (eA E 4) (gZ h a) (fun j => .long (gL h a j)))) ∧
  (gK h a = 5 → H[eB E + a]? = some (arrV (eA E 5) (gZ h a) (fun j => rvA E (gR h a j)))) ∧
  (∀ (ci : Nat) (q : vw_C), gK h a = 10 + ci → vwCl[ci]? = some q → t_OB (eB E + a) ((eD E).1 ci) q.2.2 ((eD E).2 ci) H (fun j => xfv E h a (q.2.1 j).2.2.1 j)) ∧ gK h a ≠ 60
def XRel (E : XE) (h : XH) (H : Heap) : Prop :=
  H.size = eB E + gN h ∧ (gN h < 1000000 ∧ gK h 0 = 0 ∧ 1 ≤ gN h) ∧ (∀ q, q ≤ eB E → H[q]? = (eH E)[q]?) ∧ (∀ a, a < gN h → XA E h H a) ∧ (∀ a, gN h ≤ a → a < 1000000 → gK h a = 0) ∧
  ∀ a, 1000000 ≤ a → (gK h a = (eK E a).1 ∧ gZ h a = (eK E a).2) ∧ ∀ j, gI h a j = eI E a j ∧ gR h a j = eR a j
def xtys (E : XE) : List (ClassId × FieldType) := [(eA E 1, .int), (eA E 2, .byte), (eA E 3, .boolean), (eA E 4, .long), (eA E 5, .object "SoftWheels$Plan")]
def XK (E : XE) (s : State) (a : Nat) : Prop :=
  ((eK E a).1 = 1 → va_T .int (eC E (a - 1000000)) (eK E a).2 (fun j => .int (eI E a j)) (xnA E) s (eH E)) ∧
  ((eK E a).1 = 2 → va_T .byte (eC E (a - 1000000)) (eK E a).2 (fun j => .int (eI E a j)) (xnA E) s (eH E)) ∧
  ((eK E a).1 = 60 → va_O "java/lang/String" (eC E (a - 1000000)) (xnA E) s (eH E) ∧ va_OF "java/lang/String" "value" "[B" (mvA E (eR a 0)) (eC E (a - 1000000)) (xnA E) s (eH E) ∧ va_OF "java/lang/String" "coder" "B" (.int (eI E a 1)) (eC E (a - 1000000)) (xnA E) s (eH E)) ∧
  ((eK E a).1 = 0 ∨ (eK E a).1 = 1 ∨ (eK E a).1 = 2 ∨ (eK E a).1 = 60)
def XG (E : XE) (s : State) : Prop :=
  va_K (eD E) vwCl (xtys E) s ∧
  (∀ (i : Nat) (q : String × Nat × MethodName × String), xnest[i]? = some q → va_Nw (.methodLinkNest q.1 q.2.1 q.2.2.1 q.2.2.2) s) ∧
  (∀ (i : Nat) (q : String × Nat × String), xstr[i]? = some q → vk_R q.1 q.2.1 q.2.2 (eC E (10 + 2 * i)) s) ∧
  va_AO "SoftWheels$Plan" s ∧
  va_Z "java/lang/String" "COMPACT_STRINGS" "Z" (.int 1) (xnA E) s (eH E) ∧
  va_Z "SoftWheels$Digs" "UNITS" "[I" (.ref (eC E 1)) (xnA E) s (eH E) ∧
  va_Z "jdk/internal/util/Preconditions" "SIOOBE_FORMATTER" "Ljava/util/function/BiFunction;" (eF E) (xnA E) s (eH E) ∧
  (∀ a, 1000000 ≤ a → XK E s a) ∧ (eF E = .null ∨ ∃ t, eF E = .ref t) ∧ (eH E).size = eB E + 1 ∧ (eK E 1000002).1 = 0
theorem XK.moved {E : XE} {u U : State} {a : Nat} (hvm : u.vm.Alike U.vm) (h : XK E u a) : XK E U a :=
  ⟨fun k => (h.1 k).moved hvm, fun k => (h.2.1 k).moved hvm, fun k => ⟨(h.2.2.1 k).1.moved hvm, (h.2.2.1 k).2.1.moved hvm, (h.2.2.1 k).2.2.moved hvm⟩, h.2.2.2⟩
theorem XG.warm {E : XE} {s U : State} (hW : s.WarmedH U.vm) (h : XG E s) : XG E U := by
  obtain ⟨h1, h2, h3, h4, h5, h6, h7, h8, h9⟩ := h
  have ha := hW.alike
  exact ⟨va_K.moved ha h1, fun i q hq => (h2 i q hq).warmM hW, fun i q hq => (h3 i q hq).warm hW, h4.moved ha, h5.moved ha, h6.moved ha, h7.moved ha, fun a k => (h8 a k).moved ha, h9⟩
theorem XG.same {E : XE} {u U : State} (hv : U.vm = u.vm) (h : XG E u) : XG E U := by
  obtain ⟨h1, h2, h3, h4, h5, h6, h7, h8, h9⟩ := h
  have ha : u.vm.Alike U.vm := by rw [hv]; exact Vm.Alike.refl _
  exact ⟨va_K.moved ha h1, fun i q hq => va_tabs rfl hv.symm (h2 i q hq), fun i q hq => (h3 i q hq).same hv, h4.moved ha, h5.moved ha, h6.moved ha, h7.moved ha, fun a k => (h8 a k).moved ha, h9⟩
theorem XG.fc {E : XE} {s : State} (h : XG E s) : (eF E).category = 1 := by
  rcases h.2.2.2.2.2.2.2.2.1 with e | ⟨t, e⟩ <;> rw [e] <;> rfl
theorem mvA_or {E : XE} {s : State} (h : XG E s) (x : Nat) : mvA E x = .null ∨ ∃ t, mvA E x = .ref t := by
  unfold mvA
  by_cases e : x = 1000002
  · rw [if_pos e]; exact h.2.2.2.2.2.2.2.2.1
  · rw [if_neg e]; exact Or.inr ⟨_, rfl⟩
/-! locals -/
def XLoc (E : XE) (ls : List Value) (lR : Array Slot) (n : Nat) : Prop := ls.length = n ∧ lR.size = n ∧ lv_wf lR ∧ ∀ (i : Nat) (v : Value), ls[i]? = some v → v ≠ .null → lR[i]? = some (.val (mv E v))
def xas (E : XE) (ls : List Value) : List (Nat × Value) := (List.range ls.length).filterMap fun i => match ls[i]? with
  | some v => if v = .null then none else some (i, mv E v)
  | none => none
theorem xas_mem {E : XE} {ls : List Value} {i : Nat} {w : Value} : (i, w) ∈ xas E ls ↔ ∃ v, ls[i]? = some v ∧ v ≠ .null ∧ w = mv E v := by
  unfold xas
  rw [List.mem_filterMap]
  constructor
  · rintro ⟨j, hj, he⟩
    cases hv : ls[j]? with
    | none => simp [hv] at he
    | some v =>
      simp only [hv] at he
      by_cases hn : v = .null
      · simp [hn] at he
      · simp only [hn, if_false, Option.some.injEq, Prod.mk.injEq] at he
        obtain ⟨rfl, rfl⟩ := he
        exact ⟨v, hv, hn, rfl⟩
  · rintro ⟨v, hv, hn, rfl⟩
    have hl : i < ls.length := (List.getElem?_eq_some_iff.mp hv).1
    exact ⟨i, List.mem_range.mpr hl, by simp [hv, hn]⟩
theorem XLoc.has {E : XE} {ls : List Value} {lR : Array Slot} {n : Nat} (h : XLoc E ls lR n) : lv_has lR n (xas E ls) := by
  refine ⟨h.2.1, h.2.2.1, fun q hq => ?_⟩
  obtain ⟨v, h1, h2, h3⟩ := xas_mem.mp hq
  rw [h3]
  exact h.2.2.2 _ _ h1 h2
theorem XLoc.of {E : XE} {ls : List Value} {lR : Array Slot} {n : Nat} {l : List (Nat × Value)} (hn : ls.length = n) (h : lv_has lR n l) (hm : ∀ i v, ls[i]? = some v → v ≠ .null → (i, mv E v) ∈ l) : XLoc E ls lR n :=
  ⟨hn, h.1, h.2.1, fun i v h1 h2 => h.2.2 _ (hm i v h1 h2)⟩
theorem mv_cat {E : XE} (hF : (eF E).category = 1) (v : Value) : (mv E v).category = v.category := by
  cases v with
  | ref a =>
    show (mvA E a).category = 1
    unfold mvA
    by_cases h : a = 1000002
    · rw [if_pos h, hF]
    · rw [if_neg h]; rfl
  | _ => rfl
theorem xkill_len (ls : List Value) (i : Nat) : (xkill ls i).length = ls.length := by
  unfold xkill
  split
  · rfl
  · split
    · split
      · simp
      · rfl
    · rfl
theorem xkill_get {ls : List Value} {i j : Nat} {v : Value} (h : (xkill ls i)[j]? = some v) (hn : v ≠ .null) : ls[j]? = some v ∧ ¬ (j + 1 = i ∧ v.category = 2) := by
  cases i with
  | zero => exact ⟨h, fun q => by omega⟩
  | succ k =>
    unfold xkill at h
    cases hk : ls[k]? with
    | none =>
      simp only [hk] at h
      refine ⟨h, fun q => ?_⟩
      have e : j = k := by omega
      rw [e] at h
      rw [hk] at h
      cases h
    | some w =>
      simp only [hk] at h
      by_cases hw : w.category = 2
      · rw [if_pos hw] at h
        by_cases e : j = k
        · subst e
          have hl : j < ls.length := (List.getElem?_eq_some_iff.mp hk).1
          rw [List.getElem?_set_self hl] at h
          exact absurd (Option.some.inj h).symm hn
        · rw [List.getElem?_set_ne (Ne.symm e)] at h
          exact ⟨h, fun q => e (by omega)⟩
      · rw [if_neg hw] at h
        refine ⟨h, fun q => ?_⟩
        have e : j = k := by omega
        rw [e, hk] at h
        cases h
        exact hw q.2
theorem xset1_len (ls : List Value) (i : Nat) (v : Value) : (xset1 ls i v).length = ls.length := by
  unfold xset1; rw [List.length_set, xkill_len]
theorem xset2_len (ls : List Value) (i : Nat) (v : Value) : (xset2 ls i v).length = ls.length := by
  unfold xset2; rw [List.length_set, List.length_set, xkill_len]
theorem XLoc.set1 {E : XE} (hF : (eF E).category = 1) {ls : List Value} {lR : Array Slot} {n i : Nat} {v : Value}
    (h : lv_has lR n ((i, mv E v) :: (xas E ls).filter (fun q => !(q.1 == i) && !(q.1 + 1 == i && q.2.category == 2)))) (hn : ls.length = n) (hi : i < n) : XLoc E (xset1 ls i v) lR n := by
  refine XLoc.of (by rw [xset1_len]; exact hn) h ?_
  intro j u hj hu
  unfold xset1 at hj
  by_cases e : j = i
  · subst e
    rw [List.getElem?_set_self (by rw [xkill_len, hn]; exact hi)] at hj
    cases hj
    exact List.mem_cons_self
  · rw [List.getElem?_set_ne (Ne.symm e)] at hj
    obtain ⟨h1, h2⟩ := xkill_get hj hu
    refine List.mem_cons_of_mem _ (List.mem_filter.mpr ⟨xas_mem.mpr ⟨u, h1, hu, rfl⟩, ?_⟩)
    have h3 : ¬ (j + 1 = i ∧ (mv E u).category = 2) := by rw [mv_cat hF]; exact h2
    simp [e]
    omega
theorem XLoc.set2 {E : XE} (hF : (eF E).category = 1) {ls : List Value} {lR : Array Slot} {n i : Nat} {v : Value}
    (h : lv_has lR n ((i, mv E v) :: (xas E ls).filter (fun q => !(q.1 == i) && (!(q.1 == i + 1) && !(q.1 + 1 == i && q.2.category == 2))))) (hn : ls.length = n) (hi : i + 1 < n) : XLoc E (xset2 ls i v) lR n := by
  refine XLoc.of (by rw [xset2_len]; exact hn) h ?_
  intro j u hj hu
  unfold xset2 at hj
  by_cases e1 : j = i + 1
  · subst e1
    rw [List.getElem?_set_self (by rw [List.length_set, xkill_len, hn]; exact hi)] at hj
    exact absurd (Option.some.inj hj).symm hu
  rw [List.getElem?_set_ne (Ne.symm e1)] at hj
  by_cases e : j = i
  · subst e
    rw [List.getElem?_set_self (by rw [xkill_len, hn]; omega)] at hj
    cases hj
    exact List.mem_cons_self
  · rw [List.getElem?_set_ne (Ne.symm e)] at hj
    obtain ⟨h1, h2⟩ := xkill_get hj hu
    refine List.mem_cons_of_mem _ (List.mem_filter.mpr ⟨xas_mem.mpr ⟨u, h1, hu, rfl⟩, ?_⟩)
    have h3 : ¬ (j + 1 = i ∧ (mv E u).category = 2) := by rw [mv_cat hF]; exact h2
    simp [e, e1]
    omega
/-! at a method's entry -/
theorem xflat_sl {E : XE} (hF : (eF E).category = 1) (as : List Value) : (lg_sl (as.map (mv E))).length = (xflat as).length := by
  induction as with
  | nil => rfl
  | cons v t ih =>
    have e : lg_sl ((v :: t).map (mv E)) = (if (mv E v).category = 2 then [.val (mv E v), .second] else [.val (mv E v)]) ++ lg_sl (t.map (mv E)) := by
      simp [lg_sl]
    rw [e, List.length_append, ih, mv_cat hF]
    have e2 : xflat (v :: t) = if v.category = 2 then v :: .null :: xflat t else v :: xflat t := rfl
    rw [e2]
    by_cases h : v.category = 2
    · rw [if_pos h, if_pos h]; simp only [List.length_cons, List.length_nil]; omega
    · rw [if_neg h, if_neg h]; simp only [List.length_cons, List.length_nil]; omega
theorem xflat_args {E : XE} (hF : (eF E).category = 1) : ∀ (as : List Value) (k j : Nat) (v : Value), (xflat as)[j]? = some v → v ≠ .null → (k + j, mv E v) ∈ lv_args k (as.map (mv E)) := by
  intro as
  induction as with
  | nil => intro k j v h; simp [xflat] at h
  | cons w t ih =>
    intro k j v h hv
    have e2 : xflat (w :: t) = if w.category = 2 then w :: .null :: xflat t else w :: xflat t := rfl
    rw [e2] at h
    show (k + j, mv E v) ∈ (k, mv E w) :: lv_args (if (mv E w).category = 2 then k + 2 else k + 1) (t.map (mv E))
    rw [mv_cat hF]
    by_cases hw : w.category = 2
    · rw [if_pos hw] at h ⊢
      match j, h with
      | 0, h => simp at h; subst h; exact List.mem_cons_self
      | 1, h => simp at h; exact absurd h.symm hv
      | j + 2, h =>
        simp at h
        have := ih (k + 2) j v h hv
        rw [show k + (j + 2) = k + 2 + j by omega]
        exact List.mem_cons_of_mem _ this
    · rw [if_neg hw] at h ⊢
      match j, h with
      | 0, h => simp at h; subst h; exact List.mem_cons_self
      | j + 1, h =>
        simp at h
        have := ih (k + 1) j v h hv
        rw [show k + (j + 1) = k + 1 + j by omega]
        exact List.mem_cons_of_mem _ this
theorem XLoc.entry {E : XE} (hF : (eF E).category = 1) {as : List Value} {n : Nat} (h : (xflat as).length ≤ n) :
    XLoc E (xent n as) ((lg_sl (as.map (mv E)) ++ List.replicate (n - (lg_sl (as.map (mv E))).length) Slot.unset).toArray) n := by
  have hl := lv_entry (as.map (mv E)) (n := n) (by rw [xflat_sl hF]; exact h)
  refine XLoc.of ?_ hl ?_
  · unfold xent; rw [List.length_append, List.length_replicate]; omega
  · intro i v hi hv
    unfold xent at hi
    by_cases hlt : i < (xflat as).length
    · rw [List.getElem?_append_left hlt] at hi
      have := xflat_args hF as 0 i v hi hv
      rw [Nat.zero_add] at this
      exact this
    · rw [List.getElem?_append_right (by omega)] at hi
      have := List.mem_of_getElem? hi
      rw [List.mem_replicate] at this
      exact absurd this.2 hv
