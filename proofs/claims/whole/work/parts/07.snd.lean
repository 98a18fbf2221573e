/-! one instruction of the small machine is one of the machine -/
def xTG : List Cond := lw_tbl.filter goodWord
/-- what stands while a method's body is walked -/
def XCtx (E : XE) (y : YM) (p : Program) (s : State) (m : MethodId) (args : Array Value) (meth : Method) (c : Code) : Prop :=
  p.tables.exec = Jvm.exec ∧ c.code = y.2.1 ∧ c.maxLocals = y.2.2.1 ∧ s.vm.findClass y.1.cls = some m.cls ∧ (∀ w ∈ xTG, w.before args s = true) ∧ meth.name = y.1.name ∧ XG E s
def xtyc : FieldType → Nat
  | .int => 0
  | .boolean => 3
  | .long => 1
  | .object _ => 2
  | .array _ => 2
  | _ => 9
/-- what the tables must hold: by program, behind all this -/
def XHyp : Prop := (∀ w ∈ xpl, w ∈ xTG) ∧ (∀ q ∈ xtm, q.2.all (xok q.1) = true) ∧
  (∀ (ci : Nat) (q : vw_C), vwCl[ci]? = some q → (∀ w ∈ u_ws q.1 q.2.1 q.2.2, w ∈ xTG) ∧ Cond.initialized q.1 ∈ xTG ∧ Cond.instantiable q.1 q.2.2 ∈ xTG ∧
    (∃ ty : Nat → FieldType, (∀ k, k < q.2.2 → parseFieldDescriptor (q.2.1 k).2.2.1 = some (ty k)) ∧ ∀ k, k < q.2.2 → xtyc (ty k) = xtc (q.2.1 k).2.2.1) ∧ (∀ a, a < q.2.2 → ∀ b, b < q.2.2 → a ≠ b → (q.2.1 a).2.1 ≠ (q.2.1 b).2.1)) ∧
  (Cond.arrayClass .int ∈ xTG ∧ Cond.arrayClass .byte ∈ xTG ∧ Cond.arrayClass .boolean ∈ xTG ∧ Cond.arrayClass .long ∈ xTG) ∧
  (Cond.instanceMethod objectInit ∈ xTG ∧ Cond.code objectInit ⟨#[0xb1]⟩ 1 none ∈ xTG) ∧
  (Cond.native arraycopyName ∈ xTG ∧ Cond.static arraycopyName ∈ xTG ∧ Cond.initialized "java/lang/System" ∈ xTG)
/-- and of the methods -/
def XHypM : Prop := ∀ q ∈ xtm, q.1.1.cls ≠ "SoftWheelsLaw" → xmok q.1 = true ∧ Cond.code q.1.1 q.1.2.1 q.1.2.2.1 q.1.2.2.2.1 ∈ xTG
theorem xrow_in {m pc : Nat} {r : XRow} (h : xrow m pc = some r) : ∃ q, xtm[m]? = some q ∧ (pc, r) ∈ q.2 := by
  unfold xrow at h
  cases hq : xtm[m]? with
  | none => rw [hq] at h; cases h
  | some q =>
    rw [hq] at h
    simp only [Option.map_eq_some_iff] at h
    obtain ⟨z, hz, he⟩ := h
    have h1 := List.mem_of_find?_eq_some hz
    have h2 := List.find?_some hz
    simp at h2
    refine ⟨q, rfl, ?_⟩
    have e : z = (pc, r) := by rw [← he, ← h2]
    rw [← e]; exact h1
theorem xrow_ok (X : XHyp) {m pc : Nat} {r : XRow} (h : xrow m pc = some r) : ∃ q, xtm[m]? = some q ∧ xok q.1 (pc, r) = true := by
  obtain ⟨q, h1, h2⟩ := xrow_in h
  exact ⟨q, h1, List.all_eq_true.mp (X.2.1 q (List.mem_of_getElem? h1)) _ h2⟩
theorem xisW_in (X : XHyp) {i : Nat} {w : Cond} (h : xisW i w = true) : w ∈ xTG := by
  unfold xisW at h
  exact X.1 w (List.mem_of_getElem? (of_decide_eq_true h))
theorem gN_sI (h : XH) (a j : Nat) (v : Int32) : gN (sI h a j v) = gN h := rfl
theorem gN_sL (h : XH) (a j : Nat) (v : Int64) : gN (sL h a j v) = gN h := rfl
theorem gN_sR (h : XH) (a j : Nat) (v : Nat) : gN (sR h a j v) = gN h := rfl
/-- another cell was written: this one is as before -/
theorem XA.keep {E : XE} {h h' : XH} {H H' : Heap} {a : Nat} (hA : XA E h H a) (hH : H'[eB E + a]? = H[eB E + a]?) (hk : gK h' a = gK h a) (hz : gZ h' a = gZ h a) (hi : ∀ j, gI h' a j = gI h a j) (hl : ∀ j, gL h' a j = gL h a j) (hr : ∀ j, gR h' a j = gR h a j) : XA E h' H' a := by
  obtain ⟨h1, h2, h3, h4, h5, h6, h7⟩ := hA
  have ei : (fun j => Value.int (gI h' a j)) = fun j => Value.int (gI h a j) := funext fun j => by rw [hi]
  have el : (fun j => Value.long (gL h' a j)) = fun j => Value.long (gL h a j) := funext fun j => by rw [hl]
  have er : (fun j => rvA E (gR h' a j)) = fun j => rvA E (gR h a j) := funext fun j => by rw [hr]
  refine ⟨?_, ?_, ?_, ?_, ?_, ?_, by rw [hk]; exact h7⟩
  · intro k; rw [hk] at k; rw [hH, hz, ei]; exact h1 k
  · intro k; rw [hk] at k; rw [hH, hz, ei]; exact h2 k
  · intro k; rw [hk] at k; rw [hH, hz, ei]; exact h3 k
  · intro k; rw [hk] at k; rw [hH, hz, el]; exact h4 k
  · intro k; rw [hk] at k; rw [hH, hz, er]; exact h5 k
  · intro ci q k hq
    rw [hk] at k
    refine ((h6 ci q k hq).kept hH).to (fun j _ => ?_)
    show xfv E h a _ j = xfv E h' a _ j
    unfold xfv
    rw [hi, hl, hr]
/-- one cell below gN was written -/
theorem XRel.put {E : XE} {h h' : XH} {H H' : Heap} {a : Nat} (hR : XRel E h H) (ha : a < gN h) (hsz : H'.size = H.size) (ho : ∀ q, q ≠ eB E + a → H'[q]? = H[q]?)
    (hN : gN h' = gN h) (hk : ∀ a, gK h' a = gK h a) (hz : ∀ a, gZ h' a = gZ h a) (hi : ∀ a' j, a' ≠ a → gI h' a' j = gI h a' j) (hl : ∀ a' j, a' ≠ a → gL h' a' j = gL h a' j) (hr : ∀ a' j, a' ≠ a → gR h' a' j = gR h a' j)
    (hnew : XA E h' H' a) (ha0 : a ≠ 0) : XRel E h' H' := by
  obtain ⟨r1, r2, r3, r4, r5, r6⟩ := hR
  refine ⟨by rw [hsz, hN]; exact r1, ⟨by rw [hN]; exact r2.1, by rw [hk]; exact r2.2.1, by rw [hN]; exact r2.2.2⟩, fun q hq => ?_, fun a' ha' => ?_, fun a' h1 h2 => ?_, fun a' h1 => ?_⟩
  · rw [ho q (by omega)]; exact r3 q hq
  · rw [hN] at ha'
    by_cases e : a' = a
    · rw [e]; exact hnew
    · exact (r4 a' ha').keep (ho _ (by omega)) (hk a') (hz a') (fun j => hi a' j e) (fun j => hl a' j e) (fun j => hr a' j e)
  · rw [hk]; exact r5 a' (by rw [← hN]; exact h1) h2
  · have e : a' ≠ a := by omega
    rw [hk, hz]
    refine ⟨(r6 a' h1).1, fun j => ?_⟩
    rw [hi a' j e, hr a' j e]
    exact (r6 a' h1).2 j
