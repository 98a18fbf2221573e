/-! heaps of cells, apart from the machine -/
def up1 (f : Int → Int) (i x : Int) : Int → Int := fun j => if j = i then x else f j
def Mem (hp : Int → Int) (sz c : Int) : Prop := ∃ j, 0 ≤ j ∧ j < sz ∧ hp j = c
/-- a heap: its places, its order -/
def Hp (hp sl : Int → Int) (sz n : Int) (val : Int → Int) : Prop := (0 ≤ sz ∧ sz ≤ n) ∧ (∀ j, 0 ≤ j → j < sz → (0 ≤ hp j ∧ hp j < n) ∧ sl (hp j) = j) ∧ ∀ j, 0 < j → j < sz → val (hp ((j - 1) / 2)) ≤ val (hp j)
/-- a heap with a hole at i, where x belongs; 'up': the hole's own edge to its parent may be wrong; 'down': those to its children -/
def HpX (hp sl : Int → Int) (sz n : Int) (val : Int → Int) (i x : Int) (up : Bool) : Prop := (0 ≤ i ∧ (i < sz ∨ i = 0) ∧ 0 ≤ sz ∧ sz ≤ n ∧ 0 ≤ x ∧ x < n) ∧ (∀ j, 0 ≤ j → j < sz → ¬ j = i → (0 ≤ hp j ∧ hp j < n) ∧ sl (hp j) = j ∧ ¬ hp j = x) ∧
  (∀ j, 0 < j → j < sz → ¬ j = i → ¬ (j - 1) / 2 = i → val (hp ((j - 1) / 2)) ≤ val (hp j)) ∧
  (up = true → ∀ j, 0 < j → j < sz → (j - 1) / 2 = i → val x ≤ val (hp j)) ∧ (up = false → 0 < i → i < sz → val (hp ((i - 1) / 2)) ≤ val x) ∧
  (∀ j, 0 < j → j < sz → (j - 1) / 2 = i → 0 < i → val (hp ((i - 1) / 2)) ≤ val (hp j))
section HP
variable {hp sl val : Int → Int} {sz n i x : Int}
theorem up1_at (f : Int → Int) (i x : Int) : up1 f i x i = x := if_pos rfl
theorem up1_ne {f : Int → Int} {i x j : Int} (h : ¬ j = i) : up1 f i x j = f j := if_neg h
theorem par_lt {j : Int} (h : 0 < j) : 0 ≤ (j - 1) / 2 ∧ (j - 1) / 2 < j := by omega
/-- the hole goes up -/
theorem HpX.up (H : HpX hp sl sz n val i x true) (hi : 0 < i) (hs : i < sz) (hv : val x < val (hp ((i - 1) / 2))) : HpX (up1 hp i (hp ((i - 1) / 2))) (up1 sl (hp ((i - 1) / 2)) i) sz n val ((i - 1) / 2) x true := by
  obtain ⟨a, b, c, e, _, f⟩ := H
  have p := par_lt hi
  have e := e rfl
  generalize hu : (i - 1) / 2 = u at *
  have bu := b u (by omega) (by omega) (by omega)
  refine ⟨by omega, fun j j0 j1 j2 => ?_, fun j j0 j1 j2 j3 => ?_, fun _ j j0 j1 j2 => ?_, fun q => absurd q (by decide), fun j j0 j1 j2 j3 => ?_⟩
  · by_cases q : j = i
    · rw [q, up1_at, up1_at]; exact ⟨bu.1, rfl, bu.2.2⟩
    · have bj := b j j0 j1 q
      rw [up1_ne q, up1_ne (fun z => ?_)]
      · exact bj
      · have := bu.2.1; rw [← z, bj.2.1] at this; omega
  · by_cases q : j = i
    · rw [q] at j3; omega
    · rw [up1_ne q]
      by_cases q2 : (j - 1) / 2 = i
      · rw [q2, up1_at]; exact f j j0 j1 q2 hi
      · rw [up1_ne q2]; exact c j j0 j1 q q2
  · by_cases q : j = i
    · rw [q, up1_at]; omega
    · rw [up1_ne q]
      have := c j j0 j1 q (by omega)
      rw [j2] at this; omega
  · rw [up1_ne (show ¬ (u - 1) / 2 = i by omega)]
    have cu := c u (by omega) (by omega) (by omega) (by omega)
    by_cases q : j = i
    · rw [q, up1_at]; exact cu
    · rw [up1_ne q]
      have := c j j0 j1 q (by omega)
      rw [j2] at this; omega
/-- the hole is filled -/
theorem HpX.fill_up (H : HpX hp sl sz n val i x true) (hs : i < sz) (hv : 0 < i → val (hp ((i - 1) / 2)) ≤ val x) : Hp (up1 hp i x) (up1 sl x i) sz n val := by
  obtain ⟨a, b, c, e, _, f⟩ := H
  have e := e rfl
  refine ⟨by omega, fun j j0 j1 => ?_, fun j j0 j1 => ?_⟩
  · by_cases q : j = i
    · rw [q, up1_at, up1_at]; exact ⟨by omega, rfl⟩
    · have bj := b j j0 j1 q
      rw [up1_ne q, up1_ne bj.2.2]
      exact ⟨bj.1, bj.2.1⟩
  · by_cases q : j = i
    · subst q
      rw [up1_at, up1_ne (by omega)]; exact hv j0
    · rw [up1_ne q]
      by_cases q2 : (j - 1) / 2 = i
      · rw [q2, up1_at]; exact e j j0 j1 q2
      · rw [up1_ne q2]; exact c j j0 j1 q q2
/-- the hole goes down, to the lesser child -/
theorem HpX.down {b : Int} (H : HpX hp sl sz n val i x false) (hb : (b = 2 * i + 1 ∨ b = 2 * i + 2) ∧ b < sz) (hm : ∀ j, 0 < j → j < sz → (j - 1) / 2 = i → val (hp b) ≤ val (hp j)) (hv : val (hp b) < val x) : HpX (up1 hp i (hp b)) (up1 sl (hp b) i) sz n val b x false := by
  obtain ⟨a, q, c, _, e, f⟩ := H
  have e := e rfl
  have bb := q b (by omega) (by omega) (by omega)
  refine ⟨by omega, fun j j0 j1 j2 => ?_, fun j j0 j1 j2 j3 => ?_, fun z => absurd z (by decide), fun _ b0 b1 => ?_, fun j j0 j1 j2 j3 => ?_⟩
  · by_cases z : j = i
    · rw [z, up1_at, up1_at]; exact ⟨bb.1, rfl, bb.2.2⟩
    · have bj := q j j0 j1 z
      rw [up1_ne z, up1_ne (fun w => ?_)]
      · exact bj
      · have := bb.2.1; rw [← w, bj.2.1] at this; omega
  · by_cases z : j = i
    · rw [z, up1_at, up1_ne (by omega)]
      exact f b (by omega) hb.2 (by omega) (by omega)
    · rw [up1_ne z]
      by_cases z2 : (j - 1) / 2 = i
      · rw [z2, up1_at]; exact hm j j0 j1 z2
      · rw [up1_ne z2]; exact c j j0 j1 z z2
  · rw [show (b - 1) / 2 = i by omega, up1_at]; omega
  · rw [show (b - 1) / 2 = i by omega, up1_at, up1_ne (show ¬ j = i by omega)]
    have := c j j0 j1 (by omega) (by omega)
    rw [j2] at this; exact this
theorem HpX.fill_down (H : HpX hp sl sz n val i x false) (hm : ∀ j, 0 < j → j < sz → (j - 1) / 2 = i → val x ≤ val (hp j)) : Hp (up1 hp i x) (up1 sl x i) sz n val := by
  obtain ⟨a, b, c, _, e, f⟩ := H
  have e := e rfl
  refine ⟨by omega, fun j j0 j1 => ?_, fun j j0 j1 => ?_⟩
  · by_cases q : j = i
    · rw [q, up1_at, up1_at]; exact ⟨by omega, rfl⟩
    · have bj := b j j0 j1 q
      rw [up1_ne q, up1_ne bj.2.2]
      exact ⟨bj.1, bj.2.1⟩
  · by_cases q : j = i
    · subst q
      rw [up1_at, up1_ne (by omega)]; exact e j0 j1
    · rw [up1_ne q]
      by_cases q2 : (j - 1) / 2 = i
      · rw [q2, up1_at]; exact hm j j0 j1 q2
      · rw [up1_ne q2]; exact c j j0 j1 q q2
theorem Hp.least (H : Hp hp sl sz n val) : ∀ (N : Nat) (j : Int), 0 ≤ j → j < N → j < sz → val (hp 0) ≤ val (hp j) := by
  intro N
  induction N with
  | zero => intro j a b; omega
  | succ N ih =>
    intro j a b c
    by_cases q : j = 0
    · rw [q]; exact Int.le_refl _
    · have := ih ((j - 1) / 2) (by omega) (by omega) (by omega)
      have := H.2.2 j (by omega) c
      omega
/-- a new one, or one whose value fell: a hole at its place -/
theorem Hp.addX (H : Hp hp sl sz n val) (hx : 0 ≤ x ∧ x < n) (hsz : sz < n) (hn : ¬ Mem hp sz x) : HpX hp sl (sz + 1) n val sz x true := by
  obtain ⟨a, b, c⟩ := H
  refine ⟨by omega, fun j j0 j1 j2 => ?_, fun j j0 j1 j2 j3 => ?_, fun _ j j0 j1 j2 => by omega, fun q => absurd q (by decide), fun j j0 j1 j2 j3 => by omega⟩
  · have bj := b j j0 (by omega)
    exact ⟨bj.1, bj.2, fun z => hn ⟨j, j0, by omega, z⟩⟩
  · exact c j j0 (by omega)
theorem Hp.lowX {val' : Int → Int} (H : Hp hp sl sz n val) (i0 : 0 ≤ i) (i1 : i < sz) (hx : hp i = x) (hle : ∀ c, 0 ≤ c → c < n → ¬ c = x → val' c = val c) (hlx : val' x ≤ val x) : HpX hp sl sz n val' i x true := by
  obtain ⟨a, b, c⟩ := H
  have bi := b i i0 i1
  rw [hx] at bi
  have ne : ∀ j, 0 ≤ j → j < sz → ¬ j = i → ¬ hp j = x := fun j j0 j1 j2 z => by
    have := (b j j0 j1).2; rw [z, bi.2] at this; omega
  have ev : ∀ j, 0 ≤ j → j < sz → ¬ j = i → val' (hp j) = val (hp j) := fun j j0 j1 j2 => hle _ (b j j0 j1).1.1 (b j j0 j1).1.2 (ne j j0 j1 j2)
  refine ⟨by omega, fun j j0 j1 j2 => ⟨(b j j0 j1).1, (b j j0 j1).2, ne j j0 j1 j2⟩, fun j j0 j1 j2 j3 => ?_, fun _ j j0 j1 j2 => ?_, fun q => absurd q (by decide), fun j j0 j1 j2 j3 => ?_⟩
  · rw [ev j (by omega) j1 j2, ev _ (by omega) (by omega) j3]; exact c j j0 j1
  · rw [ev j (by omega) j1 (by omega)]
    have := c j j0 j1
    rw [j2, hx] at this; omega
  · rw [ev j (by omega) j1 (by omega), ev _ (by omega) (by omega) (by omega)]
    have c1 := c j j0 j1
    have c2 := c i j3 i1
    rw [j2] at c1; omega
/-- the least is taken: a hole at the top for the last -/
theorem Hp.takeX (H : Hp hp sl sz n val) (h0 : 0 < sz) : HpX hp sl (sz - 1) n val 0 (hp (sz - 1)) false := by
  obtain ⟨a, b, c⟩ := H
  have bl := b (sz - 1) (by omega) (by omega)
  refine ⟨by omega, fun j j0 j1 j2 => ?_, fun j j0 j1 j2 j3 => c j j0 (by omega), fun q => absurd q (by decide), fun _ z => by omega, fun j j0 j1 j2 j3 => by omega⟩
  have bj := b j j0 (by omega)
  exact ⟨bj.1, bj.2, fun z => by have := bl.2; rw [← z, bj.2] at this; omega⟩
/-- who is in it -/
theorem Mem.fill {c : Int} (hi : 0 ≤ i ∧ i < sz) : Mem (up1 hp i x) sz c ↔ c = x ∨ ∃ j, 0 ≤ j ∧ j < sz ∧ ¬ j = i ∧ hp j = c := by
  constructor
  · rintro ⟨j, j0, j1, j2⟩
    by_cases q : j = i
    · rw [q, up1_at] at j2; exact Or.inl j2.symm
    · rw [up1_ne q] at j2; exact Or.inr ⟨j, j0, j1, q, j2⟩
  · rintro (q | ⟨j, j0, j1, j2, j3⟩)
    · exact ⟨i, hi.1, hi.2, by rw [up1_at, q]⟩
    · exact ⟨j, j0, j1, by rw [up1_ne j2]; exact j3⟩
/-- the others, beside a hole -/
def MemX (hp : Int → Int) (sz i c : Int) : Prop := ∃ j, 0 ≤ j ∧ j < sz ∧ ¬ j = i ∧ hp j = c
theorem MemX.move {u c : Int} (hi : 0 ≤ i ∧ i < sz) (hu : 0 ≤ u ∧ u < sz) (hne : ¬ u = i) : MemX (up1 hp i (hp u)) sz u c ↔ MemX hp sz i c := by
  constructor
  · rintro ⟨j, j0, j1, j2, j3⟩
    by_cases q : j = i
    · rw [q, up1_at] at j3; exact ⟨u, hu.1, hu.2, hne, j3⟩
    · rw [up1_ne q] at j3; exact ⟨j, j0, j1, q, j3⟩
  · rintro ⟨j, j0, j1, j2, j3⟩
    by_cases q : j = u
    · exact ⟨i, hi.1, hi.2, fun z => hne z.symm, by rw [up1_at, ← q]; exact j3⟩
    · exact ⟨j, j0, j1, q, by rw [up1_ne j2]; exact j3⟩
end HP
