/-! values spread backwards, apart from the machine -/
def cvv (x : Int) : Int := if 1000000000000000 ≤ x then 1152921504606846976 else x
def cntT (rm : Int → Bool) : Nat → Nat
  | 0 => 0
  | n + 1 => cntT rm n + if rm n = true then 1 else 0
theorem cntT_le (rm : Int → Bool) (n : Nat) : cntT rm n ≤ n := by
  induction n with
  | zero => exact Nat.le_refl _
  | succ n ih => unfold cntT; split <;> omega
theorem cntT_all {rm : Int → Bool} {n : Nat} (h : cntT rm n = n) : ∀ c : Int, 0 ≤ c → c < n → rm c = true := by
  induction n with
  | zero => intro c a b; omega
  | succ n ih =>
    unfold cntT at h
    have l := cntT_le rm n
    by_cases q : rm n = true
    · rw [if_pos q] at h
      intro c a b
      by_cases z : c = n
      · rw [z]; exact q
      · exact ih (by omega) c a (by omega)
    · rw [if_neg q] at h; omega
def upB (rm : Int → Bool) (x : Int) : Int → Bool := fun c => if c = x then true else rm c
theorem cntT_congr {rm rm' : Int → Bool} {n : Nat} (h : ∀ c : Int, 0 ≤ c → c < n → rm c = rm' c) : cntT rm n = cntT rm' n := by
  induction n with
  | zero => rfl
  | succ n ih => unfold cntT; rw [ih (fun c a b => h c a (by omega)), h n (by omega) (by omega)]
theorem cntT_add {rm : Int → Bool} {x : Int} {n : Nat} (h0 : 0 ≤ x) (h1 : x < n) (hx : rm x = false) : cntT (upB rm x) n = cntT rm n + 1 := by
  induction n with
  | zero => omega
  | succ n ih =>
    unfold cntT
    by_cases q : x = n
    · have e1 : upB rm x n = true := by unfold upB; rw [if_pos q.symm]
      rw [e1, if_pos rfl, cntT_congr (rm := upB rm x) (rm' := rm) (fun c a b => by unfold upB; rw [if_neg (by omega)])]
      rw [q] at hx
      rw [hx, if_neg (by decide)]
    · have e1 : upB rm x n = rm n := by unfold upB; rw [if_neg (fun z => q z.symm)]
      rw [e1, ih (by omega)]; omega
section DJ
variable {P : XP} {V : Int → Int → Int} {s T x b : Int} {val hp sl : Int → Int} {rm : Int → Bool} {sz : Int}
/-- rows on the way: what is removed is final -/
def DjV (P : XP) (V : Int → Int → Int) (s : Int) (val : Int → Int) (rm : Int → Bool) (T : Int) : Prop := (∀ c, 0 ≤ c → c < P.n → 0 ≤ val c ∧ (val c = 1152921504606846976 ∨ val c ≤ 400000000000000 + 600000000000 * T)) ∧ (∀ c, 0 ≤ c → c < P.n → P.bd s c = true → val c = cvv (P.bv V s c)) ∧
  (∀ c, 0 ≤ c → c < P.n → P.bd s c = false → val c = 1152921504606846976 ∨ ∃ i, 0 ≤ i ∧ i < 4 ∧ 0 < P.tl s c i ∧ rm (P.nx c i) = true ∧ val c = val (P.nx c i) + P.sc s * P.tl s c i) ∧
  ∀ y, rm y = true → (0 ≤ y ∧ y < P.n) ∧ val y < 1152921504606846976
/-- from what is removed all was offered; from x by the ways before b only -/
def DjC (P : XP) (s : Int) (val : Int → Int) (rm : Int → Bool) (x b : Int) : Prop := ∀ y, rm y = true → ∀ c i, 0 ≤ c → c < P.n → P.bd s c = false → 0 ≤ i → i < 4 → 0 < P.tl s c i → P.nx c i = y → (y = x → rv i < b) → val c ≤ val y + P.sc s * P.tl s c i
/-- the heap holds what is reached and not removed -/
def DjM (P : XP) (val : Int → Int) (rm : Int → Bool) (hp sl : Int → Int) (sz : Int) : Prop := (∀ c, 0 ≤ c → c < P.n → val c < 1152921504606846976 → rm c = true ∨ Mem hp sz c) ∧ (∀ c, Mem hp sz c → (0 ≤ c ∧ c < P.n) ∧ val c < 1152921504606846976 ∧ rm c = false) ∧ (∀ y c, rm y = true → Mem hp sz c → val y ≤ val c) ∧ ∀ c, 0 ≤ c → c < P.n → ¬ Mem hp sz c → rm c = false → sl c = -1
theorem DjV.done (hP : P.ok) (hV : Sol P V) (hs : St P s) (hT : 0 ≤ T ∧ T ≤ 100) (D : DjV P V s val rm T) (C : DjC P s val rm (-1) 0) (hf : ∀ c, 0 ≤ c → c < P.n → val c < 1152921504606846976 → rm c = true) : ∀ c, 0 ≤ c → c < P.n → val c = cvv (V s c) := by
  obtain ⟨d1, d2, d3, d4⟩ := D
  have hN := XP.nice hP hs (fun s' q1 q2 => (hV s' q2).2)
  have o := hP.1
  have fin : ∀ c, 0 ≤ c → c < P.n → val c < 1152921504606846976 → val c < 1000000000000000 := fun c a b q => by have := d1 c a b; omega
  have conv : ∀ c, 0 ≤ c → c < P.n → ((if 1152921504606846976 ≤ val c then 1000000000000000 else val c) < 1000000000000000 ↔ val c < 1152921504606846976) := fun c a b => by
    have := d1 c a b
    split <;> omega
  have I : RowI P V s (fun c => if 1152921504606846976 ≤ val c then 1000000000000000 else val c) := by
    refine ⟨fun c a b => ?_, fun c a b q => ?_, fun c a b q => ?_⟩
    · have := d1 c a b
      dsimp only
      split <;> omega
    · dsimp only
      have z := hN.2 c a (by omega) q
      rw [d2 c a b q]
      unfold cvv
      by_cases w : 1000000000000000 ≤ P.bv V s c
      · rw [if_pos w, if_pos (by decide)]; omega
      · rw [if_neg w, if_neg (by omega)]
    · rcases d3 c a b q with z | ⟨i, i0, i1, i2, i3, i4⟩
      · left; dsimp only; rw [z]; rfl
      · have r := d4 _ i3
        have fc := fin _ r.1.1 r.1.2 r.2
        by_cases w : 1152921504606846976 ≤ val c
        · left; dsimp only; rw [if_pos w]
        · right
          refine ⟨i, i0, i1, i2, (conv _ r.1.1 r.1.2).mpr r.2, ?_⟩
          dsimp only
          rw [if_neg w, if_neg (by omega)]; omega
  have dn := RowI.done hP hV hs I (fun c a b q i i0 i1 i2 i3 => by
    have t := (hP.2.2.2.1 s c i a b i0 i1 i2).2
    have r := (conv _ t.1 t.2).mp i3
    have := C _ (hf _ t.1 t.2 r) c i a b q i0 i1 i2 rfl (fun z => by omega)
    have fc := fin _ t.1 t.2 r
    rw [if_neg (show ¬ 1152921504606846976 ≤ val (P.nx c i) by omega)]
    split
    · omega
    · exact this)
  intro c a b
  have e := dn c a b
  unfold cvv
  rw [← e]
  have := d1 c a b
  by_cases w : 1152921504606846976 ≤ val c
  · rw [if_pos w, if_pos (by decide)]; omega
  · rw [if_neg w, if_neg (by omega)]
/-- the least is removed -/
theorem DjM.take {hp' sl' : Int → Int} {n : Int} (M : DjM P val rm hp sl sz) (H : Hp hp sl sz n val) (h0 : 0 < sz) (hm : ∀ c, Mem hp' (sz - 1) c ↔ (Mem hp sz c ∧ ¬ c = hp 0)) (hsl : ∀ c, ¬ c = hp 0 → ¬ Mem hp' (sz - 1) c → sl' c = sl c) : DjM P val (upB rm (hp 0)) hp' sl' (sz - 1) := by
  obtain ⟨m1, m2, m3, m4⟩ := M
  have top : Mem hp sz (hp 0) := ⟨0, by omega, h0, rfl⟩
  refine ⟨fun c a b q => ?_, fun c q => ?_, fun y c q1 q2 => ?_, fun c a b q1 q2 => ?_⟩
  · unfold upB
    by_cases z : c = hp 0
    · left; rw [if_pos z]
    · rw [if_neg z]
      rcases m1 c a b q with w | w
      · left; exact w
      · right; exact (hm c).mpr ⟨w, z⟩
  · have w := (hm c).mp q
    have := m2 c w.1
    unfold upB
    rw [if_neg w.2]
    exact this
  · have w := (hm c).mp q2
    obtain ⟨j, j0, j1, j2⟩ := w.1
    have l := H.least (j.toNat + 1) j j0 (by omega) j1
    rw [j2] at l
    unfold upB at q1
    by_cases z : y = hp 0
    · rw [z]; exact l
    · rw [if_neg z] at q1; exact m3 y c q1 w.1
  · unfold upB at q2
    by_cases z : c = hp 0
    · rw [if_pos z] at q2; exact absurd q2 (by decide)
    · rw [if_neg z] at q2
      rw [hsl c z q1]
      exact m4 c a b (fun w => q1 ((hm c).mpr ⟨w, z⟩)) q2
theorem DjV.take (D : DjV P V s val rm T) (hx : (0 ≤ x ∧ x < P.n) ∧ val x < 1152921504606846976) (hT : 0 ≤ T) : DjV P V s val (upB rm x) (T + 1) := by
  obtain ⟨d1, d2, d3, d4⟩ := D
  refine ⟨fun c a b => ?_, d2, fun c a b q => ?_, fun y q => ?_⟩
  · have := d1 c a b; omega
  · rcases d3 c a b q with z | ⟨i, i0, i1, i2, i3, i4⟩
    · left; exact z
    · right
      refine ⟨i, i0, i1, i2, ?_, i4⟩
      unfold upB
      split
      · rfl
      · exact i3
  · unfold upB at q
    by_cases z : y = x
    · rw [z]; exact hx
    · rw [if_neg z] at q; exact d4 y q
theorem DjC.take (C : DjC P s val rm (-1) 0) (hr : ∀ y, rm y = true → 0 ≤ y) : DjC P s val (upB rm x) x 0 := by
  intro y hy c i c0 c1 c2 i0 i1 i2 i3 i4
  by_cases z : y = x
  · have := i4 z
    have := rv_in (way := i) ⟨i0, i1⟩
    omega
  · unfold upB at hy
    rw [if_neg z] at hy
    have := hr y hy
    exact C y hy c i c0 c1 c2 i0 i1 i2 i3 (fun w => by omega)
theorem DjC.end (C : DjC P s val rm x 4) : DjC P s val rm (-1) 0 := by
  intro y hy c i c0 c1 c2 i0 i1 i2 i3 i4
  have := rv_in (way := i) ⟨i0, i1⟩
  exact C y hy c i c0 c1 c2 i0 i1 i2 i3 (fun _ => by omega)
/-- each step has its way back -/
def Back (P : XP) : Prop := ∀ s c i, 0 ≤ c → c < P.n → 0 ≤ i → i < 4 → 0 < P.tl s c i → P.nx (P.nx c i) (rv i) = c
theorem DjC.next (hB : Back P) (C : DjC P s val rm x b) (hb : 0 ≤ b ∧ b < 4) (hc : ∀ c, c = P.nx x b → 0 ≤ c → c < P.n → P.bd s c = false → 0 < P.tl s c (rv b) → P.nx c (rv b) = x → val c ≤ val x + P.sc s * P.tl s c (rv b)) : DjC P s val rm x (b + 1) := by
  intro y hy c i c0 c1 c2 i0 i1 i2 i3 i4
  have ri := rv_in (way := i) ⟨i0, i1⟩
  by_cases z : y = x ∧ rv i = b
  · have e : c = P.nx x b := by
      have := hB s c i c0 c1 i0 i1 i2
      rw [i3, z.1, z.2] at this; exact this.symm
    have e2 : i = rv b := by rw [← z.2]; exact ri.2.2.symm
    rw [e2] at i2 i3 ⊢
    rw [z.1] at i3 ⊢
    exact hc c e c0 c1 c2 i2 i3
  · exact C y hy c i c0 c1 c2 i0 i1 i2 i3 (fun w => by have := i4 w; have : ¬ rv i = b := fun q => z ⟨w, q⟩; omega)
theorem DjV.offer {c w v : Int} (D : DjV P V s val rm T) (hx : rm x = true) (hc : 0 ≤ c ∧ c < P.n) (hi : P.bd s c = false) (hr : rm c = false) (hw : 0 ≤ w ∧ w < 4) (ht : 0 < P.tl s c w) (hn : P.nx c w = x) (hv : v = val x + P.sc s * P.tl s c w) (hb : 0 ≤ v ∧ v ≤ 400000000000000 + 600000000000 * T) : DjV P V s (up1 val c v) rm T := by
  obtain ⟨d1, d2, d3, d4⟩ := D
  have ne : ∀ y, rm y = true → ¬ y = c := fun y q z => by rw [z, hr] at q; exact absurd q (by decide)
  refine ⟨fun k a b => ?_, fun k a b q => ?_, fun k a b q => ?_, fun y q => ?_⟩
  · unfold up1; split
    · exact ⟨hb.1, Or.inr hb.2⟩
    · exact d1 k a b
  · rw [up1_ne (fun z => by rw [z, hi] at q; exact absurd q (by decide))]; exact d2 k a b q
  · by_cases z : k = c
    · right
      rw [z, up1_at]
      exact ⟨w, hw.1, hw.2, ht, by rw [hn]; exact hx, by rw [hn, up1_ne (ne x hx)]; exact hv⟩
    · rw [up1_ne z]
      rcases d3 k a b q with e | ⟨i, i0, i1, i2, i3, i4⟩
      · exact Or.inl e
      · exact Or.inr ⟨i, i0, i1, i2, i3, by rw [up1_ne (ne _ i3)]; exact i4⟩
  · rw [up1_ne (ne y q)]; exact d4 y q
theorem DjC.offer {c v : Int} (hB : Back P) (C : DjC P s val rm x b) (hb : 0 ≤ b ∧ b < 4) (hc : c = P.nx x b) (hr : rm c = false) (hv : v = val x + P.sc s * P.tl s c (rv b)) (hl : v < val c) : DjC P s (up1 val c v) rm x (b + 1) := by
  intro y hy k i c0 c1 c2 i0 i1 i2 i3 i4
  have ri := rv_in (way := i) ⟨i0, i1⟩
  have ny : ¬ y = c := fun z => by rw [z, hr] at hy; exact absurd hy (by decide)
  rw [up1_ne ny]
  by_cases z : y = x ∧ rv i = b
  · have e : k = P.nx x b := by
      have := hB s k i c0 c1 i0 i1 i2
      rw [i3, z.1, z.2] at this; exact this.symm
    have e2 : i = rv b := by rw [← z.2]; exact ri.2.2.symm
    rw [e, ← hc, up1_at, e2, z.1, hv]
    exact Int.le_refl _
  · have old := C y hy k i c0 c1 c2 i0 i1 i2 i3 (fun w => by have := i4 w; have : ¬ rv i = b := fun q => z ⟨w, q⟩; omega)
    by_cases w : k = c
    · rw [w, up1_at]; rw [w] at old; omega
    · rw [up1_ne w]; exact old
theorem DjM.offer {c v sz' : Int} {hp' sl' : Int → Int} (M : DjM P val rm hp sl sz) (hc : 0 ≤ c ∧ c < P.n) (hr : rm c = false) (hv : v < 1152921504606846976) (hle : ∀ y, rm y = true → val y ≤ v) (hm : ∀ z, Mem hp' sz' z ↔ (z = c ∨ Mem hp sz z)) (hsl : ∀ z, ¬ Mem hp' sz' z → sl' z = sl z) : DjM P (up1 val c v) rm hp' sl' sz' := by
  obtain ⟨m1, m2, m3, m4⟩ := M
  have ne : ∀ y, rm y = true → ¬ y = c := fun y q z => by rw [z, hr] at q; exact absurd q (by decide)
  refine ⟨fun k a b q => ?_, fun k q => ?_, fun y k q1 q2 => ?_, fun k a b q1 q2 => ?_⟩
  · by_cases z : k = c
    · right; exact (hm k).mpr (Or.inl z)
    · rw [up1_ne z] at q
      rcases m1 k a b q with w | w
      · exact Or.inl w
      · exact Or.inr ((hm k).mpr (Or.inr w))
  · by_cases z : k = c
    · rw [z, up1_at]; exact ⟨hc, hv, hr⟩
    · rcases (hm k).mp q with w | w
      · exact absurd w z
      · rw [up1_ne z]; exact m2 k w
  · rw [up1_ne (ne y q1)]
    by_cases z : k = c
    · rw [z, up1_at]; exact hle y q1
    · rw [up1_ne z]
      rcases (hm k).mp q2 with w | w
      · exact absurd w z
      · exact m3 y k q1 w
  · rw [hsl k q1]
    exact m4 k a b (fun w => q1 ((hm k).mpr (Or.inr w))) q2
/-- who is in the heap behind a lift -/
theorem memX_new {c : Int} : MemX hp (sz + 1) sz c ↔ Mem hp sz c := by
  constructor
  · rintro ⟨j, j0, j1, j2, j3⟩; exact ⟨j, j0, by omega, j3⟩
  · rintro ⟨j, j0, j1, j3⟩; exact ⟨j, j0, by omega, by omega, j3⟩
theorem memX_old {n i c : Int} (H : Hp hp sl sz n val) (hi : 0 ≤ i ∧ i < sz) (hx : hp i = x) : (c = x ∨ MemX hp sz i c) ↔ (c = x ∨ Mem hp sz c) := by
  constructor
  · rintro (q | ⟨j, j0, j1, j2, j3⟩)
    · exact Or.inl q
    · exact Or.inr ⟨j, j0, j1, j3⟩
  · rintro (q | ⟨j, j0, j1, j3⟩)
    · exact Or.inl q
    · by_cases z : j = i
      · left; rw [← j3, z, hx]
      · exact Or.inr ⟨j, j0, j1, z, j3⟩
end DJ
