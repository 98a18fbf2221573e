/-! shortest ways: one solution, and there is one -/
section FX
variable {n : Nat} {bd : Int → Bool} {f f' : Int → Int} {nx co : Int → Int → Int} {v u : Int → Int}
/-- the least over the first k ways -/
def lowK (nx co : Int → Int → Int) (v : Int → Int) (c : Int) : Nat → Int
  | 0 => 1000000000000000
  | k + 1 => if 0 < co c k ∧ v (nx c k) < 1000000000000000 ∧ v (nx c k) + co c k < lowK nx co v c k then v (nx c k) + co c k else lowK nx co v c k
theorem lowK_le (c : Int) (k : Nat) : lowK nx co v c k ≤ 1000000000000000 := by
  induction k with
  | zero => exact Int.le_refl _
  | succ k ih =>
    unfold lowK
    split
    · omega
    · exact ih
theorem lowK_way (c : Int) (k : Nat) : lowK nx co v c k = 1000000000000000 ∨ ∃ w : Int, 0 ≤ w ∧ w < k ∧ 0 < co c w ∧ v (nx c w) < 1000000000000000 ∧ lowK nx co v c k = v (nx c w) + co c w := by
  induction k with
  | zero => exact Or.inl rfl
  | succ k ih =>
    unfold lowK
    split
    · rename_i q
      exact Or.inr ⟨k, by omega, by omega, q.1, q.2.1, rfl⟩
    · rcases ih with e | ⟨w, a, b, c1, c2, c3⟩
      · exact Or.inl e
      · exact Or.inr ⟨w, a, by omega, c1, c2, c3⟩
theorem lowK_all (c : Int) (k : Nat) : ∀ w : Int, 0 ≤ w → w < k → 0 < co c w → v (nx c w) < 1000000000000000 → lowK nx co v c k ≤ v (nx c w) + co c w := by
  induction k with
  | zero => intro w a b; omega
  | succ k ih =>
    intro w a b h1 h2
    unfold lowK
    by_cases e : w = k
    · subst e
      split
      · exact Int.le_refl _
      · rename_i q
        have : ¬ v (nx c k) + co c k < lowK nx co v c k := fun z => q ⟨h1, h2, z⟩
        omega
    · have := ih w a (by omega) h1 h2
      split
      · omega
      · exact this
theorem lowK_mono (c : Int) (hle : ∀ w : Int, 0 ≤ w → w < 4 → 0 < co c w → v (nx c w) ≤ u (nx c w)) : lowK nx co v c 4 ≤ lowK nx co u c 4 := by
  rcases lowK_way (nx := nx) (co := co) (v := u) c 4 with e | ⟨w, a, b, c1, c2, c3⟩
  · rw [e]; exact lowK_le c 4
  · have h1 := hle w a (by omega) c1
    have h2 := lowK_all (nx := nx) (co := co) (v := v) c 4 w a b c1 (by omega)
    omega
def Fix (n : Nat) (bd : Int → Bool) (f : Int → Int) (nx co : Int → Int → Int) (v : Int → Int) : Prop := ∀ c : Int, 0 ≤ c → c < n → v c = if bd c = true then f c else lowK nx co v c 4
def Nice (n : Nat) (bd : Int → Bool) (f : Int → Int) (nx co : Int → Int → Int) : Prop := (∀ c w : Int, 0 ≤ c → c < n → 0 ≤ w → w < 4 → 0 < co c w → 0 ≤ nx c w ∧ nx c w < n) ∧ ∀ c : Int, 0 ≤ c → c < n → bd c = true → 0 ≤ f c ∧ f c ≤ 1000000000000000
theorem Fix.congr (hv : Fix n bd f nx co v) (hf : ∀ c : Int, 0 ≤ c → c < n → bd c = true → f c = f' c) : Fix n bd f' nx co v := by
  intro c a b
  have e := hv c a b
  by_cases q : bd c = true
  · rw [if_pos q] at e ⊢; rw [e, hf c a b q]
  · rw [if_neg q] at e ⊢; exact e
theorem Fix.le (hN : Nice n bd f nx co) (hv : Fix n bd f nx co v) {c : Int} (a : 0 ≤ c) (b : c < n) : v c ≤ 1000000000000000 := by
  have e := hv c a b
  by_cases q : bd c = true
  · rw [if_pos q] at e; have := hN.2 c a b q; omega
  · rw [if_neg q] at e; rw [e]; exact lowK_le c 4
/-- an inner cell that is reached: by a way -/
theorem Fix.way (hv : Fix n bd f nx co v) {c : Int} (a : 0 ≤ c) (b : c < n) (q : bd c = false) (hf : v c < 1000000000000000) : ∃ w : Int, 0 ≤ w ∧ w < 4 ∧ 0 < co c w ∧ v (nx c w) < 1000000000000000 ∧ v c = v (nx c w) + co c w := by
  have e := hv c a b
  rw [if_neg (by rw [q]; decide)] at e
  rcases lowK_way (nx := nx) (co := co) (v := v) c 4 with e2 | ⟨w, a1, b1, c1, c2, c3⟩
  · omega
  · exact ⟨w, a1, by omega, c1, c2, by omega⟩
theorem Fix.all (hv : Fix n bd f nx co v) {c : Int} (a : 0 ≤ c) (b : c < n) (q : bd c = false) {w : Int} (h0 : 0 ≤ w) (h1 : w < 4) (h2 : 0 < co c w) (h3 : v (nx c w) < 1000000000000000) : v c ≤ v (nx c w) + co c w := by
  have e := hv c a b
  rw [if_neg (by rw [q]; decide)] at e
  rw [e]
  exact lowK_all c 4 w h0 (by omega) h2 h3
theorem Fix.le1 (hN : Nice n bd f nx co) (hv : Fix n bd f nx co v) (hu : Fix n bd f nx co u) (v0 : ∀ c : Int, 0 ≤ c → c < n → 0 ≤ v c) : ∀ (N : Nat) (c : Int), 0 ≤ c → c < n → v c < N → v c < 1000000000000000 → u c ≤ v c := by
  intro N
  induction N with
  | zero => intro c a b q; have := v0 c a b; omega
  | succ N ih =>
    intro c a b q1 q2
    by_cases q : bd c = true
    · have e1 := hv c a b
      have e2 := hu c a b
      rw [if_pos q] at e1 e2
      omega
    · have q' : bd c = false := by simpa using q
      obtain ⟨w, w0, w1, w2, w3, w4⟩ := hv.way a b q' q2
      have r := hN.1 c w a b w0 w1 w2
      have i := ih (nx c w) r.1 r.2 (by omega) w3
      have := hu.all a b q' w0 w1 w2 (by omega)
      omega
theorem Fix.uniq (hN : Nice n bd f nx co) (hv : Fix n bd f nx co v) (hu : Fix n bd f nx co u) (v0 : ∀ c : Int, 0 ≤ c → c < n → 0 ≤ v c) (u0 : ∀ c : Int, 0 ≤ c → c < n → 0 ≤ u c) : ∀ c : Int, 0 ≤ c → c < n → v c = u c := by
  intro c a b
  have h1 := hv.le hN a b
  have h2 := hu.le hN a b
  have h3 := v0 c a b
  have h4 := u0 c a b
  have h5 : v c < 1000000000000000 → u c ≤ v c := fun q => Fix.le1 hN hv hu v0 ((v c).toNat + 1) c a b (by omega) q
  have h6 : u c < 1000000000000000 → v c ≤ u c := fun q => Fix.le1 hN hu hv u0 ((u c).toNat + 1) c a b (by omega) q
  omega
theorem sumTo_le (hl : ∀ c : Int, 0 ≤ c → c < n → v c ≤ u c) : sumTo v n ≤ sumTo u n := by
  induction n with
  | zero => exact Int.le_refl _
  | succ n ih =>
    have h1 := ih (fun c a b => hl c a (by omega))
    have h2 := hl n (by omega) (by omega)
    show sumTo v n + v n ≤ sumTo u n + u n
    omega
theorem sumTo_lt (hl : ∀ c : Int, 0 ≤ c → c < n → v c ≤ u c) {c0 : Int} (h0 : 0 ≤ c0) (h1 : c0 < n) (h2 : v c0 < u c0) : sumTo v n < sumTo u n := by
  induction n with
  | zero => omega
  | succ n ih =>
    have h3 : sumTo v n ≤ sumTo u n := sumTo_le (fun c a b => hl c a (by omega))
    have h4 := hl n (by omega) (by omega)
    show sumTo v n + v n < sumTo u n + u n
    by_cases e : c0 = n
    · subst e; omega
    · have := ih (fun c a b => hl c a (by omega)) (by omega)
      omega
def stp (bd : Int → Bool) (f : Int → Int) (nx co : Int → Int → Int) (v : Int → Int) : Int → Int := fun c => if bd c = true then f c else lowK nx co v c 4
theorem stp_in (hN : Nice n bd f nx co) (hv : ∀ c : Int, 0 ≤ c → c < n → 0 ≤ v c) {c : Int} (a : 0 ≤ c) (b : c < n) : 0 ≤ stp bd f nx co v c ∧ stp bd f nx co v c ≤ 1000000000000000 := by
  unfold stp
  by_cases q : bd c = true
  · rw [if_pos q]; exact hN.2 c a b q
  · rw [if_neg q]
    refine ⟨?_, lowK_le c 4⟩
    rcases lowK_way (nx := nx) (co := co) (v := v) c 4 with e | ⟨w, a1, b1, c1, c2, c3⟩
    · omega
    · have r := hN.1 c w a b a1 (by omega) c1
      have := hv _ r.1 r.2
      omega
theorem fix_ex (hN : Nice n bd f nx co) : ∀ (N : Nat) (v : Int → Int), (∀ c : Int, 0 ≤ c → c < n → 0 ≤ v c ∧ stp bd f nx co v c ≤ v c) → sumTo v n < N → ∃ u, Fix n bd f nx co u ∧ ∀ c : Int, 0 ≤ c → c < n → 0 ≤ u c ∧ u c ≤ 1000000000000000 := by
  intro N
  induction N with
  | zero =>
    intro v hv hs
    have : sumTo (fun _ => 0) n ≤ sumTo v n := sumTo_le (fun c a b => (hv c a b).1)
    have e : ∀ k, sumTo (fun _ => (0 : Int)) k = 0 := by
      intro k
      induction k with
      | zero => rfl
      | succ k ih => show sumTo (fun _ => (0 : Int)) k + 0 = 0; omega
    have := e n
    omega
  | succ N ih =>
    intro v hv hs
    by_cases e : ∀ c : Int, 0 ≤ c → c < n → stp bd f nx co v c = v c
    · refine ⟨v, fun c a b => (e c a b).symm, fun c a b => ?_⟩
      have := stp_in hN (fun c a b => (hv c a b).1) a b
      rw [e c a b] at this
      exact this
    · have e' : ∃ c : Int, 0 ≤ c ∧ c < n ∧ ¬ stp bd f nx co v c = v c := by
        apply Classical.byContradiction
        intro q
        apply e
        intro c a b
        apply Classical.byContradiction
        intro q2
        exact q ⟨c, a, b, q2⟩
      obtain ⟨c0, a0, b0, q0⟩ := e'
      have l0 := (hv c0 a0 b0).2
      have hs2 : sumTo (stp bd f nx co v) n < sumTo v n := sumTo_lt (fun c a b => (hv c a b).2) a0 b0 (by omega)
      refine ih (stp bd f nx co v) (fun c a b => ⟨(stp_in hN (fun c a b => (hv c a b).1) a b).1, ?_⟩) (by omega)
      show (if bd c = true then f c else lowK nx co (stp bd f nx co v) c 4) ≤ if bd c = true then f c else lowK nx co v c 4
      by_cases q : bd c = true
      · rw [if_pos q, if_pos q]; exact Int.le_refl _
      · rw [if_neg q, if_neg q]
        refine lowK_mono c (fun w w0 w1 w2 => ?_)
        have r := hN.1 c w a b w0 w1 w2
        exact (hv _ r.1 r.2).2
theorem Fix.ex (hN : Nice n bd f nx co) : ∃ u, Fix n bd f nx co u ∧ ∀ c : Int, 0 ≤ c → c < n → 0 ≤ u c ∧ u c ≤ 1000000000000000 := by
  refine fix_ex hN ((sumTo (fun c => if bd c = true then f c else 1000000000000000) n).toNat + 1) (fun c => if bd c = true then f c else 1000000000000000) (fun c a b => ?_) (by omega)
  by_cases q : bd c = true
  · simp only [stp, if_pos q]
    exact ⟨(hN.2 c a b q).1, Int.le_refl _⟩
  · simp only [stp, if_neg q]
    exact ⟨by decide, lowK_le c 4⟩
/-- how many are below x -/
def cntL (v : Int → Int) (x : Int) : Nat → Nat
  | 0 => 0
  | n + 1 => cntL v x n + if v n < x then 1 else 0
theorem cntL_le (v : Int → Int) (x : Int) (n : Nat) : cntL v x n ≤ n := by
  induction n with
  | zero => exact Nat.le_refl _
  | succ n ih =>
    unfold cntL
    split <;> omega
theorem cntL_mono {x y : Int} (h : x ≤ y) (n : Nat) : cntL v x n ≤ cntL v y n := by
  induction n with
  | zero => exact Nat.le_refl _
  | succ n ih =>
    unfold cntL
    split
    · rw [if_pos (by omega)]; omega
    · omega
theorem cntL_lt {x y c : Int} (h0 : 0 ≤ c) (h1 : c < n) (h2 : x ≤ v c) (h3 : v c < y) : cntL v x n < cntL v y n := by
  induction n with
  | zero => omega
  | succ n ih =>
    unfold cntL
    have m := cntL_mono (v := v) (x := x) (y := y) (by omega) n
    by_cases e : c = n
    · subst e
      rw [if_neg (by omega), if_pos h3]; omega
    · have i := ih (by omega)
      by_cases q : v n < x
      · rw [if_pos q, if_pos (by omega)]; omega
      · rw [if_neg q]; omega
theorem cntL_self {c : Int} (h0 : 0 ≤ c) (h1 : c < n) : cntL v (v c) n < n :=
  Nat.lt_of_lt_of_le (cntL_lt (x := v c) (y := v c + 1) h0 h1 (Int.le_refl _) (by omega)) (cntL_le _ _ _)
theorem Fix.bound {C Bd : Int} (hN : Nice n bd f nx co) (hv : Fix n bd f nx co v) (v0 : ∀ c : Int, 0 ≤ c → c < n → 0 ≤ v c) (hC0 : 0 ≤ C) (hC : ∀ c w : Int, 0 ≤ c → c < n → 0 ≤ w → w < 4 → co c w ≤ C) (hB : ∀ c : Int, 0 ≤ c → c < n → bd c = true → f c < 1000000000000000 → f c ≤ Bd) :
    ∀ (N : Nat) (c : Int), 0 ≤ c → c < n → v c < N → v c < 1000000000000000 → v c ≤ Bd + C * cntL v (v c) n := by
  intro N
  induction N with
  | zero => intro c a b q; have := v0 c a b; omega
  | succ N ih =>
    intro c a b q1 q2
    have m0 : 0 ≤ C * (cntL v (v c) n : Int) := Int.mul_nonneg hC0 (by omega)
    by_cases q : bd c = true
    · have e1 := hv c a b
      rw [if_pos q] at e1
      have := hB c a b q (by omega)
      omega
    · have q' : bd c = false := by simpa using q
      obtain ⟨w, w0, w1, w2, w3, w4⟩ := hv.way a b q' q2
      have r := hN.1 c w a b w0 w1 w2
      have i := ih (nx c w) r.1 r.2 (by omega) w3
      have k := cntL_lt (v := v) (n := n) (x := v (nx c w)) (y := v c) (c := nx c w) r.1 r.2 (Int.le_refl _) (by omega)
      have l := hC c w a b w0 w1
      have m1 : C * ((cntL v (v (nx c w)) n : Int) + 1) ≤ C * (cntL v (v c) n : Int) := Int.mul_le_mul_of_nonneg_left (by omega) hC0
      rw [Int.mul_add, Int.mul_one] at m1
      omega
end FX
