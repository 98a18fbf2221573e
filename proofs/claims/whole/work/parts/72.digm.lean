/-! least costs over any number of ways; digging: codes of counts -/
section FM
variable {n m : Nat} {bd : Int → Bool} {f f' : Int → Int} {nx co : Int → Int → Int} {v u : Int → Int}
theorem lowM_mono (c : Int) (hle : ∀ w : Int, 0 ≤ w → w < m → 0 < co c w → v (nx c w) ≤ u (nx c w)) : lowK nx co v c m ≤ lowK nx co u c m := by
  rcases lowK_way (nx := nx) (co := co) (v := u) c m with e | ⟨w, a, b, c1, c2, c3⟩
  · rw [e]; exact lowK_le c m
  · have h1 := hle w a (by omega) c1
    have h2 := lowK_all (nx := nx) (co := co) (v := v) c m w a b c1 (by omega)
    omega
def FixM (n m : Nat) (bd : Int → Bool) (f : Int → Int) (nx co : Int → Int → Int) (v : Int → Int) : Prop := ∀ c : Int, 0 ≤ c → c < n → v c = if bd c = true then f c else lowK nx co v c m
def NiceM (n m : Nat) (bd : Int → Bool) (f : Int → Int) (nx co : Int → Int → Int) : Prop := (∀ c w : Int, 0 ≤ c → c < n → 0 ≤ w → w < m → 0 < co c w → 0 ≤ nx c w ∧ nx c w < n) ∧ ∀ c : Int, 0 ≤ c → c < n → bd c = true → 0 ≤ f c ∧ f c ≤ 1000000000000000
theorem FixM.congr (hv : FixM n m bd f nx co v) (hf : ∀ c : Int, 0 ≤ c → c < n → bd c = true → f c = f' c) : FixM n m bd f' nx co v := by
  intro c a b
  have e := hv c a b
  by_cases q : bd c = true
  · rw [if_pos q] at e ⊢; rw [e, hf c a b q]
  · rw [if_neg q] at e ⊢; exact e
theorem FixM.le (hN : NiceM n m bd f nx co) (hv : FixM n m bd f nx co v) {c : Int} (a : 0 ≤ c) (b : c < n) : v c ≤ 1000000000000000 := by
  have e := hv c a b
  by_cases q : bd c = true
  · rw [if_pos q] at e; have := hN.2 c a b q; omega
  · rw [if_neg q] at e; rw [e]; exact lowK_le c m
/-- an inner cell that is reached: by a way -/
theorem FixM.way (hv : FixM n m bd f nx co v) {c : Int} (a : 0 ≤ c) (b : c < n) (q : bd c = false) (hf : v c < 1000000000000000) : ∃ w : Int, 0 ≤ w ∧ w < m ∧ 0 < co c w ∧ v (nx c w) < 1000000000000000 ∧ v c = v (nx c w) + co c w := by
  have e := hv c a b
  rw [if_neg (by rw [q]; decide)] at e
  rcases lowK_way (nx := nx) (co := co) (v := v) c m with e2 | ⟨w, a1, b1, c1, c2, c3⟩
  · omega
  · exact ⟨w, a1, by omega, c1, c2, by omega⟩
theorem FixM.all (hv : FixM n m bd f nx co v) {c : Int} (a : 0 ≤ c) (b : c < n) (q : bd c = false) {w : Int} (h0 : 0 ≤ w) (h1 : w < m) (h2 : 0 < co c w) (h3 : v (nx c w) < 1000000000000000) : v c ≤ v (nx c w) + co c w := by
  have e := hv c a b
  rw [if_neg (by rw [q]; decide)] at e
  rw [e]
  exact lowK_all c m w h0 (by omega) h2 h3
theorem FixM.le1 (hN : NiceM n m bd f nx co) (hv : FixM n m bd f nx co v) (hu : FixM n m bd f nx co u) (v0 : ∀ c : Int, 0 ≤ c → c < n → 0 ≤ v c) : ∀ (N : Nat) (c : Int), 0 ≤ c → c < n → v c < N → v c < 1000000000000000 → u c ≤ v c := by
  intro N
  induction N with
  | zero => intro c a b q; have := v0 c a b; omega
  | succ N ih =>
    intro c a b q1 q2
    by_cases q : bd c = true
    · have e1 := hv c a b
      have e2 := hu c a b
      rw [if_pos q] at e1 e2
      omega
    · have q' : bd c = false := by simpa using q
      obtain ⟨w, w0, w1, w2, w3, w4⟩ := hv.way a b q' q2
      have r := hN.1 c w a b w0 w1 w2
      have i := ih (nx c w) r.1 r.2 (by omega) w3
      have := hu.all a b q' w0 w1 w2 (by omega)
      omega
theorem FixM.uniq (hN : NiceM n m bd f nx co) (hv : FixM n m bd f nx co v) (hu : FixM n m bd f nx co u) (v0 : ∀ c : Int, 0 ≤ c → c < n → 0 ≤ v c) (u0 : ∀ c : Int, 0 ≤ c → c < n → 0 ≤ u c) : ∀ c : Int, 0 ≤ c → c < n → v c = u c := by
  intro c a b
  have h1 := hv.le hN a b
  have h2 := hu.le hN a b
  have h3 := v0 c a b
  have h4 := u0 c a b
  have h5 : v c < 1000000000000000 → u c ≤ v c := fun q => FixM.le1 hN hv hu v0 ((v c).toNat + 1) c a b (by omega) q
  have h6 : u c < 1000000000000000 → v c ≤ u c := fun q => FixM.le1 hN hu hv u0 ((u c).toNat + 1) c a b (by omega) q
  omega
def stpM (m : Nat) (bd : Int → Bool) (f : Int → Int) (nx co : Int → Int → Int) (v : Int → Int) : Int → Int := fun c => if bd c = true then f c else lowK nx co v c m
theorem stpM_in (hN : NiceM n m bd f nx co) (hv : ∀ c : Int, 0 ≤ c → c < n → 0 ≤ v c) {c : Int} (a : 0 ≤ c) (b : c < n) : 0 ≤ stpM m bd f nx co v c ∧ stpM m bd f nx co v c ≤ 1000000000000000 := by
  unfold stpM
  by_cases q : bd c = true
  · rw [if_pos q]; exact hN.2 c a b q
  · rw [if_neg q]
    refine ⟨?_, lowK_le c m⟩
    rcases lowK_way (nx := nx) (co := co) (v := v) c m with e | ⟨w, a1, b1, c1, c2, c3⟩
    · omega
    · have r := hN.1 c w a b a1 (by omega) c1
      have := hv _ r.1 r.2
      omega
theorem fixM_ex (hN : NiceM n m bd f nx co) : ∀ (N : Nat) (v : Int → Int), (∀ c : Int, 0 ≤ c → c < n → 0 ≤ v c ∧ stpM m bd f nx co v c ≤ v c) → sumTo v n < N → ∃ u, FixM n m bd f nx co u ∧ ∀ c : Int, 0 ≤ c → c < n → 0 ≤ u c ∧ u c ≤ 1000000000000000 := by
  intro N
  induction N with
  | zero =>
    intro v hv hs
    have : sumTo (fun _ => 0) n ≤ sumTo v n := sumTo_le (fun c a b => (hv c a b).1)
    have e : ∀ k, sumTo (fun _ => (0 : Int)) k = 0 := by
      intro k
      induction k with
      | zero => rfl
      | succ k ih => show sumTo (fun _ => (0 : Int)) k + 0 = 0; omega
    have := e n
    omega
  | succ N ih =>
    intro v hv hs
    by_cases e : ∀ c : Int, 0 ≤ c → c < n → stpM m bd f nx co v c = v c
    · refine ⟨v, fun c a b => (e c a b).symm, fun c a b => ?_⟩
      have := stpM_in hN (fun c a b => (hv c a b).1) a b
      rw [e c a b] at this
      exact this
    · have e' : ∃ c : Int, 0 ≤ c ∧ c < n ∧ ¬ stpM m bd f nx co v c = v c := by
        apply Classical.byContradiction
        intro q
        apply e
        intro c a b
        apply Classical.byContradiction
        intro q2
        exact q ⟨c, a, b, q2⟩
      obtain ⟨c0, a0, b0, q0⟩ := e'
      have l0 := (hv c0 a0 b0).2
      have hs2 : sumTo (stpM m bd f nx co v) n < sumTo v n := sumTo_lt (fun c a b => (hv c a b).2) a0 b0 (by omega)
      refine ih (stpM m bd f nx co v) (fun c a b => ⟨(stpM_in hN (fun c a b => (hv c a b).1) a b).1, ?_⟩) (by omega)
      show (if bd c = true then f c else lowK nx co (stpM m bd f nx co v) c m) ≤ if bd c = true then f c else lowK nx co v c m
      by_cases q : bd c = true
      · rw [if_pos q, if_pos q]; exact Int.le_refl _
      · rw [if_neg q, if_neg q]
        refine lowM_mono c (fun w w0 w1 w2 => ?_)
        have r := hN.1 c w a b w0 w1 w2
        exact (hv _ r.1 r.2).2
theorem FixM.ex (hN : NiceM n m bd f nx co) : ∃ u, FixM n m bd f nx co u ∧ ∀ c : Int, 0 ≤ c → c < n → 0 ≤ u c ∧ u c ≤ 1000000000000000 := by
  refine fixM_ex hN ((sumTo (fun c => if bd c = true then f c else 1000000000000000) n).toNat + 1) (fun c => if bd c = true then f c else 1000000000000000) (fun c a b => ?_) (by omega)
  by_cases q : bd c = true
  · simp only [stpM, if_pos q]
    exact ⟨(hN.2 c a b q).1, Int.le_refl _⟩
  · simp only [stpM, if_neg q]
    exact ⟨by decide, lowK_le c m⟩
end FM
/-- units of the counts' codes -/
def unt (d : Int) : Int := if d = 1 then 1 else if d = 2 then 7 else if d = 3 then 49 else if d = 4 then 343 else 0
theorem unt_in (d : Int) : 0 ≤ unt d ∧ unt d ≤ 343 := by unfold unt; repeat' split; all_goals omega
def clp (x : Int) : Int := max 0 (min 4 x)
theorem clp_in (x : Int) : 0 ≤ clp x ∧ clp x ≤ 4 := by unfold clp; omega
/-- how many of the wheels are at a depth -/
def cnt (v : Int → Int) (d : Int) : Nat → Int
  | 0 => 0
  | n + 1 => cnt v d n + if v n = d then 1 else 0
theorem cnt_in (v : Int → Int) (d : Int) (n : Nat) : 0 ≤ cnt v d n ∧ cnt v d n ≤ n := by
  induction n with
  | zero => exact ⟨Int.le_refl _, Int.le_refl _⟩
  | succ n ih => unfold cnt; split <;> omega
theorem cnt_pos {v : Int → Int} {d : Int} {n : Nat} (h : 0 < cnt v d n) : ∃ w : Int, 0 ≤ w ∧ w < n ∧ v w = d := by
  induction n with
  | zero => exact absurd h (by show ¬ (0 : Int) < 0; decide)
  | succ n ih =>
    unfold cnt at h
    by_cases q : v n = d
    · exact ⟨n, by omega, by omega, q⟩
    · rw [if_neg q] at h
      obtain ⟨w, a, b, c⟩ := ih (by omega)
      exact ⟨w, a, by omega, c⟩
theorem cnt_at {v : Int → Int} {n : Nat} {w : Int} (h0 : 0 ≤ w) (h1 : w < n) : 0 < cnt v (v w) n := by
  induction n with
  | zero => omega
  | succ n ih =>
    unfold cnt
    have i := cnt_in v (v w) n
    by_cases q : w = n
    · rw [if_pos (by rw [q])]; omega
    · have := ih (by omega)
      split <;> omega
/-- sums over wheels are sums over depths -/
theorem sum_cnt {v F : Int → Int} {n : Nat} (hv : ∀ k : Int, 0 ≤ k → k < n → 0 ≤ v k ∧ v k ≤ 4) : sumTo (fun k => F (v k)) n = cnt v 0 n * F 0 + cnt v 1 n * F 1 + cnt v 2 n * F 2 + cnt v 3 n * F 3 + cnt v 4 n * F 4 := by
  induction n with
  | zero => show (0 : Int) = 0 * F 0 + 0 * F 1 + 0 * F 2 + 0 * F 3 + 0 * F 4; omega
  | succ n ih =>
    have i := ih (fun k a b => hv k a (by omega))
    have b := hv n (by omega) (by omega)
    show sumTo (fun k => F (v k)) n + F (v n) = _
    rw [i]
    have ec : ∀ d, cnt v d (n + 1) = cnt v d n + if v n = d then 1 else 0 := fun _ => rfl
    rw [ec 0, ec 1, ec 2, ec 3, ec 4]
    have : v n = 0 ∨ v n = 1 ∨ v n = 2 ∨ v n = 3 ∨ v n = 4 := by omega
    rcases this with q | q | q | q | q <;> rw [q] <;> simp [Int.add_mul] <;> omega
theorem cnt_sum {v : Int → Int} {n : Nat} (hv : ∀ k : Int, 0 ≤ k → k < n → 0 ≤ v k ∧ v k ≤ 4) : cnt v 0 n + cnt v 1 n + cnt v 2 n + cnt v 3 n + cnt v 4 n = n := by
  have s := sum_cnt (F := fun _ => 1) hv
  have e : ∀ k : Nat, sumTo (fun _ => (1 : Int)) k = k := by
    intro k
    induction k with
    | zero => rfl
    | succ k ih => show sumTo (fun _ => (1 : Int)) k + 1 = ((k + 1 : Nat) : Int); omega
  rw [e] at s
  omega
def cde (v : Int → Int) (n : Nat) : Int := sumTo (fun k => unt (v k)) n
theorem cde_cnt {v : Int → Int} {n : Nat} (hn : n ≤ 6) (hv : ∀ k : Int, 0 ≤ k → k < n → 0 ≤ v k ∧ v k ≤ 4) : cde v n = cnt v 1 n + 7 * cnt v 2 n + 49 * cnt v 3 n + 343 * cnt v 4 n ∧ (0 ≤ cde v n ∧ cde v n < 2401) ∧ cde v n % 7 = cnt v 1 n ∧ cde v n / 7 % 7 = cnt v 2 n ∧ cde v n / 49 % 7 = cnt v 3 n ∧ cde v n / 343 % 7 = cnt v 4 n := by
  have s := sum_cnt (F := unt) hv
  have c := cnt_sum hv
  have c0 := cnt_in v 0 n
  have c1 := cnt_in v 1 n
  have c2 := cnt_in v 2 n
  have c3 := cnt_in v 3 n
  have c4 := cnt_in v 4 n
  have u0 : unt 0 = 0 := rfl
  have u1 : unt 1 = 1 := rfl
  have u2 : unt 2 = 7 := rfl
  have u3 : unt 3 = 49 := rfl
  have u4 : unt 4 = 343 := rfl
  rw [u0, u1, u2, u3, u4] at s
  have e : cde v n = cnt v 1 n + 7 * cnt v 2 n + 49 * cnt v 3 n + 343 * cnt v 4 n := by unfold cde; omega
  rw [e]
  generalize cnt v 1 n = a at *
  generalize cnt v 2 n = b at *
  generalize cnt v 3 n = x at *
  generalize cnt v 4 n = y at *
  have b6 : a ≤ 6 ∧ b ≤ 6 ∧ x ≤ 6 ∧ y ≤ 6 := by omega
  have h7 : (a + 7 * b + 49 * x + 343 * y) / 7 = b + 7 * x + 49 * y := by omega
  have h49 : (a + 7 * b + 49 * x + 343 * y) / 49 = x + 7 * y := by
    have l1 : 0 ≤ a + 7 * b ∧ a + 7 * b ≤ 48 := by omega
    generalize a + 7 * b = z at *
    omega
  have h343 : (a + 7 * b + 49 * x + 343 * y) / 343 = y := by
    have l1 : 0 ≤ a + 7 * b + 49 * x ∧ a + 7 * b + 49 * x ≤ 342 := by omega
    generalize a + 7 * b + 49 * x = z at *
    omega
  rw [h7, h49, h343]
  omega
/-- one wheel apart from the rest -/
theorem sum_one {f g : Int → Int} {n : Nat} {w : Int} (h0 : 0 ≤ w) (h1 : w < n) (he : ∀ k : Int, 0 ≤ k → k < n → ¬ k = w → f k = g k) : sumTo f n = sumTo g n - g w + f w := by
  induction n with
  | zero => omega
  | succ n ih =>
    show sumTo f n + f n = sumTo g n + g n - g w + f w
    by_cases q : w = n
    · subst q
      rw [sumTo_congr (f := f) (g := g) (fun i a b => he i a (by omega) (by omega))]; omega
    · have i := ih (by omega) (fun k a b c => he k a (by omega) c)
      have := he n (by omega) (by omega) (by omega)
      omega
/-- what a try does to the wheels -/
def mvd (e o : Int) (v : Int → Int) (w : Int) : Int → Int := fun k => clp (v k + if k = w then o else e)
/-- the code behind a try, by counts -/
def cda (e o : Int) (c0 c1 c2 c3 c4 d : Int) : Int := unt (clp (d + o)) + ((if d = 0 then c0 - 1 else c0) * unt (clp (0 + e)) + (if d = 1 then c1 - 1 else c1) * unt (clp (1 + e)) + (if d = 2 then c2 - 1 else c2) * unt (clp (2 + e)) + (if d = 3 then c3 - 1 else c3) * unt (clp (3 + e)) + (if d = 4 then c4 - 1 else c4) * unt (clp (4 + e)))
theorem mvd_code {e o w : Int} {v : Int → Int} {n : Nat} (hw : 0 ≤ w ∧ w < n) (hv : ∀ k : Int, 0 ≤ k → k < n → 0 ≤ v k ∧ v k ≤ 4) : cde (mvd e o v w) n = cda e o (cnt v 0 n) (cnt v 1 n) (cnt v 2 n) (cnt v 3 n) (cnt v 4 n) (v w) := by
  have s1 := sum_one (f := fun k => unt (mvd e o v w k)) (g := fun k => unt (clp (v k + e))) (n := n) hw.1 hw.2 (fun k a b c => by
    show unt (clp (v k + if k = w then o else e)) = unt (clp (v k + e))
    rw [if_neg c])
  have s2 := sum_cnt (F := fun x => unt (clp (x + e))) hv
  have e1 : unt (mvd e o v w w) = unt (clp (v w + o)) := by unfold mvd; rw [if_pos rfl]
  unfold cde
  rw [s1, s2, e1]
  have b := hv w hw.1 hw.2
  unfold cda
  have : v w = 0 ∨ v w = 1 ∨ v w = 2 ∨ v w = 3 ∨ v w = 4 := by omega
  rcases this with q | q | q | q | q <;> rw [q] <;> simp [Int.sub_mul] <;> omega
