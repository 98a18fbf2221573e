/-! doubts and weights -/
/-- all of the bits of a digit -/
def orD (x d : Int) : Int := x + (3 - dg x d) * 4 ^ d.toNat
theorem or_fact : ∀ x, x < 1024 → ∀ d, d < 5 → x ||| 3 * 4 ^ d = x + (3 - x / 4 ^ d % 4) * 4 ^ d ∧ x + (3 - x / 4 ^ d % 4) * 4 ^ d < 1024 := by decide +kernel
theorem or_dg : ∀ x, x < 1024 → ∀ d, d < 5 → ∀ e, e < 5 → (x + (3 - x / 4 ^ d % 4) * 4 ^ d) / 4 ^ e % 4 = if e = d then 3 else x / 4 ^ e % 4 := by decide +kernel
theorem p4c (k : Nat) : ((4 ^ k : Nat) : Int) = 4 ^ k := by
  induction k with
  | zero => rfl
  | succ k ih => rw [Int.pow_succ, Nat.pow_succ, ← ih]; simp
theorem dg_nat (n k : Nat) : dg n k = ((n / 4 ^ k % 4 : Nat) : Int) := by
  unfold dg
  rw [Int.toNat_natCast, Int.natCast_emod, Int.natCast_ediv, p4c]; rfl
theorem orD_nat (n k : Nat) : orD n k = ((n + (3 - n / 4 ^ k % 4) * 4 ^ k : Nat) : Int) := by
  unfold orD
  rw [dg_nat, Int.toNat_natCast, Int.natCast_add, Int.natCast_mul, p4c, Int.ofNat_sub (by omega)]
  rfl
theorem iI_or (a b : Nat) : iI a ||| iI b = iI ((a ||| b : Nat) : Int) := by
  rw [iI_nI (Int.natCast_nonneg _), iI_nI (Int.natCast_nonneg _), iI_nI (Int.natCast_nonneg _)]
  simp only [Int.toNat_natCast]
  unfold nI
  apply Int32.toBitVec_inj.1
  apply BitVec.eq_of_toNat_eq
  simp [Nat.or_mod_two_pow]
theorem iI_and (a b : Nat) : iI a &&& iI b = iI ((a &&& b : Nat) : Int) := by
  rw [iI_nI (Int.natCast_nonneg _), iI_nI (Int.natCast_nonneg _), iI_nI (Int.natCast_nonneg _)]
  simp only [Int.toNat_natCast]
  unfold nI
  apply Int32.toBitVec_inj.1
  apply BitVec.eq_of_toNat_eq
  simp [Nat.and_mod_two_pow]
theorem nats {x : Int} (h : 0 ≤ x) : ∃ n : Nat, x = n := ⟨x.toNat, by omega⟩
theorem iI_orD {x d : Int} (hx : 0 ≤ x ∧ x < 1024) (hd : 0 ≤ d ∧ d < 5) : iI x ||| iI (3 * 4 ^ d.toNat) = iI (orD x d) := by
  obtain ⟨n, rfl⟩ := nats hx.1
  obtain ⟨k, rfl⟩ := nats hd.1
  rw [orD_nat, ← (or_fact n (by omega) k (by omega)).1, ← iI_or, Int.toNat_natCast, Int.natCast_mul, p4c]; rfl
theorem orD_in {x d : Int} (hx : 0 ≤ x ∧ x < 1024) (hd : 0 ≤ d ∧ d < 5) : 0 ≤ orD x d ∧ orD x d < 1024 := by
  obtain ⟨n, rfl⟩ := nats hx.1
  obtain ⟨k, rfl⟩ := nats hd.1
  rw [orD_nat]
  have := (or_fact n (by omega) k (by omega)).2
  omega
theorem dg_orD {x d e : Int} (hx : 0 ≤ x ∧ x < 1024) (hd : 0 ≤ d ∧ d < 5) (he : 0 ≤ e ∧ e < 5) : dg (orD x d) e = if e = d then 3 else dg x e := by
  obtain ⟨n, rfl⟩ := nats hx.1
  obtain ⟨k, rfl⟩ := nats hd.1
  obtain ⟨j, rfl⟩ := nats he.1
  rw [orD_nat, dg_nat, or_dg n (by omega) k (by omega) j (by omega), dg_nat]
  by_cases q : j = k
  · rw [if_pos q, if_pos (by omega)]; rfl
  · rw [if_neg q, if_neg (by omega)]
/-- is c the cell a, or beside it by one of the first k ways -/
def nrK (wd hg a c : Int) : Nat → Bool
  | 0 => c == a
  | k + 1 => nrK wd hg a c k || bs wd hg a k == c
abbrev nr (wd hg a c : Int) : Bool := nrK wd hg a c 4
section OD
variable {d m pc : Nat} {ls st : List Value} {h : XH} {Q : Option Value → XH → Prop} {len ra rb rc rw : Nat}
theorem v_iorD {x e : Int} (r : xrow m pc = some (.ior, len, ra, rb, rc, rw)) (hx : 0 ≤ x ∧ x < 1024) (hd : 0 ≤ e ∧ e < 5) (kk : XW d m (pc + 1) ls (.int (iI (orD x e)) :: st) h Q) : XW d m pc ls (.int (iI (3 * 4 ^ e.toNat)) :: .int (iI x) :: st) h Q := w_ior r (by rw [iI_orD hx hd]; exact kk)
end OD
theorem orD_2 {x d : Int} (hx : 0 ≤ x ∧ x < 1024) (hd : 0 ≤ d ∧ d < 5) : orD (orD x d) d = orD x d := by
  have := dg_orD (e := d) hx hd hd
  rw [if_pos rfl] at this
  rw [show orD (orD x d) d = orD x d + (3 - dg (orD x d) d) * 4 ^ d.toNat from rfl, this]
  omega
