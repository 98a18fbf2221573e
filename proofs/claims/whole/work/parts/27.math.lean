/-! Math, bits, small loops -/
theorem iI_nI {x : Int} (h : 0 ≤ x) : iI x = nI x.toNat := by
  obtain ⟨n, rfl⟩ := Int.eq_ofNat_of_zero_le h
  unfold iI nI
  rw [Int32.ofInt_eq_ofNat]
  simp
theorem s_l5 : ∀ n, n < 32 → ((nI n &&& 31).toBitVec.smod 32).toNat = n := by decide +kernel
theorem p2c (k : Nat) : ((2 ^ k : Nat) : Int) = 2 ^ k := by
  induction k with
  | zero => rfl
  | succ k ih => rw [Int.pow_succ, Nat.pow_succ, ← ih]; simp
theorem iI_shl {x k : Int} (hx : 0 ≤ x) (hk : 0 ≤ k ∧ k < 32) (hb : x * 2 ^ k.toNat < 4294967296) : iI x <<< (iI k &&& 31) = iI (x * 2 ^ k.toNat) := by
  obtain ⟨n, rfl⟩ := Int.eq_ofNat_of_zero_le hx
  have e : ((n : Int) * 2 ^ k.toNat) = ((n * 2 ^ k.toNat : Nat) : Int) := by rw [Int.natCast_mul, p2c]
  rw [e] at hb ⊢
  rw [iI_nI hx, iI_nI hk.1, iI_nI (Int.natCast_nonneg _)]
  rw [pk_shlN _ k.toNat (s_l5 _ (by omega))]
  · simp only [Int.toNat_natCast]
  · simp only [Int.toNat_natCast]
    generalize n * 2 ^ k.toNat = z at hb
    omega
theorem iI_shr {x k : Int} (hx : 0 ≤ x ∧ x ≤ 2147483647) (hk : 0 ≤ k ∧ k < 32) : iI x >>> (iI k &&& 31) = iI (x / 2 ^ k.toNat) := by
  obtain ⟨n, rfl⟩ := Int.eq_ofNat_of_zero_le hx.1
  have e : (n : Int) / 2 ^ k.toNat = ((n / 2 ^ k.toNat : Nat) : Int) := by rw [Int.natCast_ediv, p2c]
  rw [e, iI_nI hx.1, iI_nI hk.1, iI_nI (Int.natCast_nonneg _)]
  rw [pk_shrN (by simp only [Int.toNat_natCast]; omega) _ k.toNat (s_l5 _ (by omega))]
  simp only [Int.toNat_natCast]
theorem iI_mask {x : Int} (k : Nat) {mm : Int} (hm : mm = 2 ^ k - 1) (hk : k ≤ 30) (hx : 0 ≤ x ∧ x ≤ 2147483647) : iI x &&& iI mm = iI (x % 2 ^ k) := by
  obtain ⟨n, rfl⟩ := Int.eq_ofNat_of_zero_le hx.1
  have hp : 0 < 2 ^ k := Nat.pow_pos (by decide)
  have h30 : 2 ^ k ≤ 2 ^ 30 := Nat.pow_le_pow_right (by decide) hk
  have e : (n : Int) % 2 ^ k = ((n % 2 ^ k : Nat) : Int) := by rw [Int.natCast_emod, p2c]
  have e2 : mm = ((2 ^ k - 1 : Nat) : Int) := by rw [hm, ← p2c k]; omega
  have e3 : (2 : Nat) ^ 30 = 1073741824 := by decide
  rw [e, e2, iI_nI hx.1, iI_nI (Int.natCast_nonneg _), iI_nI (Int.natCast_nonneg _)]
  simp only [Int.toNat_natCast]
  rw [pk_andN (by omega) k (pk_tn (by omega))]
section MB1
variable {d m pc : Nat} {ls st : List Value} {h : XH} {Q : Option Value → XH → Prop} {len ra rb rc rw : Nat}
theorem v_ishl {x k : Int} (r : xrow m pc = some (.ishl, len, ra, rb, rc, rw)) (hx : 0 ≤ x) (hk : 0 ≤ k ∧ k < 32) (hb : x * 2 ^ k.toNat < 4294967296) (kk : XW d m (pc + 1) ls (.int (iI (x * 2 ^ k.toNat)) :: st) h Q) : XW d m pc ls (.int (iI k) :: .int (iI x) :: st) h Q := w_ishl r (by rw [iI_shl hx hk hb]; exact kk)
theorem v_ishr {x k : Int} (r : xrow m pc = some (.ishr, len, ra, rb, rc, rw)) (hx : 0 ≤ x ∧ x ≤ 2147483647) (hk : 0 ≤ k ∧ k < 32) (kk : XW d m (pc + 1) ls (.int (iI (x / 2 ^ k.toNat)) :: st) h Q) : XW d m pc ls (.int (iI k) :: .int (iI x) :: st) h Q := w_ishr r (by rw [iI_shr hx hk]; exact kk)
theorem v_mask {x mm : Int} (k : Nat) (r : xrow m pc = some (.iand, len, ra, rb, rc, rw)) (hm : mm = 2 ^ k - 1) (hk : k ≤ 30) (hx : 0 ≤ x ∧ x ≤ 2147483647) (kk : XW d m (pc + 1) ls (.int (iI (x % 2 ^ k)) :: st) h Q) : XW d m pc ls (.int (iI mm) :: .int (iI x) :: st) h Q := w_iand r (by rw [iI_mask k hm hk hx]; exact kk)
end MB1
theorem ixor_ge {x y : Int} (hx : R32 x) (hy : R32 y) : 0 ≤ iI x ^^^ iI y ↔ (x < 0 ↔ y < 0) := by
  have e : ∀ z : Int32, 0 ≤ z ↔ z.toBitVec.msb = false := by
    intro z
    rw [Int32.le_iff_toInt_le]
    show (0 : Int) ≤ z.toBitVec.toInt ↔ _
    rw [BitVec.msb_eq_toInt]
    simp
  have e2 : ∀ {z : Int}, R32 z → ((iI z).toBitVec.msb = true ↔ z < 0) := by
    intro z hz
    rw [BitVec.msb_eq_toInt]
    show decide ((iI z).toInt < 0) = true ↔ _
    rw [iI_t hz]; simp
  rw [e, Int32.toBitVec_xor, BitVec.msb_xor]
  have a1 := e2 hx
  have a2 := e2 hy
  cases h1 : (iI x).toBitVec.msb <;> cases h2 : (iI y).toBitVec.msb <;> rw [h1] at a1 <;> rw [h2] at a2 <;> simp at a1 a2 ⊢ <;> omega
section MM
variable {d : Nat} {h : XH} {K : Int32 → XH → Prop} {KU : XH → Prop} {rb : Nat}
theorem c_max {x y : Int} (hx : R32 x) (hy : R32 y) (hk : K (iI (max x y)) h) : XW d 268 0 [.int (iI x), .int (iI y)] [] h (KI K) := by
  refine w_iload0 r_268_0 ?_
  refine w_iload1 r_268_1 ?_
  refine v_ic_lt r_268_2 (by first | exact zF_in _ _ _ | exact zA_in _ _ _ | omega) (by first | exact zF_in _ _ _ | exact zA_in _ _ _ | omega) (fun c2 => ?_) (fun c2 => ?_)
  · refine w_iload1 r_268_9 ?_
    refine w_iret r_268_10 ?_
    first | (rw [show max x y = y by omega] at hk; exact hk) | (rw [show max x y = x by omega] at hk; exact hk)
  · refine w_iload0 r_268_5 ?_
    refine w_goto r_268_6 ?_
    refine w_iret r_268_10 ?_
    first | (rw [show max x y = y by omega] at hk; exact hk) | (rw [show max x y = x by omega] at hk; exact hk)
theorem c_min {x y : Int} (hx : R32 x) (hy : R32 y) (hk : K (iI (min x y)) h) : XW d 270 0 [.int (iI x), .int (iI y)] [] h (KI K) := by
  refine w_iload0 r_270_0 ?_
  refine w_iload1 r_270_1 ?_
  refine v_ic_gt r_270_2 (by first | exact zF_in _ _ _ | exact zA_in _ _ _ | omega) (by first | exact zF_in _ _ _ | exact zA_in _ _ _ | omega) (fun c2 => ?_) (fun c2 => ?_)
  · refine w_iload1 r_270_9 ?_
    refine w_iret r_270_10 ?_
    first | (rw [show min x y = y by omega] at hk; exact hk) | (rw [show min x y = x by omega] at hk; exact hk)
  · refine w_iload0 r_270_5 ?_
    refine w_goto r_270_6 ?_
    refine w_iret r_270_10 ?_
    first | (rw [show min x y = y by omega] at hk; exact hk) | (rw [show min x y = x by omega] at hk; exact hk)
theorem c_abs {x : Int} (hx : R32 x) (hk : K (iI (if x < 0 then -x else x)) h) : XW d 267 0 [.int (iI x)] [] h (KI K) := by
  refine w_iload0 r_267_0 ?_
  refine v_if_ge r_267_1 (by first | exact zF_in _ _ _ | exact zA_in _ _ _ | omega) (fun c1 => ?_) (fun c1 => ?_)
  · refine w_iload0 r_267_9 ?_
    refine w_iret r_267_10 ?_
    first | (rw [if_pos (by omega)] at hk; exact hk) | (rw [if_neg (by omega)] at hk; exact hk)
  · refine w_iload0 r_267_4 ?_
    refine v_ineg r_267_5 ?_
    refine w_goto r_267_6 ?_
    refine w_iret r_267_10 ?_
    first | (rw [if_pos (by omega)] at hk; exact hk) | (rw [if_neg (by omega)] at hk; exact hk)
theorem c_maxL {K : Int64 → XH → Prop} {x y : Int} (hx : -9223372036854775808 ≤ x ∧ x ≤ 9223372036854775807) (hy : -9223372036854775808 ≤ y ∧ y ≤ 9223372036854775807) (hk : K (iL (max x y)) h) : XW d 269 0 [.long (iL x), .null, .long (iL y), .null] [] h (KL K) := by
  refine w_lload0 r_269_0 ?_
  refine w_lload2 r_269_1 ?_
  refine v_lcmp r_269_2 (by first | exact zF_in _ _ _ | exact zA_in _ _ _ | omega) (by first | exact zF_in _ _ _ | exact zA_in _ _ _ | omega) ?_
  refine v_if_lt r_269_3 (by split <;> (try split) <;> omega) (fun c3 => ?_) (fun c3 => ?_)
  · refine w_lload2 r_269_10 ?_
    refine w_lret r_269_11 ?_
    first | (rw [show max x y = y by revert c3; split <;> (try split) <;> omega] at hk; exact hk) | (rw [show max x y = x by revert c3; split <;> (try split) <;> omega] at hk; exact hk)
  · refine w_lload0 r_269_6 ?_
    refine w_goto r_269_7 ?_
    refine w_lret r_269_11 ?_
    first | (rw [show max x y = y by revert c3; split <;> (try split) <;> omega] at hk; exact hk) | (rw [show max x y = x by revert c3; split <;> (try split) <;> omega] at hk; exact hk)
/-- the quotient downwards, by a divisor above 0 -/
theorem fdiv_t {x y : Int} (hy : 0 < y) : x / y = if x < 0 ∧ ¬ x.tdiv y * y = x then x.tdiv y - 1 else x.tdiv y := by
  by_cases h0 : x < 0
  · have e1 : x.tdiv y = -((-x) / y) := by
      rw [← Int.neg_neg x, Int.neg_tdiv, Int.tdiv_eq_ediv_of_nonneg (by omega)]
      simp
    have e2 := Int.emod_add_mul_ediv (-x) y
    have e3 := Int.emod_nonneg (-x) (show y ≠ 0 by omega)
    have e4 := Int.emod_lt_of_pos (-x) hy
    generalize (-x) / y = q at *
    have e5 : (-q) * y = -(y * q) := by rw [Int.neg_mul, Int.mul_comm]
    rw [e1]
    by_cases h1 : -q * y = x
    · rw [if_neg (by simp [h1])]
      have : x = y * (-q) := by rw [Int.mul_comm]; exact h1.symm
      rw [this, Int.mul_ediv_cancel_left _ (by omega)]
    · rw [if_pos ⟨h0, h1⟩]
      have hr : (-x) % y ≠ 0 := by intro hz; rw [hz] at e2; omega
      have : x = (y - (-x) % y) + y * (-q - 1) := by rw [Int.mul_sub, Int.mul_neg]; omega
      rw [this, Int.add_mul_ediv_left _ _ (by omega), Int.ediv_eq_zero_of_lt (by omega) (by omega)]
      omega
  · rw [if_neg (by omega), Int.tdiv_eq_ediv_of_nonneg (by omega)]
theorem tdm {x y : Int} : x.tdiv y * y + x.tmod y = x ∧ (0 ≤ x → 0 ≤ x.tmod y ∧ x.tmod y ≤ x) ∧ (x ≤ 0 → x ≤ x.tmod y ∧ x.tmod y ≤ 0) := by
  have e := Int.mul_tdiv_add_tmod x y
  rw [Int.mul_comm] at e
  have hm : (x.tmod y).natAbs ≤ x.natAbs := by rw [Int.natAbs_tmod]; exact Nat.mod_le _ _
  refine ⟨e, fun h => ?_, fun h => ?_⟩
  · have := Int.tmod_nonneg y h; omega
  · have := Int.tmod_nonneg y (show 0 ≤ -x by omega); rw [Int.neg_tmod] at this; omega
theorem c_floorDiv {x y : Int} (hx : R32 x) (hy : 0 < y ∧ y ≤ 2147483647) (hk : K (iI (x / y)) h) : XW d 266 0 [.int (iI x), .int (iI y), .null] [] h (KI K) := by
  rw [fdiv_t hy.1] at hk
  have hq : (x.tdiv y).natAbs ≤ x.natAbs := by rw [Int.natAbs_tdiv]; exact Nat.div_le_self _ _
  have hm := tdm (x := x) (y := y)
  refine w_iload0 r_266_0 ?_
  refine w_iload1 r_266_1 ?_
  refine v_idiv r_266_2 (by first | exact zF_in _ _ _ | exact zA_in _ _ _ | omega) (by omega) ?_
  refine w_istore2 r_266_3 rfl ?_
  refine w_iload0 r_266_4 ?_
  refine w_iload1 r_266_5 ?_
  refine w_ixor r_266_6 ?_
  refine w_if_ge r_266_7 (fun c7 => ?_) (fun c7 => ?_)
  · refine w_iload2 r_266_21 ?_
    refine w_iret r_266_22 ?_
    first | (rw [if_neg (by omega)] at hk; exact hk) | (rw [ixor_ge hx (by omega)] at c7; rw [if_neg (by omega)] at hk; exact hk)
  · refine w_iload2 r_266_10 ?_
    refine w_iload1 r_266_11 ?_
    refine v_imul r_266_12 ?_
    refine w_iload0 r_266_13 ?_
    refine v_ic_eq r_266_14 (by first | exact zF_in _ _ _ | exact zA_in _ _ _ | omega) (by first | exact zF_in _ _ _ | exact zA_in _ _ _ | omega) (fun c14 => ?_) (fun c14 => ?_)
    · refine w_iload2 r_266_21 ?_
      refine w_iret r_266_22 ?_
      first | (rw [if_neg (by omega)] at hk; exact hk) | (rw [ixor_ge hx (by omega)] at c7; rw [if_neg (by omega)] at hk; exact hk)
    · refine w_iload2 r_266_17 ?_
      refine w_iconst (v := iI (1)) r_266_18 rfl ?_
      refine v_isub r_266_19 ?_
      refine w_iret r_266_20 ?_
      rw [ixor_ge hx (by omega)] at c7
      rw [if_pos (by omega)] at hk
      exact hk
theorem m_down {x y : Int} (hx : R32 x) (hy : 0 < y ∧ y ≤ 2147483647) (hk : K (iI (x / y)) h) : XW d 190 0 [.int (iI x), .int (iI y), .null] [] h (KI K) := by
  rw [fdiv_t hy.1] at hk
  have hq : (x.tdiv y).natAbs ≤ x.natAbs := by rw [Int.natAbs_tdiv]; exact Nat.div_le_self _ _
  have hm := tdm (x := x) (y := y)
  refine w_iload0 r_190_0 ?_
  refine w_iload1 r_190_1 ?_
  refine v_idiv r_190_2 (by first | exact zF_in _ _ _ | exact zA_in _ _ _ | omega) (by omega) ?_
  refine w_istore2 r_190_3 rfl ?_
  refine w_iload0 r_190_4 ?_
  refine w_iload1 r_190_5 ?_
  refine v_irem r_190_6 (by first | exact zF_in _ _ _ | exact zA_in _ _ _ | omega) (by omega) ?_
  refine v_if_eq r_190_7 (by first | exact zF_in _ _ _ | exact zA_in _ _ _ | omega) (fun c7 => ?_) (fun c7 => ?_)
  · refine w_iload2 r_190_20 ?_
    refine w_iret r_190_21 ?_
    first | (rw [if_neg (by omega)] at hk; exact hk) | (rw [if_pos (by omega)] at hk; exact hk)
  · refine w_iload0 r_190_10 ?_
    refine v_if_ge r_190_11 (by first | exact zF_in _ _ _ | exact zA_in _ _ _ | omega) (fun c11 => ?_) (fun c11 => ?_)
    · refine w_iload2 r_190_20 ?_
      refine w_iret r_190_21 ?_
      first | (rw [if_neg (by omega)] at hk; exact hk) | (rw [if_pos (by omega)] at hk; exact hk)
    · refine w_iload2 r_190_14 ?_
      refine w_iconst (v := iI (1)) r_190_15 rfl ?_
      refine v_isub r_190_16 ?_
      refine w_goto r_190_17 ?_
      refine w_iret r_190_21 ?_
      first | (rw [if_neg (by omega)] at hk; exact hk) | (rw [if_pos (by omega)] at hk; exact hk)
end MM
