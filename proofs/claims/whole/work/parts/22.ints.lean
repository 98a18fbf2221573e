/-! ints as whole numbers -/
def iI (z : Int) : Int32 := Int32.ofInt z
def iL (z : Int) : Int64 := Int64.ofInt z
theorem iI_of (x : Int32) : x = iI x.toInt ∧ -2147483648 ≤ x.toInt ∧ x.toInt ≤ 2147483647 := by
  refine ⟨by unfold iI; simp, ?_, ?_⟩
  · have := Int32.le_toInt x; simpa using this
  · have := Int32.toInt_lt x
    have e : (2 : Int) ^ 31 = 2147483648 := by decide
    omega
theorem iL_of (x : Int64) : x = iL x.toInt ∧ -9223372036854775808 ≤ x.toInt ∧ x.toInt ≤ 9223372036854775807 := by
  refine ⟨by unfold iL; simp, ?_, ?_⟩
  · have := Int64.le_toInt x; simpa using this
  · have := Int64.toInt_lt x
    have e : (2 : Int) ^ 63 = 9223372036854775808 := by decide
    omega
theorem iI_t {z : Int} (h : -2147483648 ≤ z ∧ z ≤ 2147483647) : (iI z).toInt = z := by
  unfold iI
  rw [Int32.toInt_ofInt]
  show Int.bmod z 4294967296 = z
  rw [Int.bmod_def]
  split <;> omega
theorem iL_t {z : Int} (h : -9223372036854775808 ≤ z ∧ z ≤ 9223372036854775807) : (iL z).toInt = z := by
  unfold iL
  rw [Int64.toInt_ofInt]
  show Int.bmod z 18446744073709551616 = z
  rw [Int.bmod_def]
  split <;> omega
theorem iI_inj {a b : Int} (ha : -2147483648 ≤ a ∧ a ≤ 2147483647) (hb : -2147483648 ≤ b ∧ b ≤ 2147483647) : iI a = iI b ↔ a = b := by
  constructor
  · intro h
    rw [← iI_t ha, ← iI_t hb, h]
  · intro h; rw [h]
theorem iI_lt {a b : Int} (ha : -2147483648 ≤ a ∧ a ≤ 2147483647) (hb : -2147483648 ≤ b ∧ b ≤ 2147483647) : iI a < iI b ↔ a < b := by
  rw [Int32.lt_iff_toInt_lt, iI_t ha, iI_t hb]
theorem iI_le {a b : Int} (ha : -2147483648 ≤ a ∧ a ≤ 2147483647) (hb : -2147483648 ≤ b ∧ b ≤ 2147483647) : iI a ≤ iI b ↔ a ≤ b := by
  rw [Int32.le_iff_toInt_le, iI_t ha, iI_t hb]
theorem iL_inj {a b : Int} (ha : -9223372036854775808 ≤ a ∧ a ≤ 9223372036854775807) (hb : -9223372036854775808 ≤ b ∧ b ≤ 9223372036854775807) : iL a = iL b ↔ a = b := by
  constructor
  · intro h
    rw [← iL_t ha, ← iL_t hb, h]
  · intro h; rw [h]
theorem iL_lt {a b : Int} (ha : -9223372036854775808 ≤ a ∧ a ≤ 9223372036854775807) (hb : -9223372036854775808 ≤ b ∧ b ≤ 9223372036854775807) : iL a < iL b ↔ a < b := by
  rw [Int64.lt_iff_toInt_lt, iL_t ha, iL_t hb]
theorem iI_add (a b : Int) : iI a + iI b = iI (a + b) := by unfold iI; rw [Int32.ofInt_add]
theorem iI_sub (a b : Int) : iI a - iI b = iI (a - b) := by unfold iI; rw [Int32.ofInt_sub]
theorem iI_mul (a b : Int) : iI a * iI b = iI (a * b) := by unfold iI; rw [Int32.ofInt_mul]
theorem iI_neg (a : Int) : - iI a = iI (-a) := by unfold iI; rw [Int32.ofInt_neg]
theorem iL_add (a b : Int) : iL a + iL b = iL (a + b) := by unfold iL; rw [Int64.ofInt_add]
theorem iL_sub (a b : Int) : iL a - iL b = iL (a - b) := by unfold iL; rw [Int64.ofInt_sub]
theorem iL_mul (a b : Int) : iL a * iL b = iL (a * b) := by unfold iL; rw [Int64.ofInt_mul]
theorem iL_neg (a : Int) : - iL a = iL (-a) := by unfold iL; rw [Int64.ofInt_neg]
theorem iI_0 : (0 : Int32) = iI 0 := rfl
theorem iI_1 : (1 : Int32) = iI 1 := rfl
theorem iI_div {a b : Int} (ha : -2147483648 ≤ a ∧ a ≤ 2147483647) (hb : -2147483648 ≤ b ∧ b ≤ 2147483647) (h0 : b ≠ 0) (h1 : a ≠ -2147483648 ∨ b ≠ -1) : iI a / iI b = iI (a.tdiv b) := by
  rw [← Int32.toInt_inj, Int32.toInt_div, iI_t ha, iI_t hb]
  have hr : -2147483648 ≤ a.tdiv b ∧ a.tdiv b ≤ 2147483647 := by
    have h2 : (a.tdiv b).natAbs ≤ a.natAbs := by rw [Int.natAbs_tdiv]; exact Nat.div_le_self _ _
    constructor
    · omega
    · by_cases q : a.tdiv b ≤ 2147483647
      · exact q
      · exfalso
        have e1 : a = -2147483648 := by omega
        subst e1
        have e2 : (Int.tdiv (-2147483648) b).natAbs = 2147483648 / b.natAbs := by rw [Int.natAbs_tdiv]; rfl
        have e3 : b.natAbs = 1 := by
          have h5 : 0 < b.natAbs := by omega
          by_cases q2 : 2 ≤ b.natAbs
          · have : 2147483648 / b.natAbs ≤ 2147483648 / 2 := Nat.div_le_div_left q2 (by decide)
            omega
          · omega
        have e4 : b = 1 := by omega
        subst e4
        simp at q
  rw [iI_t hr]
  exact Int.bmod_eq_of_le (by omega) (by omega)
theorem iI_nat {z : Int} (h0 : 0 ≤ z) (h1 : z ≤ 2147483647) : (iI z).toNatClampNeg = z.toNat := by
  show (iI z).toInt.toNat = _
  rw [iI_t (by omega)]
theorem iI_in {i : Int} {n : Nat} (hn : n ≤ 1000000) (h0 : 0 ≤ i) (h1 : i < n) : xin (iI i) n = true := xin_of (by rw [iI_t (by omega)]; exact h0) (by rw [iI_t (by omega)]; exact h1)
theorem iI_len {n : Nat} : n.toInt32 = iI n := by
  unfold iI
  rw [Int32.ofInt_eq_ofNat]
theorem iIL {z : Int} (h : -2147483648 ≤ z ∧ z ≤ 2147483647) : (iI z).toInt64 = iL z := by
  rw [← Int64.toInt_inj, Int32.toInt_toInt64, iI_t h, iL_t (by omega)]
theorem iLI (z : Int) : (iL z).toInt32 = iI z := by
  unfold iL iI
  simp
theorem lg_lt {a b : Int} (ha : -9223372036854775808 ≤ a ∧ a ≤ 9223372036854775807) (hb : -9223372036854775808 ≤ b ∧ b ≤ 9223372036854775807) : lg_cmp (iL a) (iL b) = iI (if b < a then 1 else if a = b then 0 else -1) := by
  unfold lg_cmp
  have e1 : (iL a > iL b) ↔ b < a := iL_lt hb ha
  have e2 := iL_inj ha hb
  by_cases q : b < a
  · rw [if_pos (e1.mpr q), if_pos q]; rfl
  · rw [if_neg (fun h => q (e1.mp h)), if_neg q]
    by_cases q2 : a = b
    · rw [if_pos (e2.mpr q2), if_pos q2]; rfl
    · rw [if_neg (fun h => q2 (e2.mp h)), if_neg q2]; rfl
/-- induction by a measure -/
theorem xind {σ : Type} (μ : σ → Nat) {P : σ → Prop} (hs : ∀ s, (∀ t, μ t < μ s → P t) → P s) (s : σ) : P s := by
  have key : ∀ n, ∀ s, μ s ≤ n → P s := by
    intro n
    induction n with
    | zero => intro s h; exact hs s fun t ht => absurd ht (by omega)
    | succ n ih => intro s h; exact hs s fun t ht => ih t (by omega)
  exact key _ s (Nat.le_refl _)
section XI
variable {d m pc : Nat} {ls st : List Value} {h : XH} {Q : Option Value → XH → Prop} {len ra rb rc rw : Nat}
theorem v_iadd {a b : Int} (r : xrow m pc = some (.iadd, len, ra, rb, rc, rw)) (k : XW d m (pc + 1) ls (.int (iI (a + b)) :: st) h Q) : XW d m pc ls (.int (iI b) :: .int (iI a) :: st) h Q := w_iadd r (by rw [iI_add]; exact k)
theorem v_ladd {a b : Int} (r : xrow m pc = some (.ladd, len, ra, rb, rc, rw)) (k : XW d m (pc + 1) ls (.long (iL (a + b)) :: st) h Q) : XW d m pc ls (.long (iL b) :: .long (iL a) :: st) h Q := w_ladd r (by rw [iL_add]; exact k)
theorem v_isub {a b : Int} (r : xrow m pc = some (.isub, len, ra, rb, rc, rw)) (k : XW d m (pc + 1) ls (.int (iI (a - b)) :: st) h Q) : XW d m pc ls (.int (iI b) :: .int (iI a) :: st) h Q := w_isub r (by rw [iI_sub]; exact k)
theorem v_lsub {a b : Int} (r : xrow m pc = some (.lsub, len, ra, rb, rc, rw)) (k : XW d m (pc + 1) ls (.long (iL (a - b)) :: st) h Q) : XW d m pc ls (.long (iL b) :: .long (iL a) :: st) h Q := w_lsub r (by rw [iL_sub]; exact k)
theorem v_imul {a b : Int} (r : xrow m pc = some (.imul, len, ra, rb, rc, rw)) (k : XW d m (pc + 1) ls (.int (iI (a * b)) :: st) h Q) : XW d m pc ls (.int (iI b) :: .int (iI a) :: st) h Q := w_imul r (by rw [iI_mul]; exact k)
theorem v_lmul {a b : Int} (r : xrow m pc = some (.lmul, len, ra, rb, rc, rw)) (k : XW d m (pc + 1) ls (.long (iL (a * b)) :: st) h Q) : XW d m pc ls (.long (iL b) :: .long (iL a) :: st) h Q := w_lmul r (by rw [iL_mul]; exact k)
theorem v_ineg {a : Int} (r : xrow m pc = some (.ineg, len, ra, rb, rc, rw)) (k : XW d m (pc + 1) ls (.int (iI (-a)) :: st) h Q) : XW d m pc ls (.int (iI a) :: st) h Q := w_ineg r (by rw [iI_neg]; exact k)
theorem v_lneg {a : Int} (r : xrow m pc = some (.lneg, len, ra, rb, rc, rw)) (k : XW d m (pc + 1) ls (.long (iL (-a)) :: st) h Q) : XW d m pc ls (.long (iL a) :: st) h Q := w_lneg r (by rw [iL_neg]; exact k)
theorem v_i2l {a : Int} (r : xrow m pc = some (.i2l, len, ra, rb, rc, rw)) (ha : -2147483648 ≤ a ∧ a ≤ 2147483647) (k : XW d m (pc + 1) ls (.long (iL a) :: st) h Q) : XW d m pc ls (.int (iI a) :: st) h Q := w_i2l r (by rw [iIL ha]; exact k)
theorem v_l2i {a : Int} (r : xrow m pc = some (.l2i, len, ra, rb, rc, rw)) (k : XW d m (pc + 1) ls (.int (iI a) :: st) h Q) : XW d m pc ls (.long (iL a) :: st) h Q := w_l2i r (by rw [iLI]; exact k)
theorem v_idiv {a b : Int} (r : xrow m pc = some (.idiv, len, ra, rb, rc, rw)) (ha : -2147483648 ≤ a ∧ a ≤ 2147483647) (hb : 0 < b ∧ b ≤ 2147483647) (k : XW d m (pc + 1) ls (.int (iI (a.tdiv b)) :: st) h Q) : XW d m pc ls (.int (iI b) :: .int (iI a) :: st) h Q := w_idiv r (by rw [iI_0, iI_inj (by omega) (by omega)]; omega) (by rw [iI_div ha (by omega) (by omega) (by omega)]; exact k)
theorem v_irem {a b : Int} (r : xrow m pc = some (.irem, len, ra, rb, rc, rw)) (ha : -2147483648 ≤ a ∧ a ≤ 2147483647) (hb : 0 < b ∧ b ≤ 2147483647) (k : XW d m (pc + 1) ls (.int (iI (a - a.tdiv b * b)) :: st) h Q) : XW d m pc ls (.int (iI b) :: .int (iI a) :: st) h Q := w_irem r (by rw [iI_0, iI_inj (by omega) (by omega)]; omega) (by rw [iI_div ha (by omega) (by omega) (by omega), iI_mul, iI_sub]; exact k)
theorem v_if_eq {a : Int} {o : Int} (r : xrow m pc = some (.ifCond .eq o, len, ra, rb, rc, rw)) (ha : -2147483648 ≤ a ∧ a ≤ 2147483647) (kt : a = 0 → XW d m ra ls st h Q) (kf : ¬ a = 0 → XW d m (pc + 3) ls st h Q) : XW d m pc ls (.int (iI a) :: st) h Q := w_if_eq r (fun q => kt ((iI_inj ha (by omega)).mp q)) (fun q => kf fun e => q ((iI_inj ha (by omega)).mpr e))
theorem v_if_ne {a : Int} {o : Int} (r : xrow m pc = some (.ifCond .ne o, len, ra, rb, rc, rw)) (ha : -2147483648 ≤ a ∧ a ≤ 2147483647) (kt : ¬ a = 0 → XW d m ra ls st h Q) (kf : a = 0 → XW d m (pc + 3) ls st h Q) : XW d m pc ls (.int (iI a) :: st) h Q := w_if_ne r (fun q => kt fun e => q (by rw [e]; rfl)) (fun q => kf ((iI_inj ha (by omega)).mp q))
theorem v_if_lt {a : Int} {o : Int} (r : xrow m pc = some (.ifCond .lt o, len, ra, rb, rc, rw)) (ha : -2147483648 ≤ a ∧ a ≤ 2147483647) (kt : a < 0 → XW d m ra ls st h Q) (kf : ¬ a < 0 → XW d m (pc + 3) ls st h Q) : XW d m pc ls (.int (iI a) :: st) h Q := w_if_lt r (fun q => kt ((iI_lt ha (by omega)).mp q)) (fun q => kf fun e => q ((iI_lt ha (by omega)).mpr e))
theorem v_if_ge {a : Int} {o : Int} (r : xrow m pc = some (.ifCond .ge o, len, ra, rb, rc, rw)) (ha : -2147483648 ≤ a ∧ a ≤ 2147483647) (kt : 0 ≤ a → XW d m ra ls st h Q) (kf : ¬ 0 ≤ a → XW d m (pc + 3) ls st h Q) : XW d m pc ls (.int (iI a) :: st) h Q := w_if_ge r (fun q => kt ((iI_le (by omega) ha).mp q)) (fun q => kf fun e => q ((iI_le (by omega) ha).mpr e))
theorem v_if_gt {a : Int} {o : Int} (r : xrow m pc = some (.ifCond .gt o, len, ra, rb, rc, rw)) (ha : -2147483648 ≤ a ∧ a ≤ 2147483647) (kt : 0 < a → XW d m ra ls st h Q) (kf : ¬ 0 < a → XW d m (pc + 3) ls st h Q) : XW d m pc ls (.int (iI a) :: st) h Q := w_if_gt r (fun q => kt ((iI_lt (by omega) ha).mp q)) (fun q => kf fun e => q ((iI_lt (by omega) ha).mpr e))
theorem v_if_le {a : Int} {o : Int} (r : xrow m pc = some (.ifCond .le o, len, ra, rb, rc, rw)) (ha : -2147483648 ≤ a ∧ a ≤ 2147483647) (kt : a ≤ 0 → XW d m ra ls st h Q) (kf : ¬ a ≤ 0 → XW d m (pc + 3) ls st h Q) : XW d m pc ls (.int (iI a) :: st) h Q := w_if_le r (fun q => kt ((iI_le ha (by omega)).mp q)) (fun q => kf fun e => q ((iI_le ha (by omega)).mpr e))
theorem v_ic_eq {a b : Int} {o : Int} (r : xrow m pc = some (.if_icmp .eq o, len, ra, rb, rc, rw)) (ha : -2147483648 ≤ a ∧ a ≤ 2147483647) (hb : -2147483648 ≤ b ∧ b ≤ 2147483647) (kt : a = b → XW d m ra ls st h Q) (kf : ¬ a = b → XW d m (pc + 3) ls st h Q) : XW d m pc ls (.int (iI b) :: .int (iI a) :: st) h Q := w_ic_eq r (fun q => kt ((iI_inj ha hb).mp q)) (fun q => kf fun e => q ((iI_inj ha hb).mpr e))
theorem v_ic_ne {a b : Int} {o : Int} (r : xrow m pc = some (.if_icmp .ne o, len, ra, rb, rc, rw)) (ha : -2147483648 ≤ a ∧ a ≤ 2147483647) (hb : -2147483648 ≤ b ∧ b ≤ 2147483647) (kt : ¬ a = b → XW d m ra ls st h Q) (kf : a = b → XW d m (pc + 3) ls st h Q) : XW d m pc ls (.int (iI b) :: .int (iI a) :: st) h Q := w_ic_ne r (fun q => kt fun e => q (by rw [e])) (fun q => kf ((iI_inj ha hb).mp q))
theorem v_ic_lt {a b : Int} {o : Int} (r : xrow m pc = some (.if_icmp .lt o, len, ra, rb, rc, rw)) (ha : -2147483648 ≤ a ∧ a ≤ 2147483647) (hb : -2147483648 ≤ b ∧ b ≤ 2147483647) (kt : a < b → XW d m ra ls st h Q) (kf : ¬ a < b → XW d m (pc + 3) ls st h Q) : XW d m pc ls (.int (iI b) :: .int (iI a) :: st) h Q := w_ic_lt r (fun q => kt ((iI_lt ha hb).mp q)) (fun q => kf fun e => q ((iI_lt ha hb).mpr e))
theorem v_ic_ge {a b : Int} {o : Int} (r : xrow m pc = some (.if_icmp .ge o, len, ra, rb, rc, rw)) (ha : -2147483648 ≤ a ∧ a ≤ 2147483647) (hb : -2147483648 ≤ b ∧ b ≤ 2147483647) (kt : b ≤ a → XW d m ra ls st h Q) (kf : ¬ b ≤ a → XW d m (pc + 3) ls st h Q) : XW d m pc ls (.int (iI b) :: .int (iI a) :: st) h Q := w_ic_ge r (fun q => kt ((iI_le hb ha).mp q)) (fun q => kf fun e => q ((iI_le hb ha).mpr e))
theorem v_ic_gt {a b : Int} {o : Int} (r : xrow m pc = some (.if_icmp .gt o, len, ra, rb, rc, rw)) (ha : -2147483648 ≤ a ∧ a ≤ 2147483647) (hb : -2147483648 ≤ b ∧ b ≤ 2147483647) (kt : b < a → XW d m ra ls st h Q) (kf : ¬ b < a → XW d m (pc + 3) ls st h Q) : XW d m pc ls (.int (iI b) :: .int (iI a) :: st) h Q := w_ic_gt r (fun q => kt ((iI_lt hb ha).mp q)) (fun q => kf fun e => q ((iI_lt hb ha).mpr e))
theorem v_ic_le {a b : Int} {o : Int} (r : xrow m pc = some (.if_icmp .le o, len, ra, rb, rc, rw)) (ha : -2147483648 ≤ a ∧ a ≤ 2147483647) (hb : -2147483648 ≤ b ∧ b ≤ 2147483647) (kt : a ≤ b → XW d m ra ls st h Q) (kf : ¬ a ≤ b → XW d m (pc + 3) ls st h Q) : XW d m pc ls (.int (iI b) :: .int (iI a) :: st) h Q := w_ic_le r (fun q => kt ((iI_le ha hb).mp q)) (fun q => kf fun e => q ((iI_le ha hb).mpr e))
theorem v_iald {i : Int} {a n : Nat} {v : Int32} (r : xrow m pc = some (.iaload, len, ra, rb, rc, rw)) (hk : gK h a = 1) (hz : gZ h a = n) (hn : n ≤ 1000000) (hi : 0 ≤ i ∧ i < n) (hv : gI h a i.toNat = v) (k : XW d m (pc + 1) ls (.int v :: st) h Q) : XW d m pc ls (.int (iI i) :: .ref a :: st) h Q :=
  w_iald r hk (by rw [hz]; exact iI_in hn hi.1 hi.2) (by rw [iI_nat hi.1 (by omega), hv]; exact k)
theorem v_bald {i : Int} {a n : Nat} {v : Int32} (r : xrow m pc = some (.baload, len, ra, rb, rc, rw)) (hk : gK h a = 2 ∨ gK h a = 3) (hz : gZ h a = n) (hn : n ≤ 1000000) (hi : 0 ≤ i ∧ i < n) (hv : gI h a i.toNat = v) (k : XW d m (pc + 1) ls (.int v :: st) h Q) : XW d m pc ls (.int (iI i) :: .ref a :: st) h Q :=
  w_bald r hk (by rw [hz]; exact iI_in hn hi.1 hi.2) (by rw [iI_nat hi.1 (by omega), hv]; exact k)
theorem v_lald {i : Int} {a n : Nat} {v : Int64} (r : xrow m pc = some (.laload, len, ra, rb, rc, rw)) (hk : gK h a = 4) (hz : gZ h a = n) (hn : n ≤ 1000000) (hi : 0 ≤ i ∧ i < n) (hv : gL h a i.toNat = v) (k : XW d m (pc + 1) ls (.long v :: st) h Q) : XW d m pc ls (.int (iI i) :: .ref a :: st) h Q :=
  w_lald r hk (by rw [hz]; exact iI_in hn hi.1 hi.2) (by rw [iI_nat hi.1 (by omega), hv]; exact k)
theorem v_iast {i : Int} {a n : Nat} {v : Int32} (r : xrow m pc = some (.iastore, len, ra, rb, rc, rw)) (hk : gK h a = 1) (ha : a < gN h) (hz : gZ h a = n) (hn : n ≤ 1000000) (hi : 0 ≤ i ∧ i < n) (k : XW d m (pc + 1) ls st (sI h a i.toNat v) Q) : XW d m pc ls (.int v :: .int (iI i) :: .ref a :: st) h Q :=
  w_iast r hk ha (by rw [hz]; exact iI_in hn hi.1 hi.2) (by rw [iI_nat hi.1 (by omega)]; exact k)
theorem v_bast {i : Int} {a n : Nat} {v : Int32} (r : xrow m pc = some (.bastore, len, ra, rb, rc, rw)) (hk : gK h a = 2) (ha : a < gN h) (hz : gZ h a = n) (hn : n ≤ 1000000) (hi : 0 ≤ i ∧ i < n) (k : XW d m (pc + 1) ls st (sI h a i.toNat v.toInt8.toInt32) Q) : XW d m pc ls (.int v :: .int (iI i) :: .ref a :: st) h Q :=
  w_bast r hk ha (by rw [hz]; exact iI_in hn hi.1 hi.2) (by rw [iI_nat hi.1 (by omega)]; exact k)
theorem v_zast {i : Int} {a n : Nat} {v : Int32} (r : xrow m pc = some (.bastore, len, ra, rb, rc, rw)) (hk : gK h a = 3) (ha : a < gN h) (hz : gZ h a = n) (hn : n ≤ 1000000) (hi : 0 ≤ i ∧ i < n) (hx : v = 0 ∨ v = 1) (k : XW d m (pc + 1) ls st (sI h a i.toNat v) Q) : XW d m pc ls (.int v :: .int (iI i) :: .ref a :: st) h Q :=
  w_zast r hk ha (by rw [hz]; exact iI_in hn hi.1 hi.2) hx (by rw [iI_nat hi.1 (by omega)]; exact k)
theorem v_last {i : Int} {a n : Nat} {v : Int64} (r : xrow m pc = some (.lastore, len, ra, rb, rc, rw)) (hk : gK h a = 4) (ha : a < gN h) (hz : gZ h a = n) (hn : n ≤ 1000000) (hi : 0 ≤ i ∧ i < n) (k : XW d m (pc + 1) ls st (sL h a i.toNat v) Q) : XW d m pc ls (.long v :: .int (iI i) :: .ref a :: st) h Q :=
  w_last r hk ha (by rw [hz]; exact iI_in hn hi.1 hi.2) (by rw [iI_nat hi.1 (by omega)]; exact k)
theorem v_len {a n : Nat} (r : xrow m pc = some (.arraylength, len, ra, rb, rc, rw)) (hk : 1 ≤ gK h a ∧ gK h a ≤ 5) (hz : gZ h a = n) (k : XW d m (pc + 1) ls (.int (iI n) :: st) h Q) : XW d m pc ls (.ref a :: st) h Q :=
  w_len r hk (by rw [hz, iI_len]; exact k)
theorem v_getI {i a : Nat} {v : Int32} (r : xrow m pc = some (.getfield i, len, ra, rb, 0, rw)) (hk : gK h a = ra) (hv : gI h a rb = v) (k : XW d m (pc + 3) ls (.int v :: st) h Q) : XW d m pc ls (.ref a :: st) h Q := w_getI r hk (by rw [hv]; exact k)
theorem v_getL {i a : Nat} {v : Int64} (r : xrow m pc = some (.getfield i, len, ra, rb, 1, rw)) (hk : gK h a = ra) (hv : gL h a rb = v) (k : XW d m (pc + 3) ls (.long v :: st) h Q) : XW d m pc ls (.ref a :: st) h Q := w_getL r hk (by rw [hv]; exact k)
theorem v_lcmp {a b : Int} (r : xrow m pc = some (.lcmp, len, ra, rb, rc, rw)) (ha : -9223372036854775808 ≤ a ∧ a ≤ 9223372036854775807) (hb : -9223372036854775808 ≤ b ∧ b ≤ 9223372036854775807) (k : XW d m (pc + 1) ls (.int (iI (if b < a then 1 else if a = b then 0 else -1)) :: st) h Q) : XW d m pc ls (.long (iL b) :: .long (iL a) :: st) h Q := w_lcmp r (by rw [lg_lt ha hb]; exact k)
end XI
