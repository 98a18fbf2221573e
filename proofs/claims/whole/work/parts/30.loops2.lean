/-! more loops -/
def prodTo (f : Int → Int) : Nat → Int
  | 0 => 1
  | n + 1 => prodTo f n * f n
theorem prodTo_congr {f g : Int → Int} {n : Nat} (hfg : ∀ i : Int, 0 ≤ i → i < n → f i = g i) : prodTo f n = prodTo g n := by
  induction n with
  | zero => rfl
  | succ n ih =>
    show prodTo f n * f n = prodTo g n * g n
    rw [ih (fun i a b => hfg i a (by omega)), hfg n (by omega) (by omega)]
theorem sumTo_in {f : Int → Int} {b : Int} {n : Nat} (hf : ∀ i : Int, 0 ≤ i → i < n → 0 ≤ f i ∧ f i ≤ b) : 0 ≤ sumTo f n ∧ sumTo f n ≤ b * n := by
  induction n with
  | zero => exact ⟨Int.le_refl _, by simp [sumTo]⟩
  | succ n ih =>
    have e := ih (fun i a b => hf i a (by omega))
    have e2 := hf n (by omega) (by omega)
    show 0 ≤ sumTo f n + f n ∧ sumTo f n + f n ≤ b * ((n + 1 : Nat) : Int)
    rw [Int.natCast_add, Int.mul_add]
    omega
/-- digits of a state, by four -/
def dg (s d : Int) : Int := s / 4 ^ d.toNat % 4
theorem Fr.n {P : Nat → Nat → Bool} {h h' : XH} {a : Nat} (f : Fr P h h') (ha : a < gN h) : a < gN h' := by rw [f.N]; exact ha
theorem p4 {d : Int} (hd : 0 ≤ d) : (2 : Int) ^ (2 * d).toNat = 4 ^ d.toNat := by
  rw [show (2 * d).toNat = 2 * d.toNat by omega, Int.pow_mul]
  rfl
theorem p4s {d : Int} (hd : 0 ≤ d ∧ d ≤ 5) : (4 : Int) ^ d.toNat = 1 ∨ (4 : Int) ^ d.toNat = 4 ∨ (4 : Int) ^ d.toNat = 16 ∨ (4 : Int) ^ d.toNat = 64 ∨ (4 : Int) ^ d.toNat = 256 ∨ (4 : Int) ^ d.toNat = 1024 := by
  have : d = 0 ∨ d = 1 ∨ d = 2 ∨ d = 3 ∨ d = 4 ∨ d = 5 := by omega
  rcases this with rfl | rfl | rfl | rfl | rfl | rfl <;> decide
theorem dg_in (s d : Int) : 0 ≤ dg s d ∧ dg s d ≤ 3 := by unfold dg; omega
section L2
variable {d : Nat} {h : XH} {K : Int32 → XH → Prop} {KU : XH → Prop} {rb : Nat}
theorem c_openDoubts (hL : Lay h) (hd : 0 ≤ zF h 80 3 ∧ zF h 80 3 ≤ 5) (hk : K (iI (sumTo (fun i => if zA h 86 i = -1 then 1 else 0) (zF h 80 3).toNat)) h) : XW d 54 0 [.ref 80, .null, .null] [] h (KI K) := by
  have key : ∀ i : Nat, i ≤ (zF h 80 3).toNat → XW d 54 4 [.ref 80, .int (iI (sumTo (fun i => if zA h 86 i = -1 then 1 else 0) i)), .int (iI i)] [] h (KI K) := by
    refine upto _ ?_ ?_
    · refine w_iload2 r_54_4 ?_
      refine w_aload0 r_54_5 ?_
      refine v_getI r_54_6 (Lk_80 hL) (gI_F h 80 3) ?_
      refine v_ic_ge r_54_9 (by first | exact zF_in _ _ _ | exact zA_in _ _ _ | omega) (by first | exact zF_in _ _ _ | exact zA_in _ _ _ | omega) (fun _ => ?_) (fun q => absurd q (by omega))
      refine w_iload1 r_54_31 ?_
      refine w_iret r_54_32 ?_
      exact hk
    · intro i hi ih
      have e1 : sumTo (fun i => if zA h 86 i = -1 then 1 else 0) (i + 1) = sumTo (fun i => if zA h 86 i = -1 then 1 else 0) i + (if zA h 86 i = -1 then 1 else 0) := rfl
      refine w_iload2 r_54_4 ?_
      refine w_aload0 r_54_5 ?_
      refine v_getI r_54_6 (Lk_80 hL) (gI_F h 80 3) ?_
      refine v_ic_ge r_54_9 (by first | exact zF_in _ _ _ | exact zA_in _ _ _ | omega) (by first | exact zF_in _ _ _ | exact zA_in _ _ _ | omega) (fun q => absurd q (by omega)) (fun _ => ?_)
      refine w_aload0 r_54_12 ?_
      refine w_getA (x := 86) r_54_13 (Lk_80 hL) (Lr_80_10 hL) (by decide) ?_
      refine w_iload2 r_54_16 ?_
      refine v_iald r_54_17 (Lk_86 hL) (Lz_86 hL) (by decide) (by omega) (gI_A h 86 _) ?_
      refine w_iconst (v := iI (-1)) r_54_18 rfl ?_
      refine v_ic_ne r_54_19 (by first | exact zF_in _ _ _ | exact zA_in _ _ _ | omega) (by first | exact zF_in _ _ _ | exact zA_in _ _ _ | omega) (fun c19 => ?_) (fun c19 => ?_)
      · refine w_iinc2 r_54_25 rfl (iI_add _ _) ?_
        refine w_goto r_54_28 ?_
        first | (rw [e1, if_pos (by omega)] at ih; exact ih) | (rw [e1, if_neg (by omega), Int.add_zero] at ih; exact ih)
      · refine w_iinc1 r_54_22 rfl (iI_add _ _) ?_
        refine w_iinc2 r_54_25 rfl (iI_add _ _) ?_
        refine w_goto r_54_28 ?_
        first | (rw [e1, if_pos (by omega)] at ih; exact ih) | (rw [e1, if_neg (by omega), Int.add_zero] at ih; exact ih)
  refine w_iconst (v := iI (0)) r_54_0 rfl ?_
  refine w_istore1 r_54_1 rfl ?_
  refine w_iconst (v := iI (0)) r_54_2 rfl ?_
  refine w_istore2 r_54_3 rfl ?_
  exact key 0 (by omega)
theorem c_truthCount (hL : Lay h) (hd : 0 ≤ zF h 80 3 ∧ zF h 80 3 ≤ 5) (k0 : zF h 80 2 = 0 → K (iI 0) h)
    (hk : ¬ zF h 80 2 = 0 → K (iI (prodTo (fun i => if zA h 86 i = -1 then zA h 89 i else 1) (zF h 80 3).toNat)) h) : XW d 55 0 [.ref 80, .null, .null] [] h (KI K) := by
  have key : ¬ zF h 80 2 = 0 → ∀ i : Nat, i ≤ (zF h 80 3).toNat → XW d 55 13 [.ref 80, .int (iI (prodTo (fun i => if zA h 86 i = -1 then zA h 89 i else 1) i)), .int (iI i)] [] h (KI K) := by
    intro hc
    refine upto _ ?_ ?_
    · refine w_iload2 r_55_13 ?_
      refine w_aload0 r_55_14 ?_
      refine v_getI r_55_15 (Lk_80 hL) (gI_F h 80 3) ?_
      refine v_ic_ge r_55_18 (by first | exact zF_in _ _ _ | exact zA_in _ _ _ | omega) (by first | exact zF_in _ _ _ | exact zA_in _ _ _ | omega) (fun _ => ?_) (fun q => absurd q (by omega))
      refine w_iload1 r_55_46 ?_
      refine w_iret r_55_47 ?_
      exact hk hc
    · intro i hi ih
      have e1 : prodTo (fun i => if zA h 86 i = -1 then zA h 89 i else 1) (i + 1) = prodTo (fun i => if zA h 86 i = -1 then zA h 89 i else 1) i * (if zA h 86 i = -1 then zA h 89 i else 1) := rfl
      refine w_iload2 r_55_13 ?_
      refine w_aload0 r_55_14 ?_
      refine v_getI r_55_15 (Lk_80 hL) (gI_F h 80 3) ?_
      refine v_ic_ge r_55_18 (by first | exact zF_in _ _ _ | exact zA_in _ _ _ | omega) (by first | exact zF_in _ _ _ | exact zA_in _ _ _ | omega) (fun q => absurd q (by omega)) (fun _ => ?_)
      refine w_aload0 r_55_21 ?_
      refine w_getA (x := 86) r_55_22 (Lk_80 hL) (Lr_80_10 hL) (by decide) ?_
      refine w_iload2 r_55_25 ?_
      refine v_iald r_55_26 (Lk_86 hL) (Lz_86 hL) (by decide) (by omega) (gI_A h 86 _) ?_
      refine w_iconst (v := iI (-1)) r_55_27 rfl ?_
      refine v_ic_ne r_55_28 (by first | exact zF_in _ _ _ | exact zA_in _ _ _ | omega) (by first | exact zF_in _ _ _ | exact zA_in _ _ _ | omega) (fun c28 => ?_) (fun c28 => ?_)
      · refine w_iinc2 r_55_40 rfl (iI_add _ _) ?_
        refine w_goto r_55_43 ?_
        first | (rw [e1, if_pos (by omega)] at ih; exact ih) | (rw [e1, if_neg (by omega), Int.mul_one] at ih; exact ih)
      · refine w_iload1 r_55_31 ?_
        refine w_aload0 r_55_32 ?_
        refine w_getA (x := 89) r_55_33 (Lk_80 hL) (Lr_80_13 hL) (by decide) ?_
        refine w_iload2 r_55_36 ?_
        refine v_iald r_55_37 (Lk_89 hL) (Lz_89 hL) (by decide) (by omega) (gI_A h 89 _) ?_
        refine v_imul r_55_38 ?_
        refine w_istore1 r_55_39 rfl ?_
        refine w_iinc2 r_55_40 rfl (iI_add _ _) ?_
        refine w_goto r_55_43 ?_
        first | (rw [e1, if_pos (by omega)] at ih; exact ih) | (rw [e1, if_neg (by omega), Int.mul_one] at ih; exact ih)
  refine w_aload0 r_55_0 ?_
  refine v_getI r_55_1 (Lk_80 hL) (gI_F h 80 2) ?_
  refine v_if_ne r_55_4 (by first | exact zF_in _ _ _ | exact zA_in _ _ _ | omega) (fun c4 => ?_) (fun c4 => ?_)
  · refine w_iconst (v := iI (1)) r_55_9 rfl ?_
    refine w_istore1 r_55_10 rfl ?_
    refine w_iconst (v := iI (0)) r_55_11 rfl ?_
    refine w_istore2 r_55_12 rfl ?_
    exact key c4 0 (by omega)
  · refine w_iconst (v := iI (0)) r_55_7 rfl ?_
    refine w_iret r_55_8 ?_
    exact k0 c4
theorem m_truthMany (hL : Lay h) (hd : 0 ≤ zF h 118 37 ∧ zF h 118 37 ≤ 5)
    (hk : K (iI (prodTo (fun i => if zA h 137 i = -1 then zA h 142 i else 1) (zF h 118 37).toNat)) h) : XW d 235 0 [.ref 118, .null, .null] [] h (KI K) := by
  have key : ∀ i : Nat, i ≤ (zF h 118 37).toNat → XW d 235 4 [.ref 118, .int (iI (prodTo (fun i => if zA h 137 i = -1 then zA h 142 i else 1) i)), .int (iI i)] [] h (KI K) := by
    refine upto _ ?_ ?_
    · refine w_iload2 r_235_4 ?_
      refine w_aload0 r_235_5 ?_
      refine v_getI r_235_6 (Lk_118 hL) (gI_F h 118 37) ?_
      refine v_ic_ge r_235_9 (by first | exact zF_in _ _ _ | exact zA_in _ _ _ | omega) (by first | exact zF_in _ _ _ | exact zA_in _ _ _ | omega) (fun _ => ?_) (fun q => absurd q (by omega))
      refine w_iload1 r_235_41 ?_
      refine w_iret r_235_42 ?_
      exact hk
    · intro i hi ih
      have e1 : prodTo (fun i => if zA h 137 i = -1 then zA h 142 i else 1) (i + 1) = prodTo (fun i => if zA h 137 i = -1 then zA h 142 i else 1) i * (if zA h 137 i = -1 then zA h 142 i else 1) := rfl
      refine w_iload2 r_235_4 ?_
      refine w_aload0 r_235_5 ?_
      refine v_getI r_235_6 (Lk_118 hL) (gI_F h 118 37) ?_
      refine v_ic_ge r_235_9 (by first | exact zF_in _ _ _ | exact zA_in _ _ _ | omega) (by first | exact zF_in _ _ _ | exact zA_in _ _ _ | omega) (fun q => absurd q (by omega)) (fun _ => ?_)
      refine w_aload0 r_235_12 ?_
      refine w_getA (x := 137) r_235_13 (Lk_118 hL) (Lr_118_45 hL) (by decide) ?_
      refine w_iload2 r_235_16 ?_
      refine v_iald r_235_17 (Lk_137 hL) (Lz_137 hL) (by decide) (by omega) (gI_A h 137 _) ?_
      refine w_iconst (v := iI (-1)) r_235_18 rfl ?_
      refine v_ic_ne r_235_19 (by first | exact zF_in _ _ _ | exact zA_in _ _ _ | omega) (by first | exact zF_in _ _ _ | exact zA_in _ _ _ | omega) (fun c19 => ?_) (fun c19 => ?_)
      · refine w_iload1 r_235_33 ?_
        refine w_istore1 r_235_34 rfl ?_
        refine w_iinc2 r_235_35 rfl (iI_add _ _) ?_
        refine w_goto r_235_38 ?_
        first | (rw [e1, if_pos (by omega)] at ih; exact ih) | (rw [e1, if_neg (by omega), Int.mul_one] at ih; exact ih)
      · refine w_iload1 r_235_22 ?_
        refine w_aload0 r_235_23 ?_
        refine w_getA (x := 142) r_235_24 (Lk_118 hL) (Lr_118_53 hL) (by decide) ?_
        refine w_iload2 r_235_27 ?_
        refine v_iald r_235_28 (Lk_142 hL) (Lz_142 hL) (by decide) (by omega) (gI_A h 142 _) ?_
        refine v_imul r_235_29 ?_
        refine w_goto r_235_30 ?_
        refine w_istore1 r_235_34 rfl ?_
        refine w_iinc2 r_235_35 rfl (iI_add _ _) ?_
        refine w_goto r_235_38 ?_
        first | (rw [e1, if_pos (by omega)] at ih; exact ih) | (rw [e1, if_neg (by omega), Int.mul_one] at ih; exact ih)
  refine w_iconst (v := iI (1)) r_235_0 rfl ?_
  refine w_istore1 r_235_1 rfl ?_
  refine w_iconst (v := iI (0)) r_235_2 rfl ?_
  refine w_istore2 r_235_3 rfl ?_
  exact key 0 (by omega)
theorem c_fill {a n : Nat} {v : Int32} (hk1 : gK h a = 1) (hz : gZ h a = n) (hn : n ≤ 1000000) (ha : a < gN h) (hk : ∀ h', Fr (pA [a]) h h' → (∀ i : Nat, gI h' a i = if i < n then v else gI h a i) → KU h') : XW d 281 0 [.ref a, .int v, .null, .null] [] h (KV KU) := by
  have key : ∀ i : Nat, i ≤ n → ∀ h1, Fr (pA [a]) h h1 → (∀ j : Nat, gI h1 a j = if j < i then v else gI h a j) → XW d 281 5 [.ref a, .int v, .int (iI i), .int (iI n)] [] h1 (KV KU) := by
    refine upto _ ?_ ?_
    · intro h1 hf hc
      refine w_iload2 r_281_5 ?_
      refine w_iload3 r_281_6 ?_
      refine v_ic_ge r_281_7 (by first | exact zF_in _ _ _ | exact zA_in _ _ _ | omega) (by first | exact zF_in _ _ _ | exact zA_in _ _ _ | omega) (fun _ => ?_) (fun q => absurd q (by omega))
      refine w_vret r_281_20 ?_
      exact hk h1 hf hc
    · intro i hi ih h1 hf hc
      refine w_iload2 r_281_5 ?_
      refine w_iload3 r_281_6 ?_
      refine v_ic_ge r_281_7 (by first | exact zF_in _ _ _ | exact zA_in _ _ _ | omega) (by first | exact zF_in _ _ _ | exact zA_in _ _ _ | omega) (fun q => absurd q (by omega)) (fun _ => ?_)
      refine w_aload0 r_281_10 ?_
      refine w_iload2 r_281_11 ?_
      refine w_iload1 r_281_12 ?_
      refine v_iast r_281_13 ((hf.K _).trans hk1) (hf.n ha) ((hf.Z _).trans hz) hn (by omega) ?_
      refine w_iinc2 r_281_14 rfl (iI_add _ _) ?_
      refine w_goto r_281_17 ?_
      refine ih _ (hf.sI a _ v (by simp [pA])) (fun j => ?_)
      rw [sI_here, hc]
      by_cases e : j = i
      · rw [if_pos (by omega), if_pos (by omega)]
      · rw [if_neg (by omega)]; by_cases e2 : j < i
        · rw [if_pos e2, if_pos (by omega)]
        · rw [if_neg e2, if_neg (by omega)]
  refine w_iconst (v := iI (0)) r_281_0 rfl ?_
  refine w_istore2 r_281_1 rfl ?_
  refine w_aload0 r_281_2 ?_
  refine v_len r_281_3 (by rw [hk1]; decide) hz ?_
  refine w_istore3 r_281_4 rfl ?_
  exact key 0 (by omega) h (Fr.refl _ _) (fun j => by rw [if_neg (by omega)])
theorem c_within {x : Int} (hx : R32 x) (hk : K (iI (max 0 (min 4 x))) h) : XW (d + 1) 25 0 [.int (iI x)] [] h (KI K) := by
  refine w_iconst (v := iI (0)) r_25_0 rfl ?_
  refine w_iconst (v := iI (4)) r_25_1 rfl ?_
  refine w_iload0 r_25_2 ?_
  refine k_270 r_25_3 (Nat.le_of_ble_eq_true rfl) ?_
  refine c_min (by first | exact zF_in _ _ _ | exact zA_in _ _ _ | omega) (by first | exact zF_in _ _ _ | exact zA_in _ _ _ | omega) ?_
  refine k_268 r_25_6 (Nat.le_of_ble_eq_true rfl) ?_
  refine c_max (by first | exact zF_in _ _ _ | exact zA_in _ _ _ | omega) (by first | exact zF_in _ _ _ | exact zA_in _ _ _ | omega) ?_
  refine w_iret r_25_9 ?_
  exact hk
theorem c_stateBits {x y : Int} (hx : 0 ≤ x ∧ x < 5) (hy : 0 ≤ y ∧ y < 3) (hk : K (iI ((y + 1) * 4 ^ x.toNat)) h) : XW d 58 0 [.ref 80, .int (iI x), .int (iI y)] [] h (KI K) := by
  have e := p4 hx.1
  have e2 := p4s (d := x) (by omega)
  have e3 : (y + 1) * 2 ^ (2 * x).toNat < 4294967296 := by
    rw [e]; rcases e2 with q | q | q | q | q | q <;> rw [q] <;> omega
  rw [← e] at hk
  refine w_iload2 r_58_0 ?_
  refine w_iconst (v := iI (1)) r_58_1 rfl ?_
  refine v_iadd r_58_2 ?_
  refine w_iconst (v := iI (2)) r_58_3 rfl ?_
  refine w_iload1 r_58_4 ?_
  refine v_imul r_58_5 ?_
  refine v_ishl (hx := by omega) (hk := by omega) (hb := e3) r_58_6 ?_
  refine w_iret r_58_7 ?_
  exact hk
theorem c_choiceIn {x y : Int} (hx : 0 ≤ x ∧ x ≤ 2147483647) (hy : 0 ≤ y ∧ y < 5) (hk : K (iI (dg x y - 1)) h) : XW d 60 0 [.ref 80, .int (iI x), .int (iI y)] [] h (KI K) := by
  have e := p4 hy.1
  have e2 := p4s (d := y) (by omega)
  unfold dg at hk
  rw [← e] at hk
  have e3 : 0 ≤ x / 2 ^ (2 * y).toNat ∧ x / 2 ^ (2 * y).toNat ≤ 2147483647 := by
    rw [e]; rcases e2 with q | q | q | q | q | q <;> rw [q] <;> omega
  refine w_iload1 r_60_0 ?_
  refine w_iconst (v := iI (2)) r_60_1 rfl ?_
  refine w_iload2 r_60_2 ?_
  refine v_imul r_60_3 ?_
  refine v_ishr (hx := hx) (hk := by omega) r_60_4 ?_
  refine w_iconst (v := iI (3)) r_60_5 rfl ?_
  refine v_mask 2 (hm := by decide) (hk := by decide) (hx := e3) r_60_6 ?_
  refine w_iconst (v := iI (1)) r_60_7 rfl ?_
  refine v_isub r_60_8 ?_
  refine w_iret r_60_9 ?_
  exact hk
theorem m_power {x : Int} (hx : 0 ≤ x ∧ x < 5) (hk : K (iI (4 ^ x.toNat)) h) : XW d 212 0 [.int (iI x)] [] h (KI K) := by
  have e := p4 hx.1
  have e2 := p4s (d := x) (by omega)
  have e3 : (1 : Int) * 2 ^ (2 * x).toNat < 4294967296 := by
    rw [e]; rcases e2 with q | q | q | q | q | q <;> rw [q] <;> omega
  rw [← e, ← Int.one_mul (2 ^ (2 * x).toNat)] at hk
  refine w_iconst (v := iI (1)) r_212_0 rfl ?_
  refine w_iconst (v := iI (2)) r_212_1 rfl ?_
  refine w_iload0 r_212_2 ?_
  refine v_imul r_212_3 ?_
  refine v_ishl (hx := by omega) (hk := by omega) (hb := e3) r_212_4 ?_
  refine w_iret r_212_5 ?_
  exact hk
theorem m_digit {x y : Int} (hx : 0 ≤ x ∧ x ≤ 2147483647) (hy : 0 ≤ y ∧ y < 5) (hk : K (iI (dg x y)) h) : XW d 213 0 [.int (iI x), .int (iI y)] [] h (KI K) := by
  have e := p4 hy.1
  have e2 := p4s (d := y) (by omega)
  unfold dg at hk
  rw [← e] at hk
  have e3 : 0 ≤ x / 2 ^ (2 * y).toNat ∧ x / 2 ^ (2 * y).toNat ≤ 2147483647 := by
    rw [e]; rcases e2 with q | q | q | q | q | q <;> rw [q] <;> omega
  refine w_iload0 r_213_0 ?_
  refine w_iconst (v := iI (2)) r_213_1 rfl ?_
  refine w_iload1 r_213_2 ?_
  refine v_imul r_213_3 ?_
  refine v_ishr (hx := hx) (hk := by omega) r_213_4 ?_
  refine w_iconst (v := iI (3)) r_213_5 rfl ?_
  refine v_mask 2 (hm := by decide) (hk := by decide) (hx := e3) r_213_6 ?_
  refine w_iret r_213_7 ?_
  exact hk
end L2
