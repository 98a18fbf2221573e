/-! small methods of the Model; more of the class -/
section SM2
variable {d : Nat} {h : XH} {K : Int32 → XH → Prop} {KU : XH → Prop} {rb : Nat}
theorem m_good (hL : Lay h) (hk : KU (sI (sI h 118 0 (iI 0)) 118 39 (iI 0))) : XW d 164 0 [.ref 118] [] h (KV KU) := by
  refine w_aload0 r_164_0 ?_
  refine w_iconst (v := iI (0)) r_164_1 rfl ?_
  refine w_putI r_164_2 (Lk_118 hL) (Ln_118 hL) ?_
  refine w_aload0 r_164_5 ?_
  refine w_iconst (v := iI (0)) r_164_6 rfl ?_
  refine w_putI r_164_7 (Lk_118 hL) (Ln_118 hL) ?_
  refine w_vret r_164_10 ?_
  exact hk
theorem m_no {x : Int32} (hL : Lay h) (hk : K (iI (-1)) (sI h 118 39 x)) : XW d 165 0 [.ref 118, .int x] [] h (KI K) := by
  refine w_aload0 r_165_0 ?_
  refine w_iload1 r_165_1 ?_
  refine w_putI r_165_2 (Lk_118 hL) (Ln_118 hL) ?_
  refine w_iconst (v := iI (-1)) r_165_5 rfl ?_
  refine w_iret r_165_6 ?_
  exact hk
theorem m_not {x : Int32} (hL : Lay h) (hk : K (iI 0) (sI h 118 39 x)) : XW d 166 0 [.ref 118, .int x] [] h (KI K) := by
  refine w_aload0 r_166_0 ?_
  refine w_iload1 r_166_1 ?_
  refine w_putI r_166_2 (Lk_118 hL) (Ln_118 hL) ?_
  refine w_iconst (v := iI (0)) r_166_5 rfl ?_
  refine w_zret r_166_6 (by decide) ?_
  exact hk
theorem m_within {x lo hi : Int} (hx : -2147483648 ≤ x ∧ x ≤ 2147483647) (h1 : -2147483648 ≤ lo ∧ lo ≤ 2147483647) (h2 : -2147483648 ≤ hi ∧ hi ≤ 2147483647) (ht : lo ≤ x ∧ x ≤ hi → K (iI 1) h) (hf : ¬ (lo ≤ x ∧ x ≤ hi) → K (iI 0) h) : XW d 167 0 [.int (iI x), .int (iI lo), .int (iI hi)] [] h (KI K) := by
  refine w_iload0 r_167_0 ?_
  refine w_iload1 r_167_1 ?_
  refine v_ic_lt r_167_2 (by first | exact zF_in _ _ _ | exact zA_in _ _ _ | omega) (by first | exact zF_in _ _ _ | exact zA_in _ _ _ | omega) (fun c2 => ?_) (fun c2 => ?_)
  · refine w_iconst (v := iI (0)) r_167_14 rfl ?_
    refine w_zret r_167_15 (by decide) ?_
    first | exact ht (by omega) | exact hf (by omega)
  · refine w_iload0 r_167_5 ?_
    refine w_iload2 r_167_6 ?_
    refine v_ic_gt r_167_7 (by first | exact zF_in _ _ _ | exact zA_in _ _ _ | omega) (by first | exact zF_in _ _ _ | exact zA_in _ _ _ | omega) (fun c7 => ?_) (fun c7 => ?_)
    · refine w_iconst (v := iI (0)) r_167_14 rfl ?_
      refine w_zret r_167_15 (by decide) ?_
      first | exact ht (by omega) | exact hf (by omega)
    · refine w_iconst (v := iI (1)) r_167_10 rfl ?_
      refine w_goto r_167_11 ?_
      refine w_zret r_167_15 (by decide) ?_
      first | exact ht (by omega) | exact hf (by omega)
/-- bounds that the Model's own fields keep -/
def MB (h : XH) : Prop := (zF h 118 12 = 0 ∨ zF h 118 12 = 1) ∧ (zF h 118 34 = 0 ∨ zF h 118 34 = 1) ∧ (0 ≤ zF h 118 22 ∧ zF h 118 22 ≤ 8) ∧ (0 ≤ zF h 118 35 ∧ zF h 118 35 ≤ 10) ∧ (0 ≤ zF h 118 36 ∧ zF h 118 36 ≤ 10) ∧ (0 ≤ zF h 118 37 ∧ zF h 118 37 ≤ 5)
/-- the fields that the Model's guards read are as in another heap -/
def MBe (h h0 : XH) : Prop := zF h 118 12 = zF h0 118 12 ∧ zF h 118 22 = zF h0 118 22 ∧ zF h 118 34 = zF h0 118 34 ∧ zF h 118 35 = zF h0 118 35 ∧ zF h 118 36 = zF h0 118 36 ∧ zF h 118 37 = zF h0 118 37
theorem m_isGround {h0 : XH} {x : Int} (hx : -2147483648 ≤ x ∧ x ≤ 2147483647) (hL : Lay h) (he : MBe h h0) (hM : MB h0) (ht : zF h0 118 12 = 1 ∧ 0 ≤ x ∧ x < zF h0 118 22 → K (iI 1) h) (hf : ¬ (zF h0 118 12 = 1 ∧ 0 ≤ x ∧ x < zF h0 118 22) → K (iI 0) h) : XW (d + 1) 192 0 [.ref 118, .int (iI x)] [] h (KI K) := by
  obtain ⟨m1, m2, m3, m4, m5, m6⟩ := hM
  obtain ⟨e1, e2, e3, e4, e5, e6⟩ := he
  have f1 := gI_F h 118 12
  have f2 := gI_F h 118 22
  have f3 := gI_F h 118 34
  have f4 := gI_F h 118 35
  have f5 := gI_F h 118 36
  have f6 := gI_F h 118 37
  rw [e1] at f1
  rw [e2] at f2
  rw [e3] at f3
  rw [e4] at f4
  rw [e5] at f5
  rw [e6] at f6
  refine w_aload0 r_192_0 ?_
  refine v_getI r_192_1 (Lk_118 hL) f1 ?_
  refine v_if_eq r_192_4 (by first | exact zF_in _ _ _ | exact zA_in _ _ _ | omega) (fun c4 => ?_) (fun c4 => ?_)
  · refine w_iconst (v := iI (0)) r_192_25 rfl ?_
    refine w_zret r_192_26 (by decide) ?_
    first | exact ht (by omega) | exact hf (by omega)
  · refine w_iload1 r_192_7 ?_
    refine w_iconst (v := iI (0)) r_192_8 rfl ?_
    refine w_aload0 r_192_9 ?_
    refine v_getI r_192_10 (Lk_118 hL) f2 ?_
    refine w_iconst (v := iI (1)) r_192_13 rfl ?_
    refine v_isub r_192_14 ?_
    refine k_167 r_192_15 (Nat.le_of_ble_eq_true rfl) ?_
    refine m_within (by first | exact zF_in _ _ _ | exact zA_in _ _ _ | omega) (by first | exact zF_in _ _ _ | exact zA_in _ _ _ | omega) (by first | exact zF_in _ _ _ | exact zA_in _ _ _ | omega) (fun c15 => ?_) (fun c15 => ?_)
    · refine v_if_eq r_192_18 (by first | exact zF_in _ _ _ | exact zA_in _ _ _ | omega) (fun q => absurd q (by omega)) (fun _ => ?_)
      refine w_iconst (v := iI (1)) r_192_21 rfl ?_
      refine w_goto r_192_22 ?_
      refine w_zret r_192_26 (by decide) ?_
      first | exact ht (by omega) | exact hf (by omega)
    · refine v_if_eq r_192_18 (by first | exact zF_in _ _ _ | exact zA_in _ _ _ | omega) (fun _ => ?_) (fun q => absurd q (by omega))
      refine w_iconst (v := iI (0)) r_192_25 rfl ?_
      refine w_zret r_192_26 (by decide) ?_
      first | exact ht (by omega) | exact hf (by omega)
theorem m_isDoubt {h0 : XH} {x : Int} (hx : -2147483648 ≤ x ∧ x ≤ 2147483647) (hL : Lay h) (he : MBe h h0) (hM : MB h0) (ht : zF h0 118 34 = 1 ∧ 0 ≤ x ∧ x < zF h0 118 37 → K (iI 1) h) (hf : ¬ (zF h0 118 34 = 1 ∧ 0 ≤ x ∧ x < zF h0 118 37) → K (iI 0) h) : XW (d + 1) 198 0 [.ref 118, .int (iI x)] [] h (KI K) := by
  obtain ⟨m1, m2, m3, m4, m5, m6⟩ := hM
  obtain ⟨e1, e2, e3, e4, e5, e6⟩ := he
  have f1 := gI_F h 118 12
  have f2 := gI_F h 118 22
  have f3 := gI_F h 118 34
  have f4 := gI_F h 118 35
  have f5 := gI_F h 118 36
  have f6 := gI_F h 118 37
  rw [e1] at f1
  rw [e2] at f2
  rw [e3] at f3
  rw [e4] at f4
  rw [e5] at f5
  rw [e6] at f6
  refine w_aload0 r_198_0 ?_
  refine v_getI r_198_1 (Lk_118 hL) f3 ?_
  refine v_if_eq r_198_4 (by first | exact zF_in _ _ _ | exact zA_in _ _ _ | omega) (fun c4 => ?_) (fun c4 => ?_)
  · refine w_iconst (v := iI (0)) r_198_25 rfl ?_
    refine w_zret r_198_26 (by decide) ?_
    first | exact ht (by omega) | exact hf (by omega)
  · refine w_iload1 r_198_7 ?_
    refine w_iconst (v := iI (0)) r_198_8 rfl ?_
    refine w_aload0 r_198_9 ?_
    refine v_getI r_198_10 (Lk_118 hL) f6 ?_
    refine w_iconst (v := iI (1)) r_198_13 rfl ?_
    refine v_isub r_198_14 ?_
    refine k_167 r_198_15 (Nat.le_of_ble_eq_true rfl) ?_
    refine m_within (by first | exact zF_in _ _ _ | exact zA_in _ _ _ | omega) (by first | exact zF_in _ _ _ | exact zA_in _ _ _ | omega) (by first | exact zF_in _ _ _ | exact zA_in _ _ _ | omega) (fun c15 => ?_) (fun c15 => ?_)
    · refine v_if_eq r_198_18 (by first | exact zF_in _ _ _ | exact zA_in _ _ _ | omega) (fun q => absurd q (by omega)) (fun _ => ?_)
      refine w_iconst (v := iI (1)) r_198_21 rfl ?_
      refine w_goto r_198_22 ?_
      refine w_zret r_198_26 (by decide) ?_
      first | exact ht (by omega) | exact hf (by omega)
    · refine v_if_eq r_198_18 (by first | exact zF_in _ _ _ | exact zA_in _ _ _ | omega) (fun _ => ?_) (fun q => absurd q (by omega))
      refine w_iconst (v := iI (0)) r_198_25 rfl ?_
      refine w_zret r_198_26 (by decide) ?_
      first | exact ht (by omega) | exact hf (by omega)
theorem prod_in {a b : Int} (ha : 0 ≤ a ∧ a ≤ 10) (hb : 0 ≤ b ∧ b ≤ 10) : 0 ≤ a * b ∧ a * b ≤ 100 := by
  constructor
  · exact Int.mul_nonneg ha.1 hb.1
  · exact Int.le_trans (Int.mul_le_mul_of_nonneg_right ha.2 hb.1) (by omega)
theorem m_isCell {h0 : XH} {x : Int} (hx : -2147483648 ≤ x ∧ x ≤ 2147483647) (hL : Lay h) (he : MBe h h0) (hM : MB h0) (ht : zF h0 118 34 = 1 ∧ 0 ≤ x ∧ x < zF h0 118 35 * zF h0 118 36 → K (iI 1) h) (hf : ¬ (zF h0 118 34 = 1 ∧ 0 ≤ x ∧ x < zF h0 118 35 * zF h0 118 36) → K (iI 0) h) : XW (d + 1) 197 0 [.ref 118, .int (iI x)] [] h (KI K) := by
  obtain ⟨m1, m2, m3, m4, m5, m6⟩ := hM
  obtain ⟨e1, e2, e3, e4, e5, e6⟩ := he
  have f1 := gI_F h 118 12
  have f2 := gI_F h 118 22
  have f3 := gI_F h 118 34
  have f4 := gI_F h 118 35
  have f5 := gI_F h 118 36
  have f6 := gI_F h 118 37
  rw [e1] at f1
  rw [e2] at f2
  rw [e3] at f3
  rw [e4] at f4
  rw [e5] at f5
  rw [e6] at f6
  have hp := prod_in m4 m5
  refine w_aload0 r_197_0 ?_
  refine v_getI r_197_1 (Lk_118 hL) f3 ?_
  refine v_if_eq r_197_4 (by first | exact zF_in _ _ _ | exact zA_in _ _ _ | omega) (fun c4 => ?_) (fun c4 => ?_)
  · refine w_iconst (v := iI (0)) r_197_30 rfl ?_
    refine w_zret r_197_31 (by decide) ?_
    first | exact ht (by omega) | exact hf (by omega)
  · refine w_iload1 r_197_7 ?_
    refine w_iconst (v := iI (0)) r_197_8 rfl ?_
    refine w_aload0 r_197_9 ?_
    refine v_getI r_197_10 (Lk_118 hL) f4 ?_
    refine w_aload0 r_197_13 ?_
    refine v_getI r_197_14 (Lk_118 hL) f5 ?_
    refine v_imul r_197_17 ?_
    refine w_iconst (v := iI (1)) r_197_18 rfl ?_
    refine v_isub r_197_19 ?_
    refine k_167 r_197_20 (Nat.le_of_ble_eq_true rfl) ?_
    refine m_within (by first | exact zF_in _ _ _ | exact zA_in _ _ _ | omega) (by first | exact zF_in _ _ _ | exact zA_in _ _ _ | omega) (by first | exact zF_in _ _ _ | exact zA_in _ _ _ | omega) (fun c20 => ?_) (fun c20 => ?_)
    · refine v_if_eq r_197_23 (by first | exact zF_in _ _ _ | exact zA_in _ _ _ | omega) (fun q => absurd q (by omega)) (fun _ => ?_)
      refine w_iconst (v := iI (1)) r_197_26 rfl ?_
      refine w_goto r_197_27 ?_
      refine w_zret r_197_31 (by decide) ?_
      first | exact ht (by omega) | exact hf (by omega)
    · refine v_if_eq r_197_23 (by first | exact zF_in _ _ _ | exact zA_in _ _ _ | omega) (fun _ => ?_) (fun q => absurd q (by omega))
      refine w_iconst (v := iI (0)) r_197_30 rfl ?_
      refine w_zret r_197_31 (by decide) ?_
      first | exact ht (by omega) | exact hf (by omega)
theorem c_orUntold {x : Int} (hx : -2147483648 ≤ x ∧ x ≤ 2147483647) (hk : K (iI (if x = -1 then -2 else x)) h) : XW d 133 0 [.int (iI x)] [] h (KI K) := by
  refine w_iload0 r_133_0 ?_
  refine w_iconst (v := iI (-1)) r_133_1 rfl ?_
  refine v_ic_ne r_133_2 (by first | exact zF_in _ _ _ | exact zA_in _ _ _ | omega) (by first | exact zF_in _ _ _ | exact zA_in _ _ _ | omega) (fun c2 => ?_) (fun c2 => ?_)
  · refine w_iload0 r_133_10 ?_
    refine w_iret r_133_11 ?_
    first | (rw [if_pos (by omega)] at hk; exact hk) | (rw [if_neg (by omega)] at hk; exact hk)
  · refine w_bipush (v := iI (-2)) r_133_5 rfl ?_
    refine w_goto r_133_7 ?_
    refine w_iret r_133_11 ?_
    first | (rw [if_pos (by omega)] at hk; exact hk) | (rw [if_neg (by omega)] at hk; exact hk)
theorem c_areCells {x y : Int} (hx : -2147483648 ≤ x ∧ x ≤ 2147483647) (hy : -2147483648 ≤ y ∧ y ≤ 2147483647) (hL : Lay h) (ht : (0 ≤ x ∧ x < zF h 80 2) ∧ 0 ≤ y ∧ y < zF h 80 2 → K (iI 1) h) (hf : ¬ ((0 ≤ x ∧ x < zF h 80 2) ∧ 0 ≤ y ∧ y < zF h 80 2) → K (iI 0) h) : XW (d + 1) 154 0 [.ref 1, .int (iI x), .int (iI y)] [] h (KI K) := by
  refine w_aload0 r_154_0 ?_
  refine w_getA (x := 80) r_154_1 (Lk_1 hL) (Lr_1_9 hL) (by decide) ?_
  refine w_iload1 r_154_4 ?_
  refine k_47 r_154_5 (Lk_80 hL) (Nat.le_of_ble_eq_true rfl) ?_
  refine c_hasCell (by omega) hL (fun c5 => ?_) (fun c5 => ?_)
  · refine v_if_eq r_154_8 (by first | exact zF_in _ _ _ | exact zA_in _ _ _ | omega) (fun q => absurd q (by omega)) (fun _ => ?_)
    refine w_aload0 r_154_11 ?_
    refine w_getA (x := 80) r_154_12 (Lk_1 hL) (Lr_1_9 hL) (by decide) ?_
    refine w_iload2 r_154_15 ?_
    refine k_47 r_154_16 (Lk_80 hL) (Nat.le_of_ble_eq_true rfl) ?_
    refine c_hasCell (by omega) hL (fun c16 => ?_) (fun c16 => ?_)
    · refine v_if_eq r_154_19 (by first | exact zF_in _ _ _ | exact zA_in _ _ _ | omega) (fun q => absurd q (by omega)) (fun _ => ?_)
      refine w_iconst (v := iI (1)) r_154_22 rfl ?_
      refine w_goto r_154_23 ?_
      refine w_zret r_154_27 (by decide) ?_
      first | exact ht (by omega) | exact hf (by omega)
    · refine v_if_eq r_154_19 (by first | exact zF_in _ _ _ | exact zA_in _ _ _ | omega) (fun _ => ?_) (fun q => absurd q (by omega))
      refine w_iconst (v := iI (0)) r_154_26 rfl ?_
      refine w_zret r_154_27 (by decide) ?_
      first | exact ht (by omega) | exact hf (by omega)
  · refine v_if_eq r_154_8 (by first | exact zF_in _ _ _ | exact zA_in _ _ _ | omega) (fun _ => ?_) (fun q => absurd q (by omega))
    refine w_iconst (v := iI (0)) r_154_26 rfl ?_
    refine w_zret r_154_27 (by decide) ?_
    first | exact ht (by omega) | exact hf (by omega)
theorem c_hasPlan {x : Int} (hx : -2147483648 ≤ x ∧ x ≤ 2147483647) (hL : Lay h) (ht : 0 ≤ x ∧ x < zF h 1 8 → K (iI 1) h) (hf : ¬ (0 ≤ x ∧ x < zF h 1 8) → K (iI 0) h) : XW d 155 0 [.ref 1, .int (iI x)] [] h (KI K) := by
  refine w_iload1 r_155_0 ?_
  refine v_if_lt r_155_1 (by first | exact zF_in _ _ _ | exact zA_in _ _ _ | omega) (fun c1 => ?_) (fun c1 => ?_)
  · refine w_iconst (v := iI (0)) r_155_16 rfl ?_
    refine w_zret r_155_17 (by decide) ?_
    first | exact ht (by omega) | exact hf (by omega)
  · refine w_iload1 r_155_4 ?_
    refine w_aload0 r_155_5 ?_
    refine v_getI r_155_6 (Lk_1 hL) (gI_F h 1 8) ?_
    refine v_ic_ge r_155_9 (by first | exact zF_in _ _ _ | exact zA_in _ _ _ | omega) (by first | exact zF_in _ _ _ | exact zA_in _ _ _ | omega) (fun c9 => ?_) (fun c9 => ?_)
    · refine w_iconst (v := iI (0)) r_155_16 rfl ?_
      refine w_zret r_155_17 (by decide) ?_
      first | exact ht (by omega) | exact hf (by omega)
    · refine w_iconst (v := iI (1)) r_155_12 rfl ?_
      refine w_goto r_155_13 ?_
      refine w_zret r_155_17 (by decide) ?_
      first | exact ht (by omega) | exact hf (by omega)
end SM2
