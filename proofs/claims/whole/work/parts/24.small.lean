/-! the small methods of the class -/
/-- the book that rules now, and the spare one -/
def RB (h : XH) (rb : Nat) : Prop := (rb = 6 ∨ rb = 20) ∧ gR h 1 5 = rb ∧ gR h 1 6 = 26 - rb ∧ gR h 91 1 = rb ∧ gR h 107 0 = rb
section BK
variable {h : XH} {rb : Nat}
theorem Bk_ (hL : Lay h) (hb : rb = 6 ∨ rb = 20) : gK h rb = 10 := by
  rcases hb with rfl | rfl
  · exact Lk_6 hL
  · exact Lk_20 hL
theorem Bn_ (hL : Lay h) (hb : rb = 6 ∨ rb = 20) {k : Nat} (hk : k < 14) : rb + k < gN h := hL.n (by omega)
theorem Bk_1 (hL : Lay h) (hb : rb = 6 ∨ rb = 20) : gK h (rb + 1) = 4 ∧ gZ h (rb + 1) = 8 := by
  rcases hb with rfl | rfl
  · exact ⟨Lk_7 hL, Lz_7 hL⟩
  · exact ⟨Lk_21 hL, Lz_21 hL⟩
theorem Bk_2 (hL : Lay h) (hb : rb = 6 ∨ rb = 20) : gK h (rb + 2) = 12 := by
  rcases hb with rfl | rfl
  · exact Lk_8 hL
  · exact Lk_22 hL
theorem Bk_3 (hL : Lay h) (hb : rb = 6 ∨ rb = 20) : gK h (rb + 3) = 1 ∧ gZ h (rb + 3) = 32 := by
  rcases hb with rfl | rfl
  · exact ⟨Lk_9 hL, Lz_9 hL⟩
  · exact ⟨Lk_23 hL, Lz_23 hL⟩
theorem Bk_4 (hL : Lay h) (hb : rb = 6 ∨ rb = 20) : gK h (rb + 4) = 1 ∧ gZ h (rb + 4) = 32 := by
  rcases hb with rfl | rfl
  · exact ⟨Lk_10 hL, Lz_10 hL⟩
  · exact ⟨Lk_24 hL, Lz_24 hL⟩
theorem Bk_5 (hL : Lay h) (hb : rb = 6 ∨ rb = 20) : gK h (rb + 5) = 1 ∧ gZ h (rb + 5) = 8 := by
  rcases hb with rfl | rfl
  · exact ⟨Lk_11 hL, Lz_11 hL⟩
  · exact ⟨Lk_25 hL, Lz_25 hL⟩
theorem Bk_6 (hL : Lay h) (hb : rb = 6 ∨ rb = 20) : gK h (rb + 6) = 12 := by
  rcases hb with rfl | rfl
  · exact Lk_12 hL
  · exact Lk_26 hL
theorem Bk_7 (hL : Lay h) (hb : rb = 6 ∨ rb = 20) : gK h (rb + 7) = 1 ∧ gZ h (rb + 7) = 32 := by
  rcases hb with rfl | rfl
  · exact ⟨Lk_13 hL, Lz_13 hL⟩
  · exact ⟨Lk_27 hL, Lz_27 hL⟩
theorem Bk_8 (hL : Lay h) (hb : rb = 6 ∨ rb = 20) : gK h (rb + 8) = 1 ∧ gZ h (rb + 8) = 32 := by
  rcases hb with rfl | rfl
  · exact ⟨Lk_14 hL, Lz_14 hL⟩
  · exact ⟨Lk_28 hL, Lz_28 hL⟩
theorem Bk_9 (hL : Lay h) (hb : rb = 6 ∨ rb = 20) : gK h (rb + 9) = 1 ∧ gZ h (rb + 9) = 8 := by
  rcases hb with rfl | rfl
  · exact ⟨Lk_15 hL, Lz_15 hL⟩
  · exact ⟨Lk_29 hL, Lz_29 hL⟩
theorem Bk_10 (hL : Lay h) (hb : rb = 6 ∨ rb = 20) : gK h (rb + 10) = 4 ∧ gZ h (rb + 10) = 6 := by
  rcases hb with rfl | rfl
  · exact ⟨Lk_16 hL, Lz_16 hL⟩
  · exact ⟨Lk_30 hL, Lz_30 hL⟩
theorem Bk_11 (hL : Lay h) (hb : rb = 6 ∨ rb = 20) : gK h (rb + 11) = 1 ∧ gZ h (rb + 11) = 6 := by
  rcases hb with rfl | rfl
  · exact ⟨Lk_17 hL, Lz_17 hL⟩
  · exact ⟨Lk_31 hL, Lz_31 hL⟩
theorem Bk_12 (hL : Lay h) (hb : rb = 6 ∨ rb = 20) : gK h (rb + 12) = 1 ∧ gZ h (rb + 12) = 6 := by
  rcases hb with rfl | rfl
  · exact ⟨Lk_18 hL, Lz_18 hL⟩
  · exact ⟨Lk_32 hL, Lz_32 hL⟩
theorem Bk_13 (hL : Lay h) (hb : rb = 6 ∨ rb = 20) : gK h (rb + 13) = 1 ∧ gZ h (rb + 13) = 6 := by
  rcases hb with rfl | rfl
  · exact ⟨Lk_19 hL, Lz_19 hL⟩
  · exact ⟨Lk_33 hL, Lz_33 hL⟩
theorem Br_1 (hL : Lay h) (hb : rb = 6 ∨ rb = 20) : gR h rb 1 = rb + 1 := by
  rcases hb with rfl | rfl
  · exact Lr_6_1 hL
  · exact Lr_20_1 hL
theorem Br_2 (hL : Lay h) (hb : rb = 6 ∨ rb = 20) : gR h rb 2 = rb + 2 := by
  rcases hb with rfl | rfl
  · exact Lr_6_2 hL
  · exact Lr_20_2 hL
theorem Br_3 (hL : Lay h) (hb : rb = 6 ∨ rb = 20) : gR h rb 3 = rb + 6 := by
  rcases hb with rfl | rfl
  · exact Lr_6_3 hL
  · exact Lr_20_3 hL
theorem Br_5 (hL : Lay h) (hb : rb = 6 ∨ rb = 20) : gR h rb 5 = rb + 10 := by
  rcases hb with rfl | rfl
  · exact Lr_6_5 hL
  · exact Lr_20_5 hL
theorem Br_6 (hL : Lay h) (hb : rb = 6 ∨ rb = 20) : gR h rb 6 = rb + 11 := by
  rcases hb with rfl | rfl
  · exact Lr_6_6 hL
  · exact Lr_20_6 hL
theorem Br_7 (hL : Lay h) (hb : rb = 6 ∨ rb = 20) : gR h rb 7 = rb + 12 := by
  rcases hb with rfl | rfl
  · exact Lr_6_7 hL
  · exact Lr_20_7 hL
theorem Br_8 (hL : Lay h) (hb : rb = 6 ∨ rb = 20) : gR h rb 8 = rb + 13 := by
  rcases hb with rfl | rfl
  · exact Lr_6_8 hL
  · exact Lr_20_8 hL
theorem Bs_0 (hL : Lay h) (hb : rb = 6 ∨ rb = 20) : gR h (rb + 2) 0 = rb + 3 := by
  rcases hb with rfl | rfl
  · exact Lr_8_0 hL
  · exact Lr_22_0 hL
theorem Bs_1 (hL : Lay h) (hb : rb = 6 ∨ rb = 20) : gR h (rb + 2) 1 = rb + 4 := by
  rcases hb with rfl | rfl
  · exact Lr_8_1 hL
  · exact Lr_22_1 hL
theorem Bs_2 (hL : Lay h) (hb : rb = 6 ∨ rb = 20) : gR h (rb + 2) 2 = rb + 5 := by
  rcases hb with rfl | rfl
  · exact Lr_8_2 hL
  · exact Lr_22_2 hL
theorem Bg_0 (hL : Lay h) (hb : rb = 6 ∨ rb = 20) : gR h (rb + 6) 0 = rb + 7 := by
  rcases hb with rfl | rfl
  · exact Lr_12_0 hL
  · exact Lr_26_0 hL
theorem Bg_1 (hL : Lay h) (hb : rb = 6 ∨ rb = 20) : gR h (rb + 6) 1 = rb + 8 := by
  rcases hb with rfl | rfl
  · exact Lr_12_1 hL
  · exact Lr_26_1 hL
theorem Bg_2 (hL : Lay h) (hb : rb = 6 ∨ rb = 20) : gR h (rb + 6) 2 = rb + 9 := by
  rcases hb with rfl | rfl
  · exact Lr_12_2 hL
  · exact Lr_26_2 hL
theorem RB.b (hB : RB h rb) : rb = 6 ∨ rb = 20 := hB.1
theorem RB.nz (hb : rb = 6 ∨ rb = 20) : rb ≠ 0 := by omega
end BK
section SM
variable {d : Nat} {h : XH} {K : Int32 → XH → Prop} {KU : XH → Prop} {rb : Nat}
/-- SoftWheels.trouble, fault -/
theorem c_trouble (hL : Lay h) (hk : K (gI h 1 18) h) : XW d 153 0 [.ref 1] [] h (KI K) := by
  refine w_aload0 r_153_0 ?_
  refine v_getI r_153_1 (Lk_1 hL) rfl ?_
  refine w_iret r_153_4 ?_
  -- at 5
  exact hk
theorem c_fault (hL : Lay h) (hk : K (gI h 1 19) h) : XW d 120 0 [.ref 1] [] h (KI K) := by
  refine w_aload0 r_120_0 ?_
  refine v_getI r_120_1 (Lk_1 hL) rfl ?_
  refine w_iret r_120_4 ?_
  -- at 5
  exact hk
theorem c_where (hL : Lay h) (hk : K (if zF h 1 18 = 4 then gI h 3 8 else iI (-1)) h) : XW d 121 0 [.ref 1] [] h (KI K) := by
  refine w_aload0 r_121_0 ?_
  refine v_getI r_121_1 (Lk_1 hL) (gI_F _ _ _) ?_
  refine w_iconst (v := iI (4)) r_121_4 rfl ?_
  refine v_ic_ne r_121_5 (by first | exact zF_in _ _ _ | exact zA_in _ _ _ | omega) (by first | exact zF_in _ _ _ | exact zA_in _ _ _ | omega) (fun c5 => ?_) (fun c5 => ?_)
  -- at 8
  · rw [if_neg c5] at hk
    refine w_iconst (v := iI (-1)) r_121_18 rfl ?_
    refine w_iret r_121_19 ?_
    -- at 20
    exact hk
  · rw [if_pos c5] at hk
    refine w_aload0 r_121_8 ?_
    refine w_getA (x := 3) r_121_9 (Lk_1 hL) (Lr_1_2 hL) (by decide) ?_
    refine v_getI r_121_12 (Lk_3 hL) rfl ?_
    refine w_goto r_121_15 ?_
    refine w_iret r_121_19 ?_
    -- at 20
    exact hk
/-- answer, refuse, grant, deny -/
theorem c_answer {x : Int32} (hL : Lay h) (hk : K x (sI h 1 18 (iI 0))) : XW d 156 0 [.ref 1, .int x] [] h (KI K) := by
  refine w_aload0 r_156_0 ?_
  refine w_iconst (v := iI (0)) r_156_1 rfl ?_
  refine w_putI r_156_2 (Lk_1 hL) (Ln_1 hL) ?_
  refine w_iload1 r_156_5 ?_
  refine w_iret r_156_6 ?_
  -- at 7
  exact hk
theorem c_refuse {x : Int32} (hL : Lay h) (hk : K (iI (-1)) (sI h 1 18 x)) : XW d 157 0 [.ref 1, .int x] [] h (KI K) := by
  refine w_aload0 r_157_0 ?_
  refine w_iload1 r_157_1 ?_
  refine w_putI r_157_2 (Lk_1 hL) (Ln_1 hL) ?_
  refine w_iconst (v := iI (-1)) r_157_5 rfl ?_
  refine w_iret r_157_6 ?_
  -- at 7
  exact hk
theorem c_refuseLong {x : Int32} {K : Int64 → XH → Prop} (hL : Lay h) (hk : K (iL (-9223372036854775808)) (sI h 1 18 x)) : XW d 158 0 [.ref 1, .int x] [] h (KL K) := by
  refine w_aload0 r_158_0 ?_
  refine w_iload1 r_158_1 ?_
  refine w_putI r_158_2 (Lk_1 hL) (Ln_1 hL) ?_
  refine w_ldc2 (v := iL (-9223372036854775808)) r_158_5 rfl ?_
  refine w_lret r_158_8 ?_
  -- at 9
  exact hk
theorem c_grant (hL : Lay h) (hk : K (iI 1) (sI h 1 18 (iI 0))) : XW d 159 0 [.ref 1] [] h (KI K) := by
  refine w_aload0 r_159_0 ?_
  refine w_iconst (v := iI (0)) r_159_1 rfl ?_
  refine w_putI r_159_2 (Lk_1 hL) (Ln_1 hL) ?_
  refine w_iconst (v := iI (1)) r_159_5 rfl ?_
  refine w_zret r_159_6 (by decide) ?_
  -- at 7
  exact hk
theorem c_deny {x : Int32} (hL : Lay h) (hk : K (iI 0) (sI h 1 18 x)) : XW d 160 0 [.ref 1, .int x] [] h (KI K) := by
  refine w_aload0 r_160_0 ?_
  refine w_iload1 r_160_1 ?_
  refine w_putI r_160_2 (Lk_1 hL) (Ln_1 hL) ?_
  refine w_iconst (v := iI (0)) r_160_5 rfl ?_
  refine w_zret r_160_6 (by decide) ?_
  -- at 7
  exact hk
/-- Land.hasCell, hasDoubt -/
theorem c_hasCell {x : Int} (hx : -2147483648 ≤ x ∧ x ≤ 2147483647) (hL : Lay h) (ht : 0 ≤ x ∧ x < zF h 80 2 → K (iI 1) h) (hf : ¬ (0 ≤ x ∧ x < zF h 80 2) → K (iI 0) h) : XW d 47 0 [.ref 80, .int (iI x)] [] h (KI K) := by
  refine w_iload1 r_47_0 ?_
  refine v_if_lt r_47_1 (by first | exact zF_in _ _ _ | exact zA_in _ _ _ | omega) (fun c1 => ?_) (fun c1 => ?_)
  -- at 4
  · refine w_iconst (v := iI (0)) r_47_16 rfl ?_
    refine w_zret r_47_17 (by decide) ?_
    -- at 18
    exact hf (by omega)
  · refine w_iload1 r_47_4 ?_
    refine w_aload0 r_47_5 ?_
    refine v_getI r_47_6 (Lk_80 hL) (gI_F _ _ _) ?_
    refine v_ic_ge r_47_9 (by first | exact zF_in _ _ _ | exact zA_in _ _ _ | omega) (by first | exact zF_in _ _ _ | exact zA_in _ _ _ | omega) (fun c9 => ?_) (fun c9 => ?_)
    -- at 12
    · refine w_iconst (v := iI (0)) r_47_16 rfl ?_
      refine w_zret r_47_17 (by decide) ?_
      -- at 18
      exact hf (by omega)
    · refine w_iconst (v := iI (1)) r_47_12 rfl ?_
      refine w_goto r_47_13 ?_
      refine w_zret r_47_17 (by decide) ?_
      -- at 18
      exact ht (by omega)
theorem c_hasDoubt {x : Int} (hx : -2147483648 ≤ x ∧ x ≤ 2147483647) (hL : Lay h) (ht : 0 ≤ x ∧ x < zF h 80 3 → K (iI 1) h) (hf : ¬ (0 ≤ x ∧ x < zF h 80 3) → K (iI 0) h) : XW d 48 0 [.ref 80, .int (iI x)] [] h (KI K) := by
  refine w_iload1 r_48_0 ?_
  refine v_if_lt r_48_1 (by first | exact zF_in _ _ _ | exact zA_in _ _ _ | omega) (fun c1 => ?_) (fun c1 => ?_)
  -- at 4
  · refine w_iconst (v := iI (0)) r_48_16 rfl ?_
    refine w_zret r_48_17 (by decide) ?_
    -- at 18
    exact hf (by omega)
  · refine w_iload1 r_48_4 ?_
    refine w_aload0 r_48_5 ?_
    refine v_getI r_48_6 (Lk_80 hL) (gI_F _ _ _) ?_
    refine v_ic_ge r_48_9 (by first | exact zF_in _ _ _ | exact zA_in _ _ _ | omega) (by first | exact zF_in _ _ _ | exact zA_in _ _ _ | omega) (fun c9 => ?_) (fun c9 => ?_)
    -- at 12
    · refine w_iconst (v := iI (0)) r_48_16 rfl ?_
      refine w_zret r_48_17 (by decide) ?_
      -- at 18
      exact hf (by omega)
    · refine w_iconst (v := iI (1)) r_48_12 rfl ?_
      refine w_goto r_48_13 ?_
      refine w_zret r_48_17 (by decide) ?_
      -- at 18
      exact ht (by omega)
/-- Book.hasGround, isTold -/
theorem c_hasGround {x : Int} (hx : -2147483648 ≤ x ∧ x ≤ 2147483647) (hL : Lay h) (hb : rb = 6 ∨ rb = 20) (ht : 0 ≤ x ∧ x < zF h rb 0 → K (iI 1) h) (hf : ¬ (0 ≤ x ∧ x < zF h rb 0) → K (iI 0) h) : XW d 3 0 [.ref rb, .int (iI x)] [] h (KI K) := by
  refine w_iload1 r_3_0 ?_
  refine v_if_lt r_3_1 (by first | exact zF_in _ _ _ | exact zA_in _ _ _ | omega) (fun c1 => ?_) (fun c1 => ?_)
  -- at 4
  · refine w_iconst (v := iI (0)) r_3_16 rfl ?_
    refine w_zret r_3_17 (by decide) ?_
    -- at 18
    exact hf (by omega)
  · refine w_iload1 r_3_4 ?_
    refine w_aload0 r_3_5 ?_
    refine v_getI r_3_6 (Bk_ hL hb) (gI_F _ _ _) ?_
    refine v_ic_ge r_3_9 (by first | exact zF_in _ _ _ | exact zA_in _ _ _ | omega) (by first | exact zF_in _ _ _ | exact zA_in _ _ _ | omega) (fun c9 => ?_) (fun c9 => ?_)
    -- at 12
    · refine w_iconst (v := iI (0)) r_3_16 rfl ?_
      refine w_zret r_3_17 (by decide) ?_
      -- at 18
      exact hf (by omega)
    · refine w_iconst (v := iI (1)) r_3_12 rfl ?_
      refine w_goto r_3_13 ?_
      refine w_zret r_3_17 (by decide) ?_
      -- at 18
      exact ht (by omega)
theorem c_isTold (hL : Lay h) (hb : rb = 6 ∨ rb = 20) (ht : 0 < zF h rb 10 → K (iI 1) h) (hf : ¬ 0 < zF h rb 10 → K (iI 0) h) : XW d 2 0 [.ref rb] [] h (KI K) := by
  refine w_aload0 r_2_0 ?_
  refine v_getI r_2_1 (Bk_ hL hb) (gI_F _ _ _) ?_
  refine v_if_le r_2_4 (by first | exact zF_in _ _ _ | exact zA_in _ _ _ | omega) (fun c4 => ?_) (fun c4 => ?_)
  -- at 7
  · refine w_iconst (v := iI (0)) r_2_11 rfl ?_
    refine w_zret r_2_12 (by decide) ?_
    -- at 13
    exact hf (by omega)
  · refine w_iconst (v := iI (1)) r_2_7 rfl ?_
    refine w_goto r_2_8 ?_
    refine w_zret r_2_12 (by decide) ?_
    -- at 13
    exact ht (by omega)
end SM
