/-! curves: how deep, how much hold -/
def crvF (k v : Int → Int) (x : Int) : Nat → Int → Int
  | 0, i => v i
  | m + 1, i => if x ≤ k (i + 1) then v i + (v (i + 1) - v i) * (x - k i) / (k (i + 1) - k i) else crvF k v x m (i + 1)
/-- a curve of n pairs at x -/
def crv (k v : Int → Int) (n x : Int) : Int := if x ≤ k 0 then v 0 else crvF k v x (n - 1).toNat 0
def CvOK (k v : Int → Int) (n : Int) : Prop := 1 ≤ n ∧ n ≤ 4 ∧ (∀ i, 0 ≤ i → i < n → 0 ≤ k i ∧ k i ≤ 999 ∧ 0 ≤ v i ∧ v i ≤ 300) ∧ ∀ i, 0 ≤ i → i + 1 < n → k i < k (i + 1)
theorem crvF_congr {k v k' v' : Int → Int} {x : Int} : ∀ (m : Nat) (i : Int), 0 ≤ i → (∀ j, i ≤ j → j ≤ i + m → k j = k' j ∧ v j = v' j) → crvF k v x m i = crvF k' v' x m i := by
  intro m
  induction m with
  | zero => intro i hi hj; exact (hj i (by omega) (by omega)).2
  | succ m ih =>
    intro i hi hj
    unfold crvF
    rw [(hj i (by omega) (by omega)).1, (hj i (by omega) (by omega)).2, (hj (i + 1) (by omega) (by omega)).1, (hj (i + 1) (by omega) (by omega)).2, ih (i + 1) (by omega) (fun j a b => hj j (by omega) (by omega))]
theorem crv_congr {k v k' v' : Int → Int} {n x : Int} (hn : 1 ≤ n) (hj : ∀ j, 0 ≤ j → j < n → k j = k' j ∧ v j = v' j) : crv k v n x = crv k' v' n x := by
  unfold crv
  rw [(hj 0 (by omega) (by omega)).1, (hj 0 (by omega) (by omega)).2, crvF_congr (k' := k') (v' := v') _ 0 (by omega) (fun j a b => hj j a (by omega))]
theorem frac_in {D a s : Int} (ha : 0 < a ∧ a ≤ s) : (0 ≤ D → 0 ≤ D * a / s ∧ D * a / s ≤ D) ∧ (D ≤ 0 → D ≤ D * a / s ∧ D * a / s ≤ 0) := by
  constructor
  · intro hD
    refine ⟨Int.ediv_nonneg (Int.mul_nonneg hD (by omega)) (by omega), ?_⟩
    apply Int.ediv_le_of_le_mul (by omega)
    exact Int.mul_le_mul_of_nonneg_left ha.2 hD
  · intro hD
    constructor
    · apply Int.le_ediv_of_mul_le (by omega)
      exact Int.mul_le_mul_of_nonpos_left hD ha.2
    · have : D * a ≤ 0 := Int.mul_nonpos_of_nonpos_of_nonneg hD (by omega)
      have := Int.ediv_le_of_le_mul (a := D * a) (b := 0) (c := s) (by omega) (by omega)
      exact this
theorem crvF_in {k v : Int → Int} {n x B : Int} (hc : CvOK k v n) (hv : ∀ i, 0 ≤ i → i < n → v i ≤ B) : ∀ (m : Nat) (i : Int), 0 ≤ i → i + m = n - 1 → k i < x → 0 ≤ crvF k v x m i ∧ crvF k v x m i ≤ B := by
  intro m
  induction m with
  | zero =>
    intro i hi e hx
    exact ⟨(hc.2.2.1 i hi (by omega)).2.2.1, hv i hi (by omega)⟩
  | succ m ih =>
    intro i hi e hx
    unfold crvF
    have a := hc.2.2.1 i hi (by omega)
    have b := hc.2.2.1 (i + 1) (by omega) (by omega)
    have b1 := hv i hi (by omega)
    have b2 := hv (i + 1) (by omega) (by omega)
    have kk := hc.2.2.2 i hi (by omega)
    split
    · rename_i q
      have f := frac_in (D := v (i + 1) - v i) (a := x - k i) (s := k (i + 1) - k i) (by omega)
      have f1 := f.1
      have f2 := f.2
      generalize (v (i + 1) - v i) * (x - k i) / (k (i + 1) - k i) = z at *
      by_cases q2 : 0 ≤ v (i + 1) - v i
      · have := f1 q2; omega
      · have := f2 (by omega); omega
    · exact ih (i + 1) (by omega) (by omega) (by omega)
theorem crv_in {k v : Int → Int} {n x B : Int} (hc : CvOK k v n) (hv : ∀ i, 0 ≤ i → i < n → v i ≤ B) : 0 ≤ crv k v n x ∧ crv k v n x ≤ B := by
  unfold crv
  have h1 := hc.1
  split
  · exact ⟨(hc.2.2.1 0 (by omega) (by omega)).2.2.1, hv 0 (by omega) (by omega)⟩
  · exact crvF_in hc hv _ 0 (by omega) (by omega) (by omega)
theorem mul_pm {a b A B : Int} (ha : -A ≤ a ∧ a ≤ A) (hb : 0 ≤ b ∧ b ≤ B) : -(A * B) ≤ a * b ∧ a * b ≤ A * B := by
  have h1 : A * b ≤ A * B := Int.mul_le_mul_of_nonneg_left hb.2 (by omega)
  have h2 : a * b ≤ A * b := Int.mul_le_mul_of_nonneg_right ha.2 hb.1
  have h3 : -A * b ≤ a * b := Int.mul_le_mul_of_nonneg_right ha.1 hb.1
  rw [Int.neg_mul] at h3
  omega
def Cv (ca : Nat) : Prop := ca = 8 ∨ ca = 12 ∨ ca = 22 ∨ ca = 26
section CV
variable {d : Nat} {h : XH} {K : Int32 → XH → Prop} {KU : XH → Prop} {rb ca : Nat}
theorem Cvk (hL : Lay h) (hc : Cv ca) : gK h ca = 12 := by
  rcases hc with rfl | rfl | rfl | rfl
  · exact Lk_8 hL
  · exact Lk_12 hL
  · exact Lk_22 hL
  · exact Lk_26 hL
theorem Cvk1 (hL : Lay h) (hc : Cv ca) : gK h (ca + 1) = 1 ∧ gZ h (ca + 1) = 32 ∧ gR h ca 0 = ca + 1 := by
  rcases hc with rfl | rfl | rfl | rfl
  · exact ⟨Lk_9 hL, Lz_9 hL, Lr_8_0 hL⟩
  · exact ⟨Lk_13 hL, Lz_13 hL, Lr_12_0 hL⟩
  · exact ⟨Lk_23 hL, Lz_23 hL, Lr_22_0 hL⟩
  · exact ⟨Lk_27 hL, Lz_27 hL, Lr_26_0 hL⟩
theorem Cvk2 (hL : Lay h) (hc : Cv ca) : gK h (ca + 2) = 1 ∧ gZ h (ca + 2) = 32 ∧ gR h ca 1 = ca + 2 := by
  rcases hc with rfl | rfl | rfl | rfl
  · exact ⟨Lk_10 hL, Lz_10 hL, Lr_8_1 hL⟩
  · exact ⟨Lk_14 hL, Lz_14 hL, Lr_12_1 hL⟩
  · exact ⟨Lk_24 hL, Lz_24 hL, Lr_22_1 hL⟩
  · exact ⟨Lk_28 hL, Lz_28 hL, Lr_26_1 hL⟩
theorem Cvk3 (hL : Lay h) (hc : Cv ca) : gK h (ca + 3) = 1 ∧ gZ h (ca + 3) = 8 ∧ gR h ca 2 = ca + 3 := by
  rcases hc with rfl | rfl | rfl | rfl
  · exact ⟨Lk_11 hL, Lz_11 hL, Lr_8_2 hL⟩
  · exact ⟨Lk_15 hL, Lz_15 hL, Lr_12_2 hL⟩
  · exact ⟨Lk_25 hL, Lz_25 hL, Lr_22_2 hL⟩
  · exact ⟨Lk_29 hL, Lz_29 hL, Lr_26_2 hL⟩
theorem Cvn (hL : Lay h) (hc : Cv ca) {k : Nat} (hk : k < 10) : ca + k < gN h := hL.n (by unfold Cv at hc; omega)
theorem Cv.nz (hc : Cv ca) (k : Nat) : ca + k ≠ 0 := by unfold Cv at hc; omega
theorem c_between {i x : Int} (hL : Lay h) (hc : Cv ca) (hi : 0 ≤ i ∧ i < 31) (hk : zA h (ca + 1) i < zA h (ca + 1) (i + 1)) (hr : R32 ((zA h (ca + 2) (i + 1) - zA h (ca + 2) i) * (x - zA h (ca + 1) i))) (hs : zA h (ca + 1) (i + 1) - zA h (ca + 1) i ≤ 999)
    (kk : K (iI (zA h (ca + 2) i + (zA h (ca + 2) (i + 1) - zA h (ca + 2) i) * (x - zA h (ca + 1) i) / (zA h (ca + 1) (i + 1) - zA h (ca + 1) i))) h) : XW (d + 1) 18 0 [.ref ca, .int (iI i), .int (iI x), .null] [] h (KI K) := by
  refine w_aload0 r_18_0 ?_
  refine w_getA (x := ca + 1) r_18_1 (Cvk hL hc) (Cvk1 hL hc).2.2 (hc.nz 1) ?_
  refine w_iload1 r_18_4 ?_
  refine w_iconst (v := iI (1)) r_18_5 rfl ?_
  refine v_iadd r_18_6 ?_
  refine v_iald r_18_7 (Cvk1 hL hc).1 (Cvk1 hL hc).2.1 (by decide) (by omega) (gI_A h (ca + 1) _) ?_
  refine w_aload0 r_18_8 ?_
  refine w_getA (x := ca + 1) r_18_9 (Cvk hL hc) (Cvk1 hL hc).2.2 (hc.nz 1) ?_
  refine w_iload1 r_18_12 ?_
  refine v_iald r_18_13 (Cvk1 hL hc).1 (Cvk1 hL hc).2.1 (by decide) (by omega) (gI_A h (ca + 1) _) ?_
  refine v_isub r_18_14 ?_
  refine w_istore3 r_18_15 rfl ?_
  refine w_iload3 r_18_16 ?_
  refine v_if_gt r_18_17 (by first | exact zF_in _ _ _ | exact zA_in _ _ _ | omega) (fun _ => ?_) (fun q => absurd q (by omega))
  refine w_aload0 r_18_27 ?_
  refine w_getA (x := ca + 2) r_18_28 (Cvk hL hc) (Cvk2 hL hc).2.2 (hc.nz 2) ?_
  refine w_iload1 r_18_31 ?_
  refine v_iald r_18_32 (Cvk2 hL hc).1 (Cvk2 hL hc).2.1 (by decide) (by omega) (gI_A h (ca + 2) _) ?_
  refine w_aload0 r_18_33 ?_
  refine w_getA (x := ca + 2) r_18_34 (Cvk hL hc) (Cvk2 hL hc).2.2 (hc.nz 2) ?_
  refine w_iload1 r_18_37 ?_
  refine w_iconst (v := iI (1)) r_18_38 rfl ?_
  refine v_iadd r_18_39 ?_
  refine v_iald r_18_40 (Cvk2 hL hc).1 (Cvk2 hL hc).2.1 (by decide) (by omega) (gI_A h (ca + 2) _) ?_
  refine w_aload0 r_18_41 ?_
  refine w_getA (x := ca + 2) r_18_42 (Cvk hL hc) (Cvk2 hL hc).2.2 (hc.nz 2) ?_
  refine w_iload1 r_18_45 ?_
  refine v_iald r_18_46 (Cvk2 hL hc).1 (Cvk2 hL hc).2.1 (by decide) (by omega) (gI_A h (ca + 2) _) ?_
  refine v_isub r_18_47 ?_
  refine w_iload2 r_18_48 ?_
  refine w_aload0 r_18_49 ?_
  refine w_getA (x := ca + 1) r_18_50 (Cvk hL hc) (Cvk1 hL hc).2.2 (hc.nz 1) ?_
  refine w_iload1 r_18_53 ?_
  refine v_iald r_18_54 (Cvk1 hL hc).1 (Cvk1 hL hc).2.1 (by decide) (by omega) (gI_A h (ca + 1) _) ?_
  refine v_isub r_18_55 ?_
  refine v_imul r_18_56 ?_
  refine w_iload3 r_18_57 ?_
  refine k_266 r_18_58 (Nat.le_of_ble_eq_true rfl) ?_
  refine c_floorDiv hr (by omega) ?_
  refine v_iadd r_18_61 ?_
  refine w_iret r_18_62 ?_
  exact kk
theorem c_valueAt {g x : Int} {k v : Int → Int} (hL : Lay h) (hc : Cv ca) (hg : 0 ≤ g ∧ g < 8) (hx : 0 ≤ x ∧ x ≤ 999) (ek : ∀ i, zA h (ca + 1) (g * 4 + i) = k i) (ev : ∀ i, zA h (ca + 2) (g * 4 + i) = v i) (ho : CvOK k v (zA h (ca + 3) g))
    (kk : K (iI (crv k v (zA h (ca + 3) g) x)) h) : XW (d + 2) 17 0 [.ref ca, .int (iI g), .int (iI x), .null, .null, .null] [] h (KI K) := by
  obtain ⟨o1, o2, o3, o4⟩ := id ho
  have key : zA h (ca + 3) g = zA h (ca + 3) g → ∀ j : Nat, j ≤ (zA h (ca + 3) g - 1).toNat → k j < x → K (iI (crvF k v x ((zA h (ca + 3) g - 1).toNat - j) j)) h → XW (d + 2) 17 62 [.ref ca, .int (iI g), .int (iI x), .int (iI (g * 4)), .int (iI (g * 4 + zA h (ca + 3) g - 1)), .int (iI (g * 4 + j))] [] h (KI K) := by
    intro _
    refine upto _ ?_ ?_
    · intro hkx hK
      rw [Nat.sub_self] at hK
      have e : gI h (ca + 2) (g * 4 + zA h (ca + 3) g - 1).toNat = iI (v ((zA h (ca + 3) g - 1).toNat : Nat)) := by
        rw [gI_A, show g * 4 + zA h (ca + 3) g - 1 = g * 4 + (((zA h (ca + 3) g - 1).toNat : Nat) : Int) by omega, ev]
      refine w_iload5 r_17_62 ?_
      refine w_iload4 r_17_64 ?_
      refine v_ic_ge r_17_66 (by first | exact zF_in _ _ _ | exact zA_in _ _ _ | omega) (by first | exact zF_in _ _ _ | exact zA_in _ _ _ | omega) (fun _ => ?_) (fun q => absurd q (by omega))
      refine w_aload0 r_17_96 ?_
      refine w_getA (x := ca + 2) r_17_97 (Cvk hL hc) (Cvk2 hL hc).2.2 (hc.nz 2) ?_
      refine w_iload4 r_17_100 ?_
      refine v_iald r_17_102 (Cvk2 hL hc).1 (Cvk2 hL hc).2.1 (by decide) (by omega) e ?_
      refine w_iret r_17_103 ?_
      exact hK
    · intro j hj ih hkx hK
      have e : gI h (ca + 1) (g * 4 + (j : Int) + 1).toNat = iI (k (j + 1)) := by rw [gI_A, show g * 4 + (j : Int) + 1 = g * 4 + ((j : Int) + 1) by omega, ek]
      have b1 := o3 j (by omega) (by omega)
      have b2 := o3 (j + 1) (by omega) (by omega)
      have b3 := o4 j (by omega) (by omega)
      have hs : (zA h (ca + 3) g - 1).toNat - j = ((zA h (ca + 3) g - 1).toNat - (j + 1)) + 1 := by omega
      rw [hs] at hK
      unfold crvF at hK
      have f1 : zA h (ca + 1) (g * 4 + j) = k j := ek j
      have f2 : zA h (ca + 2) (g * 4 + j) = v j := ev j
      have f3 : zA h (ca + 1) (g * 4 + j + 1) = k (j + 1) := by rw [← ek, show g * 4 + ((j : Int) + 1) = g * 4 + (j : Int) + 1 by omega]
      have f4 : zA h (ca + 2) (g * 4 + j + 1) = v (j + 1) := by rw [← ev, show g * 4 + ((j : Int) + 1) = g * 4 + (j : Int) + 1 by omega]
      have hr : R32 ((zA h (ca + 2) (g * 4 + j + 1) - zA h (ca + 2) (g * 4 + j)) * (x - zA h (ca + 1) (g * 4 + j))) := by
        have := mul_pm (a := zA h (ca + 2) (g * 4 + j + 1) - zA h (ca + 2) (g * 4 + j)) (b := x - zA h (ca + 1) (g * 4 + j)) (A := 300) (B := 999) (by omega) (by omega)
        unfold R32; omega
      refine w_iload5 r_17_62 ?_
      refine w_iload4 r_17_64 ?_
      refine v_ic_ge r_17_66 (by first | exact zF_in _ _ _ | exact zA_in _ _ _ | omega) (by first | exact zF_in _ _ _ | exact zA_in _ _ _ | omega) (fun q => absurd q (by omega)) (fun _ => ?_)
      refine w_iload2 r_17_69 ?_
      refine w_aload0 r_17_70 ?_
      refine w_getA (x := ca + 1) r_17_71 (Cvk hL hc) (Cvk1 hL hc).2.2 (hc.nz 1) ?_
      refine w_iload5 r_17_74 ?_
      refine w_iconst (v := iI (1)) r_17_76 rfl ?_
      refine v_iadd r_17_77 ?_
      refine v_iald r_17_78 (Cvk1 hL hc).1 (Cvk1 hL hc).2.1 (by decide) (by omega) e ?_
      refine v_ic_gt r_17_79 (by first | exact zF_in _ _ _ | exact zA_in _ _ _ | omega) (by first | exact zF_in _ _ _ | exact zA_in _ _ _ | omega) (fun c79 => ?_) (fun c79 => ?_)
      · refine w_iinc5 r_17_90 rfl (iI_add _ _) ?_
        refine w_goto r_17_93 ?_
        rw [if_neg (by omega)] at hK
        rw [show g * 4 + (j : Int) + 1 = g * 4 + ((j + 1 : Nat) : Int) by omega]
        exact ih (by show k ((j : Int) + 1) < x; omega) hK
      · refine w_aload0 r_17_82 ?_
        refine w_iload5 r_17_83 ?_
        refine w_iload2 r_17_85 ?_
        refine k_18 r_17_86 (Cvk hL hc) (Nat.le_of_ble_eq_true rfl) ?_
        refine c_between hL hc (by omega) (by omega) hr (by omega) ?_
        refine w_iret r_17_89 ?_
        rw [if_pos (by omega)] at hK
        rw [f1, f2, f3, f4]
        exact hK
  have e0 : gI h (ca + 1) (g * 4).toNat = iI (k 0) := by rw [gI_A, ← ek 0, Int.add_zero]
  have e1 : gI h (ca + 2) (g * 4).toNat = iI (v 0) := by rw [gI_A, ← ev 0, Int.add_zero]
  have b1 := o3 0 (by omega) (by omega)
  unfold crv at kk
  refine w_iload1 r_17_0 ?_
  refine v_if_lt r_17_1 (by first | exact zF_in _ _ _ | exact zA_in _ _ _ | omega) (fun q => absurd q (by omega)) (fun _ => ?_)
  refine w_iload1 r_17_4 ?_
  refine w_bipush (v := iI (8)) r_17_5 rfl ?_
  refine v_ic_ge r_17_7 (by first | exact zF_in _ _ _ | exact zA_in _ _ _ | omega) (by first | exact zF_in _ _ _ | exact zA_in _ _ _ | omega) (fun q => absurd q (by omega)) (fun _ => ?_)
  refine w_aload0 r_17_10 ?_
  refine w_getA (x := ca + 3) r_17_11 (Cvk hL hc) (Cvk3 hL hc).2.2 (hc.nz 3) ?_
  refine w_iload1 r_17_14 ?_
  refine v_iald r_17_15 (Cvk3 hL hc).1 (Cvk3 hL hc).2.1 (by decide) (by omega) (gI_A h (ca + 3) _) ?_
  refine w_iconst (v := iI (1)) r_17_16 rfl ?_
  refine v_ic_ge r_17_17 (by first | exact zF_in _ _ _ | exact zA_in _ _ _ | omega) (by first | exact zF_in _ _ _ | exact zA_in _ _ _ | omega) (fun _ => ?_) (fun q => absurd q (by omega))
  refine w_iload1 r_17_22 ?_
  refine w_iconst (v := iI (4)) r_17_23 rfl ?_
  refine v_imul r_17_24 ?_
  refine w_istore3 r_17_25 rfl ?_
  refine w_iload3 r_17_26 ?_
  refine w_aload0 r_17_27 ?_
  refine w_getA (x := ca + 3) r_17_28 (Cvk hL hc) (Cvk3 hL hc).2.2 (hc.nz 3) ?_
  refine w_iload1 r_17_31 ?_
  refine v_iald r_17_32 (Cvk3 hL hc).1 (Cvk3 hL hc).2.1 (by decide) (by omega) (gI_A h (ca + 3) _) ?_
  refine w_iconst (v := iI (4)) r_17_33 rfl ?_
  refine k_270 r_17_34 (Nat.le_of_ble_eq_true rfl) ?_
  refine c_min (by first | exact zF_in _ _ _ | exact zA_in _ _ _ | omega) (by first | exact zF_in _ _ _ | exact zA_in _ _ _ | omega) ?_
  refine v_iadd r_17_37 ?_
  refine w_iconst (v := iI (1)) r_17_38 rfl ?_
  refine v_isub r_17_39 ?_
  refine w_istore4 r_17_40 rfl ?_
  refine w_iload2 r_17_42 ?_
  refine w_aload0 r_17_43 ?_
  refine w_getA (x := ca + 1) r_17_44 (Cvk hL hc) (Cvk1 hL hc).2.2 (hc.nz 1) ?_
  refine w_iload3 r_17_47 ?_
  refine v_iald r_17_48 (Cvk1 hL hc).1 (Cvk1 hL hc).2.1 (by decide) (by omega) e0 ?_
  refine v_ic_gt r_17_49 (by first | exact zF_in _ _ _ | exact zA_in _ _ _ | omega) (by first | exact zF_in _ _ _ | exact zA_in _ _ _ | omega) (fun c49 => ?_) (fun c49 => ?_)
  · refine w_iload3 r_17_59 ?_
    refine w_istore5 r_17_60 rfl ?_
    rw [if_neg (by omega)] at kk
    rw [show g * 4 + min (zA h (ca + 3) g) 4 - 1 = g * 4 + zA h (ca + 3) g - 1 by omega]
    have := key rfl 0 (by omega) (by show k 0 < x; omega) kk
    rw [show g * 4 + ((0 : Nat) : Int) = g * 4 by omega] at this
    exact this
  · refine w_aload0 r_17_52 ?_
    refine w_getA (x := ca + 2) r_17_53 (Cvk hL hc) (Cvk2 hL hc).2.2 (hc.nz 2) ?_
    refine w_iload3 r_17_56 ?_
    refine v_iald r_17_57 (Cvk2 hL hc).1 (Cvk2 hL hc).2.1 (by decide) (by omega) e1 ?_
    refine w_iret r_17_58 ?_
    rw [if_pos (by omega)] at kk
    exact kk
theorem m_between {ra : Nat} {g x n : Int} {k v : Int → Int} (hk1 : gK h ra = 1) (hz : gZ h ra = 64) (hg : 0 ≤ g ∧ g < 8) (hx : 0 ≤ x ∧ x ≤ 999) (ek : ∀ i, zA h ra (8 * g + 2 * i) = k i) (ev : ∀ i, zA h ra (8 * g + 2 * i + 1) = v i) (ho : CvOK k v n)
    (kk : K (iI (crv k v n x)) h) : XW (d + 1) 191 0 [.ref ra, .int (iI g), .int (iI n), .int (iI x), .null, .null, .null, .null, .null, .null] [] h (KI K) := by
  obtain ⟨o1, o2, o3, o4⟩ := id ho
  have key : ∀ j : Nat, j ≤ (n - 1).toNat → ∀ A B C D : Value, A.category = 1 → B.category = 1 → C.category = 1 → k j < x → K (iI (crvF k v x ((n - 1).toNat - j) j)) h → XW (d + 1) 191 24 [.ref ra, .int (iI g), .int (iI n), .int (iI x), .int (iI (8 * g)), .int (iI (j + 1)), A, B, C, D] [] h (KI K) := by
    refine upto _ ?_ ?_
    · intro A B C D _ _ _ hkx hK
      rw [Nat.sub_self] at hK
      have e : gI h ra (8 * g + 2 * n - 1).toNat = iI (v ((n - 1).toNat : Nat)) := by
        rw [gI_A, ← ev, show 8 * g + 2 * n - 1 = 8 * g + 2 * (((n - 1).toNat : Nat) : Int) + 1 by omega]
      refine w_iload5 r_191_24 ?_
      refine w_iload2 r_191_26 ?_
      refine v_ic_ge r_191_27 (by first | exact zF_in _ _ _ | exact zA_in _ _ _ | omega) (by first | exact zF_in _ _ _ | exact zA_in _ _ _ | omega) (fun _ => ?_) (fun q => absurd q (by omega))
      refine w_aload0 r_191_117 ?_
      refine w_iload4 r_191_118 ?_
      refine w_iconst (v := iI (2)) r_191_120 rfl ?_
      refine w_iload2 r_191_121 ?_
      refine v_imul r_191_122 ?_
      refine v_iadd r_191_123 ?_
      refine w_iconst (v := iI (1)) r_191_124 rfl ?_
      refine v_isub r_191_125 ?_
      refine v_iald r_191_126 hk1 hz (by decide) (by omega) e ?_
      refine w_iret r_191_127 ?_
      exact hK
    · intro j hj ih A B C D hA hB hC hkx hK
      have b1 := o3 j (by omega) (by omega)
      have b2 := o3 (j + 1) (by omega) (by omega)
      have b3 := o4 j (by omega) (by omega)
      have hs : (n - 1).toNat - j = ((n - 1).toNat - (j + 1)) + 1 := by omega
      rw [hs] at hK
      unfold crvF at hK
      have f1 : gI h ra (8 * g + 2 * ((j : Int) + 1) - 2).toNat = iI (k j) := by rw [gI_A, ← ek, show 8 * g + 2 * ((j : Int) + 1) - 2 = 8 * g + 2 * (j : Int) by omega]
      have f2 : gI h ra (8 * g + 2 * ((j : Int) + 1)).toNat = iI (k (j + 1)) := by rw [gI_A, ← ek]
      have f3 : gI h ra (8 * g + 2 * ((j : Int) + 1) - 1).toNat = iI (v j) := by rw [gI_A, ← ev, show 8 * g + 2 * ((j : Int) + 1) - 1 = 8 * g + 2 * (j : Int) + 1 by omega]
      have f4 : gI h ra (8 * g + 2 * ((j : Int) + 1) + 1).toNat = iI (v (j + 1)) := by rw [gI_A, ← ev]
      have hr : R32 ((v (j + 1) - v j) * (x - k j)) := by
        have := mul_pm (a := v (j + 1) - v j) (b := x - k j) (A := 300) (B := 999) (by omega) (by omega)
        unfold R32; omega
      refine w_iload5 r_191_24 ?_
      refine w_iload2 r_191_26 ?_
      refine v_ic_ge r_191_27 (by first | exact zF_in _ _ _ | exact zA_in _ _ _ | omega) (by first | exact zF_in _ _ _ | exact zA_in _ _ _ | omega) (fun q => absurd q (by omega)) (fun _ => ?_)
      refine w_aload0 r_191_30 ?_
      refine w_iload4 r_191_31 ?_
      refine w_iconst (v := iI (2)) r_191_33 rfl ?_
      refine w_iload5 r_191_34 ?_
      refine v_imul r_191_36 ?_
      refine v_iadd r_191_37 ?_
      refine w_iconst (v := iI (2)) r_191_38 rfl ?_
      refine v_isub r_191_39 ?_
      refine v_iald r_191_40 hk1 hz (by decide) (by omega) f1 ?_
      refine w_istore6 r_191_41 rfl ?_
      refine w_aload0 r_191_43 ?_
      refine w_iload4 r_191_44 ?_
      refine w_iconst (v := iI (2)) r_191_46 rfl ?_
      refine w_iload5 r_191_47 ?_
      refine v_imul r_191_49 ?_
      refine v_iadd r_191_50 ?_
      refine v_iald r_191_51 hk1 hz (by decide) (by omega) f2 ?_
      refine w_istore7 r_191_52 rfl ?_
      refine w_iload3 r_191_54 ?_
      refine w_iload7 r_191_55 ?_
      refine v_ic_le r_191_57 (by first | exact zF_in _ _ _ | exact zA_in _ _ _ | omega) (by first | exact zF_in _ _ _ | exact zA_in _ _ _ | omega) (fun c57 => ?_) (fun c57 => ?_)
      · refine w_aload0 r_191_63 ?_
        refine w_iload4 r_191_64 ?_
        refine w_iconst (v := iI (2)) r_191_66 rfl ?_
        refine w_iload5 r_191_67 ?_
        refine v_imul r_191_69 ?_
        refine v_iadd r_191_70 ?_
        refine w_iconst (v := iI (1)) r_191_71 rfl ?_
        refine v_isub r_191_72 ?_
        refine v_iald r_191_73 hk1 hz (by decide) (by omega) f3 ?_
        refine w_istore8 r_191_74 rfl ?_
        refine w_aload0 r_191_76 ?_
        refine w_iload4 r_191_77 ?_
        refine w_iconst (v := iI (2)) r_191_79 rfl ?_
        refine w_iload5 r_191_80 ?_
        refine v_imul r_191_82 ?_
        refine v_iadd r_191_83 ?_
        refine w_iconst (v := iI (1)) r_191_84 rfl ?_
        refine v_iadd r_191_85 ?_
        refine v_iald r_191_86 hk1 hz (by decide) (by omega) f4 ?_
        refine w_istore9 r_191_87 rfl ?_
        refine w_iload8 r_191_89 ?_
        refine w_iload9 r_191_91 ?_
        refine w_iload8 r_191_93 ?_
        refine v_isub r_191_95 ?_
        refine w_iload3 r_191_96 ?_
        refine w_iload6 r_191_97 ?_
        refine v_isub r_191_99 ?_
        refine v_imul r_191_100 ?_
        refine w_iload7 r_191_101 ?_
        refine w_iload6 r_191_103 ?_
        refine v_isub r_191_105 ?_
        refine k_190 r_191_106 (Nat.le_of_ble_eq_true rfl) ?_
        refine m_down hr (by omega) ?_
        refine v_iadd r_191_109 ?_
        refine w_iret r_191_110 ?_
        rw [if_pos (by omega)] at hK
        exact hK
      · refine w_goto r_191_60 ?_
        refine w_iinc5 r_191_111 rfl (iI_add _ _) ?_
        refine w_goto r_191_114 ?_
        rw [if_neg (by omega)] at hK
        exact ih _ _ _ _ rfl rfl hC (by show k ((j : Int) + 1) < x; omega) hK
  have e0 : gI h ra (8 * g).toNat = iI (k 0) := by rw [gI_A, ← ek 0, Int.mul_zero, Int.add_zero]
  have e1 : gI h ra (8 * g + 1).toNat = iI (v 0) := by rw [gI_A, ← ev 0, Int.mul_zero, Int.add_zero]
  have b1 := o3 0 (by omega) (by omega)
  unfold crv at kk
  refine w_bipush (v := iI (8)) r_191_0 rfl ?_
  refine w_iload1 r_191_2 ?_
  refine v_imul r_191_3 ?_
  refine w_istore4 r_191_4 rfl ?_
  refine w_iload3 r_191_6 ?_
  refine w_aload0 r_191_7 ?_
  refine w_iload4 r_191_8 ?_
  refine v_iald r_191_10 hk1 hz (by decide) (by omega) e0 ?_
  refine v_ic_gt r_191_11 (by first | exact zF_in _ _ _ | exact zA_in _ _ _ | omega) (by first | exact zF_in _ _ _ | exact zA_in _ _ _ | omega) (fun c11 => ?_) (fun c11 => ?_)
  · refine w_iconst (v := iI (1)) r_191_21 rfl ?_
    refine w_istore5 r_191_22 rfl ?_
    rw [if_neg (by omega)] at kk
    exact key 0 (by omega) _ _ _ _ rfl rfl rfl (by show k 0 < x; omega) kk
  · refine w_aload0 r_191_14 ?_
    refine w_iload4 r_191_15 ?_
    refine w_iconst (v := iI (1)) r_191_17 rfl ?_
    refine v_iadd r_191_18 ?_
    refine v_iald r_191_19 hk1 hz (by decide) (by omega) e1 ?_
    refine w_iret r_191_20 ?_
    rw [if_pos (by omega)] at kk
    exact kk
end CV
