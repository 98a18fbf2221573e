/-! calls: out, tryAt, the class -/
section OPD
variable {d : Nat} {h h' h1 : XH} {K : Int32 → XH → Prop} {KU : XH → Prop} {B : XB} {rb a0 : Nat} {i : Int}
theorem c_out (hL : Lay h) (hU : Unt h) (hB : RB h rb) (hC : CBk h rb B) (hN : B.ok ∨ B.none) (hG : B.ok → CDg h B a0) (hn : gN h < 899000) (hv : ∀ k : Int, 0 ≤ k → k < B.w → 0 ≤ zA h 108 k ∧ zA h 108 k ≤ 4)
    (k1 : B.none → K (iI (-1)) (sI h 1 18 (iI 1)))
    (k6 : B.ok → ¬ dS B (s5 (zA h 108) B.w.toNat) < 1000000000000000 → ∀ h' a1, Ch (PDc a1) qV h h' → Lay h' → zF h' 107 4 = 1 → SvD B (cV B) h' a1 → Gw h h' a0 a1 → K (iI (-1)) (sI h' 1 18 (iI 6)))
    (kt : B.ok → dS B (s5 (zA h 108) B.w.toNat) < 1000000000000000 → ∀ h' a1, Ch (PDc a1) qV h h' → Lay h' → zF h' 107 4 = 1 → SvD B (cV B) h' a1 → Gw h h' a0 a1 → K (iI (dS B (s5 (zA h 108) B.w.toNat) / 10000)) (sI h' 1 18 (iI 0))) :
    XW (d + 7) 149 0 [.ref 1, .null] [] h (KI K) := by
  have hb := hB.1
  have e10 := hC.1.2.2.1
  rcases hN with ho | hn0
  · have o := ho.1
    have hs := s5_ok ho hv
    have k6 := k6 ho
    have kt := kt ho
    have co : ∀ KK : Int32 → XH → Prop, (∀ h' a1, Ch (PDc a1) qV h h' → Lay h' → zF h' 107 4 = 1 → SvD B (cV B) h' a1 → Gw h h' a0 a1 → KK (iI (if dS B (s5 (zA h 108) B.w.toNat) < 1000000000000000 then dS B (s5 (zA h 108) B.w.toNat) / 10000 else -1)) h') → XW (d + 6) 26 0 [.ref 107, .null] [] h (KI KK) := fun KK kk => c_costOut (d := d) hL hU hb hB.2.2.2.2 hC ho (hG ho) hn hv kk
    generalize s5 (zA h 108) B.w.toNat = s at *
    have i := dS_in (B := B) hs.1 hs.2
    by_cases f : dS B s < 1000000000000000
    · rw [if_pos f] at co
      have sm := dS_small ho hs.1 hs.2 f
      refine w_aload0 r_149_0 ?_
      refine w_getA (x := rb) r_149_1 (Lk_1 hL) hB.2.1 (RB.nz hb) ?_
      refine k_2 r_149_4 (Bk_ hL hb) (Nat.le_of_ble_eq_true rfl) ?_
      refine c_isTold hL hb (fun c4 => ?_) (fun c4 => ?_)
      · refine v_if_ne r_149_7 (by first | exact zF_in _ _ _ | exact zA_in _ _ _ | omega) (fun _ => ?_) (fun q => absurd q (by omega))
        refine w_aload0 r_149_16 ?_
        refine w_getA (x := 107) r_149_17 (Lk_1 hL) (Lr_1_14 hL) (by decide) ?_
        refine k_26 r_149_20 (Lk_107 hL) (Nat.le_of_ble_eq_true rfl) ?_
        refine co _ (fun h1 a1 c1 L1 z1 s1 g1 => ?_)
        have hL := L1
        have R := kt f h1 a1 c1 L1 z1 s1 g1
        refine w_istore1 r_149_23 rfl ?_
        refine w_iload1 r_149_24 ?_
        refine w_iconst (v := iI (-1)) r_149_25 rfl ?_
        refine v_ic_ne r_149_26 (by first | exact zF_in _ _ _ | exact zA_in _ _ _ | omega) (by first | exact zF_in _ _ _ | exact zA_in _ _ _ | omega) (fun _ => ?_) (fun q => absurd q (by omega))
        refine w_aload0 r_149_38 ?_
        refine w_iload1 r_149_39 ?_
        refine k_156 r_149_40 (Lk_1 hL) (Nat.le_of_ble_eq_true rfl) ?_
        refine c_answer hL ?_
        refine w_iret r_149_43 ?_
        exact R
      · refine v_if_ne r_149_7 (by first | exact zF_in _ _ _ | exact zA_in _ _ _ | omega) (fun q => absurd q (by omega)) (fun _ => ?_)
        refine w_aload0 r_149_10 ?_
        refine w_iconst (v := iI (1)) r_149_11 rfl ?_
        refine k_157 r_149_12 (Lk_1 hL) (Nat.le_of_ble_eq_true rfl) ?_
        refine c_refuse hL ?_
        refine w_iret r_149_15 ?_
        exfalso
        omega
    · rw [if_neg f] at co
      refine w_aload0 r_149_0 ?_
      refine w_getA (x := rb) r_149_1 (Lk_1 hL) hB.2.1 (RB.nz hb) ?_
      refine k_2 r_149_4 (Bk_ hL hb) (Nat.le_of_ble_eq_true rfl) ?_
      refine c_isTold hL hb (fun c4 => ?_) (fun c4 => ?_)
      · refine v_if_ne r_149_7 (by first | exact zF_in _ _ _ | exact zA_in _ _ _ | omega) (fun _ => ?_) (fun q => absurd q (by omega))
        refine w_aload0 r_149_16 ?_
        refine w_getA (x := 107) r_149_17 (Lk_1 hL) (Lr_1_14 hL) (by decide) ?_
        refine k_26 r_149_20 (Lk_107 hL) (Nat.le_of_ble_eq_true rfl) ?_
        refine co _ (fun h1 a1 c1 L1 z1 s1 g1 => ?_)
        have hL := L1
        have R := k6 f h1 a1 c1 L1 z1 s1 g1
        refine w_istore1 r_149_23 rfl ?_
        refine w_iload1 r_149_24 ?_
        refine w_iconst (v := iI (-1)) r_149_25 rfl ?_
        refine v_ic_ne r_149_26 (by first | exact zF_in _ _ _ | exact zA_in _ _ _ | omega) (by first | exact zF_in _ _ _ | exact zA_in _ _ _ | omega) (fun q => absurd q (by omega)) (fun _ => ?_)
        refine w_aload0 r_149_29 ?_
        refine w_bipush (v := iI (6)) r_149_30 rfl ?_
        refine k_157 r_149_32 (Lk_1 hL) (Nat.le_of_ble_eq_true rfl) ?_
        refine c_refuse hL ?_
        refine w_goto r_149_35 ?_
        refine w_iret r_149_43 ?_
        exact R
      · refine v_if_ne r_149_7 (by first | exact zF_in _ _ _ | exact zA_in _ _ _ | omega) (fun q => absurd q (by omega)) (fun _ => ?_)
        refine w_aload0 r_149_10 ?_
        refine w_iconst (v := iI (1)) r_149_11 rfl ?_
        refine k_157 r_149_12 (Lk_1 hL) (Nat.le_of_ble_eq_true rfl) ?_
        refine c_refuse hL ?_
        refine w_iret r_149_15 ?_
        exfalso
        omega
  · have z := hn0.2.2.1
    have R := k1 hn0
    refine w_aload0 r_149_0 ?_
    refine w_getA (x := rb) r_149_1 (Lk_1 hL) hB.2.1 (RB.nz hb) ?_
    refine k_2 r_149_4 (Bk_ hL hb) (Nat.le_of_ble_eq_true rfl) ?_
    refine c_isTold hL hb (fun c4 => ?_) (fun c4 => ?_)
    · refine v_if_ne r_149_7 (by first | exact zF_in _ _ _ | exact zA_in _ _ _ | omega) (fun _ => ?_) (fun q => absurd q (by omega))
      exfalso
      omega
    · refine v_if_ne r_149_7 (by first | exact zF_in _ _ _ | exact zA_in _ _ _ | omega) (fun q => absurd q (by omega)) (fun _ => ?_)
      refine w_aload0 r_149_10 ?_
      refine w_iconst (v := iI (1)) r_149_11 rfl ?_
      refine k_157 r_149_12 (Lk_1 hL) (Nat.le_of_ble_eq_true rfl) ?_
      refine c_refuse hL ?_
      refine w_iret r_149_15 ?_
      exact R
theorem c_tryAt (hi : R32 i) (hL : Lay h) (hU : Unt h) (hB : RB h rb) (hC : CBk h rb B) (hN : B.ok ∨ B.none) (hG : B.ok → CDg h B a0) (hn : gN h < 899000) (hv : ∀ k : Int, 0 ≤ k → k < B.w → 0 ≤ zA h 108 k ∧ zA h 108 k ≤ 4) (h10 : B.ok → zF h 107 10 = 0 ∨ zF h 107 10 = 1 ∧ zF h 107 4 = 1 ∧ Pth h B a0 (s5 (zA h 108) B.w.toNat))
    (k1 : B.none ∨ i < 0 → K (iI (-1)) (sI h 1 18 (iI 1)))
    (kt : B.ok → 0 ≤ i → ∀ h' a1, Ch (PPl a1) qV h h' → Lay h' → zF h' 107 4 = 1 → zF h' 107 10 = 1 → SvD B (cV B) h' a1 → Pth h' B a1 (s5 (zA h 108) B.w.toNat) → Gw h h' a0 a1 → K (iI (tryR B (s5 (zA h 108) B.w.toNat) i)) (sI h' 1 18 (iI 0))) :
    XW (d + 8) 150 0 [.ref 1, .int (iI i)] [] h (KI K) := by
  have hb := hB.1
  have e10 := hC.1.2.2.1
  rcases hN with ho | hn0
  · have o := ho.1
    by_cases q : 0 ≤ i
    · have kt := kt ho q
      have mv : ∀ KK : Int32 → XH → Prop, (∀ h' a1, Ch (PPl a1) qV h h' → Lay h' → zF h' 107 4 = 1 → zF h' 107 10 = 1 → SvD B (cV B) h' a1 → Pth h' B a1 (s5 (zA h 108) B.w.toNat) → Gw h h' a0 a1 → KK (iI (tryR B (s5 (zA h 108) B.w.toNat) i)) h') → XW (d + 7) 27 0 [.ref 107, .int (iI i)] [] h (KI KK) := fun KK kk => c_moveAt (d := d) (by omega) hL hU hb hB.2.2.2.2 hC ho (hG ho) hn hv (h10 ho) kk
      refine w_aload0 r_150_0 ?_
      refine w_getA (x := rb) r_150_1 (Lk_1 hL) hB.2.1 (RB.nz hb) ?_
      refine k_2 r_150_4 (Bk_ hL hb) (Nat.le_of_ble_eq_true rfl) ?_
      refine c_isTold hL hb (fun c4 => ?_) (fun c4 => ?_)
      · refine v_if_eq r_150_7 (by first | exact zF_in _ _ _ | exact zA_in _ _ _ | omega) (fun q => absurd q (by omega)) (fun _ => ?_)
        refine w_iload1 r_150_10 ?_
        refine v_if_ge r_150_11 (by first | exact zF_in _ _ _ | exact zA_in _ _ _ | omega) (fun _ => ?_) (fun q => absurd q (by omega))
        refine w_aload0 r_150_20 ?_
        refine w_aload0 r_150_21 ?_
        refine w_getA (x := 107) r_150_22 (Lk_1 hL) (Lr_1_14 hL) (by decide) ?_
        refine w_iload1 r_150_25 ?_
        refine k_27 r_150_26 (Lk_107 hL) (Nat.le_of_ble_eq_true rfl) ?_
        refine mv _ (fun h1 a1 c1 L1 z1 w1 s1 p1 g1 => ?_)
        have hL := L1
        have R := kt h1 a1 c1 L1 z1 w1 s1 p1 g1
        refine k_156 r_150_29 (Lk_1 hL) (Nat.le_of_ble_eq_true rfl) ?_
        refine c_answer hL ?_
        refine w_iret r_150_32 ?_
        exact R
      · refine v_if_eq r_150_7 (by first | exact zF_in _ _ _ | exact zA_in _ _ _ | omega) (fun _ => ?_) (fun q => absurd q (by omega))
        refine w_aload0 r_150_14 ?_
        refine w_iconst (v := iI (1)) r_150_15 rfl ?_
        refine k_157 r_150_16 (Lk_1 hL) (Nat.le_of_ble_eq_true rfl) ?_
        refine c_refuse hL ?_
        refine w_iret r_150_19 ?_
        exfalso
        omega
    · have R := k1 (Or.inr (by omega))
      refine w_aload0 r_150_0 ?_
      refine w_getA (x := rb) r_150_1 (Lk_1 hL) hB.2.1 (RB.nz hb) ?_
      refine k_2 r_150_4 (Bk_ hL hb) (Nat.le_of_ble_eq_true rfl) ?_
      refine c_isTold hL hb (fun c4 => ?_) (fun c4 => ?_)
      · refine v_if_eq r_150_7 (by first | exact zF_in _ _ _ | exact zA_in _ _ _ | omega) (fun q => absurd q (by omega)) (fun _ => ?_)
        refine w_iload1 r_150_10 ?_
        refine v_if_ge r_150_11 (by first | exact zF_in _ _ _ | exact zA_in _ _ _ | omega) (fun q => absurd q (by omega)) (fun _ => ?_)
        refine w_aload0 r_150_14 ?_
        refine w_iconst (v := iI (1)) r_150_15 rfl ?_
        refine k_157 r_150_16 (Lk_1 hL) (Nat.le_of_ble_eq_true rfl) ?_
        refine c_refuse hL ?_
        refine w_iret r_150_19 ?_
        exact R
      · refine v_if_eq r_150_7 (by first | exact zF_in _ _ _ | exact zA_in _ _ _ | omega) (fun _ => ?_) (fun q => absurd q (by omega))
        refine w_aload0 r_150_14 ?_
        refine w_iconst (v := iI (1)) r_150_15 rfl ?_
        refine k_157 r_150_16 (Lk_1 hL) (Nat.le_of_ble_eq_true rfl) ?_
        refine c_refuse hL ?_
        refine w_iret r_150_19 ?_
        exact R
  · have z := hn0.2.2.1
    have R := k1 (Or.inl hn0)
    refine w_aload0 r_150_0 ?_
    refine w_getA (x := rb) r_150_1 (Lk_1 hL) hB.2.1 (RB.nz hb) ?_
    refine k_2 r_150_4 (Bk_ hL hb) (Nat.le_of_ble_eq_true rfl) ?_
    refine c_isTold hL hb (fun c4 => ?_) (fun c4 => ?_)
    · refine v_if_eq r_150_7 (by first | exact zF_in _ _ _ | exact zA_in _ _ _ | omega) (fun q => absurd q (by omega)) (fun _ => ?_)
      exfalso
      omega
    · refine v_if_eq r_150_7 (by first | exact zF_in _ _ _ | exact zA_in _ _ _ | omega) (fun _ => ?_) (fun q => absurd q (by omega))
      refine w_aload0 r_150_14 ?_
      refine w_iconst (v := iI (1)) r_150_15 rfl ?_
      refine k_157 r_150_16 (Lk_1 hL) (Nat.le_of_ble_eq_true rfl) ?_
      refine c_refuse hL ?_
      refine w_iret r_150_19 ?_
      exact R
theorem c_make {t w : Int} (ht : R32 t) (hw : R32 w) (hL : Lay h) (hB : RB h rb) (hC : CBk h rb B) (hN : B.ok ∨ B.none) (hv : ∀ k : Int, 0 ≤ k → k < B.w → 0 ≤ zA h 108 k ∧ zA h 108 k ≤ 4)
    (k1 : ¬ ((0 ≤ t ∧ t < B.t) ∧ 0 ≤ w ∧ w < B.w) → K (iI (-1)) (sI h 1 18 (iI 1)))
    (kt : (0 ≤ t ∧ t < B.t) ∧ 0 ≤ w ∧ w < B.w → ∀ h', Fr (pO (pA [108]) (pF [(107, 10)])) h h' → (∀ k, 0 ≤ k → k < B.w → zA h' 108 k = mvd (B.ea t) (B.on t) (zA h 108) w k) → (∀ k, B.w ≤ k → zA h' 108 k = zA h 108 k) → zF h' 107 10 = 0 → K (iI (maxTo (zA h' 108) 6)) (sI h' 1 18 (iI 0))) :
    XW (d + 4) 151 0 [.ref 1, .int (iI t), .int (iI w)] [] h (KI K) := by
  have hb := hB.1
  have e10 := hC.1.2.2.1
  have e4 := hC.1.2.1
  have main : (0 ≤ t ∧ t < B.t) ∧ 0 ≤ w ∧ w < B.w → XW (d + 4) 151 36 [.ref 1, .int (iI t), .int (iI w)] [] h (KI K) := by
    intro cd
    have ho : B.ok := by
      rcases hN with q | q
      · exact q
      · have := q.2.1; omega
    have kt := kt cd
    refine w_aload0 r_151_36 ?_
    refine w_getA (x := 107) r_151_37 (Lk_1 hL) (Lr_1_14 hL) (by decide) ?_
    refine w_iload1 r_151_40 ?_
    refine w_iload2 r_151_41 ?_
    refine k_22 r_151_42 (Lk_107 hL) (Nat.le_of_ble_eq_true rfl) ?_
    refine c_attempt (d := d) hL hb hB.2.2.2.2 hC ho cd.1 cd.2 hv (fun h1 f1 w1 w2 z1 => ?_)
    have hL := f1.lay hL
    have R := kt h1 f1 w1 w2 z1
    refine w_aload0 r_151_45 ?_
    refine w_aload0 r_151_46 ?_
    refine w_getA (x := 107) r_151_47 (Lk_1 hL) (Lr_1_14 hL) (by decide) ?_
    refine k_23 r_151_50 (Lk_107 hL) (Nat.le_of_ble_eq_true rfl) ?_
    refine c_deepest (d := d + 2) hL ?_
    refine k_156 r_151_53 (Lk_1 hL) (Nat.le_of_ble_eq_true rfl) ?_
    refine c_answer hL ?_
    refine w_iret r_151_56 ?_
    exact R
  refine w_iload1 r_151_0 ?_
  refine v_if_lt r_151_1 (by first | exact zF_in _ _ _ | exact zA_in _ _ _ | omega) (fun c1 => ?_) (fun c1 => ?_)
  · refine w_aload0 r_151_30 ?_
    refine w_iconst (v := iI (1)) r_151_31 rfl ?_
    refine k_157 r_151_32 (Lk_1 hL) (Nat.le_of_ble_eq_true rfl) ?_
    refine c_refuse hL ?_
    refine w_iret r_151_35 ?_
    exact k1 (by omega)
  · refine w_iload1 r_151_4 ?_
    refine w_aload0 r_151_5 ?_
    refine w_getA (x := rb) r_151_6 (Lk_1 hL) hB.2.1 (RB.nz hb) ?_
    refine v_getI r_151_9 (Bk_ hL hb) (gI_F h (rb) 4) ?_
    refine v_ic_ge r_151_12 (by first | exact zF_in _ _ _ | exact zA_in _ _ _ | omega) (by first | exact zF_in _ _ _ | exact zA_in _ _ _ | omega) (fun c12 => ?_) (fun c12 => ?_)
    · refine w_aload0 r_151_30 ?_
      refine w_iconst (v := iI (1)) r_151_31 rfl ?_
      refine k_157 r_151_32 (Lk_1 hL) (Nat.le_of_ble_eq_true rfl) ?_
      refine c_refuse hL ?_
      refine w_iret r_151_35 ?_
      exact k1 (by omega)
    · refine w_iload2 r_151_15 ?_
      refine v_if_lt r_151_16 (by first | exact zF_in _ _ _ | exact zA_in _ _ _ | omega) (fun c16 => ?_) (fun c16 => ?_)
      · refine w_aload0 r_151_30 ?_
        refine w_iconst (v := iI (1)) r_151_31 rfl ?_
        refine k_157 r_151_32 (Lk_1 hL) (Nat.le_of_ble_eq_true rfl) ?_
        refine c_refuse hL ?_
        refine w_iret r_151_35 ?_
        exact k1 (by omega)
      · refine w_iload2 r_151_19 ?_
        refine w_aload0 r_151_20 ?_
        refine w_getA (x := rb) r_151_21 (Lk_1 hL) hB.2.1 (RB.nz hb) ?_
        refine v_getI r_151_24 (Bk_ hL hb) (gI_F h (rb) 10) ?_
        refine v_ic_lt r_151_27 (by first | exact zF_in _ _ _ | exact zA_in _ _ _ | omega) (by first | exact zF_in _ _ _ | exact zA_in _ _ _ | omega) (fun c27 => ?_) (fun c27 => ?_)
        · exact main (by omega)
        · refine w_aload0 r_151_30 ?_
          refine w_iconst (v := iI (1)) r_151_31 rfl ?_
          refine k_157 r_151_32 (Lk_1 hL) (Nat.le_of_ble_eq_true rfl) ?_
          refine c_refuse hL ?_
          refine w_iret r_151_35 ?_
          exact k1 (by omega)
end OPD
