/-! feed -/
def fb (a b c e f : Int32) (k : Int) : Int32 := (if k < 4 then a else if k < 8 then b else if k < 12 then c else if k < 16 then e else f) >>> (iI (24 - 8 * (k % 4)) &&& 31)
theorem irem4 {k : Int} (hk : 0 ≤ k) : k - k.tdiv 4 * 4 = k % 4 := by
  rw [Int.tdiv_eq_ediv_of_nonneg hk]; omega
section FE
variable {d : Nat} {h : XH} {K : Int32 → XH → Prop} {KU : XH → Prop} {rb : Nat}
theorem c_putBytes {x : Int32} {t : Nat} (hL : Lay h) (ht : gI h 1 1 = iI t) (hb : t + 4 ≤ 500) (hk : ∀ h', Fr (pO (pA [2]) (pF [(1, 1)])) h h' → gI h' 1 1 = iI (t + 4 : Nat) → (∀ i : Nat, gI h' 2 i = if t ≤ i ∧ i < t + 4 then (x >>> (iI (24 - 8 * ((i : Int) - t)) &&& 31)).toInt8.toInt32 else gI h 2 i) → KU h') :
    XW d 117 0 [.ref 1, .int x, .null] [] h (KV KU) := by
  have key : ∀ j : Nat, j ≤ 4 → ∀ h1, Fr (pO (pA [2]) (pF [(1, 1)])) h h1 → gI h1 1 1 = iI (t + j : Nat) → (∀ i : Nat, gI h1 2 i = if t ≤ i ∧ i < t + j then (x >>> (iI (24 - 8 * ((i : Int) - t)) &&& 31)).toInt8.toInt32 else gI h 2 i) → XW d 117 3 [.ref 1, .int x, .int (iI (24 - 8 * (j : Int)))] [] h1 (KV KU) := by
    refine upto _ ?_ ?_
    · intro h1 hf e1 hc
      refine w_iload2 r_117_3 ?_
      refine v_if_lt r_117_4 (by first | exact zF_in _ _ _ | exact zA_in _ _ _ | omega) (fun _ => ?_) (fun q => absurd q (by omega))
      refine w_vret r_117_46 ?_
      exact hk h1 hf e1 hc
    · intro j hj ih h1 hf e1 hc
      have hL := hf.lay hL
      refine w_iload2 r_117_3 ?_
      refine v_if_lt r_117_4 (by first | exact zF_in _ _ _ | exact zA_in _ _ _ | omega) (fun q => absurd q (by omega)) (fun _ => ?_)
      refine w_aload0 r_117_7 ?_
      refine v_getI r_117_8 (Lk_1 hL) e1 ?_
      refine w_sipush (v := iI (500)) r_117_11 rfl ?_
      refine v_ic_ge r_117_14 (by first | exact zF_in _ _ _ | exact zA_in _ _ _ | omega) (by first | exact zF_in _ _ _ | exact zA_in _ _ _ | omega) (fun q => absurd q (by omega)) (fun _ => ?_)
      refine w_aload0 r_117_17 ?_
      refine w_getA (x := 2) r_117_18 (Lk_1 hL) (Lr_1_0 hL) (by decide) ?_
      refine w_aload0 r_117_21 ?_
      refine v_getI r_117_22 (Lk_1 hL) e1 ?_
      refine w_iload1 r_117_25 ?_
      refine w_iload2 r_117_26 ?_
      refine w_ishr r_117_27 ?_
      refine w_i2b r_117_28 ?_
      refine v_bast r_117_29 (Lk_2 hL) (Ln_2 hL) (Lz_2 hL) (by decide) (by omega) ?_
      refine w_aload0 r_117_30 ?_
      refine w_dupA r_117_31 ?_
      refine v_getI r_117_32 (Lk_1 hL) e1 ?_
      refine w_iconst (v := iI (1)) r_117_35 rfl ?_
      refine v_iadd r_117_36 ?_
      refine w_putI r_117_37 (Lk_1 hL) (Ln_1 hL) ?_
      refine w_iinc2 r_117_40 rfl (iI_add _ _) ?_
      refine w_goto r_117_43 ?_
      rw [show 24 - 8 * (j : Int) + -8 = 24 - 8 * ((j + 1 : Nat) : Int) by omega]
      refine ih _ ((hf.sI 2 (t + j) _ rfl).sI 1 1 (iI ((t + j : Nat) + 1)) rfl) rfl (fun i => ?_)
      rw [sI_other _ (by decide), sI_here, hc]
      by_cases e : i = t + j
      · rw [if_pos (by omega), if_pos (by omega), e, show ((t + j : Nat) : Int) - t = j by omega]; simp
      · rw [if_neg (by omega)]; by_cases e2 : t ≤ i ∧ i < t + j
        · rw [if_pos e2, if_pos (by omega)]
        · rw [if_neg e2, if_neg (by omega)]
  refine w_bipush (v := iI (24)) r_117_0 rfl ?_
  refine w_istore2 r_117_2 rfl ?_
  exact key 0 (by omega) h (Fr.refl _ _) ht (fun i => by rw [if_neg (by omega)])
theorem c_feed {a b c e f : Int32} {t : Nat} (hL : Lay h) (ht : gI h 1 1 = iI t) (hb : t ≤ 500) (k0 : 500 < t + 20 → K (iI (-1)) h)
    (hk : t + 20 ≤ 500 → ∀ h', Fr (pO (pA [2]) (pF [(1, 1)])) h h' → gI h' 1 1 = iI (t + 20 : Nat) → (∀ i : Nat, gI h' 2 i = if t ≤ i ∧ i < t + 20 then (fb a b c e f ((i : Int) - t)).toInt8.toInt32 else gI h 2 i) → K (iI (t + 20 : Nat)) h') :
    XW (d + 1) 116 0 [.ref 1, .int a, .int b, .int c, .int e, .int f] [] h (KI K) := by
  refine w_aload0 r_116_0 ?_
  refine v_getI r_116_1 (Lk_1 hL) ht ?_
  refine w_bipush (v := iI (20)) r_116_4 rfl ?_
  refine v_iadd r_116_6 ?_
  refine w_sipush (v := iI (500)) r_116_7 rfl ?_
  refine v_ic_le r_116_10 (by first | exact zF_in _ _ _ | exact zA_in _ _ _ | omega) (by first | exact zF_in _ _ _ | exact zA_in _ _ _ | omega) (fun c10 => ?_) (fun c10 => ?_)
  · refine w_aload0 r_116_15 ?_
    refine w_iload1 r_116_16 ?_
    refine k_117 r_116_17 (Lk_1 hL) (Nat.le_of_ble_eq_true rfl) ?_
    refine c_putBytes (t := t) hL ht (by omega) (fun h1 f1 t1 b1 => ?_)
    have hL := f1.lay hL
    refine w_aload0 r_116_20 ?_
    refine w_iload2 r_116_21 ?_
    refine k_117 r_116_22 (Lk_1 hL) (Nat.le_of_ble_eq_true rfl) ?_
    refine c_putBytes (t := t + 4) hL t1 (by omega) (fun h2 f2 t2 b2 => ?_)
    have hL := f2.lay hL
    refine w_aload0 r_116_25 ?_
    refine w_iload3 r_116_26 ?_
    refine k_117 r_116_27 (Lk_1 hL) (Nat.le_of_ble_eq_true rfl) ?_
    refine c_putBytes (t := t + 4 + 4) hL t2 (by omega) (fun h3 f3 t3 b3 => ?_)
    have hL := f3.lay hL
    refine w_aload0 r_116_30 ?_
    refine w_iload4 r_116_31 ?_
    refine k_117 r_116_33 (Lk_1 hL) (Nat.le_of_ble_eq_true rfl) ?_
    refine c_putBytes (t := t + 4 + 4 + 4) hL t3 (by omega) (fun h4 f4 t4 b4 => ?_)
    have hL := f4.lay hL
    refine w_aload0 r_116_36 ?_
    refine w_iload5 r_116_37 ?_
    refine k_117 r_116_39 (Lk_1 hL) (Nat.le_of_ble_eq_true rfl) ?_
    refine c_putBytes (t := t + 4 + 4 + 4 + 4) hL t4 (by omega) (fun h5 f5 t5 b5 => ?_)
    have hL := f5.lay hL
    refine w_aload0 r_116_42 ?_
    refine v_getI r_116_43 (Lk_1 hL) t5 ?_
    refine w_iret r_116_46 ?_
    refine hk (by omega) h5 ((((f1.trans f2).trans f3).trans f4).trans f5) t5 (fun i => ?_)
    rw [b5, b4, b3, b2, b1]
    unfold fb
    repeat' split
    all_goals first | rfl | (exfalso; omega) | (congr 5; omega)
  · refine w_iconst (v := iI (-1)) r_116_13 rfl ?_
    refine w_iret r_116_14 ?_
    exact k0 (by omega)
theorem m_feed {a b c e f : Int32} {t : Nat} (hL : Lay h) (ht : gI h 118 2 = iI t) (hb : t ≤ 500) (k0 : 500 < t + 20 → K (iI (-1)) (sI h 118 0 (iI 0)))
    (hk : t + 20 ≤ 500 → ∀ h', Fr (pO (pA [119]) (pF [(118, 0), (118, 2)])) h h' → gI h' 118 2 = iI (t + 20 : Nat) → (∀ i : Nat, gI h' 119 i = if t ≤ i ∧ i < t + 20 then (fb a b c e f ((i : Int) - t)) &&& 255 else gI h 119 i) → K (iI (t + 20 : Nat)) h') :
    XW d 168 0 [.ref 118, .int a, .int b, .int c, .int e, .int f, .null, .null] [] h (KI K) := by
  have key : t + 20 ≤ 500 → ∀ j : Nat, j ≤ 20 → ∀ h1 X, Fr (pO (pA [119]) (pF [(118, 0), (118, 2)])) h h1 → gI h1 118 2 = iI (t + j : Nat) → (∀ i : Nat, gI h1 119 i = if t ≤ i ∧ i < t + j then (fb a b c e f ((i : Int) - t)) &&& 255 else gI h 119 i) → XW d 168 23 [.ref 118, .int a, .int b, .int c, .int e, .int f, .int (iI j), X] [] h1 (KI K) := by
    intro h500
    refine upto _ ?_ ?_
    · intro h1 X hf e1 hc
      have hL := hf.lay hL
      refine w_iload6 r_168_23 ?_
      refine w_bipush (v := iI (20)) r_168_25 rfl ?_
      refine v_ic_ge r_168_27 (by first | exact zF_in _ _ _ | exact zA_in _ _ _ | omega) (by first | exact zF_in _ _ _ | exact zA_in _ _ _ | omega) (fun _ => ?_) (fun q => absurd q (by omega))
      refine w_aload0 r_168_120 ?_
      refine v_getI r_168_121 (Lk_118 hL) e1 ?_
      refine w_iret r_168_124 ?_
      exact hk h500 h1 hf e1 hc
    · intro j hj ih h1 X hf e1 hc
      have hL := hf.lay hL
      have em := irem4 (k := (j : Int)) (by omega)
      have go : ∀ w : Int32, w >>> (iI (24 - 8 * ((j : Int) - (j : Int).tdiv 4 * 4)) &&& 31) = fb a b c e f j → XW d 168 78 [.ref 118, .int a, .int b, .int c, .int e, .int f, .int (iI j), .int w] [] h1 (KI K) := by
        intro w hw
        refine w_aload0 r_168_78 ?_
        refine w_getA (x := 119) r_168_79 (Lk_118 hL) (Lr_118_1 hL) (by decide) ?_
        refine w_aload0 r_168_82 ?_
        refine v_getI r_168_83 (Lk_118 hL) e1 ?_
        refine w_iload7 r_168_86 ?_
        refine w_bipush (v := iI (24)) r_168_88 rfl ?_
        refine w_bipush (v := iI (8)) r_168_90 rfl ?_
        refine w_iload6 r_168_92 ?_
        refine w_iconst (v := iI (4)) r_168_94 rfl ?_
        refine v_irem r_168_95 (by first | exact zF_in _ _ _ | exact zA_in _ _ _ | omega) (by omega) ?_
        refine v_imul r_168_96 ?_
        refine v_isub r_168_97 ?_
        refine w_ishr r_168_98 ?_
        refine w_sipush (v := iI (255)) r_168_99 rfl ?_
        refine w_iand r_168_102 ?_
        refine v_iast r_168_103 (Lk_119 hL) (Ln_119 hL) (Lz_119 hL) (by decide) (by omega) ?_
        refine w_aload0 r_168_104 ?_
        refine w_dupA r_168_105 ?_
        refine v_getI r_168_106 (Lk_118 hL) e1 ?_
        refine w_iconst (v := iI (1)) r_168_109 rfl ?_
        refine v_iadd r_168_110 ?_
        refine w_putI r_168_111 (Lk_118 hL) (Ln_118 hL) ?_
        refine w_iinc6 r_168_114 rfl (iI_add _ _) ?_
        refine w_goto r_168_117 ?_
        rw [hw]
        refine ih _ _ ((hf.sI 119 (t + j) _ rfl).sI 118 2 (iI ((t + j : Nat) + 1)) rfl) rfl (fun i => ?_)
        rw [sI_other _ (by decide), sI_here, hc]
        by_cases e : i = t + j
        · rw [if_pos (by omega), if_pos (by omega), e, show ((t + j : Nat) : Int) - t = j by omega]; rfl
        · rw [if_neg (by omega)]; by_cases e2 : t ≤ i ∧ i < t + j
          · rw [if_pos e2, if_pos (by omega)]
          · rw [if_neg e2, if_neg (by omega)]
      refine w_iload6 r_168_23 ?_
      refine w_bipush (v := iI (20)) r_168_25 rfl ?_
      refine v_ic_ge r_168_27 (by first | exact zF_in _ _ _ | exact zA_in _ _ _ | omega) (by first | exact zF_in _ _ _ | exact zA_in _ _ _ | omega) (fun q => absurd q (by omega)) (fun _ => ?_)
      refine w_iload6 r_168_30 ?_
      refine w_iconst (v := iI (4)) r_168_32 rfl ?_
      refine v_ic_ge r_168_33 (by first | exact zF_in _ _ _ | exact zA_in _ _ _ | omega) (by first | exact zF_in _ _ _ | exact zA_in _ _ _ | omega) (fun c33 => ?_) (fun c33 => ?_)
      · refine w_iload6 r_168_40 ?_
        refine w_bipush (v := iI (8)) r_168_42 rfl ?_
        refine v_ic_ge r_168_44 (by first | exact zF_in _ _ _ | exact zA_in _ _ _ | omega) (by first | exact zF_in _ _ _ | exact zA_in _ _ _ | omega) (fun c44 => ?_) (fun c44 => ?_)
        · refine w_iload6 r_168_51 ?_
          refine w_bipush (v := iI (12)) r_168_53 rfl ?_
          refine v_ic_ge r_168_55 (by first | exact zF_in _ _ _ | exact zA_in _ _ _ | omega) (by first | exact zF_in _ _ _ | exact zA_in _ _ _ | omega) (fun c55 => ?_) (fun c55 => ?_)
          · refine w_iload6 r_168_62 ?_
            refine w_bipush (v := iI (16)) r_168_64 rfl ?_
            refine v_ic_ge r_168_66 (by first | exact zF_in _ _ _ | exact zA_in _ _ _ | omega) (by first | exact zF_in _ _ _ | exact zA_in _ _ _ | omega) (fun c66 => ?_) (fun c66 => ?_)
            · refine w_iload5 r_168_74 ?_
              refine w_istore7 r_168_76 rfl ?_
              refine go _ ?_
              rw [em]
              unfold fb
              repeat' split
              all_goals first | rfl | (exfalso; omega)
            · refine w_iload4 r_168_69 ?_
              refine w_goto r_168_71 ?_
              refine w_istore7 r_168_76 rfl ?_
              refine go _ ?_
              rw [em]
              unfold fb
              repeat' split
              all_goals first | rfl | (exfalso; omega)
          · refine w_iload3 r_168_58 ?_
            refine w_goto r_168_59 ?_
            refine w_istore7 r_168_76 rfl ?_
            refine go _ ?_
            rw [em]
            unfold fb
            repeat' split
            all_goals first | rfl | (exfalso; omega)
        · refine w_iload2 r_168_47 ?_
          refine w_goto r_168_48 ?_
          refine w_istore7 r_168_76 rfl ?_
          refine go _ ?_
          rw [em]
          unfold fb
          repeat' split
          all_goals first | rfl | (exfalso; omega)
      · refine w_iload1 r_168_36 ?_
        refine w_goto r_168_37 ?_
        refine w_istore7 r_168_76 rfl ?_
        refine go _ ?_
        rw [em]
        unfold fb
        repeat' split
        all_goals first | rfl | (exfalso; omega)
  refine w_aload0 r_168_0 ?_
  refine w_iconst (v := iI (0)) r_168_1 rfl ?_
  refine w_putI r_168_2 (Lk_118 hL) (Ln_118 hL) ?_
  refine w_aload0 r_168_5 ?_
  refine v_getI r_168_6 (Lk_118 hL) ht ?_
  refine w_bipush (v := iI (20)) r_168_9 rfl ?_
  refine v_iadd r_168_11 ?_
  refine w_sipush (v := iI (500)) r_168_12 rfl ?_
  refine v_ic_le r_168_15 (by first | exact zF_in _ _ _ | exact zA_in _ _ _ | omega) (by first | exact zF_in _ _ _ | exact zA_in _ _ _ | omega) (fun c15 => ?_) (fun c15 => ?_)
  · refine w_iconst (v := iI (0)) r_168_20 rfl ?_
    refine w_istore6 r_168_21 rfl ?_
    exact key (by omega) 0 (by omega) _ _ ((Fr.refl _ _).sI 118 0 _ rfl) ht (fun i => by rw [if_neg (by omega)]; rfl)
  · refine w_iconst (v := iI (-1)) r_168_18 rfl ?_
    refine w_iret r_168_19 ?_
    exact k0 (by omega)
end FE
