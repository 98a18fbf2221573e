/-! the law: led, and its loop -/
section LOOP
variable {i n : Nat} {h : XH} {s : Nat → Int32} {Q : Option Value → XH → Prop} {K : Int32 → XH → Prop} {X5 X6 : Value}
theorem law_23 (hi : i ≤ 600) (hb : 6 * (i : Int) + 6 ≤ n) (hn : n ≤ 3072) (I : INV i h s n) (J : ∀ h2 Y5 Y6, INV (i + 1) h2 s n → XW 41 284 1593 [.ref 1000000, .ref 1, .ref 118, .ref 154, .int (iI (6 * (i : Int))), Y5, Y6] [] h2 Q) : XW 41 284 1088 [.ref 1000000, .ref 1, .ref 118, .ref 154, .int (iI (6 * (i : Int))), X5, X6] [] h Q := by
  have kS := I.ks
  have hL := kS.1
  have hn6 : n ≤ 1000000 := by omega
  refine w_aload1 r_284_1088 ?_
  refine w_aload0 r_284_1089 ?_
  refine w_iload4 r_284_1090 ?_
  refine w_iconst (v := iI (1)) r_284_1092 rfl ?_
  refine v_iadd r_284_1093 ?_
  refine v_iald r_284_1094 kS.2.2.2.1 kS.2.2.2.2.1 hn6 (by omega) (scr_at kS _) ?_
  refine w_aload3 r_284_1095 ?_
  skip
  refine o_led hi (scr_in _ _) (Nat.le_of_ble_eq_true rfl) r_284_1096 I (fun h1 k1 md => ?_) (fun h1 y ry k1 md => ?_)
  · have kS := k1
    have hL := kS.1
    refine w_istore5 r_284_1099 rfl ?_
    refine w_aload2 r_284_1101 ?_
    refine w_aload0 r_284_1102 ?_
    refine w_iload4 r_284_1103 ?_
    refine w_iconst (v := iI (1)) r_284_1105 rfl ?_
    refine v_iadd r_284_1106 ?_
    refine v_iald r_284_1107 kS.2.2.2.1 kS.2.2.2.2.1 hn6 (by omega) (scr_at kS _) ?_
    refine k_242 r_284_1108 (Lk_118 hL) (Nat.le_of_ble_eq_true rfl) ?_
    refine md _ (fun b h2 I2 z => ?_)
    have kS := I2.ks
    have hL := kS.1
    refine w_istore6 r_284_1111 rfl ?_
    refine w_aload2 r_284_1113 ?_
    refine k_163 r_284_1114 (Lk_118 hL) (Nat.le_of_ble_eq_true rfl) ?_
    refine m_thrown hL ?_
    refine w_iload5 r_284_1117 ?_
    refine v_ic_eq r_284_1119 (by first | exact zF_in _ _ _ | exact zA_in _ _ _ | omega) (by first | exact zF_in _ _ _ | exact zA_in _ _ _ | omega) (fun _ => ?_) (fun q => absurd q (by omega))
    refine w_iload5 r_284_1124 ?_
    refine v_if_ne r_284_1126 (by first | exact zF_in _ _ _ | exact zA_in _ _ _ | omega) (fun _ => ?_) (fun q => absurd q (by omega))
    refine w_goto r_284_1141 ?_
    exact J h2 _ _ I2
  · have kS := k1
    have hL := kS.1
    refine w_istore5 r_284_1099 rfl ?_
    refine w_aload2 r_284_1101 ?_
    refine w_aload0 r_284_1102 ?_
    refine w_iload4 r_284_1103 ?_
    refine w_iconst (v := iI (1)) r_284_1105 rfl ?_
    refine v_iadd r_284_1106 ?_
    refine v_iald r_284_1107 kS.2.2.2.1 kS.2.2.2.2.1 hn6 (by omega) (scr_at kS _) ?_
    refine k_242 r_284_1108 (Lk_118 hL) (Nat.le_of_ble_eq_true rfl) ?_
    refine md _ (fun h2 I2 z gl => ?_)
    have kS := I2.ks
    have hL := kS.1
    refine w_istore6 r_284_1111 rfl ?_
    refine w_aload2 r_284_1113 ?_
    refine k_163 r_284_1114 (Lk_118 hL) (Nat.le_of_ble_eq_true rfl) ?_
    refine m_thrown hL ?_
    refine w_iload5 r_284_1117 ?_
    refine v_ic_eq r_284_1119 (by first | exact zF_in _ _ _ | exact zA_in _ _ _ | omega) (by first | exact zF_in _ _ _ | exact zA_in _ _ _ | omega) (fun _ => ?_) (fun q => absurd q (by omega))
    refine w_iload5 r_284_1124 ?_
    refine v_if_ne r_284_1126 (by first | exact zF_in _ _ _ | exact zA_in _ _ _ | omega) (fun q => absurd q (by omega)) (fun _ => ?_)
    refine w_aload3 r_284_1129 ?_
    refine w_iconst (v := iI (0)) r_284_1130 rfl ?_
    refine v_lald r_284_1131 (Lk_154 hL) (Lz_154 hL) (by decide) (by omega) gl ?_
    refine w_iload6 r_284_1132 ?_
    refine v_i2l r_284_1134 ry ?_
    refine v_lcmp r_284_1135 (by first | exact zF_in _ _ _ | exact zA_in _ _ _ | omega) (by first | exact zF_in _ _ _ | exact zA_in _ _ _ | omega) ?_
    refine v_if_eq r_284_1136 (by split <;> (try split) <;> omega) (fun _ => ?_) (fun q => absurd q (by (split <;> (try split) <;> omega)))
    refine w_goto r_284_1141 ?_
    exact J h2 _ _ I2
theorem v_and63 {d m pc len ra rb rc rw : Nat} {ls st : List Value} {x : Int} (hx : R32 x) (r : xrow m pc = some (.iand, len, ra, rb, rc, rw)) (k : XW d m (pc + 1) ls (.int (iI (x % 64)) :: st) h Q) : XW d m pc ls (.int (iI 63) :: .int (iI x) :: st) h Q := w_iand r (by
  have e : iI x &&& iI 63 = iI (x % 64) := by
    rw [← Int32.toInt_inj, iI_t (by omega)]
    have a : (iI x &&& iI 63).toInt = ((iI x).toBitVec &&& 63#32).toInt := rfl
    have b : x = (iI x).toBitVec.toInt := (iI_t hx).symm
    have c : ((iI x).toBitVec &&& 63#32).toNat = (iI x).toBitVec.toNat % 64 := by
      rw [BitVec.toNat_and]
      exact Nat.and_two_pow_sub_one_eq_mod (iI x).toBitVec.toNat 6
    have l := (iI x).toBitVec.isLt
    rw [BitVec.toInt_eq_toNat_cond] at b
    rw [a, BitVec.toInt_eq_toNat_cond, c]
    generalize (iI x).toBitVec.toNat = m at *
    split at b <;> split <;> omega
  rw [e]; exact k)
theorem INV.up (I : INV i h s n) : INV (i + 1) h s n := by
  obtain ⟨B, dd, M, t, T, np, pl, L, tr, du, v, S⟩ := I
  have S : ST i h s n B dd M t T np pl L tr du v v := S
  exact ⟨B, dd, M, t, T, np, pl, L, tr, du, v, S.up⟩
theorem law_loop (hn : n ≤ 3072) (kk : ∀ i h, i ≤ 600 → INV i h s n → K (iI 1) h) : ∀ (k i : Nat) (h : XH) (X5 X6 : Value), (n : Int) < 6 * i + 6 * k → i ≤ 600 → INV i h s n → XW 41 284 23 [.ref 1000000, .ref 1, .ref 118, .ref 154, .int (iI (6 * (i : Int))), X5, X6] [] h (KI K) := by
  intro k
  induction k with
  | zero =>
    intro i h X5 X6 hk hi I
    have kS := I.ks
    have hL := kS.1
    refine w_iload4 r_284_23 ?_
    refine w_aload0 r_284_25 ?_
    refine v_len r_284_26 (by rw [kS.2.2.2.1]; decide) kS.2.2.2.2.1 ?_
    refine w_bipush (v := iI (6)) r_284_27 rfl ?_
    refine v_isub r_284_29 ?_
    refine v_ic_gt r_284_30 (by first | exact zF_in _ _ _ | exact zA_in _ _ _ | omega) (by first | exact zF_in _ _ _ | exact zA_in _ _ _ | omega) (fun _ => ?_) (fun q => absurd q (by omega))
    refine w_iconst (v := iI (1)) r_284_1599 rfl ?_
    refine w_zret r_284_1600 (by decide) ?_
    exact kk _ _ hi I
  | succ k ih =>
    intro i h X5 X6 hk hi I
    have kS := I.ks
    have hL := kS.1
    have hn6 : n ≤ 1000000 := by omega
    by_cases hb : 6 * (i : Int) + 6 ≤ n
    · have J : ∀ h2 Y5 Y6, INV (i + 1) h2 s n → XW 41 284 1593 [.ref 1000000, .ref 1, .ref 118, .ref 154, .int (iI (6 * (i : Int))), Y5, Y6] [] h2 (KI K) := by
        intro h2 Y5 Y6 I2
        have R := ih (i + 1) h2 Y5 Y6 (by omega) (by omega) I2
        rw [show 6 * ((i + 1 : Nat) : Int) = 6 * (i : Int) + 6 by omega] at R
        have kS := I2.ks
        have hL := kS.1
        refine w_iinc4 r_284_1593 rfl (iI_add _ _) ?_
        refine w_goto r_284_1596 ?_
        exact R
      refine w_iload4 r_284_23 ?_
      refine w_aload0 r_284_25 ?_
      refine v_len r_284_26 (by rw [kS.2.2.2.1]; decide) kS.2.2.2.2.1 ?_
      refine w_bipush (v := iI (6)) r_284_27 rfl ?_
      refine v_isub r_284_29 ?_
      refine v_ic_gt r_284_30 (by first | exact zF_in _ _ _ | exact zA_in _ _ _ | omega) (by first | exact zF_in _ _ _ | exact zA_in _ _ _ | omega) (fun q => absurd q (by omega)) (fun _ => ?_)
      refine w_aload0 r_284_33 ?_
      refine w_iload4 r_284_34 ?_
      refine v_iald r_284_36 kS.2.2.2.1 kS.2.2.2.2.1 hn6 (by omega) (scr_at kS _) ?_
      refine w_bipush (v := iI (63)) r_284_37 rfl ?_
      refine v_and63 (scr_in _ _) r_284_39 ?_
      skip
      have xr : 0 ≤ scr s (6 * (i : Int)) % 64 ∧ scr s (6 * (i : Int)) % 64 < 64 := by omega
      generalize scr s (6 * (i : Int)) % 64 = x at *
      by_cases s0 : x = 0
      · refine w_swI (k := 0) (tgt := 200) r_284_40 s0 (by omega) (by omega) rfl rfl ?_
        exact law_0 hi hb hn I J
      · by_cases s1 : x = 1
        · refine w_swI (k := 1) (tgt := 273) r_284_40 s1 (by omega) (by omega) rfl rfl ?_
          exact law_1 hi hb hn I J
        · by_cases s2 : x = 2
          · refine w_swI (k := 2) (tgt := 298) r_284_40 s2 (by omega) (by omega) rfl rfl ?_
            exact law_2 hi hb hn I J
          · by_cases s3 : x = 3
            · refine w_swI (k := 3) (tgt := 323) r_284_40 s3 (by omega) (by omega) rfl rfl ?_
              exact law_3 hi hb hn I J
            · by_cases s4 : x = 4
              · refine w_swI (k := 4) (tgt := 336) r_284_40 s4 (by omega) (by omega) rfl rfl ?_
                exact law_4 hi hb hn I J
              · by_cases s5 : x = 5
                · refine w_swI (k := 5) (tgt := 349) r_284_40 s5 (by omega) (by omega) rfl rfl ?_
                  exact law_5 hi hb hn I J
                · by_cases s6 : x = 6
                  · refine w_swI (k := 6) (tgt := 386) r_284_40 s6 (by omega) (by omega) rfl rfl ?_
                    exact law_6 hi hb hn I J
                  · by_cases s7 : x = 7
                    · refine w_swI (k := 7) (tgt := 423) r_284_40 s7 (by omega) (by omega) rfl rfl ?_
                      exact law_7 hi hb hn I J
                    · by_cases s8 : x = 8
                      · refine w_swI (k := 8) (tgt := 448) r_284_40 s8 (by omega) (by omega) rfl rfl ?_
                        exact law_8 hi hb hn I J
                      · by_cases s9 : x = 9
                        · refine w_swI (k := 9) (tgt := 485) r_284_40 s9 (by omega) (by omega) rfl rfl ?_
                          exact law_9 hi hb hn I J
                        · by_cases s10 : x = 10
                          · refine w_swI (k := 10) (tgt := 522) r_284_40 s10 (by omega) (by omega) rfl rfl ?_
                            exact law_10 hi hb hn I J
                          · by_cases s11 : x = 11
                            · refine w_swI (k := 11) (tgt := 559) r_284_40 s11 (by omega) (by omega) rfl rfl ?_
                              exact law_11 hi hb hn I J
                            · by_cases s12 : x = 12
                              · refine w_swI (k := 12) (tgt := 584) r_284_40 s12 (by omega) (by omega) rfl rfl ?_
                                exact law_12 hi hb hn I J
                              · by_cases s13 : x = 13
                                · refine w_swI (k := 13) (tgt := 633) r_284_40 s13 (by omega) (by omega) rfl rfl ?_
                                  exact law_13 hi hb hn I J
                                · by_cases s14 : x = 14
                                  · refine w_swI (k := 14) (tgt := 670) r_284_40 s14 (by omega) (by omega) rfl rfl ?_
                                    exact law_14 hi hb hn I J
                                  · by_cases s15 : x = 15
                                    · refine w_swI (k := 15) (tgt := 695) r_284_40 s15 (by omega) (by omega) rfl rfl ?_
                                      exact law_15 hi hb hn I J
                                    · by_cases s16 : x = 16
                                      · refine w_swI (k := 16) (tgt := 732) r_284_40 s16 (by omega) (by omega) rfl rfl ?_
                                        exact law_16 hi hb hn I J
                                      · by_cases s17 : x = 17
                                        · refine w_swI (k := 17) (tgt := 793) r_284_40 s17 (by omega) (by omega) rfl rfl ?_
                                          exact law_17 hi hb hn I J
                                        · by_cases s18 : x = 18
                                          · refine w_swI (k := 18) (tgt := 830) r_284_40 s18 (by omega) (by omega) rfl rfl ?_
                                            exact law_18 hi hb hn I J
                                          · by_cases s19 : x = 19
                                            · refine w_swI (k := 19) (tgt := 896) r_284_40 s19 (by omega) (by omega) rfl rfl ?_
                                              exact law_19 hi hb hn I J
                                            · by_cases s20 : x = 20
                                              · refine w_swI (k := 20) (tgt := 961) r_284_40 s20 (by omega) (by omega) rfl rfl ?_
                                                exact law_20 hi hb hn I J
                                              · by_cases s21 : x = 21
                                                · refine w_swI (k := 21) (tgt := 974) r_284_40 s21 (by omega) (by omega) rfl rfl ?_
                                                  exact law_21 hi hb hn I J
                                                · by_cases s22 : x = 22
                                                  · refine w_swI (k := 22) (tgt := 1011) r_284_40 s22 (by omega) (by omega) rfl rfl ?_
                                                    exact law_22 hi hb hn I J
                                                  · by_cases s23 : x = 23
                                                    · refine w_swI (k := 23) (tgt := 1088) r_284_40 s23 (by omega) (by omega) rfl rfl ?_
                                                      exact law_23 hi hb hn I J
                                                    · by_cases s24 : x = 24
                                                      · refine w_swI (k := 24) (tgt := 1144) r_284_40 s24 (by omega) (by omega) rfl rfl ?_
                                                        exact law_24 hi hb hn I J
                                                      · by_cases s25 : x = 25
                                                        · refine w_swI (k := 25) (tgt := 1181) r_284_40 s25 (by omega) (by omega) rfl rfl ?_
                                                          exact law_25 hi hb hn I J
                                                        · by_cases s26 : x = 26
                                                          · refine w_swI (k := 26) (tgt := 1259) r_284_40 s26 (by omega) (by omega) rfl rfl ?_
                                                            exact law_26 hi hb hn I J
                                                          · by_cases s27 : x = 27
                                                            · refine w_swI (k := 27) (tgt := 1308) r_284_40 s27 (by omega) (by omega) rfl rfl ?_
                                                              exact law_27 hi hb hn I J
                                                            · by_cases s28 : x = 28
                                                              · refine w_swI (k := 28) (tgt := 1369) r_284_40 s28 (by omega) (by omega) rfl rfl ?_
                                                                exact law_28 hi hb hn I J
                                                              · by_cases s29 : x = 29
                                                                · refine w_swI (k := 29) (tgt := 1394) r_284_40 s29 (by omega) (by omega) rfl rfl ?_
                                                                  exact law_29 hi hb hn I J
                                                                · by_cases s30 : x = 30
                                                                  · refine w_swI (k := 30) (tgt := 1443) r_284_40 s30 (by omega) (by omega) rfl rfl ?_
                                                                    exact law_30 hi hb hn I J
                                                                  · by_cases s31 : x = 31
                                                                    · refine w_swI (k := 31) (tgt := 1480) r_284_40 s31 (by omega) (by omega) rfl rfl ?_
                                                                      exact law_31 hi hb hn I J
                                                                    · by_cases s32 : x = 32
                                                                      · refine w_swI (k := 32) (tgt := 1493) r_284_40 s32 (by omega) (by omega) rfl rfl ?_
                                                                        exact law_32 hi hb hn I J
                                                                      · by_cases s33 : x = 33
                                                                        · refine w_swI (k := 33) (tgt := 1518) r_284_40 s33 (by omega) (by omega) rfl rfl ?_
                                                                          exact law_33 hi hb hn I J
                                                                        · by_cases s34 : x = 34
                                                                          · refine w_swI (k := 34) (tgt := 1555) r_284_40 s34 (by omega) (by omega) rfl rfl ?_
                                                                            exact law_34 hi hb hn I J
                                                                          · by_cases s35 : x = 35
                                                                            · refine w_swI (k := 35) (tgt := 1580) r_284_40 s35 (by omega) (by omega) rfl rfl ?_
                                                                              exact law_35 hi hb hn I J
                                                                            · refine w_swO (tgt := 1593) r_284_40 (by omega) (by omega) rfl ?_
                                                                              exact J h _ _ I.up
    · have kS := I.ks
      refine w_iload4 r_284_23 ?_
      refine w_aload0 r_284_25 ?_
      refine v_len r_284_26 (by rw [kS.2.2.2.1]; decide) kS.2.2.2.2.1 ?_
      refine w_bipush (v := iI (6)) r_284_27 rfl ?_
      refine v_isub r_284_29 ?_
      refine v_ic_gt r_284_30 (by first | exact zF_in _ _ _ | exact zA_in _ _ _ | omega) (by first | exact zF_in _ _ _ | exact zA_in _ _ _ | omega) (fun _ => ?_) (fun q => absurd q (by omega))
      refine w_iconst (v := iI (1)) r_284_1599 rfl ?_
      refine w_zret r_284_1600 (by decide) ?_
      exact kk _ _ hi I
end LOOP
