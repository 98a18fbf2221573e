/-! calls without loops: what they answer, and the heap behind them -/
/-- behind Model.good -/
abbrev hG (h : XH) : XH := sI (sI h 118 0 (iI 0)) 118 39 (iI 0)
abbrev R32 (x : Int) : Prop := -2147483648 ≤ x ∧ x ≤ 2147483647
section OP0
variable {d m pc : Nat} {ls st : List Value} {h : XH} {Q : Option Value → XH → Prop} {len ra rb rc rw : Nat}
theorem w_swI {x dflt lo hi o : Int} {offs : Array Int} {k tgt : Nat} {c : Int} (r : xrow m pc = some (.tableswitch dflt lo hi offs, len, ra, rb, rc, rw)) (hx : x = c) (hk : c = lo + k ∧ c ≤ hi) (hR : R32 x) (ho : offs[k]? = some o) (ht : ((pc : Int) + o).toNat = tgt) (kk : XW d m tgt ls st h Q) : XW d m pc ls (.int (iI x) :: st) h Q := by
  subst ht
  refine XW.op r rfl rfl ?_ kk
  show xswi dflt lo hi offs pc ls (.int (iI x) :: st) h = _
  unfold xswi
  dsimp only
  rw [iI_t hR, if_neg (by omega), show (x - lo).toNat = k by omega, ho]
theorem w_swO {x dflt lo hi : Int} {offs : Array Int} {tgt : Nat} (r : xrow m pc = some (.tableswitch dflt lo hi offs, len, ra, rb, rc, rw)) (hx : x < lo ∨ hi < x) (hR : R32 x) (ht : ((pc : Int) + dflt).toNat = tgt) (kk : XW d m tgt ls st h Q) : XW d m pc ls (.int (iI x) :: st) h Q := by
  subst ht
  refine XW.op r rfl rfl ?_ kk
  show xswi dflt lo hi offs pc ls (.int (iI x) :: st) h = _
  unfold xswi
  dsimp only
  rw [iI_t hR, if_pos hx]
end OP0
section OP1
variable {d : Nat} {h : XH} {K : Int32 → XH → Prop} {KU : XH → Prop} {rb : Nat}
theorem c_weightOf {x y : Int} (hL : Lay h) (hi : 0 ≤ x * 8 + y ∧ x * 8 + y < 40) (hk : K (iI (zA h 87 (x * 8 + y))) h) : XW d 50 0 [.ref 80, .int (iI x), .int (iI y)] [] h (KI K) := by
  refine w_aload0 r_50_0 ?_
  refine w_getA (x := 87) r_50_1 (Lk_80 hL) (Lr_80_11 hL) (by decide) ?_
  refine w_iload1 r_50_4 ?_
  refine w_bipush (v := iI (8)) r_50_5 rfl ?_
  refine v_imul r_50_7 ?_
  refine w_iload2 r_50_8 ?_
  refine v_iadd r_50_9 ?_
  refine v_iald r_50_10 (Lk_87 hL) (Lz_87 hL) (by decide) (by omega) (gI_A h 87 _) ?_
  refine w_iret r_50_11 ?_
  exact hk
theorem c_setDug {x y : Int} (hL : Lay h) (hi : 0 ≤ x ∧ x < 6) (hk : KU (sI (sI h 108 x.toNat (iI y)) 107 10 (iI 0))) : XW d 21 0 [.ref 107, .int (iI x), .int (iI y)] [] h (KV KU) := by
  refine w_aload0 r_21_0 ?_
  refine w_getA (x := 108) r_21_1 (Lk_107 hL) (Lr_107_1 hL) (by decide) ?_
  refine w_iload1 r_21_4 ?_
  refine w_iload2 r_21_5 ?_
  refine v_iast r_21_6 (Lk_108 hL) (Ln_108 hL) (Lz_108 hL) (by decide) (by omega) ?_
  refine w_aload0 r_21_7 ?_
  refine w_iconst (v := iI (0)) r_21_8 rfl ?_
  refine w_putZ r_21_9 (Lk_107 hL) (Ln_107 hL) (by decide) ?_
  refine w_vret r_21_12 ?_
  exact hk
theorem c_height {x y : Int} (hx : R32 x) (hy : R32 y) (hL : Lay h) (hc : zF h 80 2 ≤ 100)
    (k1 : ¬ (0 ≤ x ∧ x < zF h 80 2) → K (iI 0) (sI h 1 18 (iI 1))) (k2 : (0 ≤ x ∧ x < zF h 80 2) → ¬ (0 ≤ y ∧ y ≤ 999) → K (iI 0) (sI h 1 18 (iI 2)))
    (k3 : (0 ≤ x ∧ x < zF h 80 2) → (0 ≤ y ∧ y ≤ 999) → K (iI 1) (sI (sI (sI h 81 x.toNat (iI y)) 80 4 (iI (zF h 80 4 + 1))) 1 18 (iI 0))) :
    XW (d + 1) 126 0 [.ref 1, .int (iI x), .int (iI y)] [] h (KI K) := by
  refine w_aload0 r_126_0 ?_
  refine w_getA (x := 80) r_126_1 (Lk_1 hL) (Lr_1_9 hL) (by decide) ?_
  refine w_iload1 r_126_4 ?_
  refine k_47 r_126_5 (Lk_80 hL) (Nat.le_of_ble_eq_true rfl) ?_
  refine c_hasCell (by omega) hL (fun c5 => ?_) (fun c5 => ?_)
  · refine v_if_ne r_126_8 (by first | exact zF_in _ _ _ | exact zA_in _ _ _ | omega) (fun _ => ?_) (fun q => absurd q (by omega))
    refine w_iload2 r_126_17 ?_
    refine v_if_lt r_126_18 (by first | exact zF_in _ _ _ | exact zA_in _ _ _ | omega) (fun c18 => ?_) (fun c18 => ?_)
    · refine w_aload0 r_126_28 ?_
      refine w_iconst (v := iI (2)) r_126_29 rfl ?_
      refine k_160 r_126_30 (Lk_1 hL) (Nat.le_of_ble_eq_true rfl) ?_
      refine c_deny hL ?_
      refine w_zret r_126_33 (by decide) ?_
      first | exact k1 (by omega) | exact k2 (by omega) (by omega) | exact k3 (by omega) (by omega)
    · refine w_iload2 r_126_21 ?_
      refine w_sipush (v := iI (999)) r_126_22 rfl ?_
      refine v_ic_le r_126_25 (by first | exact zF_in _ _ _ | exact zA_in _ _ _ | omega) (by first | exact zF_in _ _ _ | exact zA_in _ _ _ | omega) (fun c25 => ?_) (fun c25 => ?_)
      · refine w_aload0 r_126_34 ?_
        refine w_getA (x := 80) r_126_35 (Lk_1 hL) (Lr_1_9 hL) (by decide) ?_
        refine w_getA (x := 81) r_126_38 (Lk_80 hL) (Lr_80_5 hL) (by decide) ?_
        refine w_iload1 r_126_41 ?_
        refine w_iload2 r_126_42 ?_
        refine v_iast r_126_43 (Lk_81 hL) (Ln_81 hL) (Lz_81 hL) (by decide) (by omega) ?_
        refine w_aload0 r_126_44 ?_
        refine w_getA (x := 80) r_126_45 (Lk_1 hL) (Lr_1_9 hL) (by decide) ?_
        refine w_dupA r_126_48 ?_
        refine v_getI r_126_49 (Lk_80 hL) (gI_F h 80 4) ?_
        refine w_iconst (v := iI (1)) r_126_52 rfl ?_
        refine v_iadd r_126_53 ?_
        refine w_putI r_126_54 (Lk_80 hL) (Ln_80 hL) ?_
        refine w_aload0 r_126_57 ?_
        refine k_159 r_126_58 (Lk_1 hL) (Nat.le_of_ble_eq_true rfl) ?_
        refine c_grant hL ?_
        refine w_zret r_126_61 (by decide) ?_
        first | exact k1 (by omega) | exact k2 (by omega) (by omega) | exact k3 (by omega) (by omega)
      · refine w_aload0 r_126_28 ?_
        refine w_iconst (v := iI (2)) r_126_29 rfl ?_
        refine k_160 r_126_30 (Lk_1 hL) (Nat.le_of_ble_eq_true rfl) ?_
        refine c_deny hL ?_
        refine w_zret r_126_33 (by decide) ?_
        first | exact k1 (by omega) | exact k2 (by omega) (by omega) | exact k3 (by omega) (by omega)
  · refine v_if_ne r_126_8 (by first | exact zF_in _ _ _ | exact zA_in _ _ _ | omega) (fun q => absurd q (by omega)) (fun _ => ?_)
    refine w_aload0 r_126_11 ?_
    refine w_iconst (v := iI (1)) r_126_12 rfl ?_
    refine k_160 r_126_13 (Lk_1 hL) (Nat.le_of_ble_eq_true rfl) ?_
    refine c_deny hL ?_
    refine w_zret r_126_16 (by decide) ?_
    first | exact k1 (by omega) | exact k2 (by omega) (by omega) | exact k3 (by omega) (by omega)
theorem m_height {x y : Int} (hx : R32 x) (hy : R32 y) (hL : Lay h) (hM : MB h)
    (k1 : ¬ (zF h 118 34 = 1 ∧ 0 ≤ x ∧ x < zF h 118 35 * zF h 118 36) → K (iI 0) (sI (hG h) 118 39 (iI 1))) (k2 : (zF h 118 34 = 1 ∧ 0 ≤ x ∧ x < zF h 118 35 * zF h 118 36) → ¬ (0 ≤ y ∧ y ≤ 999) → K (iI 0) (sI (hG h) 118 39 (iI 2)))
    (k3 : (zF h 118 34 = 1 ∧ 0 ≤ x ∧ x < zF h 118 35 * zF h 118 36) → (0 ≤ y ∧ y ≤ 999) → K (iI 1) (sI (sI (hG h) 133 x.toNat (iI y)) 118 51 (iI 0))) :
    XW (d + 2) 199 0 [.ref 118, .int (iI x), .int (iI y)] [] h (KI K) := by
  have hp := prod_in hM.2.2.2.1 hM.2.2.2.2.1
  refine w_aload0 r_199_0 ?_
  refine k_164 r_199_1 (Lk_118 hL) (Nat.le_of_ble_eq_true rfl) ?_
  refine m_good hL ?_
  refine w_aload0 r_199_4 ?_
  refine w_iload1 r_199_5 ?_
  refine k_197 r_199_6 (Lk_118 hL) (Nat.le_of_ble_eq_true rfl) ?_
  refine m_isCell (h0 := h) (by first | exact zF_in _ _ _ | exact zA_in _ _ _ | omega) hL ⟨rfl, rfl, rfl, rfl, rfl, rfl⟩ hM (fun c6 => ?_) (fun c6 => ?_)
  · refine v_if_ne r_199_9 (by first | exact zF_in _ _ _ | exact zA_in _ _ _ | omega) (fun _ => ?_) (fun q => absurd q (by omega))
    refine w_iload2 r_199_18 ?_
    refine w_iconst (v := iI (0)) r_199_19 rfl ?_
    refine w_sipush (v := iI (999)) r_199_20 rfl ?_
    refine k_167 r_199_23 (Nat.le_of_ble_eq_true rfl) ?_
    refine m_within (by first | exact zF_in _ _ _ | exact zA_in _ _ _ | omega) (by first | exact zF_in _ _ _ | exact zA_in _ _ _ | omega) (by first | exact zF_in _ _ _ | exact zA_in _ _ _ | omega) (fun c23 => ?_) (fun c23 => ?_)
    · refine v_if_ne r_199_26 (by first | exact zF_in _ _ _ | exact zA_in _ _ _ | omega) (fun _ => ?_) (fun q => absurd q (by omega))
      refine w_aload0 r_199_35 ?_
      refine w_getA (x := 133) r_199_36 (Lk_118 hL) (Lr_118_41 hL) (by decide) ?_
      refine w_iload1 r_199_39 ?_
      refine w_iload2 r_199_40 ?_
      refine v_iast r_199_41 (Lk_133 hL) (Ln_133 hL) (Lz_133 hL) (by decide) (by omega) ?_
      refine w_aload0 r_199_42 ?_
      refine w_iconst (v := iI (0)) r_199_43 rfl ?_
      refine w_putZ r_199_44 (Lk_118 hL) (Ln_118 hL) (by decide) ?_
      refine w_iconst (v := iI (1)) r_199_47 rfl ?_
      refine w_zret r_199_48 (by decide) ?_
      first | exact k1 (by omega) | exact k2 (by omega) (by omega) | exact k3 (by omega) (by omega)
    · refine v_if_ne r_199_26 (by first | exact zF_in _ _ _ | exact zA_in _ _ _ | omega) (fun q => absurd q (by omega)) (fun _ => ?_)
      refine w_aload0 r_199_29 ?_
      refine w_iconst (v := iI (2)) r_199_30 rfl ?_
      refine k_166 r_199_31 (Lk_118 hL) (Nat.le_of_ble_eq_true rfl) ?_
      refine m_not hL ?_
      refine w_zret r_199_34 (by decide) ?_
      first | exact k1 (by omega) | exact k2 (by omega) (by omega) | exact k3 (by omega) (by omega)
  · refine v_if_ne r_199_9 (by first | exact zF_in _ _ _ | exact zA_in _ _ _ | omega) (fun q => absurd q (by omega)) (fun _ => ?_)
    refine w_aload0 r_199_12 ?_
    refine w_iconst (v := iI (1)) r_199_13 rfl ?_
    refine k_166 r_199_14 (Lk_118 hL) (Nat.le_of_ble_eq_true rfl) ?_
    refine m_not hL ?_
    refine w_zret r_199_17 (by decide) ?_
    first | exact k1 (by omega) | exact k2 (by omega) (by omega) | exact k3 (by omega) (by omega)
theorem c_ground {x y : Int} (hx : R32 x) (hy : R32 y) (hL : Lay h) (hB : RB h rb) (hc : zF h 80 2 ≤ 100)
    (k1 : ¬ ((0 ≤ x ∧ x < zF h 80 2) ∧ 0 ≤ y ∧ y < zF h rb 0) → K (iI 0) (sI h 1 18 (iI 1))) (k2 : (0 ≤ x ∧ x < zF h 80 2) → (0 ≤ y ∧ y < zF h rb 0) → ¬ zA h 83 x = -1 → K (iI 0) (sI h 1 18 (iI 5)))
    (k3 : (0 ≤ x ∧ x < zF h 80 2) → (0 ≤ y ∧ y < zF h rb 0) → zA h 83 x = -1 → K (iI 1) (sI (sI (sI h 82 x.toNat (iI y)) 80 4 (iI (zF h 80 4 + 1))) 1 18 (iI 0))) :
    XW (d + 1) 127 0 [.ref 1, .int (iI x), .int (iI y)] [] h (KI K) := by
  have hb := hB.1
  refine w_aload0 r_127_0 ?_
  refine w_getA (x := 80) r_127_1 (Lk_1 hL) (Lr_1_9 hL) (by decide) ?_
  refine w_iload1 r_127_4 ?_
  refine k_47 r_127_5 (Lk_80 hL) (Nat.le_of_ble_eq_true rfl) ?_
  refine c_hasCell (by omega) hL (fun c5 => ?_) (fun c5 => ?_)
  · refine v_if_eq r_127_8 (by first | exact zF_in _ _ _ | exact zA_in _ _ _ | omega) (fun q => absurd q (by omega)) (fun _ => ?_)
    refine w_aload0 r_127_11 ?_
    refine w_getA (x := rb) r_127_12 (Lk_1 hL) hB.2.1 (RB.nz hb) ?_
    refine w_iload2 r_127_15 ?_
    refine k_3 r_127_16 (Bk_ hL hb) (Nat.le_of_ble_eq_true rfl) ?_
    refine c_hasGround (by omega) hL hb (fun c16 => ?_) (fun c16 => ?_)
    · refine v_if_ne r_127_19 (by first | exact zF_in _ _ _ | exact zA_in _ _ _ | omega) (fun _ => ?_) (fun q => absurd q (by omega))
      refine w_aload0 r_127_28 ?_
      refine w_getA (x := 80) r_127_29 (Lk_1 hL) (Lr_1_9 hL) (by decide) ?_
      refine w_getA (x := 83) r_127_32 (Lk_80 hL) (Lr_80_7 hL) (by decide) ?_
      refine w_iload1 r_127_35 ?_
      refine v_iald r_127_36 (Lk_83 hL) (Lz_83 hL) (by decide) (by omega) (gI_A h 83 _) ?_
      refine w_iconst (v := iI (-1)) r_127_37 rfl ?_
      refine v_ic_eq r_127_38 (by first | exact zF_in _ _ _ | exact zA_in _ _ _ | omega) (by first | exact zF_in _ _ _ | exact zA_in _ _ _ | omega) (fun c38 => ?_) (fun c38 => ?_)
      · refine w_aload0 r_127_47 ?_
        refine w_getA (x := 80) r_127_48 (Lk_1 hL) (Lr_1_9 hL) (by decide) ?_
        refine w_getA (x := 82) r_127_51 (Lk_80 hL) (Lr_80_6 hL) (by decide) ?_
        refine w_iload1 r_127_54 ?_
        refine w_iload2 r_127_55 ?_
        refine v_iast r_127_56 (Lk_82 hL) (Ln_82 hL) (Lz_82 hL) (by decide) (by omega) ?_
        refine w_aload0 r_127_57 ?_
        refine w_getA (x := 80) r_127_58 (Lk_1 hL) (Lr_1_9 hL) (by decide) ?_
        refine w_dupA r_127_61 ?_
        refine v_getI r_127_62 (Lk_80 hL) (gI_F h 80 4) ?_
        refine w_iconst (v := iI (1)) r_127_65 rfl ?_
        refine v_iadd r_127_66 ?_
        refine w_putI r_127_67 (Lk_80 hL) (Ln_80 hL) ?_
        refine w_aload0 r_127_70 ?_
        refine k_159 r_127_71 (Lk_1 hL) (Nat.le_of_ble_eq_true rfl) ?_
        refine c_grant hL ?_
        refine w_zret r_127_74 (by decide) ?_
        first | exact k1 (by omega) | exact k2 (by omega) (by omega) (by omega) | exact k3 (by omega) (by omega) (by omega)
      · refine w_aload0 r_127_41 ?_
        refine w_iconst (v := iI (5)) r_127_42 rfl ?_
        refine k_160 r_127_43 (Lk_1 hL) (Nat.le_of_ble_eq_true rfl) ?_
        refine c_deny hL ?_
        refine w_zret r_127_46 (by decide) ?_
        first | exact k1 (by omega) | exact k2 (by omega) (by omega) (by omega) | exact k3 (by omega) (by omega) (by omega)
    · refine v_if_ne r_127_19 (by first | exact zF_in _ _ _ | exact zA_in _ _ _ | omega) (fun q => absurd q (by omega)) (fun _ => ?_)
      refine w_aload0 r_127_22 ?_
      refine w_iconst (v := iI (1)) r_127_23 rfl ?_
      refine k_160 r_127_24 (Lk_1 hL) (Nat.le_of_ble_eq_true rfl) ?_
      refine c_deny hL ?_
      refine w_zret r_127_27 (by decide) ?_
      first | exact k1 (by omega) | exact k2 (by omega) (by omega) (by omega) | exact k3 (by omega) (by omega) (by omega)
  · refine v_if_eq r_127_8 (by first | exact zF_in _ _ _ | exact zA_in _ _ _ | omega) (fun _ => ?_) (fun q => absurd q (by omega))
    refine w_aload0 r_127_22 ?_
    refine w_iconst (v := iI (1)) r_127_23 rfl ?_
    refine k_160 r_127_24 (Lk_1 hL) (Nat.le_of_ble_eq_true rfl) ?_
    refine c_deny hL ?_
    refine w_zret r_127_27 (by decide) ?_
    first | exact k1 (by omega) | exact k2 (by omega) (by omega) (by omega) | exact k3 (by omega) (by omega) (by omega)
theorem m_ground {x y : Int} (hx : R32 x) (hy : R32 y) (hL : Lay h) (hM : MB h)
    (k1 : ¬ ((zF h 118 34 = 1 ∧ 0 ≤ x ∧ x < zF h 118 35 * zF h 118 36) ∧ zF h 118 12 = 1 ∧ 0 ≤ y ∧ y < zF h 118 22) → K (iI 0) (sI (hG h) 118 39 (iI 1))) (k2 : (zF h 118 34 = 1 ∧ 0 ≤ x ∧ x < zF h 118 35 * zF h 118 36) → (zF h 118 12 = 1 ∧ 0 ≤ y ∧ y < zF h 118 22) → ¬ zA h 135 x = -1 → K (iI 0) (sI (hG h) 118 39 (iI 5)))
    (k3 : (zF h 118 34 = 1 ∧ 0 ≤ x ∧ x < zF h 118 35 * zF h 118 36) → (zF h 118 12 = 1 ∧ 0 ≤ y ∧ y < zF h 118 22) → zA h 135 x = -1 → K (iI 1) (sI (sI (hG h) 134 x.toNat (iI y)) 118 51 (iI 0))) :
    XW (d + 2) 200 0 [.ref 118, .int (iI x), .int (iI y)] [] h (KI K) := by
  have hp := prod_in hM.2.2.2.1 hM.2.2.2.2.1
  refine w_aload0 r_200_0 ?_
  refine k_164 r_200_1 (Lk_118 hL) (Nat.le_of_ble_eq_true rfl) ?_
  refine m_good hL ?_
  refine w_aload0 r_200_4 ?_
  refine w_iload1 r_200_5 ?_
  refine k_197 r_200_6 (Lk_118 hL) (Nat.le_of_ble_eq_true rfl) ?_
  refine m_isCell (h0 := h) (by first | exact zF_in _ _ _ | exact zA_in _ _ _ | omega) hL ⟨rfl, rfl, rfl, rfl, rfl, rfl⟩ hM (fun c6 => ?_) (fun c6 => ?_)
  · refine v_if_eq r_200_9 (by first | exact zF_in _ _ _ | exact zA_in _ _ _ | omega) (fun q => absurd q (by omega)) (fun _ => ?_)
    refine w_aload0 r_200_12 ?_
    refine w_iload2 r_200_13 ?_
    refine k_192 r_200_14 (Lk_118 hL) (Nat.le_of_ble_eq_true rfl) ?_
    refine m_isGround (h0 := h) (by first | exact zF_in _ _ _ | exact zA_in _ _ _ | omega) hL ⟨rfl, rfl, rfl, rfl, rfl, rfl⟩ hM (fun c14 => ?_) (fun c14 => ?_)
    · refine v_if_ne r_200_17 (by first | exact zF_in _ _ _ | exact zA_in _ _ _ | omega) (fun _ => ?_) (fun q => absurd q (by omega))
      refine w_aload0 r_200_26 ?_
      refine w_getA (x := 135) r_200_27 (Lk_118 hL) (Lr_118_43 hL) (by decide) ?_
      refine w_iload1 r_200_30 ?_
      refine v_iald r_200_31 (Lk_135 hL) (Lz_135 hL) (by decide) (by omega) (gI_A h 135 _) ?_
      refine w_iconst (v := iI (-1)) r_200_32 rfl ?_
      refine v_ic_eq r_200_33 (by first | exact zF_in _ _ _ | exact zA_in _ _ _ | omega) (by first | exact zF_in _ _ _ | exact zA_in _ _ _ | omega) (fun c33 => ?_) (fun c33 => ?_)
      · refine w_aload0 r_200_42 ?_
        refine w_getA (x := 134) r_200_43 (Lk_118 hL) (Lr_118_42 hL) (by decide) ?_
        refine w_iload1 r_200_46 ?_
        refine w_iload2 r_200_47 ?_
        refine v_iast r_200_48 (Lk_134 hL) (Ln_134 hL) (Lz_134 hL) (by decide) (by omega) ?_
        refine w_aload0 r_200_49 ?_
        refine w_iconst (v := iI (0)) r_200_50 rfl ?_
        refine w_putZ r_200_51 (Lk_118 hL) (Ln_118 hL) (by decide) ?_
        refine w_iconst (v := iI (1)) r_200_54 rfl ?_
        refine w_zret r_200_55 (by decide) ?_
        first | exact k1 (by omega) | exact k2 (by omega) (by omega) (by omega) | exact k3 (by omega) (by omega) (by omega)
      · refine w_aload0 r_200_36 ?_
        refine w_iconst (v := iI (5)) r_200_37 rfl ?_
        refine k_166 r_200_38 (Lk_118 hL) (Nat.le_of_ble_eq_true rfl) ?_
        refine m_not hL ?_
        refine w_zret r_200_41 (by decide) ?_
        first | exact k1 (by omega) | exact k2 (by omega) (by omega) (by omega) | exact k3 (by omega) (by omega) (by omega)
    · refine v_if_ne r_200_17 (by first | exact zF_in _ _ _ | exact zA_in _ _ _ | omega) (fun q => absurd q (by omega)) (fun _ => ?_)
      refine w_aload0 r_200_20 ?_
      refine w_iconst (v := iI (1)) r_200_21 rfl ?_
      refine k_166 r_200_22 (Lk_118 hL) (Nat.le_of_ble_eq_true rfl) ?_
      refine m_not hL ?_
      refine w_zret r_200_25 (by decide) ?_
      first | exact k1 (by omega) | exact k2 (by omega) (by omega) (by omega) | exact k3 (by omega) (by omega) (by omega)
  · refine v_if_eq r_200_9 (by first | exact zF_in _ _ _ | exact zA_in _ _ _ | omega) (fun _ => ?_) (fun q => absurd q (by omega))
    refine w_aload0 r_200_20 ?_
    refine w_iconst (v := iI (1)) r_200_21 rfl ?_
    refine k_166 r_200_22 (Lk_118 hL) (Nat.le_of_ble_eq_true rfl) ?_
    refine m_not hL ?_
    refine w_zret r_200_25 (by decide) ?_
    first | exact k1 (by omega) | exact k2 (by omega) (by omega) (by omega) | exact k3 (by omega) (by omega) (by omega)
theorem c_dead {x : Int} (hx : R32 x) (hL : Lay h) (hB : RB h rb)
    (k1 : ¬ 0 < zF h rb 10 → K (iI 0) (sI h 1 18 (iI 1))) (k2 : 0 < zF h rb 10 → ¬ (0 ≤ x ∧ x < zF h rb 10) → K (iI 0) (sI h 1 18 (iI 2)))
    (k3 : 0 < zF h rb 10 → (0 ≤ x ∧ x < zF h rb 10) → K (iI 1) (sI (sI (sI h 91 2 (iI x)) 80 4 (iI (zF h 80 4 + 1))) 1 18 (iI 0))) :
    XW (d + 1) 124 0 [.ref 1, .int (iI x)] [] h (KI K) := by
  have hb := hB.1
  refine w_aload0 r_124_0 ?_
  refine w_getA (x := rb) r_124_1 (Lk_1 hL) hB.2.1 (RB.nz hb) ?_
  refine k_2 r_124_4 (Bk_ hL hb) (Nat.le_of_ble_eq_true rfl) ?_
  refine c_isTold hL hb (fun c4 => ?_) (fun c4 => ?_)
  · refine v_if_ne r_124_7 (by first | exact zF_in _ _ _ | exact zA_in _ _ _ | omega) (fun _ => ?_) (fun q => absurd q (by omega))
    refine w_iload1 r_124_16 ?_
    refine v_if_lt r_124_17 (by first | exact zF_in _ _ _ | exact zA_in _ _ _ | omega) (fun c17 => ?_) (fun c17 => ?_)
    · refine w_aload0 r_124_31 ?_
      refine w_iconst (v := iI (2)) r_124_32 rfl ?_
      refine k_160 r_124_33 (Lk_1 hL) (Nat.le_of_ble_eq_true rfl) ?_
      refine c_deny hL ?_
      refine w_zret r_124_36 (by decide) ?_
      first | exact k1 (by omega) | exact k2 (by omega) (by omega) | exact k3 (by omega) (by omega)
    · refine w_iload1 r_124_20 ?_
      refine w_aload0 r_124_21 ?_
      refine w_getA (x := rb) r_124_22 (Lk_1 hL) hB.2.1 (RB.nz hb) ?_
      refine v_getI r_124_25 (Bk_ hL hb) (gI_F h (rb) 10) ?_
      refine v_ic_lt r_124_28 (by first | exact zF_in _ _ _ | exact zA_in _ _ _ | omega) (by first | exact zF_in _ _ _ | exact zA_in _ _ _ | omega) (fun c28 => ?_) (fun c28 => ?_)
      · refine w_aload0 r_124_37 ?_
        refine w_getA (x := 91) r_124_38 (Lk_1 hL) (Lr_1_10 hL) (by decide) ?_
        refine w_iload1 r_124_41 ?_
        refine w_putI r_124_42 (Lk_91 hL) (Ln_91 hL) ?_
        refine w_aload0 r_124_45 ?_
        refine w_getA (x := 80) r_124_46 (Lk_1 hL) (Lr_1_9 hL) (by decide) ?_
        refine w_dupA r_124_49 ?_
        refine v_getI r_124_50 (Lk_80 hL) (gI_F h 80 4) ?_
        refine w_iconst (v := iI (1)) r_124_53 rfl ?_
        refine v_iadd r_124_54 ?_
        refine w_putI r_124_55 (Lk_80 hL) (Ln_80 hL) ?_
        refine w_aload0 r_124_58 ?_
        refine k_159 r_124_59 (Lk_1 hL) (Nat.le_of_ble_eq_true rfl) ?_
        refine c_grant hL ?_
        refine w_zret r_124_62 (by decide) ?_
        first | exact k1 (by omega) | exact k2 (by omega) (by omega) | exact k3 (by omega) (by omega)
      · refine w_aload0 r_124_31 ?_
        refine w_iconst (v := iI (2)) r_124_32 rfl ?_
        refine k_160 r_124_33 (Lk_1 hL) (Nat.le_of_ble_eq_true rfl) ?_
        refine c_deny hL ?_
        refine w_zret r_124_36 (by decide) ?_
        first | exact k1 (by omega) | exact k2 (by omega) (by omega) | exact k3 (by omega) (by omega)
  · refine v_if_ne r_124_7 (by first | exact zF_in _ _ _ | exact zA_in _ _ _ | omega) (fun q => absurd q (by omega)) (fun _ => ?_)
    refine w_aload0 r_124_10 ?_
    refine w_iconst (v := iI (1)) r_124_11 rfl ?_
    refine k_160 r_124_12 (Lk_1 hL) (Nat.le_of_ble_eq_true rfl) ?_
    refine c_deny hL ?_
    refine w_zret r_124_15 (by decide) ?_
    first | exact k1 (by omega) | exact k2 (by omega) (by omega) | exact k3 (by omega) (by omega)
theorem m_dead {x : Int} (hx : R32 x) (hL : Lay h) (hM : MB h) (hw : 0 ≤ zF h 118 24)
    (k1 : ¬ zF h 118 12 = 1 → K (iI 0) (sI (hG h) 118 39 (iI 1))) (k2 : zF h 118 12 = 1 → ¬ (0 ≤ x ∧ x < zF h 118 24) → K (iI 0) (sI (hG h) 118 39 (iI 2)))
    (k3 : zF h 118 12 = 1 → (0 ≤ x ∧ x < zF h 118 24) → K (iI 1) (sI (sI (hG h) 118 38 (iI x)) 118 51 (iI 0))) :
    XW (d + 1) 195 0 [.ref 118, .int (iI x)] [] h (KI K) := by
  have hp := hM.1
  have hq := zF_in h 118 24
  refine w_aload0 r_195_0 ?_
  refine k_164 r_195_1 (Lk_118 hL) (Nat.le_of_ble_eq_true rfl) ?_
  refine m_good hL ?_
  refine w_aload0 r_195_4 ?_
  refine v_getI r_195_5 (Lk_118 hL) (gI_F h 118 12) ?_
  refine v_if_ne r_195_8 (by first | exact zF_in _ _ _ | exact zA_in _ _ _ | omega) (fun c8 => ?_) (fun c8 => ?_)
  · refine w_iload1 r_195_17 ?_
    refine w_iconst (v := iI (0)) r_195_18 rfl ?_
    refine w_aload0 r_195_19 ?_
    refine v_getI r_195_20 (Lk_118 hL) (gI_F h 118 24) ?_
    refine w_iconst (v := iI (1)) r_195_23 rfl ?_
    refine v_isub r_195_24 ?_
    refine k_167 r_195_25 (Nat.le_of_ble_eq_true rfl) ?_
    refine m_within (by first | exact zF_in _ _ _ | exact zA_in _ _ _ | omega) (by first | exact zF_in _ _ _ | exact zA_in _ _ _ | omega) (by first | exact zF_in _ _ _ | exact zA_in _ _ _ | omega) (fun c25 => ?_) (fun c25 => ?_)
    · refine v_if_ne r_195_28 (by first | exact zF_in _ _ _ | exact zA_in _ _ _ | omega) (fun _ => ?_) (fun q => absurd q (by omega))
      refine w_aload0 r_195_37 ?_
      refine w_iload1 r_195_38 ?_
      refine w_putI r_195_39 (Lk_118 hL) (Ln_118 hL) ?_
      refine w_aload0 r_195_42 ?_
      refine w_iconst (v := iI (0)) r_195_43 rfl ?_
      refine w_putZ r_195_44 (Lk_118 hL) (Ln_118 hL) (by decide) ?_
      refine w_iconst (v := iI (1)) r_195_47 rfl ?_
      refine w_zret r_195_48 (by decide) ?_
      first | exact k1 (by omega) | exact k2 (by omega) (by omega) | exact k3 (by omega) (by omega)
    · refine v_if_ne r_195_28 (by first | exact zF_in _ _ _ | exact zA_in _ _ _ | omega) (fun q => absurd q (by omega)) (fun _ => ?_)
      refine w_aload0 r_195_31 ?_
      refine w_iconst (v := iI (2)) r_195_32 rfl ?_
      refine k_166 r_195_33 (Lk_118 hL) (Nat.le_of_ble_eq_true rfl) ?_
      refine m_not hL ?_
      refine w_zret r_195_36 (by decide) ?_
      first | exact k1 (by omega) | exact k2 (by omega) (by omega) | exact k3 (by omega) (by omega)
  · refine w_aload0 r_195_11 ?_
    refine w_iconst (v := iI (1)) r_195_12 rfl ?_
    refine k_166 r_195_13 (Lk_118 hL) (Nat.le_of_ble_eq_true rfl) ?_
    refine m_not hL ?_
    refine w_zret r_195_16 (by decide) ?_
    first | exact k1 (by omega) | exact k2 (by omega) (by omega) | exact k3 (by omega) (by omega)
theorem c_told {x y : Int} (hx : R32 x) (hy : R32 y) (hL : Lay h) (hB : RB h rb) (hc : zF h 80 3 ≤ 5) (hg : zF h rb 0 ≤ 8)
    (k1 : ¬ ((0 ≤ x ∧ x < zF h 80 3) ∧ 0 ≤ y ∧ y < zF h rb 0) → K (iI 0) (sI h 1 18 (iI 1))) (k2 : (0 ≤ x ∧ x < zF h 80 3) → (0 ≤ y ∧ y < zF h rb 0) → zA h 87 (x * 8 + y) = 0 → K (iI 0) (sI h 1 18 (iI 5)))
    (k3 : (0 ≤ x ∧ x < zF h 80 3) → (0 ≤ y ∧ y < zF h rb 0) → ¬ zA h 87 (x * 8 + y) = 0 → K (iI 1) (sI (sI h 86 x.toNat (iI y)) 1 18 (iI 0))) :
    XW (d + 1) 130 0 [.ref 1, .int (iI x), .int (iI y)] [] h (KI K) := by
  have hb := hB.1
  refine w_aload0 r_130_0 ?_
  refine w_getA (x := 80) r_130_1 (Lk_1 hL) (Lr_1_9 hL) (by decide) ?_
  refine w_iload1 r_130_4 ?_
  refine k_48 r_130_5 (Lk_80 hL) (Nat.le_of_ble_eq_true rfl) ?_
  refine c_hasDoubt (by omega) hL (fun c5 => ?_) (fun c5 => ?_)
  · refine v_if_eq r_130_8 (by first | exact zF_in _ _ _ | exact zA_in _ _ _ | omega) (fun q => absurd q (by omega)) (fun _ => ?_)
    refine w_aload0 r_130_11 ?_
    refine w_getA (x := rb) r_130_12 (Lk_1 hL) hB.2.1 (RB.nz hb) ?_
    refine w_iload2 r_130_15 ?_
    refine k_3 r_130_16 (Bk_ hL hb) (Nat.le_of_ble_eq_true rfl) ?_
    refine c_hasGround (by omega) hL hb (fun c16 => ?_) (fun c16 => ?_)
    · refine v_if_ne r_130_19 (by first | exact zF_in _ _ _ | exact zA_in _ _ _ | omega) (fun _ => ?_) (fun q => absurd q (by omega))
      refine w_aload0 r_130_28 ?_
      refine w_getA (x := 80) r_130_29 (Lk_1 hL) (Lr_1_9 hL) (by decide) ?_
      refine w_iload1 r_130_32 ?_
      refine w_iload2 r_130_33 ?_
      refine k_50 r_130_34 (Lk_80 hL) (Nat.le_of_ble_eq_true rfl) ?_
      refine c_weightOf hL (by omega) ?_
      refine v_if_ne r_130_37 (by first | exact zF_in _ _ _ | exact zA_in _ _ _ | omega) (fun c37 => ?_) (fun c37 => ?_)
      · refine w_aload0 r_130_46 ?_
        refine w_getA (x := 80) r_130_47 (Lk_1 hL) (Lr_1_9 hL) (by decide) ?_
        refine w_getA (x := 86) r_130_50 (Lk_80 hL) (Lr_80_10 hL) (by decide) ?_
        refine w_iload1 r_130_53 ?_
        refine w_iload2 r_130_54 ?_
        refine v_iast r_130_55 (Lk_86 hL) (Ln_86 hL) (Lz_86 hL) (by decide) (by omega) ?_
        refine w_aload0 r_130_56 ?_
        refine k_159 r_130_57 (Lk_1 hL) (Nat.le_of_ble_eq_true rfl) ?_
        refine c_grant hL ?_
        refine w_zret r_130_60 (by decide) ?_
        first | exact k1 (by omega) | exact k2 (by omega) (by omega) (by omega) | exact k3 (by omega) (by omega) (by omega)
      · refine w_aload0 r_130_40 ?_
        refine w_iconst (v := iI (5)) r_130_41 rfl ?_
        refine k_160 r_130_42 (Lk_1 hL) (Nat.le_of_ble_eq_true rfl) ?_
        refine c_deny hL ?_
        refine w_zret r_130_45 (by decide) ?_
        first | exact k1 (by omega) | exact k2 (by omega) (by omega) (by omega) | exact k3 (by omega) (by omega) (by omega)
    · refine v_if_ne r_130_19 (by first | exact zF_in _ _ _ | exact zA_in _ _ _ | omega) (fun q => absurd q (by omega)) (fun _ => ?_)
      refine w_aload0 r_130_22 ?_
      refine w_iconst (v := iI (1)) r_130_23 rfl ?_
      refine k_160 r_130_24 (Lk_1 hL) (Nat.le_of_ble_eq_true rfl) ?_
      refine c_deny hL ?_
      refine w_zret r_130_27 (by decide) ?_
      first | exact k1 (by omega) | exact k2 (by omega) (by omega) (by omega) | exact k3 (by omega) (by omega) (by omega)
  · refine v_if_eq r_130_8 (by first | exact zF_in _ _ _ | exact zA_in _ _ _ | omega) (fun _ => ?_) (fun q => absurd q (by omega))
    refine w_aload0 r_130_22 ?_
    refine w_iconst (v := iI (1)) r_130_23 rfl ?_
    refine k_160 r_130_24 (Lk_1 hL) (Nat.le_of_ble_eq_true rfl) ?_
    refine c_deny hL ?_
    refine w_zret r_130_27 (by decide) ?_
    first | exact k1 (by omega) | exact k2 (by omega) (by omega) (by omega) | exact k3 (by omega) (by omega) (by omega)
theorem m_told {x y : Int} (hx : R32 x) (hy : R32 y) (hL : Lay h) (hM : MB h)
    (k1 : ¬ ((zF h 118 34 = 1 ∧ 0 ≤ x ∧ x < zF h 118 37) ∧ zF h 118 12 = 1 ∧ 0 ≤ y ∧ y < zF h 118 22) → K (iI 0) (sI (hG h) 118 39 (iI 1))) (k2 : (zF h 118 34 = 1 ∧ 0 ≤ x ∧ x < zF h 118 37) → (zF h 118 12 = 1 ∧ 0 ≤ y ∧ y < zF h 118 22) → zA h 138 (8 * x + y) = 0 → K (iI 0) (sI (hG h) 118 39 (iI 5)))
    (k3 : (zF h 118 34 = 1 ∧ 0 ≤ x ∧ x < zF h 118 37) → (zF h 118 12 = 1 ∧ 0 ≤ y ∧ y < zF h 118 22) → ¬ zA h 138 (8 * x + y) = 0 → K (iI 1) (sI (sI (hG h) 137 x.toNat (iI y)) 118 51 (iI 0))) :
    XW (d + 2) 203 0 [.ref 118, .int (iI x), .int (iI y)] [] h (KI K) := by
  obtain ⟨m1, m2, m3, m4, m5, m6⟩ := id hM
  refine w_aload0 r_203_0 ?_
  refine k_164 r_203_1 (Lk_118 hL) (Nat.le_of_ble_eq_true rfl) ?_
  refine m_good hL ?_
  refine w_aload0 r_203_4 ?_
  refine w_iload1 r_203_5 ?_
  refine k_198 r_203_6 (Lk_118 hL) (Nat.le_of_ble_eq_true rfl) ?_
  refine m_isDoubt (h0 := h) (by first | exact zF_in _ _ _ | exact zA_in _ _ _ | omega) hL ⟨rfl, rfl, rfl, rfl, rfl, rfl⟩ hM (fun c6 => ?_) (fun c6 => ?_)
  · refine v_if_eq r_203_9 (by first | exact zF_in _ _ _ | exact zA_in _ _ _ | omega) (fun q => absurd q (by omega)) (fun _ => ?_)
    refine w_aload0 r_203_12 ?_
    refine w_iload2 r_203_13 ?_
    refine k_192 r_203_14 (Lk_118 hL) (Nat.le_of_ble_eq_true rfl) ?_
    refine m_isGround (h0 := h) (by first | exact zF_in _ _ _ | exact zA_in _ _ _ | omega) hL ⟨rfl, rfl, rfl, rfl, rfl, rfl⟩ hM (fun c14 => ?_) (fun c14 => ?_)
    · refine v_if_ne r_203_17 (by first | exact zF_in _ _ _ | exact zA_in _ _ _ | omega) (fun _ => ?_) (fun q => absurd q (by omega))
      refine w_aload0 r_203_26 ?_
      refine w_getA (x := 138) r_203_27 (Lk_118 hL) (Lr_118_46 hL) (by decide) ?_
      refine w_bipush (v := iI (8)) r_203_30 rfl ?_
      refine w_iload1 r_203_32 ?_
      refine v_imul r_203_33 ?_
      refine w_iload2 r_203_34 ?_
      refine v_iadd r_203_35 ?_
      refine v_iald r_203_36 (Lk_138 hL) (Lz_138 hL) (by decide) (by omega) (gI_A h 138 _) ?_
      refine v_if_ne r_203_37 (by first | exact zF_in _ _ _ | exact zA_in _ _ _ | omega) (fun c37 => ?_) (fun c37 => ?_)
      · refine w_aload0 r_203_46 ?_
        refine w_getA (x := 137) r_203_47 (Lk_118 hL) (Lr_118_45 hL) (by decide) ?_
        refine w_iload1 r_203_50 ?_
        refine w_iload2 r_203_51 ?_
        refine v_iast r_203_52 (Lk_137 hL) (Ln_137 hL) (Lz_137 hL) (by decide) (by omega) ?_
        refine w_aload0 r_203_53 ?_
        refine w_iconst (v := iI (0)) r_203_54 rfl ?_
        refine w_putZ r_203_55 (Lk_118 hL) (Ln_118 hL) (by decide) ?_
        refine w_iconst (v := iI (1)) r_203_58 rfl ?_
        refine w_zret r_203_59 (by decide) ?_
        first | exact k1 (by omega) | exact k2 (by omega) (by omega) (by omega) | exact k3 (by omega) (by omega) (by omega)
      · refine w_aload0 r_203_40 ?_
        refine w_iconst (v := iI (5)) r_203_41 rfl ?_
        refine k_166 r_203_42 (Lk_118 hL) (Nat.le_of_ble_eq_true rfl) ?_
        refine m_not hL ?_
        refine w_zret r_203_45 (by decide) ?_
        first | exact k1 (by omega) | exact k2 (by omega) (by omega) (by omega) | exact k3 (by omega) (by omega) (by omega)
    · refine v_if_ne r_203_17 (by first | exact zF_in _ _ _ | exact zA_in _ _ _ | omega) (fun q => absurd q (by omega)) (fun _ => ?_)
      refine w_aload0 r_203_20 ?_
      refine w_iconst (v := iI (1)) r_203_21 rfl ?_
      refine k_166 r_203_22 (Lk_118 hL) (Nat.le_of_ble_eq_true rfl) ?_
      refine m_not hL ?_
      refine w_zret r_203_25 (by decide) ?_
      first | exact k1 (by omega) | exact k2 (by omega) (by omega) (by omega) | exact k3 (by omega) (by omega) (by omega)
  · refine v_if_eq r_203_9 (by first | exact zF_in _ _ _ | exact zA_in _ _ _ | omega) (fun _ => ?_) (fun q => absurd q (by omega))
    refine w_aload0 r_203_20 ?_
    refine w_iconst (v := iI (1)) r_203_21 rfl ?_
    refine k_166 r_203_22 (Lk_118 hL) (Nat.le_of_ble_eq_true rfl) ?_
    refine m_not hL ?_
    refine w_zret r_203_25 (by decide) ?_
    first | exact k1 (by omega) | exact k2 (by omega) (by omega) (by omega) | exact k3 (by omega) (by omega) (by omega)
theorem c_forget {x : Int} (hx : R32 x) (hL : Lay h) (hc : zF h 80 3 ≤ 5)
    (k1 : ¬ (0 ≤ x ∧ x < zF h 80 3) → K (iI 0) (sI h 1 18 (iI 1))) (k2 : (0 ≤ x ∧ x < zF h 80 3) → zA h 86 x = -1 → K (iI 0) (sI h 1 18 (iI 5)))
    (k3 : (0 ≤ x ∧ x < zF h 80 3) → ¬ zA h 86 x = -1 → K (iI 1) (sI (sI h 86 x.toNat (iI (-1))) 1 18 (iI 0))) :
    XW (d + 1) 131 0 [.ref 1, .int (iI x)] [] h (KI K) := by
  refine w_aload0 r_131_0 ?_
  refine w_getA (x := 80) r_131_1 (Lk_1 hL) (Lr_1_9 hL) (by decide) ?_
  refine w_iload1 r_131_4 ?_
  refine k_48 r_131_5 (Lk_80 hL) (Nat.le_of_ble_eq_true rfl) ?_
  refine c_hasDoubt (by omega) hL (fun c5 => ?_) (fun c5 => ?_)
  · refine v_if_ne r_131_8 (by first | exact zF_in _ _ _ | exact zA_in _ _ _ | omega) (fun _ => ?_) (fun q => absurd q (by omega))
    refine w_aload0 r_131_17 ?_
    refine w_getA (x := 80) r_131_18 (Lk_1 hL) (Lr_1_9 hL) (by decide) ?_
    refine w_getA (x := 86) r_131_21 (Lk_80 hL) (Lr_80_10 hL) (by decide) ?_
    refine w_iload1 r_131_24 ?_
    refine v_iald r_131_25 (Lk_86 hL) (Lz_86 hL) (by decide) (by omega) (gI_A h 86 _) ?_
    refine w_iconst (v := iI (-1)) r_131_26 rfl ?_
    refine v_ic_ne r_131_27 (by first | exact zF_in _ _ _ | exact zA_in _ _ _ | omega) (by first | exact zF_in _ _ _ | exact zA_in _ _ _ | omega) (fun c27 => ?_) (fun c27 => ?_)
    · refine w_aload0 r_131_36 ?_
      refine w_getA (x := 80) r_131_37 (Lk_1 hL) (Lr_1_9 hL) (by decide) ?_
      refine w_getA (x := 86) r_131_40 (Lk_80 hL) (Lr_80_10 hL) (by decide) ?_
      refine w_iload1 r_131_43 ?_
      refine w_iconst (v := iI (-1)) r_131_44 rfl ?_
      refine v_iast r_131_45 (Lk_86 hL) (Ln_86 hL) (Lz_86 hL) (by decide) (by omega) ?_
      refine w_aload0 r_131_46 ?_
      refine k_159 r_131_47 (Lk_1 hL) (Nat.le_of_ble_eq_true rfl) ?_
      refine c_grant hL ?_
      refine w_zret r_131_50 (by decide) ?_
      first | exact k1 (by omega) | exact k2 (by omega) (by omega) | exact k3 (by omega) (by omega)
    · refine w_aload0 r_131_30 ?_
      refine w_iconst (v := iI (5)) r_131_31 rfl ?_
      refine k_160 r_131_32 (Lk_1 hL) (Nat.le_of_ble_eq_true rfl) ?_
      refine c_deny hL ?_
      refine w_zret r_131_35 (by decide) ?_
      first | exact k1 (by omega) | exact k2 (by omega) (by omega) | exact k3 (by omega) (by omega)
  · refine v_if_ne r_131_8 (by first | exact zF_in _ _ _ | exact zA_in _ _ _ | omega) (fun q => absurd q (by omega)) (fun _ => ?_)
    refine w_aload0 r_131_11 ?_
    refine w_iconst (v := iI (1)) r_131_12 rfl ?_
    refine k_160 r_131_13 (Lk_1 hL) (Nat.le_of_ble_eq_true rfl) ?_
    refine c_deny hL ?_
    refine w_zret r_131_16 (by decide) ?_
    first | exact k1 (by omega) | exact k2 (by omega) (by omega) | exact k3 (by omega) (by omega)
theorem m_forget {x : Int} (hx : R32 x) (hL : Lay h) (hM : MB h)
    (k1 : ¬ (zF h 118 34 = 1 ∧ 0 ≤ x ∧ x < zF h 118 37) → K (iI 0) (sI (hG h) 118 39 (iI 1))) (k2 : (zF h 118 34 = 1 ∧ 0 ≤ x ∧ x < zF h 118 37) → zA h 137 x = -1 → K (iI 0) (sI (hG h) 118 39 (iI 5)))
    (k3 : (zF h 118 34 = 1 ∧ 0 ≤ x ∧ x < zF h 118 37) → ¬ zA h 137 x = -1 → K (iI 1) (sI (sI (hG h) 137 x.toNat (iI (-1))) 118 51 (iI 0))) :
    XW (d + 2) 204 0 [.ref 118, .int (iI x)] [] h (KI K) := by
  obtain ⟨m1, m2, m3, m4, m5, m6⟩ := id hM
  refine w_aload0 r_204_0 ?_
  refine k_164 r_204_1 (Lk_118 hL) (Nat.le_of_ble_eq_true rfl) ?_
  refine m_good hL ?_
  refine w_aload0 r_204_4 ?_
  refine w_iload1 r_204_5 ?_
  refine k_198 r_204_6 (Lk_118 hL) (Nat.le_of_ble_eq_true rfl) ?_
  refine m_isDoubt (h0 := h) (by first | exact zF_in _ _ _ | exact zA_in _ _ _ | omega) hL ⟨rfl, rfl, rfl, rfl, rfl, rfl⟩ hM (fun c6 => ?_) (fun c6 => ?_)
  · refine v_if_ne r_204_9 (by first | exact zF_in _ _ _ | exact zA_in _ _ _ | omega) (fun _ => ?_) (fun q => absurd q (by omega))
    refine w_aload0 r_204_18 ?_
    refine w_getA (x := 137) r_204_19 (Lk_118 hL) (Lr_118_45 hL) (by decide) ?_
    refine w_iload1 r_204_22 ?_
    refine v_iald r_204_23 (Lk_137 hL) (Lz_137 hL) (by decide) (by omega) (gI_A h 137 _) ?_
    refine w_iconst (v := iI (-1)) r_204_24 rfl ?_
    refine v_ic_ne r_204_25 (by first | exact zF_in _ _ _ | exact zA_in _ _ _ | omega) (by first | exact zF_in _ _ _ | exact zA_in _ _ _ | omega) (fun c25 => ?_) (fun c25 => ?_)
    · refine w_aload0 r_204_34 ?_
      refine w_getA (x := 137) r_204_35 (Lk_118 hL) (Lr_118_45 hL) (by decide) ?_
      refine w_iload1 r_204_38 ?_
      refine w_iconst (v := iI (-1)) r_204_39 rfl ?_
      refine v_iast r_204_40 (Lk_137 hL) (Ln_137 hL) (Lz_137 hL) (by decide) (by omega) ?_
      refine w_aload0 r_204_41 ?_
      refine w_iconst (v := iI (0)) r_204_42 rfl ?_
      refine w_putZ r_204_43 (Lk_118 hL) (Ln_118 hL) (by decide) ?_
      refine w_iconst (v := iI (1)) r_204_46 rfl ?_
      refine w_zret r_204_47 (by decide) ?_
      first | exact k1 (by omega) | exact k2 (by omega) (by omega) | exact k3 (by omega) (by omega)
    · refine w_aload0 r_204_28 ?_
      refine w_iconst (v := iI (5)) r_204_29 rfl ?_
      refine k_166 r_204_30 (Lk_118 hL) (Nat.le_of_ble_eq_true rfl) ?_
      refine m_not hL ?_
      refine w_zret r_204_33 (by decide) ?_
      first | exact k1 (by omega) | exact k2 (by omega) (by omega) | exact k3 (by omega) (by omega)
  · refine v_if_ne r_204_9 (by first | exact zF_in _ _ _ | exact zA_in _ _ _ | omega) (fun q => absurd q (by omega)) (fun _ => ?_)
    refine w_aload0 r_204_12 ?_
    refine w_iconst (v := iI (1)) r_204_13 rfl ?_
    refine k_166 r_204_14 (Lk_118 hL) (Nat.le_of_ble_eq_true rfl) ?_
    refine m_not hL ?_
    refine w_zret r_204_17 (by decide) ?_
    first | exact k1 (by omega) | exact k2 (by omega) (by omega) | exact k3 (by omega) (by omega)
theorem c_dig {x y : Int} (hx : R32 x) (hy : R32 y) (hL : Lay h) (hB : RB h rb) (hw : zF h rb 10 ≤ 6)
    (k1 : ¬ (0 ≤ x ∧ x < zF h rb 10) → K (iI 0) (sI h 1 18 (iI 1))) (k2 : (0 ≤ x ∧ x < zF h rb 10) → ¬ (0 ≤ y ∧ y ≤ 4) → K (iI 0) (sI h 1 18 (iI 2)))
    (k3 : (0 ≤ x ∧ x < zF h rb 10) → (0 ≤ y ∧ y ≤ 4) → K (iI 1) (sI (sI (sI h 108 x.toNat (iI y)) 107 10 (iI 0)) 1 18 (iI 0))) :
    XW (d + 1) 148 0 [.ref 1, .int (iI x), .int (iI y)] [] h (KI K) := by
  have hb := hB.1
  refine w_iload1 r_148_0 ?_
  refine v_if_lt r_148_1 (by first | exact zF_in _ _ _ | exact zA_in _ _ _ | omega) (fun c1 => ?_) (fun c1 => ?_)
  · refine w_aload0 r_148_15 ?_
    refine w_iconst (v := iI (1)) r_148_16 rfl ?_
    refine k_160 r_148_17 (Lk_1 hL) (Nat.le_of_ble_eq_true rfl) ?_
    refine c_deny hL ?_
    refine w_zret r_148_20 (by decide) ?_
    first | exact k1 (by omega) | exact k2 (by omega) (by omega) | exact k3 (by omega) (by omega)
  · refine w_iload1 r_148_4 ?_
    refine w_aload0 r_148_5 ?_
    refine w_getA (x := rb) r_148_6 (Lk_1 hL) hB.2.1 (RB.nz hb) ?_
    refine v_getI r_148_9 (Bk_ hL hb) (gI_F h (rb) 10) ?_
    refine v_ic_lt r_148_12 (by first | exact zF_in _ _ _ | exact zA_in _ _ _ | omega) (by first | exact zF_in _ _ _ | exact zA_in _ _ _ | omega) (fun c12 => ?_) (fun c12 => ?_)
    · refine w_iload2 r_148_21 ?_
      refine v_if_lt r_148_22 (by first | exact zF_in _ _ _ | exact zA_in _ _ _ | omega) (fun c22 => ?_) (fun c22 => ?_)
      · refine w_aload0 r_148_30 ?_
        refine w_iconst (v := iI (2)) r_148_31 rfl ?_
        refine k_160 r_148_32 (Lk_1 hL) (Nat.le_of_ble_eq_true rfl) ?_
        refine c_deny hL ?_
        refine w_zret r_148_35 (by decide) ?_
        first | exact k1 (by omega) | exact k2 (by omega) (by omega) | exact k3 (by omega) (by omega)
      · refine w_iload2 r_148_25 ?_
        refine w_iconst (v := iI (4)) r_148_26 rfl ?_
        refine v_ic_le r_148_27 (by first | exact zF_in _ _ _ | exact zA_in _ _ _ | omega) (by first | exact zF_in _ _ _ | exact zA_in _ _ _ | omega) (fun c27 => ?_) (fun c27 => ?_)
        · refine w_aload0 r_148_36 ?_
          refine w_getA (x := 107) r_148_37 (Lk_1 hL) (Lr_1_14 hL) (by decide) ?_
          refine w_iload1 r_148_40 ?_
          refine w_iload2 r_148_41 ?_
          refine k_21 r_148_42 (Lk_107 hL) (Nat.le_of_ble_eq_true rfl) ?_
          refine c_setDug hL (by omega) ?_
          refine w_aload0 r_148_45 ?_
          refine k_159 r_148_46 (Lk_1 hL) (Nat.le_of_ble_eq_true rfl) ?_
          refine c_grant hL ?_
          refine w_zret r_148_49 (by decide) ?_
          first | exact k1 (by omega) | exact k2 (by omega) (by omega) | exact k3 (by omega) (by omega)
        · refine w_aload0 r_148_30 ?_
          refine w_iconst (v := iI (2)) r_148_31 rfl ?_
          refine k_160 r_148_32 (Lk_1 hL) (Nat.le_of_ble_eq_true rfl) ?_
          refine c_deny hL ?_
          refine w_zret r_148_35 (by decide) ?_
          first | exact k1 (by omega) | exact k2 (by omega) (by omega) | exact k3 (by omega) (by omega)
    · refine w_aload0 r_148_15 ?_
      refine w_iconst (v := iI (1)) r_148_16 rfl ?_
      refine k_160 r_148_17 (Lk_1 hL) (Nat.le_of_ble_eq_true rfl) ?_
      refine c_deny hL ?_
      refine w_zret r_148_20 (by decide) ?_
      first | exact k1 (by omega) | exact k2 (by omega) (by omega) | exact k3 (by omega) (by omega)
theorem m_dig {x y : Int} (hx : R32 x) (hy : R32 y) (hL : Lay h) (hM : MB h) (hw : 0 ≤ zF h 118 24 ∧ zF h 118 24 ≤ 6)
    (k1 : ¬ (zF h 118 12 = 1 ∧ 0 ≤ x ∧ x < zF h 118 24) → K (iI 0) (sI (hG h) 118 39 (iI 1))) (k2 : (zF h 118 12 = 1 ∧ 0 ≤ x ∧ x < zF h 118 24) → ¬ (0 ≤ y ∧ y ≤ 4) → K (iI 0) (sI (hG h) 118 39 (iI 2)))
    (k3 : (zF h 118 12 = 1 ∧ 0 ≤ x ∧ x < zF h 118 24) → (0 ≤ y ∧ y ≤ 4) → K (iI 1) (sI (hG h) 139 x.toNat (iI y))) :
    XW (d + 1) 256 0 [.ref 118, .int (iI x), .int (iI y)] [] h (KI K) := by
  have hp := hM.1
  refine w_aload0 r_256_0 ?_
  refine k_164 r_256_1 (Lk_118 hL) (Nat.le_of_ble_eq_true rfl) ?_
  refine m_good hL ?_
  refine w_aload0 r_256_4 ?_
  refine v_getI r_256_5 (Lk_118 hL) (gI_F h 118 12) ?_
  refine v_if_eq r_256_8 (by first | exact zF_in _ _ _ | exact zA_in _ _ _ | omega) (fun c8 => ?_) (fun c8 => ?_)
  · refine w_aload0 r_256_25 ?_
    refine w_iconst (v := iI (1)) r_256_26 rfl ?_
    refine k_166 r_256_27 (Lk_118 hL) (Nat.le_of_ble_eq_true rfl) ?_
    refine m_not hL ?_
    refine w_zret r_256_30 (by decide) ?_
    first | exact k1 (by omega) | exact k2 (by omega) (by omega) | exact k3 (by omega) (by omega)
  · refine w_iload1 r_256_11 ?_
    refine w_iconst (v := iI (0)) r_256_12 rfl ?_
    refine w_aload0 r_256_13 ?_
    refine v_getI r_256_14 (Lk_118 hL) (gI_F h 118 24) ?_
    refine w_iconst (v := iI (1)) r_256_17 rfl ?_
    refine v_isub r_256_18 ?_
    refine k_167 r_256_19 (Nat.le_of_ble_eq_true rfl) ?_
    refine m_within (by first | exact zF_in _ _ _ | exact zA_in _ _ _ | omega) (by first | exact zF_in _ _ _ | exact zA_in _ _ _ | omega) (by first | exact zF_in _ _ _ | exact zA_in _ _ _ | omega) (fun c19 => ?_) (fun c19 => ?_)
    · refine v_if_ne r_256_22 (by first | exact zF_in _ _ _ | exact zA_in _ _ _ | omega) (fun _ => ?_) (fun q => absurd q (by omega))
      refine w_iload2 r_256_31 ?_
      refine w_iconst (v := iI (0)) r_256_32 rfl ?_
      refine w_iconst (v := iI (4)) r_256_33 rfl ?_
      refine k_167 r_256_34 (Nat.le_of_ble_eq_true rfl) ?_
      refine m_within (by first | exact zF_in _ _ _ | exact zA_in _ _ _ | omega) (by first | exact zF_in _ _ _ | exact zA_in _ _ _ | omega) (by first | exact zF_in _ _ _ | exact zA_in _ _ _ | omega) (fun c34 => ?_) (fun c34 => ?_)
      · refine v_if_ne r_256_37 (by first | exact zF_in _ _ _ | exact zA_in _ _ _ | omega) (fun _ => ?_) (fun q => absurd q (by omega))
        refine w_aload0 r_256_46 ?_
        refine w_getA (x := 139) r_256_47 (Lk_118 hL) (Lr_118_47 hL) (by decide) ?_
        refine w_iload1 r_256_50 ?_
        refine w_iload2 r_256_51 ?_
        refine v_iast r_256_52 (Lk_139 hL) (Ln_139 hL) (Lz_139 hL) (by decide) (by omega) ?_
        refine w_iconst (v := iI (1)) r_256_53 rfl ?_
        refine w_zret r_256_54 (by decide) ?_
        first | exact k1 (by omega) | exact k2 (by omega) (by omega) | exact k3 (by omega) (by omega)
      · refine v_if_ne r_256_37 (by first | exact zF_in _ _ _ | exact zA_in _ _ _ | omega) (fun q => absurd q (by omega)) (fun _ => ?_)
        refine w_aload0 r_256_40 ?_
        refine w_iconst (v := iI (2)) r_256_41 rfl ?_
        refine k_166 r_256_42 (Lk_118 hL) (Nat.le_of_ble_eq_true rfl) ?_
        refine m_not hL ?_
        refine w_zret r_256_45 (by decide) ?_
        first | exact k1 (by omega) | exact k2 (by omega) (by omega) | exact k3 (by omega) (by omega)
    · refine v_if_ne r_256_22 (by first | exact zF_in _ _ _ | exact zA_in _ _ _ | omega) (fun q => absurd q (by omega)) (fun _ => ?_)
      refine w_aload0 r_256_25 ?_
      refine w_iconst (v := iI (1)) r_256_26 rfl ?_
      refine k_166 r_256_27 (Lk_118 hL) (Nat.le_of_ble_eq_true rfl) ?_
      refine m_not hL ?_
      refine w_zret r_256_30 (by decide) ?_
      first | exact k1 (by omega) | exact k2 (by omega) (by omega) | exact k3 (by omega) (by omega)
theorem c_of {x y : Int} (hx : R32 x) (hy : R32 y) (hL : Lay h) (hc : zF h 80 2 ≤ 100) (hd : ∀ i, 0 ≤ i → i < zF h 80 2 → -1 ≤ zA h 83 i ∧ zA h 83 i < 5)
    (k1 : ¬ (0 ≤ x ∧ x < zF h 80 2) → K (iI (-1)) h) (k2 : (0 ≤ x ∧ x < zF h 80 2) → y = 0 → K (iI (zA h 81 x)) h)
    (k3 : (0 ≤ x ∧ x < zF h 80 2) → y = 1 → zA h 83 x = -1 → K (iI (zA h 82 x)) h)
    (k4 : (0 ≤ x ∧ x < zF h 80 2) → y = 1 → ¬ zA h 83 x = -1 → K (iI (if zA h 86 (zA h 83 x) = -1 then -2 else zA h 86 (zA h 83 x))) h)
    (k5 : (0 ≤ x ∧ x < zF h 80 2) → y = 2 → K (iI (if zA h 83 x = -1 then -2 else zA h 83 x)) h) (k6 : (0 ≤ x ∧ x < zF h 80 2) → ¬ (0 ≤ y ∧ y ≤ 2) → K (iI (-1)) h) :
    XW (d + 1) 132 0 [.ref 1, .int (iI x), .int (iI y), .null] [] h (KI K) := by
  have hdx := hd x
  refine w_aload0 r_132_0 ?_
  refine w_getA (x := 80) r_132_1 (Lk_1 hL) (Lr_1_9 hL) (by decide) ?_
  refine w_iload1 r_132_4 ?_
  refine k_47 r_132_5 (Lk_80 hL) (Nat.le_of_ble_eq_true rfl) ?_
  refine c_hasCell (by omega) hL (fun c5 => ?_) (fun c5 => ?_)
  · refine v_if_ne r_132_8 (by first | exact zF_in _ _ _ | exact zA_in _ _ _ | omega) (fun _ => ?_) (fun q => absurd q (by omega))
    refine w_aload0 r_132_13 ?_
    refine w_getA (x := 80) r_132_14 (Lk_1 hL) (Lr_1_9 hL) (by decide) ?_
    refine w_getA (x := 83) r_132_17 (Lk_80 hL) (Lr_80_7 hL) (by decide) ?_
    refine w_iload1 r_132_20 ?_
    refine v_iald r_132_21 (Lk_83 hL) (Lz_83 hL) (by decide) (by omega) (gI_A h 83 _) ?_
    refine w_istore3 r_132_22 rfl ?_
    refine w_iload2 r_132_23 ?_
    by_cases s24_0 : y = 0
    · refine w_swI (k := 0) (tgt := 52) r_132_24 s24_0 (by omega) (by omega) rfl rfl ?_
      refine w_aload0 r_132_52 ?_
      refine w_getA (x := 80) r_132_53 (Lk_1 hL) (Lr_1_9 hL) (by decide) ?_
      refine w_getA (x := 81) r_132_56 (Lk_80 hL) (Lr_80_5 hL) (by decide) ?_
      refine w_iload1 r_132_59 ?_
      refine v_iald r_132_60 (Lk_81 hL) (Lz_81 hL) (by decide) (by omega) (gI_A h 81 _) ?_
      refine w_iret r_132_61 ?_
      first | exact k1 (by omega) | exact k2 (by omega) (by omega) | exact k3 (by omega) (by omega) (by omega) | exact k4 (by omega) (by omega) (by omega) | exact k5 (by omega) (by omega) | exact k6 (by omega) (by omega)
    · by_cases s24_1 : y = 1
      · refine w_swI (k := 1) (tgt := 62) r_132_24 s24_1 (by omega) (by omega) rfl rfl ?_
        refine w_iload3 r_132_62 ?_
        refine w_iconst (v := iI (-1)) r_132_63 rfl ?_
        refine v_ic_ne r_132_64 (by first | exact zF_in _ _ _ | exact zA_in _ _ _ | omega) (by first | exact zF_in _ _ _ | exact zA_in _ _ _ | omega) (fun c64 => ?_) (fun c64 => ?_)
        · refine w_aload0 r_132_79 ?_
          refine w_getA (x := 80) r_132_80 (Lk_1 hL) (Lr_1_9 hL) (by decide) ?_
          refine w_getA (x := 86) r_132_83 (Lk_80 hL) (Lr_80_10 hL) (by decide) ?_
          refine w_iload3 r_132_86 ?_
          refine v_iald r_132_87 (Lk_86 hL) (Lz_86 hL) (by decide) (by omega) (gI_A h 86 _) ?_
          refine k_133 r_132_88 (Nat.le_of_ble_eq_true rfl) ?_
          refine c_orUntold (by first | omega | exact zA_in _ _ _ | exact zF_in _ _ _) ?_
          refine w_iret r_132_91 ?_
          first | exact k1 (by omega) | exact k2 (by omega) (by omega) | exact k3 (by omega) (by omega) (by omega) | exact k4 (by omega) (by omega) (by omega) | exact k5 (by omega) (by omega) | exact k6 (by omega) (by omega)
        · refine w_aload0 r_132_67 ?_
          refine w_getA (x := 80) r_132_68 (Lk_1 hL) (Lr_1_9 hL) (by decide) ?_
          refine w_getA (x := 82) r_132_71 (Lk_80 hL) (Lr_80_6 hL) (by decide) ?_
          refine w_iload1 r_132_74 ?_
          refine v_iald r_132_75 (Lk_82 hL) (Lz_82 hL) (by decide) (by omega) (gI_A h 82 _) ?_
          refine w_goto r_132_76 ?_
          refine w_iret r_132_91 ?_
          first | exact k1 (by omega) | exact k2 (by omega) (by omega) | exact k3 (by omega) (by omega) (by omega) | exact k4 (by omega) (by omega) (by omega) | exact k5 (by omega) (by omega) | exact k6 (by omega) (by omega)
      · by_cases s24_2 : y = 2
        · refine w_swI (k := 2) (tgt := 92) r_132_24 s24_2 (by omega) (by omega) rfl rfl ?_
          refine w_iload3 r_132_92 ?_
          refine k_133 r_132_93 (Nat.le_of_ble_eq_true rfl) ?_
          refine c_orUntold (by first | omega | exact zA_in _ _ _ | exact zF_in _ _ _) ?_
          refine w_iret r_132_96 ?_
          first | exact k1 (by omega) | exact k2 (by omega) (by omega) | exact k3 (by omega) (by omega) (by omega) | exact k4 (by omega) (by omega) (by omega) | exact k5 (by omega) (by omega) | exact k6 (by omega) (by omega)
        · refine w_swO (tgt := 97) r_132_24 (by omega) (by omega) rfl ?_
          refine w_iconst (v := iI (-1)) r_132_97 rfl ?_
          refine w_iret r_132_98 ?_
          first | exact k1 (by omega) | exact k2 (by omega) (by omega) | exact k3 (by omega) (by omega) (by omega) | exact k4 (by omega) (by omega) (by omega) | exact k5 (by omega) (by omega) | exact k6 (by omega) (by omega)
  · refine v_if_ne r_132_8 (by first | exact zF_in _ _ _ | exact zA_in _ _ _ | omega) (fun q => absurd q (by omega)) (fun _ => ?_)
    refine w_iconst (v := iI (-1)) r_132_11 rfl ?_
    refine w_iret r_132_12 ?_
    first | exact k1 (by omega) | exact k2 (by omega) (by omega) | exact k3 (by omega) (by omega) (by omega) | exact k4 (by omega) (by omega) (by omega) | exact k5 (by omega) (by omega) | exact k6 (by omega) (by omega)
theorem m_of {x y : Int} (hx : R32 x) (hy : R32 y) (hL : Lay h) (hM : MB h) (hd : ∀ i, 0 ≤ i → i < zF h 118 35 * zF h 118 36 → -1 ≤ zA h 135 i ∧ zA h 135 i < 5)
    (k1 : ¬ (zF h 118 34 = 1 ∧ 0 ≤ x ∧ x < zF h 118 35 * zF h 118 36) → K (iI (-1)) (sI h 118 0 (iI 0))) (k2 : (zF h 118 34 = 1 ∧ 0 ≤ x ∧ x < zF h 118 35 * zF h 118 36) → y = 0 → K (iI (zA h 133 x)) (sI h 118 0 (iI 0)))
    (k3 : (zF h 118 34 = 1 ∧ 0 ≤ x ∧ x < zF h 118 35 * zF h 118 36) → y = 1 → zA h 135 x = -1 → K (iI (zA h 134 x)) (sI h 118 0 (iI 0)))
    (k4 : (zF h 118 34 = 1 ∧ 0 ≤ x ∧ x < zF h 118 35 * zF h 118 36) → y = 1 → ¬ zA h 135 x = -1 → K (iI (if zA h 137 (zA h 135 x) = -1 then -2 else zA h 137 (zA h 135 x))) (sI h 118 0 (iI 0)))
    (k5 : (zF h 118 34 = 1 ∧ 0 ≤ x ∧ x < zF h 118 35 * zF h 118 36) → y = 2 → K (iI (if zA h 135 x = -1 then -2 else zA h 135 x)) (sI h 118 0 (iI 0))) (k6 : (zF h 118 34 = 1 ∧ 0 ≤ x ∧ x < zF h 118 35 * zF h 118 36) → ¬ (0 ≤ y ∧ y ≤ 2) → K (iI (-1)) (sI h 118 0 (iI 0))) :
    XW (d + 2) 205 0 [.ref 118, .int (iI x), .int (iI y), .null] [] h (KI K) := by
  have hp := prod_in hM.2.2.2.1 hM.2.2.2.2.1
  have hdx := hd x
  refine w_aload0 r_205_0 ?_
  refine w_iconst (v := iI (0)) r_205_1 rfl ?_
  refine w_putI r_205_2 (Lk_118 hL) (Ln_118 hL) ?_
  refine w_aload0 r_205_5 ?_
  refine w_iload1 r_205_6 ?_
  refine k_197 r_205_7 (Lk_118 hL) (Nat.le_of_ble_eq_true rfl) ?_
  refine m_isCell (h0 := h) (by first | exact zF_in _ _ _ | exact zA_in _ _ _ | omega) hL ⟨rfl, rfl, rfl, rfl, rfl, rfl⟩ hM (fun c7 => ?_) (fun c7 => ?_)
  · refine v_if_ne r_205_10 (by first | exact zF_in _ _ _ | exact zA_in _ _ _ | omega) (fun _ => ?_) (fun q => absurd q (by omega))
    refine w_aload0 r_205_15 ?_
    refine w_getA (x := 135) r_205_16 (Lk_118 hL) (Lr_118_43 hL) (by decide) ?_
    refine w_iload1 r_205_19 ?_
    refine v_iald r_205_20 (Lk_135 hL) (Lz_135 hL) (by decide) (by omega) (gI_A h 135 _) ?_
    refine w_istore3 r_205_21 rfl ?_
    refine w_iload2 r_205_22 ?_
    refine v_if_ne r_205_23 (by first | exact zF_in _ _ _ | exact zA_in _ _ _ | omega) (fun c23 => ?_) (fun c23 => ?_)
    · refine w_iload2 r_205_33 ?_
      refine w_iconst (v := iI (1)) r_205_34 rfl ?_
      refine v_ic_ne r_205_35 (by first | exact zF_in _ _ _ | exact zA_in _ _ _ | omega) (by first | exact zF_in _ _ _ | exact zA_in _ _ _ | omega) (fun c35 => ?_) (fun c35 => ?_)
      · refine w_iload2 r_205_74 ?_
        refine w_iconst (v := iI (2)) r_205_75 rfl ?_
        refine v_ic_ne r_205_76 (by first | exact zF_in _ _ _ | exact zA_in _ _ _ | omega) (by first | exact zF_in _ _ _ | exact zA_in _ _ _ | omega) (fun c76 => ?_) (fun c76 => ?_)
        · refine w_iconst (v := iI (-1)) r_205_93 rfl ?_
          refine w_iret r_205_94 ?_
          first | exact k1 (by omega) | exact k2 (by omega) (by omega) | exact k3 (by omega) (by omega) (by omega) | (have k9 := k4 (by omega) (by omega) (by omega); rw [if_pos (by omega)] at k9; exact k9) | (have k9 := k4 (by omega) (by omega) (by omega); rw [if_neg (by omega)] at k9; exact k9) | (have k9 := k5 (by omega) (by omega); rw [if_pos (by omega)] at k9; exact k9) | (have k9 := k5 (by omega) (by omega); rw [if_neg (by omega)] at k9; exact k9) | exact k6 (by omega) (by omega)
        · refine w_iload3 r_205_79 ?_
          refine w_iconst (v := iI (-1)) r_205_80 rfl ?_
          refine v_ic_ne r_205_81 (by first | exact zF_in _ _ _ | exact zA_in _ _ _ | omega) (by first | exact zF_in _ _ _ | exact zA_in _ _ _ | omega) (fun c81 => ?_) (fun c81 => ?_)
          · refine w_iload3 r_205_89 ?_
            refine w_goto r_205_90 ?_
            refine w_iret r_205_94 ?_
            first | exact k1 (by omega) | exact k2 (by omega) (by omega) | exact k3 (by omega) (by omega) (by omega) | (have k9 := k4 (by omega) (by omega) (by omega); rw [if_pos (by omega)] at k9; exact k9) | (have k9 := k4 (by omega) (by omega) (by omega); rw [if_neg (by omega)] at k9; exact k9) | (have k9 := k5 (by omega) (by omega); rw [if_pos (by omega)] at k9; exact k9) | (have k9 := k5 (by omega) (by omega); rw [if_neg (by omega)] at k9; exact k9) | exact k6 (by omega) (by omega)
          · refine w_bipush (v := iI (-2)) r_205_84 rfl ?_
            refine w_goto r_205_86 ?_
            refine w_iret r_205_94 ?_
            first | exact k1 (by omega) | exact k2 (by omega) (by omega) | exact k3 (by omega) (by omega) (by omega) | (have k9 := k4 (by omega) (by omega) (by omega); rw [if_pos (by omega)] at k9; exact k9) | (have k9 := k4 (by omega) (by omega) (by omega); rw [if_neg (by omega)] at k9; exact k9) | (have k9 := k5 (by omega) (by omega); rw [if_pos (by omega)] at k9; exact k9) | (have k9 := k5 (by omega) (by omega); rw [if_neg (by omega)] at k9; exact k9) | exact k6 (by omega) (by omega)
      · refine w_iload3 r_205_38 ?_
        refine w_iconst (v := iI (-1)) r_205_39 rfl ?_
        refine v_ic_ne r_205_40 (by first | exact zF_in _ _ _ | exact zA_in _ _ _ | omega) (by first | exact zF_in _ _ _ | exact zA_in _ _ _ | omega) (fun c40 => ?_) (fun c40 => ?_)
        · refine w_aload0 r_205_52 ?_
          refine w_getA (x := 137) r_205_53 (Lk_118 hL) (Lr_118_45 hL) (by decide) ?_
          refine w_iload3 r_205_56 ?_
          refine v_iald r_205_57 (Lk_137 hL) (Lz_137 hL) (by decide) (by omega) (gI_A h 137 _) ?_
          refine w_iconst (v := iI (-1)) r_205_58 rfl ?_
          refine v_ic_ne r_205_59 (by first | exact zF_in _ _ _ | exact zA_in _ _ _ | omega) (by first | exact zF_in _ _ _ | exact zA_in _ _ _ | omega) (fun c59 => ?_) (fun c59 => ?_)
          · refine w_aload0 r_205_67 ?_
            refine w_getA (x := 137) r_205_68 (Lk_118 hL) (Lr_118_45 hL) (by decide) ?_
            refine w_iload3 r_205_71 ?_
            refine v_iald r_205_72 (Lk_137 hL) (Lz_137 hL) (by decide) (by omega) (gI_A h 137 _) ?_
            refine w_iret r_205_73 ?_
            first | exact k1 (by omega) | exact k2 (by omega) (by omega) | exact k3 (by omega) (by omega) (by omega) | (have k9 := k4 (by omega) (by omega) (by omega); rw [if_pos (by omega)] at k9; exact k9) | (have k9 := k4 (by omega) (by omega) (by omega); rw [if_neg (by omega)] at k9; exact k9) | (have k9 := k5 (by omega) (by omega); rw [if_pos (by omega)] at k9; exact k9) | (have k9 := k5 (by omega) (by omega); rw [if_neg (by omega)] at k9; exact k9) | exact k6 (by omega) (by omega)
          · refine w_bipush (v := iI (-2)) r_205_62 rfl ?_
            refine w_goto r_205_64 ?_
            refine w_iret r_205_73 ?_
            first | exact k1 (by omega) | exact k2 (by omega) (by omega) | exact k3 (by omega) (by omega) (by omega) | (have k9 := k4 (by omega) (by omega) (by omega); rw [if_pos (by omega)] at k9; exact k9) | (have k9 := k4 (by omega) (by omega) (by omega); rw [if_neg (by omega)] at k9; exact k9) | (have k9 := k5 (by omega) (by omega); rw [if_pos (by omega)] at k9; exact k9) | (have k9 := k5 (by omega) (by omega); rw [if_neg (by omega)] at k9; exact k9) | exact k6 (by omega) (by omega)
        · refine w_aload0 r_205_43 ?_
          refine w_getA (x := 134) r_205_44 (Lk_118 hL) (Lr_118_42 hL) (by decide) ?_
          refine w_iload1 r_205_47 ?_
          refine v_iald r_205_48 (Lk_134 hL) (Lz_134 hL) (by decide) (by omega) (gI_A h 134 _) ?_
          refine w_goto r_205_49 ?_
          refine w_iret r_205_73 ?_
          first | exact k1 (by omega) | exact k2 (by omega) (by omega) | exact k3 (by omega) (by omega) (by omega) | (have k9 := k4 (by omega) (by omega) (by omega); rw [if_pos (by omega)] at k9; exact k9) | (have k9 := k4 (by omega) (by omega) (by omega); rw [if_neg (by omega)] at k9; exact k9) | (have k9 := k5 (by omega) (by omega); rw [if_pos (by omega)] at k9; exact k9) | (have k9 := k5 (by omega) (by omega); rw [if_neg (by omega)] at k9; exact k9) | exact k6 (by omega) (by omega)
    · refine w_aload0 r_205_26 ?_
      refine w_getA (x := 133) r_205_27 (Lk_118 hL) (Lr_118_41 hL) (by decide) ?_
      refine w_iload1 r_205_30 ?_
      refine v_iald r_205_31 (Lk_133 hL) (Lz_133 hL) (by decide) (by omega) (gI_A h 133 _) ?_
      refine w_iret r_205_32 ?_
      first | exact k1 (by omega) | exact k2 (by omega) (by omega) | exact k3 (by omega) (by omega) (by omega) | (have k9 := k4 (by omega) (by omega) (by omega); rw [if_pos (by omega)] at k9; exact k9) | (have k9 := k4 (by omega) (by omega) (by omega); rw [if_neg (by omega)] at k9; exact k9) | (have k9 := k5 (by omega) (by omega); rw [if_pos (by omega)] at k9; exact k9) | (have k9 := k5 (by omega) (by omega); rw [if_neg (by omega)] at k9; exact k9) | exact k6 (by omega) (by omega)
  · refine v_if_ne r_205_10 (by first | exact zF_in _ _ _ | exact zA_in _ _ _ | omega) (fun q => absurd q (by omega)) (fun _ => ?_)
    refine w_iconst (v := iI (-1)) r_205_13 rfl ?_
    refine w_iret r_205_14 ?_
    first | exact k1 (by omega) | exact k2 (by omega) (by omega) | exact k3 (by omega) (by omega) (by omega) | (have k9 := k4 (by omega) (by omega) (by omega); rw [if_pos (by omega)] at k9; exact k9) | (have k9 := k4 (by omega) (by omega) (by omega); rw [if_neg (by omega)] at k9; exact k9) | (have k9 := k5 (by omega) (by omega); rw [if_pos (by omega)] at k9; exact k9) | (have k9 := k5 (by omega) (by omega); rw [if_neg (by omega)] at k9; exact k9) | exact k6 (by omega) (by omega)
theorem c_first {x : Int} (hx : R32 x) (hL : Lay h) (k0 : x = 0 → K (iI (zF h 106 2)) h) (k1 : x = 1 → K (iI (zF h 106 3)) h) (k2 : x = 2 → K (iI (zF h 106 4)) h) (k3 : ¬ (0 ≤ x ∧ x ≤ 2) → K (iI (-1)) h) : XW d 146 0 [.ref 1, .int (iI x)] [] h (KI K) := by
  refine w_iload1 r_146_0 ?_
  by_cases s1_0 : x = 0
  · refine w_swI (k := 0) (tgt := 28) r_146_1 s1_0 (by omega) (by omega) rfl rfl ?_
    refine w_aload0 r_146_28 ?_
    refine w_getA (x := 106) r_146_29 (Lk_1 hL) (Lr_1_13 hL) (by decide) ?_
    refine v_getI r_146_32 (Lk_106 hL) (gI_F h 106 2) ?_
    refine w_iret r_146_35 ?_
    first | exact k0 (by omega) | exact k1 (by omega) | exact k2 (by omega) | exact k3 (by omega)
  · by_cases s1_1 : x = 1
    · refine w_swI (k := 1) (tgt := 36) r_146_1 s1_1 (by omega) (by omega) rfl rfl ?_
      refine w_aload0 r_146_36 ?_
      refine w_getA (x := 106) r_146_37 (Lk_1 hL) (Lr_1_13 hL) (by decide) ?_
      refine v_getI r_146_40 (Lk_106 hL) (gI_F h 106 3) ?_
      refine w_iret r_146_43 ?_
      first | exact k0 (by omega) | exact k1 (by omega) | exact k2 (by omega) | exact k3 (by omega)
    · by_cases s1_2 : x = 2
      · refine w_swI (k := 2) (tgt := 44) r_146_1 s1_2 (by omega) (by omega) rfl rfl ?_
        refine w_aload0 r_146_44 ?_
        refine w_getA (x := 106) r_146_45 (Lk_1 hL) (Lr_1_13 hL) (by decide) ?_
        refine v_getI r_146_48 (Lk_106 hL) (gI_F h 106 4) ?_
        refine w_iret r_146_51 ?_
        first | exact k0 (by omega) | exact k1 (by omega) | exact k2 (by omega) | exact k3 (by omega)
      · refine w_swO (tgt := 52) r_146_1 (by omega) (by omega) rfl ?_
        refine w_iconst (v := iI (-1)) r_146_52 rfl ?_
        refine w_iret r_146_53 ?_
        first | exact k0 (by omega) | exact k1 (by omega) | exact k2 (by omega) | exact k3 (by omega)
theorem m_first {x : Int} (hx : R32 x) (hL : Lay h) (k0 : x = 0 → K (iI (zF h 118 63)) (sI h 118 0 (iI 0))) (k1 : x = 1 → K (iI (zF h 118 64)) (sI h 118 0 (iI 0))) (k2 : x = 2 → K (iI (zF h 118 65)) (sI h 118 0 (iI 0))) (k3 : ¬ (0 ≤ x ∧ x ≤ 2) → K (iI (-1)) (sI h 118 0 (iI 0))) : XW d 254 0 [.ref 118, .int (iI x)] [] h (KI K) := by
  refine w_aload0 r_254_0 ?_
  refine w_iconst (v := iI (0)) r_254_1 rfl ?_
  refine w_putI r_254_2 (Lk_118 hL) (Ln_118 hL) ?_
  refine w_iload1 r_254_5 ?_
  refine v_if_ne r_254_6 (by first | exact zF_in _ _ _ | exact zA_in _ _ _ | omega) (fun c6 => ?_) (fun c6 => ?_)
  · refine w_iload1 r_254_16 ?_
    refine w_iconst (v := iI (1)) r_254_17 rfl ?_
    refine v_ic_ne r_254_18 (by first | exact zF_in _ _ _ | exact zA_in _ _ _ | omega) (by first | exact zF_in _ _ _ | exact zA_in _ _ _ | omega) (fun c18 => ?_) (fun c18 => ?_)
    · refine w_iload1 r_254_28 ?_
      refine w_iconst (v := iI (2)) r_254_29 rfl ?_
      refine v_ic_ne r_254_30 (by first | exact zF_in _ _ _ | exact zA_in _ _ _ | omega) (by first | exact zF_in _ _ _ | exact zA_in _ _ _ | omega) (fun c30 => ?_) (fun c30 => ?_)
      · refine w_iconst (v := iI (-1)) r_254_40 rfl ?_
        refine w_iret r_254_41 ?_
        first | exact k0 (by omega) | exact k1 (by omega) | exact k2 (by omega) | exact k3 (by omega)
      · refine w_aload0 r_254_33 ?_
        refine v_getI r_254_34 (Lk_118 hL) (gI_F h 118 65) ?_
        refine w_goto r_254_37 ?_
        refine w_iret r_254_41 ?_
        first | exact k0 (by omega) | exact k1 (by omega) | exact k2 (by omega) | exact k3 (by omega)
    · refine w_aload0 r_254_21 ?_
      refine v_getI r_254_22 (Lk_118 hL) (gI_F h 118 64) ?_
      refine w_goto r_254_25 ?_
      refine w_iret r_254_41 ?_
      first | exact k0 (by omega) | exact k1 (by omega) | exact k2 (by omega) | exact k3 (by omega)
  · refine w_aload0 r_254_9 ?_
    refine v_getI r_254_10 (Lk_118 hL) (gI_F h 118 63) ?_
    refine w_goto r_254_13 ?_
    refine w_iret r_254_41 ?_
    first | exact k0 (by omega) | exact k1 (by omega) | exact k2 (by omega) | exact k3 (by omega)
theorem m_fault (hL : Lay h) (hk : K (iI (zF h 118 9)) (sI h 118 0 (iI 0))) : XW d 188 0 [.ref 118] [] h (KI K) := by
  refine w_aload0 r_188_0 ?_
  refine w_iconst (v := iI (0)) r_188_1 rfl ?_
  refine w_putI r_188_2 (Lk_118 hL) (Ln_118 hL) ?_
  refine w_aload0 r_188_5 ?_
  refine v_getI r_188_6 (Lk_118 hL) (gI_F h 118 9) ?_
  refine w_iret r_188_9 ?_
  exact hk
theorem m_trouble (hL : Lay h) (hk : K (iI (zF h 118 39)) (sI h 118 0 (iI 0))) : XW d 265 0 [.ref 118] [] h (KI K) := by
  refine w_aload0 r_265_0 ?_
  refine w_iconst (v := iI (0)) r_265_1 rfl ?_
  refine w_putI r_265_2 (Lk_118 hL) (Ln_118 hL) ?_
  refine w_aload0 r_265_5 ?_
  refine v_getI r_265_6 (Lk_118 hL) (gI_F h 118 39) ?_
  refine w_iret r_265_9 ?_
  exact hk
theorem m_thrown (hL : Lay h) (hk : K (iI (zF h 118 0)) h) : XW d 163 0 [.ref 118] [] h (KI K) := by
  refine w_aload0 r_163_0 ?_
  refine v_getI r_163_1 (Lk_118 hL) (gI_F h 118 0) ?_
  refine w_iret r_163_4 ?_
  exact hk
theorem m_where (hL : Lay h) (k1 : zF h 118 39 = 4 → K (iI (zF h 118 10)) (sI h 118 0 (iI 0))) (k2 : ¬ zF h 118 39 = 4 → K (iI (-1)) (sI h 118 0 (iI 0))) : XW d 189 0 [.ref 118] [] h (KI K) := by
  refine w_aload0 r_189_0 ?_
  refine w_iconst (v := iI (0)) r_189_1 rfl ?_
  refine w_putI r_189_2 (Lk_118 hL) (Ln_118 hL) ?_
  refine w_aload0 r_189_5 ?_
  refine v_getI r_189_6 (Lk_118 hL) (gI_F h 118 39) ?_
  refine w_iconst (v := iI (4)) r_189_9 rfl ?_
  refine v_ic_ne r_189_10 (by first | exact zF_in _ _ _ | exact zA_in _ _ _ | omega) (by first | exact zF_in _ _ _ | exact zA_in _ _ _ | omega) (fun c10 => ?_) (fun c10 => ?_)
  · refine w_iconst (v := iI (-1)) r_189_20 rfl ?_
    refine w_iret r_189_21 ?_
    first | exact k1 (by omega) | exact k2 (by omega)
  · refine w_aload0 r_189_13 ?_
    refine v_getI r_189_14 (Lk_118 hL) (gI_F h 118 10) ?_
    refine w_goto r_189_17 ?_
    refine w_iret r_189_21 ?_
    first | exact k1 (by omega) | exact k2 (by omega)
end OP1
