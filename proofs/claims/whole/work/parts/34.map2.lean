/-! map, choices, weights -/
/-- the grounds below n that may be -/
def chs (w : Int → Int) : Nat → List Int
  | 0 => []
  | n + 1 => if 0 < w n then chs w n ++ [(n : Int)] else chs w n
theorem chs_congr {w u : Int → Int} {n : Nat} (hwu : ∀ i : Int, 0 ≤ i → i < n → w i = u i) : chs w n = chs u n := by
  induction n with
  | zero => rfl
  | succ n ih =>
    unfold chs
    rw [ih (fun i a b => hwu i a (by omega)), hwu n (by omega) (by omega)]
theorem chs_mono {w : Int → Int} {n : Nat} : ∀ k, (chs w n).length ≤ (chs w (n + k)).length := by
  intro k
  induction k with
  | zero => exact Nat.le_refl _
  | succ k ih =>
    show _ ≤ (if 0 < w ((n + k : Nat) : Int) then chs w (n + k) ++ [((n + k : Nat) : Int)] else chs w (n + k)).length
    split
    · simp; omega
    · exact ih
section MW
variable {d : Nat} {h : XH} {K : Int32 → XH → Prop} {KU : XH → Prop} {rb : Nat}
theorem c_map {x y : Int} (hx : R32 x) (hy : R32 y) (hL : Lay h) (hB : RB h rb) (k1 : zF h rb 0 = 0 → K (iI (-1)) (sI h 1 18 (iI 1))) (k2 : ¬ zF h rb 0 = 0 → ¬ ((1 ≤ x ∧ x ≤ 10) ∧ 1 ≤ y ∧ y ≤ 10) → K (iI (-1)) (sI h 1 18 (iI 2)))
    (hk : ¬ zF h rb 0 = 0 → 1 ≤ x ∧ x ≤ 10 → 1 ≤ y ∧ y ≤ 10 → ∀ h', Fr PLay h h' → gI h' 80 0 = iI x → gI h' 80 1 = iI y → gI h' 80 2 = iI (x * y) → gI h' 80 3 = iI 0 → gI h' 80 4 = iI (zF h 80 4 + 1) →
      (∀ i : Nat, i < 100 → gI h' 81 i = iI 0 ∧ gI h' 82 i = iI 0 ∧ gI h' 83 i = iI (-1) ∧ gI h' 84 i = iI 0) →
      (∀ c way : Int, 0 ≤ c → c < y * x → 0 ≤ way → way < 4 → zA h' 85 (c * 4 + way) = bs x y c way) → K (iI (x * y)) (sI (sI h' 1 8 (iI 0)) 1 18 (iI 0))) :
    XW (d + 2) 125 0 [.ref 1, .int (iI x), .int (iI y)] [] h (KI K) := by
  have hb := hB.1
  refine w_aload0 r_125_0 ?_
  refine w_getA (x := rb) r_125_1 (Lk_1 hL) hB.2.1 (RB.nz hb) ?_
  refine v_getI r_125_4 (Bk_ hL hb) (gI_F h (rb) 0) ?_
  refine v_if_ne r_125_7 (by first | exact zF_in _ _ _ | exact zA_in _ _ _ | omega) (fun c7 => ?_) (fun c7 => ?_)
  · refine w_iload1 r_125_16 ?_
    refine w_iconst (v := iI (1)) r_125_17 rfl ?_
    refine v_ic_lt r_125_18 (by first | exact zF_in _ _ _ | exact zA_in _ _ _ | omega) (by first | exact zF_in _ _ _ | exact zA_in _ _ _ | omega) (fun c18 => ?_) (fun c18 => ?_)
    · refine w_aload0 r_125_38 ?_
      refine w_iconst (v := iI (2)) r_125_39 rfl ?_
      refine k_157 r_125_40 (Lk_1 hL) (Nat.le_of_ble_eq_true rfl) ?_
      refine c_refuse hL ?_
      refine w_iret r_125_43 ?_
      first | exact k1 (by omega) | exact k2 (by omega) (by omega) | exact hk (by omega) (by omega) (by omega) h1 f1 g0 g1 g2 g3 g4 b1 b2
    · refine w_iload1 r_125_21 ?_
      refine w_bipush (v := iI (10)) r_125_22 rfl ?_
      refine v_ic_gt r_125_24 (by first | exact zF_in _ _ _ | exact zA_in _ _ _ | omega) (by first | exact zF_in _ _ _ | exact zA_in _ _ _ | omega) (fun c24 => ?_) (fun c24 => ?_)
      · refine w_aload0 r_125_38 ?_
        refine w_iconst (v := iI (2)) r_125_39 rfl ?_
        refine k_157 r_125_40 (Lk_1 hL) (Nat.le_of_ble_eq_true rfl) ?_
        refine c_refuse hL ?_
        refine w_iret r_125_43 ?_
        first | exact k1 (by omega) | exact k2 (by omega) (by omega) | exact hk (by omega) (by omega) (by omega) h1 f1 g0 g1 g2 g3 g4 b1 b2
      · refine w_iload2 r_125_27 ?_
        refine w_iconst (v := iI (1)) r_125_28 rfl ?_
        refine v_ic_lt r_125_29 (by first | exact zF_in _ _ _ | exact zA_in _ _ _ | omega) (by first | exact zF_in _ _ _ | exact zA_in _ _ _ | omega) (fun c29 => ?_) (fun c29 => ?_)
        · refine w_aload0 r_125_38 ?_
          refine w_iconst (v := iI (2)) r_125_39 rfl ?_
          refine k_157 r_125_40 (Lk_1 hL) (Nat.le_of_ble_eq_true rfl) ?_
          refine c_refuse hL ?_
          refine w_iret r_125_43 ?_
          first | exact k1 (by omega) | exact k2 (by omega) (by omega) | exact hk (by omega) (by omega) (by omega) h1 f1 g0 g1 g2 g3 g4 b1 b2
        · refine w_iload2 r_125_32 ?_
          refine w_bipush (v := iI (10)) r_125_33 rfl ?_
          refine v_ic_le r_125_35 (by first | exact zF_in _ _ _ | exact zA_in _ _ _ | omega) (by first | exact zF_in _ _ _ | exact zA_in _ _ _ | omega) (fun c35 => ?_) (fun c35 => ?_)
          · refine w_aload0 r_125_44 ?_
            refine w_getA (x := 80) r_125_45 (Lk_1 hL) (Lr_1_9 hL) (by decide) ?_
            refine w_iload1 r_125_48 ?_
            refine w_iload2 r_125_49 ?_
            refine k_45 r_125_50 (Lk_80 hL) (Nat.le_of_ble_eq_true rfl) ?_
            refine c_lay (by omega) (by omega) hL (fun h1 f1 g0 g1 g2 g3 g4 b1 b2 => ?_)
            have hL := f1.lay hL
            refine w_aload0 r_125_53 ?_
            refine w_iconst (v := iI (0)) r_125_54 rfl ?_
            refine w_putI r_125_55 (Lk_1 hL) (Ln_1 hL) ?_
            refine w_aload0 r_125_58 ?_
            refine w_aload0 r_125_59 ?_
            refine w_getA (x := 80) r_125_60 (Lk_1 hL) (Lr_1_9 hL) (by decide) ?_
            refine v_getI r_125_63 (Lk_80 hL) g2 ?_
            refine k_156 r_125_66 (Lk_1 hL) (Nat.le_of_ble_eq_true rfl) ?_
            refine c_answer hL ?_
            refine w_iret r_125_69 ?_
            first | exact k1 (by omega) | exact k2 (by omega) (by omega) | exact hk (by omega) (by omega) (by omega) h1 f1 g0 g1 g2 g3 g4 b1 b2
          · refine w_aload0 r_125_38 ?_
            refine w_iconst (v := iI (2)) r_125_39 rfl ?_
            refine k_157 r_125_40 (Lk_1 hL) (Nat.le_of_ble_eq_true rfl) ?_
            refine c_refuse hL ?_
            refine w_iret r_125_43 ?_
            first | exact k1 (by omega) | exact k2 (by omega) (by omega) | exact hk (by omega) (by omega) (by omega) h1 f1 g0 g1 g2 g3 g4 b1 b2
  · refine w_aload0 r_125_10 ?_
    refine w_iconst (v := iI (1)) r_125_11 rfl ?_
    refine k_157 r_125_12 (Lk_1 hL) (Nat.le_of_ble_eq_true rfl) ?_
    refine c_refuse hL ?_
    refine w_iret r_125_15 ?_
    first | exact k1 (by omega) | exact k2 (by omega) (by omega) | exact hk (by omega) (by omega) (by omega) h1 f1 g0 g1 g2 g3 g4 b1 b2
abbrev PMap : Nat → Nat → Bool := pO (pA [133, 134, 135]) (pF [(118, 0), (118, 39), (118, 34), (118, 35), (118, 36), (118, 37), (118, 40), (118, 51)])
theorem m_map {x y : Int} (hx : R32 x) (hy : R32 y) (hL : Lay h) (hM : MB h) (k1 : ¬ (zF h 118 12 = 1 ∧ ¬ zF h 118 22 = 0) → K (iI (-1)) (sI (hG h) 118 39 (iI 1))) (k2 : zF h 118 12 = 1 → ¬ zF h 118 22 = 0 → ¬ ((1 ≤ x ∧ x ≤ 10) ∧ 1 ≤ y ∧ y ≤ 10) → K (iI (-1)) (sI (hG h) 118 39 (iI 2)))
    (hk : zF h 118 12 = 1 → ¬ zF h 118 22 = 0 → 1 ≤ x ∧ x ≤ 10 → 1 ≤ y ∧ y ≤ 10 → ∀ h', Fr PMap h h' → (∀ j, gI h' 118 j = gI (sI (sI (sI (sI (sI (sI (hG h) 118 34 (iI 1)) 118 35 (iI x)) 118 36 (iI y)) 118 37 (iI 0)) 118 40 (iI 0)) 118 51 (iI 0)) 118 j) →
      (∀ i : Nat, i < 100 → gI h' 133 i = iI 0 ∧ gI h' 134 i = iI 0 ∧ gI h' 135 i = iI (-1)) → K (iI (x * y)) h') :
    XW (d + 1) 196 0 [.ref 118, .int (iI x), .int (iI y), .null] [] h (KI K) := by
  obtain ⟨m1, m2, m3, m4, m5, m6⟩ := id hM
  have key : zF h 118 12 = 1 → ¬ zF h 118 22 = 0 → 1 ≤ x ∧ x ≤ 10 → 1 ≤ y ∧ y ≤ 10 → ∀ i : Nat, i ≤ 100 → ∀ h1, Fr PMap h h1 → (∀ j, gI h1 118 j = gI (sI (sI (sI (sI (sI (sI (hG h) 118 34 (iI 1)) 118 35 (iI x)) 118 36 (iI y)) 118 37 (iI 0)) 118 40 (iI 0)) 118 51 (iI 0)) 118 j) →
      (∀ j : Nat, j < i → gI h1 133 j = iI 0 ∧ gI h1 134 j = iI 0 ∧ gI h1 135 j = iI (-1)) → XW (d + 1) 196 82 [.ref 118, .int (iI x), .int (iI y), .int (iI i)] [] h1 (KI K) := by
    intro q1 q2 q3 q4
    refine upto _ ?_ ?_
    · intro h1 hf e1 hc
      have hL := hf.lay hL
      refine w_iload3 r_196_82 ?_
      refine w_bipush (v := iI (100)) r_196_83 rfl ?_
      refine v_ic_ge r_196_85 (by first | exact zF_in _ _ _ | exact zA_in _ _ _ | omega) (by first | exact zF_in _ _ _ | exact zA_in _ _ _ | omega) (fun _ => ?_) (fun q => absurd q (by omega))
      refine w_iload1 r_196_115 ?_
      refine w_iload2 r_196_116 ?_
      refine v_imul r_196_117 ?_
      refine w_iret r_196_118 ?_
      exact hk q1 q2 q3 q4 h1 hf e1 hc
    · intro i hi ih h1 hf e1 hc
      have hL := hf.lay hL
      refine w_iload3 r_196_82 ?_
      refine w_bipush (v := iI (100)) r_196_83 rfl ?_
      refine v_ic_ge r_196_85 (by first | exact zF_in _ _ _ | exact zA_in _ _ _ | omega) (by first | exact zF_in _ _ _ | exact zA_in _ _ _ | omega) (fun q => absurd q (by omega)) (fun _ => ?_)
      refine w_aload0 r_196_88 ?_
      refine w_getA (x := 133) r_196_89 (Lk_118 hL) (Lr_118_41 hL) (by decide) ?_
      refine w_iload3 r_196_92 ?_
      refine w_iconst (v := iI (0)) r_196_93 rfl ?_
      refine v_iast r_196_94 (Lk_133 hL) (Ln_133 hL) (Lz_133 hL) (by decide) (by omega) ?_
      refine w_aload0 r_196_95 ?_
      refine w_getA (x := 134) r_196_96 (Lk_118 hL) (Lr_118_42 hL) (by decide) ?_
      refine w_iload3 r_196_99 ?_
      refine w_iconst (v := iI (0)) r_196_100 rfl ?_
      refine v_iast r_196_101 (Lk_134 hL) (Ln_134 hL) (Lz_134 hL) (by decide) (by omega) ?_
      refine w_aload0 r_196_102 ?_
      refine w_getA (x := 135) r_196_103 (Lk_118 hL) (Lr_118_43 hL) (by decide) ?_
      refine w_iload3 r_196_106 ?_
      refine w_iconst (v := iI (-1)) r_196_107 rfl ?_
      refine v_iast r_196_108 (Lk_135 hL) (Ln_135 hL) (Lz_135 hL) (by decide) (by omega) ?_
      refine w_iinc3 r_196_109 rfl (iI_add _ _) ?_
      refine w_goto r_196_112 ?_
      refine ih _ (((hf.sI 133 _ _ rfl).sI 134 _ _ rfl).sI 135 _ _ rfl) e1 (fun j hj => ?_)
      by_cases e : j = i
      · refine ⟨?_, ?_, ?_⟩
        · rw [sI_other _ (by decide), sI_other _ (by decide), sI_here, if_pos (by omega)]
        · rw [sI_other _ (by decide), sI_here, if_pos (by omega)]
        · rw [sI_here, if_pos (by omega)]
      · have := hc j (by omega)
        refine ⟨?_, ?_, ?_⟩
        · rw [sI_other _ (by decide), sI_other _ (by decide), sI_here, if_neg (by omega)]; exact this.1
        · rw [sI_other _ (by decide), sI_here, if_neg (by omega)]; exact this.2.1
        · rw [sI_here, if_neg (by omega)]; exact this.2.2
  refine w_aload0 r_196_0 ?_
  refine k_164 r_196_1 (Lk_118 hL) (Nat.le_of_ble_eq_true rfl) ?_
  refine m_good hL ?_
  refine w_aload0 r_196_4 ?_
  refine v_getI r_196_5 (Lk_118 hL) (gI_F h 118 12) ?_
  refine v_if_eq r_196_8 (by first | exact zF_in _ _ _ | exact zA_in _ _ _ | omega) (fun c8 => ?_) (fun c8 => ?_)
  · refine w_aload0 r_196_18 ?_
    refine w_iconst (v := iI (1)) r_196_19 rfl ?_
    refine k_165 r_196_20 (Lk_118 hL) (Nat.le_of_ble_eq_true rfl) ?_
    refine m_no hL ?_
    refine w_iret r_196_23 ?_
    first | exact k1 (by omega) | exact k2 (by omega) (by omega) (by omega)
  · refine w_aload0 r_196_11 ?_
    refine v_getI r_196_12 (Lk_118 hL) (gI_F h 118 22) ?_
    refine v_if_ne r_196_15 (by first | exact zF_in _ _ _ | exact zA_in _ _ _ | omega) (fun c15 => ?_) (fun c15 => ?_)
    · refine w_iload1 r_196_24 ?_
      refine w_iconst (v := iI (1)) r_196_25 rfl ?_
      refine w_bipush (v := iI (10)) r_196_26 rfl ?_
      refine k_167 r_196_28 (Nat.le_of_ble_eq_true rfl) ?_
      refine m_within (by first | exact zF_in _ _ _ | exact zA_in _ _ _ | omega) (by first | exact zF_in _ _ _ | exact zA_in _ _ _ | omega) (by first | exact zF_in _ _ _ | exact zA_in _ _ _ | omega) (fun c28 => ?_) (fun c28 => ?_)
      · refine v_if_eq r_196_31 (by first | exact zF_in _ _ _ | exact zA_in _ _ _ | omega) (fun q => absurd q (by omega)) (fun _ => ?_)
        refine w_iload2 r_196_34 ?_
        refine w_iconst (v := iI (1)) r_196_35 rfl ?_
        refine w_bipush (v := iI (10)) r_196_36 rfl ?_
        refine k_167 r_196_38 (Nat.le_of_ble_eq_true rfl) ?_
        refine m_within (by first | exact zF_in _ _ _ | exact zA_in _ _ _ | omega) (by first | exact zF_in _ _ _ | exact zA_in _ _ _ | omega) (by first | exact zF_in _ _ _ | exact zA_in _ _ _ | omega) (fun c38 => ?_) (fun c38 => ?_)
        · refine v_if_ne r_196_41 (by first | exact zF_in _ _ _ | exact zA_in _ _ _ | omega) (fun _ => ?_) (fun q => absurd q (by omega))
          refine w_aload0 r_196_50 ?_
          refine w_iconst (v := iI (1)) r_196_51 rfl ?_
          refine w_putZ r_196_52 (Lk_118 hL) (Ln_118 hL) (by decide) ?_
          refine w_aload0 r_196_55 ?_
          refine w_iload1 r_196_56 ?_
          refine w_putI r_196_57 (Lk_118 hL) (Ln_118 hL) ?_
          refine w_aload0 r_196_60 ?_
          refine w_iload2 r_196_61 ?_
          refine w_putI r_196_62 (Lk_118 hL) (Ln_118 hL) ?_
          refine w_aload0 r_196_65 ?_
          refine w_iconst (v := iI (0)) r_196_66 rfl ?_
          refine w_putI r_196_67 (Lk_118 hL) (Ln_118 hL) ?_
          refine w_aload0 r_196_70 ?_
          refine w_iconst (v := iI (0)) r_196_71 rfl ?_
          refine w_putI r_196_72 (Lk_118 hL) (Ln_118 hL) ?_
          refine w_aload0 r_196_75 ?_
          refine w_iconst (v := iI (0)) r_196_76 rfl ?_
          refine w_putZ r_196_77 (Lk_118 hL) (Ln_118 hL) (by decide) ?_
          refine w_iconst (v := iI (0)) r_196_80 rfl ?_
          refine w_istore3 r_196_81 rfl ?_
          exact key (by omega) (by omega) (by omega) (by omega) 0 (by omega) _ ((((((((Fr.refl _ _).sI 118 0 _ rfl).sI 118 39 _ rfl).sI 118 34 _ rfl).sI 118 35 _ rfl).sI 118 36 _ rfl).sI 118 37 _ rfl).sI 118 40 _ rfl |>.sI 118 51 _ rfl) (fun j => rfl) (fun j hj => absurd hj (by omega))
        · refine v_if_ne r_196_41 (by first | exact zF_in _ _ _ | exact zA_in _ _ _ | omega) (fun q => absurd q (by omega)) (fun _ => ?_)
          refine w_aload0 r_196_44 ?_
          refine w_iconst (v := iI (2)) r_196_45 rfl ?_
          refine k_165 r_196_46 (Lk_118 hL) (Nat.le_of_ble_eq_true rfl) ?_
          refine m_no hL ?_
          refine w_iret r_196_49 ?_
          first | exact k1 (by omega) | exact k2 (by omega) (by omega) (by omega)
      · refine v_if_eq r_196_31 (by first | exact zF_in _ _ _ | exact zA_in _ _ _ | omega) (fun _ => ?_) (fun q => absurd q (by omega))
        refine w_aload0 r_196_44 ?_
        refine w_iconst (v := iI (2)) r_196_45 rfl ?_
        refine k_165 r_196_46 (Lk_118 hL) (Nat.le_of_ble_eq_true rfl) ?_
        refine m_no hL ?_
        refine w_iret r_196_49 ?_
        first | exact k1 (by omega) | exact k2 (by omega) (by omega) (by omega)
    · refine w_aload0 r_196_18 ?_
      refine w_iconst (v := iI (1)) r_196_19 rfl ?_
      refine k_165 r_196_20 (Lk_118 hL) (Nat.le_of_ble_eq_true rfl) ?_
      refine m_no hL ?_
      refine w_iret r_196_23 ?_
      first | exact k1 (by omega) | exact k2 (by omega) (by omega) (by omega)
abbrev PLis : Nat → Nat → Bool := pO (pA [88, 89, 90]) (pF [(80, 4)])
theorem c_listChoices {x : Int} (hL : Lay h) (hx : 0 ≤ x ∧ x < 5) (hw : ∀ g, 0 ≤ g → g < 8 → 0 ≤ zA h 87 (x * 8 + g) ∧ zA h 87 (x * 8 + g) ≤ 9) (hl : (chs (fun g => zA h 87 (x * 8 + g)) 8).length ≤ 3)
    (hk : ∀ h', Fr PLis h h' → gI h' 80 4 = iI (zF h 80 4 + 1) → zA h' 89 x = (chs (fun g => zA h 87 (x * 8 + g)) 8).length → zA h' 90 x = sumTo (fun g => zA h 87 (x * 8 + g)) 8 →
      (∀ i : Nat, i < (chs (fun g => zA h 87 (x * 8 + g)) 8).length → zA h' 88 (x * 3 + i) = (chs (fun g => zA h 87 (x * 8 + g)) 8).getD i 0) →
      (∀ i : Int, 0 ≤ i → ¬ i = x → zA h' 89 i = zA h 89 i ∧ zA h' 90 i = zA h 90 i) → (∀ i : Int, 0 ≤ i → i < x * 3 ∨ x * 3 + 3 ≤ i → zA h' 88 i = zA h 88 i) → KU h') :
    XW (d + 1) 53 0 [.ref 80, .int (iI x), .null, .null, .null, .null] [] h (KV KU) := by
  have hwd : ∃ w : Int → Int, w = fun g => zA h 87 (x * 8 + g) := ⟨_, rfl⟩
  obtain ⟨w, hwd⟩ := hwd
  rw [← hwd] at hk hl
  have hwv : ∀ g, zA h 87 (x * 8 + g) = w g := fun g => by rw [hwd]
  have key : ∀ g : Nat, g ≤ 8 → ∀ h1 X, Fr (pA [88]) h h1 → (∀ i : Nat, i < (chs w g).length → zA h1 88 (x * 3 + i) = (chs w g).getD i 0) → (∀ i : Int, 0 ≤ i → i < x * 3 ∨ x * 3 + 3 ≤ i → zA h1 88 i = zA h 88 i) →
      XW (d + 1) 53 7 [.ref 80, .int (iI x), .int (iI (chs w g).length), .int (iI (sumTo w g)), .int (iI g), X] [] h1 (KV KU) := by
    refine upto _ ?_ ?_
    · intro h1 X hf hc ho
      have hL := hf.lay hL
      have hs := sumTo_in (f := w) (b := 9) (n := 8) (fun i a b => by rw [← hwv]; exact hw i a (by omega))
      have e4 : gI h1 80 4 = iI (zF h 80 4) := by rw [gI_F, hf.F rfl]
      refine w_iload4 r_53_7 ?_
      refine w_bipush (v := iI (8)) r_53_9 rfl ?_
      refine v_ic_ge r_53_11 (by first | exact zF_in _ _ _ | exact zA_in _ _ _ | omega) (by first | exact zF_in _ _ _ | exact zA_in _ _ _ | omega) (fun _ => ?_) (fun q => absurd q (by omega))
      refine w_aload0 r_53_59 ?_
      refine w_getA (x := 89) r_53_60 (Lk_80 hL) (Lr_80_13 hL) (by decide) ?_
      refine w_iload1 r_53_63 ?_
      refine w_iload2 r_53_64 ?_
      refine v_iast r_53_65 (Lk_89 hL) (Ln_89 hL) (Lz_89 hL) (by decide) (by omega) ?_
      refine w_aload0 r_53_66 ?_
      refine w_getA (x := 90) r_53_67 (Lk_80 hL) (Lr_80_14 hL) (by decide) ?_
      refine w_iload1 r_53_70 ?_
      refine w_iload3 r_53_71 ?_
      refine v_iast r_53_72 (Lk_90 hL) (Ln_90 hL) (Lz_90 hL) (by decide) (by omega) ?_
      refine w_aload0 r_53_73 ?_
      refine w_dupA r_53_74 ?_
      refine v_getI r_53_75 (Lk_80 hL) e4 ?_
      refine w_iconst (v := iI (1)) r_53_78 rfl ?_
      refine v_iadd r_53_79 ?_
      refine w_putI r_53_80 (Lk_80 hL) (Ln_80 hL) ?_
      refine w_vret r_53_83 ?_
      refine hk _ ((((hf.mono (fun a j q => by simp [PLis, pO, pA, pF] at q ⊢; omega)).sI 89 _ _ rfl).sI 90 _ _ rfl).sI 80 4 _ rfl) rfl ?_ ?_ (fun i hi => ?_) (fun i a b => ⟨?_, ?_⟩) (fun i a b => ?_)
      · rw [zA_o _ (by decide), zA_o _ (by decide), zA_s (by omega) (by omega) (by omega), if_pos rfl]
      · rw [zA_o _ (by decide), zA_s (by omega) (by omega) (by omega), if_pos rfl]
      · rw [zA_o _ (by decide), zA_o _ (by decide), zA_o _ (by decide)]; exact hc i hi
      · rw [zA_o _ (by decide), zA_o _ (by decide), zA_s (by omega) (by omega) (by omega), if_neg b]; exact hf.A rfl
      · rw [zA_o _ (by decide), zA_s (by omega) (by omega) (by omega), if_neg b, zA_o _ (by decide)]; exact hf.A rfl
      · rw [zA_o _ (by decide), zA_o _ (by decide), zA_o _ (by decide)]; exact ho i a b
    · intro g hg ih h1 X hf hc ho
      have hL := hf.lay hL
      have e8 : zA h1 87 (x * 8 + g) = w g := (hf.A rfl).trans (hwv _)
      have hwg := hw g (by omega) (by omega)
      rw [hwv] at hwg
      have cp : 0 < w g → chs w (g + 1) = chs w g ++ [(g : Int)] := fun q => by show (if 0 < w g then _ else _) = _; rw [if_pos q]
      have cn : ¬ 0 < w g → chs w (g + 1) = chs w g := fun q => by show (if 0 < w g then _ else _) = _; rw [if_neg q]
      have sp : sumTo w (g + 1) = sumTo w g + w g := rfl
      have hm0 := chs_mono (w := w) (n := g) 1
      have hm := chs_mono (w := w) (n := g + 1) (8 - (g + 1))
      rw [show g + 1 + (8 - (g + 1)) = 8 by omega] at hm
      refine w_iload4 r_53_7 ?_
      refine w_bipush (v := iI (8)) r_53_9 rfl ?_
      refine v_ic_ge r_53_11 (by first | exact zF_in _ _ _ | exact zA_in _ _ _ | omega) (by first | exact zF_in _ _ _ | exact zA_in _ _ _ | omega) (fun q => absurd q (by omega)) (fun _ => ?_)
      refine w_aload0 r_53_14 ?_
      refine w_iload1 r_53_15 ?_
      refine w_iload4 r_53_16 ?_
      refine k_50 r_53_18 (Lk_80 hL) (Nat.le_of_ble_eq_true rfl) ?_
      refine c_weightOf hL (by omega) ?_
      rw [e8]
      refine w_istore5 r_53_21 rfl ?_
      refine w_iload5 r_53_23 ?_
      refine v_if_le r_53_25 (by first | exact zF_in _ _ _ | exact zA_in _ _ _ | omega) (fun c25 => ?_) (fun c25 => ?_)
      · refine w_iinc4 r_53_53 rfl (iI_add _ _) ?_
        refine w_goto r_53_56 ?_
        first | (have ih := ih h1 (.int (iI (w g))) hf (by rw [cn (by omega)]; exact hc) ho; rw [cn (by omega), sp, show w g = 0 by omega, Int.add_zero] at ih; rw [show w g = 0 by omega]; exact ih) | (have cq := cp (by omega); rw [show ((chs w g).length : Int) + 1 = ((chs w (g + 1)).length : Int) by rw [cq]; simp]; refine ih _ _ (hf.sI 88 _ _ rfl) (fun i hi => ?_) (fun i a b => ?_); (rw [zA_s (by omega) (by omega) (by omega), cq]; rw [cq, List.length_append] at hi; by_cases e : i = (chs w g).length; (rw [if_pos (by omega), e]; simp [List.getD]); (have hi2 : i < (chs w g).length := by simp at hi; omega); (rw [if_neg (by omega), hc i hi2]; simp [List.getD, List.getElem?_append_left hi2])); (rw [zA_s (by omega) (by omega) (by omega), if_neg (by rw [cq, List.length_append] at hm; simp at hm; omega)]; exact ho i a b))
      · refine w_iload2 r_53_28 ?_
        refine w_iconst (v := iI (3)) r_53_29 rfl ?_
        refine v_ic_ge r_53_30 (by first | exact zF_in _ _ _ | exact zA_in _ _ _ | omega) (by first | exact zF_in _ _ _ | exact zA_in _ _ _ | omega) (fun q => absurd q (by (have := cp (by omega); rw [this] at hm; simp at hm; omega))) (fun _ => ?_)
        refine w_aload0 r_53_33 ?_
        refine w_getA (x := 88) r_53_34 (Lk_80 hL) (Lr_80_12 hL) (by decide) ?_
        refine w_iload1 r_53_37 ?_
        refine w_iconst (v := iI (3)) r_53_38 rfl ?_
        refine v_imul r_53_39 ?_
        refine w_iload2 r_53_40 ?_
        refine v_iadd r_53_41 ?_
        refine w_iload4 r_53_42 ?_
        refine v_iast r_53_44 (Lk_88 hL) (Ln_88 hL) (Lz_88 hL) (by decide) (by omega) ?_
        refine w_iinc2 r_53_45 rfl (iI_add _ _) ?_
        refine w_iload3 r_53_48 ?_
        refine w_iload5 r_53_49 ?_
        refine v_iadd r_53_51 ?_
        refine w_istore3 r_53_52 rfl ?_
        refine w_iinc4 r_53_53 rfl (iI_add _ _) ?_
        refine w_goto r_53_56 ?_
        first | (have ih := ih h1 (.int (iI (w g))) hf (by rw [cn (by omega)]; exact hc) ho; rw [cn (by omega), sp, show w g = 0 by omega, Int.add_zero] at ih; rw [show w g = 0 by omega]; exact ih) | (have cq := cp (by omega); rw [show ((chs w g).length : Int) + 1 = ((chs w (g + 1)).length : Int) by rw [cq]; simp]; refine ih _ _ (hf.sI 88 _ _ rfl) (fun i hi => ?_) (fun i a b => ?_); (rw [zA_s (by omega) (by omega) (by omega), cq]; rw [cq, List.length_append] at hi; by_cases e : i = (chs w g).length; (rw [if_pos (by omega), e]; simp [List.getD]); (have hi2 : i < (chs w g).length := by simp at hi; omega); (rw [if_neg (by omega), hc i hi2]; simp [List.getD, List.getElem?_append_left hi2])); (rw [zA_s (by omega) (by omega) (by omega), if_neg (by rw [cq, List.length_append] at hm; simp at hm; omega)]; exact ho i a b))
  refine w_iconst (v := iI (0)) r_53_0 rfl ?_
  refine w_istore2 r_53_1 rfl ?_
  refine w_iconst (v := iI (0)) r_53_2 rfl ?_
  refine w_istore3 r_53_3 rfl ?_
  refine w_iconst (v := iI (0)) r_53_4 rfl ?_
  refine w_istore4 r_53_5 rfl ?_
  exact key 0 (by omega) h _ (Fr.refl _ _) (fun i hi => absurd hi (by simp [chs])) (fun i _ _ => rfl)
end MW
