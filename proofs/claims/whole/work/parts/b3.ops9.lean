/-! calls: truths -/
section OP9
variable {d : Nat} {h h' h1 : XH} {K : Int32 → XH → Prop} {KU : XH → Prop} {B : XB} {dd : Int} {M : XM} {rb : Nat} {t e : Int}
theorem c_truths (hL : Lay h) (hX : CX h rb B dd M) (hz : ¬ 0 < M.n → M.n = 0 ∧ M.nd = 0) (k0 : ¬ 0 < M.n → K (iI 0) h) (kt : 0 < M.n → K (iI (trm M)) h) : XW (d + 1) 138 0 [.ref 1] [] h (KI K) := by
  obtain ⟨hB, hC, hP, hv⟩ := hX
  have e2 := hP.1.2.2.1
  have e3 := hP.1.2.2.2
  by_cases q : 0 < M.n
  · obtain ⟨ho, hm, hd, hS⟩ := hv q
    have kt := kt q
    refine w_aload0 r_138_0 ?_
    refine w_getA (x := 80) r_138_1 (Lk_1 hL) (Lr_1_9 hL) (by decide) ?_
    refine k_55 r_138_4 (Lk_80 hL) (Nat.le_of_ble_eq_true rfl) ?_
    refine c_truthM hL hP hm ?_
    refine w_iret r_138_7 ?_
    exact kt
  · have k0 := k0 q
    have z := hz q
    refine w_aload0 r_138_0 ?_
    refine w_getA (x := 80) r_138_1 (Lk_1 hL) (Lr_1_9 hL) (by decide) ?_
    refine k_55 r_138_4 (Lk_80 hL) (Nat.le_of_ble_eq_true rfl) ?_
    refine c_truthCount hL (by omega) (fun _ => ?_) (fun x => absurd (show zF h 80 2 = 0 by omega) x)
    refine w_iret r_138_7 ?_
    exact k0
theorem m_truths (hL : Lay h) (hX : MX h B dd M) (k0 : ¬ 0 < M.n → K (iI 0) (sI h 118 0 (iI 0))) (kt : 0 < M.n → ∀ h', Fr (pA [141, 142]) (sI h 118 0 (iI 0)) h' → MLs h' M → K (iI (trm M)) h') : XW (d + 1) 236 0 [.ref 118] [] h (KI K) := by
  have ew := hX.n
  obtain ⟨hM, hQ, hP, hdd, hv⟩ := hX
  have F0 : Fr (pF [(118, 0)]) h (sI h 118 0 (iI 0)) := (Fr.refl _ _).sI 118 0 _ (by simp [pF])
  have v6 : gI (sI h 118 0 (iI 0)) 118 34 = iI (zF h 118 34) := by rw [sI_here, if_neg (by decide), gI_F]
  have h34 := hM.2.1
  have main : 0 < M.n → XW (d + 1) 236 14 [.ref 118] [] (sI h 118 0 (iI 0)) (KI K) := by
    intro q
    obtain ⟨h12, ho, hm, hd⟩ := hv q
    have kt := kt q
    have P1 : MMp (sI h 118 0 (iI 0)) M := hP.fr F0 (fun a j p q => by simp [pF]; omega) (fun j p q => by simp [pF]; omega)
    have hL := F0.lay hL
    generalize sI h 118 0 (iI 0) = h1 at *
    have fin : ∀ h2, Fr (pA [141, 142]) h1 h2 → MLs h2 M → XW (d + 1) 236 18 [.ref 118] [] h2 (KI K) := by
      intro h2 f2 k2
      have R := kt h2 f2 k2
      have hL := f2.lay hL
      have P2 : MMp h2 M := P1.fr f2 (fun a j p q => by simp [pA]; omega) (fun j p q => by simp [pA])
      refine w_aload0 r_236_18 ?_
      refine k_235 r_236_19 (Lk_118 hL) (Nat.le_of_ble_eq_true rfl) ?_
      refine m_truthM hL P2 hm k2 ?_
      refine w_iret r_236_22 ?_
      exact R
    refine w_aload0 r_236_14 ?_
    refine k_214 r_236_15 (Lk_118 hL) (Nat.le_of_ble_eq_true rfl) ?_
    refine m_lists hL P1 hm (fun h2 f2 k2 => ?_)
    exact fin h2 f2 k2
  by_cases q : 0 < M.n
  · have a34 : ¬ zF h 118 34 = 0 := fun x => by have := ew.2 (by omega); omega
    have J := main q
    refine w_aload0 r_236_0 ?_
    refine w_iconst (v := iI (0)) r_236_1 rfl ?_
    refine w_putI r_236_2 (Lk_118 hL) (Ln_118 hL) ?_
    refine w_aload0 r_236_5 ?_
    refine v_getI r_236_6 (Lk_118 hL) v6 ?_
    refine v_if_ne r_236_9 (by first | exact zF_in _ _ _ | exact zA_in _ _ _ | omega) (fun _ => ?_) (fun q => absurd q (by omega))
    exact J
  · have a34 : zF h 118 34 = 0 := by
      rcases hP.1.2 with x | x
      · have : 1 * 1 ≤ M.wd * M.hg := Int.mul_le_mul x.2.2.2.1 x.2.2.2.2.2.1 (by decide) (by omega)
        exact absurd (show 0 < M.n by show 0 < M.wd * M.hg; omega) q
      · exact x.1
    have R := k0 q
    refine w_aload0 r_236_0 ?_
    refine w_iconst (v := iI (0)) r_236_1 rfl ?_
    refine w_putI r_236_2 (Lk_118 hL) (Ln_118 hL) ?_
    refine w_aload0 r_236_5 ?_
    refine v_getI r_236_6 (Lk_118 hL) v6 ?_
    refine v_if_ne r_236_9 (by first | exact zF_in _ _ _ | exact zA_in _ _ _ | omega) (fun q => absurd q (by omega)) (fun _ => ?_)
    refine w_iconst (v := iI (0)) r_236_12 rfl ?_
    refine w_iret r_236_13 ?_
    exact R
theorem c_truth (ht : R32 t) (he : R32 e) (hL : Lay h) (hX : CX h rb B dd M) (hz : ¬ 0 < M.n → M.n = 0 ∧ M.nd = 0) (k1 : ¬ ((0 ≤ t ∧ t < trm M) ∧ 0 ≤ e ∧ e < M.nd) → K (iI (-1)) h) (kt : (0 ≤ t ∧ t < trm M) ∧ 0 ≤ e ∧ e < M.nd → K (iI (chc M e (dg (ful M t) e - 1))) h) : XW (d + 4) 139 0 [.ref 1, .int (iI t), .int (iI e)] [] h (KI K) := by
  obtain ⟨hB, hC, hP, hv⟩ := hX
  have e2 := hP.1.2.2.1
  have e3 := hP.1.2.2.2
  by_cases q : 0 < M.n
  · obtain ⟨ho, hm, hd, hS⟩ := hv q
    have tr := trm_in hm
    by_cases w : (0 ≤ t ∧ t < trm M) ∧ 0 ≤ e ∧ e < M.nd
    · have R := kt w
      have f := ful_in hm w.1.1
      have fe := f.2.1 e w.2.1 w.2.2
      have om := hm.1
      have fs := (f.1.2 e w.2.1 (by omega)).1 w.2.2
      have gi : ∀ KK : Int32 → XH → Prop, KK (iI (chc M e (dg (ful M t) e - 1))) h → XW (d + 3) 61 0 [.ref 80, .int (iI (ful M t)), .int (iI e), .null] [] h (KI KK) := fun KK kk => c_groundIn (d := d + 2) hL hP hm f.1.1 w.2 fs (by rw [if_neg (by omega)]; exact kk)
      refine w_iload1 r_139_0 ?_
      refine v_if_lt r_139_1 (by first | exact zF_in _ _ _ | exact zA_in _ _ _ | omega) (fun q => absurd q (by omega)) (fun _ => ?_)
      refine w_iload1 r_139_4 ?_
      refine w_aload0 r_139_5 ?_
      refine w_getA (x := 80) r_139_6 (Lk_1 hL) (Lr_1_9 hL) (by decide) ?_
      refine k_55 r_139_9 (Lk_80 hL) (Nat.le_of_ble_eq_true rfl) ?_
      refine c_truthM hL hP hm ?_
      refine v_ic_ge r_139_12 (by first | exact zF_in _ _ _ | exact zA_in _ _ _ | omega) (by first | exact zF_in _ _ _ | exact zA_in _ _ _ | omega) (fun q => absurd q (by omega)) (fun _ => ?_)
      refine w_aload0 r_139_15 ?_
      refine w_getA (x := 80) r_139_16 (Lk_1 hL) (Lr_1_9 hL) (by decide) ?_
      refine w_iload2 r_139_19 ?_
      refine k_48 r_139_20 (Lk_80 hL) (Nat.le_of_ble_eq_true rfl) ?_
      refine c_hasDoubt (by omega) hL (fun c20 => ?_) (fun c20 => ?_)
      · refine v_if_ne r_139_23 (by first | exact zF_in _ _ _ | exact zA_in _ _ _ | omega) (fun _ => ?_) (fun q => absurd q (by omega))
        refine w_aload0 r_139_28 ?_
        refine w_getA (x := 80) r_139_29 (Lk_1 hL) (Lr_1_9 hL) (by decide) ?_
        refine w_aload0 r_139_32 ?_
        refine w_getA (x := 80) r_139_33 (Lk_1 hL) (Lr_1_9 hL) (by decide) ?_
        refine w_iload1 r_139_36 ?_
        refine k_59 r_139_37 (Lk_80 hL) (Nat.le_of_ble_eq_true rfl) ?_
        refine c_stateOfTruth (d := d) hL hP hm (by omega) ?_
        refine w_iload2 r_139_40 ?_
        refine k_61 r_139_41 (Lk_80 hL) (Nat.le_of_ble_eq_true rfl) ?_
        refine gi _ ?_
        refine w_iret r_139_44 ?_
        first | exact R | exact absurd w (by omega)
      · refine v_if_ne r_139_23 (by first | exact zF_in _ _ _ | exact zA_in _ _ _ | omega) (fun q => absurd q (by omega)) (fun _ => ?_)
        refine w_iconst (v := iI (-1)) r_139_26 rfl ?_
        refine w_iret r_139_27 ?_
        first | exact R | exact absurd w (by omega)
    · have R := k1 w
      refine w_iload1 r_139_0 ?_
      refine v_if_lt r_139_1 (by first | exact zF_in _ _ _ | exact zA_in _ _ _ | omega) (fun c1 => ?_) (fun c1 => ?_)
      · refine w_iconst (v := iI (-1)) r_139_26 rfl ?_
        refine w_iret r_139_27 ?_
        exact R
      · refine w_iload1 r_139_4 ?_
        refine w_aload0 r_139_5 ?_
        refine w_getA (x := 80) r_139_6 (Lk_1 hL) (Lr_1_9 hL) (by decide) ?_
        refine k_55 r_139_9 (Lk_80 hL) (Nat.le_of_ble_eq_true rfl) ?_
        refine c_truthM hL hP hm ?_
        refine v_ic_ge r_139_12 (by first | exact zF_in _ _ _ | exact zA_in _ _ _ | omega) (by first | exact zF_in _ _ _ | exact zA_in _ _ _ | omega) (fun c12 => ?_) (fun c12 => ?_)
        · refine w_iconst (v := iI (-1)) r_139_26 rfl ?_
          refine w_iret r_139_27 ?_
          exact R
        · refine w_aload0 r_139_15 ?_
          refine w_getA (x := 80) r_139_16 (Lk_1 hL) (Lr_1_9 hL) (by decide) ?_
          refine w_iload2 r_139_19 ?_
          refine k_48 r_139_20 (Lk_80 hL) (Nat.le_of_ble_eq_true rfl) ?_
          refine c_hasDoubt (by omega) hL (fun c20 => ?_) (fun c20 => ?_)
          · refine v_if_ne r_139_23 (by first | exact zF_in _ _ _ | exact zA_in _ _ _ | omega) (fun _ => ?_) (fun q => absurd q (by omega))
            exact absurd (show (0 ≤ t ∧ t < trm M) ∧ 0 ≤ e ∧ e < M.nd by omega) w
          · refine v_if_ne r_139_23 (by first | exact zF_in _ _ _ | exact zA_in _ _ _ | omega) (fun q => absurd q (by omega)) (fun _ => ?_)
            refine w_iconst (v := iI (-1)) r_139_26 rfl ?_
            refine w_iret r_139_27 ?_
            exact R
  · have z := hz q
    have R := k1 (by omega)
    refine w_iload1 r_139_0 ?_
    refine v_if_lt r_139_1 (by first | exact zF_in _ _ _ | exact zA_in _ _ _ | omega) (fun c1 => ?_) (fun c1 => ?_)
    · refine w_iconst (v := iI (-1)) r_139_26 rfl ?_
      refine w_iret r_139_27 ?_
      exact R
    · refine w_iload1 r_139_4 ?_
      refine w_aload0 r_139_5 ?_
      refine w_getA (x := 80) r_139_6 (Lk_1 hL) (Lr_1_9 hL) (by decide) ?_
      refine k_55 r_139_9 (Lk_80 hL) (Nat.le_of_ble_eq_true rfl) ?_
      refine c_truthCount hL (by omega) (fun _ => ?_) (fun x => absurd (show zF h 80 2 = 0 by omega) x)
      refine v_ic_ge r_139_12 (by first | exact zF_in _ _ _ | exact zA_in _ _ _ | omega) (by first | exact zF_in _ _ _ | exact zA_in _ _ _ | omega) (fun c12 => ?_) (fun c12 => ?_)
      · refine w_iconst (v := iI (-1)) r_139_26 rfl ?_
        refine w_iret r_139_27 ?_
        exact R
      · refine w_aload0 r_139_15 ?_
        refine w_getA (x := 80) r_139_16 (Lk_1 hL) (Lr_1_9 hL) (by decide) ?_
        refine w_iload2 r_139_19 ?_
        refine k_48 r_139_20 (Lk_80 hL) (Nat.le_of_ble_eq_true rfl) ?_
        refine c_hasDoubt (by omega) hL (fun c20 => ?_) (fun c20 => ?_)
        · refine v_if_ne r_139_23 (by first | exact zF_in _ _ _ | exact zA_in _ _ _ | omega) (fun _ => ?_) (fun q => absurd q (by omega))
          exfalso
          omega
        · refine v_if_ne r_139_23 (by first | exact zF_in _ _ _ | exact zA_in _ _ _ | omega) (fun q => absurd q (by omega)) (fun _ => ?_)
          refine w_iconst (v := iI (-1)) r_139_26 rfl ?_
          refine w_iret r_139_27 ?_
          exact R
theorem m_truth (ht : R32 t) (he : R32 e) (hL : Lay h) (hX : MX h B dd M) (k1 : ¬ (0 ≤ e ∧ e < M.nd) → K (iI (-1)) (sI h 118 0 (iI 0))) (k2 : 0 ≤ e ∧ e < M.nd → ¬ (0 ≤ t ∧ t < trm M) → ∀ h', Fr (pA [141, 142]) (sI h 118 0 (iI 0)) h' → MLs h' M → K (iI (-1)) h') (kt : (0 ≤ t ∧ t < trm M) ∧ 0 ≤ e ∧ e < M.nd → ∀ h', Fr (pA [141, 142]) (sI h 118 0 (iI 0)) h' → MLs h' M → K (iI (chc M e (dg (ful M t) e - 1))) h') (hz : 0 < M.nd → 0 < M.n) : XW (d + 4) 238 0 [.ref 118, .int (iI t), .int (iI e)] [] h (KI K) := by
  have ew := hX.n
  obtain ⟨hM, hQ, hP, hdd, hv⟩ := hX
  have F0 : Fr (pF [(118, 0)]) h (sI h 118 0 (iI 0)) := (Fr.refl _ _).sI 118 0 _ (by simp [pF])
  have e37 := hP.1.1
  have main : 0 ≤ e ∧ e < M.nd → XW (d + 4) 238 15 [.ref 118, .int (iI t), .int (iI e)] [] (sI h 118 0 (iI 0)) (KI K) := by
    intro we
    obtain ⟨h12, ho, hm, hd⟩ := hv (hz (by omega))
    have k2 := k2 we
    have om := hm.1
    have tr := trm_in hm
    have P1 : MMp (sI h 118 0 (iI 0)) M := hP.fr F0 (fun a j p q => by simp [pF]; omega) (fun j p q => by simp [pF]; omega)
    have hL := F0.lay hL
    generalize sI h 118 0 (iI 0) = h1 at *
    have fin : ∀ h2, Fr (pA [141, 142]) h1 h2 → MLs h2 M → XW (d + 4) 238 19 [.ref 118, .int (iI t), .int (iI e)] [] h2 (KI K) := by
      intro h2 f2 l2
      have hL := f2.lay hL
      have P2 : MMp h2 M := P1.fr f2 (fun a j p q => by simp [pA]; omega) (fun j p q => by simp [pA])
      by_cases w : 0 ≤ t ∧ t < trm M
      · have R := kt ⟨w, we⟩ h2 f2 l2
        have f := ful_in hm w.1
        have fe := f.2.1 e we.1 we.2
        have fs := (f.1.2 e we.1 (by omega)).1 we.2
        have mi := mny_in hm we
        have fi := f.1.1
        have v54 : gI h2 141 (4 * e + dg (ful M t) e - 1).toNat = iI (chc M e (dg (ful M t) e - 1)) := by
          rw [gI_A, ← (l2 e we.1 we.2).2 (dg (ful M t) e - 1) (by omega) (by omega), show 4 * e + dg (ful M t) e - 1 = 4 * e + (dg (ful M t) e - 1) by omega]
        have J : XW (d + 4) 238 35 [.ref 118, .int (iI t), .int (iI e)] [] h2 (KI K) := by
          refine w_aload0 r_238_35 ?_
          refine w_getA (x := 141) r_238_36 (Lk_118 hL) (Lr_118_52 hL) (by decide) ?_
          refine w_iconst (v := iI (4)) r_238_39 rfl ?_
          refine w_iload2 r_238_40 ?_
          refine v_imul r_238_41 ?_
          refine w_aload0 r_238_42 ?_
          refine w_iload1 r_238_43 ?_
          refine k_237 r_238_44 (Lk_118 hL) (Nat.le_of_ble_eq_true rfl) ?_
          refine m_all (B := B) (d := d + 1) hL P2 hm l2 (by omega) ?_
          refine w_iload2 r_238_47 ?_
          refine k_213 r_238_48 (Nat.le_of_ble_eq_true rfl) ?_
          refine m_digit (by omega) (by omega) ?_
          refine v_iadd r_238_51 ?_
          refine w_iconst (v := iI (1)) r_238_52 rfl ?_
          refine v_isub r_238_53 ?_
          refine v_iald r_238_54 (Lk_141 hL) (Lz_141 hL) (by decide) (by omega) v54 ?_
          refine w_iret r_238_55 ?_
          exact R
        refine w_iload1 r_238_19 ?_
        refine w_iconst (v := iI (0)) r_238_20 rfl ?_
        refine w_aload0 r_238_21 ?_
        refine k_235 r_238_22 (Lk_118 hL) (Nat.le_of_ble_eq_true rfl) ?_
        refine m_truthM hL P2 hm l2 ?_
        refine w_iconst (v := iI (1)) r_238_25 rfl ?_
        refine v_isub r_238_26 ?_
        refine k_167 r_238_27 (Nat.le_of_ble_eq_true rfl) ?_
        refine m_within (by first | exact zF_in _ _ _ | exact zA_in _ _ _ | omega) (by first | exact zF_in _ _ _ | exact zA_in _ _ _ | omega) (by first | exact zF_in _ _ _ | exact zA_in _ _ _ | omega) (fun c27 => ?_) (fun c27 => ?_)
        · refine v_if_ne r_238_30 (by first | exact zF_in _ _ _ | exact zA_in _ _ _ | omega) (fun _ => ?_) (fun q => absurd q (by omega))
          exact J
        · refine v_if_ne r_238_30 (by first | exact zF_in _ _ _ | exact zA_in _ _ _ | omega) (fun q => absurd q (by omega)) (fun _ => ?_)
          refine w_iconst (v := iI (-1)) r_238_33 rfl ?_
          refine w_iret r_238_34 ?_
          exfalso
          omega
      · have R := k2 w h2 f2 l2
        refine w_iload1 r_238_19 ?_
        refine w_iconst (v := iI (0)) r_238_20 rfl ?_
        refine w_aload0 r_238_21 ?_
        refine k_235 r_238_22 (Lk_118 hL) (Nat.le_of_ble_eq_true rfl) ?_
        refine m_truthM hL P2 hm l2 ?_
        refine w_iconst (v := iI (1)) r_238_25 rfl ?_
        refine v_isub r_238_26 ?_
        refine k_167 r_238_27 (Nat.le_of_ble_eq_true rfl) ?_
        refine m_within (by first | exact zF_in _ _ _ | exact zA_in _ _ _ | omega) (by first | exact zF_in _ _ _ | exact zA_in _ _ _ | omega) (by first | exact zF_in _ _ _ | exact zA_in _ _ _ | omega) (fun c27 => ?_) (fun c27 => ?_)
        · refine v_if_ne r_238_30 (by first | exact zF_in _ _ _ | exact zA_in _ _ _ | omega) (fun _ => ?_) (fun q => absurd q (by omega))
          exfalso
          omega
        · refine v_if_ne r_238_30 (by first | exact zF_in _ _ _ | exact zA_in _ _ _ | omega) (fun q => absurd q (by omega)) (fun _ => ?_)
          refine w_iconst (v := iI (-1)) r_238_33 rfl ?_
          refine w_iret r_238_34 ?_
          exact R
    refine w_aload0 r_238_15 ?_
    refine k_214 r_238_16 (Lk_118 hL) (Nat.le_of_ble_eq_true rfl) ?_
    refine m_lists hL P1 hm (fun h2 f2 k2 => ?_)
    exact fin h2 f2 k2
  have h34 : 0 ≤ e ∧ e < M.nd → zF h 118 34 = 1 := fun w => by
    rcases hP.1.2 with x | x
    · exact x.1
    · omega
  refine w_aload0 r_238_0 ?_
  refine w_iconst (v := iI (0)) r_238_1 rfl ?_
  refine w_putI r_238_2 (Lk_118 hL) (Ln_118 hL) ?_
  refine w_aload0 r_238_5 ?_
  refine w_iload2 r_238_6 ?_
  refine k_198 r_238_7 (Lk_118 hL) (Nat.le_of_ble_eq_true rfl) ?_
  refine m_isDoubt (h0 := h) (by first | exact zF_in _ _ _ | exact zA_in _ _ _ | omega) hL ⟨rfl, rfl, rfl, rfl, rfl, rfl⟩ hM (fun c7 => ?_) (fun c7 => ?_)
  · refine v_if_ne r_238_10 (by first | exact zF_in _ _ _ | exact zA_in _ _ _ | omega) (fun _ => ?_) (fun q => absurd q (by omega))
    exact main (by omega)
  · refine v_if_ne r_238_10 (by first | exact zF_in _ _ _ | exact zA_in _ _ _ | omega) (fun q => absurd q (by omega)) (fun _ => ?_)
    refine w_iconst (v := iI (-1)) r_238_13 rfl ?_
    refine w_iret r_238_14 ?_
    exact k1 (by omega)
end OP9
