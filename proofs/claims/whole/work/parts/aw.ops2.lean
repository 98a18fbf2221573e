/-! calls: a step -/
/-- what the class's calls on the map need -/
def CX (h : XH) (rb : Nat) (B : XB) (dd : Int) (M : XM) : Prop := RB h rb ∧ CBk h rb B ∧ CMp h M ∧ (0 < M.n → B.ok ∧ M.ok B.g ∧ (0 ≤ dd ∧ dd < B.w) ∧ CLr h B dd)
/-- and the Model's -/
def MX (h : XH) (B : XB) (dd : Int) (M : XM) : Prop := MB h ∧ MBk h B ∧ MMp h M ∧ gI h 118 38 = iI dd ∧ (0 < M.n → zF h 118 12 = 1 ∧ B.ok ∧ M.ok B.g ∧ 0 ≤ dd ∧ dd < B.w)
def stv (B : XB) (dd : Int) (M : XM) (c way g x : Int) : Int := if x = 0 then why B dd M c way g else if ¬ why B dd M c way g = 0 then -2 else if x = 1 then ned B dd (rise M c way) g else if x = 2 then slp B dd (ned B dd (rise M c way) g) g else cst B dd M c way g
section OP2
variable {d : Nat} {h : XH} {K : Int32 → XH → Prop} {KU : XH → Prop} {B : XB} {dd : Int} {M : XM} {rb : Nat} {c way g x : Int}
theorem MX.n (hX : MX h B dd M) : (zF h 118 34 = 1 → zF h 118 35 * zF h 118 36 = M.n) ∧ (¬ zF h 118 34 = 1 → M.n = 0) := by
  have p := hX.2.2.1.1.2
  refine ⟨fun q => ?_, fun q => ?_⟩
  · rcases p with z | z
    · rw [z.2.1, z.2.2.1]; rfl
    · omega
  · rcases p with z | z
    · exact absurd z.1 q
    · show M.wd * M.hg = 0
      rw [z.2.1, Int.zero_mul]
theorem c_step (hc : R32 c) (hway : R32 way) (hg : R32 g) (hx : R32 x) (hL : Lay h) (hX : CX h rb B dd M)
    (k1 : ¬ ((0 ≤ c ∧ c < M.n) ∧ (0 ≤ way ∧ way < 4) ∧ (0 ≤ g ∧ g < B.g) ∧ 0 ≤ x ∧ x ≤ 3) → K (iI (-1)) (sI h 1 18 (iI 1)))
    (kt : (0 ≤ c ∧ c < M.n) ∧ (0 ≤ way ∧ way < 4) ∧ (0 ≤ g ∧ g < B.g) ∧ 0 ≤ x ∧ x ≤ 3 → ∀ h', Fr PMs h h' → K (iI (stv B dd M c way g x)) (sI h' 1 18 (iI 0))) :
    XW (d + 2) 134 0 [.ref 1, .int (iI c), .int (iI way), .int (iI g), .int (iI x)] [] h (KI K) := by
  obtain ⟨hB, hC, hP, hv⟩ := hX
  have hb := hB.1
  have e2 := hP.1.2.2.1
  have e0 := hC.1.1
  have main : (0 ≤ c ∧ c < M.n) ∧ (0 ≤ way ∧ way < 4) ∧ (0 ≤ g ∧ g < B.g) ∧ 0 ≤ x ∧ x ≤ 3 → XW (d + 2) 134 48 [.ref 1, .int (iI c), .int (iI way), .int (iI g), .int (iI x)] [] h (KI K) := by
    intro cd
    obtain ⟨ho, hm, hd, hS⟩ := hv (by omega)
    have kt := kt cd
    have fin : ∀ h1, Fr PMs h h1 → Msd h1 B dd M c way g → XW (d + 2) 134 58 [.ref 1, .int (iI c), .int (iI way), .int (iI g), .int (iI x)] [] h1 (KI K) := by
      intro h1 f1 m
      have kt := kt h1 f1
      have hL := f1.lay hL
      have v : stv B dd M c way g x = if x = 0 then zF h1 91 6 else if x = 1 then zF h1 91 7 else if x = 2 then zF h1 91 8 else zF h1 91 9 := by
        unfold stv
        by_cases w : why B dd M c way g = 0
        · rw [m.1, (m.2.2 w).1, (m.2.2 w).2.1, (m.2.2 w).2.2]
          simp [w]
        · rw [m.1, (m.2.1 w).1, (m.2.1 w).2.1, (m.2.1 w).2.2]
          simp [w]
      rw [v] at kt
      refine w_iload4 r_134_58 ?_
      by_cases s60_0 : x = 0
      · refine w_swI (k := 0) (tgt := 88) r_134_60 s60_0 (by omega) (by omega) rfl rfl ?_
        refine w_aload0 r_134_88 ?_
        refine w_aload0 r_134_89 ?_
        refine w_getA (x := 91) r_134_90 (Lk_1 hL) (Lr_1_10 hL) (by decide) ?_
        refine v_getI r_134_93 (Lk_91 hL) (gI_F h1 91 6) ?_
        refine k_156 r_134_96 (Lk_1 hL) (Nat.le_of_ble_eq_true rfl) ?_
        refine c_answer hL ?_
        refine w_iret r_134_99 ?_
        rw [if_pos s60_0] at kt
        exact kt
      · by_cases s60_1 : x = 1
        · refine w_swI (k := 1) (tgt := 100) r_134_60 s60_1 (by omega) (by omega) rfl rfl ?_
          refine w_aload0 r_134_100 ?_
          refine w_aload0 r_134_101 ?_
          refine w_getA (x := 91) r_134_102 (Lk_1 hL) (Lr_1_10 hL) (by decide) ?_
          refine v_getI r_134_105 (Lk_91 hL) (gI_F h1 91 7) ?_
          refine k_156 r_134_108 (Lk_1 hL) (Nat.le_of_ble_eq_true rfl) ?_
          refine c_answer hL ?_
          refine w_iret r_134_111 ?_
          rw [if_neg s60_0, if_pos s60_1] at kt
          exact kt
        · by_cases s60_2 : x = 2
          · refine w_swI (k := 2) (tgt := 112) r_134_60 s60_2 (by omega) (by omega) rfl rfl ?_
            refine w_aload0 r_134_112 ?_
            refine w_aload0 r_134_113 ?_
            refine w_getA (x := 91) r_134_114 (Lk_1 hL) (Lr_1_10 hL) (by decide) ?_
            refine v_getI r_134_117 (Lk_91 hL) (gI_F h1 91 8) ?_
            refine k_156 r_134_120 (Lk_1 hL) (Nat.le_of_ble_eq_true rfl) ?_
            refine c_answer hL ?_
            refine w_iret r_134_123 ?_
            rw [if_neg s60_0, if_neg s60_1, if_pos s60_2] at kt
            exact kt
          · refine w_swO (tgt := 124) r_134_60 (by omega) (by omega) rfl ?_
            refine w_aload0 r_134_124 ?_
            refine w_aload0 r_134_125 ?_
            refine w_getA (x := 91) r_134_126 (Lk_1 hL) (Lr_1_10 hL) (by decide) ?_
            refine v_getI r_134_129 (Lk_91 hL) (gI_F h1 91 9) ?_
            refine k_156 r_134_132 (Lk_1 hL) (Nat.le_of_ble_eq_true rfl) ?_
            refine c_answer hL ?_
            refine w_iret r_134_135 ?_
            rw [if_neg s60_0, if_neg s60_1, if_neg s60_2] at kt
            exact kt
    refine w_aload0 r_134_48 ?_
    refine w_getA (x := 91) r_134_49 (Lk_1 hL) (Lr_1_10 hL) (by decide) ?_
    refine w_iload1 r_134_52 ?_
    refine w_iload2 r_134_53 ?_
    refine w_iload3 r_134_54 ?_
    refine k_80 r_134_55 (Lk_91 hL) (Nat.le_of_ble_eq_true rfl) ?_
    refine c_measure hL hb hB.2.2.2.1 hC ho hS hP hm hd cd.2.2.1 cd.1 cd.2.1 (fun h1 f1 m1 => ?_)
    exact fin h1 f1 m1
  refine w_aload0 r_134_0 ?_
  refine w_getA (x := 80) r_134_1 (Lk_1 hL) (Lr_1_9 hL) (by decide) ?_
  refine w_iload1 r_134_4 ?_
  refine k_47 r_134_5 (Lk_80 hL) (Nat.le_of_ble_eq_true rfl) ?_
  refine c_hasCell (by omega) hL (fun c5 => ?_) (fun c5 => ?_)
  · refine v_if_eq r_134_8 (by first | exact zF_in _ _ _ | exact zA_in _ _ _ | omega) (fun q => absurd q (by omega)) (fun _ => ?_)
    refine w_iload2 r_134_11 ?_
    refine v_if_lt r_134_12 (by first | exact zF_in _ _ _ | exact zA_in _ _ _ | omega) (fun c12 => ?_) (fun c12 => ?_)
    · refine w_aload0 r_134_42 ?_
      refine w_iconst (v := iI (1)) r_134_43 rfl ?_
      refine k_157 r_134_44 (Lk_1 hL) (Nat.le_of_ble_eq_true rfl) ?_
      refine c_refuse hL ?_
      refine w_iret r_134_47 ?_
      exact k1 (by omega)
    · refine w_iload2 r_134_15 ?_
      refine w_iconst (v := iI (4)) r_134_16 rfl ?_
      refine v_ic_ge r_134_17 (by first | exact zF_in _ _ _ | exact zA_in _ _ _ | omega) (by first | exact zF_in _ _ _ | exact zA_in _ _ _ | omega) (fun c17 => ?_) (fun c17 => ?_)
      · refine w_aload0 r_134_42 ?_
        refine w_iconst (v := iI (1)) r_134_43 rfl ?_
        refine k_157 r_134_44 (Lk_1 hL) (Nat.le_of_ble_eq_true rfl) ?_
        refine c_refuse hL ?_
        refine w_iret r_134_47 ?_
        exact k1 (by omega)
      · refine w_aload0 r_134_20 ?_
        refine w_getA (x := rb) r_134_21 (Lk_1 hL) hB.2.1 (RB.nz hb) ?_
        refine w_iload3 r_134_24 ?_
        refine k_3 r_134_25 (Bk_ hL hb) (Nat.le_of_ble_eq_true rfl) ?_
        refine c_hasGround (by omega) hL hb (fun c25 => ?_) (fun c25 => ?_)
        · refine v_if_eq r_134_28 (by first | exact zF_in _ _ _ | exact zA_in _ _ _ | omega) (fun q => absurd q (by omega)) (fun _ => ?_)
          refine w_iload4 r_134_31 ?_
          refine v_if_lt r_134_33 (by first | exact zF_in _ _ _ | exact zA_in _ _ _ | omega) (fun c33 => ?_) (fun c33 => ?_)
          · refine w_aload0 r_134_42 ?_
            refine w_iconst (v := iI (1)) r_134_43 rfl ?_
            refine k_157 r_134_44 (Lk_1 hL) (Nat.le_of_ble_eq_true rfl) ?_
            refine c_refuse hL ?_
            refine w_iret r_134_47 ?_
            exact k1 (by omega)
          · refine w_iload4 r_134_36 ?_
            refine w_iconst (v := iI (3)) r_134_38 rfl ?_
            refine v_ic_le r_134_39 (by first | exact zF_in _ _ _ | exact zA_in _ _ _ | omega) (by first | exact zF_in _ _ _ | exact zA_in _ _ _ | omega) (fun c39 => ?_) (fun c39 => ?_)
            · exact main (by omega)
            · refine w_aload0 r_134_42 ?_
              refine w_iconst (v := iI (1)) r_134_43 rfl ?_
              refine k_157 r_134_44 (Lk_1 hL) (Nat.le_of_ble_eq_true rfl) ?_
              refine c_refuse hL ?_
              refine w_iret r_134_47 ?_
              exact k1 (by omega)
        · refine v_if_eq r_134_28 (by first | exact zF_in _ _ _ | exact zA_in _ _ _ | omega) (fun _ => ?_) (fun q => absurd q (by omega))
          refine w_aload0 r_134_42 ?_
          refine w_iconst (v := iI (1)) r_134_43 rfl ?_
          refine k_157 r_134_44 (Lk_1 hL) (Nat.le_of_ble_eq_true rfl) ?_
          refine c_refuse hL ?_
          refine w_iret r_134_47 ?_
          exact k1 (by omega)
  · refine v_if_eq r_134_8 (by first | exact zF_in _ _ _ | exact zA_in _ _ _ | omega) (fun _ => ?_) (fun q => absurd q (by omega))
    refine w_aload0 r_134_42 ?_
    refine w_iconst (v := iI (1)) r_134_43 rfl ?_
    refine k_157 r_134_44 (Lk_1 hL) (Nat.le_of_ble_eq_true rfl) ?_
    refine c_refuse hL ?_
    refine w_iret r_134_47 ?_
    exact k1 (by omega)
theorem m_step (hc : R32 c) (hway : R32 way) (hg : R32 g) (hx : R32 x) (hL : Lay h) (hX : MX h B dd M)
    (k1 : ¬ ((0 ≤ c ∧ c < M.n) ∧ (0 ≤ way ∧ way < 4) ∧ (0 ≤ g ∧ g < B.g) ∧ 0 ≤ x ∧ x ≤ 3) → K (iI (-1)) (sI (hG h) 118 39 (iI 1)))
    (kt : (0 ≤ c ∧ c < M.n) ∧ (0 ≤ way ∧ way < 4) ∧ (0 ≤ g ∧ g < B.g) ∧ 0 ≤ x ∧ x ≤ 3 → K (iI (stv B dd M c way g x)) (hG h)) :
    XW (d + 5) 211 0 [.ref 118, .int (iI c), .int (iI way), .int (iI g), .int (iI x), .null, .null] [] h (KI K) := by
  have ew := hX.n
  obtain ⟨hM, hQ, hP, hdd, hv⟩ := hX
  have e22 := hQ.1.1
  obtain ⟨m1, m2, m3, m4, m5, m6⟩ := id hM
  have hL0 := hL
  have main : (0 ≤ c ∧ c < M.n) ∧ (0 ≤ way ∧ way < 4) ∧ (0 ≤ g ∧ g < B.g) ∧ 0 ≤ x ∧ x ≤ 3 → XW (d + 5) 211 45 [.ref 118, .int (iI c), .int (iI way), .int (iI g), .int (iI x), .null, .null] [] (hG h) (KI K) := by
    intro cd
    obtain ⟨h12, ho, hm, hd⟩ := hv (by omega)
    have kt := kt cd
    have hL := (hG_fr h).lay hL
    have Q1 := hG_MBk hQ
    have P1 := hG_MMp hP
    have d1 : gI (hG h) 118 38 = iI dd := by rw [((hG_fr h).2 118 38 (by simp [pF])).1]; exact hdd
    generalize hG h = h1 at *
    have o := ho.1
    have wi : 0 ≤ why B dd M c way g ∧ why B dd M c way g ≤ 4 := by
      have : why B dd M c way g = 0 ∨ why B dd M c way g = 1 ∨ why B dd M c way g = 2 ∨ why B dd M c way g = 3 ∨ why B dd M c way g = 4 := by
        unfold why
        repeat' split
        all_goals simp
      omega
    have hn := M.n_in hm
    by_cases w : why B dd M c way g = 0
    · have hnx : 0 ≤ M.nx c way := by
        by_cases q : M.nx c way < 0
        · unfold why at w; rw [if_pos q] at w; omega
        · omega
      have rr := rise_in (way := way) hm cd.1 hnx
      have nb := M.nx_in (way := way) hm cd.1
      have h36 : zF h1 118 35 = M.wd ∧ zF h1 118 36 = M.hg := by
        rcases P1.1.2 with z | z
        · exact ⟨z.2.1, z.2.2.1⟩
        · have : M.n = 0 := by show M.wd * M.hg = 0; rw [z.2.1, Int.zero_mul]
          omega
      have om := hm.1
      have bsd : ∀ KK : Int32 → XH → Prop, KK (iI (M.nx c way)) h1 → XW (d + 4) 206 0 [.ref 118, .int (iI c), .int (iI way), .null, .null] [] h1 (KI KK) := fun KK kk => m_beside hL (by omega) (by omega) (by rw [h36.1, h36.2]; exact cd.1) cd.2.1 (by rw [h36.1, h36.2]; exact kk)
      have v81 : gI h1 133 (M.nx c way).toNat = iI (M.ht (M.nx c way)) := by rw [gI_A, (P1.2.1 _ hnx (by omega)).1]
      have v87 : gI h1 133 c.toNat = iI (M.ht c) := by rw [gI_A, (P1.2.1 _ cd.1.1 cd.1.2).1]
      have er : M.ht (M.nx c way) - M.ht c = rise M c way := rfl
      have n1 := hm.2.1 _ hnx (by omega)
      have n2 := hm.2.1 c cd.1.1 cd.1.2
      have np := ned_parts ho hd cd.2.2.1 rr
      have nr : R32 (ned B dd (rise M c way) g) := by unfold ned; omega
      unfold stv at kt
      simp only [w, not_true, if_false] at kt
      have c49 : ∀ KK : Int32 → XH → Prop, KK (iI 0) h1 → XW (d + 4) 209 0 [.ref 118, .int (iI c), .int (iI way), .int (iI g), .null, .null] [] h1 (KI KK) := fun KK kk => m_barred hL Q1 ho P1 hm d1 hd cd.2.2.1 cd.1 cd.2.1 (by rw [w]; exact kk)
      have c90 : ∀ KK : Int32 → XH → Prop, KK (iI (ned B dd (rise M c way) g)) h1 → XW (d + 4) 207 0 [.ref 118, .int (iI (M.ht (M.nx c way) - M.ht c)), .int (iI g), .null, .null] [] h1 (KI KK) := fun KK kk => m_need hL Q1 ho d1 hd cd.2.2.1 rr kk
      by_cases x0 : x = 0
      · rw [if_pos x0] at kt
        refine w_aload0 r_211_45 ?_
        refine w_iload1 r_211_46 ?_
        refine w_iload2 r_211_47 ?_
        refine w_iload3 r_211_48 ?_
        refine k_209 r_211_49 (Lk_118 hL) (Nat.le_of_ble_eq_true rfl) ?_
        refine c49 _ ?_
        refine w_istore5 r_211_52 rfl ?_
        refine w_iload4 r_211_54 ?_
        refine v_if_ne r_211_56 (by first | exact zF_in _ _ _ | exact zA_in _ _ _ | omega) (fun q => absurd q (by omega)) (fun _ => ?_)
        refine w_iload5 r_211_59 ?_
        refine w_iret r_211_61 ?_
        exact kt
      · rw [if_neg x0] at kt
        by_cases x1 : x = 1
        · rw [if_pos x1] at kt
          refine w_aload0 r_211_45 ?_
          refine w_iload1 r_211_46 ?_
          refine w_iload2 r_211_47 ?_
          refine w_iload3 r_211_48 ?_
          refine k_209 r_211_49 (Lk_118 hL) (Nat.le_of_ble_eq_true rfl) ?_
          refine c49 _ ?_
          refine w_istore5 r_211_52 rfl ?_
          refine w_iload4 r_211_54 ?_
          refine v_if_ne r_211_56 (by first | exact zF_in _ _ _ | exact zA_in _ _ _ | omega) (fun _ => ?_) (fun q => absurd q (by omega))
          refine w_iload5 r_211_62 ?_
          refine v_if_le r_211_64 (by first | exact zF_in _ _ _ | exact zA_in _ _ _ | omega) (fun _ => ?_) (fun q => absurd q (by omega))
          refine w_aload0 r_211_70 ?_
          refine w_aload0 r_211_71 ?_
          refine w_getA (x := 133) r_211_72 (Lk_118 hL) (Lr_118_41 hL) (by decide) ?_
          refine w_aload0 r_211_75 ?_
          refine w_iload1 r_211_76 ?_
          refine w_iload2 r_211_77 ?_
          refine k_206 r_211_78 (Lk_118 hL) (Nat.le_of_ble_eq_true rfl) ?_
          refine bsd _ ?_
          refine v_iald r_211_81 (Lk_133 hL) (Lz_133 hL) (by decide) (by omega) v81 ?_
          refine w_aload0 r_211_82 ?_
          refine w_getA (x := 133) r_211_83 (Lk_118 hL) (Lr_118_41 hL) (by decide) ?_
          refine w_iload1 r_211_86 ?_
          refine v_iald r_211_87 (Lk_133 hL) (Lz_133 hL) (by decide) (by omega) v87 ?_
          refine v_isub r_211_88 ?_
          refine w_iload3 r_211_89 ?_
          refine k_207 r_211_90 (Lk_118 hL) (Nat.le_of_ble_eq_true rfl) ?_
          refine c90 _ ?_
          refine w_istore6 r_211_93 rfl ?_
          refine w_iload4 r_211_95 ?_
          refine w_iconst (v := iI (1)) r_211_97 rfl ?_
          refine v_ic_ne r_211_98 (by first | exact zF_in _ _ _ | exact zA_in _ _ _ | omega) (by first | exact zF_in _ _ _ | exact zA_in _ _ _ | omega) (fun q => absurd q (by omega)) (fun _ => ?_)
          refine w_iload6 r_211_101 ?_
          refine w_goto r_211_103 ?_
          refine w_iret r_211_129 ?_
          exact kt
        · rw [if_neg x1] at kt
          by_cases x2 : x = 2
          · rw [if_pos x2] at kt
            refine w_aload0 r_211_45 ?_
            refine w_iload1 r_211_46 ?_
            refine w_iload2 r_211_47 ?_
            refine w_iload3 r_211_48 ?_
            refine k_209 r_211_49 (Lk_118 hL) (Nat.le_of_ble_eq_true rfl) ?_
            refine c49 _ ?_
            refine w_istore5 r_211_52 rfl ?_
            refine w_iload4 r_211_54 ?_
            refine v_if_ne r_211_56 (by first | exact zF_in _ _ _ | exact zA_in _ _ _ | omega) (fun _ => ?_) (fun q => absurd q (by omega))
            refine w_iload5 r_211_62 ?_
            refine v_if_le r_211_64 (by first | exact zF_in _ _ _ | exact zA_in _ _ _ | omega) (fun _ => ?_) (fun q => absurd q (by omega))
            refine w_aload0 r_211_70 ?_
            refine w_aload0 r_211_71 ?_
            refine w_getA (x := 133) r_211_72 (Lk_118 hL) (Lr_118_41 hL) (by decide) ?_
            refine w_aload0 r_211_75 ?_
            refine w_iload1 r_211_76 ?_
            refine w_iload2 r_211_77 ?_
            refine k_206 r_211_78 (Lk_118 hL) (Nat.le_of_ble_eq_true rfl) ?_
            refine bsd _ ?_
            refine v_iald r_211_81 (Lk_133 hL) (Lz_133 hL) (by decide) (by omega) v81 ?_
            refine w_aload0 r_211_82 ?_
            refine w_getA (x := 133) r_211_83 (Lk_118 hL) (Lr_118_41 hL) (by decide) ?_
            refine w_iload1 r_211_86 ?_
            refine v_iald r_211_87 (Lk_133 hL) (Lz_133 hL) (by decide) (by omega) v87 ?_
            refine v_isub r_211_88 ?_
            refine w_iload3 r_211_89 ?_
            refine k_207 r_211_90 (Lk_118 hL) (Nat.le_of_ble_eq_true rfl) ?_
            refine c90 _ ?_
            refine w_istore6 r_211_93 rfl ?_
            refine w_iload4 r_211_95 ?_
            refine w_iconst (v := iI (1)) r_211_97 rfl ?_
            refine v_ic_ne r_211_98 (by first | exact zF_in _ _ _ | exact zA_in _ _ _ | omega) (by first | exact zF_in _ _ _ | exact zA_in _ _ _ | omega) (fun _ => ?_) (fun q => absurd q (by omega))
            refine w_iload4 r_211_106 ?_
            refine w_iconst (v := iI (2)) r_211_108 rfl ?_
            refine v_ic_ne r_211_109 (by first | exact zF_in _ _ _ | exact zA_in _ _ _ | omega) (by first | exact zF_in _ _ _ | exact zA_in _ _ _ | omega) (fun q => absurd q (by omega)) (fun _ => ?_)
            refine w_aload0 r_211_112 ?_
            refine w_iload6 r_211_113 ?_
            refine w_iload3 r_211_115 ?_
            refine k_208 r_211_116 (Lk_118 hL) (Nat.le_of_ble_eq_true rfl) ?_
            refine m_slip (d := d + 2) hL Q1 ho d1 hd cd.2.2.1 nr ?_
            refine w_goto r_211_119 ?_
            refine w_iret r_211_129 ?_
            exact kt
          · rw [if_neg x2] at kt
            refine w_aload0 r_211_45 ?_
            refine w_iload1 r_211_46 ?_
            refine w_iload2 r_211_47 ?_
            refine w_iload3 r_211_48 ?_
            refine k_209 r_211_49 (Lk_118 hL) (Nat.le_of_ble_eq_true rfl) ?_
            refine c49 _ ?_
            refine w_istore5 r_211_52 rfl ?_
            refine w_iload4 r_211_54 ?_
            refine v_if_ne r_211_56 (by first | exact zF_in _ _ _ | exact zA_in _ _ _ | omega) (fun _ => ?_) (fun q => absurd q (by omega))
            refine w_iload5 r_211_62 ?_
            refine v_if_le r_211_64 (by first | exact zF_in _ _ _ | exact zA_in _ _ _ | omega) (fun _ => ?_) (fun q => absurd q (by omega))
            refine w_aload0 r_211_70 ?_
            refine w_aload0 r_211_71 ?_
            refine w_getA (x := 133) r_211_72 (Lk_118 hL) (Lr_118_41 hL) (by decide) ?_
            refine w_aload0 r_211_75 ?_
            refine w_iload1 r_211_76 ?_
            refine w_iload2 r_211_77 ?_
            refine k_206 r_211_78 (Lk_118 hL) (Nat.le_of_ble_eq_true rfl) ?_
            refine bsd _ ?_
            refine v_iald r_211_81 (Lk_133 hL) (Lz_133 hL) (by decide) (by omega) v81 ?_
            refine w_aload0 r_211_82 ?_
            refine w_getA (x := 133) r_211_83 (Lk_118 hL) (Lr_118_41 hL) (by decide) ?_
            refine w_iload1 r_211_86 ?_
            refine v_iald r_211_87 (Lk_133 hL) (Lz_133 hL) (by decide) (by omega) v87 ?_
            refine v_isub r_211_88 ?_
            refine w_iload3 r_211_89 ?_
            refine k_207 r_211_90 (Lk_118 hL) (Nat.le_of_ble_eq_true rfl) ?_
            refine c90 _ ?_
            refine w_istore6 r_211_93 rfl ?_
            refine w_iload4 r_211_95 ?_
            refine w_iconst (v := iI (1)) r_211_97 rfl ?_
            refine v_ic_ne r_211_98 (by first | exact zF_in _ _ _ | exact zA_in _ _ _ | omega) (by first | exact zF_in _ _ _ | exact zA_in _ _ _ | omega) (fun _ => ?_) (fun q => absurd q (by omega))
            refine w_iload4 r_211_106 ?_
            refine w_iconst (v := iI (2)) r_211_108 rfl ?_
            refine v_ic_ne r_211_109 (by first | exact zF_in _ _ _ | exact zA_in _ _ _ | omega) (by first | exact zF_in _ _ _ | exact zA_in _ _ _ | omega) (fun _ => ?_) (fun q => absurd q (by omega))
            refine w_aload0 r_211_122 ?_
            refine w_iload1 r_211_123 ?_
            refine w_iload2 r_211_124 ?_
            refine w_iload3 r_211_125 ?_
            refine k_210 r_211_126 (Lk_118 hL) (Nat.le_of_ble_eq_true rfl) ?_
            refine m_cost (d := d + 1) hL Q1 ho P1 hm d1 hd cd.2.2.1 cd.1 cd.2.1 hnx ?_
            refine w_iret r_211_129 ?_
            exact kt
    · unfold stv at kt
      rw [if_pos w] at kt
      by_cases x0 : x = 0
      · rw [if_pos x0] at kt
        refine w_aload0 r_211_45 ?_
        refine w_iload1 r_211_46 ?_
        refine w_iload2 r_211_47 ?_
        refine w_iload3 r_211_48 ?_
        refine k_209 r_211_49 (Lk_118 hL) (Nat.le_of_ble_eq_true rfl) ?_
        refine m_barred (d := d + 1) hL Q1 ho P1 hm d1 hd cd.2.2.1 cd.1 cd.2.1 ?_
        refine w_istore5 r_211_52 rfl ?_
        refine w_iload4 r_211_54 ?_
        refine v_if_ne r_211_56 (by first | exact zF_in _ _ _ | exact zA_in _ _ _ | omega) (fun q => absurd q (by omega)) (fun _ => ?_)
        refine w_iload5 r_211_59 ?_
        refine w_iret r_211_61 ?_
        exact kt
      · rw [if_neg x0] at kt
        refine w_aload0 r_211_45 ?_
        refine w_iload1 r_211_46 ?_
        refine w_iload2 r_211_47 ?_
        refine w_iload3 r_211_48 ?_
        refine k_209 r_211_49 (Lk_118 hL) (Nat.le_of_ble_eq_true rfl) ?_
        refine m_barred (d := d + 1) hL Q1 ho P1 hm d1 hd cd.2.2.1 cd.1 cd.2.1 ?_
        refine w_istore5 r_211_52 rfl ?_
        refine w_iload4 r_211_54 ?_
        refine v_if_ne r_211_56 (by first | exact zF_in _ _ _ | exact zA_in _ _ _ | omega) (fun _ => ?_) (fun q => absurd q (by omega))
        refine w_iload5 r_211_62 ?_
        refine v_if_le r_211_64 (by first | exact zF_in _ _ _ | exact zA_in _ _ _ | omega) (fun q => absurd q (by omega)) (fun _ => ?_)
        refine w_bipush (v := iI (-2)) r_211_67 rfl ?_
        refine w_iret r_211_69 ?_
        exact kt
  refine w_aload0 r_211_0 ?_
  refine k_164 r_211_1 (Lk_118 hL) (Nat.le_of_ble_eq_true rfl) ?_
  refine m_good hL ?_
  refine w_aload0 r_211_4 ?_
  refine w_iload1 r_211_5 ?_
  refine k_197 r_211_6 (Lk_118 hL) (Nat.le_of_ble_eq_true rfl) ?_
  refine m_isCell (h0 := h) (by first | exact zF_in _ _ _ | exact zA_in _ _ _ | omega) hL ⟨rfl, rfl, rfl, rfl, rfl, rfl⟩ hM (fun c6 => ?_) (fun c6 => ?_)
  · refine v_if_eq r_211_9 (by first | exact zF_in _ _ _ | exact zA_in _ _ _ | omega) (fun q => absurd q (by omega)) (fun _ => ?_)
    refine w_iload2 r_211_12 ?_
    refine w_iconst (v := iI (0)) r_211_13 rfl ?_
    refine w_iconst (v := iI (3)) r_211_14 rfl ?_
    refine k_167 r_211_15 (Nat.le_of_ble_eq_true rfl) ?_
    refine m_within (by first | exact zF_in _ _ _ | exact zA_in _ _ _ | omega) (by first | exact zF_in _ _ _ | exact zA_in _ _ _ | omega) (by first | exact zF_in _ _ _ | exact zA_in _ _ _ | omega) (fun c15 => ?_) (fun c15 => ?_)
    · refine v_if_eq r_211_18 (by first | exact zF_in _ _ _ | exact zA_in _ _ _ | omega) (fun q => absurd q (by omega)) (fun _ => ?_)
      refine w_aload0 r_211_21 ?_
      refine w_iload3 r_211_22 ?_
      refine k_192 r_211_23 (Lk_118 hL) (Nat.le_of_ble_eq_true rfl) ?_
      refine m_isGround (h0 := h) (by first | exact zF_in _ _ _ | exact zA_in _ _ _ | omega) hL ⟨rfl, rfl, rfl, rfl, rfl, rfl⟩ hM (fun c23 => ?_) (fun c23 => ?_)
      · refine v_if_eq r_211_26 (by first | exact zF_in _ _ _ | exact zA_in _ _ _ | omega) (fun q => absurd q (by omega)) (fun _ => ?_)
        refine w_iload4 r_211_29 ?_
        refine w_iconst (v := iI (0)) r_211_31 rfl ?_
        refine w_iconst (v := iI (3)) r_211_32 rfl ?_
        refine k_167 r_211_33 (Nat.le_of_ble_eq_true rfl) ?_
        refine m_within (by first | exact zF_in _ _ _ | exact zA_in _ _ _ | omega) (by first | exact zF_in _ _ _ | exact zA_in _ _ _ | omega) (by first | exact zF_in _ _ _ | exact zA_in _ _ _ | omega) (fun c33 => ?_) (fun c33 => ?_)
        · refine v_if_ne r_211_36 (by first | exact zF_in _ _ _ | exact zA_in _ _ _ | omega) (fun _ => ?_) (fun q => absurd q (by omega))
          exact main (by omega)
        · refine v_if_ne r_211_36 (by first | exact zF_in _ _ _ | exact zA_in _ _ _ | omega) (fun q => absurd q (by omega)) (fun _ => ?_)
          refine w_aload0 r_211_39 ?_
          refine w_iconst (v := iI (1)) r_211_40 rfl ?_
          refine k_165 r_211_41 (Lk_118 hL) (Nat.le_of_ble_eq_true rfl) ?_
          refine m_no hL ?_
          refine w_iret r_211_44 ?_
          exact k1 (by omega)
      · refine v_if_eq r_211_26 (by first | exact zF_in _ _ _ | exact zA_in _ _ _ | omega) (fun _ => ?_) (fun q => absurd q (by omega))
        refine w_aload0 r_211_39 ?_
        refine w_iconst (v := iI (1)) r_211_40 rfl ?_
        refine k_165 r_211_41 (Lk_118 hL) (Nat.le_of_ble_eq_true rfl) ?_
        refine m_no hL ?_
        refine w_iret r_211_44 ?_
        exact k1 (by omega)
    · refine v_if_eq r_211_18 (by first | exact zF_in _ _ _ | exact zA_in _ _ _ | omega) (fun _ => ?_) (fun q => absurd q (by omega))
      refine w_aload0 r_211_39 ?_
      refine w_iconst (v := iI (1)) r_211_40 rfl ?_
      refine k_165 r_211_41 (Lk_118 hL) (Nat.le_of_ble_eq_true rfl) ?_
      refine m_no hL ?_
      refine w_iret r_211_44 ?_
      exact k1 (by omega)
  · refine v_if_eq r_211_9 (by first | exact zF_in _ _ _ | exact zA_in _ _ _ | omega) (fun _ => ?_) (fun q => absurd q (by omega))
    refine w_aload0 r_211_39 ?_
    refine w_iconst (v := iI (1)) r_211_40 rfl ?_
    refine k_165 r_211_41 (Lk_118 hL) (Nat.le_of_ble_eq_true rfl) ?_
    refine m_no hL ?_
    refine w_iret r_211_44 ?_
    exact k1 (by omega)
end OP2
