/-! the calls that only look -/
section INV4
variable {i n rb : Nat} {h h1 h2 h' : XH} {P Q : Nat → Nat → Bool} {s : Nat → Int32} {B : XB} {dd : Int} {M : XM} {t np L r x y z e : Int} {T tr du : Int → Int} {pl : Int → XL} {v w : Nat → Int} {K : Int32 → XH → Prop}
theorem IM.cell (m : IM h B dd M t T np pl L tr du) (p : IP B dd M t T np pl L du) : (∀ x, (zF h 118 34 = 1 ∧ 0 ≤ x ∧ x < zF h 118 35 * zF h 118 36) ↔ (0 ≤ x ∧ x < M.n)) ∧ (∀ x, (zF h 118 34 = 1 ∧ 0 ≤ x ∧ x < zF h 118 37) ↔ (0 ≤ x ∧ x < M.nd)) ∧ ∀ y, (zF h 118 12 = 1 ∧ 0 ≤ y ∧ y < zF h 118 22) ↔ (0 ≤ y ∧ y < B.g) := by
  have ew := (m.mx p).n
  have q := m.1.2.2.1.1
  have g := m.1.2.1.1.1
  refine ⟨fun x => ⟨fun a => ?_, fun a => ?_⟩, fun x => ⟨fun a => ?_, fun a => ?_⟩, fun y => ⟨fun a => ?_, fun a => ?_⟩⟩
  · rw [ew.1 a.1] at a; exact a.2
  · by_cases w : zF h 118 34 = 1
    · rw [ew.1 w]; exact ⟨w, a⟩
    · have := ew.2 w; omega
  · rw [q.1] at a; exact a.2
  · rw [q.1]
    rcases q.2 with w | w
    · exact ⟨w.1, a⟩
    · omega
  · rw [g] at a; exact a.2
  · rw [g]
    rcases m.1.2.2.2.2 with w | w
    · exact ⟨w.1, a⟩
    · have := w.2.1; omega
theorem ST.gbk (S : ST i h s n B dd M t T np pl L tr du v w) : ∃ rb, GBk h rb B := by
  obtain ⟨rb, va, zv, va2, zv2, a0, stp, stp2, c1, _⟩ := S.2.2.1
  exact ⟨rb, c1.1, c1.2.1, S.2.2.2.2.1.1.2.1, S.2.2.2.2.1.1.2.2.2.2⟩
theorem ST.c1 (S : ST i h s n B dd M t T np pl L tr du v w) : ∃ rb, C1 h rb B dd M := by
  obtain ⟨rb, va, zv, va2, zv2, a0, stp, stp2, c1, _⟩ := S.2.2.1
  exact ⟨rb, c1⟩
theorem m_of2 {d : Nat} {x y : Int} (hx : R32 x) (hy : R32 y) (hL : Lay h) (hM : MB h) (hd : zF h 118 34 = 1 → ∀ i, 0 ≤ i → i < zF h 118 35 * zF h 118 36 → -1 ≤ zA h 135 i ∧ zA h 135 i < 5)
    (k1 : ¬ (zF h 118 34 = 1 ∧ 0 ≤ x ∧ x < zF h 118 35 * zF h 118 36) → K (iI (-1)) (sI h 118 0 (iI 0))) (k2 : (zF h 118 34 = 1 ∧ 0 ≤ x ∧ x < zF h 118 35 * zF h 118 36) → y = 0 → K (iI (zA h 133 x)) (sI h 118 0 (iI 0)))
    (k3 : (zF h 118 34 = 1 ∧ 0 ≤ x ∧ x < zF h 118 35 * zF h 118 36) → y = 1 → zA h 135 x = -1 → K (iI (zA h 134 x)) (sI h 118 0 (iI 0)))
    (k4 : (zF h 118 34 = 1 ∧ 0 ≤ x ∧ x < zF h 118 35 * zF h 118 36) → y = 1 → ¬ zA h 135 x = -1 → K (iI (if zA h 137 (zA h 135 x) = -1 then -2 else zA h 137 (zA h 135 x))) (sI h 118 0 (iI 0)))
    (k5 : (zF h 118 34 = 1 ∧ 0 ≤ x ∧ x < zF h 118 35 * zF h 118 36) → y = 2 → K (iI (if zA h 135 x = -1 then -2 else zA h 135 x)) (sI h 118 0 (iI 0))) (k6 : (zF h 118 34 = 1 ∧ 0 ≤ x ∧ x < zF h 118 35 * zF h 118 36) → ¬ (0 ≤ y ∧ y ≤ 2) → K (iI (-1)) (sI h 118 0 (iI 0))) :
    XW (d + 2) 205 0 [.ref 118, .int (iI x), .int (iI y), .null] [] h (KI K) := by
  have hp := prod_in hM.2.2.2.1 hM.2.2.2.2.1
  have hdx := fun a => hd a x
  refine w_aload0 r_205_0 ?_
  refine w_iconst (v := iI (0)) r_205_1 rfl ?_
  refine w_putI r_205_2 (Lk_118 hL) (Ln_118 hL) ?_
  refine w_aload0 r_205_5 ?_
  refine w_iload1 r_205_6 ?_
  refine k_197 r_205_7 (Lk_118 hL) (Nat.le_of_ble_eq_true rfl) ?_
  refine m_isCell (h0 := h) (by first | exact zF_in _ _ _ | exact zA_in _ _ _ | omega) hL ⟨rfl, rfl, rfl, rfl, rfl, rfl⟩ hM (fun c7 => ?_) (fun c7 => ?_)
  · refine v_if_ne r_205_10 (by first | exact zF_in _ _ _ | exact zA_in _ _ _ | omega) (fun _ => ?_) (fun q => absurd q (by omega))
    refine w_aload0 r_205_15 ?_
    refine w_getA (x := 135) r_205_16 (Lk_118 hL) (Lr_118_43 hL) (by decide) ?_
    refine w_iload1 r_205_19 ?_
    refine v_iald r_205_20 (Lk_135 hL) (Lz_135 hL) (by decide) (by omega) (gI_A h 135 _) ?_
    refine w_istore3 r_205_21 rfl ?_
    refine w_iload2 r_205_22 ?_
    refine v_if_ne r_205_23 (by first | exact zF_in _ _ _ | exact zA_in _ _ _ | omega) (fun c23 => ?_) (fun c23 => ?_)
    · refine w_iload2 r_205_33 ?_
      refine w_iconst (v := iI (1)) r_205_34 rfl ?_
      refine v_ic_ne r_205_35 (by first | exact zF_in _ _ _ | exact zA_in _ _ _ | omega) (by first | exact zF_in _ _ _ | exact zA_in _ _ _ | omega) (fun c35 => ?_) (fun c35 => ?_)
      · refine w_iload2 r_205_74 ?_
        refine w_iconst (v := iI (2)) r_205_75 rfl ?_
        refine v_ic_ne r_205_76 (by first | exact zF_in _ _ _ | exact zA_in _ _ _ | omega) (by first | exact zF_in _ _ _ | exact zA_in _ _ _ | omega) (fun c76 => ?_) (fun c76 => ?_)
        · refine w_iconst (v := iI (-1)) r_205_93 rfl ?_
          refine w_iret r_205_94 ?_
          first | exact k1 (by omega) | exact k2 (by omega) (by omega) | exact k3 (by omega) (by omega) (by omega) | (have k9 := k4 (by omega) (by omega) (by omega); rw [if_pos (by omega)] at k9; exact k9) | (have k9 := k4 (by omega) (by omega) (by omega); rw [if_neg (by omega)] at k9; exact k9) | (have k9 := k5 (by omega) (by omega); rw [if_pos (by omega)] at k9; exact k9) | (have k9 := k5 (by omega) (by omega); rw [if_neg (by omega)] at k9; exact k9) | exact k6 (by omega) (by omega)
        · refine w_iload3 r_205_79 ?_
          refine w_iconst (v := iI (-1)) r_205_80 rfl ?_
          refine v_ic_ne r_205_81 (by first | exact zF_in _ _ _ | exact zA_in _ _ _ | omega) (by first | exact zF_in _ _ _ | exact zA_in _ _ _ | omega) (fun c81 => ?_) (fun c81 => ?_)
          · refine w_iload3 r_205_89 ?_
            refine w_goto r_205_90 ?_
            refine w_iret r_205_94 ?_
            first | exact k1 (by omega) | exact k2 (by omega) (by omega) | exact k3 (by omega) (by omega) (by omega) | (have k9 := k4 (by omega) (by omega) (by omega); rw [if_pos (by omega)] at k9; exact k9) | (have k9 := k4 (by omega) (by omega) (by omega); rw [if_neg (by omega)] at k9; exact k9) | (have k9 := k5 (by omega) (by omega); rw [if_pos (by omega)] at k9; exact k9) | (have k9 := k5 (by omega) (by omega); rw [if_neg (by omega)] at k9; exact k9) | exact k6 (by omega) (by omega)
          · refine w_bipush (v := iI (-2)) r_205_84 rfl ?_
            refine w_goto r_205_86 ?_
            refine w_iret r_205_94 ?_
            first | exact k1 (by omega) | exact k2 (by omega) (by omega) | exact k3 (by omega) (by omega) (by omega) | (have k9 := k4 (by omega) (by omega) (by omega); rw [if_pos (by omega)] at k9; exact k9) | (have k9 := k4 (by omega) (by omega) (by omega); rw [if_neg (by omega)] at k9; exact k9) | (have k9 := k5 (by omega) (by omega); rw [if_pos (by omega)] at k9; exact k9) | (have k9 := k5 (by omega) (by omega); rw [if_neg (by omega)] at k9; exact k9) | exact k6 (by omega) (by omega)
      · refine w_iload3 r_205_38 ?_
        refine w_iconst (v := iI (-1)) r_205_39 rfl ?_
        refine v_ic_ne r_205_40 (by first | exact zF_in _ _ _ | exact zA_in _ _ _ | omega) (by first | exact zF_in _ _ _ | exact zA_in _ _ _ | omega) (fun c40 => ?_) (fun c40 => ?_)
        · refine w_aload0 r_205_52 ?_
          refine w_getA (x := 137) r_205_53 (Lk_118 hL) (Lr_118_45 hL) (by decide) ?_
          refine w_iload3 r_205_56 ?_
          refine v_iald r_205_57 (Lk_137 hL) (Lz_137 hL) (by decide) (by omega) (gI_A h 137 _) ?_
          refine w_iconst (v := iI (-1)) r_205_58 rfl ?_
          refine v_ic_ne r_205_59 (by first | exact zF_in _ _ _ | exact zA_in _ _ _ | omega) (by first | exact zF_in _ _ _ | exact zA_in _ _ _ | omega) (fun c59 => ?_) (fun c59 => ?_)
          · refine w_aload0 r_205_67 ?_
            refine w_getA (x := 137) r_205_68 (Lk_118 hL) (Lr_118_45 hL) (by decide) ?_
            refine w_iload3 r_205_71 ?_
            refine v_iald r_205_72 (Lk_137 hL) (Lz_137 hL) (by decide) (by omega) (gI_A h 137 _) ?_
            refine w_iret r_205_73 ?_
            first | exact k1 (by omega) | exact k2 (by omega) (by omega) | exact k3 (by omega) (by omega) (by omega) | (have k9 := k4 (by omega) (by omega) (by omega); rw [if_pos (by omega)] at k9; exact k9) | (have k9 := k4 (by omega) (by omega) (by omega); rw [if_neg (by omega)] at k9; exact k9) | (have k9 := k5 (by omega) (by omega); rw [if_pos (by omega)] at k9; exact k9) | (have k9 := k5 (by omega) (by omega); rw [if_neg (by omega)] at k9; exact k9) | exact k6 (by omega) (by omega)
          · refine w_bipush (v := iI (-2)) r_205_62 rfl ?_
            refine w_goto r_205_64 ?_
            refine w_iret r_205_73 ?_
            first | exact k1 (by omega) | exact k2 (by omega) (by omega) | exact k3 (by omega) (by omega) (by omega) | (have k9 := k4 (by omega) (by omega) (by omega); rw [if_pos (by omega)] at k9; exact k9) | (have k9 := k4 (by omega) (by omega) (by omega); rw [if_neg (by omega)] at k9; exact k9) | (have k9 := k5 (by omega) (by omega); rw [if_pos (by omega)] at k9; exact k9) | (have k9 := k5 (by omega) (by omega); rw [if_neg (by omega)] at k9; exact k9) | exact k6 (by omega) (by omega)
        · refine w_aload0 r_205_43 ?_
          refine w_getA (x := 134) r_205_44 (Lk_118 hL) (Lr_118_42 hL) (by decide) ?_
          refine w_iload1 r_205_47 ?_
          refine v_iald r_205_48 (Lk_134 hL) (Lz_134 hL) (by decide) (by omega) (gI_A h 134 _) ?_
          refine w_goto r_205_49 ?_
          refine w_iret r_205_73 ?_
          first | exact k1 (by omega) | exact k2 (by omega) (by omega) | exact k3 (by omega) (by omega) (by omega) | (have k9 := k4 (by omega) (by omega) (by omega); rw [if_pos (by omega)] at k9; exact k9) | (have k9 := k4 (by omega) (by omega) (by omega); rw [if_neg (by omega)] at k9; exact k9) | (have k9 := k5 (by omega) (by omega); rw [if_pos (by omega)] at k9; exact k9) | (have k9 := k5 (by omega) (by omega); rw [if_neg (by omega)] at k9; exact k9) | exact k6 (by omega) (by omega)
    · refine w_aload0 r_205_26 ?_
      refine w_getA (x := 133) r_205_27 (Lk_118 hL) (Lr_118_41 hL) (by decide) ?_
      refine w_iload1 r_205_30 ?_
      refine v_iald r_205_31 (Lk_133 hL) (Lz_133 hL) (by decide) (by omega) (gI_A h 133 _) ?_
      refine w_iret r_205_32 ?_
      first | exact k1 (by omega) | exact k2 (by omega) (by omega) | exact k3 (by omega) (by omega) (by omega) | (have k9 := k4 (by omega) (by omega) (by omega); rw [if_pos (by omega)] at k9; exact k9) | (have k9 := k4 (by omega) (by omega) (by omega); rw [if_neg (by omega)] at k9; exact k9) | (have k9 := k5 (by omega) (by omega); rw [if_pos (by omega)] at k9; exact k9) | (have k9 := k5 (by omega) (by omega); rw [if_neg (by omega)] at k9; exact k9) | exact k6 (by omega) (by omega)
  · refine v_if_ne r_205_10 (by first | exact zF_in _ _ _ | exact zA_in _ _ _ | omega) (fun q => absurd q (by omega)) (fun _ => ?_)
    refine w_iconst (v := iI (-1)) r_205_13 rfl ?_
    refine w_iret r_205_14 ?_
    first | exact k1 (by omega) | exact k2 (by omega) (by omega) | exact k3 (by omega) (by omega) (by omega) | (have k9 := k4 (by omega) (by omega) (by omega); rw [if_pos (by omega)] at k9; exact k9) | (have k9 := k4 (by omega) (by omega) (by omega); rw [if_neg (by omega)] at k9; exact k9) | (have k9 := k5 (by omega) (by omega); rw [if_pos (by omega)] at k9; exact k9) | (have k9 := k5 (by omega) (by omega); rw [if_neg (by omega)] at k9; exact k9) | exact k6 (by omega) (by omega)
theorem o_sink (hx : R32 x) (hy : R32 y) (I : INV i h s n) (kk : ∀ r h1, Mid i 40 193 [.ref 118, .int (iI x), .int (iI y)] s n r h1 → K r h1) : XW 40 122 0 [.ref 1, .int (iI x), .int (iI y)] [] h (KI K) := by
  obtain ⟨B, dd, M, t, T, np, pl, L, tr, du, v, S⟩ := I
  have S : ST i h s n B dd M t T np pl L tr du v v := S
  obtain ⟨rb, G⟩ := S.gbk
  refine c_sink hx hy S.1.1 G (fun q => kk _ _ ?_) (fun q1 q2 => kk _ _ ?_) (fun q1 q2 => kk _ _ ?_)
  · have S1 := S.c18 (r := 1) (by decide)
    obtain ⟨rb, G⟩ := S1.gbk
    exact ⟨S1.1, fun K2 k2 => m_sink hx hy S1.1.1 S1.2.2.2.2.1.1.1 G (fun _ => k2 _ (S1.ref (by decide))) (fun w => absurd w q) (fun w => absurd w q)⟩
  · have S1 := S.c18 (r := 2) (by decide)
    obtain ⟨rb, G⟩ := S1.gbk
    exact ⟨S1.1, fun K2 k2 => m_sink hx hy S1.1.1 S1.2.2.2.2.1.1.1 G (fun w => absurd q1 w) (fun _ _ => k2 _ (S1.ref (by decide))) (fun _ w => absurd w q2)⟩
  · have S1 := S.c18 (r := 0) (by decide)
    obtain ⟨rb, G⟩ := S1.gbk
    exact ⟨S1.1, fun K2 k2 => m_sink hx hy S1.1.1 S1.2.2.2.2.1.1.1 G (fun w => absurd q1 w) (fun _ w => absurd q2 w) (fun _ _ => k2 _ S1.ok)⟩
theorem o_grip (hx : R32 x) (hy : R32 y) (I : INV i h s n) (kk : ∀ r h1, Mid i 40 194 [.ref 118, .int (iI x), .int (iI y)] s n r h1 → K r h1) : XW 40 123 0 [.ref 1, .int (iI x), .int (iI y)] [] h (KI K) := by
  obtain ⟨B, dd, M, t, T, np, pl, L, tr, du, v, S⟩ := I
  have S : ST i h s n B dd M t T np pl L tr du v v := S
  obtain ⟨rb, G⟩ := S.gbk
  refine c_grip hx hy S.1.1 G (fun q => kk _ _ ?_) (fun q1 q2 => kk _ _ ?_) (fun q1 q2 => kk _ _ ?_)
  · have S1 := S.c18 (r := 1) (by decide)
    obtain ⟨rb, G⟩ := S1.gbk
    exact ⟨S1.1, fun K2 k2 => m_grip hx hy S1.1.1 S1.2.2.2.2.1.1.1 G (fun _ => k2 _ (S1.ref (by decide))) (fun w => absurd w q) (fun w => absurd w q)⟩
  · have S1 := S.c18 (r := 2) (by decide)
    obtain ⟨rb, G⟩ := S1.gbk
    exact ⟨S1.1, fun K2 k2 => m_grip hx hy S1.1.1 S1.2.2.2.2.1.1.1 G (fun w => absurd q1 w) (fun _ _ => k2 _ (S1.ref (by decide))) (fun _ w => absurd w q2)⟩
  · have S1 := S.c18 (r := 0) (by decide)
    obtain ⟨rb, G⟩ := S1.gbk
    exact ⟨S1.1, fun K2 k2 => m_grip hx hy S1.1.1 S1.2.2.2.2.1.1.1 G (fun w => absurd q1 w) (fun _ w => absurd q2 w) (fun _ _ => k2 _ S1.ok)⟩
theorem o_of (hx : R32 x) (hy : R32 y) (I : INV i h s n) (kk : ∀ r h1, Mid i 40 205 [.ref 118, .int (iI x), .int (iI y), .null] s n r h1 → K r h1) : XW 40 132 0 [.ref 1, .int (iI x), .int (iI y), .null] [] h (KI K) := by
  obtain ⟨B, dd, M, t, T, np, pl, L, tr, du, v, S⟩ := I
  have S : ST i h s n B dd M t T np pl L tr du v v := S
  obtain ⟨rb, c1⟩ := S.c1
  have p := S.2.1
  have m := S.2.2.2.2.1
  have n1 := p.n100
  have ce := (m.cell p).1
  have e2 := c1.2.2.1.1.2.2.1
  have cp := c1.2.2.1
  have mp := m.1.2.2.1
  have ok : ∀ c, 0 ≤ c → c < M.n → -1 ≤ M.db c ∧ M.db c < M.nd := fun c a b => by
    have := (p.map (by omega)).2.1.2.1 c a b; omega
  have hd : ∀ c, 0 ≤ c → c < zF h 80 2 → -1 ≤ zA h 83 c ∧ zA h 83 c < 5 := fun c a b => by
    rw [e2] at b
    rw [(cp.2.1 c a b).2.2]; have := ok c a b; omega
  have hd' : zF h 118 34 = 1 → ∀ c, 0 ≤ c → c < zF h 118 35 * zF h 118 36 → -1 ≤ zA h 135 c ∧ zA h 135 c < 5 := fun w c a b => by
    have b' : c < M.n := ((ce c).1 ⟨w, a, b⟩).2
    rw [(mp.2.1 c a b').2.2]; have := ok c a b'; omega
  have cx := ce x
  have a1 : 0 ≤ x ∧ x < M.n → zA h 81 x = zA h 133 x ∧ zA h 82 x = zA h 134 x ∧ zA h 83 x = zA h 135 x := fun q => by
    have a := cp.2.1 x q.1 q.2
    have b := mp.2.1 x q.1 q.2
    rw [a.1, a.2.1, a.2.2, b.1, b.2.1, b.2.2]; exact ⟨rfl, rfl, rfl⟩
  have a2 : 0 ≤ x ∧ x < M.n → ¬ zA h 83 x = -1 → zA h 86 (zA h 83 x) = zA h 137 (zA h 135 x) := fun q w => by
    have a := cp.2.1 x q.1 q.2
    have o := ok x q.1 q.2
    rw [← (a1 q).2.2]
    rw [a.2.2] at w ⊢
    rw [(cp.2.2.1 (M.db x) (by omega) (by omega)).1, (mp.2.2.1 (M.db x) (by omega) (by omega)).2]
  have go : ∀ (r : Int32), (∀ K2 : Int32 → XH → Prop, (∀ h2, INV (i + 1) h2 s n → K2 r h2) → XW 40 205 0 [.ref 118, .int (iI x), .int (iI y), .null] [] h (KI K2)) → K r h := fun r q => kk _ _ ⟨S.1, q⟩
  rw [e2] at hd
  have hc : zF h 80 2 ≤ 100 := by omega
  refine c_of hx hy S.1.1 hc (by rw [e2]; exact hd) (fun q => go _ fun K2 k2 => ?_) (fun q q1 => go _ fun K2 k2 => ?_) (fun q q1 q2 => go _ fun K2 k2 => ?_) (fun q q1 q2 => go _ fun K2 k2 => ?_) (fun q q1 => go _ fun K2 k2 => ?_) (fun q q1 => go _ fun K2 k2 => ?_)
  all_goals rw [e2] at q
  all_goals have k2 := k2 _ S.up.t0
  · exact m_of2 hx hy S.1.1 m.1.1 hd' (fun _ => k2) (fun a => absurd (cx.1 a) q) (fun a => absurd (cx.1 a) q) (fun a => absurd (cx.1 a) q) (fun a => absurd (cx.1 a) q) (fun a => absurd (cx.1 a) q)
  all_goals have A := a1 q
  all_goals have A2 := a2 q
  · rw [A.1] at k2
    exact m_of2 hx hy S.1.1 m.1.1 hd' (fun a => absurd (cx.2 q) a) (fun _ _ => k2) (fun _ a => absurd a (by omega)) (fun _ a => absurd a (by omega)) (fun _ a => absurd a (by omega)) (fun _ a => absurd a (by omega))
  · rw [A.2.1] at k2
    exact m_of2 hx hy S.1.1 m.1.1 hd' (fun a => absurd (cx.2 q) a) (fun _ a => absurd a (by omega)) (fun _ _ _ => k2) (fun _ _ a => absurd a (by omega)) (fun _ a => absurd a (by omega)) (fun _ a => absurd a (by omega))
  · rw [A2 q2] at k2
    exact m_of2 hx hy S.1.1 m.1.1 hd' (fun a => absurd (cx.2 q) a) (fun _ a => absurd a (by omega)) (fun _ _ a => absurd a (by omega)) (fun _ _ _ => k2) (fun _ a => absurd a (by omega)) (fun _ a => absurd a (by omega))
  · rw [A.2.2] at k2
    exact m_of2 hx hy S.1.1 m.1.1 hd' (fun a => absurd (cx.2 q) a) (fun _ a => absurd a (by omega)) (fun _ a => absurd a (by omega)) (fun _ a => absurd a (by omega)) (fun _ _ => k2) (fun _ a => absurd a (by omega))
  · exact m_of2 hx hy S.1.1 m.1.1 hd' (fun a => absurd (cx.2 q) a) (fun _ a => absurd a (by omega)) (fun _ a => absurd a (by omega)) (fun _ a => absurd a (by omega)) (fun _ a => absurd a (by omega)) (fun _ _ => k2)
theorem maxTo_more {f g : Int → Int} {a b : Nat} (hab : a ≤ b) (hfg : ∀ k : Int, 0 ≤ k → k < a → f k = g k) (hz : ∀ k : Int, a ≤ k → k < b → f k = 0) : maxTo f b = maxTo g a := by
  have key : ∀ c : Nat, a + c ≤ b → maxTo f (a + c) = maxTo f a := by
    intro c
    induction c with
    | zero => intro _; rfl
    | succ c ih =>
      intro q
      have e : maxTo f (a + (c + 1)) = max (maxTo f (a + c)) (f ((a + c : Nat) : Int)) := rfl
      have p0 : 0 ≤ maxTo f (a + c) := by
        clear e ih q
        induction (a + c) with
        | zero => exact Int.le_refl _
        | succ m im => show 0 ≤ max (maxTo f m) (f m); omega
      rw [e, hz _ (by omega) (by omega), ih (by omega)]
      rw [ih (by omega)] at p0
      omega
  have := key (b - a) (by omega)
  rw [show a + (b - a) = b by omega] at this
  rw [this]
  exact maxTo_congr hfg
theorem o_count (hx : R32 x) (I : INV i h s n) (kk : ∀ r h1, Mid i 40 264 [.ref 118, .int (iI x), .null, .null] s n r h1 → K r h1) : XW 40 152 0 [.ref 1, .int (iI x)] [] h (KI K) := by
  obtain ⟨B, dd, M, t, T, np, pl, L, tr, du, v, S⟩ := I
  have S : ST i h s n B dd M t T np pl L tr du v v := S
  obtain ⟨rb, va, zv, va2, zv2, a0, stp, stp2, c1, c2, c3, c4, c5, c6, c7, c8⟩ := id S.2.2.1
  have p := S.2.1
  have m := S.2.2.2.2.1
  have n1 := p.n100
  have g1 := p.g
  have cp := c1.2.2.1
  have mp := m.1.2.2.1
  have cb := c1.2.1.1
  have mb := m.1.2.1.1
  have hw : 0 ≤ zF h 118 24 ∧ zF h 118 24 ≤ 6 := by rw [mb.2.2.1]; omega
  have go : ∀ (r : Int32), (∀ K2 : Int32 → XH → Prop, (∀ h2, INV (i + 1) h2 s n → K2 r h2) → XW 40 264 0 [.ref 118, .int (iI x), .null, .null] [] h (KI K2)) → K r h := fun r q => kk _ _ ⟨S.1, q⟩
  have bk : ∀ a b : Int, b = a → (B.none → a = 0) → (if zF h 118 12 = 0 then 0 else b) = a := fun a b e z => by
    rcases m.1.2.2.2.2 with q | q
    · rw [if_neg (by omega)]; exact e
    · rw [if_pos q.1, z q.2]
  have mk : ∀ a b : Int, (zF h 118 34 = 1 → b = a) → (zF h 118 34 = 0 → a = 0) → (if zF h 118 34 = 0 then 0 else b) = a := fun a b e z => by
    rcases mp.1.2 with q | q
    · rw [if_neg (by omega)]; exact e q.1
    · rw [if_pos q.1, z q.1]
  refine c_count hx S.1.1 c1.1 (by rw [cp.1.2.2.2]; omega) (fun q => go _ fun K2 k2 => ?_) (fun q => go _ fun K2 k2 => ?_) (fun q => go _ fun K2 k2 => ?_) (fun q => go _ fun K2 k2 => ?_) (fun q => go _ fun K2 k2 => ?_) (fun q => go _ fun K2 k2 => ?_) (fun q => go _ fun K2 k2 => ?_) (fun q => go _ fun K2 k2 => ?_) (fun q => go _ fun K2 k2 => ?_) (fun q => go _ fun K2 k2 => ?_) (fun q => go _ fun K2 k2 => ?_) (fun q => go _ fun K2 k2 => ?_) (fun q => go _ fun K2 k2 => ?_) (fun q => go _ fun K2 k2 => ?_) (fun q => go _ fun K2 k2 => ?_)
  all_goals have k2 := k2 _ S.up.t0
  · exact m_count hx S.1.1 m.1.1 hw (fun g e a => by rw [e]; rw [bk (zF h rb 0) _ (by rw [cb.1, mb.1]) (fun z => by rw [cb.1]; exact z.1)]; exact k2) (fun _ _ a => absurd a (by omega)) (fun _ _ a => absurd a (by omega)) (fun _ _ a => absurd a (by omega)) (fun _ _ a => absurd a (by omega)) (fun _ _ a => absurd a (by omega)) (fun _ _ a => absurd a (by omega)) (fun _ _ a => absurd a (by omega)) (fun _ _ a => absurd a (by omega)) (fun _ _ a => absurd a (by omega)) (fun _ _ a => absurd a (by omega)) (fun _ _ a => absurd a (by omega)) (fun _ _ a => absurd a (by omega)) (fun _ _ a => absurd a (by omega)) (fun _ _ a => absurd a (by omega))
  · exact m_count hx S.1.1 m.1.1 hw (fun _ _ a => absurd a (by omega)) (fun g e a => by rw [e]; rw [bk (zF h rb 4) _ (by rw [cb.2.1, mb.2.1]) (fun z => by rw [cb.2.1]; exact z.2.1)]; exact k2) (fun _ _ a => absurd a (by omega)) (fun _ _ a => absurd a (by omega)) (fun _ _ a => absurd a (by omega)) (fun _ _ a => absurd a (by omega)) (fun _ _ a => absurd a (by omega)) (fun _ _ a => absurd a (by omega)) (fun _ _ a => absurd a (by omega)) (fun _ _ a => absurd a (by omega)) (fun _ _ a => absurd a (by omega)) (fun _ _ a => absurd a (by omega)) (fun _ _ a => absurd a (by omega)) (fun _ _ a => absurd a (by omega)) (fun _ _ a => absurd a (by omega))
  · exact m_count hx S.1.1 m.1.1 hw (fun _ _ a => absurd a (by omega)) (fun _ _ a => absurd a (by omega)) (fun g e a => by rw [e]; rw [bk (zF h rb 10) _ (by rw [cb.2.2.1, mb.2.2.1]) (fun z => by rw [cb.2.2.1]; exact z.2.2.1)]; exact k2) (fun _ _ a => absurd a (by omega)) (fun _ _ a => absurd a (by omega)) (fun _ _ a => absurd a (by omega)) (fun _ _ a => absurd a (by omega)) (fun _ _ a => absurd a (by omega)) (fun _ _ a => absurd a (by omega)) (fun _ _ a => absurd a (by omega)) (fun _ _ a => absurd a (by omega)) (fun _ _ a => absurd a (by omega)) (fun _ _ a => absurd a (by omega)) (fun _ _ a => absurd a (by omega)) (fun _ _ a => absurd a (by omega))
  · exact m_count hx S.1.1 m.1.1 hw (fun _ _ a => absurd a (by omega)) (fun _ _ a => absurd a (by omega)) (fun _ _ a => absurd a (by omega)) (fun g e a => by rw [e]; rw [bk (zF h rb 11) _ (by rw [cb.2.2.2.1, mb.2.2.2.1]) (fun z => by rw [cb.2.2.2.1]; exact z.2.2.2.1)]; exact k2) (fun _ _ a => absurd a (by omega)) (fun _ _ a => absurd a (by omega)) (fun _ _ a => absurd a (by omega)) (fun _ _ a => absurd a (by omega)) (fun _ _ a => absurd a (by omega)) (fun _ _ a => absurd a (by omega)) (fun _ _ a => absurd a (by omega)) (fun _ _ a => absurd a (by omega)) (fun _ _ a => absurd a (by omega)) (fun _ _ a => absurd a (by omega)) (fun _ _ a => absurd a (by omega))
  · exact m_count hx S.1.1 m.1.1 hw (fun _ _ a => absurd a (by omega)) (fun _ _ a => absurd a (by omega)) (fun _ _ a => absurd a (by omega)) (fun _ _ a => absurd a (by omega)) (fun g e a => by rw [e]; rw [bk (zF h rb 12) _ (by rw [cb.2.2.2.2.1, mb.2.2.2.2.1]) (fun z => by rw [cb.2.2.2.2.1]; exact z.2.2.2.2.1)]; exact k2) (fun _ _ a => absurd a (by omega)) (fun _ _ a => absurd a (by omega)) (fun _ _ a => absurd a (by omega)) (fun _ _ a => absurd a (by omega)) (fun _ _ a => absurd a (by omega)) (fun _ _ a => absurd a (by omega)) (fun _ _ a => absurd a (by omega)) (fun _ _ a => absurd a (by omega)) (fun _ _ a => absurd a (by omega)) (fun _ _ a => absurd a (by omega))
  · exact m_count hx S.1.1 m.1.1 hw (fun _ _ a => absurd a (by omega)) (fun _ _ a => absurd a (by omega)) (fun _ _ a => absurd a (by omega)) (fun _ _ a => absurd a (by omega)) (fun _ _ a => absurd a (by omega)) (fun g e a => by rw [e]; rw [bk (zF h rb 13) _ (by rw [cb.2.2.2.2.2.1, mb.2.2.2.2.2.1]) (fun z => by rw [cb.2.2.2.2.2.1]; exact z.2.2.2.2.2.1)]; exact k2) (fun _ _ a => absurd a (by omega)) (fun _ _ a => absurd a (by omega)) (fun _ _ a => absurd a (by omega)) (fun _ _ a => absurd a (by omega)) (fun _ _ a => absurd a (by omega)) (fun _ _ a => absurd a (by omega)) (fun _ _ a => absurd a (by omega)) (fun _ _ a => absurd a (by omega)) (fun _ _ a => absurd a (by omega))
  · exact m_count hx S.1.1 m.1.1 hw (fun _ _ a => absurd a (by omega)) (fun _ _ a => absurd a (by omega)) (fun _ _ a => absurd a (by omega)) (fun _ _ a => absurd a (by omega)) (fun _ _ a => absurd a (by omega)) (fun _ _ a => absurd a (by omega)) (fun g e a => by rw [e]; rw [bk (zF h rb 14) _ (by rw [cb.2.2.2.2.2.2, mb.2.2.2.2.2.2]) (fun z => by rw [cb.2.2.2.2.2.2]; exact z.2.2.2.2.2.2)]; exact k2) (fun _ _ a => absurd a (by omega)) (fun _ _ a => absurd a (by omega)) (fun _ _ a => absurd a (by omega)) (fun _ _ a => absurd a (by omega)) (fun _ _ a => absurd a (by omega)) (fun _ _ a => absurd a (by omega)) (fun _ _ a => absurd a (by omega)) (fun _ _ a => absurd a (by omega))
  · exact m_count hx S.1.1 m.1.1 hw (fun _ _ a => absurd a (by omega)) (fun _ _ a => absurd a (by omega)) (fun _ _ a => absurd a (by omega)) (fun _ _ a => absurd a (by omega)) (fun _ _ a => absurd a (by omega)) (fun _ _ a => absurd a (by omega)) (fun _ _ a => absurd a (by omega)) (fun g e a => by rw [e]; rw [← gI_F, m.1.2.2.2.1, ← c1.2.2.2.1]; exact k2) (fun _ _ a => absurd a (by omega)) (fun _ _ a => absurd a (by omega)) (fun _ _ a => absurd a (by omega)) (fun _ _ a => absurd a (by omega)) (fun _ _ a => absurd a (by omega)) (fun _ _ a => absurd a (by omega)) (fun _ _ a => absurd a (by omega))
  · exact m_count hx S.1.1 m.1.1 hw (fun _ _ a => absurd a (by omega)) (fun _ _ a => absurd a (by omega)) (fun _ _ a => absurd a (by omega)) (fun _ _ a => absurd a (by omega)) (fun _ _ a => absurd a (by omega)) (fun _ _ a => absurd a (by omega)) (fun _ _ a => absurd a (by omega)) (fun _ _ a => absurd a (by omega)) (fun g e a => by rw [e]; rw [mk (zF h 80 2) _ (fun z => by rw [cp.1.2.2.1]; exact (m.mx p).n.1 z) (fun z => by rw [cp.1.2.2.1]; exact (m.mx p).n.2 (by omega))]; exact k2) (fun _ _ a => absurd a (by omega)) (fun _ _ a => absurd a (by omega)) (fun _ _ a => absurd a (by omega)) (fun _ _ a => absurd a (by omega)) (fun _ _ a => absurd a (by omega)) (fun _ _ a => absurd a (by omega))
  · exact m_count hx S.1.1 m.1.1 hw (fun _ _ a => absurd a (by omega)) (fun _ _ a => absurd a (by omega)) (fun _ _ a => absurd a (by omega)) (fun _ _ a => absurd a (by omega)) (fun _ _ a => absurd a (by omega)) (fun _ _ a => absurd a (by omega)) (fun _ _ a => absurd a (by omega)) (fun _ _ a => absurd a (by omega)) (fun _ _ a => absurd a (by omega)) (fun g e a => by rw [e]; rw [mk (zF h 80 3) _ (fun z => by rw [cp.1.2.2.2, mp.1.1]) (fun z => by rw [cp.1.2.2.2]; rcases mp.1.2 with w | w; omega; exact w.2.2.2)]; exact k2) (fun _ _ a => absurd a (by omega)) (fun _ _ a => absurd a (by omega)) (fun _ _ a => absurd a (by omega)) (fun _ _ a => absurd a (by omega)) (fun _ _ a => absurd a (by omega))
  · exact m_count hx S.1.1 m.1.1 hw (fun _ _ a => absurd a (by omega)) (fun _ _ a => absurd a (by omega)) (fun _ _ a => absurd a (by omega)) (fun _ _ a => absurd a (by omega)) (fun _ _ a => absurd a (by omega)) (fun _ _ a => absurd a (by omega)) (fun _ _ a => absurd a (by omega)) (fun _ _ a => absurd a (by omega)) (fun _ _ a => absurd a (by omega)) (fun _ _ a => absurd a (by omega)) (fun g e a => by rw [e]; rw [show (if zF h 118 34 = 0 then 0 else sumTo (fun i => if zA h 137 i = -1 then 1 else 0) (zF h 118 37).toNat) = sumTo (fun i => if zA h 86 i = -1 then 1 else 0) (zF h 80 3).toNat from mk _ _ (fun z => by rw [cp.1.2.2.2, mp.1.1]; exact sumTo_congr (fun e a b => by rw [(cp.2.2.1 e a (by omega)).1, (mp.2.2.1 e a (by omega)).2])) (fun z => by rw [cp.1.2.2.2]; rcases mp.1.2 with w | w; omega; rw [w.2.2.2]; rfl)]; exact k2) (fun _ _ a => absurd a (by omega)) (fun _ _ a => absurd a (by omega)) (fun _ _ a => absurd a (by omega)) (fun _ _ a => absurd a (by omega))
  · exact m_count hx S.1.1 m.1.1 hw (fun _ _ a => absurd a (by omega)) (fun _ _ a => absurd a (by omega)) (fun _ _ a => absurd a (by omega)) (fun _ _ a => absurd a (by omega)) (fun _ _ a => absurd a (by omega)) (fun _ _ a => absurd a (by omega)) (fun _ _ a => absurd a (by omega)) (fun _ _ a => absurd a (by omega)) (fun _ _ a => absurd a (by omega)) (fun _ _ a => absurd a (by omega)) (fun _ _ a => absurd a (by omega)) (fun g e a => by rw [e]; rw [m.2.2.1.1]; have z := c4.1; rw [← gI_F, z] at k2; exact k2) (fun _ _ a => absurd a (by omega)) (fun _ _ a => absurd a (by omega)) (fun _ _ a => absurd a (by omega))
  · exact m_count hx S.1.1 m.1.1 hw (fun _ _ a => absurd a (by omega)) (fun _ _ a => absurd a (by omega)) (fun _ _ a => absurd a (by omega)) (fun _ _ a => absurd a (by omega)) (fun _ _ a => absurd a (by omega)) (fun _ _ a => absurd a (by omega)) (fun _ _ a => absurd a (by omega)) (fun _ _ a => absurd a (by omega)) (fun _ _ a => absurd a (by omega)) (fun _ _ a => absurd a (by omega)) (fun _ _ a => absurd a (by omega)) (fun _ _ a => absurd a (by omega)) (fun g e a => by rw [e]; rw [show (if zF h 118 12 = 0 then 0 else maxTo (zA h 139) (zF h 118 24).toNat) = maxTo (zA h 108) 6 from bk _ _ (by rw [mb.2.2.1]; refine (maxTo_more (by omega) (fun k a b => ?_) (fun k a b => ?_)).symm; rw [c7.2.1 k a (by omega), m.2.2.2.2.2.2.2 k a (by omega)]; rw [c7.2.1 k (by omega) (by omega)]; exact (p.2.2.2.2.2.2 k (by omega) (by omega)).2.2 (by omega)) (fun z => by rw [show (6 : Nat) = 6 from rfl]; refine (maxTo_more (a := 0) (g := zA h 108) (by omega) (fun k a b => absurd b (by omega)) (fun k a b => ?_)); rw [c7.2.1 k (by omega) (by omega)]; exact (p.2.2.2.2.2.2 k (by omega) (by omega)).2.2 (by have := z.2.2.1; omega))]; exact k2) (fun _ _ a => absurd a (by omega)) (fun _ _ a => absurd a (by omega))
  · exact m_count hx S.1.1 m.1.1 hw (fun _ _ a => absurd a (by omega)) (fun _ _ a => absurd a (by omega)) (fun _ _ a => absurd a (by omega)) (fun _ _ a => absurd a (by omega)) (fun _ _ a => absurd a (by omega)) (fun _ _ a => absurd a (by omega)) (fun _ _ a => absurd a (by omega)) (fun _ _ a => absurd a (by omega)) (fun _ _ a => absurd a (by omega)) (fun _ _ a => absurd a (by omega)) (fun _ _ a => absurd a (by omega)) (fun _ _ a => absurd a (by omega)) (fun _ _ a => absurd a (by omega)) (fun g e a => by rw [e]; rw [← gI_F, m.2.2.2.1.1, ← c5.1, gI_F]; exact k2) (fun _ _ a => absurd a (by omega))
  · exact m_count hx S.1.1 m.1.1 hw (fun _ _ a => absurd a (by omega)) (fun _ _ a => absurd a (by omega)) (fun _ _ a => absurd a (by omega)) (fun _ _ a => absurd a (by omega)) (fun _ _ a => absurd a (by omega)) (fun _ _ a => absurd a (by omega)) (fun _ _ a => absurd a (by omega)) (fun _ _ a => absurd a (by omega)) (fun _ _ a => absurd a (by omega)) (fun _ _ a => absurd a (by omega)) (fun _ _ a => absurd a (by omega)) (fun _ _ a => absurd a (by omega)) (fun _ _ a => absurd a (by omega)) (fun _ _ a => absurd a (by omega)) (fun g e a => by rw [e]; skip; exact k2)
end INV4
