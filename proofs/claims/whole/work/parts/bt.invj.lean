/-! between two calls: led -/
section LEDR
variable {d m pc : Nat} {ls st : List Value} {h : XH} {Q : Option Value → XH → Prop} {len ra rc rw : Nat}
theorem w_led {i : Nat} {v : Int32} {x out : Nat} (r : xrow m pc = some (.invokestatic i, len, ra, 3, rc, rw)) (hc : gK h x = 21 ∧ x < gN h ∧ gK h out = 4 ∧ out < gN h ∧ 1 ≤ gZ h out ∧ gK h (gR h x 15) = 1 ∧ gZ h (gR h x 15) = 601 ∧ gR h x 15 < gN h ∧ gR h x 15 ≠ 0 ∧ xcat st ≤ 8 ∧ gN h < 999999)
    (k1 : (v < 0 ∨ gI h x 17 ≤ v ∨ 601 ≤ v) → XW d m (pc + 3) ls (.int 1 :: st) (xnew h 0 6) Q)
    (k0 : ¬ (v < 0 ∨ gI h x 17 ≤ v ∨ 601 ≤ v) → XW d m (pc + 3) ls (.int 0 :: st) (sL h out 0 (gI h (gR h x 15) v.toNatClampNeg).toInt64) Q) : XW d m pc ls (.ref out :: .int v :: .ref x :: st) h Q := by
  by_cases q : v < 0 ∨ gI h x 17 ≤ v ∨ 601 ≤ v
  · exact XW.op r rfl rfl (by show (if gK h x = 21 ∧ _ then (if _ then _ else _) else _) = _; rw [if_pos hc, if_pos q]) (k1 q)
  · exact XW.op r rfl rfl (by show (if gK h x = 21 ∧ _ then (if _ then _ else _) else _) = _; rw [if_pos hc, if_neg q]) (k0 q)
end LEDR
section INVJ
variable {i n rb va zv va2 zv2 a0 : Nat} {d : Nat} {h h1 h2 h' : XH} {P : Nat → Nat → Bool} {s : Nat → Int32} {B : XB} {dd : Int} {M : XM} {t np L x stp stp2 : Int} {T tr du : Int → Int} {pl : Int → XL} {v w : Nat → Int} {K : Int32 → XH → Prop}
theorem IC.led (c : Ch P q0 h h') (hL : Lay h) (hp : ∀ a j, ¬ a = 154 → P a j = false) (hN : gN h' ≤ gN h + 1) (hU : gU h' ≤ gU h + 6) (h8 : np ≤ 8) (I : IC i h B dd M t T np pl L tr du) : IC (i + 1) h' B dd M t T np pl L tr du := by
  obtain ⟨rb, va, zv, va2, zv2, a0, stp, stp2, c1, c2, c3, c4, c5, c6, c7, c8⟩ := I
  have w1 := c3.1.vb1
  have w2 := c3.2.1.vb2
  have n := hL.2.2.1
  have d2 := c2.ch c hL ⟨fun a j p q r => hp a j (by omega), hp _ _ (by omega)⟩ c1.2.2.1
  refine ⟨rb, va, zv, va2, zv2, a0, stp, stp2, ?_, ⟨by have := d2.1; omega, d2.2⟩, ⟨?_, ?_, by have := c3.2.2.1; omega, c3.2.2.2⟩, ?_, ?_, ?_, ?_, ?_⟩
  · exact c1.ch c hL ⟨rfl, rfl, rfl, rfl⟩ ⟨fun a j p q => hp a j (by omega), fun a j p q r => hp a j (by omega), ⟨hp _ _ (by omega), hp _ _ (by omega)⟩, fun j => ⟨hp _ _ (by omega), hp _ _ (by omega)⟩⟩
  · exact c3.1.ch c hL (Or.inl rfl) rfl (fun j => ⟨hp _ _ (by omega), hp _ _ (by omega)⟩) ⟨hp _ _ (by omega), hp _ _ (by omega), hp _ _ (by omega), hp _ _ (by omega), hp _ _ (by omega)⟩
  · exact c3.2.1.ch c hL (Or.inr rfl) rfl (fun j => ⟨hp _ _ (by omega), hp _ _ (by omega)⟩) ⟨hp _ _ (by omega), hp _ _ (by omega), hp _ _ (by omega), hp _ _ (by omega), hp _ _ (by omega)⟩
  · exact c4.ch c hL ⟨hp _ _ (by omega), fun a j p q => hp a j (by omega)⟩ h8
  · exact c5.ch c hL ⟨hp _ _ (by omega), fun j => hp _ _ (by omega)⟩
  · exact c6.ch c hL ⟨hp _ _ (by omega), fun j => hp _ _ (by omega)⟩
  · exact c7.ch c hL ⟨rfl, rfl, rfl, rfl, rfl⟩ ⟨⟨hp _ _ (by omega), hp _ _ (by omega)⟩, hp _ _ (by omega), hp _ _ (by omega)⟩ (fun q j => ⟨⟨hp _ _ (by omega), hp _ _ (by omega), hp _ _ (by omega), hp _ _ (by omega)⟩, hp _ _ (by omega)⟩) (fun j => hp _ _ (by omega))
  · unfold C8 at c8 ⊢; omega
theorem xRT_156 : ∀ q ∈ xRT, q.1 < 155 := by decide +kernel
theorem ST.led (S : ST i h s n B dd M t T np pl L tr du v v) (c : Ch P q0 h h') (hp : ∀ a j, ¬ a = 154 → P a j = false) (hi : i ≤ 600) (hN : gN h' ≤ gN h + 1) (hU : gU h' ≤ gU h + 6) : ST (i + 1) h' s n B dd M t T np pl L tr du v v := by
  obtain ⟨rb, va, zv, va2, zv2, a0, stp, stp2, c1, c2, c3, c4, c5, c6, c7, c8⟩ := id S.2.2.1
  have b8 := c8.1
  have nn := S.1.1.2.2.1
  have la : Lay h' := c.lay S.1.1 (fun _ _ => rfl) (fun _ => rfl) xRT_156 (by omega)
  refine ⟨S.1.ch c la (fun a j q => hp a j (by omega)), S.2.1, S.2.2.1.led c S.1.1 hp hN hU S.2.1.2.2.2.2.1.1.2, ?_, S.2.2.2.2.1.cls c S.1.1 (fun a j q r => hp a j (by omega)), S.2.2.2.2.2.cls c S.1.1 (fun a j q r => hp a j (by omega))⟩
  have cv := S.2.2.2.1
  have F : ∀ a j, a < 154 → zF h' a j = zF h a j := fun a j q => by unfold zF; rw [(c.1 a j (by omega) (hp a j (by omega))).1]
  unfold CV at cv ⊢
  rw [F 106 2 (by omega), F 106 3 (by omega), F 106 4 (by omega), F 1 18 (by omega), F 1 19 (by omega), F 3 8 (by omega)]; exact cv
theorem m_led (hx : R32 x) (hL : Lay h) (h73 : zF h 118 73 = 0 ∨ zF h 118 73 = 1) (h55 : 0 ≤ zF h 118 55 ∧ zF h 118 55 ≤ 601)
    (k0 : zF h 118 73 = 1 → 0 ≤ x ∧ x < zF h 118 55 → K (iI (zA h 143 x)) (sI h 118 0 (iI 0))) (k1 : ¬ (zF h 118 73 = 1 ∧ 0 ≤ x ∧ x < zF h 118 55) → K (iI 0) (sI h 118 0 (iI 1))) :
    XW (d + 1) 242 0 [.ref 118, .int (iI x)] [] h (KI K) := by
  have e0 : gI (sI h 118 0 (iI 0)) 118 0 = iI 0 := rfl
  have e1 : gI (sI h 118 0 (iI 1)) 118 0 = iI 1 := rfl
  have hL0 : Lay (sI h 118 0 (iI 0)) := ((Fr.refl (pF [(118, 0)]) h).sI 118 0 _ (by simp [pF])).lay hL
  have hL1 : Lay (sI h 118 0 (iI 1)) := ((Fr.refl (pF [(118, 0)]) h).sI 118 0 _ (by simp [pF])).lay hL
  have j0 : zF h 118 73 = 1 → 0 ≤ x ∧ x < zF h 118 55 → XW (d + 1) 242 30 [.ref 118, .int (iI x)] [] (sI h 118 0 (iI 0)) (KI K) := fun a b => by
    have R := k0 a b
    have v46 : gI (sI h 118 0 (iI 0)) 143 x.toNat = iI (zA h 143 x) := by rw [← gI_A]; rfl
    generalize sI h 118 0 (iI 0) = g at *
    have hL := hL0
    refine w_aload0 r_242_30 ?_
    refine v_getI r_242_31 (Lk_118 hL) e0 ?_
    refine v_if_le r_242_34 (by first | exact zF_in _ _ _ | exact zA_in _ _ _ | omega) (fun _ => ?_) (fun q => absurd q (by omega))
    refine w_aload0 r_242_41 ?_
    refine w_getA (x := 143) r_242_42 (Lk_118 hL) (Lr_118_54 hL) (by decide) ?_
    refine w_iload1 r_242_45 ?_
    refine v_iald r_242_46 (Lk_143 hL) (Lz_143 hL) (by decide) (by omega) v46 ?_
    refine w_iret r_242_47 ?_
    exact R
  have j1 : ¬ (zF h 118 73 = 1 ∧ 0 ≤ x ∧ x < zF h 118 55) → XW (d + 1) 242 30 [.ref 118, .int (iI x)] [] (sI h 118 0 (iI 1)) (KI K) := fun a => by
    have R := k1 a
    generalize sI h 118 0 (iI 1) = g at *
    have hL := hL1
    refine w_aload0 r_242_30 ?_
    refine v_getI r_242_31 (Lk_118 hL) e1 ?_
    refine v_if_le r_242_34 (by first | exact zF_in _ _ _ | exact zA_in _ _ _ | omega) (fun q => absurd q (by omega)) (fun _ => ?_)
    refine w_iconst (v := iI (0)) r_242_37 rfl ?_
    refine w_goto r_242_38 ?_
    refine w_iret r_242_47 ?_
    exact R
  refine w_aload0 r_242_0 ?_
  refine w_aload0 r_242_1 ?_
  refine v_getI r_242_2 (Lk_118 hL) (gI_F h 118 73) ?_
  refine v_if_eq r_242_5 (by first | exact zF_in _ _ _ | exact zA_in _ _ _ | omega) (fun c5 => ?_) (fun c5 => ?_)
  · refine w_iconst (v := iI (1)) r_242_26 rfl ?_
    refine w_putI r_242_27 (Lk_118 hL) (Ln_118 hL) ?_
    first | exact j0 (by omega) (by omega) | exact j1 (by omega)
  · refine w_iload1 r_242_8 ?_
    refine w_iconst (v := iI (0)) r_242_9 rfl ?_
    refine w_aload0 r_242_10 ?_
    refine v_getI r_242_11 (Lk_118 hL) (gI_F h 118 55) ?_
    refine w_iconst (v := iI (1)) r_242_14 rfl ?_
    refine v_isub r_242_15 ?_
    refine k_167 r_242_16 (Nat.le_of_ble_eq_true rfl) ?_
    refine m_within (by first | exact zF_in _ _ _ | exact zA_in _ _ _ | omega) (by first | exact zF_in _ _ _ | exact zA_in _ _ _ | omega) (by first | exact zF_in _ _ _ | exact zA_in _ _ _ | omega) (fun c16 => ?_) (fun c16 => ?_)
    · refine v_if_eq r_242_19 (by first | exact zF_in _ _ _ | exact zA_in _ _ _ | omega) (fun q => absurd q (by omega)) (fun _ => ?_)
      refine w_iconst (v := iI (0)) r_242_22 rfl ?_
      refine w_goto r_242_23 ?_
      refine w_putI r_242_27 (Lk_118 hL) (Ln_118 hL) ?_
      first | exact j0 (by omega) (by omega) | exact j1 (by omega)
    · refine v_if_eq r_242_19 (by first | exact zF_in _ _ _ | exact zA_in _ _ _ | omega) (fun _ => ?_) (fun q => absurd q (by omega))
      refine w_iconst (v := iI (1)) r_242_26 rfl ?_
      refine w_putI r_242_27 (Lk_118 hL) (Ln_118 hL) ?_
      first | exact j0 (by omega) (by omega) | exact j1 (by omega)
/-- led: thrown, or the cell told; then the Model's turn -/
theorem o_led {mm pc : Nat} {ls st : List Value} {Q : Option Value → XH → Prop} {len ra rc rw k : Nat} (hi : i ≤ 600) (hx : R32 x) (hst : xcat st ≤ 8) (r : xrow mm pc = some (.invokestatic k, len, ra, 3, rc, rw)) (I : INV i h s n)
    (k1 : ∀ h1, KS h1 s n → (∀ K2 : Int32 → XH → Prop, (∀ b h2, INV (i + 1) h2 s n → zF h2 118 0 = 1 → K2 b h2) → XW 40 242 0 [.ref 118, .int (iI x)] [] h1 (KI K2)) → XW d mm (pc + 3) ls (.int (iI 1) :: st) h1 Q)
    (k0 : ∀ h1 y, R32 y → KS h1 s n → (∀ K2 : Int32 → XH → Prop, (∀ h2, INV (i + 1) h2 s n → zF h2 118 0 = 0 → gL h2 154 0 = iL y → K2 (iI y) h2) → XW 40 242 0 [.ref 118, .int (iI x)] [] h1 (KI K2)) → XW d mm (pc + 3) ls (.int (iI 0) :: st) h1 Q) : XW d mm pc ls (.ref 154 :: .int (iI x) :: .ref 1 :: st) h Q := by
  obtain ⟨B, dd, M, t, T, np, pl, L, tr, du, v, S⟩ := I
  have S : ST i h s n B dd M t T np pl L tr du v v := S
  obtain ⟨rb, va, zv, va2, zv2, a0, stp, stp2, c1, c2, c3, c4, c5, c6, c7, c8⟩ := id S.2.2.1
  have p := S.2.1
  have hL := S.1.1
  have nn := hL.2.2.1
  have nl := hL.2.2.2.1
  have lb := p.2.2.2.2.2.1
  have r15 : gR h 1 15 = 116 := Lr_1_15 hL
  have g17 : gI h 1 17 = iI L := by rw [gI_F, c6.1]
  have m73 : ∀ {h1}, IM h1 B dd M t T np pl L tr du → (zF h1 118 73 = 0 ∨ zF h1 118 73 = 1) ∧ (0 ≤ zF h1 118 55 ∧ zF h1 118 55 ≤ 601) ∧ zF h1 118 55 = L := fun {h1} m => by
    have z := m.2.2.2.2.1
    have e := z.1
    refine ⟨?_, by omega, e⟩
    rcases z.2.1 with w | w
    · exact Or.inr w
    · exact Or.inl w.1
  have cond : (iI x < 0 ∨ gI h 1 17 ≤ iI x ∨ 601 ≤ iI x) ↔ ¬ (0 ≤ x ∧ x < L) := by
    rw [g17]
    have a : (iI x < 0) ↔ x < 0 := by rw [show (0 : Int32) = iI 0 from rfl]; exact iI_lt hx (by decide)
    have b : (iI L ≤ iI x) ↔ L ≤ x := iI_le (by omega) hx
    have c : ((601 : Int32) ≤ iI x) ↔ 601 ≤ x := by rw [show (601 : Int32) = iI 601 from rfl]; exact iI_le (by decide) hx
    rw [a, b, c]; omega
  refine w_led r ⟨Lk_1 hL, Ln_1 hL, Lk_154 hL, Ln_154 hL, by rw [Lz_154 hL]; decide, by rw [r15]; exact Lk_116 hL, by rw [r15]; exact Lz_116 hL, by rw [r15]; exact Ln_116 hL, by rw [r15]; decide, hst, by omega⟩ (fun q => ?_) (fun q => ?_)
  · have q := cond.1 q
    have S1 := S.led (Ch.new h 0 6 (by omega)) (fun _ _ _ => rfl) hi (by rw [xnew_N]; omega) (by show gU h + 6 ≤ _; omega)
    refine k1 _ S1.1 (fun K2 k2 => ?_)
    have m := m73 S1.2.2.2.2.1
    refine m_led (d := 39) hx S1.1.1 m.1 m.2.1 (fun _ w => absurd (by omega) q) (fun _ => k2 _ _ ?_ (gF (by decide) rfl))
    have f0 : Fr (pF [(118, 0)]) (xnew h 0 6) (sI (xnew h 0 6) 118 0 (iI 1)) := (Fr.refl _ _).sI 118 0 _ (by simp [pF])
    exact S1.mdl f0 (fun a j q => by simp [pF]; omega) (S1.2.2.2.2.1.small f0 (fun a j q => by simp [pFr2] at q; simp [pF]; omega)) (S1.2.2.2.2.2.fr f0 (by simp [pF]))
  · have q : 0 ≤ x ∧ x < L := by
      by_cases w : 0 ≤ x ∧ x < L
      · exact w
      · exact absurd (cond.2 w) q
    have ev : gI h (gR h 1 15) (iI x).toNatClampNeg = iI (tr x) := by rw [r15, iI_nat (by omega) (by omega), gI_A, c6.2 x q.1 q.2]
    have ry : R32 (tr x) := by rw [← c6.2 x q.1 q.2]; exact zA_in _ _ _
    rw [ev]
    have f : Fr (pF [(154, 0)]) h (sL h 154 0 (iI (tr x)).toInt64) := (Fr.refl _ _).sL 154 0 _ (by simp [pF])
    have S1 := S.led f.ch (fun a j q => by simp [pF]; omega) hi (by rw [f.N]; omega) (by rw [f.U]; omega)
    have gl : gL (sL h 154 0 (iI (tr x)).toInt64) 154 0 = iL (tr x) := by
      have e : gL (sL h 154 0 (iI (tr x)).toInt64) 154 0 = (iI (tr x)).toInt64 := rfl
      rw [e]; exact iIL ry
    generalize sL h 154 0 (iI (tr x)).toInt64 = g at *
    refine k0 _ (tr x) ry S1.1 (fun K2 k2 => ?_)
    have m := m73 S1.2.2.2.2.1
    have m6 := S1.2.2.2.2.1.2.2.2.2.1
    have z73 : zF g 118 73 = 1 := by
      rcases m6.2.1 with w | w
      · exact w
      · omega
    refine m_led (d := 39) hx S1.1.1 m.1 m.2.1 (fun _ w => ?_) (fun w => absurd ⟨z73, q.1, by omega⟩ w)
    rw [m6.2.2 x q.1 q.2]
    have f0 : Fr (pF [(118, 0)]) g (sI g 118 0 (iI 0)) := (Fr.refl _ _).sI 118 0 _ (by simp [pF])
    refine k2 _ ?_ (gF (by decide) rfl) ?_
    · exact S1.mdl f0 (fun a j q => by simp [pF]; omega) (S1.2.2.2.2.1.small f0 (fun a j q => by simp [pFr2] at q; simp [pF]; omega)) (S1.2.2.2.2.2.fr f0 (by simp [pF]))
    · rw [(f0.2 154 0 (by simp [pF])).2]; exact gl
end INVJ
