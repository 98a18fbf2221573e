/-! the class reads a book: its lines -/
section CB3
variable {d : Nat} {h : XH} {K : Int32 → XH → Prop} {KU : XH → Prop} {τ : XT} {k : Int} {w : List Int} {a sp : Nat} {B : XB}
theorem w_rng (ho : τ.ok) (hk : 0 ≤ k ∧ k ≤ τ.2) (h1 : τ.k k = 1) : -9223372036854775808 ≤ τ.w k ∧ τ.w k ≤ 9223372036854775807 := by
  have wl := XT.w_at ho hk.1 hk.2 h1
  have a1 := (enc_nn (f := fun i => τ.1 (τ.a k + i)) (τ.e k - τ.a k).toNat (fun i x y => wl.2 i x (by omega))).1
  have a2 := enc_le (f := fun i => τ.1 (τ.a k + i)) (τ.e k - τ.a k).toNat (by omega) (fun i x y => wl.2 i x (by omega))
  have a3 : (27 : Int) ^ (τ.e k - τ.a k).toNat ≤ 282429536481 := by
    have : (τ.e k - τ.a k).toNat = 0 ∨ (τ.e k - τ.a k).toNat = 1 ∨ (τ.e k - τ.a k).toNat = 2 ∨ (τ.e k - τ.a k).toNat = 3 ∨ (τ.e k - τ.a k).toNat = 4 ∨ (τ.e k - τ.a k).toNat = 5 ∨ (τ.e k - τ.a k).toNat = 6 ∨ (τ.e k - τ.a k).toNat = 7 ∨ (τ.e k - τ.a k).toNat = 8 := by omega
    rcases this with q | q | q | q | q | q | q | q | q <;> rw [q] <;> decide
  unfold XT.w
  omega
theorem tk_p {a j : Nat} (ha : ¬ a = 3) : PTk a j = false := by simp [pF]; omega
theorem pB_pO {h' : XH} {l : List Nat} (hs : ∀ x ∈ l, sp ≤ x ∧ x ≤ sp + 13) (f : Fr (pO PTf (pA l)) h h') : Fr (pB sp) h h' := f.mono (fun a j q => by
  simp [pB] at q
  simp only [pO, Bool.or_eq_false_iff]
  constructor
  · simp [pF]; omega
  · simp only [pA]
    cases z : l.contains a with
    | false => rfl
    | true =>
      have := hs a (by simpa using z)
      omega)
theorem pB_tf {h' : XH} (f : Fr PTf h h') : Fr (pB sp) h h' := f.mono (fun a j q => by simp [pB] at q; simp [pF]; omega)
theorem pB_tp {h' : XH} (f : Fr (pO PTk (pF [(3, 7), (3, 8)])) h h') : Fr (pB sp) h h' := f.mono (fun a j q => by simp [pB] at q; simp [pO, pF]; omega)
theorem c_readGround (hL : Lay h) (hS : StC h) (hX : TX h τ) (hT : TC h τ k) (hb : sp = 6 ∨ sp = 20) (hC : CBk h sp B) (ho : B.ok)
    (kt : ∀ r, gGround τ B (τ.e k) = .inr r → ∀ h', Fr (pB sp) h h' → TC h' τ r.2 → CBk h' sp r.1 → zF h' sp 9 = zF h sp 9 → zF h' 3 7 = zF h 3 7 → K (iI 1) h')
    (kf : ∀ e, gGround τ B (τ.e k) = .inl e → ∀ h', Fr (pB sp) h h' → BL h' e → K (iI 0) h') : XW (d + 8) 9 0 [.ref 4, .ref sp, .null, .null] [] h (KI K) := by
  have o := ho.1
  have p := TC.pos hX hT
  have hL0 := hL
  have hS0 := hS
  refine w_aload0 r_9_0 ?_
  refine w_getA (x := 3) r_9_1 (Lk_4 hL) (Lr_4_0 hL) (by decide) ?_
  refine k_89 r_9_4 (Lk_3 hL) (Nat.le_of_ble_eq_true rfl) ?_
  refine c_advance (d := d + 6) hL hX (by omega) hT.i.2.1 (fun h2 f2 T2 => ?_)
  generalize τ.e k = k1 at kt kf T2
  have X2 := tk_TX f2 hX
  have S2 := tk_StC f2 hS
  have C2 := tk_CBk f2 hb hC
  have hL := f2.lay hL0
  have lz := iL_of (gL h2 3 6)
  have p2 := TC.pos X2 T2
  -- behind the name
  have go : ∀ h3, Fr (pO PTk (pA [sp + 1])) h2 h3 → TX h3 τ → TC h3 τ (τ.e k1) → zL h3 (sp + 1) B.g = τ.w k1 → (∀ i, 0 ≤ i → ¬ i = B.g → zL h3 (sp + 1) i = zL h2 (sp + 1) i) → gName τ B.nm B.g 8 k1 = .inr (τ.e k1) → ∀ X3 : Value, XW (d + 8) 9 48 [.ref 4, .ref sp, .int (iI B.g), X3] [] h3 (KI K) := by
    intro h3 f3 X3 T3 n3 o3 gN X3v
    have g8 := (gName_ok X2.1 T2.1 gN).2.1
    have L3 := f3.lay hL
    have S3 : StC h3 := S2.fr f3 (fun a j q => by simp [pO, pA, pF]; omega)
    have F3 : Fr (pB sp) h h3 := (pB_tk f2).trans (pB_pO (l := [sp + 1]) (fun x hx => by simp at hx; omega) (pk_pf f3))
    have p3 := TC.pos X3 T3
    unfold gGround at kt kf
    rw [bnd_r gN] at kt kf
    refine w_aload0 r_9_48 ?_
    refine w_getA (x := 3) r_9_49 (Lk_4 L3) (Lr_4_0 L3) (by decide) ?_
    refine w_ldcS (a := 1000032) r_9_52 rfl ?_
    refine k_97 r_9_54 (Lk_3 L3) (Nat.le_of_ble_eq_true rfl) ?_
    refine c_takeWord L3 X3 T3 (sS_11 L3 S3) (fun q h4 f4 T4 => ?_) (fun q => ?_)
    rotate_left
    · have F := kf _ (bnd_l (by unfold gWord; rw [if_neg (by rw [q]; decide)])) _ (F3.trans (pB_blm h3 1 (τ.a (τ.e k1)))) (blm_BL (by omega) (by omega))
      have hL := L3
      refine v_if_eq r_9_57 (by first | exact zF_in _ _ _ | exact zA_in _ _ _ | omega) (fun _ => ?_) (fun q => absurd q (by omega))
      refine w_iconst (v := iI (0)) r_9_109 rfl ?_
      refine w_zret r_9_110 (by decide) ?_
      exact F
    have gW : gWord τ sW_sinks (τ.e k1) = .inr (τ.e (τ.e k1)) := by unfold gWord; rw [if_pos q]
    rw [bnd_r gW] at kt kf
    generalize τ.e (τ.e k1) = k3 at kt kf T4
    have L4 := f4.lay L3
    have S4 := tk_StC f4 S3
    have X4 := tk_TX f4 X3
    have F4 : Fr (pB sp) h h4 := F3.trans (pB_tk f4)
    refine v_if_eq r_9_57 (by omega) (fun q => absurd q (by omega)) (fun _ => ?_)
    refine w_aload0 r_9_60 ?_
    refine w_aload1 r_9_61 ?_
    refine w_getA (x := sp + 2) r_9_62 (Bk_ L4 hb) (Br_2 L4 hb) (by omega) ?_
    refine w_iload2 r_9_65 ?_
    refine w_sipush (v := iI 999) r_9_66 rfl ?_
    refine w_sipush (v := iI 300) r_9_69 rfl ?_
    refine w_iconst (v := iI 1) r_9_72 rfl ?_
    refine k_11 r_9_73 (Lk_4 L4) (Nat.le_of_ble_eq_true rfl) ?_
    refine c_readPairs (ri := true) L4 X4 T4 (RB.cs hb) (by omega) (by decide) (by decide) (fun r1 g1 h5 f5 T5 P5 n5 => ?_) (fun e g1 h5 f5 b5 => ?_)
    rotate_left
    · have F := kf e (bnd_l g1) h5 (F4.trans (pB_pO (l := [sp + 2 + 1, sp + 2 + 2, sp + 2 + 3]) (fun x hx => by simp at hx; omega) f5)) b5
      have hL := f5.lay L4
      refine v_if_eq r_9_76 (by first | exact zF_in _ _ _ | exact zA_in _ _ _ | omega) (fun _ => ?_) (fun q => absurd q (by omega))
      refine w_iconst (v := iI (0)) r_9_109 rfl ?_
      refine w_zret r_9_110 (by decide) ?_
      exact F
    rw [bnd_r g1] at kt kf
    have L5 := f5.lay L4
    have S5 : StC h5 := S4.fr f5 (fun a j q => by simp [pO, pA, pF]; omega)
    have X5 : TX h5 τ := X4.fr f5 (by simp [pO, pA, pF] <;> omega) (fun j => by simp [pO, pA, pF] <;> omega)
    have F5 : Fr (pB sp) h h5 := F4.trans (pB_pO (l := [sp + 2 + 1, sp + 2 + 2, sp + 2 + 3]) (fun x hx => by simp at hx; omega) (pk_pf f5))
    have p5 := TC.pos X5 T5
    refine v_if_eq r_9_76 (by omega) (fun q => absurd q (by omega)) (fun _ => ?_)
    refine w_aload0 r_9_79 ?_
    refine w_getA (x := 3) r_9_80 (Lk_4 L5) (Lr_4_0 L5) (by decide) ?_
    refine w_ldcS (a := 1000034) r_9_83 rfl ?_
    refine k_97 r_9_85 (Lk_3 L5) (Nat.le_of_ble_eq_true rfl) ?_
    refine c_takeWord L5 X5 T5 (sS_12 L5 S5) (fun q h6 f6 T6 => ?_) (fun q => ?_)
    rotate_left
    · have F := kf _ (bnd_l (by unfold gWord; rw [if_neg (by rw [q]; decide)])) _ (F5.trans (pB_blm h5 1 (τ.a r1.2.2.2))) (blm_BL (by omega) (by omega))
      have hL := L5
      refine v_if_eq r_9_88 (by first | exact zF_in _ _ _ | exact zA_in _ _ _ | omega) (fun _ => ?_) (fun q => absurd q (by omega))
      refine w_iconst (v := iI (0)) r_9_109 rfl ?_
      refine w_zret r_9_110 (by decide) ?_
      exact F
    have gW2 : gWord τ sW_grips r1.2.2.2 = .inr (τ.e r1.2.2.2) := by unfold gWord; rw [if_pos q]
    rw [bnd_r gW2] at kt kf
    generalize τ.e r1.2.2.2 = k5 at kt kf T6
    have L6 := f6.lay L5
    have X6 := tk_TX f6 X5
    have F6 : Fr (pB sp) h h6 := F5.trans (pB_tk f6)
    refine v_if_eq r_9_88 (by omega) (fun q => absurd q (by omega)) (fun _ => ?_)
    refine w_aload0 r_9_91 ?_
    refine w_aload1 r_9_92 ?_
    refine w_getA (x := sp + 6) r_9_93 (Bk_ L6 hb) (Br_3 L6 hb) (by omega) ?_
    refine w_iload2 r_9_96 ?_
    refine w_bipush (v := iI 90) r_9_97 rfl ?_
    refine w_sipush (v := iI 150) r_9_99 rfl ?_
    refine w_iconst (v := iI 0) r_9_102 rfl ?_
    refine k_11 r_9_103 (Lk_4 L6) (Nat.le_of_ble_eq_true rfl) ?_
    refine c_readPairs (ri := false) L6 X6 T6 (RB.cg hb) (by omega) (by decide) (by decide) (fun r2 g2 h7 f7 T7 P7 n7 => ?_) (fun e g2 h7 f7 b7 => ?_)
    rotate_left
    · have F := kf e (bnd_l g2) h7 (F6.trans (pB_pO (l := [sp + 6 + 1, sp + 6 + 2, sp + 6 + 3]) (fun x hx => by simp at hx; omega) f7)) b7
      have hL := f7.lay L6
      refine v_if_ne r_9_106 (by first | exact zF_in _ _ _ | exact zA_in _ _ _ | omega) (fun q => absurd q (by omega)) (fun _ => ?_)
      refine w_iconst (v := iI (0)) r_9_109 rfl ?_
      refine w_zret r_9_110 (by decide) ?_
      exact F
    rw [bnd_r g2] at kt
    have L7 := f7.lay L6
    have F7 : Fr (pB sp) h h7 := F6.trans (pB_pO (l := [sp + 6 + 1, sp + 6 + 2, sp + 6 + 3]) (fun x hx => by simp at hx; omega) (pk_pf f7))
    have F8 : Fr (pF [(sp, 0)]) h7 (sI h7 sp 0 (iI (B.g + 1))) := (Fr.refl _ _).sI sp 0 _ (by simp [pF])
    have z0' : zF (sI h7 sp 0 (iI (B.g + 1))) sp 0 = B.g + 1 := zF_s (by omega)
    -- what h8 holds
    have q7 : ∀ x j, ¬ x = 3 → ¬ x = sp + 6 + 1 → ¬ x = sp + 6 + 2 → ¬ x = sp + 6 + 3 → pO PTk (pA [sp + 6 + 1, sp + 6 + 2, sp + 6 + 3]) x j = false := fun x j a b c e => by simp [pO, pA, pF]; omega
    have q5 : ∀ x j, ¬ x = 3 → ¬ x = sp + 2 + 1 → ¬ x = sp + 2 + 2 → ¬ x = sp + 2 + 3 → pO PTk (pA [sp + 2 + 1, sp + 2 + 2, sp + 2 + 3]) x j = false := fun x j a b c e => by simp [pO, pA, pF]; omega
    have q3 : ∀ x j, ¬ x = 3 → ¬ x = sp + 1 → pO PTk (pA [sp + 1]) x j = false := fun x j a b => by simp [pO, pA, pF]; omega
    have q8 : ∀ x j, ¬ (x = sp ∧ j = 0) → pF [(sp, 0)] x j = false := fun x j a => by simp [pF]; omega
    have e57 : ∀ x i, ¬ x = 3 → ¬ x = sp → ¬ x = sp + 6 + 1 → ¬ x = sp + 6 + 2 → ¬ x = sp + 6 + 3 → zA (sI h7 sp 0 (iI (B.g + 1))) x i = zA h5 x i := fun x i a b c e g => by
      rw [F8.A (q8 _ _ (by omega)), f7.A (q7 _ _ a c e g), f6.A (tk_p a)]
    have e25 : ∀ x i, ¬ x = 3 → ¬ x = sp + 1 → ¬ x = sp + 2 + 1 → ¬ x = sp + 2 + 2 → ¬ x = sp + 2 + 3 → zA h5 x i = zA h x i := fun x i a b c e g => by
      rw [f5.A (q5 _ _ a c e g), f4.A (tk_p a), f3.A (q3 _ _ a b), f2.A (tk_p a)]
    have e24 : ∀ x i, ¬ x = 3 → ¬ x = sp + 1 → zA h4 x i = zA h x i := fun x i a b => by
      rw [f4.A (tk_p a), f3.A (q3 _ _ a b), f2.A (tk_p a)]
    have e26 : ∀ x i, ¬ x = 3 → ¬ x = sp + 1 → ¬ x = sp + 2 + 1 → ¬ x = sp + 2 + 2 → ¬ x = sp + 2 + 3 → zA h6 x i = zA h x i := fun x i a b c e g => by rw [f6.A (tk_p a), e25 x i a b c e g]
    have eF : ∀ j, ¬ j = 0 → zF (sI h7 sp 0 (iI (B.g + 1))) sp j = zF h sp j := fun j a => by
      rw [F8.F (q8 _ _ (by omega)), f7.F (q7 _ _ (by omega) (by omega) (by omega) (by omega)), f6.F (tk_p (by omega)), f5.F (q5 _ _ (by omega) (by omega) (by omega) (by omega)), f4.F (tk_p (by omega)), f3.F (q3 _ _ (by omega) (by omega)), f2.F (tk_p (by omega))]
    have e37 : zF (sI h7 sp 0 (iI (B.g + 1))) 3 7 = zF h 3 7 := by
      rw [F8.F (q8 _ _ (by omega)), f7.F (by simp [pO, pA, pF] <;> omega), f6.F (by simp [pF]), f5.F (by simp [pO, pA, pF] <;> omega), f4.F (by simp [pF]), f3.F (by simp [pO, pA, pF] <;> omega), f2.F (by simp [pF])]
    have eL : ∀ x i, x = sp + 1 ∨ x = sp + 10 → zL (sI h7 sp 0 (iI (B.g + 1))) x i = zL h3 x i := fun x i c => by
      have s : zL (sI h7 sp 0 (iI (B.g + 1))) x i = zL h7 x i := rfl
      rw [s, f7.L (q7 _ _ (by omega) (by omega) (by omega) (by omega)), f6.L (tk_p (by omega)), f5.L (q5 _ _ (by omega) (by omega) (by omega) (by omega)), f4.L (tk_p (by omega))]
    have C8 : CBk (sI h7 sp 0 (iI (B.g + 1))) sp (addG B (τ.w k1) r1 r2) := by
      refine ⟨⟨z0', (eF 4 (by decide)).trans hC.1.2.1, (eF 10 (by decide)).trans hC.1.2.2.1, (eF 11 (by decide)).trans hC.1.2.2.2.1, (eF 12 (by decide)).trans hC.1.2.2.2.2.1, (eF 13 (by decide)).trans hC.1.2.2.2.2.2.1, (eF 14 (by decide)).trans hC.1.2.2.2.2.2.2⟩, fun i a b => ?_, fun i a b j j0 j1 => ?_, fun i a b j j0 j1 => ?_, fun i a b => ?_⟩
      · have b' : i < B.g + 1 := b
        show zL _ (sp + 1) i = up1 B.nm B.g (τ.w k1) i ∧ zA _ (sp + 5) i = up1 B.sn B.g r1.1 i ∧ zA _ (sp + 9) i = up1 B.gn B.g r2.1 i
        rw [eL _ _ (Or.inl rfl), e57 _ _ (by omega) (by omega) (by omega) (by omega) (by omega), F8.A (q8 _ _ (by omega))]
        by_cases q : i = B.g
        · rw [q, up1_at, up1_at, up1_at]; exact ⟨n3, n5, n7⟩
        · have oc := hC.2.1 i a (by omega)
          have s5 : zA h5 (sp + 5) i = zA h4 (sp + 5) i := P5.2.2 i a (by omega)
          have s9 : zA h7 (sp + 9) i = zA h6 (sp + 9) i := P7.2.2 i a (by omega)
          rw [up1_ne q, up1_ne q, up1_ne q, o3 i a q, f2.L (tk_p (by omega)), s5, s9, e24 _ _ (by omega) (by omega), e26 _ _ (by omega) (by omega) (by omega) (by omega) (by omega)]
          exact oc
      · have b' : i < B.g + 1 := b
        have j1' : j < up1 B.sn B.g r1.1 i := j1
        show zA _ (sp + 3) (i * 4 + j) = (if i = B.g then r1.2.1 else B.sk i) j ∧ zA _ (sp + 4) (i * 4 + j) = (if i = B.g then r1.2.2.1 else B.sv i) j
        rw [e57 _ _ (by omega) (by omega) (by omega) (by omega) (by omega), e57 _ _ (by omega) (by omega) (by omega) (by omega) (by omega)]
        by_cases q : i = B.g
        · rw [q, up1_at] at j1'
          rw [if_pos q, if_pos q, q]
          exact P5.1 j j0 j1'
        · rw [up1_ne q] at j1'
          have cv := ho.2.1 i a (by omega)
          have s3 : zA h5 (sp + 3) (i * 4 + j) = zA h4 (sp + 3) (i * 4 + j) ∧ zA h5 (sp + 4) (i * 4 + j) = zA h4 (sp + 4) (i * 4 + j) := P5.2.1 (i * 4 + j) (by omega) (by have := cv.2.1; omega)
          rw [if_neg q, if_neg q, s3.1, s3.2, e24 _ _ (by omega) (by omega), e24 _ _ (by omega) (by omega)]
          exact hC.2.2.1 i a (by omega) j j0 j1'
      · have b' : i < B.g + 1 := b
        have j1' : j < up1 B.gn B.g r2.1 i := j1
        show zA _ (sp + 7) (i * 4 + j) = (if i = B.g then r2.2.1 else B.gk i) j ∧ zA _ (sp + 8) (i * 4 + j) = (if i = B.g then r2.2.2.1 else B.gv i) j
        rw [F8.A (q8 _ _ (by omega)), F8.A (q8 _ _ (by omega))]
        by_cases q : i = B.g
        · rw [q, up1_at] at j1'
          rw [if_pos q, if_pos q, q]
          exact P7.1 j j0 j1'
        · rw [up1_ne q] at j1'
          have cv := ho.2.2.1 i a (by omega)
          have s3 : zA h7 (sp + 7) (i * 4 + j) = zA h6 (sp + 7) (i * 4 + j) ∧ zA h7 (sp + 8) (i * 4 + j) = zA h6 (sp + 8) (i * 4 + j) := P7.2.1 (i * 4 + j) (by omega) (by have := cv.2.1; omega)
          rw [if_neg q, if_neg q, s3.1, s3.2, e26 _ _ (by omega) (by omega) (by omega) (by omega) (by omega), e26 _ _ (by omega) (by omega) (by omega) (by omega) (by omega)]
          exact hC.2.2.2.1 i a (by omega) j j0 j1'
      · have b' : i < B.t := b
        show zL _ (sp + 10) i = B.tn i ∧ zA _ (sp + 11) i = B.ea i ∧ zA _ (sp + 12) i = B.on i ∧ zA _ (sp + 13) i = B.pr i
        rw [eL _ _ (Or.inr rfl), f3.L (q3 _ _ (by omega) (by omega)), f2.L (tk_p (by omega)), e57 _ _ (by omega) (by omega) (by omega) (by omega) (by omega), e57 _ _ (by omega) (by omega) (by omega) (by omega) (by omega), e57 _ _ (by omega) (by omega) (by omega) (by omega) (by omega), e25 _ _ (by omega) (by omega) (by omega) (by omega) (by omega), e25 _ _ (by omega) (by omega) (by omega) (by omega) (by omega), e25 _ _ (by omega) (by omega) (by omega) (by omega) (by omega)]
        exact hC.2.2.2.2 i a b'
    have R := kt _ rfl _ (F7.trans (F8.mono (fun a j q => by simp [pB] at q; simp [pF]; omega))) (T7.fr F8 (fun j => by left; simp [pF] <;> omega)) C8 (eF 9 (by decide)) e37
    have hL := L7
    refine v_if_ne r_9_106 (by first | exact zF_in _ _ _ | exact zA_in _ _ _ | omega) (fun _ => ?_) (fun q => absurd q (by omega))
    refine w_aload1 r_9_111 ?_
    refine w_iload2 r_9_112 ?_
    refine w_iconst (v := iI (1)) r_9_113 rfl ?_
    refine v_iadd r_9_114 ?_
    refine w_putI r_9_115 (Bk_ hL hb) (hL.n (by omega)) ?_
    refine w_iconst (v := iI (1)) r_9_118 rfl ?_
    refine w_zret r_9_119 (by decide) ?_
    exact R
  have nam : ∀ ag : Bool, (τ.k k1 = 1 → (ag = true ↔ ¬ nmI B.nm B.g (τ.w k1) = -1)) → XW (d + 8) 9 33 [.ref 4, .ref sp, .int (iI B.g), .int (iI (b2i ag))] [] h2 (KI K) := by
    intro ag hag
    have hN := hL.2.2.1
    refine w_aload0 r_9_33 ?_
    refine w_iload3 r_9_34 ?_
    refine w_iload2 r_9_35 ?_
    refine w_aload1 r_9_36 ?_
    refine w_getA (x := sp + 1) r_9_37 (Bk_ hL hb) (Br_1 hL hb) (by omega) ?_
    refine k_10 r_9_40 (Lk_4 hL) (Nat.le_of_ble_eq_true rfl) ?_
    refine c_takeNewName (zs := 8) (f := B.nm) hL S2 X2 T2 ⟨(Bk_1 hL hb).1, (Bk_1 hL hb).2, by omega, by omega⟩ (by omega) (by decide) (by omega) hag (fun j gN h3 f3 X3 T3 n3 o3 => ?_) (fun e gN h3 f3 b3 => ?_)
    · have e := (gName_ok X2.1 T2.1 gN).2.2.2.1
      subst e
      refine v_if_ne r_9_43 (by omega) (fun _ => ?_) (fun q => absurd q (by omega))
      exact go h3 f3 X3 T3 n3 o3 gN _
    · have F := kf e (bnd_l gN) h3 ((pB_tk f2).trans (pB_tf f3)) b3
      have hL := f3.lay hL
      refine v_if_ne r_9_43 (by first | exact zF_in _ _ _ | exact zA_in _ _ _ | omega) (fun q => absurd q (by omega)) (fun _ => ?_)
      refine w_iconst (v := iI (0)) r_9_46 rfl ?_
      refine w_zret r_9_47 (by decide) ?_
      exact F
  have zw : τ.k k1 = 1 → (gL h2 3 6).toInt = τ.w k1 := fun q => by rw [T2.2.2.2.2.2 q, iL_t (w_rng X2.1 T2.1 q)]
  have ni := nmI_in B.nm B.g (gL h2 3 6).toInt (by omega)
  by_cases q : nmI B.nm B.g (gL h2 3 6).toInt = -1
  · have N := nam false (fun z => by rw [← zw z]; simp [q])
    change XW (d + 8) 9 33 [.ref 4, .ref sp, .int (iI B.g), .int (iI 0)] [] h2 (KI K) at N
    refine w_aload1 r_9_7 ?_
    refine v_getI r_9_8 (Bk_ hL hb) C2.f0 ?_
    refine w_istore2 r_9_11 rfl ?_
    refine w_aload1 r_9_12 ?_
    refine w_aload0 r_9_13 ?_
    refine w_getA (x := 3) r_9_14 (Lk_4 hL) (Lr_4_0 hL) (by decide) ?_
    refine v_getL r_9_17 (Lk_3 hL) lz.1 ?_
    refine k_4 r_9_20 (Bk_ hL hb) (Nat.le_of_ble_eq_true rfl) ?_
    refine c_groundNamed (d := d + 6) hL hb C2 (by omega) lz.2 ?_
    refine w_iconst (v := iI (-1)) r_9_23 rfl ?_
    refine v_ic_eq r_9_24 (by first | exact zF_in _ _ _ | exact zA_in _ _ _ | omega) (by first | exact zF_in _ _ _ | exact zA_in _ _ _ | omega) (fun _ => ?_) (fun q => absurd q (by omega))
    refine w_iconst (v := iI (0)) r_9_31 rfl ?_
    refine w_istore3 r_9_32 rfl ?_
    exact N
  · have N := nam true (fun z => by rw [← zw z]; simp [q])
    change XW (d + 8) 9 33 [.ref 4, .ref sp, .int (iI B.g), .int (iI 1)] [] h2 (KI K) at N
    refine w_aload1 r_9_7 ?_
    refine v_getI r_9_8 (Bk_ hL hb) C2.f0 ?_
    refine w_istore2 r_9_11 rfl ?_
    refine w_aload1 r_9_12 ?_
    refine w_aload0 r_9_13 ?_
    refine w_getA (x := 3) r_9_14 (Lk_4 hL) (Lr_4_0 hL) (by decide) ?_
    refine v_getL r_9_17 (Lk_3 hL) lz.1 ?_
    refine k_4 r_9_20 (Bk_ hL hb) (Nat.le_of_ble_eq_true rfl) ?_
    refine c_groundNamed (d := d + 6) hL hb C2 (by omega) lz.2 ?_
    refine w_iconst (v := iI (-1)) r_9_23 rfl ?_
    refine v_ic_eq r_9_24 (by first | exact zF_in _ _ _ | exact zA_in _ _ _ | omega) (by first | exact zF_in _ _ _ | exact zA_in _ _ _ | omega) (fun q => absurd q (by omega)) (fun _ => ?_)
    refine w_iconst (v := iI (1)) r_9_27 rfl ?_
    refine w_goto r_9_28 ?_
    refine w_istore3 r_9_32 rfl ?_
    exact N
end CB3
