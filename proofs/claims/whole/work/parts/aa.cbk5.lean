/-! the class reads a book: tries, all lines -/
section CB5
variable {d : Nat} {h : XH} {K : Int32 → XH → Prop} {KU : XH → Prop} {τ : XT} {k : Int} {w : List Int} {a sp : Nat} {B : XB}
abbrev PTr (sp : Nat) : Nat → Nat → Bool := pO PTk (pA [sp + 10, sp + 11, sp + 12, sp + 13])
theorem PTr_no {x j : Nat} (h3 : ¬ x = 3) (hs : x < sp + 10 ∨ sp + 13 < x) : PTr sp x j = false := by
  simp only [pO, Bool.or_eq_false_iff]
  exact ⟨tk_p h3, by simp [pA]; omega⟩
theorem PTr_pB {g : XH} (f : Fr (PTr sp) h g) : Fr (pB sp) h g := pB_pO (l := [sp + 10, sp + 11, sp + 12, sp + 13]) (fun x hx => by simp at hx; omega) (pk_pf f)
theorem PTr_37 {g : XH} (hb : sp = 6 ∨ sp = 20) (f : Fr (PTr sp) h g) : zF g 3 7 = zF h 3 7 := f.F (by simp [pO, pA, pF] <;> omega)
theorem TC.row {g : XH} {x j : Nat} {v : Int32} (hx : ¬ x = 3) (T : TC g τ k) : TC (sI g x j v) τ k := T.fr (((Fr.refl (pF [(x, j)]) g).sI x j v (by simp [pF]))) (fun i => by left; simp [pF]; omega)
theorem PTr_put {g : XH} {x j : Nat} {v : Int32} (hx : x = sp + 11 ∨ x = sp + 12 ∨ x = sp + 13) (f : Fr (PTr sp) h g) : Fr (PTr sp) h (sI g x j v) := f.sI x j v (by simp only [pO, Bool.or_eq_true]; right; simp [pA]; omega)
theorem c_readTry (hL : Lay h) (hS : StC h) (hX : TX h τ) (hT : TC h τ k) (hb : sp = 6 ∨ sp = 20) (hC : CBk h sp B) (ho : B.ok)
    (kt : ∀ r, gTry τ B (τ.e k) = .inr r → ∀ h', Fr (pB sp) h h' → TC h' τ r.2 → CBk h' sp r.1 → zF h' sp 9 = zF h sp 9 → zF h' 3 7 = zF h 3 7 → K (iI 1) h')
    (kf : ∀ e, gTry τ B (τ.e k) = .inl e → ∀ h', Fr (pB sp) h h' → BL h' e → K (iI 0) h') : XW (d + 8) 14 0 [.ref 4, .ref sp, .null, .null] [] h (KI K) := by
  have o := ho.1
  have p := TC.pos hX hT
  have hL0 := hL
  refine w_aload0 r_14_0 ?_
  refine w_getA (x := 3) r_14_1 (Lk_4 hL) (Lr_4_0 hL) (by decide) ?_
  refine k_89 r_14_4 (Lk_3 hL) (Nat.le_of_ble_eq_true rfl) ?_
  refine c_advance (d := d + 6) hL hX (by omega) hT.i.2.1 (fun h2 f2 T2 => ?_)
  generalize τ.e k = k1 at kt kf T2
  have X2 := tk_TX f2 hX
  have S2 := tk_StC f2 hS
  have C2 := tk_CBk f2 hb hC
  have hL := f2.lay hL0
  have lz := iL_of (gL h2 3 6)
  have p2 := TC.pos X2 T2
  have go : ∀ g, Fr (PTr sp) h g → TC g τ (τ.e k1) → zL g (sp + 10) B.t = τ.w k1 → (∀ i, 0 ≤ i → ¬ i = B.t → zL g (sp + 10) i = zL h (sp + 10) i) → (∀ x i, ¬ x = 3 → ¬ x = sp + 10 → zA g x i = zA h x i) → gName τ B.tn B.t 6 k1 = .inr (τ.e k1) → ∀ X3 : Value, XW (d + 8) 14 48 [.ref 4, .ref sp, .int (iI B.t), X3] [] g (KI K) := by
    intro g fg Tg n3 o3 eg gN X3v
    have t6 := (gName_ok X2.1 T2.1 gN).2.1
    unfold gTry at kt kf
    rw [bnd_r gN] at kt kf
    -- behind the third number
    have last : ∀ (x y z : Int × Int) (g4 : XH), Fr (PTr sp) h g4 → TC g4 τ z.2 → zL g4 (sp + 10) B.t = τ.w k1 → (∀ i, 0 ≤ i → ¬ i = B.t → zL g4 (sp + 10) i = zL h (sp + 10) i) → (zA g4 (sp + 11) B.t = x.1 ∧ zA g4 (sp + 12) B.t = y.1 ∧ zA g4 (sp + 13) B.t = z.1) → (∀ i, 0 ≤ i → ¬ i = B.t → zA g4 (sp + 11) i = zA h (sp + 11) i ∧ zA g4 (sp + 12) i = zA h (sp + 12) i ∧ zA g4 (sp + 13) i = zA h (sp + 13) i) → gTurn τ sW_each (τ.e k1) = .inr x → gTurn τ sW_one x.2 = .inr y → gTold τ sW_cost 1 99 y.2 = .inr z → XW (d + 8) 14 127 [.ref 4, .ref sp, .int (iI B.t), X3v] [] g4 (KI K) := by
      intro x y z g4 f4 T4 n4 o4 v4 w4 q1 q2 q3
      have hL := f4.lay hL0
      rw [bnd_r q1, bnd_r q2, bnd_r q3] at kt
      have F5 : Fr (pF [(sp, 4)]) g4 (sI g4 sp 4 (iI (B.t + 1))) := (Fr.refl _ _).sI sp 4 _ (by simp [pF])
      have q5 : ∀ x j, ¬ (x = sp ∧ j = 4) → pF [(sp, 4)] x j = false := fun x j a => by simp [pF]; omega
      have q4 : ∀ x j, ¬ x = 3 → x < sp + 10 ∨ sp + 13 < x → PTr sp x j = false := fun x j a b => PTr_no a b
      have C5 : CBk (sI g4 sp 4 (iI (B.t + 1))) sp (addT B (τ.w k1) x.1 y.1 z.1) := by
        have eF : ∀ j, ¬ j = 4 → zF (sI g4 sp 4 (iI (B.t + 1))) sp j = zF h sp j := fun j a => by rw [F5.F (q5 _ _ (by omega)), f4.F (q4 _ _ (by omega) (by omega))]
        have eA : ∀ x i, ¬ x = 3 → x < sp + 10 ∨ sp + 13 < x → ¬ x = sp → zA (sI g4 sp 4 (iI (B.t + 1))) x i = zA h x i := fun x i a b c => by rw [F5.A (q5 _ _ (by omega)), f4.A (q4 _ _ a b)]
        refine ⟨⟨(eF 0 (by decide)).trans hC.1.1, zF_s (by omega), (eF 10 (by decide)).trans hC.1.2.2.1, (eF 11 (by decide)).trans hC.1.2.2.2.1, (eF 12 (by decide)).trans hC.1.2.2.2.2.1, (eF 13 (by decide)).trans hC.1.2.2.2.2.2.1, (eF 14 (by decide)).trans hC.1.2.2.2.2.2.2⟩, fun i a b => ?_, fun i a b j j0 j1 => ?_, fun i a b j j0 j1 => ?_, fun i a b => ?_⟩
        · have s : zL (sI g4 sp 4 (iI (B.t + 1))) (sp + 1) i = zL g4 (sp + 1) i := rfl
          rw [s, f4.L (q4 _ _ (by omega) (by omega)), eA _ _ (by omega) (by omega) (by omega), eA _ _ (by omega) (by omega) (by omega)]
          exact hC.2.1 i a b
        · rw [eA _ _ (by omega) (by omega) (by omega), eA _ _ (by omega) (by omega) (by omega)]
          exact hC.2.2.1 i a b j j0 j1
        · rw [eA _ _ (by omega) (by omega) (by omega), eA _ _ (by omega) (by omega) (by omega)]
          exact hC.2.2.2.1 i a b j j0 j1
        · have b' : i < B.t + 1 := b
          have s : zL (sI g4 sp 4 (iI (B.t + 1))) (sp + 10) i = zL g4 (sp + 10) i := rfl
          show zL _ (sp + 10) i = up1 B.tn B.t (τ.w k1) i ∧ zA _ (sp + 11) i = up1 B.ea B.t x.1 i ∧ zA _ (sp + 12) i = up1 B.on B.t y.1 i ∧ zA _ (sp + 13) i = up1 B.pr B.t z.1 i
          rw [s, F5.A (q5 _ _ (by omega)), F5.A (q5 _ _ (by omega)), F5.A (q5 _ _ (by omega))]
          by_cases q : i = B.t
          · rw [q, up1_at, up1_at, up1_at, up1_at]; exact ⟨n4, v4.1, v4.2.1, v4.2.2⟩
          · rw [up1_ne q, up1_ne q, up1_ne q, up1_ne q, o4 i a q, (w4 i a q).1, (w4 i a q).2.1, (w4 i a q).2.2]
            exact hC.2.2.2.2 i a (by omega)
      have R := kt _ rfl _ ((PTr_pB f4).trans (F5.mono (fun a j q => by simp [pB] at q; simp [pF]; omega))) (T4.fr F5 (fun j => by left; simp [pF] <;> omega)) C5 (by rw [F5.F (q5 _ _ (by omega)), f4.F (q4 _ _ (by omega) (by omega))]) (by rw [F5.F (q5 _ _ (by omega)), PTr_37 hb f4])
      refine w_aload1 r_14_127 ?_
      refine w_iload2 r_14_128 ?_
      refine w_iconst (v := iI (1)) r_14_129 rfl ?_
      refine v_iadd r_14_130 ?_
      refine w_putI r_14_131 (Bk_ hL hb) (hL.n (by omega)) ?_
      refine w_iconst (v := iI (1)) r_14_134 rfl ?_
      refine w_zret r_14_135 (by decide) ?_
      exact R
    have third : ∀ (x y : Int × Int) (g3 : XH), Fr (PTr sp) h g3 → TC g3 τ y.2 → zL g3 (sp + 10) B.t = τ.w k1 → (∀ i, 0 ≤ i → ¬ i = B.t → zL g3 (sp + 10) i = zL h (sp + 10) i) → (zA g3 (sp + 11) B.t = x.1 ∧ zA g3 (sp + 12) B.t = y.1) → (∀ i, 0 ≤ i → ¬ i = B.t → zA g3 (sp + 11) i = zA h (sp + 11) i ∧ zA g3 (sp + 12) i = zA h (sp + 12) i ∧ zA g3 (sp + 13) i = zA h (sp + 13) i) → gTurn τ sW_each (τ.e k1) = .inr x → gTurn τ sW_one x.2 = .inr y → XW (d + 8) 14 100 [.ref 4, .ref sp, .int (iI B.t), X3v] [] g3 (KI K) := by
      intro x y g3 f3 T3 n3 o3 v3 w3 q1 q2
      have hL := f3.lay hL0
      have Xg := pB_TX hb (PTr_pB f3) hX
      have Sg := pB_StC hb (PTr_pB f3) hS
      rw [bnd_r q1, bnd_r q2] at kf
      refine w_aload1 r_14_100 ?_
      refine w_getA (x := sp + 13) r_14_101 (Bk_ hL hb) (Br_8 hL hb) (by omega) ?_
      refine w_iload2 r_14_104 ?_
      refine w_aload0 r_14_105 ?_
      refine w_ldcS (a := 1000054) r_14_106 rfl ?_
      refine w_iconst (v := iI (1)) r_14_108 rfl ?_
      refine w_bipush (v := iI (99)) r_14_109 rfl ?_
      refine k_13 r_14_111 (Lk_4 hL) (Nat.le_of_ble_eq_true rfl) ?_
      refine c_takeTold (by decide) (by decide) hL Xg T3 (sS_22 hL Sg) (fun r gr h5 f5 t5 => ?_) (fun e ge h5 f5 b5 => ?_)
      skip
      · have rn := (gTold_ok Xg.1 T3.1 gr).1
        have hL := f5.lay hL
        have z5 : ∀ u i, ¬ u = 3 → ¬ u = sp + 13 → zA (sI h5 (sp + 13) B.t.toNat (iI r.1)) u i = zA g3 u i := fun u i a b => by rw [zA_o _ b, f5.A (tk_p a)]
        have y5 : ∀ i, 0 ≤ i → zA (sI h5 (sp + 13) B.t.toNat (iI r.1)) (sp + 13) i = if i = B.t then r.1 else zA g3 (sp + 13) i := fun i a => by rw [zA_s (by omega) a (by omega), f5.A (tk_p (by omega))]
        have J := last x y r (sI h5 (sp + 13) B.t.toNat (iI r.1)) (PTr_put (by omega) (f3.trans (fr_pO f5))) (TC.row (by omega) t5) (by rw [zL_sI, f5.L (tk_p (by omega))]; exact n3) (fun i a b => by rw [zL_sI, f5.L (tk_p (by omega))]; exact o3 i a b) ⟨by rw [z5 _ _ (by omega) (by omega)]; exact v3.1, by rw [z5 _ _ (by omega) (by omega)]; exact v3.2, by rw [y5 _ (by omega), if_pos rfl]⟩ (fun i a b => by rw [z5 _ _ (by omega) (by omega), z5 _ _ (by omega) (by omega), y5 i a, if_neg b]; exact w3 i a b) q1 q2 gr
        have vz : gI (sI h5 (sp + 13) B.t.toNat (iI r.1)) (sp + 13) B.t.toNat = iI r.1 := by rw [gI_A, y5 _ (by omega), if_pos rfl]
        refine v_iast r_14_114 (Bk_13 hL hb).1 (hL.n (by omega)) (Bk_13 hL hb).2 (by decide) (by omega) ?_
        refine w_aload1 r_14_115 ?_
        refine w_getA (x := sp + 13) r_14_116 (Bk_ hL hb) (Br_8 hL hb) (by omega) ?_
        refine w_iload2 r_14_119 ?_
        refine v_iald r_14_120 (Bk_13 hL hb).1 (Bk_13 hL hb).2 (by decide) (by omega) vz ?_
        refine w_iconst (v := iI (-1)) r_14_121 rfl ?_
        refine v_ic_ne r_14_122 (by first | exact zF_in _ _ _ | exact zA_in _ _ _ | omega) (by first | exact zF_in _ _ _ | exact zA_in _ _ _ | omega) (fun _ => ?_) (fun q => absurd q (by omega))
        exact J
      · have R := kf e (bnd_l ge) (sI h5 (sp + 13) B.t.toNat (iI (-1))) (((PTr_pB f3).trans (pB_tp f5)).sI _ _ _ (by simp [pB])) ⟨by rw [zF_o (by omega)]; exact b5.1, by rw [zF_o (by omega)]; exact b5.2⟩
        have hL := f5.lay hL
        have vz : gI (sI h5 (sp + 13) B.t.toNat (iI (-1))) (sp + 13) B.t.toNat = iI (-1) := by rw [sI_here, if_pos rfl]
        refine v_iast r_14_114 (Bk_13 hL hb).1 (hL.n (by omega)) (Bk_13 hL hb).2 (by decide) (by omega) ?_
        refine w_aload1 r_14_115 ?_
        refine w_getA (x := sp + 13) r_14_116 (Bk_ hL hb) (Br_8 hL hb) (by omega) ?_
        refine w_iload2 r_14_119 ?_
        refine v_iald r_14_120 (Bk_13 hL hb).1 (Bk_13 hL hb).2 (by decide) (by omega) vz ?_
        refine w_iconst (v := iI (-1)) r_14_121 rfl ?_
        refine v_ic_ne r_14_122 (by first | exact zF_in _ _ _ | exact zA_in _ _ _ | omega) (by first | exact zF_in _ _ _ | exact zA_in _ _ _ | omega) (fun q => absurd q (by omega)) (fun _ => ?_)
        refine w_iconst (v := iI (0)) r_14_125 rfl ?_
        refine w_zret r_14_126 (by decide) ?_
        exact R
    have second : ∀ (x : Int × Int) (g3 : XH), Fr (PTr sp) h g3 → TC g3 τ x.2 → zL g3 (sp + 10) B.t = τ.w k1 → (∀ i, 0 ≤ i → ¬ i = B.t → zL g3 (sp + 10) i = zL h (sp + 10) i) → zA g3 (sp + 11) B.t = x.1 → (∀ i, 0 ≤ i → ¬ i = B.t → zA g3 (sp + 11) i = zA h (sp + 11) i ∧ zA g3 (sp + 12) i = zA h (sp + 12) i ∧ zA g3 (sp + 13) i = zA h (sp + 13) i) → gTurn τ sW_each (τ.e k1) = .inr x → XW (d + 8) 14 74 [.ref 4, .ref sp, .int (iI B.t), X3v] [] g3 (KI K) := by
      intro x g3 f3 T3 n3 o3 v3 w3 q1
      have hL := f3.lay hL0
      have Xg := pB_TX hb (PTr_pB f3) hX
      have Sg := pB_StC hb (PTr_pB f3) hS
      rw [bnd_r q1] at kf
      refine w_aload1 r_14_74 ?_
      refine w_getA (x := sp + 12) r_14_75 (Bk_ hL hb) (Br_7 hL hb) (by omega) ?_
      refine w_iload2 r_14_78 ?_
      refine w_aload0 r_14_79 ?_
      refine w_ldcS (a := 1000052) r_14_80 rfl ?_
      refine k_15 r_14_82 (Lk_4 hL) (Nat.le_of_ble_eq_true rfl) ?_
      refine c_takeTurn hL Xg T3 (sS_21 hL Sg) (fun r gr h5 f5 t5 => ?_) (fun e ge h5 f5 b5 => ?_)
      skip
      · have rn := (gTurn_ok Xg.1 T3.1 gr).1
        have hL := f5.lay hL
        have z5 : ∀ u i, ¬ u = 3 → ¬ u = sp + 12 → zA (sI h5 (sp + 12) B.t.toNat (iI r.1)) u i = zA g3 u i := fun u i a b => by rw [zA_o _ b, f5.A (tk_p a)]
        have y5 : ∀ i, 0 ≤ i → zA (sI h5 (sp + 12) B.t.toNat (iI r.1)) (sp + 12) i = if i = B.t then r.1 else zA g3 (sp + 12) i := fun i a => by rw [zA_s (by omega) a (by omega), f5.A (tk_p (by omega))]
        have J := third x r (sI h5 (sp + 12) B.t.toNat (iI r.1)) (PTr_put (by omega) (f3.trans (fr_pO f5))) (TC.row (by omega) t5) (by rw [zL_sI, f5.L (tk_p (by omega))]; exact n3) (fun i a b => by rw [zL_sI, f5.L (tk_p (by omega))]; exact o3 i a b) ⟨by rw [z5 _ _ (by omega) (by omega)]; exact v3, by rw [y5 _ (by omega), if_pos rfl]⟩ (fun i a b => by rw [z5 (sp + 11) i (by omega) (by omega), y5 i a, if_neg b, z5 (sp + 13) i (by omega) (by omega)]; exact w3 i a b) q1 gr
        have vz : gI (sI h5 (sp + 12) B.t.toNat (iI r.1)) (sp + 12) B.t.toNat = iI r.1 := by rw [gI_A, y5 _ (by omega), if_pos rfl]
        refine v_iast r_14_85 (Bk_12 hL hb).1 (hL.n (by omega)) (Bk_12 hL hb).2 (by decide) (by omega) ?_
        refine w_aload1 r_14_86 ?_
        refine w_getA (x := sp + 12) r_14_87 (Bk_ hL hb) (Br_7 hL hb) (by omega) ?_
        refine w_iload2 r_14_90 ?_
        refine v_iald r_14_91 (Bk_12 hL hb).1 (Bk_12 hL hb).2 (by decide) (by omega) vz ?_
        refine w_sipush (v := iI (-1000)) r_14_92 rfl ?_
        refine v_ic_ne r_14_95 (by first | exact zF_in _ _ _ | exact zA_in _ _ _ | omega) (by first | exact zF_in _ _ _ | exact zA_in _ _ _ | omega) (fun _ => ?_) (fun q => absurd q (by omega))
        exact J
      · have R := kf e (bnd_l ge) (sI h5 (sp + 12) B.t.toNat (iI (-1000))) (((PTr_pB f3).trans (pB_tp f5)).sI _ _ _ (by simp [pB])) ⟨by rw [zF_o (by omega)]; exact b5.1, by rw [zF_o (by omega)]; exact b5.2⟩
        have hL := f5.lay hL
        have vz : gI (sI h5 (sp + 12) B.t.toNat (iI (-1000))) (sp + 12) B.t.toNat = iI (-1000) := by rw [sI_here, if_pos rfl]
        refine v_iast r_14_85 (Bk_12 hL hb).1 (hL.n (by omega)) (Bk_12 hL hb).2 (by decide) (by omega) ?_
        refine w_aload1 r_14_86 ?_
        refine w_getA (x := sp + 12) r_14_87 (Bk_ hL hb) (Br_7 hL hb) (by omega) ?_
        refine w_iload2 r_14_90 ?_
        refine v_iald r_14_91 (Bk_12 hL hb).1 (Bk_12 hL hb).2 (by decide) (by omega) vz ?_
        refine w_sipush (v := iI (-1000)) r_14_92 rfl ?_
        refine v_ic_ne r_14_95 (by first | exact zF_in _ _ _ | exact zA_in _ _ _ | omega) (by first | exact zF_in _ _ _ | exact zA_in _ _ _ | omega) (fun q => absurd q (by omega)) (fun _ => ?_)
        refine w_iconst (v := iI (0)) r_14_98 rfl ?_
        refine w_zret r_14_99 (by decide) ?_
        exact R
    have hL := fg.lay hL0
    have Xg := pB_TX hb (PTr_pB fg) hX
    have Sg := pB_StC hb (PTr_pB fg) hS
    refine w_aload1 r_14_48 ?_
    refine w_getA (x := sp + 11) r_14_49 (Bk_ hL hb) (Br_6 hL hb) (by omega) ?_
    refine w_iload2 r_14_52 ?_
    refine w_aload0 r_14_53 ?_
    refine w_ldcS (a := 1000050) r_14_54 rfl ?_
    refine k_15 r_14_56 (Lk_4 hL) (Nat.le_of_ble_eq_true rfl) ?_
    refine c_takeTurn hL Xg Tg (sS_20 hL Sg) (fun r gr h5 f5 t5 => ?_) (fun e ge h5 f5 b5 => ?_)
    skip
    · have rn := (gTurn_ok Xg.1 Tg.1 gr).1
      have hL := f5.lay hL
      have z5 : ∀ u i, ¬ u = 3 → ¬ u = sp + 11 → zA (sI h5 (sp + 11) B.t.toNat (iI r.1)) u i = zA g u i := fun u i a b => by rw [zA_o _ b, f5.A (tk_p a)]
      have y5 : ∀ i, 0 ≤ i → zA (sI h5 (sp + 11) B.t.toNat (iI r.1)) (sp + 11) i = if i = B.t then r.1 else zA g (sp + 11) i := fun i a => by rw [zA_s (by omega) a (by omega), f5.A (tk_p (by omega))]
      have J := second r (sI h5 (sp + 11) B.t.toNat (iI r.1)) (PTr_put (by omega) (fg.trans (fr_pO f5))) (TC.row (by omega) t5) (by rw [zL_sI, f5.L (tk_p (by omega))]; exact n3) (fun i a b => by rw [zL_sI, f5.L (tk_p (by omega))]; exact o3 i a b) (by rw [y5 _ (by omega), if_pos rfl]) (fun i a b => by rw [y5 i a, if_neg b, z5 (sp + 12) i (by omega) (by omega), z5 (sp + 13) i (by omega) (by omega), eg _ _ (by omega) (by omega), eg _ _ (by omega) (by omega), eg _ _ (by omega) (by omega)]; exact ⟨rfl, rfl, rfl⟩) gr
      have vz : gI (sI h5 (sp + 11) B.t.toNat (iI r.1)) (sp + 11) B.t.toNat = iI r.1 := by rw [gI_A, y5 _ (by omega), if_pos rfl]
      refine v_iast r_14_59 (Bk_11 hL hb).1 (hL.n (by omega)) (Bk_11 hL hb).2 (by decide) (by omega) ?_
      refine w_aload1 r_14_60 ?_
      refine w_getA (x := sp + 11) r_14_61 (Bk_ hL hb) (Br_6 hL hb) (by omega) ?_
      refine w_iload2 r_14_64 ?_
      refine v_iald r_14_65 (Bk_11 hL hb).1 (Bk_11 hL hb).2 (by decide) (by omega) vz ?_
      refine w_sipush (v := iI (-1000)) r_14_66 rfl ?_
      refine v_ic_ne r_14_69 (by first | exact zF_in _ _ _ | exact zA_in _ _ _ | omega) (by first | exact zF_in _ _ _ | exact zA_in _ _ _ | omega) (fun _ => ?_) (fun q => absurd q (by omega))
      exact J
    · have R := kf e (bnd_l ge) (sI h5 (sp + 11) B.t.toNat (iI (-1000))) (((PTr_pB fg).trans (pB_tp f5)).sI _ _ _ (by simp [pB])) ⟨by rw [zF_o (by omega)]; exact b5.1, by rw [zF_o (by omega)]; exact b5.2⟩
      have hL := f5.lay hL
      have vz : gI (sI h5 (sp + 11) B.t.toNat (iI (-1000))) (sp + 11) B.t.toNat = iI (-1000) := by rw [sI_here, if_pos rfl]
      refine v_iast r_14_59 (Bk_11 hL hb).1 (hL.n (by omega)) (Bk_11 hL hb).2 (by decide) (by omega) ?_
      refine w_aload1 r_14_60 ?_
      refine w_getA (x := sp + 11) r_14_61 (Bk_ hL hb) (Br_6 hL hb) (by omega) ?_
      refine w_iload2 r_14_64 ?_
      refine v_iald r_14_65 (Bk_11 hL hb).1 (Bk_11 hL hb).2 (by decide) (by omega) vz ?_
      refine w_sipush (v := iI (-1000)) r_14_66 rfl ?_
      refine v_ic_ne r_14_69 (by first | exact zF_in _ _ _ | exact zA_in _ _ _ | omega) (by first | exact zF_in _ _ _ | exact zA_in _ _ _ | omega) (fun q => absurd q (by omega)) (fun _ => ?_)
      refine w_iconst (v := iI (0)) r_14_72 rfl ?_
      refine w_zret r_14_73 (by decide) ?_
      exact R
  have nam : ∀ ag : Bool, (τ.k k1 = 1 → (ag = true ↔ ¬ nmI B.tn B.t (τ.w k1) = -1)) → XW (d + 8) 14 33 [.ref 4, .ref sp, .int (iI B.t), .int (iI (b2i ag))] [] h2 (KI K) := by
    intro ag hag
    have hN := hL.2.2.1
    refine w_aload0 r_14_33 ?_
    refine w_iload3 r_14_34 ?_
    refine w_iload2 r_14_35 ?_
    refine w_aload1 r_14_36 ?_
    refine w_getA (x := sp + 10) r_14_37 (Bk_ hL hb) (Br_5 hL hb) (by omega) ?_
    refine k_10 r_14_40 (Lk_4 hL) (Nat.le_of_ble_eq_true rfl) ?_
    refine c_takeNewName (zs := 6) (f := B.tn) hL S2 X2 T2 ⟨(Bk_10 hL hb).1, (Bk_10 hL hb).2, by omega, by omega⟩ (by omega) (by decide) (by omega) hag (fun j gN h3 f3 X3 T3 n3 o3 => ?_) (fun e gN h3 f3 b3 => ?_)
    · have e := (gName_ok X2.1 T2.1 gN).2.2.2.1
      subst e
      refine v_if_ne r_14_43 (by omega) (fun _ => ?_) (fun q => absurd q (by omega))
      have q3 : ∀ x j, ¬ x = 3 → ¬ x = sp + 10 → pO PTk (pA [sp + 10]) x j = false := fun x j a b => by simp [pO, pA, pF]; omega
      have F3 : Fr (PTr sp) h h3 := (fr_pO f2).trans (f3.mono (fun x j q => by
        simp only [pO, Bool.or_eq_false_iff] at q ⊢
        refine ⟨q.1, ?_⟩
        have := q.2
        simp [pA] at this ⊢
        exact this.1))
      exact go h3 F3 T3 n3 (fun i a b => by rw [o3 i a b, f2.L (tk_p (by omega))]) (fun x i a c => by rw [f3.A (q3 _ _ a c), f2.A (tk_p a)]) gN _
    · have F := kf e (bnd_l gN) h3 ((pB_tk f2).trans (pB_tf f3)) b3
      have hL := f3.lay hL
      refine v_if_ne r_14_43 (by first | exact zF_in _ _ _ | exact zA_in _ _ _ | omega) (fun q => absurd q (by omega)) (fun _ => ?_)
      refine w_iconst (v := iI (0)) r_14_46 rfl ?_
      refine w_zret r_14_47 (by decide) ?_
      exact F
  have zw : τ.k k1 = 1 → (gL h2 3 6).toInt = τ.w k1 := fun q => by rw [T2.2.2.2.2.2 q, iL_t (w_rng X2.1 T2.1 q)]
  have ni := nmI_in B.tn B.t (gL h2 3 6).toInt (by omega)
  by_cases q : nmI B.tn B.t (gL h2 3 6).toInt = -1
  · have N := nam false (fun z => by rw [← zw z]; simp [q])
    change XW (d + 8) 14 33 [.ref 4, .ref sp, .int (iI B.t), .int (iI 0)] [] h2 (KI K) at N
    refine w_aload1 r_14_7 ?_
    refine v_getI r_14_8 (Bk_ hL hb) C2.f4 ?_
    refine w_istore2 r_14_11 rfl ?_
    refine w_aload1 r_14_12 ?_
    refine w_aload0 r_14_13 ?_
    refine w_getA (x := 3) r_14_14 (Lk_4 hL) (Lr_4_0 hL) (by decide) ?_
    refine v_getL r_14_17 (Lk_3 hL) lz.1 ?_
    refine k_5 r_14_20 (Bk_ hL hb) (Nat.le_of_ble_eq_true rfl) ?_
    refine c_tryNamed (d := d + 6) hL hb C2 (by omega) lz.2 ?_
    refine w_iconst (v := iI (-1)) r_14_23 rfl ?_
    refine v_ic_eq r_14_24 (by first | exact zF_in _ _ _ | exact zA_in _ _ _ | omega) (by first | exact zF_in _ _ _ | exact zA_in _ _ _ | omega) (fun _ => ?_) (fun q => absurd q (by omega))
    refine w_iconst (v := iI (0)) r_14_31 rfl ?_
    refine w_istore3 r_14_32 rfl ?_
    exact N
  · have N := nam true (fun z => by rw [← zw z]; simp [q])
    change XW (d + 8) 14 33 [.ref 4, .ref sp, .int (iI B.t), .int (iI 1)] [] h2 (KI K) at N
    refine w_aload1 r_14_7 ?_
    refine v_getI r_14_8 (Bk_ hL hb) C2.f4 ?_
    refine w_istore2 r_14_11 rfl ?_
    refine w_aload1 r_14_12 ?_
    refine w_aload0 r_14_13 ?_
    refine w_getA (x := 3) r_14_14 (Lk_4 hL) (Lr_4_0 hL) (by decide) ?_
    refine v_getL r_14_17 (Lk_3 hL) lz.1 ?_
    refine k_5 r_14_20 (Bk_ hL hb) (Nat.le_of_ble_eq_true rfl) ?_
    refine c_tryNamed (d := d + 6) hL hb C2 (by omega) lz.2 ?_
    refine w_iconst (v := iI (-1)) r_14_23 rfl ?_
    refine v_ic_eq r_14_24 (by first | exact zF_in _ _ _ | exact zA_in _ _ _ | omega) (by first | exact zF_in _ _ _ | exact zA_in _ _ _ | omega) (fun q => absurd q (by omega)) (fun _ => ?_)
    refine w_iconst (v := iI (1)) r_14_27 rfl ?_
    refine w_goto r_14_28 ?_
    refine w_istore3 r_14_32 rfl ?_
    exact N
end CB5
