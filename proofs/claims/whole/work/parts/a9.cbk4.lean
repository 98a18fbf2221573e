/-! the class reads a book: rover and tries -/
section CB4
variable {d : Nat} {h : XH} {K : Int32 → XH → Prop} {KU : XH → Prop} {τ : XT} {k : Int} {w : List Int} {a sp : Nat} {B : XB}
abbrev PRv (sp : Nat) : Nat → Nat → Bool := pO PTk (pF [(sp, 9), (sp, 10), (sp, 11), (sp, 12), (sp, 13), (sp, 14)])
theorem PRv_no {x j : Nat} (h3 : ¬ x = 3) (hs : ¬ x = sp ∨ j < 9) : PRv sp x j = false := by
  simp only [pO, Bool.or_eq_false_iff]
  constructor
  · exact tk_p h3
  · rcases hs with q | q
    · simp [pF, q]
    · simp [pF]; omega
theorem PRv_put {g : XH} (j : Nat) (v : Int32) (hj : 9 ≤ j ∧ j ≤ 14) (f : Fr (PRv sp) h g) : Fr (PRv sp) h (sI g sp j v) := f.sI sp j v (by
  have : j = 9 ∨ j = 10 ∨ j = 11 ∨ j = 12 ∨ j = 13 ∨ j = 14 := by omega
  rcases this with q | q | q | q | q | q <;> (subst q; simp [pO, pF]))
theorem PRv_pB {g : XH} (f : Fr (PRv sp) h g) : Fr (pB sp) h g := f.mono (fun a j q => by
  simp only [pO, Bool.or_eq_false_iff]
  have ne : ¬ a = sp := by simp [pB] at q; omega
  refine ⟨?_, by simp [pF, ne]⟩
  simp [pB] at q; simp [pF]; omega)
theorem PRv_TX {g : XH} (hb : sp = 6 ∨ sp = 20) (f : Fr (PRv sp) h g) (hX : TX h τ) : TX g τ := pB_TX hb (PRv_pB f) hX
theorem PRv_37 {g : XH} (hb : sp = 6 ∨ sp = 20) (f : Fr (PRv sp) h g) : zF g 3 7 = zF h 3 7 := f.F (by simp [pO, pF] <;> omega)
theorem TC.spp {g : XH} {j : Nat} {v : Int32} (hb : sp = 6 ∨ sp = 20) (T : TC g τ k) : TC (sI g sp j v) τ k := T.fr (((Fr.refl (pF [(sp, j)]) g).sI sp j v (by simp [pF]))) (fun i => by left; simp [pF] <;> omega)
theorem c_readRover (hL : Lay h) (hS : StC h) (hX : TX h τ) (hT : TC h τ k) (hb : sp = 6 ∨ sp = 20) (hC : CBk h sp B) (h9 : gI h sp 9 = iI 0)
    (kt : ∀ r, gRover τ B (τ.e k) = .inr r → ∀ h', Fr (pB sp) h h' → TC h' τ r.2 → CBk h' sp r.1 → zF h' sp 9 = 1 → zF h' 3 7 = zF h 3 7 → K (iI 1) h')
    (kf : ∀ e, gRover τ B (τ.e k) = .inl e → ∀ h', Fr (pB sp) h h' → BL h' e → K (iI 0) h') : XW (d + 8) 12 0 [.ref 4, .ref sp] [] h (KI K) := by
  have p := TC.pos hX hT
  have hL0 := hL
  unfold gRover at kt kf
  have s4 : ∀ (a : Int × Int) (b : Int × Int) (c : Int × Int) (e : Int × Int) (g : XH), Fr (PRv sp) h g → zF g sp 9 = 1 → TC g τ e.2 → zF g sp 10 = a.1 → zF g sp 11 = b.1 → zF g sp 12 = c.1 → zF g sp 13 = e.1 → gTold τ sW_wheels 2 6 (τ.e k) = .inr a → gTold τ sW_weight 1 999 a.2 = .inr b → gTold τ sW_clear 1 300 b.2 = .inr c → gTold τ sW_tip 0 300 c.2 = .inr e → XW (d + 8) 12 123 [.ref 4, .ref sp] [] g (KI K) := by
    intro a b c e g fg z9 Tg y0 y1 y2 y3 g0 g1 g2 g3
    rw [bnd_r g0] at kt kf
    rw [bnd_r g1] at kt kf
    rw [bnd_r g2] at kt kf
    rw [bnd_r g3] at kt kf
    have hL := fg.lay hL0
    have Xg := PRv_TX hb fg hX
    have Sg := pB_StC hb (PRv_pB fg) hS
    refine w_aload1 r_12_123 ?_
    refine w_aload0 r_12_124 ?_
    refine w_ldcS (a := 1000046) r_12_125 rfl ?_
    refine w_iconst (v := iI (0)) r_12_127 rfl ?_
    refine w_bipush (v := iI (99)) r_12_128 rfl ?_
    refine k_13 r_12_130 (Lk_4 hL) (Nat.le_of_ble_eq_true rfl) ?_
    refine c_takeTold (by decide) (by decide) hL Xg Tg (sS_18 hL Sg) (fun r gr h2 f2 t2 => ?_) (fun e ge h2 f2 b2 => ?_)
    skip
    · have rn := (gTold_ok Xg.1 Tg.1 gr).1
      have hL := f2.lay hL
      have F2 : Fr (PRv sp) h (sI h2 sp 14 (iI r.1)) := PRv_put 14 _ (by decide) (fg.trans (fr_pO f2))
      have T2 : TC (sI h2 sp 14 (iI r.1)) τ r.2 := t2.spp hb
      have zf : zF (sI h2 sp 14 (iI r.1)) sp 14 = r.1 := zF_s (by omega)
      have z2 : zF (sI h2 sp 14 (iI r.1)) sp 9 = 1 := by rw [zF_o (by omega), f2.F (tk_p (by omega))]; exact z9
      have w0 : zF (sI h2 sp 14 (iI r.1)) sp 10 = a.1 := by rw [zF_o (by omega), f2.F (tk_p (by omega))]; exact y0
      have w1 : zF (sI h2 sp 14 (iI r.1)) sp 11 = b.1 := by rw [zF_o (by omega), f2.F (tk_p (by omega))]; exact y1
      have w2 : zF (sI h2 sp 14 (iI r.1)) sp 12 = c.1 := by rw [zF_o (by omega), f2.F (tk_p (by omega))]; exact y2
      have w3 : zF (sI h2 sp 14 (iI r.1)) sp 13 = e.1 := by rw [zF_o (by omega), f2.F (tk_p (by omega))]; exact y3
      rw [bnd_r gr] at kt
      have C2 : CBk (sI h2 sp 14 (iI r.1)) sp (setR B a.1 b.1 c.1 e.1 r.1) := by
        have q : ∀ x j, 6 ≤ x → (¬ x = sp ∨ j < 9) → PRv sp x j = false := fun x j a b => PRv_no (by omega) b
        refine ⟨⟨(F2.F (q _ _ (by omega) (by omega))).trans hC.1.1, (F2.F (q _ _ (by omega) (by omega))).trans hC.1.2.1, w0, w1, w2, w3, zf⟩, fun i a b => ?_, fun i a b j j0 j1 => ?_, fun i a b j j0 j1 => ?_, fun i a b => ?_⟩
        · rw [F2.L (q _ _ (by omega) (by omega)), F2.A (q _ _ (by omega) (by omega)), F2.A (q _ _ (by omega) (by omega))]; exact hC.2.1 i a b
        · rw [F2.A (q _ _ (by omega) (by omega)), F2.A (q _ _ (by omega) (by omega))]; exact hC.2.2.1 i a b j j0 j1
        · rw [F2.A (q _ _ (by omega) (by omega)), F2.A (q _ _ (by omega) (by omega))]; exact hC.2.2.2.1 i a b j j0 j1
        · rw [F2.L (q _ _ (by omega) (by omega)), F2.A (q _ _ (by omega) (by omega)), F2.A (q _ _ (by omega) (by omega)), F2.A (q _ _ (by omega) (by omega))]; exact hC.2.2.2.2 i a b
      have R := kt _ rfl _ (PRv_pB F2) T2 C2 z2 (PRv_37 hb F2)
      refine w_putI r_12_133 (Bk_ hL hb) (hL.n (by omega)) ?_
      refine w_aload1 r_12_136 ?_
      refine v_getI r_12_137 (Bk_ hL hb) (by rw [sI_here, if_pos rfl]) ?_
      refine w_iconst (v := iI (-1)) r_12_140 rfl ?_
      refine v_ic_eq r_12_141 (by first | exact zF_in _ _ _ | exact zA_in _ _ _ | omega) (by first | exact zF_in _ _ _ | exact zA_in _ _ _ | omega) (fun q => absurd q (by omega)) (fun _ => ?_)
      refine w_iconst (v := iI (1)) r_12_144 rfl ?_
      refine w_goto r_12_145 ?_
      refine w_zret r_12_149 (by decide) ?_
      exact R
    · have F2 : Fr (pB sp) h (sI h2 sp 14 (iI (-1))) := ((PRv_pB fg).trans (pB_tp f2)).sI sp 14 _ (by simp [pB])
      have b3 : BL (sI h2 sp 14 (iI (-1))) e := ⟨by rw [zF_o (by omega)]; exact b2.1, by rw [zF_o (by omega)]; exact b2.2⟩
      have R := kf e (bnd_l ge) _ F2 b3
      have hL := f2.lay hL
      refine w_putI r_12_133 (Bk_ hL hb) (hL.n (by omega)) ?_
      refine w_aload1 r_12_136 ?_
      refine v_getI r_12_137 (Bk_ hL hb) (by rw [sI_here, if_pos rfl]) ?_
      refine w_iconst (v := iI (-1)) r_12_140 rfl ?_
      refine v_ic_eq r_12_141 (by first | exact zF_in _ _ _ | exact zA_in _ _ _ | omega) (by first | exact zF_in _ _ _ | exact zA_in _ _ _ | omega) (fun _ => ?_) (fun q => absurd q (by omega))
      refine w_iconst (v := iI (0)) r_12_148 rfl ?_
      refine w_zret r_12_149 (by decide) ?_
      exact R
  have s3 : ∀ (a : Int × Int) (b : Int × Int) (c : Int × Int) (g : XH), Fr (PRv sp) h g → zF g sp 9 = 1 → TC g τ c.2 → zF g sp 10 = a.1 → zF g sp 11 = b.1 → zF g sp 12 = c.1 → gTold τ sW_wheels 2 6 (τ.e k) = .inr a → gTold τ sW_weight 1 999 a.2 = .inr b → gTold τ sW_clear 1 300 b.2 = .inr c → XW (d + 8) 12 99 [.ref 4, .ref sp] [] g (KI K) := by
    intro a b c g fg z9 Tg y0 y1 y2 g0 g1 g2
    rw [bnd_r g0] at kt kf
    rw [bnd_r g1] at kt kf
    rw [bnd_r g2] at kt kf
    have hL := fg.lay hL0
    have Xg := PRv_TX hb fg hX
    have Sg := pB_StC hb (PRv_pB fg) hS
    refine w_aload1 r_12_99 ?_
    refine w_aload0 r_12_100 ?_
    refine w_ldcS (a := 1000044) r_12_101 rfl ?_
    refine w_iconst (v := iI (0)) r_12_103 rfl ?_
    refine w_sipush (v := iI (300)) r_12_104 rfl ?_
    refine k_13 r_12_107 (Lk_4 hL) (Nat.le_of_ble_eq_true rfl) ?_
    refine c_takeTold (by decide) (by decide) hL Xg Tg (sS_17 hL Sg) (fun r gr h2 f2 t2 => ?_) (fun e ge h2 f2 b2 => ?_)
    skip
    · have rn := (gTold_ok Xg.1 Tg.1 gr).1
      have hL := f2.lay hL
      have F2 : Fr (PRv sp) h (sI h2 sp 13 (iI r.1)) := PRv_put 13 _ (by decide) (fg.trans (fr_pO f2))
      have T2 : TC (sI h2 sp 13 (iI r.1)) τ r.2 := t2.spp hb
      have zf : zF (sI h2 sp 13 (iI r.1)) sp 13 = r.1 := zF_s (by omega)
      have z2 : zF (sI h2 sp 13 (iI r.1)) sp 9 = 1 := by rw [zF_o (by omega), f2.F (tk_p (by omega))]; exact z9
      have w0 : zF (sI h2 sp 13 (iI r.1)) sp 10 = a.1 := by rw [zF_o (by omega), f2.F (tk_p (by omega))]; exact y0
      have w1 : zF (sI h2 sp 13 (iI r.1)) sp 11 = b.1 := by rw [zF_o (by omega), f2.F (tk_p (by omega))]; exact y1
      have w2 : zF (sI h2 sp 13 (iI r.1)) sp 12 = c.1 := by rw [zF_o (by omega), f2.F (tk_p (by omega))]; exact y2
      have J := s4 a b c r _ F2 z2 T2 w0 w1 w2 zf g0 g1 g2 gr
      refine w_putI r_12_110 (Bk_ hL hb) (hL.n (by omega)) ?_
      refine w_aload1 r_12_113 ?_
      refine v_getI r_12_114 (Bk_ hL hb) (by rw [sI_here, if_pos rfl]) ?_
      refine w_iconst (v := iI (-1)) r_12_117 rfl ?_
      refine v_ic_ne r_12_118 (by first | exact zF_in _ _ _ | exact zA_in _ _ _ | omega) (by first | exact zF_in _ _ _ | exact zA_in _ _ _ | omega) (fun _ => ?_) (fun q => absurd q (by omega))
      exact J
    · have F2 : Fr (pB sp) h (sI h2 sp 13 (iI (-1))) := ((PRv_pB fg).trans (pB_tp f2)).sI sp 13 _ (by simp [pB])
      have b3 : BL (sI h2 sp 13 (iI (-1))) e := ⟨by rw [zF_o (by omega)]; exact b2.1, by rw [zF_o (by omega)]; exact b2.2⟩
      have R := kf e (bnd_l ge) _ F2 b3
      have hL := f2.lay hL
      refine w_putI r_12_110 (Bk_ hL hb) (hL.n (by omega)) ?_
      refine w_aload1 r_12_113 ?_
      refine v_getI r_12_114 (Bk_ hL hb) (by rw [sI_here, if_pos rfl]) ?_
      refine w_iconst (v := iI (-1)) r_12_117 rfl ?_
      refine v_ic_ne r_12_118 (by first | exact zF_in _ _ _ | exact zA_in _ _ _ | omega) (by first | exact zF_in _ _ _ | exact zA_in _ _ _ | omega) (fun q => absurd q (by omega)) (fun _ => ?_)
      refine w_iconst (v := iI (0)) r_12_121 rfl ?_
      refine w_zret r_12_122 (by decide) ?_
      exact R
  have s2 : ∀ (a : Int × Int) (b : Int × Int) (g : XH), Fr (PRv sp) h g → zF g sp 9 = 1 → TC g τ b.2 → zF g sp 10 = a.1 → zF g sp 11 = b.1 → gTold τ sW_wheels 2 6 (τ.e k) = .inr a → gTold τ sW_weight 1 999 a.2 = .inr b → XW (d + 8) 12 75 [.ref 4, .ref sp] [] g (KI K) := by
    intro a b g fg z9 Tg y0 y1 g0 g1
    rw [bnd_r g0] at kt kf
    rw [bnd_r g1] at kt kf
    have hL := fg.lay hL0
    have Xg := PRv_TX hb fg hX
    have Sg := pB_StC hb (PRv_pB fg) hS
    refine w_aload1 r_12_75 ?_
    refine w_aload0 r_12_76 ?_
    refine w_ldcS (a := 1000042) r_12_77 rfl ?_
    refine w_iconst (v := iI (1)) r_12_79 rfl ?_
    refine w_sipush (v := iI (300)) r_12_80 rfl ?_
    refine k_13 r_12_83 (Lk_4 hL) (Nat.le_of_ble_eq_true rfl) ?_
    refine c_takeTold (by decide) (by decide) hL Xg Tg (sS_16 hL Sg) (fun r gr h2 f2 t2 => ?_) (fun e ge h2 f2 b2 => ?_)
    skip
    · have rn := (gTold_ok Xg.1 Tg.1 gr).1
      have hL := f2.lay hL
      have F2 : Fr (PRv sp) h (sI h2 sp 12 (iI r.1)) := PRv_put 12 _ (by decide) (fg.trans (fr_pO f2))
      have T2 : TC (sI h2 sp 12 (iI r.1)) τ r.2 := t2.spp hb
      have zf : zF (sI h2 sp 12 (iI r.1)) sp 12 = r.1 := zF_s (by omega)
      have z2 : zF (sI h2 sp 12 (iI r.1)) sp 9 = 1 := by rw [zF_o (by omega), f2.F (tk_p (by omega))]; exact z9
      have w0 : zF (sI h2 sp 12 (iI r.1)) sp 10 = a.1 := by rw [zF_o (by omega), f2.F (tk_p (by omega))]; exact y0
      have w1 : zF (sI h2 sp 12 (iI r.1)) sp 11 = b.1 := by rw [zF_o (by omega), f2.F (tk_p (by omega))]; exact y1
      have J := s3 a b r _ F2 z2 T2 w0 w1 zf g0 g1 gr
      refine w_putI r_12_86 (Bk_ hL hb) (hL.n (by omega)) ?_
      refine w_aload1 r_12_89 ?_
      refine v_getI r_12_90 (Bk_ hL hb) (by rw [sI_here, if_pos rfl]) ?_
      refine w_iconst (v := iI (-1)) r_12_93 rfl ?_
      refine v_ic_ne r_12_94 (by first | exact zF_in _ _ _ | exact zA_in _ _ _ | omega) (by first | exact zF_in _ _ _ | exact zA_in _ _ _ | omega) (fun _ => ?_) (fun q => absurd q (by omega))
      exact J
    · have F2 : Fr (pB sp) h (sI h2 sp 12 (iI (-1))) := ((PRv_pB fg).trans (pB_tp f2)).sI sp 12 _ (by simp [pB])
      have b3 : BL (sI h2 sp 12 (iI (-1))) e := ⟨by rw [zF_o (by omega)]; exact b2.1, by rw [zF_o (by omega)]; exact b2.2⟩
      have R := kf e (bnd_l ge) _ F2 b3
      have hL := f2.lay hL
      refine w_putI r_12_86 (Bk_ hL hb) (hL.n (by omega)) ?_
      refine w_aload1 r_12_89 ?_
      refine v_getI r_12_90 (Bk_ hL hb) (by rw [sI_here, if_pos rfl]) ?_
      refine w_iconst (v := iI (-1)) r_12_93 rfl ?_
      refine v_ic_ne r_12_94 (by first | exact zF_in _ _ _ | exact zA_in _ _ _ | omega) (by first | exact zF_in _ _ _ | exact zA_in _ _ _ | omega) (fun q => absurd q (by omega)) (fun _ => ?_)
      refine w_iconst (v := iI (0)) r_12_97 rfl ?_
      refine w_zret r_12_98 (by decide) ?_
      exact R
  have s1 : ∀ (a : Int × Int) (g : XH), Fr (PRv sp) h g → zF g sp 9 = 1 → TC g τ a.2 → zF g sp 10 = a.1 → gTold τ sW_wheels 2 6 (τ.e k) = .inr a → XW (d + 8) 12 51 [.ref 4, .ref sp] [] g (KI K) := by
    intro a g fg z9 Tg y0 g0
    rw [bnd_r g0] at kt kf
    have hL := fg.lay hL0
    have Xg := PRv_TX hb fg hX
    have Sg := pB_StC hb (PRv_pB fg) hS
    refine w_aload1 r_12_51 ?_
    refine w_aload0 r_12_52 ?_
    refine w_ldcS (a := 1000040) r_12_53 rfl ?_
    refine w_iconst (v := iI (1)) r_12_55 rfl ?_
    refine w_sipush (v := iI (999)) r_12_56 rfl ?_
    refine k_13 r_12_59 (Lk_4 hL) (Nat.le_of_ble_eq_true rfl) ?_
    refine c_takeTold (by decide) (by decide) hL Xg Tg (sS_15 hL Sg) (fun r gr h2 f2 t2 => ?_) (fun e ge h2 f2 b2 => ?_)
    skip
    · have rn := (gTold_ok Xg.1 Tg.1 gr).1
      have hL := f2.lay hL
      have F2 : Fr (PRv sp) h (sI h2 sp 11 (iI r.1)) := PRv_put 11 _ (by decide) (fg.trans (fr_pO f2))
      have T2 : TC (sI h2 sp 11 (iI r.1)) τ r.2 := t2.spp hb
      have zf : zF (sI h2 sp 11 (iI r.1)) sp 11 = r.1 := zF_s (by omega)
      have z2 : zF (sI h2 sp 11 (iI r.1)) sp 9 = 1 := by rw [zF_o (by omega), f2.F (tk_p (by omega))]; exact z9
      have w0 : zF (sI h2 sp 11 (iI r.1)) sp 10 = a.1 := by rw [zF_o (by omega), f2.F (tk_p (by omega))]; exact y0
      have J := s2 a r _ F2 z2 T2 w0 zf g0 gr
      refine w_putI r_12_62 (Bk_ hL hb) (hL.n (by omega)) ?_
      refine w_aload1 r_12_65 ?_
      refine v_getI r_12_66 (Bk_ hL hb) (by rw [sI_here, if_pos rfl]) ?_
      refine w_iconst (v := iI (-1)) r_12_69 rfl ?_
      refine v_ic_ne r_12_70 (by first | exact zF_in _ _ _ | exact zA_in _ _ _ | omega) (by first | exact zF_in _ _ _ | exact zA_in _ _ _ | omega) (fun _ => ?_) (fun q => absurd q (by omega))
      exact J
    · have F2 : Fr (pB sp) h (sI h2 sp 11 (iI (-1))) := ((PRv_pB fg).trans (pB_tp f2)).sI sp 11 _ (by simp [pB])
      have b3 : BL (sI h2 sp 11 (iI (-1))) e := ⟨by rw [zF_o (by omega)]; exact b2.1, by rw [zF_o (by omega)]; exact b2.2⟩
      have R := kf e (bnd_l ge) _ F2 b3
      have hL := f2.lay hL
      refine w_putI r_12_62 (Bk_ hL hb) (hL.n (by omega)) ?_
      refine w_aload1 r_12_65 ?_
      refine v_getI r_12_66 (Bk_ hL hb) (by rw [sI_here, if_pos rfl]) ?_
      refine w_iconst (v := iI (-1)) r_12_69 rfl ?_
      refine v_ic_ne r_12_70 (by first | exact zF_in _ _ _ | exact zA_in _ _ _ | omega) (by first | exact zF_in _ _ _ | exact zA_in _ _ _ | omega) (fun q => absurd q (by omega)) (fun _ => ?_)
      refine w_iconst (v := iI (0)) r_12_73 rfl ?_
      refine w_zret r_12_74 (by decide) ?_
      exact R
  have s0 : ∀  (g : XH), Fr (PRv sp) h g → zF g sp 9 = 1 → TC g τ (τ.e k) → XW (d + 8) 12 28 [.ref 4, .ref sp] [] g (KI K) := by
    intro  g fg z9 Tg
    have hL := fg.lay hL0
    have Xg := PRv_TX hb fg hX
    have Sg := pB_StC hb (PRv_pB fg) hS
    refine w_aload1 r_12_28 ?_
    refine w_aload0 r_12_29 ?_
    refine w_ldcS (a := 1000038) r_12_30 rfl ?_
    refine w_iconst (v := iI (2)) r_12_32 rfl ?_
    refine w_bipush (v := iI (6)) r_12_33 rfl ?_
    refine k_13 r_12_35 (Lk_4 hL) (Nat.le_of_ble_eq_true rfl) ?_
    refine c_takeTold (by decide) (by decide) hL Xg Tg (sS_14 hL Sg) (fun r gr h2 f2 t2 => ?_) (fun e ge h2 f2 b2 => ?_)
    skip
    · have rn := (gTold_ok Xg.1 Tg.1 gr).1
      have hL := f2.lay hL
      have F2 : Fr (PRv sp) h (sI h2 sp 10 (iI r.1)) := PRv_put 10 _ (by decide) (fg.trans (fr_pO f2))
      have T2 : TC (sI h2 sp 10 (iI r.1)) τ r.2 := t2.spp hb
      have zf : zF (sI h2 sp 10 (iI r.1)) sp 10 = r.1 := zF_s (by omega)
      have z2 : zF (sI h2 sp 10 (iI r.1)) sp 9 = 1 := by rw [zF_o (by omega), f2.F (tk_p (by omega))]; exact z9
      have J := s1  r _ F2 z2 T2  zf  gr
      refine w_putI r_12_38 (Bk_ hL hb) (hL.n (by omega)) ?_
      refine w_aload1 r_12_41 ?_
      refine v_getI r_12_42 (Bk_ hL hb) (by rw [sI_here, if_pos rfl]) ?_
      refine w_iconst (v := iI (-1)) r_12_45 rfl ?_
      refine v_ic_ne r_12_46 (by first | exact zF_in _ _ _ | exact zA_in _ _ _ | omega) (by first | exact zF_in _ _ _ | exact zA_in _ _ _ | omega) (fun _ => ?_) (fun q => absurd q (by omega))
      exact J
    · have F2 : Fr (pB sp) h (sI h2 sp 10 (iI (-1))) := ((PRv_pB fg).trans (pB_tp f2)).sI sp 10 _ (by simp [pB])
      have b3 : BL (sI h2 sp 10 (iI (-1))) e := ⟨by rw [zF_o (by omega)]; exact b2.1, by rw [zF_o (by omega)]; exact b2.2⟩
      have R := kf e (bnd_l ge) _ F2 b3
      have hL := f2.lay hL
      refine w_putI r_12_38 (Bk_ hL hb) (hL.n (by omega)) ?_
      refine w_aload1 r_12_41 ?_
      refine v_getI r_12_42 (Bk_ hL hb) (by rw [sI_here, if_pos rfl]) ?_
      refine w_iconst (v := iI (-1)) r_12_45 rfl ?_
      refine v_ic_ne r_12_46 (by first | exact zF_in _ _ _ | exact zA_in _ _ _ | omega) (by first | exact zF_in _ _ _ | exact zA_in _ _ _ | omega) (fun q => absurd q (by omega)) (fun _ => ?_)
      refine w_iconst (v := iI (0)) r_12_49 rfl ?_
      refine w_zret r_12_50 (by decide) ?_
      exact R
  have T0 := fun h2 (f2 : Fr PTk h h2) t2 => s0 (sI h2 sp 9 (iI 1)) (PRv_put 9 _ (by decide) (fr_pO f2)) (zF_s (by omega)) (TC.spp hb t2)
  refine w_aload1 r_12_0 ?_
  refine v_getI r_12_1 (Bk_ hL hb) h9 ?_
  refine v_if_eq r_12_4 (by first | exact zF_in _ _ _ | exact zA_in _ _ _ | omega) (fun _ => ?_) (fun q => absurd q (by omega))
  refine w_aload0 r_12_16 ?_
  refine w_getA (x := 3) r_12_17 (Lk_4 hL) (Lr_4_0 hL) (by decide) ?_
  refine k_89 r_12_20 (Lk_3 hL) (Nat.le_of_ble_eq_true rfl) ?_
  refine c_advance (d := d + 6) hL hX (by omega) hT.i.2.1 (fun h2 f2 t2 => ?_)
  have hL := f2.lay hL
  refine w_aload1 r_12_23 ?_
  refine w_iconst (v := iI (1)) r_12_24 rfl ?_
  refine w_putZ r_12_25 (Bk_ hL hb) (hL.n (by omega)) (by decide) ?_
  exact T0 h2 f2 t2
theorem c_readRover1 (hL : Lay h) (hX : TX h τ) (hT : TC h τ k) (hb : sp = 6 ∨ sp = 20) (h9 : gI h sp 9 = iI 1) (kk : K (iI 0) (blm h 3 (τ.a k))) : XW (d + 8) 12 0 [.ref 4, .ref sp] [] h (KI K) := by
  refine w_aload1 r_12_0 ?_
  refine v_getI r_12_1 (Bk_ hL hb) h9 ?_
  refine v_if_eq r_12_4 (by first | exact zF_in _ _ _ | exact zA_in _ _ _ | omega) (fun q => absurd q (by omega)) (fun _ => ?_)
  refine w_aload0 r_12_7 ?_
  refine w_getA (x := 3) r_12_8 (Lk_4 hL) (Lr_4_0 hL) (by decide) ?_
  refine w_iconst (v := iI (3)) r_12_11 rfl ?_
  refine k_99 r_12_12 (Lk_3 hL) (Nat.le_of_ble_eq_true rfl) ?_
  refine c_blame (d := d + 6) hL hT ?_
  refine w_zret r_12_15 (by decide) ?_
  exact kk
end CB4
