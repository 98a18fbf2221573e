/-! the class reads a book -/
section CB6
variable {d : Nat} {h : XH} {K : Int32 → XH → Prop} {KU : XH → Prop} {τ : XT} {k : Int} {w : List Int} {a sp : Nat} {B : XB}
def bg (h : XH) (sp : Nat) : XH := sI (sI (sI (sI (sI (sI (sI (sI h sp 0 (iI 0)) sp 4 (iI 0)) sp 9 (iI 0)) sp 10 (iI 4)) sp 11 (iI 100)) sp 12 (iI 100)) sp 13 (iI 100)) sp 14 (iI 0)
theorem bg_fr (h : XH) (sp : Nat) : Fr (pB sp) h (bg h sp) := by
  have q : ∀ j, pB sp sp j = true := fun j => by simp [pB]
  exact ((((((((Fr.refl _ _).sI sp 0 _ (q _)).sI sp 4 _ (q _)).sI sp 9 _ (q _)).sI sp 10 _ (q _)).sI sp 11 _ (q _)).sI sp 12 _ (q _)).sI sp 13 _ (q _)).sI sp 14 _ (q _)
theorem bg_fr' (h : XH) (sp : Nat) : Fr (pA [sp]) h (bg h sp) := by
  have q : ∀ j, pA [sp] sp j = true := fun j => by simp [pA]
  exact ((((((((Fr.refl _ _).sI sp 0 _ (q _)).sI sp 4 _ (q _)).sI sp 9 _ (q _)).sI sp 10 _ (q _)).sI sp 11 _ (q _)).sI sp 12 _ (q _)).sI sp 13 _ (q _)).sI sp 14 _ (q _)
theorem bg_at (h : XH) (sp j : Nat) : gI (bg h sp) sp j = if j = 14 then iI 0 else if j = 13 then iI 100 else if j = 12 then iI 100 else if j = 11 then iI 100 else if j = 10 then iI 4 else if j = 9 then iI 0 else if j = 4 then iI 0 else if j = 0 then iI 0 else gI h sp j := by
  unfold bg
  rw [sI_here, sI_here, sI_here, sI_here, sI_here, sI_here, sI_here, sI_here]
theorem bg_CBk (h : XH) (sp : Nat) : CBk (bg h sp) sp bk0 := by
  have z : ∀ (j : Nat) (x : Int), gI (bg h sp) sp j = iI x → R32 x → zF (bg h sp) sp j = x := fun j x e r => gF r e
  refine ⟨⟨z 0 0 (bg_at h sp 0) (by decide), z 4 0 (bg_at h sp 4) (by decide), z 10 4 (bg_at h sp 10) (by decide), z 11 100 (bg_at h sp 11) (by decide), z 12 100 (bg_at h sp 12) (by decide), z 13 100 (bg_at h sp 13) (by decide), z 14 0 (bg_at h sp 14) (by decide)⟩, fun i a b => ?_, fun i a b => ?_, fun i a b => ?_, fun i a b => ?_⟩ <;> exact absurd b (by show ¬ i < 0; omega)
theorem c_bkBegin (hL : Lay h) (hb : sp = 6 ∨ sp = 20) (kk : KU (bg h sp)) : XW d 1 0 [.ref sp] [] h (KV KU) := by
  refine w_aload0 r_1_0 ?_
  refine w_iconst (v := iI (0)) r_1_1 rfl ?_
  refine w_putI r_1_2 (Bk_ hL hb) (hL.n (by omega)) ?_
  refine w_aload0 r_1_5 ?_
  refine w_iconst (v := iI (0)) r_1_6 rfl ?_
  refine w_putI r_1_7 (Bk_ hL hb) (hL.n (by omega)) ?_
  refine w_aload0 r_1_10 ?_
  refine w_iconst (v := iI (0)) r_1_11 rfl ?_
  refine w_putZ r_1_12 (Bk_ hL hb) (hL.n (by omega)) (by decide) ?_
  refine w_aload0 r_1_15 ?_
  refine w_iconst (v := iI (4)) r_1_16 rfl ?_
  refine w_putI r_1_17 (Bk_ hL hb) (hL.n (by omega)) ?_
  refine w_aload0 r_1_20 ?_
  refine w_bipush (v := iI (100)) r_1_21 rfl ?_
  refine w_putI r_1_23 (Bk_ hL hb) (hL.n (by omega)) ?_
  refine w_aload0 r_1_26 ?_
  refine w_bipush (v := iI (100)) r_1_27 rfl ?_
  refine w_putI r_1_29 (Bk_ hL hb) (hL.n (by omega)) ?_
  refine w_aload0 r_1_32 ?_
  refine w_bipush (v := iI (100)) r_1_33 rfl ?_
  refine w_putI r_1_35 (Bk_ hL hb) (hL.n (by omega)) ?_
  refine w_aload0 r_1_38 ?_
  refine w_iconst (v := iI (0)) r_1_39 rfl ?_
  refine w_putI r_1_40 (Bk_ hL hb) (hL.n (by omega)) ?_
  refine w_vret r_1_43 ?_
  exact kk
theorem c_readBook (hL : Lay h) (hS : StC h) (hX : TX h τ) (hT : TC h τ 0) (hb : sp = 6 ∨ sp = 20) (h37 : zF h 3 7 = 0)
    (kt : ∀ B', gLines τ 501 (bk0, false) 0 = .inr B' → ∀ h', Fr (pB sp) h h' → CBk h' sp B' → zF h' 3 7 = 0 → K (iI 1) h')
    (kf : ∀ e, gLines τ 501 (bk0, false) 0 = .inl e → ∀ h', Fr (pB sp) h h' → BL h' e → K (iI 0) h') : XW (d + 9) 8 0 [.ref 4, .ref sp, .null, .null] [] h (KI K) := by
  have hL0 := hL
  have hS0 := hS
  have hX0 := hX
  have key : ∀ (n : Nat) (line : Int) (s : XB × Bool) (k : Int) (g : XH) (X3 : Value), line = 501 - (n : Int) → (0 ≤ line ∧ line ≤ 501) → Fr (pB sp) h g → TC g τ k → CBk g sp s.1 → s.1.ok → gI g sp 9 = iI (b2i s.2) → zF g 3 7 = 0 →
      (∀ B', gLines τ n s k = .inr B' → ∀ h', Fr (pB sp) h h' → CBk h' sp B' → zF h' 3 7 = 0 → K (iI 1) h') →
      (∀ e, gLines τ n s k = .inl e → ∀ h', Fr (pB sp) h h' → BL h' e → K (iI 0) h') → XW (d + 9) 8 6 [.ref 4, .ref sp, .int (iI line), X3] [] g (KI K) := by
    intro n
    induction n with
    | zero =>
      intro line s k g X3 hl _ fg Tg _ _ _ _ kt kf
      have hL := fg.lay hL0
      have Xg := pB_TX hb fg hX0
      have p := TC.pos Xg Tg
      have R := kf (1, τ.a k) rfl _ (fg.trans (pB_blm g 1 (τ.a k))) (blm_BL (by omega) (by omega))
      refine w_iload2 r_8_6 ?_
      refine w_sipush (v := iI (500)) r_8_7 rfl ?_
      refine v_ic_gt r_8_10 (by first | exact zF_in _ _ _ | exact zA_in _ _ _ | omega) (by first | exact zF_in _ _ _ | exact zA_in _ _ _ | omega) (fun _ => ?_) (fun q => absurd q (by omega))
      refine w_aload0 r_8_123 ?_
      refine w_getA (x := 3) r_8_124 (Lk_4 hL) (Lr_4_0 hL) (by decide) ?_
      refine w_iconst (v := iI (1)) r_8_127 rfl ?_
      refine k_99 r_8_128 (Lk_3 hL) (Nat.le_of_ble_eq_true rfl) ?_
      refine c_blame (d := d + 7) hL Tg ?_
      refine w_zret r_8_131 (by decide) ?_
      exact R
    | succ n ih =>
      intro line s k g X3 hl hl2 fg Tg Cg og g9 g37 kt kf
      have hL := fg.lay hL0
      have Xg := pB_TX hb fg hX0
      have Sg := pB_StC hb fg hS0
      have p := TC.pos Xg Tg
      unfold gLines at kt kf
      have fail : ∀ e g2, gLine τ s k = .inl e → Fr (pB sp) h g2 → BL g2 e → XW (d + 9) 8 87 [.ref 4, .ref sp, .int (iI line), .int (iI 0)] [] g2 (KI K) := by
        intro e g2 ge f2 b2
        have R := kf e (bnd_l ge) g2 f2 b2
        refine w_iload3 r_8_87 ?_
        refine v_if_eq r_8_88 (by first | exact zF_in _ _ _ | exact zA_in _ _ _ | omega) (fun _ => ?_) (fun q => absurd q (by omega))
        refine w_iload3 r_8_101 ?_
        refine w_zret r_8_102 (by decide) ?_
        exact R
      have rest : ∀ (s2 : XB × Bool) (k2 : Int) (g2 : XH), gLine τ s k = .inr (s2, k2) → Fr (pB sp) h g2 → TC g2 τ k2 → CBk g2 sp s2.1 → s2.1.ok → gI g2 sp 9 = iI (b2i s2.2) → zF g2 3 7 = 0 → XW (d + 9) 8 87 [.ref 4, .ref sp, .int (iI line), .int (iI 1)] [] g2 (KI K) := by
        intro s2 k2 g2 ge f2 T2 C2 o2 n9 n37
        have hL := f2.lay hL0
        have X2 := pB_TX hb f2 hX0
        have p2 := TC.pos X2 T2
        rw [bnd_r ge] at kt kf
        dsimp only at kt kf
        by_cases z : τ.k k2 = 0
        · have R := kt s2.1 (by rw [if_pos z]) g2 f2 C2 n37
          refine w_iload3 r_8_87 ?_
          refine v_if_eq r_8_88 (by first | exact zF_in _ _ _ | exact zA_in _ _ _ | omega) (fun q => absurd q (by omega)) (fun _ => ?_)
          refine w_aload0 r_8_91 ?_
          refine w_getA (x := 3) r_8_92 (Lk_4 hL) (Lr_4_0 hL) (by decide) ?_
          refine v_getI r_8_95 (Lk_3 hL) T2.i.2.2 ?_
          refine v_if_ne r_8_98 (by first | exact zF_in _ _ _ | exact zA_in _ _ _ | omega) (fun q => absurd q (by omega)) (fun _ => ?_)
          refine w_iload3 r_8_101 ?_
          refine w_zret r_8_102 (by decide) ?_
          exact R
        · rw [if_neg z] at kt kf
          by_cases y : τ.k k2 = 59
          · rw [if_pos y] at kt kf
            have J := fun g3 (f3 : Fr PTk g2 g3) t3 => ih (line + 1) s2 (τ.e k2) g3 (.int (iI 1)) (by omega) (by omega) (f2.trans (pB_tk f3)) t3 (tk_CBk f3 hb C2) o2 (by rw [(f3.2 sp 9 (tk_p (by omega))).1]; exact n9) (by rw [f3.F (by simp [pF])]; exact n37) kt kf
            refine w_iload3 r_8_87 ?_
            refine v_if_eq r_8_88 (by first | exact zF_in _ _ _ | exact zA_in _ _ _ | omega) (fun q => absurd q (by omega)) (fun _ => ?_)
            refine w_aload0 r_8_91 ?_
            refine w_getA (x := 3) r_8_92 (Lk_4 hL) (Lr_4_0 hL) (by decide) ?_
            refine v_getI r_8_95 (Lk_3 hL) T2.i.2.2 ?_
            refine v_if_ne r_8_98 (by first | exact zF_in _ _ _ | exact zA_in _ _ _ | omega) (fun _ => ?_) (fun q => absurd q (by omega))
            refine w_aload0 r_8_103 ?_
            refine w_getA (x := 3) r_8_104 (Lk_4 hL) (Lr_4_0 hL) (by decide) ?_
            refine w_bipush (v := iI (59)) r_8_107 rfl ?_
            refine k_96 r_8_109 (Lk_3 hL) (Nat.le_of_ble_eq_true rfl) ?_
            refine c_take (d := d + 6) (by decide) hL X2 T2 (fun _ g3 f3 t3 => ?_) (fun q => absurd y q)
            refine v_if_ne r_8_112 (by first | exact zF_in _ _ _ | exact zA_in _ _ _ | omega) (fun _ => ?_) (fun q => absurd q (by omega))
            refine w_iinc2 r_8_117 rfl (iI_add _ _) ?_
            refine w_goto r_8_120 ?_
            exact J g3 f3 t3
          · rw [if_neg y] at kf
            have R := kf _ rfl _ (f2.trans (pB_blm g2 1 (τ.a k2))) (blm_BL (by omega) (by omega))
            refine w_iload3 r_8_87 ?_
            refine v_if_eq r_8_88 (by first | exact zF_in _ _ _ | exact zA_in _ _ _ | omega) (fun q => absurd q (by omega)) (fun _ => ?_)
            refine w_aload0 r_8_91 ?_
            refine w_getA (x := 3) r_8_92 (Lk_4 hL) (Lr_4_0 hL) (by decide) ?_
            refine v_getI r_8_95 (Lk_3 hL) T2.i.2.2 ?_
            refine v_if_ne r_8_98 (by first | exact zF_in _ _ _ | exact zA_in _ _ _ | omega) (fun _ => ?_) (fun q => absurd q (by omega))
            refine w_aload0 r_8_103 ?_
            refine w_getA (x := 3) r_8_104 (Lk_4 hL) (Lr_4_0 hL) (by decide) ?_
            refine w_bipush (v := iI (59)) r_8_107 rfl ?_
            refine k_96 r_8_109 (Lk_3 hL) (Nat.le_of_ble_eq_true rfl) ?_
            refine c_take (d := d + 6) (by decide) hL X2 T2 (fun q => absurd q y) (fun _ => ?_)
            refine v_if_ne r_8_112 (by first | exact zF_in _ _ _ | exact zA_in _ _ _ | omega) (fun q => absurd q (by omega)) (fun _ => ?_)
            refine w_iconst (v := iI (0)) r_8_115 rfl ?_
            refine w_zret r_8_116 (by decide) ?_
            exact R
      have cG : τ.is k sW_ground = true → XW (d + 9) 8 27 [.ref 4, .ref sp, .int (iI line), .int (iI 0)] [] g (KI K) := by
        intro q
        have u : gLine τ s k = bnd (gGround τ s.1 (τ.e k)) (fun r => .inr ((r.1, s.2), r.2)) := by unfold gLine; rw [if_pos q]
        refine w_aload0 r_8_27 ?_
        refine w_aload1 r_8_28 ?_
        refine k_9 r_8_29 (Lk_4 hL) (Nat.le_of_ble_eq_true rfl) ?_
        refine c_readGround hL Sg Xg Tg hb Cg og (fun r gr g2 f2 t2 c2 n9 n37 => ?_) (fun e ge g2 f2 b2 => ?_)
        · have R := rest (r.1, s.2) r.2 g2 (by rw [u, bnd_r gr]) (fg.trans f2) t2 c2 (gGround_ok Xg.1 (by omega) og gr).1 (by rw [gI_F, n9, ← gI_F]; exact g9) (by rw [n37]; exact g37)
          have hL := f2.lay hL
          refine w_istore3 r_8_32 rfl ?_
          refine w_goto r_8_33 ?_
          exact R
        · have R := fail e g2 (by rw [u, bnd_l ge]) (fg.trans f2) b2
          have hL := f2.lay hL
          refine w_istore3 r_8_32 rfl ?_
          refine w_goto r_8_33 ?_
          exact R
      have cR : τ.is k sW_ground = false → τ.is k sW_rover = true → XW (d + 9) 8 48 [.ref 4, .ref sp, .int (iI line), .int (iI 0)] [] g (KI K) := by
        intro q0 q
        have q0' : ¬ τ.is k sW_ground = true := by rw [q0]; decide
        refine w_aload0 r_8_48 ?_
        refine w_aload1 r_8_49 ?_
        refine k_12 r_8_50 (Lk_4 hL) (Nat.le_of_ble_eq_true rfl) ?_
        cases hs : s.2 with
        | false =>
          have u : gLine τ s k = bnd (gRover τ s.1 (τ.e k)) (fun r => .inr ((r.1, true), r.2)) := by unfold gLine; rw [if_neg q0', if_pos q, hs]; rfl
          rw [hs] at g9
          refine c_readRover hL Sg Xg Tg hb Cg g9 (fun r gr g2 f2 t2 c2 n9 n37 => ?_) (fun e ge g2 f2 b2 => ?_)
          · have R := rest (r.1, true) r.2 g2 (by rw [u, bnd_r gr]) (fg.trans f2) t2 c2 (gRover_ok Xg.1 (by omega) og gr).1 (by rw [gI_F, n9]; rfl) (by rw [n37]; exact g37)
            have hL := f2.lay hL
            refine w_istore3 r_8_53 rfl ?_
            refine w_goto r_8_54 ?_
            exact R
          · have R := fail e g2 (by rw [u, bnd_l ge]) (fg.trans f2) b2
            have hL := f2.lay hL
            refine w_istore3 r_8_53 rfl ?_
            refine w_goto r_8_54 ?_
            exact R
        | true =>
          have u : gLine τ s k = .inl (3, τ.a k) := by unfold gLine; rw [if_neg q0', if_pos q, hs]; rfl
          rw [hs] at g9
          refine c_readRover1 hL Xg Tg hb g9 ?_
          have R := fail (3, τ.a k) (blm g 3 (τ.a k)) u (fg.trans (pB_blm g 3 (τ.a k))) (blm_BL (by omega) (by omega))
          refine w_istore3 r_8_53 rfl ?_
          refine w_goto r_8_54 ?_
          exact R
      have cT : τ.is k sW_ground = false → τ.is k sW_rover = false → τ.is k sW_try = true → XW (d + 9) 8 69 [.ref 4, .ref sp, .int (iI line), .int (iI 0)] [] g (KI K) := by
        intro q0 q1 q
        have q0' : ¬ τ.is k sW_ground = true := by rw [q0]; decide
        have q1' : ¬ τ.is k sW_rover = true := by rw [q1]; decide
        have u : gLine τ s k = bnd (gTry τ s.1 (τ.e k)) (fun r => .inr ((r.1, s.2), r.2)) := by unfold gLine; rw [if_neg q0', if_neg q1', if_pos q]
        refine w_aload0 r_8_69 ?_
        refine w_aload1 r_8_70 ?_
        refine k_14 r_8_71 (Lk_4 hL) (Nat.le_of_ble_eq_true rfl) ?_
        refine c_readTry hL Sg Xg Tg hb Cg og (fun r gr g2 f2 t2 c2 n9 n37 => ?_) (fun e ge g2 f2 b2 => ?_)
        · have R := rest (r.1, s.2) r.2 g2 (by rw [u, bnd_r gr]) (fg.trans f2) t2 c2 (gTry_ok Xg.1 (by omega) og gr).1 (by rw [gI_F, n9, ← gI_F]; exact g9) (by rw [n37]; exact g37)
          have hL := f2.lay hL
          refine w_istore3 r_8_74 rfl ?_
          refine w_goto r_8_75 ?_
          exact R
        · have R := fail e g2 (by rw [u, bnd_l ge]) (fg.trans f2) b2
          have hL := f2.lay hL
          refine w_istore3 r_8_74 rfl ?_
          refine w_goto r_8_75 ?_
          exact R
      have cN : τ.is k sW_ground = false → τ.is k sW_rover = false → τ.is k sW_try = false → XW (d + 9) 8 78 [.ref 4, .ref sp, .int (iI line), .int (iI 0)] [] g (KI K) := by
        intro q0 q1 q
        have u : gLine τ s k = .inl (1, τ.a k) := by unfold gLine; rw [if_neg (by rw [q0]; decide), if_neg (by rw [q1]; decide), if_neg (by rw [q]; decide)]
        have R := fail (1, τ.a k) (blm g 1 (τ.a k)) u (fg.trans (pB_blm g 1 (τ.a k))) (blm_BL (by omega) (by omega))
        refine w_aload0 r_8_78 ?_
        refine w_getA (x := 3) r_8_79 (Lk_4 hL) (Lr_4_0 hL) (by decide) ?_
        refine w_iconst (v := iI (1)) r_8_82 rfl ?_
        refine k_99 r_8_83 (Lk_3 hL) (Nat.le_of_ble_eq_true rfl) ?_
        refine c_blame (d := d + 7) hL Tg ?_
        refine w_popI r_8_86 ?_
        exact R
      refine w_iload2 r_8_6 ?_
      refine w_sipush (v := iI (500)) r_8_7 rfl ?_
      refine v_ic_gt r_8_10 (by first | exact zF_in _ _ _ | exact zA_in _ _ _ | omega) (by first | exact zF_in _ _ _ | exact zA_in _ _ _ | omega) (fun q => absurd q (by omega)) (fun _ => ?_)
      refine w_iconst (v := iI (0)) r_8_13 rfl ?_
      refine w_istore3 r_8_14 rfl ?_
      refine w_aload0 r_8_15 ?_
      refine w_getA (x := 3) r_8_16 (Lk_4 hL) (Lr_4_0 hL) (by decide) ?_
      refine w_ldcS (a := 1000010) r_8_19 rfl ?_
      refine k_93 r_8_21 (Lk_3 hL) (Nat.le_of_ble_eq_true rfl) ?_
      refine c_spells (d := d + 4) hL Xg Tg (sS_0 hL Sg) (fun q1 => ?_) (fun q1 => ?_)
      · refine v_if_eq r_8_24 (by first | exact zF_in _ _ _ | exact zA_in _ _ _ | omega) (fun q => absurd q (by omega)) (fun _ => ?_)
        exact cG q1
      · refine v_if_eq r_8_24 (by first | exact zF_in _ _ _ | exact zA_in _ _ _ | omega) (fun _ => ?_) (fun q => absurd q (by omega))
        refine w_aload0 r_8_36 ?_
        refine w_getA (x := 3) r_8_37 (Lk_4 hL) (Lr_4_0 hL) (by decide) ?_
        refine w_ldcS (a := 1000036) r_8_40 rfl ?_
        refine k_93 r_8_42 (Lk_3 hL) (Nat.le_of_ble_eq_true rfl) ?_
        refine c_spells (d := d + 4) hL Xg Tg (sS_13 hL Sg) (fun q2 => ?_) (fun q2 => ?_)
        · refine v_if_eq r_8_45 (by first | exact zF_in _ _ _ | exact zA_in _ _ _ | omega) (fun q => absurd q (by omega)) (fun _ => ?_)
          exact cR q1 q2
        · refine v_if_eq r_8_45 (by first | exact zF_in _ _ _ | exact zA_in _ _ _ | omega) (fun _ => ?_) (fun q => absurd q (by omega))
          refine w_aload0 r_8_57 ?_
          refine w_getA (x := 3) r_8_58 (Lk_4 hL) (Lr_4_0 hL) (by decide) ?_
          refine w_ldcS (a := 1000048) r_8_61 rfl ?_
          refine k_93 r_8_63 (Lk_3 hL) (Nat.le_of_ble_eq_true rfl) ?_
          refine c_spells (d := d + 4) hL Xg Tg (sS_19 hL Sg) (fun q3 => ?_) (fun q3 => ?_)
          · refine v_if_eq r_8_66 (by first | exact zF_in _ _ _ | exact zA_in _ _ _ | omega) (fun q => absurd q (by omega)) (fun _ => ?_)
            exact cT q1 q2 q3
          · refine v_if_eq r_8_66 (by first | exact zF_in _ _ _ | exact zA_in _ _ _ | omega) (fun _ => ?_) (fun q => absurd q (by omega))
            exact cN q1 q2 q3
  have J := key 501 0 (bk0, false) 0 (bg h sp) .null (by omega) (by omega) (bg_fr h sp) (hT.fr (bg_fr' h sp) (fun j => by left; simp [pA]; omega)) (bg_CBk h sp) bk0_ok (bg_at h sp 9) (by rw [(bg_fr' h sp).F (by simp [pA]; omega)]; exact h37) kt kf
  refine w_aload1 r_8_0 ?_
  refine k_1 r_8_1 (Bk_ hL hb) (Nat.le_of_ble_eq_true rfl) ?_
  refine c_bkBegin hL hb ?_
  refine w_iconst (v := iI (0)) r_8_4 rfl ?_
  refine w_istore2 r_8_5 rfl ?_
  exact J
end CB6
