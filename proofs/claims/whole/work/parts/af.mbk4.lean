/-! the Model reads a book: a line -/
section MB4
variable {d : Nat} {h : XH} {K : Int32 → XH → Prop} {KU : XH → Prop} {τ : XT} {k : Int} {w : List Int} {a : Nat} {B : XB}
abbrev PRm : Nat → Nat → Bool := pO PTm (pF [(118, 24), (118, 25), (118, 26), (118, 27), (118, 28), (118, 29)])
theorem PRm_no {x j : Nat} (h1 : ¬ x = 120) (h2 : ¬ x = 118 ∨ (9 ≤ j ∧ j ≤ 23)) : PRm x j = false := by
  simp only [pO, Bool.or_eq_false_iff]
  rcases h2 with q | q
  · exact ⟨⟨by simp [pA]; omega, by simp [pF, q]⟩, by simp [pF, q]⟩
  · exact ⟨⟨by simp [pA]; omega, by simp [pF]; omega⟩, by simp [pF]; omega⟩
theorem PRm_pM {g : XH} (f : Fr PRm h g) : Fr pM h g := f.mono (fun a j q => by
  simp [pM] at q
  by_cases x9 : a = 118
  · simp only [pO, Bool.or_eq_false_iff]
    have := q.1 x9
    exact ⟨⟨by simp [pA]; omega, by simp [pF]; omega⟩, by simp [pF]; omega⟩
  · exact PRm_no (by omega) (Or.inl x9))
theorem PRm_put {g : XH} (j : Nat) (v : Int32) (hj : 24 ≤ j ∧ j ≤ 29) (f : Fr PRm h g) : Fr PRm h (sI g 118 j v) := f.sI 118 j v (by
  have : j = 24 ∨ j = 25 ∨ j = 26 ∨ j = 27 ∨ j = 28 ∨ j = 29 := by omega
  rcases this with q | q | q | q | q | q <;> (subst q; simp [pO, pF]))
theorem MF.fld {e : Int × Int} {j : Nat} {v : Int32} (hj : 14 ≤ j) (m : MF h e) : MF (sI h 118 j v) e := ⟨by rw [sI_here, if_neg (by omega)]; exact m.1, by rw [zF_o (by omega)]; exact m.2.1, by rw [zF_o (by omega)]; exact m.2.2⟩
theorem m_line {s : XB × Bool} (hL : Lay h) (hS : StC h) (hY : TY h τ) (hT : TM h τ k) (h13 : gI h 118 13 = iI 0) (hQ : MBk h s.1) (ho : s.1.ok) (h29 : gI h 118 29 = iI (b2i s.2))
    (kt : ∀ r, gLine τ s k = .inr r → ∀ h', Fr pM h h' → TM h' τ r.2 → MBk h' r.1.1 → gI h' 118 13 = iI 0 → gI h' 118 29 = iI (b2i r.1.2) → zF h' 118 9 = zF h 118 9 → KU h')
    (kf : ∀ e, gLine τ s k = .inl e → ∀ h', Fr pM h h' → MF h' e → KU h') : XW (d + 7) 184 0 [.ref 118] [] h (KV KU) := by
  have p := TM.pos hY hT
  have hL0 := hL
  by_cases q1 : τ.is k sW_ground = true
  · have u : gLine τ s k = bnd (gGround τ s.1 (τ.e k)) (fun r => .inr ((r.1, s.2), r.2)) := by unfold gLine; rw [if_pos q1]
    rw [u] at kt kf
    have go : ∀ h2, Fr PTm h h2 → TM h2 τ (τ.e k) → XW (d + 7) 184 13 [.ref 118] [] h2 (KV KU) := by
      intro h2 f2 T2
      have hL := f2.lay hL0
      refine w_aload0 r_184_13 ?_
      refine k_185 r_184_14 (Lk_118 hL) (Nat.le_of_ble_eq_true rfl) ?_
      refine m_groundLine hL (tm_StC f2 hS) (tm_TY f2 hY) T2 (tm_13 f2 h13) (tm_MBk f2 hQ) ho (fun r gr g f t c n13 n29 n9 => ?_) (fun e ge g f m => ?_)
      · refine w_goto r_184_17 ?_
        refine w_vret r_184_187 ?_
        exact kt ((r.1, s.2), r.2) (by rw [bnd_r gr]) g ((pM_tm f2).trans f) t c n13 (by rw [gI_F, n29, f2.F (by simp [pO, pA, pF]), ← gI_F]; exact h29) (by rw [n9, f2.F (by simp [pO, pA, pF])])
      · refine w_goto r_184_17 ?_
        refine w_vret r_184_187 ?_
        exact kf e (bnd_l ge) g ((pM_tm f2).trans f) m
    refine w_aload0 r_184_0 ?_
    refine w_ldcS (a := 1000064) r_184_1 rfl ?_
    refine k_175 r_184_3 (Lk_118 hL) (Nat.le_of_ble_eq_true rfl) ?_
    refine m_word0 (d := d + 2) hL hY hT h13 (sS_27 hL hS) (fun _ => ?_) (fun z => absurd q1 (by rw [z]; decide))
    refine v_if_eq r_184_6 (by first | exact zF_in _ _ _ | exact zA_in _ _ _ | omega) (fun q => absurd q (by omega)) (fun _ => ?_)
    refine w_aload0 r_184_9 ?_
    refine k_172 r_184_10 (Lk_118 hL) (Nat.le_of_ble_eq_true rfl) ?_
    refine m_next (d := d + 5) hL hY (by omega) hT.i.2.1 (fun h2 f2 t2 => ?_)
    exact go h2 f2 t2
  · by_cases q2 : τ.is k sW_rover = true
    · cases hs : s.2 with
      | true =>
        have u : gLine τ s k = .inl (3, τ.a k) := by unfold gLine; rw [if_neg q1, if_pos q2, hs]; rfl
        rw [hs] at h29
        have h29 : gI h 118 29 = iI 1 := h29
        have R := kf _ u (wrg h 3 (τ.a k)) (pM_wrg h 3 (τ.a k)) (wrg_MF (by omega) (by omega))
        refine w_aload0 r_184_0 ?_
        refine w_ldcS (a := 1000064) r_184_1 rfl ?_
        refine k_175 r_184_3 (Lk_118 hL) (Nat.le_of_ble_eq_true rfl) ?_
        refine m_word0 (d := d + 2) hL hY hT h13 (sS_27 hL hS) (fun z => absurd z q1) (fun _ => ?_)
        refine v_if_eq r_184_6 (by first | exact zF_in _ _ _ | exact zA_in _ _ _ | omega) (fun _ => ?_) (fun q => absurd q (by omega))
        refine w_aload0 r_184_20 ?_
        refine w_ldcS (a := 1000066) r_184_21 rfl ?_
        refine k_175 r_184_23 (Lk_118 hL) (Nat.le_of_ble_eq_true rfl) ?_
        refine m_word0 (d := d + 2) hL hY hT h13 (sS_28 hL hS) (fun _ => ?_) (fun z => absurd q2 (by rw [z]; decide))
        refine v_if_eq r_184_26 (by first | exact zF_in _ _ _ | exact zA_in _ _ _ | omega) (fun q => absurd q (by omega)) (fun _ => ?_)
        refine w_aload0 r_184_29 ?_
        refine v_getI r_184_30 (Lk_118 hL) h29 ?_
        refine v_if_eq r_184_33 (by first | exact zF_in _ _ _ | exact zA_in _ _ _ | omega) (fun q => absurd q (by omega)) (fun _ => ?_)
        refine w_aload0 r_184_36 ?_
        refine w_iconst (v := iI (3)) r_184_37 rfl ?_
        refine w_aload0 r_184_38 ?_
        refine v_getI r_184_39 (Lk_118 hL) hT.i.1 ?_
        refine k_174 r_184_42 (Lk_118 hL) (Nat.le_of_ble_eq_true rfl) ?_
        refine m_wrong0 hL h13 ?_
        refine w_popI r_184_45 ?_
        refine w_vret r_184_46 ?_
        exact R
      | false =>
        have u : gLine τ s k = bnd (gRover τ s.1 (τ.e k)) (fun r => .inr ((r.1, true), r.2)) := by unfold gLine; rw [if_neg q1, if_pos q2, hs]; rfl
        rw [hs] at h29
        have h29 : gI h 118 29 = iI 0 := h29
        rw [u] at kt kf
        have z5 : ∀ (g : XH) (e : Int × Int), Lay g → MF g e → Fr pM h g → (∀ h', Fr pM h h' → MF h' e → KU h') → XW (d + 7) 184 154 [.ref 118] [] g (KV KU) := by
          intro g e hL m f R
          have R := R g f m
          refine w_goto r_184_154 ?_
          refine w_vret r_184_187 ?_
          exact R
        have z4 : ∀ (g : XH) (e : Int × Int), Lay g → MF g e → Fr pM h g → (∀ h', Fr pM h h' → MF h' e → KU h') → XW (d + 7) 184 135 [.ref 118] [] g (KV KU) := by
          intro g e hL m f R
          have J := z5 (sI g 118 28 (iI 0)) e hL (m.fld (by decide)) (pM_fld (by decide) f) R
          refine w_aload0 r_184_135 ?_
          refine w_ldcwS (a := 1000096) r_184_136 rfl ?_
          refine k_176 r_184_139 (Lk_118 hL) (Nat.le_of_ble_eq_true rfl) ?_
          refine m_must1 (d := d + 5) hL m.1 ?_
          refine w_popI r_184_142 ?_
          refine w_aload0 r_184_143 ?_
          refine w_aload0 r_184_144 ?_
          refine w_iconst (v := iI (0)) r_184_145 rfl ?_
          refine w_bipush (v := iI (99)) r_184_146 rfl ?_
          refine k_179 r_184_148 (Lk_118 hL) (Nat.le_of_ble_eq_true rfl) ?_
          refine m_number1 (d := d + 5) hL m.1 ?_
          refine w_putI r_184_151 (Lk_118 hL) (Ln_118 hL) ?_
          exact J
        have z3 : ∀ (g : XH) (e : Int × Int), Lay g → MF g e → Fr pM h g → (∀ h', Fr pM h h' → MF h' e → KU h') → XW (d + 7) 184 115 [.ref 118] [] g (KV KU) := by
          intro g e hL m f R
          have J := z4 (sI g 118 27 (iI 0)) e hL (m.fld (by decide)) (pM_fld (by decide) f) R
          refine w_aload0 r_184_115 ?_
          refine w_ldcwS (a := 1000094) r_184_116 rfl ?_
          refine k_176 r_184_119 (Lk_118 hL) (Nat.le_of_ble_eq_true rfl) ?_
          refine m_must1 (d := d + 5) hL m.1 ?_
          refine w_popI r_184_122 ?_
          refine w_aload0 r_184_123 ?_
          refine w_aload0 r_184_124 ?_
          refine w_iconst (v := iI (0)) r_184_125 rfl ?_
          refine w_sipush (v := iI (300)) r_184_126 rfl ?_
          refine k_179 r_184_129 (Lk_118 hL) (Nat.le_of_ble_eq_true rfl) ?_
          refine m_number1 (d := d + 5) hL m.1 ?_
          refine w_putI r_184_132 (Lk_118 hL) (Ln_118 hL) ?_
          exact J
        have z2 : ∀ (g : XH) (e : Int × Int), Lay g → MF g e → Fr pM h g → (∀ h', Fr pM h h' → MF h' e → KU h') → XW (d + 7) 184 95 [.ref 118] [] g (KV KU) := by
          intro g e hL m f R
          have J := z3 (sI g 118 26 (iI 1)) e hL (m.fld (by decide)) (pM_fld (by decide) f) R
          refine w_aload0 r_184_95 ?_
          refine w_ldcwS (a := 1000092) r_184_96 rfl ?_
          refine k_176 r_184_99 (Lk_118 hL) (Nat.le_of_ble_eq_true rfl) ?_
          refine m_must1 (d := d + 5) hL m.1 ?_
          refine w_popI r_184_102 ?_
          refine w_aload0 r_184_103 ?_
          refine w_aload0 r_184_104 ?_
          refine w_iconst (v := iI (1)) r_184_105 rfl ?_
          refine w_sipush (v := iI (300)) r_184_106 rfl ?_
          refine k_179 r_184_109 (Lk_118 hL) (Nat.le_of_ble_eq_true rfl) ?_
          refine m_number1 (d := d + 5) hL m.1 ?_
          refine w_putI r_184_112 (Lk_118 hL) (Ln_118 hL) ?_
          exact J
        have z1 : ∀ (g : XH) (e : Int × Int), Lay g → MF g e → Fr pM h g → (∀ h', Fr pM h h' → MF h' e → KU h') → XW (d + 7) 184 75 [.ref 118] [] g (KV KU) := by
          intro g e hL m f R
          have J := z2 (sI g 118 25 (iI 1)) e hL (m.fld (by decide)) (pM_fld (by decide) f) R
          refine w_aload0 r_184_75 ?_
          refine w_ldcwS (a := 1000090) r_184_76 rfl ?_
          refine k_176 r_184_79 (Lk_118 hL) (Nat.le_of_ble_eq_true rfl) ?_
          refine m_must1 (d := d + 5) hL m.1 ?_
          refine w_popI r_184_82 ?_
          refine w_aload0 r_184_83 ?_
          refine w_aload0 r_184_84 ?_
          refine w_iconst (v := iI (1)) r_184_85 rfl ?_
          refine w_sipush (v := iI (999)) r_184_86 rfl ?_
          refine k_179 r_184_89 (Lk_118 hL) (Nat.le_of_ble_eq_true rfl) ?_
          refine m_number1 (d := d + 5) hL m.1 ?_
          refine w_putI r_184_92 (Lk_118 hL) (Ln_118 hL) ?_
          exact J
        have y6 : ∀ (a b c e u : Int × Int) (g : XH), Fr PRm h g → gI g 118 29 = iI 1 → gI g 118 13 = iI 0 → TM g τ u.2 → zF g 118 24 = a.1 → zF g 118 25 = b.1 → zF g 118 26 = c.1 → zF g 118 27 = e.1 → zF g 118 28 = u.1 → gTold τ sW_wheels 2 6 (τ.e k) = .inr a → gTold τ sW_weight 1 999 a.2 = .inr b → gTold τ sW_clear 1 300 b.2 = .inr c → gTold τ sW_tip 0 300 c.2 = .inr e → gTold τ sW_drag 0 99 e.2 = .inr u → XW (d + 7) 184 154 [.ref 118] [] g (KV KU) := by
          intro a b c e u g fg g29 g13 Tg w0 w1 w2 w3 w4 v0 v1 v2 v3 v4
          have C : MBk g (setR s.1 a.1 b.1 c.1 e.1 u.1) := by
            refine ⟨⟨(fg.F (PRm_no (by decide) (by decide))).trans hQ.1.1, (fg.F (PRm_no (by decide) (by decide))).trans hQ.1.2.1, w0, w1, w2, w3, w4⟩, fun i x y => ?_, fun i x y j j0 j1 => ?_, fun i x y j j0 j1 => ?_, fun i x y => ?_⟩
            · rw [fg.A (PRm_no (by decide) (Or.inl (by decide))), fg.A (PRm_no (by decide) (Or.inl (by decide)))]
              exact ⟨(hQ.2.1 i x y).1.fr fg (fun j => ⟨PRm_no (by decide) (Or.inl (by decide)), PRm_no (by decide) (Or.inl (by decide))⟩), (hQ.2.1 i x y).2⟩
            · rw [fg.A (PRm_no (by decide) (Or.inl (by decide))), fg.A (PRm_no (by decide) (Or.inl (by decide)))]; exact hQ.2.2.1 i x y j j0 j1
            · rw [fg.A (PRm_no (by decide) (Or.inl (by decide))), fg.A (PRm_no (by decide) (Or.inl (by decide)))]; exact hQ.2.2.2.1 i x y j j0 j1
            · rw [fg.A (PRm_no (by decide) (Or.inl (by decide))), fg.A (PRm_no (by decide) (Or.inl (by decide))), fg.A (PRm_no (by decide) (Or.inl (by decide)))]
              exact ⟨(hQ.2.2.2.2 i x y).1.fr fg (fun j => ⟨PRm_no (by decide) (Or.inl (by decide)), PRm_no (by decide) (Or.inl (by decide))⟩), (hQ.2.2.2.2 i x y).2⟩
          have ug : gRover τ s.1 (τ.e k) = .inr (setR s.1 a.1 b.1 c.1 e.1 u.1, u.2) := by unfold gRover; rw [bnd_r v0, bnd_r v1, bnd_r v2, bnd_r v3, bnd_r v4]
          have hL := fg.lay hL0
          have R := kt ((setR s.1 a.1 b.1 c.1 e.1 u.1, true), u.2) (by rw [bnd_r ug]) g (PRm_pM fg) Tg C g13 g29 (fg.F (PRm_no (by decide) (by decide)))
          refine w_goto r_184_154 ?_
          refine w_vret r_184_187 ?_
          exact R
        have y5 : ∀ (a : Int × Int) (b : Int × Int) (c : Int × Int) (e : Int × Int) (g : XH), Fr PRm h g → gI g 118 29 = iI 1 → gI g 118 13 = iI 0 → TM g τ (e.2) → zF g 118 24 = a.1 → zF g 118 25 = b.1 → zF g 118 26 = c.1 → zF g 118 27 = e.1 → gTold τ sW_wheels 2 6 (τ.e k) = .inr a → gTold τ sW_weight 1 999 a.2 = .inr b → gTold τ sW_clear 1 300 b.2 = .inr c → gTold τ sW_tip 0 300 c.2 = .inr e → XW (d + 7) 184 135 [.ref 118] [] g (KV KU) := by
          intro a b c e g fg g29 g13 Tg w0 w1 w2 w3 v0 v1 v2 v3
          have hL := fg.lay hL0
          have G := PRm_pM fg
          have Yg := pM_TY G hY
          have Sg := pM_StC G hS
          have pg := TM.pos Yg Tg
          refine w_aload0 r_184_135 ?_
          refine w_ldcwS (a := 1000096) r_184_136 rfl ?_
          refine k_176 r_184_139 (Lk_118 hL) (Nat.le_of_ble_eq_true rfl) ?_
          refine m_must0 (d := d + 1) hL Yg Tg g13 (sS_43 hL Sg) (fun q h7 f7 T7 => ?_) (fun q => ?_)
          skip
          rotate_left
          · have mm : MF (wrg g 1 (τ.a (e.2))) (1, τ.a (e.2)) := wrg_MF (by omega) (by omega)
            have G7 := G.trans (pM_wrg g 1 (τ.a (e.2)))
            have hL := G7.lay hL0
            have ug : gRover τ s.1 (τ.e k) = .inl (1, τ.a (e.2)) := by unfold gRover; rw [bnd_r v0, bnd_r v1, bnd_r v2, bnd_r v3]; exact bnd_l (bnd_l (by unfold gWord; rw [if_neg (by rw [q]; decide)]))
            have J := z5 (sI (wrg g 1 (τ.a (e.2))) 118 28 (iI 0)) _ hL (mm.fld (by decide)) (pM_fld (by decide) G7) (fun h' f' m' => kf _ (bnd_l ug) h' f' m')
            refine w_popI r_184_142 ?_
            refine w_aload0 r_184_143 ?_
            refine w_aload0 r_184_144 ?_
            refine w_iconst (v := iI (0)) r_184_145 rfl ?_
            refine w_bipush (v := iI (99)) r_184_146 rfl ?_
            refine k_179 r_184_148 (Lk_118 hL) (Nat.le_of_ble_eq_true rfl) ?_
            refine m_number1 (d := d + 5) hL mm.1 ?_
            refine w_putI r_184_151 (Lk_118 hL) (Ln_118 hL) ?_
            exact J
          have gW : gWord τ sW_drag (e.2) = .inr (τ.e (e.2)) := by unfold gWord; rw [if_pos q]
          have fg7 : Fr PRm h h7 := fg.trans (fr_pO f7)
          have G7 := PRm_pM fg7
          have hL := G7.lay hL0
          have Y7 := pM_TY G7 hY
          have r13 := tm_13 f7 g13
          have p7 := TM.pos Y7 T7
          refine w_popI r_184_142 ?_
          refine w_aload0 r_184_143 ?_
          refine w_aload0 r_184_144 ?_
          refine w_iconst (v := iI (0)) r_184_145 rfl ?_
          refine w_bipush (v := iI (99)) r_184_146 rfl ?_
          refine k_179 r_184_148 (Lk_118 hL) (Nat.le_of_ble_eq_true rfl) ?_
          refine m_number0 (d := d + 4) (by decide) (by decide) hL Y7 T7 r13 (fun z y' h8 f8 T8 => ?_) (fun z => ?_) (fun z y' => ?_)
          skip
          · have vi := XT.v_at Y7.1 T7.1.1 T7.1.2 z
            have gt : gTold τ sW_drag 0 99 (e.2) = .inr (τ.v (τ.e (e.2)), τ.e (τ.e (e.2))) := by unfold gTold; rw [bnd_r gW]; unfold gNum; rw [if_pos z, if_pos y']
            have fg8 : Fr PRm h h8 := fg7.trans (fr_pO f8)
            have hL := f8.lay hL
            have x0 : zF (sI h8 118 28 (iI (τ.v (τ.e (e.2))))) 118 24 = a.1 := by rw [zF_o (by decide), f8.F (by simp [pO, pA, pF]), f7.F (by simp [pO, pA, pF])]; exact w0
            have x1 : zF (sI h8 118 28 (iI (τ.v (τ.e (e.2))))) 118 25 = b.1 := by rw [zF_o (by decide), f8.F (by simp [pO, pA, pF]), f7.F (by simp [pO, pA, pF])]; exact w1
            have x2 : zF (sI h8 118 28 (iI (τ.v (τ.e (e.2))))) 118 26 = c.1 := by rw [zF_o (by decide), f8.F (by simp [pO, pA, pF]), f7.F (by simp [pO, pA, pF])]; exact w2
            have x3 : zF (sI h8 118 28 (iI (τ.v (τ.e (e.2))))) 118 27 = e.1 := by rw [zF_o (by decide), f8.F (by simp [pO, pA, pF]), f7.F (by simp [pO, pA, pF])]; exact w3
            have J := y6 a b c e (τ.v (τ.e (e.2)), τ.e (τ.e (e.2))) _ (PRm_put 28 _ (by decide) fg8) (by rw [sI_here, if_neg (by decide), (f8.2 118 29 (by simp [pO, pA, pF])).1, (f7.2 118 29 (by simp [pO, pA, pF])).1]; exact g29) (by rw [sI_here, if_neg (by decide)]; exact tm_13 f8 r13) (T8.fld (by decide)) x0 x1 x2 x3 (zF_s (by omega)) v0 v1 v2 v3 gt
            refine w_putI r_184_151 (Lk_118 hL) (Ln_118 hL) ?_
            exact J
          · have mm : MF (wrg h7 1 (τ.a (τ.e (e.2)))) (1, τ.a (τ.e (e.2))) := wrg_MF (by omega) (by omega)
            have G8 := G7.trans (pM_wrg h7 1 (τ.a (τ.e (e.2))))
            have hL := G8.lay hL0
            have ug : gRover τ s.1 (τ.e k) = .inl (1, τ.a (τ.e (e.2))) := by unfold gRover; rw [bnd_r v0, bnd_r v1, bnd_r v2, bnd_r v3]; exact bnd_l (by unfold gTold; rw [bnd_r gW]; unfold gNum; rw [if_neg z])
            have J := z5 (sI (wrg h7 1 (τ.a (τ.e (e.2)))) 118 28 (iI 0)) _ hL (mm.fld (by decide)) (pM_fld (by decide) G8) (fun h' f' m' => kf _ (bnd_l ug) h' f' m')
            refine w_putI r_184_151 (Lk_118 hL) (Ln_118 hL) ?_
            exact J
          · have mm : MF (wrg h7 4 (τ.a (τ.e (e.2)))) (4, τ.a (τ.e (e.2))) := wrg_MF (by omega) (by omega)
            have G8 := G7.trans (pM_wrg h7 4 (τ.a (τ.e (e.2))))
            have hL := G8.lay hL0
            have ug : gRover τ s.1 (τ.e k) = .inl (4, τ.a (τ.e (e.2))) := by unfold gRover; rw [bnd_r v0, bnd_r v1, bnd_r v2, bnd_r v3]; exact bnd_l (by unfold gTold; rw [bnd_r gW]; unfold gNum; rw [if_pos z, if_neg y'])
            have J := z5 (sI (wrg h7 4 (τ.a (τ.e (e.2)))) 118 28 (iI 0)) _ hL (mm.fld (by decide)) (pM_fld (by decide) G8) (fun h' f' m' => kf _ (bnd_l ug) h' f' m')
            refine w_putI r_184_151 (Lk_118 hL) (Ln_118 hL) ?_
            exact J
        have y4 : ∀ (a : Int × Int) (b : Int × Int) (c : Int × Int) (g : XH), Fr PRm h g → gI g 118 29 = iI 1 → gI g 118 13 = iI 0 → TM g τ (c.2) → zF g 118 24 = a.1 → zF g 118 25 = b.1 → zF g 118 26 = c.1 → gTold τ sW_wheels 2 6 (τ.e k) = .inr a → gTold τ sW_weight 1 999 a.2 = .inr b → gTold τ sW_clear 1 300 b.2 = .inr c → XW (d + 7) 184 115 [.ref 118] [] g (KV KU) := by
          intro a b c g fg g29 g13 Tg w0 w1 w2 v0 v1 v2
          have hL := fg.lay hL0
          have G := PRm_pM fg
          have Yg := pM_TY G hY
          have Sg := pM_StC G hS
          have pg := TM.pos Yg Tg
          refine w_aload0 r_184_115 ?_
          refine w_ldcwS (a := 1000094) r_184_116 rfl ?_
          refine k_176 r_184_119 (Lk_118 hL) (Nat.le_of_ble_eq_true rfl) ?_
          refine m_must0 (d := d + 1) hL Yg Tg g13 (sS_42 hL Sg) (fun q h7 f7 T7 => ?_) (fun q => ?_)
          skip
          rotate_left
          · have mm : MF (wrg g 1 (τ.a (c.2))) (1, τ.a (c.2)) := wrg_MF (by omega) (by omega)
            have G7 := G.trans (pM_wrg g 1 (τ.a (c.2)))
            have hL := G7.lay hL0
            have ug : gRover τ s.1 (τ.e k) = .inl (1, τ.a (c.2)) := by unfold gRover; rw [bnd_r v0, bnd_r v1, bnd_r v2]; exact bnd_l (bnd_l (by unfold gWord; rw [if_neg (by rw [q]; decide)]))
            have J := z4 (sI (wrg g 1 (τ.a (c.2))) 118 27 (iI 0)) _ hL (mm.fld (by decide)) (pM_fld (by decide) G7) (fun h' f' m' => kf _ (bnd_l ug) h' f' m')
            refine w_popI r_184_122 ?_
            refine w_aload0 r_184_123 ?_
            refine w_aload0 r_184_124 ?_
            refine w_iconst (v := iI (0)) r_184_125 rfl ?_
            refine w_sipush (v := iI (300)) r_184_126 rfl ?_
            refine k_179 r_184_129 (Lk_118 hL) (Nat.le_of_ble_eq_true rfl) ?_
            refine m_number1 (d := d + 5) hL mm.1 ?_
            refine w_putI r_184_132 (Lk_118 hL) (Ln_118 hL) ?_
            exact J
          have gW : gWord τ sW_tip (c.2) = .inr (τ.e (c.2)) := by unfold gWord; rw [if_pos q]
          have fg7 : Fr PRm h h7 := fg.trans (fr_pO f7)
          have G7 := PRm_pM fg7
          have hL := G7.lay hL0
          have Y7 := pM_TY G7 hY
          have r13 := tm_13 f7 g13
          have p7 := TM.pos Y7 T7
          refine w_popI r_184_122 ?_
          refine w_aload0 r_184_123 ?_
          refine w_aload0 r_184_124 ?_
          refine w_iconst (v := iI (0)) r_184_125 rfl ?_
          refine w_sipush (v := iI (300)) r_184_126 rfl ?_
          refine k_179 r_184_129 (Lk_118 hL) (Nat.le_of_ble_eq_true rfl) ?_
          refine m_number0 (d := d + 4) (by decide) (by decide) hL Y7 T7 r13 (fun z y' h8 f8 T8 => ?_) (fun z => ?_) (fun z y' => ?_)
          skip
          · have vi := XT.v_at Y7.1 T7.1.1 T7.1.2 z
            have gt : gTold τ sW_tip 0 300 (c.2) = .inr (τ.v (τ.e (c.2)), τ.e (τ.e (c.2))) := by unfold gTold; rw [bnd_r gW]; unfold gNum; rw [if_pos z, if_pos y']
            have fg8 : Fr PRm h h8 := fg7.trans (fr_pO f8)
            have hL := f8.lay hL
            have x0 : zF (sI h8 118 27 (iI (τ.v (τ.e (c.2))))) 118 24 = a.1 := by rw [zF_o (by decide), f8.F (by simp [pO, pA, pF]), f7.F (by simp [pO, pA, pF])]; exact w0
            have x1 : zF (sI h8 118 27 (iI (τ.v (τ.e (c.2))))) 118 25 = b.1 := by rw [zF_o (by decide), f8.F (by simp [pO, pA, pF]), f7.F (by simp [pO, pA, pF])]; exact w1
            have x2 : zF (sI h8 118 27 (iI (τ.v (τ.e (c.2))))) 118 26 = c.1 := by rw [zF_o (by decide), f8.F (by simp [pO, pA, pF]), f7.F (by simp [pO, pA, pF])]; exact w2
            have J := y5 a b c (τ.v (τ.e (c.2)), τ.e (τ.e (c.2))) _ (PRm_put 27 _ (by decide) fg8) (by rw [sI_here, if_neg (by decide), (f8.2 118 29 (by simp [pO, pA, pF])).1, (f7.2 118 29 (by simp [pO, pA, pF])).1]; exact g29) (by rw [sI_here, if_neg (by decide)]; exact tm_13 f8 r13) (T8.fld (by decide)) x0 x1 x2 (zF_s (by omega)) v0 v1 v2 gt
            refine w_putI r_184_132 (Lk_118 hL) (Ln_118 hL) ?_
            exact J
          · have mm : MF (wrg h7 1 (τ.a (τ.e (c.2)))) (1, τ.a (τ.e (c.2))) := wrg_MF (by omega) (by omega)
            have G8 := G7.trans (pM_wrg h7 1 (τ.a (τ.e (c.2))))
            have hL := G8.lay hL0
            have ug : gRover τ s.1 (τ.e k) = .inl (1, τ.a (τ.e (c.2))) := by unfold gRover; rw [bnd_r v0, bnd_r v1, bnd_r v2]; exact bnd_l (by unfold gTold; rw [bnd_r gW]; unfold gNum; rw [if_neg z])
            have J := z4 (sI (wrg h7 1 (τ.a (τ.e (c.2)))) 118 27 (iI 0)) _ hL (mm.fld (by decide)) (pM_fld (by decide) G8) (fun h' f' m' => kf _ (bnd_l ug) h' f' m')
            refine w_putI r_184_132 (Lk_118 hL) (Ln_118 hL) ?_
            exact J
          · have mm : MF (wrg h7 4 (τ.a (τ.e (c.2)))) (4, τ.a (τ.e (c.2))) := wrg_MF (by omega) (by omega)
            have G8 := G7.trans (pM_wrg h7 4 (τ.a (τ.e (c.2))))
            have hL := G8.lay hL0
            have ug : gRover τ s.1 (τ.e k) = .inl (4, τ.a (τ.e (c.2))) := by unfold gRover; rw [bnd_r v0, bnd_r v1, bnd_r v2]; exact bnd_l (by unfold gTold; rw [bnd_r gW]; unfold gNum; rw [if_pos z, if_neg y'])
            have J := z4 (sI (wrg h7 4 (τ.a (τ.e (c.2)))) 118 27 (iI 0)) _ hL (mm.fld (by decide)) (pM_fld (by decide) G8) (fun h' f' m' => kf _ (bnd_l ug) h' f' m')
            refine w_putI r_184_132 (Lk_118 hL) (Ln_118 hL) ?_
            exact J
        have y3 : ∀ (a : Int × Int) (b : Int × Int) (g : XH), Fr PRm h g → gI g 118 29 = iI 1 → gI g 118 13 = iI 0 → TM g τ (b.2) → zF g 118 24 = a.1 → zF g 118 25 = b.1 → gTold τ sW_wheels 2 6 (τ.e k) = .inr a → gTold τ sW_weight 1 999 a.2 = .inr b → XW (d + 7) 184 95 [.ref 118] [] g (KV KU) := by
          intro a b g fg g29 g13 Tg w0 w1 v0 v1
          have hL := fg.lay hL0
          have G := PRm_pM fg
          have Yg := pM_TY G hY
          have Sg := pM_StC G hS
          have pg := TM.pos Yg Tg
          refine w_aload0 r_184_95 ?_
          refine w_ldcwS (a := 1000092) r_184_96 rfl ?_
          refine k_176 r_184_99 (Lk_118 hL) (Nat.le_of_ble_eq_true rfl) ?_
          refine m_must0 (d := d + 1) hL Yg Tg g13 (sS_41 hL Sg) (fun q h7 f7 T7 => ?_) (fun q => ?_)
          skip
          rotate_left
          · have mm : MF (wrg g 1 (τ.a (b.2))) (1, τ.a (b.2)) := wrg_MF (by omega) (by omega)
            have G7 := G.trans (pM_wrg g 1 (τ.a (b.2)))
            have hL := G7.lay hL0
            have ug : gRover τ s.1 (τ.e k) = .inl (1, τ.a (b.2)) := by unfold gRover; rw [bnd_r v0, bnd_r v1]; exact bnd_l (bnd_l (by unfold gWord; rw [if_neg (by rw [q]; decide)]))
            have J := z3 (sI (wrg g 1 (τ.a (b.2))) 118 26 (iI 1)) _ hL (mm.fld (by decide)) (pM_fld (by decide) G7) (fun h' f' m' => kf _ (bnd_l ug) h' f' m')
            refine w_popI r_184_102 ?_
            refine w_aload0 r_184_103 ?_
            refine w_aload0 r_184_104 ?_
            refine w_iconst (v := iI (1)) r_184_105 rfl ?_
            refine w_sipush (v := iI (300)) r_184_106 rfl ?_
            refine k_179 r_184_109 (Lk_118 hL) (Nat.le_of_ble_eq_true rfl) ?_
            refine m_number1 (d := d + 5) hL mm.1 ?_
            refine w_putI r_184_112 (Lk_118 hL) (Ln_118 hL) ?_
            exact J
          have gW : gWord τ sW_clear (b.2) = .inr (τ.e (b.2)) := by unfold gWord; rw [if_pos q]
          have fg7 : Fr PRm h h7 := fg.trans (fr_pO f7)
          have G7 := PRm_pM fg7
          have hL := G7.lay hL0
          have Y7 := pM_TY G7 hY
          have r13 := tm_13 f7 g13
          have p7 := TM.pos Y7 T7
          refine w_popI r_184_102 ?_
          refine w_aload0 r_184_103 ?_
          refine w_aload0 r_184_104 ?_
          refine w_iconst (v := iI (1)) r_184_105 rfl ?_
          refine w_sipush (v := iI (300)) r_184_106 rfl ?_
          refine k_179 r_184_109 (Lk_118 hL) (Nat.le_of_ble_eq_true rfl) ?_
          refine m_number0 (d := d + 4) (by decide) (by decide) hL Y7 T7 r13 (fun z y' h8 f8 T8 => ?_) (fun z => ?_) (fun z y' => ?_)
          skip
          · have vi := XT.v_at Y7.1 T7.1.1 T7.1.2 z
            have gt : gTold τ sW_clear 1 300 (b.2) = .inr (τ.v (τ.e (b.2)), τ.e (τ.e (b.2))) := by unfold gTold; rw [bnd_r gW]; unfold gNum; rw [if_pos z, if_pos y']
            have fg8 : Fr PRm h h8 := fg7.trans (fr_pO f8)
            have hL := f8.lay hL
            have x0 : zF (sI h8 118 26 (iI (τ.v (τ.e (b.2))))) 118 24 = a.1 := by rw [zF_o (by decide), f8.F (by simp [pO, pA, pF]), f7.F (by simp [pO, pA, pF])]; exact w0
            have x1 : zF (sI h8 118 26 (iI (τ.v (τ.e (b.2))))) 118 25 = b.1 := by rw [zF_o (by decide), f8.F (by simp [pO, pA, pF]), f7.F (by simp [pO, pA, pF])]; exact w1
            have J := y4 a b (τ.v (τ.e (b.2)), τ.e (τ.e (b.2))) _ (PRm_put 26 _ (by decide) fg8) (by rw [sI_here, if_neg (by decide), (f8.2 118 29 (by simp [pO, pA, pF])).1, (f7.2 118 29 (by simp [pO, pA, pF])).1]; exact g29) (by rw [sI_here, if_neg (by decide)]; exact tm_13 f8 r13) (T8.fld (by decide)) x0 x1 (zF_s (by omega)) v0 v1 gt
            refine w_putI r_184_112 (Lk_118 hL) (Ln_118 hL) ?_
            exact J
          · have mm : MF (wrg h7 1 (τ.a (τ.e (b.2)))) (1, τ.a (τ.e (b.2))) := wrg_MF (by omega) (by omega)
            have G8 := G7.trans (pM_wrg h7 1 (τ.a (τ.e (b.2))))
            have hL := G8.lay hL0
            have ug : gRover τ s.1 (τ.e k) = .inl (1, τ.a (τ.e (b.2))) := by unfold gRover; rw [bnd_r v0, bnd_r v1]; exact bnd_l (by unfold gTold; rw [bnd_r gW]; unfold gNum; rw [if_neg z])
            have J := z3 (sI (wrg h7 1 (τ.a (τ.e (b.2)))) 118 26 (iI 1)) _ hL (mm.fld (by decide)) (pM_fld (by decide) G8) (fun h' f' m' => kf _ (bnd_l ug) h' f' m')
            refine w_putI r_184_112 (Lk_118 hL) (Ln_118 hL) ?_
            exact J
          · have mm : MF (wrg h7 4 (τ.a (τ.e (b.2)))) (4, τ.a (τ.e (b.2))) := wrg_MF (by omega) (by omega)
            have G8 := G7.trans (pM_wrg h7 4 (τ.a (τ.e (b.2))))
            have hL := G8.lay hL0
            have ug : gRover τ s.1 (τ.e k) = .inl (4, τ.a (τ.e (b.2))) := by unfold gRover; rw [bnd_r v0, bnd_r v1]; exact bnd_l (by unfold gTold; rw [bnd_r gW]; unfold gNum; rw [if_pos z, if_neg y'])
            have J := z3 (sI (wrg h7 4 (τ.a (τ.e (b.2)))) 118 26 (iI 1)) _ hL (mm.fld (by decide)) (pM_fld (by decide) G8) (fun h' f' m' => kf _ (bnd_l ug) h' f' m')
            refine w_putI r_184_112 (Lk_118 hL) (Ln_118 hL) ?_
            exact J
        have y2 : ∀ (a : Int × Int) (g : XH), Fr PRm h g → gI g 118 29 = iI 1 → gI g 118 13 = iI 0 → TM g τ (a.2) → zF g 118 24 = a.1 → gTold τ sW_wheels 2 6 (τ.e k) = .inr a → XW (d + 7) 184 75 [.ref 118] [] g (KV KU) := by
          intro a g fg g29 g13 Tg w0 v0
          have hL := fg.lay hL0
          have G := PRm_pM fg
          have Yg := pM_TY G hY
          have Sg := pM_StC G hS
          have pg := TM.pos Yg Tg
          refine w_aload0 r_184_75 ?_
          refine w_ldcwS (a := 1000090) r_184_76 rfl ?_
          refine k_176 r_184_79 (Lk_118 hL) (Nat.le_of_ble_eq_true rfl) ?_
          refine m_must0 (d := d + 1) hL Yg Tg g13 (sS_40 hL Sg) (fun q h7 f7 T7 => ?_) (fun q => ?_)
          skip
          rotate_left
          · have mm : MF (wrg g 1 (τ.a (a.2))) (1, τ.a (a.2)) := wrg_MF (by omega) (by omega)
            have G7 := G.trans (pM_wrg g 1 (τ.a (a.2)))
            have hL := G7.lay hL0
            have ug : gRover τ s.1 (τ.e k) = .inl (1, τ.a (a.2)) := by unfold gRover; rw [bnd_r v0]; exact bnd_l (bnd_l (by unfold gWord; rw [if_neg (by rw [q]; decide)]))
            have J := z2 (sI (wrg g 1 (τ.a (a.2))) 118 25 (iI 1)) _ hL (mm.fld (by decide)) (pM_fld (by decide) G7) (fun h' f' m' => kf _ (bnd_l ug) h' f' m')
            refine w_popI r_184_82 ?_
            refine w_aload0 r_184_83 ?_
            refine w_aload0 r_184_84 ?_
            refine w_iconst (v := iI (1)) r_184_85 rfl ?_
            refine w_sipush (v := iI (999)) r_184_86 rfl ?_
            refine k_179 r_184_89 (Lk_118 hL) (Nat.le_of_ble_eq_true rfl) ?_
            refine m_number1 (d := d + 5) hL mm.1 ?_
            refine w_putI r_184_92 (Lk_118 hL) (Ln_118 hL) ?_
            exact J
          have gW : gWord τ sW_weight (a.2) = .inr (τ.e (a.2)) := by unfold gWord; rw [if_pos q]
          have fg7 : Fr PRm h h7 := fg.trans (fr_pO f7)
          have G7 := PRm_pM fg7
          have hL := G7.lay hL0
          have Y7 := pM_TY G7 hY
          have r13 := tm_13 f7 g13
          have p7 := TM.pos Y7 T7
          refine w_popI r_184_82 ?_
          refine w_aload0 r_184_83 ?_
          refine w_aload0 r_184_84 ?_
          refine w_iconst (v := iI (1)) r_184_85 rfl ?_
          refine w_sipush (v := iI (999)) r_184_86 rfl ?_
          refine k_179 r_184_89 (Lk_118 hL) (Nat.le_of_ble_eq_true rfl) ?_
          refine m_number0 (d := d + 4) (by decide) (by decide) hL Y7 T7 r13 (fun z y' h8 f8 T8 => ?_) (fun z => ?_) (fun z y' => ?_)
          skip
          · have vi := XT.v_at Y7.1 T7.1.1 T7.1.2 z
            have gt : gTold τ sW_weight 1 999 (a.2) = .inr (τ.v (τ.e (a.2)), τ.e (τ.e (a.2))) := by unfold gTold; rw [bnd_r gW]; unfold gNum; rw [if_pos z, if_pos y']
            have fg8 : Fr PRm h h8 := fg7.trans (fr_pO f8)
            have hL := f8.lay hL
            have x0 : zF (sI h8 118 25 (iI (τ.v (τ.e (a.2))))) 118 24 = a.1 := by rw [zF_o (by decide), f8.F (by simp [pO, pA, pF]), f7.F (by simp [pO, pA, pF])]; exact w0
            have J := y3 a (τ.v (τ.e (a.2)), τ.e (τ.e (a.2))) _ (PRm_put 25 _ (by decide) fg8) (by rw [sI_here, if_neg (by decide), (f8.2 118 29 (by simp [pO, pA, pF])).1, (f7.2 118 29 (by simp [pO, pA, pF])).1]; exact g29) (by rw [sI_here, if_neg (by decide)]; exact tm_13 f8 r13) (T8.fld (by decide)) x0 (zF_s (by omega)) v0 gt
            refine w_putI r_184_92 (Lk_118 hL) (Ln_118 hL) ?_
            exact J
          · have mm : MF (wrg h7 1 (τ.a (τ.e (a.2)))) (1, τ.a (τ.e (a.2))) := wrg_MF (by omega) (by omega)
            have G8 := G7.trans (pM_wrg h7 1 (τ.a (τ.e (a.2))))
            have hL := G8.lay hL0
            have ug : gRover τ s.1 (τ.e k) = .inl (1, τ.a (τ.e (a.2))) := by unfold gRover; rw [bnd_r v0]; exact bnd_l (by unfold gTold; rw [bnd_r gW]; unfold gNum; rw [if_neg z])
            have J := z2 (sI (wrg h7 1 (τ.a (τ.e (a.2)))) 118 25 (iI 1)) _ hL (mm.fld (by decide)) (pM_fld (by decide) G8) (fun h' f' m' => kf _ (bnd_l ug) h' f' m')
            refine w_putI r_184_92 (Lk_118 hL) (Ln_118 hL) ?_
            exact J
          · have mm : MF (wrg h7 4 (τ.a (τ.e (a.2)))) (4, τ.a (τ.e (a.2))) := wrg_MF (by omega) (by omega)
            have G8 := G7.trans (pM_wrg h7 4 (τ.a (τ.e (a.2))))
            have hL := G8.lay hL0
            have ug : gRover τ s.1 (τ.e k) = .inl (4, τ.a (τ.e (a.2))) := by unfold gRover; rw [bnd_r v0]; exact bnd_l (by unfold gTold; rw [bnd_r gW]; unfold gNum; rw [if_pos z, if_neg y'])
            have J := z2 (sI (wrg h7 4 (τ.a (τ.e (a.2)))) 118 25 (iI 1)) _ hL (mm.fld (by decide)) (pM_fld (by decide) G8) (fun h' f' m' => kf _ (bnd_l ug) h' f' m')
            refine w_putI r_184_92 (Lk_118 hL) (Ln_118 hL) ?_
            exact J
        have y1 : ∀ (g : XH), Fr PRm h g → gI g 118 29 = iI 1 → gI g 118 13 = iI 0 → TM g τ (τ.e k) → XW (d + 7) 184 56 [.ref 118] [] g (KV KU) := by
          intro g fg g29 g13 Tg  
          have hL := fg.lay hL0
          have G := PRm_pM fg
          have Yg := pM_TY G hY
          have Sg := pM_StC G hS
          have pg := TM.pos Yg Tg
          refine w_aload0 r_184_56 ?_
          refine w_ldcwS (a := 1000088) r_184_57 rfl ?_
          refine k_176 r_184_60 (Lk_118 hL) (Nat.le_of_ble_eq_true rfl) ?_
          refine m_must0 (d := d + 1) hL Yg Tg g13 (sS_39 hL Sg) (fun q h7 f7 T7 => ?_) (fun q => ?_)
          skip
          rotate_left
          · have mm : MF (wrg g 1 (τ.a (τ.e k))) (1, τ.a (τ.e k)) := wrg_MF (by omega) (by omega)
            have G7 := G.trans (pM_wrg g 1 (τ.a (τ.e k)))
            have hL := G7.lay hL0
            have ug : gRover τ s.1 (τ.e k) = .inl (1, τ.a (τ.e k)) := by unfold gRover; exact bnd_l (bnd_l (by unfold gWord; rw [if_neg (by rw [q]; decide)]))
            have J := z1 (sI (wrg g 1 (τ.a (τ.e k))) 118 24 (iI 2)) _ hL (mm.fld (by decide)) (pM_fld (by decide) G7) (fun h' f' m' => kf _ (bnd_l ug) h' f' m')
            refine w_popI r_184_63 ?_
            refine w_aload0 r_184_64 ?_
            refine w_aload0 r_184_65 ?_
            refine w_iconst (v := iI (2)) r_184_66 rfl ?_
            refine w_bipush (v := iI (6)) r_184_67 rfl ?_
            refine k_179 r_184_69 (Lk_118 hL) (Nat.le_of_ble_eq_true rfl) ?_
            refine m_number1 (d := d + 5) hL mm.1 ?_
            refine w_putI r_184_72 (Lk_118 hL) (Ln_118 hL) ?_
            exact J
          have gW : gWord τ sW_wheels (τ.e k) = .inr (τ.e (τ.e k)) := by unfold gWord; rw [if_pos q]
          have fg7 : Fr PRm h h7 := fg.trans (fr_pO f7)
          have G7 := PRm_pM fg7
          have hL := G7.lay hL0
          have Y7 := pM_TY G7 hY
          have r13 := tm_13 f7 g13
          have p7 := TM.pos Y7 T7
          refine w_popI r_184_63 ?_
          refine w_aload0 r_184_64 ?_
          refine w_aload0 r_184_65 ?_
          refine w_iconst (v := iI (2)) r_184_66 rfl ?_
          refine w_bipush (v := iI (6)) r_184_67 rfl ?_
          refine k_179 r_184_69 (Lk_118 hL) (Nat.le_of_ble_eq_true rfl) ?_
          refine m_number0 (d := d + 4) (by decide) (by decide) hL Y7 T7 r13 (fun z y' h8 f8 T8 => ?_) (fun z => ?_) (fun z y' => ?_)
          skip
          · have vi := XT.v_at Y7.1 T7.1.1 T7.1.2 z
            have gt : gTold τ sW_wheels 2 6 (τ.e k) = .inr (τ.v (τ.e (τ.e k)), τ.e (τ.e (τ.e k))) := by unfold gTold; rw [bnd_r gW]; unfold gNum; rw [if_pos z, if_pos y']
            have fg8 : Fr PRm h h8 := fg7.trans (fr_pO f8)
            have hL := f8.lay hL
            have J := y2 (τ.v (τ.e (τ.e k)), τ.e (τ.e (τ.e k))) _ (PRm_put 24 _ (by decide) fg8) (by rw [sI_here, if_neg (by decide), (f8.2 118 29 (by simp [pO, pA, pF])).1, (f7.2 118 29 (by simp [pO, pA, pF])).1]; exact g29) (by rw [sI_here, if_neg (by decide)]; exact tm_13 f8 r13) (T8.fld (by decide))  (zF_s (by omega))  gt
            refine w_putI r_184_72 (Lk_118 hL) (Ln_118 hL) ?_
            exact J
          · have mm : MF (wrg h7 1 (τ.a (τ.e (τ.e k)))) (1, τ.a (τ.e (τ.e k))) := wrg_MF (by omega) (by omega)
            have G8 := G7.trans (pM_wrg h7 1 (τ.a (τ.e (τ.e k))))
            have hL := G8.lay hL0
            have ug : gRover τ s.1 (τ.e k) = .inl (1, τ.a (τ.e (τ.e k))) := by unfold gRover; exact bnd_l (by unfold gTold; rw [bnd_r gW]; unfold gNum; rw [if_neg z])
            have J := z1 (sI (wrg h7 1 (τ.a (τ.e (τ.e k)))) 118 24 (iI 2)) _ hL (mm.fld (by decide)) (pM_fld (by decide) G8) (fun h' f' m' => kf _ (bnd_l ug) h' f' m')
            refine w_putI r_184_72 (Lk_118 hL) (Ln_118 hL) ?_
            exact J
          · have mm : MF (wrg h7 4 (τ.a (τ.e (τ.e k)))) (4, τ.a (τ.e (τ.e k))) := wrg_MF (by omega) (by omega)
            have G8 := G7.trans (pM_wrg h7 4 (τ.a (τ.e (τ.e k))))
            have hL := G8.lay hL0
            have ug : gRover τ s.1 (τ.e k) = .inl (4, τ.a (τ.e (τ.e k))) := by unfold gRover; exact bnd_l (by unfold gTold; rw [bnd_r gW]; unfold gNum; rw [if_pos z, if_neg y'])
            have J := z1 (sI (wrg h7 4 (τ.a (τ.e (τ.e k)))) 118 24 (iI 2)) _ hL (mm.fld (by decide)) (pM_fld (by decide) G8) (fun h' f' m' => kf _ (bnd_l ug) h' f' m')
            refine w_putI r_184_72 (Lk_118 hL) (Ln_118 hL) ?_
            exact J
        have J := fun h2 (f2 : Fr PTm h h2) t2 => y1 (sI h2 118 29 (iI 1)) (PRm_put 29 _ (by decide) (fr_pO f2)) (by rw [sI_here, if_pos rfl]) (by rw [sI_here, if_neg (by decide)]; exact tm_13 f2 h13) (TM.fld (by decide) t2)
        refine w_aload0 r_184_0 ?_
        refine w_ldcS (a := 1000064) r_184_1 rfl ?_
        refine k_175 r_184_3 (Lk_118 hL) (Nat.le_of_ble_eq_true rfl) ?_
        refine m_word0 (d := d + 2) hL hY hT h13 (sS_27 hL hS) (fun z => absurd z q1) (fun _ => ?_)
        refine v_if_eq r_184_6 (by first | exact zF_in _ _ _ | exact zA_in _ _ _ | omega) (fun _ => ?_) (fun q => absurd q (by omega))
        refine w_aload0 r_184_20 ?_
        refine w_ldcS (a := 1000066) r_184_21 rfl ?_
        refine k_175 r_184_23 (Lk_118 hL) (Nat.le_of_ble_eq_true rfl) ?_
        refine m_word0 (d := d + 2) hL hY hT h13 (sS_28 hL hS) (fun _ => ?_) (fun z => absurd q2 (by rw [z]; decide))
        refine v_if_eq r_184_26 (by first | exact zF_in _ _ _ | exact zA_in _ _ _ | omega) (fun q => absurd q (by omega)) (fun _ => ?_)
        refine w_aload0 r_184_29 ?_
        refine v_getI r_184_30 (Lk_118 hL) h29 ?_
        refine v_if_eq r_184_33 (by first | exact zF_in _ _ _ | exact zA_in _ _ _ | omega) (fun _ => ?_) (fun q => absurd q (by omega))
        refine w_aload0 r_184_47 ?_
        refine k_172 r_184_48 (Lk_118 hL) (Nat.le_of_ble_eq_true rfl) ?_
        refine m_next (d := d + 5) hL hY (by omega) hT.i.2.1 (fun h2 f2 t2 => ?_)
        have hL := f2.lay hL
        refine w_aload0 r_184_51 ?_
        refine w_iconst (v := iI (1)) r_184_52 rfl ?_
        refine w_putZ r_184_53 (Lk_118 hL) (Ln_118 hL) (by decide) ?_
        exact J h2 f2 t2
    · by_cases q3 : τ.is k sW_try = true
      · have u : gLine τ s k = bnd (gTry τ s.1 (τ.e k)) (fun r => .inr ((r.1, s.2), r.2)) := by unfold gLine; rw [if_neg q1, if_neg q2, if_pos q3]
        rw [u] at kt kf
        have go : ∀ h2, Fr PTm h h2 → TM h2 τ (τ.e k) → XW (d + 7) 184 170 [.ref 118] [] h2 (KV KU) := by
          intro h2 f2 T2
          have hL := f2.lay hL0
          refine w_aload0 r_184_170 ?_
          refine k_187 r_184_171 (Lk_118 hL) (Nat.le_of_ble_eq_true rfl) ?_
          refine m_tryLine hL (tm_StC f2 hS) (tm_TY f2 hY) T2 (tm_13 f2 h13) (tm_MBk f2 hQ) ho (fun r gr g f t c n13 n29 n9 => ?_) (fun e ge g f m => ?_)
          · refine w_goto r_184_174 ?_
            refine w_vret r_184_187 ?_
            exact kt ((r.1, s.2), r.2) (by rw [bnd_r gr]) g ((pM_tm f2).trans f) t c n13 (by rw [gI_F, n29, f2.F (by simp [pO, pA, pF]), ← gI_F]; exact h29) (by rw [n9, f2.F (by simp [pO, pA, pF])])
          · refine w_goto r_184_174 ?_
            refine w_vret r_184_187 ?_
            exact kf e (bnd_l ge) g ((pM_tm f2).trans f) m
        refine w_aload0 r_184_0 ?_
        refine w_ldcS (a := 1000064) r_184_1 rfl ?_
        refine k_175 r_184_3 (Lk_118 hL) (Nat.le_of_ble_eq_true rfl) ?_
        refine m_word0 (d := d + 2) hL hY hT h13 (sS_27 hL hS) (fun z => absurd z q1) (fun _ => ?_)
        refine v_if_eq r_184_6 (by first | exact zF_in _ _ _ | exact zA_in _ _ _ | omega) (fun _ => ?_) (fun q => absurd q (by omega))
        refine w_aload0 r_184_20 ?_
        refine w_ldcS (a := 1000066) r_184_21 rfl ?_
        refine k_175 r_184_23 (Lk_118 hL) (Nat.le_of_ble_eq_true rfl) ?_
        refine m_word0 (d := d + 2) hL hY hT h13 (sS_28 hL hS) (fun z => absurd z q2) (fun _ => ?_)
        refine v_if_eq r_184_26 (by first | exact zF_in _ _ _ | exact zA_in _ _ _ | omega) (fun _ => ?_) (fun q => absurd q (by omega))
        refine w_aload0 r_184_157 ?_
        refine w_ldcS (a := 1000068) r_184_158 rfl ?_
        refine k_175 r_184_160 (Lk_118 hL) (Nat.le_of_ble_eq_true rfl) ?_
        refine m_word0 (d := d + 2) hL hY hT h13 (sS_29 hL hS) (fun _ => ?_) (fun z => absurd q3 (by rw [z]; decide))
        refine v_if_eq r_184_163 (by first | exact zF_in _ _ _ | exact zA_in _ _ _ | omega) (fun q => absurd q (by omega)) (fun _ => ?_)
        refine w_aload0 r_184_166 ?_
        refine k_172 r_184_167 (Lk_118 hL) (Nat.le_of_ble_eq_true rfl) ?_
        refine m_next (d := d + 5) hL hY (by omega) hT.i.2.1 (fun h2 f2 t2 => ?_)
        exact go h2 f2 t2
      · have u : gLine τ s k = .inl (1, τ.a k) := by unfold gLine; rw [if_neg q1, if_neg q2, if_neg q3]
        have R := kf _ u (wrg h 1 (τ.a k)) (pM_wrg h 1 (τ.a k)) (wrg_MF (by omega) (by omega))
        refine w_aload0 r_184_0 ?_
        refine w_ldcS (a := 1000064) r_184_1 rfl ?_
        refine k_175 r_184_3 (Lk_118 hL) (Nat.le_of_ble_eq_true rfl) ?_
        refine m_word0 (d := d + 2) hL hY hT h13 (sS_27 hL hS) (fun z => absurd z q1) (fun _ => ?_)
        refine v_if_eq r_184_6 (by first | exact zF_in _ _ _ | exact zA_in _ _ _ | omega) (fun _ => ?_) (fun q => absurd q (by omega))
        refine w_aload0 r_184_20 ?_
        refine w_ldcS (a := 1000066) r_184_21 rfl ?_
        refine k_175 r_184_23 (Lk_118 hL) (Nat.le_of_ble_eq_true rfl) ?_
        refine m_word0 (d := d + 2) hL hY hT h13 (sS_28 hL hS) (fun z => absurd z q2) (fun _ => ?_)
        refine v_if_eq r_184_26 (by first | exact zF_in _ _ _ | exact zA_in _ _ _ | omega) (fun _ => ?_) (fun q => absurd q (by omega))
        refine w_aload0 r_184_157 ?_
        refine w_ldcS (a := 1000068) r_184_158 rfl ?_
        refine k_175 r_184_160 (Lk_118 hL) (Nat.le_of_ble_eq_true rfl) ?_
        refine m_word0 (d := d + 2) hL hY hT h13 (sS_29 hL hS) (fun z => absurd z q3) (fun _ => ?_)
        refine v_if_eq r_184_163 (by first | exact zF_in _ _ _ | exact zA_in _ _ _ | omega) (fun _ => ?_) (fun q => absurd q (by omega))
        refine w_aload0 r_184_177 ?_
        refine w_iconst (v := iI (1)) r_184_178 rfl ?_
        refine w_aload0 r_184_179 ?_
        refine v_getI r_184_180 (Lk_118 hL) hT.i.1 ?_
        refine k_174 r_184_183 (Lk_118 hL) (Nat.le_of_ble_eq_true rfl) ?_
        refine m_wrong0 hL h13 ?_
        refine w_popI r_184_186 ?_
        refine w_vret r_184_187 ?_
        exact R
theorem m_begins {n : Int} (hL : Lay h) (hn : 0 ≤ n ∧ n ≤ 500) (ho : τ.ok) (hτ : τ.2 = n) (hb : ∀ i, 0 ≤ i → i < n → zA h 119 i = τ.1 i) (kk : ∀ h', Fr (pO PTm (pF [(118, 3), (118, 13)])) h h' → TY h' τ → TM h' τ 0 → gI h' 118 13 = iI 0 → KU h') : XW (d + 2) 173 0 [.ref 118, .int (iI n)] [] h (KV KU) := by
  have F1 : Fr (pO PTm (pF [(118, 3), (118, 13)])) h (sI (sI (sI h 118 3 (iI n)) 118 5 (iI 0)) 118 13 (iI 0)) := (((Fr.refl _ _).sI 118 3 _ (by simp [pO, pF])).sI 118 5 _ (by simp [pO, pF])).sI 118 13 _ (by simp [pO, pF])
  have Y1 : TY (sI (sI (sI h 118 3 (iI n)) 118 5 (iI 0)) 118 13 (iI 0)) τ := ⟨ho, by rw [zF_o (by decide), zF_o (by decide), zF_s (by omega), hτ], fun i a b => by rw [zA_o _ (by decide), zA_o _ (by decide), zA_o _ (by decide)]; exact hb i a (by omega)⟩
  have e5 : gI (sI (sI (sI h 118 3 (iI n)) 118 5 (iI 0)) 118 13 (iI 0)) 118 5 = iI 0 := by rw [sI_here, if_neg (by decide), sI_here, if_pos rfl]
  have e13 : gI (sI (sI (sI h 118 3 (iI n)) 118 5 (iI 0)) 118 13 (iI 0)) 118 13 = iI 0 := by rw [sI_here, if_pos rfl]
  have L1 := F1.lay hL
  have go : XW (d + 2) 173 15 [.ref 118, .int (iI n)] [] (sI (sI (sI h 118 3 (iI n)) 118 5 (iI 0)) 118 13 (iI 0)) (KV KU) := by
    generalize sI (sI (sI h 118 3 (iI n)) 118 5 (iI 0)) 118 13 (iI 0) = g at *
    have hL := L1
    refine w_aload0 r_173_15 ?_
    refine k_172 r_173_16 (Lk_118 hL) (Nat.le_of_ble_eq_true rfl) ?_
    refine m_next (k := 0) hL Y1 (by omega) e5 (fun h' f' t' => ?_)
    refine w_vret r_173_19 ?_
    exact kk h' (F1.trans (fr_pO f')) (tm_TY f' Y1) t' (tm_13 f' e13)
  refine w_aload0 r_173_0 ?_
  refine w_iload1 r_173_1 ?_
  refine w_putI r_173_2 (Lk_118 hL) (Ln_118 hL) ?_
  refine w_aload0 r_173_5 ?_
  refine w_iconst (v := iI (0)) r_173_6 rfl ?_
  refine w_putI r_173_7 (Lk_118 hL) (Ln_118 hL) ?_
  refine w_aload0 r_173_10 ?_
  refine w_iconst (v := iI (0)) r_173_11 rfl ?_
  refine w_putZ r_173_12 (Lk_118 hL) (Ln_118 hL) (by decide) ?_
  exact go
end MB4
