/-! the Model reads a book: a try's line -/
section MB3
variable {d : Nat} {h : XH} {K : Int32 → XH → Prop} {KU : XH → Prop} {τ : XT} {k : Int} {w : List Int} {a : Nat} {B : XB}
abbrev PTy : Nat → Nat → Bool := pO PTm (pA [129, 130, 131])
theorem PTy_pT {g : XH} (f : Fr PTy h g) : Fr pT h g := f.mono (fun a j q => by
  simp [pT] at q
  simp only [pO, Bool.or_eq_false_iff]
  refine ⟨⟨by simp [pA]; omega, by simp [pF]; omega⟩, by simp [pA]; omega⟩)
theorem PTy_no {x j : Nat} (h1 : ¬ x = 120) (h2 : ¬ x = 118 ∨ 9 ≤ j) (h3 : x < 129 ∨ 131 < x) : PTy x j = false := by
  simp only [pO, Bool.or_eq_false_iff]
  refine ⟨⟨by simp [pA]; omega, ?_⟩, by simp [pA]; omega⟩
  rcases h2 with q | q
  · simp [pF, q]
  · simp [pF]; omega
theorem PTy_put {g : XH} {x j : Nat} {v : Int32} (hx : x = 129 ∨ x = 130 ∨ x = 131) (f : Fr PTy h g) : Fr PTy h (sI g x j v) := f.sI x j v (by simp only [pO, Bool.or_eq_true]; right; simp [pA]; omega)
theorem m_tryLine (hL : Lay h) (hS : StC h) (hY : TY h τ) (hT : TM h τ k) (h13 : gI h 118 13 = iI 0) (hQ : MBk h B) (ho : B.ok)
    (kt : ∀ r, gTry τ B k = .inr r → ∀ h', Fr pM h h' → TM h' τ r.2 → MBk h' r.1 → gI h' 118 13 = iI 0 → zF h' 118 29 = zF h 118 29 → zF h' 118 9 = zF h 118 9 → KU h')
    (kf : ∀ e, gTry τ B k = .inl e → ∀ h', Fr pM h h' → MF h' e → KU h') : XW (d + 6) 187 0 [.ref 118, .null] [] h (KV KU) := by
  have o := ho.1
  have p := TM.pos hY hT
  have hL0 := hL
  unfold gTry at kt kf
  have t206 : ∀ (g : XH) (X1 : Value) (e : Int × Int), Lay g → MF g e → KU g → XW (d + 6) 187 206 [.ref 118, X1] [] g (KV KU) := by
    intro g X1 e hL m R
    refine w_aload0 r_187_206 ?_
    refine v_getI r_187_207 (Lk_118 hL) m.1 ?_
    refine v_if_ne r_187_210 (by first | exact zF_in _ _ _ | exact zA_in _ _ _ | omega) (fun _ => ?_) (fun q => absurd q (by omega))
    refine w_vret r_187_223 ?_
    exact R
  have t182 : ∀ (g : XH) (X1 : Value) (e : Int × Int), Lay g → MF g e → Fr pT h g → B.t < 6 → (∀ h', Fr pT h h' → MF h' e → KU h') → XW (d + 6) 187 182 [.ref 118, X1] [] g (KV KU) := by
    intro g X1 e hL m f g8 R
    have g23 : gI g 118 23 = iI B.t := by rw [pT_22 (by decide) f]; exact e23 hQ
    have J := t206 (sI g 131 B.t.toNat (iI 1)) X1 e hL (m.row (by decide)) (R _ (pT_row (by decide) f) (m.row (by decide)))
    refine w_aload0 r_187_182 ?_
    refine w_ldcwS (a := 1000102) r_187_183 rfl ?_
    refine k_176 r_187_186 (Lk_118 hL) (Nat.le_of_ble_eq_true rfl) ?_
    refine m_must1 (d := d + 4) hL m.1 ?_
    refine w_popI r_187_189 ?_
    refine w_aload0 r_187_190 ?_
    refine w_getA (x := 131) r_187_191 (Lk_118 hL) (Lr_118_32 hL) (by decide) ?_
    refine w_aload0 r_187_194 ?_
    refine v_getI r_187_195 (Lk_118 hL) g23 ?_
    refine w_aload0 r_187_198 ?_
    refine w_iconst (v := iI (1)) r_187_199 rfl ?_
    refine w_bipush (v := iI (99)) r_187_200 rfl ?_
    refine k_179 r_187_202 (Lk_118 hL) (Nat.le_of_ble_eq_true rfl) ?_
    refine m_number1 (d := d + 4) hL m.1 ?_
    refine v_iast r_187_205 (Lk_131 hL) (Ln_131 hL) (Lz_131 hL) (by decide) (by omega) ?_
    exact J
  have t158 : ∀ (g : XH) (X1 : Value) (e : Int × Int), Lay g → MF g e → Fr pT h g → B.t < 6 → (∀ h', Fr pT h h' → MF h' e → KU h') → XW (d + 6) 187 158 [.ref 118, X1] [] g (KV KU) := by
    intro g X1 e hL m f g8 R
    have g23 : gI g 118 23 = iI B.t := by rw [pT_22 (by decide) f]; exact e23 hQ
    have J := t182 (sI g 130 B.t.toNat (iI 0)) X1 e hL (m.row (by decide)) (pT_row (by decide) f) g8 R
    refine w_aload0 r_187_158 ?_
    refine w_ldcwS (a := 1000100) r_187_159 rfl ?_
    refine k_176 r_187_162 (Lk_118 hL) (Nat.le_of_ble_eq_true rfl) ?_
    refine m_must1 (d := d + 4) hL m.1 ?_
    refine w_popI r_187_165 ?_
    refine w_aload0 r_187_166 ?_
    refine w_getA (x := 130) r_187_167 (Lk_118 hL) (Lr_118_31 hL) (by decide) ?_
    refine w_aload0 r_187_170 ?_
    refine v_getI r_187_171 (Lk_118 hL) g23 ?_
    refine w_aload0 r_187_174 ?_
    refine w_bipush (v := iI (-4)) r_187_175 rfl ?_
    refine w_iconst (v := iI (4)) r_187_177 rfl ?_
    refine k_180 r_187_178 (Lk_118 hL) (Nat.le_of_ble_eq_true rfl) ?_
    refine m_signed1 (d := d + 4) hL m.1 ?_
    refine v_iast r_187_181 (Lk_130 hL) (Ln_130 hL) (Lz_130 hL) (by decide) (by omega) ?_
    exact J
  have t142 : ∀ (g : XH) (X1 : Value) (e : Int × Int), Lay g → MF g e → Fr pT h g → B.t < 6 → (∀ h', Fr pT h h' → MF h' e → KU h') → XW (d + 6) 187 142 [.ref 118, X1] [] g (KV KU) := by
    intro g X1 e hL m f g8 R
    have g23 : gI g 118 23 = iI B.t := by rw [pT_22 (by decide) f]; exact e23 hQ
    have J := t158 (sI g 129 B.t.toNat (iI 0)) X1 e hL (m.row (by decide)) (pT_row (by decide) f) g8 R
    refine w_aload0 r_187_142 ?_
    refine w_getA (x := 129) r_187_143 (Lk_118 hL) (Lr_118_30 hL) (by decide) ?_
    refine w_aload0 r_187_146 ?_
    refine v_getI r_187_147 (Lk_118 hL) g23 ?_
    refine w_aload0 r_187_150 ?_
    refine w_bipush (v := iI (-4)) r_187_151 rfl ?_
    refine w_iconst (v := iI (4)) r_187_153 rfl ?_
    refine k_180 r_187_154 (Lk_118 hL) (Nat.le_of_ble_eq_true rfl) ?_
    refine m_signed1 (d := d + 4) hL m.1 ?_
    refine v_iast r_187_157 (Lk_129 hL) (Ln_129 hL) (Lz_129 hL) (by decide) (by omega) ?_
    exact J
  by_cases q : τ.nm k = true
  · have q1 := nm_word q
    have isn : ∀ (KK : Int32 → XH → Prop), KK (iI 1) h → XW (d + 5) 177 0 [.ref 118, .null] [] h (KI KK) := fun KK kk => m_isName hL hS hY hT h13 (fun _ => kk) (fun z => absurd q (by rw [z]; decide))
    have fnd : ∀ (KK : Int32 → XH → Prop), KK (iI (nmI B.tn B.t (τ.w k))) h → XW (d + 5) 178 0 [.ref 118, .ref 123, .ref 124, .int (iI B.t), .null, .null, .null] [] h (KI KK) := fun KK kk => m_find hL hY hT q1 ⟨⟨Lk_123 hL, Lz_123 hL, by decide⟩, Lk_124 hL, Lz_124 hL, by decide⟩ (by omega) (fun i a b => (hQ.2.2.2.2 i a b).1) kk
    have ni := nmI_in B.tn B.t (τ.w k) (by omega)
    by_cases g : nmI B.tn B.t (τ.w k) = -1
    · by_cases m : (6 : Int) ≤ B.t
      · have R := kf (5, τ.a k) (bnd_l (by unfold gName; rw [if_pos q, if_pos g, if_pos m])) _ (pM_wrg h 5 (τ.a k)) (wrg_MF (by omega) (by omega))
        refine w_aload0 r_187_0 ?_
        refine k_177 r_187_1 (Lk_118 hL) (Nat.le_of_ble_eq_true rfl) ?_
        refine isn _ ?_
        refine v_if_ne r_187_4 (by first | exact zF_in _ _ _ | exact zA_in _ _ _ | omega) (fun _ => ?_) (fun q => absurd q (by omega))
        refine w_aload0 r_187_18 ?_
        refine w_aload0 r_187_19 ?_
        refine w_getA (x := 123) r_187_20 (Lk_118 hL) (Lr_118_16 hL) (by decide) ?_
        refine w_aload0 r_187_23 ?_
        refine w_getA (x := 124) r_187_24 (Lk_118 hL) (Lr_118_17 hL) (by decide) ?_
        refine w_aload0 r_187_27 ?_
        refine v_getI r_187_28 (Lk_118 hL) (e23 hQ) ?_
        refine k_178 r_187_31 (Lk_118 hL) (Nat.le_of_ble_eq_true rfl) ?_
        refine fnd _ ?_
        refine v_if_lt r_187_34 (by first | exact zF_in _ _ _ | exact zA_in _ _ _ | omega) (fun _ => ?_) (fun q => absurd q (by omega))
        refine w_aload0 r_187_47 ?_
        refine v_getI r_187_48 (Lk_118 hL) h13 ?_
        refine v_if_ne r_187_51 (by first | exact zF_in _ _ _ | exact zA_in _ _ _ | omega) (fun q => absurd q (by omega)) (fun _ => ?_)
        refine w_aload0 r_187_54 ?_
        refine v_getI r_187_55 (Lk_118 hL) (e23 hQ) ?_
        refine w_bipush (v := iI (6)) r_187_58 rfl ?_
        refine v_ic_ne r_187_60 (by first | exact zF_in _ _ _ | exact zA_in _ _ _ | omega) (by first | exact zF_in _ _ _ | exact zA_in _ _ _ | omega) (fun q => absurd q (by omega)) (fun _ => ?_)
        refine w_aload0 r_187_63 ?_
        refine w_iconst (v := iI (5)) r_187_64 rfl ?_
        refine w_aload0 r_187_65 ?_
        refine v_getI r_187_66 (Lk_118 hL) hT.i.1 ?_
        refine k_174 r_187_69 (Lk_118 hL) (Nat.le_of_ble_eq_true rfl) ?_
        refine m_wrong0 hL h13 ?_
        refine w_popI r_187_72 ?_
        refine w_aload0 r_187_73 ?_
        refine v_getI r_187_74 (Lk_118 hL) (wrg_13 _ _ _) ?_
        refine v_if_eq r_187_77 (by first | exact zF_in _ _ _ | exact zA_in _ _ _ | omega) (fun q => absurd q (by omega)) (fun _ => ?_)
        refine w_vret r_187_80 ?_
        exact R
      · have gN : gName τ B.tn B.t 6 k = .inr (τ.e k) := by unfold gName; rw [if_pos q, if_pos g, if_neg m]
        rw [bnd_r gN] at kt kf
        have wl := XT.w_at hY.1 hT.1.1 hT.1.2 q1
        have go : ∀ h1, Fr (pA [123]) h h1 → (∀ i, 0 ≤ i → i < τ.e k - τ.a k → zA h1 123 (8 * B.t + i) = τ.1 (τ.a k + i)) → (∀ i, 0 ≤ i → i < 8 * B.t → zA h1 123 i = zA h 123 i) → XW (d + 6) 187 117 [.ref 118, .int (iI (τ.e k - τ.a k))] [] h1 (KV KU) := by
          intro h1 f1 a1 b1
          have L1 := f1.lay hL0
          have F1 : Fr (pA [123, 124]) h (sI h1 124 B.t.toNat (iI (τ.e k - τ.a k))) := (f1.mono (fun a j q => by simp [pA] at q ⊢; omega)).sI 124 _ _ (by simp [pA])
          have y123 : ∀ i, 0 ≤ i → zA (sI h1 124 B.t.toNat (iI (τ.e k - τ.a k))) 124 i = if i = B.t then τ.e k - τ.a k else zA h 124 i := fun i i0 => by rw [zA_s (by omega) i0 (by omega), f1.A (by simp [pA])]
          have y122 : ∀ i, zA (sI h1 124 B.t.toNat (iI (τ.e k - τ.a k))) 123 i = zA h1 123 i := fun i => zA_o _ (by decide)
          have v126 : gI h1 118 8 = iI (τ.e k - τ.a k) := by rw [(f1.2 118 8 (by simp [pA])).1, gI_F, (hT.2.2.2.2.2 q1).1]
          have rest : ∀ h2, Fr (pA [123, 124]) h h2 → TM h2 τ k → (∀ i, 0 ≤ i → zA h2 124 i = if i = B.t then τ.e k - τ.a k else zA h 124 i) → (∀ i, zA h2 123 i = zA h1 123 i) → ∀ X1 : Value, XW (d + 6) 187 130 [.ref 118, X1] [] h2 (KV KU) := by
            intro h2 f2 T2 s2 l2 X1
            have L2 := f2.lay hL0
            have G2 : Fr pT h h2 := f2.mono (fun a j q => by simp [pT] at q; simp [pA]; omega)
            have Y2 := pM_TY (pT_pM G2) hY
            have z13 : gI h2 118 13 = iI 0 := by rw [(f2.2 118 13 (by simp [pA])).1]; exact h13
            -- behind the third number
            have sD : ∀ (x y z : Int × Int) (g : XH), Fr PTy h2 g → TM g τ z.2 → gI g 118 13 = iI 0 → (zA g 129 B.t = x.1 ∧ zA g 130 B.t = y.1 ∧ zA g 131 B.t = z.1) → (∀ i, 0 ≤ i → ¬ i = B.t → zA g 129 i = zA h2 129 i ∧ zA g 130 i = zA h2 130 i ∧ zA g 131 i = zA h2 131 i) → gTurn τ sW_each (τ.e k) = .inr x → gTurn τ sW_one x.2 = .inr y → gTold τ sW_cost 1 99 y.2 = .inr z → XW (d + 6) 187 206 [.ref 118, X1] [] g (KV KU) := by
              intro x y z g fg Tg g13 v w u1 u2 u3
              rw [bnd_r u1, bnd_r u2, bnd_r u3] at kt
              have G := G2.trans (PTy_pT fg)
              have hL := G.lay hL0
              have w23 : gI g 118 23 = iI B.t := by rw [pT_22 (by decide) G]; exact e23 hQ
              have e : ∀ x i, 121 ≤ x → x ≤ 128 → zA (sI g 118 23 (iI (B.t + 1))) x i = zA h2 x i := fun x i c1 c2 => by
                rw [zA_o _ (by omega), fg.A (PTy_no (by omega) (by omega) (by omega))]
              have C : MBk (sI g 118 23 (iI (B.t + 1))) (addT B (τ.w k) x.1 y.1 z.1) := by
                have eF : ∀ j, 22 ≤ j → ¬ j = 23 → zF (sI g 118 23 (iI (B.t + 1))) 118 j = zF h 118 j := fun j c c2 => by
                  rw [zF_o (by omega)]
                  unfold zF
                  rw [pT_22 (by omega) G]
                refine ⟨⟨(eF 22 (by decide) (by decide)).trans hQ.1.1, zF_s (by omega), (eF 24 (by decide) (by decide)).trans hQ.1.2.2.1, (eF 25 (by decide) (by decide)).trans hQ.1.2.2.2.1, (eF 26 (by decide) (by decide)).trans hQ.1.2.2.2.2.1, (eF 27 (by decide) (by decide)).trans hQ.1.2.2.2.2.2.1, (eF 28 (by decide) (by decide)).trans hQ.1.2.2.2.2.2.2⟩, fun i a b => ?_, fun i a b j j0 j1 => ?_, fun i a b j j0 j1 => ?_, fun i a b => ?_⟩
                · have oc := hQ.2.1 i a b
                  rw [e 125 i (by decide) (by decide), e 126 i (by decide) (by decide), f2.A (by simp [pA]), f2.A (by simp [pA])]
                  exact ⟨MNm.eq (by rw [e 122 i (by decide) (by decide), f2.A (by simp [pA])]) (fun j _ _ => by rw [e 121 _ (by decide) (by decide), f2.A (by simp [pA])]) oc.1, oc.2⟩
                · rw [e 127 _ (by decide) (by decide), e 127 _ (by decide) (by decide), f2.A (by simp [pA]), f2.A (by simp [pA])]
                  exact hQ.2.2.1 i a b j j0 j1
                · rw [e 128 _ (by decide) (by decide), e 128 _ (by decide) (by decide), f2.A (by simp [pA]), f2.A (by simp [pA])]
                  exact hQ.2.2.2.1 i a b j j0 j1
                · have b' : i < B.t + 1 := b
                  show MNm _ 123 124 i (up1 B.tn B.t (τ.w k) i) ∧ zA _ 129 i = up1 B.ea B.t x.1 i ∧ zA _ 130 i = up1 B.on B.t y.1 i ∧ zA _ 131 i = up1 B.pr B.t z.1 i
                  rw [zA_o _ (by decide), zA_o _ (by decide), zA_o _ (by decide)]
                  by_cases q : i = B.t
                  · rw [q, up1_at, up1_at, up1_at, up1_at]
                    refine ⟨⟨?_, ?_, fun j j0 j1 => ?_, ?_⟩, v.1, v.2.1, v.2.2⟩
                    · rw [e _ _ (by decide) (by decide), s2 _ (by omega), if_pos rfl]; omega
                    · rw [e _ _ (by decide) (by decide), s2 _ (by omega), if_pos rfl]; omega
                    · rw [e _ _ (by decide) (by decide), s2 _ (by omega), if_pos rfl] at j1
                      rw [e _ _ (by decide) (by decide), l2, a1 j j0 j1]
                      exact wl.2 j j0 j1
                    · rw [e _ _ (by decide) (by decide), s2 _ (by omega), if_pos rfl]
                      unfold XT.w
                      exact enc_congr _ (fun j j0 j1 => by rw [e _ _ (by decide) (by decide), l2, a1 j j0 (by omega)])
                  · have oc := hQ.2.2.2.2 i a (by omega)
                    have ww := w i a q
                    rw [up1_ne q, up1_ne q, up1_ne q, up1_ne q, ww.1, ww.2.1, ww.2.2, f2.A (by simp [pA]), f2.A (by simp [pA]), f2.A (by simp [pA])]
                    refine ⟨MNm.eq ?_ (fun j j0 j1 => ?_) oc.1, oc.2⟩
                    · rw [e _ _ (by decide) (by decide), s2 _ a, if_neg q]
                    · rw [e _ _ (by decide) (by decide), l2, b1 _ (by omega) (by omega)]
              have R := kt _ rfl _ (pM_fld (by omega) (pT_pM G)) (Tg.fld (by omega)) C (by rw [sI_here, if_neg (by decide)]; exact g13) (by rw [zF_o (by decide)]; unfold zF; rw [pT_22 (by decide) G]) (by rw [zF_o (by decide), fg.F (PTy_no (by decide) (by decide) (by decide)), f2.F (by simp [pA])])
              refine w_aload0 r_187_206 ?_
              refine v_getI r_187_207 (Lk_118 hL) g13 ?_
              refine v_if_ne r_187_210 (by first | exact zF_in _ _ _ | exact zA_in _ _ _ | omega) (fun q => absurd q (by omega)) (fun _ => ?_)
              refine w_aload0 r_187_213 ?_
              refine w_dupA r_187_214 ?_
              refine v_getI r_187_215 (Lk_118 hL) w23 ?_
              refine w_iconst (v := iI (1)) r_187_218 rfl ?_
              refine v_iadd r_187_219 ?_
              refine w_putI r_187_220 (Lk_118 hL) (Ln_118 hL) ?_
              refine w_vret r_187_223 ?_
              exact R
            have sC : ∀ (x y : Int × Int) (g : XH), Fr PTy h2 g → TM g τ y.2 → gI g 118 13 = iI 0 → (zA g 129 B.t = x.1 ∧ zA g 130 B.t = y.1) → (∀ i, 0 ≤ i → ¬ i = B.t → zA g 129 i = zA h2 129 i ∧ zA g 130 i = zA h2 130 i ∧ zA g 131 i = zA h2 131 i) → gTurn τ sW_each (τ.e k) = .inr x → gTurn τ sW_one x.2 = .inr y → XW (d + 6) 187 182 [.ref 118, X1] [] g (KV KU) := by
              intro x y g fg Tg g13 v w u1 u2
              rw [bnd_r u1, bnd_r u2] at kf
              have G := G2.trans (PTy_pT fg)
              have hL := G.lay hL0
              have Yg := pM_TY (pT_pM G) hY
              have Sg := pM_StC (pT_pM G) hS
              have pg := TM.pos Yg Tg
              refine w_aload0 r_187_182 ?_
              refine w_ldcwS (a := 1000102) r_187_183 rfl ?_
              refine k_176 r_187_186 (Lk_118 hL) (Nat.le_of_ble_eq_true rfl) ?_
              refine m_must0 hL Yg Tg g13 (sS_46 hL Sg) (fun q h7 f7 T7 => ?_) (fun q => ?_)
              skip
              rotate_left
              · have mm : MF (wrg g 1 (τ.a y.2)) (1, τ.a y.2) := wrg_MF (by omega) (by omega)
                have G7 := G.trans (pT_wrg g 1 (τ.a y.2))
                have hL := G7.lay hL0
                have w23 : gI (wrg g 1 (τ.a y.2)) 118 23 = iI B.t := by rw [pT_22 (by decide) G7]; exact e23 hQ
                have J := t206 (sI (wrg g 1 (τ.a y.2)) 131 B.t.toNat (iI 1)) X1 (1, τ.a y.2) hL (mm.row (by decide)) (kf _ (bnd_l (bnd_l (by unfold gWord; rw [if_neg (by rw [q]; decide)]))) _ (pT_pM (pT_row (by decide) G7)) (mm.row (by decide)))
                refine w_popI r_187_189 ?_
                refine w_aload0 r_187_190 ?_
                refine w_getA (x := 131) r_187_191 (Lk_118 hL) (Lr_118_32 hL) (by decide) ?_
                refine w_aload0 r_187_194 ?_
                refine v_getI r_187_195 (Lk_118 hL) w23 ?_
                refine w_aload0 r_187_198 ?_
                refine w_iconst (v := iI (1)) r_187_199 rfl ?_
                refine w_bipush (v := iI (99)) r_187_200 rfl ?_
                refine k_179 r_187_202 (Lk_118 hL) (Nat.le_of_ble_eq_true rfl) ?_
                refine m_number1 (d := d + 4) hL mm.1 ?_
                refine v_iast r_187_205 (Lk_131 hL) (Ln_131 hL) (Lz_131 hL) (by decide) (by omega) ?_
                exact J
              have gW : gWord τ sW_cost y.2 = .inr (τ.e y.2) := by unfold gWord; rw [if_pos q]
              have G7 := G.trans (pT_tm f7)
              have hL := G7.lay hL0
              have Y7 := pM_TY (pT_pM G7) hY
              have r13 := tm_13 f7 g13
              have w23 : gI h7 118 23 = iI B.t := by rw [pT_22 (by decide) G7]; exact e23 hQ
              have p7 := TM.pos Y7 T7
              refine w_popI r_187_189 ?_
              refine w_aload0 r_187_190 ?_
              refine w_getA (x := 131) r_187_191 (Lk_118 hL) (Lr_118_32 hL) (by decide) ?_
              refine w_aload0 r_187_194 ?_
              refine v_getI r_187_195 (Lk_118 hL) w23 ?_
              refine w_aload0 r_187_198 ?_
              refine w_iconst (v := iI (1)) r_187_199 rfl ?_
              refine w_bipush (v := iI (99)) r_187_200 rfl ?_
              refine k_179 r_187_202 (Lk_118 hL) (Nat.le_of_ble_eq_true rfl) ?_
              refine m_number0 (d := d + 3) (by decide) (by decide) hL Y7 T7 r13 (fun z y' h8 f8 T8 => ?_) (fun z => ?_) (fun z y' => ?_)
              skip
              · have vi := XT.v_at Y7.1 T7.1.1 T7.1.2 z
                have gt : gTold τ sW_cost 1 99 y.2 = .inr (τ.v (τ.e y.2), τ.e (τ.e y.2)) := by unfold gTold; rw [bnd_r gW]; unfold gNum; rw [if_pos z, if_pos y']
                have f8' : Fr PTy h2 h8 := (fg.trans (fr_pO f7)).trans (fr_pO f8)
                have hL := f8.lay hL
                have z5 : ∀ u i, ¬ u = 118 → ¬ u = 120 → ¬ u = 131 → zA (sI h8 131 B.t.toNat (iI (τ.v (τ.e y.2)))) u i = zA g u i := fun u i c1 c2 c3 => by rw [zA_o _ c3, f8.A (by simp [pO, pA, pF]; omega), f7.A (by simp [pO, pA, pF]; omega)]
                have y5 : ∀ i, 0 ≤ i → zA (sI h8 131 B.t.toNat (iI (τ.v (τ.e y.2)))) 131 i = if i = B.t then τ.v (τ.e y.2) else zA g 131 i := fun i i0 => by rw [zA_s (by omega) i0 (by omega), f8.A (by simp [pO, pA, pF]), f7.A (by simp [pO, pA, pF])]
                have J := sD x y (τ.v (τ.e y.2), τ.e (τ.e y.2)) (sI h8 131 B.t.toNat (iI (τ.v (τ.e y.2)))) (PTy_put (by decide) f8') (T8.row (by decide)) (by rw [sI_other _ (by decide)]; exact tm_13 f8 r13) ⟨by rw [z5 _ _ (by decide) (by decide) (by decide)]; exact v.1, by rw [z5 _ _ (by decide) (by decide) (by decide)]; exact v.2, by rw [y5 _ (by omega), if_pos rfl]⟩ (fun i i0 i1 => by rw [z5 _ _ (by decide) (by decide) (by decide), z5 _ _ (by decide) (by decide) (by decide), y5 i i0, if_neg i1]; exact w i i0 i1) u1 u2 gt
                refine v_iast r_187_205 (Lk_131 hL) (Ln_131 hL) (Lz_131 hL) (by decide) (by omega) ?_
                exact J
              · have mm : MF (wrg h7 1 (τ.a (τ.e y.2))) (1, τ.a (τ.e y.2)) := wrg_MF (by omega) (by omega)
                have G8 := G7.trans (pT_wrg h7 1 (τ.a (τ.e y.2)))
                have hL := G8.lay hL0
                have J := t206 (sI (wrg h7 1 (τ.a (τ.e y.2))) 131 B.t.toNat (iI 1)) X1 _ hL (mm.row (by decide)) (kf _ (bnd_l (by unfold gTold; rw [bnd_r gW]; unfold gNum; rw [if_neg z])) _ (pT_pM (pT_row (by decide) G8)) (mm.row (by decide)))
                refine v_iast r_187_205 (Lk_131 hL) (Ln_131 hL) (Lz_131 hL) (by decide) (by omega) ?_
                exact J
              · have mm : MF (wrg h7 4 (τ.a (τ.e y.2))) (4, τ.a (τ.e y.2)) := wrg_MF (by omega) (by omega)
                have G8 := G7.trans (pT_wrg h7 4 (τ.a (τ.e y.2)))
                have hL := G8.lay hL0
                have J := t206 (sI (wrg h7 4 (τ.a (τ.e y.2))) 131 B.t.toNat (iI 1)) X1 _ hL (mm.row (by decide)) (kf _ (bnd_l (by unfold gTold; rw [bnd_r gW]; unfold gNum; rw [if_pos z, if_neg y'])) _ (pT_pM (pT_row (by decide) G8)) (mm.row (by decide)))
                refine v_iast r_187_205 (Lk_131 hL) (Ln_131 hL) (Lz_131 hL) (by decide) (by omega) ?_
                exact J
            have sB : ∀ (x : Int × Int) (g : XH), Fr PTy h2 g → TM g τ x.2 → gI g 118 13 = iI 0 → zA g 129 B.t = x.1 → (∀ i, 0 ≤ i → ¬ i = B.t → zA g 129 i = zA h2 129 i ∧ zA g 130 i = zA h2 130 i ∧ zA g 131 i = zA h2 131 i) → gTurn τ sW_each (τ.e k) = .inr x → XW (d + 6) 187 158 [.ref 118, X1] [] g (KV KU) := by
              intro x g fg Tg g13 v w u1
              rw [bnd_r u1] at kf
              have G := G2.trans (PTy_pT fg)
              have hL := G.lay hL0
              have Yg := pM_TY (pT_pM G) hY
              have Sg := pM_StC (pT_pM G) hS
              have pg := TM.pos Yg Tg
              refine w_aload0 r_187_158 ?_
              refine w_ldcwS (a := 1000100) r_187_159 rfl ?_
              refine k_176 r_187_162 (Lk_118 hL) (Nat.le_of_ble_eq_true rfl) ?_
              refine m_must0 hL Yg Tg g13 (sS_45 hL Sg) (fun q h7 f7 T7 => ?_) (fun q => ?_)
              skip
              rotate_left
              · have mm : MF (wrg g 1 (τ.a (x.2))) (1, τ.a (x.2)) := wrg_MF (by omega) (by omega)
                have G7 := G.trans (pT_wrg g 1 (τ.a (x.2)))
                have hL := G7.lay hL0
                have w23 : gI (wrg g 1 (τ.a (x.2))) 118 23 = iI B.t := by rw [pT_22 (by decide) G7]; exact e23 hQ
                have J := t182 (sI (wrg g 1 (τ.a (x.2))) 130 B.t.toNat (iI 0)) X1 (1, τ.a (x.2)) hL (mm.row (by decide)) (pT_row (by decide) G7) (by omega) (fun h' f' m' => kf _ (bnd_l (bnd_l (by unfold gWord; rw [if_neg (by rw [q]; decide)]))) h' (pT_pM f') m')
                refine w_popI r_187_165 ?_
                refine w_aload0 r_187_166 ?_
                refine w_getA (x := 130) r_187_167 (Lk_118 hL) (Lr_118_31 hL) (by decide) ?_
                refine w_aload0 r_187_170 ?_
                refine v_getI r_187_171 (Lk_118 hL) w23 ?_
                refine w_aload0 r_187_174 ?_
                refine w_bipush (v := iI (-4)) r_187_175 rfl ?_
                refine w_iconst (v := iI (4)) r_187_177 rfl ?_
                refine k_180 r_187_178 (Lk_118 hL) (Nat.le_of_ble_eq_true rfl) ?_
                refine m_signed1 (d := d + 4) hL mm.1 ?_
                refine v_iast r_187_181 (Lk_130 hL) (Ln_130 hL) (Lz_130 hL) (by decide) (by omega) ?_
                exact J
              have gW : gWord τ sW_one (x.2) = .inr (τ.e (x.2)) := by unfold gWord; rw [if_pos q]
              have G7 := G.trans (pT_tm f7)
              have hL := G7.lay hL0
              have Y7 := pM_TY (pT_pM G7) hY
              have r13 := tm_13 f7 g13
              have w23 : gI h7 118 23 = iI B.t := by rw [pT_22 (by decide) G7]; exact e23 hQ
              have p7 := TM.pos Y7 T7
              have ps : (0 ≤ τ.sk (τ.e (x.2)) ∧ τ.sk (τ.e (x.2)) ≤ τ.2) := by unfold XT.sk; have := T7.1; split <;> omega
              have pa := XT.a_at Y7.1 ps.1 ps.2
              have po := Y7.1.1
              refine w_popI r_187_165 ?_
              refine w_aload0 r_187_166 ?_
              refine w_getA (x := 130) r_187_167 (Lk_118 hL) (Lr_118_31 hL) (by decide) ?_
              refine w_aload0 r_187_170 ?_
              refine v_getI r_187_171 (Lk_118 hL) w23 ?_
              refine w_aload0 r_187_174 ?_
              refine w_bipush (v := iI (-4)) r_187_175 rfl ?_
              refine w_iconst (v := iI (4)) r_187_177 rfl ?_
              refine k_180 r_187_178 (Lk_118 hL) (Nat.le_of_ble_eq_true rfl) ?_
              refine m_signed0 (d := d + 3) hL Y7 T7 r13 (fun z y' h8 f8 T8 => ?_) (fun z h8 f8 => ?_) (fun z y' h8 f8 => ?_)
              skip
              · have vi := XT.v_at Y7.1 ps.1 ps.2 z
                have gt : gTurn τ sW_one (x.2) = .inr (τ.sv (τ.e (x.2)), τ.e (τ.sk (τ.e (x.2)))) := by unfold gTurn; rw [bnd_r gW, if_pos z, if_pos y']
                have si := (gTurn_ok Y7.1 Tg.1 gt).1
                have f8' : Fr PTy h2 h8 := (fg.trans (fr_pO f7)).trans (fr_pO f8)
                have hL := f8.lay hL
                have z5 : ∀ u i, ¬ u = 118 → ¬ u = 120 → ¬ u = 130 → zA (sI h8 130 B.t.toNat (iI (τ.sv (τ.e (x.2))))) u i = zA g u i := fun u i c1 c2 c3 => by rw [zA_o _ c3, f8.A (by simp [pO, pA, pF]; omega), f7.A (by simp [pO, pA, pF]; omega)]
                have y5 : ∀ i, 0 ≤ i → zA (sI h8 130 B.t.toNat (iI (τ.sv (τ.e (x.2))))) 130 i = if i = B.t then τ.sv (τ.e (x.2)) else zA g 130 i := fun i i0 => by rw [zA_s (by omega) i0 (by omega), f8.A (by simp [pO, pA, pF]), f7.A (by simp [pO, pA, pF])]
                have J := sC x (τ.sv (τ.e (x.2)), τ.e (τ.sk (τ.e (x.2)))) (sI h8 130 B.t.toNat (iI (τ.sv (τ.e (x.2))))) (PTy_put (by decide) f8') (T8.row (by decide)) (by rw [sI_other _ (by decide)]; exact tm_13 f8 r13) ⟨by rw [z5 _ _ (by decide) (by decide) (by decide)]; exact v, by rw [y5 _ (by omega), if_pos rfl]⟩ (fun i i0 i1 => by rw [z5 129 i (by decide) (by decide) (by decide), y5 i i0, if_neg i1, z5 131 i (by decide) (by decide) (by decide)]; exact w i i0 i1) u1 gt
                refine v_iast r_187_181 (Lk_130 hL) (Ln_130 hL) (Lz_130 hL) (by decide) (by omega) ?_
                exact J
              · have mm : MF (wrg h8 1 (τ.a (τ.sk (τ.e (x.2))))) (1, τ.a (τ.sk (τ.e (x.2)))) := wrg_MF (by omega) (by omega)
                have G8 := (G7.trans (pT_tm f8)).trans (pT_wrg h8 1 (τ.a (τ.sk (τ.e (x.2)))))
                have hL := G8.lay hL0
                have J := t182 (sI (wrg h8 1 (τ.a (τ.sk (τ.e (x.2))))) 130 B.t.toNat (iI 0)) X1 _ hL (mm.row (by decide)) (pT_row (by decide) G8) (by omega) (fun h' f' m' => kf _ (bnd_l (by unfold gTurn; rw [bnd_r gW, if_neg z])) h' (pT_pM f') m')
                refine v_iast r_187_181 (Lk_130 hL) (Ln_130 hL) (Lz_130 hL) (by decide) (by omega) ?_
                exact J
              · have mm : MF (wrg h8 4 (τ.a (τ.e (x.2)))) (4, τ.a (τ.e (x.2))) := wrg_MF (by omega) (by omega)
                have G8 := (G7.trans (pT_tm f8)).trans (pT_wrg h8 4 (τ.a (τ.e (x.2))))
                have hL := G8.lay hL0
                have J := t182 (sI (wrg h8 4 (τ.a (τ.e (x.2)))) 130 B.t.toNat (iI 0)) X1 _ hL (mm.row (by decide)) (pT_row (by decide) G8) (by omega) (fun h' f' m' => kf _ (bnd_l (by unfold gTurn; rw [bnd_r gW, if_pos z, if_neg y'])) h' (pT_pM f') m')
                refine v_iast r_187_181 (Lk_130 hL) (Ln_130 hL) (Lz_130 hL) (by decide) (by omega) ?_
                exact J
            have sA : ∀ (g : XH), Fr PTy h2 g → TM g τ (τ.e k) → gI g 118 13 = iI 0 → (∀ i, 0 ≤ i → ¬ i = B.t → zA g 129 i = zA h2 129 i ∧ zA g 130 i = zA h2 130 i ∧ zA g 131 i = zA h2 131 i) → XW (d + 6) 187 134 [.ref 118, X1] [] g (KV KU) := by
              intro g fg Tg g13 w
              have G := G2.trans (PTy_pT fg)
              have hL := G.lay hL0
              have Yg := pM_TY (pT_pM G) hY
              have Sg := pM_StC (pT_pM G) hS
              have pg := TM.pos Yg Tg
              refine w_aload0 r_187_134 ?_
              refine w_ldcwS (a := 1000098) r_187_135 rfl ?_
              refine k_176 r_187_138 (Lk_118 hL) (Nat.le_of_ble_eq_true rfl) ?_
              refine m_must0 hL Yg Tg g13 (sS_44 hL Sg) (fun q h7 f7 T7 => ?_) (fun q => ?_)
              skip
              rotate_left
              · have mm : MF (wrg g 1 (τ.a (τ.e k))) (1, τ.a (τ.e k)) := wrg_MF (by omega) (by omega)
                have G7 := G.trans (pT_wrg g 1 (τ.a (τ.e k)))
                have hL := G7.lay hL0
                have w23 : gI (wrg g 1 (τ.a (τ.e k))) 118 23 = iI B.t := by rw [pT_22 (by decide) G7]; exact e23 hQ
                have J := t158 (sI (wrg g 1 (τ.a (τ.e k))) 129 B.t.toNat (iI 0)) X1 (1, τ.a (τ.e k)) hL (mm.row (by decide)) (pT_row (by decide) G7) (by omega) (fun h' f' m' => kf _ (bnd_l (bnd_l (by unfold gWord; rw [if_neg (by rw [q]; decide)]))) h' (pT_pM f') m')
                refine w_popI r_187_141 ?_
                refine w_aload0 r_187_142 ?_
                refine w_getA (x := 129) r_187_143 (Lk_118 hL) (Lr_118_30 hL) (by decide) ?_
                refine w_aload0 r_187_146 ?_
                refine v_getI r_187_147 (Lk_118 hL) w23 ?_
                refine w_aload0 r_187_150 ?_
                refine w_bipush (v := iI (-4)) r_187_151 rfl ?_
                refine w_iconst (v := iI (4)) r_187_153 rfl ?_
                refine k_180 r_187_154 (Lk_118 hL) (Nat.le_of_ble_eq_true rfl) ?_
                refine m_signed1 (d := d + 4) hL mm.1 ?_
                refine v_iast r_187_157 (Lk_129 hL) (Ln_129 hL) (Lz_129 hL) (by decide) (by omega) ?_
                exact J
              have gW : gWord τ sW_each (τ.e k) = .inr (τ.e (τ.e k)) := by unfold gWord; rw [if_pos q]
              have G7 := G.trans (pT_tm f7)
              have hL := G7.lay hL0
              have Y7 := pM_TY (pT_pM G7) hY
              have r13 := tm_13 f7 g13
              have w23 : gI h7 118 23 = iI B.t := by rw [pT_22 (by decide) G7]; exact e23 hQ
              have p7 := TM.pos Y7 T7
              have ps : (0 ≤ τ.sk (τ.e (τ.e k)) ∧ τ.sk (τ.e (τ.e k)) ≤ τ.2) := by unfold XT.sk; have := T7.1; split <;> omega
              have pa := XT.a_at Y7.1 ps.1 ps.2
              have po := Y7.1.1
              refine w_popI r_187_141 ?_
              refine w_aload0 r_187_142 ?_
              refine w_getA (x := 129) r_187_143 (Lk_118 hL) (Lr_118_30 hL) (by decide) ?_
              refine w_aload0 r_187_146 ?_
              refine v_getI r_187_147 (Lk_118 hL) w23 ?_
              refine w_aload0 r_187_150 ?_
              refine w_bipush (v := iI (-4)) r_187_151 rfl ?_
              refine w_iconst (v := iI (4)) r_187_153 rfl ?_
              refine k_180 r_187_154 (Lk_118 hL) (Nat.le_of_ble_eq_true rfl) ?_
              refine m_signed0 (d := d + 3) hL Y7 T7 r13 (fun z y' h8 f8 T8 => ?_) (fun z h8 f8 => ?_) (fun z y' h8 f8 => ?_)
              skip
              · have vi := XT.v_at Y7.1 ps.1 ps.2 z
                have gt : gTurn τ sW_each (τ.e k) = .inr (τ.sv (τ.e (τ.e k)), τ.e (τ.sk (τ.e (τ.e k)))) := by unfold gTurn; rw [bnd_r gW, if_pos z, if_pos y']
                have si := (gTurn_ok Y7.1 Tg.1 gt).1
                have f8' : Fr PTy h2 h8 := (fg.trans (fr_pO f7)).trans (fr_pO f8)
                have hL := f8.lay hL
                have z5 : ∀ u i, ¬ u = 118 → ¬ u = 120 → ¬ u = 129 → zA (sI h8 129 B.t.toNat (iI (τ.sv (τ.e (τ.e k))))) u i = zA g u i := fun u i c1 c2 c3 => by rw [zA_o _ c3, f8.A (by simp [pO, pA, pF]; omega), f7.A (by simp [pO, pA, pF]; omega)]
                have y5 : ∀ i, 0 ≤ i → zA (sI h8 129 B.t.toNat (iI (τ.sv (τ.e (τ.e k))))) 129 i = if i = B.t then τ.sv (τ.e (τ.e k)) else zA g 129 i := fun i i0 => by rw [zA_s (by omega) i0 (by omega), f8.A (by simp [pO, pA, pF]), f7.A (by simp [pO, pA, pF])]
                have J := sB (τ.sv (τ.e (τ.e k)), τ.e (τ.sk (τ.e (τ.e k)))) (sI h8 129 B.t.toNat (iI (τ.sv (τ.e (τ.e k))))) (PTy_put (by decide) f8') (T8.row (by decide)) (by rw [sI_other _ (by decide)]; exact tm_13 f8 r13) (by rw [y5 _ (by omega), if_pos rfl]) (fun i i0 i1 => by rw [y5 i i0, if_neg i1, z5 130 i (by decide) (by decide) (by decide), z5 131 i (by decide) (by decide) (by decide)]; exact w i i0 i1)  gt
                refine v_iast r_187_157 (Lk_129 hL) (Ln_129 hL) (Lz_129 hL) (by decide) (by omega) ?_
                exact J
              · have mm : MF (wrg h8 1 (τ.a (τ.sk (τ.e (τ.e k))))) (1, τ.a (τ.sk (τ.e (τ.e k)))) := wrg_MF (by omega) (by omega)
                have G8 := (G7.trans (pT_tm f8)).trans (pT_wrg h8 1 (τ.a (τ.sk (τ.e (τ.e k)))))
                have hL := G8.lay hL0
                have J := t158 (sI (wrg h8 1 (τ.a (τ.sk (τ.e (τ.e k))))) 129 B.t.toNat (iI 0)) X1 _ hL (mm.row (by decide)) (pT_row (by decide) G8) (by omega) (fun h' f' m' => kf _ (bnd_l (by unfold gTurn; rw [bnd_r gW, if_neg z])) h' (pT_pM f') m')
                refine v_iast r_187_157 (Lk_129 hL) (Ln_129 hL) (Lz_129 hL) (by decide) (by omega) ?_
                exact J
              · have mm : MF (wrg h8 4 (τ.a (τ.e (τ.e k)))) (4, τ.a (τ.e (τ.e k))) := wrg_MF (by omega) (by omega)
                have G8 := (G7.trans (pT_tm f8)).trans (pT_wrg h8 4 (τ.a (τ.e (τ.e k))))
                have hL := G8.lay hL0
                have J := t158 (sI (wrg h8 4 (τ.a (τ.e (τ.e k)))) 129 B.t.toNat (iI 0)) X1 _ hL (mm.row (by decide)) (pT_row (by decide) G8) (by omega) (fun h' f' m' => kf _ (bnd_l (by unfold gTurn; rw [bnd_r gW, if_pos z, if_neg y'])) h' (pT_pM f') m')
                refine v_iast r_187_157 (Lk_129 hL) (Ln_129 hL) (Lz_129 hL) (by decide) (by omega) ?_
                exact J
            have hL := L2
            have p2 := TM.pos Y2 T2
            have sA' := fun h3 (f3 : Fr PTm h2 h3) t3 => sA h3 (fr_pO f3) t3 (tm_13 f3 z13) (fun i _ _ => ⟨f3.A (by simp [pO, pA, pF]), f3.A (by simp [pO, pA, pF]), f3.A (by simp [pO, pA, pF])⟩)
            refine w_aload0 r_187_130 ?_
            refine k_172 r_187_131 (Lk_118 hL) (Nat.le_of_ble_eq_true rfl) ?_
            refine m_next (d := d + 4) hL Y2 (by omega) T2.i.2.1 (fun h3 f3 t3 => ?_)
            exact sA' h3 f3 t3
          have R := rest _ F1 (hT.fr F1 (fun j _ => by simp [pA]) (fun j => by simp [pA])) y123 y122
          have hL := L1
          have v122 : gI h1 118 23 = iI B.t := by rw [(f1.2 118 23 (by simp [pA])).1]; exact e23 hQ
          refine w_aload0 r_187_117 ?_
          refine w_getA (x := 124) r_187_118 (Lk_118 hL) (Lr_118_17 hL) (by decide) ?_
          refine w_aload0 r_187_121 ?_
          refine v_getI r_187_122 (Lk_118 hL) v122 ?_
          refine w_aload0 r_187_125 ?_
          refine v_getI r_187_126 (Lk_118 hL) v126 ?_
          refine v_iast r_187_129 (Lk_124 hL) (Ln_124 hL) (Lz_124 hL) (by decide) (by omega) ?_
          exact R _
        have LL : XW (d + 6) 187 83 [.ref 118, .int (iI (0 : Nat))] [] h (KV KU) := by
          refine m_letters (ra := 123) (g := B.t) q1 hY hT (Or.inr rfl) (by omega) (fun n h1 hn f1 J => ?_) (fun h1 f1 a1 b1 => ?_)
          · have hL := f1.lay hL0
            have v85 : gI h1 118 8 = iI (τ.e k - τ.a k) := by rw [(f1.2 118 8 (by simp [pA])).1, gI_F, (hT.2.2.2.2.2 q1).1]
            have v98 : gI h1 118 23 = iI B.t := by rw [(f1.2 118 23 (by simp [pA])).1]; exact e23 hQ
            have v109 : gI h1 120 (n : Int).toNat = iI (τ.1 (τ.a k + n)) := by rw [gI_A, f1.A (by simp [pA]), (hT.2.2.2.2.2 q1).2 n (by omega) (by omega)]
            refine w_iload1 r_187_83 ?_
            refine w_aload0 r_187_84 ?_
            refine v_getI r_187_85 (Lk_118 hL) v85 ?_
            refine v_ic_ge r_187_88 (by first | exact zF_in _ _ _ | exact zA_in _ _ _ | omega) (by first | exact zF_in _ _ _ | exact zA_in _ _ _ | omega) (fun q => absurd q (by omega)) (fun _ => ?_)
            refine w_aload0 r_187_91 ?_
            refine w_getA (x := 123) r_187_92 (Lk_118 hL) (Lr_118_16 hL) (by decide) ?_
            refine w_bipush (v := iI (8)) r_187_95 rfl ?_
            refine w_aload0 r_187_97 ?_
            refine v_getI r_187_98 (Lk_118 hL) v98 ?_
            refine v_imul r_187_101 ?_
            refine w_iload1 r_187_102 ?_
            refine v_iadd r_187_103 ?_
            refine w_aload0 r_187_104 ?_
            refine w_getA (x := 120) r_187_105 (Lk_118 hL) (Lr_118_11 hL) (by decide) ?_
            refine w_iload1 r_187_108 ?_
            refine v_iald r_187_109 (Lk_120 hL) (Lz_120 hL) (by decide) (by omega) v109 ?_
            refine v_iast r_187_110 (Lk_123 hL) (Ln_123 hL) (Lz_123 hL) (by decide) (by omega) ?_
            refine w_iinc1 r_187_111 rfl (iI_add _ _) ?_
            refine w_goto r_187_114 ?_
            exact J
          · have hL := f1.lay hL0
            have v85 : gI h1 118 8 = iI (τ.e k - τ.a k) := by rw [(f1.2 118 8 (by simp [pA])).1, gI_F, (hT.2.2.2.2.2 q1).1]
            refine w_iload1 r_187_83 ?_
            refine w_aload0 r_187_84 ?_
            refine v_getI r_187_85 (Lk_118 hL) v85 ?_
            refine v_ic_ge r_187_88 (by first | exact zF_in _ _ _ | exact zA_in _ _ _ | omega) (by first | exact zF_in _ _ _ | exact zA_in _ _ _ | omega) (fun _ => ?_) (fun q => absurd q (by omega))
            exact go h1 f1 a1 b1
        refine w_aload0 r_187_0 ?_
        refine k_177 r_187_1 (Lk_118 hL) (Nat.le_of_ble_eq_true rfl) ?_
        refine isn _ ?_
        refine v_if_ne r_187_4 (by first | exact zF_in _ _ _ | exact zA_in _ _ _ | omega) (fun _ => ?_) (fun q => absurd q (by omega))
        refine w_aload0 r_187_18 ?_
        refine w_aload0 r_187_19 ?_
        refine w_getA (x := 123) r_187_20 (Lk_118 hL) (Lr_118_16 hL) (by decide) ?_
        refine w_aload0 r_187_23 ?_
        refine w_getA (x := 124) r_187_24 (Lk_118 hL) (Lr_118_17 hL) (by decide) ?_
        refine w_aload0 r_187_27 ?_
        refine v_getI r_187_28 (Lk_118 hL) (e23 hQ) ?_
        refine k_178 r_187_31 (Lk_118 hL) (Nat.le_of_ble_eq_true rfl) ?_
        refine fnd _ ?_
        refine v_if_lt r_187_34 (by first | exact zF_in _ _ _ | exact zA_in _ _ _ | omega) (fun _ => ?_) (fun q => absurd q (by omega))
        refine w_aload0 r_187_47 ?_
        refine v_getI r_187_48 (Lk_118 hL) h13 ?_
        refine v_if_ne r_187_51 (by first | exact zF_in _ _ _ | exact zA_in _ _ _ | omega) (fun q => absurd q (by omega)) (fun _ => ?_)
        refine w_aload0 r_187_54 ?_
        refine v_getI r_187_55 (Lk_118 hL) (e23 hQ) ?_
        refine w_bipush (v := iI (6)) r_187_58 rfl ?_
        refine v_ic_ne r_187_60 (by first | exact zF_in _ _ _ | exact zA_in _ _ _ | omega) (by first | exact zF_in _ _ _ | exact zA_in _ _ _ | omega) (fun _ => ?_) (fun q => absurd q (by omega))
        refine w_aload0 r_187_73 ?_
        refine v_getI r_187_74 (Lk_118 hL) h13 ?_
        refine v_if_eq r_187_77 (by first | exact zF_in _ _ _ | exact zA_in _ _ _ | omega) (fun _ => ?_) (fun q => absurd q (by omega))
        refine w_iconst (v := iI (0)) r_187_81 rfl ?_
        refine w_istore1 r_187_82 rfl ?_
        exact LL
    · have R := kf (3, τ.a k) (bnd_l (by unfold gName; rw [if_pos q, if_neg g])) _ (pM_wrg h 3 (τ.a k)) (wrg_MF (by omega) (by omega))
      refine w_aload0 r_187_0 ?_
      refine k_177 r_187_1 (Lk_118 hL) (Nat.le_of_ble_eq_true rfl) ?_
      refine isn _ ?_
      refine v_if_ne r_187_4 (by first | exact zF_in _ _ _ | exact zA_in _ _ _ | omega) (fun _ => ?_) (fun q => absurd q (by omega))
      refine w_aload0 r_187_18 ?_
      refine w_aload0 r_187_19 ?_
      refine w_getA (x := 123) r_187_20 (Lk_118 hL) (Lr_118_16 hL) (by decide) ?_
      refine w_aload0 r_187_23 ?_
      refine w_getA (x := 124) r_187_24 (Lk_118 hL) (Lr_118_17 hL) (by decide) ?_
      refine w_aload0 r_187_27 ?_
      refine v_getI r_187_28 (Lk_118 hL) (e23 hQ) ?_
      refine k_178 r_187_31 (Lk_118 hL) (Nat.le_of_ble_eq_true rfl) ?_
      refine fnd _ ?_
      refine v_if_lt r_187_34 (by first | exact zF_in _ _ _ | exact zA_in _ _ _ | omega) (fun q => absurd q (by omega)) (fun _ => ?_)
      refine w_aload0 r_187_37 ?_
      refine w_iconst (v := iI (3)) r_187_38 rfl ?_
      refine w_aload0 r_187_39 ?_
      refine v_getI r_187_40 (Lk_118 hL) hT.i.1 ?_
      refine k_174 r_187_43 (Lk_118 hL) (Nat.le_of_ble_eq_true rfl) ?_
      refine m_wrong0 hL h13 ?_
      refine w_popI r_187_46 ?_
      refine w_aload0 r_187_47 ?_
      refine v_getI r_187_48 (Lk_118 hL) (wrg_13 _ _ _) ?_
      refine v_if_ne r_187_51 (by first | exact zF_in _ _ _ | exact zA_in _ _ _ | omega) (fun _ => ?_) (fun q => absurd q (by omega))
      refine w_aload0 r_187_73 ?_
      refine v_getI r_187_74 (Lk_118 hL) (wrg_13 _ _ _) ?_
      refine v_if_eq r_187_77 (by first | exact zF_in _ _ _ | exact zA_in _ _ _ | omega) (fun q => absurd q (by omega)) (fun _ => ?_)
      refine w_vret r_187_80 ?_
      exact R
  · have isn : ∀ (KK : Int32 → XH → Prop), KK (iI 0) h → XW (d + 5) 177 0 [.ref 118, .null] [] h (KI KK) := fun KK kk => m_isName hL hS hY hT h13 (fun z => absurd z q) (fun _ => kk)
    have R := kf (1, τ.a k) (bnd_l (by unfold gName; rw [if_neg q])) _ (pM_wrg h 1 (τ.a k)) (wrg_MF (by omega) (by omega))
    refine w_aload0 r_187_0 ?_
    refine k_177 r_187_1 (Lk_118 hL) (Nat.le_of_ble_eq_true rfl) ?_
    refine isn _ ?_
    refine v_if_ne r_187_4 (by first | exact zF_in _ _ _ | exact zA_in _ _ _ | omega) (fun q => absurd q (by omega)) (fun _ => ?_)
    refine w_aload0 r_187_7 ?_
    refine w_iconst (v := iI (1)) r_187_8 rfl ?_
    refine w_aload0 r_187_9 ?_
    refine v_getI r_187_10 (Lk_118 hL) hT.i.1 ?_
    refine k_174 r_187_13 (Lk_118 hL) (Nat.le_of_ble_eq_true rfl) ?_
    refine m_wrong0 hL h13 ?_
    refine w_popI r_187_16 ?_
    refine w_vret r_187_17 ?_
    exact R
end MB3
