/-! the Model reads a book: lines -/
section MB2
variable {d : Nat} {h : XH} {K : Int32 → XH → Prop} {KU : XH → Prop} {τ : XT} {k : Int} {w : List Int} {a : Nat} {B : XB}
theorem MNm.fr {P : Nat → Nat → Bool} {h' : XH} {ra rs : Nat} {i z : Int} (f : Fr P h h') (p : ∀ j, P ra j = false ∧ P rs j = false) (m : MNm h ra rs i z) : MNm h' ra rs i z := by
  unfold MNm at m ⊢
  have e1 : ∀ x, zA h' rs x = zA h rs x := fun x => f.A (p _).2
  have e2 : ∀ x, zA h' ra x = zA h ra x := fun x => f.A (p _).1
  simp only [e1, e2]
  exact m
theorem MNm.eq {h' : XH} {ra rs : Nat} {i z : Int} (e1 : zA h' rs i = zA h rs i) (e2 : ∀ j, 0 ≤ j → j < 8 → zA h' ra (8 * i + j) = zA h ra (8 * i + j)) (m : MNm h ra rs i z) : MNm h' ra rs i z := by
  obtain ⟨a, b, c, e⟩ := m
  refine ⟨by rw [e1]; exact a, by rw [e1]; exact b, fun j j0 j1 => ?_, ?_⟩
  · rw [e1] at j1; rw [e2 j j0 (by omega)]; exact c j j0 j1
  · rw [e1, ← e]; exact enc_congr _ (fun j j0 j1 => e2 j j0 (by omega))
theorem tm_MBk {h' : XH} (f : Fr PTm h h') (hQ : MBk h B) : MBk h' B := hQ.fr f (fun a j q => by simp [fpMB] at q; simp [pO, pA, pF]; omega)
/-- the letters of a name are kept -/
theorem m_letters {ra : Nat} {g : Int} {m pc1 : Nat} {Q : Option Value → XH → Prop} (hw : τ.k k = 1) (hY : TY h τ) (hT : TM h τ k) (hra : ra = 121 ∨ ra = 123) (hg : 0 ≤ g ∧ g < 8)
    (step : ∀ (n : Nat) (h1 : XH), (n : Int) < τ.e k - τ.a k → Fr (pA [ra]) h h1 → XW d m pc1 [.ref 118, .int (iI ((n : Int) + 1))] [] (sI h1 ra (8 * g + n).toNat (iI (τ.1 (τ.a k + n)))) Q → XW d m pc1 [.ref 118, .int (iI n)] [] h1 Q)
    (fin : ∀ h1, Fr (pA [ra]) h h1 → (∀ i, 0 ≤ i → i < τ.e k - τ.a k → zA h1 ra (8 * g + i) = τ.1 (τ.a k + i)) → (∀ i, 0 ≤ i → i < 8 * g → zA h1 ra i = zA h ra i) → XW d m pc1 [.ref 118, .int (iI (τ.e k - τ.a k))] [] h1 Q) : XW d m pc1 [.ref 118, .int (iI (0 : Nat))] [] h Q := by
  have wl := XT.w_at hY.1 hT.1.1 hT.1.2 hw
  have key : ∀ n : Nat, n ≤ (τ.e k - τ.a k).toNat → ∀ h1, Fr (pA [ra]) h h1 → (∀ i : Int, 0 ≤ i → i < n → zA h1 ra (8 * g + i) = τ.1 (τ.a k + i)) → (∀ i, 0 ≤ i → i < 8 * g → zA h1 ra i = zA h ra i) → XW d m pc1 [.ref 118, .int (iI n)] [] h1 Q := by
    refine upto _ ?_ ?_
    · intro h1 f1 a1 b1
      rw [show (((τ.e k - τ.a k).toNat : Nat) : Int) = τ.e k - τ.a k by omega] at a1 ⊢
      exact fin h1 f1 a1 b1
    · intro n hn ih h1 f1 a1 b1
      have l := wl.2 n (by omega) (by omega)
      refine step n h1 (by omega) f1 ?_
      have yz : ∀ j, 0 ≤ j → zA (sI h1 ra (8 * g + n).toNat (iI (τ.1 (τ.a k + n)))) ra j = if j = 8 * g + n then τ.1 (τ.a k + n) else zA h1 ra j := fun j j0 => zA_s (by omega) j0 (by omega)
      exact ih _ (f1.sI ra _ _ (by simp [pA])) (fun i i0 i1 => by
        rw [yz _ (by omega)]
        by_cases q : i = (n : Int)
        · rw [if_pos (by omega), q]
        · rw [if_neg (by omega)]; exact a1 i i0 (by omega)) (fun i i0 i1 => by rw [yz _ i0, if_neg (by omega)]; exact b1 i i0 i1)
  exact key 0 (by omega) h (Fr.refl _ _) (fun i i0 i1 => by omega) (fun _ _ _ => rfl)
theorem m_groundLine (hL : Lay h) (hS : StC h) (hY : TY h τ) (hT : TM h τ k) (h13 : gI h 118 13 = iI 0) (hQ : MBk h B) (ho : B.ok)
    (kt : ∀ r, gGround τ B k = .inr r → ∀ h', Fr pM h h' → TM h' τ r.2 → MBk h' r.1 → gI h' 118 13 = iI 0 → zF h' 118 29 = zF h 118 29 → zF h' 118 9 = zF h 118 9 → KU h')
    (kf : ∀ e, gGround τ B k = .inl e → ∀ h', Fr pM h h' → MF h' e → KU h') : XW (d + 6) 185 0 [.ref 118, .null] [] h (KV KU) := by
  have o := ho.1
  have p := TM.pos hY hT
  have hL0 := hL
  unfold gGround at kt kf
  -- what is left to do behind a fault
  have t186 : ∀ (g : XH) (X1 : Value) (e : Int × Int), Lay g → MF g e → KU g → XW (d + 6) 185 186 [.ref 118, X1] [] g (KV KU) := by
    intro g X1 e hL m R
    refine w_aload0 r_185_186 ?_
    refine v_getI r_185_187 (Lk_118 hL) m.1 ?_
    refine v_if_ne r_185_190 (by first | exact zF_in _ _ _ | exact zA_in _ _ _ | omega) (fun _ => ?_) (fun q => absurd q (by omega))
    refine w_vret r_185_203 ?_
    exact R
  have t160 : ∀ (g : XH) (X1 : Value) (e : Int × Int), Lay g → MF g e → Fr pT h g → B.g < 8 → (∀ h', Fr pT h h' → MF h' e → KU h') → XW (d + 6) 185 160 [.ref 118, X1] [] g (KV KU) := by
    intro g X1 e hL m f g8 R
    have g22 : gI g 118 22 = iI B.g := by rw [pT_22 (by decide) f]; exact e22 hQ
    have J := t186 (sI g 126 B.g.toNat (iI 0)) X1 e hL (m.row (by decide)) (R _ (pT_row (by decide) f) (m.row (by decide)))
    refine w_aload0 r_185_160 ?_
    refine w_ldcwS (a := 1000086) r_185_161 rfl ?_
    refine k_176 r_185_164 (Lk_118 hL) (Nat.le_of_ble_eq_true rfl) ?_
    refine m_must1 (d := d + 4) hL m.1 ?_
    refine w_popI r_185_167 ?_
    refine w_aload0 r_185_168 ?_
    refine w_getA (x := 126) r_185_169 (Lk_118 hL) (Lr_118_19 hL) (by decide) ?_
    refine w_aload0 r_185_172 ?_
    refine v_getI r_185_173 (Lk_118 hL) g22 ?_
    refine w_aload0 r_185_176 ?_
    refine w_aload0 r_185_177 ?_
    refine w_getA (x := 128) r_185_178 (Lk_118 hL) (Lr_118_21 hL) (by decide) ?_
    refine w_iconst (v := iI (0)) r_185_181 rfl ?_
    refine k_186 r_185_182 (Lk_118 hL) (Nat.le_of_ble_eq_true rfl) ?_
    refine m_pairs1 (ri := false) (d := d + 2) hL m.1 ?_
    refine v_iast r_185_185 (Lk_126 hL) (Ln_126 hL) (Lz_126 hL) (by decide) (by omega) ?_
    exact J
  have t142 : ∀ (g : XH) (X1 : Value) (e : Int × Int), Lay g → MF g e → Fr pT h g → B.g < 8 → (∀ h', Fr pT h h' → MF h' e → KU h') → XW (d + 6) 185 142 [.ref 118, X1] [] g (KV KU) := by
    intro g X1 e hL m f g8 R
    have g22 : gI g 118 22 = iI B.g := by rw [pT_22 (by decide) f]; exact e22 hQ
    have J := t160 (sI g 125 B.g.toNat (iI 0)) X1 e hL (m.row (by decide)) (pT_row (by decide) f) g8 R
    refine w_aload0 r_185_142 ?_
    refine w_getA (x := 125) r_185_143 (Lk_118 hL) (Lr_118_18 hL) (by decide) ?_
    refine w_aload0 r_185_146 ?_
    refine v_getI r_185_147 (Lk_118 hL) g22 ?_
    refine w_aload0 r_185_150 ?_
    refine w_aload0 r_185_151 ?_
    refine w_getA (x := 127) r_185_152 (Lk_118 hL) (Lr_118_20 hL) (by decide) ?_
    refine w_iconst (v := iI (1)) r_185_155 rfl ?_
    refine k_186 r_185_156 (Lk_118 hL) (Nat.le_of_ble_eq_true rfl) ?_
    refine m_pairs1 (ri := true) (d := d + 2) hL m.1 ?_
    refine v_iast r_185_159 (Lk_125 hL) (Ln_125 hL) (Lz_125 hL) (by decide) (by omega) ?_
    exact J
  by_cases q : τ.nm k = true
  · have q1 := nm_word q
    have isn : ∀ (KK : Int32 → XH → Prop), KK (iI 1) h → XW (d + 5) 177 0 [.ref 118, .null] [] h (KI KK) := fun KK kk => m_isName hL hS hY hT h13 (fun _ => kk) (fun z => absurd q (by rw [z]; decide))
    have fnd : ∀ (KK : Int32 → XH → Prop), KK (iI (nmI B.nm B.g (τ.w k))) h → XW (d + 5) 178 0 [.ref 118, .ref 121, .ref 122, .int (iI B.g), .null, .null, .null] [] h (KI KK) := fun KK kk => m_find hL hY hT q1 ⟨⟨Lk_121 hL, Lz_121 hL, by decide⟩, Lk_122 hL, Lz_122 hL, by decide⟩ (by omega) (fun i a b => (hQ.2.1 i a b).1) kk
    have ni := nmI_in B.nm B.g (τ.w k) (by omega)
    by_cases g : nmI B.nm B.g (τ.w k) = -1
    · by_cases m : (8 : Int) ≤ B.g
      · have R := kf (5, τ.a k) (bnd_l (by unfold gName; rw [if_pos q, if_pos g, if_pos m])) _ (pM_wrg h 5 (τ.a k)) (wrg_MF (by omega) (by omega))
        refine w_aload0 r_185_0 ?_
        refine k_177 r_185_1 (Lk_118 hL) (Nat.le_of_ble_eq_true rfl) ?_
        refine isn _ ?_
        refine v_if_ne r_185_4 (by first | exact zF_in _ _ _ | exact zA_in _ _ _ | omega) (fun _ => ?_) (fun q => absurd q (by omega))
        refine w_aload0 r_185_18 ?_
        refine w_aload0 r_185_19 ?_
        refine w_getA (x := 121) r_185_20 (Lk_118 hL) (Lr_118_14 hL) (by decide) ?_
        refine w_aload0 r_185_23 ?_
        refine w_getA (x := 122) r_185_24 (Lk_118 hL) (Lr_118_15 hL) (by decide) ?_
        refine w_aload0 r_185_27 ?_
        refine v_getI r_185_28 (Lk_118 hL) (e22 hQ) ?_
        refine k_178 r_185_31 (Lk_118 hL) (Nat.le_of_ble_eq_true rfl) ?_
        refine fnd _ ?_
        refine v_if_lt r_185_34 (by first | exact zF_in _ _ _ | exact zA_in _ _ _ | omega) (fun _ => ?_) (fun q => absurd q (by omega))
        refine w_aload0 r_185_47 ?_
        refine v_getI r_185_48 (Lk_118 hL) h13 ?_
        refine v_if_ne r_185_51 (by first | exact zF_in _ _ _ | exact zA_in _ _ _ | omega) (fun q => absurd q (by omega)) (fun _ => ?_)
        refine w_aload0 r_185_54 ?_
        refine v_getI r_185_55 (Lk_118 hL) (e22 hQ) ?_
        refine w_bipush (v := iI (8)) r_185_58 rfl ?_
        refine v_ic_ne r_185_60 (by first | exact zF_in _ _ _ | exact zA_in _ _ _ | omega) (by first | exact zF_in _ _ _ | exact zA_in _ _ _ | omega) (fun q => absurd q (by omega)) (fun _ => ?_)
        refine w_aload0 r_185_63 ?_
        refine w_iconst (v := iI (5)) r_185_64 rfl ?_
        refine w_aload0 r_185_65 ?_
        refine v_getI r_185_66 (Lk_118 hL) hT.i.1 ?_
        refine k_174 r_185_69 (Lk_118 hL) (Nat.le_of_ble_eq_true rfl) ?_
        refine m_wrong0 hL h13 ?_
        refine w_popI r_185_72 ?_
        refine w_aload0 r_185_73 ?_
        refine v_getI r_185_74 (Lk_118 hL) (wrg_13 _ _ _) ?_
        refine v_if_eq r_185_77 (by first | exact zF_in _ _ _ | exact zA_in _ _ _ | omega) (fun q => absurd q (by omega)) (fun _ => ?_)
        refine w_vret r_185_80 ?_
        exact R
      · have gN : gName τ B.nm B.g 8 k = .inr (τ.e k) := by unfold gName; rw [if_pos q, if_pos g, if_neg m]
        rw [bnd_r gN] at kt kf
        have wl := XT.w_at hY.1 hT.1.1 hT.1.2 q1
        -- behind the name's letters
        have go : ∀ h1, Fr (pA [121]) h h1 → (∀ i, 0 ≤ i → i < τ.e k - τ.a k → zA h1 121 (8 * B.g + i) = τ.1 (τ.a k + i)) → (∀ i, 0 ≤ i → i < 8 * B.g → zA h1 121 i = zA h 121 i) → XW (d + 6) 185 117 [.ref 118, .int (iI (τ.e k - τ.a k))] [] h1 (KV KU) := by
          intro h1 f1 a1 b1
          have L1 := f1.lay hL0
          have F1 : Fr (pA [121, 122]) h (sI h1 122 B.g.toNat (iI (τ.e k - τ.a k))) := (f1.mono (fun a j q => by simp [pA] at q ⊢; omega)).sI 122 _ _ (by simp [pA])
          have y123 : ∀ i, 0 ≤ i → zA (sI h1 122 B.g.toNat (iI (τ.e k - τ.a k))) 122 i = if i = B.g then τ.e k - τ.a k else zA h 122 i := fun i i0 => by rw [zA_s (by omega) i0 (by omega), f1.A (by simp [pA])]
          have y122 : ∀ i, zA (sI h1 122 B.g.toNat (iI (τ.e k - τ.a k))) 121 i = zA h1 121 i := fun i => zA_o _ (by decide)
          have v126 : gI h1 118 8 = iI (τ.e k - τ.a k) := by rw [(f1.2 118 8 (by simp [pA])).1, gI_F, (hT.2.2.2.2.2 q1).1]
          -- from the next token on
          have rest : ∀ h2, Fr (pA [121, 122]) h h2 → TM h2 τ k → (∀ i, 0 ≤ i → zA h2 122 i = if i = B.g then τ.e k - τ.a k else zA h 122 i) → (∀ i, zA h2 121 i = zA h1 121 i) → ∀ X1 : Value, XW (d + 6) 185 130 [.ref 118, X1] [] h2 (KV KU) := by
            intro h2 f2 T2 s2 l2 X1
            have L2 := f2.lay hL0
            have G2 : Fr pT h h2 := f2.mono (fun a j q => by simp [pT] at q; simp [pA]; omega)
            have Y2 := pM_TY (pT_pM G2) hY
            have z13 : gI h2 118 13 = iI 0 := by rw [(f2.2 118 13 (by simp [pA])).1]; exact h13
            have z22 : gI h2 118 22 = iI B.g := by rw [(f2.2 118 22 (by simp [pA])).1]; exact e22 hQ
            have mid : ∀ h3, Fr PTm h2 h3 → TM h3 τ (τ.e k) → XW (d + 6) 185 134 [.ref 118, X1] [] h3 (KV KU) := by
              intro h3 f3 T3
              have L3 := f3.lay L2
              have G3 := G2.trans (pT_tm f3)
              have Y3 := pM_TY (pT_pM G3) hY
              have S3 := pM_StC (pT_pM G3) hS
              have n13 := tm_13 f3 z13
              have n22 : gI h3 118 22 = iI B.g := by rw [(f3.2 118 22 (by simp [pO, pA, pF])).1]; exact z22
              have p3 := TM.pos Y3 T3
              have hL := L3
              refine w_aload0 r_185_134 ?_
              refine w_ldcwS (a := 1000084) r_185_135 rfl ?_
              refine k_176 r_185_138 (Lk_118 hL) (Nat.le_of_ble_eq_true rfl) ?_
              refine m_must0 hL Y3 T3 n13 (sS_37 hL S3) (fun q h4 f4 T4 => ?_) (fun q => ?_)
              skip
              rotate_left
              · have m : MF (wrg h3 1 (τ.a (τ.e k))) (1, τ.a (τ.e k)) := wrg_MF (by omega) (by omega)
                have G4 := G3.trans (pT_wrg h3 1 (τ.a (τ.e k)))
                have J := t142 (wrg h3 1 (τ.a (τ.e k))) X1 (1, τ.a (τ.e k)) (G4.lay hL0) m G4 (by omega) (fun h' f' m' => kf _ (bnd_l (by unfold gWord; rw [if_neg (by rw [q]; decide)])) h' (pT_pM f') m')
                refine w_popI r_185_141 ?_
                exact J
              have gW : gWord τ sW_sinks (τ.e k) = .inr (τ.e (τ.e k)) := by unfold gWord; rw [if_pos q]
              rw [bnd_r gW] at kt kf
              generalize τ.e (τ.e k) = k4 at kt kf T4
              have L4 := f4.lay L3
              have G4 := G3.trans (pT_tm f4)
              have Y4 := pM_TY (pT_pM G4) hY
              have r13 := tm_13 f4 n13
              have r22 : gI h4 118 22 = iI B.g := by rw [(f4.2 118 22 (by simp [pO, pA, pF])).1]; exact n22
              have hL := L4
              refine w_popI r_185_141 ?_
              refine w_aload0 r_185_142 ?_
              refine w_getA (x := 125) r_185_143 (Lk_118 hL) (Lr_118_18 hL) (by decide) ?_
              refine w_aload0 r_185_146 ?_
              refine v_getI r_185_147 (Lk_118 hL) r22 ?_
              refine w_aload0 r_185_150 ?_
              refine w_aload0 r_185_151 ?_
              refine w_getA (x := 127) r_185_152 (Lk_118 hL) (Lr_118_20 hL) (by decide) ?_
              refine w_iconst (v := iI (1)) r_185_155 rfl ?_
              refine k_186 r_185_156 (Lk_118 hL) (Nat.le_of_ble_eq_true rfl) ?_
              refine m_pairs0 (ri := true) (d := d + 2) hL Y4 T4 r13 (Or.inl rfl) (by omega) r22 (fun r1 g1 h5 f5 T5 P5 => ?_) (fun e g1 h5 x f5 m5 => ?_)
              skip
              rotate_left
              · have G5 := G4.trans f5
                have L5 := G5.lay hL0
                have J := t160 (sI h5 125 B.g.toNat (iI x)) X1 e L5 (m5.row (by decide)) (pT_row (by decide) G5) (by omega) (fun h' f' m' => kf e (bnd_l g1) h' (pT_pM f') m')
                have hL := L5
                refine v_iast r_185_159 (Lk_125 hL) (Ln_125 hL) (Lz_125 hL) (by decide) (by omega) ?_
                exact J
              have rn1 := gPairs_ok Y4.1 5 0 (-1) 0 k4 z0 z0 r1 (by omega) T4.1 (by omega) (by omega) (pr0 _ _) (fun q => by omega) g1
              have g1' : gPairs τ 999 300 true 5 0 (-1) 0 k4 z0 z0 = .inr r1 := g1
              rw [bnd_r g1'] at kt kf
              have G5 := G4.trans (PMr_pT (Or.inl rfl) f5)
              have G6 : Fr pT h (sI h5 125 B.g.toNat (iI r1.1)) := pT_row (by decide) G5
              have L6 := G6.lay hL0
              have T6 : TM (sI h5 125 B.g.toNat (iI r1.1)) τ r1.2.2.2 := T5.row (by decide)
              have x13 : gI (sI h5 125 B.g.toNat (iI r1.1)) 118 13 = iI 0 := by rw [sI_other _ (by decide), (f5.2 118 13 (by simp [pO, pA, pF])).1]; exact r13
              -- what stands then
              have a6 : ∀ x i, ¬ x = 125 → ¬ x = 120 → ¬ x = 118 → ¬ x = 127 → zA (sI h5 125 B.g.toNat (iI r1.1)) x i = zA h2 x i := fun x i c1 c2 c3 c4 => by
                rw [zA_o _ c1, f5.A (by simp [pO, pA, pF]; omega), f4.A (by simp [pO, pA, pF]; omega), f3.A (by simp [pO, pA, pF]; omega)]
              have p6 : MPr h (sI h5 125 B.g.toNat (iI r1.1)) 127 B.g r1.1 r1.2.1 r1.2.2.1 := by
                refine ⟨fun i i0 i1 => ?_, fun i i0 i1 => ?_⟩
                · rw [zA_o _ (by decide), zA_o _ (by decide)]; exact P5.1 i i0 i1
                · rw [zA_o _ (by decide), P5.2 i i0 i1, f4.A (by simp [pO, pA, pF]), f3.A (by simp [pO, pA, pF]), f2.A (by simp [pA])]
              have n6 : ∀ i, 0 ≤ i → zA (sI h5 125 B.g.toNat (iI r1.1)) 125 i = if i = B.g then r1.1 else zA h 125 i := fun i i0 => by
                rw [zA_s (by omega) i0 (by omega), f5.A (by simp [pO, pA, pF]), f4.A (by simp [pO, pA, pF]), f3.A (by simp [pO, pA, pF]), f2.A (by simp [pA])]
              have fin : ∀ g6, Fr pT h g6 → TM g6 τ r1.2.2.2 → gI g6 118 13 = iI 0 → (∀ x i, ¬ x = 125 → ¬ x = 120 → ¬ x = 118 → ¬ x = 127 → zA g6 x i = zA h2 x i) → MPr h g6 127 B.g r1.1 r1.2.1 r1.2.2.1 → (∀ i, 0 ≤ i → zA g6 125 i = if i = B.g then r1.1 else zA h 125 i) → zF g6 118 9 = zF h 118 9 → XW (d + 6) 185 160 [.ref 118, X1] [] g6 (KV KU) := by
                intro g6 G6 T6 x13 a6 p6 n6 k9
                have hL := G6.lay hL0
                have Y6 := pM_TY (pT_pM G6) hY
                have S6 := pM_StC (pT_pM G6) hS
                have x22 : gI g6 118 22 = iI B.g := by rw [pT_22 (by decide) G6]; exact e22 hQ
                have p6' := TM.pos Y6 T6
                refine w_aload0 r_185_160 ?_
                refine w_ldcwS (a := 1000086) r_185_161 rfl ?_
                refine k_176 r_185_164 (Lk_118 hL) (Nat.le_of_ble_eq_true rfl) ?_
                refine m_must0 hL Y6 T6 x13 (sS_38 hL S6) (fun q h7 f7 T7 => ?_) (fun q => ?_)
                skip
                rotate_left
                · have m : MF (wrg g6 1 (τ.a r1.2.2.2)) (1, τ.a r1.2.2.2) := wrg_MF (by omega) (by omega)
                  have G7 := G6.trans (pT_wrg g6 1 (τ.a r1.2.2.2))
                  have hL := G7.lay hL0
                  have w22 : gI (wrg g6 1 (τ.a r1.2.2.2)) 118 22 = iI B.g := by rw [pT_22 (by decide) (pT_wrg g6 1 (τ.a r1.2.2.2))]; exact x22
                  have J := t186 (sI (wrg g6 1 (τ.a r1.2.2.2)) 126 B.g.toNat (iI 0)) X1 (1, τ.a r1.2.2.2) hL (m.row (by decide)) (kf _ (bnd_l (by unfold gWord; rw [if_neg (by rw [q]; decide)])) _ (pT_pM (pT_row (by decide) G7)) (m.row (by decide)))
                  refine w_popI r_185_167 ?_
                  refine w_aload0 r_185_168 ?_
                  refine w_getA (x := 126) r_185_169 (Lk_118 hL) (Lr_118_19 hL) (by decide) ?_
                  refine w_aload0 r_185_172 ?_
                  refine v_getI r_185_173 (Lk_118 hL) w22 ?_
                  refine w_aload0 r_185_176 ?_
                  refine w_aload0 r_185_177 ?_
                  refine w_getA (x := 128) r_185_178 (Lk_118 hL) (Lr_118_21 hL) (by decide) ?_
                  refine w_iconst (v := iI (0)) r_185_181 rfl ?_
                  refine k_186 r_185_182 (Lk_118 hL) (Nat.le_of_ble_eq_true rfl) ?_
                  refine m_pairs1 (ri := false) (d := d + 2) hL m.1 ?_
                  refine v_iast r_185_185 (Lk_126 hL) (Ln_126 hL) (Lz_126 hL) (by decide) (by omega) ?_
                  exact J
                have gW2 : gWord τ sW_grips r1.2.2.2 = .inr (τ.e r1.2.2.2) := by unfold gWord; rw [if_pos q]
                rw [bnd_r gW2] at kt kf
                generalize τ.e r1.2.2.2 = k7 at kt kf T7
                have G7 := G6.trans (pT_tm f7)
                have L7 := G7.lay hL0
                have Y7 := pM_TY (pT_pM G7) hY
                have y13 := tm_13 f7 x13
                have y22 : gI h7 118 22 = iI B.g := by rw [pT_22 (by decide) G7]; exact e22 hQ
                have hL := L7
                refine w_popI r_185_167 ?_
                refine w_aload0 r_185_168 ?_
                refine w_getA (x := 126) r_185_169 (Lk_118 hL) (Lr_118_19 hL) (by decide) ?_
                refine w_aload0 r_185_172 ?_
                refine v_getI r_185_173 (Lk_118 hL) y22 ?_
                refine w_aload0 r_185_176 ?_
                refine w_aload0 r_185_177 ?_
                refine w_getA (x := 128) r_185_178 (Lk_118 hL) (Lr_118_21 hL) (by decide) ?_
                refine w_iconst (v := iI (0)) r_185_181 rfl ?_
                refine k_186 r_185_182 (Lk_118 hL) (Nat.le_of_ble_eq_true rfl) ?_
                refine m_pairs0 (ri := false) (d := d + 2) hL Y7 T7 y13 (Or.inr rfl) (by omega) y22 (fun r2 g2 h8 f8 T8 P8 => ?_) (fun e g2 h8 x f8 m8 => ?_)
                skip
                rotate_left
                · have G8 := G7.trans f8
                  have L8 := G8.lay hL0
                  have J := t186 (sI h8 126 B.g.toNat (iI x)) X1 e L8 (m8.row (by decide)) (kf e (bnd_l g2) _ (pT_pM (pT_row (by decide) G8)) (m8.row (by decide)))
                  have hL := L8
                  refine v_iast r_185_185 (Lk_126 hL) (Ln_126 hL) (Lz_126 hL) (by decide) (by omega) ?_
                  exact J
                have rn2 := gPairs_ok Y7.1 5 0 (-1) 0 k7 z0 z0 r2 (by omega) T7.1 (by omega) (by omega) (pr0 _ _) (fun q => by omega) g2
                have g2' : gPairs τ 90 150 false 5 0 (-1) 0 k7 z0 z0 = .inr r2 := g2
                rw [bnd_r g2'] at kt
                have G8 := G7.trans (PMr_pT (Or.inr rfl) f8)
                have G9 : Fr pT h (sI h8 126 B.g.toNat (iI r2.1)) := pT_row (by decide) G8
                have T9 : TM (sI h8 126 B.g.toNat (iI r2.1)) τ r2.2.2.2 := T8.row (by decide)
                have w13 : gI (sI h8 126 B.g.toNat (iI r2.1)) 118 13 = iI 0 := by rw [sI_other _ (by decide), (f8.2 118 13 (by simp [pO, pA, pF])).1]; exact y13
                have w22 : gI (sI h8 126 B.g.toNat (iI r2.1)) 118 22 = iI B.g := by rw [pT_22 (by decide) G9]; exact e22 hQ
                have a9 : ∀ x i, ¬ x = 126 → ¬ x = 120 → ¬ x = 118 → ¬ x = 128 → zA (sI (sI h8 126 B.g.toNat (iI r2.1)) 118 22 (iI (B.g + 1))) x i = zA g6 x i := fun x i c1 c2 c3 c4 => by
                  rw [zA_o _ c3, zA_o _ c1, f8.A (by simp [pO, pA, pF]; omega), f7.A (by simp [pO, pA, pF]; omega)]
                have G10 : Fr pM h (sI (sI h8 126 B.g.toNat (iI r2.1)) 118 22 (iI (B.g + 1))) := pM_fld (by omega) (pT_pM G9)
                have C10 : MBk (sI (sI h8 126 B.g.toNat (iI r2.1)) 118 22 (iI (B.g + 1))) (addG B (τ.w k) r1 r2) := by
                  have eF : ∀ j, 23 ≤ j → zF (sI (sI h8 126 B.g.toNat (iI r2.1)) 118 22 (iI (B.g + 1))) 118 j = zF h 118 j := fun j c => by
                    rw [zF_o (by omega)]
                    unfold zF
                    rw [pT_22 (by omega) G9]
                  refine ⟨⟨zF_s (by omega), (eF 23 (by decide)).trans hQ.1.2.1, (eF 24 (by decide)).trans hQ.1.2.2.1, (eF 25 (by decide)).trans hQ.1.2.2.2.1, (eF 26 (by decide)).trans hQ.1.2.2.2.2.1, (eF 27 (by decide)).trans hQ.1.2.2.2.2.2.1, (eF 28 (by decide)).trans hQ.1.2.2.2.2.2.2⟩, fun i a b => ?_, fun i a b j j0 j1 => ?_, fun i a b j j0 j1 => ?_, fun i a b => ?_⟩
                  · have b' : i < B.g + 1 := b
                    show MNm _ 121 122 i (up1 B.nm B.g (τ.w k) i) ∧ zA _ 125 i = up1 B.sn B.g r1.1 i ∧ zA _ 126 i = up1 B.gn B.g r2.1 i
                    have e127 : zA (sI (sI h8 126 B.g.toNat (iI r2.1)) 118 22 (iI (B.g + 1))) 126 i = if i = B.g then r2.1 else zA h 126 i := by
                      rw [zA_o _ (by decide), zA_s (by omega) a (by omega), f8.A (by simp [pO, pA, pF]), f7.A (by simp [pO, pA, pF]), a6 126 i (by decide) (by decide) (by decide) (by decide), f2.A (by simp [pA])]
                    rw [a9 125 i (by decide) (by decide) (by decide) (by decide), n6 i a, e127]
                    by_cases q : i = B.g
                    · rw [if_pos q, if_pos q, q, up1_at, up1_at, up1_at]
                      refine ⟨⟨?_, ?_, fun j j0 j1 => ?_, ?_⟩, rfl, rfl⟩
                      · rw [a9 _ _ (by decide) (by decide) (by decide) (by decide), a6 _ _ (by decide) (by decide) (by decide) (by decide), s2 _ (by omega), if_pos rfl]; omega
                      · rw [a9 _ _ (by decide) (by decide) (by decide) (by decide), a6 _ _ (by decide) (by decide) (by decide) (by decide), s2 _ (by omega), if_pos rfl]; omega
                      · rw [a9 _ _ (by decide) (by decide) (by decide) (by decide), a6 _ _ (by decide) (by decide) (by decide) (by decide), s2 _ (by omega), if_pos rfl] at j1
                        rw [a9 _ _ (by decide) (by decide) (by decide) (by decide), a6 _ _ (by decide) (by decide) (by decide) (by decide), l2, a1 j j0 j1]
                        exact wl.2 j j0 j1
                      · rw [a9 _ _ (by decide) (by decide) (by decide) (by decide), a6 _ _ (by decide) (by decide) (by decide) (by decide), s2 _ (by omega), if_pos rfl]
                        unfold XT.w
                        exact enc_congr _ (fun j j0 j1 => by rw [a9 _ _ (by decide) (by decide) (by decide) (by decide), a6 _ _ (by decide) (by decide) (by decide) (by decide), l2, a1 j j0 (by omega)])
                    · have oc := hQ.2.1 i a (by omega)
                      rw [if_neg q, if_neg q, up1_ne q, up1_ne q, up1_ne q]
                      refine ⟨MNm.eq ?_ (fun j j0 j1 => ?_) oc.1, oc.2.1, oc.2.2⟩
                      · rw [a9 _ _ (by decide) (by decide) (by decide) (by decide), a6 _ _ (by decide) (by decide) (by decide) (by decide), s2 _ a, if_neg q]
                      · rw [a9 _ _ (by decide) (by decide) (by decide) (by decide), a6 _ _ (by decide) (by decide) (by decide) (by decide), l2, b1 _ (by omega) (by omega)]
                  · have b' : i < B.g + 1 := b
                    have j1' : j < up1 B.sn B.g r1.1 i := j1
                    show zA _ 127 (8 * i + 2 * j) = (if i = B.g then r1.2.1 else B.sk i) j ∧ zA _ 127 (8 * i + 2 * j + 1) = (if i = B.g then r1.2.2.1 else B.sv i) j
                    rw [a9 _ _ (by decide) (by decide) (by decide) (by decide), a9 _ _ (by decide) (by decide) (by decide) (by decide)]
                    by_cases q : i = B.g
                    · rw [q, up1_at] at j1'
                      rw [if_pos q, if_pos q, q]
                      exact p6.1 j j0 j1'
                    · rw [up1_ne q] at j1'
                      have cv := ho.2.1 i a (by omega)
                      have := cv.2.1
                      rw [if_neg q, if_neg q, p6.2 _ (by omega) (by omega), p6.2 _ (by omega) (by omega)]
                      exact hQ.2.2.1 i a (by omega) j j0 j1'
                  · have b' : i < B.g + 1 := b
                    have j1' : j < up1 B.gn B.g r2.1 i := j1
                    show zA _ 128 (8 * i + 2 * j) = (if i = B.g then r2.2.1 else B.gk i) j ∧ zA _ 128 (8 * i + 2 * j + 1) = (if i = B.g then r2.2.2.1 else B.gv i) j
                    rw [zA_o _ (by decide), zA_o _ (by decide), zA_o _ (by decide), zA_o _ (by decide)]
                    by_cases q : i = B.g
                    · rw [q, up1_at] at j1'
                      rw [if_pos q, if_pos q, q]
                      exact P8.1 j j0 j1'
                    · rw [up1_ne q] at j1'
                      have cv := ho.2.2.1 i a (by omega)
                      have := cv.2.1
                      rw [if_neg q, if_neg q, P8.2 _ (by omega) (by omega), P8.2 _ (by omega) (by omega), f7.A (by simp [pO, pA, pF]), f7.A (by simp [pO, pA, pF]), a6 _ _ (by decide) (by decide) (by decide) (by decide), a6 _ _ (by decide) (by decide) (by decide) (by decide), f2.A (by simp [pA]), f2.A (by simp [pA])]
                      exact hQ.2.2.2.1 i a (by omega) j j0 j1'
                  · have oc := hQ.2.2.2.2 i a b
                    have e : ∀ x i, 123 ≤ x → x ≤ 131 → ¬ x = 125 → ¬ x = 126 → ¬ x = 127 → ¬ x = 128 → zA (sI (sI h8 126 B.g.toNat (iI r2.1)) 118 22 (iI (B.g + 1))) x i = zA h x i := fun x i c1 c2 c3 c4 c5 c6 => by
                      rw [a9 _ _ (by omega) (by omega) (by omega) (by omega), a6 _ _ (by omega) (by omega) (by omega) (by omega), f2.A (by simp [pA]; omega)]
                    show MNm _ 123 124 i (B.tn i) ∧ zA _ 129 i = B.ea i ∧ zA _ 130 i = B.on i ∧ zA _ 131 i = B.pr i
                    rw [e 129 i (by decide) (by decide) (by decide) (by decide) (by decide) (by decide), e 130 i (by decide) (by decide) (by decide) (by decide) (by decide) (by decide), e 131 i (by decide) (by decide) (by decide) (by decide) (by decide) (by decide)]
                    exact ⟨MNm.eq (e 124 i (by decide) (by decide) (by decide) (by decide) (by decide) (by decide)) (fun j _ _ => e 123 _ (by decide) (by decide) (by decide) (by decide) (by decide) (by decide)) oc.1, oc.2⟩
                have e29 : zF (sI (sI h8 126 B.g.toNat (iI r2.1)) 118 22 (iI (B.g + 1))) 118 29 = zF h 118 29 := by
                  rw [zF_o (by omega)]; unfold zF; rw [pT_22 (by decide) G9]
                have e9 : zF (sI (sI h8 126 B.g.toNat (iI r2.1)) 118 22 (iI (B.g + 1))) 118 9 = zF h 118 9 := by
                  rw [zF_o (by omega), zF_o (by omega), f8.F (by simp [pO, pA, pF]), f7.F (by simp [pO, pA, pF]), k9]
                have R := kt _ rfl _ G10 (T9.fld (by omega)) C10 (by rw [sI_here, if_neg (by decide)]; exact w13) e29 e9
                have hL := G8.lay hL0
                refine v_iast r_185_185 (Lk_126 hL) (Ln_126 hL) (Lz_126 hL) (by decide) (by omega) ?_
                refine w_aload0 r_185_186 ?_
                refine v_getI r_185_187 (Lk_118 hL) w13 ?_
                refine v_if_ne r_185_190 (by first | exact zF_in _ _ _ | exact zA_in _ _ _ | omega) (fun q => absurd q (by omega)) (fun _ => ?_)
                refine w_aload0 r_185_193 ?_
                refine w_dupA r_185_194 ?_
                refine v_getI r_185_195 (Lk_118 hL) w22 ?_
                refine w_iconst (v := iI (1)) r_185_198 rfl ?_
                refine v_iadd r_185_199 ?_
                refine w_putI r_185_200 (Lk_118 hL) (Ln_118 hL) ?_
                refine w_vret r_185_203 ?_
                exact R
              have J := fin _ G6 T6 x13 a6 p6 n6 (by rw [zF_o (by omega), f5.F (by simp [pO, pA, pF]), f4.F (by simp [pO, pA, pF]), f3.F (by simp [pO, pA, pF]), f2.F (by simp [pA])])
              have hL := G5.lay hL0
              refine v_iast r_185_159 (Lk_125 hL) (Ln_125 hL) (Lz_125 hL) (by decide) (by omega) ?_
              exact J
            have hL := L2
            have p2 := TM.pos Y2 T2
            refine w_aload0 r_185_130 ?_
            refine k_172 r_185_131 (Lk_118 hL) (Nat.le_of_ble_eq_true rfl) ?_
            refine m_next (d := d + 4) hL Y2 (by omega) T2.i.2.1 (fun h3 f3 t3 => ?_)
            exact mid h3 f3 t3
          have R := rest _ F1 (hT.fr F1 (fun j _ => by simp [pA]) (fun j => by simp [pA])) y123 y122
          have hL := L1
          have v122 : gI h1 118 22 = iI B.g := by rw [(f1.2 118 22 (by simp [pA])).1]; exact e22 hQ
          refine w_aload0 r_185_117 ?_
          refine w_getA (x := 122) r_185_118 (Lk_118 hL) (Lr_118_15 hL) (by decide) ?_
          refine w_aload0 r_185_121 ?_
          refine v_getI r_185_122 (Lk_118 hL) v122 ?_
          refine w_aload0 r_185_125 ?_
          refine v_getI r_185_126 (Lk_118 hL) v126 ?_
          refine v_iast r_185_129 (Lk_122 hL) (Ln_122 hL) (Lz_122 hL) (by decide) (by omega) ?_
          exact R _
        have LL : XW (d + 6) 185 83 [.ref 118, .int (iI (0 : Nat))] [] h (KV KU) := by
          refine m_letters (ra := 121) (g := B.g) q1 hY hT (Or.inl rfl) (by omega) (fun n h1 hn f1 J => ?_) (fun h1 f1 a1 b1 => ?_)
          · have hL := f1.lay hL0
            have v85 : gI h1 118 8 = iI (τ.e k - τ.a k) := by rw [(f1.2 118 8 (by simp [pA])).1, gI_F, (hT.2.2.2.2.2 q1).1]
            have v98 : gI h1 118 22 = iI B.g := by rw [(f1.2 118 22 (by simp [pA])).1]; exact e22 hQ
            have v109 : gI h1 120 (n : Int).toNat = iI (τ.1 (τ.a k + n)) := by rw [gI_A, f1.A (by simp [pA]), (hT.2.2.2.2.2 q1).2 n (by omega) (by omega)]
            refine w_iload1 r_185_83 ?_
            refine w_aload0 r_185_84 ?_
            refine v_getI r_185_85 (Lk_118 hL) v85 ?_
            refine v_ic_ge r_185_88 (by first | exact zF_in _ _ _ | exact zA_in _ _ _ | omega) (by first | exact zF_in _ _ _ | exact zA_in _ _ _ | omega) (fun q => absurd q (by omega)) (fun _ => ?_)
            refine w_aload0 r_185_91 ?_
            refine w_getA (x := 121) r_185_92 (Lk_118 hL) (Lr_118_14 hL) (by decide) ?_
            refine w_bipush (v := iI (8)) r_185_95 rfl ?_
            refine w_aload0 r_185_97 ?_
            refine v_getI r_185_98 (Lk_118 hL) v98 ?_
            refine v_imul r_185_101 ?_
            refine w_iload1 r_185_102 ?_
            refine v_iadd r_185_103 ?_
            refine w_aload0 r_185_104 ?_
            refine w_getA (x := 120) r_185_105 (Lk_118 hL) (Lr_118_11 hL) (by decide) ?_
            refine w_iload1 r_185_108 ?_
            refine v_iald r_185_109 (Lk_120 hL) (Lz_120 hL) (by decide) (by omega) v109 ?_
            refine v_iast r_185_110 (Lk_121 hL) (Ln_121 hL) (Lz_121 hL) (by decide) (by omega) ?_
            refine w_iinc1 r_185_111 rfl (iI_add _ _) ?_
            refine w_goto r_185_114 ?_
            exact J
          · have hL := f1.lay hL0
            have v85 : gI h1 118 8 = iI (τ.e k - τ.a k) := by rw [(f1.2 118 8 (by simp [pA])).1, gI_F, (hT.2.2.2.2.2 q1).1]
            refine w_iload1 r_185_83 ?_
            refine w_aload0 r_185_84 ?_
            refine v_getI r_185_85 (Lk_118 hL) v85 ?_
            refine v_ic_ge r_185_88 (by first | exact zF_in _ _ _ | exact zA_in _ _ _ | omega) (by first | exact zF_in _ _ _ | exact zA_in _ _ _ | omega) (fun _ => ?_) (fun q => absurd q (by omega))
            exact go h1 f1 a1 b1
        refine w_aload0 r_185_0 ?_
        refine k_177 r_185_1 (Lk_118 hL) (Nat.le_of_ble_eq_true rfl) ?_
        refine isn _ ?_
        refine v_if_ne r_185_4 (by first | exact zF_in _ _ _ | exact zA_in _ _ _ | omega) (fun _ => ?_) (fun q => absurd q (by omega))
        refine w_aload0 r_185_18 ?_
        refine w_aload0 r_185_19 ?_
        refine w_getA (x := 121) r_185_20 (Lk_118 hL) (Lr_118_14 hL) (by decide) ?_
        refine w_aload0 r_185_23 ?_
        refine w_getA (x := 122) r_185_24 (Lk_118 hL) (Lr_118_15 hL) (by decide) ?_
        refine w_aload0 r_185_27 ?_
        refine v_getI r_185_28 (Lk_118 hL) (e22 hQ) ?_
        refine k_178 r_185_31 (Lk_118 hL) (Nat.le_of_ble_eq_true rfl) ?_
        refine fnd _ ?_
        refine v_if_lt r_185_34 (by first | exact zF_in _ _ _ | exact zA_in _ _ _ | omega) (fun _ => ?_) (fun q => absurd q (by omega))
        refine w_aload0 r_185_47 ?_
        refine v_getI r_185_48 (Lk_118 hL) h13 ?_
        refine v_if_ne r_185_51 (by first | exact zF_in _ _ _ | exact zA_in _ _ _ | omega) (fun q => absurd q (by omega)) (fun _ => ?_)
        refine w_aload0 r_185_54 ?_
        refine v_getI r_185_55 (Lk_118 hL) (e22 hQ) ?_
        refine w_bipush (v := iI (8)) r_185_58 rfl ?_
        refine v_ic_ne r_185_60 (by first | exact zF_in _ _ _ | exact zA_in _ _ _ | omega) (by first | exact zF_in _ _ _ | exact zA_in _ _ _ | omega) (fun _ => ?_) (fun q => absurd q (by omega))
        refine w_aload0 r_185_73 ?_
        refine v_getI r_185_74 (Lk_118 hL) h13 ?_
        refine v_if_eq r_185_77 (by first | exact zF_in _ _ _ | exact zA_in _ _ _ | omega) (fun _ => ?_) (fun q => absurd q (by omega))
        refine w_iconst (v := iI (0)) r_185_81 rfl ?_
        refine w_istore1 r_185_82 rfl ?_
        exact LL
    · have R := kf (3, τ.a k) (bnd_l (by unfold gName; rw [if_pos q, if_neg g])) _ (pM_wrg h 3 (τ.a k)) (wrg_MF (by omega) (by omega))
      refine w_aload0 r_185_0 ?_
      refine k_177 r_185_1 (Lk_118 hL) (Nat.le_of_ble_eq_true rfl) ?_
      refine isn _ ?_
      refine v_if_ne r_185_4 (by first | exact zF_in _ _ _ | exact zA_in _ _ _ | omega) (fun _ => ?_) (fun q => absurd q (by omega))
      refine w_aload0 r_185_18 ?_
      refine w_aload0 r_185_19 ?_
      refine w_getA (x := 121) r_185_20 (Lk_118 hL) (Lr_118_14 hL) (by decide) ?_
      refine w_aload0 r_185_23 ?_
      refine w_getA (x := 122) r_185_24 (Lk_118 hL) (Lr_118_15 hL) (by decide) ?_
      refine w_aload0 r_185_27 ?_
      refine v_getI r_185_28 (Lk_118 hL) (e22 hQ) ?_
      refine k_178 r_185_31 (Lk_118 hL) (Nat.le_of_ble_eq_true rfl) ?_
      refine fnd _ ?_
      refine v_if_lt r_185_34 (by first | exact zF_in _ _ _ | exact zA_in _ _ _ | omega) (fun q => absurd q (by omega)) (fun _ => ?_)
      refine w_aload0 r_185_37 ?_
      refine w_iconst (v := iI (3)) r_185_38 rfl ?_
      refine w_aload0 r_185_39 ?_
      refine v_getI r_185_40 (Lk_118 hL) hT.i.1 ?_
      refine k_174 r_185_43 (Lk_118 hL) (Nat.le_of_ble_eq_true rfl) ?_
      refine m_wrong0 hL h13 ?_
      refine w_popI r_185_46 ?_
      refine w_aload0 r_185_47 ?_
      refine v_getI r_185_48 (Lk_118 hL) (wrg_13 _ _ _) ?_
      refine v_if_ne r_185_51 (by first | exact zF_in _ _ _ | exact zA_in _ _ _ | omega) (fun _ => ?_) (fun q => absurd q (by omega))
      refine w_aload0 r_185_73 ?_
      refine v_getI r_185_74 (Lk_118 hL) (wrg_13 _ _ _) ?_
      refine v_if_eq r_185_77 (by first | exact zF_in _ _ _ | exact zA_in _ _ _ | omega) (fun q => absurd q (by omega)) (fun _ => ?_)
      refine w_vret r_185_80 ?_
      exact R
  · have isn : ∀ (KK : Int32 → XH → Prop), KK (iI 0) h → XW (d + 5) 177 0 [.ref 118, .null] [] h (KI KK) := fun KK kk => m_isName hL hS hY hT h13 (fun z => absurd z q) (fun _ => kk)
    have R := kf (1, τ.a k) (bnd_l (by unfold gName; rw [if_neg q])) _ (pM_wrg h 1 (τ.a k)) (wrg_MF (by omega) (by omega))
    refine w_aload0 r_185_0 ?_
    refine k_177 r_185_1 (Lk_118 hL) (Nat.le_of_ble_eq_true rfl) ?_
    refine isn _ ?_
    refine v_if_ne r_185_4 (by first | exact zF_in _ _ _ | exact zA_in _ _ _ | omega) (fun q => absurd q (by omega)) (fun _ => ?_)
    refine w_aload0 r_185_7 ?_
    refine w_iconst (v := iI (1)) r_185_8 rfl ?_
    refine w_aload0 r_185_9 ?_
    refine v_getI r_185_10 (Lk_118 hL) hT.i.1 ?_
    refine k_174 r_185_13 (Lk_118 hL) (Nat.le_of_ble_eq_true rfl) ?_
    refine m_wrong0 hL h13 ?_
    refine w_popI r_185_16 ?_
    refine w_vret r_185_17 ?_
    exact R
end MB2
