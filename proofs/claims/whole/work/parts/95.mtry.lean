/-! digging: the Model's out, tryAt, make -/
section MT
variable {d : Nat} {h : XH} {K : Int32 → XH → Prop} {KU : XH → Prop} {B : XB}
theorem hG_12 (h : XH) : zF (hG h) 118 12 = zF h 118 12 := (hG_fr h).F (by simp [pF])
theorem hG_MBk (hQ : MBk h B) : MBk (hG h) B := hQ.fr (hG_fr h) fp_MB0
theorem hG_140 (h : XH) (k : Int) : zA (hG h) 139 k = zA h 139 k := (hG_fr h).A (by simp [pF])
theorem m_out (hL : Lay h) (hQ : MBk h B) (hB : (zF h 118 12 = 1 ∧ B.ok) ∨ zF h 118 12 = 0) (hz : zF h 118 69 = 0 ∨ zF h 118 69 = 1) (h0 : zF h 118 69 = 1 → MDg h B) (hv : ∀ k : Int, 0 ≤ k → k < B.w → 0 ≤ zA h 139 k ∧ zA h 139 k ≤ 4)
    (k1 : zF h 118 12 = 0 → K (iI (-1)) (sI (hG h) 118 39 (iI 1)))
    (k2 : zF h 118 12 = 1 → ∀ h', Fr PDg (hG h) h' → zF h' 118 69 = 1 → MDg h' B → dS B (s5 (zA h 139) B.w.toNat) < 1000000000000000 → K (iI (dS B (s5 (zA h 139) B.w.toNat) / 10000)) h')
    (k3 : zF h 118 12 = 1 → ∀ h', Fr PDg (hG h) h' → zF h' 118 69 = 1 → MDg h' B → ¬ dS B (s5 (zA h 139) B.w.toNat) < 1000000000000000 → K (iI (-1)) (sI h' 118 39 (iI 6))) : XW (d + 3) 260 0 [.ref 118, .null] [] h (KI K) := by
  rcases hB with ⟨b1, ho⟩ | b0
  · have v5 : gI (hG h) 118 12 = iI 1 := by rw [gI_F, hG_12, b1]
    have hs := s5_ok ho hv
    have F1 := hG_fr h
    refine w_aload0 r_260_0 ?_
    refine k_164 r_260_1 (Lk_118 hL) (Nat.le_of_ble_eq_true rfl) ?_
    refine m_good hL ?_
    refine w_aload0 r_260_4 ?_
    refine v_getI r_260_5 (Lk_118 hL) v5 ?_
    refine v_if_ne r_260_8 (by omega) (fun _ => ?_) (fun q => absurd q (by omega))
    refine w_aload0 r_260_17 ?_
    refine k_259 r_260_18 (Lk_118 hL) (Nat.le_of_ble_eq_true rfl) ?_
    refine m_digs (F1.lay hL) (hG_MBk hQ) ho (by rw [F1.F (by simp [pF])]; exact hz) (fun q => by
      have m := h0 (by rw [F1.F (by simp [pF])] at q; exact q)
      exact fun x a b => by rw [F1.A (by simp [pF])]; exact m x a b) (fun h2 f2 z2 m2 => ?_)
    have L2 := f2.lay (F1.lay hL)
    have Q2 := PDg_fr f2 (hG_MBk hQ)
    have e140 : ∀ k, zA h2 139 k = zA h 139 k := fun k => by rw [f2.A (by simp [pO, pA, pF]), hG_140]
    have es : s5 (zA h2 139) B.w.toNat = s5 (zA h 139) B.w.toNat := by rw [show zA h2 139 = zA h 139 from funext e140]
    have K2 := k2 b1 h2 f2 z2 m2
    have K3 := k3 b1 h2 f2 z2 m2
    generalize s5 (zA h 139) B.w.toNat = s at hs es K2 K3
    have v29 : gI h2 149 s.toNat = iI (if 1000000000000000 ≤ dS B s then 2000000000 else dS B s) := by rw [gI_A, m2 s hs.1 hs.2]
    have p5 := p5W ho
    have hL := L2
    by_cases f : dS B s < 1000000000000000
    · have sm := dS_small ho hs.1 hs.2 f
      have i := dS_in (B := B) hs.1 hs.2
      rw [if_neg (by omega)] at v29
      refine w_aload0 r_260_21 ?_
      refine w_getA (x := 149) r_260_22 (Lk_118 hL) (Lr_118_68 hL) (by decide) ?_
      refine w_aload0 r_260_25 ?_
      refine k_257 r_260_26 (Lk_118 hL) (Nat.le_of_ble_eq_true rfl) ?_
      refine m_digState hL Q2 ho (fun k a b => by rw [e140]; exact hv k a b) ?_
      rw [es]
      refine v_iald r_260_29 (Lk_149 hL) (Lz_149 hL) (by decide) (by omega) v29 ?_
      refine w_istore1 r_260_30 rfl ?_
      refine w_iload1 r_260_31 ?_
      refine w_ldcwI (v := iI 2000000000) r_260_32 rfl ?_
      refine v_ic_ne r_260_35 (by first | exact zF_in _ _ _ | exact zA_in _ _ _ | omega) (by first | exact zF_in _ _ _ | exact zA_in _ _ _ | omega) (fun _ => ?_) (fun q => absurd q (by omega))
      refine w_iload1 r_260_47 ?_
      refine w_sipush (v := iI (10000)) r_260_48 rfl ?_
      refine v_idivN r_260_51 (by first | exact zF_in _ _ _ | exact zA_in _ _ _ | omega) (by omega) ?_
      refine w_iret r_260_52 ?_
      exact K2 f
    · rw [if_pos (by omega)] at v29
      refine w_aload0 r_260_21 ?_
      refine w_getA (x := 149) r_260_22 (Lk_118 hL) (Lr_118_68 hL) (by decide) ?_
      refine w_aload0 r_260_25 ?_
      refine k_257 r_260_26 (Lk_118 hL) (Nat.le_of_ble_eq_true rfl) ?_
      refine m_digState hL Q2 ho (fun k a b => by rw [e140]; exact hv k a b) ?_
      rw [es]
      refine v_iald r_260_29 (Lk_149 hL) (Lz_149 hL) (by decide) (by omega) v29 ?_
      refine w_istore1 r_260_30 rfl ?_
      refine w_iload1 r_260_31 ?_
      refine w_ldcwI (v := iI 2000000000) r_260_32 rfl ?_
      refine v_ic_ne r_260_35 (by first | exact zF_in _ _ _ | exact zA_in _ _ _ | omega) (by first | exact zF_in _ _ _ | exact zA_in _ _ _ | omega) (fun q => absurd q (by omega)) (fun _ => ?_)
      refine w_aload0 r_260_38 ?_
      refine w_bipush (v := iI (6)) r_260_39 rfl ?_
      refine k_165 r_260_41 (Lk_118 hL) (Nat.le_of_ble_eq_true rfl) ?_
      refine m_no hL ?_
      refine w_goto r_260_44 ?_
      refine w_iret r_260_52 ?_
      exact K3 f
  · have v5 : gI (hG h) 118 12 = iI 0 := by rw [gI_F, hG_12, b0]
    refine w_aload0 r_260_0 ?_
    refine k_164 r_260_1 (Lk_118 hL) (Nat.le_of_ble_eq_true rfl) ?_
    refine m_good hL ?_
    refine w_aload0 r_260_4 ?_
    refine v_getI r_260_5 (Lk_118 hL) v5 ?_
    refine v_if_ne r_260_8 (by first | exact zF_in _ _ _ | exact zA_in _ _ _ | omega) (fun q => absurd q (by omega)) (fun _ => ?_)
    refine w_aload0 r_260_11 ?_
    refine w_iconst (v := iI (1)) r_260_12 rfl ?_
    refine k_165 r_260_13 (Lk_118 hL) (Nat.le_of_ble_eq_true rfl) ?_
    refine m_no hL ?_
    refine w_iret r_260_16 ?_
    exact k1 b0
theorem m_tryAt {i : Int} (hi : R32 i) (hL : Lay h) (hQ : MBk h B) (hB : (zF h 118 12 = 1 ∧ B.ok) ∨ zF h 118 12 = 0) (hz : zF h 118 69 = 0 ∨ zF h 118 69 = 1) (h0 : zF h 118 69 = 1 → MDg h B) (hv : ∀ k : Int, 0 ≤ k → k < B.w → 0 ≤ zA h 139 k ∧ zA h 139 k ≤ 4)
    (k1 : zF h 118 12 = 0 ∨ i < 0 → K (iI (-1)) (sI (hG h) 118 39 (iI 1)))
    (k2 : zF h 118 12 = 1 → 0 ≤ i → ∀ h', Fr PDg (hG h) h' → zF h' 118 69 = 1 → MDg h' B → K (iI (tryR B (s5 (zA h 139) B.w.toNat) i)) h') : XW (d + 3) 261 0 [.ref 118, .int (iI i), .null, .null, .null, .null, .null, .null] [] h (KI K) := by
  rcases hB with ⟨b1, ho⟩ | b0
  · have v5 : gI (hG h) 118 12 = iI 1 := by rw [gI_F, hG_12, b1]
    by_cases i0 : i < 0
    · refine w_aload0 r_261_0 ?_
      refine k_164 r_261_1 (Lk_118 hL) (Nat.le_of_ble_eq_true rfl) ?_
      refine m_good hL ?_
      refine w_aload0 r_261_4 ?_
      refine v_getI r_261_5 (Lk_118 hL) v5 ?_
      refine v_if_eq r_261_8 (by first | exact zF_in _ _ _ | exact zA_in _ _ _ | omega) (fun q => absurd q (by omega)) (fun _ => ?_)
      refine w_iload1 r_261_11 ?_
      refine v_if_ge r_261_12 (by first | exact zF_in _ _ _ | exact zA_in _ _ _ | omega) (fun q => absurd q (by omega)) (fun _ => ?_)
      refine w_aload0 r_261_15 ?_
      refine w_iconst (v := iI (1)) r_261_16 rfl ?_
      refine k_165 r_261_17 (Lk_118 hL) (Nat.le_of_ble_eq_true rfl) ?_
      refine m_no hL ?_
      refine w_iret r_261_20 ?_
      exact k1 (Or.inr i0)
    · have hs := s5_ok ho hv
      have o := ho.1
      have F1 := hG_fr h
      have p5 := p5W ho
      have go : ∀ h2, Fr PDg (hG h) h2 → zF h2 118 69 = 1 → MDg h2 B → XW (d + 3) 261 25 [.ref 118, .int (iI i), .null, .null, .null, .null, .null, .null] [] h2 (KI K) := by
        intro h2 f2 z2 m2
        have hL := f2.lay (F1.lay hL)
        have Q2 := PDg_fr f2 (hG_MBk hQ)
        have e140 : ∀ k, zA h2 139 k = zA h 139 k := fun k => by rw [f2.A (by simp [pO, pA, pF]), hG_140]
        have es : s5 (zA h2 139) B.w.toNat = s5 (zA h 139) B.w.toNat := by rw [show zA h2 139 = zA h 139 from funext e140]
        have K2 := k2 b1 (by omega) h2 f2 z2 m2
        generalize s5 (zA h 139) B.w.toNat = s at hs es K2
        have v35 : gI h2 149 s.toNat = iI (if 1000000000000000 ≤ dS B s then 2000000000 else dS B s) := by rw [gI_A, m2 s hs.1 hs.2]
        by_cases f : dS B s < 1000000000000000
        · have sm := dS_small ho hs.1 hs.2 f
          have ii := dS_in (B := B) hs.1 hs.2
          rw [if_neg (by omega)] at v35
          have key : ∀ n : Nat, n ≤ (dS B s % 10000).toNat → ∀ X4 X5 X6 X7 : Value, (n : Int) ≤ i → XW (d + 3) 261 47 [.ref 118, .int (iI i), .int (iI (dpo B s n)), .int (iI n), X4, X5, X6, X7] [] h2 (KI K) := by
            refine upto _ ?_ ?_
            · intro X4 X5 X6 X7 hn
              have pt := dpo_at ho hs.1 hs.2 f (dS B s % 10000).toNat (by omega)
              have z := pt.2.2.2.2 (by omega)
              have e : tryR B s i = -2 := by unfold tryR; rw [if_neg (by omega)]
              rw [e] at K2
              refine w_iload2 r_261_47 ?_
              refine v_if_le r_261_48 (by first | exact zF_in _ _ _ | exact zA_in _ _ _ | omega) (fun _ => ?_) (fun q => absurd q (by omega))
              refine w_bipush (v := iI (-2)) r_261_189 rfl ?_
              refine w_iret r_261_191 ?_
              exact K2
            · intro n hn ih X4 X5 X6 X7 hni
              have pt := dpo_at ho hs.1 hs.2 f n (by omega)
              have p0 := pt.2.2.2.1 (by omega)
              have sn := dS_small ho pt.1.1 pt.1.2 pt.2.1
              have ip := dS_in (B := B) pt.1.1 pt.1.2
              have e133 : gI h2 149 (dpo B s n).toNat = iI (dS B (dpo B s n)) := by rw [gI_A, m2 _ pt.1.1 pt.1.2, if_neg (by omega)]
              have found : ∀ t w : Int, 0 ≤ t ∧ t < B.t → 0 ≤ w ∧ w < B.w → btI B (dpo B s n) = 6 * t + w → ∀ X5 X6 X7 : Value, XW (d + 3) 261 159 [.ref 118, .int (iI i), .int (iI (dpo B s n)), .int (iI n), .int (iI (10 * t + w)), X5, X6, X7] [] h2 (KI K) := by
                intro t w ht hw eb X5 X6 X7
                have ebs : bst B (dpo B s n) = 10 * t + w := by unfold bst; rw [eb]; omega
                by_cases e : (n : Int) = i
                · have et : tryR B s i = 10 * t + w := by
                    unfold tryR; rw [if_pos ⟨f, by omega⟩, show i.toNat = n by omega]; exact ebs
                  rw [et] at K2
                  refine w_iload3 r_261_159 ?_
                  refine w_iload1 r_261_160 ?_
                  refine v_ic_ne r_261_161 (by first | exact zF_in _ _ _ | exact zA_in _ _ _ | omega) (by first | exact zF_in _ _ _ | exact zA_in _ _ _ | omega) (fun q => absurd q (by omega)) (fun _ => ?_)
                  refine w_iload4 r_261_164 ?_
                  refine w_iret r_261_166 ?_
                  exact K2
                · have en : dnx B (dpo B s n) (6 * t + w) = dpo B s (n + 1) := by show _ = dnx B (dpo B s n) (btI B (dpo B s n)); rw [eb]
                  have J := ih (.int (iI (10 * t + w))) X5 X6 X7 (by omega)
                  rw [← en] at J
                  refine w_iload3 r_261_159 ?_
                  refine w_iload1 r_261_160 ?_
                  refine v_ic_ne r_261_161 (by first | exact zF_in _ _ _ | exact zA_in _ _ _ | omega) (by first | exact zF_in _ _ _ | exact zA_in _ _ _ | omega) (fun _ => ?_) (fun q => absurd q (by omega))
                  refine w_aload0 r_261_167 ?_
                  refine w_iload2 r_261_168 ?_
                  refine w_iload4 r_261_169 ?_
                  refine w_bipush (v := iI (10)) r_261_171 rfl ?_
                  refine v_idivN r_261_173 (by first | exact zF_in _ _ _ | exact zA_in _ _ _ | omega) (by omega) ?_
                  refine w_iload4 r_261_174 ?_
                  refine w_bipush (v := iI (10)) r_261_176 rfl ?_
                  refine v_iremN r_261_178 (by first | exact zF_in _ _ _ | exact zA_in _ _ _ | omega) (by omega) ?_
                  rw [show (10 * t + w) / 10 = t by omega, show (10 * t + w) % 10 = w by omega]
                  refine k_258 r_261_179 (Lk_118 hL) (Nat.le_of_ble_eq_true rfl) ?_
                  refine m_behind hL Q2 ho pt.1 ht hw ?_
                  refine w_istore2 r_261_182 rfl ?_
                  refine w_iinc3 r_261_183 rfl (iI_add _ _) ?_
                  refine w_goto r_261_186 ?_
                  exact J
              have after57 : ∀ t w : Int, 0 ≤ t ∧ t < B.t → 0 ≤ w ∧ w < B.w → btI B (dpo B s n) = 6 * t + w → ∀ (X6 X7 : Value), XW (d + 3) 261 57 [.ref 118, .int (iI i), .int (iI (dpo B s n)), .int (iI n), .int (iI (10 * t + w)), .int (iI (t + 1)), X6, X7] [] h2 (KI K) := by
                intro t w ht hw eb X6 X7
                have J := found t w ht hw eb (.int (iI (t + 1))) X6 X7
                refine w_iload5 r_261_57 ?_
                refine w_aload0 r_261_59 ?_
                refine v_getI r_261_60 (Lk_118 hL) (e23 Q2) ?_
                refine v_ic_ge r_261_63 (by first | exact zF_in _ _ _ | exact zA_in _ _ _ | omega) (by first | exact zF_in _ _ _ | exact zA_in _ _ _ | omega) (fun c63 => ?_) (fun c63 => ?_)
                · exact J
                · refine w_iload4 r_261_66 ?_
                  refine v_if_ge r_261_68 (by first | exact zF_in _ _ _ | exact zA_in _ _ _ | omega) (fun _ => ?_) (fun q => absurd q (by omega))
                  exact J
              have after74 : ∀ t w : Int, 0 ≤ t ∧ t < B.t → 0 ≤ w ∧ w < B.w → btI B (dpo B s n) = 6 * t + w → ∀ (X7 : Value), XW (d + 3) 261 74 [.ref 118, .int (iI i), .int (iI (dpo B s n)), .int (iI n), .int (iI (10 * t + w)), .int (iI t), .int (iI (w + 1)), X7] [] h2 (KI K) := by
                intro t w ht hw eb X7
                have J := after57 t w ht hw eb (.int (iI (w + 1))) X7
                refine w_iload6 r_261_74 ?_
                refine w_aload0 r_261_76 ?_
                refine v_getI r_261_77 (Lk_118 hL) (e24 Q2) ?_
                refine v_ic_ge r_261_80 (by first | exact zF_in _ _ _ | exact zA_in _ _ _ | omega) (by first | exact zF_in _ _ _ | exact zA_in _ _ _ | omega) (fun c80 => ?_) (fun c80 => ?_)
                · refine w_iinc5 r_261_153 rfl (iI_add _ _) ?_
                  refine w_goto r_261_156 ?_
                  exact J
                · refine w_iload4 r_261_83 ?_
                  refine v_if_ge r_261_85 (by first | exact zF_in _ _ _ | exact zA_in _ _ _ | omega) (fun _ => ?_) (fun q => absurd q (by omega))
                  refine w_iinc5 r_261_153 rfl (iI_add _ _) ?_
                  refine w_goto r_261_156 ?_
                  exact J
              have tl : ∀ t : Nat, t ≤ B.t.toNat → ∀ X6 X7 : Value, (∀ t' w', 0 ≤ t' ∧ t' < B.t → 0 ≤ w' ∧ w' < B.w → t' < t → ¬ (dS B (dnx B (dpo B s n) (6 * t' + w')) < 1000000000000000 ∧ dS B (dnx B (dpo B s n) (6 * t' + w')) + (10000 * B.pr t' + 1) = dS B (dpo B s n))) → XW (d + 3) 261 57 [.ref 118, .int (iI i), .int (iI (dpo B s n)), .int (iI n), .int (iI (-1)), .int (iI t), X6, X7] [] h2 (KI K) := by
                refine upto _ ?_ ?_
                · intro X6 X7 no
                  exfalso
                  obtain ⟨b1, b2, b3, b4, b5⟩ := btI_spec ho p0 pt.1.2 pt.2.1
                  refine no _ _ b1 b2 (by omega) ?_
                  rw [← b3]
                  exact ⟨b4, b5⟩
                · intro t ht ih2 X6 X7 no
                  have ht' : 0 ≤ (t : Int) ∧ (t : Int) < B.t := by omega
                  have op := ho.2.2.2.2 t ht'.1 ht'.2
                  have wl : ∀ w : Nat, w ≤ B.w.toNat → ∀ X7 : Value, (∀ w' : Int, 0 ≤ w' → w' < w → ¬ (dS B (dnx B (dpo B s n) (6 * t + w')) < 1000000000000000 ∧ dS B (dnx B (dpo B s n) (6 * t + w')) + (10000 * B.pr t + 1) = dS B (dpo B s n))) → XW (d + 3) 261 74 [.ref 118, .int (iI i), .int (iI (dpo B s n)), .int (iI n), .int (iI (-1)), .int (iI t), .int (iI w), X7] [] h2 (KI K) := by
                    refine upto _ ?_ ?_
                    · intro X7 nw
                      have J := ih2 (.int (iI (B.w.toNat : Int))) X7 (fun t' w' a b q => by
                        by_cases e : t' = (t : Int)
                        · rw [e]; exact nw w' b.1 (by omega)
                        · exact no t' w' a b (by omega))
                      refine w_iload6 r_261_74 ?_
                      refine w_aload0 r_261_76 ?_
                      refine v_getI r_261_77 (Lk_118 hL) (e24 Q2) ?_
                      refine v_ic_ge r_261_80 (by first | exact zF_in _ _ _ | exact zA_in _ _ _ | omega) (by first | exact zF_in _ _ _ | exact zA_in _ _ _ | omega) (fun _ => ?_) (fun q => absurd q (by omega))
                      refine w_iinc5 r_261_153 rfl (iI_add _ _) ?_
                      refine w_goto r_261_156 ?_
                      exact J
                    · intro w hw ih3 X7 nw
                      have hw' : 0 ≤ (w : Int) ∧ (w : Int) < B.w := by omega
                      have n1 := dnx_in B (dpo B s n) (6 * t + w)
                      have i1 := dS_in (B := B) n1.1 n1.2
                      have v101 : gI h2 149 (dnx B (dpo B s n) (6 * t + w)).toNat = iI (if 1000000000000000 ≤ dS B (dnx B (dpo B s n) (6 * t + w)) then 2000000000 else dS B (dnx B (dpo B s n) (6 * t + w))) := by rw [gI_A, m2 _ n1.1 n1.2]
                      by_cases g : dS B (dnx B (dpo B s n) (6 * t + w)) < 1000000000000000 ∧ dS B (dnx B (dpo B s n) (6 * t + w)) + (10000 * B.pr t + 1) = dS B (dpo B s n)
                      · have s1 := dS_small ho n1.1 n1.2 g.1
                        have g2 := g.2
                        have eb := best_of ho p0 pt.1.2 pt.2.1 ht' hw' g (fun t' w' a b c => by
                          rcases c with c | ⟨c1, c2⟩
                          · exact no t' w' a b c
                          · rw [c1]; exact nw w' b.1 c2)
                        have J := after74 t w ht' hw' eb (.int (iI (dS B (dnx B (dpo B s n) (6 * t + w)))))
                        rw [if_neg (by omega)] at v101
                        refine w_iload6 r_261_74 ?_
                        refine w_aload0 r_261_76 ?_
                        refine v_getI r_261_77 (Lk_118 hL) (e24 Q2) ?_
                        refine v_ic_ge r_261_80 (by first | exact zF_in _ _ _ | exact zA_in _ _ _ | omega) (by first | exact zF_in _ _ _ | exact zA_in _ _ _ | omega) (fun q => absurd q (by omega)) (fun _ => ?_)
                        refine w_iload4 r_261_83 ?_
                        refine v_if_ge r_261_85 (by first | exact zF_in _ _ _ | exact zA_in _ _ _ | omega) (fun q => absurd q (by omega)) (fun _ => ?_)
                        refine w_aload0 r_261_88 ?_
                        refine w_getA (x := 149) r_261_89 (Lk_118 hL) (Lr_118_68 hL) (by decide) ?_
                        refine w_aload0 r_261_92 ?_
                        refine w_iload2 r_261_93 ?_
                        refine w_iload5 r_261_94 ?_
                        refine w_iload6 r_261_96 ?_
                        refine k_258 r_261_98 (Lk_118 hL) (Nat.le_of_ble_eq_true rfl) ?_
                        refine m_behind hL Q2 ho pt.1 ht' hw' ?_
                        refine v_iald r_261_101 (Lk_149 hL) (Lz_149 hL) (by decide) (by omega) v101 ?_
                        refine w_istore7 r_261_102 rfl ?_
                        refine w_iload7 r_261_104 ?_
                        refine w_ldcwI (v := iI 2000000000) r_261_106 rfl ?_
                        refine v_ic_ge r_261_109 (by first | exact zF_in _ _ _ | exact zA_in _ _ _ | omega) (by first | exact zF_in _ _ _ | exact zA_in _ _ _ | omega) (fun q => absurd q (by omega)) (fun _ => ?_)
                        refine w_iload7 r_261_112 ?_
                        refine w_sipush (v := iI (10000)) r_261_114 rfl ?_
                        refine w_aload0 r_261_117 ?_
                        refine w_getA (x := 131) r_261_118 (Lk_118 hL) (Lr_118_32 hL) (by decide) ?_
                        refine w_iload5 r_261_121 ?_
                        refine v_iald r_261_123 (Lk_131 hL) (Lz_131 hL) (by decide) (by omega) (e132 Q2 ht') ?_
                        refine v_imul r_261_124 ?_
                        refine v_iadd r_261_125 ?_
                        refine w_iconst (v := iI (1)) r_261_126 rfl ?_
                        refine v_iadd r_261_127 ?_
                        refine w_aload0 r_261_128 ?_
                        refine w_getA (x := 149) r_261_129 (Lk_118 hL) (Lr_118_68 hL) (by decide) ?_
                        refine w_iload2 r_261_132 ?_
                        refine v_iald r_261_133 (Lk_149 hL) (Lz_149 hL) (by decide) (by omega) e133 ?_
                        refine v_ic_ne r_261_134 (by first | exact zF_in _ _ _ | exact zA_in _ _ _ | omega) (by first | exact zF_in _ _ _ | exact zA_in _ _ _ | omega) (fun q => absurd q (by omega)) (fun _ => ?_)
                        refine w_bipush (v := iI (10)) r_261_137 rfl ?_
                        refine w_iload5 r_261_139 ?_
                        refine v_imul r_261_141 ?_
                        refine w_iload6 r_261_142 ?_
                        refine v_iadd r_261_144 ?_
                        refine w_istore4 r_261_145 rfl ?_
                        refine w_iinc6 r_261_147 rfl (iI_add _ _) ?_
                        refine w_goto r_261_150 ?_
                        exact J
                      · have J := fun X7 => ih3 X7 (fun w' a b => by
                          by_cases e : w' = (w : Int)
                          · rw [e]; exact g
                          · exact nw w' a (by omega))
                        by_cases f1 : dS B (dnx B (dpo B s n) (6 * t + w)) < 1000000000000000
                        · have s1 := dS_small ho n1.1 n1.2 f1
                          have g2 : ¬ dS B (dnx B (dpo B s n) (6 * t + w)) + (10000 * B.pr t + 1) = dS B (dpo B s n) := fun z => g ⟨f1, z⟩
                          rw [if_neg (by omega)] at v101
                          have J := J (.int (iI (dS B (dnx B (dpo B s n) (6 * t + w)))))
                          refine w_iload6 r_261_74 ?_
                          refine w_aload0 r_261_76 ?_
                          refine v_getI r_261_77 (Lk_118 hL) (e24 Q2) ?_
                          refine v_ic_ge r_261_80 (by first | exact zF_in _ _ _ | exact zA_in _ _ _ | omega) (by first | exact zF_in _ _ _ | exact zA_in _ _ _ | omega) (fun q => absurd q (by omega)) (fun _ => ?_)
                          refine w_iload4 r_261_83 ?_
                          refine v_if_ge r_261_85 (by first | exact zF_in _ _ _ | exact zA_in _ _ _ | omega) (fun q => absurd q (by omega)) (fun _ => ?_)
                          refine w_aload0 r_261_88 ?_
                          refine w_getA (x := 149) r_261_89 (Lk_118 hL) (Lr_118_68 hL) (by decide) ?_
                          refine w_aload0 r_261_92 ?_
                          refine w_iload2 r_261_93 ?_
                          refine w_iload5 r_261_94 ?_
                          refine w_iload6 r_261_96 ?_
                          refine k_258 r_261_98 (Lk_118 hL) (Nat.le_of_ble_eq_true rfl) ?_
                          refine m_behind hL Q2 ho pt.1 ht' hw' ?_
                          refine v_iald r_261_101 (Lk_149 hL) (Lz_149 hL) (by decide) (by omega) v101 ?_
                          refine w_istore7 r_261_102 rfl ?_
                          refine w_iload7 r_261_104 ?_
                          refine w_ldcwI (v := iI 2000000000) r_261_106 rfl ?_
                          refine v_ic_ge r_261_109 (by first | exact zF_in _ _ _ | exact zA_in _ _ _ | omega) (by first | exact zF_in _ _ _ | exact zA_in _ _ _ | omega) (fun q => absurd q (by omega)) (fun _ => ?_)
                          refine w_iload7 r_261_112 ?_
                          refine w_sipush (v := iI (10000)) r_261_114 rfl ?_
                          refine w_aload0 r_261_117 ?_
                          refine w_getA (x := 131) r_261_118 (Lk_118 hL) (Lr_118_32 hL) (by decide) ?_
                          refine w_iload5 r_261_121 ?_
                          refine v_iald r_261_123 (Lk_131 hL) (Lz_131 hL) (by decide) (by omega) (e132 Q2 ht') ?_
                          refine v_imul r_261_124 ?_
                          refine v_iadd r_261_125 ?_
                          refine w_iconst (v := iI (1)) r_261_126 rfl ?_
                          refine v_iadd r_261_127 ?_
                          refine w_aload0 r_261_128 ?_
                          refine w_getA (x := 149) r_261_129 (Lk_118 hL) (Lr_118_68 hL) (by decide) ?_
                          refine w_iload2 r_261_132 ?_
                          refine v_iald r_261_133 (Lk_149 hL) (Lz_149 hL) (by decide) (by omega) e133 ?_
                          refine v_ic_ne r_261_134 (by first | exact zF_in _ _ _ | exact zA_in _ _ _ | omega) (by first | exact zF_in _ _ _ | exact zA_in _ _ _ | omega) (fun _ => ?_) (fun q => absurd q (by omega))
                          refine w_iinc6 r_261_147 rfl (iI_add _ _) ?_
                          refine w_goto r_261_150 ?_
                          exact J
                        · rw [if_pos (by omega)] at v101
                          have J := J (.int (iI 2000000000))
                          refine w_iload6 r_261_74 ?_
                          refine w_aload0 r_261_76 ?_
                          refine v_getI r_261_77 (Lk_118 hL) (e24 Q2) ?_
                          refine v_ic_ge r_261_80 (by first | exact zF_in _ _ _ | exact zA_in _ _ _ | omega) (by first | exact zF_in _ _ _ | exact zA_in _ _ _ | omega) (fun q => absurd q (by omega)) (fun _ => ?_)
                          refine w_iload4 r_261_83 ?_
                          refine v_if_ge r_261_85 (by first | exact zF_in _ _ _ | exact zA_in _ _ _ | omega) (fun q => absurd q (by omega)) (fun _ => ?_)
                          refine w_aload0 r_261_88 ?_
                          refine w_getA (x := 149) r_261_89 (Lk_118 hL) (Lr_118_68 hL) (by decide) ?_
                          refine w_aload0 r_261_92 ?_
                          refine w_iload2 r_261_93 ?_
                          refine w_iload5 r_261_94 ?_
                          refine w_iload6 r_261_96 ?_
                          refine k_258 r_261_98 (Lk_118 hL) (Nat.le_of_ble_eq_true rfl) ?_
                          refine m_behind hL Q2 ho pt.1 ht' hw' ?_
                          refine v_iald r_261_101 (Lk_149 hL) (Lz_149 hL) (by decide) (by omega) v101 ?_
                          refine w_istore7 r_261_102 rfl ?_
                          refine w_iload7 r_261_104 ?_
                          refine w_ldcwI (v := iI 2000000000) r_261_106 rfl ?_
                          refine v_ic_ge r_261_109 (by first | exact zF_in _ _ _ | exact zA_in _ _ _ | omega) (by first | exact zF_in _ _ _ | exact zA_in _ _ _ | omega) (fun _ => ?_) (fun q => absurd q (by omega))
                          refine w_iinc6 r_261_147 rfl (iI_add _ _) ?_
                          refine w_goto r_261_150 ?_
                          exact J
                  have J := wl 0 (by omega) X7 (fun w' a b => by omega)
                  refine w_iload5 r_261_57 ?_
                  refine w_aload0 r_261_59 ?_
                  refine v_getI r_261_60 (Lk_118 hL) (e23 Q2) ?_
                  refine v_ic_ge r_261_63 (by first | exact zF_in _ _ _ | exact zA_in _ _ _ | omega) (by first | exact zF_in _ _ _ | exact zA_in _ _ _ | omega) (fun q => absurd q (by omega)) (fun _ => ?_)
                  refine w_iload4 r_261_66 ?_
                  refine v_if_ge r_261_68 (by first | exact zF_in _ _ _ | exact zA_in _ _ _ | omega) (fun q => absurd q (by omega)) (fun _ => ?_)
                  refine w_iconst (v := iI (0)) r_261_71 rfl ?_
                  refine w_istore6 r_261_72 rfl ?_
                  exact J
              have J := tl 0 (by omega) X6 X7 (fun t' w' a _ b => by omega)
              refine w_iload2 r_261_47 ?_
              refine v_if_le r_261_48 (by first | exact zF_in _ _ _ | exact zA_in _ _ _ | omega) (fun q => absurd q (by omega)) (fun _ => ?_)
              refine w_iconst (v := iI (-1)) r_261_51 rfl ?_
              refine w_istore4 r_261_52 rfl ?_
              refine w_iconst (v := iI (0)) r_261_54 rfl ?_
              refine w_istore5 r_261_55 rfl ?_
              exact J
          have J := key 0 (by omega) .null .null .null .null (by omega)
          refine w_aload0 r_261_25 ?_
          refine k_257 r_261_26 (Lk_118 hL) (Nat.le_of_ble_eq_true rfl) ?_
          refine m_digState hL Q2 ho (fun k a b => by rw [e140]; exact hv k a b) ?_
          rw [es]
          refine w_istore2 r_261_29 rfl ?_
          refine w_aload0 r_261_30 ?_
          refine w_getA (x := 149) r_261_31 (Lk_118 hL) (Lr_118_68 hL) (by decide) ?_
          refine w_iload2 r_261_34 ?_
          refine v_iald r_261_35 (Lk_149 hL) (Lz_149 hL) (by decide) (by omega) v35 ?_
          refine w_ldcwI (v := iI 2000000000) r_261_36 rfl ?_
          refine v_ic_ne r_261_39 (by first | exact zF_in _ _ _ | exact zA_in _ _ _ | omega) (by first | exact zF_in _ _ _ | exact zA_in _ _ _ | omega) (fun _ => ?_) (fun q => absurd q (by omega))
          refine w_iconst (v := iI (0)) r_261_45 rfl ?_
          refine w_istore3 r_261_46 rfl ?_
          exact J
        · rw [if_pos (by omega)] at v35
          have e : tryR B s i = -2 := by unfold tryR; rw [if_neg (fun z => f z.1)]
          rw [e] at K2
          refine w_aload0 r_261_25 ?_
          refine k_257 r_261_26 (Lk_118 hL) (Nat.le_of_ble_eq_true rfl) ?_
          refine m_digState hL Q2 ho (fun k a b => by rw [e140]; exact hv k a b) ?_
          rw [es]
          refine w_istore2 r_261_29 rfl ?_
          refine w_aload0 r_261_30 ?_
          refine w_getA (x := 149) r_261_31 (Lk_118 hL) (Lr_118_68 hL) (by decide) ?_
          refine w_iload2 r_261_34 ?_
          refine v_iald r_261_35 (Lk_149 hL) (Lz_149 hL) (by decide) (by omega) v35 ?_
          refine w_ldcwI (v := iI 2000000000) r_261_36 rfl ?_
          refine v_ic_ne r_261_39 (by first | exact zF_in _ _ _ | exact zA_in _ _ _ | omega) (by first | exact zF_in _ _ _ | exact zA_in _ _ _ | omega) (fun q => absurd q (by omega)) (fun _ => ?_)
          refine w_bipush (v := iI (-2)) r_261_42 rfl ?_
          refine w_iret r_261_44 ?_
          exact K2
      refine w_aload0 r_261_0 ?_
      refine k_164 r_261_1 (Lk_118 hL) (Nat.le_of_ble_eq_true rfl) ?_
      refine m_good hL ?_
      refine w_aload0 r_261_4 ?_
      refine v_getI r_261_5 (Lk_118 hL) v5 ?_
      refine v_if_eq r_261_8 (by first | exact zF_in _ _ _ | exact zA_in _ _ _ | omega) (fun q => absurd q (by omega)) (fun _ => ?_)
      refine w_iload1 r_261_11 ?_
      refine v_if_ge r_261_12 (by first | exact zF_in _ _ _ | exact zA_in _ _ _ | omega) (fun _ => ?_) (fun q => absurd q (by omega))
      refine w_aload0 r_261_21 ?_
      refine k_259 r_261_22 (Lk_118 hL) (Nat.le_of_ble_eq_true rfl) ?_
      refine m_digs (F1.lay hL) (hG_MBk hQ) ho (by rw [F1.F (by simp [pF])]; exact hz) (fun q => fun x a b => by rw [F1.A (by simp [pF])]; exact h0 (by rw [F1.F (by simp [pF])] at q; exact q) x a b) (fun h2 f2 z2 m2 => ?_)
      exact go h2 f2 z2 m2
  · have v5 : gI (hG h) 118 12 = iI 0 := by rw [gI_F, hG_12, b0]
    refine w_aload0 r_261_0 ?_
    refine k_164 r_261_1 (Lk_118 hL) (Nat.le_of_ble_eq_true rfl) ?_
    refine m_good hL ?_
    refine w_aload0 r_261_4 ?_
    refine v_getI r_261_5 (Lk_118 hL) v5 ?_
    refine v_if_eq r_261_8 (by first | exact zF_in _ _ _ | exact zA_in _ _ _ | omega) (fun _ => ?_) (fun q => absurd q (by omega))
    refine w_aload0 r_261_15 ?_
    refine w_iconst (v := iI (1)) r_261_16 rfl ?_
    refine k_165 r_261_17 (Lk_118 hL) (Nat.le_of_ble_eq_true rfl) ?_
    refine m_no hL ?_
    refine w_iret r_261_20 ?_
    exact k1 (Or.inl b0)
theorem vs_5 (x : Int) (n : Nat) : x / 5 ^ n % 5 = vs x n := by unfold vs; rw [Int.toNat_natCast]
theorem m_make {t w : Int} (ht : R32 t) (hw : R32 w) (hL : Lay h) (hQ : MBk h B) (hB : (zF h 118 12 = 1 ∧ B.ok) ∨ zF h 118 12 = 0) (hv : ∀ k : Int, 0 ≤ k → k < B.w → 0 ≤ zA h 139 k ∧ zA h 139 k ≤ 4)
    (k1 : ¬ (zF h 118 12 = 1 ∧ (0 ≤ t ∧ t < B.t) ∧ 0 ≤ w ∧ w < B.w) → K (iI (-1)) (sI (hG h) 118 39 (iI 1)))
    (k2 : zF h 118 12 = 1 → 0 ≤ t ∧ t < B.t → 0 ≤ w ∧ w < B.w → ∀ h', Fr (pA [139]) (hG h) h' → (∀ k : Int, 0 ≤ k → k < B.w → zA h' 139 k = mvd (B.ea t) (B.on t) (zA h 139) w k) → (∀ k : Int, B.w ≤ k → zA h' 139 k = zA h 139 k) → K (iI (maxTo (zA h' 139) B.w.toNat)) h') : XW (d + 2) 263 0 [.ref 118, .int (iI t), .int (iI w), .null, .null] [] h (KI K) := by
  rcases hB with ⟨b1, ho⟩ | b0
  · have v5 : gI (hG h) 118 12 = iI 1 := by rw [gI_F, hG_12, b1]
    have o := ho.1
    have F1 := hG_fr h
    have Q1 := hG_MBk hQ
    have hs := s5_ok ho hv
    have es : s5 (zA (hG h) 139) B.w.toNat = s5 (zA h 139) B.w.toNat := by rw [show zA (hG h) 139 = zA h 139 from funext (hG_140 h)]
    have tail : 0 ≤ t ∧ t < B.t → 0 ≤ w ∧ w < B.w → XW (d + 2) 263 45 [.ref 118, .int (iI t), .int (iI w), .null, .null] [] (hG h) (KI K) := by
      intro ht hw
      have n1 := dnx_in B (s5 (zA h 139) B.w.toNat) (6 * t + w)
      have p5' := p5W ho
      have ev : ∀ k : Int, 0 ≤ k → k < B.w → vs (dnx B (s5 (zA h 139) B.w.toNat) (6 * t + w)) k = mvd (B.ea t) (B.on t) (zA h 139) w k := fun k a b => by
        rw [dnx_tw ho hw, s5_dig (fun k _ _ => mvd_in _ _ _ _ k) k a (by omega)]
        unfold mvd
        rw [s5_dig (fun k a b => hv k a (by omega)) k a (by omega)]
      have key : ∀ n : Nat, n ≤ B.w.toNat → ∀ g : XH, Fr (pA [139]) (hG h) g → (∀ k : Int, 0 ≤ k → k < n → zA g 139 k = mvd (B.ea t) (B.on t) (zA h 139) w k) → (∀ k : Int, n ≤ k → zA g 139 k = zA h 139 k) → XW (d + 2) 263 59 [.ref 118, .int (iI t), .int (iI w), .int (iI (dnx B (s5 (zA h 139) B.w.toNat) (6 * t + w) / 5 ^ n)), .int (iI n)] [] g (KI K) := by
        refine upto _ ?_ ?_
        · intro g fg w1 w2
          have hL := fg.lay (F1.lay hL)
          have Qg : MBk g B := Q1.fr fg (fun a j q => by simp [fpMB] at q; simp [pA]; omega)
          have z12 : zF g 118 12 = 1 := by rw [fg.F (by simp [pA]), hG_12, b1]
          have z24 : zF g 118 24 = B.w := Qg.1.2.2.1
          have R := k2 b1 ht hw g fg (fun k a b => w1 k a (by omega)) (fun k a => w2 k (by omega))
          refine w_iload4 r_263_59 ?_
          refine w_aload0 r_263_61 ?_
          refine v_getI r_263_62 (Lk_118 hL) (e24 Qg) ?_
          refine v_ic_ge r_263_65 (by first | exact zF_in _ _ _ | exact zA_in _ _ _ | omega) (by first | exact zF_in _ _ _ | exact zA_in _ _ _ | omega) (fun _ => ?_) (fun q => absurd q (by omega))
          refine w_aload0 r_263_88 ?_
          refine k_262 r_263_89 (Lk_118 hL) (Nat.le_of_ble_eq_true rfl) ?_
          refine m_mostDug hL (by omega) (by omega) (fun q => absurd q (by omega)) (fun _ => ?_)
          refine w_iret r_263_92 ?_
          rw [z24]
          exact R
        · intro n hn ih g fg w1 w2
          have hL := fg.lay (F1.lay hL)
          have Qg : MBk g B := Q1.fr fg (fun a j q => by simp [fpMB] at q; simp [pA]; omega)
          have pk := p5 n
          have d0 : 0 ≤ dnx B (s5 (zA h 139) B.w.toNat) (6 * t + w) / 5 ^ n := Int.ediv_nonneg n1.1 (by omega)
          have d1 : dnx B (s5 (zA h 139) B.w.toNat) (6 * t + w) / 5 ^ n ≤ dnx B (s5 (zA h 139) B.w.toNat) (6 * t + w) := Int.ediv_le_self _ n1.1
          have e1 : dnx B (s5 (zA h 139) B.w.toNat) (6 * t + w) / 5 ^ n % 5 = mvd (B.ea t) (B.on t) (zA h 139) w n := by rw [vs_5, ev n (by omega) (by omega)]
          have e2 : dnx B (s5 (zA h 139) B.w.toNat) (6 * t + w) / 5 ^ n / 5 = dnx B (s5 (zA h 139) B.w.toNat) (6 * t + w) / 5 ^ (n + 1) := by rw [Int.pow_succ, Int.ediv_ediv_of_nonneg (by omega)]
          have mi := mvd_in (B.ea t) (B.on t) (zA h 139) w n
          have yz : ∀ k, 0 ≤ k → zA (sI g 139 (n : Int).toNat (iI (mvd (B.ea t) (B.on t) (zA h 139) w n))) 139 k = if k = (n : Int) then mvd (B.ea t) (B.on t) (zA h 139) w n else zA g 139 k := fun k a => zA_s (by omega) a (by omega)
          have J := ih (sI g 139 (n : Int).toNat (iI (mvd (B.ea t) (B.on t) (zA h 139) w n))) (fg.sI _ _ _ (by simp [pA])) (fun k a b => by
            rw [yz k a]
            by_cases e : k = (n : Int)
            · rw [if_pos e, e]
            · rw [if_neg e]; exact w1 k a (by omega)) (fun k a => by rw [yz k (by omega), if_neg (by omega)]; exact w2 k (by omega))
          rw [← e2] at J
          refine w_iload4 r_263_59 ?_
          refine w_aload0 r_263_61 ?_
          refine v_getI r_263_62 (Lk_118 hL) (e24 Qg) ?_
          refine v_ic_ge r_263_65 (by first | exact zF_in _ _ _ | exact zA_in _ _ _ | omega) (by first | exact zF_in _ _ _ | exact zA_in _ _ _ | omega) (fun q => absurd q (by omega)) (fun _ => ?_)
          refine w_aload0 r_263_68 ?_
          refine w_getA (x := 139) r_263_69 (Lk_118 hL) (Lr_118_47 hL) (by decide) ?_
          refine w_iload4 r_263_72 ?_
          refine w_iload3 r_263_74 ?_
          refine w_iconst (v := iI (5)) r_263_75 rfl ?_
          refine v_iremN r_263_76 (by first | exact zF_in _ _ _ | exact zA_in _ _ _ | omega) (by omega) ?_
          rw [e1]
          refine v_iast r_263_77 (Lk_139 hL) (Ln_139 hL) (Lz_139 hL) (by decide) (by omega) ?_
          refine w_iload3 r_263_78 ?_
          refine w_iconst (v := iI (5)) r_263_79 rfl ?_
          refine v_idivN r_263_80 (by first | exact zF_in _ _ _ | exact zA_in _ _ _ | omega) (by omega) ?_
          refine w_istore3 r_263_81 rfl ?_
          refine w_iinc4 r_263_82 rfl (iI_add _ _) ?_
          refine w_goto r_263_85 ?_
          exact J
      have J := key 0 (by omega) (hG h) (Fr.refl _ _) (fun k a b => by omega) (fun k _ => hG_140 h k)
      rw [Int.pow_zero, Int.ediv_one] at J
      have hL := F1.lay hL
      refine w_aload0 r_263_45 ?_
      refine w_aload0 r_263_46 ?_
      refine k_257 r_263_47 (Lk_118 hL) (Nat.le_of_ble_eq_true rfl) ?_
      refine m_digState hL Q1 ho (fun k a b => by rw [hG_140]; exact hv k a b) ?_
      rw [es]
      refine w_iload1 r_263_50 ?_
      refine w_iload2 r_263_51 ?_
      refine k_258 r_263_52 (Lk_118 hL) (Nat.le_of_ble_eq_true rfl) ?_
      refine m_behind hL Q1 ho hs ht hw ?_
      refine w_istore3 r_263_55 rfl ?_
      refine w_iconst (v := iI (0)) r_263_56 rfl ?_
      refine w_istore4 r_263_57 rfl ?_
      exact J
    refine w_aload0 r_263_0 ?_
    refine k_164 r_263_1 (Lk_118 hL) (Nat.le_of_ble_eq_true rfl) ?_
    refine m_good hL ?_
    refine w_aload0 r_263_4 ?_
    refine v_getI r_263_5 (Lk_118 hL) v5 ?_
    refine v_if_eq r_263_8 (by first | exact zF_in _ _ _ | exact zA_in _ _ _ | omega) (fun q => absurd q (by omega)) (fun _ => ?_)
    refine w_iload1 r_263_11 ?_
    refine w_iconst (v := iI (0)) r_263_12 rfl ?_
    refine w_aload0 r_263_13 ?_
    refine v_getI r_263_14 (Lk_118 hL) (e23 Q1) ?_
    refine w_iconst (v := iI (1)) r_263_17 rfl ?_
    refine v_isub r_263_18 ?_
    refine k_167 r_263_19 (Nat.le_of_ble_eq_true rfl) ?_
    refine m_within (by first | exact zF_in _ _ _ | exact zA_in _ _ _ | omega) (by first | exact zF_in _ _ _ | exact zA_in _ _ _ | omega) (by first | exact zF_in _ _ _ | exact zA_in _ _ _ | omega) (fun c19 => ?_) (fun c19 => ?_)
    · refine v_if_eq r_263_22 (by first | exact zF_in _ _ _ | exact zA_in _ _ _ | omega) (fun q => absurd q (by omega)) (fun _ => ?_)
      refine w_iload2 r_263_25 ?_
      refine w_iconst (v := iI (0)) r_263_26 rfl ?_
      refine w_aload0 r_263_27 ?_
      refine v_getI r_263_28 (Lk_118 hL) (e24 Q1) ?_
      refine w_iconst (v := iI (1)) r_263_31 rfl ?_
      refine v_isub r_263_32 ?_
      refine k_167 r_263_33 (Nat.le_of_ble_eq_true rfl) ?_
      refine m_within (by first | exact zF_in _ _ _ | exact zA_in _ _ _ | omega) (by first | exact zF_in _ _ _ | exact zA_in _ _ _ | omega) (by first | exact zF_in _ _ _ | exact zA_in _ _ _ | omega) (fun c33 => ?_) (fun c33 => ?_)
      · refine v_if_ne r_263_36 (by first | exact zF_in _ _ _ | exact zA_in _ _ _ | omega) (fun _ => ?_) (fun q => absurd q (by omega))
        exact tail (by omega) (by omega)
      · refine v_if_ne r_263_36 (by first | exact zF_in _ _ _ | exact zA_in _ _ _ | omega) (fun q => absurd q (by omega)) (fun _ => ?_)
        refine w_aload0 r_263_39 ?_
        refine w_iconst (v := iI (1)) r_263_40 rfl ?_
        refine k_165 r_263_41 (Lk_118 hL) (Nat.le_of_ble_eq_true rfl) ?_
        refine m_no hL ?_
        refine w_iret r_263_44 ?_
        exact k1 (by omega)
    · refine v_if_eq r_263_22 (by first | exact zF_in _ _ _ | exact zA_in _ _ _ | omega) (fun _ => ?_) (fun q => absurd q (by omega))
      refine w_aload0 r_263_39 ?_
      refine w_iconst (v := iI (1)) r_263_40 rfl ?_
      refine k_165 r_263_41 (Lk_118 hL) (Nat.le_of_ble_eq_true rfl) ?_
      refine m_no hL ?_
      refine w_iret r_263_44 ?_
      exact k1 (by omega)
  · have v5 : gI (hG h) 118 12 = iI 0 := by rw [gI_F, hG_12, b0]
    refine w_aload0 r_263_0 ?_
    refine k_164 r_263_1 (Lk_118 hL) (Nat.le_of_ble_eq_true rfl) ?_
    refine m_good hL ?_
    refine w_aload0 r_263_4 ?_
    refine v_getI r_263_5 (Lk_118 hL) v5 ?_
    refine v_if_eq r_263_8 (by first | exact zF_in _ _ _ | exact zA_in _ _ _ | omega) (fun _ => ?_) (fun q => absurd q (by omega))
    refine w_aload0 r_263_39 ?_
    refine w_iconst (v := iI (1)) r_263_40 rfl ?_
    refine k_165 r_263_41 (Lk_118 hL) (Nat.le_of_ble_eq_true rfl) ?_
    refine m_no hL ?_
    refine w_iret r_263_44 ?_
    exact k1 (by omega)
end MT
