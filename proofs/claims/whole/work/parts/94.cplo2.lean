/-! digging: the class's plot, moveAt -/
section CPY
variable {d m pc : Nat} {ls st : List Value} {h : XH} {Q : Option Value → XH → Prop} {len ra rb rc rw : Nat}
theorem w_copy {i : Nat} {n dp sp : Int32} {a a0 : Nat} (r : xrow m pc = some (.invokestatic i, len, ra, 2, rc, rw)) (hc : a0 ≠ a ∧ gK h a0 = 1 ∧ a0 < gN h ∧ gK h a = 1 ∧ a < gN h ∧ ¬ n < 0 ∧ ¬ dp < 0 ∧ ¬ sp < 0 ∧ sp.toNatClampNeg + n.toNatClampNeg ≤ gZ h a0 ∧ dp.toNatClampNeg + n.toNatClampNeg ≤ gZ h a ∧ xcat st ≤ 8) (k : XW d m (pc + 3) ls st (xcpy h a0 a sp.toNatClampNeg dp.toNatClampNeg n.toNatClampNeg) Q) : XW d m pc ls (.int n :: .int dp :: .ref a :: .int sp :: .ref a0 :: st) h Q :=
  XW.op r rfl rfl (by show (if a0 ≠ a ∧ _ then _ else _) = _; rw [if_pos hc]) k
theorem Fr.cpy (h : XH) (a0 a sp dp n : Nat) : Fr (pA [a]) h (xcpy h a0 a sp dp n) := by
  refine ⟨rfl, fun x j q => ⟨?_, rfl⟩⟩
  have hx : ¬ x = a := by simp [pA] at q; exact q
  show (if x = a then _ else h.1 x j) = _
  rw [if_neg hx]; rfl
theorem zA_cpy {h : XH} {a0 a n : Nat} {k : Int} (h0 : 0 ≤ k) (h1 : k < n) : zA (xcpy h a0 a 0 0 n) a k = zA h a0 k := by
  unfold zA
  show (if a = a then (if 0 ≤ k.toNat ∧ k.toNat < 0 + n then h.1 a0 (0 + (k.toNat - 0)) else h.1 a k.toNat) else h.1 a k.toNat).toInt = _
  rw [if_pos rfl, if_pos (by omega), show 0 + (k.toNat - 0) = k.toNat by omega]; rfl
end CPY
section CP2
variable {d : Nat} {h : XH} {K : Int32 → XH → Prop} {KU : XH → Prop} {B : XB} {rb a0 : Nat}
theorem SvD.fr {P : Nat → Nat → Bool} {h' : XH} {V : Int → Int} (f : Fr P h h') (hS : SvD B V h a0) (p : ∀ j, P a0 j = false ∧ P (a0 + 1) j = false ∧ P (a0 + 2) j = false ∧ P (a0 + 3) j = false) (p5 : P 107 5 = false) : SvD B V h' a0 :=
  ⟨hS.1.fr f, hS.2.1.fr f (fun j => (p j).1) (fun j => (p j).2.1) p5, hS.2.2.1.fr f (fun j => (p j).2.2.1), fun s a b => by rw [f.A (p _).2.2.2]; exact hS.2.2.2 s a b⟩
abbrev PPn (a : Nat) : Nat → Nat → Bool := pO (pA [109, a + 4]) (pF [(107, 10), (107, 12)])
theorem c_plot (hL : Lay h) (hU : Unt h) (hb : rb = 6 ∨ rb = 20) (hr : gR h 107 0 = rb) (hC : CBk h rb B) (ho : B.ok) (hG : CDg h B a0) (hN : gN h < 899000) (hv : ∀ k : Int, 0 ≤ k → k < B.w → 0 ≤ zA h 108 k ∧ zA h 108 k ≤ 4) (h10 : zF h 107 10 = 0 ∨ zF h 107 10 = 1 ∧ zF h 107 4 = 1 ∧ Pth h B a0 (s5 (zA h 108) B.w.toNat)) (kk : ∀ h' a1, Ch (PPl a1) qV h h' → Lay h' → zF h' 107 4 = 1 → zF h' 107 10 = 1 → SvD B (cV B) h' a1 → Pth h' B a1 (s5 (zA h 108) B.w.toNat) → Gw h h' a0 a1 → KU h') : XW (d + 6) 29 0 [.ref 107, .null, .null, .null] [] h (KV KU) := by
  have o := ho.1
  have h156 := hL.2.2.1
  rcases h10 with h10 | ⟨h10, h4, hp⟩
  · have v1 : gI h 107 10 = iI 0 := by rw [gI_F, h10]
    refine w_aload0 r_29_0 ?_
    refine v_getI r_29_1 (Lk_107 hL) v1 ?_
    refine v_if_eq r_29_4 (by omega) (fun _ => ?_) (fun q => absurd q (by omega))
    refine w_aload0 r_29_8 ?_
    refine k_32 r_29_9 (Lk_107 hL) (Nat.le_of_ble_eq_true rfl) ?_
    refine c_survey hL hU hb hr hC ho hG hN (fun h2 a1 c2 L2 z4 S2 g2 => ?_)
    have a156 := S2.1.2.2.2.1
    have aN := S2.1.2.2.2.2
    have N2 := L2.2.2.2.1
    have U2 : Unt h2 := c2.unt hU (fun j => by simp [pO, pA, pF]; omega)
    have r2 : gR h2 107 0 = rb := (c2.2.1 107 0 (Or.inl (by omega)) (by decide)).trans hr
    have C2' := hC.fr c2.fr hb (fun a j p q => by simp [pO, pA, pF]; omega)
    have C2 : CBk h2 rb B := C2'
    have e109 : ∀ k, zA h2 108 k = zA h 108 k := fun k => by
      unfold zA
      rw [(c2.1 108 _ (Or.inl (by omega)) (by simp [pO, pA, pF]; omega)).1]
    have hs := s5_ok ho hv
    have sd : ∀ k : Int, 0 ≤ k → k < B.w → vs (s5 (zA h 108) B.w.toNat) k = zA h 108 k := fun k a b => s5_dig (fun k a b => hv k a (by omega)) k a (by omega)
    have K2 : ∀ h', Fr (PPn a1) h2 h' → zF h' 107 10 = 1 → Pth h' B a1 (s5 (zA h 108) B.w.toNat) → KU h' := fun h' f z p => kk h' a1 ((c2.mono (fun a j q => by simp [pO, pA, pF] at q ⊢; omega) (fun _ _ q => q)).trans (f.ch.mono (fun a j q => by simp [pO, pA, pF] at q ⊢; omega) (fun _ _ _ => rfl))) (f.lay L2) (by rw [f.F (by simp [pO, pA, pF]; omega)]; exact z4) z (S2.fr f (fun j => by simp [pO, pA, pF]; omega) (by simp [pO, pA, pF]; omega)) p (by unfold Gw at g2 ⊢; rw [f.N, f.U]; exact g2)
    generalize s5 (zA h 108) B.w.toNat = s at hs sd K2
    have gS : ∀ g, Fr (PPn a1) h2 g → SvD B (cV B) g a1 := fun g f => S2.fr f (fun j => by simp [pO, pA, pF]; omega) (by simp [pO, pA, pF]; omega)
    have gC : ∀ g, Fr (PPn a1) h2 g → CBk g rb B := fun g f => C2.fr f hb (fun a j p q => by simp [pO, pA, pF]; omega)
    have gU' : ∀ g, Fr (PPn a1) h2 g → Unt g := fun g f => U2.fr f (fun j => by simp [pO, pA, pF]; omega)
    have key : dS B s < 1000000000000000 → ∀ n : Nat, n ≤ (dS B s % 10000).toNat → ∀ (g : XH) (X3 : Value), Fr (PPn a1) h2 g → zF g 107 10 = 1 → gI g 107 12 = iI n → (∀ i : Nat, i < n → zA g (a1 + 4) i = bst B (dpo B s i)) → (∀ k : Int, 0 ≤ k → k < B.w → zA g 109 k = vs (dpo B s n) k) → XW (d + 6) 29 65 [.ref 107, .int (iI (nmb B (cds B (dpo B s n)))), .int (iI n), X3] [] g (KV KU) := by
      intro fi
      have sm := dS_small ho hs.1 hs.2 fi
      refine upto _ ?_ ?_
      · intro g X3 fg z10 e12 hpa hno
        have hL := fg.lay L2
        have hD := (gS g fg).1
        have pt := dpo_at ho hs.1 hs.2 fi (dS B s % 10000).toNat (by omega)
        have z := pt.2.2.2.2 (by omega)
        have nj := nmb_in (x := cds B (dpo B s (dS B s % 10000).toNat)) ho (cds_in ho)
        have nj2 := nj.2.2 (vld_cds ho)
        have t0 : tgt (cV B) 0 = 0 := by rw [tgt_cV ho (by omega) (by have := p5 B.w.toNat; omega), dS_zero]; rfl
        have v77 : gI g (a1 + 3) (nmb B (cds B (dpo B s (dS B s % 10000).toNat))).toNat = iI 0 := by rw [gI_A, ((gS g fg).at ho pt.1.1 pt.1.2).2, z, t0]
        have z12 : zF g 107 12 = dS B s % 10000 := by unfold zF; rw [e12, iI_t (by omega)]; omega
        have fin := K2 g fg z10 ⟨by rw [z12, if_pos fi], fun i hi => hpa i (by omega)⟩
        refine w_iload2 r_29_65 ?_
        refine w_sipush (v := iI (210)) r_29_66 rfl ?_
        refine v_ic_ge r_29_69 (by first | exact zF_in _ _ _ | exact zA_in _ _ _ | omega) (by first | exact zF_in _ _ _ | exact zA_in _ _ _ | omega) (fun c69 => ?_) (fun c69 => ?_)
        · refine w_vret r_29_148 ?_
          exact fin
        · refine w_aload0 r_29_72 ?_
          refine w_getA (x := a1 + 3) r_29_73 (Lk_107 hL) hD.1.2.2.2.1 (by omega) ?_
          refine w_iload1 r_29_76 ?_
          refine v_iald r_29_77 hD.2.1.2.2.2.1 hD.2.2.1.2.2.2.1 (by decide) (by omega) v77 ?_
          refine v_if_le r_29_78 (by first | exact zF_in _ _ _ | exact zA_in _ _ _ | omega) (fun _ => ?_) (fun q => absurd q (by omega))
          refine w_vret r_29_148 ?_
          exact fin
      · intro n hn ih g X3 fg z10 e12 hpa hno
        have hL := fg.lay L2
        have hD := (gS g fg).1
        have rg := (fg.R 107 0).trans r2
        have Cg := gC g fg
        have pt := dpo_at ho hs.1 hs.2 fi n (by omega)
        have p0 := pt.2.2.2.1 (by omega)
        have nj := nmb_in (x := cds B (dpo B s n)) ho (cds_in ho)
        have nj2 := nj.2.2 (vld_cds ho)
        have sn := dS_small ho pt.1.1 pt.1.2 pt.2.1
        have ip := dS_in (B := B) pt.1.1 pt.1.2
        have tc := tgt_cV ho pt.1.1 pt.1.2
        rw [if_pos pt.2.1] at tc
        have v77 : gI g (a1 + 3) (nmb B (cds B (dpo B s n))).toNat = iI (tgt (cV B) (dpo B s n)) := by rw [gI_A, ((gS g fg).at ho pt.1.1 pt.1.2).2]
        have d0 := dS_pos ho p0 pt.1.2 pt.2.1
        have nob : ¬ ∀ t w, 0 ≤ t ∧ t < B.t → 0 ≤ w ∧ w < B.w → ¬ Gd B (cV B) (dpo B s n) t w := fun no => by
          obtain ⟨b1, b2, b3, b4, b5⟩ := btI_spec ho p0 pt.1.2 pt.2.1
          refine no _ _ b1 b2 ((gd_iff ho b1 p0 pt.1.2 pt.2.1).2 ?_)
          rw [← b3]
          exact ⟨b4, b5⟩
        have go : ∀ t w, 0 ≤ t ∧ t < B.t → 0 ≤ w ∧ w < B.w → btI B (dpo B s n) = 6 * t + w → XW (d + 6) 29 86 [.ref 107, .int (iI (nmb B (cds B (dpo B s n)))), .int (iI n), X3] [.int (iI (10 * t + w))] g (KV KU) := by
          intro t w ht hw eb
          have ebs : bst B (dpo B s n) = 10 * t + w := by unfold bst; rw [eb]; omega
          have F4 : Fr (PPn a1) g (sI (sI g (a1 + 4) (n : Int).toNat (iI (10 * t + w))) 107 12 (iI ((n : Int) + 1))) := ((Fr.refl _ _).sI (a1 + 4) _ _ (by simp [pO, pA])).sI 107 12 _ (by simp [pO, pF])
          have f4 := fg.trans F4
          have v104 : gI (sI g (a1 + 4) (n : Int).toNat (iI (10 * t + w))) 107 12 = iI n := by rw [sI_other _ (by omega)]; exact e12
          have no4 : ∀ k : Int, 0 ≤ k → k < B.w → zA (sI (sI g (a1 + 4) (n : Int).toNat (iI (10 * t + w))) 107 12 (iI ((n : Int) + 1))) 109 k = vs (dpo B s n) k := fun k a b => by rw [zA_o _ (by omega), zA_o _ (by omega)]; exact hno k a b
          have pa4 : ∀ i : Nat, i < n + 1 → zA (sI (sI g (a1 + 4) (n : Int).toNat (iI (10 * t + w))) 107 12 (iI ((n : Int) + 1))) (a1 + 4) i = bst B (dpo B s i) := fun i hi => by
            rw [zA_o _ (by omega), zA_s (by omega) (by omega) (by omega)]
            by_cases e : (i : Int) = n
            · rw [if_pos e, show i = n by omega, ebs]
            · rw [if_neg e]; exact hpa i (by omega)
          have z4' : zF (sI (sI g (a1 + 4) (n : Int).toNat (iI (10 * t + w))) 107 12 (iI ((n : Int) + 1))) 107 10 = 1 := by rw [zF_o (by omega), zF_o (by omega)]; exact z10
          have e4' : gI (sI (sI g (a1 + 4) (n : Int).toNat (iI (10 * t + w))) 107 12 (iI ((n : Int) + 1))) 107 12 = iI ((n : Int) + 1) := by rw [sI_here, if_pos rfl]
          have rest : ∀ g4 : XH, Fr (PPn a1) h2 g4 → zF g4 107 10 = 1 → gI g4 107 12 = iI ((n : Int) + 1) → (∀ i : Nat, i < n + 1 → zA g4 (a1 + 4) i = bst B (dpo B s i)) → (∀ k : Int, 0 ≤ k → k < B.w → zA g4 109 k = vs (dpo B s n) k) → XW (d + 6) 29 112 [.ref 107, .int (iI (nmb B (cds B (dpo B s n)))), .int (iI n), .int (iI (10 * t + w))] [] g4 (KV KU) := by
            intro g4 f4 z4 e4 p4 n4
            have hL := f4.lay L2
            have hD := (gS g4 f4).1
            have vv : ∀ k : Int, 0 ≤ k → k < B.w → 0 ≤ zA g4 109 k ∧ zA g4 109 k ≤ 4 := fun k a b => by rw [n4 k a b]; exact vs_in _ _
            have fin : ∀ g5 : XH, Fr (pA [109]) g4 g5 → (∀ k, 0 ≤ k → k < B.w → zA g5 109 k = mvd (B.ea t) (B.on t) (zA g4 109) w k) → XW (d + 6) 29 128 [.ref 107, .int (iI (nmb B (cds B (dpo B s n)))), .int (iI n), .int (iI (10 * t + w))] [] g5 (KV KU) := by
              intro g5 f5 w1
              have F5 : Fr (PPn a1) g4 g5 := f5.mono (fun a j q => by simp [pO, pA, pF] at q ⊢; omega)
              have f5' := f4.trans F5
              have hL := f5'.lay L2
              have hD := (gS g5 f5').1
              have n5 : ∀ k : Int, 0 ≤ k → k < B.w → zA g5 109 k = vs (dpo B s (n + 1)) k := fun k a b => by
                rw [w1 k a b]
                show _ = vs (dnx B (dpo B s n) (btI B (dpo B s n))) k
                rw [eb, dnx_tw ho hw, s5_dig (fun k _ _ => mvd_in _ _ _ _ k) k a (by omega)]
                unfold mvd
                rw [n4 k a b]
              have v5 : ∀ k : Int, 0 ≤ k → k < B.w → 0 ≤ zA g5 109 k ∧ zA g5 109 k ≤ 4 := fun k a b => by rw [n5 k a b]; exact vs_in _ _
              have ec : cde (zA g5 109) B.w.toNat = cds B (dpo B s (n + 1)) := sumTo_congr (fun k a b => by rw [n5 k a (by omega)])
              have ci := cds_in (B := B) (s := dpo B s (n + 1)) ho
              have pt1 := dpo_at ho hs.1 hs.2 fi (n + 1) (by omega)
              have v140 : gI g5 a1 (cds B (dpo B s (n + 1))).toNat = iI (nmb B (cds B (dpo B s (n + 1)))) := by rw [gI_A, ((gS g5 f5').at ho pt1.1.1 pt1.1.2).1]
              have J := ih g5 (.int (iI (10 * t + w))) f5' (by rw [f5.F (by simp [pA])]; exact z4) (by rw [(f5.2 107 12 (by simp [pA])).1]; exact e4) (fun i hi => by rw [f5.A (by simp [pA]; omega)]; exact p4 i hi) n5
              refine w_aload0 r_29_128 ?_
              refine w_getA (x := a1) r_29_129 (Lk_107 hL) hD.1.1 hD.z0 ?_
              refine w_aload0 r_29_132 ?_
              refine w_aload0 r_29_133 ?_
              refine w_getA (x := 109) r_29_134 (Lk_107 hL) (Lr_107_2 hL) (by decide) ?_
              refine k_28 r_29_137 (Lk_107 hL) (Nat.le_of_ble_eq_true rfl) ?_
              refine c_codeOf hL (gU' g5 f5') hb ((f5'.R 107 0).trans r2) (gC g5 f5') ho (Or.inr rfl) v5 ?_
              rw [ec]
              refine v_iald r_29_140 hD.2.1.1 hD.2.2.1.1 (by decide) (by omega) v140 ?_
              refine w_istore1 r_29_141 rfl ?_
              refine w_iinc2 r_29_142 rfl (iI_add _ _) ?_
              refine w_goto r_29_145 ?_
              exact J
            refine w_aload0 r_29_112 ?_
            refine w_aload0 r_29_113 ?_
            refine w_getA (x := 109) r_29_114 (Lk_107 hL) (Lr_107_2 hL) (by decide) ?_
            refine w_iload3 r_29_117 ?_
            refine w_bipush (v := iI (10)) r_29_118 rfl ?_
            refine v_idivN r_29_120 (by first | exact zF_in _ _ _ | exact zA_in _ _ _ | omega) (by omega) ?_
            refine w_iload3 r_29_121 ?_
            refine w_bipush (v := iI (10)) r_29_122 rfl ?_
            refine v_iremN r_29_124 (by first | exact zF_in _ _ _ | exact zA_in _ _ _ | omega) (by omega) ?_
            rw [show (10 * t + w) / 10 = t by omega, show (10 * t + w) % 10 = w by omega]
            refine k_24 r_29_125 (Lk_107 hL) (Nat.le_of_ble_eq_true rfl) ?_
            refine c_move hL hb ((f4.R 107 0).trans r2) (gC g4 f4) ho (Or.inr rfl) ht hw vv (fun g5 f5 w1 _ => ?_)
            exact fin g5 f5 w1
          have R4 := rest _ f4 z4' e4' pa4 no4
          refine w_istore3 r_29_86 rfl ?_
          refine w_iload3 r_29_87 ?_
          refine v_if_ge r_29_88 (by first | exact zF_in _ _ _ | exact zA_in _ _ _ | omega) (fun _ => ?_) (fun q => absurd q (by omega))
          refine w_aload0 r_29_92 ?_
          refine w_getA (x := a1 + 4) r_29_93 (Lk_107 hL) hD.1.2.2.2.2 (by omega) ?_
          refine w_aload0 r_29_96 ?_
          refine v_getI r_29_97 (Lk_107 hL) e12 ?_
          refine w_iload3 r_29_100 ?_
          refine v_iast r_29_101 hD.2.1.2.2.2.2 hD.2.2.2.2 hD.2.2.1.2.2.2.2 (by decide) (by omega) ?_
          refine w_aload0 r_29_102 ?_
          refine w_dupA r_29_103 ?_
          refine v_getI r_29_104 (Lk_107 hL) v104 ?_
          refine w_iconst (v := iI (1)) r_29_107 rfl ?_
          refine v_iadd r_29_108 ?_
          refine w_putI r_29_109 (Lk_107 hL) (Ln_107 hL) ?_
          exact R4
        refine w_iload2 r_29_65 ?_
        refine w_sipush (v := iI (210)) r_29_66 rfl ?_
        refine v_ic_ge r_29_69 (by first | exact zF_in _ _ _ | exact zA_in _ _ _ | omega) (by first | exact zF_in _ _ _ | exact zA_in _ _ _ | omega) (fun q => absurd q (by omega)) (fun _ => ?_)
        refine w_aload0 r_29_72 ?_
        refine w_getA (x := a1 + 3) r_29_73 (Lk_107 hL) hD.1.2.2.2.1 (by omega) ?_
        refine w_iload1 r_29_76 ?_
        refine v_iald r_29_77 hD.2.1.2.2.2.1 hD.2.2.1.2.2.2.1 (by decide) (by omega) v77 ?_
        refine v_if_le r_29_78 (by first | exact zF_in _ _ _ | exact zA_in _ _ _ | omega) (fun q => absurd q (by omega)) (fun _ => ?_)
        refine w_aload0 r_29_81 ?_
        refine w_iload1 r_29_82 ?_
        refine k_30 r_29_83 (Lk_107 hL) (Nat.le_of_ble_eq_true rfl) ?_
        refine c_leastMove hL hb rg Cg ho hD (gS g fg).2.2.1 (gS g fg).2.2.2 (cV_sol ho) pt.1 rfl hno (fun t w ht hw g1 mn => ?_) (fun no => absurd no nob)
        exact go t w ht hw (best_of ho p0 pt.1.2 pt.2.1 ht hw ((gd_iff ho ht p0 pt.1.2 pt.2.1).1 g1) (fun t' w' a b c q => mn t' w' a b c ((gd_iff ho a p0 pt.1.2 pt.2.1).2 q)))
    have start : ∀ g : XH, Fr (PPn a1) h2 g → zF g 107 10 = 1 → gI g 107 12 = iI (0 : Nat) → (∀ k : Int, 0 ≤ k → k < B.w → zA g 109 k = vs s k) → XW (d + 6) 29 37 [.ref 107, .null, .null, .null] [] g (KV KU) := by
      intro g fg z10 e12 hno
      have hL := fg.lay L2
      have hD := (gS g fg).1
      have v5 : ∀ k : Int, 0 ≤ k → k < B.w → 0 ≤ zA g 109 k ∧ zA g 109 k ≤ 4 := fun k a b => by rw [hno k a b]; exact vs_in _ _
      have ec : cde (zA g 109) B.w.toNat = cds B s := sumTo_congr (fun k a b => by rw [hno k a (by omega)])
      have ci := cds_in (B := B) (s := s) ho
      have at2 := (gS g fg).at ho hs.1 hs.2
      have nj := nmb_in (x := cds B s) ho ci
      have nj2 := nj.2.2 (vld_cds ho)
      have ts := tgt_in (cV_sol ho) ho hs.1 hs.2
      have tc := tgt_cV ho hs.1 hs.2
      have v49 : gI g a1 (cds B s).toNat = iI (nmb B (cds B s)) := by rw [gI_A, at2.1]
      have v56 : gI g (a1 + 3) (nmb B (cds B s)).toNat = iI (tgt (cV B) s) := by rw [gI_A, at2.2]
      by_cases f : dS B s < 1000000000000000
      · have sm := dS_small ho hs.1 hs.2 f
        have i := dS_in (B := B) hs.1 hs.2
        rw [if_pos f] at tc
        have J := key f 0 (by omega) g .null fg z10 e12 (fun i hi => by omega) hno
        refine w_aload0 r_29_37 ?_
        refine w_getA (x := a1) r_29_38 (Lk_107 hL) hD.1.1 hD.z0 ?_
        refine w_aload0 r_29_41 ?_
        refine w_aload0 r_29_42 ?_
        refine w_getA (x := 109) r_29_43 (Lk_107 hL) (Lr_107_2 hL) (by decide) ?_
        refine k_28 r_29_46 (Lk_107 hL) (Nat.le_of_ble_eq_true rfl) ?_
        refine c_codeOf hL (gU' g fg) hb ((fg.R 107 0).trans r2) (gC g fg) ho (Or.inr rfl) v5 ?_
        rw [ec]
        refine v_iald r_29_49 hD.2.1.1 hD.2.2.1.1 (by decide) (by omega) v49 ?_
        refine w_istore1 r_29_50 rfl ?_
        refine w_aload0 r_29_51 ?_
        refine w_getA (x := a1 + 3) r_29_52 (Lk_107 hL) hD.1.2.2.2.1 (by omega) ?_
        refine w_iload1 r_29_55 ?_
        refine v_iald r_29_56 hD.2.1.2.2.2.1 hD.2.2.1.2.2.2.1 (by decide) (by omega) v56 ?_
        refine w_ldcI (v := iI 536870912) r_29_57 rfl ?_
        refine v_ic_lt r_29_59 (by first | exact zF_in _ _ _ | exact zA_in _ _ _ | omega) (by first | exact zF_in _ _ _ | exact zA_in _ _ _ | omega) (fun _ => ?_) (fun q => absurd q (by omega))
        refine w_iconst (v := iI (0)) r_29_63 rfl ?_
        refine w_istore2 r_29_64 rfl ?_
        exact J
      · rw [if_neg f] at tc
        have z12 : zF g 107 12 = 0 := by unfold zF; rw [e12]; decide
        have fin := K2 g fg z10 ⟨by rw [z12, if_neg f], fun i hi => by omega⟩
        refine w_aload0 r_29_37 ?_
        refine w_getA (x := a1) r_29_38 (Lk_107 hL) hD.1.1 hD.z0 ?_
        refine w_aload0 r_29_41 ?_
        refine w_aload0 r_29_42 ?_
        refine w_getA (x := 109) r_29_43 (Lk_107 hL) (Lr_107_2 hL) (by decide) ?_
        refine k_28 r_29_46 (Lk_107 hL) (Nat.le_of_ble_eq_true rfl) ?_
        refine c_codeOf hL (gU' g fg) hb ((fg.R 107 0).trans r2) (gC g fg) ho (Or.inr rfl) v5 ?_
        rw [ec]
        refine v_iald r_29_49 hD.2.1.1 hD.2.2.1.1 (by decide) (by omega) v49 ?_
        refine w_istore1 r_29_50 rfl ?_
        refine w_aload0 r_29_51 ?_
        refine w_getA (x := a1 + 3) r_29_52 (Lk_107 hL) hD.1.2.2.2.1 (by omega) ?_
        refine w_iload1 r_29_55 ?_
        refine v_iald r_29_56 hD.2.1.2.2.2.1 hD.2.2.1.2.2.2.1 (by decide) (by omega) v56 ?_
        refine w_ldcI (v := iI 536870912) r_29_57 rfl ?_
        refine v_ic_lt r_29_59 (by first | exact zF_in _ _ _ | exact zA_in _ _ _ | omega) (by first | exact zF_in _ _ _ | exact zA_in _ _ _ | omega) (fun q => absurd q (by omega)) (fun _ => ?_)
        refine w_vret r_29_62 ?_
        exact fin
    have F3 : Fr (PPn a1) h2 (xcpy (sI (sI h2 107 10 (iI 1)) 107 12 (iI 0)) 108 109 0 0 6) := (((Fr.refl _ _).sI 107 10 _ (by simp [pO, pF])).sI 107 12 _ (by simp [pO, pF])).trans ((Fr.cpy _ 108 109 0 0 6).mono (fun a j q => by simp [pO, pA, pF] at q ⊢; omega))
    have q1 : zF (xcpy (sI (sI h2 107 10 (iI 1)) 107 12 (iI 0)) 108 109 0 0 6) 107 10 = 1 := by
      rw [(Fr.cpy _ 108 109 0 0 6).F (by simp [pA]), zF_o (by omega), zF_s (by omega)]
    have q2 : gI (xcpy (sI (sI h2 107 10 (iI 1)) 107 12 (iI 0)) 108 109 0 0 6) 107 12 = iI (0 : Nat) := by
      rw [((Fr.cpy _ 108 109 0 0 6).2 107 12 (by simp [pA])).1, sI_here, if_pos rfl]; rfl
    have q3 : ∀ k : Int, 0 ≤ k → k < B.w → zA (xcpy (sI (sI h2 107 10 (iI 1)) 107 12 (iI 0)) 108 109 0 0 6) 109 k = vs s k := fun k a b => by
      rw [zA_cpy a (by omega), zA_o _ (by omega), zA_o _ (by omega), e109, sd k a b]
    have S3 := start _ F3 q1 q2 q3
    have hL := L2
    refine w_aload0 r_29_12 ?_
    refine w_iconst (v := iI (1)) r_29_13 rfl ?_
    refine w_putZ r_29_14 (Lk_107 hL) (Ln_107 hL) (by decide) ?_
    refine w_aload0 r_29_17 ?_
    refine w_iconst (v := iI (0)) r_29_18 rfl ?_
    refine w_putI r_29_19 (Lk_107 hL) (Ln_107 hL) ?_
    refine w_aload0 r_29_22 ?_
    refine w_getA (x := 108) r_29_23 (Lk_107 hL) (Lr_107_1 hL) (by decide) ?_
    refine w_iconst (v := iI (0)) r_29_26 rfl ?_
    refine w_aload0 r_29_27 ?_
    refine w_getA (x := 109) r_29_28 (Lk_107 hL) (Lr_107_2 hL) (by decide) ?_
    refine w_iconst (v := iI (0)) r_29_31 rfl ?_
    refine w_bipush (v := iI (6)) r_29_32 rfl ?_
    refine w_copy r_29_34 ⟨by decide, Lk_108 hL, Ln_108 hL, Lk_109 hL, Ln_109 hL, by decide, by decide, by decide, by (show _ ≤ gZ h2 108); rw [Lz_108 hL]; decide, by (show _ ≤ gZ h2 109); rw [Lz_109 hL]; decide, by decide⟩ ?_
    exact S3
  · have v1 : gI h 107 10 = iI 1 := by rw [gI_F, h10]
    have hS : SvD B (cV B) h a0 := by
      rcases hG with ⟨_, e, _⟩ | ⟨_, e | ⟨_, e⟩⟩
      · omega
      · omega
      · exact e
    refine w_aload0 r_29_0 ?_
    refine v_getI r_29_1 (Lk_107 hL) v1 ?_
    refine v_if_eq r_29_4 (by omega) (fun q => absurd q (by omega)) (fun _ => ?_)
    refine w_vret r_29_7 ?_
    exact kk h a0 (Ch.refl _ _ _) hL h4 h10 hS hp (Or.inl ⟨rfl, rfl, rfl⟩)
theorem c_moveAt {i : Int} (hi : 0 ≤ i ∧ i ≤ 2147483647) (hL : Lay h) (hU : Unt h) (hb : rb = 6 ∨ rb = 20) (hr : gR h 107 0 = rb) (hC : CBk h rb B) (ho : B.ok) (hG : CDg h B a0) (hN : gN h < 899000) (hv : ∀ k : Int, 0 ≤ k → k < B.w → 0 ≤ zA h 108 k ∧ zA h 108 k ≤ 4) (h10 : zF h 107 10 = 0 ∨ zF h 107 10 = 1 ∧ zF h 107 4 = 1 ∧ Pth h B a0 (s5 (zA h 108) B.w.toNat)) (kk : ∀ h' a1, Ch (PPl a1) qV h h' → Lay h' → zF h' 107 4 = 1 → zF h' 107 10 = 1 → SvD B (cV B) h' a1 → Pth h' B a1 (s5 (zA h 108) B.w.toNat) → Gw h h' a0 a1 → K (iI (tryR B (s5 (zA h 108) B.w.toNat) i)) h') : XW (d + 7) 27 0 [.ref 107, .int (iI i)] [] h (KI K) := by
  have hs := s5_ok ho hv
  refine w_aload0 r_27_0 ?_
  refine k_29 r_27_1 (Lk_107 hL) (Nat.le_of_ble_eq_true rfl) ?_
  refine c_plot hL hU hb hr hC ho hG hN hv h10 (fun h2 a1 c2 L2 z4 z10 S2 p2 g2 => ?_)
  have K2 := kk h2 a1 c2 L2 z4 z10 S2 p2 g2
  generalize s5 (zA h 108) B.w.toNat = s at hs p2 K2
  have hL := L2
  have hD := S2.1
  have a156 := hD.2.2.2.1
  have p1 := p2.1
  have v10 : gI h2 107 12 = iI (if dS B s < 1000000000000000 then dS B s % 10000 else 0) := by rw [gI_F, p1]
  by_cases f : dS B s < 1000000000000000
  · have sm := dS_small ho hs.1 hs.2 f
    rw [if_pos f] at p1 v10
    by_cases q : i < dS B s % 10000
    · have v21 : gI h2 (a1 + 4) i.toNat = iI (tryR B s i) := by
        have e := p2.2 i.toNat (by omega)
        rw [show ((i.toNat : Nat) : Int) = i by omega] at e
        rw [gI_A, e]; unfold tryR; rw [if_pos ⟨f, q⟩]
      refine w_iload1 r_27_4 ?_
      refine v_if_lt r_27_5 (by first | exact zF_in _ _ _ | exact zA_in _ _ _ | omega) (fun q => absurd q (by omega)) (fun _ => ?_)
      refine w_iload1 r_27_8 ?_
      refine w_aload0 r_27_9 ?_
      refine v_getI r_27_10 (Lk_107 hL) v10 ?_
      refine v_ic_ge r_27_13 (by first | exact zF_in _ _ _ | exact zA_in _ _ _ | omega) (by first | exact zF_in _ _ _ | exact zA_in _ _ _ | omega) (fun q => absurd q (by omega)) (fun _ => ?_)
      refine w_aload0 r_27_16 ?_
      refine w_getA (x := a1 + 4) r_27_17 (Lk_107 hL) hD.1.2.2.2.2 (by omega) ?_
      refine w_iload1 r_27_20 ?_
      refine v_iald r_27_21 hD.2.1.2.2.2.2 hD.2.2.1.2.2.2.2 (by decide) (by omega) v21 ?_
      refine w_goto r_27_22 ?_
      refine w_iret r_27_27 ?_
      exact K2
    · unfold tryR at K2
      rw [if_neg (fun z => q z.2)] at K2
      refine w_iload1 r_27_4 ?_
      refine v_if_lt r_27_5 (by first | exact zF_in _ _ _ | exact zA_in _ _ _ | omega) (fun q => absurd q (by omega)) (fun _ => ?_)
      refine w_iload1 r_27_8 ?_
      refine w_aload0 r_27_9 ?_
      refine v_getI r_27_10 (Lk_107 hL) v10 ?_
      refine v_ic_ge r_27_13 (by first | exact zF_in _ _ _ | exact zA_in _ _ _ | omega) (by first | exact zF_in _ _ _ | exact zA_in _ _ _ | omega) (fun _ => ?_) (fun q => absurd q (by omega))
      refine w_bipush (v := iI (-2)) r_27_25 rfl ?_
      refine w_iret r_27_27 ?_
      exact K2
  · rw [if_neg f] at p1 v10
    unfold tryR at K2
    rw [if_neg (fun z => f z.1)] at K2
    refine w_iload1 r_27_4 ?_
    refine v_if_lt r_27_5 (by first | exact zF_in _ _ _ | exact zA_in _ _ _ | omega) (fun q => absurd q (by omega)) (fun _ => ?_)
    refine w_iload1 r_27_8 ?_
    refine w_aload0 r_27_9 ?_
    refine v_getI r_27_10 (Lk_107 hL) v10 ?_
    refine v_ic_ge r_27_13 (by first | exact zF_in _ _ _ | exact zA_in _ _ _ | omega) (by first | exact zF_in _ _ _ | exact zA_in _ _ _ | omega) (fun _ => ?_) (fun q => absurd q (by omega))
    refine w_bipush (v := iI (-2)) r_27_25 rfl ?_
    refine w_iret r_27_27 ?_
    exact K2
end CP2
