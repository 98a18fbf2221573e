/-! calls: regret, count, the Model -/
section OPG
variable {d : Nat} {h h' h1 : XH} {K : Int32 → XH → Prop} {KU : XH → Prop} {B : XB} {dd : Int} {M : XM} {c go e t x : Int} {z bm : Bool}
theorem CanB.ful {t : Int} (hm : M.ok B.g) (ht : 0 ≤ t) : CanB M (ful M t) 5 := fun e a b => by
  have f := ful_in hm ht
  have s := CanB.sta hm e a b
  refine ⟨fun q => ⟨(f.1.2 e a (by omega)).1 q, fun z => ?_⟩, fun q => (f.1.2 e a (by omega)).2 q⟩
  rw [f.2.2 e a q z]
  exact (s.1 q).2 z
abbrev PRg : Nat → Nat → Bool := pO (pA [143, 150, 153]) (pF [(118, 55)])
theorem m_regret (hc : R32 c) (hgo : R32 go) (hL : Lay h) (hX : MX h B dd M) (hS : 0 < M.n → MSl h B dd M) (hp : 0 ≤ zF h 118 55 ∧ zF h 118 55 ≤ 601)
    (k1 : ¬ ((0 ≤ c ∧ c < M.n) ∧ 0 ≤ go ∧ go < M.n) → K (iI (-1)) (sI (hG h) 118 39 (iI 1)))
    (k6 : (0 ≤ c ∧ c < M.n) ∧ 0 ≤ go ∧ go < M.n → ¬ Vl (xp B dd M go false) (sta M) c < 1000000000000000 → ∀ h', SvI (hG h) h' B dd M go false 0 → K (iI (-1)) (sI h' 118 39 (iI 6)))
    (kt : (0 ≤ c ∧ c < M.n) ∧ 0 ≤ go ∧ go < M.n → Vl (xp B dd M go false) (sta M) c < 1000000000000000 → ∀ h2 h', SvI (hG h) h2 B dd M go false 0 → Fr PRg h2 h' → MSd h' B dd M go false → zF h' 118 55 = zF h 118 55 → (∀ i : Int, 0 ≤ i → i < zF h 118 55 → zA h' 143 i = zA h 143 i) → K (iI (maxTo (rgt B dd M go c) (trm M).toNat)) h') :
    XW (d + 7) 243 0 [.ref 118, .int (iI c), .int (iI go), .null, .null, .null, .null] [] h (KI K) := by
  have ew := hX.n
  obtain ⟨hM, hQ, hP, hdd, hv⟩ := hX
  have main : (0 ≤ c ∧ c < M.n) ∧ 0 ≤ go ∧ go < M.n → XW (d + 7) 243 26 [.ref 118, .int (iI c), .int (iI go), .null, .null, .null, .null] [] (hG h) (KI K) := by
    intro cd
    obtain ⟨h12, ho, hm, hd⟩ := hv (by omega)
    have hS := hG_MSl (hS (by omega))
    have kt := kt cd
    have k6 := k6 cd
    have tr := trm_in hm
    have hL := (hG_fr h).lay hL
    have Q1 := hG_MBk hQ
    have P1 := hG_MMp hP
    have d1 : gI (hG h) 118 38 = iI dd := by rw [((hG_fr h).2 118 38 (by simp [pF])).1]; exact hdd
    have z55 : zF (hG h) 118 55 = zF h 118 55 := (hG_fr h).F (by simp [pF])
    have z144 : ∀ i, zA (hG h) 143 i = zA h 143 i := fun i => (hG_fr h).A (by simp [pF])
    have vi := vl_in (bm := false) ho hm hd cd.2 cd.1
    generalize hG h = h1 at *
    have fin : ∀ h2, SvI h1 h2 B dd M go false 0 → XW (d + 7) 243 33 [.ref 118, .int (iI c), .int (iI go), .null, .null, .null, .null] [.long (iL (frV (Vl (xp B dd M go false) (sta M) c)))] h2 (KI K) := by
      intro h2 I
      have hL2 := I.1.lay hL
      have P2 : MMp h2 M := P1.fr I.1 (fun a j p q => by simp [pO, pA, pF]; omega) (fun j p q => by simp [pO, pA, pF]; omega)
      unfold frV
      by_cases q : Vl (xp B dd M go false) (sta M) c < 1000000000000000
      · have kt := fun h' => kt q h2 h' I
        have y55 : zF h2 118 55 = zF h 118 55 := by rw [I.1.F (by simp [pO, pA, pF])]; exact z55
        have y144 : ∀ i, zA h2 143 i = zA h 143 i := fun i => by rw [I.1.A (by simp [pO, pA, pF])]; exact z144 i
        have s2 : MSd h2 B dd M go false := ⟨I.2.1, I.2.2.1, I.2.2.2.1, I.2.2.2.2.1⟩
        generalize zF h 118 55 = hd55 at *
        have l3 : ∀ (mm : Int) (n : Nat), n ≤ hd55.toNat → ∀ (g : XH) (X6 : Value), Fr PRg h2 g → MSd g B dd M go false → zF g 118 55 = hd55 → (∀ i : Int, 0 ≤ i → i < hd55 → zA g 153 i = zA h 143 i) → (∀ i : Int, 0 ≤ i → i < n → zA g 143 i = zA h 143 i) → (∀ h', Fr PRg h2 h' → MSd h' B dd M go false → zF h' 118 55 = hd55 → (∀ i : Int, 0 ≤ i → i < hd55 → zA h' 143 i = zA h 143 i) → K (iI mm) h') → XW (d + 7) 243 151 [.ref 118, .int (iI c), .int (iI go), .int (iI hd55), .int (iI mm), .int (iI n), X6] [] g (KI K) := by
          intro mm
          refine upto _ ?_ ?_
          · intro g X6 fg sg zg og pg kk
            have hL := fg.lay hL2
            have R := kk g fg sg zg (fun i a b => pg i a (by omega))
            refine w_iload5 r_243_151 ?_
            refine w_iload3 r_243_153 ?_
            refine v_ic_ge r_243_154 (by first | exact zF_in _ _ _ | exact zA_in _ _ _ | omega) (by first | exact zF_in _ _ _ | exact zA_in _ _ _ | omega) (fun _ => ?_) (fun q => absurd q (by omega))
            refine w_iload4 r_243_177 ?_
            refine w_iret r_243_179 ?_
            exact R
          · intro n hn ih g X6 fg sg zg og pg kk
            have hL := fg.lay hL2
            have F : Fr (pA [143]) g (sI g 143 n (gI g 153 n)) := (Fr.refl _ _).sI 143 n _ (by simp [pA])
            have J := ih (sI g 143 n (gI g 153 n)) X6 (fg.trans (F.mono (fun a j p => by simp only [pO, Bool.or_eq_false_iff] at p ⊢; simp [pA] at p ⊢; omega))) (sg.fr F (fun j => by simp [pA]) (fun j => by simp [pA]) (by simp [pA])) (by rw [F.F (by simp [pA])]; exact zg) (fun i a b => by rw [F.A (by simp [pA])]; exact og i a b) (fun i a b => by
              by_cases w : i = n
              · rw [w]
                have : zA (sI g 143 n (gI g 153 n)) 143 n = zA g 153 n := by
                  unfold zA; rw [sI_here, if_pos (by omega), Int.toNat_natCast]
                rw [this]; exact og n (by omega) (by omega)
              · have : zA (sI g 143 n (gI g 153 n)) 143 i = zA g 143 i := by
                  unfold zA; rw [sI_here, if_neg (by omega)]
                rw [this]; exact pg i a (by omega)) kk
            rw [Int.natCast_add, Int.natCast_one] at J
            refine w_iload5 r_243_151 ?_
            refine w_iload3 r_243_153 ?_
            refine v_ic_ge r_243_154 (by first | exact zF_in _ _ _ | exact zA_in _ _ _ | omega) (by first | exact zF_in _ _ _ | exact zA_in _ _ _ | omega) (fun q => absurd q (by omega)) (fun _ => ?_)
            refine w_aload0 r_243_157 ?_
            refine w_getA (x := 143) r_243_158 (Lk_118 hL) (Lr_118_54 hL) (by decide) ?_
            refine w_iload5 r_243_161 ?_
            refine w_aload0 r_243_163 ?_
            refine w_getA (x := 153) r_243_164 (Lk_118 hL) (Lr_118_74 hL) (by decide) ?_
            refine w_iload5 r_243_167 ?_
            refine v_iald r_243_169 (Lk_153 hL) (Lz_153 hL) (by decide) (by omega) (by rw [Int.toNat_natCast]) ?_
            refine v_iast r_243_170 (Lk_143 hL) (Ln_143 hL) (Lz_143 hL) (by decide) (by omega) ?_
            refine w_iinc5 r_243_171 rfl (iI_add _ _) ?_
            refine w_goto r_243_174 ?_
            exact J
        have l2 : ∀ n : Nat, n ≤ (trm M).toNat → ∀ (g : XH) (X6 : Value), Fr PRg h2 g → MSd g B dd M go false → (∀ i : Int, 0 ≤ i → i < hd55 → zA g 153 i = zA h 143 i) → XW (d + 7) 243 85 [.ref 118, .int (iI c), .int (iI go), .int (iI hd55), .int (iI (maxTo (rgt B dd M go c) n)), .int (iI n), X6] [] g (KI K) := by
          refine upto _ ?_ ?_
          · intro g X6 fg sg og
            have hL := fg.lay hL2
            have Pg : MMp g M := P2.fr fg (fun a j p q => by simp [pO, pA, pF]; omega) (fun j p q => by simp [pO, pA, pF]; omega)
            have F : Fr (pF [(118, 55)]) g (sI g 118 55 (iI hd55)) := (Fr.refl _ _).sI 118 55 _ (by simp [pF])
            have J := l3 (maxTo (rgt B dd M go c) (trm M).toNat) 0 (by omega) (sI g 118 55 (iI hd55)) X6 (fg.trans (F.mono (fun a j p => by simp only [pO, Bool.or_eq_false_iff] at p ⊢; exact p.2))) (sg.fr F (fun j => by simp [pF]) (fun j => by simp [pF]) (by simp [pF])) (gF (by omega) (by rw [sI_here, if_pos rfl])) (fun i a b => by rw [F.A (by simp [pF])]; exact og i a b) (fun i a b => absurd b (by omega)) kt
            refine w_iload5 r_243_85 ?_
            refine w_aload0 r_243_87 ?_
            refine k_235 r_243_88 (Lk_118 hL) (Nat.le_of_ble_eq_true rfl) ?_
            refine m_truthM hL Pg hm sg.1.1 ?_
            refine v_ic_ge r_243_91 (by first | exact zF_in _ _ _ | exact zA_in _ _ _ | omega) (by first | exact zF_in _ _ _ | exact zA_in _ _ _ | omega) (fun _ => ?_) (fun q => absurd q (by omega))
            refine w_aload0 r_243_143 ?_
            refine w_iload3 r_243_144 ?_
            refine w_putI r_243_145 (Lk_118 hL) (Ln_118 hL) ?_
            refine w_iconst (v := iI (0)) r_243_148 rfl ?_
            refine w_istore5 r_243_149 rfl ?_
            exact J
          · intro n hn ih g X6 fg sg og
            have hL := fg.lay hL2
            have Pg : MMp g M := P2.fr fg (fun a j p q => by simp [pO, pA, pF]; omega) (fun j p q => by simp [pO, pA, pF]; omega)
            have n0 : (0 : Int) ≤ n := by omega
            have rg := rgt_in ho hd hm cd.2 cd.1 n0 q
            have mx := rgt_max ho hd hm cd.2 cd.1 q n
            have fs := (ful_in hm n0).1.1
            have hn100 := M.n_in hm
            have J8 : ∀ g1 (L : Nat), RnL B dd M go false n c L → Fr PGo g g1 → MSd g1 B dd M go false → XW (d + 7) 243 101 [.ref 118, .int (iI c), .int (iI go), .int (iI hd55), .int (iI (maxTo (rgt B dd M go c) n)), .int (iI n), X6] [.int (iI (pcst B dd M go false (ful M n) (sta M) c L))] g1 (KI K) := by
              intro g1 L rl f1 s1
              have hL := f1.lay hL
              have pb := rg.2.1 L rl.1
              have Pg1 : MMp g1 M := Pg.fr f1 (fun a j p q => by simp [pO, pA, pF]; omega) (fun j p q => by simp [pO, pA, pF]; omega)
              have F1 : Fr PRg h2 g1 := fg.trans (f1.mono (fun a j p => by simp only [pO, Bool.or_eq_false_iff] at p ⊢; refine ⟨?_, p.2⟩; have := p.1; simp [pA] at this ⊢; omega))
              have og1 : ∀ i : Int, 0 ≤ i → i < hd55 → zA g1 153 i = zA h 143 i := fun i a b => by rw [f1.A (by simp [pO, pA, pF])]; exact og i a b
              have vz : zL g1 140 (100 * ful M n + c) = Vl (xp B dd M go false) (ful M n) c := s1.2.1 (ful M n) fs.1 fs.1 fs.2 (CanB.ful hm n0) c cd.1.1 cd.1.2
              have v116 : gL g1 140 (100 * ful M n + c).toNat = iL (Vl (xp B dd M go false) (ful M n) c) := by rw [← vz]; exact (iL_of _).1
              have J := fun X6 => ih g1 X6 F1 s1 og1
              rw [show maxTo (rgt B dd M go c) (n + 1) = max (maxTo (rgt B dd M go c) n) (rgt B dd M go c n) from rfl, rg.2.2 L rl, Int.natCast_add, Int.natCast_one] at J
              generalize maxTo (rgt B dd M go c) n = mm at *
              generalize pcst B dd M go false (ful M n) (sta M) c L = pp at *
              generalize Vl (xp B dd M go false) (ful M n) c = vv at *
              by_cases w : mm < pp - vv
              · rw [show max mm (pp - vv) = pp - vv by omega] at J
                refine w_aload0 r_243_101 ?_
                refine w_getA (x := 140) r_243_102 (Lk_118 hL) (Lr_118_48 hL) (by decide) ?_
                refine w_bipush (v := iI (100)) r_243_105 rfl ?_
                refine w_aload0 r_243_107 ?_
                refine w_iload5 r_243_108 ?_
                refine k_237 r_243_110 (Lk_118 hL) (Nat.le_of_ble_eq_true rfl) ?_
                refine m_all (d := d + 4) hL Pg1 hm s1.1.1 (by omega) ?_
                refine v_imul r_243_113 ?_
                refine w_iload1 r_243_114 ?_
                refine v_iadd r_243_115 ?_
                refine v_lald r_243_116 (Lk_140 hL) (Lz_140 hL) (by decide) (by omega) v116 ?_
                refine v_l2i r_243_117 ?_
                refine v_isub r_243_118 ?_
                refine w_istore6 r_243_119 rfl ?_
                refine w_iload6 r_243_121 ?_
                refine w_iload4 r_243_123 ?_
                refine v_ic_le r_243_125 (by first | exact zF_in _ _ _ | exact zA_in _ _ _ | omega) (by first | exact zF_in _ _ _ | exact zA_in _ _ _ | omega) (fun q => absurd q (by omega)) (fun _ => ?_)
                refine w_iload6 r_243_128 ?_
                refine w_goto r_243_130 ?_
                refine w_istore4 r_243_135 rfl ?_
                refine w_iinc5 r_243_137 rfl (iI_add _ _) ?_
                refine w_goto r_243_140 ?_
                exact J _
              · rw [show max mm (pp - vv) = mm by omega] at J
                refine w_aload0 r_243_101 ?_
                refine w_getA (x := 140) r_243_102 (Lk_118 hL) (Lr_118_48 hL) (by decide) ?_
                refine w_bipush (v := iI (100)) r_243_105 rfl ?_
                refine w_aload0 r_243_107 ?_
                refine w_iload5 r_243_108 ?_
                refine k_237 r_243_110 (Lk_118 hL) (Nat.le_of_ble_eq_true rfl) ?_
                refine m_all (d := d + 4) hL Pg1 hm s1.1.1 (by omega) ?_
                refine v_imul r_243_113 ?_
                refine w_iload1 r_243_114 ?_
                refine v_iadd r_243_115 ?_
                refine v_lald r_243_116 (Lk_140 hL) (Lz_140 hL) (by decide) (by omega) v116 ?_
                refine v_l2i r_243_117 ?_
                refine v_isub r_243_118 ?_
                refine w_istore6 r_243_119 rfl ?_
                refine w_iload6 r_243_121 ?_
                refine w_iload4 r_243_123 ?_
                refine v_ic_le r_243_125 (by first | exact zF_in _ _ _ | exact zA_in _ _ _ | omega) (by first | exact zF_in _ _ _ | exact zA_in _ _ _ | omega) (fun _ => ?_) (fun q => absurd q (by omega))
                refine w_iload4 r_243_133 ?_
                refine w_istore4 r_243_135 rfl ?_
                refine w_iinc5 r_243_137 rfl (iI_add _ _) ?_
                refine w_goto r_243_140 ?_
                exact J _
            refine w_iload5 r_243_85 ?_
            refine w_aload0 r_243_87 ?_
            refine k_235 r_243_88 (Lk_118 hL) (Nat.le_of_ble_eq_true rfl) ?_
            refine m_truthM hL Pg hm sg.1.1 ?_
            refine v_ic_ge r_243_91 (by first | exact zF_in _ _ _ | exact zA_in _ _ _ | omega) (by first | exact zF_in _ _ _ | exact zA_in _ _ _ | omega) (fun q => absurd q (by omega)) (fun _ => ?_)
            refine w_aload0 r_243_94 ?_
            refine w_iload1 r_243_95 ?_
            refine w_iload5 r_243_96 ?_
            refine k_240 r_243_98 (Lk_118 hL) (Nat.le_of_ble_eq_true rfl) ?_
            refine m_goes (d := d + 2) hL ho hd Pg hm cd.2 sg (by omega) cd.1 q (fun g1 L l6 pl pn f1 s1 _ _ => ?_)
            exact J8 g1 L ⟨l6, pl, pn⟩ f1 s1
        have l1 : ∀ n : Nat, n ≤ hd55.toNat → ∀ (g : XH), Fr (pA [153]) h2 g → (∀ i : Int, 0 ≤ i → i < n → zA g 153 i = zA h 143 i) → XW (d + 7) 243 53 [.ref 118, .int (iI c), .int (iI go), .int (iI hd55), .int (iI n), .null, .null] [] g (KI K) := by
          refine upto _ ?_ ?_
          · intro g fg og
            have hL := fg.lay hL2
            have J := l2 0 (by omega) g .null (fg.mono (fun a j p => by simp only [pO, Bool.or_eq_false_iff] at p; have := p.1; simp [pA] at this ⊢; omega)) (s2.fr fg (fun j => by simp [pA]) (fun j => by simp [pA]) (by simp [pA])) (fun i a b => og i a (by omega))
            refine w_iload4 r_243_53 ?_
            refine w_iload3 r_243_55 ?_
            refine v_ic_ge r_243_56 (by first | exact zF_in _ _ _ | exact zA_in _ _ _ | omega) (by first | exact zF_in _ _ _ | exact zA_in _ _ _ | omega) (fun _ => ?_) (fun q => absurd q (by omega))
            refine w_iconst (v := iI (0)) r_243_79 rfl ?_
            refine w_istore4 r_243_80 rfl ?_
            refine w_iconst (v := iI (0)) r_243_82 rfl ?_
            refine w_istore5 r_243_83 rfl ?_
            exact J
          · intro n hn ih g fg og
            have hL := fg.lay hL2
            have F : Fr (pA [153]) g (sI g 153 n (gI g 143 n)) := (Fr.refl _ _).sI 153 n _ (by simp [pA])
            have J := ih (sI g 153 n (gI g 143 n)) (fg.trans F) (fun i a b => by
              by_cases w : i = n
              · rw [w]
                have : zA (sI g 153 n (gI g 143 n)) 153 n = zA g 143 n := by
                  unfold zA; rw [sI_here, if_pos (by omega), Int.toNat_natCast]
                rw [this, fg.A (by simp [pA])]; exact y144 n
              · have : zA (sI g 153 n (gI g 143 n)) 153 i = zA g 153 i := by
                  unfold zA; rw [sI_here, if_neg (by omega)]
                rw [this]; exact og i a (by omega))
            rw [Int.natCast_add, Int.natCast_one] at J
            refine w_iload4 r_243_53 ?_
            refine w_iload3 r_243_55 ?_
            refine v_ic_ge r_243_56 (by first | exact zF_in _ _ _ | exact zA_in _ _ _ | omega) (by first | exact zF_in _ _ _ | exact zA_in _ _ _ | omega) (fun q => absurd q (by omega)) (fun _ => ?_)
            refine w_aload0 r_243_59 ?_
            refine w_getA (x := 153) r_243_60 (Lk_118 hL) (Lr_118_74 hL) (by decide) ?_
            refine w_iload4 r_243_63 ?_
            refine w_aload0 r_243_65 ?_
            refine w_getA (x := 143) r_243_66 (Lk_118 hL) (Lr_118_54 hL) (by decide) ?_
            refine w_iload4 r_243_69 ?_
            refine v_iald r_243_71 (Lk_143 hL) (Lz_143 hL) (by decide) (by omega) (by rw [Int.toNat_natCast]) ?_
            refine v_iast r_243_72 (Lk_153 hL) (Ln_153 hL) (Lz_153 hL) (by decide) (by omega) ?_
            refine w_iinc4 r_243_73 rfl (iI_add _ _) ?_
            refine w_goto r_243_76 ?_
            exact J
        have J := l1 0 (by omega) h2 (Fr.refl _ _) (fun i a b => absurd b (by omega))
        have v46 : gI h2 118 55 = iI hd55 := by rw [gI_F, y55]
        have hL := hL2
        rw [if_pos q]
        refine w_lconst (v := iL 0) r_243_33 rfl ?_
        refine v_lcmp r_243_34 (by first | exact zF_in _ _ _ | exact zA_in _ _ _ | omega) (by first | exact zF_in _ _ _ | exact zA_in _ _ _ | omega) ?_
        refine v_if_ge r_243_35 (by split <;> (try split) <;> omega) (fun _ => ?_) (fun q => absurd q (by (split <;> (try split) <;> omega)))
        refine w_aload0 r_243_45 ?_
        refine v_getI r_243_46 (Lk_118 hL) v46 ?_
        refine w_istore3 r_243_49 rfl ?_
        refine w_iconst (v := iI (0)) r_243_50 rfl ?_
        refine w_istore4 r_243_51 rfl ?_
        exact J
      · have R := k6 q h2 I
        have hL := hL2
        rw [if_neg q]
        refine w_lconst (v := iL 0) r_243_33 rfl ?_
        refine v_lcmp r_243_34 (by first | exact zF_in _ _ _ | exact zA_in _ _ _ | omega) (by first | exact zF_in _ _ _ | exact zA_in _ _ _ | omega) ?_
        refine v_if_ge r_243_35 (by split <;> (try split) <;> omega) (fun q => absurd q (by (split <;> (try split) <;> omega))) (fun _ => ?_)
        refine w_aload0 r_243_38 ?_
        refine w_bipush (v := iI (6)) r_243_39 rfl ?_
        refine k_165 r_243_41 (Lk_118 hL) (Nat.le_of_ble_eq_true rfl) ?_
        refine m_no hL ?_
        refine w_iret r_243_44 ?_
        exact R
    refine w_aload0 r_243_26 ?_
    refine w_iload1 r_243_27 ?_
    refine w_iload2 r_243_28 ?_
    refine w_iconst (v := iI (0)) r_243_29 rfl ?_
    refine k_228 r_243_30 (Lk_118 hL) (Nat.le_of_ble_eq_true rfl) ?_
    refine m_from (d := d) (bm := false) hL Q1 ho P1 hm d1 hd cd.2 cd.1 hS (fun h2 I => ?_)
    exact fin h2 I
  refine w_aload0 r_243_0 ?_
  refine k_164 r_243_1 (Lk_118 hL) (Nat.le_of_ble_eq_true rfl) ?_
  refine m_good hL ?_
  refine w_aload0 r_243_4 ?_
  refine w_iload1 r_243_5 ?_
  refine k_197 r_243_6 (Lk_118 hL) (Nat.le_of_ble_eq_true rfl) ?_
  refine m_isCell (h0 := h) (by first | exact zF_in _ _ _ | exact zA_in _ _ _ | omega) hL ⟨rfl, rfl, rfl, rfl, rfl, rfl⟩ hM (fun c6 => ?_) (fun c6 => ?_)
  · refine v_if_eq r_243_9 (by first | exact zF_in _ _ _ | exact zA_in _ _ _ | omega) (fun q => absurd q (by omega)) (fun _ => ?_)
    refine w_aload0 r_243_12 ?_
    refine w_iload2 r_243_13 ?_
    refine k_197 r_243_14 (Lk_118 hL) (Nat.le_of_ble_eq_true rfl) ?_
    refine m_isCell (h0 := h) (by first | exact zF_in _ _ _ | exact zA_in _ _ _ | omega) hL ⟨rfl, rfl, rfl, rfl, rfl, rfl⟩ hM (fun c14 => ?_) (fun c14 => ?_)
    · refine v_if_ne r_243_17 (by first | exact zF_in _ _ _ | exact zA_in _ _ _ | omega) (fun _ => ?_) (fun q => absurd q (by omega))
      exact main (by omega)
    · refine v_if_ne r_243_17 (by first | exact zF_in _ _ _ | exact zA_in _ _ _ | omega) (fun q => absurd q (by omega)) (fun _ => ?_)
      refine w_aload0 r_243_20 ?_
      refine w_iconst (v := iI (1)) r_243_21 rfl ?_
      refine k_165 r_243_22 (Lk_118 hL) (Nat.le_of_ble_eq_true rfl) ?_
      refine m_no hL ?_
      refine w_iret r_243_25 ?_
      exact k1 (by omega)
  · refine v_if_eq r_243_9 (by first | exact zF_in _ _ _ | exact zA_in _ _ _ | omega) (fun _ => ?_) (fun q => absurd q (by omega))
    refine w_aload0 r_243_20 ?_
    refine w_iconst (v := iI (1)) r_243_21 rfl ?_
    refine k_165 r_243_22 (Lk_118 hL) (Nat.le_of_ble_eq_true rfl) ?_
    refine m_no hL ?_
    refine w_iret r_243_25 ?_
    exact k1 (by omega)
end OPG
section OPH
variable {d : Nat} {h : XH} {K : Int32 → XH → Prop} {x : Int}
theorem m_count (hx : R32 x) (hL : Lay h) (hM : MB h) (hw : 0 ≤ zF h 118 24 ∧ zF h 118 24 ≤ 6)
    (k0 : ∀ h1, h1 = sI h 118 0 (iI 0) → x = 0 → K (iI (if zF h 118 12 = 0 then 0 else zF h 118 22)) h1)
    (k1 : ∀ h1, h1 = sI h 118 0 (iI 0) → x = 1 → K (iI (if zF h 118 12 = 0 then 0 else zF h 118 23)) h1)
    (k2 : ∀ h1, h1 = sI h 118 0 (iI 0) → x = 2 → K (iI (if zF h 118 12 = 0 then 0 else zF h 118 24)) h1)
    (k3 : ∀ h1, h1 = sI h 118 0 (iI 0) → x = 3 → K (iI (if zF h 118 12 = 0 then 0 else zF h 118 25)) h1)
    (k4 : ∀ h1, h1 = sI h 118 0 (iI 0) → x = 4 → K (iI (if zF h 118 12 = 0 then 0 else zF h 118 26)) h1)
    (k5 : ∀ h1, h1 = sI h 118 0 (iI 0) → x = 5 → K (iI (if zF h 118 12 = 0 then 0 else zF h 118 27)) h1)
    (k6 : ∀ h1, h1 = sI h 118 0 (iI 0) → x = 6 → K (iI (if zF h 118 12 = 0 then 0 else zF h 118 28)) h1)
    (k7 : ∀ h1, h1 = sI h 118 0 (iI 0) → x = 7 → K (iI (zF h 118 38)) h1)
    (k8 : ∀ h1, h1 = sI h 118 0 (iI 0) → x = 8 → K (iI (if zF h 118 34 = 0 then 0 else zF h 118 35 * zF h 118 36)) h1)
    (k9 : ∀ h1, h1 = sI h 118 0 (iI 0) → x = 9 → K (iI (if zF h 118 34 = 0 then 0 else zF h 118 37)) h1)
    (k10 : ∀ h1, h1 = sI h 118 0 (iI 0) → x = 10 → K (iI (if zF h 118 34 = 0 then 0 else sumTo (fun i => if zA h 137 i = -1 then 1 else 0) (zF h 118 37).toNat)) h1)
    (k11 : ∀ h1, h1 = sI h 118 0 (iI 0) → x = 11 → K (iI (zF h 118 40)) h1)
    (k12 : ∀ h1, h1 = sI h 118 0 (iI 0) → x = 12 → K (iI (if zF h 118 12 = 0 then 0 else maxTo (zA h 139) (zF h 118 24).toNat)) h1)
    (k13 : ∀ h1, h1 = sI h 118 0 (iI 0) → x = 13 → K (iI (zF h 118 2)) h1)
    (k14 : ∀ h1, h1 = sI h 118 0 (iI 0) → ¬ (0 ≤ x ∧ x ≤ 13) → K (iI (-1)) h1) :
    XW (d + 1) 264 0 [.ref 118, .int (iI x), .null, .null] [] h (KI K) := by
  obtain ⟨m12, m34, m22, m35, m36, m37⟩ := id hM
  have F : Fr (pF [(118, 0)]) h (sI h 118 0 (iI 0)) := (Fr.refl _ _).sI 118 0 _ (by simp [pF])
  have zf : ∀ j, ¬ j = 0 → zF (sI h 118 0 (iI 0)) 118 j = zF h 118 j := fun j q => F.F (by simp [pF]; omega)
  have za : ∀ a, ¬ a = 118 → zA (sI h 118 0 (iI 0)) a = zA h a := fun a q => funext fun i => F.A (by simp [pF]; omega)
  have L1 := F.lay hL
  rw [← zf 12 (by decide)] at k0 k1 k2 k3 k4 k5 k6 k12 m12
  rw [← zf 34 (by decide)] at k8 k9 k10 m34
  rw [← zf 22 (by decide)] at k0 m22
  rw [← zf 23 (by decide)] at k1
  rw [← zf 24 (by decide)] at k2 k12 hw
  rw [← zf 25 (by decide)] at k3
  rw [← zf 26 (by decide)] at k4
  rw [← zf 27 (by decide)] at k5
  rw [← zf 28 (by decide)] at k6
  rw [← zf 38 (by decide)] at k7
  rw [← zf 35 (by decide)] at k8 m35
  rw [← zf 36 (by decide)] at k8 m36
  rw [← zf 37 (by decide)] at k9 k10 m37
  rw [← zf 40 (by decide)] at k11
  rw [← zf 2 (by decide)] at k13
  rw [← za 137 (by decide)] at k10
  rw [← za 139 (by decide)] at k12
  have k0 := k0 _ rfl
  have k1 := k1 _ rfl
  have k2 := k2 _ rfl
  have k3 := k3 _ rfl
  have k4 := k4 _ rfl
  have k5 := k5 _ rfl
  have k6 := k6 _ rfl
  have k7 := k7 _ rfl
  have k8 := k8 _ rfl
  have k9 := k9 _ rfl
  have k10 := k10 _ rfl
  have k11 := k11 _ rfl
  have k12 := k12 _ rfl
  have k13 := k13 _ rfl
  have k14 := k14 _ rfl
  have start : ∀ h1, h1 = sI h 118 0 (iI 0) → XW (d + 1) 264 5 [.ref 118, .int (iI x), .null, .null] [] h1 (KI K) → XW (d + 1) 264 0 [.ref 118, .int (iI x), .null, .null] [] h (KI K) := by
    intro h1 e J
    subst e
    refine w_aload0 r_264_0 ?_
    refine w_iconst (v := iI (0)) r_264_1 rfl ?_
    refine w_putI r_264_2 (Lk_118 hL) (Ln_118 hL) ?_
    exact J
  refine start _ rfl ?_
  clear start
  generalize sI h 118 0 (iI 0) = h1 at *
  have hL := L1
  have sw : ∀ (y : Int) (X3 : Value), y = (if zF h1 118 34 = 0 then 0 else sumTo (fun i => if zA h1 137 i = -1 then 1 else 0) (zF h1 118 37).toNat) → XW (d + 1) 264 48 [.ref 118, .int (iI x), .int (iI y), X3] [] h1 (KI K) := by
    intro y X3 ey
    rw [← ey] at k10
    by_cases b : zF h1 118 12 = 0
    · rw [if_pos b] at k0 k1 k2 k3 k4 k5 k6 k12
      by_cases q : zF h1 118 34 = 0
      · rw [if_pos q] at k8 k9
        refine w_iload1 r_264_48 ?_
        by_cases s49_0 : x = 0
        · refine w_swI (k := 0) (tgt := 120) r_264_49 s49_0 (by omega) (by omega) rfl rfl ?_
          refine w_aload0 r_264_120 ?_
          refine v_getI r_264_121 (Lk_118 hL) (gI_F h1 118 12) ?_
          refine v_if_eq r_264_124 (by first | exact zF_in _ _ _ | exact zA_in _ _ _ | omega) (fun _ => ?_) (fun q => absurd q (by omega))
          refine w_iconst (v := iI (0)) r_264_134 rfl ?_
          refine w_iret r_264_135 ?_
          exact k0 (by omega)
        · by_cases s49_1 : x = 1
          · refine w_swI (k := 1) (tgt := 136) r_264_49 s49_1 (by omega) (by omega) rfl rfl ?_
            refine w_aload0 r_264_136 ?_
            refine v_getI r_264_137 (Lk_118 hL) (gI_F h1 118 12) ?_
            refine v_if_eq r_264_140 (by first | exact zF_in _ _ _ | exact zA_in _ _ _ | omega) (fun _ => ?_) (fun q => absurd q (by omega))
            refine w_iconst (v := iI (0)) r_264_150 rfl ?_
            refine w_iret r_264_151 ?_
            exact k1 (by omega)
          · by_cases s49_2 : x = 2
            · refine w_swI (k := 2) (tgt := 152) r_264_49 s49_2 (by omega) (by omega) rfl rfl ?_
              refine w_aload0 r_264_152 ?_
              refine v_getI r_264_153 (Lk_118 hL) (gI_F h1 118 12) ?_
              refine v_if_eq r_264_156 (by first | exact zF_in _ _ _ | exact zA_in _ _ _ | omega) (fun _ => ?_) (fun q => absurd q (by omega))
              refine w_iconst (v := iI (0)) r_264_166 rfl ?_
              refine w_iret r_264_167 ?_
              exact k2 (by omega)
            · by_cases s49_3 : x = 3
              · refine w_swI (k := 3) (tgt := 168) r_264_49 s49_3 (by omega) (by omega) rfl rfl ?_
                refine w_aload0 r_264_168 ?_
                refine v_getI r_264_169 (Lk_118 hL) (gI_F h1 118 12) ?_
                refine v_if_eq r_264_172 (by first | exact zF_in _ _ _ | exact zA_in _ _ _ | omega) (fun _ => ?_) (fun q => absurd q (by omega))
                refine w_iconst (v := iI (0)) r_264_182 rfl ?_
                refine w_iret r_264_183 ?_
                exact k3 (by omega)
              · by_cases s49_4 : x = 4
                · refine w_swI (k := 4) (tgt := 184) r_264_49 s49_4 (by omega) (by omega) rfl rfl ?_
                  refine w_aload0 r_264_184 ?_
                  refine v_getI r_264_185 (Lk_118 hL) (gI_F h1 118 12) ?_
                  refine v_if_eq r_264_188 (by first | exact zF_in _ _ _ | exact zA_in _ _ _ | omega) (fun _ => ?_) (fun q => absurd q (by omega))
                  refine w_iconst (v := iI (0)) r_264_198 rfl ?_
                  refine w_iret r_264_199 ?_
                  exact k4 (by omega)
                · by_cases s49_5 : x = 5
                  · refine w_swI (k := 5) (tgt := 200) r_264_49 s49_5 (by omega) (by omega) rfl rfl ?_
                    refine w_aload0 r_264_200 ?_
                    refine v_getI r_264_201 (Lk_118 hL) (gI_F h1 118 12) ?_
                    refine v_if_eq r_264_204 (by first | exact zF_in _ _ _ | exact zA_in _ _ _ | omega) (fun _ => ?_) (fun q => absurd q (by omega))
                    refine w_iconst (v := iI (0)) r_264_214 rfl ?_
                    refine w_iret r_264_215 ?_
                    exact k5 (by omega)
                  · by_cases s49_6 : x = 6
                    · refine w_swI (k := 6) (tgt := 216) r_264_49 s49_6 (by omega) (by omega) rfl rfl ?_
                      refine w_aload0 r_264_216 ?_
                      refine v_getI r_264_217 (Lk_118 hL) (gI_F h1 118 12) ?_
                      refine v_if_eq r_264_220 (by first | exact zF_in _ _ _ | exact zA_in _ _ _ | omega) (fun _ => ?_) (fun q => absurd q (by omega))
                      refine w_iconst (v := iI (0)) r_264_230 rfl ?_
                      refine w_iret r_264_231 ?_
                      exact k6 (by omega)
                    · by_cases s49_7 : x = 7
                      · refine w_swI (k := 7) (tgt := 232) r_264_49 s49_7 (by omega) (by omega) rfl rfl ?_
                        refine w_aload0 r_264_232 ?_
                        refine v_getI r_264_233 (Lk_118 hL) (gI_F h1 118 38) ?_
                        refine w_iret r_264_236 ?_
                        exact k7 (by omega)
                      · by_cases s49_8 : x = 8
                        · refine w_swI (k := 8) (tgt := 237) r_264_49 s49_8 (by omega) (by omega) rfl rfl ?_
                          refine w_aload0 r_264_237 ?_
                          refine v_getI r_264_238 (Lk_118 hL) (gI_F h1 118 34) ?_
                          refine v_if_eq r_264_241 (by first | exact zF_in _ _ _ | exact zA_in _ _ _ | omega) (fun _ => ?_) (fun q => absurd q (by omega))
                          refine w_iconst (v := iI (0)) r_264_256 rfl ?_
                          refine w_iret r_264_257 ?_
                          exact k8 (by omega)
                        · by_cases s49_9 : x = 9
                          · refine w_swI (k := 9) (tgt := 258) r_264_49 s49_9 (by omega) (by omega) rfl rfl ?_
                            refine w_aload0 r_264_258 ?_
                            refine v_getI r_264_259 (Lk_118 hL) (gI_F h1 118 34) ?_
                            refine v_if_eq r_264_262 (by first | exact zF_in _ _ _ | exact zA_in _ _ _ | omega) (fun _ => ?_) (fun q => absurd q (by omega))
                            refine w_iconst (v := iI (0)) r_264_272 rfl ?_
                            refine w_iret r_264_273 ?_
                            exact k9 (by omega)
                          · by_cases s49_10 : x = 10
                            · refine w_swI (k := 10) (tgt := 274) r_264_49 s49_10 (by omega) (by omega) rfl rfl ?_
                              refine w_iload2 r_264_274 ?_
                              refine w_iret r_264_275 ?_
                              exact k10 (by omega)
                            · by_cases s49_11 : x = 11
                              · refine w_swI (k := 11) (tgt := 276) r_264_49 s49_11 (by omega) (by omega) rfl rfl ?_
                                refine w_aload0 r_264_276 ?_
                                refine v_getI r_264_277 (Lk_118 hL) (gI_F h1 118 40) ?_
                                refine w_iret r_264_280 ?_
                                exact k11 (by omega)
                              · by_cases s49_12 : x = 12
                                · refine w_swI (k := 12) (tgt := 281) r_264_49 s49_12 (by omega) (by omega) rfl rfl ?_
                                  refine w_aload0 r_264_281 ?_
                                  refine k_262 r_264_282 (Lk_118 hL) (Nat.le_of_ble_eq_true rfl) ?_
                                  refine m_mostDug hL hw m12 (fun _ => ?_) (fun z => absurd z (by omega))
                                  refine w_iret r_264_285 ?_
                                  exact k12 (by omega)
                                · by_cases s49_13 : x = 13
                                  · refine w_swI (k := 13) (tgt := 286) r_264_49 s49_13 (by omega) (by omega) rfl rfl ?_
                                    refine w_aload0 r_264_286 ?_
                                    refine v_getI r_264_287 (Lk_118 hL) (gI_F h1 118 2) ?_
                                    refine w_iret r_264_290 ?_
                                    exact k13 (by omega)
                                  · refine w_swO (tgt := 291) r_264_49 (by omega) (by omega) rfl ?_
                                    refine w_iconst (v := iI (-1)) r_264_291 rfl ?_
                                    refine w_iret r_264_292 ?_
                                    exact k14 (by omega)
      · rw [if_neg q] at k8 k9
        refine w_iload1 r_264_48 ?_
        by_cases s49_0 : x = 0
        · refine w_swI (k := 0) (tgt := 120) r_264_49 s49_0 (by omega) (by omega) rfl rfl ?_
          refine w_aload0 r_264_120 ?_
          refine v_getI r_264_121 (Lk_118 hL) (gI_F h1 118 12) ?_
          refine v_if_eq r_264_124 (by first | exact zF_in _ _ _ | exact zA_in _ _ _ | omega) (fun _ => ?_) (fun q => absurd q (by omega))
          refine w_iconst (v := iI (0)) r_264_134 rfl ?_
          refine w_iret r_264_135 ?_
          exact k0 (by omega)
        · by_cases s49_1 : x = 1
          · refine w_swI (k := 1) (tgt := 136) r_264_49 s49_1 (by omega) (by omega) rfl rfl ?_
            refine w_aload0 r_264_136 ?_
            refine v_getI r_264_137 (Lk_118 hL) (gI_F h1 118 12) ?_
            refine v_if_eq r_264_140 (by first | exact zF_in _ _ _ | exact zA_in _ _ _ | omega) (fun _ => ?_) (fun q => absurd q (by omega))
            refine w_iconst (v := iI (0)) r_264_150 rfl ?_
            refine w_iret r_264_151 ?_
            exact k1 (by omega)
          · by_cases s49_2 : x = 2
            · refine w_swI (k := 2) (tgt := 152) r_264_49 s49_2 (by omega) (by omega) rfl rfl ?_
              refine w_aload0 r_264_152 ?_
              refine v_getI r_264_153 (Lk_118 hL) (gI_F h1 118 12) ?_
              refine v_if_eq r_264_156 (by first | exact zF_in _ _ _ | exact zA_in _ _ _ | omega) (fun _ => ?_) (fun q => absurd q (by omega))
              refine w_iconst (v := iI (0)) r_264_166 rfl ?_
              refine w_iret r_264_167 ?_
              exact k2 (by omega)
            · by_cases s49_3 : x = 3
              · refine w_swI (k := 3) (tgt := 168) r_264_49 s49_3 (by omega) (by omega) rfl rfl ?_
                refine w_aload0 r_264_168 ?_
                refine v_getI r_264_169 (Lk_118 hL) (gI_F h1 118 12) ?_
                refine v_if_eq r_264_172 (by first | exact zF_in _ _ _ | exact zA_in _ _ _ | omega) (fun _ => ?_) (fun q => absurd q (by omega))
                refine w_iconst (v := iI (0)) r_264_182 rfl ?_
                refine w_iret r_264_183 ?_
                exact k3 (by omega)
              · by_cases s49_4 : x = 4
                · refine w_swI (k := 4) (tgt := 184) r_264_49 s49_4 (by omega) (by omega) rfl rfl ?_
                  refine w_aload0 r_264_184 ?_
                  refine v_getI r_264_185 (Lk_118 hL) (gI_F h1 118 12) ?_
                  refine v_if_eq r_264_188 (by first | exact zF_in _ _ _ | exact zA_in _ _ _ | omega) (fun _ => ?_) (fun q => absurd q (by omega))
                  refine w_iconst (v := iI (0)) r_264_198 rfl ?_
                  refine w_iret r_264_199 ?_
                  exact k4 (by omega)
                · by_cases s49_5 : x = 5
                  · refine w_swI (k := 5) (tgt := 200) r_264_49 s49_5 (by omega) (by omega) rfl rfl ?_
                    refine w_aload0 r_264_200 ?_
                    refine v_getI r_264_201 (Lk_118 hL) (gI_F h1 118 12) ?_
                    refine v_if_eq r_264_204 (by first | exact zF_in _ _ _ | exact zA_in _ _ _ | omega) (fun _ => ?_) (fun q => absurd q (by omega))
                    refine w_iconst (v := iI (0)) r_264_214 rfl ?_
                    refine w_iret r_264_215 ?_
                    exact k5 (by omega)
                  · by_cases s49_6 : x = 6
                    · refine w_swI (k := 6) (tgt := 216) r_264_49 s49_6 (by omega) (by omega) rfl rfl ?_
                      refine w_aload0 r_264_216 ?_
                      refine v_getI r_264_217 (Lk_118 hL) (gI_F h1 118 12) ?_
                      refine v_if_eq r_264_220 (by first | exact zF_in _ _ _ | exact zA_in _ _ _ | omega) (fun _ => ?_) (fun q => absurd q (by omega))
                      refine w_iconst (v := iI (0)) r_264_230 rfl ?_
                      refine w_iret r_264_231 ?_
                      exact k6 (by omega)
                    · by_cases s49_7 : x = 7
                      · refine w_swI (k := 7) (tgt := 232) r_264_49 s49_7 (by omega) (by omega) rfl rfl ?_
                        refine w_aload0 r_264_232 ?_
                        refine v_getI r_264_233 (Lk_118 hL) (gI_F h1 118 38) ?_
                        refine w_iret r_264_236 ?_
                        exact k7 (by omega)
                      · by_cases s49_8 : x = 8
                        · refine w_swI (k := 8) (tgt := 237) r_264_49 s49_8 (by omega) (by omega) rfl rfl ?_
                          refine w_aload0 r_264_237 ?_
                          refine v_getI r_264_238 (Lk_118 hL) (gI_F h1 118 34) ?_
                          refine v_if_eq r_264_241 (by first | exact zF_in _ _ _ | exact zA_in _ _ _ | omega) (fun q => absurd q (by omega)) (fun _ => ?_)
                          refine w_aload0 r_264_244 ?_
                          refine v_getI r_264_245 (Lk_118 hL) (gI_F h1 118 35) ?_
                          refine w_aload0 r_264_248 ?_
                          refine v_getI r_264_249 (Lk_118 hL) (gI_F h1 118 36) ?_
                          refine v_imul r_264_252 ?_
                          refine w_goto r_264_253 ?_
                          refine w_iret r_264_257 ?_
                          exact k8 (by omega)
                        · by_cases s49_9 : x = 9
                          · refine w_swI (k := 9) (tgt := 258) r_264_49 s49_9 (by omega) (by omega) rfl rfl ?_
                            refine w_aload0 r_264_258 ?_
                            refine v_getI r_264_259 (Lk_118 hL) (gI_F h1 118 34) ?_
                            refine v_if_eq r_264_262 (by first | exact zF_in _ _ _ | exact zA_in _ _ _ | omega) (fun q => absurd q (by omega)) (fun _ => ?_)
                            refine w_aload0 r_264_265 ?_
                            refine v_getI r_264_266 (Lk_118 hL) (gI_F h1 118 37) ?_
                            refine w_goto r_264_269 ?_
                            refine w_iret r_264_273 ?_
                            exact k9 (by omega)
                          · by_cases s49_10 : x = 10
                            · refine w_swI (k := 10) (tgt := 274) r_264_49 s49_10 (by omega) (by omega) rfl rfl ?_
                              refine w_iload2 r_264_274 ?_
                              refine w_iret r_264_275 ?_
                              exact k10 (by omega)
                            · by_cases s49_11 : x = 11
                              · refine w_swI (k := 11) (tgt := 276) r_264_49 s49_11 (by omega) (by omega) rfl rfl ?_
                                refine w_aload0 r_264_276 ?_
                                refine v_getI r_264_277 (Lk_118 hL) (gI_F h1 118 40) ?_
                                refine w_iret r_264_280 ?_
                                exact k11 (by omega)
                              · by_cases s49_12 : x = 12
                                · refine w_swI (k := 12) (tgt := 281) r_264_49 s49_12 (by omega) (by omega) rfl rfl ?_
                                  refine w_aload0 r_264_281 ?_
                                  refine k_262 r_264_282 (Lk_118 hL) (Nat.le_of_ble_eq_true rfl) ?_
                                  refine m_mostDug hL hw m12 (fun _ => ?_) (fun z => absurd z (by omega))
                                  refine w_iret r_264_285 ?_
                                  exact k12 (by omega)
                                · by_cases s49_13 : x = 13
                                  · refine w_swI (k := 13) (tgt := 286) r_264_49 s49_13 (by omega) (by omega) rfl rfl ?_
                                    refine w_aload0 r_264_286 ?_
                                    refine v_getI r_264_287 (Lk_118 hL) (gI_F h1 118 2) ?_
                                    refine w_iret r_264_290 ?_
                                    exact k13 (by omega)
                                  · refine w_swO (tgt := 291) r_264_49 (by omega) (by omega) rfl ?_
                                    refine w_iconst (v := iI (-1)) r_264_291 rfl ?_
                                    refine w_iret r_264_292 ?_
                                    exact k14 (by omega)
    · rw [if_neg b] at k0 k1 k2 k3 k4 k5 k6 k12
      by_cases q : zF h1 118 34 = 0
      · rw [if_pos q] at k8 k9
        refine w_iload1 r_264_48 ?_
        by_cases s49_0 : x = 0
        · refine w_swI (k := 0) (tgt := 120) r_264_49 s49_0 (by omega) (by omega) rfl rfl ?_
          refine w_aload0 r_264_120 ?_
          refine v_getI r_264_121 (Lk_118 hL) (gI_F h1 118 12) ?_
          refine v_if_eq r_264_124 (by first | exact zF_in _ _ _ | exact zA_in _ _ _ | omega) (fun q => absurd q (by omega)) (fun _ => ?_)
          refine w_aload0 r_264_127 ?_
          refine v_getI r_264_128 (Lk_118 hL) (gI_F h1 118 22) ?_
          refine w_goto r_264_131 ?_
          refine w_iret r_264_135 ?_
          exact k0 (by omega)
        · by_cases s49_1 : x = 1
          · refine w_swI (k := 1) (tgt := 136) r_264_49 s49_1 (by omega) (by omega) rfl rfl ?_
            refine w_aload0 r_264_136 ?_
            refine v_getI r_264_137 (Lk_118 hL) (gI_F h1 118 12) ?_
            refine v_if_eq r_264_140 (by first | exact zF_in _ _ _ | exact zA_in _ _ _ | omega) (fun q => absurd q (by omega)) (fun _ => ?_)
            refine w_aload0 r_264_143 ?_
            refine v_getI r_264_144 (Lk_118 hL) (gI_F h1 118 23) ?_
            refine w_goto r_264_147 ?_
            refine w_iret r_264_151 ?_
            exact k1 (by omega)
          · by_cases s49_2 : x = 2
            · refine w_swI (k := 2) (tgt := 152) r_264_49 s49_2 (by omega) (by omega) rfl rfl ?_
              refine w_aload0 r_264_152 ?_
              refine v_getI r_264_153 (Lk_118 hL) (gI_F h1 118 12) ?_
              refine v_if_eq r_264_156 (by first | exact zF_in _ _ _ | exact zA_in _ _ _ | omega) (fun q => absurd q (by omega)) (fun _ => ?_)
              refine w_aload0 r_264_159 ?_
              refine v_getI r_264_160 (Lk_118 hL) (gI_F h1 118 24) ?_
              refine w_goto r_264_163 ?_
              refine w_iret r_264_167 ?_
              exact k2 (by omega)
            · by_cases s49_3 : x = 3
              · refine w_swI (k := 3) (tgt := 168) r_264_49 s49_3 (by omega) (by omega) rfl rfl ?_
                refine w_aload0 r_264_168 ?_
                refine v_getI r_264_169 (Lk_118 hL) (gI_F h1 118 12) ?_
                refine v_if_eq r_264_172 (by first | exact zF_in _ _ _ | exact zA_in _ _ _ | omega) (fun q => absurd q (by omega)) (fun _ => ?_)
                refine w_aload0 r_264_175 ?_
                refine v_getI r_264_176 (Lk_118 hL) (gI_F h1 118 25) ?_
                refine w_goto r_264_179 ?_
                refine w_iret r_264_183 ?_
                exact k3 (by omega)
              · by_cases s49_4 : x = 4
                · refine w_swI (k := 4) (tgt := 184) r_264_49 s49_4 (by omega) (by omega) rfl rfl ?_
                  refine w_aload0 r_264_184 ?_
                  refine v_getI r_264_185 (Lk_118 hL) (gI_F h1 118 12) ?_
                  refine v_if_eq r_264_188 (by first | exact zF_in _ _ _ | exact zA_in _ _ _ | omega) (fun q => absurd q (by omega)) (fun _ => ?_)
                  refine w_aload0 r_264_191 ?_
                  refine v_getI r_264_192 (Lk_118 hL) (gI_F h1 118 26) ?_
                  refine w_goto r_264_195 ?_
                  refine w_iret r_264_199 ?_
                  exact k4 (by omega)
                · by_cases s49_5 : x = 5
                  · refine w_swI (k := 5) (tgt := 200) r_264_49 s49_5 (by omega) (by omega) rfl rfl ?_
                    refine w_aload0 r_264_200 ?_
                    refine v_getI r_264_201 (Lk_118 hL) (gI_F h1 118 12) ?_
                    refine v_if_eq r_264_204 (by first | exact zF_in _ _ _ | exact zA_in _ _ _ | omega) (fun q => absurd q (by omega)) (fun _ => ?_)
                    refine w_aload0 r_264_207 ?_
                    refine v_getI r_264_208 (Lk_118 hL) (gI_F h1 118 27) ?_
                    refine w_goto r_264_211 ?_
                    refine w_iret r_264_215 ?_
                    exact k5 (by omega)
                  · by_cases s49_6 : x = 6
                    · refine w_swI (k := 6) (tgt := 216) r_264_49 s49_6 (by omega) (by omega) rfl rfl ?_
                      refine w_aload0 r_264_216 ?_
                      refine v_getI r_264_217 (Lk_118 hL) (gI_F h1 118 12) ?_
                      refine v_if_eq r_264_220 (by first | exact zF_in _ _ _ | exact zA_in _ _ _ | omega) (fun q => absurd q (by omega)) (fun _ => ?_)
                      refine w_aload0 r_264_223 ?_
                      refine v_getI r_264_224 (Lk_118 hL) (gI_F h1 118 28) ?_
                      refine w_goto r_264_227 ?_
                      refine w_iret r_264_231 ?_
                      exact k6 (by omega)
                    · by_cases s49_7 : x = 7
                      · refine w_swI (k := 7) (tgt := 232) r_264_49 s49_7 (by omega) (by omega) rfl rfl ?_
                        refine w_aload0 r_264_232 ?_
                        refine v_getI r_264_233 (Lk_118 hL) (gI_F h1 118 38) ?_
                        refine w_iret r_264_236 ?_
                        exact k7 (by omega)
                      · by_cases s49_8 : x = 8
                        · refine w_swI (k := 8) (tgt := 237) r_264_49 s49_8 (by omega) (by omega) rfl rfl ?_
                          refine w_aload0 r_264_237 ?_
                          refine v_getI r_264_238 (Lk_118 hL) (gI_F h1 118 34) ?_
                          refine v_if_eq r_264_241 (by first | exact zF_in _ _ _ | exact zA_in _ _ _ | omega) (fun _ => ?_) (fun q => absurd q (by omega))
                          refine w_iconst (v := iI (0)) r_264_256 rfl ?_
                          refine w_iret r_264_257 ?_
                          exact k8 (by omega)
                        · by_cases s49_9 : x = 9
                          · refine w_swI (k := 9) (tgt := 258) r_264_49 s49_9 (by omega) (by omega) rfl rfl ?_
                            refine w_aload0 r_264_258 ?_
                            refine v_getI r_264_259 (Lk_118 hL) (gI_F h1 118 34) ?_
                            refine v_if_eq r_264_262 (by first | exact zF_in _ _ _ | exact zA_in _ _ _ | omega) (fun _ => ?_) (fun q => absurd q (by omega))
                            refine w_iconst (v := iI (0)) r_264_272 rfl ?_
                            refine w_iret r_264_273 ?_
                            exact k9 (by omega)
                          · by_cases s49_10 : x = 10
                            · refine w_swI (k := 10) (tgt := 274) r_264_49 s49_10 (by omega) (by omega) rfl rfl ?_
                              refine w_iload2 r_264_274 ?_
                              refine w_iret r_264_275 ?_
                              exact k10 (by omega)
                            · by_cases s49_11 : x = 11
                              · refine w_swI (k := 11) (tgt := 276) r_264_49 s49_11 (by omega) (by omega) rfl rfl ?_
                                refine w_aload0 r_264_276 ?_
                                refine v_getI r_264_277 (Lk_118 hL) (gI_F h1 118 40) ?_
                                refine w_iret r_264_280 ?_
                                exact k11 (by omega)
                              · by_cases s49_12 : x = 12
                                · refine w_swI (k := 12) (tgt := 281) r_264_49 s49_12 (by omega) (by omega) rfl rfl ?_
                                  refine w_aload0 r_264_281 ?_
                                  refine k_262 r_264_282 (Lk_118 hL) (Nat.le_of_ble_eq_true rfl) ?_
                                  refine m_mostDug hL hw m12 (fun z => absurd z b) (fun _ => ?_)
                                  refine w_iret r_264_285 ?_
                                  exact k12 (by omega)
                                · by_cases s49_13 : x = 13
                                  · refine w_swI (k := 13) (tgt := 286) r_264_49 s49_13 (by omega) (by omega) rfl rfl ?_
                                    refine w_aload0 r_264_286 ?_
                                    refine v_getI r_264_287 (Lk_118 hL) (gI_F h1 118 2) ?_
                                    refine w_iret r_264_290 ?_
                                    exact k13 (by omega)
                                  · refine w_swO (tgt := 291) r_264_49 (by omega) (by omega) rfl ?_
                                    refine w_iconst (v := iI (-1)) r_264_291 rfl ?_
                                    refine w_iret r_264_292 ?_
                                    exact k14 (by omega)
      · rw [if_neg q] at k8 k9
        refine w_iload1 r_264_48 ?_
        by_cases s49_0 : x = 0
        · refine w_swI (k := 0) (tgt := 120) r_264_49 s49_0 (by omega) (by omega) rfl rfl ?_
          refine w_aload0 r_264_120 ?_
          refine v_getI r_264_121 (Lk_118 hL) (gI_F h1 118 12) ?_
          refine v_if_eq r_264_124 (by first | exact zF_in _ _ _ | exact zA_in _ _ _ | omega) (fun q => absurd q (by omega)) (fun _ => ?_)
          refine w_aload0 r_264_127 ?_
          refine v_getI r_264_128 (Lk_118 hL) (gI_F h1 118 22) ?_
          refine w_goto r_264_131 ?_
          refine w_iret r_264_135 ?_
          exact k0 (by omega)
        · by_cases s49_1 : x = 1
          · refine w_swI (k := 1) (tgt := 136) r_264_49 s49_1 (by omega) (by omega) rfl rfl ?_
            refine w_aload0 r_264_136 ?_
            refine v_getI r_264_137 (Lk_118 hL) (gI_F h1 118 12) ?_
            refine v_if_eq r_264_140 (by first | exact zF_in _ _ _ | exact zA_in _ _ _ | omega) (fun q => absurd q (by omega)) (fun _ => ?_)
            refine w_aload0 r_264_143 ?_
            refine v_getI r_264_144 (Lk_118 hL) (gI_F h1 118 23) ?_
            refine w_goto r_264_147 ?_
            refine w_iret r_264_151 ?_
            exact k1 (by omega)
          · by_cases s49_2 : x = 2
            · refine w_swI (k := 2) (tgt := 152) r_264_49 s49_2 (by omega) (by omega) rfl rfl ?_
              refine w_aload0 r_264_152 ?_
              refine v_getI r_264_153 (Lk_118 hL) (gI_F h1 118 12) ?_
              refine v_if_eq r_264_156 (by first | exact zF_in _ _ _ | exact zA_in _ _ _ | omega) (fun q => absurd q (by omega)) (fun _ => ?_)
              refine w_aload0 r_264_159 ?_
              refine v_getI r_264_160 (Lk_118 hL) (gI_F h1 118 24) ?_
              refine w_goto r_264_163 ?_
              refine w_iret r_264_167 ?_
              exact k2 (by omega)
            · by_cases s49_3 : x = 3
              · refine w_swI (k := 3) (tgt := 168) r_264_49 s49_3 (by omega) (by omega) rfl rfl ?_
                refine w_aload0 r_264_168 ?_
                refine v_getI r_264_169 (Lk_118 hL) (gI_F h1 118 12) ?_
                refine v_if_eq r_264_172 (by first | exact zF_in _ _ _ | exact zA_in _ _ _ | omega) (fun q => absurd q (by omega)) (fun _ => ?_)
                refine w_aload0 r_264_175 ?_
                refine v_getI r_264_176 (Lk_118 hL) (gI_F h1 118 25) ?_
                refine w_goto r_264_179 ?_
                refine w_iret r_264_183 ?_
                exact k3 (by omega)
              · by_cases s49_4 : x = 4
                · refine w_swI (k := 4) (tgt := 184) r_264_49 s49_4 (by omega) (by omega) rfl rfl ?_
                  refine w_aload0 r_264_184 ?_
                  refine v_getI r_264_185 (Lk_118 hL) (gI_F h1 118 12) ?_
                  refine v_if_eq r_264_188 (by first | exact zF_in _ _ _ | exact zA_in _ _ _ | omega) (fun q => absurd q (by omega)) (fun _ => ?_)
                  refine w_aload0 r_264_191 ?_
                  refine v_getI r_264_192 (Lk_118 hL) (gI_F h1 118 26) ?_
                  refine w_goto r_264_195 ?_
                  refine w_iret r_264_199 ?_
                  exact k4 (by omega)
                · by_cases s49_5 : x = 5
                  · refine w_swI (k := 5) (tgt := 200) r_264_49 s49_5 (by omega) (by omega) rfl rfl ?_
                    refine w_aload0 r_264_200 ?_
                    refine v_getI r_264_201 (Lk_118 hL) (gI_F h1 118 12) ?_
                    refine v_if_eq r_264_204 (by first | exact zF_in _ _ _ | exact zA_in _ _ _ | omega) (fun q => absurd q (by omega)) (fun _ => ?_)
                    refine w_aload0 r_264_207 ?_
                    refine v_getI r_264_208 (Lk_118 hL) (gI_F h1 118 27) ?_
                    refine w_goto r_264_211 ?_
                    refine w_iret r_264_215 ?_
                    exact k5 (by omega)
                  · by_cases s49_6 : x = 6
                    · refine w_swI (k := 6) (tgt := 216) r_264_49 s49_6 (by omega) (by omega) rfl rfl ?_
                      refine w_aload0 r_264_216 ?_
                      refine v_getI r_264_217 (Lk_118 hL) (gI_F h1 118 12) ?_
                      refine v_if_eq r_264_220 (by first | exact zF_in _ _ _ | exact zA_in _ _ _ | omega) (fun q => absurd q (by omega)) (fun _ => ?_)
                      refine w_aload0 r_264_223 ?_
                      refine v_getI r_264_224 (Lk_118 hL) (gI_F h1 118 28) ?_
                      refine w_goto r_264_227 ?_
                      refine w_iret r_264_231 ?_
                      exact k6 (by omega)
                    · by_cases s49_7 : x = 7
                      · refine w_swI (k := 7) (tgt := 232) r_264_49 s49_7 (by omega) (by omega) rfl rfl ?_
                        refine w_aload0 r_264_232 ?_
                        refine v_getI r_264_233 (Lk_118 hL) (gI_F h1 118 38) ?_
                        refine w_iret r_264_236 ?_
                        exact k7 (by omega)
                      · by_cases s49_8 : x = 8
                        · refine w_swI (k := 8) (tgt := 237) r_264_49 s49_8 (by omega) (by omega) rfl rfl ?_
                          refine w_aload0 r_264_237 ?_
                          refine v_getI r_264_238 (Lk_118 hL) (gI_F h1 118 34) ?_
                          refine v_if_eq r_264_241 (by first | exact zF_in _ _ _ | exact zA_in _ _ _ | omega) (fun q => absurd q (by omega)) (fun _ => ?_)
                          refine w_aload0 r_264_244 ?_
                          refine v_getI r_264_245 (Lk_118 hL) (gI_F h1 118 35) ?_
                          refine w_aload0 r_264_248 ?_
                          refine v_getI r_264_249 (Lk_118 hL) (gI_F h1 118 36) ?_
                          refine v_imul r_264_252 ?_
                          refine w_goto r_264_253 ?_
                          refine w_iret r_264_257 ?_
                          exact k8 (by omega)
                        · by_cases s49_9 : x = 9
                          · refine w_swI (k := 9) (tgt := 258) r_264_49 s49_9 (by omega) (by omega) rfl rfl ?_
                            refine w_aload0 r_264_258 ?_
                            refine v_getI r_264_259 (Lk_118 hL) (gI_F h1 118 34) ?_
                            refine v_if_eq r_264_262 (by first | exact zF_in _ _ _ | exact zA_in _ _ _ | omega) (fun q => absurd q (by omega)) (fun _ => ?_)
                            refine w_aload0 r_264_265 ?_
                            refine v_getI r_264_266 (Lk_118 hL) (gI_F h1 118 37) ?_
                            refine w_goto r_264_269 ?_
                            refine w_iret r_264_273 ?_
                            exact k9 (by omega)
                          · by_cases s49_10 : x = 10
                            · refine w_swI (k := 10) (tgt := 274) r_264_49 s49_10 (by omega) (by omega) rfl rfl ?_
                              refine w_iload2 r_264_274 ?_
                              refine w_iret r_264_275 ?_
                              exact k10 (by omega)
                            · by_cases s49_11 : x = 11
                              · refine w_swI (k := 11) (tgt := 276) r_264_49 s49_11 (by omega) (by omega) rfl rfl ?_
                                refine w_aload0 r_264_276 ?_
                                refine v_getI r_264_277 (Lk_118 hL) (gI_F h1 118 40) ?_
                                refine w_iret r_264_280 ?_
                                exact k11 (by omega)
                              · by_cases s49_12 : x = 12
                                · refine w_swI (k := 12) (tgt := 281) r_264_49 s49_12 (by omega) (by omega) rfl rfl ?_
                                  refine w_aload0 r_264_281 ?_
                                  refine k_262 r_264_282 (Lk_118 hL) (Nat.le_of_ble_eq_true rfl) ?_
                                  refine m_mostDug hL hw m12 (fun z => absurd z b) (fun _ => ?_)
                                  refine w_iret r_264_285 ?_
                                  exact k12 (by omega)
                                · by_cases s49_13 : x = 13
                                  · refine w_swI (k := 13) (tgt := 286) r_264_49 s49_13 (by omega) (by omega) rfl rfl ?_
                                    refine w_aload0 r_264_286 ?_
                                    refine v_getI r_264_287 (Lk_118 hL) (gI_F h1 118 2) ?_
                                    refine w_iret r_264_290 ?_
                                    exact k13 (by omega)
                                  · refine w_swO (tgt := 291) r_264_49 (by omega) (by omega) rfl ?_
                                    refine w_iconst (v := iI (-1)) r_264_291 rfl ?_
                                    refine w_iret r_264_292 ?_
                                    exact k14 (by omega)
  clear k0 k1 k2 k3 k4 k5 k6 k7 k8 k9 k10 k11 k12 k13 k14
  by_cases q : zF h1 118 34 = 0
  · have J := fun X3 => sw 0 X3 (by rw [if_pos q])
    refine w_iconst (v := iI (0)) r_264_5 rfl ?_
    refine w_istore2 r_264_6 rfl ?_
    refine w_iconst (v := iI (0)) r_264_7 rfl ?_
    refine w_istore3 r_264_8 rfl ?_
    refine w_iload3 r_264_9 ?_
    refine w_aload0 r_264_10 ?_
    refine v_getI r_264_11 (Lk_118 hL) (gI_F h1 118 37) ?_
    refine v_ic_ge r_264_14 (by first | exact zF_in _ _ _ | exact zA_in _ _ _ | omega) (by first | exact zF_in _ _ _ | exact zA_in _ _ _ | omega) (fun c14 => ?_) (fun c14 => ?_)
    · exact J _
    · refine w_aload0 r_264_17 ?_
      refine v_getI r_264_18 (Lk_118 hL) (gI_F h1 118 34) ?_
      refine v_if_eq r_264_21 (by first | exact zF_in _ _ _ | exact zA_in _ _ _ | omega) (fun _ => ?_) (fun q => absurd q (by omega))
      exact J _
  · have key : ∀ n : Nat, n ≤ (zF h1 118 37).toNat → XW (d + 1) 264 9 [.ref 118, .int (iI x), .int (iI (sumTo (fun i => if zA h1 137 i = -1 then 1 else 0) n)), .int (iI n)] [] h1 (KI K) := by
      refine upto _ ?_ ?_
      · have J := fun X3 => sw (sumTo (fun i => if zA h1 137 i = -1 then 1 else 0) (zF h1 118 37).toNat) X3 (by rw [if_neg q])
        refine w_iload3 r_264_9 ?_
        refine w_aload0 r_264_10 ?_
        refine v_getI r_264_11 (Lk_118 hL) (gI_F h1 118 37) ?_
        refine v_ic_ge r_264_14 (by first | exact zF_in _ _ _ | exact zA_in _ _ _ | omega) (by first | exact zF_in _ _ _ | exact zA_in _ _ _ | omega) (fun _ => ?_) (fun q => absurd q (by omega))
        exact J _
      · intro n hn ih
        have e1 : sumTo (fun i => if zA h1 137 i = -1 then 1 else 0) (n + 1) = sumTo (fun i => if zA h1 137 i = -1 then 1 else 0) n + (if zA h1 137 n = -1 then 1 else 0) := rfl
        rw [e1, Int.natCast_add, Int.natCast_one] at ih
        by_cases w : zA h1 137 n = -1
        · rw [if_pos w] at ih
          refine w_iload3 r_264_9 ?_
          refine w_aload0 r_264_10 ?_
          refine v_getI r_264_11 (Lk_118 hL) (gI_F h1 118 37) ?_
          refine v_ic_ge r_264_14 (by first | exact zF_in _ _ _ | exact zA_in _ _ _ | omega) (by first | exact zF_in _ _ _ | exact zA_in _ _ _ | omega) (fun q => absurd q (by omega)) (fun _ => ?_)
          refine w_aload0 r_264_17 ?_
          refine v_getI r_264_18 (Lk_118 hL) (gI_F h1 118 34) ?_
          refine v_if_eq r_264_21 (by first | exact zF_in _ _ _ | exact zA_in _ _ _ | omega) (fun q => absurd q (by omega)) (fun _ => ?_)
          refine w_iload2 r_264_24 ?_
          refine w_aload0 r_264_25 ?_
          refine w_getA (x := 137) r_264_26 (Lk_118 hL) (Lr_118_45 hL) (by decide) ?_
          refine w_iload3 r_264_29 ?_
          refine v_iald r_264_30 (Lk_137 hL) (Lz_137 hL) (by decide) (by omega) (gI_A h1 137 _) ?_
          refine w_iconst (v := iI (-1)) r_264_31 rfl ?_
          refine v_ic_ne r_264_32 (by first | exact zF_in _ _ _ | exact zA_in _ _ _ | omega) (by first | exact zF_in _ _ _ | exact zA_in _ _ _ | omega) (fun q => absurd q (by omega)) (fun _ => ?_)
          refine w_iconst (v := iI (1)) r_264_35 rfl ?_
          refine w_goto r_264_36 ?_
          refine v_iadd r_264_40 ?_
          refine w_istore2 r_264_41 rfl ?_
          refine w_iinc3 r_264_42 rfl (iI_add _ _) ?_
          refine w_goto r_264_45 ?_
          exact ih
        · rw [if_neg w] at ih
          refine w_iload3 r_264_9 ?_
          refine w_aload0 r_264_10 ?_
          refine v_getI r_264_11 (Lk_118 hL) (gI_F h1 118 37) ?_
          refine v_ic_ge r_264_14 (by first | exact zF_in _ _ _ | exact zA_in _ _ _ | omega) (by first | exact zF_in _ _ _ | exact zA_in _ _ _ | omega) (fun q => absurd q (by omega)) (fun _ => ?_)
          refine w_aload0 r_264_17 ?_
          refine v_getI r_264_18 (Lk_118 hL) (gI_F h1 118 34) ?_
          refine v_if_eq r_264_21 (by first | exact zF_in _ _ _ | exact zA_in _ _ _ | omega) (fun q => absurd q (by omega)) (fun _ => ?_)
          refine w_iload2 r_264_24 ?_
          refine w_aload0 r_264_25 ?_
          refine w_getA (x := 137) r_264_26 (Lk_118 hL) (Lr_118_45 hL) (by decide) ?_
          refine w_iload3 r_264_29 ?_
          refine v_iald r_264_30 (Lk_137 hL) (Lz_137 hL) (by decide) (by omega) (gI_A h1 137 _) ?_
          refine w_iconst (v := iI (-1)) r_264_31 rfl ?_
          refine v_ic_ne r_264_32 (by first | exact zF_in _ _ _ | exact zA_in _ _ _ | omega) (by first | exact zF_in _ _ _ | exact zA_in _ _ _ | omega) (fun _ => ?_) (fun q => absurd q (by omega))
          refine w_iconst (v := iI (0)) r_264_39 rfl ?_
          refine v_iadd r_264_40 ?_
          refine w_istore2 r_264_41 rfl ?_
          refine w_iinc3 r_264_42 rfl (iI_add _ _) ?_
          refine w_goto r_264_45 ?_
          exact ih
    have J := key 0 (by omega)
    refine w_iconst (v := iI (0)) r_264_5 rfl ?_
    refine w_istore2 r_264_6 rfl ?_
    refine w_iconst (v := iI (0)) r_264_7 rfl ?_
    refine w_istore3 r_264_8 rfl ?_
    exact J
end OPH
