/-! the class follows a way; the Model goes it -/
section FO1
variable {d : Nat} {h : XH} {K : Int32 → XH → Prop} {KL64 : Int64 → XH → Prop} {KU : XH → Prop} {wa va zv ta zt : Nat} {M : XM} {B : XB} {dd go stp s c f : Int} {bm : Bool}
theorem or_see (hP : CMp h M) (hm : M.ok B.g) (hs : StM M s) (hf : Tru M f) (hcn : Con M s f) (hc : 0 ≤ c ∧ c < M.n) : lor s (lnd f (zA h 84 c)) = seeS M s c f := by
  have o := hm.1
  have hn := M.n_in hm
  have sg := hP.2.2.2.2.1 c hc.1 (by omega)
  have k := seeS_in (c := c) hm hs hf
  have l1 := lnd_in (b := zA h 84 c) hf.1.1
  refine st_ext (lor_in hs.1 l1) k.1.1 (fun e a b => ?_)
  rw [dg_lor hs.1.1 l1.1 a, dg_lnd hf.1.1.1 sg.1 a, sg_dg hP hm hc ⟨a, b⟩]
  have d1 := dg_in s e
  have d2 := dg_in f e
  have l3 := lnd3 d1
  have l4 := lnd3 d2
  by_cases q : e < M.nd
  · rw [k.2 e a q]
    by_cases q2 : nr M.wd M.hg (M.dc e) c = true
    · rw [if_pos ⟨q, q2⟩, l4.1]
      by_cases q3 : dg s e = 0
      · rw [if_pos ⟨q3, q2⟩, q3]; exact l4.2.2.2.2.2.1
      · rw [if_neg (fun z => q3 z.1)]
        have := (hcn e a q).resolve_left q3
        rw [this]; exact l4.2.2.2.2.2.2
    · rw [if_neg (fun z => q2 z.2), if_neg (fun z => q2 z.2), l4.2.2.1]; exact l3.2.2.2.2.1
  · rw [if_neg (fun z => q z.1), l4.2.2.1, (k.1.2 e a b).2 (by omega), (hs.2 e a b).2 (by omega)]; decide
abbrev PFo (wa va ta : Nat) : Nat → Nat → Bool := pO (pA [wa + 1, wa + 2, wa + 3, va, ta]) (pF [(wa, 11), (wa, 12), (wa, 3)])
theorem Aimed.fr {P : Nat → Nat → Bool} {h' : XH} (f : Fr P h h') (hw : Wa wa) (p0 : ∀ a j, 80 ≤ a → a ≤ 95 → ¬ a = 91 → P a j = false) (p1 : ∀ j, P (wa + 1) j = false ∧ P va j = false) (p2 : P wa 4 = false ∧ P wa 2 = false ∧ P wa 8 = false) (hA : Aimed h wa va zv B dd M go bm stp) : Aimed h' wa va zv B dd M go bm stp := by
  obtain ⟨hP, hE, hO⟩ := hA
  refine ⟨hP.fr f (fun a j p q _ => p0 a j p (by omega) (by omega)), fun c w a b a2 b2 => ?_, hO.fr f p1 p2⟩
  have z := hE c w a b a2 b2
  unfold PE at z ⊢
  have e95 : ∀ i, zA h' 94 i = zA h 94 i := fun i => f.A (p0 _ _ (by decide) (by decide) (by decide))
  have e96 : ∀ i, zA h' 95 i = zA h 95 i := fun i => f.A (p0 _ _ (by decide) (by decide) (by decide))
  simp only [e95, e96]
  exact z
/-- the cells that were gone -/
theorem c_follow (hw : Wa wa) (ho : B.ok) (hd : 0 ≤ dd ∧ dd < B.w) (hm : M.ok B.g) (hg : 0 ≤ go ∧ go < M.n) (hL : Lay h) (hA : Aimed h wa va zv B dd M go bm stp) (hs : StM M s) (hf : Tru M f) (hcn : Con M s f) (hc : 0 ≤ c ∧ c < M.n) (hv : Vl (xp B dd M go bm) s c < 1000000000000000) (hT : gK h ta = 1 ∧ gZ h ta = zt ∧ ta < gN h) (ht : (ta = 116 ∧ zt = 601) ∨ (ta = 117 ∧ zt = 0))
    (kk : ∀ (h' : XH) (L : Nat), L ≤ 600 → (pos B dd M go bm f s c L).2 = go → (∀ t, t < L → ¬ (pos B dd M go bm f s c t).2 = go) → Fr (PFo wa va ta) h h' → Aimed h' wa va zv B dd M go bm stp → (zt = 601 → zF h' wa 3 = L + 1 ∧ ∀ t : Nat, t ≤ L → zA h' ta t = (pos B dd M go bm f s c t).2) → K (iI (pcst B dd M go bm f s c L)) h') :
    XW (d + 22) 114 0 [.ref wa, .int (iI c), .int (iI s), .int (iI f), .ref ta, .null, .null, .null, .null, .null] [] h (KI K) := by
  have o := hm.1
  have hn := M.n_in hm
  have hw' : wa = 96 ∨ wa = 101 := hw
  have vne := hA.2.2.1.1.2.2.2.2.2.2
  have hX := xp_ok (go := go) (bm := bm) ho hm hd hg
  have hV := Vl_sol hX
  obtain ⟨L, l1, l2, l3⟩ := pos_end (bm := bm) ho hd hm hg hs hf hcn hc hv
  have on := fun t => (pos_on (bm := bm) ho hd hm hg hs hf hcn hc hv t).1
  have ci := fun t => pcst_in (bm := bm) ho hd hm hg hs hf hcn hc hv t
  have key : ∀ t : Nat, t ≤ L → ∀ (h1 : XH) (X9 : Value), Fr (PFo wa va ta) h h1 → Aimed h1 wa va zv B dd M go bm stp → (zt = 601 → zF h1 wa 3 = t ∧ ∀ i : Nat, i < t → zA h1 ta i = (pos B dd M go bm f s c i).2) → XW (d + 22) 114 30 [.ref wa, .int (iI c), .int (iI s), .int (iI f), .ref ta, .int (iI (pos B dd M go bm f s c t).2), .int (iI (pos B dd M go bm f s c t).1), .int (iI (pcst B dd M go bm f s c t)), .int (iI t), X9] [] h1 (KI K) := by
    -- one turn, behind the writing down
    have turn : ∀ t : Nat, t ≤ L → (t < L → ∀ (h1 : XH) (X9 : Value), Fr (PFo wa va ta) h h1 → Aimed h1 wa va zv B dd M go bm stp → (zt = 601 → zF h1 wa 3 = ((t + 1 : Nat) : Int) ∧ ∀ i : Nat, i < t + 1 → zA h1 ta i = (pos B dd M go bm f s c i).2) → XW (d + 22) 114 30 [.ref wa, .int (iI c), .int (iI s), .int (iI f), .ref ta, .int (iI (pos B dd M go bm f s c (t + 1)).2), .int (iI (pos B dd M go bm f s c (t + 1)).1), .int (iI (pcst B dd M go bm f s c (t + 1))), .int (iI ((t + 1 : Nat) : Int)), X9] [] h1 (KI K)) → ∀ (h1 : XH) (X9 : Value), Fr (PFo wa va ta) h h1 → Aimed h1 wa va zv B dd M go bm stp → (zt = 601 → zF h1 wa 3 = ((t + 1 : Nat) : Int) ∧ ∀ i : Nat, i < t + 1 → zA h1 ta i = (pos B dd M go bm f s c i).2) → XW (d + 22) 114 61 [.ref wa, .int (iI c), .int (iI s), .int (iI f), .ref ta, .int (iI (pos B dd M go bm f s c t).2), .int (iI (pos B dd M go bm f s c t).1), .int (iI (pcst B dd M go bm f s c t)), .int (iI t), X9] [] h1 (KI K) := by
      intro t htL nxt h1 X9 f1 hA1 hz
      have hL := f1.lay hL
      have e4 := hA1.2.2.1.2.1
      obtain ⟨i1, i2, i3, i4, i5⟩ := on t
      have cit := ci t
      by_cases q : (pos B dd M go bm f s c t).2 = go
      · have tL : t = L := by
          apply Classical.byContradiction
          intro z; exact l3 t (by omega) q
        subst tL
        have kk := kk h1 t l1 l2 l3 f1 hA1 (fun z => ⟨by have := (hz z).1; omega, fun i hi => (hz z).2 i (by omega)⟩)
        refine w_iload5 r_114_61 ?_
        refine w_aload0 r_114_63 ?_
        refine v_getI r_114_64 (Wk hL hw).1 e4 ?_
        refine v_ic_ne r_114_67 (by first | exact zF_in _ _ _ | exact zA_in _ _ _ | omega) (by first | exact zF_in _ _ _ | exact zA_in _ _ _ | omega) (fun q => absurd q (by omega)) (fun _ => ?_)
        refine w_iconst (v := iI (-1)) r_114_70 rfl ?_
        refine w_goto r_114_71 ?_
        refine w_istore9 r_114_82 rfl ?_
        refine w_iload9 r_114_84 ?_
        refine w_iconst (v := iI (-1)) r_114_86 rfl ?_
        refine v_ic_ne r_114_87 (by first | exact zF_in _ _ _ | exact zA_in _ _ _ | omega) (by first | exact zF_in _ _ _ | exact zA_in _ _ _ | omega) (fun q => absurd q (by omega)) (fun _ => ?_)
        refine w_goto r_114_90 ?_
        refine w_iload7 r_114_151 ?_
        refine w_iret r_114_153 ?_
        exact kk
      · have tL : t < L := by
          apply Classical.byContradiction
          intro z
          have : t = L := by omega
          rw [this] at q; exact q l2
        have nxt := nxt tL
        have ep : pos B dd M go bm f s c (t + 1) = (seeS M (pos B dd M go bm f s c t).1 (M.nx (pos B dd M go bm f s c t).2 ((xp B dd M go bm).wy (Vl (xp B dd M go bm)) (pos B dd M go bm f s c t).1 (pos B dd M go bm f s c t).2)) f, M.nx (pos B dd M go bm f s c t).2 ((xp B dd M go bm).wy (Vl (xp B dd M go bm)) (pos B dd M go bm f s c t).1 (pos B dd M go bm f s c t).2)) := by
          show (if (pos B dd M go bm f s c t).2 = go then _ else _) = _
          rw [if_neg q]
        have ec : pcst B dd M go bm f s c (t + 1) = pcst B dd M go bm f s c t + tlB B dd M (pos B dd M go bm f s c t).1 (pos B dd M go bm f s c t).2 ((xp B dd M go bm).wy (Vl (xp B dd M go bm)) (pos B dd M go bm f s c t).1 (pos B dd M go bm f s c t).2) := by
          show _ + (if (pos B dd M go bm f s c t).2 = go then 0 else _) = _
          rw [if_neg q]
        have c1 := ci (t + 1)
        rw [ep, ec] at nxt
        rw [ec] at c1
        have best := fun KK kq => c_bestFrom (d := d) (K := KK) hw ho hd hm hg hL hA1 i1 i3 q i4 i5 kq
        have wy := Sol.wy hX hV i1 i3.1 i3.2 q i4 i5
        generalize pos B dd M go bm f s c t = p at *
        generalize (xp B dd M go bm).wy (Vl (xp B dd M go bm)) p.1 p.2 = w at *
        have nr2 : 0 ≤ M.nx p.2 w ∧ M.nx p.2 w < M.n := wy.2.2.1
        have st2 := (seeS_in (c := M.nx p.2 w) hm i1 hf).1
        generalize hp2 : p.2 = pc at *
        generalize hp1 : p.1 = ps at *
        refine w_iload5 r_114_61 ?_
        refine w_aload0 r_114_63 ?_
        refine v_getI r_114_64 (Wk hL hw).1 e4 ?_
        refine v_ic_ne r_114_67 (by first | exact zF_in _ _ _ | exact zA_in _ _ _ | omega) (by first | exact zF_in _ _ _ | exact zA_in _ _ _ | omega) (fun _ => ?_) (fun q => absurd q (by omega))
        refine w_aload0 r_114_74 ?_
        refine w_iload6 r_114_75 ?_
        refine w_iload5 r_114_77 ?_
        refine k_113 r_114_79 (Wk hL hw).1 (Nat.le_of_ble_eq_true rfl) ?_
        refine best _ (fun h2 f2 hA2 => ?_)
        have hL := f2.lay hL
        have hP := hA2.1
        have e85 : gI h2 85 (pc * 4 + w).toNat = iI (M.nx pc w) := by rw [gI_A, hP.2.2.2.2.2.2 pc w i3.1 i3.2 wy.1.1 wy.1.2]
        have sg := hP.2.2.2.2.1 (M.nx pc w) nr2.1 (by omega)
        have os := or_see (c := M.nx pc w) hP hm i1 hf i2 nr2
        have l1 := lnd_in (b := zA h2 84 (M.nx pc w)) hf.1.1
        refine w_istore9 r_114_82 rfl ?_
        refine w_iload9 r_114_84 ?_
        refine w_iconst (v := iI (-1)) r_114_86 rfl ?_
        refine v_ic_ne r_114_87 (by first | exact zF_in _ _ _ | exact zA_in _ _ _ | omega) (by first | exact zF_in _ _ _ | exact zA_in _ _ _ | omega) (fun _ => ?_) (fun q => absurd q (by omega))
        refine w_iload7 r_114_93 ?_
        refine w_aload0 r_114_95 ?_
        refine w_getA (x := 91) r_114_96 (Wk hL hw).1 (Wk0 hL hw).2 (by decide) ?_
        refine w_iload5 r_114_99 ?_
        refine w_iload9 r_114_101 ?_
        refine w_iload6 r_114_103 ?_
        refine k_86 r_114_105 (Lk_91 hL) (Nat.le_of_ble_eq_true rfl) ?_
        refine c_toll hL hP hm hA2.2.1 i3 wy.1 i1.1 (fun e a b => ((i1.2 e a (by omega)).1 b)) ?_
        refine v_iadd r_114_108 ?_
        refine w_istore7 r_114_109 rfl ?_
        refine w_aload0 r_114_111 ?_
        refine w_getA (x := 80) r_114_112 (Wk hL hw).1 (Wk0 hL hw).1 (by decide) ?_
        refine w_getA (x := 85) r_114_115 (Lk_80 hL) (Lr_80_9 hL) (by decide) ?_
        refine w_iload5 r_114_118 ?_
        refine w_iconst (v := iI (4)) r_114_120 rfl ?_
        refine v_imul r_114_121 ?_
        refine w_iload9 r_114_122 ?_
        refine v_iadd r_114_124 ?_
        refine v_iald r_114_125 (Lk_85 hL) (Lz_85 hL) (by decide) (by omega) e85 ?_
        refine w_istore5 r_114_126 rfl ?_
        refine w_iload6 r_114_128 ?_
        refine w_iload3 r_114_130 ?_
        refine w_aload0 r_114_131 ?_
        refine w_getA (x := 80) r_114_132 (Wk hL hw).1 (Wk0 hL hw).1 (by decide) ?_
        refine w_getA (x := 84) r_114_135 (Lk_80 hL) (Lr_80_8 hL) (by decide) ?_
        refine w_iload5 r_114_138 ?_
        refine v_iald r_114_140 (Lk_84 hL) (Lz_84 hL) (by decide) (by omega) (gI_A h2 84 _) ?_
        refine v_iandN (hs := hf.1.1.1) (he := sg.1) r_114_141 ?_
        refine v_iorN (hs := i1.1.1) (he := l1.1) r_114_142 ?_
        rw [os] 
        refine w_istore6 r_114_143 rfl ?_
        refine w_iinc8 r_114_145 rfl (iI_add _ _) ?_
        refine w_goto r_114_148 ?_
        refine nxt h2 _ (f1.trans (f2.mono (fun a j q => by simp [pO, pA, pF] at q ⊢; omega))) hA2 (fun z => ⟨?_, fun i hi => ?_⟩)
        · rw [f2.F (by simp [pO, pA, pF]; omega)]; exact (hz z).1
        · rw [f2.A (by simp [pO, pA, pF]; omega)]; exact (hz z).2 i hi
    have st : ∀ t : Nat, t ≤ L → (t < L → ∀ (h1 : XH) (X9 : Value), Fr (PFo wa va ta) h h1 → Aimed h1 wa va zv B dd M go bm stp → (zt = 601 → zF h1 wa 3 = ((t + 1 : Nat) : Int) ∧ ∀ i : Nat, i < t + 1 → zA h1 ta i = (pos B dd M go bm f s c i).2) → XW (d + 22) 114 30 [.ref wa, .int (iI c), .int (iI s), .int (iI f), .ref ta, .int (iI (pos B dd M go bm f s c (t + 1)).2), .int (iI (pos B dd M go bm f s c (t + 1)).1), .int (iI (pcst B dd M go bm f s c (t + 1))), .int (iI ((t + 1 : Nat) : Int)), X9] [] h1 (KI K)) → ∀ (h1 : XH) (X9 : Value), Fr (PFo wa va ta) h h1 → Aimed h1 wa va zv B dd M go bm stp → (zt = 601 → zF h1 wa 3 = t ∧ ∀ i : Nat, i < t → zA h1 ta i = (pos B dd M go bm f s c i).2) → XW (d + 22) 114 30 [.ref wa, .int (iI c), .int (iI s), .int (iI f), .ref ta, .int (iI (pos B dd M go bm f s c t).2), .int (iI (pos B dd M go bm f s c t).1), .int (iI (pcst B dd M go bm f s c t)), .int (iI t), X9] [] h1 (KI K) := by
      intro t htL nxt h1 X9 f1 hA1 hz
      have hL := f1.lay hL
      have i3 := (on t).2.2.1
      have hT : gK h1 ta = 1 ∧ gZ h1 ta = zt ∧ ta < gN h1 := ⟨by rw [f1.K]; exact hT.1, by rw [f1.Z]; exact hT.2.1, f1.n hT.2.2⟩
      rcases ht with ⟨t1, t2⟩ | ⟨t1, t2⟩
      · obtain ⟨z1, z2⟩ := hz t2
        have F2 : Fr (PFo wa va ta) h1 (sI (sI h1 ta ((t : Int)).toNat (iI (pos B dd M go bm f s c t).2)) wa 3 (iI ((t : Int) + 1))) := ((Fr.refl _ _).sI ta _ _ (by simp [pO, pA])).sI wa 3 _ (by simp [pO, pF])
        have F3 : Fr (pO (pA [ta]) (pF [(wa, 3)])) h1 (sI (sI h1 ta ((t : Int)).toNat (iI (pos B dd M go bm f s c t).2)) wa 3 (iI ((t : Int) + 1))) := ((Fr.refl _ _).sI ta _ _ (by simp [pO, pA])).sI wa 3 _ (by simp [pO, pF])
        refine w_iload8 r_114_30 ?_
        refine w_sipush (v := iI (601)) r_114_32 rfl ?_
        refine v_ic_ge r_114_35 (by first | exact zF_in _ _ _ | exact zA_in _ _ _ | omega) (by first | exact zF_in _ _ _ | exact zA_in _ _ _ | omega) (fun q => absurd q (by omega)) (fun _ => ?_)
        refine w_iload8 r_114_38 ?_
        refine w_aload4 r_114_40 ?_
        refine v_len r_114_42 (by rw [hT.1]; decide) hT.2.1 ?_
        refine v_ic_ge r_114_43 (by first | exact zF_in _ _ _ | exact zA_in _ _ _ | omega) (by first | exact zF_in _ _ _ | exact zA_in _ _ _ | omega) (fun q => absurd q (by omega)) (fun _ => ?_)
        refine w_aload4 r_114_46 ?_
        refine w_iload8 r_114_48 ?_
        refine w_iload5 r_114_50 ?_
        refine v_iast r_114_52 hT.1 hT.2.2 hT.2.1 (by omega) (by omega) ?_
        refine w_aload0 r_114_53 ?_
        refine w_iload8 r_114_54 ?_
        refine w_iconst (v := iI (1)) r_114_56 rfl ?_
        refine v_iadd r_114_57 ?_
        refine w_putI r_114_58 (Wk hL hw).1 (Wk hL hw).2.1 ?_
        refine turn t htL nxt _ X9 (f1.trans F2) (hA1.fr F3 hw (fun a j p q n => by simp [pO, pA, pF]; omega) (fun j => by simp [pO, pA, pF]; omega) (by simp [pO, pA, pF]; omega)) (fun _ => ⟨?_, fun i hi => ?_⟩)
        · rw [zF_s (by omega)]; rfl
        · rw [zA_o _ (by omega), zA_s (by omega) (by omega) (by omega)]
          by_cases z : i = t
          · rw [if_pos (by omega), z]
          · rw [if_neg (by omega)]; exact z2 i (by omega)
      · refine w_iload8 r_114_30 ?_
        refine w_sipush (v := iI (601)) r_114_32 rfl ?_
        refine v_ic_ge r_114_35 (by first | exact zF_in _ _ _ | exact zA_in _ _ _ | omega) (by first | exact zF_in _ _ _ | exact zA_in _ _ _ | omega) (fun q => absurd q (by omega)) (fun _ => ?_)
        refine w_iload8 r_114_38 ?_
        refine w_aload4 r_114_40 ?_
        refine v_len r_114_42 (by rw [hT.1]; decide) hT.2.1 ?_
        refine v_ic_ge r_114_43 (by first | exact zF_in _ _ _ | exact zA_in _ _ _ | omega) (by first | exact zF_in _ _ _ | exact zA_in _ _ _ | omega) (fun _ => ?_) (fun q => absurd q (by omega))
        exact turn t htL nxt h1 X9 f1 hA1 (fun z => by omega)
    intro t ht2
    have goDown : ∀ k t : Nat, t + k = L → ∀ (h1 : XH) (X9 : Value), Fr (PFo wa va ta) h h1 → Aimed h1 wa va zv B dd M go bm stp → (zt = 601 → zF h1 wa 3 = t ∧ ∀ i : Nat, i < t → zA h1 ta i = (pos B dd M go bm f s c i).2) → XW (d + 22) 114 30 [.ref wa, .int (iI c), .int (iI s), .int (iI f), .ref ta, .int (iI (pos B dd M go bm f s c t).2), .int (iI (pos B dd M go bm f s c t).1), .int (iI (pcst B dd M go bm f s c t)), .int (iI t), X9] [] h1 (KI K) := by
      intro k
      induction k with
      | zero => intro t e; exact st t (by omega) (fun z => by omega)
      | succ k ih => intro t e; exact st t (by omega) (fun _ => ih (t + 1) (by omega))
    exact goDown (L - t) t (by omega)
  have hP := hA.1
  have sg := hP.2.2.2.2.1 c hc.1 (by omega)
  have os := or_see (c := c) hP hm hs hf hcn hc
  have l4 := lnd_in (b := zA h 84 c) hf.1.1
  have F1 : Fr (pF [(wa, 3)]) h (sI h wa 3 (iI 0)) := (Fr.refl _ _).sI wa 3 _ (by simp [pF])
  have k0 := key 0 (by omega) (sI h wa 3 (iI 0)) .null (F1.mono (fun a j q => by simp [pO, pA, pF] at q ⊢; omega)) (hA.fr F1 hw (fun a j p q n => by simp [pF]; omega) (fun j => by simp [pF]; omega) (by simp [pF])) (fun _ => ⟨by rw [zF_s (by decide)]; rfl, fun i hi => by omega⟩)
  refine w_iload1 r_114_0 ?_
  refine w_istore5 r_114_1 rfl ?_
  refine w_iload2 r_114_3 ?_
  refine w_iload3 r_114_4 ?_
  refine w_aload0 r_114_5 ?_
  refine w_getA (x := 80) r_114_6 (Wk hL hw).1 (Wk0 hL hw).1 (by decide) ?_
  refine w_getA (x := 84) r_114_9 (Lk_80 hL) (Lr_80_8 hL) (by decide) ?_
  refine w_iload5 r_114_12 ?_
  refine v_iald r_114_14 (Lk_84 hL) (Lz_84 hL) (by decide) (by omega) (gI_A h 84 _) ?_
  refine v_iandN (hs := hf.1.1.1) (he := sg.1) r_114_15 ?_
  refine v_iorN (hs := hs.1.1) (he := l4.1) r_114_16 ?_
  rw [os] 
  refine w_istore6 r_114_17 rfl ?_
  refine w_iconst (v := iI (0)) r_114_19 rfl ?_
  refine w_istore7 r_114_20 rfl ?_
  refine w_aload0 r_114_22 ?_
  refine w_iconst (v := iI (0)) r_114_23 rfl ?_
  refine w_putI r_114_24 (Wk hL hw).1 (Wk hL hw).2.1 ?_
  refine w_iconst (v := iI (0)) r_114_27 rfl ?_
  refine w_istore8 r_114_28 rfl ?_
  exact k0
end FO1
