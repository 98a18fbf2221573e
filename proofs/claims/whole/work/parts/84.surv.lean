/-! digging: the class's survey, once its rows are made -/
section SV
variable {d : Nat} {h : XH} {K : Int32 → XH → Prop} {KU : XH → Prop} {B : XB} {rb a0 : Nat} {V : Int → Int}
theorem CLc.fr {P : Nat → Nat → Bool} {h' : XH} {n : Int} (f : Fr P h h') (c : CLc h a0 B n) (p0 : ∀ j, P a0 j = false) (p1 : ∀ j, P (a0 + 1) j = false) (p5 : P 107 5 = false) : CLc h' a0 B n := by
  refine ⟨fun x a b v => ?_, ?_⟩
  · rw [f.A (p0 _), f.A (p1 _)]; exact c.1 x a b v
  · rw [f.F p5]; exact c.2
theorem CAf.fr {P : Nat → Nat → Bool} {h' : XH} (f : Fr P h h') (c : CAf h a0 B) (p2 : ∀ j, P (a0 + 2) j = false) : CAf h' a0 B := fun s a b m m0 m1 => by rw [f.A (p2 _)]; exact c s a b m m0 m1
theorem aft_same {s s' t x : Int} (ho : B.ok) (hx : 0 ≤ x ∧ x ≤ 4) (he : cds B s = cds B s') : aft B s t x = aft B s' t x := by
  unfold aft
  rw [cds_cnt ho he x hx.1 hx.2, nxc_same ho he]
theorem nmb_lt {s : Int} (ho : B.ok) : nmb B (cds B s) < nmb B 2401 := by
  have ci := cds_in (s := s) ho
  exact nuW_lt (W := B.w) (m := (cds B s).toNat) (n := 2401) (by omega) (by rw [show (((cds B s).toNat : Nat) : Int) = cds B s by omega]; exact vld_cds ho)
theorem LB.init {h3 : XH} (hV : DSl B 1024 V) (ho : B.ok) (e3 : ∀ i : Nat, i < 210 → gI h3 (a0 + 3) i = iI 536870912) : LB B V (sI h3 (a0 + 3) (0 : Int).toNat (iI 0)) a0 := by
  have yz : ∀ i, 0 ≤ i → zA (sI h3 (a0 + 3) (0 : Int).toNat (iI 0)) (a0 + 3) i = if i = 0 then 0 else zA h3 (a0 + 3) i := fun i i0 => zA_s (by decide) i0 (by decide)
  refine ⟨by rw [yz 0 (by decide), if_pos rfl], fun s a b => ?_⟩
  have ci := cds_in (s := s) ho
  have ni := nmb_in (x := cds B s) ho ci
  have n2 := ni.2.2 (vld_cds ho)
  have t := tgt_in hV ho a b
  rw [yz _ ni.1]
  by_cases q : nmb B (cds B s) = 0
  · have z : s = 0 := by
      apply Classical.byContradiction
      intro z
      have := nmb_pos ho a b z
      omega
    have : tgt V s = 0 := by unfold tgt; rw [z, hV.zero]; rfl
    rw [if_pos q, this]; decide
  · have e : zA h3 (a0 + 3) (nmb B (cds B s)) = 536870912 := zA_of (e3 _ (by omega)) (by decide)
    rw [if_neg q, e]; omega
/-- what a survey may change -/
abbrev pS (a0 : Nat) : Nat → Nat → Bool := pO (pA [110, a0, a0 + 1, a0 + 2, a0 + 3]) (pF [(107, 5)])
theorem c_surveyOn {X1 : Value} (hL : Lay h) (hU : Unt h) (hb : rb = 6 ∨ rb = 20) (hr : gR h 107 0 = rb) (hC : CBk h rb B) (ho : B.ok) (hD : DA h a0) (hV : DSl B 1024 V) (kk : ∀ h', Fr (pS a0) h h' → CLc h' a0 B 2401 → CAf h' a0 B → CLf B V h' a0 → KU h') : XW (d + 4) 32 66 [.ref 107, X1] [] h (KV KU) := by
  have o := ho.1
  have a156 := hD.2.2.2.1
  have fin : ∀ r : Nat, r ≤ 210 → ∀ h4, Fr (pS a0) h h4 → CLc h4 a0 B 2401 → CAf h4 a0 B → LB B V h4 a0 → LX B V h4 a0 r → XW (d + 4) 32 109 [.ref 107, .int (iI r)] [] h4 (KV KU) := by
    refine upto _ ?_ ?_
    · intro h4 f c a l x
      have hL := f.lay hL
      refine w_iload1 r_32_109 ?_
      refine w_sipush (v := iI (210)) r_32_110 rfl ?_
      refine v_ic_ge r_32_113 (by first | exact zF_in _ _ _ | exact zA_in _ _ _ | omega) (by first | exact zF_in _ _ _ | exact zA_in _ _ _ | omega) (fun _ => ?_) (fun q => absurd q (by omega))
      refine w_vret r_32_132 ?_
      exact kk h4 f c a (LX.done hV ho l x)
    · intro r hr5 ih h4 f c a l x
      have hL := f.lay hL
      have hD := hD.fr f
      have hC := hC.fr f hb (fun a j p q => by simp [pO, pA, pF]; omega)
      have hr := (f.R 107 0).trans hr
      have tl : ∀ h5 fl, LsI B V a0 h4 h5 fl (nmb B 2401) 0 → XW (d + 4) 32 120 [.ref 107, .int (iI r)] [.int (iI fl)] h5 (KV KU) := by
        intro h5 fl I
        have f5 := I.1
        have hL := f5.lay hL
        have c5 := c.fr f5 (fun j => by simp [pA]) (fun j => by simp [pA]) (by simp [pA]; omega)
        have a5 := a.fr f5 (fun j => by simp [pA])
        have F5 : Fr (pS a0) h h5 := f.trans (f5.mono (fun a j q => by simp [pO, pA, pF] at q ⊢; omega))
        rcases I.2.2.2.2.1 with e | e
        · subst e
          have L := LX.stop hV ho I
          refine v_if_ne r_32_120 (by first | exact zF_in _ _ _ | exact zA_in _ _ _ | omega) (fun q => absurd q (by decide)) (fun _ => ?_)
          refine w_goto r_32_123 ?_
          refine w_vret r_32_132 ?_
          exact kk h5 F5 c5 a5 L
        · subst e
          have J := ih h5 F5 c5 a5 I.2.2.1 (LX.step hV ho I x)
          refine v_if_ne r_32_120 (by first | exact zF_in _ _ _ | exact zA_in _ _ _ | omega) (fun _ => ?_) (fun q => absurd q (by decide))
          refine w_iinc1 r_32_126 rfl (iI_add _ _) ?_
          refine w_goto r_32_129 ?_
          exact J
      refine w_iload1 r_32_109 ?_
      refine w_sipush (v := iI (210)) r_32_110 rfl ?_
      refine v_ic_ge r_32_113 (by first | exact zF_in _ _ _ | exact zA_in _ _ _ | omega) (by first | exact zF_in _ _ _ | exact zA_in _ _ _ | omega) (fun q => absurd q (by omega)) (fun _ => ?_)
      refine w_aload0 r_32_116 ?_
      refine k_37 r_32_117 (Lk_107 hL) (Nat.le_of_ble_eq_true rfl) ?_
      refine c_lessen (V := V) hL hb hr hC ho hD a c.2 hV l (fun h5 fl I => ?_)
      exact tl h5 fl I
  obtain ⟨NB, eN⟩ : ∃ NB, NB = nmb B 2401 := ⟨_, rfl⟩
  have nlt : ∀ s, nmb B (cds B s) < NB := fun s => by rw [eN]; exact nmb_lt ho
  have nst : ∀ j : Int, 0 ≤ j → j < NB → ∃ s : Int, (0 ≤ s ∧ s < 5 ^ B.w.toNat) ∧ j = nmb B (cds B s) := fun j a b => num_st ho a (by rw [← eN]; exact b)
  have nB : 0 ≤ NB ∧ NB ≤ 210 := by
    have u := nuW_le (W := B.w) (by omega) 2401
    rw [cnV_all] at u
    rw [eN]
    exact u
  have jl : ∀ n : Nat, n ≤ NB.toNat → ∀ h2, Fr (pS a0) h h2 → CLc h2 a0 B 2401 → (∀ s, 0 ≤ s → s < 5 ^ B.w.toNat → nmb B (cds B s) < n → ∀ m, 0 ≤ m → m < 5 * B.t → zA h2 (a0 + 2) (nmb B (cds B s) * 30 + m) = aft B s (m / 5) (m % 5)) → XW (d + 4) 32 72 [.ref 107, .int (iI n)] [] h2 (KV KU) := by
    refine upto _ ?_ ?_
    · intro h2 f c w
      have hL := f.lay hL
      have hD := hD.fr f
      have g5 : gI h2 107 5 = iI NB := by rw [gI_F, c.2, eN]
      have e1 : (NB.toNat : Int) = NB := by omega
      have a : CAf h2 a0 B := fun s s0 s1 m m0 m1 => w s s0 s1 (by rw [e1]; exact nlt s) m m0 m1
      rw [e1]
      have go : ∀ h3, Fr (pA [a0 + 3]) h2 h3 → (∀ i : Nat, gI h3 (a0 + 3) i = if i < 210 then iI 536870912 else gI h2 (a0 + 3) i) → XW (d + 4) 32 100 [.ref 107, .int (iI NB)] [] h3 (KV KU) := by
        intro h3 f3 e3
        have hL := f3.lay hL
        have hD := hD.fr f3
        have F4 : Fr (pA [a0 + 3]) h2 (sI h3 (a0 + 3) (0 : Int).toNat (iI 0)) := f3.sI _ _ _ (by simp [pA])
        have lb : LB B V (sI h3 (a0 + 3) (0 : Int).toNat (iI 0)) a0 := LB.init hV ho (fun i hi => by rw [e3 i, if_pos hi])
        have J := fin 0 (by omega) _ (f.trans (F4.mono (fun a j q => by simp [pO, pA, pF] at q ⊢; omega))) (c.fr F4 (fun j => by simp [pA]) (fun j => by simp [pA]) (by simp [pA]; omega)) (a.fr F4 (fun j => by simp [pA])) lb (LX.zero hV ho lb)
        refine w_aload0 r_32_100 ?_
        refine w_getA (x := a0 + 3) r_32_101 (Lk_107 hL) hD.1.2.2.2.1 (by omega) ?_
        refine w_iconst (v := iI (0)) r_32_104 rfl ?_
        refine w_iconst (v := iI (0)) r_32_105 rfl ?_
        refine v_iast r_32_106 hD.2.1.2.2.2.1 hD.n3 hD.2.2.1.2.2.2.1 (by decide) (by omega) ?_
        refine w_iconst (v := iI (0)) r_32_107 rfl ?_
        refine w_istore1 r_32_108 rfl ?_
        exact J
      refine w_iload1 r_32_72 ?_
      refine w_aload0 r_32_73 ?_
      refine v_getI r_32_74 (Lk_107 hL) g5 ?_
      refine v_ic_ge r_32_77 (by first | exact zF_in _ _ _ | exact zA_in _ _ _ | omega) (by first | exact zF_in _ _ _ | exact zA_in _ _ _ | omega) (fun _ => ?_) (fun q => absurd q (by omega))
      refine w_aload0 r_32_91 ?_
      refine w_getA (x := a0 + 3) r_32_92 (Lk_107 hL) hD.1.2.2.2.1 (by omega) ?_
      refine w_ldcI (v := iI 536870912) r_32_95 rfl ?_
      refine k_281 r_32_97 (Nat.le_of_ble_eq_true rfl) ?_
      refine c_fill (n := 210) hD.2.1.2.2.2.1 hD.2.2.1.2.2.2.1 (by omega) hD.n3 (fun h3 f3 e3 => ?_)
      exact go h3 f3 e3
    · intro n hn ih h2 f c w
      have hL := f.lay hL
      have hD := hD.fr f
      have hC := hC.fr f hb (fun a j p q => by simp [pO, pA, pF]; omega)
      have hr := (f.R 107 0).trans hr
      have hU := hU.fr f (fun j => by simp [pO, pA, pF]; have := hD.2.2.2.2; have := hL.2.2.2.1; omega)
      have g5 : gI h2 107 5 = iI NB := by rw [gI_F, c.2, eN]
      obtain ⟨s, hs, hj⟩ := nst n (by omega) (by omega)
      refine w_iload1 r_32_72 ?_
      refine w_aload0 r_32_73 ?_
      refine v_getI r_32_74 (Lk_107 hL) g5 ?_
      refine v_ic_ge r_32_77 (by first | exact zF_in _ _ _ | exact zA_in _ _ _ | omega) (by first | exact zF_in _ _ _ | exact zA_in _ _ _ | omega) (fun q => absurd q (by omega)) (fun _ => ?_)
      refine w_aload0 r_32_80 ?_
      refine w_iload1 r_32_81 ?_
      refine k_35 r_32_82 (Lk_107 hL) (Nat.le_of_ble_eq_true rfl) ?_
      refine c_listMoves (s := s) hL hU hb hr hC ho hD c hj (fun h3 f3 w1 w2 => ?_)
      have hL := f3.lay hL
      refine w_iinc1 r_32_85 rfl (iI_add _ _) ?_
      refine w_goto r_32_88 ?_
      refine ih h3 (f.trans (f3.mono (fun a j q => by simp [pO, pA, pF] at q ⊢; omega))) (c.fr f3 (fun j => by simp [pA]; omega) (fun j => by simp [pA]; omega) (by simp [pA]; omega)) (fun s' s0 s1 q m m0 m1 => ?_)
      have ci := cds_in (s := s) ho
      have ci' := cds_in (s := s') ho
      have ni := nmb_in (x := cds B s') ho ci'
      by_cases z : nmb B (cds B s') = n
      · have ee : cds B s' = cds B s := nmb_inj ci'.1 ci.1 (vld_cds ho) (vld_cds ho) (by rw [z, hj])
        rw [z, w1 m m0 m1]
        exact (aft_same ho (by omega) ee).symm
      · rw [w2 _ (by omega) (by omega)]
        exact w s' s0 s1 (by omega) m m0 m1
  refine w_aload0 r_32_66 ?_
  refine k_33 r_32_67 (Lk_107 hL) (Nat.le_of_ble_eq_true rfl) ?_
  refine c_listCounts hL hU hb hr hC ho hD (fun h2 f2 c2 => ?_)
  have hL := f2.lay hL
  refine w_iconst (v := iI (0)) r_32_70 rfl ?_
  refine w_istore1 r_32_71 rfl ?_
  exact jl 0 (by omega) h2 (f2.mono (fun a j q => by simp [pO, pA, pF] at q ⊢; omega)) c2 (fun s s0 s1 q => by have := (nmb_in (x := cds B s) ho (cds_in ho)).1; omega)
end SV
