/-! the class: values from a state; the best way -/
section SE3
variable {d : Nat} {h : XH} {K : Int32 → XH → Prop} {KL64 : Int64 → XH → Prop} {KU : XH → Prop} {wa va zv : Nat} {hp sl val : Int → Int} {sz n i x : Int} {M : XM} {B : XB} {dd go stp : Int} {bm : Bool}
theorem c_seeing {k : Nat} (hw : Wa wa) (ho : B.ok) (hd : 0 ≤ dd ∧ dd < B.w) (hm : M.ok B.g) (hg : 0 ≤ go ∧ go < M.n) (N : SeeT wa va zv B dd M go bm stp k (3 * k + 4) (3 * k + 1) (fun s c => c = go ∨ ¬ (xp B dd M go bm).nw s c = -1) 1) (S : SetT wa va zv B dd M go bm stp k (3 * k + 5) (3 * k + 2)) :
    SeeT wa va zv B dd M go bm stp k (3 * k + 6) (3 * k + 3) (fun _ _ => True) 0 := by
  intro D h KL64 s c dp hD hL hP hE hO hs hc hk hdp hdp2 _ kk
  by_cases q : c = go ∨ ¬ (xp B dd M go bm).nw s c = -1
  · exact N D h KL64 s c dp (by omega) hL hP hE hO hs hc hk hdp (by omega) q (fun h' f o k => kk h' f o (k.le (by omega)))
  obtain ⟨D, rfl⟩ : ∃ D', D = D' + 6 := ⟨D - 6, by omega⟩
  have q1 : ¬ c = go := fun z => q (Or.inl z)
  have q2 : (xp B dd M go bm).nw s c = -1 := by
    apply Classical.byContradiction
    intro z; exact q (Or.inr z)
  have o := hm.1
  have hn := M.n_in hm
  have hs1 := hs.1
  have eN : (xp B dd M go bm).nw s c = fst1 (fun e => decide (dg s e = 0) && nr M.wd M.hg (M.dc e) c) M.nd.toNat 0 := rfl
  have zv1 := hO.1.1.2.2.2.2.2.1
  have s0 := Int.mul_nonneg hs1.1 (show 0 ≤ M.n by omega)
  have sm := hO.2.2.1 s hs
  refine w_iload2 r_106_0 ?_
  refine w_aload0 r_106_1 ?_
  refine v_getI r_106_2 (Wk hL hw).1 (hO.1.2.1) ?_
  refine v_ic_ne r_106_5 (by first | exact zF_in _ _ _ | exact zA_in _ _ _ | omega) (by first | exact zF_in _ _ _ | exact zA_in _ _ _ | omega) (fun _ => ?_) (fun q => absurd q (by omega))
  refine w_iload3 r_106_10 ?_
  refine w_bipush (v := iI (40)) r_106_11 rfl ?_
  refine v_ic_le r_106_13 (by first | exact zF_in _ _ _ | exact zA_in _ _ _ | omega) (by first | exact zF_in _ _ _ | exact zA_in _ _ _ | omega) (fun _ => ?_) (fun q => absurd q (by omega))
  refine w_aload0 r_106_20 ?_
  refine w_getA (x := 80) r_106_21 (Wk hL hw).1 (Wk0 hL hw).1 (by decide) ?_
  refine w_iload1 r_106_24 ?_
  refine w_iload2 r_106_25 ?_
  refine k_64 r_106_26 (Lk_80 hL) (Nat.le_of_ble_eq_true rfl) ?_
  refine c_firstUnseen hL hP hm hs1 hc ?_
  rw [← eN, q2] 
  refine w_istore4 r_106_29 rfl ?_
  refine w_iload4 r_106_31 ?_
  refine w_iconst (v := iI (-1)) r_106_33 rfl ?_
  refine v_ic_ne r_106_34 (by first | exact zF_in _ _ _ | exact zA_in _ _ _ | omega) (by first | exact zF_in _ _ _ | exact zA_in _ _ _ | omega) (fun q => absurd q (by decide)) (fun _ => ?_)
  refine w_aload0 r_106_37 ?_
  refine w_iload1 r_106_38 ?_
  refine w_iload3 r_106_39 ?_
  refine w_iconst (v := iI (1)) r_106_40 rfl ?_
  refine v_iadd r_106_41 ?_
  refine k_107 r_106_42 (Wk hL hw).1 (Nat.le_of_ble_eq_true rfl) ?_
  refine S (D + 5) h _ s (dp + 1) (by omega) hL hP hE hO hs hk (by omega) (by omega) (fun h1 f1 hO1 hK1 hst => ?_)
  have hL := f1.lay hL
  have hW := hO1.1.1
  obtain ⟨hP, hE⟩ := PWs_fr hw hO.1.1.2.2.2.2.2.2 f1 hP hE
  have ec : gI h1 80 2 = iI M.n := by rw [gI_F, hP.1.2.2.1]
  have ev := (hO1.2.1 s hs hst).at (c := c) hc
  refine w_aload0 r_106_45 ?_
  refine w_getA (x := va) r_106_46 (Wk hL hw).1 hW.1 hW.2.2.2.2.1 ?_
  refine w_iload1 r_106_49 ?_
  refine w_aload0 r_106_50 ?_
  refine w_getA (x := 80) r_106_51 (Wk hL hw).1 (Wk0 hL hw).1 (by decide) ?_
  refine v_getI r_106_54 (Lk_80 hL) ec ?_
  refine v_imul r_106_57 ?_
  refine w_iload2 r_106_58 ?_
  refine v_iadd r_106_59 ?_
  refine v_lald r_106_60 hW.2.1 hW.2.2.1 (by omega) (by omega) ev ?_
  refine w_lret r_106_61 ?_
  exact kk h1 f1 hO1 (by rw [Int.add_zero]; exact hK1)
theorem c_all (hw : Wa wa) (ho : B.ok) (hd : 0 ≤ dd ∧ dd < B.w) (hm : M.ok B.g) (hg : 0 ≤ go ∧ go < M.n) : ∀ k : Nat, SeeT wa va zv B dd M go bm stp k (3 * k + 6) (3 * k + 3) (fun _ _ => True) 0 ∧ SetT wa va zv B dd M go bm stp k (3 * k + 5) (3 * k + 2) := by
  intro k
  induction k with
  | zero =>
    have N := c_news (va := va) (zv := zv) (stp := stp) (bm := bm) (k := 0) hw ho hd hm hg (Or.inl rfl)
    have S := c_settle hw ho hd hm hg N
    exact ⟨c_seeing hw ho hd hm hg N S, S⟩
  | succ k ih =>
    have N := c_news (va := va) (zv := zv) (stp := stp) (bm := bm) (k := k + 1) hw ho hd hm hg (Or.inr ⟨k, rfl, ih.1⟩)
    have S := c_settle hw ho hd hm hg N
    exact ⟨c_seeing hw ho hd hm hg N S, S⟩
/-- a Ways is aimed, the land is prepared -/
def Aimed (h : XH) (wa va zv : Nat) (B : XB) (dd : Int) (M : XM) (go : Int) (bm : Bool) (stp : Int) : Prop := CMp h M ∧ Prep h B dd M ∧ WOk h wa va zv B dd M go bm stp
theorem opn5 (hm : M.ok B.g) (ho : B.ok) (hd : 0 ≤ dd ∧ dd < B.w) (hg : 0 ≤ go ∧ go < M.n) {s : Int} : (xp B dd M go bm).opn s ≤ (5 : Nat) := by
  have o := hm.1
  have := opn_in (P := xp B dd M go bm) (s := s) (xp_ok ho hm hd hg)
  have e : (xp B dd M go bm).nd = M.nd := rfl
  omega
theorem c_valueFrom {s c : Int} (hw : Wa wa) (ho : B.ok) (hd : 0 ≤ dd ∧ dd < B.w) (hm : M.ok B.g) (hg : 0 ≤ go ∧ go < M.n) (hL : Lay h) (hA : Aimed h wa va zv B dd M go bm stp) (hs : StM M s) (hc : 0 ≤ c ∧ c < M.n) (kk : ∀ h', Fr (PWs wa va) h h' → Aimed h' wa va zv B dd M go bm stp → KL64 (iL (cvv (Vl (xp B dd M go bm) s c))) h') : XW (d + 22) 103 0 [.ref wa, .int (iI s), .int (iI c)] [] h (KL KL64) := by
  obtain ⟨hP, hE, hO⟩ := hA
  refine w_aload0 r_103_0 ?_
  refine w_iload1 r_103_1 ?_
  refine w_iload2 r_103_2 ?_
  refine w_iconst (v := iI (0)) r_103_3 rfl ?_
  refine k_106 r_103_4 (Wk hL hw).1 (Nat.le_of_ble_eq_true rfl) ?_
  refine (c_all hw ho hd hm hg 5).1 (d + 21) h _ s c 0 (by omega) hL hP hE hO hs hc (opn5 hm ho hd hg) (by decide) (by decide) trivial (fun h1 f1 hO1 hK1 => ?_)
  refine w_lret r_103_7 ?_
  obtain ⟨hP1, hE1⟩ := PWs_fr hw hO.1.1.2.2.2.2.2.2 f1 hP hE
  exact kk h1 f1 ⟨hP1, hE1, hO1⟩
/-- over a doubt's choices, as the class takes them together -/
theorem c_valueTold {s e c : Int} (hw : Wa wa) (ho : B.ok) (hd : 0 ≤ dd ∧ dd < B.w) (hm : M.ok B.g) (hg : 0 ≤ go ∧ go < M.n) (hL : Lay h) (hA : Aimed h wa va zv B dd M go bm stp) (hs : StM M s) (he : 0 ≤ e ∧ e < M.nd) (h0 : dg s e = 0) (hc : 0 ≤ c ∧ c < M.n) (hf : Vl (xp B dd M go bm) s c < 1000000000000000)
    (kk : ∀ h', Fr (PWs wa va) h h' → Aimed h' wa va zv B dd M go bm stp → KL64 (iL (if bm = true then sumTo (fun k => M.wt e (chc M e k) * Vl (xp B dd M go bm) (tel s e k) c) (mny M e).toNat else maxTo (fun k => Vl (xp B dd M go bm) (tel s e k) c) (mny M e).toNat)) h') : XW (d + 23) 104 0 [.ref wa, .int (iI s), .int (iI e), .int (iI c), .null, .null, .null] [] h (KL KL64) := by
  have o := hm.1
  have hn := M.n_in hm
  have hs1 := hs.1
  have om := mny_in hm he
  have hX := xp_ok (go := go) (bm := bm) ho hm hd hg
  have hV := Vl_sol hX
  have hst : St (xp B dd M go bm) s := hs
  have inf := Sol.info hX hV hst he h0 hc.1 hc.2 hf
  have emn : (xp B dd M go bm).mn e = mny M e := rfl
  have ebm : (xp B dd M go bm).bm = bm := rfl
  have fin := fun i i0 i1 => inf.1 i i0 (show i < (xp B dd M go bm).mn e by omega)
  have ov := Sol.over hX hV hst he h0 hc.1 hc.2 inf.1
  have last : cvv (ovK (xp B dd M go bm).bm ((xp B dd M go bm).we e) (fun k => Vl (xp B dd M go bm) (tel s e k) c) (mny M e).toNat) = if bm = true then sumTo (fun k => M.wt e (chc M e k) * Vl (xp B dd M go bm) (tel s e k) c) (mny M e).toNat else maxTo (fun k => Vl (xp B dd M go bm) (tel s e k) c) (mny M e).toNat := by
    by_cases hb : bm = true
    · rw [if_pos hb, show (xp B dd M go bm).bm = true from hb]
      rcases ov.1 (mny M e).toNat (by omega) with q | q
      · have q3 := q.2.2 (by rw [ebm]; exact hb)
        rw [q.1]
        unfold cvv
        rw [if_neg (by omega)]; rfl
      · rw [ebm, hb] at q; exact absurd q (by decide)
    · rw [if_neg hb, show (xp B dd M go bm).bm = false from (show bm = false by simpa using hb)]
      have q := ov.2 (mny M e).toNat (by omega)
      rw [q.1]
      unfold cvv
      rw [if_neg (by omega)]
  have loop : ∀ i : Nat, i ≤ (mny M e).toNat → ∀ h1 : XH, Fr (PWs wa va) h h1 → Aimed h1 wa va zv B dd M go bm stp → XW (d + 23) 104 6 [.ref wa, .int (iI s), .int (iI e), .int (iI c), .long (iL (cvv (ovK (xp B dd M go bm).bm ((xp B dd M go bm).we e) (fun k => Vl (xp B dd M go bm) (tel s e k) c) i))), .null, .int (iI i)] [] h1 (KL KL64) := by
    refine upto _ ?_ ?_
    · intro h1 f hA1
      have hL := f.lay hL
      have e90 : gI h1 89 e.toNat = iI (mny M e) := by rw [gI_A, (hA1.1.ch he).1]
      have kk := kk h1 f hA1
      rw [← last] at kk
      refine w_iload6 r_104_6 ?_
      refine w_aload0 r_104_8 ?_
      refine w_getA (x := 80) r_104_9 (Wk hL hw).1 (Wk0 hL hw).1 (by decide) ?_
      refine w_getA (x := 89) r_104_12 (Lk_80 hL) (Lr_80_13 hL) (by decide) ?_
      refine w_iload2 r_104_15 ?_
      refine v_iald r_104_16 (Lk_89 hL) (Lz_89 hL) (by decide) (by omega) e90 ?_
      refine v_ic_ge r_104_17 (by first | exact zF_in _ _ _ | exact zA_in _ _ _ | omega) (by first | exact zF_in _ _ _ | exact zA_in _ _ _ | omega) (fun _ => ?_) (fun q => absurd q (by omega))
      refine w_lload4 r_104_55 ?_
      refine w_lret r_104_57 ?_
      exact kk
    · intro i hi ih h1 f hA1
      have hL := f.lay hL
      have e90 : gI h1 89 e.toNat = iI (mny M e) := by rw [gI_A, (hA1.1.ch he).1]
      have on := ovK_in (bm := (xp B dd M go bm).bm) (w := (xp B dd M go bm).we e) (f := fun k => Vl (xp B dd M go bm) (tel s e k) c) (n := i) (fun j j0 j1 => (hV _ (hst.tel (k := j) hX he h0 ⟨j0, by omega⟩)).2 c hc.1 (by have : (xp B dd M go bm).n = M.n := rfl; omega)) (fun j j0 j1 => by have := hX.2.2.1 e j he.1 he.2 j0 (by omega); omega)
      have cl := cvv_lt on
      have ovi : ovK (xp B dd M go bm).bm ((xp B dd M go bm).we e) (fun k => Vl (xp B dd M go bm) (tel s e k) c) i < 1000000000000000 := by
        by_cases hb : bm = true
        · rw [show (xp B dd M go bm).bm = true from hb]
          rcases ov.1 i (by omega) with q | q
          · have q3 := q.2.2 (by rw [ebm]; exact hb)
            rw [q.1]; omega
          · rw [ebm, hb] at q; exact absurd q (by decide)
        · rw [show (xp B dd M go bm).bm = false from (show bm = false by simpa using hb)]
          have q := ov.2 i (by omega)
          rw [q.1]; omega
      have stt := hst.tel (k := (i : Int)) hX he h0 ⟨by omega, by omega⟩
      have vt := cvv_lt ((hV _ stt).2 c hc.1 (by have : (xp B dd M go bm).n = M.n := rfl; omega))
      have nx := ov_next hX hV hst he h0 hc.1 hc.2 (j := i) (by omega) ovi
      rw [nx] at ih
      have et : s + ((i : Int) + 1) * 4 ^ e.toNat = tel s e i := rfl
      refine w_iload6 r_104_6 ?_
      refine w_aload0 r_104_8 ?_
      refine w_getA (x := 80) r_104_9 (Wk hL hw).1 (Wk0 hL hw).1 (by decide) ?_
      refine w_getA (x := 89) r_104_12 (Lk_80 hL) (Lr_80_13 hL) (by decide) ?_
      refine w_iload2 r_104_15 ?_
      refine v_iald r_104_16 (Lk_89 hL) (Lz_89 hL) (by decide) (by omega) e90 ?_
      refine v_ic_ge r_104_17 (by first | exact zF_in _ _ _ | exact zA_in _ _ _ | omega) (by first | exact zF_in _ _ _ | exact zA_in _ _ _ | omega) (fun q => absurd q (by omega)) (fun _ => ?_)
      refine w_aload0 r_104_20 ?_
      refine w_lload4 r_104_21 ?_
      refine w_aload0 r_104_23 ?_
      refine w_iload1 r_104_24 ?_
      refine w_aload0 r_104_25 ?_
      refine w_getA (x := 80) r_104_26 (Wk hL hw).1 (Wk0 hL hw).1 (by decide) ?_
      refine w_iload2 r_104_29 ?_
      refine w_iload6 r_104_30 ?_
      refine k_58 r_104_32 (Lk_80 hL) (Nat.le_of_ble_eq_true rfl) ?_
      refine c_stateBits (by omega) (by omega) ?_
      refine v_iorT (hs := hs1) (he := by omega) (h0 := h0) (hk := by omega) r_104_35 ?_
      rw [et] 
      refine w_iload3 r_104_36 ?_
      refine w_iconst (v := iI (0)) r_104_37 rfl ?_
      refine k_106 r_104_38 (Wk hL hw).1 (Nat.le_of_ble_eq_true rfl) ?_
      refine (c_all hw ho hd hm hg 5).1 (d + 22) h1 _ (tel s e i) c 0 (by omega) hL hA1.1 hA1.2.1 hA1.2.2 stt hc (opn5 hm ho hd hg) (by decide) (by decide) trivial (fun h2 f2 hO2 hK2 => ?_)
      obtain ⟨hP2, hE2⟩ := PWs_fr hw hA1.2.2.1.1.2.2.2.2.2.2 f2 hA1.1 hA1.2.1
      have hA2 : Aimed h2 wa va zv B dd M go bm stp := ⟨hP2, hE2, hO2⟩
      have hL := f2.lay hL
      refine w_iload2 r_104_41 ?_
      refine w_iload6 r_104_42 ?_
      refine k_105 r_104_44 (Wk hL hw).1 (Nat.le_of_ble_eq_true rfl) ?_
      refine c_together hL hw hA2.1 hm hA2.2.2.1.2.2.1 cl.1 vt.1 he (by omega) ?_
      refine w_lstore4 r_104_47 rfl ?_
      refine w_iinc6 r_104_49 rfl (iI_add _ _) ?_
      refine w_goto r_104_52 ?_
      exact ih h2 (f.trans f2) hA2
  have l0 := loop 0 (by omega) h (Fr.refl _ _) hA
  refine w_lconst (v := iL 0) r_104_0 rfl ?_
  refine w_lstore4 r_104_1 rfl ?_
  refine w_iconst (v := iI (0)) r_104_3 rfl ?_
  refine w_istore6 r_104_4 rfl ?_
  exact l0
theorem c_bestFrom {s c : Int} (hw : Wa wa) (ho : B.ok) (hd : 0 ≤ dd ∧ dd < B.w) (hm : M.ok B.g) (hg : 0 ≤ go ∧ go < M.n) (hL : Lay h) (hA : Aimed h wa va zv B dd M go bm stp) (hs : StM M s) (hc : 0 ≤ c ∧ c < M.n) (hcg : ¬ c = go) (hnw : (xp B dd M go bm).nw s c = -1) (hf : Vl (xp B dd M go bm) s c < 1000000000000000)
    (kk : ∀ h', Fr (PWs wa va) h h' → Aimed h' wa va zv B dd M go bm stp → K (iI ((xp B dd M go bm).wy (Vl (xp B dd M go bm)) s c)) h') : XW (d + 21) 113 0 [.ref wa, .int (iI s), .int (iI c), .null, .null, .null, .null, .null, .null, .null, .null, .null, .null] [] h (KI K) := by
  have o := hm.1
  have hn := M.n_in hm
  have hs1 := hs.1
  have hX := xp_ok (go := go) (bm := bm) ho hm hd hg
  have hV := Vl_sol hX
  have hst : St (xp B dd M go bm) s := hs
  have wy := Sol.wy hX hV hst hc.1 hc.2 hcg hnw hf
  have wall := fun i i0 i1 i2 i3 => Sol.inner_all (w := i) hX hV hst hc.1 hc.2 hcg hnw i0 i1 i2 i3
  have scI := sc_in (s := s) hX
  have vb : ∀ c, 0 ≤ c → c < M.n → (0 ≤ Vl (xp B dd M go bm) s c ∧ Vl (xp B dd M go bm) s c ≤ 1000000000000000) := fun c c0 c1 => (hV s hst).2 c c0 (by have : (xp B dd M go bm).n = M.n := rfl; omega)
  have eXlf : (xp B dd M go bm).lft s = prodTo (fun e => if dg s e = 0 then sumTo (M.wt e) 8 else 1) M.nd.toNat := lft_wt hm
  have eXbm : (xp B dd M go bm).bm = bm := rfl
  have eXnx : (xp B dd M go bm).nx = M.nx := rfl
  have eXtl : (xp B dd M go bm).tl s = tlB B dd M s := rfl
  have s0 := Int.mul_nonneg hs1.1 (show 0 ≤ M.n by omega)
  have sm := hA.2.2.2.2.1 s hs
  have zv1 := hA.2.2.1.1.2.2.2.2.2.1
  generalize hXe : xp B dd M go bm = X at *
  rw [eXnx, eXtl] at wy wall
  obtain ⟨hP, hE, hO⟩ := hA
  have main : ∀ h1 : XH, Fr (PWs wa va) h h1 → CMp h1 M → Prep h1 B dd M → WOk h1 wa va zv B dd M go bm stp → zA h1 (wa + 1) s = stp → ∀ w : Nat, w ≤ 4 → ∀ (least best : Int) (X9 X10 X11 X12 : Value), (0 ≤ least ∧ least ≤ 1152921504606846976) → (∀ i : Int, 0 ≤ i → i < w → 0 < tlB B dd M s c i → least ≤ cvv (Vl X s (M.nx c i)) + X.sc s * tlB B dd M s c i) → ((best = -1 ∧ least = 1152921504606846976) ∨ ((0 ≤ best ∧ best < w) ∧ 0 < tlB B dd M s c best ∧ least = cvv (Vl X s (M.nx c best)) + X.sc s * tlB B dd M s c best ∧ least < 1152921504606846976 ∧ ∀ i, 0 ≤ i → i < best → 0 < tlB B dd M s c i → least < cvv (Vl X s (M.nx c i)) + X.sc s * tlB B dd M s c i)) → XW (d + 21) 113 37 [.ref wa, .int (iI s), .int (iI c), .long (iL (X.sc s)), .null, .long (iL least), .null, .int (iI best), .int (iI w), X9, X10, X11, X12] [] h1 (KI K) := by
    intro h1 f hP hE hO hst1
    have hL := f.lay hL
    have hW := hO.1.1
    have ec : gI h1 80 2 = iI M.n := by rw [gI_F, hP.1.2.2.1]
    refine upto _ ?_ ?_
    · intro least best X9 X10 X11 X12 hl0 hA1 hB1
      have tw := (tlB_in ho hm hd hc wy.2.1).2
      have vw := cvv_lt (vb _ tw.1 tw.2)
      have lw := hA1 _ wy.1.1 wy.1.2 wy.2.1
      rw [vw.2.2 wy.2.2.2.1] at lw
      have sml := (Sol.small hX hV hst hc.1 (show c < X.n by rw [← hXe]; exact hc.2) hf).1
      rcases hB1 with ⟨_, z⟩ | ⟨b0, b1, b2, b3, b4⟩
      · omega
      · have tb := (tlB_in ho hm hd hc b1).2
        have vbb := cvv_lt (vb _ tb.1 tb.2)
        have pos := Int.mul_pos (show 0 < X.sc s by omega) b1
        have fb : Vl X s (M.nx c best) < 1000000000000000 := vbb.2.1.mp (by omega)
        have ge := wall best b0.1 (by omega) b1 fb
        rw [vbb.2.2 fb] at b2
        have e1 : X.wy (Vl X) s c = best := by
          have n1 : ¬ X.wy (Vl X) s c < best := fun z => by
            have := b4 _ wy.1.1 z wy.2.1
            rw [vw.2.2 wy.2.2.2.1] at this
            omega
          have n2 : ¬ best < X.wy (Vl X) s c := fun z => by
            have := wy.2.2.2.2.2 best b0.1 z b1 fb
            omega
          omega
        have kk := kk h1 f ⟨hP, hE, hO⟩
        rw [e1] at kk
        refine w_iload8 r_113_37 ?_
        refine w_iconst (v := iI (4)) r_113_39 rfl ?_
        refine v_ic_ge r_113_40 (by first | exact zF_in _ _ _ | exact zA_in _ _ _ | omega) (by first | exact zF_in _ _ _ | exact zA_in _ _ _ | omega) (fun _ => ?_) (fun q => absurd q (by omega))
        refine w_iload7 r_113_129 ?_
        refine w_iret r_113_131 ?_
        exact kk
    · intro w hw2 ih least best X9 X10 X11 X12 hl0 hA1 hB1
      have hb1 := M.nx_in (way := w) hm hc
      have e85 : gI h1 85 (c * 4 + (w : Int)).toNat = iI (M.nx c w) := by rw [gI_A, hP.2.2.2.2.2.2 c w hc.1 hc.2 (by omega) (by omega)]
      have tlo : -4 ≤ tlB B dd M s c w := by
        unfold tlB
        split
        · decide
        · have oc := hm.2.1 (M.nx c w) (by omega) (by omega)
          split
          · exact (tg_in ho hm hd ⟨oc.2.2.1, oc.2.2.2.1⟩ hc).1
          · split
            · decide
            · exact (tg_in ho hm hd (chc_any hm (by omega)) hc).1
      by_cases q : 0 < tlB B dd M s c w
      · have tb := tlB_in (s := s) (way := w) ho hm hd hc q
        have vbb := cvv_lt (vb _ tb.2.1 tb.2.2)
        have mm := mul_in (a := X.sc s) (b := tlB B dd M s c w) (A := 14348907) (B := 40101) (by omega) (by omega)
        have ev := (hO.2.1 s hs hst1).at (c := M.nx c w) tb.2
        rw [hXe] at ev
        have pos := Int.mul_pos (show 0 < X.sc s by omega) q
        by_cases q2 : cvv (Vl X s (M.nx c w)) + X.sc s * tlB B dd M s c w < least
        · refine w_iload8 r_113_37 ?_
          refine w_iconst (v := iI (4)) r_113_39 rfl ?_
          refine v_ic_ge r_113_40 (by first | exact zF_in _ _ _ | exact zA_in _ _ _ | omega) (by first | exact zF_in _ _ _ | exact zA_in _ _ _ | omega) (fun q => absurd q (by omega)) (fun _ => ?_)
          refine w_aload0 r_113_43 ?_
          refine w_getA (x := 91) r_113_44 (Wk hL hw).1 (Wk0 hL hw).2 (by decide) ?_
          refine w_iload2 r_113_47 ?_
          refine w_iload8 r_113_48 ?_
          refine w_iload1 r_113_50 ?_
          refine k_86 r_113_51 (Lk_91 hL) (Nat.le_of_ble_eq_true rfl) ?_
          refine c_toll hL hP hm hE hc (by omega) hs1 (fun e a b => ((hs.2 e a (by omega)).1 b)) ?_
          refine w_istore9 r_113_54 rfl ?_
          refine w_aload0 r_113_56 ?_
          refine w_getA (x := 80) r_113_57 (Wk hL hw).1 (Wk0 hL hw).1 (by decide) ?_
          refine w_getA (x := 85) r_113_60 (Lk_80 hL) (Lr_80_9 hL) (by decide) ?_
          refine w_iload2 r_113_63 ?_
          refine w_iconst (v := iI (4)) r_113_64 rfl ?_
          refine v_imul r_113_65 ?_
          refine w_iload8 r_113_66 ?_
          refine v_iadd r_113_68 ?_
          refine v_iald r_113_69 (Lk_85 hL) (Lz_85 hL) (by decide) (by omega) e85 ?_
          refine w_istore10 r_113_70 rfl ?_
          refine w_iload9 r_113_72 ?_
          refine v_if_le r_113_74 (by first | exact zF_in _ _ _ | exact zA_in _ _ _ | omega) (fun q => absurd q (by omega)) (fun _ => ?_)
          refine w_iload10 r_113_77 ?_
          refine v_if_lt r_113_79 (by first | exact zF_in _ _ _ | exact zA_in _ _ _ | omega) (fun q => absurd q (by omega)) (fun _ => ?_)
          refine w_aload0 r_113_82 ?_
          refine w_getA (x := va) r_113_83 (Wk hL hw).1 hW.1 hW.2.2.2.2.1 ?_
          refine w_iload1 r_113_86 ?_
          refine w_aload0 r_113_87 ?_
          refine w_getA (x := 80) r_113_88 (Wk hL hw).1 (Wk0 hL hw).1 (by decide) ?_
          refine v_getI r_113_91 (Lk_80 hL) ec ?_
          refine v_imul r_113_94 ?_
          refine w_iload10 r_113_95 ?_
          refine v_iadd r_113_97 ?_
          refine v_lald r_113_98 hW.2.1 hW.2.2.1 (by omega) (by omega) ev ?_
          refine w_lload3 r_113_99 ?_
          refine w_iload9 r_113_100 ?_
          refine v_i2l r_113_102 (by first | exact zF_in _ _ _ | exact zA_in _ _ _ | omega) ?_
          refine v_lmul r_113_103 ?_
          refine v_ladd r_113_104 ?_
          refine w_lstore11 r_113_105 rfl ?_
          refine w_lload11 r_113_107 ?_
          refine w_lload5 r_113_109 ?_
          refine v_lcmp r_113_111 (by first | exact zF_in _ _ _ | exact zA_in _ _ _ | omega) (by first | exact zF_in _ _ _ | exact zA_in _ _ _ | omega) ?_
          rw [if_neg (by omega), if_neg (by omega)] 
          refine v_if_ge r_113_112 (by first | exact zF_in _ _ _ | exact zA_in _ _ _ | omega) (fun q => absurd q (by decide)) (fun _ => ?_)
          refine w_lload11 r_113_115 ?_
          refine w_lstore5 r_113_117 rfl ?_
          refine w_iload8 r_113_119 ?_
          refine w_istore7 r_113_121 rfl ?_
          refine w_iinc8 r_113_123 rfl (iI_add _ _) ?_
          refine w_goto r_113_126 ?_
          refine ih _ _ _ _ _ _ (by omega) (fun i i0 i1 i2 => ?_) (Or.inr ⟨by omega, q, rfl, by omega, fun i i0 i1 i2 => by have := hA1 i i0 (by omega) i2; omega⟩)
          by_cases z : i = (w : Int)
          · rw [z]; exact Int.le_refl _
          · have := hA1 i i0 (by omega) i2; omega
        · refine w_iload8 r_113_37 ?_
          refine w_iconst (v := iI (4)) r_113_39 rfl ?_
          refine v_ic_ge r_113_40 (by first | exact zF_in _ _ _ | exact zA_in _ _ _ | omega) (by first | exact zF_in _ _ _ | exact zA_in _ _ _ | omega) (fun q => absurd q (by omega)) (fun _ => ?_)
          refine w_aload0 r_113_43 ?_
          refine w_getA (x := 91) r_113_44 (Wk hL hw).1 (Wk0 hL hw).2 (by decide) ?_
          refine w_iload2 r_113_47 ?_
          refine w_iload8 r_113_48 ?_
          refine w_iload1 r_113_50 ?_
          refine k_86 r_113_51 (Lk_91 hL) (Nat.le_of_ble_eq_true rfl) ?_
          refine c_toll hL hP hm hE hc (by omega) hs1 (fun e a b => ((hs.2 e a (by omega)).1 b)) ?_
          refine w_istore9 r_113_54 rfl ?_
          refine w_aload0 r_113_56 ?_
          refine w_getA (x := 80) r_113_57 (Wk hL hw).1 (Wk0 hL hw).1 (by decide) ?_
          refine w_getA (x := 85) r_113_60 (Lk_80 hL) (Lr_80_9 hL) (by decide) ?_
          refine w_iload2 r_113_63 ?_
          refine w_iconst (v := iI (4)) r_113_64 rfl ?_
          refine v_imul r_113_65 ?_
          refine w_iload8 r_113_66 ?_
          refine v_iadd r_113_68 ?_
          refine v_iald r_113_69 (Lk_85 hL) (Lz_85 hL) (by decide) (by omega) e85 ?_
          refine w_istore10 r_113_70 rfl ?_
          refine w_iload9 r_113_72 ?_
          refine v_if_le r_113_74 (by first | exact zF_in _ _ _ | exact zA_in _ _ _ | omega) (fun q => absurd q (by omega)) (fun _ => ?_)
          refine w_iload10 r_113_77 ?_
          refine v_if_lt r_113_79 (by first | exact zF_in _ _ _ | exact zA_in _ _ _ | omega) (fun q => absurd q (by omega)) (fun _ => ?_)
          refine w_aload0 r_113_82 ?_
          refine w_getA (x := va) r_113_83 (Wk hL hw).1 hW.1 hW.2.2.2.2.1 ?_
          refine w_iload1 r_113_86 ?_
          refine w_aload0 r_113_87 ?_
          refine w_getA (x := 80) r_113_88 (Wk hL hw).1 (Wk0 hL hw).1 (by decide) ?_
          refine v_getI r_113_91 (Lk_80 hL) ec ?_
          refine v_imul r_113_94 ?_
          refine w_iload10 r_113_95 ?_
          refine v_iadd r_113_97 ?_
          refine v_lald r_113_98 hW.2.1 hW.2.2.1 (by omega) (by omega) ev ?_
          refine w_lload3 r_113_99 ?_
          refine w_iload9 r_113_100 ?_
          refine v_i2l r_113_102 (by first | exact zF_in _ _ _ | exact zA_in _ _ _ | omega) ?_
          refine v_lmul r_113_103 ?_
          refine v_ladd r_113_104 ?_
          refine w_lstore11 r_113_105 rfl ?_
          refine w_lload11 r_113_107 ?_
          refine w_lload5 r_113_109 ?_
          refine v_lcmp r_113_111 (by first | exact zF_in _ _ _ | exact zA_in _ _ _ | omega) (by first | exact zF_in _ _ _ | exact zA_in _ _ _ | omega) ?_
          refine v_if_ge r_113_112 (by repeat' split; all_goals omega) (fun _ => ?_) (fun q => absurd q (by repeat' split; all_goals omega))
          refine w_iinc8 r_113_123 rfl (iI_add _ _) ?_
          refine w_goto r_113_126 ?_
          refine ih _ _ _ _ _ _ hl0 (fun i i0 i1 i2 => ?_) ?_
          · by_cases z : i = (w : Int)
            · rw [z]; omega
            · exact hA1 i i0 (by omega) i2
          · rcases hB1 with z | ⟨b0, b1, b2, b3, b4⟩
            · exact Or.inl z
            · exact Or.inr ⟨by omega, b1, b2, b3, b4⟩
      · refine w_iload8 r_113_37 ?_
        refine w_iconst (v := iI (4)) r_113_39 rfl ?_
        refine v_ic_ge r_113_40 (by first | exact zF_in _ _ _ | exact zA_in _ _ _ | omega) (by first | exact zF_in _ _ _ | exact zA_in _ _ _ | omega) (fun q => absurd q (by omega)) (fun _ => ?_)
        refine w_aload0 r_113_43 ?_
        refine w_getA (x := 91) r_113_44 (Wk hL hw).1 (Wk0 hL hw).2 (by decide) ?_
        refine w_iload2 r_113_47 ?_
        refine w_iload8 r_113_48 ?_
        refine w_iload1 r_113_50 ?_
        refine k_86 r_113_51 (Lk_91 hL) (Nat.le_of_ble_eq_true rfl) ?_
        refine c_toll hL hP hm hE hc (by omega) hs1 (fun e a b => ((hs.2 e a (by omega)).1 b)) ?_
        refine w_istore9 r_113_54 rfl ?_
        refine w_aload0 r_113_56 ?_
        refine w_getA (x := 80) r_113_57 (Wk hL hw).1 (Wk0 hL hw).1 (by decide) ?_
        refine w_getA (x := 85) r_113_60 (Lk_80 hL) (Lr_80_9 hL) (by decide) ?_
        refine w_iload2 r_113_63 ?_
        refine w_iconst (v := iI (4)) r_113_64 rfl ?_
        refine v_imul r_113_65 ?_
        refine w_iload8 r_113_66 ?_
        refine v_iadd r_113_68 ?_
        refine v_iald r_113_69 (Lk_85 hL) (Lz_85 hL) (by decide) (by omega) e85 ?_
        refine w_istore10 r_113_70 rfl ?_
        refine w_iload9 r_113_72 ?_
        refine v_if_le r_113_74 (by first | exact zF_in _ _ _ | exact zA_in _ _ _ | omega) (fun _ => ?_) (fun q => absurd q (by omega))
        refine w_iinc8 r_113_123 rfl (iI_add _ _) ?_
        refine w_goto r_113_126 ?_
        refine ih _ _ _ _ _ _ hl0 (fun i i0 i1 i2 => ?_) ?_
        · by_cases z : i = (w : Int)
          · rw [z] at i2; exact absurd i2 q
          · exact hA1 i i0 (by omega) i2
        · rcases hB1 with z | ⟨b0, b1, b2, b3, b4⟩
          · exact Or.inl z
          · exact Or.inr ⟨by omega, b1, b2, b3, b4⟩
  have go2 : ∀ h1 : XH, Fr (PWs wa va) h h1 → CMp h1 M → Prep h1 B dd M → WOk h1 wa va zv B dd M go bm stp → zA h1 (wa + 1) s = stp → XW (d + 21) 113 6 [.ref wa, .int (iI s), .int (iI c), .null, .null, .null, .null, .null, .null, .null, .null, .null, .null] [] h1 (KI K) := by
    intro h1 f hP hE hO hst1
    have m0 := fun X9 X10 X11 X12 => main h1 f hP hE hO hst1 0 (by omega) 1152921504606846976 (-1) X9 X10 X11 X12 (by decide) (fun i i0 i1 => by omega) (Or.inl ⟨rfl, rfl⟩)
    have hL := f.lay hL
    by_cases hb : bm = true
    · have e0 : b2i bm = 1 := by rw [hb]; rfl
      have e1 : X.sc s = prodTo (fun e => if dg s e = 0 then sumTo (M.wt e) 8 else 1) M.nd.toNat := by unfold XP.sc; rw [eXbm, if_pos hb, eXlf]
      refine w_aload0 r_113_6 ?_
      refine v_getI r_113_7 (Wk hL hw).1 (hO.1.2.2.1) ?_
      refine v_if_eq r_113_10 (by first | exact zF_in _ _ _ | exact zA_in _ _ _ | omega) (fun q => absurd q (by omega)) (fun _ => ?_)
      refine w_aload0 r_113_13 ?_
      refine w_getA (x := 80) r_113_14 (Wk hL hw).1 (Wk0 hL hw).1 (by decide) ?_
      refine w_iload1 r_113_17 ?_
      refine k_63 r_113_18 (Lk_80 hL) (Nat.le_of_ble_eq_true rfl) ?_
      refine c_totalWeight hL hP hm hs1 ?_
      refine w_goto r_113_21 ?_
      refine w_lstore3 r_113_25 rfl ?_
      refine w_ldc2 (v := iL (1152921504606846976)) r_113_26 rfl ?_
      refine w_lstore5 r_113_29 rfl ?_
      refine w_iconst (v := iI (-1)) r_113_31 rfl ?_
      refine w_istore7 r_113_32 rfl ?_
      refine w_iconst (v := iI (0)) r_113_34 rfl ?_
      refine w_istore8 r_113_35 rfl ?_
      rw [← e1]
      exact m0 _ _ _ _
    · have e0 : b2i bm = 0 := by unfold b2i; rw [if_neg hb]
      have e1 : X.sc s = 1 := by unfold XP.sc; rw [eXbm, if_neg hb]
      rw [e1] at m0
      refine w_aload0 r_113_6 ?_
      refine v_getI r_113_7 (Wk hL hw).1 (hO.1.2.2.1) ?_
      refine v_if_eq r_113_10 (by first | exact zF_in _ _ _ | exact zA_in _ _ _ | omega) (fun _ => ?_) (fun q => absurd q (by omega))
      refine w_lconst (v := iL 1) r_113_24 rfl ?_
      refine w_lstore3 r_113_25 rfl ?_
      refine w_ldc2 (v := iL (1152921504606846976)) r_113_26 rfl ?_
      refine w_lstore5 r_113_29 rfl ?_
      refine w_iconst (v := iI (-1)) r_113_31 rfl ?_
      refine w_istore7 r_113_32 rfl ?_
      refine w_iconst (v := iI (0)) r_113_34 rfl ?_
      refine w_istore8 r_113_35 rfl ?_
      exact m0 _ _ _ _
  refine w_aload0 r_113_0 ?_
  refine w_iload1 r_113_1 ?_
  refine w_iconst (v := iI (0)) r_113_2 rfl ?_
  refine k_107 r_113_3 (Wk hL hw).1 (Nat.le_of_ble_eq_true rfl) ?_
  refine (c_all hw ho hd hm hg 5).2 (d + 20) h _ s 0 (by omega) hL hP hE hO hs (opn5 hm ho hd hg) (by decide) (by decide) (fun h1 f1 hO1 hK1 hst1 => ?_)
  obtain ⟨hP1, hE1⟩ := PWs_fr hw hO.1.1.2.2.2.2.2.2 f1 hP hE
  exact go2 h1 f1 hP1 hE1 hO1 hst1
end SE3
