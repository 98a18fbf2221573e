/-! calls: way -/
section OP8
variable {d : Nat} {h h' h1 : XH} {K : Int32 → XH → Prop} {KL64 : Int64 → XH → Prop} {KU : XH → Prop} {B : XB} {dd : Int} {M : XM} {rb va zv wa : Nat} {c go e stp : Int} {z bm : Bool}
/-- the way chosen from the start's state -/
noncomputable def wyv (B : XB) (dd : Int) (M : XM) (c go : Int) (bm : Bool) : Int := if c = go then 4 else (xp B dd M go bm).wy (Vl (xp B dd M go bm)) (sta M) c
theorem c_wayOn {X3 : Value} (hw : Wa wa) (hL : Lay h) (hB : RB h rb) (hC : CBk h rb B) (hP : CMp h M) (ho : B.ok) (hm : M.ok B.g) (hd : 0 ≤ dd ∧ dd < B.w) (hS : CLr h B dd) (hW : CWy h wa va zv B dd M bm stp) (cd : (0 ≤ c ∧ c < M.n) ∧ 0 ≤ go ∧ go < M.n) (hnw : (xp B dd M go bm).nw (sta M) c = -1)
    (k6 : ¬ Vl (xp B dd M go bm) (sta M) c < 1000000000000000 → ∀ h' va' zv' stp', Wed q0 h h' wa va zv va' zv' B dd M bm stp stp' → K (iI (-1)) (sI h' 1 18 (iI 6)))
    (kt : Vl (xp B dd M go bm) (sta M) c < 1000000000000000 → ∀ h' va' zv' stp', Wed q0 h h' wa va zv va' zv' B dd M bm stp stp' → K (iI (wyv B dd M c go bm)) (sI h' 1 18 (iI 0))) :
    XW (d + 23) 137 69 [.ref 1, .int (iI c), .int (iI go), X3, .int (iI (sta M)), .ref wa] [] h (KI K) := by
  have hb := hB.1
  obtain ⟨hE, hI, hst, hN⟩ := hW
  have hn := M.n_in hm
  have vi := vl_in (bm := bm) ho hm hd cd.2 cd.1
  have cv := cvv_lt vi.1
  have hw' : wa = 96 ∨ wa = 101 := hw
  have x5 : q0 wa 5 = false ∧ q0 80 4 = false := ⟨rfl, rfl⟩
  have fin : ∀ h1 va' zv' stp', Aim h h1 wa va zv va' zv' B dd M go bm stp stp' → XW (d + 23) 137 75 [.ref 1, .int (iI c), .int (iI go), X3, .int (iI (sta M)), .ref wa] [] h1 (KI K) := by
    intro h1 va' zv' stp' A
    have hL1 := A.2.2.2.2.2.2.2
    have tail : ∀ h2, Fr (PWs wa va') h1 h2 → Aimed h2 wa va' zv' B dd M go bm stp' → XW (d + 23) 137 83 [.ref 1, .int (iI c), .int (iI go), X3, .int (iI (sta M)), .ref wa] [.long (iL (cvv (Vl (xp B dd M go bm) (sta M) c)))] h2 (KI K) := by
      intro h2 f2 O2
      have hL2 := f2.lay hL1
      by_cases q : Vl (xp B dd M go bm) (sta M) c < 1000000000000000
      · rw [cv.2.2 q]
        have kt := kt q
        unfold wyv at kt
        by_cases cg : c = go
        · rw [if_pos cg] at kt
          have R := kt h2 va' zv' stp' (Wed.of hw hL hm hI.1.1.2.2.2.2.2.2 A (pq0 f2) O2 ⟨hI.1.2.2.2.1, hst⟩ cd.2 x5)
          have hL := hL2
          refine w_ldc2 (v := iL (1152921504606846976)) r_137_83 rfl ?_
          refine v_lcmp r_137_86 (by first | exact zF_in _ _ _ | exact zA_in _ _ _ | omega) (by first | exact zF_in _ _ _ | exact zA_in _ _ _ | omega) ?_
          refine v_if_lt r_137_87 (by split <;> (try split) <;> omega) (fun _ => ?_) (fun q => absurd q (by (split <;> (try split) <;> omega)))
          refine w_aload0 r_137_97 ?_
          refine w_iload1 r_137_98 ?_
          refine w_iload2 r_137_99 ?_
          refine v_ic_ne r_137_100 (by first | exact zF_in _ _ _ | exact zA_in _ _ _ | omega) (by first | exact zF_in _ _ _ | exact zA_in _ _ _ | omega) (fun q => absurd q (by omega)) (fun _ => ?_)
          refine w_iconst (v := iI (4)) r_137_103 rfl ?_
          refine w_goto r_137_104 ?_
          refine k_156 r_137_115 (Lk_1 hL) (Nat.le_of_ble_eq_true rfl) ?_
          refine c_answer hL ?_
          refine w_iret r_137_118 ?_
          exact R
        · rw [if_neg cg] at kt
          have R := fun h3 (f3 : Fr (PWs wa va') h2 h3) O3 => kt h3 va' zv' stp' (Wed.of hw hL hm hI.1.1.2.2.2.2.2.2 A (pq0 (f2.trans f3)) O3 ⟨hI.1.2.2.2.1, hst⟩ cd.2 x5)
          have hL := hL2
          refine w_ldc2 (v := iL (1152921504606846976)) r_137_83 rfl ?_
          refine v_lcmp r_137_86 (by first | exact zF_in _ _ _ | exact zA_in _ _ _ | omega) (by first | exact zF_in _ _ _ | exact zA_in _ _ _ | omega) ?_
          refine v_if_lt r_137_87 (by split <;> (try split) <;> omega) (fun _ => ?_) (fun q => absurd q (by (split <;> (try split) <;> omega)))
          refine w_aload0 r_137_97 ?_
          refine w_iload1 r_137_98 ?_
          refine w_iload2 r_137_99 ?_
          refine v_ic_ne r_137_100 (by first | exact zF_in _ _ _ | exact zA_in _ _ _ | omega) (by first | exact zF_in _ _ _ | exact zA_in _ _ _ | omega) (fun _ => ?_) (fun q => absurd q (by omega))
          refine w_aload5 r_137_107 ?_
          refine w_iload4 r_137_109 ?_
          refine w_iload1 r_137_111 ?_
          refine k_113 r_137_112 (Wk hL hw).1 (Nat.le_of_ble_eq_true rfl) ?_
          refine c_bestFrom (d := d + 1) hw ho hd hm cd.2 hL O2 (sta_st hm) cd.1 cg hnw q (fun h3 f3 O3 => ?_)
          have hL := f3.lay hL
          have R := R h3 f3 O3
          refine k_156 r_137_115 (Lk_1 hL) (Nat.le_of_ble_eq_true rfl) ?_
          refine c_answer hL ?_
          refine w_iret r_137_118 ?_
          exact R
      · have R := k6 q h2 va' zv' stp' (Wed.of hw hL hm hI.1.1.2.2.2.2.2.2 A (pq0 f2) O2 ⟨hI.1.2.2.2.1, hst⟩ cd.2 x5)
        have hL := hL2
        have : ¬ cvv (Vl (xp B dd M go bm) (sta M) c) < 1152921504606846976 := fun x => q (cv.2.1.1 x)
        refine w_ldc2 (v := iL (1152921504606846976)) r_137_83 rfl ?_
        refine v_lcmp r_137_86 (by first | exact zF_in _ _ _ | exact zA_in _ _ _ | omega) (by first | exact zF_in _ _ _ | exact zA_in _ _ _ | omega) ?_
        refine v_if_lt r_137_87 (by split <;> (try split) <;> omega) (fun q => absurd q (by (split <;> (try split) <;> omega))) (fun _ => ?_)
        refine w_aload0 r_137_90 ?_
        refine w_bipush (v := iI (6)) r_137_91 rfl ?_
        refine k_157 r_137_93 (Lk_1 hL) (Nat.le_of_ble_eq_true rfl) ?_
        refine c_refuse hL ?_
        refine w_iret r_137_96 ?_
        exact R
    have hL := hL1
    refine w_aload5 r_137_75 ?_
    refine w_iload4 r_137_77 ?_
    refine w_iload1 r_137_79 ?_
    refine k_103 r_137_80 (Wk hL hw).1 (Nat.le_of_ble_eq_true rfl) ?_
    refine c_valueFrom (d := d) hw ho hd hm cd.2 hL A.2.1 (sta_st hm) cd.1 (fun h2 f2 O2 => ?_)
    exact tail h2 f2 O2
  refine w_aload5 r_137_69 ?_
  refine w_iload2 r_137_71 ?_
  refine k_102 r_137_72 (Wk hL hw).1 (Nat.le_of_ble_eq_true rfl) ?_
  refine c_aim (d := d + 17) hw hL hb hB.2.2.2.1 hC ho hS hP hm hd cd.2 hE hI hst hN (fun h1 va' zv' stp' A => ?_)
  exact fin h1 va' zv' stp' A
theorem c_way {va2 zv2 : Nat} {stp2 : Int} (hc : R32 c) (hgo : R32 go) (hL : Lay h) (hX : CX h rb B dd M) (hW : 0 < M.n → CWy h 96 va zv B dd M false stp) (hW2 : 0 < M.n → CWy h 101 va2 zv2 B dd M true stp2)
    (k1 : ¬ ((0 ≤ c ∧ c < M.n) ∧ 0 ≤ go ∧ go < M.n) → K (iI (-1)) (sI h 1 18 (iI 1)))
    (k5 : (0 ≤ c ∧ c < M.n) ∧ 0 ≤ go ∧ go < M.n → ¬ (xp B dd M go z).nw (sta M) c = -1 → K (iI (-1)) (sI h 1 18 (iI 5)))
    (k6 : (0 ≤ c ∧ c < M.n) ∧ 0 ≤ go ∧ go < M.n → (xp B dd M go z).nw (sta M) c = -1 → ¬ Vl (xp B dd M go z) (sta M) c < 1000000000000000 → ∀ h' va' zv' stp', (z = false → Wed q0 h h' 96 va zv va' zv' B dd M false stp stp') → (z = true → Wed q0 h h' 101 va2 zv2 va' zv' B dd M true stp2 stp') → K (iI (-1)) (sI h' 1 18 (iI 6)))
    (kt : (0 ≤ c ∧ c < M.n) ∧ 0 ≤ go ∧ go < M.n → (xp B dd M go z).nw (sta M) c = -1 → Vl (xp B dd M go z) (sta M) c < 1000000000000000 → ∀ h' va' zv' stp', (z = false → Wed q0 h h' 96 va zv va' zv' B dd M false stp stp') → (z = true → Wed q0 h h' 101 va2 zv2 va' zv' B dd M true stp2 stp') → K (iI (wyv B dd M c go z)) (sI h' 1 18 (iI 0))) :
    XW (d + 23) 137 0 [.ref 1, .int (iI c), .int (iI go), .int (iI (b2i z)), .null, .null] [] h (KI K) := by
  obtain ⟨hB, hC, hP, hv⟩ := hX
  have hb := hB.1
  have e2 := hP.1.2.2.1
  have main : (0 ≤ c ∧ c < M.n) ∧ 0 ≤ go ∧ go < M.n → XW (d + 23) 137 15 [.ref 1, .int (iI c), .int (iI go), .int (iI (b2i z)), .null, .null] [] h (KI K) := by
    intro cd
    obtain ⟨ho, hm, hd, hS⟩ := hv (by omega)
    have hn := M.n_in hm
    have hW := hW (by omega)
    have hW2 := hW2 (by omega)
    have st := sta_in hm
    have sg := hP.2.2.2.2.1 c cd.1.1 (by omega)
    have li := lnd_in (b := uns (sta M)) sg
    have u0 : 0 ≤ uns (sta M) := Int.natCast_nonneg _
    have v32 : gI h 84 c.toNat = iI (zA h 84 c) := gI_A _ _ _
    have s0 := see0 (B := B) (dd := dd) (go := go) (bm := z) hP hm st.1 cd.1
    have kt := kt cd
    have k6 := k6 cd
    have k5 := k5 cd
    by_cases q : (xp B dd M go z).nw (sta M) c = -1
    · have l0 := s0.2 q
      have kt := kt q
      have k6 := k6 q
      cases z with
      | false =>
        change XW (d + 23) 137 15 [.ref 1, .int (iI c), .int (iI go), .int (iI 0), .null, .null] [] h (KI K)
        have J := fun X3 => c_wayOn (X3 := X3) (d := d) (K := K) (Or.inl rfl) hL hB hC hP ho hm hd hS hW cd q (fun a h' va' zv' stp' w => k6 a h' va' zv' stp' (fun _ => w) (fun x => by cases x)) (fun a h' va' zv' stp' w => kt a h' va' zv' stp' (fun _ => w) (fun x => by cases x))
        refine w_aload0 r_137_15 ?_
        refine w_getA (x := 80) r_137_16 (Lk_1 hL) (Lr_1_9 hL) (by decide) ?_
        refine k_56 r_137_19 (Lk_80 hL) (Nat.le_of_ble_eq_true rfl) ?_
        refine c_startState (d := d + 20) hL hP hm ?_
        refine w_istore4 r_137_22 rfl ?_
        refine w_aload0 r_137_24 ?_
        refine w_getA (x := 80) r_137_25 (Lk_1 hL) (Lr_1_9 hL) (by decide) ?_
        refine w_getA (x := 84) r_137_28 (Lk_80 hL) (Lr_80_8 hL) (by decide) ?_
        refine w_iload1 r_137_31 ?_
        refine v_iald r_137_32 (Lk_84 hL) (Lz_84 hL) (by decide) (by omega) v32 ?_
        refine w_aload0 r_137_33 ?_
        refine w_getA (x := 80) r_137_34 (Lk_1 hL) (Lr_1_9 hL) (by decide) ?_
        refine w_iload4 r_137_37 ?_
        refine k_62 r_137_39 (Lk_80 hL) (Nat.le_of_ble_eq_true rfl) ?_
        refine c_unseen st.1 ?_
        refine v_iandN (hs := sg.1) (he := u0) r_137_42 ?_
        refine v_if_eq r_137_43 (by first | exact zF_in _ _ _ | exact zA_in _ _ _ | omega) (fun _ => ?_) (fun q => absurd q (by omega))
        refine w_iload3 r_137_52 ?_
        refine v_if_eq r_137_53 (by first | exact zF_in _ _ _ | exact zA_in _ _ _ | omega) (fun _ => ?_) (fun q => absurd q (by omega))
        refine w_aload0 r_137_63 ?_
        refine w_getA (x := 96) r_137_64 (Lk_1 hL) (Lr_1_11 hL) (by decide) ?_
        refine w_astore5 r_137_67 rfl ?_
        exact J _
      | true =>
        change XW (d + 23) 137 15 [.ref 1, .int (iI c), .int (iI go), .int (iI 1), .null, .null] [] h (KI K)
        have J := fun X3 => c_wayOn (X3 := X3) (d := d) (K := K) (Or.inr rfl) hL hB hC hP ho hm hd hS hW2 cd q (fun a h' va' zv' stp' w => k6 a h' va' zv' stp' (fun x => by cases x) (fun _ => w)) (fun a h' va' zv' stp' w => kt a h' va' zv' stp' (fun x => by cases x) (fun _ => w))
        refine w_aload0 r_137_15 ?_
        refine w_getA (x := 80) r_137_16 (Lk_1 hL) (Lr_1_9 hL) (by decide) ?_
        refine k_56 r_137_19 (Lk_80 hL) (Nat.le_of_ble_eq_true rfl) ?_
        refine c_startState (d := d + 20) hL hP hm ?_
        refine w_istore4 r_137_22 rfl ?_
        refine w_aload0 r_137_24 ?_
        refine w_getA (x := 80) r_137_25 (Lk_1 hL) (Lr_1_9 hL) (by decide) ?_
        refine w_getA (x := 84) r_137_28 (Lk_80 hL) (Lr_80_8 hL) (by decide) ?_
        refine w_iload1 r_137_31 ?_
        refine v_iald r_137_32 (Lk_84 hL) (Lz_84 hL) (by decide) (by omega) v32 ?_
        refine w_aload0 r_137_33 ?_
        refine w_getA (x := 80) r_137_34 (Lk_1 hL) (Lr_1_9 hL) (by decide) ?_
        refine w_iload4 r_137_37 ?_
        refine k_62 r_137_39 (Lk_80 hL) (Nat.le_of_ble_eq_true rfl) ?_
        refine c_unseen st.1 ?_
        refine v_iandN (hs := sg.1) (he := u0) r_137_42 ?_
        refine v_if_eq r_137_43 (by first | exact zF_in _ _ _ | exact zA_in _ _ _ | omega) (fun _ => ?_) (fun q => absurd q (by omega))
        refine w_iload3 r_137_52 ?_
        refine v_if_eq r_137_53 (by first | exact zF_in _ _ _ | exact zA_in _ _ _ | omega) (fun q => absurd q (by omega)) (fun _ => ?_)
        refine w_aload0 r_137_56 ?_
        refine w_getA (x := 101) r_137_57 (Lk_1 hL) (Lr_1_12 hL) (by decide) ?_
        refine w_goto r_137_60 ?_
        refine w_astore5 r_137_67 rfl ?_
        exact J _
    · have l0 : ¬ lnd (zA h 84 c) (uns (sta M)) = 0 := fun x => q (s0.1 x)
      have R := k5 q
      refine w_aload0 r_137_15 ?_
      refine w_getA (x := 80) r_137_16 (Lk_1 hL) (Lr_1_9 hL) (by decide) ?_
      refine k_56 r_137_19 (Lk_80 hL) (Nat.le_of_ble_eq_true rfl) ?_
      refine c_startState (d := d + 20) hL hP hm ?_
      refine w_istore4 r_137_22 rfl ?_
      refine w_aload0 r_137_24 ?_
      refine w_getA (x := 80) r_137_25 (Lk_1 hL) (Lr_1_9 hL) (by decide) ?_
      refine w_getA (x := 84) r_137_28 (Lk_80 hL) (Lr_80_8 hL) (by decide) ?_
      refine w_iload1 r_137_31 ?_
      refine v_iald r_137_32 (Lk_84 hL) (Lz_84 hL) (by decide) (by omega) v32 ?_
      refine w_aload0 r_137_33 ?_
      refine w_getA (x := 80) r_137_34 (Lk_1 hL) (Lr_1_9 hL) (by decide) ?_
      refine w_iload4 r_137_37 ?_
      refine k_62 r_137_39 (Lk_80 hL) (Nat.le_of_ble_eq_true rfl) ?_
      refine c_unseen st.1 ?_
      refine v_iandN (hs := sg.1) (he := u0) r_137_42 ?_
      refine v_if_eq r_137_43 (by first | exact zF_in _ _ _ | exact zA_in _ _ _ | omega) (fun q => absurd q (by omega)) (fun _ => ?_)
      refine w_aload0 r_137_46 ?_
      refine w_iconst (v := iI (5)) r_137_47 rfl ?_
      refine k_157 r_137_48 (Lk_1 hL) (Nat.le_of_ble_eq_true rfl) ?_
      refine c_refuse hL ?_
      refine w_iret r_137_51 ?_
      exact R
  refine w_aload0 r_137_0 ?_
  refine w_iload1 r_137_1 ?_
  refine w_iload2 r_137_2 ?_
  refine k_154 r_137_3 (Lk_1 hL) (Nat.le_of_ble_eq_true rfl) ?_
  refine c_areCells (by omega) (by omega) hL (fun c3 => ?_) (fun c3 => ?_)
  · refine v_if_ne r_137_6 (by first | exact zF_in _ _ _ | exact zA_in _ _ _ | omega) (fun _ => ?_) (fun q => absurd q (by omega))
    exact main (by omega)
  · refine v_if_ne r_137_6 (by first | exact zF_in _ _ _ | exact zA_in _ _ _ | omega) (fun q => absurd q (by omega)) (fun _ => ?_)
    refine w_aload0 r_137_9 ?_
    refine w_iconst (v := iI (1)) r_137_10 rfl ?_
    refine k_157 r_137_11 (Lk_1 hL) (Nat.le_of_ble_eq_true rfl) ?_
    refine c_refuse hL ?_
    refine w_iret r_137_14 ?_
    exact k1 (by omega)
theorem m_way (hc : R32 c) (hgo : R32 go) (hL : Lay h) (hX : MX h B dd M) (hS : 0 < M.n → MSl h B dd M)
    (k1 : ¬ ((0 ≤ c ∧ c < M.n) ∧ 0 ≤ go ∧ go < M.n) → K (iI (-1)) (sI (hG h) 118 39 (iI 1)))
    (k5 : (0 ≤ c ∧ c < M.n) ∧ 0 ≤ go ∧ go < M.n → ¬ (xp B dd M go z).nw (sta M) c = -1 → K (iI (-1)) (sI (hG h) 118 39 (iI 5)))
    (k6 : (0 ≤ c ∧ c < M.n) ∧ 0 ≤ go ∧ go < M.n → (xp B dd M go z).nw (sta M) c = -1 → ¬ Vl (xp B dd M go z) (sta M) c < 1000000000000000 → ∀ h', SvI (hG h) h' B dd M go z 0 → K (iI (-1)) (sI h' 118 39 (iI 6)))
    (kt : (0 ≤ c ∧ c < M.n) ∧ 0 ≤ go ∧ go < M.n → (xp B dd M go z).nw (sta M) c = -1 → Vl (xp B dd M go z) (sta M) c < 1000000000000000 → ∀ h1 h', SvI (hG h) h1 B dd M go z 0 → Fr (pA [150]) h1 h' → K (iI (wyv B dd M c go z)) h') :
    XW (d + 7) 234 0 [.ref 118, .int (iI c), .int (iI go), .int (iI (b2i z)), .null] [] h (KI K) := by
  have ew := hX.n
  obtain ⟨hM, hQ, hP, hdd, hv⟩ := hX
  have main : (0 ≤ c ∧ c < M.n) ∧ 0 ≤ go ∧ go < M.n → XW (d + 7) 234 26 [.ref 118, .int (iI c), .int (iI go), .int (iI (b2i z)), .null] [] (hG h) (KI K) := by
    intro cd
    obtain ⟨h12, ho, hm, hd⟩ := hv (by omega)
    have hS := hG_MSl (hS (by omega))
    have kt := kt cd
    have k6 := k6 cd
    have k5 := k5 cd
    have om := hm.1
    have hn := M.n_in hm
    have hL := (hG_fr h).lay hL
    have Q1 := hG_MBk hQ
    have P1 := hG_MMp hP
    have d1 : gI (hG h) 118 38 = iI dd := by rw [((hG_fr h).2 118 38 (by simp [pF])).1]; exact hdd
    have vi := vl_in (bm := z) ho hm hd cd.2 cd.1
    have st := sta_in hm
    have v32 : gI (hG h) 118 37 = iI M.nd := by rw [gI_F, P1.1.1]
    have ns := XP.nw_spec (xp B dd M go z) (sta M) c om.2.2.2.2.1
    have dk : ∀ e, 0 ≤ e → e < M.nd → (dg (sta M) e = 0 ↔ M.kn e = -1) := fun e a b => by
      have k := kix_in hm ⟨a, b⟩
      have := st.2 e a (by omega)
      rw [if_pos b] at this
      omega
    generalize hG h = h1 at *
    have go2 : ∀ (i : Int), (xp B dd M go z).nw (sta M) c = -1 → XW (d + 7) 234 71 [.ref 118, .int (iI c), .int (iI go), .int (iI (b2i z)), .int (iI i)] [] h1 (KI K) := by
      intro i q
      have kt := kt q
      have k6 := k6 q
      have fin : ∀ h2, SvI h1 h2 B dd M go z 0 → XW (d + 7) 234 78 [.ref 118, .int (iI c), .int (iI go), .int (iI (b2i z)), .int (iI i)] [.long (iL (frV (Vl (xp B dd M go z) (sta M) c)))] h2 (KI K) := by
        intro h2 I
        have hL := I.1.lay hL
        have P2 : MMp h2 M := P1.fr I.1 (fun a j p q => by simp [pO, pA, pF]; omega) (fun j p q => by simp [pO, pA, pF]; omega)
        unfold frV
        by_cases w : Vl (xp B dd M go z) (sta M) c < 1000000000000000
        · have R := kt w h2
          unfold wyv at R
          have sd : MSd h2 B dd M go z := ⟨I.2.1, I.2.2.1, I.2.2.2.1, I.2.2.2.2.1⟩
          have stp : ∀ KK : Int32 → XH → Prop, (∀ h3, Fr (pA [150]) h2 h3 → KK (iI (if c = go then 4 else (xp B dd M go z).wy (Vl (xp B dd M go z)) (sta M) c)) h3) → XW (d + 6) 233 0 [.ref 118, .int (iI c), .int (iI (sta M)), .null, .null, .null, .null, .null] [] h2 (KI KK) := fun KK kk => m_stepOf (d := d + 3) hL ho hd P2 hm cd.2 sd st.1 (CanB.sta hm) cd.1 q w (fun x => by have := kk h2 (Fr.refl _ _); rw [if_pos x] at this; exact this) (fun x h3 f3 _ => by have := kk h3 f3; rw [if_neg x] at this; exact this)
          rw [if_pos w]
          refine w_lconst (v := iL 0) r_234_78 rfl ?_
          refine v_lcmp r_234_79 (by first | exact zF_in _ _ _ | exact zA_in _ _ _ | omega) (by first | exact zF_in _ _ _ | exact zA_in _ _ _ | omega) ?_
          refine v_if_ge r_234_80 (by split <;> (try split) <;> omega) (fun _ => ?_) (fun q => absurd q (by (split <;> (try split) <;> omega)))
          refine w_aload0 r_234_90 ?_
          refine w_iload1 r_234_91 ?_
          refine w_aload0 r_234_92 ?_
          refine k_215 r_234_93 (Lk_118 hL) (Nat.le_of_ble_eq_true rfl) ?_
          refine m_base (d := d + 5) hL P2 hm I.2.1.1 ?_
          refine k_233 r_234_96 (Lk_118 hL) (Nat.le_of_ble_eq_true rfl) ?_
          refine stp _ (fun h3 f3 => ?_)
          refine w_iret r_234_99 ?_
          exact R h3 I f3
        · have R := k6 w h2 I
          rw [if_neg w]
          refine w_lconst (v := iL 0) r_234_78 rfl ?_
          refine v_lcmp r_234_79 (by first | exact zF_in _ _ _ | exact zA_in _ _ _ | omega) (by first | exact zF_in _ _ _ | exact zA_in _ _ _ | omega) ?_
          refine v_if_ge r_234_80 (by split <;> (try split) <;> omega) (fun q => absurd q (by (split <;> (try split) <;> omega))) (fun _ => ?_)
          refine w_aload0 r_234_83 ?_
          refine w_bipush (v := iI (6)) r_234_84 rfl ?_
          refine k_165 r_234_86 (Lk_118 hL) (Nat.le_of_ble_eq_true rfl) ?_
          refine m_no hL ?_
          refine w_iret r_234_89 ?_
          exact R
      refine w_aload0 r_234_71 ?_
      refine w_iload1 r_234_72 ?_
      refine w_iload2 r_234_73 ?_
      refine w_iload3 r_234_74 ?_
      refine k_228 r_234_75 (Lk_118 hL) (Nat.le_of_ble_eq_true rfl) ?_
      refine m_from (d := d) (bm := z) hL Q1 ho P1 hm d1 hd cd.2 cd.1 hS (fun h2 I => ?_)
      exact fin h2 I
    have loop : ∀ i : Nat, i ≤ M.nd.toNat → (∀ e : Int, 0 ≤ e → e < i → ¬ (dg (sta M) e = 0 ∧ (xp B dd M go z).nr e c = true)) → XW (d + 7) 234 29 [.ref 118, .int (iI c), .int (iI go), .int (iI (b2i z)), .int (iI i)] [] h1 (KI K) := by
      refine upto _ ?_ ?_
      · intro no
        have q : (xp B dd M go z).nw (sta M) c = -1 := by
          rcases ns with x | x
          · exact x.1
          · have b : (xp B dd M go z).nw (sta M) c < M.nd := x.1.2
            exact absurd ⟨x.2.1, x.2.2.1⟩ (no _ x.1.1 (by omega))
        have J := go2 (M.nd.toNat : Nat) q
        refine w_iload4 r_234_29 ?_
        refine w_aload0 r_234_31 ?_
        refine v_getI r_234_32 (Lk_118 hL) v32 ?_
        refine v_ic_ge r_234_35 (by first | exact zF_in _ _ _ | exact zA_in _ _ _ | omega) (by first | exact zF_in _ _ _ | exact zA_in _ _ _ | omega) (fun _ => ?_) (fun q => absurd q (by omega))
        exact J
      · intro i hi ih no
        have i1 : (i : Int) < M.nd := by omega
        have kn := kn_in hm ⟨Int.natCast_nonneg i, i1⟩
        have dki := dk i (Int.natCast_nonneg i) i1
        have v44 : gI h1 137 (i : Int).toNat = iI (M.kn i) := by rw [gI_A, (P1.2.2.1 i (Int.natCast_nonneg i) i1).2]
        have nxt : ¬ (dg (sta M) i = 0 ∧ (xp B dd M go z).nr i c = true) → XW (d + 7) 234 29 [.ref 118, .int (iI c), .int (iI go), .int (iI (b2i z)), .int (iI (i + 1))] [] h1 (KI K) := fun n => by
          have J := ih (fun e a b => by
            by_cases x : e = i
            · rw [x]; exact n
            · exact no e a (by omega))
          rw [Int.natCast_add, Int.natCast_one] at J
          exact J
        by_cases w : M.kn i = -1
        · cases nr1 : nr M.wd M.hg (M.dc i) c with
          | true =>
            have q : ¬ (xp B dd M go z).nw (sta M) c = -1 := by
              intro q
              rcases ns with x | x
              · exact x.2 i (Int.natCast_nonneg i) i1 nr1 (dki.2 w)
              · omega
            have R := k5 q
            refine w_iload4 r_234_29 ?_
            refine w_aload0 r_234_31 ?_
            refine v_getI r_234_32 (Lk_118 hL) v32 ?_
            refine v_ic_ge r_234_35 (by first | exact zF_in _ _ _ | exact zA_in _ _ _ | omega) (by first | exact zF_in _ _ _ | exact zA_in _ _ _ | omega) (fun q => absurd q (by omega)) (fun _ => ?_)
            refine w_aload0 r_234_38 ?_
            refine w_getA (x := 137) r_234_39 (Lk_118 hL) (Lr_118_45 hL) (by decide) ?_
            refine w_iload4 r_234_42 ?_
            refine v_iald r_234_44 (Lk_137 hL) (Lz_137 hL) (by decide) (by omega) v44 ?_
            refine w_iconst (v := iI (-1)) r_234_45 rfl ?_
            refine v_ic_ne r_234_46 (by first | exact zF_in _ _ _ | exact zA_in _ _ _ | omega) (by first | exact zF_in _ _ _ | exact zA_in _ _ _ | omega) (fun q => absurd q (by omega)) (fun _ => ?_)
            refine w_aload0 r_234_49 ?_
            refine w_iload1 r_234_50 ?_
            refine w_iload4 r_234_51 ?_
            refine k_220 r_234_53 (Lk_118 hL) (Nat.le_of_ble_eq_true rfl) ?_
            refine m_isNear (d := d + 4) hL P1 hm cd.1 ⟨Int.natCast_nonneg i, i1⟩ (fun _ => ?_) (fun y => absurd nr1 (by rw [y]; decide))
            refine v_if_eq r_234_56 (by first | exact zF_in _ _ _ | exact zA_in _ _ _ | omega) (fun q => absurd q (by omega)) (fun _ => ?_)
            refine w_aload0 r_234_59 ?_
            refine w_iconst (v := iI (5)) r_234_60 rfl ?_
            refine k_165 r_234_61 (Lk_118 hL) (Nat.le_of_ble_eq_true rfl) ?_
            refine m_no hL ?_
            refine w_iret r_234_64 ?_
            exact R
          | false =>
            have J := nxt (fun x => by have y : nr M.wd M.hg (M.dc i) c = true := x.2; rw [nr1] at y; cases y)
            refine w_iload4 r_234_29 ?_
            refine w_aload0 r_234_31 ?_
            refine v_getI r_234_32 (Lk_118 hL) v32 ?_
            refine v_ic_ge r_234_35 (by first | exact zF_in _ _ _ | exact zA_in _ _ _ | omega) (by first | exact zF_in _ _ _ | exact zA_in _ _ _ | omega) (fun q => absurd q (by omega)) (fun _ => ?_)
            refine w_aload0 r_234_38 ?_
            refine w_getA (x := 137) r_234_39 (Lk_118 hL) (Lr_118_45 hL) (by decide) ?_
            refine w_iload4 r_234_42 ?_
            refine v_iald r_234_44 (Lk_137 hL) (Lz_137 hL) (by decide) (by omega) v44 ?_
            refine w_iconst (v := iI (-1)) r_234_45 rfl ?_
            refine v_ic_ne r_234_46 (by first | exact zF_in _ _ _ | exact zA_in _ _ _ | omega) (by first | exact zF_in _ _ _ | exact zA_in _ _ _ | omega) (fun q => absurd q (by omega)) (fun _ => ?_)
            refine w_aload0 r_234_49 ?_
            refine w_iload1 r_234_50 ?_
            refine w_iload4 r_234_51 ?_
            refine k_220 r_234_53 (Lk_118 hL) (Nat.le_of_ble_eq_true rfl) ?_
            refine m_isNear (d := d + 4) hL P1 hm cd.1 ⟨Int.natCast_nonneg i, i1⟩ (fun y => absurd y (by rw [nr1]; decide)) (fun _ => ?_)
            refine v_if_eq r_234_56 (by first | exact zF_in _ _ _ | exact zA_in _ _ _ | omega) (fun _ => ?_) (fun q => absurd q (by omega))
            refine w_iinc4 r_234_65 rfl (iI_add _ _) ?_
            refine w_goto r_234_68 ?_
            exact J
        · have J := nxt (fun x => w (dki.1 x.1))
          refine w_iload4 r_234_29 ?_
          refine w_aload0 r_234_31 ?_
          refine v_getI r_234_32 (Lk_118 hL) v32 ?_
          refine v_ic_ge r_234_35 (by first | exact zF_in _ _ _ | exact zA_in _ _ _ | omega) (by first | exact zF_in _ _ _ | exact zA_in _ _ _ | omega) (fun q => absurd q (by omega)) (fun _ => ?_)
          refine w_aload0 r_234_38 ?_
          refine w_getA (x := 137) r_234_39 (Lk_118 hL) (Lr_118_45 hL) (by decide) ?_
          refine w_iload4 r_234_42 ?_
          refine v_iald r_234_44 (Lk_137 hL) (Lz_137 hL) (by decide) (by omega) v44 ?_
          refine w_iconst (v := iI (-1)) r_234_45 rfl ?_
          refine v_ic_ne r_234_46 (by first | exact zF_in _ _ _ | exact zA_in _ _ _ | omega) (by first | exact zF_in _ _ _ | exact zA_in _ _ _ | omega) (fun _ => ?_) (fun q => absurd q (by omega))
          refine w_iinc4 r_234_65 rfl (iI_add _ _) ?_
          refine w_goto r_234_68 ?_
          exact J
    have J := loop 0 (by omega) (fun e a b => by omega)
    refine w_iconst (v := iI (0)) r_234_26 rfl ?_
    refine w_istore4 r_234_27 rfl ?_
    exact J
  refine w_aload0 r_234_0 ?_
  refine k_164 r_234_1 (Lk_118 hL) (Nat.le_of_ble_eq_true rfl) ?_
  refine m_good hL ?_
  refine w_aload0 r_234_4 ?_
  refine w_iload1 r_234_5 ?_
  refine k_197 r_234_6 (Lk_118 hL) (Nat.le_of_ble_eq_true rfl) ?_
  refine m_isCell (h0 := h) (by first | exact zF_in _ _ _ | exact zA_in _ _ _ | omega) hL ⟨rfl, rfl, rfl, rfl, rfl, rfl⟩ hM (fun c6 => ?_) (fun c6 => ?_)
  · refine v_if_eq r_234_9 (by first | exact zF_in _ _ _ | exact zA_in _ _ _ | omega) (fun q => absurd q (by omega)) (fun _ => ?_)
    refine w_aload0 r_234_12 ?_
    refine w_iload2 r_234_13 ?_
    refine k_197 r_234_14 (Lk_118 hL) (Nat.le_of_ble_eq_true rfl) ?_
    refine m_isCell (h0 := h) (by first | exact zF_in _ _ _ | exact zA_in _ _ _ | omega) hL ⟨rfl, rfl, rfl, rfl, rfl, rfl⟩ hM (fun c14 => ?_) (fun c14 => ?_)
    · refine v_if_ne r_234_17 (by first | exact zF_in _ _ _ | exact zA_in _ _ _ | omega) (fun _ => ?_) (fun q => absurd q (by omega))
      exact main (by omega)
    · refine v_if_ne r_234_17 (by first | exact zF_in _ _ _ | exact zA_in _ _ _ | omega) (fun q => absurd q (by omega)) (fun _ => ?_)
      refine w_aload0 r_234_20 ?_
      refine w_iconst (v := iI (1)) r_234_21 rfl ?_
      refine k_165 r_234_22 (Lk_118 hL) (Nat.le_of_ble_eq_true rfl) ?_
      refine m_no hL ?_
      refine w_iret r_234_25 ?_
      exact k1 (by omega)
  · refine v_if_eq r_234_9 (by first | exact zF_in _ _ _ | exact zA_in _ _ _ | omega) (fun _ => ?_) (fun q => absurd q (by omega))
    refine w_aload0 r_234_20 ?_
    refine w_iconst (v := iI (1)) r_234_21 rfl ?_
    refine k_165 r_234_22 (Lk_118 hL) (Nat.le_of_ble_eq_true rfl) ?_
    refine m_no hL ?_
    refine w_iret r_234_25 ?_
    exact k1 (by omega)
end OP8
