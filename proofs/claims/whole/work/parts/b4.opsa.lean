/-! calls: run -/
section OPA
variable {d : Nat} {h h' h1 : XH} {K : Int32 → XH → Prop} {KU : XH → Prop} {B : XB} {dd : Int} {M : XM} {rb va zv wa : Nat} {c go e stp t : Int} {z bm : Bool}
abbrev XRn (wa : Nat) : Nat → Nat → Bool := pO (pA [116]) (pF [(wa, 3)])
/-- a run of length L -/
def RnL (B : XB) (dd : Int) (M : XM) (go : Int) (bm : Bool) (t c : Int) (L : Nat) : Prop := L ≤ 600 ∧ (pos B dd M go bm (ful M t) (sta M) c L).2 = go ∧ ∀ i, i < L → ¬ (pos B dd M go bm (ful M t) (sta M) c i).2 = go
theorem fo_ws {a j : Nat} (p : pO (PWs wa va) (XRn wa) a j = false) : PFo wa va 116 a j = false := by
  simp only [pO, Bool.or_eq_false_iff] at p ⊢
  obtain ⟨⟨p1, p2⟩, p3, p4⟩ := p
  refine ⟨?_, ?_⟩
  · simp [pA] at p1 p3 ⊢; omega
  · simp [pF] at p2 p4 ⊢; omega
theorem c_runOn {X3 X7 : Value} (hw : Wa wa) (hL : Lay h) (hB : RB h rb) (hC : CBk h rb B) (hP : CMp h M) (ho : B.ok) (hm : M.ok B.g) (hd : 0 ≤ dd ∧ dd < B.w) (hS : CLr h B dd) (hW : CWy h wa va zv B dd M bm stp) (cd : (0 ≤ c ∧ c < M.n) ∧ 0 ≤ go ∧ go < M.n) (ht : 0 ≤ t ∧ t < trm M)
    (k6 : ¬ Vl (xp B dd M go bm) (sta M) c < 1000000000000000 → ∀ h' va' zv' stp', Wed q0 h h' wa va zv va' zv' B dd M bm stp stp' → K (iI (-1)) (sI h' 1 18 (iI 6)))
    (kt : Vl (xp B dd M go bm) (sta M) c < 1000000000000000 → ∀ h' va' zv' stp' (L : Nat), RnL B dd M go bm t c L → Wed (XRn wa) h h' wa va zv va' zv' B dd M bm stp stp' → (∀ i : Nat, i ≤ L → zA h' 116 i = (pos B dd M go bm (ful M t) (sta M) c i).2) → K (iI (pcst B dd M go bm (ful M t) (sta M) c L)) (sI (sI h' 1 17 (iI (L + 1))) 1 18 (iI 0))) :
    XW (d + 23) 140 58 [.ref 1, .int (iI c), .int (iI go), X3, .int (iI t), .int (iI (sta M)), .ref wa, X7] [] h (KI K) := by
  have hb := hB.1
  obtain ⟨hE, hI, hst, hN⟩ := hW
  have hn := M.n_in hm
  have tr := trm_in hm
  have vi := vl_in (bm := bm) ho hm hd cd.2 cd.1
  have cv := cvv_lt vi.1
  have hw' : wa = 96 ∨ wa = 101 := hw
  have x5 : q0 wa 5 = false ∧ q0 80 4 = false := ⟨rfl, rfl⟩
  have y5 : XRn wa wa 5 = false ∧ XRn wa 80 4 = false := by simp [pO, pA, pF]; omega
  have cf := con_ful hm ht.1
  have fin : ∀ h1 va' zv' stp', Aim h h1 wa va zv va' zv' B dd M go bm stp stp' → XW (d + 23) 140 64 [.ref 1, .int (iI c), .int (iI go), X3, .int (iI t), .int (iI (sta M)), .ref wa, X7] [] h1 (KI K) := by
    intro h1 va' zv' stp' A
    have hL1 := A.2.2.2.2.2.2.2
    have tail : ∀ h2, Fr (PWs wa va') h1 h2 → Aimed h2 wa va' zv' B dd M go bm stp' → XW (d + 23) 140 72 [.ref 1, .int (iI c), .int (iI go), X3, .int (iI t), .int (iI (sta M)), .ref wa, X7] [.long (iL (cvv (Vl (xp B dd M go bm) (sta M) c)))] h2 (KI K) := by
      intro h2 f2 O2
      have hL2 := f2.lay hL1
      by_cases q : Vl (xp B dd M go bm) (sta M) c < 1000000000000000
      · rw [cv.2.2 q]
        have kt := kt q
        have end1 : ∀ h3 (L : Nat), RnL B dd M go bm t c L → Fr (PFo wa va' 116) h2 h3 → Aimed h3 wa va' zv' B dd M go bm stp' → zF h3 wa 3 = L + 1 → (∀ i : Nat, i ≤ L → zA h3 116 i = (pos B dd M go bm (ful M t) (sta M) c i).2) → XW (d + 23) 140 107 [.ref 1, .int (iI c), .int (iI go), X3, .int (iI t), .int (iI (sta M)), .ref wa, X7] [.int (iI (pcst B dd M go bm (ful M t) (sta M) c L))] h3 (KI K) := by
          intro h3 L rl f3 O3 z3 tr3
          have f23 : Fr (pO (PWs wa va') (XRn wa)) h1 h3 := (f2.mono (fun a j p => by simp only [pO, Bool.or_eq_false_iff] at p ⊢; exact p.1)).trans (f3.mono (fun a j p => fo_ws p))
          have R := kt h3 va' zv' stp' L rl (Wed.of hw hL hm hI.1.1.2.2.2.2.2.2 A f23 O3 ⟨hI.1.2.2.2.1, hst⟩ cd.2 y5) tr3
          have hL := f3.lay hL2
          have v112 : gI h3 wa 3 = iI (L + 1) := by rw [gI_F, z3]
          refine w_istore7 r_140_107 rfl ?_
          refine w_aload0 r_140_109 ?_
          refine w_aload6 r_140_110 ?_
          refine v_getI r_140_112 (Wk hL hw).1 v112 ?_
          refine w_putI r_140_115 (Lk_1 hL) (Ln_1 hL) ?_
          refine w_aload0 r_140_118 ?_
          refine w_iload7 r_140_119 ?_
          refine k_156 r_140_121 (Lk_1 hL) (Nat.le_of_ble_eq_true rfl) ?_
          refine c_answer hL ?_
          refine w_iret r_140_124 ?_
          exact R
        have hL := hL2
        refine w_ldc2 (v := iL (1152921504606846976)) r_140_72 rfl ?_
        refine v_lcmp r_140_75 (by first | exact zF_in _ _ _ | exact zA_in _ _ _ | omega) (by first | exact zF_in _ _ _ | exact zA_in _ _ _ | omega) ?_
        refine v_if_lt r_140_76 (by split <;> (try split) <;> omega) (fun _ => ?_) (fun q => absurd q (by (split <;> (try split) <;> omega)))
        refine w_aload6 r_140_86 ?_
        refine w_iload1 r_140_88 ?_
        refine w_iload5 r_140_89 ?_
        refine w_aload0 r_140_91 ?_
        refine w_getA (x := 80) r_140_92 (Lk_1 hL) (Lr_1_9 hL) (by decide) ?_
        refine w_iload4 r_140_95 ?_
        refine k_59 r_140_97 (Lk_80 hL) (Nat.le_of_ble_eq_true rfl) ?_
        refine c_stateOfTruth (d := d + 19) hL O2.1 hm (by omega) ?_
        refine w_aload0 r_140_100 ?_
        refine w_getA (x := 116) r_140_101 (Lk_1 hL) (Lr_1_15 hL) (by decide) ?_
        refine k_114 r_140_104 (Wk hL hw).1 (Nat.le_of_ble_eq_true rfl) ?_
        refine c_follow (d := d) (ta := 116) (zt := 601) hw ho hd hm cd.2 hL O2 (sta_st hm) cf.1 cf.2 cd.1 q ⟨Lk_116 hL, Lz_116 hL, Ln_116 hL⟩ (Or.inl ⟨rfl, rfl⟩) (fun h3 L l6 pl pn f3 O3 tt => ?_)
        exact end1 h3 L ⟨l6, pl, pn⟩ f3 O3 (tt rfl).1 (tt rfl).2
      · have R := k6 q h2 va' zv' stp' (Wed.of hw hL hm hI.1.1.2.2.2.2.2.2 A (pq0 f2) O2 ⟨hI.1.2.2.2.1, hst⟩ cd.2 x5)
        have hL := hL2
        have : ¬ cvv (Vl (xp B dd M go bm) (sta M) c) < 1152921504606846976 := fun x => q (cv.2.1.1 x)
        refine w_ldc2 (v := iL (1152921504606846976)) r_140_72 rfl ?_
        refine v_lcmp r_140_75 (by first | exact zF_in _ _ _ | exact zA_in _ _ _ | omega) (by first | exact zF_in _ _ _ | exact zA_in _ _ _ | omega) ?_
        refine v_if_lt r_140_76 (by split <;> (try split) <;> omega) (fun q => absurd q (by (split <;> (try split) <;> omega))) (fun _ => ?_)
        refine w_aload0 r_140_79 ?_
        refine w_bipush (v := iI (6)) r_140_80 rfl ?_
        refine k_157 r_140_82 (Lk_1 hL) (Nat.le_of_ble_eq_true rfl) ?_
        refine c_refuse hL ?_
        refine w_iret r_140_85 ?_
        exact R
    have hL := hL1
    refine w_aload6 r_140_64 ?_
    refine w_iload5 r_140_66 ?_
    refine w_iload1 r_140_68 ?_
    refine k_103 r_140_69 (Wk hL hw).1 (Nat.le_of_ble_eq_true rfl) ?_
    refine c_valueFrom (d := d) hw ho hd hm cd.2 hL A.2.1 (sta_st hm) cd.1 (fun h2 f2 O2 => ?_)
    exact tail h2 f2 O2
  refine w_aload6 r_140_58 ?_
  refine w_iload2 r_140_60 ?_
  refine k_102 r_140_61 (Wk hL hw).1 (Nat.le_of_ble_eq_true rfl) ?_
  refine c_aim (d := d + 17) hw hL hb hB.2.2.2.1 hC ho hS hP hm hd cd.2 hE hI hst hN (fun h1 va' zv' stp' A => ?_)
  exact fin h1 va' zv' stp' A
theorem c_run {va2 zv2 : Nat} {stp2 : Int} (hc : R32 c) (hgo : R32 go) (ht : R32 t) (hL : Lay h) (hX : CX h rb B dd M) (hW : 0 < M.n → CWy h 96 va zv B dd M false stp) (hW2 : 0 < M.n → CWy h 101 va2 zv2 B dd M true stp2)
    (k1 : ¬ (((0 ≤ c ∧ c < M.n) ∧ 0 ≤ go ∧ go < M.n) ∧ 0 ≤ t ∧ t < trm M) → K (iI (-1)) (sI h 1 18 (iI 1)))
    (k6 : (0 ≤ c ∧ c < M.n) ∧ 0 ≤ go ∧ go < M.n → 0 ≤ t ∧ t < trm M → ¬ Vl (xp B dd M go z) (sta M) c < 1000000000000000 → ∀ h' va' zv' stp', (z = false → Wed q0 h h' 96 va zv va' zv' B dd M false stp stp') → (z = true → Wed q0 h h' 101 va2 zv2 va' zv' B dd M true stp2 stp') → K (iI (-1)) (sI h' 1 18 (iI 6)))
    (kt : (0 ≤ c ∧ c < M.n) ∧ 0 ≤ go ∧ go < M.n → 0 ≤ t ∧ t < trm M → Vl (xp B dd M go z) (sta M) c < 1000000000000000 → ∀ h' va' zv' stp' (L : Nat), RnL B dd M go z t c L → (z = false → Wed (XRn 96) h h' 96 va zv va' zv' B dd M false stp stp') → (z = true → Wed (XRn 101) h h' 101 va2 zv2 va' zv' B dd M true stp2 stp') → (∀ i : Nat, i ≤ L → zA h' 116 i = (pos B dd M go z (ful M t) (sta M) c i).2) → K (iI (pcst B dd M go z (ful M t) (sta M) c L)) (sI (sI h' 1 17 (iI (L + 1))) 1 18 (iI 0))) :
    XW (d + 23) 140 0 [.ref 1, .int (iI c), .int (iI go), .int (iI (b2i z)), .int (iI t), .null, .null, .null] [] h (KI K) := by
  obtain ⟨hB, hC, hP, hv⟩ := hX
  have hb := hB.1
  have e2 := hP.1.2.2.1
  have main : (0 ≤ c ∧ c < M.n) ∧ 0 ≤ go ∧ go < M.n → XW (d + 23) 140 9 [.ref 1, .int (iI c), .int (iI go), .int (iI (b2i z)), .int (iI t), .null, .null, .null] [] h (KI K) := by
    intro cd
    obtain ⟨ho, hm, hd, hS⟩ := hv (by omega)
    have hW := hW (by omega)
    have hW2 := hW2 (by omega)
    have kt := kt cd
    have k6 := k6 cd
    have tr := trm_in hm
    by_cases w : 0 ≤ t ∧ t < trm M
    · have kt := kt w
      have k6 := k6 w
      cases z with
      | false =>
        change XW (d + 23) 140 9 [.ref 1, .int (iI c), .int (iI go), .int (iI 0), .int (iI t), .null, .null, .null] [] h (KI K)
        have J := fun X3 X7 => c_runOn (X3 := X3) (X7 := X7) (d := d) (K := K) (Or.inl rfl) hL hB hC hP ho hm hd hS hW cd w (fun a h' va' zv' stp' w => k6 a h' va' zv' stp' (fun _ => w) (fun x => by cases x)) (fun a h' va' zv' stp' L rl w => kt a h' va' zv' stp' L rl (fun _ => w) (fun x => by cases x))
        refine w_iload4 r_140_9 ?_
        refine v_if_lt r_140_11 (by first | exact zF_in _ _ _ | exact zA_in _ _ _ | omega) (fun q => absurd q (by omega)) (fun _ => ?_)
        refine w_iload4 r_140_14 ?_
        refine w_aload0 r_140_16 ?_
        refine w_getA (x := 80) r_140_17 (Lk_1 hL) (Lr_1_9 hL) (by decide) ?_
        refine k_55 r_140_20 (Lk_80 hL) (Nat.le_of_ble_eq_true rfl) ?_
        refine c_truthM hL hP hm ?_
        refine v_ic_lt r_140_23 (by first | exact zF_in _ _ _ | exact zA_in _ _ _ | omega) (by first | exact zF_in _ _ _ | exact zA_in _ _ _ | omega) (fun _ => ?_) (fun q => absurd q (by omega))
        refine w_aload0 r_140_32 ?_
        refine w_getA (x := 80) r_140_33 (Lk_1 hL) (Lr_1_9 hL) (by decide) ?_
        refine k_56 r_140_36 (Lk_80 hL) (Nat.le_of_ble_eq_true rfl) ?_
        refine c_startState (d := d + 20) hL hP hm ?_
        refine w_istore5 r_140_39 rfl ?_
        refine w_iload3 r_140_41 ?_
        refine v_if_eq r_140_42 (by first | exact zF_in _ _ _ | exact zA_in _ _ _ | omega) (fun _ => ?_) (fun q => absurd q (by omega))
        refine w_aload0 r_140_52 ?_
        refine w_getA (x := 96) r_140_53 (Lk_1 hL) (Lr_1_11 hL) (by decide) ?_
        refine w_astore6 r_140_56 rfl ?_
        exact J _ _
      | true =>
        change XW (d + 23) 140 9 [.ref 1, .int (iI c), .int (iI go), .int (iI 1), .int (iI t), .null, .null, .null] [] h (KI K)
        have J := fun X3 X7 => c_runOn (X3 := X3) (X7 := X7) (d := d) (K := K) (Or.inr rfl) hL hB hC hP ho hm hd hS hW2 cd w (fun a h' va' zv' stp' w => k6 a h' va' zv' stp' (fun x => by cases x) (fun _ => w)) (fun a h' va' zv' stp' L rl w => kt a h' va' zv' stp' L rl (fun x => by cases x) (fun _ => w))
        refine w_iload4 r_140_9 ?_
        refine v_if_lt r_140_11 (by first | exact zF_in _ _ _ | exact zA_in _ _ _ | omega) (fun q => absurd q (by omega)) (fun _ => ?_)
        refine w_iload4 r_140_14 ?_
        refine w_aload0 r_140_16 ?_
        refine w_getA (x := 80) r_140_17 (Lk_1 hL) (Lr_1_9 hL) (by decide) ?_
        refine k_55 r_140_20 (Lk_80 hL) (Nat.le_of_ble_eq_true rfl) ?_
        refine c_truthM hL hP hm ?_
        refine v_ic_lt r_140_23 (by first | exact zF_in _ _ _ | exact zA_in _ _ _ | omega) (by first | exact zF_in _ _ _ | exact zA_in _ _ _ | omega) (fun _ => ?_) (fun q => absurd q (by omega))
        refine w_aload0 r_140_32 ?_
        refine w_getA (x := 80) r_140_33 (Lk_1 hL) (Lr_1_9 hL) (by decide) ?_
        refine k_56 r_140_36 (Lk_80 hL) (Nat.le_of_ble_eq_true rfl) ?_
        refine c_startState (d := d + 20) hL hP hm ?_
        refine w_istore5 r_140_39 rfl ?_
        refine w_iload3 r_140_41 ?_
        refine v_if_eq r_140_42 (by first | exact zF_in _ _ _ | exact zA_in _ _ _ | omega) (fun q => absurd q (by omega)) (fun _ => ?_)
        refine w_aload0 r_140_45 ?_
        refine w_getA (x := 101) r_140_46 (Lk_1 hL) (Lr_1_12 hL) (by decide) ?_
        refine w_goto r_140_49 ?_
        refine w_astore6 r_140_56 rfl ?_
        exact J _ _
    · have R := k1 (fun x => w x.2)
      refine w_iload4 r_140_9 ?_
      refine v_if_lt r_140_11 (by first | exact zF_in _ _ _ | exact zA_in _ _ _ | omega) (fun c11 => ?_) (fun c11 => ?_)
      · refine w_aload0 r_140_26 ?_
        refine w_iconst (v := iI (1)) r_140_27 rfl ?_
        refine k_157 r_140_28 (Lk_1 hL) (Nat.le_of_ble_eq_true rfl) ?_
        refine c_refuse hL ?_
        refine w_iret r_140_31 ?_
        exact R
      · refine w_iload4 r_140_14 ?_
        refine w_aload0 r_140_16 ?_
        refine w_getA (x := 80) r_140_17 (Lk_1 hL) (Lr_1_9 hL) (by decide) ?_
        refine k_55 r_140_20 (Lk_80 hL) (Nat.le_of_ble_eq_true rfl) ?_
        refine c_truthM hL hP hm ?_
        refine v_ic_lt r_140_23 (by first | exact zF_in _ _ _ | exact zA_in _ _ _ | omega) (by first | exact zF_in _ _ _ | exact zA_in _ _ _ | omega) (fun c23 => ?_) (fun c23 => ?_)
        · exfalso
          omega
        · refine w_aload0 r_140_26 ?_
          refine w_iconst (v := iI (1)) r_140_27 rfl ?_
          refine k_157 r_140_28 (Lk_1 hL) (Nat.le_of_ble_eq_true rfl) ?_
          refine c_refuse hL ?_
          refine w_iret r_140_31 ?_
          exact R
  refine w_aload0 r_140_0 ?_
  refine w_iload1 r_140_1 ?_
  refine w_iload2 r_140_2 ?_
  refine k_154 r_140_3 (Lk_1 hL) (Nat.le_of_ble_eq_true rfl) ?_
  refine c_areCells (by omega) (by omega) hL (fun c3 => ?_) (fun c3 => ?_)
  · refine v_if_eq r_140_6 (by first | exact zF_in _ _ _ | exact zA_in _ _ _ | omega) (fun q => absurd q (by omega)) (fun _ => ?_)
    exact main (by omega)
  · refine v_if_eq r_140_6 (by first | exact zF_in _ _ _ | exact zA_in _ _ _ | omega) (fun _ => ?_) (fun q => absurd q (by omega))
    refine w_aload0 r_140_26 ?_
    refine w_iconst (v := iI (1)) r_140_27 rfl ?_
    refine k_157 r_140_28 (Lk_1 hL) (Nat.le_of_ble_eq_true rfl) ?_
    refine c_refuse hL ?_
    refine w_iret r_140_31 ?_
    exact k1 (fun x => by omega)
end OPA
