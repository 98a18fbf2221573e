/-! calls: way -/
section OP8
variable {d : Nat} {h h' h1 : XH} {K : Int32 → XH → Prop} {KL64 : Int64 → XH → Prop} {KU : XH → Prop} {B : XB} {dd : Int} {M : XM} {rb va zv wa : Nat} {c go e stp : Int} {z bm : Bool}
/-- the way chosen from the start's state -/
noncomputable def wyv (B : XB) (dd : Int) (M : XM) (c go : Int) (bm : Bool) : Int := if c = go then 4 else (xp B dd M go bm).wy (Vl (xp B dd M go bm)) (sta M) c
theorem c_wayOn {X3 : Value} (hw : Wa wa) (hL : Lay h) (hB : RB h rb) (hC : CBk h rb B) (hP : CMp h M) (ho : B.ok) (hm : M.ok B.g) (hd : 0 ≤ dd ∧ dd < B.w) (hS : CLr h B dd) (hW : CWy h wa va zv B dd M bm stp) (cd : (0 ≤ c ∧ c < M.n) ∧ 0 ≤ go ∧ go < M.n) (hnw : (xp B dd M go bm).nw (sta M) c = -1)
    (k6 : ¬ Vl (xp B dd M go bm) (sta M) c < 1000000000000000 → ∀ h' va' zv' stp', Wed q0 h h' wa va zv va' zv' B dd M bm stp stp' → K (iI (-1)) (sI h' 1 18 (iI 6)))
    (kt : Vl (xp B dd M go bm) (sta M) c < 1000000000000000 → ∀ h' va' zv' stp', Wed q0 h h' wa va zv va' zv' B dd M bm stp stp' → K (iI (wyv B dd M c go bm)) (sI h' 1 18 (iI 0))) :
    XW (d + 23) 137 69 [.ref 1, .int (iI c), .int (iI go), X3, .int (iI (sta M)), .ref wa] [] h (KI K) := by
  have hb := hB.1
  obtain ⟨hE, hI, hst, hN⟩ := hW
  have hn := M.n_in hm
  have vi := vl_in (bm := bm) ho hm hd cd.2 cd.1
  have cv := cvv_lt vi.1
  have hw' : wa = 97 ∨ wa = 102 := hw
  have x5 : q0 wa 5 = false ∧ q0 80 4 = false := ⟨rfl, rfl⟩
  have fin : ∀ h1 va' zv' stp', Aim h h1 wa va zv va' zv' B dd M go bm stp stp' → XW (d + 23) 137 75 [.ref 1, .int (iI c), .int (iI go), X3, .int (iI (sta M)), .ref wa] [] h1 (KI K) := by
    intro h1 va' zv' stp' A
    have hL1 := A.2.2.2.2.2.2.2
    have tail : ∀ h2, Fr (PWs wa va') h1 h2 → Aimed h2 wa va' zv' B dd M go bm stp' → XW (d + 23) 137 83 [.ref 1, .int (iI c), .int (iI go), X3, .int (iI (sta M)), .ref wa] [.long (iL (cvv (Vl (xp B dd M go bm) (sta M) c)))] h2 (KI K) := by
      intro h2 f2 O2
      have hL2 := f2.lay hL1
      by_cases q : Vl (xp B dd M go bm) (sta M) c < 1000000000000000
      · rw [cv.2.2 q]
        have kt := kt q
        unfold wyv at kt
        by_cases cg : c = go
        · rw [if_pos cg] at kt
          have R := kt h2 va' zv' stp' (Wed.of hw hL hm hI.1.1.2.2.2.2.2.2 A (pq0 f2) O2 ⟨hI.1.2.2.2.1, hst⟩ cd.2 x5)
          have hL := hL2
          refine w_ldc2 (v := iL (1152921504606846976)) r_137_83 rfl ?_
          refine v_lcmp r_137_86 (by first | exact zF_in _ _ _ | exact zA_in _ _ _ | omega) (by first | exact zF_in _ _ _ | exact zA_in _ _ _ | omega) ?_
          refine v_if_lt r_137_87 (by split <;> (try split) <;> omega) (fun _ => ?_) (fun q => absurd q (by (split <;> (try split) <;> omega)))
          refine w_aload0 r_137_97 ?_
          refine w_iload1 r_137_98 ?_
          refine w_iload2 r_137_99 ?_
          refine v_ic_ne r_137_100 (by first | exact zF_in _ _ _ | exact zA_in _ _ _ | omega) (by first | exact zF_in _ _ _ | exact zA_in _ _ _ | omega) (fun q => absurd q (by omega)) (fun _ => ?_)
          refine w_iconst (v := iI (4)) r_137_103 rfl ?_
          refine w_goto r_137_104 ?_
          refine k_156 r_137_115 (Lk_1 hL) (Nat.le_of_ble_eq_true rfl) ?_
          refine c_answer hL ?_
          refine w_iret r_137_118 ?_
          exact R
        · rw [if_neg cg] at kt
          have R := fun h3 (f3 : Fr (PWs wa va') h2 h3) O3 => kt h3 va' zv' stp' (Wed.of hw hL hm hI.1.1.2.2.2.2.2.2 A (pq0 (f2.trans f3)) O3 ⟨hI.1.2.2.2.1, hst⟩ cd.2 x5)
          have hL := hL2
          refine w_ldc2 (v := iL (1152921504606846976)) r_137_83 rfl ?_
          refine v_lcmp r_137_86 (by first | exact zF_in _ _ _ | exact zA_in _ _ _ | omega) (by first | exact zF_in _ _ _ | exact zA_in _ _ _ | omega) ?_
          refine v_if_lt r_137_87 (by split <;> (try split) <;> omega) (fun _ => ?_) (fun q => absurd q (by (split <;> (try split) <;> omega)))
          refine w_aload0 r_137_97 ?_
          refine w_iload1 r_137_98 ?_
          refine w_iload2 r_137_99 ?_
          refine v_ic_ne r_137_100 (by first | exact zF_in _ _ _ | exact zA_in _ _ _ | omega) (by first | exact zF_in _ _ _ | exact zA_in _ _ _ | omega) (fun _ => ?_) (fun q => absurd q (by omega))
          refine w_aload5 r_137_107 ?_
          refine w_iload4 r_137_109 ?_
          refine w_iload1 r_137_111 ?_
          refine k_113 r_137_112 (Wk hL hw).1 (Nat.le_of_ble_eq_true rfl) ?_
          refine c_bestFrom (d := d + 1) hw ho hd hm cd.2 hL O2 (sta_st hm) cd.1 cg hnw q (fun h3 f3 O3 => ?_)
          have hL := f3.lay hL
          have R := R h3 f3 O3
          refine k_156 r_137_115 (Lk_1 hL) (Nat.le_of_ble_eq_true rfl) ?_
          refine c_answer hL ?_
          refine w_iret r_137_118 ?_
          exact R
      · have R := k6 q h2 va' zv' stp' (Wed.of hw hL hm hI.1.1.2.2.2.2.2.2 A (pq0 f2) O2 ⟨hI.1.2.2.2.1, hst⟩ cd.2 x5)
        have hL := hL2
        have : ¬ cvv (Vl (xp B dd M go bm) (sta M) c) < 1152921504606846976 := fun x => q (cv.2.1.1 x)
        refine w_ldc2 (v := iL (1152921504606846976)) r_137_83 rfl ?_
        refine v_lcmp r_137_86 (by first | exact zF_in _ _ _ | exact zA_in _ _ _ | omega) (by first | exact zF_in _ _ _ | exact zA_in _ _ _ | omega) ?_
        refine v_if_lt r_137_87 (by split <;> (try split) <;> omega) (fun q => absurd q (by (split <;> (try split) <;> omega))) (fun _ => ?_)
        refine w_aload0 r_137_90 ?_
        refine w_bipush (v := iI (6)) r_137_91 rfl ?_
        refine k_157 r_137_93 (Lk_1 hL) (Nat.le_of_ble_eq_true rfl) ?_
        refine c_refuse hL ?_
        refine w_iret r_137_96 ?_
        exact R
    have hL := hL1
    refine w_aload5 r_137_75 ?_
    refine w_iload4 r_137_77 ?_
    refine w_iload1 r_137_79 ?_
    refine k_103 r_137_80 (Wk hL hw).1 (Nat.le_of_ble_eq_true rfl) ?_
    refine c_valueFrom (d := d) hw ho hd hm cd.2 hL A.2.1 (sta_st hm) cd.1 (fun h2 f2 O2 => ?_)
    exact tail h2 f2 O2
  refine w_aload5 r_137_69 ?_
  refine w_iload2 r_137_71 ?_
  refine k_102 r_137_72 (Wk hL hw).1 (Nat.le_of_ble_eq_true rfl) ?_
  refine c_aim (d := d + 17) hw hL hb hB.2.2.2.1 hC ho hS hP hm hd cd.2 hE hI hst hN (fun h1 va' zv' stp' A => ?_)
  exact fin h1 va' zv' stp' A
theorem c_way {va2 zv2 : Nat} {stp2 : Int} (hc : R32 c) (hgo : R32 go) (hL : Lay h) (hX : CX h rb B dd M) (hW : 0 < M.n → CWy h 97 va zv B dd M false stp) (hW2 : 0 < M.n → CWy h 102 va2 zv2 B dd M true stp2)
    (k1 : ¬ ((0 ≤ c ∧ c < M.n) ∧ 0 ≤ go ∧ go < M.n) → K (iI (-1)) (sI h 1 18 (iI 1)))
    (k5 : (0 ≤ c ∧ c < M.n) ∧ 0 ≤ go ∧ go < M.n → ¬ (xp B dd M go z).nw (sta M) c = -1 → K (iI (-1)) (sI h 1 18 (iI 5)))
    (k6 : (0 ≤ c ∧ c < M.n) ∧ 0 ≤ go ∧ go < M.n → (xp B dd M go z).nw (sta M) c = -1 → ¬ Vl (xp B dd M go z) (sta M) c < 1000000000000000 → ∀ h' va' zv' stp', (z = false → Wed q0 h h' 97 va zv va' zv' B dd M false stp stp') → (z = true → Wed q0 h h' 102 va2 zv2 va' zv' B dd M true stp2 stp') → K (iI (-1)) (sI h' 1 18 (iI 6)))
    (kt : (0 ≤ c ∧ c < M.n) ∧ 0 ≤ go ∧ go < M.n → (xp B dd M go z).nw (sta M) c = -1 → Vl (xp B dd M go z) (sta M) c < 1000000000000000 → ∀ h' va' zv' stp', (z = false → Wed q0 h h' 97 va zv va' zv' B dd M false stp stp') → (z = true → Wed q0 h h' 102 va2 zv2 va' zv' B dd M true stp2 stp') → K (iI (wyv B dd M c go z)) (sI h' 1 18 (iI 0))) :
    XW (d + 23) 137 0 [.ref 1, .int (iI c), .int (iI go), .int (iI (b2i z)), .null, .null] [] h (KI K) := by
  obtain ⟨hB, hC, hP, hv⟩ := hX
  have hb := hB.1
  have e2 := hP.1.2.2.1
  have main : (0 ≤ c ∧ c < M.n) ∧ 0 ≤ go ∧ go < M.n → XW (d + 23) 137 15 [.ref 1, .int (iI c), .int (iI go), .int (iI (b2i z)), .null, .null] [] h (KI K) := by
    intro cd
    obtain ⟨ho, hm, hd, hS⟩ := hv (by omega)
    have hn := M.n_in hm
    have hW := hW (by omega)
    have hW2 := hW2 (by omega)
    have st := sta_in hm
    have sg := hP.2.2.2.2.1 c cd.1.1 (by omega)
    have un := uns_fact (sta M).toNat (by omega)
    rw [show (((sta M).toNat : Nat) : Int) = sta M by omega] at un
    have v32 : gI h 84 c.toNat = iI (zA h 84 c) := gI_A _ _ _
    have s0 := see0 (B := B) (dd := dd) (go := go) (bm := z) hP hm st.1 cd.1
    sorry
  refine w_aload0 r_137_0 ?_
  refine w_iload1 r_137_1 ?_
  refine w_iload2 r_137_2 ?_
  refine k_154 r_137_3 (Lk_1 hL) (Nat.le_of_ble_eq_true rfl) ?_
  refine c_areCells (by omega) (by omega) hL (fun c3 => ?_) (fun c3 => ?_)
  · refine v_if_ne r_137_6 (by first | exact zF_in _ _ _ | exact zA_in _ _ _ | omega) (fun _ => ?_) (fun q => absurd q (by omega))
    exact main (by omega)
  · refine v_if_ne r_137_6 (by first | exact zF_in _ _ _ | exact zA_in _ _ _ | omega) (fun q => absurd q (by omega)) (fun _ => ?_)
    refine w_aload0 r_137_9 ?_
    refine w_iconst (v := iI (1)) r_137_10 rfl ?_
    refine k_157 r_137_11 (Lk_1 hL) (Nat.le_of_ble_eq_true rfl) ?_
    refine c_refuse hL ?_
    refine w_iret r_137_14 ?_
    exact k1 (by omega)
end OP8
