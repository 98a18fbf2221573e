/-! calls: failing, costs, the class -/
section OPC
variable {d : Nat} {h h' h1 : XH} {K : Int32 → XH → Prop} {KU : XH → Prop} {B : XB} {dd : Int} {M : XM} {rb pa : Nat} {c to i bd np : Int} {pl : Int → XL}
/-- the class's plans -/
def CPs (h : XH) (M : XM) (np : Int) (pl : Int → XL) : Prop := (gI h 1 8 = iI np ∧ 0 ≤ np ∧ np ≤ 8) ∧ ∀ i, 0 ≤ i → i < np → CPl h (35 + 5 * i.toNat) (pl i) ∧ (pl i).ok M.nd
theorem c_failing (hi : R32 i) (hc : R32 c) (hto : R32 to) (hbd : R32 bd) (hL : Lay h) (hX : CX h rb B dd M) (h0 : 0 < M.n → zF h 91 12 = zF h 80 4 → Prep h B dd M) (hp : CPs h M np pl)
    (k1 : ¬ ((0 ≤ i ∧ i < np) ∧ (0 ≤ c ∧ c < M.n) ∧ 0 ≤ to ∧ to < M.n) → K (iI (-1)) (sI h 1 18 (iI 1)))
    (k2 : (0 ≤ i ∧ i < np) ∧ (0 ≤ c ∧ c < M.n) ∧ 0 ≤ to ∧ to < M.n → ¬ (0 ≤ bd ∧ bd ≤ 9999999) → K (iI (-1)) (sI h 1 18 (iI 2)))
    (k3 : (0 ≤ i ∧ i < np) ∧ (0 ≤ c ∧ c < M.n) ∧ 0 ≤ to ∧ to < M.n → 0 ≤ bd ∧ bd ≤ 9999999 → ∀ h', Fr PFa h h' → zF h' 91 12 = zF h 80 4 → Prep h' B dd M → (gI h' 106 2 = iI (fsN (wyB B dd M (pl i) c to bd) (fun t => (wyT B dd M (pl i) c to t).2.2.2.1) (trm M).toNat).2.1 ∧ gI h' 106 3 = iI (fsN (wyB B dd M (pl i) c to bd) (fun t => (wyT B dd M (pl i) c to t).2.2.2.1) (trm M).toNat).2.2.1 ∧ gI h' 106 4 = iI (fsN (wyB B dd M (pl i) c to bd) (fun t => (wyT B dd M (pl i) c to t).2.2.2.1) (trm M).toNat).2.2.2) → K (iI (fsN (wyB B dd M (pl i) c to bd) (fun t => (wyT B dd M (pl i) c to t).2.2.2.1) (trm M).toNat).1) (sI h' 1 18 (iI 0))) :
    XW (d + 7) 145 0 [.ref 1, .int (iI i), .int (iI c), .int (iI to), .int (iI bd)] [] h (KI K) := by
  obtain ⟨hB, hC, hP, hv⟩ := hX
  have hb := hB.1
  have e2 := hP.1.2.2.1
  have e8 : zF h 1 8 = np := gF (by have := hp.1; omega) hp.1.1
  have main : (0 ≤ i ∧ i < np) ∧ (0 ≤ c ∧ c < M.n) ∧ 0 ≤ to ∧ to < M.n → 0 ≤ bd ∧ bd ≤ 9999999 → XW (d + 7) 145 42 [.ref 1, .int (iI i), .int (iI c), .int (iI to), .int (iI bd)] [] h (KI K) := by
    intro cd cb
    obtain ⟨ho, hm, hd, hS⟩ := hv (by omega)
    have n8 := hp.1
    have pq := hp.2 i cd.1.1 cd.1.2
    have pp := pl_at hL (np := i) (by omega)
    have nz := pp.2.ne
    have R := k3 cd cb
    have rp : gR h 34 (iI i).toNatClampNeg = 35 + 5 * i.toNat := by rw [iI_nat (by omega) (by omega)]; exact pp.1
    refine w_aload0 r_145_42 ?_
    refine w_aload0 r_145_43 ?_
    refine w_getA (x := 106) r_145_44 (Lk_1 hL) (Lr_1_13 hL) (by decide) ?_
    refine w_aload0 r_145_47 ?_
    refine w_getA (x := 34) r_145_48 (Lk_1 hL) (Lr_1_7 hL) (by decide) ?_
    refine w_iload1 r_145_51 ?_
    refine w_aald r_145_52 (Lk_34 hL) (by rw [Lz_34 hL]; exact iI_in (by decide) (by omega) (by show i < 9; omega)) rp (by omega) ?_
    refine w_iload2 r_145_53 ?_
    refine w_iload3 r_145_54 ?_
    refine w_iload4 r_145_55 ?_
    refine k_39 r_145_57 (Lk_106 hL) (Nat.le_of_ble_eq_true rfl) ?_
    refine c_countFailing (d := d) hL hb hB.2.2.2.1 hC ho hS hP hm hd (h0 (by omega)) pp.2 pq.1 pq.2 cd.2.1 cd.2.2 cb (fun h1 f1 a1 p1 g1 => ?_)
    have hL := f1.lay hL
    have R := R h1 f1 a1 p1 g1
    refine k_156 r_145_60 (Lk_1 hL) (Nat.le_of_ble_eq_true rfl) ?_
    refine c_answer hL ?_
    refine w_iret r_145_63 ?_
    exact R
  refine w_aload0 r_145_0 ?_
  refine w_iload1 r_145_1 ?_
  refine k_155 r_145_2 (Lk_1 hL) (Nat.le_of_ble_eq_true rfl) ?_
  refine c_hasPlan (by omega) hL (fun c2 => ?_) (fun c2 => ?_)
  · refine v_if_eq r_145_5 (by first | exact zF_in _ _ _ | exact zA_in _ _ _ | omega) (fun q => absurd q (by omega)) (fun _ => ?_)
    refine w_aload0 r_145_8 ?_
    refine w_iload2 r_145_9 ?_
    refine w_iload3 r_145_10 ?_
    refine k_154 r_145_11 (Lk_1 hL) (Nat.le_of_ble_eq_true rfl) ?_
    refine c_areCells (by omega) (by omega) hL (fun c11 => ?_) (fun c11 => ?_)
    · refine v_if_ne r_145_14 (by first | exact zF_in _ _ _ | exact zA_in _ _ _ | omega) (fun _ => ?_) (fun q => absurd q (by omega))
      refine w_iload4 r_145_23 ?_
      refine v_if_lt r_145_25 (by first | exact zF_in _ _ _ | exact zA_in _ _ _ | omega) (fun c25 => ?_) (fun c25 => ?_)
      · refine w_aload0 r_145_36 ?_
        refine w_iconst (v := iI (2)) r_145_37 rfl ?_
        refine k_157 r_145_38 (Lk_1 hL) (Nat.le_of_ble_eq_true rfl) ?_
        refine c_refuse hL ?_
        refine w_iret r_145_41 ?_
        exact k2 (by omega) (by omega)
      · refine w_iload4 r_145_28 ?_
        refine w_ldcwI (v := iI 9999999) r_145_30 rfl ?_
        refine v_ic_le r_145_33 (by first | exact zF_in _ _ _ | exact zA_in _ _ _ | omega) (by first | exact zF_in _ _ _ | exact zA_in _ _ _ | omega) (fun c33 => ?_) (fun c33 => ?_)
        · exact main (by omega) (by omega)
        · refine w_aload0 r_145_36 ?_
          refine w_iconst (v := iI (2)) r_145_37 rfl ?_
          refine k_157 r_145_38 (Lk_1 hL) (Nat.le_of_ble_eq_true rfl) ?_
          refine c_refuse hL ?_
          refine w_iret r_145_41 ?_
          exact k2 (by omega) (by omega)
    · refine v_if_ne r_145_14 (by first | exact zF_in _ _ _ | exact zA_in _ _ _ | omega) (fun q => absurd q (by omega)) (fun _ => ?_)
      refine w_aload0 r_145_17 ?_
      refine w_iconst (v := iI (1)) r_145_18 rfl ?_
      refine k_157 r_145_19 (Lk_1 hL) (Nat.le_of_ble_eq_true rfl) ?_
      refine c_refuse hL ?_
      refine w_iret r_145_22 ?_
      exact k1 (by omega)
  · refine v_if_eq r_145_5 (by first | exact zF_in _ _ _ | exact zA_in _ _ _ | omega) (fun _ => ?_) (fun q => absurd q (by omega))
    refine w_aload0 r_145_17 ?_
    refine w_iconst (v := iI (1)) r_145_18 rfl ?_
    refine k_157 r_145_19 (Lk_1 hL) (Nat.le_of_ble_eq_true rfl) ?_
    refine c_refuse hL ?_
    refine w_iret r_145_22 ?_
    exact k1 (by omega)
theorem c_costs (hi : R32 i) (hc : R32 c) (hto : R32 to) (hL : Lay h) (hX : CX h rb B dd M) (h0 : 0 < M.n → zF h 91 12 = zF h 80 4 → Prep h B dd M) (hp : CPs h M np pl)
    (k1 : ¬ ((0 ≤ i ∧ i < np) ∧ (0 ≤ c ∧ c < M.n) ∧ 0 ≤ to ∧ to < M.n) → K (iI (-1)) (sI h 1 18 (iI 1)))
    (k6 : (0 ≤ i ∧ i < np) ∧ (0 ≤ c ∧ c < M.n) ∧ 0 ≤ to ∧ to < M.n → gcN (fun t => (wyT B dd M (pl i) c to t).1) (fun t => (wyT B dd M (pl i) c to t).2.2.2.2) (trm M).toNat = -1 → ∀ h', Fr PGc h h' → zF h' 91 12 = zF h 80 4 → Prep h' B dd M → K (iI (-1)) (sI h' 1 18 (iI 6)))
    (kt : (0 ≤ i ∧ i < np) ∧ (0 ≤ c ∧ c < M.n) ∧ 0 ≤ to ∧ to < M.n → ¬ gcN (fun t => (wyT B dd M (pl i) c to t).1) (fun t => (wyT B dd M (pl i) c to t).2.2.2.2) (trm M).toNat = -1 → ∀ h', Fr PGc h h' → zF h' 91 12 = zF h 80 4 → Prep h' B dd M → K (iI (gcN (fun t => (wyT B dd M (pl i) c to t).1) (fun t => (wyT B dd M (pl i) c to t).2.2.2.2) (trm M).toNat)) (sI h' 1 18 (iI 0)))
    (hr : (0 ≤ i ∧ i < np) ∧ (0 ≤ c ∧ c < M.n) ∧ 0 ≤ to ∧ to < M.n → R32 (gcN (fun t => (wyT B dd M (pl i) c to t).1) (fun t => (wyT B dd M (pl i) c to t).2.2.2.2) (trm M).toNat)) :
    XW (d + 7) 147 0 [.ref 1, .int (iI i), .int (iI c), .int (iI to), .null] [] h (KI K) := by
  obtain ⟨hB, hC, hP, hv⟩ := hX
  have hb := hB.1
  have e2 := hP.1.2.2.1
  have e8 : zF h 1 8 = np := gF (by have := hp.1; omega) hp.1.1
  have main : (0 ≤ i ∧ i < np) ∧ (0 ≤ c ∧ c < M.n) ∧ 0 ≤ to ∧ to < M.n → XW (d + 7) 147 23 [.ref 1, .int (iI i), .int (iI c), .int (iI to), .null] [] h (KI K) := by
    intro cd
    obtain ⟨ho, hm, hd, hS⟩ := hv (by omega)
    have n8 := hp.1
    have pq := hp.2 i cd.1.1 cd.1.2
    have pp := pl_at hL (np := i) (by omega)
    have nz := pp.2.ne
    have k6 := k6 cd
    have kt := kt cd
    have hr := hr cd
    have rp : gR h 34 (iI i).toNatClampNeg = 35 + 5 * i.toNat := by rw [iI_nat (by omega) (by omega)]; exact pp.1
    refine w_aload0 r_147_23 ?_
    refine w_getA (x := 106) r_147_24 (Lk_1 hL) (Lr_1_13 hL) (by decide) ?_
    refine w_aload0 r_147_27 ?_
    refine w_getA (x := 34) r_147_28 (Lk_1 hL) (Lr_1_7 hL) (by decide) ?_
    refine w_iload1 r_147_31 ?_
    refine w_aald r_147_32 (Lk_34 hL) (by rw [Lz_34 hL]; exact iI_in (by decide) (by omega) (by show i < 9; omega)) rp (by omega) ?_
    refine w_iload2 r_147_33 ?_
    refine w_iload3 r_147_34 ?_
    refine k_40 r_147_35 (Lk_106 hL) (Nat.le_of_ble_eq_true rfl) ?_
    refine c_greatestCost (d := d) hL hb hB.2.2.2.1 hC ho hS hP hm hd (h0 (by omega)) pp.2 pq.1 pq.2 cd.2.1 cd.2.2 (fun h1 f1 a1 p1 => ?_)
    have hL := f1.lay hL
    generalize gcN (fun t => (wyT B dd M (pl i) c to t).1) (fun t => (wyT B dd M (pl i) c to t).2.2.2.2) (trm M).toNat = v at *
    by_cases q : v = -1
    · have R := k6 q h1 f1 a1 p1
      refine w_istore4 r_147_38 rfl ?_
      refine w_iload4 r_147_40 ?_
      refine w_iconst (v := iI (-1)) r_147_42 rfl ?_
      refine v_ic_ne r_147_43 (by first | exact zF_in _ _ _ | exact zA_in _ _ _ | omega) (by first | exact zF_in _ _ _ | exact zA_in _ _ _ | omega) (fun q => absurd q (by omega)) (fun _ => ?_)
      refine w_aload0 r_147_46 ?_
      refine w_bipush (v := iI (6)) r_147_47 rfl ?_
      refine k_157 r_147_49 (Lk_1 hL) (Nat.le_of_ble_eq_true rfl) ?_
      refine c_refuse hL ?_
      refine w_goto r_147_52 ?_
      refine w_iret r_147_61 ?_
      exact R
    · have R := kt q h1 f1 a1 p1
      refine w_istore4 r_147_38 rfl ?_
      refine w_iload4 r_147_40 ?_
      refine w_iconst (v := iI (-1)) r_147_42 rfl ?_
      refine v_ic_ne r_147_43 (by first | exact zF_in _ _ _ | exact zA_in _ _ _ | omega) (by first | exact zF_in _ _ _ | exact zA_in _ _ _ | omega) (fun _ => ?_) (fun q => absurd q (by omega))
      refine w_aload0 r_147_55 ?_
      refine w_iload4 r_147_56 ?_
      refine k_156 r_147_58 (Lk_1 hL) (Nat.le_of_ble_eq_true rfl) ?_
      refine c_answer hL ?_
      refine w_iret r_147_61 ?_
      exact R
  refine w_aload0 r_147_0 ?_
  refine w_iload1 r_147_1 ?_
  refine k_155 r_147_2 (Lk_1 hL) (Nat.le_of_ble_eq_true rfl) ?_
  refine c_hasPlan (by omega) hL (fun c2 => ?_) (fun c2 => ?_)
  · refine v_if_eq r_147_5 (by first | exact zF_in _ _ _ | exact zA_in _ _ _ | omega) (fun q => absurd q (by omega)) (fun _ => ?_)
    refine w_aload0 r_147_8 ?_
    refine w_iload2 r_147_9 ?_
    refine w_iload3 r_147_10 ?_
    refine k_154 r_147_11 (Lk_1 hL) (Nat.le_of_ble_eq_true rfl) ?_
    refine c_areCells (by omega) (by omega) hL (fun c11 => ?_) (fun c11 => ?_)
    · refine v_if_ne r_147_14 (by first | exact zF_in _ _ _ | exact zA_in _ _ _ | omega) (fun _ => ?_) (fun q => absurd q (by omega))
      exact main (by omega)
    · refine v_if_ne r_147_14 (by first | exact zF_in _ _ _ | exact zA_in _ _ _ | omega) (fun q => absurd q (by omega)) (fun _ => ?_)
      refine w_aload0 r_147_17 ?_
      refine w_iconst (v := iI (1)) r_147_18 rfl ?_
      refine k_157 r_147_19 (Lk_1 hL) (Nat.le_of_ble_eq_true rfl) ?_
      refine c_refuse hL ?_
      refine w_iret r_147_22 ?_
      exact k1 (by omega)
  · refine v_if_eq r_147_5 (by first | exact zF_in _ _ _ | exact zA_in _ _ _ | omega) (fun _ => ?_) (fun q => absurd q (by omega))
    refine w_aload0 r_147_17 ?_
    refine w_iconst (v := iI (1)) r_147_18 rfl ?_
    refine k_157 r_147_19 (Lk_1 hL) (Nat.le_of_ble_eq_true rfl) ?_
    refine c_refuse hL ?_
    refine w_iret r_147_22 ?_
    exact k1 (by omega)
end OPC
