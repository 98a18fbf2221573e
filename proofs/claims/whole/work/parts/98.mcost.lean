/-! plans judged by all truths: the Model's costs -/
section FC
variable {d : Nat} {h : XH} {K : Int32 → XH → Prop} {M : XM} {B : XB} {dd : Int} {c to : Int}
abbrev PMc : Nat → Nat → Bool := pO (pA [141, 142]) (pF [(118, 66), (118, 67)])
theorem PMc_fr {h1 : XH} (g : Fr PMc h h1) (hQ : MBk h B) (hP : MMp h M) : MBk h1 B ∧ MMp h1 M := ⟨hQ.fr g (fun a j q => by simp [fpMB] at q; simp [pO, pA, pF]; omega), hP.fr g (fun a j p q => by simp [pO, pA, pF]; omega) (fun j p q => by simp [pO, pA, pF]; omega)⟩
theorem m_costs {i np : Int} {pl : Int → XL} (hi : R32 i) (hc : R32 c) (hto : R32 to) (hL : Lay h) (hM : MB h) (hQ : MBk h B) (hP : MMp h M) (hv : zF h 118 34 = 1 → B.ok ∧ M.ok B.g ∧ (0 ≤ dd ∧ dd < B.w) ∧ ∀ i, 0 ≤ i → i < np → MPl h i (pl i) ∧ (pl i).ok M.nd) (hdd : gI h 118 38 = iI dd) (hnp : zF h 118 40 = np ∧ 0 ≤ np ∧ np ≤ 8)
    (k1 : ¬ (zF h 118 34 = 1 ∧ (0 ≤ i ∧ i < np) ∧ (0 ≤ c ∧ c < M.n) ∧ 0 ≤ to ∧ to < M.n) → K (iI (-1)) (sI (hG h) 118 39 (iI 1)))
    (k3 : zF h 118 34 = 1 ∧ (0 ≤ i ∧ i < np) ∧ (0 ≤ c ∧ c < M.n) ∧ 0 ≤ to ∧ to < M.n → ∀ h', Fr PMc (hG h) h' → MLs h' M → (gcN (fun t => (wyT B dd M (pl i) c to t).1) (fun t => (wyT B dd M (pl i) c to t).2.2.2.2) (trm M).toNat = -1 → K (iI (-1)) (sI h' 118 39 (iI 6))) ∧ (0 ≤ gcN (fun t => (wyT B dd M (pl i) c to t).1) (fun t => (wyT B dd M (pl i) c to t).2.2.2.2) (trm M).toNat → K (iI (gcN (fun t => (wyT B dd M (pl i) c to t).1) (fun t => (wyT B dd M (pl i) c to t).2.2.2.2) (trm M).toNat)) h')) :
    XW (d + 6) 255 0 [.ref 118, .int (iI i), .int (iI c), .int (iI to), .null, .null] [] h (KI K) := by
  have ew : zF h 118 34 = 1 → zF h 118 35 * zF h 118 36 = M.n := fun q => by
    rcases hP.1.2 with z | z
    · rw [z.2.1, z.2.2.1]; rfl
    · omega
  have v14 : gI (hG h) 118 40 = iI np := by rw [gI_F, (hG_fr h).F (by simp [pF]), hnp.1]
  have h34 := hM.2.1
  have main : zF h 118 34 = 1 ∧ (0 ≤ i ∧ i < np) ∧ (0 ≤ c ∧ c < M.n) ∧ 0 ≤ to ∧ to < M.n → XW (d + 6) 255 47 [.ref 118, .int (iI i), .int (iI c), .int (iI to), .null, .null] [] (hG h) (KI K) := by
    intro cd
    obtain ⟨ho, hm, hd, hpl⟩ := hv cd.1
    have pp := hpl i cd.2.1.1 cd.2.1.2
    have hk := pp.2
    have KK := k3 cd
    generalize hp : pl i = p at pp hk KK
    have tr := trm_in hm
    have Q1 := hG_MBk hQ
    have P1 := hG_MMp hP
    have d1 : gI (hG h) 118 38 = iI dd := by rw [((hG_fr h).2 118 38 (by simp [pF])).1]; exact hdd
    have key : ∀ n : Nat, n ≤ (trm M).toNat → ∀ (g : XH), Fr PMc (hG h) g → MLs g M → 0 ≤ gcN (fun t => (wyT B dd M p c to t).1) (fun t => (wyT B dd M p c to t).2.2.2.2) n → XW (d + 6) 255 57 [.ref 118, .int (iI i), .int (iI c), .int (iI to), .int (iI (gcN (fun t => (wyT B dd M p c to t).1) (fun t => (wyT B dd M p c to t).2.2.2.2) n)), .int (iI n)] [] g (KI K) := by
      refine upto _ ?_ ?_
      · intro g fg Kg g0
        have hL := fg.lay ((hG_fr h).lay hL)
        have Pg := (PMc_fr fg Q1 P1).2
        refine w_iload5 r_255_57 ?_
        refine w_aload0 r_255_59 ?_
        refine k_235 r_255_60 (Lk_118 hL) (Nat.le_of_ble_eq_true rfl) ?_
        refine m_truthM hL Pg hm Kg ?_
        refine v_ic_ge r_255_63 (by first | exact zF_in _ _ _ | exact zA_in _ _ _ | omega) (by first | exact zF_in _ _ _ | exact zA_in _ _ _ | omega) (fun _ => ?_) (fun q => absurd q (by omega))
        refine w_iload4 r_255_111 ?_
        refine w_iret r_255_113 ?_
        exact (KK g fg Kg).2 g0
      · intro n hn ih g fg Kg g0
        have hL := fg.lay ((hG_fr h).lay hL)
        have QP := PMc_fr fg Q1 P1
        have wt := wyT_in (to := to) ho hm hd hk cd.2.2.1 (t := (n : Int)) (by omega)
        have gi := gcN_in (w := fun t => (wyT B dd M p c to t).1) (m := fun t => (wyT B dd M p c to t).2.2.2.2) (b := 30000000) (by decide) (fun t a => (wyT_in (to := to) ho hm hd hk cd.2.2.1 a).2.2.2) n
        have Cg : MPl g i p := (pp.1.fr (hG_fr h) (fun j => by simp [pF])).fr fg (fun j => by simp [pO, pA, pF])
        have dg : gI g 118 38 = iI dd := by rw [(fg.2 118 38 (by simp [pO, pA, pF])).1]; exact d1
        have go : ∀ g1, Fr PAc g g1 → gI g1 118 67 = iI (wyT B dd M p c to n).2.2.2.2 → XW (d + 6) 255 75 [.ref 118, .int (iI i), .int (iI c), .int (iI to), .int (iI (gcN (fun t => (wyT B dd M p c to t).1) (fun t => (wyT B dd M p c to t).2.2.2.2) n)), .int (iI n)] [.int (iI (wyT B dd M p c to n).1)] g1 (KI K) := by
          intro g1 f1 c1
          have F1 : Fr PMc g g1 := f1.mono (fun a j q => by simp [pO, pA, pF] at q ⊢; omega)
          have hL := F1.lay hL
          have K1 := Kg.fr f1 (fun j => by simp [pF])
          by_cases z : (wyT B dd M p c to n).1 = 0
          · have u : gcN (fun t => (wyT B dd M p c to t).1) (fun t => (wyT B dd M p c to t).2.2.2.2) (n + 1) = max (gcN (fun t => (wyT B dd M p c to t).1) (fun t => (wyT B dd M p c to t).2.2.2.2) n) (wyT B dd M p c to n).2.2.2.2 := by
              show (if _ ∨ ¬ (wyT B dd M p c to n).1 = 0 then _ else _) = _
              rw [if_neg (by omega)]
            have J := ih g1 (fg.trans F1) K1 (by rw [u]; omega)
            rw [u, Int.natCast_add, Int.natCast_one] at J
            generalize gcN (fun t => (wyT B dd M p c to t).1) (fun t => (wyT B dd M p c to t).2.2.2.2) n = r at *
            generalize (wyT B dd M p c to n).2.2.2.2 = x at *
            by_cases q : x ≤ r
            · rw [show max r x = r by omega] at J
              refine v_if_le r_255_75 (by first | exact zF_in _ _ _ | exact zA_in _ _ _ | omega) (fun _ => ?_) (fun q => absurd q (by omega))
              refine w_aload0 r_255_85 ?_
              refine v_getI r_255_86 (Lk_118 hL) c1 ?_
              refine w_iload4 r_255_89 ?_
              refine v_ic_le r_255_91 (by first | exact zF_in _ _ _ | exact zA_in _ _ _ | omega) (by first | exact zF_in _ _ _ | exact zA_in _ _ _ | omega) (fun _ => ?_) (fun q => absurd q (by omega))
              refine w_iload4 r_255_101 ?_
              refine w_istore4 r_255_103 rfl ?_
              refine w_iinc5 r_255_105 rfl (iI_add _ _) ?_
              refine w_goto r_255_108 ?_
              exact J
            · rw [show max r x = x by omega] at J
              refine v_if_le r_255_75 (by first | exact zF_in _ _ _ | exact zA_in _ _ _ | omega) (fun _ => ?_) (fun q => absurd q (by omega))
              refine w_aload0 r_255_85 ?_
              refine v_getI r_255_86 (Lk_118 hL) c1 ?_
              refine w_iload4 r_255_89 ?_
              refine v_ic_le r_255_91 (by first | exact zF_in _ _ _ | exact zA_in _ _ _ | omega) (by first | exact zF_in _ _ _ | exact zA_in _ _ _ | omega) (fun q => absurd q (by omega)) (fun _ => ?_)
              refine w_aload0 r_255_94 ?_
              refine v_getI r_255_95 (Lk_118 hL) c1 ?_
              refine w_goto r_255_98 ?_
              refine w_istore4 r_255_103 rfl ?_
              refine w_iinc5 r_255_105 rfl (iI_add _ _) ?_
              refine w_goto r_255_108 ?_
              exact J
          · have R := (KK g1 (fg.trans F1) K1).1
            have u := gcN_bad (w := fun t => (wyT B dd M p c to t).1) (m := fun t => (wyT B dd M p c to t).2.2.2.2) (j := n) z ((trm M).toNat - (n + 1))
            rw [show n + 1 + ((trm M).toNat - (n + 1)) = (trm M).toNat by omega] at u
            have R := R u
            refine v_if_le r_255_75 (by first | exact zF_in _ _ _ | exact zA_in _ _ _ | omega) (fun q => absurd q (by omega)) (fun _ => ?_)
            refine w_aload0 r_255_78 ?_
            refine w_bipush (v := iI (6)) r_255_79 rfl ?_
            refine k_165 r_255_81 (Lk_118 hL) (Nat.le_of_ble_eq_true rfl) ?_
            refine m_no hL ?_
            refine w_iret r_255_84 ?_
            exact R
        refine w_iload5 r_255_57 ?_
        refine w_aload0 r_255_59 ?_
        refine k_235 r_255_60 (Lk_118 hL) (Nat.le_of_ble_eq_true rfl) ?_
        refine m_truthM hL QP.2 hm Kg ?_
        refine v_ic_ge r_255_63 (by first | exact zF_in _ _ _ | exact zA_in _ _ _ | omega) (by first | exact zF_in _ _ _ | exact zA_in _ _ _ | omega) (fun q => absurd q (by omega)) (fun _ => ?_)
        refine w_aload0 r_255_66 ?_
        refine w_iload1 r_255_67 ?_
        refine w_iload2 r_255_68 ?_
        refine w_iload3 r_255_69 ?_
        refine w_iload5 r_255_70 ?_
        refine k_252 r_255_72 (Lk_118 hL) (Nat.le_of_ble_eq_true rfl) ?_
        refine m_acts hL QP.1 ho hd hm QP.2 Kg dg (by omega) Cg hk (by omega) cd.2.2.1 cd.2.2.2 (fun g1 f1 a1 => ?_)
        exact go g1 f1 a1.2
    have hL := (hG_fr h).lay hL
    have start : ∀ h2, Fr (pA [141, 142]) (hG h) h2 → MLs h2 M → XW (d + 6) 255 51 [.ref 118, .int (iI i), .int (iI c), .int (iI to), .null, .null] [] h2 (KI K) := by
      intro h2 f2 K2
      have J := key 0 (by omega) h2 (f2.mono (fun a j q => by simp [pO, pA, pF] at q ⊢; omega)) K2 (by show (0 : Int) ≤ 0; decide)
      have hL := f2.lay hL
      refine w_iconst (v := iI (0)) r_255_51 rfl ?_
      refine w_istore4 r_255_52 rfl ?_
      refine w_iconst (v := iI (0)) r_255_54 rfl ?_
      refine w_istore5 r_255_55 rfl ?_
      exact J
    refine w_aload0 r_255_47 ?_
    refine k_214 r_255_48 (Lk_118 hL) (Nat.le_of_ble_eq_true rfl) ?_
    refine m_lists hL P1 hm (fun h2 f2 K2 => ?_)
    exact start h2 f2 K2
  refine w_aload0 r_255_0 ?_
  refine k_164 r_255_1 (Lk_118 hL) (Nat.le_of_ble_eq_true rfl) ?_
  refine m_good hL ?_
  refine w_aload0 r_255_4 ?_
  refine v_getI r_255_5 (Lk_118 hL) (gI_F h 118 34) ?_
  refine v_if_eq r_255_8 (by first | exact zF_in _ _ _ | exact zA_in _ _ _ | omega) (fun c8 => ?_) (fun c8 => ?_)
  · refine w_aload0 r_255_41 ?_
    refine w_iconst (v := iI (1)) r_255_42 rfl ?_
    refine k_165 r_255_43 (Lk_118 hL) (Nat.le_of_ble_eq_true rfl) ?_
    refine m_no hL ?_
    refine w_iret r_255_46 ?_
    exact k1 (by rintro ⟨q1, q2, q3, q4⟩; have := ew q1; omega)
  · refine w_iload1 r_255_11 ?_
    refine w_iconst (v := iI (0)) r_255_12 rfl ?_
    refine w_aload0 r_255_13 ?_
    refine v_getI r_255_14 (Lk_118 hL) v14 ?_
    refine w_iconst (v := iI (1)) r_255_17 rfl ?_
    refine v_isub r_255_18 ?_
    refine k_167 r_255_19 (Nat.le_of_ble_eq_true rfl) ?_
    refine m_within (by first | exact zF_in _ _ _ | exact zA_in _ _ _ | omega) (by first | exact zF_in _ _ _ | exact zA_in _ _ _ | omega) (by first | exact zF_in _ _ _ | exact zA_in _ _ _ | omega) (fun c19 => ?_) (fun c19 => ?_)
    · refine v_if_eq r_255_22 (by first | exact zF_in _ _ _ | exact zA_in _ _ _ | omega) (fun q => absurd q (by omega)) (fun _ => ?_)
      refine w_aload0 r_255_25 ?_
      refine w_iload2 r_255_26 ?_
      refine k_197 r_255_27 (Lk_118 hL) (Nat.le_of_ble_eq_true rfl) ?_
      refine m_isCell (h0 := h) (by first | exact zF_in _ _ _ | exact zA_in _ _ _ | omega) hL ⟨rfl, rfl, rfl, rfl, rfl, rfl⟩ hM (fun c27 => ?_) (fun c27 => ?_)
      · refine v_if_eq r_255_30 (by first | exact zF_in _ _ _ | exact zA_in _ _ _ | omega) (fun q => absurd q (by omega)) (fun _ => ?_)
        refine w_aload0 r_255_33 ?_
        refine w_iload3 r_255_34 ?_
        refine k_197 r_255_35 (Lk_118 hL) (Nat.le_of_ble_eq_true rfl) ?_
        refine m_isCell (h0 := h) (by first | exact zF_in _ _ _ | exact zA_in _ _ _ | omega) hL ⟨rfl, rfl, rfl, rfl, rfl, rfl⟩ hM (fun c35 => ?_) (fun c35 => ?_)
        · refine v_if_ne r_255_38 (by first | exact zF_in _ _ _ | exact zA_in _ _ _ | omega) (fun _ => ?_) (fun q => absurd q (by omega))
          have cd : zF h 118 34 = 1 ∧ (0 ≤ i ∧ i < np) ∧ (0 ≤ c ∧ c < M.n) ∧ 0 ≤ to ∧ to < M.n := by have := ew (by omega); omega
          exact main cd
        · refine v_if_ne r_255_38 (by first | exact zF_in _ _ _ | exact zA_in _ _ _ | omega) (fun q => absurd q (by omega)) (fun _ => ?_)
          refine w_aload0 r_255_41 ?_
          refine w_iconst (v := iI (1)) r_255_42 rfl ?_
          refine k_165 r_255_43 (Lk_118 hL) (Nat.le_of_ble_eq_true rfl) ?_
          refine m_no hL ?_
          refine w_iret r_255_46 ?_
          exact k1 (by rintro ⟨q1, q2, q3, q4⟩; have := ew q1; omega)
      · refine v_if_eq r_255_30 (by first | exact zF_in _ _ _ | exact zA_in _ _ _ | omega) (fun _ => ?_) (fun q => absurd q (by omega))
        refine w_aload0 r_255_41 ?_
        refine w_iconst (v := iI (1)) r_255_42 rfl ?_
        refine k_165 r_255_43 (Lk_118 hL) (Nat.le_of_ble_eq_true rfl) ?_
        refine m_no hL ?_
        refine w_iret r_255_46 ?_
        exact k1 (by rintro ⟨q1, q2, q3, q4⟩; have := ew q1; omega)
    · refine v_if_eq r_255_22 (by first | exact zF_in _ _ _ | exact zA_in _ _ _ | omega) (fun _ => ?_) (fun q => absurd q (by omega))
      refine w_aload0 r_255_41 ?_
      refine w_iconst (v := iI (1)) r_255_42 rfl ?_
      refine k_165 r_255_43 (Lk_118 hL) (Nat.le_of_ble_eq_true rfl) ?_
      refine m_no hL ?_
      refine w_iret r_255_46 ?_
      exact k1 (by rintro ⟨q1, q2, q3, q4⟩; have := ew q1; omega)
end FC
