/-! digging: the Model's states -/
section MD
variable {d : Nat} {h : XH} {K : Int32 → XH → Prop} {KU : XH → Prop} {B : XB} {U : Int}
theorem p5W (ho : B.ok) : (5 : Int) ^ B.w.toNat ≤ 15625 ∧ 25 ≤ (5 : Int) ^ B.w.toNat := by
  have o := ho.1
  have : B.w.toNat = 2 ∨ B.w.toNat = 3 ∨ B.w.toNat = 4 ∨ B.w.toNat = 5 ∨ B.w.toNat = 6 := by omega
  rcases this with q | q | q | q | q <;> rw [q] <;> decide
theorem p5k {n : Nat} (h : n ≤ 6) : (5 : Int) ^ n = 1 ∨ (5 : Int) ^ n = 5 ∨ (5 : Int) ^ n = 25 ∨ (5 : Int) ^ n = 125 ∨ (5 : Int) ^ n = 625 ∨ (5 : Int) ^ n = 3125 ∨ (5 : Int) ^ n = 15625 := by
  have : n = 0 ∨ n = 1 ∨ n = 2 ∨ n = 3 ∨ n = 4 ∨ n = 5 ∨ n = 6 := by omega
  rcases this with q | q | q | q | q | q | q <;> rw [q] <;> decide
theorem e130 {t : Int} (hQ : MBk h B) (q : 0 ≤ t ∧ t < B.t) : gI h 129 t.toNat = iI (B.ea t) := by rw [gI_A, (hQ.2.2.2.2 t q.1 q.2).2.1]
theorem e131 {t : Int} (hQ : MBk h B) (q : 0 ≤ t ∧ t < B.t) : gI h 130 t.toNat = iI (B.on t) := by rw [gI_A, (hQ.2.2.2.2 t q.1 q.2).2.2.1]
theorem e132 {t : Int} (hQ : MBk h B) (q : 0 ≤ t ∧ t < B.t) : gI h 131 t.toNat = iI (B.pr t) := by rw [gI_A, (hQ.2.2.2.2 t q.1 q.2).2.2.2]
theorem m_behind {s t w : Int} (hL : Lay h) (hQ : MBk h B) (ho : B.ok) (hs : 0 ≤ s ∧ s < 5 ^ B.w.toNat) (ht : 0 ≤ t ∧ t < B.t) (hw : 0 ≤ w ∧ w < B.w) (kk : K (iI (dnx B s (6 * t + w))) h) : XW d 258 0 [.ref 118, .int (iI s), .int (iI t), .int (iI w), .null, .null, .null, .null, .null] [] h (KI K) := by
  have o := ho.1
  have op := ho.2.2.2.2 t ht.1 ht.2
  have pw := p5W ho
  rw [dnx_tw ho hw] at kk
  have key : ∀ k : Nat, k ≤ B.w.toNat → ∀ X8 : Value, XW d 258 12 [.ref 118, .int (iI s), .int (iI t), .int (iI w), .int (iI (s / 5 ^ k)), .int (iI (5 ^ k)), .int (iI (s5 (mvd (B.ea t) (B.on t) (vs s) w) k)), .int (iI k), X8] [] h (KI K) := by
    refine upto _ ?_ ?_
    · intro X8
      refine w_iload7 r_258_12 ?_
      refine w_aload0 r_258_14 ?_
      refine v_getI r_258_15 (Lk_118 hL) (e24 hQ) ?_
      refine v_ic_ge r_258_18 (by first | exact zF_in _ _ _ | exact zA_in _ _ _ | omega) (by first | exact zF_in _ _ _ | exact zA_in _ _ _ | omega) (fun _ => ?_) (fun q => absurd q (by omega))
      refine w_iload6 r_258_96 ?_
      refine w_iret r_258_98 ?_
      exact kk
    · intro k hk ih X8
      have pk := p5k (n := k) (by omega)
      have vk := vs_in s k
      have ev : s / 5 ^ k % 5 = vs s k := rfl
      have rs : 0 ≤ s / 5 ^ k ∧ s / 5 ^ k ≤ 15625 := by rcases pk with q | q | q | q | q | q | q <;> rw [q] <;> omega
      have rb : 0 ≤ (5 : Int) ^ k ∧ (5 : Int) ^ k ≤ 15625 := by rcases pk with q | q | q | q | q | q | q <;> rw [q] <;> omega
      have e5 : (5 : Int) ^ (k + 1) = 5 ^ k * 5 := Int.pow_succ 5 k
      have ed : s / 5 ^ (k + 1) = s / 5 ^ k / 5 := by rw [e5, Int.ediv_ediv_of_nonneg rb.1]
      have es : s5 (mvd (B.ea t) (B.on t) (vs s) w) (k + 1) = s5 (mvd (B.ea t) (B.on t) (vs s) w) k + 5 ^ k * clp (vs s k + if (k : Int) = w then B.on t else B.ea t) := rfl
      rw [ed, e5, es] at ih
      generalize hR : s / 5 ^ k = R at *
      generalize hP : (5 : Int) ^ k = P at *
      by_cases q : (k : Int) = w
      · rw [if_pos q] at ih
        by_cases q1 : vs s k + B.on t < 0
        · rw [show clp (vs s k + B.on t) = 0 by unfold clp; omega] at ih
          refine w_iload7 r_258_12 ?_
          refine w_aload0 r_258_14 ?_
          refine v_getI r_258_15 (Lk_118 hL) (e24 hQ) ?_
          refine v_ic_ge r_258_18 (by first | exact zF_in _ _ _ | exact zA_in _ _ _ | omega) (by first | exact zF_in _ _ _ | exact zA_in _ _ _ | omega) (fun q => absurd q (by omega)) (fun _ => ?_)
          refine w_iload4 r_258_21 ?_
          refine w_iconst (v := iI (5)) r_258_23 rfl ?_
          refine v_iremN r_258_24 (by first | exact zF_in _ _ _ | exact zA_in _ _ _ | omega) (by omega) ?_
          refine w_iload7 r_258_25 ?_
          refine w_iload3 r_258_27 ?_
          refine v_ic_ne r_258_28 (by first | exact zF_in _ _ _ | exact zA_in _ _ _ | omega) (by first | exact zF_in _ _ _ | exact zA_in _ _ _ | omega) (fun q => absurd q (by omega)) (fun _ => ?_)
          refine w_aload0 r_258_31 ?_
          refine w_getA (x := 130) r_258_32 (Lk_118 hL) (Lr_118_31 hL) (by decide) ?_
          refine w_iload2 r_258_35 ?_
          refine v_iald r_258_36 (Lk_130 hL) (Lz_130 hL) (by decide) (by omega) (e131 hQ ht) ?_
          refine w_goto r_258_37 ?_
          refine v_iadd r_258_46 ?_
          rw [ev] 
          refine w_istore8 r_258_47 rfl ?_
          refine w_iload6 r_258_49 ?_
          refine w_iload5 r_258_51 ?_
          refine w_iload8 r_258_53 ?_
          refine v_if_ge r_258_55 (by first | exact zF_in _ _ _ | exact zA_in _ _ _ | omega) (fun q => absurd q (by omega)) (fun _ => ?_)
          refine w_iconst (v := iI (0)) r_258_58 rfl ?_
          refine w_goto r_258_59 ?_
          refine v_imul r_258_74 ?_
          refine v_iadd r_258_75 ?_
          refine w_istore6 r_258_76 rfl ?_
          refine w_iload4 r_258_78 ?_
          refine w_iconst (v := iI (5)) r_258_80 rfl ?_
          refine v_idivN r_258_81 (by first | exact zF_in _ _ _ | exact zA_in _ _ _ | omega) (by omega) ?_
          refine w_istore4 r_258_82 rfl ?_
          refine w_iload5 r_258_84 ?_
          refine w_iconst (v := iI (5)) r_258_86 rfl ?_
          refine v_imul r_258_87 ?_
          refine w_istore5 r_258_88 rfl ?_
          refine w_iinc7 r_258_90 rfl (iI_add _ _) ?_
          refine w_goto r_258_93 ?_
          exact ih _
        · by_cases q2 : 4 < vs s k + B.on t
          · rw [show clp (vs s k + B.on t) = 4 by unfold clp; omega] at ih
            refine w_iload7 r_258_12 ?_
            refine w_aload0 r_258_14 ?_
            refine v_getI r_258_15 (Lk_118 hL) (e24 hQ) ?_
            refine v_ic_ge r_258_18 (by first | exact zF_in _ _ _ | exact zA_in _ _ _ | omega) (by first | exact zF_in _ _ _ | exact zA_in _ _ _ | omega) (fun q => absurd q (by omega)) (fun _ => ?_)
            refine w_iload4 r_258_21 ?_
            refine w_iconst (v := iI (5)) r_258_23 rfl ?_
            refine v_iremN r_258_24 (by first | exact zF_in _ _ _ | exact zA_in _ _ _ | omega) (by omega) ?_
            refine w_iload7 r_258_25 ?_
            refine w_iload3 r_258_27 ?_
            refine v_ic_ne r_258_28 (by first | exact zF_in _ _ _ | exact zA_in _ _ _ | omega) (by first | exact zF_in _ _ _ | exact zA_in _ _ _ | omega) (fun q => absurd q (by omega)) (fun _ => ?_)
            refine w_aload0 r_258_31 ?_
            refine w_getA (x := 130) r_258_32 (Lk_118 hL) (Lr_118_31 hL) (by decide) ?_
            refine w_iload2 r_258_35 ?_
            refine v_iald r_258_36 (Lk_130 hL) (Lz_130 hL) (by decide) (by omega) (e131 hQ ht) ?_
            refine w_goto r_258_37 ?_
            refine v_iadd r_258_46 ?_
            rw [ev] 
            refine w_istore8 r_258_47 rfl ?_
            refine w_iload6 r_258_49 ?_
            refine w_iload5 r_258_51 ?_
            refine w_iload8 r_258_53 ?_
            refine v_if_ge r_258_55 (by first | exact zF_in _ _ _ | exact zA_in _ _ _ | omega) (fun _ => ?_) (fun q => absurd q (by omega))
            refine w_iload8 r_258_62 ?_
            refine w_iconst (v := iI (4)) r_258_64 rfl ?_
            refine v_ic_le r_258_65 (by first | exact zF_in _ _ _ | exact zA_in _ _ _ | omega) (by first | exact zF_in _ _ _ | exact zA_in _ _ _ | omega) (fun q => absurd q (by omega)) (fun _ => ?_)
            refine w_iconst (v := iI (4)) r_258_68 rfl ?_
            refine w_goto r_258_69 ?_
            refine v_imul r_258_74 ?_
            refine v_iadd r_258_75 ?_
            refine w_istore6 r_258_76 rfl ?_
            refine w_iload4 r_258_78 ?_
            refine w_iconst (v := iI (5)) r_258_80 rfl ?_
            refine v_idivN r_258_81 (by first | exact zF_in _ _ _ | exact zA_in _ _ _ | omega) (by omega) ?_
            refine w_istore4 r_258_82 rfl ?_
            refine w_iload5 r_258_84 ?_
            refine w_iconst (v := iI (5)) r_258_86 rfl ?_
            refine v_imul r_258_87 ?_
            refine w_istore5 r_258_88 rfl ?_
            refine w_iinc7 r_258_90 rfl (iI_add _ _) ?_
            refine w_goto r_258_93 ?_
            exact ih _
          · rw [show clp (vs s k + B.on t) = vs s k + B.on t by unfold clp; omega] at ih
            refine w_iload7 r_258_12 ?_
            refine w_aload0 r_258_14 ?_
            refine v_getI r_258_15 (Lk_118 hL) (e24 hQ) ?_
            refine v_ic_ge r_258_18 (by first | exact zF_in _ _ _ | exact zA_in _ _ _ | omega) (by first | exact zF_in _ _ _ | exact zA_in _ _ _ | omega) (fun q => absurd q (by omega)) (fun _ => ?_)
            refine w_iload4 r_258_21 ?_
            refine w_iconst (v := iI (5)) r_258_23 rfl ?_
            refine v_iremN r_258_24 (by first | exact zF_in _ _ _ | exact zA_in _ _ _ | omega) (by omega) ?_
            refine w_iload7 r_258_25 ?_
            refine w_iload3 r_258_27 ?_
            refine v_ic_ne r_258_28 (by first | exact zF_in _ _ _ | exact zA_in _ _ _ | omega) (by first | exact zF_in _ _ _ | exact zA_in _ _ _ | omega) (fun q => absurd q (by omega)) (fun _ => ?_)
            refine w_aload0 r_258_31 ?_
            refine w_getA (x := 130) r_258_32 (Lk_118 hL) (Lr_118_31 hL) (by decide) ?_
            refine w_iload2 r_258_35 ?_
            refine v_iald r_258_36 (Lk_130 hL) (Lz_130 hL) (by decide) (by omega) (e131 hQ ht) ?_
            refine w_goto r_258_37 ?_
            refine v_iadd r_258_46 ?_
            rw [ev] 
            refine w_istore8 r_258_47 rfl ?_
            refine w_iload6 r_258_49 ?_
            refine w_iload5 r_258_51 ?_
            refine w_iload8 r_258_53 ?_
            refine v_if_ge r_258_55 (by first | exact zF_in _ _ _ | exact zA_in _ _ _ | omega) (fun _ => ?_) (fun q => absurd q (by omega))
            refine w_iload8 r_258_62 ?_
            refine w_iconst (v := iI (4)) r_258_64 rfl ?_
            refine v_ic_le r_258_65 (by first | exact zF_in _ _ _ | exact zA_in _ _ _ | omega) (by first | exact zF_in _ _ _ | exact zA_in _ _ _ | omega) (fun _ => ?_) (fun q => absurd q (by omega))
            refine w_iload8 r_258_72 ?_
            refine v_imul r_258_74 ?_
            refine v_iadd r_258_75 ?_
            refine w_istore6 r_258_76 rfl ?_
            refine w_iload4 r_258_78 ?_
            refine w_iconst (v := iI (5)) r_258_80 rfl ?_
            refine v_idivN r_258_81 (by first | exact zF_in _ _ _ | exact zA_in _ _ _ | omega) (by omega) ?_
            refine w_istore4 r_258_82 rfl ?_
            refine w_iload5 r_258_84 ?_
            refine w_iconst (v := iI (5)) r_258_86 rfl ?_
            refine v_imul r_258_87 ?_
            refine w_istore5 r_258_88 rfl ?_
            refine w_iinc7 r_258_90 rfl (iI_add _ _) ?_
            refine w_goto r_258_93 ?_
            exact ih _
      · rw [if_neg q] at ih
        by_cases q1 : vs s k + B.ea t < 0
        · rw [show clp (vs s k + B.ea t) = 0 by unfold clp; omega] at ih
          refine w_iload7 r_258_12 ?_
          refine w_aload0 r_258_14 ?_
          refine v_getI r_258_15 (Lk_118 hL) (e24 hQ) ?_
          refine v_ic_ge r_258_18 (by first | exact zF_in _ _ _ | exact zA_in _ _ _ | omega) (by first | exact zF_in _ _ _ | exact zA_in _ _ _ | omega) (fun q => absurd q (by omega)) (fun _ => ?_)
          refine w_iload4 r_258_21 ?_
          refine w_iconst (v := iI (5)) r_258_23 rfl ?_
          refine v_iremN r_258_24 (by first | exact zF_in _ _ _ | exact zA_in _ _ _ | omega) (by omega) ?_
          refine w_iload7 r_258_25 ?_
          refine w_iload3 r_258_27 ?_
          refine v_ic_ne r_258_28 (by first | exact zF_in _ _ _ | exact zA_in _ _ _ | omega) (by first | exact zF_in _ _ _ | exact zA_in _ _ _ | omega) (fun _ => ?_) (fun q => absurd q (by omega))
          refine w_aload0 r_258_40 ?_
          refine w_getA (x := 129) r_258_41 (Lk_118 hL) (Lr_118_30 hL) (by decide) ?_
          refine w_iload2 r_258_44 ?_
          refine v_iald r_258_45 (Lk_129 hL) (Lz_129 hL) (by decide) (by omega) (e130 hQ ht) ?_
          refine v_iadd r_258_46 ?_
          rw [ev] 
          refine w_istore8 r_258_47 rfl ?_
          refine w_iload6 r_258_49 ?_
          refine w_iload5 r_258_51 ?_
          refine w_iload8 r_258_53 ?_
          refine v_if_ge r_258_55 (by first | exact zF_in _ _ _ | exact zA_in _ _ _ | omega) (fun q => absurd q (by omega)) (fun _ => ?_)
          refine w_iconst (v := iI (0)) r_258_58 rfl ?_
          refine w_goto r_258_59 ?_
          refine v_imul r_258_74 ?_
          refine v_iadd r_258_75 ?_
          refine w_istore6 r_258_76 rfl ?_
          refine w_iload4 r_258_78 ?_
          refine w_iconst (v := iI (5)) r_258_80 rfl ?_
          refine v_idivN r_258_81 (by first | exact zF_in _ _ _ | exact zA_in _ _ _ | omega) (by omega) ?_
          refine w_istore4 r_258_82 rfl ?_
          refine w_iload5 r_258_84 ?_
          refine w_iconst (v := iI (5)) r_258_86 rfl ?_
          refine v_imul r_258_87 ?_
          refine w_istore5 r_258_88 rfl ?_
          refine w_iinc7 r_258_90 rfl (iI_add _ _) ?_
          refine w_goto r_258_93 ?_
          exact ih _
        · by_cases q2 : 4 < vs s k + B.ea t
          · rw [show clp (vs s k + B.ea t) = 4 by unfold clp; omega] at ih
            refine w_iload7 r_258_12 ?_
            refine w_aload0 r_258_14 ?_
            refine v_getI r_258_15 (Lk_118 hL) (e24 hQ) ?_
            refine v_ic_ge r_258_18 (by first | exact zF_in _ _ _ | exact zA_in _ _ _ | omega) (by first | exact zF_in _ _ _ | exact zA_in _ _ _ | omega) (fun q => absurd q (by omega)) (fun _ => ?_)
            refine w_iload4 r_258_21 ?_
            refine w_iconst (v := iI (5)) r_258_23 rfl ?_
            refine v_iremN r_258_24 (by first | exact zF_in _ _ _ | exact zA_in _ _ _ | omega) (by omega) ?_
            refine w_iload7 r_258_25 ?_
            refine w_iload3 r_258_27 ?_
            refine v_ic_ne r_258_28 (by first | exact zF_in _ _ _ | exact zA_in _ _ _ | omega) (by first | exact zF_in _ _ _ | exact zA_in _ _ _ | omega) (fun _ => ?_) (fun q => absurd q (by omega))
            refine w_aload0 r_258_40 ?_
            refine w_getA (x := 129) r_258_41 (Lk_118 hL) (Lr_118_30 hL) (by decide) ?_
            refine w_iload2 r_258_44 ?_
            refine v_iald r_258_45 (Lk_129 hL) (Lz_129 hL) (by decide) (by omega) (e130 hQ ht) ?_
            refine v_iadd r_258_46 ?_
            rw [ev] 
            refine w_istore8 r_258_47 rfl ?_
            refine w_iload6 r_258_49 ?_
            refine w_iload5 r_258_51 ?_
            refine w_iload8 r_258_53 ?_
            refine v_if_ge r_258_55 (by first | exact zF_in _ _ _ | exact zA_in _ _ _ | omega) (fun _ => ?_) (fun q => absurd q (by omega))
            refine w_iload8 r_258_62 ?_
            refine w_iconst (v := iI (4)) r_258_64 rfl ?_
            refine v_ic_le r_258_65 (by first | exact zF_in _ _ _ | exact zA_in _ _ _ | omega) (by first | exact zF_in _ _ _ | exact zA_in _ _ _ | omega) (fun q => absurd q (by omega)) (fun _ => ?_)
            refine w_iconst (v := iI (4)) r_258_68 rfl ?_
            refine w_goto r_258_69 ?_
            refine v_imul r_258_74 ?_
            refine v_iadd r_258_75 ?_
            refine w_istore6 r_258_76 rfl ?_
            refine w_iload4 r_258_78 ?_
            refine w_iconst (v := iI (5)) r_258_80 rfl ?_
            refine v_idivN r_258_81 (by first | exact zF_in _ _ _ | exact zA_in _ _ _ | omega) (by omega) ?_
            refine w_istore4 r_258_82 rfl ?_
            refine w_iload5 r_258_84 ?_
            refine w_iconst (v := iI (5)) r_258_86 rfl ?_
            refine v_imul r_258_87 ?_
            refine w_istore5 r_258_88 rfl ?_
            refine w_iinc7 r_258_90 rfl (iI_add _ _) ?_
            refine w_goto r_258_93 ?_
            exact ih _
          · rw [show clp (vs s k + B.ea t) = vs s k + B.ea t by unfold clp; omega] at ih
            refine w_iload7 r_258_12 ?_
            refine w_aload0 r_258_14 ?_
            refine v_getI r_258_15 (Lk_118 hL) (e24 hQ) ?_
            refine v_ic_ge r_258_18 (by first | exact zF_in _ _ _ | exact zA_in _ _ _ | omega) (by first | exact zF_in _ _ _ | exact zA_in _ _ _ | omega) (fun q => absurd q (by omega)) (fun _ => ?_)
            refine w_iload4 r_258_21 ?_
            refine w_iconst (v := iI (5)) r_258_23 rfl ?_
            refine v_iremN r_258_24 (by first | exact zF_in _ _ _ | exact zA_in _ _ _ | omega) (by omega) ?_
            refine w_iload7 r_258_25 ?_
            refine w_iload3 r_258_27 ?_
            refine v_ic_ne r_258_28 (by first | exact zF_in _ _ _ | exact zA_in _ _ _ | omega) (by first | exact zF_in _ _ _ | exact zA_in _ _ _ | omega) (fun _ => ?_) (fun q => absurd q (by omega))
            refine w_aload0 r_258_40 ?_
            refine w_getA (x := 129) r_258_41 (Lk_118 hL) (Lr_118_30 hL) (by decide) ?_
            refine w_iload2 r_258_44 ?_
            refine v_iald r_258_45 (Lk_129 hL) (Lz_129 hL) (by decide) (by omega) (e130 hQ ht) ?_
            refine v_iadd r_258_46 ?_
            rw [ev] 
            refine w_istore8 r_258_47 rfl ?_
            refine w_iload6 r_258_49 ?_
            refine w_iload5 r_258_51 ?_
            refine w_iload8 r_258_53 ?_
            refine v_if_ge r_258_55 (by first | exact zF_in _ _ _ | exact zA_in _ _ _ | omega) (fun _ => ?_) (fun q => absurd q (by omega))
            refine w_iload8 r_258_62 ?_
            refine w_iconst (v := iI (4)) r_258_64 rfl ?_
            refine v_ic_le r_258_65 (by first | exact zF_in _ _ _ | exact zA_in _ _ _ | omega) (by first | exact zF_in _ _ _ | exact zA_in _ _ _ | omega) (fun _ => ?_) (fun q => absurd q (by omega))
            refine w_iload8 r_258_72 ?_
            refine v_imul r_258_74 ?_
            refine v_iadd r_258_75 ?_
            refine w_istore6 r_258_76 rfl ?_
            refine w_iload4 r_258_78 ?_
            refine w_iconst (v := iI (5)) r_258_80 rfl ?_
            refine v_idivN r_258_81 (by first | exact zF_in _ _ _ | exact zA_in _ _ _ | omega) (by omega) ?_
            refine w_istore4 r_258_82 rfl ?_
            refine w_iload5 r_258_84 ?_
            refine w_iconst (v := iI (5)) r_258_86 rfl ?_
            refine v_imul r_258_87 ?_
            refine w_istore5 r_258_88 rfl ?_
            refine w_iinc7 r_258_90 rfl (iI_add _ _) ?_
            refine w_goto r_258_93 ?_
            exact ih _
  have k0 := key 0 (by omega) .null
  rw [show s / (5 : Int) ^ 0 = s by simp, show (5 : Int) ^ 0 = 1 by rfl] at k0
  refine w_iload1 r_258_0 ?_
  refine w_istore4 r_258_1 rfl ?_
  refine w_iconst (v := iI (1)) r_258_3 rfl ?_
  refine w_istore5 r_258_4 rfl ?_
  refine w_iconst (v := iI (0)) r_258_6 rfl ?_
  refine w_istore6 r_258_7 rfl ?_
  refine w_iconst (v := iI (0)) r_258_9 rfl ?_
  refine w_istore7 r_258_10 rfl ?_
  exact k0
theorem m_digState (hL : Lay h) (hQ : MBk h B) (ho : B.ok) (hv : ∀ k : Int, 0 ≤ k → k < B.w → 0 ≤ zA h 139 k ∧ zA h 139 k ≤ 4) (kk : K (iI (s5 (zA h 139) B.w.toNat)) h) : XW d 257 0 [.ref 118, .null, .null] [] h (KI K) := by
  have o := ho.1
  have pw := p5W ho
  have key : ∀ (k : Nat) (a : Int), (k : Int) ≤ B.w → s5 (zA h 139) k + 5 ^ k * a = s5 (zA h 139) B.w.toNat → XW d 257 9 [.ref 118, .int (iI a), .int (iI ((k : Int) - 1))] [] h (KI K) := by
    intro k
    induction k with
    | zero =>
      intro a _ e
      have e2 : a = s5 (zA h 139) B.w.toNat := by
        rw [← e]; show a = 0 + 1 * a; omega
      rw [← e2] at kk
      refine w_iload2 r_257_9 ?_
      refine v_if_lt r_257_10 (by first | exact zF_in _ _ _ | exact zA_in _ _ _ | omega) (fun _ => ?_) (fun q => absurd q (by omega))
      refine w_iload1 r_257_30 ?_
      refine w_iret r_257_31 ?_
      exact kk
    | succ k ih =>
      intro a hk e
      have e1 : s5 (zA h 139) (k + 1) = s5 (zA h 139) k + 5 ^ k * zA h 139 k := rfl
      rw [e1, Int.pow_succ] at e
      have ih := ih (5 * a + zA h 139 k) (by omega) (by rw [Int.mul_add, ← Int.mul_assoc]; omega)
      rw [show ((k + 1 : Nat) : Int) - 1 = (k : Int) by omega]
      refine w_iload2 r_257_9 ?_
      refine v_if_lt r_257_10 (by first | exact zF_in _ _ _ | exact zA_in _ _ _ | omega) (fun q => absurd q (by omega)) (fun _ => ?_)
      refine w_iconst (v := iI (5)) r_257_13 rfl ?_
      refine w_iload1 r_257_14 ?_
      refine v_imul r_257_15 ?_
      refine w_aload0 r_257_16 ?_
      refine w_getA (x := 139) r_257_17 (Lk_118 hL) (Lr_118_47 hL) (by decide) ?_
      refine w_iload2 r_257_20 ?_
      refine v_iald r_257_21 (Lk_139 hL) (Lz_139 hL) (by decide) (by omega) (gI_A h 139 (k : Int)) ?_
      refine v_iadd r_257_22 ?_
      refine w_istore1 r_257_23 rfl ?_
      refine w_iinc2 r_257_24 rfl (iI_add _ _) ?_
      refine w_goto r_257_27 ?_
      rw [show (k : Int) + -1 = (k : Int) - 1 by omega]
      exact ih
  have k0 := key B.w.toNat 0 (by omega) (by omega)
  rw [show ((B.w.toNat : Nat) : Int) - 1 = B.w - 1 by omega] at k0
  refine w_iconst (v := iI (0)) r_257_0 rfl ?_
  refine w_istore1 r_257_1 rfl ?_
  refine w_aload0 r_257_2 ?_
  refine v_getI r_257_3 (Lk_118 hL) (e24 hQ) ?_
  refine w_iconst (v := iI (1)) r_257_6 rfl ?_
  refine v_isub r_257_7 ?_
  refine w_istore2 r_257_8 rfl ?_
  exact k0
end MD
