/-! maps: cells side by side -/
def bsx (wd hg x y c way : Int) : Int := if way = 0 then (if x + 1 < wd then c + 1 else -1) else if way = 1 then (if 0 < x then c - 1 else -1) else if way = 2 then (if 0 < y then c - wd else -1) else (if y + 1 < hg then c + wd else -1)
def bs (wd hg c way : Int) : Int := bsx wd hg (c % wd) (c / wd) c way
theorem xy_of {wd x y c : Int} (hx : 0 ≤ x ∧ x < wd) (hc : c = y * wd + x) : c % wd = x ∧ c / wd = y := by
  have hw : 0 < wd := by omega
  constructor
  · rw [hc, Int.add_comm, Int.add_mul_emod_self_right, Int.emod_eq_of_lt hx.1 hx.2]
  · rw [hc, Int.add_comm, Int.add_mul_ediv_right _ _ (by omega), Int.ediv_eq_zero_of_lt hx.1 hx.2, Int.zero_add]
theorem c_of_xy {wd c : Int} : c = c / wd * wd + c % wd := by
  have := Int.emod_add_mul_ediv c wd
  rw [Int.mul_comm] at this
  omega
theorem mul_in {a b A B : Int} (ha : 0 ≤ a ∧ a ≤ A) (hb : 0 ≤ b ∧ b ≤ B) : 0 ≤ a * b ∧ a * b ≤ A * B :=
  ⟨Int.mul_nonneg ha.1 hb.1, Int.mul_le_mul ha.2 hb.2 hb.1 (by omega)⟩
/-- a cell's column and row -/
theorem xy_in {wd hg c : Int} (hw : 1 ≤ wd ∧ wd ≤ 10) (hh : 1 ≤ hg ∧ hg ≤ 10) (hc : 0 ≤ c ∧ c < wd * hg) : (0 ≤ c % wd ∧ c % wd < wd) ∧ (0 ≤ c / wd ∧ c / wd < hg) := by
  refine ⟨⟨Int.emod_nonneg _ (by omega), Int.emod_lt_of_pos _ (by omega)⟩, Int.ediv_nonneg hc.1 (by omega), ?_⟩
  apply Int.ediv_lt_of_lt_mul (by omega)
  rw [Int.mul_comm]; exact hc.2
theorem bs_in {wd hg c way : Int} (hw : 1 ≤ wd ∧ wd ≤ 10) (hh : 1 ≤ hg ∧ hg ≤ 10) (hc : 0 ≤ c ∧ c < wd * hg) : bs wd hg c way = -1 ∨ (0 ≤ bs wd hg c way ∧ bs wd hg c way < wd * hg) := by
  have h1 := xy_in hw hh hc
  have e := c_of_xy (wd := wd) (c := c)
  have m1 : 0 ≤ c / wd * wd := Int.mul_nonneg h1.2.1 (by omega)
  unfold bs bsx
  generalize c % wd = x at *
  generalize hy : c / wd = y at *
  have m2 : y + 1 < hg → (y + 1 + 1) * wd ≤ wd * hg := fun q => by
    rw [Int.mul_comm wd hg]; exact Int.mul_le_mul_of_nonneg_right (by omega) (by omega)
  have m3 : (y + 1) * wd ≤ wd * hg := by
    rw [Int.mul_comm wd hg]; exact Int.mul_le_mul_of_nonneg_right (by omega) (by omega)
  have m4 : 0 < y → 1 * wd ≤ y * wd := fun q => Int.mul_le_mul_of_nonneg_right (by omega) (by omega)
  have m5 : (y + 1 + 1) * wd = y * wd + wd + wd := by rw [Int.add_mul, Int.add_mul]; omega
  have m6 : (y + 1) * wd = y * wd + wd := by rw [Int.add_mul]; omega
  repeat' split
  all_goals omega
theorem bsx0 {wd hg x y c : Int} : bsx wd hg x y c 0 = if x + 1 < wd then c + 1 else -1 := rfl
theorem bsx1 {wd hg x y c : Int} : bsx wd hg x y c 1 = if 0 < x then c - 1 else -1 := rfl
theorem bsx2 {wd hg x y c : Int} : bsx wd hg x y c 2 = if 0 < y then c - wd else -1 := rfl
theorem bsx3 {wd hg x y c : Int} : bsx wd hg x y c 3 = if y + 1 < hg then c + wd else -1 := rfl
section MP0
variable {d m pc : Nat} {ls st : List Value} {h : XH} {Q : Option Value → XH → Prop} {len ra rb rc rw : Nat}
theorem v_idivN {a b : Int} (r : xrow m pc = some (.idiv, len, ra, rb, rc, rw)) (ha : 0 ≤ a ∧ a ≤ 2147483647) (hb : 0 < b ∧ b ≤ 2147483647) (k : XW d m (pc + 1) ls (.int (iI (a / b)) :: st) h Q) : XW d m pc ls (.int (iI b) :: .int (iI a) :: st) h Q := by
  rw [← Int.tdiv_eq_ediv_of_nonneg ha.1] at k
  exact v_idiv r (by omega) hb k
theorem v_iremN {a b : Int} (r : xrow m pc = some (.irem, len, ra, rb, rc, rw)) (ha : 0 ≤ a ∧ a ≤ 2147483647) (hb : 0 < b ∧ b ≤ 2147483647) (k : XW d m (pc + 1) ls (.int (iI (a % b)) :: st) h Q) : XW d m pc ls (.int (iI b) :: .int (iI a) :: st) h Q := by
  refine v_irem r (by omega) hb ?_
  rw [Int.tdiv_eq_ediv_of_nonneg ha.1, show a - a / b * b = a % b by rw [Int.emod_def, Int.mul_comm]]
  exact k
end MP0
section MP
variable {d : Nat} {h : XH} {K : Int32 → XH → Prop} {KU : XH → Prop} {rb : Nat}
theorem c_linkCell {x y : Int} (hL : Lay h) (hx : 0 ≤ x ∧ x < zF h 80 0) (hy : 0 ≤ y ∧ y < zF h 80 1) (hc : 0 ≤ y * zF h 80 0 + x ∧ y * zF h 80 0 + x < 100) (hw : zF h 80 0 ≤ 10 ∧ zF h 80 1 ≤ 10)
    (hk : ∀ v0 v1 v2 v3 : Int, v0 = bs (zF h 80 0) (zF h 80 1) (y * zF h 80 0 + x) 0 → v1 = bs (zF h 80 0) (zF h 80 1) (y * zF h 80 0 + x) 1 → v2 = bs (zF h 80 0) (zF h 80 1) (y * zF h 80 0 + x) 2 → v3 = bs (zF h 80 0) (zF h 80 1) (y * zF h 80 0 + x) 3 →
      KU (sI (sI (sI (sI h 85 ((y * zF h 80 0 + x) * 4).toNat (iI v0)) 85 ((y * zF h 80 0 + x) * 4 + 1).toNat (iI v1)) 85 ((y * zF h 80 0 + x) * 4 + 2).toNat (iI v2)) 85 ((y * zF h 80 0 + x) * 4 + 3).toNat (iI v3))) :
    XW d 46 0 [.ref 80, .int (iI x), .int (iI y), .null] [] h (KV KU) := by
  have e := xy_of (wd := zF h 80 0) (x := x) (y := y) hx rfl
  unfold bs at hk
  rw [e.1, e.2] at hk
  rw [bsx0, bsx1, bsx2, bsx3] at hk
  refine w_iload2 r_46_0 ?_
  refine w_aload0 r_46_1 ?_
  refine v_getI r_46_2 (Lk_80 hL) (gI_F h 80 0) ?_
  refine v_imul r_46_5 ?_
  refine w_iload1 r_46_6 ?_
  refine v_iadd r_46_7 ?_
  refine w_istore3 r_46_8 rfl ?_
  refine w_aload0 r_46_9 ?_
  refine w_getA (x := 85) r_46_10 (Lk_80 hL) (Lr_80_9 hL) (by decide) ?_
  refine w_iload3 r_46_13 ?_
  refine w_iconst (v := iI (4)) r_46_14 rfl ?_
  refine v_imul r_46_15 ?_
  refine w_iload1 r_46_16 ?_
  refine w_iconst (v := iI (1)) r_46_17 rfl ?_
  refine v_iadd r_46_18 ?_
  refine w_aload0 r_46_19 ?_
  refine v_getI r_46_20 (Lk_80 hL) (gI_F h 80 0) ?_
  refine v_ic_ge r_46_23 (by first | exact zF_in _ _ _ | exact zA_in _ _ _ | omega) (by first | exact zF_in _ _ _ | exact zA_in _ _ _ | omega) (fun c23 => ?_) (fun c23 => ?_)
  · refine w_iconst (v := iI (-1)) r_46_32 rfl ?_
    refine v_iast r_46_33 (Lk_85 hL) (Ln_85 hL) (Lz_85 hL) (by decide) (by omega) ?_
    refine w_aload0 r_46_34 ?_
    refine w_getA (x := 85) r_46_35 (Lk_80 hL) (Lr_80_9 hL) (by decide) ?_
    refine w_iload3 r_46_38 ?_
    refine w_iconst (v := iI (4)) r_46_39 rfl ?_
    refine v_imul r_46_40 ?_
    refine w_iconst (v := iI (1)) r_46_41 rfl ?_
    refine v_iadd r_46_42 ?_
    refine w_iload1 r_46_43 ?_
    refine v_if_le r_46_44 (by first | exact zF_in _ _ _ | exact zA_in _ _ _ | omega) (fun c44 => ?_) (fun c44 => ?_)
    · refine w_iconst (v := iI (-1)) r_46_53 rfl ?_
      refine v_iast r_46_54 (Lk_85 hL) (Ln_85 hL) (Lz_85 hL) (by decide) (by omega) ?_
      refine w_aload0 r_46_55 ?_
      refine w_getA (x := 85) r_46_56 (Lk_80 hL) (Lr_80_9 hL) (by decide) ?_
      refine w_iload3 r_46_59 ?_
      refine w_iconst (v := iI (4)) r_46_60 rfl ?_
      refine v_imul r_46_61 ?_
      refine w_iconst (v := iI (2)) r_46_62 rfl ?_
      refine v_iadd r_46_63 ?_
      refine w_iload2 r_46_64 ?_
      refine v_if_le r_46_65 (by first | exact zF_in _ _ _ | exact zA_in _ _ _ | omega) (fun c65 => ?_) (fun c65 => ?_)
      · refine w_iconst (v := iI (-1)) r_46_77 rfl ?_
        refine v_iast r_46_78 (Lk_85 hL) (Ln_85 hL) (Lz_85 hL) (by decide) (by omega) ?_
        refine w_aload0 r_46_79 ?_
        refine w_getA (x := 85) r_46_80 (Lk_80 hL) (Lr_80_9 hL) (by decide) ?_
        refine w_iload3 r_46_83 ?_
        refine w_iconst (v := iI (4)) r_46_84 rfl ?_
        refine v_imul r_46_85 ?_
        refine w_iconst (v := iI (3)) r_46_86 rfl ?_
        refine v_iadd r_46_87 ?_
        refine w_iload2 r_46_88 ?_
        refine w_iconst (v := iI (1)) r_46_89 rfl ?_
        refine v_iadd r_46_90 ?_
        refine w_aload0 r_46_91 ?_
        refine v_getI r_46_92 (Lk_80 hL) (gI_F h 80 1) ?_
        refine v_ic_ge r_46_95 (by first | exact zF_in _ _ _ | exact zA_in _ _ _ | omega) (by first | exact zF_in _ _ _ | exact zA_in _ _ _ | omega) (fun c95 => ?_) (fun c95 => ?_)
        · refine w_iconst (v := iI (-1)) r_46_107 rfl ?_
          refine v_iast r_46_108 (Lk_85 hL) (Ln_85 hL) (Lz_85 hL) (by decide) (by omega) ?_
          refine w_vret r_46_109 ?_
          refine hk _ _ _ _ ?_ ?_ ?_ ?_
          all_goals (first | rw [if_pos (by omega)] | rw [if_neg (by omega)])
        · refine w_iload3 r_46_98 ?_
          refine w_aload0 r_46_99 ?_
          refine v_getI r_46_100 (Lk_80 hL) (gI_F h 80 0) ?_
          refine v_iadd r_46_103 ?_
          refine w_goto r_46_104 ?_
          refine v_iast r_46_108 (Lk_85 hL) (Ln_85 hL) (Lz_85 hL) (by decide) (by omega) ?_
          refine w_vret r_46_109 ?_
          refine hk _ _ _ _ ?_ ?_ ?_ ?_
          all_goals (first | rw [if_pos (by omega)] | rw [if_neg (by omega)])
      · refine w_iload3 r_46_68 ?_
        refine w_aload0 r_46_69 ?_
        refine v_getI r_46_70 (Lk_80 hL) (gI_F h 80 0) ?_
        refine v_isub r_46_73 ?_
        refine w_goto r_46_74 ?_
        refine v_iast r_46_78 (Lk_85 hL) (Ln_85 hL) (Lz_85 hL) (by decide) (by omega) ?_
        refine w_aload0 r_46_79 ?_
        refine w_getA (x := 85) r_46_80 (Lk_80 hL) (Lr_80_9 hL) (by decide) ?_
        refine w_iload3 r_46_83 ?_
        refine w_iconst (v := iI (4)) r_46_84 rfl ?_
        refine v_imul r_46_85 ?_
        refine w_iconst (v := iI (3)) r_46_86 rfl ?_
        refine v_iadd r_46_87 ?_
        refine w_iload2 r_46_88 ?_
        refine w_iconst (v := iI (1)) r_46_89 rfl ?_
        refine v_iadd r_46_90 ?_
        refine w_aload0 r_46_91 ?_
        refine v_getI r_46_92 (Lk_80 hL) (gI_F h 80 1) ?_
        refine v_ic_ge r_46_95 (by first | exact zF_in _ _ _ | exact zA_in _ _ _ | omega) (by first | exact zF_in _ _ _ | exact zA_in _ _ _ | omega) (fun c95 => ?_) (fun c95 => ?_)
        · refine w_iconst (v := iI (-1)) r_46_107 rfl ?_
          refine v_iast r_46_108 (Lk_85 hL) (Ln_85 hL) (Lz_85 hL) (by decide) (by omega) ?_
          refine w_vret r_46_109 ?_
          refine hk _ _ _ _ ?_ ?_ ?_ ?_
          all_goals (first | rw [if_pos (by omega)] | rw [if_neg (by omega)])
        · refine w_iload3 r_46_98 ?_
          refine w_aload0 r_46_99 ?_
          refine v_getI r_46_100 (Lk_80 hL) (gI_F h 80 0) ?_
          refine v_iadd r_46_103 ?_
          refine w_goto r_46_104 ?_
          refine v_iast r_46_108 (Lk_85 hL) (Ln_85 hL) (Lz_85 hL) (by decide) (by omega) ?_
          refine w_vret r_46_109 ?_
          refine hk _ _ _ _ ?_ ?_ ?_ ?_
          all_goals (first | rw [if_pos (by omega)] | rw [if_neg (by omega)])
    · refine w_iload3 r_46_47 ?_
      refine w_iconst (v := iI (1)) r_46_48 rfl ?_
      refine v_isub r_46_49 ?_
      refine w_goto r_46_50 ?_
      refine v_iast r_46_54 (Lk_85 hL) (Ln_85 hL) (Lz_85 hL) (by decide) (by omega) ?_
      refine w_aload0 r_46_55 ?_
      refine w_getA (x := 85) r_46_56 (Lk_80 hL) (Lr_80_9 hL) (by decide) ?_
      refine w_iload3 r_46_59 ?_
      refine w_iconst (v := iI (4)) r_46_60 rfl ?_
      refine v_imul r_46_61 ?_
      refine w_iconst (v := iI (2)) r_46_62 rfl ?_
      refine v_iadd r_46_63 ?_
      refine w_iload2 r_46_64 ?_
      refine v_if_le r_46_65 (by first | exact zF_in _ _ _ | exact zA_in _ _ _ | omega) (fun c65 => ?_) (fun c65 => ?_)
      · refine w_iconst (v := iI (-1)) r_46_77 rfl ?_
        refine v_iast r_46_78 (Lk_85 hL) (Ln_85 hL) (Lz_85 hL) (by decide) (by omega) ?_
        refine w_aload0 r_46_79 ?_
        refine w_getA (x := 85) r_46_80 (Lk_80 hL) (Lr_80_9 hL) (by decide) ?_
        refine w_iload3 r_46_83 ?_
        refine w_iconst (v := iI (4)) r_46_84 rfl ?_
        refine v_imul r_46_85 ?_
        refine w_iconst (v := iI (3)) r_46_86 rfl ?_
        refine v_iadd r_46_87 ?_
        refine w_iload2 r_46_88 ?_
        refine w_iconst (v := iI (1)) r_46_89 rfl ?_
        refine v_iadd r_46_90 ?_
        refine w_aload0 r_46_91 ?_
        refine v_getI r_46_92 (Lk_80 hL) (gI_F h 80 1) ?_
        refine v_ic_ge r_46_95 (by first | exact zF_in _ _ _ | exact zA_in _ _ _ | omega) (by first | exact zF_in _ _ _ | exact zA_in _ _ _ | omega) (fun c95 => ?_) (fun c95 => ?_)
        · refine w_iconst (v := iI (-1)) r_46_107 rfl ?_
          refine v_iast r_46_108 (Lk_85 hL) (Ln_85 hL) (Lz_85 hL) (by decide) (by omega) ?_
          refine w_vret r_46_109 ?_
          refine hk _ _ _ _ ?_ ?_ ?_ ?_
          all_goals (first | rw [if_pos (by omega)] | rw [if_neg (by omega)])
        · refine w_iload3 r_46_98 ?_
          refine w_aload0 r_46_99 ?_
          refine v_getI r_46_100 (Lk_80 hL) (gI_F h 80 0) ?_
          refine v_iadd r_46_103 ?_
          refine w_goto r_46_104 ?_
          refine v_iast r_46_108 (Lk_85 hL) (Ln_85 hL) (Lz_85 hL) (by decide) (by omega) ?_
          refine w_vret r_46_109 ?_
          refine hk _ _ _ _ ?_ ?_ ?_ ?_
          all_goals (first | rw [if_pos (by omega)] | rw [if_neg (by omega)])
      · refine w_iload3 r_46_68 ?_
        refine w_aload0 r_46_69 ?_
        refine v_getI r_46_70 (Lk_80 hL) (gI_F h 80 0) ?_
        refine v_isub r_46_73 ?_
        refine w_goto r_46_74 ?_
        refine v_iast r_46_78 (Lk_85 hL) (Ln_85 hL) (Lz_85 hL) (by decide) (by omega) ?_
        refine w_aload0 r_46_79 ?_
        refine w_getA (x := 85) r_46_80 (Lk_80 hL) (Lr_80_9 hL) (by decide) ?_
        refine w_iload3 r_46_83 ?_
        refine w_iconst (v := iI (4)) r_46_84 rfl ?_
        refine v_imul r_46_85 ?_
        refine w_iconst (v := iI (3)) r_46_86 rfl ?_
        refine v_iadd r_46_87 ?_
        refine w_iload2 r_46_88 ?_
        refine w_iconst (v := iI (1)) r_46_89 rfl ?_
        refine v_iadd r_46_90 ?_
        refine w_aload0 r_46_91 ?_
        refine v_getI r_46_92 (Lk_80 hL) (gI_F h 80 1) ?_
        refine v_ic_ge r_46_95 (by first | exact zF_in _ _ _ | exact zA_in _ _ _ | omega) (by first | exact zF_in _ _ _ | exact zA_in _ _ _ | omega) (fun c95 => ?_) (fun c95 => ?_)
        · refine w_iconst (v := iI (-1)) r_46_107 rfl ?_
          refine v_iast r_46_108 (Lk_85 hL) (Ln_85 hL) (Lz_85 hL) (by decide) (by omega) ?_
          refine w_vret r_46_109 ?_
          refine hk _ _ _ _ ?_ ?_ ?_ ?_
          all_goals (first | rw [if_pos (by omega)] | rw [if_neg (by omega)])
        · refine w_iload3 r_46_98 ?_
          refine w_aload0 r_46_99 ?_
          refine v_getI r_46_100 (Lk_80 hL) (gI_F h 80 0) ?_
          refine v_iadd r_46_103 ?_
          refine w_goto r_46_104 ?_
          refine v_iast r_46_108 (Lk_85 hL) (Ln_85 hL) (Lz_85 hL) (by decide) (by omega) ?_
          refine w_vret r_46_109 ?_
          refine hk _ _ _ _ ?_ ?_ ?_ ?_
          all_goals (first | rw [if_pos (by omega)] | rw [if_neg (by omega)])
  · refine w_iload3 r_46_26 ?_
    refine w_iconst (v := iI (1)) r_46_27 rfl ?_
    refine v_iadd r_46_28 ?_
    refine w_goto r_46_29 ?_
    refine v_iast r_46_33 (Lk_85 hL) (Ln_85 hL) (Lz_85 hL) (by decide) (by omega) ?_
    refine w_aload0 r_46_34 ?_
    refine w_getA (x := 85) r_46_35 (Lk_80 hL) (Lr_80_9 hL) (by decide) ?_
    refine w_iload3 r_46_38 ?_
    refine w_iconst (v := iI (4)) r_46_39 rfl ?_
    refine v_imul r_46_40 ?_
    refine w_iconst (v := iI (1)) r_46_41 rfl ?_
    refine v_iadd r_46_42 ?_
    refine w_iload1 r_46_43 ?_
    refine v_if_le r_46_44 (by first | exact zF_in _ _ _ | exact zA_in _ _ _ | omega) (fun c44 => ?_) (fun c44 => ?_)
    · refine w_iconst (v := iI (-1)) r_46_53 rfl ?_
      refine v_iast r_46_54 (Lk_85 hL) (Ln_85 hL) (Lz_85 hL) (by decide) (by omega) ?_
      refine w_aload0 r_46_55 ?_
      refine w_getA (x := 85) r_46_56 (Lk_80 hL) (Lr_80_9 hL) (by decide) ?_
      refine w_iload3 r_46_59 ?_
      refine w_iconst (v := iI (4)) r_46_60 rfl ?_
      refine v_imul r_46_61 ?_
      refine w_iconst (v := iI (2)) r_46_62 rfl ?_
      refine v_iadd r_46_63 ?_
      refine w_iload2 r_46_64 ?_
      refine v_if_le r_46_65 (by first | exact zF_in _ _ _ | exact zA_in _ _ _ | omega) (fun c65 => ?_) (fun c65 => ?_)
      · refine w_iconst (v := iI (-1)) r_46_77 rfl ?_
        refine v_iast r_46_78 (Lk_85 hL) (Ln_85 hL) (Lz_85 hL) (by decide) (by omega) ?_
        refine w_aload0 r_46_79 ?_
        refine w_getA (x := 85) r_46_80 (Lk_80 hL) (Lr_80_9 hL) (by decide) ?_
        refine w_iload3 r_46_83 ?_
        refine w_iconst (v := iI (4)) r_46_84 rfl ?_
        refine v_imul r_46_85 ?_
        refine w_iconst (v := iI (3)) r_46_86 rfl ?_
        refine v_iadd r_46_87 ?_
        refine w_iload2 r_46_88 ?_
        refine w_iconst (v := iI (1)) r_46_89 rfl ?_
        refine v_iadd r_46_90 ?_
        refine w_aload0 r_46_91 ?_
        refine v_getI r_46_92 (Lk_80 hL) (gI_F h 80 1) ?_
        refine v_ic_ge r_46_95 (by first | exact zF_in _ _ _ | exact zA_in _ _ _ | omega) (by first | exact zF_in _ _ _ | exact zA_in _ _ _ | omega) (fun c95 => ?_) (fun c95 => ?_)
        · refine w_iconst (v := iI (-1)) r_46_107 rfl ?_
          refine v_iast r_46_108 (Lk_85 hL) (Ln_85 hL) (Lz_85 hL) (by decide) (by omega) ?_
          refine w_vret r_46_109 ?_
          refine hk _ _ _ _ ?_ ?_ ?_ ?_
          all_goals (first | rw [if_pos (by omega)] | rw [if_neg (by omega)])
        · refine w_iload3 r_46_98 ?_
          refine w_aload0 r_46_99 ?_
          refine v_getI r_46_100 (Lk_80 hL) (gI_F h 80 0) ?_
          refine v_iadd r_46_103 ?_
          refine w_goto r_46_104 ?_
          refine v_iast r_46_108 (Lk_85 hL) (Ln_85 hL) (Lz_85 hL) (by decide) (by omega) ?_
          refine w_vret r_46_109 ?_
          refine hk _ _ _ _ ?_ ?_ ?_ ?_
          all_goals (first | rw [if_pos (by omega)] | rw [if_neg (by omega)])
      · refine w_iload3 r_46_68 ?_
        refine w_aload0 r_46_69 ?_
        refine v_getI r_46_70 (Lk_80 hL) (gI_F h 80 0) ?_
        refine v_isub r_46_73 ?_
        refine w_goto r_46_74 ?_
        refine v_iast r_46_78 (Lk_85 hL) (Ln_85 hL) (Lz_85 hL) (by decide) (by omega) ?_
        refine w_aload0 r_46_79 ?_
        refine w_getA (x := 85) r_46_80 (Lk_80 hL) (Lr_80_9 hL) (by decide) ?_
        refine w_iload3 r_46_83 ?_
        refine w_iconst (v := iI (4)) r_46_84 rfl ?_
        refine v_imul r_46_85 ?_
        refine w_iconst (v := iI (3)) r_46_86 rfl ?_
        refine v_iadd r_46_87 ?_
        refine w_iload2 r_46_88 ?_
        refine w_iconst (v := iI (1)) r_46_89 rfl ?_
        refine v_iadd r_46_90 ?_
        refine w_aload0 r_46_91 ?_
        refine v_getI r_46_92 (Lk_80 hL) (gI_F h 80 1) ?_
        refine v_ic_ge r_46_95 (by first | exact zF_in _ _ _ | exact zA_in _ _ _ | omega) (by first | exact zF_in _ _ _ | exact zA_in _ _ _ | omega) (fun c95 => ?_) (fun c95 => ?_)
        · refine w_iconst (v := iI (-1)) r_46_107 rfl ?_
          refine v_iast r_46_108 (Lk_85 hL) (Ln_85 hL) (Lz_85 hL) (by decide) (by omega) ?_
          refine w_vret r_46_109 ?_
          refine hk _ _ _ _ ?_ ?_ ?_ ?_
          all_goals (first | rw [if_pos (by omega)] | rw [if_neg (by omega)])
        · refine w_iload3 r_46_98 ?_
          refine w_aload0 r_46_99 ?_
          refine v_getI r_46_100 (Lk_80 hL) (gI_F h 80 0) ?_
          refine v_iadd r_46_103 ?_
          refine w_goto r_46_104 ?_
          refine v_iast r_46_108 (Lk_85 hL) (Ln_85 hL) (Lz_85 hL) (by decide) (by omega) ?_
          refine w_vret r_46_109 ?_
          refine hk _ _ _ _ ?_ ?_ ?_ ?_
          all_goals (first | rw [if_pos (by omega)] | rw [if_neg (by omega)])
    · refine w_iload3 r_46_47 ?_
      refine w_iconst (v := iI (1)) r_46_48 rfl ?_
      refine v_isub r_46_49 ?_
      refine w_goto r_46_50 ?_
      refine v_iast r_46_54 (Lk_85 hL) (Ln_85 hL) (Lz_85 hL) (by decide) (by omega) ?_
      refine w_aload0 r_46_55 ?_
      refine w_getA (x := 85) r_46_56 (Lk_80 hL) (Lr_80_9 hL) (by decide) ?_
      refine w_iload3 r_46_59 ?_
      refine w_iconst (v := iI (4)) r_46_60 rfl ?_
      refine v_imul r_46_61 ?_
      refine w_iconst (v := iI (2)) r_46_62 rfl ?_
      refine v_iadd r_46_63 ?_
      refine w_iload2 r_46_64 ?_
      refine v_if_le r_46_65 (by first | exact zF_in _ _ _ | exact zA_in _ _ _ | omega) (fun c65 => ?_) (fun c65 => ?_)
      · refine w_iconst (v := iI (-1)) r_46_77 rfl ?_
        refine v_iast r_46_78 (Lk_85 hL) (Ln_85 hL) (Lz_85 hL) (by decide) (by omega) ?_
        refine w_aload0 r_46_79 ?_
        refine w_getA (x := 85) r_46_80 (Lk_80 hL) (Lr_80_9 hL) (by decide) ?_
        refine w_iload3 r_46_83 ?_
        refine w_iconst (v := iI (4)) r_46_84 rfl ?_
        refine v_imul r_46_85 ?_
        refine w_iconst (v := iI (3)) r_46_86 rfl ?_
        refine v_iadd r_46_87 ?_
        refine w_iload2 r_46_88 ?_
        refine w_iconst (v := iI (1)) r_46_89 rfl ?_
        refine v_iadd r_46_90 ?_
        refine w_aload0 r_46_91 ?_
        refine v_getI r_46_92 (Lk_80 hL) (gI_F h 80 1) ?_
        refine v_ic_ge r_46_95 (by first | exact zF_in _ _ _ | exact zA_in _ _ _ | omega) (by first | exact zF_in _ _ _ | exact zA_in _ _ _ | omega) (fun c95 => ?_) (fun c95 => ?_)
        · refine w_iconst (v := iI (-1)) r_46_107 rfl ?_
          refine v_iast r_46_108 (Lk_85 hL) (Ln_85 hL) (Lz_85 hL) (by decide) (by omega) ?_
          refine w_vret r_46_109 ?_
          refine hk _ _ _ _ ?_ ?_ ?_ ?_
          all_goals (first | rw [if_pos (by omega)] | rw [if_neg (by omega)])
        · refine w_iload3 r_46_98 ?_
          refine w_aload0 r_46_99 ?_
          refine v_getI r_46_100 (Lk_80 hL) (gI_F h 80 0) ?_
          refine v_iadd r_46_103 ?_
          refine w_goto r_46_104 ?_
          refine v_iast r_46_108 (Lk_85 hL) (Ln_85 hL) (Lz_85 hL) (by decide) (by omega) ?_
          refine w_vret r_46_109 ?_
          refine hk _ _ _ _ ?_ ?_ ?_ ?_
          all_goals (first | rw [if_pos (by omega)] | rw [if_neg (by omega)])
      · refine w_iload3 r_46_68 ?_
        refine w_aload0 r_46_69 ?_
        refine v_getI r_46_70 (Lk_80 hL) (gI_F h 80 0) ?_
        refine v_isub r_46_73 ?_
        refine w_goto r_46_74 ?_
        refine v_iast r_46_78 (Lk_85 hL) (Ln_85 hL) (Lz_85 hL) (by decide) (by omega) ?_
        refine w_aload0 r_46_79 ?_
        refine w_getA (x := 85) r_46_80 (Lk_80 hL) (Lr_80_9 hL) (by decide) ?_
        refine w_iload3 r_46_83 ?_
        refine w_iconst (v := iI (4)) r_46_84 rfl ?_
        refine v_imul r_46_85 ?_
        refine w_iconst (v := iI (3)) r_46_86 rfl ?_
        refine v_iadd r_46_87 ?_
        refine w_iload2 r_46_88 ?_
        refine w_iconst (v := iI (1)) r_46_89 rfl ?_
        refine v_iadd r_46_90 ?_
        refine w_aload0 r_46_91 ?_
        refine v_getI r_46_92 (Lk_80 hL) (gI_F h 80 1) ?_
        refine v_ic_ge r_46_95 (by first | exact zF_in _ _ _ | exact zA_in _ _ _ | omega) (by first | exact zF_in _ _ _ | exact zA_in _ _ _ | omega) (fun c95 => ?_) (fun c95 => ?_)
        · refine w_iconst (v := iI (-1)) r_46_107 rfl ?_
          refine v_iast r_46_108 (Lk_85 hL) (Ln_85 hL) (Lz_85 hL) (by decide) (by omega) ?_
          refine w_vret r_46_109 ?_
          refine hk _ _ _ _ ?_ ?_ ?_ ?_
          all_goals (first | rw [if_pos (by omega)] | rw [if_neg (by omega)])
        · refine w_iload3 r_46_98 ?_
          refine w_aload0 r_46_99 ?_
          refine v_getI r_46_100 (Lk_80 hL) (gI_F h 80 0) ?_
          refine v_iadd r_46_103 ?_
          refine w_goto r_46_104 ?_
          refine v_iast r_46_108 (Lk_85 hL) (Ln_85 hL) (Lz_85 hL) (by decide) (by omega) ?_
          refine w_vret r_46_109 ?_
          refine hk _ _ _ _ ?_ ?_ ?_ ?_
          all_goals (first | rw [if_pos (by omega)] | rw [if_neg (by omega)])
theorem m_beside {c way : Int} (hL : Lay h) (hw : 1 ≤ zF h 118 35 ∧ zF h 118 35 ≤ 10) (hh : 1 ≤ zF h 118 36 ∧ zF h 118 36 ≤ 10) (hc : 0 ≤ c ∧ c < zF h 118 35 * zF h 118 36) (hway : 0 ≤ way ∧ way < 4)
    (hk : K (iI (bs (zF h 118 35) (zF h 118 36) c way)) h) : XW (d + 1) 206 0 [.ref 118, .int (iI c), .int (iI way), .null, .null] [] h (KI K) := by
  have h1 := xy_in hw hh hc
  have e := c_of_xy (wd := zF h 118 35) (c := c)
  have m := prod_in (a := zF h 118 35) (b := zF h 118 36) (by omega) (by omega)
  unfold bs at hk
  have e2 : zF h 118 35 * (c / zF h 118 35 + -1) = c / zF h 118 35 * zF h 118 35 - zF h 118 35 := by rw [Int.mul_add, Int.mul_comm]; omega
  have e3 : zF h 118 35 * (c / zF h 118 35 + 1) = c / zF h 118 35 * zF h 118 35 + zF h 118 35 := by rw [Int.mul_add, Int.mul_comm]; omega
  have e4 : zF h 118 35 * (c / zF h 118 35 + 0) = c / zF h 118 35 * zF h 118 35 := by rw [Int.mul_add, Int.mul_comm]; omega
  have hw4 : way = 0 ∨ way = 1 ∨ way = 2 ∨ way = 3 := by omega
  rcases hw4 with rfl | rfl | rfl | rfl
  · rw [bsx0] at hk
    refine w_iload1 r_206_0 ?_
    refine w_aload0 r_206_1 ?_
    refine v_getI r_206_2 (Lk_118 hL) (gI_F h 118 35) ?_
    refine v_iremN r_206_5 (by first | exact zF_in _ _ _ | exact zA_in _ _ _ | omega) (by omega) ?_
    refine w_iload2 r_206_6 ?_
    refine v_if_ne r_206_7 (by first | exact zF_in _ _ _ | exact zA_in _ _ _ | omega) (fun q => absurd q (by omega)) (fun _ => ?_)
    refine w_iconst (v := iI (1)) r_206_10 rfl ?_
    refine w_goto r_206_11 ?_
    refine v_iadd r_206_24 ?_
    refine w_istore3 r_206_25 rfl ?_
    refine w_iload1 r_206_26 ?_
    refine w_aload0 r_206_27 ?_
    refine v_getI r_206_28 (Lk_118 hL) (gI_F h 118 35) ?_
    refine v_idivN r_206_31 (by first | exact zF_in _ _ _ | exact zA_in _ _ _ | omega) (by omega) ?_
    refine w_iload2 r_206_32 ?_
    refine w_iconst (v := iI (2)) r_206_33 rfl ?_
    refine v_ic_ne r_206_34 (by first | exact zF_in _ _ _ | exact zA_in _ _ _ | omega) (by first | exact zF_in _ _ _ | exact zA_in _ _ _ | omega) (fun _ => ?_) (fun q => absurd q (by omega))
    refine w_iload2 r_206_41 ?_
    refine w_iconst (v := iI (3)) r_206_42 rfl ?_
    refine v_ic_ne r_206_43 (by first | exact zF_in _ _ _ | exact zA_in _ _ _ | omega) (by first | exact zF_in _ _ _ | exact zA_in _ _ _ | omega) (fun _ => ?_) (fun q => absurd q (by omega))
    refine w_iconst (v := iI (0)) r_206_50 rfl ?_
    refine v_iadd r_206_51 ?_
    refine w_istore4 r_206_52 rfl ?_
    refine w_iload3 r_206_54 ?_
    refine w_iconst (v := iI (0)) r_206_55 rfl ?_
    refine w_aload0 r_206_56 ?_
    refine v_getI r_206_57 (Lk_118 hL) (gI_F h 118 35) ?_
    refine w_iconst (v := iI (1)) r_206_60 rfl ?_
    refine v_isub r_206_61 ?_
    refine k_167 r_206_62 (Nat.le_of_ble_eq_true rfl) ?_
    refine m_within (by first | exact zF_in _ _ _ | exact zA_in _ _ _ | omega) (by first | exact zF_in _ _ _ | exact zA_in _ _ _ | omega) (by first | exact zF_in _ _ _ | exact zA_in _ _ _ | omega) (fun c62 => ?_) (fun c62 => ?_)
    · refine v_if_eq r_206_65 (by first | exact zF_in _ _ _ | exact zA_in _ _ _ | omega) (fun q => absurd q (by omega)) (fun _ => ?_)
      refine w_iload4 r_206_68 ?_
      refine w_iconst (v := iI (0)) r_206_70 rfl ?_
      refine w_aload0 r_206_71 ?_
      refine v_getI r_206_72 (Lk_118 hL) (gI_F h 118 36) ?_
      refine w_iconst (v := iI (1)) r_206_75 rfl ?_
      refine v_isub r_206_76 ?_
      refine k_167 r_206_77 (Nat.le_of_ble_eq_true rfl) ?_
      refine m_within (by first | exact zF_in _ _ _ | exact zA_in _ _ _ | omega) (by first | exact zF_in _ _ _ | exact zA_in _ _ _ | omega) (by first | exact zF_in _ _ _ | exact zA_in _ _ _ | omega) (fun c77 => ?_) (fun c77 => ?_)
      · refine v_if_eq r_206_80 (by first | exact zF_in _ _ _ | exact zA_in _ _ _ | omega) (fun q => absurd q (by omega)) (fun _ => ?_)
        refine w_aload0 r_206_83 ?_
        refine v_getI r_206_84 (Lk_118 hL) (gI_F h 118 35) ?_
        refine w_iload4 r_206_87 ?_
        refine v_imul r_206_89 ?_
        refine w_iload3 r_206_90 ?_
        refine v_iadd r_206_91 ?_
        refine w_goto r_206_92 ?_
        refine w_iret r_206_96 ?_
        first | (rw [if_pos (by omega)] at hk; rw [e4, show c / zF h 118 35 * zF h 118 35 + (c % zF h 118 35 + 1) = c + 1 by omega]; exact hk) | (rw [if_neg (by omega)] at hk; exact hk)
      · refine v_if_eq r_206_80 (by first | exact zF_in _ _ _ | exact zA_in _ _ _ | omega) (fun _ => ?_) (fun q => absurd q (by omega))
        refine w_iconst (v := iI (-1)) r_206_95 rfl ?_
        refine w_iret r_206_96 ?_
        first | (rw [if_pos (by omega)] at hk; rw [e4, show c / zF h 118 35 * zF h 118 35 + (c % zF h 118 35 + 1) = c + 1 by omega]; exact hk) | (rw [if_neg (by omega)] at hk; exact hk)
    · refine v_if_eq r_206_65 (by first | exact zF_in _ _ _ | exact zA_in _ _ _ | omega) (fun _ => ?_) (fun q => absurd q (by omega))
      refine w_iconst (v := iI (-1)) r_206_95 rfl ?_
      refine w_iret r_206_96 ?_
      first | (rw [if_pos (by omega)] at hk; rw [e4, show c / zF h 118 35 * zF h 118 35 + (c % zF h 118 35 + 1) = c + 1 by omega]; exact hk) | (rw [if_neg (by omega)] at hk; exact hk)
  · rw [bsx1] at hk
    refine w_iload1 r_206_0 ?_
    refine w_aload0 r_206_1 ?_
    refine v_getI r_206_2 (Lk_118 hL) (gI_F h 118 35) ?_
    refine v_iremN r_206_5 (by first | exact zF_in _ _ _ | exact zA_in _ _ _ | omega) (by omega) ?_
    refine w_iload2 r_206_6 ?_
    refine v_if_ne r_206_7 (by first | exact zF_in _ _ _ | exact zA_in _ _ _ | omega) (fun _ => ?_) (fun q => absurd q (by omega))
    refine w_iload2 r_206_14 ?_
    refine w_iconst (v := iI (1)) r_206_15 rfl ?_
    refine v_ic_ne r_206_16 (by first | exact zF_in _ _ _ | exact zA_in _ _ _ | omega) (by first | exact zF_in _ _ _ | exact zA_in _ _ _ | omega) (fun q => absurd q (by omega)) (fun _ => ?_)
    refine w_iconst (v := iI (-1)) r_206_19 rfl ?_
    refine w_goto r_206_20 ?_
    refine v_iadd r_206_24 ?_
    refine w_istore3 r_206_25 rfl ?_
    refine w_iload1 r_206_26 ?_
    refine w_aload0 r_206_27 ?_
    refine v_getI r_206_28 (Lk_118 hL) (gI_F h 118 35) ?_
    refine v_idivN r_206_31 (by first | exact zF_in _ _ _ | exact zA_in _ _ _ | omega) (by omega) ?_
    refine w_iload2 r_206_32 ?_
    refine w_iconst (v := iI (2)) r_206_33 rfl ?_
    refine v_ic_ne r_206_34 (by first | exact zF_in _ _ _ | exact zA_in _ _ _ | omega) (by first | exact zF_in _ _ _ | exact zA_in _ _ _ | omega) (fun _ => ?_) (fun q => absurd q (by omega))
    refine w_iload2 r_206_41 ?_
    refine w_iconst (v := iI (3)) r_206_42 rfl ?_
    refine v_ic_ne r_206_43 (by first | exact zF_in _ _ _ | exact zA_in _ _ _ | omega) (by first | exact zF_in _ _ _ | exact zA_in _ _ _ | omega) (fun _ => ?_) (fun q => absurd q (by omega))
    refine w_iconst (v := iI (0)) r_206_50 rfl ?_
    refine v_iadd r_206_51 ?_
    refine w_istore4 r_206_52 rfl ?_
    refine w_iload3 r_206_54 ?_
    refine w_iconst (v := iI (0)) r_206_55 rfl ?_
    refine w_aload0 r_206_56 ?_
    refine v_getI r_206_57 (Lk_118 hL) (gI_F h 118 35) ?_
    refine w_iconst (v := iI (1)) r_206_60 rfl ?_
    refine v_isub r_206_61 ?_
    refine k_167 r_206_62 (Nat.le_of_ble_eq_true rfl) ?_
    refine m_within (by first | exact zF_in _ _ _ | exact zA_in _ _ _ | omega) (by first | exact zF_in _ _ _ | exact zA_in _ _ _ | omega) (by first | exact zF_in _ _ _ | exact zA_in _ _ _ | omega) (fun c62 => ?_) (fun c62 => ?_)
    · refine v_if_eq r_206_65 (by first | exact zF_in _ _ _ | exact zA_in _ _ _ | omega) (fun q => absurd q (by omega)) (fun _ => ?_)
      refine w_iload4 r_206_68 ?_
      refine w_iconst (v := iI (0)) r_206_70 rfl ?_
      refine w_aload0 r_206_71 ?_
      refine v_getI r_206_72 (Lk_118 hL) (gI_F h 118 36) ?_
      refine w_iconst (v := iI (1)) r_206_75 rfl ?_
      refine v_isub r_206_76 ?_
      refine k_167 r_206_77 (Nat.le_of_ble_eq_true rfl) ?_
      refine m_within (by first | exact zF_in _ _ _ | exact zA_in _ _ _ | omega) (by first | exact zF_in _ _ _ | exact zA_in _ _ _ | omega) (by first | exact zF_in _ _ _ | exact zA_in _ _ _ | omega) (fun c77 => ?_) (fun c77 => ?_)
      · refine v_if_eq r_206_80 (by first | exact zF_in _ _ _ | exact zA_in _ _ _ | omega) (fun q => absurd q (by omega)) (fun _ => ?_)
        refine w_aload0 r_206_83 ?_
        refine v_getI r_206_84 (Lk_118 hL) (gI_F h 118 35) ?_
        refine w_iload4 r_206_87 ?_
        refine v_imul r_206_89 ?_
        refine w_iload3 r_206_90 ?_
        refine v_iadd r_206_91 ?_
        refine w_goto r_206_92 ?_
        refine w_iret r_206_96 ?_
        first | (rw [if_pos (by omega)] at hk; rw [e4, show c / zF h 118 35 * zF h 118 35 + (c % zF h 118 35 + -1) = c - 1 by omega]; exact hk) | (rw [if_neg (by omega)] at hk; exact hk)
      · refine v_if_eq r_206_80 (by first | exact zF_in _ _ _ | exact zA_in _ _ _ | omega) (fun _ => ?_) (fun q => absurd q (by omega))
        refine w_iconst (v := iI (-1)) r_206_95 rfl ?_
        refine w_iret r_206_96 ?_
        first | (rw [if_pos (by omega)] at hk; rw [e4, show c / zF h 118 35 * zF h 118 35 + (c % zF h 118 35 + -1) = c - 1 by omega]; exact hk) | (rw [if_neg (by omega)] at hk; exact hk)
    · refine v_if_eq r_206_65 (by first | exact zF_in _ _ _ | exact zA_in _ _ _ | omega) (fun _ => ?_) (fun q => absurd q (by omega))
      refine w_iconst (v := iI (-1)) r_206_95 rfl ?_
      refine w_iret r_206_96 ?_
      first | (rw [if_pos (by omega)] at hk; rw [e4, show c / zF h 118 35 * zF h 118 35 + (c % zF h 118 35 + -1) = c - 1 by omega]; exact hk) | (rw [if_neg (by omega)] at hk; exact hk)
  · rw [bsx2] at hk
    refine w_iload1 r_206_0 ?_
    refine w_aload0 r_206_1 ?_
    refine v_getI r_206_2 (Lk_118 hL) (gI_F h 118 35) ?_
    refine v_iremN r_206_5 (by first | exact zF_in _ _ _ | exact zA_in _ _ _ | omega) (by omega) ?_
    refine w_iload2 r_206_6 ?_
    refine v_if_ne r_206_7 (by first | exact zF_in _ _ _ | exact zA_in _ _ _ | omega) (fun _ => ?_) (fun q => absurd q (by omega))
    refine w_iload2 r_206_14 ?_
    refine w_iconst (v := iI (1)) r_206_15 rfl ?_
    refine v_ic_ne r_206_16 (by first | exact zF_in _ _ _ | exact zA_in _ _ _ | omega) (by first | exact zF_in _ _ _ | exact zA_in _ _ _ | omega) (fun _ => ?_) (fun q => absurd q (by omega))
    refine w_iconst (v := iI (0)) r_206_23 rfl ?_
    refine v_iadd r_206_24 ?_
    refine w_istore3 r_206_25 rfl ?_
    refine w_iload1 r_206_26 ?_
    refine w_aload0 r_206_27 ?_
    refine v_getI r_206_28 (Lk_118 hL) (gI_F h 118 35) ?_
    refine v_idivN r_206_31 (by first | exact zF_in _ _ _ | exact zA_in _ _ _ | omega) (by omega) ?_
    refine w_iload2 r_206_32 ?_
    refine w_iconst (v := iI (2)) r_206_33 rfl ?_
    refine v_ic_ne r_206_34 (by first | exact zF_in _ _ _ | exact zA_in _ _ _ | omega) (by first | exact zF_in _ _ _ | exact zA_in _ _ _ | omega) (fun q => absurd q (by omega)) (fun _ => ?_)
    refine w_iconst (v := iI (-1)) r_206_37 rfl ?_
    refine w_goto r_206_38 ?_
    refine v_iadd r_206_51 ?_
    refine w_istore4 r_206_52 rfl ?_
    refine w_iload3 r_206_54 ?_
    refine w_iconst (v := iI (0)) r_206_55 rfl ?_
    refine w_aload0 r_206_56 ?_
    refine v_getI r_206_57 (Lk_118 hL) (gI_F h 118 35) ?_
    refine w_iconst (v := iI (1)) r_206_60 rfl ?_
    refine v_isub r_206_61 ?_
    refine k_167 r_206_62 (Nat.le_of_ble_eq_true rfl) ?_
    refine m_within (by first | exact zF_in _ _ _ | exact zA_in _ _ _ | omega) (by first | exact zF_in _ _ _ | exact zA_in _ _ _ | omega) (by first | exact zF_in _ _ _ | exact zA_in _ _ _ | omega) (fun c62 => ?_) (fun c62 => ?_)
    · refine v_if_eq r_206_65 (by first | exact zF_in _ _ _ | exact zA_in _ _ _ | omega) (fun q => absurd q (by omega)) (fun _ => ?_)
      refine w_iload4 r_206_68 ?_
      refine w_iconst (v := iI (0)) r_206_70 rfl ?_
      refine w_aload0 r_206_71 ?_
      refine v_getI r_206_72 (Lk_118 hL) (gI_F h 118 36) ?_
      refine w_iconst (v := iI (1)) r_206_75 rfl ?_
      refine v_isub r_206_76 ?_
      refine k_167 r_206_77 (Nat.le_of_ble_eq_true rfl) ?_
      refine m_within (by first | exact zF_in _ _ _ | exact zA_in _ _ _ | omega) (by first | exact zF_in _ _ _ | exact zA_in _ _ _ | omega) (by first | exact zF_in _ _ _ | exact zA_in _ _ _ | omega) (fun c77 => ?_) (fun c77 => ?_)
      · refine v_if_eq r_206_80 (by first | exact zF_in _ _ _ | exact zA_in _ _ _ | omega) (fun q => absurd q (by omega)) (fun _ => ?_)
        refine w_aload0 r_206_83 ?_
        refine v_getI r_206_84 (Lk_118 hL) (gI_F h 118 35) ?_
        refine w_iload4 r_206_87 ?_
        refine v_imul r_206_89 ?_
        refine w_iload3 r_206_90 ?_
        refine v_iadd r_206_91 ?_
        refine w_goto r_206_92 ?_
        refine w_iret r_206_96 ?_
        first | (rw [if_pos (by omega)] at hk; rw [e2, show c / zF h 118 35 * zF h 118 35 - zF h 118 35 + (c % zF h 118 35 + 0) = c - zF h 118 35 by omega]; exact hk) | (rw [if_neg (by omega)] at hk; exact hk) | (exfalso; omega)
      · refine v_if_eq r_206_80 (by first | exact zF_in _ _ _ | exact zA_in _ _ _ | omega) (fun _ => ?_) (fun q => absurd q (by omega))
        refine w_iconst (v := iI (-1)) r_206_95 rfl ?_
        refine w_iret r_206_96 ?_
        first | (rw [if_pos (by omega)] at hk; rw [e2, show c / zF h 118 35 * zF h 118 35 - zF h 118 35 + (c % zF h 118 35 + 0) = c - zF h 118 35 by omega]; exact hk) | (rw [if_neg (by omega)] at hk; exact hk) | (exfalso; omega)
    · refine v_if_eq r_206_65 (by first | exact zF_in _ _ _ | exact zA_in _ _ _ | omega) (fun _ => ?_) (fun q => absurd q (by omega))
      refine w_iconst (v := iI (-1)) r_206_95 rfl ?_
      refine w_iret r_206_96 ?_
      first | (rw [if_pos (by omega)] at hk; rw [e2, show c / zF h 118 35 * zF h 118 35 - zF h 118 35 + (c % zF h 118 35 + 0) = c - zF h 118 35 by omega]; exact hk) | (rw [if_neg (by omega)] at hk; exact hk) | (exfalso; omega)
  · rw [bsx3] at hk
    refine w_iload1 r_206_0 ?_
    refine w_aload0 r_206_1 ?_
    refine v_getI r_206_2 (Lk_118 hL) (gI_F h 118 35) ?_
    refine v_iremN r_206_5 (by first | exact zF_in _ _ _ | exact zA_in _ _ _ | omega) (by omega) ?_
    refine w_iload2 r_206_6 ?_
    refine v_if_ne r_206_7 (by first | exact zF_in _ _ _ | exact zA_in _ _ _ | omega) (fun _ => ?_) (fun q => absurd q (by omega))
    refine w_iload2 r_206_14 ?_
    refine w_iconst (v := iI (1)) r_206_15 rfl ?_
    refine v_ic_ne r_206_16 (by first | exact zF_in _ _ _ | exact zA_in _ _ _ | omega) (by first | exact zF_in _ _ _ | exact zA_in _ _ _ | omega) (fun _ => ?_) (fun q => absurd q (by omega))
    refine w_iconst (v := iI (0)) r_206_23 rfl ?_
    refine v_iadd r_206_24 ?_
    refine w_istore3 r_206_25 rfl ?_
    refine w_iload1 r_206_26 ?_
    refine w_aload0 r_206_27 ?_
    refine v_getI r_206_28 (Lk_118 hL) (gI_F h 118 35) ?_
    refine v_idivN r_206_31 (by first | exact zF_in _ _ _ | exact zA_in _ _ _ | omega) (by omega) ?_
    refine w_iload2 r_206_32 ?_
    refine w_iconst (v := iI (2)) r_206_33 rfl ?_
    refine v_ic_ne r_206_34 (by first | exact zF_in _ _ _ | exact zA_in _ _ _ | omega) (by first | exact zF_in _ _ _ | exact zA_in _ _ _ | omega) (fun _ => ?_) (fun q => absurd q (by omega))
    refine w_iload2 r_206_41 ?_
    refine w_iconst (v := iI (3)) r_206_42 rfl ?_
    refine v_ic_ne r_206_43 (by first | exact zF_in _ _ _ | exact zA_in _ _ _ | omega) (by first | exact zF_in _ _ _ | exact zA_in _ _ _ | omega) (fun q => absurd q (by omega)) (fun _ => ?_)
    refine w_iconst (v := iI (1)) r_206_46 rfl ?_
    refine w_goto r_206_47 ?_
    refine v_iadd r_206_51 ?_
    refine w_istore4 r_206_52 rfl ?_
    refine w_iload3 r_206_54 ?_
    refine w_iconst (v := iI (0)) r_206_55 rfl ?_
    refine w_aload0 r_206_56 ?_
    refine v_getI r_206_57 (Lk_118 hL) (gI_F h 118 35) ?_
    refine w_iconst (v := iI (1)) r_206_60 rfl ?_
    refine v_isub r_206_61 ?_
    refine k_167 r_206_62 (Nat.le_of_ble_eq_true rfl) ?_
    refine m_within (by first | exact zF_in _ _ _ | exact zA_in _ _ _ | omega) (by first | exact zF_in _ _ _ | exact zA_in _ _ _ | omega) (by first | exact zF_in _ _ _ | exact zA_in _ _ _ | omega) (fun c62 => ?_) (fun c62 => ?_)
    · refine v_if_eq r_206_65 (by first | exact zF_in _ _ _ | exact zA_in _ _ _ | omega) (fun q => absurd q (by omega)) (fun _ => ?_)
      refine w_iload4 r_206_68 ?_
      refine w_iconst (v := iI (0)) r_206_70 rfl ?_
      refine w_aload0 r_206_71 ?_
      refine v_getI r_206_72 (Lk_118 hL) (gI_F h 118 36) ?_
      refine w_iconst (v := iI (1)) r_206_75 rfl ?_
      refine v_isub r_206_76 ?_
      refine k_167 r_206_77 (Nat.le_of_ble_eq_true rfl) ?_
      refine m_within (by first | exact zF_in _ _ _ | exact zA_in _ _ _ | omega) (by first | exact zF_in _ _ _ | exact zA_in _ _ _ | omega) (by first | exact zF_in _ _ _ | exact zA_in _ _ _ | omega) (fun c77 => ?_) (fun c77 => ?_)
      · refine v_if_eq r_206_80 (by first | exact zF_in _ _ _ | exact zA_in _ _ _ | omega) (fun q => absurd q (by omega)) (fun _ => ?_)
        refine w_aload0 r_206_83 ?_
        refine v_getI r_206_84 (Lk_118 hL) (gI_F h 118 35) ?_
        refine w_iload4 r_206_87 ?_
        refine v_imul r_206_89 ?_
        refine w_iload3 r_206_90 ?_
        refine v_iadd r_206_91 ?_
        refine w_goto r_206_92 ?_
        refine w_iret r_206_96 ?_
        first | (rw [if_pos (by omega)] at hk; rw [e3, show c / zF h 118 35 * zF h 118 35 + zF h 118 35 + (c % zF h 118 35 + 0) = c + zF h 118 35 by omega]; exact hk) | (rw [if_neg (by omega)] at hk; exact hk) | (exfalso; omega)
      · refine v_if_eq r_206_80 (by first | exact zF_in _ _ _ | exact zA_in _ _ _ | omega) (fun _ => ?_) (fun q => absurd q (by omega))
        refine w_iconst (v := iI (-1)) r_206_95 rfl ?_
        refine w_iret r_206_96 ?_
        first | (rw [if_pos (by omega)] at hk; rw [e3, show c / zF h 118 35 * zF h 118 35 + zF h 118 35 + (c % zF h 118 35 + 0) = c + zF h 118 35 by omega]; exact hk) | (rw [if_neg (by omega)] at hk; exact hk) | (exfalso; omega)
    · refine v_if_eq r_206_65 (by first | exact zF_in _ _ _ | exact zA_in _ _ _ | omega) (fun _ => ?_) (fun q => absurd q (by omega))
      refine w_iconst (v := iI (-1)) r_206_95 rfl ?_
      refine w_iret r_206_96 ?_
      first | (rw [if_pos (by omega)] at hk; rw [e3, show c / zF h 118 35 * zF h 118 35 + zF h 118 35 + (c % zF h 118 35 + 0) = c + zF h 118 35 by omega]; exact hk) | (rw [if_neg (by omega)] at hk; exact hk) | (exfalso; omega)
end MP
