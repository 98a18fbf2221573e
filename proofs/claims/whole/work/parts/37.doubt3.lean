/-! doubt, weigh -/
section D30
variable {d m pc : Nat} {ls st : List Value} {h : XH} {Q : Option Value → XH → Prop} {len ra rb rc rw : Nat}
theorem v_ishl4 {x e : Int} (r : xrow m pc = some (.ishl, len, ra, rb, rc, rw)) (hx : 0 ≤ x ∧ x ≤ 1000) (he : 0 ≤ e ∧ e ≤ 5) (kk : XW d m (pc + 1) ls (.int (iI (x * 4 ^ e.toNat)) :: st) h Q) : XW d m pc ls (.int (iI (2 * e)) :: .int (iI x) :: st) h Q := by
  rw [← p4 he.1] at kk
  refine v_ishl r hx.1 (by omega) ?_ kk
  rw [p4 he.1]
  rcases p4s he with q | q | q | q | q | q <;> rw [q] <;> omega
end D30
section D3
variable {d : Nat} {h : XH} {K : Int32 → XH → Prop} {KU : XH → Prop} {rb : Nat}
abbrev PAdd : Nat → Nat → Bool := pO (pA [83, 84, 86, 87, 88, 89, 90]) (pF [(80, 3), (80, 4)])
/-- the class's map behind a new doubt D in the cell c -/
def Added (h h' : XH) (c D : Int) : Prop := Fr PAdd h h' ∧ gI h' 80 3 = iI (D + 1) ∧ gI h' 80 4 = iI (zF h 80 4 + 1) ∧
  (∀ i, 0 ≤ i → zA h' 83 i = if i = c then D else zA h 83 i) ∧ (∀ i, 0 ≤ i → zA h' 86 i = if i = D then -1 else zA h 86 i) ∧
  (∀ i, 0 ≤ i → zA h' 87 i = if D * 8 ≤ i ∧ i < D * 8 + 8 then (if i - D * 8 = zA h 82 c then 1 else 0) else zA h 87 i) ∧
  (∀ i, 0 ≤ i → i < 100 → zA h' 84 i = if nr (zF h 80 0) (zF h 80 1) c i then orD (zA h 84 i) D else zA h 84 i) ∧ ChOK h' D ∧
  (∀ i : Int, 0 ≤ i → ¬ i = D → zA h' 89 i = zA h 89 i ∧ zA h' 90 i = zA h 90 i) ∧ (∀ i : Int, 0 ≤ i → i < D * 3 ∨ D * 3 + 3 ≤ i → zA h' 88 i = zA h 88 i)
theorem c_addDoubt {c D : Int} (hL : Lay h) (eD : zF h 80 3 = D) (hD : 0 ≤ D ∧ D < 5) (hw : 1 ≤ zF h 80 0 ∧ zF h 80 0 ≤ 10) (hh : 1 ≤ zF h 80 1 ∧ zF h 80 1 ≤ 10) (hc : 0 ≤ c ∧ c < zF h 80 0 * zF h 80 1) (hb : ∀ way, 0 ≤ way → way < 4 → zA h 85 (c * 4 + way) = bs (zF h 80 0) (zF h 80 1) c way)
    (hS : ∀ i, 0 ≤ i → i < 100 → 0 ≤ zA h 84 i ∧ zA h 84 i < 1024) (hg : 0 ≤ zA h 82 c ∧ zA h 82 c < 8) (hk : ∀ h', Added h h' c D → K (iI D) h') :
    XW (d + 2) 49 0 [.ref 80, .int (iI c), .null, .null, .null, .null] [] h (KI K) := by
  have hp := prod_in (a := zF h 80 0) (b := zF h 80 1) (by omega) (by omega)
  have e3 : gI h 80 3 = iI D := by rw [gI_F, eD]
  have h4 := p4s (d := D) (by omega)
  refine w_aload0 r_49_0 ?_
  refine v_getI r_49_1 (Lk_80 hL) e3 ?_
  refine w_istore2 r_49_4 rfl ?_
  refine w_aload0 r_49_5 ?_
  refine w_dupA r_49_6 ?_
  refine v_getI r_49_7 (Lk_80 hL) e3 ?_
  refine w_iconst (v := iI (1)) r_49_10 rfl ?_
  refine v_iadd r_49_11 ?_
  refine w_putI r_49_12 (Lk_80 hL) (Ln_80 hL) ?_
  refine w_aload0 r_49_15 ?_
  refine w_getA (x := 83) r_49_16 (Lk_80 hL) (Lr_80_7 hL) (by decide) ?_
  refine w_iload1 r_49_19 ?_
  refine w_iload2 r_49_20 ?_
  refine v_iast r_49_21 (Lk_83 hL) (Ln_83 hL) (Lz_83 hL) (by decide) (by omega) ?_
  refine w_aload0 r_49_22 ?_
  refine w_getA (x := 86) r_49_23 (Lk_80 hL) (Lr_80_10 hL) (by decide) ?_
  refine w_iload2 r_49_26 ?_
  refine w_iconst (v := iI (-1)) r_49_27 rfl ?_
  refine v_iast r_49_28 (Lk_86 hL) (Ln_86 hL) (Lz_86 hL) (by decide) (by omega) ?_
  refine w_iconst (v := iI (0)) r_49_29 rfl ?_
  refine w_istore3 r_49_30 rfl ?_
  refine c_addDoubt_A (Z := .null) hL hD (by omega) (fun h1 f1 w1 => ?_)
  have F0 : Fr PAdd h (sI (sI (sI h 80 3 (iI (D + 1))) 83 c.toNat (iI D)) 86 D.toNat (iI (-1))) := (((Fr.refl _ _).sI 80 3 _ rfl).sI 83 _ _ rfl).sI 86 _ _ rfl
  have F1 := F0.trans (f1.mono (fun a j q => by simp [PAdd, pO, pA, pF] at q ⊢; omega))
  have hL0 := hL
  have hL := F1.lay hL
  have hgc : zA h1 82 c = zA h 82 c := (f1.A rfl).trans rfl
  have a83 : ∀ i, 0 ≤ i → zA h1 83 i = if i = c then D else zA h 83 i := fun i hi => by
    rw [f1.A rfl, zA_o _ (by decide), zA_s (by omega) hi (by omega), zA_o _ (by decide)]
  have a87 : ∀ i, 0 ≤ i → zA h1 86 i = if i = D then -1 else zA h 86 i := fun i hi => by
    rw [f1.A rfl, zA_s (by omega) hi (by omega), zA_o _ (by decide), zA_o _ (by decide)]
  have a88 : ∀ i, 0 ≤ i → zA h1 87 i = if D * 8 ≤ i ∧ i < D * 8 + 8 then (if i - D * 8 = zA h 82 c then 1 else 0) else zA h 87 i := fun i hi => by
    rw [w1 i hi]; rfl
  have a84 : ∀ i, zA h1 84 i = zA h 84 i := fun i => (f1.A rfl).trans rfl
  have a85 : ∀ i, zA h1 85 i = zA h 85 i := fun i => (f1.A rfl).trans rfl
  have e84 : gI h1 84 c.toNat = iI (zA h 84 c) := by rw [gI_A, a84]
  have e80 : ∀ j, gI h1 80 j = gI (sI (sI (sI h 80 3 (iI (D + 1))) 83 c.toNat (iI D)) 86 D.toNat (iI (-1))) 80 j := fun j => (f1.2 80 j rfl).1
  have e80' : zF h1 80 0 = zF h 80 0 ∧ zF h1 80 1 = zF h 80 1 := ⟨F1.F rfl, F1.F rfl⟩
  refine w_iconst (v := iI (3)) r_49_69 rfl ?_
  refine w_iconst (v := iI (2)) r_49_70 rfl ?_
  refine w_iload2 r_49_71 ?_
  refine v_imul r_49_72 ?_
  refine v_ishl4 (hx := by omega) (he := by omega) r_49_73 ?_
  refine w_istore3 r_49_74 rfl ?_
  refine w_aload0 r_49_75 ?_
  refine w_getA (x := 84) r_49_76 (Lk_80 hL) (Lr_80_8 hL) (by decide) ?_
  refine w_iload1 r_49_79 ?_
  refine w_dup2IA r_49_80 ?_
  refine v_iald r_49_81 (Lk_84 hL) (Lz_84 hL) (by decide) (by omega) e84 ?_
  refine w_iload3 r_49_82 ?_
  refine v_iorD (hx := hS c (by omega) (by omega)) (hd := hD) r_49_83 ?_
  refine v_iast r_49_84 (Lk_84 hL) (Ln_84 hL) (Lz_84 hL) (by decide) (by omega) ?_
  refine w_iconst (v := iI (0)) r_49_85 rfl ?_
  refine w_istore4 r_49_86 rfl ?_
  refine c_addDoubt_B (S := zA h 84) hL hD hw hh hc (fun way a b => by rw [zA_o _ (by decide), a85]; exact hb way a b) hS (fun i a b => ?_) (fun h2 Y f2 w2 => ?_)
  · have := orD_in (hS c (by omega) (by omega)) hD
    rw [zA_s (by omega) a (by omega), a84]
    show _ = if (i == c) = true then _ else _
    by_cases q : i = c
    · rw [if_pos q, if_pos (by simp [q]), q]
    · rw [if_neg q, if_neg (by simp [q])]
  have F2 := (F1.sI 84 c.toNat (iI (orD (zA h 84 c) D)) rfl).trans (f2.mono (fun a j q => by simp [PAdd, pO, pA, pF] at q ⊢; omega))
  have hL := F2.lay hL0
  have b88 : ∀ i, zA h2 87 i = zA h1 87 i := fun i => (f2.A rfl).trans rfl
  have ew : ∀ g : Int, 0 ≤ g → g < 8 → zA h2 87 (D * 8 + g) = if g = zA h 82 c then 1 else 0 := fun g a b => by
    rw [b88, a88 _ (by omega), if_pos (by omega), show D * 8 + g - D * 8 = g by omega]
  have ec : chs (fun g => zA h2 87 (D * 8 + g)) 8 = [zA h 82 c] := by
    rw [chs_congr (u := fun i => if i = zA h 82 c then 1 else 0) (fun i a b => ew i a b)]
    exact chs_one hg
  refine w_aload0 r_49_129 ?_
  refine w_iload2 r_49_130 ?_
  refine k_53 r_49_131 (Lk_80 hL) (Nat.le_of_ble_eq_true rfl) ?_
  refine c_listChoices hL hD (fun g a b => by rw [ew g a b]; split <;> omega) (by rw [ec]; exact Nat.le_of_ble_eq_true rfl) (fun h3 f3 g4 g90 g91 g89 o90 o89 => ?_)
  refine w_iload2 r_49_134 ?_
  refine w_iret r_49_135 ?_
  refine hk h3 ⟨F2.trans (f3.mono (fun a j q => by simp [PAdd, PLis, pO, pA, pF] at q ⊢; omega)), ?_, ?_, ?_, ?_, ?_, ?_, ⟨?_, ?_, ?_⟩, ?_, ?_⟩
  · rw [(f3.2 80 3 rfl).1, (f2.2 80 3 rfl).1]; exact e80 3
  · rw [g4, show zF h2 80 4 = zF h 80 4 by rw [f2.F (a := 80) (j := 4) rfl, zF_o (by omega), f1.F (a := 80) (j := 4) rfl]; rfl]
  · intro i hi; rw [f3.A rfl, f2.A rfl, zA_o _ (by decide)]; exact a83 i hi
  · intro i hi; rw [f3.A rfl, f2.A rfl, zA_o _ (by decide)]; exact a87 i hi
  · intro i hi; rw [f3.A rfl, b88]; exact a88 i hi
  · intro i a b; rw [f3.A rfl]; exact w2 i a b
  · rw [show (fun g => zA h3 87 (D * 8 + g)) = (fun g => zA h2 87 (D * 8 + g)) from funext (fun g => f3.A rfl)]; exact g90
  · rw [show (fun g => zA h3 87 (D * 8 + g)) = (fun g => zA h2 87 (D * 8 + g)) from funext (fun g => f3.A rfl)]; exact g91
  · rw [show (fun g => zA h3 87 (D * 8 + g)) = (fun g => zA h2 87 (D * 8 + g)) from funext (fun g => f3.A rfl)]; exact g89
  · intro i a b
    have := o90 i a b
    rw [this.1, this.2]
    exact ⟨(f2.A rfl).trans (f1.A rfl), (f2.A rfl).trans (f1.A rfl)⟩
  · intro i a b
    rw [o89 i a b]
    exact (f2.A rfl).trans (f1.A rfl)
theorem c_doubt {c : Int} (hx : R32 c) (hL : Lay h) (hD : 0 ≤ zF h 80 3 ∧ zF h 80 3 ≤ 5) (hw : 0 ≤ zF h 80 0 ∧ zF h 80 0 ≤ 10) (hh : 0 ≤ zF h 80 1 ∧ zF h 80 1 ≤ 10) (hp : zF h 80 2 = zF h 80 0 * zF h 80 1) (hb : ∀ c way, 0 ≤ c → c < zF h 80 2 → 0 ≤ way → way < 4 → zA h 85 (c * 4 + way) = bs (zF h 80 0) (zF h 80 1) c way)
    (hS : ∀ i, 0 ≤ i → i < 100 → 0 ≤ zA h 84 i ∧ zA h 84 i < 1024) (hg : ∀ c, 0 ≤ c → c < zF h 80 2 → 0 ≤ zA h 82 c ∧ zA h 82 c < 8)
    (k1 : ¬ (0 ≤ c ∧ c < zF h 80 2) → K (iI (-1)) (sI h 1 18 (iI 1))) (k2 : (0 ≤ c ∧ c < zF h 80 2) → ¬ zA h 83 c = -1 → K (iI (-1)) (sI h 1 18 (iI 5)))
    (k3 : (0 ≤ c ∧ c < zF h 80 2) → zA h 83 c = -1 → zF h 80 3 = 5 → K (iI (-1)) (sI h 1 18 (iI 3)))
    (k4 : (0 ≤ c ∧ c < zF h 80 2) → zA h 83 c = -1 → zF h 80 3 < 5 → ∀ h', Added h h' c (zF h 80 3) → K (iI (zF h 80 3)) (sI h' 1 18 (iI 0))) :
    XW (d + 3) 128 0 [.ref 1, .int (iI c)] [] h (KI K) := by
  have hq := prod_in hw hh
  have hpos : ∀ a b : Int, 0 ≤ a → 0 ≤ b → 0 < a * b → 1 ≤ a ∧ 1 ≤ b := fun a b ha hb q => by
    constructor
    · by_cases e : a = 0
      · rw [e, Int.zero_mul] at q; omega
      · omega
    · by_cases e : b = 0
      · rw [e, Int.mul_zero] at q; omega
      · omega
  have hpos := hpos (zF h 80 0) (zF h 80 1) hw.1 hh.1
  refine w_aload0 r_128_0 ?_
  refine w_getA (x := 80) r_128_1 (Lk_1 hL) (Lr_1_9 hL) (by decide) ?_
  refine w_iload1 r_128_4 ?_
  refine k_47 r_128_5 (Lk_80 hL) (Nat.le_of_ble_eq_true rfl) ?_
  refine c_hasCell (by omega) hL (fun c5 => ?_) (fun c5 => ?_)
  · refine v_if_ne r_128_8 (by first | exact zF_in _ _ _ | exact zA_in _ _ _ | omega) (fun _ => ?_) (fun q => absurd q (by omega))
    refine w_aload0 r_128_17 ?_
    refine w_getA (x := 80) r_128_18 (Lk_1 hL) (Lr_1_9 hL) (by decide) ?_
    refine w_getA (x := 83) r_128_21 (Lk_80 hL) (Lr_80_7 hL) (by decide) ?_
    refine w_iload1 r_128_24 ?_
    refine v_iald r_128_25 (Lk_83 hL) (Lz_83 hL) (by decide) (by omega) (gI_A h 83 _) ?_
    refine w_iconst (v := iI (-1)) r_128_26 rfl ?_
    refine v_ic_eq r_128_27 (by first | exact zF_in _ _ _ | exact zA_in _ _ _ | omega) (by first | exact zF_in _ _ _ | exact zA_in _ _ _ | omega) (fun c27 => ?_) (fun c27 => ?_)
    · refine w_aload0 r_128_36 ?_
      refine w_getA (x := 80) r_128_37 (Lk_1 hL) (Lr_1_9 hL) (by decide) ?_
      refine v_getI r_128_40 (Lk_80 hL) (gI_F h 80 3) ?_
      refine w_iconst (v := iI (5)) r_128_43 rfl ?_
      refine v_ic_lt r_128_44 (by first | exact zF_in _ _ _ | exact zA_in _ _ _ | omega) (by first | exact zF_in _ _ _ | exact zA_in _ _ _ | omega) (fun c44 => ?_) (fun c44 => ?_)
      · refine w_aload0 r_128_53 ?_
        refine w_aload0 r_128_54 ?_
        refine w_getA (x := 80) r_128_55 (Lk_1 hL) (Lr_1_9 hL) (by decide) ?_
        refine w_iload1 r_128_58 ?_
        refine k_49 r_128_59 (Lk_80 hL) (Nat.le_of_ble_eq_true rfl) ?_
        refine c_addDoubt hL rfl (by omega) (by omega) (by omega) (by omega) (fun way a b => hb c way (by omega) (by omega) a b) hS (hg c (by omega) (by omega)) (fun h1 a1 => ?_)
        have hL := a1.1.lay hL
        refine k_156 r_128_62 (Lk_1 hL) (Nat.le_of_ble_eq_true rfl) ?_
        refine c_answer hL ?_
        refine w_iret r_128_65 ?_
        first | exact k1 (by omega) | exact k2 (by omega) (by omega) | exact k3 (by omega) (by omega) (by omega) | exact k4 (by omega) (by omega) (by omega) h1 a1
      · refine w_aload0 r_128_47 ?_
        refine w_iconst (v := iI (3)) r_128_48 rfl ?_
        refine k_157 r_128_49 (Lk_1 hL) (Nat.le_of_ble_eq_true rfl) ?_
        refine c_refuse hL ?_
        refine w_iret r_128_52 ?_
        first | exact k1 (by omega) | exact k2 (by omega) (by omega) | exact k3 (by omega) (by omega) (by omega) | exact k4 (by omega) (by omega) (by omega) h1 a1
    · refine w_aload0 r_128_30 ?_
      refine w_iconst (v := iI (5)) r_128_31 rfl ?_
      refine k_157 r_128_32 (Lk_1 hL) (Nat.le_of_ble_eq_true rfl) ?_
      refine c_refuse hL ?_
      refine w_iret r_128_35 ?_
      first | exact k1 (by omega) | exact k2 (by omega) (by omega) | exact k3 (by omega) (by omega) (by omega) | exact k4 (by omega) (by omega) (by omega) h1 a1
  · refine v_if_ne r_128_8 (by first | exact zF_in _ _ _ | exact zA_in _ _ _ | omega) (fun q => absurd q (by omega)) (fun _ => ?_)
    refine w_aload0 r_128_11 ?_
    refine w_iconst (v := iI (1)) r_128_12 rfl ?_
    refine k_157 r_128_13 (Lk_1 hL) (Nat.le_of_ble_eq_true rfl) ?_
    refine c_refuse hL ?_
    refine w_iret r_128_16 ?_
    first | exact k1 (by omega) | exact k2 (by omega) (by omega) | exact k3 (by omega) (by omega) (by omega) | exact k4 (by omega) (by omega) (by omega) h1 a1
theorem c_maySetWeight {x y z : Int} (hL : Lay h) (hx : 0 ≤ x ∧ x < 5) (hy : 0 ≤ y ∧ y < 8) (hz : 0 ≤ z ∧ z ≤ 9) (hn : 0 ≤ zA h 89 x ∧ zA h 89 x ≤ 3)
    (k1 : (0 < z → zA h 89 x - (if 0 < zA h 87 (x * 8 + y) then 1 else 0) < 3) → (z = 0 → 0 < zA h 89 x - (if 0 < zA h 87 (x * 8 + y) then 1 else 0) ∧ ¬ zA h 86 x = y) → K (iI 1) h)
    (k0 : ¬ ((0 < z → zA h 89 x - (if 0 < zA h 87 (x * 8 + y) then 1 else 0) < 3) ∧ (z = 0 → 0 < zA h 89 x - (if 0 < zA h 87 (x * 8 + y) then 1 else 0) ∧ ¬ zA h 86 x = y)) → K (iI 0) h) :
    XW (d + 1) 51 0 [.ref 80, .int (iI x), .int (iI y), .int (iI z), .null] [] h (KI K) := by
  by_cases q : 0 < zA h 87 (x * 8 + y)
  · rw [if_pos q] at k1 k0
    refine w_aload0 r_51_0 ?_
    refine w_getA (x := 89) r_51_1 (Lk_80 hL) (Lr_80_13 hL) (by decide) ?_
    refine w_iload1 r_51_4 ?_
    refine v_iald r_51_5 (Lk_89 hL) (Lz_89 hL) (by decide) (by omega) (gI_A h 89 _) ?_
    refine w_aload0 r_51_6 ?_
    refine w_iload1 r_51_7 ?_
    refine w_iload2 r_51_8 ?_
    refine k_50 r_51_9 (Lk_80 hL) (Nat.le_of_ble_eq_true rfl) ?_
    refine c_weightOf hL (by omega) ?_
    refine v_if_le r_51_12 (by first | exact zF_in _ _ _ | exact zA_in _ _ _ | omega) (fun q => absurd q (by omega)) (fun _ => ?_)
    refine w_iconst (v := iI (1)) r_51_15 rfl ?_
    refine w_goto r_51_16 ?_
    refine v_isub r_51_20 ?_
    refine w_istore4 r_51_21 rfl ?_
    refine w_iload3 r_51_23 ?_
    refine v_if_le r_51_24 (by first | exact zF_in _ _ _ | exact zA_in _ _ _ | omega) (fun c24 => ?_) (fun c24 => ?_)
    · refine w_iload4 r_51_39 ?_
      refine v_if_le r_51_41 (by first | exact zF_in _ _ _ | exact zA_in _ _ _ | omega) (fun c41 => ?_) (fun c41 => ?_)
      · refine w_iconst (v := iI (0)) r_51_58 rfl ?_
        refine w_zret r_51_59 (by decide) ?_
        first | exact k1 (by omega) (by omega) | exact k0 (by omega)
      · refine w_aload0 r_51_44 ?_
        refine w_getA (x := 86) r_51_45 (Lk_80 hL) (Lr_80_10 hL) (by decide) ?_
        refine w_iload1 r_51_48 ?_
        refine v_iald r_51_49 (Lk_86 hL) (Lz_86 hL) (by decide) (by omega) (gI_A h 86 _) ?_
        refine w_iload2 r_51_50 ?_
        refine v_ic_eq r_51_51 (by first | exact zF_in _ _ _ | exact zA_in _ _ _ | omega) (by first | exact zF_in _ _ _ | exact zA_in _ _ _ | omega) (fun c51 => ?_) (fun c51 => ?_)
        · refine w_iconst (v := iI (0)) r_51_58 rfl ?_
          refine w_zret r_51_59 (by decide) ?_
          first | exact k1 (by omega) (by omega) | exact k0 (by omega)
        · refine w_iconst (v := iI (1)) r_51_54 rfl ?_
          refine w_goto r_51_55 ?_
          refine w_zret r_51_59 (by decide) ?_
          first | exact k1 (by omega) (by omega) | exact k0 (by omega)
    · refine w_iload4 r_51_27 ?_
      refine w_iconst (v := iI (3)) r_51_29 rfl ?_
      refine v_ic_ge r_51_30 (by first | exact zF_in _ _ _ | exact zA_in _ _ _ | omega) (by first | exact zF_in _ _ _ | exact zA_in _ _ _ | omega) (fun c30 => ?_) (fun c30 => ?_)
      · refine w_iconst (v := iI (0)) r_51_37 rfl ?_
        refine w_zret r_51_38 (by decide) ?_
        first | exact k1 (by omega) (by omega) | exact k0 (by omega)
      · refine w_iconst (v := iI (1)) r_51_33 rfl ?_
        refine w_goto r_51_34 ?_
        refine w_zret r_51_38 (by decide) ?_
        first | exact k1 (by omega) (by omega) | exact k0 (by omega)
  · rw [if_neg q] at k1 k0
    refine w_aload0 r_51_0 ?_
    refine w_getA (x := 89) r_51_1 (Lk_80 hL) (Lr_80_13 hL) (by decide) ?_
    refine w_iload1 r_51_4 ?_
    refine v_iald r_51_5 (Lk_89 hL) (Lz_89 hL) (by decide) (by omega) (gI_A h 89 _) ?_
    refine w_aload0 r_51_6 ?_
    refine w_iload1 r_51_7 ?_
    refine w_iload2 r_51_8 ?_
    refine k_50 r_51_9 (Lk_80 hL) (Nat.le_of_ble_eq_true rfl) ?_
    refine c_weightOf hL (by omega) ?_
    refine v_if_le r_51_12 (by first | exact zF_in _ _ _ | exact zA_in _ _ _ | omega) (fun _ => ?_) (fun q => absurd q (by omega))
    refine w_iconst (v := iI (0)) r_51_19 rfl ?_
    refine v_isub r_51_20 ?_
    refine w_istore4 r_51_21 rfl ?_
    refine w_iload3 r_51_23 ?_
    refine v_if_le r_51_24 (by first | exact zF_in _ _ _ | exact zA_in _ _ _ | omega) (fun c24 => ?_) (fun c24 => ?_)
    · refine w_iload4 r_51_39 ?_
      refine v_if_le r_51_41 (by first | exact zF_in _ _ _ | exact zA_in _ _ _ | omega) (fun c41 => ?_) (fun c41 => ?_)
      · refine w_iconst (v := iI (0)) r_51_58 rfl ?_
        refine w_zret r_51_59 (by decide) ?_
        first | exact k1 (by omega) (by omega) | exact k0 (by omega)
      · refine w_aload0 r_51_44 ?_
        refine w_getA (x := 86) r_51_45 (Lk_80 hL) (Lr_80_10 hL) (by decide) ?_
        refine w_iload1 r_51_48 ?_
        refine v_iald r_51_49 (Lk_86 hL) (Lz_86 hL) (by decide) (by omega) (gI_A h 86 _) ?_
        refine w_iload2 r_51_50 ?_
        refine v_ic_eq r_51_51 (by first | exact zF_in _ _ _ | exact zA_in _ _ _ | omega) (by first | exact zF_in _ _ _ | exact zA_in _ _ _ | omega) (fun c51 => ?_) (fun c51 => ?_)
        · refine w_iconst (v := iI (0)) r_51_58 rfl ?_
          refine w_zret r_51_59 (by decide) ?_
          first | exact k1 (by omega) (by omega) | exact k0 (by omega)
        · refine w_iconst (v := iI (1)) r_51_54 rfl ?_
          refine w_goto r_51_55 ?_
          refine w_zret r_51_59 (by decide) ?_
          first | exact k1 (by omega) (by omega) | exact k0 (by omega)
    · refine w_iload4 r_51_27 ?_
      refine w_iconst (v := iI (3)) r_51_29 rfl ?_
      refine v_ic_ge r_51_30 (by first | exact zF_in _ _ _ | exact zA_in _ _ _ | omega) (by first | exact zF_in _ _ _ | exact zA_in _ _ _ | omega) (fun c30 => ?_) (fun c30 => ?_)
      · refine w_iconst (v := iI (0)) r_51_37 rfl ?_
        refine w_zret r_51_38 (by decide) ?_
        first | exact k1 (by omega) (by omega) | exact k0 (by omega)
      · refine w_iconst (v := iI (1)) r_51_33 rfl ?_
        refine w_goto r_51_34 ?_
        refine w_zret r_51_38 (by decide) ?_
        first | exact k1 (by omega) (by omega) | exact k0 (by omega)
theorem c_setWeight {x y z : Int} (hL : Lay h) (hx : 0 ≤ x ∧ x < 5) (hy : 0 ≤ y ∧ y < 8) (hz : 0 ≤ z ∧ z ≤ 9) (hw : ∀ g, 0 ≤ g → g < 8 → 0 ≤ zA h 87 (x * 8 + g) ∧ zA h 87 (x * 8 + g) ≤ 9) (hl : (chs (fun g => if g = y then z else zA h 87 (x * 8 + g)) 8).length ≤ 3)
    (hk : ∀ h', Fr (pO (pA [87, 88, 89, 90]) (pF [(80, 4)])) h h' → gI h' 80 4 = iI (zF h 80 4 + 1) → ChOK h' x → (∀ i : Int, 0 ≤ i → zA h' 87 i = if i = x * 8 + y then z else zA h 87 i) →
      (∀ i : Int, 0 ≤ i → ¬ i = x → zA h' 89 i = zA h 89 i ∧ zA h' 90 i = zA h 90 i) → (∀ i : Int, 0 ≤ i → i < x * 3 ∨ x * 3 + 3 ≤ i → zA h' 88 i = zA h 88 i) → KU h') :
    XW (d + 2) 52 0 [.ref 80, .int (iI x), .int (iI y), .int (iI z)] [] h (KV KU) := by
  have e8 : ∀ i : Int, 0 ≤ i → zA (sI h 87 (x * 8 + y).toNat (iI z)) 87 i = if i = x * 8 + y then z else zA h 87 i := fun i hi => zA_s (by omega) hi (by omega)
  have ew : ∀ g : Int, 0 ≤ g → zA (sI h 87 (x * 8 + y).toNat (iI z)) 87 (x * 8 + g) = if g = y then z else zA h 87 (x * 8 + g) := fun g hg => by
    rw [e8 _ (by omega)]
    by_cases q : g = y
    · rw [if_pos q, if_pos (by omega)]
    · rw [if_neg q, if_neg (by omega)]
  refine w_aload0 r_52_0 ?_
  refine w_getA (x := 87) r_52_1 (Lk_80 hL) (Lr_80_11 hL) (by decide) ?_
  refine w_iload1 r_52_4 ?_
  refine w_bipush (v := iI (8)) r_52_5 rfl ?_
  refine v_imul r_52_7 ?_
  refine w_iload2 r_52_8 ?_
  refine v_iadd r_52_9 ?_
  refine w_iload3 r_52_10 ?_
  refine v_iast r_52_11 (Lk_87 hL) (Ln_87 hL) (Lz_87 hL) (by decide) (by omega) ?_
  refine w_aload0 r_52_12 ?_
  refine w_iload1 r_52_13 ?_
  refine k_53 r_52_14 (Lk_80 hL) (Nat.le_of_ble_eq_true rfl) ?_
  refine c_listChoices hL hx (fun g a b => by rw [ew g a]; split; omega; exact hw g a b) (by rw [chs_congr (fun g a _ => ew g a)]; exact hl) (fun h3 f3 g4 g90 g91 g89 o90 o89 => ?_)
  refine w_vret r_52_17 ?_
  have ef : (fun g => zA h3 87 (x * 8 + g)) = (fun g => zA (sI h 87 (x * 8 + y).toNat (iI z)) 87 (x * 8 + g)) := funext (fun g => f3.A rfl)
  refine hk h3 (((Fr.refl _ _).sI 87 _ _ rfl).trans (f3.mono (fun a j q => by simp [PLis, pO, pA, pF] at q ⊢; omega))) g4 ⟨?_, ?_, ?_⟩ (fun i hi => by rw [f3.A rfl]; exact e8 i hi) o90 o89
  · rw [ef]; exact g90
  · rw [ef]; exact g91
  · rw [ef]; exact g89
theorem c_weigh {x y z : Int} (hx : R32 x) (hy : R32 y) (hz : R32 z) (hL : Lay h) (hB : RB h rb) (hD : zF h 80 3 ≤ 5) (hg : zF h rb 0 ≤ 8) (hw : ∀ x g, 0 ≤ x → x < zF h 80 3 → 0 ≤ g → g < 8 → 0 ≤ zA h 87 (x * 8 + g) ∧ zA h 87 (x * 8 + g) ≤ 9) (hn : ∀ x, 0 ≤ x → x < zF h 80 3 → 0 ≤ zA h 89 x ∧ zA h 89 x ≤ 3)
    (hl : ∀ x y z, 0 ≤ x → x < zF h 80 3 → 0 ≤ y → y < 8 → 0 ≤ z → (0 < z → zA h 89 x - (if 0 < zA h 87 (x * 8 + y) then 1 else 0) < 3) → (chs (fun g => if g = y then z else zA h 87 (x * 8 + g)) 8).length ≤ 3)
    (k1 : ¬ ((0 ≤ x ∧ x < zF h 80 3) ∧ 0 ≤ y ∧ y < zF h rb 0) → K (iI 0) (sI h 1 18 (iI 1))) (k2 : (0 ≤ x ∧ x < zF h 80 3) → (0 ≤ y ∧ y < zF h rb 0) → ¬ (0 ≤ z ∧ z ≤ 9) → K (iI 0) (sI h 1 18 (iI 2)))
    (k3 : (0 ≤ x ∧ x < zF h 80 3) → (0 ≤ y ∧ y < zF h rb 0) → (0 ≤ z ∧ z ≤ 9) → ¬ ((0 < z → zA h 89 x - (if 0 < zA h 87 (x * 8 + y) then 1 else 0) < 3) ∧ (z = 0 → 0 < zA h 89 x - (if 0 < zA h 87 (x * 8 + y) then 1 else 0) ∧ ¬ zA h 86 x = y)) → K (iI 0) (sI h 1 18 (iI 5)))
    (k4 : (0 ≤ x ∧ x < zF h 80 3) → (0 ≤ y ∧ y < zF h rb 0) → (0 ≤ z ∧ z ≤ 9) → (0 < z → zA h 89 x - (if 0 < zA h 87 (x * 8 + y) then 1 else 0) < 3) → (z = 0 → 0 < zA h 89 x - (if 0 < zA h 87 (x * 8 + y) then 1 else 0) ∧ ¬ zA h 86 x = y) →
      ∀ h', Fr (pO (pA [87, 88, 89, 90]) (pF [(80, 4)])) h h' → gI h' 80 4 = iI (zF h 80 4 + 1) → ChOK h' x → (∀ i : Int, 0 ≤ i → zA h' 87 i = if i = x * 8 + y then z else zA h 87 i) →
      (∀ i : Int, 0 ≤ i → ¬ i = x → zA h' 89 i = zA h 89 i ∧ zA h' 90 i = zA h 90 i) → (∀ i : Int, 0 ≤ i → i < x * 3 ∨ x * 3 + 3 ≤ i → zA h' 88 i = zA h 88 i) → K (iI 1) (sI h' 1 18 (iI 0))) :
    XW (d + 3) 129 0 [.ref 1, .int (iI x), .int (iI y), .int (iI z)] [] h (KI K) := by
  have hb := hB.1
  refine w_aload0 r_129_0 ?_
  refine w_getA (x := 80) r_129_1 (Lk_1 hL) (Lr_1_9 hL) (by decide) ?_
  refine w_iload1 r_129_4 ?_
  refine k_48 r_129_5 (Lk_80 hL) (Nat.le_of_ble_eq_true rfl) ?_
  refine c_hasDoubt (by omega) hL (fun c5 => ?_) (fun c5 => ?_)
  · refine v_if_eq r_129_8 (by first | exact zF_in _ _ _ | exact zA_in _ _ _ | omega) (fun q => absurd q (by omega)) (fun _ => ?_)
    refine w_aload0 r_129_11 ?_
    refine w_getA (x := rb) r_129_12 (Lk_1 hL) hB.2.1 (RB.nz hb) ?_
    refine w_iload2 r_129_15 ?_
    refine k_3 r_129_16 (Bk_ hL hb) (Nat.le_of_ble_eq_true rfl) ?_
    refine c_hasGround (by omega) hL hb (fun c16 => ?_) (fun c16 => ?_)
    · refine v_if_ne r_129_19 (by first | exact zF_in _ _ _ | exact zA_in _ _ _ | omega) (fun _ => ?_) (fun q => absurd q (by omega))
      refine w_iload3 r_129_28 ?_
      refine v_if_lt r_129_29 (by first | exact zF_in _ _ _ | exact zA_in _ _ _ | omega) (fun c29 => ?_) (fun c29 => ?_)
      · refine w_aload0 r_129_38 ?_
        refine w_iconst (v := iI (2)) r_129_39 rfl ?_
        refine k_160 r_129_40 (Lk_1 hL) (Nat.le_of_ble_eq_true rfl) ?_
        refine c_deny hL ?_
        refine w_zret r_129_43 (by decide) ?_
        exact k2 (by omega) (by omega) (by omega)
      · refine w_iload3 r_129_32 ?_
        refine w_bipush (v := iI (9)) r_129_33 rfl ?_
        refine v_ic_le r_129_35 (by first | exact zF_in _ _ _ | exact zA_in _ _ _ | omega) (by first | exact zF_in _ _ _ | exact zA_in _ _ _ | omega) (fun c35 => ?_) (fun c35 => ?_)
        · refine w_aload0 r_129_44 ?_
          refine w_getA (x := 80) r_129_45 (Lk_1 hL) (Lr_1_9 hL) (by decide) ?_
          refine w_iload1 r_129_48 ?_
          refine w_iload2 r_129_49 ?_
          refine w_iload3 r_129_50 ?_
          refine k_51 r_129_51 (Lk_80 hL) (Nat.le_of_ble_eq_true rfl) ?_
          refine c_maySetWeight hL (by omega) (by omega) (by omega) (hn x (by omega) (by omega)) (fun p1 p2 => ?_) (fun p1 => ?_)
          · refine v_if_ne r_129_54 (by first | exact zF_in _ _ _ | exact zA_in _ _ _ | omega) (fun _ => ?_) (fun q => absurd q (by omega))
            refine w_aload0 r_129_63 ?_
            refine w_getA (x := 80) r_129_64 (Lk_1 hL) (Lr_1_9 hL) (by decide) ?_
            refine w_iload1 r_129_67 ?_
            refine w_iload2 r_129_68 ?_
            refine w_iload3 r_129_69 ?_
            refine k_52 r_129_70 (Lk_80 hL) (Nat.le_of_ble_eq_true rfl) ?_
            refine c_setWeight hL (by omega) (by omega) (by omega) (fun g a b => hw x g (by omega) (by omega) a b) (hl x y z (by omega) (by omega) (by omega) (by omega) (by omega) p1) (fun h1 f1 g4 cc e8 o90 o89 => ?_)
            have hL := f1.lay hL
            refine w_aload0 r_129_73 ?_
            refine k_159 r_129_74 (Lk_1 hL) (Nat.le_of_ble_eq_true rfl) ?_
            refine c_grant hL ?_
            refine w_zret r_129_77 (by decide) ?_
            exact k4 (by omega) (by omega) (by omega) p1 p2 h1 f1 g4 cc e8 o90 o89
          · refine v_if_ne r_129_54 (by first | exact zF_in _ _ _ | exact zA_in _ _ _ | omega) (fun q => absurd q (by omega)) (fun _ => ?_)
            refine w_aload0 r_129_57 ?_
            refine w_iconst (v := iI (5)) r_129_58 rfl ?_
            refine k_160 r_129_59 (Lk_1 hL) (Nat.le_of_ble_eq_true rfl) ?_
            refine c_deny hL ?_
            refine w_zret r_129_62 (by decide) ?_
            exact k3 (by omega) (by omega) (by omega) p1
        · refine w_aload0 r_129_38 ?_
          refine w_iconst (v := iI (2)) r_129_39 rfl ?_
          refine k_160 r_129_40 (Lk_1 hL) (Nat.le_of_ble_eq_true rfl) ?_
          refine c_deny hL ?_
          refine w_zret r_129_43 (by decide) ?_
          exact k2 (by omega) (by omega) (by omega)
    · refine v_if_ne r_129_19 (by first | exact zF_in _ _ _ | exact zA_in _ _ _ | omega) (fun q => absurd q (by omega)) (fun _ => ?_)
      refine w_aload0 r_129_22 ?_
      refine w_iconst (v := iI (1)) r_129_23 rfl ?_
      refine k_160 r_129_24 (Lk_1 hL) (Nat.le_of_ble_eq_true rfl) ?_
      refine c_deny hL ?_
      refine w_zret r_129_27 (by decide) ?_
      exact k1 (by omega)
  · refine v_if_eq r_129_8 (by first | exact zF_in _ _ _ | exact zA_in _ _ _ | omega) (fun _ => ?_) (fun q => absurd q (by omega))
    refine w_aload0 r_129_22 ?_
    refine w_iconst (v := iI (1)) r_129_23 rfl ?_
    refine k_160 r_129_24 (Lk_1 hL) (Nat.le_of_ble_eq_true rfl) ?_
    refine c_deny hL ?_
    refine w_zret r_129_27 (by decide) ?_
    exact k1 (by omega)
abbrev PDou : Nat → Nat → Bool := pO (pA [135, 136, 137, 138]) (pF [(118, 0), (118, 39), (118, 37), (118, 51)])
/-- the Model's map behind a new doubt D in the cell c -/
def MAdded (h h' : XH) (c D : Int) : Prop := Fr PDou h h' ∧ gI h' 118 0 = iI 0 ∧ gI h' 118 39 = iI 0 ∧ gI h' 118 37 = iI (D + 1) ∧ gI h' 118 51 = iI 0 ∧
  (∀ i, 0 ≤ i → zA h' 135 i = if i = c then D else zA h 135 i) ∧ (∀ i, 0 ≤ i → zA h' 136 i = if i = D then c else zA h 136 i) ∧ (∀ i, 0 ≤ i → zA h' 137 i = if i = D then -1 else zA h 137 i) ∧
  (∀ i, 0 ≤ i → zA h' 138 i = if 8 * D ≤ i ∧ i < 8 * D + 8 then (if i - 8 * D = zA h 134 c then 1 else 0) else zA h 138 i)
theorem m_doubt {c : Int} (hx : R32 c) (hL : Lay h) (hM : MB h)
    (k1 : ¬ (zF h 118 34 = 1 ∧ 0 ≤ c ∧ c < zF h 118 35 * zF h 118 36) → K (iI (-1)) (sI (hG h) 118 39 (iI 1))) (k2 : (zF h 118 34 = 1 ∧ 0 ≤ c ∧ c < zF h 118 35 * zF h 118 36) → ¬ zA h 135 c = -1 → K (iI (-1)) (sI (hG h) 118 39 (iI 5)))
    (k3 : (zF h 118 34 = 1 ∧ 0 ≤ c ∧ c < zF h 118 35 * zF h 118 36) → zA h 135 c = -1 → zF h 118 37 = 5 → K (iI (-1)) (sI (hG h) 118 39 (iI 3)))
    (k4 : (zF h 118 34 = 1 ∧ 0 ≤ c ∧ c < zF h 118 35 * zF h 118 36) → zA h 135 c = -1 → zF h 118 37 < 5 → ∀ h', MAdded h h' c (zF h 118 37) → K (iI (zF h 118 37)) h') :
    XW (d + 2) 201 0 [.ref 118, .int (iI c), .null] [] h (KI K) := by
  obtain ⟨m1, m2, m3, m4, m5, m6⟩ := id hM
  have hp := prod_in m4 m5
  have key : (zF h 118 34 = 1 ∧ 0 ≤ c ∧ c < zF h 118 35 * zF h 118 36) → zA h 135 c = -1 → zF h 118 37 < 5 → ∀ g : Nat, g ≤ 8 → ∀ h1, Fr (pA [138]) (sI (sI (sI (hG h) 135 c.toNat (iI (zF h 118 37))) 136 (zF h 118 37).toNat (iI c)) 137 (zF h 118 37).toNat (iI (-1))) h1 →
      (∀ i, 0 ≤ i → zA h1 138 i = if 8 * zF h 118 37 ≤ i ∧ i < 8 * zF h 118 37 + g then (if i - 8 * zF h 118 37 = zA h 134 c then 1 else 0) else zA h 138 i) → XW (d + 2) 201 80 [.ref 118, .int (iI c), .int (iI g)] [] h1 (KI K) := by
    intro q1 q2 q3
    refine upto _ ?_ ?_
    · intro h1 hf hw
      have hL := hf.lay hL
      have e37 : gI h1 118 37 = iI (zF h 118 37) := by rw [gI_F, hf.F (a := 118) (j := 37) rfl]; rfl
      refine w_iload2 r_201_80 ?_
      refine w_bipush (v := iI (8)) r_201_81 rfl ?_
      refine v_ic_ge r_201_83 (by first | exact zF_in _ _ _ | exact zA_in _ _ _ | omega) (by first | exact zF_in _ _ _ | exact zA_in _ _ _ | omega) (fun _ => ?_) (fun q => absurd q (by omega))
      refine w_aload0 r_201_121 ?_
      refine w_dupA r_201_122 ?_
      refine v_getI r_201_123 (Lk_118 hL) e37 ?_
      refine w_iconst (v := iI (1)) r_201_126 rfl ?_
      refine v_iadd r_201_127 ?_
      refine w_putI r_201_128 (Lk_118 hL) (Ln_118 hL) ?_
      skip
      have F0 : Fr PDou h (sI (sI (sI (hG h) 135 c.toNat (iI (zF h 118 37))) 136 (zF h 118 37).toNat (iI c)) 137 (zF h 118 37).toNat (iI (-1))) := (((((Fr.refl _ _).sI 118 0 _ rfl).sI 118 39 _ rfl).sI 135 _ _ rfl).sI 136 _ _ rfl).sI 137 _ _ rfl
      have F1 := ((F0.trans (hf.mono (fun a j q => by simp [PDou, pO, pA, pF] at q ⊢; omega))).sI 118 37 (iI (zF h 118 37 + 1)) rfl).sI 118 51 (iI 0) rfl
      refine w_aload0 r_201_131 ?_
      refine w_iconst (v := iI (0)) r_201_132 rfl ?_
      refine w_putZ r_201_133 (Lk_118 hL) (Ln_118 hL) (by decide) ?_
      refine w_aload0 r_201_136 ?_
      refine v_getI r_201_137 (Lk_118 hL) rfl ?_
      refine w_iconst (v := iI (1)) r_201_140 rfl ?_
      refine v_isub r_201_141 ?_
      refine w_iret r_201_142 ?_
      rw [show zF h 118 37 + 1 - 1 = zF h 118 37 by omega]
      refine k4 q1 q2 q3 _ ⟨F1, ?_, ?_, rfl, rfl, ?_, ?_, ?_, ?_⟩
      · exact (hf.2 118 0 rfl).1
      · exact (hf.2 118 39 rfl).1
      · intro i hi
        rw [zA_o _ (by decide), zA_o _ (by decide), hf.A rfl, zA_o _ (by decide), zA_o _ (by decide), zA_s (by omega) hi (by omega), zA_o _ (by decide), zA_o _ (by decide)]
      · intro i hi
        rw [zA_o _ (by decide), zA_o _ (by decide), hf.A rfl, zA_o _ (by decide), zA_s (by omega) hi (by omega), zA_o _ (by decide), zA_o _ (by decide), zA_o _ (by decide)]
      · intro i hi
        rw [zA_o _ (by decide), zA_o _ (by decide), hf.A rfl, zA_s (by omega) hi (by omega), zA_o _ (by decide), zA_o _ (by decide), zA_o _ (by decide), zA_o _ (by decide)]
      · intro i hi
        rw [zA_o _ (by decide), zA_o _ (by decide)]; exact hw i hi
    · intro g hg ih h1 hf hw
      have hL := hf.lay hL
      have e37 : gI h1 118 37 = iI (zF h 118 37) := by rw [gI_F, hf.F (a := 118) (j := 37) rfl]; rfl
      have e : gI h1 134 c.toNat = iI (zA h 134 c) := by rw [gI_A, hf.A rfl]; rfl
      refine w_iload2 r_201_80 ?_
      refine w_bipush (v := iI (8)) r_201_81 rfl ?_
      refine v_ic_ge r_201_83 (by first | exact zF_in _ _ _ | exact zA_in _ _ _ | omega) (by first | exact zF_in _ _ _ | exact zA_in _ _ _ | omega) (fun q => absurd q (by omega)) (fun _ => ?_)
      refine w_aload0 r_201_86 ?_
      refine w_getA (x := 138) r_201_87 (Lk_118 hL) (Lr_118_46 hL) (by decide) ?_
      refine w_bipush (v := iI (8)) r_201_90 rfl ?_
      refine w_aload0 r_201_92 ?_
      refine v_getI r_201_93 (Lk_118 hL) e37 ?_
      refine v_imul r_201_96 ?_
      refine w_iload2 r_201_97 ?_
      refine v_iadd r_201_98 ?_
      refine w_iload2 r_201_99 ?_
      refine w_aload0 r_201_100 ?_
      refine w_getA (x := 134) r_201_101 (Lk_118 hL) (Lr_118_42 hL) (by decide) ?_
      refine w_iload1 r_201_104 ?_
      refine v_iald r_201_105 (Lk_134 hL) (Lz_134 hL) (by decide) (by omega) e ?_
      refine v_ic_ne r_201_106 (by first | exact zF_in _ _ _ | exact zA_in _ _ _ | omega) (by first | exact zF_in _ _ _ | exact zA_in _ _ _ | omega) (fun c106 => ?_) (fun c106 => ?_)
      · refine w_iconst (v := iI (0)) r_201_113 rfl ?_
        refine v_iast r_201_114 (Lk_138 hL) (Ln_138 hL) (Lz_138 hL) (by decide) (by omega) ?_
        refine w_iinc2 r_201_115 rfl (iI_add _ _) ?_
        refine w_goto r_201_118 ?_
        refine ih _ (hf.sI 138 _ _ rfl) (fun i hi => ?_)
        rw [zA_s (by omega) (by omega) (by omega), hw i hi]
        by_cases q : i = 8 * zF h 118 37 + g
        · rw [if_pos q, if_pos (show 8 * zF h 118 37 ≤ i ∧ i < 8 * zF h 118 37 + ((g + 1 : Nat) : Int) by omega)]; first | rw [if_pos (by omega)] | rw [if_neg (by omega)]
        · rw [if_neg q]; by_cases q2 : 8 * zF h 118 37 ≤ i ∧ i < 8 * zF h 118 37 + g
          · rw [if_pos q2, if_pos (show 8 * zF h 118 37 ≤ i ∧ i < 8 * zF h 118 37 + ((g + 1 : Nat) : Int) by omega)]
          · rw [if_neg q2, if_neg (show ¬ (8 * zF h 118 37 ≤ i ∧ i < 8 * zF h 118 37 + ((g + 1 : Nat) : Int)) by omega)]
      · refine w_iconst (v := iI (1)) r_201_109 rfl ?_
        refine w_goto r_201_110 ?_
        refine v_iast r_201_114 (Lk_138 hL) (Ln_138 hL) (Lz_138 hL) (by decide) (by omega) ?_
        refine w_iinc2 r_201_115 rfl (iI_add _ _) ?_
        refine w_goto r_201_118 ?_
        refine ih _ (hf.sI 138 _ _ rfl) (fun i hi => ?_)
        rw [zA_s (by omega) (by omega) (by omega), hw i hi]
        by_cases q : i = 8 * zF h 118 37 + g
        · rw [if_pos q, if_pos (show 8 * zF h 118 37 ≤ i ∧ i < 8 * zF h 118 37 + ((g + 1 : Nat) : Int) by omega)]; first | rw [if_pos (by omega)] | rw [if_neg (by omega)]
        · rw [if_neg q]; by_cases q2 : 8 * zF h 118 37 ≤ i ∧ i < 8 * zF h 118 37 + g
          · rw [if_pos q2, if_pos (show 8 * zF h 118 37 ≤ i ∧ i < 8 * zF h 118 37 + ((g + 1 : Nat) : Int) by omega)]
          · rw [if_neg q2, if_neg (show ¬ (8 * zF h 118 37 ≤ i ∧ i < 8 * zF h 118 37 + ((g + 1 : Nat) : Int)) by omega)]
  refine w_aload0 r_201_0 ?_
  refine k_164 r_201_1 (Lk_118 hL) (Nat.le_of_ble_eq_true rfl) ?_
  refine m_good hL ?_
  refine w_aload0 r_201_4 ?_
  refine w_iload1 r_201_5 ?_
  refine k_197 r_201_6 (Lk_118 hL) (Nat.le_of_ble_eq_true rfl) ?_
  refine m_isCell (h0 := h) (by first | exact zF_in _ _ _ | exact zA_in _ _ _ | omega) hL ⟨rfl, rfl, rfl, rfl, rfl, rfl⟩ hM (fun c6 => ?_) (fun c6 => ?_)
  · refine v_if_ne r_201_9 (by first | exact zF_in _ _ _ | exact zA_in _ _ _ | omega) (fun _ => ?_) (fun q => absurd q (by omega))
    refine w_aload0 r_201_18 ?_
    refine w_getA (x := 135) r_201_19 (Lk_118 hL) (Lr_118_43 hL) (by decide) ?_
    refine w_iload1 r_201_22 ?_
    refine v_iald r_201_23 (Lk_135 hL) (Lz_135 hL) (by decide) (by omega) (gI_A h 135 _) ?_
    refine w_iconst (v := iI (-1)) r_201_24 rfl ?_
    refine v_ic_eq r_201_25 (by first | exact zF_in _ _ _ | exact zA_in _ _ _ | omega) (by first | exact zF_in _ _ _ | exact zA_in _ _ _ | omega) (fun c25 => ?_) (fun c25 => ?_)
    · refine w_aload0 r_201_34 ?_
      refine v_getI r_201_35 (Lk_118 hL) (gI_F h 118 37) ?_
      refine w_iconst (v := iI (5)) r_201_38 rfl ?_
      refine v_ic_ne r_201_39 (by first | exact zF_in _ _ _ | exact zA_in _ _ _ | omega) (by first | exact zF_in _ _ _ | exact zA_in _ _ _ | omega) (fun c39 => ?_) (fun c39 => ?_)
      · refine w_aload0 r_201_48 ?_
        refine w_getA (x := 135) r_201_49 (Lk_118 hL) (Lr_118_43 hL) (by decide) ?_
        refine w_iload1 r_201_52 ?_
        refine w_aload0 r_201_53 ?_
        refine v_getI r_201_54 (Lk_118 hL) (gI_F h 118 37) ?_
        refine v_iast r_201_57 (Lk_135 hL) (Ln_135 hL) (Lz_135 hL) (by decide) (by omega) ?_
        refine w_aload0 r_201_58 ?_
        refine w_getA (x := 136) r_201_59 (Lk_118 hL) (Lr_118_44 hL) (by decide) ?_
        refine w_aload0 r_201_62 ?_
        refine v_getI r_201_63 (Lk_118 hL) (gI_F h 118 37) ?_
        refine w_iload1 r_201_66 ?_
        refine v_iast r_201_67 (Lk_136 hL) (Ln_136 hL) (Lz_136 hL) (by decide) (by omega) ?_
        refine w_aload0 r_201_68 ?_
        refine w_getA (x := 137) r_201_69 (Lk_118 hL) (Lr_118_45 hL) (by decide) ?_
        refine w_aload0 r_201_72 ?_
        refine v_getI r_201_73 (Lk_118 hL) (gI_F h 118 37) ?_
        refine w_iconst (v := iI (-1)) r_201_76 rfl ?_
        refine v_iast r_201_77 (Lk_137 hL) (Ln_137 hL) (Lz_137 hL) (by decide) (by omega) ?_
        refine w_iconst (v := iI (0)) r_201_78 rfl ?_
        refine w_istore2 r_201_79 rfl ?_
        exact key (by omega) (by omega) (by omega) 0 (by omega) _ (Fr.refl _ _) (fun i hi => by rw [if_neg (by omega), zA_o _ (by decide), zA_o _ (by decide), zA_o _ (by decide), zA_o _ (by decide), zA_o _ (by decide)])
      · refine w_aload0 r_201_42 ?_
        refine w_iconst (v := iI (3)) r_201_43 rfl ?_
        refine k_165 r_201_44 (Lk_118 hL) (Nat.le_of_ble_eq_true rfl) ?_
        refine m_no hL ?_
        refine w_iret r_201_47 ?_
        first | exact k1 (by omega) | exact k2 (by omega) (by omega) | exact k3 (by omega) (by omega) (by omega)
    · refine w_aload0 r_201_28 ?_
      refine w_iconst (v := iI (5)) r_201_29 rfl ?_
      refine k_165 r_201_30 (Lk_118 hL) (Nat.le_of_ble_eq_true rfl) ?_
      refine m_no hL ?_
      refine w_iret r_201_33 ?_
      first | exact k1 (by omega) | exact k2 (by omega) (by omega) | exact k3 (by omega) (by omega) (by omega)
  · refine v_if_ne r_201_9 (by first | exact zF_in _ _ _ | exact zA_in _ _ _ | omega) (fun q => absurd q (by omega)) (fun _ => ?_)
    refine w_aload0 r_201_12 ?_
    refine w_iconst (v := iI (1)) r_201_13 rfl ?_
    refine k_165 r_201_14 (Lk_118 hL) (Nat.le_of_ble_eq_true rfl) ?_
    refine m_no hL ?_
    refine w_iret r_201_17 ?_
    first | exact k1 (by omega) | exact k2 (by omega) (by omega) | exact k3 (by omega) (by omega) (by omega)
/-- how many of the others may be -/
def othr (w : Int → Int) (y : Int) (n : Nat) : Int := sumTo (fun k => if ¬ k = y ∧ 0 < w k then 1 else 0) n
theorem m_weigh {x y z : Int} (hx : R32 x) (hy : R32 y) (hz : R32 z) (hL : Lay h) (hM : MB h)
    (k1 : ¬ ((zF h 118 34 = 1 ∧ 0 ≤ x ∧ x < zF h 118 37) ∧ zF h 118 12 = 1 ∧ 0 ≤ y ∧ y < zF h 118 22) → K (iI 0) (sI (hG h) 118 39 (iI 1)))
    (k2 : (zF h 118 34 = 1 ∧ 0 ≤ x ∧ x < zF h 118 37) → (zF h 118 12 = 1 ∧ 0 ≤ y ∧ y < zF h 118 22) → ¬ (0 ≤ z ∧ z ≤ 9) → K (iI 0) (sI (hG h) 118 39 (iI 2)))
    (k3 : (zF h 118 34 = 1 ∧ 0 ≤ x ∧ x < zF h 118 37) → (zF h 118 12 = 1 ∧ 0 ≤ y ∧ y < zF h 118 22) → (0 ≤ z ∧ z ≤ 9) → ((if 0 < z then 1 else 0) + othr (fun k => zA h 138 (8 * x + k)) y 8 < 1 ∨ 3 < (if 0 < z then 1 else 0) + othr (fun k => zA h 138 (8 * x + k)) y 8 ∨ (z = 0 ∧ zA h 137 x = y)) → K (iI 0) (sI (hG h) 118 39 (iI 5)))
    (k4 : (zF h 118 34 = 1 ∧ 0 ≤ x ∧ x < zF h 118 37) → (zF h 118 12 = 1 ∧ 0 ≤ y ∧ y < zF h 118 22) → (0 ≤ z ∧ z ≤ 9) → ¬ ((if 0 < z then 1 else 0) + othr (fun k => zA h 138 (8 * x + k)) y 8 < 1 ∨ 3 < (if 0 < z then 1 else 0) + othr (fun k => zA h 138 (8 * x + k)) y 8 ∨ (z = 0 ∧ zA h 137 x = y)) → K (iI 1) (sI (sI (hG h) 138 (8 * x + y).toNat (iI z)) 118 51 (iI 0))) :
    XW (d + 2) 202 0 [.ref 118, .int (iI x), .int (iI y), .int (iI z), .null, .null] [] h (KI K) := by
  obtain ⟨m1, m2, m3, m4, m5, m6⟩ := id hM
  have key : ∀ b : Int, b = (if 0 < z then 1 else 0) → (zF h 118 34 = 1 ∧ 0 ≤ x ∧ x < zF h 118 37) → (zF h 118 12 = 1 ∧ 0 ≤ y ∧ y < zF h 118 22) → (0 ≤ z ∧ z ≤ 9) → ∀ g : Nat, g ≤ 8 → XW (d + 2) 202 56 [.ref 118, .int (iI x), .int (iI y), .int (iI z), .int (iI (b + othr (fun k => zA h 138 (8 * x + k)) y g)), .int (iI g)] [] (hG h) (KI K) := by
    intro b eb q1 q2 q3
    rw [← eb] at k3 k4
    have hb01 : 0 ≤ b ∧ b ≤ 1 := by rw [eb]; split <;> omega
    have hs : ∀ n : Nat, 0 ≤ othr (fun k => zA h 138 (8 * x + k)) y n ∧ othr (fun k => zA h 138 (8 * x + k)) y n ≤ 1 * n := fun n => sumTo_in (fun i _ _ => by dsimp only; split <;> omega)
    refine upto _ ?_ ?_
    · have h8 := hs 8
      refine w_iload5 r_202_56 ?_
      refine w_bipush (v := iI (8)) r_202_58 rfl ?_
      refine v_ic_ge r_202_60 (by first | exact zF_in _ _ _ | exact zA_in _ _ _ | omega) (by first | exact zF_in _ _ _ | exact zA_in _ _ _ | omega) (fun _ => ?_) (fun q => absurd q (by omega))
      refine w_iload4 r_202_100 ?_
      refine w_iconst (v := iI (1)) r_202_102 rfl ?_
      refine v_ic_lt r_202_103 (by first | exact zF_in _ _ _ | exact zA_in _ _ _ | omega) (by first | exact zF_in _ _ _ | exact zA_in _ _ _ | omega) (fun c103 => ?_) (fun c103 => ?_)
      · refine w_aload0 r_202_126 ?_
        refine w_iconst (v := iI (5)) r_202_127 rfl ?_
        refine k_166 r_202_128 (Lk_118 hL) (Nat.le_of_ble_eq_true rfl) ?_
        refine m_not hL ?_
        refine w_zret r_202_131 (by decide) ?_
        first | exact k4 q1 q2 q3 (by omega) | exact k3 q1 q2 q3 (by omega)
      · refine w_iload4 r_202_106 ?_
        refine w_iconst (v := iI (3)) r_202_108 rfl ?_
        refine v_ic_gt r_202_109 (by first | exact zF_in _ _ _ | exact zA_in _ _ _ | omega) (by first | exact zF_in _ _ _ | exact zA_in _ _ _ | omega) (fun c109 => ?_) (fun c109 => ?_)
        · refine w_aload0 r_202_126 ?_
          refine w_iconst (v := iI (5)) r_202_127 rfl ?_
          refine k_166 r_202_128 (Lk_118 hL) (Nat.le_of_ble_eq_true rfl) ?_
          refine m_not hL ?_
          refine w_zret r_202_131 (by decide) ?_
          first | exact k4 q1 q2 q3 (by omega) | exact k3 q1 q2 q3 (by omega)
        · refine w_iload3 r_202_112 ?_
          refine v_if_ne r_202_113 (by first | exact zF_in _ _ _ | exact zA_in _ _ _ | omega) (fun c113 => ?_) (fun c113 => ?_)
          · refine w_aload0 r_202_132 ?_
            refine w_getA (x := 138) r_202_133 (Lk_118 hL) (Lr_118_46 hL) (by decide) ?_
            refine w_bipush (v := iI (8)) r_202_136 rfl ?_
            refine w_iload1 r_202_138 ?_
            refine v_imul r_202_139 ?_
            refine w_iload2 r_202_140 ?_
            refine v_iadd r_202_141 ?_
            refine w_iload3 r_202_142 ?_
            refine v_iast r_202_143 (Lk_138 hL) (Ln_138 hL) (Lz_138 hL) (by decide) (by omega) ?_
            refine w_aload0 r_202_144 ?_
            refine w_iconst (v := iI (0)) r_202_145 rfl ?_
            refine w_putZ r_202_146 (Lk_118 hL) (Ln_118 hL) (by decide) ?_
            refine w_iconst (v := iI (1)) r_202_149 rfl ?_
            refine w_zret r_202_150 (by decide) ?_
            first | exact k4 q1 q2 q3 (by omega) | exact k3 q1 q2 q3 (by omega)
          · refine w_aload0 r_202_116 ?_
            refine w_getA (x := 137) r_202_117 (Lk_118 hL) (Lr_118_45 hL) (by decide) ?_
            refine w_iload1 r_202_120 ?_
            refine v_iald r_202_121 (Lk_137 hL) (Lz_137 hL) (by decide) (by omega) (gI_A h 137 _) ?_
            refine w_iload2 r_202_122 ?_
            refine v_ic_ne r_202_123 (by first | exact zF_in _ _ _ | exact zA_in _ _ _ | omega) (by first | exact zF_in _ _ _ | exact zA_in _ _ _ | omega) (fun c123 => ?_) (fun c123 => ?_)
            · refine w_aload0 r_202_132 ?_
              refine w_getA (x := 138) r_202_133 (Lk_118 hL) (Lr_118_46 hL) (by decide) ?_
              refine w_bipush (v := iI (8)) r_202_136 rfl ?_
              refine w_iload1 r_202_138 ?_
              refine v_imul r_202_139 ?_
              refine w_iload2 r_202_140 ?_
              refine v_iadd r_202_141 ?_
              refine w_iload3 r_202_142 ?_
              refine v_iast r_202_143 (Lk_138 hL) (Ln_138 hL) (Lz_138 hL) (by decide) (by omega) ?_
              refine w_aload0 r_202_144 ?_
              refine w_iconst (v := iI (0)) r_202_145 rfl ?_
              refine w_putZ r_202_146 (Lk_118 hL) (Ln_118 hL) (by decide) ?_
              refine w_iconst (v := iI (1)) r_202_149 rfl ?_
              refine w_zret r_202_150 (by decide) ?_
              first | exact k4 q1 q2 q3 (by omega) | exact k3 q1 q2 q3 (by omega)
            · refine w_aload0 r_202_126 ?_
              refine w_iconst (v := iI (5)) r_202_127 rfl ?_
              refine k_166 r_202_128 (Lk_118 hL) (Nat.le_of_ble_eq_true rfl) ?_
              refine m_not hL ?_
              refine w_zret r_202_131 (by decide) ?_
              first | exact k4 q1 q2 q3 (by omega) | exact k3 q1 q2 q3 (by omega)
    · intro g hg ih
      have hsg := hs g
      have e1 : othr (fun k => zA h 138 (8 * x + k)) y (g + 1) = othr (fun k => zA h 138 (8 * x + k)) y g + (if ¬ (g : Int) = y ∧ 0 < zA h 138 (8 * x + g) then 1 else 0) := rfl
      refine w_iload5 r_202_56 ?_
      refine w_bipush (v := iI (8)) r_202_58 rfl ?_
      refine v_ic_ge r_202_60 (by first | exact zF_in _ _ _ | exact zA_in _ _ _ | omega) (by first | exact zF_in _ _ _ | exact zA_in _ _ _ | omega) (fun q => absurd q (by omega)) (fun _ => ?_)
      refine w_iload4 r_202_63 ?_
      refine w_iload5 r_202_65 ?_
      refine w_iload2 r_202_67 ?_
      refine v_ic_eq r_202_68 (by first | exact zF_in _ _ _ | exact zA_in _ _ _ | omega) (by first | exact zF_in _ _ _ | exact zA_in _ _ _ | omega) (fun c68 => ?_) (fun c68 => ?_)
      · refine w_iconst (v := iI (0)) r_202_90 rfl ?_
        refine v_iadd r_202_91 ?_
        refine w_istore4 r_202_92 rfl ?_
        refine w_iinc5 r_202_94 rfl (iI_add _ _) ?_
        refine w_goto r_202_97 ?_
        first | (rw [e1, if_pos (by omega), ← Int.add_assoc] at ih; exact ih) | (rw [e1, if_neg (by omega), ← Int.add_assoc] at ih; exact ih)
      · refine w_aload0 r_202_71 ?_
        refine w_getA (x := 138) r_202_72 (Lk_118 hL) (Lr_118_46 hL) (by decide) ?_
        refine w_bipush (v := iI (8)) r_202_75 rfl ?_
        refine w_iload1 r_202_77 ?_
        refine v_imul r_202_78 ?_
        refine w_iload5 r_202_79 ?_
        refine v_iadd r_202_81 ?_
        refine v_iald r_202_82 (Lk_138 hL) (Lz_138 hL) (by decide) (by omega) (gI_A h 138 _) ?_
        refine v_if_le r_202_83 (by first | exact zF_in _ _ _ | exact zA_in _ _ _ | omega) (fun c83 => ?_) (fun c83 => ?_)
        · refine w_iconst (v := iI (0)) r_202_90 rfl ?_
          refine v_iadd r_202_91 ?_
          refine w_istore4 r_202_92 rfl ?_
          refine w_iinc5 r_202_94 rfl (iI_add _ _) ?_
          refine w_goto r_202_97 ?_
          first | (rw [e1, if_pos (by omega), ← Int.add_assoc] at ih; exact ih) | (rw [e1, if_neg (by omega), ← Int.add_assoc] at ih; exact ih)
        · refine w_iconst (v := iI (1)) r_202_86 rfl ?_
          refine w_goto r_202_87 ?_
          refine v_iadd r_202_91 ?_
          refine w_istore4 r_202_92 rfl ?_
          refine w_iinc5 r_202_94 rfl (iI_add _ _) ?_
          refine w_goto r_202_97 ?_
          first | (rw [e1, if_pos (by omega), ← Int.add_assoc] at ih; exact ih) | (rw [e1, if_neg (by omega), ← Int.add_assoc] at ih; exact ih)
  refine w_aload0 r_202_0 ?_
  refine k_164 r_202_1 (Lk_118 hL) (Nat.le_of_ble_eq_true rfl) ?_
  refine m_good hL ?_
  refine w_aload0 r_202_4 ?_
  refine w_iload1 r_202_5 ?_
  refine k_198 r_202_6 (Lk_118 hL) (Nat.le_of_ble_eq_true rfl) ?_
  refine m_isDoubt (h0 := h) (by first | exact zF_in _ _ _ | exact zA_in _ _ _ | omega) hL ⟨rfl, rfl, rfl, rfl, rfl, rfl⟩ hM (fun c6 => ?_) (fun c6 => ?_)
  · refine v_if_eq r_202_9 (by first | exact zF_in _ _ _ | exact zA_in _ _ _ | omega) (fun q => absurd q (by omega)) (fun _ => ?_)
    refine w_aload0 r_202_12 ?_
    refine w_iload2 r_202_13 ?_
    refine k_192 r_202_14 (Lk_118 hL) (Nat.le_of_ble_eq_true rfl) ?_
    refine m_isGround (h0 := h) (by first | exact zF_in _ _ _ | exact zA_in _ _ _ | omega) hL ⟨rfl, rfl, rfl, rfl, rfl, rfl⟩ hM (fun c14 => ?_) (fun c14 => ?_)
    · refine v_if_ne r_202_17 (by first | exact zF_in _ _ _ | exact zA_in _ _ _ | omega) (fun _ => ?_) (fun q => absurd q (by omega))
      refine w_iload3 r_202_26 ?_
      refine w_iconst (v := iI (0)) r_202_27 rfl ?_
      refine w_bipush (v := iI (9)) r_202_28 rfl ?_
      refine k_167 r_202_30 (Nat.le_of_ble_eq_true rfl) ?_
      refine m_within (by first | exact zF_in _ _ _ | exact zA_in _ _ _ | omega) (by first | exact zF_in _ _ _ | exact zA_in _ _ _ | omega) (by first | exact zF_in _ _ _ | exact zA_in _ _ _ | omega) (fun c30 => ?_) (fun c30 => ?_)
      · refine v_if_ne r_202_33 (by first | exact zF_in _ _ _ | exact zA_in _ _ _ | omega) (fun _ => ?_) (fun q => absurd q (by omega))
        refine w_iload3 r_202_42 ?_
        refine v_if_le r_202_43 (by first | exact zF_in _ _ _ | exact zA_in _ _ _ | omega) (fun c43 => ?_) (fun c43 => ?_)
        · refine w_iconst (v := iI (0)) r_202_50 rfl ?_
          refine w_istore4 r_202_51 rfl ?_
          refine w_iconst (v := iI (0)) r_202_53 rfl ?_
          refine w_istore5 r_202_54 rfl ?_
          first | exact key 1 (by rw [if_pos (by omega)]) (by omega) (by omega) (by omega) 0 (by omega) | exact key 0 (by rw [if_neg (by omega)]) (by omega) (by omega) (by omega) 0 (by omega)
        · refine w_iconst (v := iI (1)) r_202_46 rfl ?_
          refine w_goto r_202_47 ?_
          refine w_istore4 r_202_51 rfl ?_
          refine w_iconst (v := iI (0)) r_202_53 rfl ?_
          refine w_istore5 r_202_54 rfl ?_
          first | exact key 1 (by rw [if_pos (by omega)]) (by omega) (by omega) (by omega) 0 (by omega) | exact key 0 (by rw [if_neg (by omega)]) (by omega) (by omega) (by omega) 0 (by omega)
      · refine v_if_ne r_202_33 (by first | exact zF_in _ _ _ | exact zA_in _ _ _ | omega) (fun q => absurd q (by omega)) (fun _ => ?_)
        refine w_aload0 r_202_36 ?_
        refine w_iconst (v := iI (2)) r_202_37 rfl ?_
        refine k_166 r_202_38 (Lk_118 hL) (Nat.le_of_ble_eq_true rfl) ?_
        refine m_not hL ?_
        refine w_zret r_202_41 (by decide) ?_
        first | exact k1 (by omega) | exact k2 (by omega) (by omega) (by omega)
    · refine v_if_ne r_202_17 (by first | exact zF_in _ _ _ | exact zA_in _ _ _ | omega) (fun q => absurd q (by omega)) (fun _ => ?_)
      refine w_aload0 r_202_20 ?_
      refine w_iconst (v := iI (1)) r_202_21 rfl ?_
      refine k_166 r_202_22 (Lk_118 hL) (Nat.le_of_ble_eq_true rfl) ?_
      refine m_not hL ?_
      refine w_zret r_202_25 (by decide) ?_
      first | exact k1 (by omega) | exact k2 (by omega) (by omega) (by omega)
  · refine v_if_eq r_202_9 (by first | exact zF_in _ _ _ | exact zA_in _ _ _ | omega) (fun _ => ?_) (fun q => absurd q (by omega))
    refine w_aload0 r_202_20 ?_
    refine w_iconst (v := iI (1)) r_202_21 rfl ?_
    refine k_166 r_202_22 (Lk_118 hL) (Nat.le_of_ble_eq_true rfl) ?_
    refine m_not hL ?_
    refine w_zret r_202_25 (by decide) ?_
    first | exact k1 (by omega) | exact k2 (by omega) (by omega) (by omega)
end D3
