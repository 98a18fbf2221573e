/-! a map is laid -/
theorem zA_of {h : XH} {a : Nat} {i v : Int} (e : gI h a i.toNat = iI v) (hv : R32 v) : zA h a i = v := by unfold zA; rw [e, iI_t hv]
theorem zF_of {h : XH} {a j : Nat} {v : Int} (e : gI h a j = iI v) (hv : R32 v) : zF h a j = v := by unfold zF; rw [e, iI_t hv]
section LY
variable {d : Nat} {h : XH} {K : Int32 → XH → Prop} {KU : XH → Prop} {rb : Nat}
theorem c_lay_l {w v : Int} {X : Value} (hw : 1 ≤ w ∧ w ≤ 10) (hv : 1 ≤ v ∧ v ≤ 10) (hL : Lay h) (e0 : zF h 80 0 = w) (e1 : zF h 80 1 = v)
    (hk : ∀ h', Fr (pA [85]) h h' → (∀ c way : Int, 0 ≤ c → c < v * w → 0 ≤ way → way < 4 → zA h' 85 (c * 4 + way) = bs w v c way) → KU h') :
    XW (d + 1) 45 66 [.ref 80, .int (iI w), .int (iI v), .int (iI 0), X] [] h (KV KU) := by
  have key : ∀ y : Nat, y ≤ v.toNat → ∀ h1 X, Fr (pA [85]) h h1 → (∀ c way : Int, 0 ≤ c → c < y * w → 0 ≤ way → way < 4 → zA h1 85 (c * 4 + way) = bs w v c way) → XW (d + 1) 45 66 [.ref 80, .int (iI w), .int (iI v), .int (iI y), X] [] h1 (KV KU) := by
    refine upto _ ?_ ?_
    · intro h1 X hf hc
      have hL := hf.lay hL
      have f1 : gI h1 80 1 = iI v := by rw [gI_F, hf.F rfl, e1]
      refine w_iload3 r_45_66 ?_
      refine w_aload0 r_45_67 ?_
      refine v_getI r_45_68 (Lk_80 hL) f1 ?_
      refine v_ic_ge r_45_71 (by first | exact zF_in _ _ _ | exact zA_in _ _ _ | omega) (by first | exact zF_in _ _ _ | exact zA_in _ _ _ | omega) (fun _ => ?_) (fun q => absurd q (by omega))
      refine w_vret r_45_105 ?_
      exact hk h1 hf (fun c way a b => hc c way a (by rw [show ((v.toNat : Nat) : Int) = v by omega]; exact b))
    · intro y hy ih h1 X hf hc
      have hL0 := hL
      have hL := hf.lay hL
      have f0 : gI h1 80 0 = iI w := by rw [gI_F, hf.F rfl, e0]
      have f1 : gI h1 80 1 = iI v := by rw [gI_F, hf.F rfl, e1]
      have key2 : ∀ x : Nat, x ≤ w.toNat → ∀ h1, Fr (pA [85]) h h1 → (∀ c way : Int, 0 ≤ c → c < y * w + x → 0 ≤ way → way < 4 → zA h1 85 (c * 4 + way) = bs w v c way) → XW (d + 1) 45 77 [.ref 80, .int (iI w), .int (iI v), .int (iI y), .int (iI x)] [] h1 (KV KU) := by
        refine upto _ ?_ ?_
        · intro h1 hf hc
          have hL := hf.lay hL0
          have f0 : gI h1 80 0 = iI w := by rw [gI_F, hf.F rfl, e0]
          refine w_iload4 r_45_77 ?_
          refine w_aload0 r_45_79 ?_
          refine v_getI r_45_80 (Lk_80 hL) f0 ?_
          refine v_ic_ge r_45_83 (by first | exact zF_in _ _ _ | exact zA_in _ _ _ | omega) (by first | exact zF_in _ _ _ | exact zA_in _ _ _ | omega) (fun _ => ?_) (fun q => absurd q (by omega))
          refine w_iinc3 r_45_99 rfl (iI_add _ _) ?_
          refine w_goto r_45_102 ?_
          refine ih h1 _ hf (fun c way a b => hc c way a ?_)
          rw [show ((w.toNat : Nat) : Int) = w by omega]
          rw [show ((y + 1 : Nat) : Int) * w = y * w + w by rw [Int.natCast_add, Int.add_mul]; omega] at b
          exact b
        · intro x hx ih2 h1 hf hc
          have hL := hf.lay hL0
          have f0 : gI h1 80 0 = iI w := by rw [gI_F, hf.F rfl, e0]
          have g0 : zF h1 80 0 = w := by rw [hf.F rfl, e0]
          have g1 : zF h1 80 1 = v := by rw [hf.F rfl, e1]
          have m1 := mul_in (a := (y : Int)) (b := w) (A := 9) (B := 10) (by omega) (by omega)
          have m2 : (y : Int) * w + x < v * w := by
            have : ((y : Int) + 1) * w ≤ v * w := Int.mul_le_mul_of_nonneg_right (by omega) (by omega)
            rw [Int.add_mul] at this
            omega
          refine w_iload4 r_45_77 ?_
          refine w_aload0 r_45_79 ?_
          refine v_getI r_45_80 (Lk_80 hL) f0 ?_
          refine v_ic_ge r_45_83 (by first | exact zF_in _ _ _ | exact zA_in _ _ _ | omega) (by first | exact zF_in _ _ _ | exact zA_in _ _ _ | omega) (fun q => absurd q (by omega)) (fun _ => ?_)
          refine w_aload0 r_45_86 ?_
          refine w_iload4 r_45_87 ?_
          refine w_iload3 r_45_89 ?_
          refine k_46 r_45_90 (Lk_80 hL) (Nat.le_of_ble_eq_true rfl) ?_
          refine c_linkCell hL (by omega) (by omega) (by rw [g0]; omega) (by omega) (fun v0 v1 v2 v3 a0 a1 a2 a3 => ?_)
          refine w_iinc4 r_45_93 rfl (iI_add _ _) ?_
          refine w_goto r_45_96 ?_
          refine ih2 _ ((((hf.sI 85 _ _ rfl).sI 85 _ _ rfl).sI 85 _ _ rfl).sI 85 _ _ rfl) (fun c way b1 b2 b3 b4 => ?_)
          have bb := fun wy => bs_in (way := wy) hw hv (c := y * w + x) (by rw [Int.mul_comm w v]; omega)
          rw [g0, g1] at a0 a1 a2 a3
          have r0 := bb 0
          have r1 := bb 1
          have r2 := bb 2
          have r3 := bb 3
          rw [← a0] at r0
          rw [← a1] at r1
          rw [← a2] at r2
          rw [← a3] at r3
          have wv := prod_in (a := w) (b := v) (by omega) (by omega)
          rw [g0, zA_s (by omega) (by omega) (by omega), zA_s (by omega) (by omega) (by omega), zA_s (by omega) (by omega) (by omega), zA_s (by omega) (by omega) (by omega)]
          by_cases q : c = y * w + x
          · have : way = 0 ∨ way = 1 ∨ way = 2 ∨ way = 3 := by omega
            rcases this with rfl | rfl | rfl | rfl
            · rw [if_neg (by omega), if_neg (by omega), if_neg (by omega), if_pos (by omega), a0, q]
            · rw [if_neg (by omega), if_neg (by omega), if_pos (by omega), a1, q]
            · rw [if_neg (by omega), if_pos (by omega), a2, q]
            · rw [if_pos (by omega), a3, q]
          · rw [if_neg (by omega), if_neg (by omega), if_neg (by omega), if_neg (by omega)]; exact hc c way b1 (by omega) b3 b4
      refine w_iload3 r_45_66 ?_
      refine w_aload0 r_45_67 ?_
      refine v_getI r_45_68 (Lk_80 hL) f1 ?_
      refine v_ic_ge r_45_71 (by first | exact zF_in _ _ _ | exact zA_in _ _ _ | omega) (by first | exact zF_in _ _ _ | exact zA_in _ _ _ | omega) (fun q => absurd q (by omega)) (fun _ => ?_)
      refine w_iconst (v := iI (0)) r_45_74 rfl ?_
      refine w_istore4 r_45_75 rfl ?_
      exact key2 0 (by omega) h1 hf (fun c way a b => hc c way a (by omega))
  exact key 0 (by omega) h X (Fr.refl _ _) (fun c way a b => absurd b (by omega))
abbrev PLay : Nat → Nat → Bool := pO (pA [81, 82, 83, 84, 85]) (pF [(80, 0), (80, 1), (80, 2), (80, 3), (80, 4)])
theorem c_lay {w v : Int} (hw : 1 ≤ w ∧ w ≤ 10) (hv : 1 ≤ v ∧ v ≤ 10) (hL : Lay h)
    (hk : ∀ h', Fr PLay h h' → gI h' 80 0 = iI w → gI h' 80 1 = iI v → gI h' 80 2 = iI (w * v) → gI h' 80 3 = iI 0 → gI h' 80 4 = iI (zF h 80 4 + 1) →
      (∀ i : Nat, i < 100 → gI h' 81 i = iI 0 ∧ gI h' 82 i = iI 0 ∧ gI h' 83 i = iI (-1) ∧ gI h' 84 i = iI 0) →
      (∀ c way : Int, 0 ≤ c → c < v * w → 0 ≤ way → way < 4 → zA h' 85 (c * 4 + way) = bs w v c way) → KU h') :
    XW (d + 1) 45 0 [.ref 80, .int (iI w), .int (iI v), .null, .null] [] h (KV KU) := by
  refine w_aload0 r_45_0 ?_
  refine w_iload1 r_45_1 ?_
  refine w_putI r_45_2 (Lk_80 hL) (Ln_80 hL) ?_
  refine w_aload0 r_45_5 ?_
  refine w_iload2 r_45_6 ?_
  refine w_putI r_45_7 (Lk_80 hL) (Ln_80 hL) ?_
  refine w_aload0 r_45_10 ?_
  refine w_iload1 r_45_11 ?_
  refine w_iload2 r_45_12 ?_
  refine v_imul r_45_13 ?_
  refine w_putI r_45_14 (Lk_80 hL) (Ln_80 hL) ?_
  refine w_aload0 r_45_17 ?_
  refine w_iconst (v := iI (0)) r_45_18 rfl ?_
  refine w_putI r_45_19 (Lk_80 hL) (Ln_80 hL) ?_
  refine w_aload0 r_45_22 ?_
  refine w_dupA r_45_23 ?_
  refine v_getI r_45_24 (Lk_80 hL) (gI_F h 80 4) ?_
  refine w_iconst (v := iI (1)) r_45_27 rfl ?_
  refine v_iadd r_45_28 ?_
  refine w_putI r_45_29 (Lk_80 hL) (Ln_80 hL) ?_
  refine w_aload0 r_45_32 ?_
  refine w_getA (x := 81) r_45_33 (Lk_80 hL) (Lr_80_5 hL) (by decide) ?_
  refine w_iconst (v := iI (0)) r_45_36 rfl ?_
  refine k_281 r_45_37 (Nat.le_of_ble_eq_true rfl) ?_
  refine c_fill (Lk_81 hL) (Lz_81 hL) (by decide) (Ln_81 hL) (fun h1 f1 b1 => ?_)
  have hL := f1.lay hL
  refine w_aload0 r_45_40 ?_
  refine w_getA (x := 82) r_45_41 (Lk_80 hL) (Lr_80_6 hL) (by decide) ?_
  refine w_iconst (v := iI (0)) r_45_44 rfl ?_
  refine k_281 r_45_45 (Nat.le_of_ble_eq_true rfl) ?_
  refine c_fill (Lk_82 hL) (Lz_82 hL) (by decide) (Ln_82 hL) (fun h2 f2 b2 => ?_)
  have hL := f2.lay hL
  refine w_aload0 r_45_48 ?_
  refine w_getA (x := 83) r_45_49 (Lk_80 hL) (Lr_80_7 hL) (by decide) ?_
  refine w_iconst (v := iI (-1)) r_45_52 rfl ?_
  refine k_281 r_45_53 (Nat.le_of_ble_eq_true rfl) ?_
  refine c_fill (Lk_83 hL) (Lz_83 hL) (by decide) (Ln_83 hL) (fun h3 f3 b3 => ?_)
  have hL := f3.lay hL
  refine w_aload0 r_45_56 ?_
  refine w_getA (x := 84) r_45_57 (Lk_80 hL) (Lr_80_8 hL) (by decide) ?_
  refine w_iconst (v := iI (0)) r_45_60 rfl ?_
  refine k_281 r_45_61 (Nat.le_of_ble_eq_true rfl) ?_
  refine c_fill (Lk_84 hL) (Lz_84 hL) (by decide) (Ln_84 hL) (fun h4 f4 b4 => ?_)
  have hL := f4.lay hL
  refine w_iconst (v := iI (0)) r_45_64 rfl ?_
  refine w_istore3 r_45_65 rfl ?_
  have g : ∀ j, gI h4 80 j = gI (sI (sI (sI (sI (sI h 80 0 (iI w)) 80 1 (iI v)) 80 2 (iI (w * v))) 80 3 (iI 0)) 80 4 (iI (zF h 80 4 + 1))) 80 j := fun j => by rw [(f4.2 80 j rfl).1, (f3.2 80 j rfl).1, (f2.2 80 j rfl).1, (f1.2 80 j rfl).1]
  refine c_lay_l hw hv hL (zF_of (g 0) (by omega)) (zF_of (g 1) (by omega)) (fun h5 f5 b5 => ?_)
  have gg : ∀ j, gI h5 80 j = gI h4 80 j := fun j => (f5.2 80 j rfl).1
  have F0 : Fr PLay h (sI (sI (sI (sI (sI h 80 0 (iI w)) 80 1 (iI v)) 80 2 (iI (w * v))) 80 3 (iI 0)) 80 4 (iI (zF h 80 4 + 1))) := (((((Fr.refl _ _).sI 80 0 _ rfl).sI 80 1 _ rfl).sI 80 2 _ rfl).sI 80 3 _ rfl).sI 80 4 _ rfl
  have M : ∀ {a : Nat} {x y : XH}, a ∈ [81, 82, 83, 84, 85] → Fr (pA [a]) x y → Fr PLay x y := fun {a x y} ha f => f.mono (fun b j q => by simp [PLay, pO, pA, pF] at q ha ⊢; omega)
  refine hk h5 ((((F0.trans (M (by decide) f1)).trans (M (by decide) f2)).trans (M (by decide) f3)).trans (M (by decide) f4) |>.trans (M (by decide) f5)) ((gg 0).trans (g 0)) ((gg 1).trans (g 1)) ((gg 2).trans (g 2)) ((gg 3).trans (g 3)) ((gg 4).trans (g 4)) (fun i hi => ⟨?_, ?_, ?_, ?_⟩) b5
  · rw [(f5.2 81 i rfl).1, (f4.2 81 i rfl).1, (f3.2 81 i rfl).1, (f2.2 81 i rfl).1, b1, if_pos hi]
  · rw [(f5.2 82 i rfl).1, (f4.2 82 i rfl).1, (f3.2 82 i rfl).1, b2, if_pos hi]
  · rw [(f5.2 83 i rfl).1, (f4.2 83 i rfl).1, b3, if_pos hi]
  · rw [(f5.2 84 i rfl).1, b4, if_pos hi]
theorem c_clear (hL : Lay h) (hk : KU (sI (sI (sI (sI (sI h 80 0 (iI 0)) 80 1 (iI 0)) 80 2 (iI 0)) 80 3 (iI 0)) 80 4 (iI (zF h 80 4 + 1)))) : XW d 44 0 [.ref 80] [] h (KV KU) := by
  refine w_aload0 r_44_0 ?_
  refine w_iconst (v := iI (0)) r_44_1 rfl ?_
  refine w_putI r_44_2 (Lk_80 hL) (Ln_80 hL) ?_
  refine w_aload0 r_44_5 ?_
  refine w_iconst (v := iI (0)) r_44_6 rfl ?_
  refine w_putI r_44_7 (Lk_80 hL) (Ln_80 hL) ?_
  refine w_aload0 r_44_10 ?_
  refine w_iconst (v := iI (0)) r_44_11 rfl ?_
  refine w_putI r_44_12 (Lk_80 hL) (Ln_80 hL) ?_
  refine w_aload0 r_44_15 ?_
  refine w_iconst (v := iI (0)) r_44_16 rfl ?_
  refine w_putI r_44_17 (Lk_80 hL) (Ln_80 hL) ?_
  refine w_aload0 r_44_20 ?_
  refine w_dupA r_44_21 ?_
  refine v_getI r_44_22 (Lk_80 hL) (gI_F h 80 4) ?_
  refine w_iconst (v := iI (1)) r_44_25 rfl ?_
  refine v_iadd r_44_26 ?_
  refine w_putI r_44_27 (Lk_80 hL) (Ln_80 hL) ?_
  refine w_vret r_44_30 ?_
  exact hk
end LY
