/-! the class's steps learn a book -/
section LN
variable {d : Nat} {h : XH} {K : Int32 → XH → Prop} {KU : XH → Prop} {rb : Nat} {B : XB}
theorem xRT_92 : ∀ q ∈ xRT, pF [(91, 1)] q.1 q.2.1 = false := by decide +kernel
abbrev PLn : Nat → Nat → Bool := pO (pA [92, 93]) (pF [(91, 2), (91, 3)])
theorem c_learn (hL : Lay h) (hb : rb = 6 ∨ rb = 20) (hC : CBk h rb B) (ho : B.ok) (kk : ∀ h', Fr PLn (sR h 91 1 rb) h' → CLr h' B 0 → KU h') : XW (d + 4) 78 0 [.ref 91, .ref rb, .null] [] h (KV KU) := by
  have o := ho.1
  have l := B.load_in ho
  have hLr : Lay (sR h 91 1 rb) := (Ch.sR h 91 1 rb).lay hL xRT_92 (fun j => by simp [pF]) xRT_lt hL.2.2.2.1
  have hCr : CBk (sR h 91 1 rb) rb B := hC
  have hrr : gR (sR h 91 1 rb) 91 1 = rb := by rw [sR_here, if_pos rfl]
  have eload : B.wt / B.w = B.load := rfl
  have key : ∀ g : Nat, g ≤ B.g.toNat → ∀ h1 : XH, Fr PLn (sR h 91 1 rb) h1 → zF h1 91 2 = 0 → zF h1 91 3 = B.load → (∀ g' : Int, 0 ≤ g' → g' < g → zA h1 92 g' = B.sink g' B.load ∧ ∀ p, 0 ≤ p → p ≤ 150 → zA h1 93 (g' * 151 + p) = slf B g' p) → XW (d + 4) 78 36 [.ref 91, .ref rb, .int (iI g)] [] h1 (KV KU) := by
    refine upto _ ?_ ?_
    · intro h1 f e2 e3 hg
      have hL := f.lay hLr
      have hC := hCr.fr f hb (fun a j p q => by simp [pO, pA, pF]; omega)
      refine w_iload2 r_78_36 ?_
      refine w_aload1 r_78_37 ?_
      refine v_getI r_78_38 (Bk_ hL hb) (hC.f0) ?_
      refine v_ic_ge r_78_41 (by first | exact zF_in _ _ _ | exact zA_in _ _ _ | omega) (by first | exact zF_in _ _ _ | exact zA_in _ _ _ | omega) (fun _ => ?_) (fun q => absurd q (by omega))
      refine w_vret r_78_73 ?_
      exact kk h1 f ⟨e2, e3, fun g a b => (hg g a (by omega)).1, fun g a b p p0 p1 => (hg g a (by omega)).2 p p0 p1⟩
    · intro g hg0 ih h1 f e2 e3 hg
      have hL := f.lay hLr
      have hC := hCr.fr f hb (fun a j p q => by simp [pO, pA, pF]; omega)
      have si := B.sink_in ho (g := g) (x := B.load) (by omega)
      have g3 : gI h1 91 3 = iI B.load := by rw [gI_F, e3]
      have F2 : Fr PLn h1 (sI h1 92 ((g : Int)).toNat (iI (B.sink g B.load))) := (Fr.refl _ _).sI 92 _ _ (by simp [pO, pA])
      have hC2 := hC.fr F2 hb (fun a j p q => by simp [pO, pA, pF]; omega)
      have hr2 : gR (sI h1 92 ((g : Int)).toNat (iI (B.sink g B.load))) 91 1 = rb := (f.R 91 1).trans hrr
      refine w_iload2 r_78_36 ?_
      refine w_aload1 r_78_37 ?_
      refine v_getI r_78_38 (Bk_ hL hb) (hC.f0) ?_
      refine v_ic_ge r_78_41 (by first | exact zF_in _ _ _ | exact zA_in _ _ _ | omega) (by first | exact zF_in _ _ _ | exact zA_in _ _ _ | omega) (fun q => absurd q (by omega)) (fun _ => ?_)
      refine w_aload0 r_78_44 ?_
      refine w_getA (x := 92) r_78_45 (Lk_91 hL) (Lr_91_4 hL) (by decide) ?_
      refine w_iload2 r_78_48 ?_
      refine w_aload1 r_78_49 ?_
      refine w_getA (x := rb + 2) r_78_50 (Bk_ hL hb) (Br_2 hL hb) (by omega) ?_
      refine w_iload2 r_78_53 ?_
      refine w_aload0 r_78_54 ?_
      refine v_getI r_78_55 (Lk_91 hL) g3 ?_
      refine k_17 r_78_58 (Bk_2 hL hb) (Nat.le_of_ble_eq_true rfl) ?_
      refine c_sinkAt hL hb hC ho (by omega) (by omega) ?_
      refine v_iast r_78_61 (Lk_92 hL) (Ln_92 hL) (Lz_92 hL) (by decide) (by omega) ?_
      refine w_aload0 r_78_62 ?_
      refine w_iload2 r_78_63 ?_
      refine k_79 r_78_64 (Lk_91 hL) (Nat.le_of_ble_eq_true rfl) ?_
      refine c_listSlips (g := g) hL hb hr2 hC2 ho (by omega) (fun h3 f3 z1 z2 => ?_)
      refine w_iinc2 r_78_67 rfl (iI_add _ _) ?_
      refine w_goto r_78_70 ?_
      refine ih h3 ((f.trans F2).trans (f3.mono (fun a j q => by simp [pO, pA, pF] at q ⊢; omega))) ?_ ?_ (fun g' a b => ⟨?_, fun p p0 p1 => ?_⟩)
      · rw [f3.F (by simp [pA]), zF_o (by omega)]; exact e2
      · rw [f3.F (by simp [pA]), zF_o (by omega)]; exact e3
      · rw [f3.A (by simp [pA]), zA_s (by omega) (by omega) (by omega)]
        by_cases z : g' = (g : Int)
        · rw [if_pos z, z]
        · rw [if_neg z]; exact (hg g' a (by omega)).1
      · by_cases z : g' = (g : Int)
        · rw [z]; exact z1 p p0 p1
        · rw [z2 _ (by omega) (by omega), zA_o _ (by decide)]; exact (hg g' a (by omega)).2 p p0 p1
  have F0 : Fr PLn (sR h 91 1 rb) (sI (sI (sR h 91 1 rb) 91 2 (iI 0)) 91 3 (iI B.load)) := ((Fr.refl _ _).sI 91 2 _ (by decide)).sI 91 3 _ (by decide)
  have k0 := key 0 (by omega) _ F0 (zF_of rfl (by decide)) (zF_of rfl (by unfold R32; omega)) (fun g' a b => by omega)
  refine w_aload0 r_78_0 ?_
  refine w_aload1 r_78_1 ?_
  refine w_putA r_78_2 (Lk_91 hL) (Ln_91 hL) (by omega) ?_
  have hL := hLr
  have hC0 := hCr
  have hC : CBk (sI (sR h 91 1 rb) 91 2 (iI 0)) rb B := hC0.fr ((Fr.refl (pF [(91, 2)]) _).sI 91 2 _ (by decide)) hb (fun a j p q => by simp [pF]; omega)
  refine w_aload0 r_78_5 ?_
  refine w_iconst (v := iI (0)) r_78_6 rfl ?_
  refine w_putI r_78_7 (Lk_91 hL) (Ln_91 hL) ?_
  refine w_aload0 r_78_10 ?_
  refine w_aload1 r_78_11 ?_
  refine v_getI r_78_12 (Bk_ hL hb) (hC.f10) ?_
  refine v_if_le r_78_15 (by first | exact zF_in _ _ _ | exact zA_in _ _ _ | omega) (fun q => absurd q (by omega)) (fun _ => ?_)
  refine w_aload1 r_78_18 ?_
  refine v_getI r_78_19 (Bk_ hL hb) (hC.f11) ?_
  refine w_aload1 r_78_22 ?_
  refine v_getI r_78_23 (Bk_ hL hb) (hC.f10) ?_
  refine v_idivN r_78_26 (by first | exact zF_in _ _ _ | exact zA_in _ _ _ | omega) (by omega) ?_
  refine w_goto r_78_27 ?_
  rw [eload] 
  refine w_putI r_78_31 (Lk_91 hL) (Ln_91 hL) ?_
  refine w_iconst (v := iI (0)) r_78_34 rfl ?_
  refine w_istore2 r_78_35 rfl ?_
  exact k0
end LN
