/-! digging: the class's move, leastMove -/
section MV
variable {d : Nat} {h : XH} {K : Int32 → XH → Prop} {KU : XH → Prop} {B : XB} {rb a0 : Nat} {V : Int → Int}
theorem c_move {wa : Nat} {t w : Int} (hL : Lay h) (hb : rb = 6 ∨ rb = 20) (hr : gR h 107 0 = rb) (hC : CBk h rb B) (ho : B.ok) (hwa : wa = 108 ∨ wa = 109) (ht : 0 ≤ t ∧ t < B.t) (hw : 0 ≤ w ∧ w < B.w) (hv : ∀ k : Int, 0 ≤ k → k < B.w → 0 ≤ zA h wa k ∧ zA h wa k ≤ 4) (kk : ∀ h', Fr (pA [wa]) h h' → (∀ k, 0 ≤ k → k < B.w → zA h' wa k = mvd (B.ea t) (B.on t) (zA h wa) w k) → (∀ k, B.w ≤ k → zA h' wa k = zA h wa k) → KU h') : XW (d + 2) 24 0 [.ref 107, .ref wa, .int (iI t), .int (iI w), .null, .null] [] h (KV KU) := by
  have o := ho.1
  have ot := ho.2.2.2.2 t ht.1 ht.2
  have wk : ∀ g : XH, Lay g → (gK g wa = 1 ∧ gZ g wa = 6) ∧ wa < gN g := fun g hg => by
    rcases hwa with rfl | rfl
    · exact ⟨⟨Lk_108 hg, Lz_108 hg⟩, hg.n (by decide)⟩
    · exact ⟨⟨Lk_109 hg, Lz_109 hg⟩, hg.n (by decide)⟩
  have key : ∀ n : Nat, n ≤ B.w.toNat → ∀ (h1 : XH) (X5 : Value), Fr (pA [wa]) h h1 → (∀ k : Int, 0 ≤ k → k < n → zA h1 wa k = mvd (B.ea t) (B.on t) (zA h wa) w k) → (∀ k, (n : Int) ≤ k → zA h1 wa k = zA h wa k) → XW (d + 2) 24 3 [.ref 107, .ref wa, .int (iI t), .int (iI w), .int (iI n), X5] [] h1 (KV KU) := by
    refine upto _ ?_ ?_
    · intro h1 X5 f w1 w2
      have hL := f.lay hL
      have hC := hC.fr f hb (fun a j p q => by simp [pA]; omega)
      have hr := (f.R 107 0).trans hr
      refine w_iload4 r_24_3 ?_
      refine w_aload0 r_24_5 ?_
      refine w_getA (x := rb) r_24_6 (Lk_107 hL) hr (RB.nz hb) ?_
      refine v_getI r_24_9 (Bk_ hL hb) (hC.f10) ?_
      refine v_ic_ge r_24_12 (by first | exact zF_in _ _ _ | exact zA_in _ _ _ | omega) (by first | exact zF_in _ _ _ | exact zA_in _ _ _ | omega) (fun _ => ?_) (fun q => absurd q (by omega))
      refine w_vret r_24_64 ?_
      exact kk h1 f (fun k a b => w1 k a (by omega)) (fun k a => w2 k (by omega))
    · intro n hn ih h1 X5 f w1 w2
      have hL := f.lay hL
      have hC := hC.fr f hb (fun a j p q => by simp [pA]; omega)
      have hr := (f.R 107 0).trans hr
      have eo : gI h1 (rb + 12) t.toNat = iI (B.on t) := by rw [gI_A, (hC.2.2.2.2 t ht.1 ht.2).2.2.1]
      have ee : gI h1 (rb + 11) t.toNat = iI (B.ea t) := by rw [gI_A, (hC.2.2.2.2 t ht.1 ht.2).2.1]
      have b := hv n (by omega) (by omega)
      have v50 : gI h1 wa (n : Int).toNat = iI (zA h wa n) := by rw [gI_A, w2 n (Int.le_refl _)]
      have tail : ∀ y : Int, -4 ≤ y ∧ y ≤ 4 → mvd (B.ea t) (B.on t) (zA h wa) w n = clp (zA h wa n + y) → XW (d + 2) 24 42 [.ref 107, .ref wa, .int (iI t), .int (iI w), .int (iI n), X5] [.int (iI y)] h1 (KV KU) := by
        intro y hy ey
        have cl := clp_in (zA h wa n + y)
        have F2 : Fr (pA [wa]) h1 (sI h1 wa (n : Int).toNat (iI (clp (zA h wa n + y)))) := (Fr.refl _ _).sI _ _ _ (by simp [pA])
        have yz : ∀ k, 0 ≤ k → zA (sI h1 wa (n : Int).toNat (iI (clp (zA h wa n + y)))) wa k = if k = (n : Int) then clp (zA h wa n + y) else zA h1 wa k := fun k a => zA_s (by omega) a (by omega)
        have J := ih (sI h1 wa (n : Int).toNat (iI (clp (zA h wa n + y)))) (.int (iI y)) (f.trans F2) (fun k a b => by
          rw [yz k a]
          by_cases e : k = (n : Int)
          · rw [if_pos e, e, ey]
          · rw [if_neg e]; exact w1 k a (by omega)) (fun k a => by rw [yz k (by omega), if_neg (by omega)]; exact w2 k (by omega))
        refine w_istore5 r_24_42 rfl ?_
        refine w_aload1 r_24_44 ?_
        refine w_iload4 r_24_45 ?_
        refine w_aload1 r_24_47 ?_
        refine w_iload4 r_24_48 ?_
        refine v_iald r_24_50 (wk _ hL).1.1 (wk _ hL).1.2 (by decide) (by omega) v50 ?_
        refine w_iload5 r_24_51 ?_
        refine v_iadd r_24_53 ?_
        refine k_25 r_24_54 (Nat.le_of_ble_eq_true rfl) ?_
        refine c_within (by omega) ?_
        refine v_iast r_24_57 (wk _ hL).1.1 (wk _ hL).2 (wk _ hL).1.2 (by decide) (by omega) ?_
        refine w_iinc4 r_24_58 rfl (iI_add _ _) ?_
        refine w_goto r_24_61 ?_
        exact J
      by_cases q : (n : Int) = w
      · refine w_iload4 r_24_3 ?_
        refine w_aload0 r_24_5 ?_
        refine w_getA (x := rb) r_24_6 (Lk_107 hL) hr (RB.nz hb) ?_
        refine v_getI r_24_9 (Bk_ hL hb) (hC.f10) ?_
        refine v_ic_ge r_24_12 (by first | exact zF_in _ _ _ | exact zA_in _ _ _ | omega) (by first | exact zF_in _ _ _ | exact zA_in _ _ _ | omega) (fun q => absurd q (by omega)) (fun _ => ?_)
        refine w_iload4 r_24_15 ?_
        refine w_iload3 r_24_17 ?_
        refine v_ic_ne r_24_18 (by first | exact zF_in _ _ _ | exact zA_in _ _ _ | omega) (by first | exact zF_in _ _ _ | exact zA_in _ _ _ | omega) (fun q => absurd q (by omega)) (fun _ => ?_)
        refine w_aload0 r_24_21 ?_
        refine w_getA (x := rb) r_24_22 (Lk_107 hL) hr (RB.nz hb) ?_
        refine w_getA (x := rb + 12) r_24_25 (Bk_ hL hb) (Br_7 hL hb) (by omega) ?_
        refine w_iload2 r_24_28 ?_
        refine v_iald r_24_29 (Bk_12 hL hb).1 (Bk_12 hL hb).2 (by decide) (by omega) eo ?_
        refine w_goto r_24_30 ?_
        exact tail _ (by omega) (by unfold mvd; rw [if_pos q])
      · refine w_iload4 r_24_3 ?_
        refine w_aload0 r_24_5 ?_
        refine w_getA (x := rb) r_24_6 (Lk_107 hL) hr (RB.nz hb) ?_
        refine v_getI r_24_9 (Bk_ hL hb) (hC.f10) ?_
        refine v_ic_ge r_24_12 (by first | exact zF_in _ _ _ | exact zA_in _ _ _ | omega) (by first | exact zF_in _ _ _ | exact zA_in _ _ _ | omega) (fun q => absurd q (by omega)) (fun _ => ?_)
        refine w_iload4 r_24_15 ?_
        refine w_iload3 r_24_17 ?_
        refine v_ic_ne r_24_18 (by first | exact zF_in _ _ _ | exact zA_in _ _ _ | omega) (by first | exact zF_in _ _ _ | exact zA_in _ _ _ | omega) (fun _ => ?_) (fun q => absurd q (by omega))
        refine w_aload0 r_24_33 ?_
        refine w_getA (x := rb) r_24_34 (Lk_107 hL) hr (RB.nz hb) ?_
        refine w_getA (x := rb + 11) r_24_37 (Bk_ hL hb) (Br_6 hL hb) (by omega) ?_
        refine w_iload2 r_24_40 ?_
        refine v_iald r_24_41 (Bk_11 hL hb).1 (Bk_11 hL hb).2 (by decide) (by omega) ee ?_
        exact tail _ (by omega) (by unfold mvd; rw [if_neg q])
  refine w_iconst (v := iI (0)) r_24_0 rfl ?_
  refine w_istore4 r_24_1 rfl ?_
  exact key 0 (by omega) h _ (Fr.refl _ _) (fun k a b => by omega) (fun _ _ => rfl)
theorem c_attempt {t w : Int} (hL : Lay h) (hb : rb = 6 ∨ rb = 20) (hr : gR h 107 0 = rb) (hC : CBk h rb B) (ho : B.ok) (ht : 0 ≤ t ∧ t < B.t) (hw : 0 ≤ w ∧ w < B.w) (hv : ∀ k : Int, 0 ≤ k → k < B.w → 0 ≤ zA h 108 k ∧ zA h 108 k ≤ 4) (kk : ∀ h', Fr (pO (pA [108]) (pF [(107, 10)])) h h' → (∀ k, 0 ≤ k → k < B.w → zA h' 108 k = mvd (B.ea t) (B.on t) (zA h 108) w k) → (∀ k, B.w ≤ k → zA h' 108 k = zA h 108 k) → zF h' 107 10 = 0 → KU h') : XW (d + 3) 22 0 [.ref 107, .int (iI t), .int (iI w)] [] h (KV KU) := by
  refine w_aload0 r_22_0 ?_
  refine w_aload0 r_22_1 ?_
  refine w_getA (x := 108) r_22_2 (Lk_107 hL) (Lr_107_1 hL) (by decide) ?_
  refine w_iload1 r_22_5 ?_
  refine w_iload2 r_22_6 ?_
  refine k_24 r_22_7 (Lk_107 hL) (Nat.le_of_ble_eq_true rfl) ?_
  refine c_move hL hb hr hC ho (Or.inl rfl) ht hw hv (fun h2 f2 w1 w2 => ?_)
  have hL := f2.lay hL
  refine w_aload0 r_22_10 ?_
  refine w_iconst (v := iI (0)) r_22_11 rfl ?_
  refine w_putZ r_22_12 (Lk_107 hL) (Ln_107 hL) (by decide) ?_
  refine w_vret r_22_15 ?_
  refine kk _ ((f2.mono (fun a j q => by simp [pO, pA, pF] at q ⊢; omega)).sI _ _ _ (by simp [pO, pF])) (fun k a b => ?_) (fun k a => ?_) ?_
  · rw [zA_o _ (by decide)]; exact w1 k a b
  · rw [zA_o _ (by decide)]; exact w2 k a
  · rw [zF_s (by decide)]
end MV
