/-! small loops -/
theorem upto {P : Nat → Prop} (N : Nat) (last : P N) (step : ∀ i, i < N → P (i + 1) → P i) : ∀ i, i ≤ N → P i := by
  have key : ∀ k i, i + k = N → P i := by
    intro k
    induction k with
    | zero => intro i e; rw [show i = N by omega]; exact last
    | succ k ih => intro i e; exact step i (by omega) (ih (i + 1) (by omega))
  exact fun i hi => key (N - i) i (by omega)
section LO
variable {d : Nat} {h : XH} {K : Int32 → XH → Prop} {KU : XH → Prop} {rb : Nat}
theorem c_deepest (hL : Lay h) (hk : K (iI (maxTo (zA h 108) 6)) h) : XW (d + 1) 23 0 [.ref 107, .null, .null] [] h (KI K) := by
  have key : ∀ i : Nat, i ≤ 6 → XW (d + 1) 23 4 [.ref 107, .int (iI (maxTo (zA h 108) i)), .int (iI i)] [] h (KI K) := by
    refine upto 6 ?_ ?_
    · refine w_iload2 r_23_4 ?_
      refine w_bipush (v := iI (6)) r_23_5 rfl ?_
      refine v_ic_ge r_23_7 (by first | exact zF_in _ _ _ | exact zA_in _ _ _ | omega) (by first | exact zF_in _ _ _ | exact zA_in _ _ _ | omega) (fun _ => ?_) (fun q => absurd q (by omega))
      refine w_iload1 r_23_27 ?_
      refine w_iret r_23_28 ?_
      exact hk
    · intro i hi ih
      have hm := maxTo_in (f := zA h 108) (n := i) (b := 2147483647) (by decide) (fun j _ _ => (zA_in _ _ _).2)
      refine w_iload2 r_23_4 ?_
      refine w_bipush (v := iI (6)) r_23_5 rfl ?_
      refine v_ic_ge r_23_7 (by first | exact zF_in _ _ _ | exact zA_in _ _ _ | omega) (by first | exact zF_in _ _ _ | exact zA_in _ _ _ | omega) (fun q => absurd q (by omega)) (fun _ => ?_)
      refine w_iload1 r_23_10 ?_
      refine w_aload0 r_23_11 ?_
      refine w_getA (x := 108) r_23_12 (Lk_107 hL) (Lr_107_1 hL) (by decide) ?_
      refine w_iload2 r_23_15 ?_
      refine v_iald r_23_16 (Lk_108 hL) (Lz_108 hL) (by decide) (by omega) (gI_A h 108 _) ?_
      refine k_268 r_23_17 (Nat.le_of_ble_eq_true rfl) ?_
      refine c_max (by first | exact zF_in _ _ _ | exact zA_in _ _ _ | omega) (by first | exact zF_in _ _ _ | exact zA_in _ _ _ | omega) ?_
      refine w_istore1 r_23_20 rfl ?_
      refine w_iinc2 r_23_21 rfl (iI_add _ _) ?_
      refine w_goto r_23_24 ?_
      exact ih
  refine w_iconst (v := iI (0)) r_23_0 rfl ?_
  refine w_istore1 r_23_1 rfl ?_
  refine w_iconst (v := iI (0)) r_23_2 rfl ?_
  refine w_istore2 r_23_3 rfl ?_
  exact key 0 (by omega)
theorem m_mostDug (hL : Lay h) (hw : 0 ≤ zF h 118 24 ∧ zF h 118 24 ≤ 6) (hb : zF h 118 12 = 0 ∨ zF h 118 12 = 1)
    (k0 : zF h 118 12 = 0 → K (iI 0) h) (k1 : zF h 118 12 = 1 → K (iI (maxTo (zA h 139) (zF h 118 24).toNat)) h) : XW d 262 0 [.ref 118, .null, .null] [] h (KI K) := by
  by_cases h12 : zF h 118 12 = 0
  · refine w_iconst (v := iI (0)) r_262_0 rfl ?_
    refine w_istore1 r_262_1 rfl ?_
    refine w_iconst (v := iI (0)) r_262_2 rfl ?_
    refine w_istore2 r_262_3 rfl ?_
    refine w_iload2 r_262_4 ?_
    refine w_aload0 r_262_5 ?_
    refine v_getI r_262_6 (Lk_118 hL) (gI_F h 118 24) ?_
    refine v_ic_ge r_262_9 (by first | exact zF_in _ _ _ | exact zA_in _ _ _ | omega) (by first | exact zF_in _ _ _ | exact zA_in _ _ _ | omega) (fun c9 => ?_) (fun c9 => ?_)
    · refine w_iload1 r_262_46 ?_
      refine w_iret r_262_47 ?_
      exact k0 h12
    · refine w_aload0 r_262_12 ?_
      refine v_getI r_262_13 (Lk_118 hL) (gI_F h 118 12) ?_
      refine v_if_eq r_262_16 (by first | exact zF_in _ _ _ | exact zA_in _ _ _ | omega) (fun _ => ?_) (fun q => absurd q (by omega))
      refine w_iload1 r_262_46 ?_
      refine w_iret r_262_47 ?_
      exact k0 h12
  · have key : ∀ i : Nat, i ≤ (zF h 118 24).toNat → XW d 262 4 [.ref 118, .int (iI (maxTo (zA h 139) i)), .int (iI i)] [] h (KI K) := by
      refine upto _ ?_ ?_
      · refine w_iload2 r_262_4 ?_
        refine w_aload0 r_262_5 ?_
        refine v_getI r_262_6 (Lk_118 hL) (gI_F h 118 24) ?_
        refine v_ic_ge r_262_9 (by first | exact zF_in _ _ _ | exact zA_in _ _ _ | omega) (by first | exact zF_in _ _ _ | exact zA_in _ _ _ | omega) (fun _ => ?_) (fun q => absurd q (by omega))
        refine w_iload1 r_262_46 ?_
        refine w_iret r_262_47 ?_
        exact k1 (by omega)
      · intro i hi ih
        have hm := maxTo_in (f := zA h 139) (n := i) (b := 2147483647) (by decide) (fun j _ _ => (zA_in _ _ _).2)
        have e1 : maxTo (zA h 139) (i + 1) = max (maxTo (zA h 139) i) (zA h 139 i) := rfl
        refine w_iload2 r_262_4 ?_
        refine w_aload0 r_262_5 ?_
        refine v_getI r_262_6 (Lk_118 hL) (gI_F h 118 24) ?_
        refine v_ic_ge r_262_9 (by first | exact zF_in _ _ _ | exact zA_in _ _ _ | omega) (by first | exact zF_in _ _ _ | exact zA_in _ _ _ | omega) (fun q => absurd q (by omega)) (fun _ => ?_)
        refine w_aload0 r_262_12 ?_
        refine v_getI r_262_13 (Lk_118 hL) (gI_F h 118 12) ?_
        refine v_if_eq r_262_16 (by first | exact zF_in _ _ _ | exact zA_in _ _ _ | omega) (fun q => absurd q (by omega)) (fun _ => ?_)
        refine w_aload0 r_262_19 ?_
        refine w_getA (x := 139) r_262_20 (Lk_118 hL) (Lr_118_47 hL) (by decide) ?_
        refine w_iload2 r_262_23 ?_
        refine v_iald r_262_24 (Lk_139 hL) (Lz_139 hL) (by decide) (by omega) (gI_A h 139 _) ?_
        refine w_iload1 r_262_25 ?_
        refine v_ic_le r_262_26 (by first | exact zF_in _ _ _ | exact zA_in _ _ _ | omega) (by first | exact zF_in _ _ _ | exact zA_in _ _ _ | omega) (fun c26 => ?_) (fun c26 => ?_)
        · refine w_iload1 r_262_38 ?_
          refine w_istore1 r_262_39 rfl ?_
          refine w_iinc2 r_262_40 rfl (iI_add _ _) ?_
          refine w_goto r_262_43 ?_
          first | (rw [e1, show max (maxTo (zA h 139) i) (zA h 139 i) = zA h 139 i by omega] at ih; exact ih) | (rw [e1, show max (maxTo (zA h 139) i) (zA h 139 i) = maxTo (zA h 139) i by omega] at ih; exact ih)
        · refine w_aload0 r_262_29 ?_
          refine w_getA (x := 139) r_262_30 (Lk_118 hL) (Lr_118_47 hL) (by decide) ?_
          refine w_iload2 r_262_33 ?_
          refine v_iald r_262_34 (Lk_139 hL) (Lz_139 hL) (by decide) (by omega) (gI_A h 139 _) ?_
          refine w_goto r_262_35 ?_
          refine w_istore1 r_262_39 rfl ?_
          refine w_iinc2 r_262_40 rfl (iI_add _ _) ?_
          refine w_goto r_262_43 ?_
          first | (rw [e1, show max (maxTo (zA h 139) i) (zA h 139 i) = zA h 139 i by omega] at ih; exact ih) | (rw [e1, show max (maxTo (zA h 139) i) (zA h 139 i) = maxTo (zA h 139) i by omega] at ih; exact ih)
    refine w_iconst (v := iI (0)) r_262_0 rfl ?_
    refine w_istore1 r_262_1 rfl ?_
    refine w_iconst (v := iI (0)) r_262_2 rfl ?_
    refine w_istore2 r_262_3 rfl ?_
    exact key 0 (by omega)
end LO
