/-! calls: mean -/
section OP5
variable {d : Nat} {h h' h1 : XH} {K : Int32 → XH → Prop} {KL64 : Int64 → XH → Prop} {KU : XH → Prop} {B : XB} {dd : Int} {M : XM} {rb va zv : Nat} {c go e stp : Int} {z : Bool}
theorem lft_st (ho : B.ok) (hm : M.ok B.g) (hd : 0 ≤ dd ∧ dd < B.w) (hg : 0 ≤ go ∧ go < M.n) : 1 ≤ (xp B dd M go true).lft (sta M) ∧ (xp B dd M go true).lft (sta M) ≤ 14348907 := lft_in (xp_ok ho hm hd hg)
theorem c_mean (hc : R32 c) (hgo : R32 go) (hL : Lay h) (hX : CX h rb B dd M) (hW : 0 < M.n → CWy h 101 va zv B dd M true stp)
    (k1 : ¬ ((0 ≤ c ∧ c < M.n) ∧ 0 ≤ go ∧ go < M.n) → KL64 (iL (-9223372036854775808)) (sI h 1 18 (iI 1)))
    (k6 : (0 ≤ c ∧ c < M.n) ∧ 0 ≤ go ∧ go < M.n → ¬ Vl (xp B dd M go true) (sta M) c < 1000000000000000 → ∀ h' va' zv' stp', Wed q0 h h' 101 va zv va' zv' B dd M true stp stp' → KL64 (iL (-9223372036854775808)) (sI h' 1 18 (iI 6)))
    (kt : (0 ≤ c ∧ c < M.n) ∧ 0 ≤ go ∧ go < M.n → Vl (xp B dd M go true) (sta M) c < 1000000000000000 → ∀ h' va' zv' stp', Wed q0 h h' 101 va zv va' zv' B dd M true stp stp' → KL64 (iL (lwt (Vl (xp B dd M go true) (sta M) c) ((xp B dd M go true).lft (sta M)) z)) (sI h' 1 18 (iI 0))) :
    XW (d + 23) 136 0 [.ref 1, .int (iI c), .int (iI go), .int (iI (b2i z)), .null, .null, .null] [] h (KL KL64) := by
  obtain ⟨hB, hC, hP, hv⟩ := hX
  have hb := hB.1
  have e2 := hP.1.2.2.1
  have main : (0 ≤ c ∧ c < M.n) ∧ 0 ≤ go ∧ go < M.n → XW (d + 23) 136 15 [.ref 1, .int (iI c), .int (iI go), .int (iI (b2i z)), .null, .null, .null] [] h (KL KL64) := by
    intro cd
    obtain ⟨ho, hm, hd, hS⟩ := hv (by omega)
    obtain ⟨hE, hI, hst, hN⟩ := hW (by omega)
    have kt := kt cd
    have k6 := k6 cd
    have vi := vl_in (bm := true) ho hm hd cd.2 cd.1
    have cv := cvv_lt vi.1
    have ls := lft_st ho hm hd cd.2
    have lw := lft_wt (B := B) (dd := dd) (go := go) (bm := true) (s := sta M) hm
    have st := sta_in hm
    have fin : ∀ h1 va' zv' stp', Aim h h1 101 va zv va' zv' B dd M go true stp stp' → XW (d + 23) 136 32 [.ref 1, .int (iI c), .int (iI go), .int (iI (b2i z)), .int (iI (sta M)), .null, .null] [] h1 (KL KL64) := by
      intro h1 va' zv' stp' A
      have hL1 := A.2.2.2.2.2.2.2
      have tail : ∀ h2, Fr (PWs 101 va') h1 h2 → Aimed h2 101 va' zv' B dd M go true stp' → XW (d + 23) 136 42 [.ref 1, .int (iI c), .int (iI go), .int (iI (b2i z)), .int (iI (sta M)), .null, .null] [.long (iL (cvv (Vl (xp B dd M go true) (sta M) c)))] h2 (KL KL64) := by
        intro h2 f2 O2
        have W := Wed.of (Or.inr rfl) hL hm hI.1.1.2.2.2.2.2.2 A (pq0 f2) O2 ⟨hI.1.2.2.2.1, hst⟩ cd.2 ⟨rfl, rfl⟩
        have hL := f2.lay hL1
        by_cases q : Vl (xp B dd M go true) (sta M) c < 1000000000000000
        · have R := kt q h2 va' zv' stp' W
          have P3 : CMp (sI h2 1 18 (iI 0)) M := O2.1.fr (((Fr.refl (pF [(1, 18)]) h2).sI 1 18 _ (by simp [pF]))) (fun a j p q _ => by simp [pF]; omega)
          rw [cv.2.2 q]
          have T : XW (d + 23) 136 65 [.ref 1, .int (iI c), .int (iI go), .int (iI (b2i z)), .int (iI (sta M)), .long (iL (Vl (xp B dd M go true) (sta M) c)), .null] [] (sI h2 1 18 (iI 0)) (KL KL64) := by
            have hL : Lay (sI h2 1 18 (iI 0)) := hL
            generalize sI h2 1 18 (iI 0) = h3 at *
            refine w_lload5 r_136_65 ?_
            refine w_aload0 r_136_67 ?_
            refine w_getA (x := 80) r_136_68 (Lk_1 hL) (Lr_1_9 hL) (by decide) ?_
            refine w_iload4 r_136_71 ?_
            refine k_63 r_136_73 (Lk_80 hL) (Nat.le_of_ble_eq_true rfl) ?_
            refine c_totalWeight (d := d + 21) hL P3 hm st.1 ?_
            rw [← lw] 
            refine w_iload3 r_136_76 ?_
            refine k_161 r_136_77 (Nat.le_of_ble_eq_true rfl) ?_
            refine c_lowestTerms (by omega) (by omega) ?_
            refine w_lret r_136_80 ?_
            exact R
          refine w_lstore5 r_136_42 rfl ?_
          refine w_lload5 r_136_44 ?_
          refine w_ldc2 (v := iL (1152921504606846976)) r_136_46 rfl ?_
          refine v_lcmp r_136_49 (by first | exact zF_in _ _ _ | exact zA_in _ _ _ | omega) (by first | exact zF_in _ _ _ | exact zA_in _ _ _ | omega) ?_
          refine v_if_lt r_136_50 (by split <;> (try split) <;> omega) (fun _ => ?_) (fun q => absurd q (by (split <;> (try split) <;> omega)))
          refine w_aload0 r_136_60 ?_
          refine w_iconst (v := iI (0)) r_136_61 rfl ?_
          refine w_putI r_136_62 (Lk_1 hL) (Ln_1 hL) ?_
          exact T
        · have R := k6 q h2 va' zv' stp' W
          have : ¬ cvv (Vl (xp B dd M go true) (sta M) c) < 1152921504606846976 := fun x => q (cv.2.1.1 x)
          refine w_lstore5 r_136_42 rfl ?_
          refine w_lload5 r_136_44 ?_
          refine w_ldc2 (v := iL (1152921504606846976)) r_136_46 rfl ?_
          refine v_lcmp r_136_49 (by first | exact zF_in _ _ _ | exact zA_in _ _ _ | omega) (by first | exact zF_in _ _ _ | exact zA_in _ _ _ | omega) ?_
          refine v_if_lt r_136_50 (by split <;> (try split) <;> omega) (fun q => absurd q (by (split <;> (try split) <;> omega))) (fun _ => ?_)
          refine w_aload0 r_136_53 ?_
          refine w_bipush (v := iI (6)) r_136_54 rfl ?_
          refine k_158 r_136_56 (Lk_1 hL) (Nat.le_of_ble_eq_true rfl) ?_
          refine c_refuseLong hL ?_
          refine w_lret r_136_59 ?_
          exact R
      have hL := hL1
      refine w_aload0 r_136_32 ?_
      refine w_getA (x := 101) r_136_33 (Lk_1 hL) (Lr_1_12 hL) (by decide) ?_
      refine w_iload4 r_136_36 ?_
      refine w_iload1 r_136_38 ?_
      refine k_103 r_136_39 (Lk_101 hL) (Nat.le_of_ble_eq_true rfl) ?_
      refine c_valueFrom (d := d) (Or.inr rfl) ho hd hm cd.2 hL A.2.1 (sta_st hm) cd.1 (fun h2 f2 O2 => ?_)
      exact tail h2 f2 O2
    refine w_aload0 r_136_15 ?_
    refine w_getA (x := 80) r_136_16 (Lk_1 hL) (Lr_1_9 hL) (by decide) ?_
    refine k_56 r_136_19 (Lk_80 hL) (Nat.le_of_ble_eq_true rfl) ?_
    refine c_startState (d := d + 20) hL hP hm ?_
    refine w_istore4 r_136_22 rfl ?_
    refine w_aload0 r_136_24 ?_
    refine w_getA (x := 101) r_136_25 (Lk_1 hL) (Lr_1_12 hL) (by decide) ?_
    refine w_iload2 r_136_28 ?_
    refine k_102 r_136_29 (Lk_101 hL) (Nat.le_of_ble_eq_true rfl) ?_
    refine c_aim (d := d + 17) (Or.inr rfl) hL hb hB.2.2.2.1 hC ho hS hP hm hd cd.2 hE hI hst hN (fun h1 va' zv' stp' A => ?_)
    exact fin h1 va' zv' stp' A
  refine w_aload0 r_136_0 ?_
  refine w_iload1 r_136_1 ?_
  refine w_iload2 r_136_2 ?_
  refine k_154 r_136_3 (Lk_1 hL) (Nat.le_of_ble_eq_true rfl) ?_
  refine c_areCells (by omega) (by omega) hL (fun c3 => ?_) (fun c3 => ?_)
  · refine v_if_ne r_136_6 (by first | exact zF_in _ _ _ | exact zA_in _ _ _ | omega) (fun _ => ?_) (fun q => absurd q (by omega))
    exact main (by omega)
  · refine v_if_ne r_136_6 (by first | exact zF_in _ _ _ | exact zA_in _ _ _ | omega) (fun q => absurd q (by omega)) (fun _ => ?_)
    refine w_aload0 r_136_9 ?_
    refine w_iconst (v := iI (1)) r_136_10 rfl ?_
    refine k_158 r_136_11 (Lk_1 hL) (Nat.le_of_ble_eq_true rfl) ?_
    refine c_refuseLong hL ?_
    refine w_lret r_136_14 ?_
    exact k1 (by omega)
theorem m_mean (hc : R32 c) (hgo : R32 go) (hL : Lay h) (hX : MX h B dd M) (hS : 0 < M.n → MSl h B dd M)
    (k1 : ¬ ((0 ≤ c ∧ c < M.n) ∧ 0 ≤ go ∧ go < M.n) → KL64 (iL (-9223372036854775808)) (sI (hG h) 118 39 (iI 1)))
    (k6 : (0 ≤ c ∧ c < M.n) ∧ 0 ≤ go ∧ go < M.n → ¬ Vl (xp B dd M go true) (sta M) c < 1000000000000000 → ∀ h', SvI (hG h) h' B dd M go true 0 → KL64 (iL (-9223372036854775808)) (sI h' 118 39 (iI 6)))
    (kt : (0 ≤ c ∧ c < M.n) ∧ 0 ≤ go ∧ go < M.n → Vl (xp B dd M go true) (sta M) c < 1000000000000000 → ∀ h', SvI (hG h) h' B dd M go true 0 → KL64 (iL (lwt (Vl (xp B dd M go true) (sta M) c) ((xp B dd M go true).lft (sta M)) z)) h') :
    XW (d + 7) 232 0 [.ref 118, .int (iI c), .int (iI go), .int (iI (b2i z)), .null, .null] [] h (KL KL64) := by
  have ew := hX.n
  obtain ⟨hM, hQ, hP, hdd, hv⟩ := hX
  have main : (0 ≤ c ∧ c < M.n) ∧ 0 ≤ go ∧ go < M.n → XW (d + 7) 232 29 [.ref 118, .int (iI c), .int (iI go), .int (iI (b2i z)), .null, .null] [] (hG h) (KL KL64) := by
    intro cd
    obtain ⟨h12, ho, hm, hd⟩ := hv (by omega)
    have hS := hG_MSl (hS (by omega))
    have kt := kt cd
    have k6 := k6 cd
    have hL := (hG_fr h).lay hL
    have Q1 := hG_MBk hQ
    have P1 := hG_MMp hP
    have d1 : gI (hG h) 118 38 = iI dd := by rw [((hG_fr h).2 118 38 (by simp [pF])).1]; exact hdd
    have vi := vl_in (bm := true) ho hm hd cd.2 cd.1
    have ls := lft_st ho hm hd cd.2
    have st := sta_in hm
    generalize hG h = h1 at *
    have fin : ∀ h2, SvI h1 h2 B dd M go true 0 → XW (d + 7) 232 36 [.ref 118, .int (iI c), .int (iI go), .int (iI (b2i z)), .null, .null] [.long (iL (frV (Vl (xp B dd M go true) (sta M) c)))] h2 (KL KL64) := by
      intro h2 I
      have hL := I.1.lay hL
      have P2 : MMp h2 M := P1.fr I.1 (fun a j p q => by simp [pO, pA, pF]; omega) (fun j p q => by simp [pO, pA, pF]; omega)
      unfold frV
      by_cases q : Vl (xp B dd M go true) (sta M) c < 1000000000000000
      · have R := kt q h2 I
        rw [if_pos q]
        refine w_lstore4 r_232_36 rfl ?_
        refine w_lload4 r_232_38 ?_
        refine w_lconst (v := iL 0) r_232_40 rfl ?_
        refine v_lcmp r_232_41 (by first | exact zF_in _ _ _ | exact zA_in _ _ _ | omega) (by first | exact zF_in _ _ _ | exact zA_in _ _ _ | omega) ?_
        refine v_if_ge r_232_42 (by split <;> (try split) <;> omega) (fun _ => ?_) (fun q => absurd q (by (split <;> (try split) <;> omega)))
        refine w_lload4 r_232_55 ?_
        refine w_aload0 r_232_57 ?_
        refine w_aload0 r_232_58 ?_
        refine k_215 r_232_59 (Lk_118 hL) (Nat.le_of_ble_eq_true rfl) ?_
        refine m_base (d := d + 5) hL P2 hm I.2.1.1 ?_
        refine k_218 r_232_62 (Lk_118 hL) (Nat.le_of_ble_eq_true rfl) ?_
        refine m_left (d := d + 4) hL P2 hm I.2.1.1 st.1 ?_
        refine w_iload3 r_232_65 ?_
        refine k_231 r_232_66 (Nat.le_of_ble_eq_true rfl) ?_
        refine m_part (d := d + 5) (b := (xp B dd M go true).lft (sta M)) (by omega) (by omega) ?_
        refine w_lret r_232_69 ?_
        exact R
      · have R := k6 q h2 I
        rw [if_neg q]
        refine w_lstore4 r_232_36 rfl ?_
        refine w_lload4 r_232_38 ?_
        refine w_lconst (v := iL 0) r_232_40 rfl ?_
        refine v_lcmp r_232_41 (by first | exact zF_in _ _ _ | exact zA_in _ _ _ | omega) (by first | exact zF_in _ _ _ | exact zA_in _ _ _ | omega) ?_
        refine v_if_ge r_232_42 (by split <;> (try split) <;> omega) (fun q => absurd q (by (split <;> (try split) <;> omega))) (fun _ => ?_)
        refine w_aload0 r_232_45 ?_
        refine w_bipush (v := iI (6)) r_232_46 rfl ?_
        refine w_putI r_232_48 (Lk_118 hL) (Ln_118 hL) ?_
        refine w_ldc2 (v := iL (-9223372036854775808)) r_232_51 rfl ?_
        refine w_lret r_232_54 ?_
        exact R
    refine w_aload0 r_232_29 ?_
    refine w_iload1 r_232_30 ?_
    refine w_iload2 r_232_31 ?_
    refine w_iconst (v := iI (1)) r_232_32 rfl ?_
    refine k_228 r_232_33 (Lk_118 hL) (Nat.le_of_ble_eq_true rfl) ?_
    refine m_from (d := d) (bm := true) hL Q1 ho P1 hm d1 hd cd.2 cd.1 hS (fun h2 I => ?_)
    exact fin h2 I
  refine w_aload0 r_232_0 ?_
  refine k_164 r_232_1 (Lk_118 hL) (Nat.le_of_ble_eq_true rfl) ?_
  refine m_good hL ?_
  refine w_aload0 r_232_4 ?_
  refine w_iload1 r_232_5 ?_
  refine k_197 r_232_6 (Lk_118 hL) (Nat.le_of_ble_eq_true rfl) ?_
  refine m_isCell (h0 := h) (by first | exact zF_in _ _ _ | exact zA_in _ _ _ | omega) hL ⟨rfl, rfl, rfl, rfl, rfl, rfl⟩ hM (fun c6 => ?_) (fun c6 => ?_)
  · refine v_if_eq r_232_9 (by first | exact zF_in _ _ _ | exact zA_in _ _ _ | omega) (fun q => absurd q (by omega)) (fun _ => ?_)
    refine w_aload0 r_232_12 ?_
    refine w_iload2 r_232_13 ?_
    refine k_197 r_232_14 (Lk_118 hL) (Nat.le_of_ble_eq_true rfl) ?_
    refine m_isCell (h0 := h) (by first | exact zF_in _ _ _ | exact zA_in _ _ _ | omega) hL ⟨rfl, rfl, rfl, rfl, rfl, rfl⟩ hM (fun c14 => ?_) (fun c14 => ?_)
    · refine v_if_ne r_232_17 (by first | exact zF_in _ _ _ | exact zA_in _ _ _ | omega) (fun _ => ?_) (fun q => absurd q (by omega))
      exact main (by omega)
    · refine v_if_ne r_232_17 (by first | exact zF_in _ _ _ | exact zA_in _ _ _ | omega) (fun q => absurd q (by omega)) (fun _ => ?_)
      refine w_aload0 r_232_20 ?_
      refine w_iconst (v := iI (1)) r_232_21 rfl ?_
      refine w_putI r_232_22 (Lk_118 hL) (Ln_118 hL) ?_
      refine w_ldc2 (v := iL (-9223372036854775808)) r_232_25 rfl ?_
      refine w_lret r_232_28 ?_
      exact k1 (by omega)
  · refine v_if_eq r_232_9 (by first | exact zF_in _ _ _ | exact zA_in _ _ _ | omega) (fun _ => ?_) (fun q => absurd q (by omega))
    refine w_aload0 r_232_20 ?_
    refine w_iconst (v := iI (1)) r_232_21 rfl ?_
    refine w_putI r_232_22 (Lk_118 hL) (Ln_118 hL) ?_
    refine w_ldc2 (v := iL (-9223372036854775808)) r_232_25 rfl ?_
    refine w_lret r_232_28 ?_
    exact k1 (by omega)
end OP5
