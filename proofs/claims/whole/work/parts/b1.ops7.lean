/-! calls: worth -/
section OP7
variable {d : Nat} {h h' h1 : XH} {K : Int32 → XH → Prop} {KL64 : Int64 → XH → Prop} {KU : XH → Prop} {B : XB} {dd : Int} {M : XM} {rb va zv : Nat} {c go e stp : Int} {z : Bool}
/-- what to be told a doubt is worth, in the mean, times all weights -/
noncomputable def wov (B : XB) (dd : Int) (M : XM) (e c go : Int) : Int := Vl (xp B dd M go true) (sta M) c - sumTo (fun k => M.wt e (chc M e k) * Vl (xp B dd M go true) (tel (sta M) e k) c) (mny M e).toNat
theorem wov_in (ho : B.ok) (hm : M.ok B.g) (hd : 0 ≤ dd ∧ dd < B.w) (cd : DCC M e c go) (hk : M.kn e = -1) (q : Vl (xp B dd M go true) (sta M) c < 1000000000000000) : 0 ≤ wov B dd M e c go ∧ wov B dd M e c go ≤ 1000000000000000 := by
  have om := hm.1
  have ce := cd.1
  have cc := cd.2.1
  have hn := M.n_in hm
  have mi := mny_in hm cd.1
  have hX := xp_ok (go := go) (bm := true) ho hm hd cd.2.2
  have hV := Vl_sol hX
  have d0 := sta_0 hm cd.1 hk
  have st := sta_in hm
  have inf := Sol.info hX hV (sta_st hm) cd.1 d0 cd.2.1.1 cd.2.1.2 q
  have i2 : sumTo (fun k => M.wt e (chc M e k) * Vl (xp B dd M go true) (tel (sta M) e k) c) (mny M e).toNat ≤ Vl (xp B dd M go true) (sta M) c := inf.2.1 rfl
  have i0 : sumTo (fun _ => (0 : Int)) (mny M e).toNat ≤ sumTo (fun k => M.wt e (chc M e k) * Vl (xp B dd M go true) (tel (sta M) e k) c) (mny M e).toNat := sumTo_le (fun k a b => by
    have kb : k < mny M e := by omega
    have cb := CanB.tel hm st.1 (CanB.sta hm) cd.1 d0 ⟨a, kb⟩
    have ts := tel_in st.1 (show 0 ≤ e ∧ e < 5 by omega) d0 (show 0 ≤ k ∧ k < 3 by omega)
    have vt := (hV (tel (sta M) e k) (CanB.st ⟨by omega, ts.2.1⟩ cb)).2 c cd.2.1.1 (by have := cd.2.1.2; show c < ((M.n.toNat : Nat) : Int); omega)
    have ca := chc_any (i := k) hm cd.1
    have wt := (hm.2.2.2.1 e cd.1.1 cd.1.2 (chc M e k) ca.1 (by omega)).1
    exact Int.mul_nonneg wt vt.1)
  rw [sumTo_z] at i0
  unfold wov
  omega
theorem c_worth (he : R32 e) (hc : R32 c) (hgo : R32 go) (hL : Lay h) (hX : CX h rb B dd M) (hW : 0 < M.n → CWy h 101 va zv B dd M true stp)
    (k1 : ¬ DCC M e c go → KL64 (iL (-9223372036854775808)) (sI h 1 18 (iI 1)))
    (k5 : DCC M e c go → ¬ M.kn e = -1 → KL64 (iL (-9223372036854775808)) (sI h 1 18 (iI 5)))
    (k6 : DCC M e c go → M.kn e = -1 → ¬ Vl (xp B dd M go true) (sta M) c < 1000000000000000 → ∀ h' va' zv' stp', Wed q0 h h' 101 va zv va' zv' B dd M true stp stp' → KL64 (iL (-9223372036854775808)) (sI h' 1 18 (iI 6)))
    (kt : DCC M e c go → M.kn e = -1 → Vl (xp B dd M go true) (sta M) c < 1000000000000000 → ∀ h' va' zv' stp', Wed q0 h h' 101 va zv va' zv' B dd M true stp stp' → KL64 (iL (lwt (wov B dd M e c go) ((xp B dd M go true).lft (sta M)) z)) (sI h' 1 18 (iI 0))) :
    XW (d + 24) 143 0 [.ref 1, .int (iI e), .int (iI c), .int (iI go), .int (iI (b2i z)), .null, .null, .null, .null, .null] [] h (KL KL64) := by
  obtain ⟨hB, hC, hP, hv⟩ := hX
  have hb := hB.1
  have e2 := hP.1.2.2.1
  have e3 := hP.1.2.2.2
  have wi := wov_in (B := B) (dd := dd) (M := M) (e := e) (c := c) (go := go)
  unfold DCC at k1 k5 k6 kt wi
  have main : (0 ≤ e ∧ e < M.nd) ∧ (0 ≤ c ∧ c < M.n) ∧ 0 ≤ go ∧ go < M.n → XW (d + 24) 143 26 [.ref 1, .int (iI e), .int (iI c), .int (iI go), .int (iI (b2i z)), .null, .null, .null, .null, .null] [] h (KL KL64) := by
    intro cd
    obtain ⟨ho, hm, hd, hS⟩ := hv (by omega)
    obtain ⟨hE, hI, hst, hN⟩ := hW (by omega)
    have kt := kt cd
    have k6 := k6 cd
    have k5 := k5 cd
    have om := hm.1
    have kn := kn_in hm cd.1
    have v34 : gI h 86 e.toNat = iI (M.kn e) := by rw [gI_A, (hP.2.2.1 e cd.1.1 cd.1.2).1]
    have vi := vl_in (bm := true) ho hm hd cd.2.2 cd.2.1
    have cv := cvv_lt vi.1
    have ls := lft_st ho hm hd cd.2.2
    have lw := lft_wt (B := B) (dd := dd) (go := go) (bm := true) (s := sta M) hm
    have st := sta_in hm
    by_cases qk : M.kn e = -1
    · have kt := kt qk
      have k6 := k6 qk
      have d0 := sta_0 hm cd.1 qk
      have wi := wi ho hm hd cd qk
      have fin : ∀ h1 va' zv' stp', Aim h h1 101 va zv va' zv' B dd M go true stp stp' → XW (d + 24) 143 62 [.ref 1, .int (iI e), .int (iI c), .int (iI go), .int (iI (b2i z)), .int (iI (sta M)), .null, .null, .null, .null] [] h1 (KL KL64) := by
        intro h1 va' zv' stp' A
        have hL1 := A.2.2.2.2.2.2.2
        have tail : ∀ h2, Fr (PWs 101 va') h1 h2 → Aimed h2 101 va' zv' B dd M go true stp' → XW (d + 24) 143 72 [.ref 1, .int (iI e), .int (iI c), .int (iI go), .int (iI (b2i z)), .int (iI (sta M)), .null, .null, .null, .null] [.long (iL (cvv (Vl (xp B dd M go true) (sta M) c)))] h2 (KL KL64) := by
          intro h2 f2 O2
          have hL2 := f2.lay hL1
          by_cases q : Vl (xp B dd M go true) (sta M) c < 1000000000000000
          · rw [cv.2.2 q]
            have wi := wi q
            have R := fun h3 (f3 : Fr (PWs 101 va') h2 h3) O3 => kt q h3 va' zv' stp' (Wed.of (Or.inr rfl) hL hm hI.1.1.2.2.2.2.2.2 A (pq0 (f2.trans f3)) O3 ⟨hI.1.2.2.2.1, hst⟩ cd.2.2 ⟨rfl, rfl⟩)
            have T : ∀ h3, Fr (PWs 101 va') h2 h3 → Aimed h3 101 va' zv' B dd M go true stp' → XW (d + 24) 143 108 [.ref 1, .int (iI e), .int (iI c), .int (iI go), .int (iI (b2i z)), .int (iI (sta M)), .long (iL (Vl (xp B dd M go true) (sta M) c)), .null, .long (iL (sumTo (fun k => M.wt e (chc M e k) * Vl (xp B dd M go true) (tel (sta M) e k) c) (mny M e).toNat)), .null] [] (sI h3 1 18 (iI 0)) (KL KL64) := by
              intro h3 f3 O3
              have R := R h3 f3 O3
              have P3 : CMp (sI h3 1 18 (iI 0)) M := O3.1.fr (((Fr.refl (pF [(1, 18)]) h3).sI 1 18 _ (by simp [pF]))) (fun a j p q _ => by simp [pF]; omega)
              have hL : Lay (sI h3 1 18 (iI 0)) := f3.lay hL2
              generalize sI h3 1 18 (iI 0) = h4 at *
              refine w_lload6 r_143_108 ?_
              refine w_lload8 r_143_110 ?_
              refine v_lsub r_143_112 ?_
              refine w_aload0 r_143_113 ?_
              refine w_getA (x := 80) r_143_114 (Lk_1 hL) (Lr_1_9 hL) (by decide) ?_
              refine w_iload5 r_143_117 ?_
              refine k_63 r_143_119 (Lk_80 hL) (Nat.le_of_ble_eq_true rfl) ?_
              refine c_totalWeight (d := d + 22) hL P3 hm st.1 ?_
              rw [← lw] 
              refine w_iload4 r_143_122 ?_
              refine k_161 r_143_124 (Nat.le_of_ble_eq_true rfl) ?_
              refine c_lowestTerms (a := wov B dd M e c go) (by omega) (by omega) ?_
              refine w_lret r_143_127 ?_
              exact R
            have hL := hL2
            refine w_lstore6 r_143_72 rfl ?_
            refine w_lload6 r_143_74 ?_
            refine w_ldc2 (v := iL (1152921504606846976)) r_143_76 rfl ?_
            refine v_lcmp r_143_79 (by first | exact zF_in _ _ _ | exact zA_in _ _ _ | omega) (by first | exact zF_in _ _ _ | exact zA_in _ _ _ | omega) ?_
            refine v_if_lt r_143_80 (by split <;> (try split) <;> omega) (fun _ => ?_) (fun q => absurd q (by (split <;> (try split) <;> omega)))
            refine w_aload0 r_143_90 ?_
            refine w_getA (x := 101) r_143_91 (Lk_1 hL) (Lr_1_12 hL) (by decide) ?_
            refine w_iload5 r_143_94 ?_
            refine w_iload1 r_143_96 ?_
            refine w_iload2 r_143_97 ?_
            refine k_104 r_143_98 (Lk_101 hL) (Nat.le_of_ble_eq_true rfl) ?_
            refine c_valueTold (d := d) (Or.inr rfl) ho hd hm cd.2.2 hL O2 (sta_st hm) cd.1 d0 cd.2.1 q (fun h3 f3 O3 => ?_)
            have hL := f3.lay hL
            refine w_lstore8 r_143_101 rfl ?_
            refine w_aload0 r_143_103 ?_
            refine w_iconst (v := iI (0)) r_143_104 rfl ?_
            refine w_putI r_143_105 (Lk_1 hL) (Ln_1 hL) ?_
            exact T h3 f3 O3
          · have W := Wed.of (Or.inr rfl) hL hm hI.1.1.2.2.2.2.2.2 A (pq0 f2) O2 ⟨hI.1.2.2.2.1, hst⟩ cd.2.2 ⟨rfl, rfl⟩
            have R := k6 q h2 va' zv' stp' W
            have hL := hL2
            have : ¬ cvv (Vl (xp B dd M go true) (sta M) c) < 1152921504606846976 := fun x => q (cv.2.1.1 x)
            refine w_lstore6 r_143_72 rfl ?_
            refine w_lload6 r_143_74 ?_
            refine w_ldc2 (v := iL (1152921504606846976)) r_143_76 rfl ?_
            refine v_lcmp r_143_79 (by first | exact zF_in _ _ _ | exact zA_in _ _ _ | omega) (by first | exact zF_in _ _ _ | exact zA_in _ _ _ | omega) ?_
            refine v_if_lt r_143_80 (by split <;> (try split) <;> omega) (fun q => absurd q (by (split <;> (try split) <;> omega))) (fun _ => ?_)
            refine w_aload0 r_143_83 ?_
            refine w_bipush (v := iI (6)) r_143_84 rfl ?_
            refine k_158 r_143_86 (Lk_1 hL) (Nat.le_of_ble_eq_true rfl) ?_
            refine c_refuseLong hL ?_
            refine w_lret r_143_89 ?_
            exact R
        have hL := hL1
        refine w_aload0 r_143_62 ?_
        refine w_getA (x := 101) r_143_63 (Lk_1 hL) (Lr_1_12 hL) (by decide) ?_
        refine w_iload5 r_143_66 ?_
        refine w_iload2 r_143_68 ?_
        refine k_103 r_143_69 (Lk_101 hL) (Nat.le_of_ble_eq_true rfl) ?_
        refine c_valueFrom (d := d + 1) (Or.inr rfl) ho hd hm cd.2.2 hL A.2.1 (sta_st hm) cd.2.1 (fun h2 f2 O2 => ?_)
        exact tail h2 f2 O2
      refine w_aload0 r_143_26 ?_
      refine w_getA (x := 80) r_143_27 (Lk_1 hL) (Lr_1_9 hL) (by decide) ?_
      refine w_getA (x := 86) r_143_30 (Lk_80 hL) (Lr_80_10 hL) (by decide) ?_
      refine w_iload1 r_143_33 ?_
      refine v_iald r_143_34 (Lk_86 hL) (Lz_86 hL) (by decide) (by omega) v34 ?_
      refine w_iconst (v := iI (-1)) r_143_35 rfl ?_
      refine v_ic_eq r_143_36 (by first | exact zF_in _ _ _ | exact zA_in _ _ _ | omega) (by first | exact zF_in _ _ _ | exact zA_in _ _ _ | omega) (fun _ => ?_) (fun q => absurd q (by omega))
      refine w_aload0 r_143_45 ?_
      refine w_getA (x := 80) r_143_46 (Lk_1 hL) (Lr_1_9 hL) (by decide) ?_
      refine k_56 r_143_49 (Lk_80 hL) (Nat.le_of_ble_eq_true rfl) ?_
      refine c_startState (d := d + 21) hL hP hm ?_
      refine w_istore5 r_143_52 rfl ?_
      refine w_aload0 r_143_54 ?_
      refine w_getA (x := 101) r_143_55 (Lk_1 hL) (Lr_1_12 hL) (by decide) ?_
      refine w_iload3 r_143_58 ?_
      refine k_102 r_143_59 (Lk_101 hL) (Nat.le_of_ble_eq_true rfl) ?_
      refine c_aim (d := d + 18) (Or.inr rfl) hL hb hB.2.2.2.1 hC ho hS hP hm hd cd.2.2 hE hI hst hN (fun h1 va' zv' stp' A => ?_)
      exact fin h1 va' zv' stp' A
    · have R := k5 qk
      refine w_aload0 r_143_26 ?_
      refine w_getA (x := 80) r_143_27 (Lk_1 hL) (Lr_1_9 hL) (by decide) ?_
      refine w_getA (x := 86) r_143_30 (Lk_80 hL) (Lr_80_10 hL) (by decide) ?_
      refine w_iload1 r_143_33 ?_
      refine v_iald r_143_34 (Lk_86 hL) (Lz_86 hL) (by decide) (by omega) v34 ?_
      refine w_iconst (v := iI (-1)) r_143_35 rfl ?_
      refine v_ic_eq r_143_36 (by first | exact zF_in _ _ _ | exact zA_in _ _ _ | omega) (by first | exact zF_in _ _ _ | exact zA_in _ _ _ | omega) (fun q => absurd q (by omega)) (fun _ => ?_)
      refine w_aload0 r_143_39 ?_
      refine w_iconst (v := iI (5)) r_143_40 rfl ?_
      refine k_158 r_143_41 (Lk_1 hL) (Nat.le_of_ble_eq_true rfl) ?_
      refine c_refuseLong hL ?_
      refine w_lret r_143_44 ?_
      exact R
  refine w_aload0 r_143_0 ?_
  refine w_getA (x := 80) r_143_1 (Lk_1 hL) (Lr_1_9 hL) (by decide) ?_
  refine w_iload1 r_143_4 ?_
  refine k_48 r_143_5 (Lk_80 hL) (Nat.le_of_ble_eq_true rfl) ?_
  refine c_hasDoubt (by omega) hL (fun c5 => ?_) (fun c5 => ?_)
  · refine v_if_eq r_143_8 (by first | exact zF_in _ _ _ | exact zA_in _ _ _ | omega) (fun q => absurd q (by omega)) (fun _ => ?_)
    refine w_aload0 r_143_11 ?_
    refine w_iload2 r_143_12 ?_
    refine w_iload3 r_143_13 ?_
    refine k_154 r_143_14 (Lk_1 hL) (Nat.le_of_ble_eq_true rfl) ?_
    refine c_areCells (by omega) (by omega) hL (fun c14 => ?_) (fun c14 => ?_)
    · refine v_if_ne r_143_17 (by first | exact zF_in _ _ _ | exact zA_in _ _ _ | omega) (fun _ => ?_) (fun q => absurd q (by omega))
      exact main (by omega)
    · refine v_if_ne r_143_17 (by first | exact zF_in _ _ _ | exact zA_in _ _ _ | omega) (fun q => absurd q (by omega)) (fun _ => ?_)
      refine w_aload0 r_143_20 ?_
      refine w_iconst (v := iI (1)) r_143_21 rfl ?_
      refine k_158 r_143_22 (Lk_1 hL) (Nat.le_of_ble_eq_true rfl) ?_
      refine c_refuseLong hL ?_
      refine w_lret r_143_25 ?_
      exact k1 (by omega)
  · refine v_if_eq r_143_8 (by first | exact zF_in _ _ _ | exact zA_in _ _ _ | omega) (fun _ => ?_) (fun q => absurd q (by omega))
    refine w_aload0 r_143_20 ?_
    refine w_iconst (v := iI (1)) r_143_21 rfl ?_
    refine k_158 r_143_22 (Lk_1 hL) (Nat.le_of_ble_eq_true rfl) ?_
    refine c_refuseLong hL ?_
    refine w_lret r_143_25 ?_
    exact k1 (by omega)
theorem m_worth (he : R32 e) (hc : R32 c) (hgo : R32 go) (hL : Lay h) (hX : MX h B dd M) (hS : 0 < M.n → MSl h B dd M)
    (k1 : ¬ DCC M e c go → KL64 (iL (-9223372036854775808)) (sI (hG h) 118 39 (iI 1)))
    (k5 : DCC M e c go → ¬ M.kn e = -1 → KL64 (iL (-9223372036854775808)) (sI (hG h) 118 39 (iI 5)))
    (k6 : DCC M e c go → M.kn e = -1 → ¬ Vl (xp B dd M go true) (sta M) c < 1000000000000000 → ∀ h', SvI (sI (hG h) 118 39 (iI 0)) h' B dd M go true 0 → KL64 (iL (-9223372036854775808)) (sI h' 118 39 (iI 6)))
    (kt : DCC M e c go → M.kn e = -1 → Vl (xp B dd M go true) (sta M) c < 1000000000000000 → ∀ h', SvI (sI (hG h) 118 39 (iI 0)) h' B dd M go true 0 → KL64 (iL (lwt (wov B dd M e c go) ((xp B dd M go true).lft (sta M)) z)) h') :
    XW (d + 7) 244 0 [.ref 118, .int (iI e), .int (iI c), .int (iI go), .int (iI (b2i z)), .null, .null, .null, .null, .null, .null] [] h (KL KL64) := by
  have ew := hX.n
  obtain ⟨hM, hQ, hP, hdd, hv⟩ := hX
  have e37 := hP.1.1
  have wi := wov_in (B := B) (dd := dd) (M := M) (e := e) (c := c) (go := go)
  unfold DCC at k1 k5 k6 kt wi
  have no : ∀ i : Int, 0 < i ∧ i ≤ 6 → KL64 (iL (-9223372036854775808)) (sI (hG h) 118 39 (iI i)) → XW (d + 7) 244 48 [.ref 118, .int (iI e), .int (iI c), .int (iI go), .int (iI (b2i z)), .null, .null, .null, .null, .null, .null] [.int (iI i), .ref 118] (hG h) (KL KL64) := by
    intro i hi R
    have hL := (hG_fr h).lay hL
    have g39 : gI (sI (hG h) 118 39 (iI i)) 118 39 = iI i := by rw [sI_here, if_pos rfl]
    generalize hG h = h1 at *
    refine w_putI r_244_48 (Lk_118 hL) (Ln_118 hL) ?_
    refine w_aload0 r_244_51 ?_
    refine v_getI r_244_52 (Lk_118 hL) g39 ?_
    refine v_if_le r_244_55 (by first | exact zF_in _ _ _ | exact zA_in _ _ _ | omega) (fun q => absurd q (by omega)) (fun _ => ?_)
    refine w_ldc2 (v := iL (-9223372036854775808)) r_244_58 rfl ?_
    refine w_lret r_244_61 ?_
    exact R
  have main : (0 ≤ e ∧ e < M.nd) ∧ (0 ≤ c ∧ c < M.n) ∧ 0 ≤ go ∧ go < M.n → XW (d + 7) 244 33 [.ref 118, .int (iI e), .int (iI c), .int (iI go), .int (iI (b2i z)), .null, .null, .null, .null, .null, .null] [.ref 118] (hG h) (KL KL64) := by
    intro cd
    obtain ⟨h12, ho, hm, hd⟩ := hv (by omega)
    have hS := hG_MSl (hS (by omega))
    have kt := kt cd
    have k6 := k6 cd
    have k5 := k5 cd
    have om := hm.1
    have hn := M.n_in hm
    have kn := kn_in hm cd.1
    have mi := mny_in hm cd.1
    have hL0 := (hG_fr h).lay hL
    have P0 := hG_MMp hP
    have v38 : gI (hG h) 137 e.toNat = iI (M.kn e) := by rw [gI_A, (P0.2.2.1 e cd.1.1 cd.1.2).2]
    by_cases qk : M.kn e = -1
    · have kt := kt qk
      have k6 := k6 qk
      have d0 := sta_0 hm cd.1 qk
      have wi := wi ho hm hd cd qk
      have F1 : Fr (pF [(118, 39)]) (hG h) (sI (hG h) 118 39 (iI 0)) := (Fr.refl _ _).sI 118 39 _ (by simp [pF])
      have Q1 : MBk (sI (hG h) 118 39 (iI 0)) B := (hG_MBk hQ).fr F1 (fun a j q => by simp [fpMB] at q; simp [pF]; omega)
      have P1 : MMp (sI (hG h) 118 39 (iI 0)) M := P0.fr F1 (fun a j p q => by simp [pF]; omega) (fun j p q => by simp [pF]; omega)
      have S1 : MSl (sI (hG h) 118 39 (iI 0)) B dd M := hS.fr F1 (fun j => by simp [pF]) (by simp [pF])
      have d1 : gI (sI (hG h) 118 39 (iI 0)) 118 38 = iI dd := by rw [sI_here, if_neg (by decide), ((hG_fr h).2 118 38 (by simp [pF])).1]; exact hdd
      have L1 := F1.lay hL0
      have vi := vl_in (bm := true) ho hm hd cd.2.2 cd.2.1
      have st := sta_in hm
      have ls := lft_st ho hm hd cd.2.2
      have g39 : gI (sI (hG h) 118 39 (iI 0)) 118 39 = iI 0 := by rw [sI_here, if_pos rfl]
      have start : XW (d + 7) 244 51 [.ref 118, .int (iI e), .int (iI c), .int (iI go), .int (iI (b2i z)), .null, .null, .null, .null, .null, .null] [] (sI (hG h) 118 39 (iI 0)) (KL KL64) := by
        generalize sI (hG h) 118 39 (iI 0) = h1 at *
        have fin : ∀ h2, SvI h1 h2 B dd M go true 0 → XW (d + 7) 244 69 [.ref 118, .int (iI e), .int (iI c), .int (iI go), .int (iI (b2i z)), .null, .null, .null, .null, .null, .null] [.long (iL (frV (Vl (xp B dd M go true) (sta M) c)))] h2 (KL KL64) := by
          intro h2 I
          have hL := I.1.lay L1
          have P2 : MMp h2 M := P1.fr I.1 (fun a j p q => by simp [pO, pA, pF]; omega) (fun j p q => by simp [pO, pA, pF]; omega)
          unfold frV
          by_cases q : Vl (xp B dd M go true) (sta M) c < 1000000000000000
          · have R := kt q h2 I
            have wi := wi q
            have v112 : gI h2 142 e.toNat = iI (mny M e) := by rw [gI_A, (I.2.1.1 e cd.1.1 cd.1.2).1]
            have loop : ∀ i : Nat, i ≤ (mny M e).toNat → XW (d + 7) 244 105 [.ref 118, .int (iI e), .int (iI c), .int (iI go), .int (iI (b2i z)), .long (iL (Vl (xp B dd M go true) (sta M) c - sumTo (fun k => M.wt e (chc M e k) * Vl (xp B dd M go true) (tel (sta M) e k) c) i)), .null, .int (iI (sta M)), .long (iL ((xp B dd M go true).lft (sta M))), .null, .int (iI i)] [] h2 (KL KL64) := by
              refine upto _ ?_ ?_
              · refine w_iload10 r_244_105 ?_
                refine w_aload0 r_244_107 ?_
                refine w_getA (x := 142) r_244_108 (Lk_118 hL) (Lr_118_53 hL) (by decide) ?_
                refine w_iload1 r_244_111 ?_
                refine v_iald r_244_112 (Lk_142 hL) (Lz_142 hL) (by decide) (by omega) v112 ?_
                refine v_ic_ge r_244_113 (by first | exact zF_in _ _ _ | exact zA_in _ _ _ | omega) (by first | exact zF_in _ _ _ | exact zA_in _ _ _ | omega) (fun _ => ?_) (fun q => absurd q (by omega))
                refine w_lload5 r_244_158 ?_
                refine w_lload8 r_244_160 ?_
                refine w_iload4 r_244_162 ?_
                refine k_231 r_244_164 (Nat.le_of_ble_eq_true rfl) ?_
                refine m_part (d := d + 5) (a := wov B dd M e c go) (by omega) (by omega) ?_
                refine w_lret r_244_167 ?_
                exact R
              · intro i hi ih
                have i1 : (i : Int) < mny M e := by omega
                have cb := CanB.tel hm st.1 (CanB.sta hm) cd.1 d0 ⟨Int.natCast_nonneg i, i1⟩
                have ts := tel_in st.1 (show 0 ≤ e ∧ e < 5 by omega) d0 (show 0 ≤ (i : Int) ∧ (i : Int) < 3 by omega)
                have vz : zL h2 140 (100 * tel (sta M) e i + c) = Vl (xp B dd M go true) (tel (sta M) e i) c := I.2.2.1 (tel (sta M) e i) (by omega) (by omega) (by omega) cb c cd.2.1.1 cd.2.1.2
                have v147 : gL h2 140 (100 * (sta M + ((i : Int) + 1) * 4 ^ e.toNat) + c).toNat = iL (Vl (xp B dd M go true) (tel (sta M) e i) c) := by
                  rw [← vz]
                  exact (iL_of _).1
                have tb : 0 ≤ sta M + ((i : Int) + 1) * 4 ^ e.toNat ∧ sta M + ((i : Int) + 1) * 4 ^ e.toNat < 1024 := ⟨by have := ts.1; unfold tel at this; omega, ts.2.1⟩
                have ca := chc_any (i := (i : Int)) hm cd.1
                have wt := hm.2.2.2.1 e cd.1.1 cd.1.2 (chc M e i) ca.1 (by omega)
                have J := ih
                have em : Vl (xp B dd M go true) (sta M) c - sumTo (fun k => M.wt e (chc M e k) * Vl (xp B dd M go true) (tel (sta M) e k) c) (i + 1) = Vl (xp B dd M go true) (sta M) c - sumTo (fun k => M.wt e (chc M e k) * Vl (xp B dd M go true) (tel (sta M) e k) c) i - M.wt e (chc M e i) * Vl (xp B dd M go true) (tel (sta M) e i) c := by
                  show Vl (xp B dd M go true) (sta M) c - (sumTo (fun k => M.wt e (chc M e k) * Vl (xp B dd M go true) (tel (sta M) e k) c) i + M.wt e (chc M e i) * Vl (xp B dd M go true) (tel (sta M) e i) c) = _
                  omega
                rw [em] at J
                rw [Int.natCast_add, Int.natCast_one] at J
                refine w_iload10 r_244_105 ?_
                refine w_aload0 r_244_107 ?_
                refine w_getA (x := 142) r_244_108 (Lk_118 hL) (Lr_118_53 hL) (by decide) ?_
                refine w_iload1 r_244_111 ?_
                refine v_iald r_244_112 (Lk_142 hL) (Lz_142 hL) (by decide) (by omega) v112 ?_
                refine v_ic_ge r_244_113 (by first | exact zF_in _ _ _ | exact zA_in _ _ _ | omega) (by first | exact zF_in _ _ _ | exact zA_in _ _ _ | omega) (fun q => absurd q (by omega)) (fun _ => ?_)
                refine w_lload5 r_244_116 ?_
                refine w_aload0 r_244_118 ?_
                refine w_iload1 r_244_119 ?_
                refine w_iload10 r_244_120 ?_
                refine k_216 r_244_122 (Lk_118 hL) (Nat.le_of_ble_eq_true rfl) ?_
                refine m_weightOf hL P2 hm I.2.1.1 cd.1 ⟨Int.natCast_nonneg i, i1⟩ ?_
                refine v_i2l r_244_125 (by first | exact zF_in _ _ _ | exact zA_in _ _ _ | omega) ?_
                refine w_aload0 r_244_126 ?_
                refine w_getA (x := 140) r_244_127 (Lk_118 hL) (Lr_118_48 hL) (by decide) ?_
                refine w_bipush (v := iI (100)) r_244_130 rfl ?_
                refine w_iload7 r_244_132 ?_
                refine w_iload10 r_244_134 ?_
                refine w_iconst (v := iI (1)) r_244_136 rfl ?_
                refine v_iadd r_244_137 ?_
                refine w_iload1 r_244_138 ?_
                refine k_212 r_244_139 (Nat.le_of_ble_eq_true rfl) ?_
                refine m_power (by omega) ?_
                refine v_imul r_244_142 ?_
                refine v_iadd r_244_143 ?_
                refine v_imul r_244_144 ?_
                refine w_iload2 r_244_145 ?_
                refine v_iadd r_244_146 ?_
                refine v_lald r_244_147 (Lk_140 hL) (Lz_140 hL) (by decide) (by omega) v147 ?_
                refine v_lmul r_244_148 ?_
                refine v_lsub r_244_149 ?_
                refine w_lstore5 r_244_150 rfl ?_
                refine w_iinc10 r_244_152 rfl (iI_add _ _) ?_
                refine w_goto r_244_155 ?_
                exact J
            have J := loop 0 (by omega)
            rw [show Vl (xp B dd M go true) (sta M) c - sumTo (fun k => M.wt e (chc M e k) * Vl (xp B dd M go true) (tel (sta M) e k) c) 0 = Vl (xp B dd M go true) (sta M) c from Int.sub_zero _] at J
            rw [if_pos q]
            refine w_lstore5 r_244_69 rfl ?_
            refine w_lload5 r_244_71 ?_
            refine w_lconst (v := iL 0) r_244_73 rfl ?_
            refine v_lcmp r_244_74 (by first | exact zF_in _ _ _ | exact zA_in _ _ _ | omega) (by first | exact zF_in _ _ _ | exact zA_in _ _ _ | omega) ?_
            refine v_if_ge r_244_75 (by split <;> (try split) <;> omega) (fun _ => ?_) (fun q => absurd q (by (split <;> (try split) <;> omega)))
            refine w_aload0 r_244_88 ?_
            refine k_215 r_244_89 (Lk_118 hL) (Nat.le_of_ble_eq_true rfl) ?_
            refine m_base (d := d + 5) hL P2 hm I.2.1.1 ?_
            refine w_istore7 r_244_92 rfl ?_
            refine w_aload0 r_244_94 ?_
            refine w_iload7 r_244_95 ?_
            refine k_218 r_244_97 (Lk_118 hL) (Nat.le_of_ble_eq_true rfl) ?_
            refine m_left (d := d + 4) hL P2 hm I.2.1.1 st.1 ?_
            refine w_lstore8 r_244_100 rfl ?_
            refine w_iconst (v := iI (0)) r_244_102 rfl ?_
            refine w_istore10 r_244_103 rfl ?_
            exact J
          · have R := k6 q h2 I
            rw [if_neg q]
            refine w_lstore5 r_244_69 rfl ?_
            refine w_lload5 r_244_71 ?_
            refine w_lconst (v := iL 0) r_244_73 rfl ?_
            refine v_lcmp r_244_74 (by first | exact zF_in _ _ _ | exact zA_in _ _ _ | omega) (by first | exact zF_in _ _ _ | exact zA_in _ _ _ | omega) ?_
            refine v_if_ge r_244_75 (by split <;> (try split) <;> omega) (fun q => absurd q (by (split <;> (try split) <;> omega))) (fun _ => ?_)
            refine w_aload0 r_244_78 ?_
            refine w_bipush (v := iI (6)) r_244_79 rfl ?_
            refine w_putI r_244_81 (Lk_118 hL) (Ln_118 hL) ?_
            refine w_ldc2 (v := iL (-9223372036854775808)) r_244_84 rfl ?_
            refine w_lret r_244_87 ?_
            exact R
        have hL := L1
        refine w_aload0 r_244_51 ?_
        refine v_getI r_244_52 (Lk_118 hL) g39 ?_
        refine v_if_le r_244_55 (by first | exact zF_in _ _ _ | exact zA_in _ _ _ | omega) (fun _ => ?_) (fun q => absurd q (by omega))
        refine w_aload0 r_244_62 ?_
        refine w_iload2 r_244_63 ?_
        refine w_iload3 r_244_64 ?_
        refine w_iconst (v := iI (1)) r_244_65 rfl ?_
        refine k_228 r_244_66 (Lk_118 hL) (Nat.le_of_ble_eq_true rfl) ?_
        refine m_from (d := d) (bm := true) hL Q1 ho P1 hm d1 hd cd.2.2 cd.2.1 S1 (fun h2 I => ?_)
        exact fin h2 I
      have hL := hL0
      refine w_aload0 r_244_33 ?_
      refine w_getA (x := 137) r_244_34 (Lk_118 hL) (Lr_118_45 hL) (by decide) ?_
      refine w_iload1 r_244_37 ?_
      refine v_iald r_244_38 (Lk_137 hL) (Lz_137 hL) (by decide) (by omega) v38 ?_
      refine w_iconst (v := iI (-1)) r_244_39 rfl ?_
      refine v_ic_eq r_244_40 (by first | exact zF_in _ _ _ | exact zA_in _ _ _ | omega) (by first | exact zF_in _ _ _ | exact zA_in _ _ _ | omega) (fun _ => ?_) (fun q => absurd q (by omega))
      refine w_iconst (v := iI (0)) r_244_47 rfl ?_
      refine w_putI r_244_48 (Lk_118 hL) (Ln_118 hL) ?_
      exact start
    · have R := no 5 (by decide) (k5 qk)
      have hL := hL0
      refine w_aload0 r_244_33 ?_
      refine w_getA (x := 137) r_244_34 (Lk_118 hL) (Lr_118_45 hL) (by decide) ?_
      refine w_iload1 r_244_37 ?_
      refine v_iald r_244_38 (Lk_137 hL) (Lz_137 hL) (by decide) (by omega) v38 ?_
      refine w_iconst (v := iI (-1)) r_244_39 rfl ?_
      refine v_ic_eq r_244_40 (by first | exact zF_in _ _ _ | exact zA_in _ _ _ | omega) (by first | exact zF_in _ _ _ | exact zA_in _ _ _ | omega) (fun q => absurd q (by omega)) (fun _ => ?_)
      refine w_iconst (v := iI (5)) r_244_43 rfl ?_
      refine w_goto r_244_44 ?_
      exact R
  refine w_aload0 r_244_0 ?_
  refine k_164 r_244_1 (Lk_118 hL) (Nat.le_of_ble_eq_true rfl) ?_
  refine m_good hL ?_
  refine w_aload0 r_244_4 ?_
  refine w_aload0 r_244_5 ?_
  refine w_iload1 r_244_6 ?_
  refine k_198 r_244_7 (Lk_118 hL) (Nat.le_of_ble_eq_true rfl) ?_
  refine m_isDoubt (h0 := h) (by first | exact zF_in _ _ _ | exact zA_in _ _ _ | omega) hL ⟨rfl, rfl, rfl, rfl, rfl, rfl⟩ hM (fun c7 => ?_) (fun c7 => ?_)
  · refine v_if_eq r_244_10 (by first | exact zF_in _ _ _ | exact zA_in _ _ _ | omega) (fun q => absurd q (by omega)) (fun _ => ?_)
    refine w_aload0 r_244_13 ?_
    refine w_iload2 r_244_14 ?_
    refine k_197 r_244_15 (Lk_118 hL) (Nat.le_of_ble_eq_true rfl) ?_
    refine m_isCell (h0 := h) (by first | exact zF_in _ _ _ | exact zA_in _ _ _ | omega) hL ⟨rfl, rfl, rfl, rfl, rfl, rfl⟩ hM (fun c15 => ?_) (fun c15 => ?_)
    · refine v_if_eq r_244_18 (by first | exact zF_in _ _ _ | exact zA_in _ _ _ | omega) (fun q => absurd q (by omega)) (fun _ => ?_)
      refine w_aload0 r_244_21 ?_
      refine w_iload3 r_244_22 ?_
      refine k_197 r_244_23 (Lk_118 hL) (Nat.le_of_ble_eq_true rfl) ?_
      refine m_isCell (h0 := h) (by first | exact zF_in _ _ _ | exact zA_in _ _ _ | omega) hL ⟨rfl, rfl, rfl, rfl, rfl, rfl⟩ hM (fun c23 => ?_) (fun c23 => ?_)
      · refine v_if_ne r_244_26 (by first | exact zF_in _ _ _ | exact zA_in _ _ _ | omega) (fun _ => ?_) (fun q => absurd q (by omega))
        exact main (by omega)
      · refine v_if_ne r_244_26 (by first | exact zF_in _ _ _ | exact zA_in _ _ _ | omega) (fun q => absurd q (by omega)) (fun _ => ?_)
        refine w_iconst (v := iI (1)) r_244_29 rfl ?_
        refine w_goto r_244_30 ?_
        exact no 1 (by decide) (k1 (by omega))
    · refine v_if_eq r_244_18 (by first | exact zF_in _ _ _ | exact zA_in _ _ _ | omega) (fun _ => ?_) (fun q => absurd q (by omega))
      refine w_iconst (v := iI (1)) r_244_29 rfl ?_
      refine w_goto r_244_30 ?_
      exact no 1 (by decide) (k1 (by omega))
  · refine v_if_eq r_244_10 (by first | exact zF_in _ _ _ | exact zA_in _ _ _ | omega) (fun _ => ?_) (fun q => absurd q (by omega))
    refine w_iconst (v := iI (1)) r_244_29 rfl ?_
    refine w_goto r_244_30 ?_
    exact no 1 (by decide) (k1 (by omega))
end OP7
