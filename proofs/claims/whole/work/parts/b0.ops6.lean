/-! calls: spared -/
section OP6
variable {d : Nat} {h h' h1 : XH} {K : Int32 → XH → Prop} {KL64 : Int64 → XH → Prop} {KU : XH → Prop} {B : XB} {dd : Int} {M : XM} {rb va zv : Nat} {c go e stp : Int} {z bm : Bool}
/-- a doubt and two cells -/
def DCC (M : XM) (e c go : Int) : Prop := (0 ≤ e ∧ e < M.nd) ∧ (0 ≤ c ∧ c < M.n) ∧ 0 ≤ go ∧ go < M.n
theorem sta_0 (hm : M.ok B.g) (he : 0 ≤ e ∧ e < M.nd) (hk : M.kn e = -1) : dg (sta M) e = 0 := by
  have o := hm.1
  have k := kix_in hm he
  have := (sta_in hm).2 e he.1 (by omega)
  rw [if_pos he.2] at this
  omega
theorem kn_in (hm : M.ok B.g) (he : 0 ≤ e ∧ e < M.nd) : -1 ≤ M.kn e ∧ M.kn e ≤ 8 := by
  have o := hm.1
  have k := (hm.2.2.1 e he.1 he.2).2.2.2
  omega
/-- what to be told a doubt spares at most -/
noncomputable def spv (B : XB) (dd : Int) (M : XM) (e c go : Int) : Int := Vl (xp B dd M go false) (sta M) c - maxTo (fun k => Vl (xp B dd M go false) (tel (sta M) e k) c) (mny M e).toNat
theorem c_spared (he : R32 e) (hc : R32 c) (hgo : R32 go) (hL : Lay h) (hX : CX h rb B dd M) (hW : 0 < M.n → CWy h 96 va zv B dd M false stp)
    (k1 : ¬ DCC M e c go → K (iI (-1)) (sI h 1 18 (iI 1)))
    (k5 : DCC M e c go → ¬ M.kn e = -1 → K (iI (-1)) (sI h 1 18 (iI 5)))
    (k6 : DCC M e c go → M.kn e = -1 → ¬ Vl (xp B dd M go false) (sta M) c < 1000000000000000 → ∀ h' va' zv' stp', Wed q0 h h' 96 va zv va' zv' B dd M false stp stp' → K (iI (-1)) (sI h' 1 18 (iI 6)))
    (kt : DCC M e c go → M.kn e = -1 → Vl (xp B dd M go false) (sta M) c < 1000000000000000 → ∀ h' va' zv' stp', Wed q0 h h' 96 va zv va' zv' B dd M false stp stp' → K (iI (spv B dd M e c go)) (sI h' 1 18 (iI 0))) :
    XW (d + 24) 144 0 [.ref 1, .int (iI e), .int (iI c), .int (iI go), .null, .null, .null] [] h (KI K) := by
  obtain ⟨hB, hC, hP, hv⟩ := hX
  have hb := hB.1
  have e2 := hP.1.2.2.1
  have e3 := hP.1.2.2.2
  unfold DCC at k1 k5 k6 kt
  have main : (0 ≤ e ∧ e < M.nd) ∧ (0 ≤ c ∧ c < M.n) ∧ 0 ≤ go ∧ go < M.n → XW (d + 24) 144 26 [.ref 1, .int (iI e), .int (iI c), .int (iI go), .null, .null, .null] [] h (KI K) := by
    intro cd
    obtain ⟨ho, hm, hd, hS⟩ := hv (by omega)
    obtain ⟨hE, hI, hst, hN⟩ := hW (by omega)
    have kt := kt cd
    have k6 := k6 cd
    have k5 := k5 cd
    have om := hm.1
    have kn := kn_in hm cd.1
    have v34 : gI h 86 e.toNat = iI (M.kn e) := by rw [gI_A, (hP.2.2.1 e cd.1.1 cd.1.2).1]
    have vi := vl_in (bm := false) ho hm hd cd.2.2 cd.2.1
    have cv := cvv_lt vi.1
    by_cases qk : M.kn e = -1
    · have kt := kt qk
      have k6 := k6 qk
      have d0 := sta_0 hm cd.1 qk
      have fin : ∀ h1 va' zv' stp', Aim h h1 96 va zv va' zv' B dd M go false stp stp' → XW (d + 24) 144 62 [.ref 1, .int (iI e), .int (iI c), .int (iI go), .int (iI (sta M)), .null, .null] [] h1 (KI K) := by
        intro h1 va' zv' stp' A
        have hL1 := A.2.2.2.2.2.2.2
        have tail : ∀ h2, Fr (PWs 96 va') h1 h2 → Aimed h2 96 va' zv' B dd M go false stp' → XW (d + 24) 144 72 [.ref 1, .int (iI e), .int (iI c), .int (iI go), .int (iI (sta M)), .null, .null] [.long (iL (cvv (Vl (xp B dd M go false) (sta M) c)))] h2 (KI K) := by
          intro h2 f2 O2
          have hL2 := f2.lay hL1
          by_cases q : Vl (xp B dd M go false) (sta M) c < 1000000000000000
          · rw [cv.2.2 q]
            have R := fun h3 (f3 : Fr (PWs 96 va') h2 h3) O3 => kt q h3 va' zv' stp' (Wed.of (Or.inl rfl) hL hm hI.1.1.2.2.2.2.2.2 A (pq0 (f2.trans f3)) O3 ⟨hI.1.2.2.2.1, hst⟩ cd.2.2 ⟨rfl, rfl⟩)
            have hL := hL2
            refine w_lstore5 r_144_72 rfl ?_
            refine w_lload5 r_144_74 ?_
            refine w_ldc2 (v := iL (1152921504606846976)) r_144_76 rfl ?_
            refine v_lcmp r_144_79 (by first | exact zF_in _ _ _ | exact zA_in _ _ _ | omega) (by first | exact zF_in _ _ _ | exact zA_in _ _ _ | omega) ?_
            refine v_if_lt r_144_80 (by split <;> (try split) <;> omega) (fun _ => ?_) (fun q => absurd q (by (split <;> (try split) <;> omega)))
            refine w_aload0 r_144_90 ?_
            refine w_lload5 r_144_91 ?_
            refine w_aload0 r_144_93 ?_
            refine w_getA (x := 96) r_144_94 (Lk_1 hL) (Lr_1_11 hL) (by decide) ?_
            refine w_iload4 r_144_97 ?_
            refine w_iload1 r_144_99 ?_
            refine w_iload2 r_144_100 ?_
            refine k_104 r_144_101 (Lk_96 hL) (Nat.le_of_ble_eq_true rfl) ?_
            refine c_valueTold (d := d) (Or.inl rfl) ho hd hm cd.2.2 hL O2 (sta_st hm) cd.1 d0 cd.2.1 q (fun h3 f3 O3 => ?_)
            have hL := f3.lay hL
            have R := R h3 f3 O3
            refine v_lsub r_144_104 ?_
            refine v_l2i r_144_105 ?_
            refine k_156 r_144_106 (Lk_1 hL) (Nat.le_of_ble_eq_true rfl) ?_
            refine c_answer hL ?_
            refine w_iret r_144_109 ?_
            exact R
          · have W := Wed.of (Or.inl rfl) hL hm hI.1.1.2.2.2.2.2.2 A (pq0 f2) O2 ⟨hI.1.2.2.2.1, hst⟩ cd.2.2 ⟨rfl, rfl⟩
            have R := k6 q h2 va' zv' stp' W
            have hL := hL2
            have : ¬ cvv (Vl (xp B dd M go false) (sta M) c) < 1152921504606846976 := fun x => q (cv.2.1.1 x)
            refine w_lstore5 r_144_72 rfl ?_
            refine w_lload5 r_144_74 ?_
            refine w_ldc2 (v := iL (1152921504606846976)) r_144_76 rfl ?_
            refine v_lcmp r_144_79 (by first | exact zF_in _ _ _ | exact zA_in _ _ _ | omega) (by first | exact zF_in _ _ _ | exact zA_in _ _ _ | omega) ?_
            refine v_if_lt r_144_80 (by split <;> (try split) <;> omega) (fun q => absurd q (by (split <;> (try split) <;> omega))) (fun _ => ?_)
            refine w_aload0 r_144_83 ?_
            refine w_bipush (v := iI (6)) r_144_84 rfl ?_
            refine k_157 r_144_86 (Lk_1 hL) (Nat.le_of_ble_eq_true rfl) ?_
            refine c_refuse hL ?_
            refine w_iret r_144_89 ?_
            exact R
        have hL := hL1
        refine w_aload0 r_144_62 ?_
        refine w_getA (x := 96) r_144_63 (Lk_1 hL) (Lr_1_11 hL) (by decide) ?_
        refine w_iload4 r_144_66 ?_
        refine w_iload2 r_144_68 ?_
        refine k_103 r_144_69 (Lk_96 hL) (Nat.le_of_ble_eq_true rfl) ?_
        refine c_valueFrom (d := d + 1) (Or.inl rfl) ho hd hm cd.2.2 hL A.2.1 (sta_st hm) cd.2.1 (fun h2 f2 O2 => ?_)
        exact tail h2 f2 O2
      refine w_aload0 r_144_26 ?_
      refine w_getA (x := 80) r_144_27 (Lk_1 hL) (Lr_1_9 hL) (by decide) ?_
      refine w_getA (x := 86) r_144_30 (Lk_80 hL) (Lr_80_10 hL) (by decide) ?_
      refine w_iload1 r_144_33 ?_
      refine v_iald r_144_34 (Lk_86 hL) (Lz_86 hL) (by decide) (by omega) v34 ?_
      refine w_iconst (v := iI (-1)) r_144_35 rfl ?_
      refine v_ic_eq r_144_36 (by first | exact zF_in _ _ _ | exact zA_in _ _ _ | omega) (by first | exact zF_in _ _ _ | exact zA_in _ _ _ | omega) (fun _ => ?_) (fun q => absurd q (by omega))
      refine w_aload0 r_144_45 ?_
      refine w_getA (x := 80) r_144_46 (Lk_1 hL) (Lr_1_9 hL) (by decide) ?_
      refine k_56 r_144_49 (Lk_80 hL) (Nat.le_of_ble_eq_true rfl) ?_
      refine c_startState (d := d + 21) hL hP hm ?_
      refine w_istore4 r_144_52 rfl ?_
      refine w_aload0 r_144_54 ?_
      refine w_getA (x := 96) r_144_55 (Lk_1 hL) (Lr_1_11 hL) (by decide) ?_
      refine w_iload3 r_144_58 ?_
      refine k_102 r_144_59 (Lk_96 hL) (Nat.le_of_ble_eq_true rfl) ?_
      refine c_aim (d := d + 18) (Or.inl rfl) hL hb hB.2.2.2.1 hC ho hS hP hm hd cd.2.2 hE hI hst hN (fun h1 va' zv' stp' A => ?_)
      exact fin h1 va' zv' stp' A
    · have R := k5 qk
      refine w_aload0 r_144_26 ?_
      refine w_getA (x := 80) r_144_27 (Lk_1 hL) (Lr_1_9 hL) (by decide) ?_
      refine w_getA (x := 86) r_144_30 (Lk_80 hL) (Lr_80_10 hL) (by decide) ?_
      refine w_iload1 r_144_33 ?_
      refine v_iald r_144_34 (Lk_86 hL) (Lz_86 hL) (by decide) (by omega) v34 ?_
      refine w_iconst (v := iI (-1)) r_144_35 rfl ?_
      refine v_ic_eq r_144_36 (by first | exact zF_in _ _ _ | exact zA_in _ _ _ | omega) (by first | exact zF_in _ _ _ | exact zA_in _ _ _ | omega) (fun q => absurd q (by omega)) (fun _ => ?_)
      refine w_aload0 r_144_39 ?_
      refine w_iconst (v := iI (5)) r_144_40 rfl ?_
      refine k_157 r_144_41 (Lk_1 hL) (Nat.le_of_ble_eq_true rfl) ?_
      refine c_refuse hL ?_
      refine w_iret r_144_44 ?_
      exact R
  refine w_aload0 r_144_0 ?_
  refine w_getA (x := 80) r_144_1 (Lk_1 hL) (Lr_1_9 hL) (by decide) ?_
  refine w_iload1 r_144_4 ?_
  refine k_48 r_144_5 (Lk_80 hL) (Nat.le_of_ble_eq_true rfl) ?_
  refine c_hasDoubt (by omega) hL (fun c5 => ?_) (fun c5 => ?_)
  · refine v_if_eq r_144_8 (by first | exact zF_in _ _ _ | exact zA_in _ _ _ | omega) (fun q => absurd q (by omega)) (fun _ => ?_)
    refine w_aload0 r_144_11 ?_
    refine w_iload2 r_144_12 ?_
    refine w_iload3 r_144_13 ?_
    refine k_154 r_144_14 (Lk_1 hL) (Nat.le_of_ble_eq_true rfl) ?_
    refine c_areCells (by omega) (by omega) hL (fun c14 => ?_) (fun c14 => ?_)
    · refine v_if_ne r_144_17 (by first | exact zF_in _ _ _ | exact zA_in _ _ _ | omega) (fun _ => ?_) (fun q => absurd q (by omega))
      exact main (by omega)
    · refine v_if_ne r_144_17 (by first | exact zF_in _ _ _ | exact zA_in _ _ _ | omega) (fun q => absurd q (by omega)) (fun _ => ?_)
      refine w_aload0 r_144_20 ?_
      refine w_iconst (v := iI (1)) r_144_21 rfl ?_
      refine k_157 r_144_22 (Lk_1 hL) (Nat.le_of_ble_eq_true rfl) ?_
      refine c_refuse hL ?_
      refine w_iret r_144_25 ?_
      exact k1 (by omega)
  · refine v_if_eq r_144_8 (by first | exact zF_in _ _ _ | exact zA_in _ _ _ | omega) (fun _ => ?_) (fun q => absurd q (by omega))
    refine w_aload0 r_144_20 ?_
    refine w_iconst (v := iI (1)) r_144_21 rfl ?_
    refine k_157 r_144_22 (Lk_1 hL) (Nat.le_of_ble_eq_true rfl) ?_
    refine c_refuse hL ?_
    refine w_iret r_144_25 ?_
    exact k1 (by omega)
theorem m_spared (he : R32 e) (hc : R32 c) (hgo : R32 go) (hL : Lay h) (hX : MX h B dd M) (hS : 0 < M.n → MSl h B dd M)
    (k1 : ¬ DCC M e c go → K (iI (-1)) (sI (hG h) 118 39 (iI 1)))
    (k5 : DCC M e c go → ¬ M.kn e = -1 → K (iI (-1)) (sI (hG h) 118 39 (iI 5)))
    (k6 : DCC M e c go → M.kn e = -1 → ¬ Vl (xp B dd M go false) (sta M) c < 1000000000000000 → ∀ h', SvI (hG h) h' B dd M go false 0 → K (iI (-1)) (sI h' 118 39 (iI 6)))
    (kt : DCC M e c go → M.kn e = -1 → Vl (xp B dd M go false) (sta M) c < 1000000000000000 → ∀ h', SvI (hG h) h' B dd M go false 0 → K (iI (spv B dd M e c go)) h') :
    XW (d + 7) 245 0 [.ref 118, .int (iI e), .int (iI c), .int (iI go), .null, .null, .null, .null, .null, .null, .null, .null] [] h (KI K) := by
  have ew := hX.n
  obtain ⟨hM, hQ, hP, hdd, hv⟩ := hX
  have e37 := hP.1.1
  unfold DCC at k1 k5 k6 kt
  have no : ∀ i : Int, 0 < i ∧ i ≤ 6 → K (iI (-1)) (sI (hG h) 118 39 (iI i)) → XW (d + 7) 245 47 [.ref 118, .int (iI e), .int (iI c), .int (iI go), .null, .null, .null, .null, .null, .null, .null, .null] [.int (iI i)] (hG h) (KI K) := by
    intro i hi R
    have hL := (hG_fr h).lay hL
    refine w_istore4 r_245_47 rfl ?_
    refine w_iload4 r_245_49 ?_
    refine v_if_le r_245_51 (by first | exact zF_in _ _ _ | exact zA_in _ _ _ | omega) (fun q => absurd q (by omega)) (fun _ => ?_)
    refine w_aload0 r_245_54 ?_
    refine w_iload4 r_245_55 ?_
    refine k_165 r_245_57 (Lk_118 hL) (Nat.le_of_ble_eq_true rfl) ?_
    refine m_no hL ?_
    refine w_iret r_245_60 ?_
    exact R
  have main : (0 ≤ e ∧ e < M.nd) ∧ (0 ≤ c ∧ c < M.n) ∧ 0 ≤ go ∧ go < M.n → XW (d + 7) 245 32 [.ref 118, .int (iI e), .int (iI c), .int (iI go), .null, .null, .null, .null, .null, .null, .null, .null] [] (hG h) (KI K) := by
    intro cd
    obtain ⟨h12, ho, hm, hd⟩ := hv (by omega)
    have hS := hG_MSl (hS (by omega))
    have kt := kt cd
    have k6 := k6 cd
    have k5 := k5 cd
    have om := hm.1
    have hn := M.n_in hm
    have kn := kn_in hm cd.1
    have mi := mny_in hm cd.1
    have hL := (hG_fr h).lay hL
    have Q1 := hG_MBk hQ
    have P1 := hG_MMp hP
    have d1 : gI (hG h) 118 38 = iI dd := by rw [((hG_fr h).2 118 38 (by simp [pF])).1]; exact hdd
    have v38 : gI (hG h) 137 e.toNat = iI (M.kn e) := by rw [gI_A, (P1.2.2.1 e cd.1.1 cd.1.2).2]
    have vi := vl_in (bm := false) ho hm hd cd.2.2 cd.2.1
    have st := sta_in hm
    by_cases qk : M.kn e = -1
    · have kt := kt qk
      have k6 := k6 qk
      have d0 := sta_0 hm cd.1 qk
      generalize hG h = h1 at *
      have fin : ∀ h2, SvI h1 h2 B dd M go false 0 → XW (d + 7) 245 68 [.ref 118, .int (iI e), .int (iI c), .int (iI go), .int (iI 0), .null, .null, .null, .null, .null, .null, .null] [.long (iL (frV (Vl (xp B dd M go false) (sta M) c)))] h2 (KI K) := by
        intro h2 I
        have hL := I.1.lay hL
        have P2 : MMp h2 M := P1.fr I.1 (fun a j p q => by simp [pO, pA, pF]; omega) (fun j p q => by simp [pO, pA, pF]; omega)
        unfold frV
        by_cases q : Vl (xp B dd M go false) (sta M) c < 1000000000000000
        · have R := kt q h2 I
          have hX := xp_ok (go := go) (bm := false) ho hm hd cd.2.2
          have hV := Vl_sol hX
          have inf := Sol.info hX hV (sta_st hm) cd.1 d0 cd.2.1.1 cd.2.1.2 q
          have v97 : gI h2 142 e.toNat = iI (mny M e) := by rw [gI_A, (I.2.1.1 e cd.1.1 cd.1.2).1]
          have loop : ∀ i : Nat, i ≤ (mny M e).toNat → ∀ X10 : Value, XW (d + 7) 245 90 [.ref 118, .int (iI e), .int (iI c), .int (iI go), .int (iI 0), .long (iL (Vl (xp B dd M go false) (sta M) c)), .null, .long (iL (maxTo (fun k => Vl (xp B dd M go false) (tel (sta M) e k) c) i)), .null, .int (iI i), X10, .null] [] h2 (KI K) := by
            refine upto _ ?_ ?_
            · intro X10
              refine w_iload9 r_245_90 ?_
              refine w_aload0 r_245_92 ?_
              refine w_getA (x := 142) r_245_93 (Lk_118 hL) (Lr_118_53 hL) (by decide) ?_
              refine w_iload1 r_245_96 ?_
              refine v_iald r_245_97 (Lk_142 hL) (Lz_142 hL) (by decide) (by omega) v97 ?_
              refine v_ic_ge r_245_98 (by first | exact zF_in _ _ _ | exact zA_in _ _ _ | omega) (by first | exact zF_in _ _ _ | exact zA_in _ _ _ | omega) (fun _ => ?_) (fun q => absurd q (by omega))
              refine w_lload5 r_245_150 ?_
              refine w_lload7 r_245_152 ?_
              refine v_lsub r_245_154 ?_
              refine v_l2i r_245_155 ?_
              refine w_iret r_245_156 ?_
              exact R
            · intro i hi ih X10
              have i1 : (i : Int) < mny M e := by omega
              have cb := CanB.tel hm st.1 (CanB.sta hm) cd.1 d0 ⟨Int.natCast_nonneg i, i1⟩
              have ts := tel_in st.1 (show 0 ≤ e ∧ e < 5 by omega) d0 (show 0 ≤ (i : Int) ∧ (i : Int) < 3 by omega)
              have vt := (hV (tel (sta M) e i) (CanB.st ⟨by omega, ts.2.1⟩ cb)).2 c cd.2.1.1 (by show c < ((M.n.toNat : Nat) : Int); omega)
              have vz : zL h2 140 (100 * tel (sta M) e i + c) = Vl (xp B dd M go false) (tel (sta M) e i) c := I.2.2.1 (tel (sta M) e i) (by omega) (by omega) (by omega) cb c cd.2.1.1 cd.2.1.2
              have v124 : gL h2 140 (100 * (sta M + ((i : Int) + 1) * 4 ^ e.toNat) + c).toNat = iL (Vl (xp B dd M go false) (tel (sta M) e i) c) := by
                rw [← vz]
                exact (iL_of _).1
              have tb : 0 ≤ sta M + ((i : Int) + 1) * 4 ^ e.toNat ∧ sta M + ((i : Int) + 1) * 4 ^ e.toNat < 1024 := ⟨by have := ts.1; unfold tel at this; omega, ts.2.1⟩
              have mx := maxTo_in (f := fun k => Vl (xp B dd M go false) (tel (sta M) e k) c) (b := 1000000000000000) (n := i) (by decide) (fun k a b => Int.le_of_lt (inf.1 k a (by show k < mny M e; omega)))
              have J := ih
              have em : maxTo (fun k => Vl (xp B dd M go false) (tel (sta M) e k) c) (i + 1) = max (maxTo (fun k => Vl (xp B dd M go false) (tel (sta M) e k) c) i) (Vl (xp B dd M go false) (tel (sta M) e i) c) := rfl
              rw [em] at J
              rw [Int.natCast_add, Int.natCast_one] at J
              generalize maxTo (fun k => Vl (xp B dd M go false) (tel (sta M) e k) c) i = mxv at mx J ⊢
              generalize Vl (xp B dd M go false) (tel (sta M) e i) c = vv at vt v124 J
              by_cases w : vv ≤ mxv
              · rw [show max mxv vv = mxv by omega] at J
                refine w_iload9 r_245_90 ?_
                refine w_aload0 r_245_92 ?_
                refine w_getA (x := 142) r_245_93 (Lk_118 hL) (Lr_118_53 hL) (by decide) ?_
                refine w_iload1 r_245_96 ?_
                refine v_iald r_245_97 (Lk_142 hL) (Lz_142 hL) (by decide) (by omega) v97 ?_
                refine v_ic_ge r_245_98 (by first | exact zF_in _ _ _ | exact zA_in _ _ _ | omega) (by first | exact zF_in _ _ _ | exact zA_in _ _ _ | omega) (fun q => absurd q (by omega)) (fun _ => ?_)
                refine w_aload0 r_245_101 ?_
                refine w_getA (x := 140) r_245_102 (Lk_118 hL) (Lr_118_48 hL) (by decide) ?_
                refine w_bipush (v := iI (100)) r_245_105 rfl ?_
                refine w_aload0 r_245_107 ?_
                refine k_215 r_245_108 (Lk_118 hL) (Nat.le_of_ble_eq_true rfl) ?_
                refine m_base (d := d + 5) hL P2 hm I.2.1.1 ?_
                refine w_iload9 r_245_111 ?_
                refine w_iconst (v := iI (1)) r_245_113 rfl ?_
                refine v_iadd r_245_114 ?_
                refine w_iload1 r_245_115 ?_
                refine k_212 r_245_116 (Nat.le_of_ble_eq_true rfl) ?_
                refine m_power (by omega) ?_
                refine v_imul r_245_119 ?_
                refine v_iadd r_245_120 ?_
                refine v_imul r_245_121 ?_
                refine w_iload2 r_245_122 ?_
                refine v_iadd r_245_123 ?_
                refine v_lald r_245_124 (Lk_140 hL) (Lz_140 hL) (by decide) (by omega) v124 ?_
                refine w_lstore10 r_245_125 rfl ?_
                refine w_lload10 r_245_127 ?_
                refine w_lload7 r_245_129 ?_
                refine v_lcmp r_245_131 (by first | exact zF_in _ _ _ | exact zA_in _ _ _ | omega) (by first | exact zF_in _ _ _ | exact zA_in _ _ _ | omega) ?_
                refine v_if_le r_245_132 (by split <;> (try split) <;> omega) (fun _ => ?_) (fun q => absurd q (by (split <;> (try split) <;> omega)))
                refine w_lload7 r_245_140 ?_
                refine w_lstore7 r_245_142 rfl ?_
                refine w_iinc9 r_245_144 rfl (iI_add _ _) ?_
                refine w_goto r_245_147 ?_
                exact J _
              · rw [show max mxv vv = vv by omega] at J
                refine w_iload9 r_245_90 ?_
                refine w_aload0 r_245_92 ?_
                refine w_getA (x := 142) r_245_93 (Lk_118 hL) (Lr_118_53 hL) (by decide) ?_
                refine w_iload1 r_245_96 ?_
                refine v_iald r_245_97 (Lk_142 hL) (Lz_142 hL) (by decide) (by omega) v97 ?_
                refine v_ic_ge r_245_98 (by first | exact zF_in _ _ _ | exact zA_in _ _ _ | omega) (by first | exact zF_in _ _ _ | exact zA_in _ _ _ | omega) (fun q => absurd q (by omega)) (fun _ => ?_)
                refine w_aload0 r_245_101 ?_
                refine w_getA (x := 140) r_245_102 (Lk_118 hL) (Lr_118_48 hL) (by decide) ?_
                refine w_bipush (v := iI (100)) r_245_105 rfl ?_
                refine w_aload0 r_245_107 ?_
                refine k_215 r_245_108 (Lk_118 hL) (Nat.le_of_ble_eq_true rfl) ?_
                refine m_base (d := d + 5) hL P2 hm I.2.1.1 ?_
                refine w_iload9 r_245_111 ?_
                refine w_iconst (v := iI (1)) r_245_113 rfl ?_
                refine v_iadd r_245_114 ?_
                refine w_iload1 r_245_115 ?_
                refine k_212 r_245_116 (Nat.le_of_ble_eq_true rfl) ?_
                refine m_power (by omega) ?_
                refine v_imul r_245_119 ?_
                refine v_iadd r_245_120 ?_
                refine v_imul r_245_121 ?_
                refine w_iload2 r_245_122 ?_
                refine v_iadd r_245_123 ?_
                refine v_lald r_245_124 (Lk_140 hL) (Lz_140 hL) (by decide) (by omega) v124 ?_
                refine w_lstore10 r_245_125 rfl ?_
                refine w_lload10 r_245_127 ?_
                refine w_lload7 r_245_129 ?_
                refine v_lcmp r_245_131 (by first | exact zF_in _ _ _ | exact zA_in _ _ _ | omega) (by first | exact zF_in _ _ _ | exact zA_in _ _ _ | omega) ?_
                refine v_if_le r_245_132 (by split <;> (try split) <;> omega) (fun q => absurd q (by (split <;> (try split) <;> omega))) (fun _ => ?_)
                refine w_lload10 r_245_135 ?_
                refine w_goto r_245_137 ?_
                refine w_lstore7 r_245_142 rfl ?_
                refine w_iinc9 r_245_144 rfl (iI_add _ _) ?_
                refine w_goto r_245_147 ?_
                exact J _
          have J := loop 0 (by omega) .null
          rw [if_pos q]
          refine w_lstore5 r_245_68 rfl ?_
          refine w_lload5 r_245_70 ?_
          refine w_lconst (v := iL 0) r_245_72 rfl ?_
          refine v_lcmp r_245_73 (by first | exact zF_in _ _ _ | exact zA_in _ _ _ | omega) (by first | exact zF_in _ _ _ | exact zA_in _ _ _ | omega) ?_
          refine v_if_ge r_245_74 (by split <;> (try split) <;> omega) (fun _ => ?_) (fun q => absurd q (by (split <;> (try split) <;> omega)))
          refine w_lconst (v := iL 0) r_245_84 rfl ?_
          refine w_lstore7 r_245_85 rfl ?_
          refine w_iconst (v := iI (0)) r_245_87 rfl ?_
          refine w_istore9 r_245_88 rfl ?_
          exact J
        · have R := k6 q h2 I
          rw [if_neg q]
          refine w_lstore5 r_245_68 rfl ?_
          refine w_lload5 r_245_70 ?_
          refine w_lconst (v := iL 0) r_245_72 rfl ?_
          refine v_lcmp r_245_73 (by first | exact zF_in _ _ _ | exact zA_in _ _ _ | omega) (by first | exact zF_in _ _ _ | exact zA_in _ _ _ | omega) ?_
          refine v_if_ge r_245_74 (by split <;> (try split) <;> omega) (fun q => absurd q (by (split <;> (try split) <;> omega))) (fun _ => ?_)
          refine w_aload0 r_245_77 ?_
          refine w_bipush (v := iI (6)) r_245_78 rfl ?_
          refine k_165 r_245_80 (Lk_118 hL) (Nat.le_of_ble_eq_true rfl) ?_
          refine m_no hL ?_
          refine w_iret r_245_83 ?_
          exact R
      have J : XW (d + 7) 245 61 [.ref 118, .int (iI e), .int (iI c), .int (iI go), .int (iI 0), .null, .null, .null, .null, .null, .null, .null] [] h1 (KI K) := by
        refine w_aload0 r_245_61 ?_
        refine w_iload2 r_245_62 ?_
        refine w_iload3 r_245_63 ?_
        refine w_iconst (v := iI (0)) r_245_64 rfl ?_
        refine k_228 r_245_65 (Lk_118 hL) (Nat.le_of_ble_eq_true rfl) ?_
        refine m_from (d := d) (bm := false) hL Q1 ho P1 hm d1 hd cd.2.2 cd.2.1 hS (fun h2 I => ?_)
        exact fin h2 I
      refine w_aload0 r_245_32 ?_
      refine w_getA (x := 137) r_245_33 (Lk_118 hL) (Lr_118_45 hL) (by decide) ?_
      refine w_iload1 r_245_36 ?_
      refine v_iald r_245_37 (Lk_137 hL) (Lz_137 hL) (by decide) (by omega) v38 ?_
      refine w_iconst (v := iI (-1)) r_245_38 rfl ?_
      refine v_ic_eq r_245_39 (by first | exact zF_in _ _ _ | exact zA_in _ _ _ | omega) (by first | exact zF_in _ _ _ | exact zA_in _ _ _ | omega) (fun _ => ?_) (fun q => absurd q (by omega))
      refine w_iconst (v := iI (0)) r_245_46 rfl ?_
      refine w_istore4 r_245_47 rfl ?_
      refine w_iload4 r_245_49 ?_
      refine v_if_le r_245_51 (by first | exact zF_in _ _ _ | exact zA_in _ _ _ | omega) (fun _ => ?_) (fun q => absurd q (by omega))
      exact J
    · have R := no 5 (by decide) (k5 qk)
      generalize hG h = h1 at *
      refine w_aload0 r_245_32 ?_
      refine w_getA (x := 137) r_245_33 (Lk_118 hL) (Lr_118_45 hL) (by decide) ?_
      refine w_iload1 r_245_36 ?_
      refine v_iald r_245_37 (Lk_137 hL) (Lz_137 hL) (by decide) (by omega) v38 ?_
      refine w_iconst (v := iI (-1)) r_245_38 rfl ?_
      refine v_ic_eq r_245_39 (by first | exact zF_in _ _ _ | exact zA_in _ _ _ | omega) (by first | exact zF_in _ _ _ | exact zA_in _ _ _ | omega) (fun q => absurd q (by omega)) (fun _ => ?_)
      refine w_iconst (v := iI (5)) r_245_42 rfl ?_
      refine w_goto r_245_43 ?_
      exact R
  have hL1 := (hG_fr h).lay hL
  refine w_aload0 r_245_0 ?_
  refine k_164 r_245_1 (Lk_118 hL) (Nat.le_of_ble_eq_true rfl) ?_
  refine m_good hL ?_
  refine w_aload0 r_245_4 ?_
  refine w_iload1 r_245_5 ?_
  refine k_198 r_245_6 (Lk_118 hL) (Nat.le_of_ble_eq_true rfl) ?_
  refine m_isDoubt (h0 := h) (by first | exact zF_in _ _ _ | exact zA_in _ _ _ | omega) hL ⟨rfl, rfl, rfl, rfl, rfl, rfl⟩ hM (fun c6 => ?_) (fun c6 => ?_)
  · refine v_if_eq r_245_9 (by first | exact zF_in _ _ _ | exact zA_in _ _ _ | omega) (fun q => absurd q (by omega)) (fun _ => ?_)
    refine w_aload0 r_245_12 ?_
    refine w_iload2 r_245_13 ?_
    refine k_197 r_245_14 (Lk_118 hL) (Nat.le_of_ble_eq_true rfl) ?_
    refine m_isCell (h0 := h) (by first | exact zF_in _ _ _ | exact zA_in _ _ _ | omega) hL ⟨rfl, rfl, rfl, rfl, rfl, rfl⟩ hM (fun c14 => ?_) (fun c14 => ?_)
    · refine v_if_eq r_245_17 (by first | exact zF_in _ _ _ | exact zA_in _ _ _ | omega) (fun q => absurd q (by omega)) (fun _ => ?_)
      refine w_aload0 r_245_20 ?_
      refine w_iload3 r_245_21 ?_
      refine k_197 r_245_22 (Lk_118 hL) (Nat.le_of_ble_eq_true rfl) ?_
      refine m_isCell (h0 := h) (by first | exact zF_in _ _ _ | exact zA_in _ _ _ | omega) hL ⟨rfl, rfl, rfl, rfl, rfl, rfl⟩ hM (fun c22 => ?_) (fun c22 => ?_)
      · refine v_if_ne r_245_25 (by first | exact zF_in _ _ _ | exact zA_in _ _ _ | omega) (fun _ => ?_) (fun q => absurd q (by omega))
        exact main (by omega)
      · refine v_if_ne r_245_25 (by first | exact zF_in _ _ _ | exact zA_in _ _ _ | omega) (fun q => absurd q (by omega)) (fun _ => ?_)
        refine w_iconst (v := iI (1)) r_245_28 rfl ?_
        refine w_goto r_245_29 ?_
        exact no 1 (by decide) (k1 (by omega))
    · refine v_if_eq r_245_17 (by first | exact zF_in _ _ _ | exact zA_in _ _ _ | omega) (fun _ => ?_) (fun q => absurd q (by omega))
      refine w_iconst (v := iI (1)) r_245_28 rfl ?_
      refine w_goto r_245_29 ?_
      exact no 1 (by decide) (k1 (by omega))
  · refine v_if_eq r_245_9 (by first | exact zF_in _ _ _ | exact zA_in _ _ _ | omega) (fun _ => ?_) (fun q => absurd q (by omega))
    refine w_iconst (v := iI (1)) r_245_28 rfl ?_
    refine w_goto r_245_29 ?_
    exact no 1 (by decide) (k1 (by omega))
end OP6
