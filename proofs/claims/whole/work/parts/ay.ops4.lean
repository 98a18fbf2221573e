/-! calls: values, the Model -/
/-- what the Model keeps of its last solving -/
def MSl (h : XH) (B : XB) (dd : Int) (M : XM) : Prop := (zF h 118 51 = 0 ∨ zF h 118 51 = 1) ∧ ∀ go bm, zF h 118 51 = 1 → zF h 118 49 = go → zF h 118 50 = b2i bm → MTb h B dd M ∧ Rws h B dd M go bm 0
section OP4
variable {d : Nat} {h h' h1 : XH} {K : Int32 → XH → Prop} {KL64 : Int64 → XH → Prop} {KU : XH → Prop} {B : XB} {dd : Int} {M : XM} {c go e : Int} {bm : Bool}
theorem b2i_inj {a b : Bool} (q : b2i a = b2i b) : a = b := by cases a <;> cases b <;> first | rfl | (exact absurd q (by decide))
theorem SvI.msl (I : SvI h h' B dd M go bm 0) : MSl h' B dd M := ⟨Or.inr I.2.2.2.2.2, fun go' bm' _ q1 q2 => by
  have e1 : go' = go := by rw [← q1, I.2.2.2.1]
  have e2 : bm' = bm := b2i_inj (by rw [← q2, I.2.2.2.2.1])
  rw [e1, e2]
  exact ⟨I.2.1, I.2.2.1⟩⟩
theorem MSl.fr {P : Nat → Nat → Bool} (f : Fr P h h') (hp : ∀ j, P 140 j = false ∧ P 141 j = false ∧ P 142 j = false ∧ P 151 j = false ∧ P 152 j = false) (hp2 : P 118 49 = false ∧ P 118 50 = false ∧ P 118 51 = false) (hS : MSl h B dd M) : MSl h' B dd M := by
  refine ⟨by rw [f.F hp2.2.2]; exact hS.1, fun go bm q1 q2 q3 => ?_⟩
  rw [f.F hp2.2.2] at q1
  rw [f.F hp2.1] at q2
  rw [f.F hp2.2.1] at q3
  have o := hS.2 go bm q1 q2 q3
  refine ⟨o.1.fr f (fun j => (hp j).2), fun s' a b e hb c c0 c1 => ?_⟩
  have := o.2 s' a b e hb c c0 c1
  unfold vr at this ⊢
  rw [f.L (hp _).1]; exact this
theorem hG_MSl (hS : MSl h B dd M) : MSl (hG h) B dd M := hS.fr (hG_fr h) (fun j => by simp [pF]) (by simp [pF])
def frV (v : Int) : Int := if v < 1000000000000000 then v else -1
theorem m_from (hL : Lay h) (hQ : MBk h B) (ho : B.ok) (hP : MMp h M) (hm : M.ok B.g) (hdd : gI h 118 38 = iI dd) (hd : 0 ≤ dd ∧ dd < B.w) (hg : 0 ≤ go ∧ go < M.n) (hc : 0 ≤ c ∧ c < M.n) (hS : MSl h B dd M)
    (kk : ∀ h', SvI h h' B dd M go bm 0 → KL64 (iL (frV (Vl (xp B dd M go bm) (sta M) c))) h') : XW (d + 6) 228 0 [.ref 118, .int (iI c), .int (iI go), .int (iI (b2i bm)), .null, .null] [] h (KL KL64) := by
  have hn := M.n_in hm
  have st := sta_in hm
  have vi := vl_in (bm := bm) ho hm hd hg hc
  have fin : ∀ h1, SvI h h1 B dd M go bm 0 → XW (d + 6) 228 6 [.ref 118, .int (iI c), .int (iI go), .int (iI (b2i bm)), .null, .null] [] h1 (KL KL64) := by
    intro h1 I
    have R := kk h1 I
    have hL := I.1.lay hL
    have P1 : MMp h1 M := hP.fr I.1 (fun a j p q => by simp [pO, pA, pF]; omega) (fun j p q => by simp [pO, pA, pF]; omega)
    have vz : zL h1 140 (100 * sta M + c) = Vl (xp B dd M go bm) (sta M) c := I.2.2.1 (sta M) (by omega) (by omega) (by omega) (CanB.sta hm) c hc.1 hc.2
    have v19 : gL h1 140 (100 * sta M + c).toNat = iL (Vl (xp B dd M go bm) (sta M) c) := by rw [← vz]; exact (iL_of _).1
    unfold frV at R
    by_cases q : Vl (xp B dd M go bm) (sta M) c < 1000000000000000
    · rw [if_pos q] at R
      refine w_aload0 r_228_6 ?_
      refine w_getA (x := 140) r_228_7 (Lk_118 hL) (Lr_118_48 hL) (by decide) ?_
      refine w_bipush (v := iI (100)) r_228_10 rfl ?_
      refine w_aload0 r_228_12 ?_
      refine k_215 r_228_13 (Lk_118 hL) (Nat.le_of_ble_eq_true rfl) ?_
      refine m_base (d := d + 4) hL P1 hm I.2.1.1 ?_
      refine v_imul r_228_16 ?_
      refine w_iload1 r_228_17 ?_
      refine v_iadd r_228_18 ?_
      refine v_lald r_228_19 (Lk_140 hL) (Lz_140 hL) (by decide) (by omega) v19 ?_
      refine w_lstore4 r_228_20 rfl ?_
      refine w_lload4 r_228_22 ?_
      refine w_ldc2 (v := iL (1000000000000000)) r_228_24 rfl ?_
      refine v_lcmp r_228_27 (by first | exact zF_in _ _ _ | exact zA_in _ _ _ | omega) (by first | exact zF_in _ _ _ | exact zA_in _ _ _ | omega) ?_
      refine v_if_lt r_228_28 (by split <;> (try split) <;> omega) (fun _ => ?_) (fun q => absurd q (by (split <;> (try split) <;> omega)))
      refine w_lload4 r_228_37 ?_
      refine w_lret r_228_39 ?_
      exact R
    · rw [if_neg q] at R
      refine w_aload0 r_228_6 ?_
      refine w_getA (x := 140) r_228_7 (Lk_118 hL) (Lr_118_48 hL) (by decide) ?_
      refine w_bipush (v := iI (100)) r_228_10 rfl ?_
      refine w_aload0 r_228_12 ?_
      refine k_215 r_228_13 (Lk_118 hL) (Nat.le_of_ble_eq_true rfl) ?_
      refine m_base (d := d + 4) hL P1 hm I.2.1.1 ?_
      refine v_imul r_228_16 ?_
      refine w_iload1 r_228_17 ?_
      refine v_iadd r_228_18 ?_
      refine v_lald r_228_19 (Lk_140 hL) (Lz_140 hL) (by decide) (by omega) v19 ?_
      refine w_lstore4 r_228_20 rfl ?_
      refine w_lload4 r_228_22 ?_
      refine w_ldc2 (v := iL (1000000000000000)) r_228_24 rfl ?_
      refine v_lcmp r_228_27 (by first | exact zF_in _ _ _ | exact zA_in _ _ _ | omega) (by first | exact zF_in _ _ _ | exact zA_in _ _ _ | omega) ?_
      refine v_if_lt r_228_28 (by split <;> (try split) <;> omega) (fun q => absurd q (by (split <;> (try split) <;> omega))) (fun _ => ?_)
      refine w_ldc2 (v := iL (-1)) r_228_31 rfl ?_
      refine w_goto r_228_34 ?_
      refine w_lret r_228_39 ?_
      exact R
  refine w_aload0 r_228_0 ?_
  refine w_iload2 r_228_1 ?_
  refine w_iload3 r_228_2 ?_
  refine k_226 r_228_3 (Lk_118 hL) (Nat.le_of_ble_eq_true rfl) ?_
  refine m_solve (d := d) hL hQ ho hP hm hdd hd hg hS.1 (fun a b e => hS.2 go bm a b e) (fun h1 I => ?_)
  exact fin h1 I
theorem m_worst (hc : R32 c) (hgo : R32 go) (hL : Lay h) (hX : MX h B dd M) (hS : 0 < M.n → MSl h B dd M)
    (k1 : ¬ ((0 ≤ c ∧ c < M.n) ∧ 0 ≤ go ∧ go < M.n) → K (iI (-1)) (sI (hG h) 118 39 (iI 1)))
    (k6 : (0 ≤ c ∧ c < M.n) ∧ 0 ≤ go ∧ go < M.n → ¬ Vl (xp B dd M go false) (sta M) c < 1000000000000000 → ∀ h', SvI (hG h) h' B dd M go false 0 → K (iI (-1)) (sI h' 118 39 (iI 6)))
    (kt : (0 ≤ c ∧ c < M.n) ∧ 0 ≤ go ∧ go < M.n → Vl (xp B dd M go false) (sta M) c < 1000000000000000 → ∀ h', SvI (hG h) h' B dd M go false 0 → K (iI (Vl (xp B dd M go false) (sta M) c)) h') :
    XW (d + 7) 229 0 [.ref 118, .int (iI c), .int (iI go), .null, .null] [] h (KI K) := by
  have ew := hX.n
  obtain ⟨hM, hQ, hP, hdd, hv⟩ := hX
  have main : (0 ≤ c ∧ c < M.n) ∧ 0 ≤ go ∧ go < M.n → XW (d + 7) 229 26 [.ref 118, .int (iI c), .int (iI go), .null, .null] [] (hG h) (KI K) := by
    intro cd
    obtain ⟨h12, ho, hm, hd⟩ := hv (by omega)
    have hS := hG_MSl (hS (by omega))
    have kt := kt cd
    have k6 := k6 cd
    have hL := (hG_fr h).lay hL
    have Q1 := hG_MBk hQ
    have P1 := hG_MMp hP
    have d1 : gI (hG h) 118 38 = iI dd := by rw [((hG_fr h).2 118 38 (by simp [pF])).1]; exact hdd
    have vi := vl_in (bm := false) ho hm hd cd.2 cd.1
    generalize hG h = h1 at *
    have fin : ∀ h2, SvI h1 h2 B dd M go false 0 → XW (d + 7) 229 33 [.ref 118, .int (iI c), .int (iI go), .null, .null] [.long (iL (frV (Vl (xp B dd M go false) (sta M) c)))] h2 (KI K) := by
      intro h2 I
      have hL := I.1.lay hL
      unfold frV
      by_cases q : Vl (xp B dd M go false) (sta M) c < 1000000000000000
      · have R := kt q h2 I
        rw [if_pos q]
        refine w_lstore3 r_229_33 rfl ?_
        refine w_lload3 r_229_34 ?_
        refine w_lconst (v := iL 0) r_229_35 rfl ?_
        refine v_lcmp r_229_36 (by first | exact zF_in _ _ _ | exact zA_in _ _ _ | omega) (by first | exact zF_in _ _ _ | exact zA_in _ _ _ | omega) ?_
        refine v_if_ge r_229_37 (by split <;> (try split) <;> omega) (fun _ => ?_) (fun q => absurd q (by (split <;> (try split) <;> omega)))
        refine w_lload3 r_229_49 ?_
        refine v_l2i r_229_50 ?_
        refine w_iret r_229_51 ?_
        exact R
      · have R := k6 q h2 I
        rw [if_neg q]
        refine w_lstore3 r_229_33 rfl ?_
        refine w_lload3 r_229_34 ?_
        refine w_lconst (v := iL 0) r_229_35 rfl ?_
        refine v_lcmp r_229_36 (by first | exact zF_in _ _ _ | exact zA_in _ _ _ | omega) (by first | exact zF_in _ _ _ | exact zA_in _ _ _ | omega) ?_
        refine v_if_ge r_229_37 (by split <;> (try split) <;> omega) (fun q => absurd q (by (split <;> (try split) <;> omega))) (fun _ => ?_)
        refine w_aload0 r_229_40 ?_
        refine w_bipush (v := iI (6)) r_229_41 rfl ?_
        refine k_165 r_229_43 (Lk_118 hL) (Nat.le_of_ble_eq_true rfl) ?_
        refine m_no hL ?_
        refine w_goto r_229_46 ?_
        refine w_iret r_229_51 ?_
        exact R
    refine w_aload0 r_229_26 ?_
    refine w_iload1 r_229_27 ?_
    refine w_iload2 r_229_28 ?_
    refine w_iconst (v := iI (0)) r_229_29 rfl ?_
    refine k_228 r_229_30 (Lk_118 hL) (Nat.le_of_ble_eq_true rfl) ?_
    refine m_from (d := d) (bm := false) hL Q1 ho P1 hm d1 hd cd.2 cd.1 hS (fun h2 I => ?_)
    exact fin h2 I
  refine w_aload0 r_229_0 ?_
  refine k_164 r_229_1 (Lk_118 hL) (Nat.le_of_ble_eq_true rfl) ?_
  refine m_good hL ?_
  refine w_aload0 r_229_4 ?_
  refine w_iload1 r_229_5 ?_
  refine k_197 r_229_6 (Lk_118 hL) (Nat.le_of_ble_eq_true rfl) ?_
  refine m_isCell (h0 := h) (by first | exact zF_in _ _ _ | exact zA_in _ _ _ | omega) hL ⟨rfl, rfl, rfl, rfl, rfl, rfl⟩ hM (fun c6 => ?_) (fun c6 => ?_)
  · refine v_if_eq r_229_9 (by first | exact zF_in _ _ _ | exact zA_in _ _ _ | omega) (fun q => absurd q (by omega)) (fun _ => ?_)
    refine w_aload0 r_229_12 ?_
    refine w_iload2 r_229_13 ?_
    refine k_197 r_229_14 (Lk_118 hL) (Nat.le_of_ble_eq_true rfl) ?_
    refine m_isCell (h0 := h) (by first | exact zF_in _ _ _ | exact zA_in _ _ _ | omega) hL ⟨rfl, rfl, rfl, rfl, rfl, rfl⟩ hM (fun c14 => ?_) (fun c14 => ?_)
    · refine v_if_ne r_229_17 (by first | exact zF_in _ _ _ | exact zA_in _ _ _ | omega) (fun _ => ?_) (fun q => absurd q (by omega))
      exact main (by omega)
    · refine v_if_ne r_229_17 (by first | exact zF_in _ _ _ | exact zA_in _ _ _ | omega) (fun q => absurd q (by omega)) (fun _ => ?_)
      refine w_aload0 r_229_20 ?_
      refine w_iconst (v := iI (1)) r_229_21 rfl ?_
      refine k_165 r_229_22 (Lk_118 hL) (Nat.le_of_ble_eq_true rfl) ?_
      refine m_no hL ?_
      refine w_iret r_229_25 ?_
      exact k1 (by omega)
  · refine v_if_eq r_229_9 (by first | exact zF_in _ _ _ | exact zA_in _ _ _ | omega) (fun _ => ?_) (fun q => absurd q (by omega))
    refine w_aload0 r_229_20 ?_
    refine w_iconst (v := iI (1)) r_229_21 rfl ?_
    refine k_165 r_229_22 (Lk_118 hL) (Nat.le_of_ble_eq_true rfl) ?_
    refine m_no hL ?_
    refine w_iret r_229_25 ?_
    exact k1 (by omega)
end OP4
