/-! calls: run, the Model -/
section OPB
variable {d : Nat} {h h' h1 : XH} {K : Int32 → XH → Prop} {KU : XH → Prop} {B : XB} {dd : Int} {M : XM} {c go e t : Int} {z bm : Bool}
theorem MTb.lists (f : Fr (pA [141, 142]) h h') (l : MLs h' M) (hT : MTb h B dd M) : MTb h' B dd M := ⟨l, hT.2.1.fr f (fun j => by simp [pA]), hT.2.2.fr f (fun j => by simp [pA])⟩
theorem MSl.lists (f : Fr (pA [141, 142]) h h') (l : MLs h' M) (hS : MSl h B dd M) : MSl h' B dd M := by
  refine ⟨by rw [f.F (by simp [pA])]; exact hS.1, fun go bm q1 q2 q3 => ?_⟩
  rw [f.F (by simp [pA])] at q1 q2 q3
  have o := hS.2 go bm q1 q2 q3
  refine ⟨o.1.lists f l, fun s' a b e hb c c0 c1 => ?_⟩
  have := o.2 s' a b e hb c c0 c1
  unfold vr at this ⊢
  rw [f.L (by simp [pA])]; exact this
theorem m_run (hc : R32 c) (hgo : R32 go) (ht : R32 t) (hL : Lay h) (hX : MX h B dd M) (hS : 0 < M.n → MSl h B dd M)
    (k1 : ¬ ((0 ≤ c ∧ c < M.n) ∧ 0 ≤ go ∧ go < M.n) → K (iI (-1)) (sI (hG h) 118 39 (iI 1)))
    (k2 : (0 ≤ c ∧ c < M.n) ∧ 0 ≤ go ∧ go < M.n → ¬ (0 ≤ t ∧ t < trm M) → ∀ h', Fr (pA [141, 142]) (hG h) h' → MLs h' M → K (iI (-1)) (sI h' 118 39 (iI 1)))
    (k6 : (0 ≤ c ∧ c < M.n) ∧ 0 ≤ go ∧ go < M.n → 0 ≤ t ∧ t < trm M → ¬ Vl (xp B dd M go z) (sta M) c < 1000000000000000 → ∀ h1 h', Fr (pA [141, 142]) (hG h) h1 → SvI h1 h' B dd M go z 0 → K (iI (-1)) (sI h' 118 39 (iI 6)))
    (kt : (0 ≤ c ∧ c < M.n) ∧ 0 ≤ go ∧ go < M.n → 0 ≤ t ∧ t < trm M → Vl (xp B dd M go z) (sta M) c < 1000000000000000 → ∀ h1 h2 h' (L : Nat), Fr (pA [141, 142]) (hG h) h1 → SvI h1 h2 B dd M go z 0 → RnL B dd M go z t c L → Fr PGo (sI h2 118 73 (iI 1)) h' → MSd h' B dd M go z → zF h' 118 55 = L + 1 → (∀ i : Nat, i ≤ L → zA h' 143 i = (pos B dd M go z (ful M t) (sta M) c i).2) → K (iI (pcst B dd M go z (ful M t) (sta M) c L)) h') :
    XW (d + 7) 241 0 [.ref 118, .int (iI c), .int (iI go), .int (iI (b2i z)), .int (iI t)] [] h (KI K) := by
  have ew := hX.n
  obtain ⟨hM, hQ, hP, hdd, hv⟩ := hX
  have main : (0 ≤ c ∧ c < M.n) ∧ 0 ≤ go ∧ go < M.n → XW (d + 7) 241 26 [.ref 118, .int (iI c), .int (iI go), .int (iI (b2i z)), .int (iI t)] [] (hG h) (KI K) := by
    intro cd
    obtain ⟨h12, ho, hm, hd⟩ := hv (by omega)
    have hS := hG_MSl (hS (by omega))
    have kt := kt cd
    have k6 := k6 cd
    have k2 := k2 cd
    have tr := trm_in hm
    have hL := (hG_fr h).lay hL
    have Q1 := hG_MBk hQ
    have P1 := hG_MMp hP
    have d1 : gI (hG h) 118 38 = iI dd := by rw [((hG_fr h).2 118 38 (by simp [pF])).1]; exact hdd
    have vi := vl_in (bm := z) ho hm hd cd.2 cd.1
    generalize hG h = h1 at *
    have lst : ∀ h2, Fr (pA [141, 142]) h1 h2 → MLs h2 M → XW (d + 7) 241 30 [.ref 118, .int (iI c), .int (iI go), .int (iI (b2i z)), .int (iI t)] [] h2 (KI K) := by
      intro h2 f2 l2
      have hL := f2.lay hL
      have P2 : MMp h2 M := P1.fr f2 (fun a j p q => by simp [pA]; omega) (fun j p q => by simp [pA])
      have Q2 : MBk h2 B := Q1.fr f2 (fun a j q => by simp [fpMB] at q; simp [pA]; omega)
      have S2 := hS.lists f2 l2
      have d2 : gI h2 118 38 = iI dd := by rw [(f2.2 118 38 (by simp [pA])).1]; exact d1
      by_cases w : 0 ≤ t ∧ t < trm M
      · have kt := kt w
        have k6 := k6 w
        have fin : ∀ h3, SvI h2 h3 B dd M go z 0 → XW (d + 7) 241 58 [.ref 118, .int (iI c), .int (iI go), .int (iI (b2i z)), .int (iI t)] [.long (iL (frV (Vl (xp B dd M go z) (sta M) c)))] h3 (KI K) := by
          intro h3 I
          have hL := I.1.lay hL
          have P3 : MMp h3 M := P2.fr I.1 (fun a j p q => by simp [pO, pA, pF]; omega) (fun j p q => by simp [pO, pA, pF]; omega)
          unfold frV
          by_cases q : Vl (xp B dd M go z) (sta M) c < 1000000000000000
          · have kt := fun h' L => kt q h2 h3 h' L f2 I
            have F4 : Fr (pF [(118, 73)]) h3 (sI h3 118 73 (iI 1)) := (Fr.refl _ _).sI 118 73 _ (by simp [pF])
            have sd : MSd (sI h3 118 73 (iI 1)) B dd M go z := (show MSd h3 B dd M go z from ⟨I.2.1, I.2.2.1, I.2.2.2.1, I.2.2.2.2.1⟩).fr F4 (fun j => by simp [pF]) (fun j => by simp [pF]) (by simp [pF])
            have P4 : MMp (sI h3 118 73 (iI 1)) M := P3.fr F4 (fun a j p q => by simp [pF]; omega) (fun j p q => by simp [pF]; omega)
            have L4 := F4.lay hL
            have J : XW (d + 7) 241 75 [.ref 118, .int (iI c), .int (iI go), .int (iI (b2i z)), .int (iI t)] [] (sI h3 118 73 (iI 1)) (KI K) := by
              generalize sI h3 118 73 (iI 1) = h4 at *
              have hL := L4
              refine w_aload0 r_241_75 ?_
              refine w_iload1 r_241_76 ?_
              refine w_iload4 r_241_77 ?_
              refine k_240 r_241_79 (Lk_118 hL) (Nat.le_of_ble_eq_true rfl) ?_
              refine m_goes (d := d + 2) hL ho hd P4 hm cd.2 sd (by omega) cd.1 q (fun h5 L l6 pl pn f5 s5 z5 t5 => ?_)
              refine w_iret r_241_82 ?_
              exact kt h5 L ⟨l6, pl, pn⟩ f5 s5 z5 t5
            rw [if_pos q]
            refine w_lconst (v := iL 0) r_241_58 rfl ?_
            refine v_lcmp r_241_59 (by first | exact zF_in _ _ _ | exact zA_in _ _ _ | omega) (by first | exact zF_in _ _ _ | exact zA_in _ _ _ | omega) ?_
            refine v_if_ge r_241_60 (by split <;> (try split) <;> omega) (fun _ => ?_) (fun q => absurd q (by (split <;> (try split) <;> omega)))
            refine w_aload0 r_241_70 ?_
            refine w_iconst (v := iI (1)) r_241_71 rfl ?_
            refine w_putZ r_241_72 (Lk_118 hL) (Ln_118 hL) (by decide) ?_
            exact J
          · have R := k6 q h2 h3 f2 I
            rw [if_neg q]
            refine w_lconst (v := iL 0) r_241_58 rfl ?_
            refine v_lcmp r_241_59 (by first | exact zF_in _ _ _ | exact zA_in _ _ _ | omega) (by first | exact zF_in _ _ _ | exact zA_in _ _ _ | omega) ?_
            refine v_if_ge r_241_60 (by split <;> (try split) <;> omega) (fun q => absurd q (by (split <;> (try split) <;> omega))) (fun _ => ?_)
            refine w_aload0 r_241_63 ?_
            refine w_bipush (v := iI (6)) r_241_64 rfl ?_
            refine k_165 r_241_66 (Lk_118 hL) (Nat.le_of_ble_eq_true rfl) ?_
            refine m_no hL ?_
            refine w_iret r_241_69 ?_
            exact R
        have J : XW (d + 7) 241 51 [.ref 118, .int (iI c), .int (iI go), .int (iI (b2i z)), .int (iI t)] [] h2 (KI K) := by
          refine w_aload0 r_241_51 ?_
          refine w_iload1 r_241_52 ?_
          refine w_iload2 r_241_53 ?_
          refine w_iload3 r_241_54 ?_
          refine k_228 r_241_55 (Lk_118 hL) (Nat.le_of_ble_eq_true rfl) ?_
          refine m_from (d := d) (bm := z) hL Q2 ho P2 hm d2 hd cd.2 cd.1 S2 (fun h3 I => ?_)
          exact fin h3 I
        refine w_iload4 r_241_30 ?_
        refine w_iconst (v := iI (0)) r_241_32 rfl ?_
        refine w_aload0 r_241_33 ?_
        refine k_235 r_241_34 (Lk_118 hL) (Nat.le_of_ble_eq_true rfl) ?_
        refine m_truthM hL P2 hm l2 ?_
        refine w_iconst (v := iI (1)) r_241_37 rfl ?_
        refine v_isub r_241_38 ?_
        refine k_167 r_241_39 (Nat.le_of_ble_eq_true rfl) ?_
        refine m_within (by first | exact zF_in _ _ _ | exact zA_in _ _ _ | omega) (by first | exact zF_in _ _ _ | exact zA_in _ _ _ | omega) (by first | exact zF_in _ _ _ | exact zA_in _ _ _ | omega) (fun c39 => ?_) (fun c39 => ?_)
        · refine v_if_ne r_241_42 (by first | exact zF_in _ _ _ | exact zA_in _ _ _ | omega) (fun _ => ?_) (fun q => absurd q (by omega))
          exact J
        · refine v_if_ne r_241_42 (by first | exact zF_in _ _ _ | exact zA_in _ _ _ | omega) (fun q => absurd q (by omega)) (fun _ => ?_)
          refine w_aload0 r_241_45 ?_
          refine w_iconst (v := iI (1)) r_241_46 rfl ?_
          refine k_165 r_241_47 (Lk_118 hL) (Nat.le_of_ble_eq_true rfl) ?_
          refine m_no hL ?_
          refine w_iret r_241_50 ?_
          exfalso
          omega
      · have R := k2 w h2 f2 l2
        refine w_iload4 r_241_30 ?_
        refine w_iconst (v := iI (0)) r_241_32 rfl ?_
        refine w_aload0 r_241_33 ?_
        refine k_235 r_241_34 (Lk_118 hL) (Nat.le_of_ble_eq_true rfl) ?_
        refine m_truthM hL P2 hm l2 ?_
        refine w_iconst (v := iI (1)) r_241_37 rfl ?_
        refine v_isub r_241_38 ?_
        refine k_167 r_241_39 (Nat.le_of_ble_eq_true rfl) ?_
        refine m_within (by first | exact zF_in _ _ _ | exact zA_in _ _ _ | omega) (by first | exact zF_in _ _ _ | exact zA_in _ _ _ | omega) (by first | exact zF_in _ _ _ | exact zA_in _ _ _ | omega) (fun c39 => ?_) (fun c39 => ?_)
        · refine v_if_ne r_241_42 (by first | exact zF_in _ _ _ | exact zA_in _ _ _ | omega) (fun _ => ?_) (fun q => absurd q (by omega))
          exfalso
          omega
        · refine v_if_ne r_241_42 (by first | exact zF_in _ _ _ | exact zA_in _ _ _ | omega) (fun q => absurd q (by omega)) (fun _ => ?_)
          refine w_aload0 r_241_45 ?_
          refine w_iconst (v := iI (1)) r_241_46 rfl ?_
          refine k_165 r_241_47 (Lk_118 hL) (Nat.le_of_ble_eq_true rfl) ?_
          refine m_no hL ?_
          refine w_iret r_241_50 ?_
          exact R
    refine w_aload0 r_241_26 ?_
    refine k_214 r_241_27 (Lk_118 hL) (Nat.le_of_ble_eq_true rfl) ?_
    refine m_lists hL P1 hm (fun h2 f2 l2 => ?_)
    exact lst h2 f2 l2
  refine w_aload0 r_241_0 ?_
  refine k_164 r_241_1 (Lk_118 hL) (Nat.le_of_ble_eq_true rfl) ?_
  refine m_good hL ?_
  refine w_aload0 r_241_4 ?_
  refine w_iload1 r_241_5 ?_
  refine k_197 r_241_6 (Lk_118 hL) (Nat.le_of_ble_eq_true rfl) ?_
  refine m_isCell (h0 := h) (by first | exact zF_in _ _ _ | exact zA_in _ _ _ | omega) hL ⟨rfl, rfl, rfl, rfl, rfl, rfl⟩ hM (fun c6 => ?_) (fun c6 => ?_)
  · refine v_if_eq r_241_9 (by first | exact zF_in _ _ _ | exact zA_in _ _ _ | omega) (fun q => absurd q (by omega)) (fun _ => ?_)
    refine w_aload0 r_241_12 ?_
    refine w_iload2 r_241_13 ?_
    refine k_197 r_241_14 (Lk_118 hL) (Nat.le_of_ble_eq_true rfl) ?_
    refine m_isCell (h0 := h) (by first | exact zF_in _ _ _ | exact zA_in _ _ _ | omega) hL ⟨rfl, rfl, rfl, rfl, rfl, rfl⟩ hM (fun c14 => ?_) (fun c14 => ?_)
    · refine v_if_ne r_241_17 (by first | exact zF_in _ _ _ | exact zA_in _ _ _ | omega) (fun _ => ?_) (fun q => absurd q (by omega))
      exact main (by omega)
    · refine v_if_ne r_241_17 (by first | exact zF_in _ _ _ | exact zA_in _ _ _ | omega) (fun q => absurd q (by omega)) (fun _ => ?_)
      refine w_aload0 r_241_20 ?_
      refine w_iconst (v := iI (1)) r_241_21 rfl ?_
      refine k_165 r_241_22 (Lk_118 hL) (Nat.le_of_ble_eq_true rfl) ?_
      refine m_no hL ?_
      refine w_iret r_241_25 ?_
      exact k1 (by omega)
  · refine v_if_eq r_241_9 (by first | exact zF_in _ _ _ | exact zA_in _ _ _ | omega) (fun _ => ?_) (fun q => absurd q (by omega))
    refine w_aload0 r_241_20 ?_
    refine w_iconst (v := iI (1)) r_241_21 rfl ?_
    refine k_165 r_241_22 (Lk_118 hL) (Nat.le_of_ble_eq_true rfl) ?_
    refine m_no hL ?_
    refine w_iret r_241_25 ?_
    exact k1 (by omega)
end OPB
