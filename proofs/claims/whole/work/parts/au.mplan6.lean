/-! the Model's plan -/
section MP6
variable {d : Nat} {h h' : XH} {K : Int32 → XH → Prop} {KU : XH → Prop} {τ : XT} {k st nd np : Int} {B : XB} {p : XL}
def pMp : Nat → Nat → Bool := fun a j => (a == 118 && (decide (j ≤ 10) || (j == 13 || (j == 39 || (j == 40 || (j == 58 || j == 59)))))) || (a == 120 || (decide (144 ≤ a) && decide (a ≤ 148)))
/-- what a plan leaves as it was -/
def PlR (np : Int) (h h' : XH) : Prop := Fr pMp h h' ∧ (∀ x, 0 ≤ x → x < 512 * np → zA h' 144 x = zA h 144 x) ∧ ∀ x, 0 ≤ x → x < np → zA h' 145 x = zA h 145 x
theorem PlR.of {P : Nat → Nat → Bool} {h1 : XH} (c : PlR np h h1) (f : Fr P h1 h') (hp : ∀ a j, pMp a j = false → P a j = false) (h5 : ∀ j, P 144 j = false ∧ P 145 j = false) : PlR np h h' := ⟨c.1.trans (f.mono hp), fun x a b => by rw [f.A (h5 _).1]; exact c.2.1 x a b, fun x a b => by rw [f.A (h5 _).2]; exact c.2.2 x a b⟩
theorem PlR.rm {h1 : XH} (c : PlR np h h1) (f : RM np h1 h') : PlR np h h' := ⟨c.1.trans (f.1.mono (fun a j q => by simp [pMp] at q; simp [pPm]; omega)), fun x a b => by rw [f.2.1 x a b]; exact c.2.1 x a b, fun x a b => by rw [f.1.A (by simp [pPm])]; exact c.2.2 x a b⟩
theorem PlR.mpl {i : Int} (c : PlR np h h') (hi : 0 ≤ i ∧ i < np) (hz : p.z ≤ 80) (m : MPl h i p) : MPl h' i p := by
  refine ⟨by rw [c.2.2 i hi.1 hi.2]; exact m.1, fun k k0 k1 => ?_⟩
  rw [c.2.1 _ (by omega) (by omega), c.2.1 _ (by omega) (by omega), c.2.1 _ (by omega) (by omega), c.2.1 _ (by omega) (by omega)]
  exact m.2 k k0 k1
set_option maxHeartbeats 4000000 in
theorem m_plan {n t : Int} {T : Int → Int} (hn : R32 n) (hL : Lay h) (hS : StC h) (hQ : MBk h B) (hg : 0 ≤ B.g ∧ B.g ≤ 8) (ht : gI h 118 2 = iI t ∧ 0 ≤ t ∧ t ≤ 500) (hT : ∀ i, 0 ≤ i → i < t → zA h 119 i = T i ∧ 0 ≤ T i ∧ T i ≤ 255) (hnd : gI h 118 37 = iI nd ∧ 0 ≤ nd ∧ nd ≤ 5) (hnp : gI h 118 40 = iI np ∧ 0 ≤ np ∧ np ≤ 8)
    (k1 : zF h 118 34 = 0 → K (iI (-1)) (sI (hG h) 118 39 (iI 1)))
    (k2 : ¬ zF h 118 34 = 0 → ¬ (0 ≤ n ∧ n ≤ t) → K (iI (-1)) (sI (hG h) 118 39 (iI 2)))
    (kf : ¬ zF h 118 34 = 0 → 0 ≤ n ∧ n ≤ t → ∀ e, Ends (T, n) B nd x0 (.inl e) → ∀ h', PlR np h h' → zF h' 118 39 = 4 → zF h' 118 9 = e.1 → zF h' 118 10 = e.2 → zF h' 118 2 = 0 → gI h' 118 40 = iI np → K (iI (-1)) h')
    (k3 : ¬ zF h 118 34 = 0 → 0 ≤ n ∧ n ≤ t → ∀ p', Ends (T, n) B nd x0 (.inr p') → np = 8 → ∀ h', PlR np h h' → zF h' 118 39 = 3 → zF h' 118 9 = 0 → zF h' 118 2 = 0 → gI h' 118 40 = iI np → K (iI (-1)) h')
    (kt : ¬ zF h 118 34 = 0 → 0 ≤ n ∧ n ≤ t → ∀ p', Ends (T, n) B nd x0 (.inr p') → np < 8 → ∀ h', PlR np h h' → MPl h' np p' → p'.ok nd → zF h' 118 39 = 0 → zF h' 118 9 = 0 → zF h' 118 2 = 0 → gI h' 118 40 = iI (np + 1) → K (iI np) h') :
    XW (d + 8) 251 0 [.ref 118, .int (iI n)] [] h (KI K) := by
  have hL0 := hL
  have v5 : gI (hG h) 118 34 = iI (zF h 118 34) := by rw [((hG_fr h).2 118 34 (by simp [pF])).1, gI_F]
  have v20 : gI (hG h) 118 2 = iI t := by rw [((hG_fr h).2 118 2 (by simp [pF])).1]; exact ht.1
  have go : ¬ zF h 118 34 = 0 → 0 ≤ n ∧ n ≤ t → XW (d + 8) 251 35 [.ref 118, .int (iI n)] [] (hG h) (KI K) := by
    intro cm cn
    have kt := kt cm cn
    have kf := kf cm cn
    have k3 := k3 cm cn
    have ok : XT.ok (T, n) := ⟨⟨cn.1, by show n ≤ 500; omega⟩, fun k k0 k1 => (hT k k0 (by have : k < n := k1; omega)).2⟩
    obtain ⟨τ, hτ⟩ : ∃ τ : XT, τ = (T, n) := ⟨_, rfl⟩
    rw [← hτ] at kt kf k3 ok
    have t1 : τ.1 = T := by rw [hτ]
    have t2 : τ.2 = n := by rw [hτ]
    have F0 : Fr (pF [(118, 0), (118, 39), (118, 2), (118, 9), (118, 58), (118, 59)]) h (sI (sI (sI (sI (hG h) 118 2 (iI 0)) 118 9 (iI 0)) 118 58 (iI 0)) 118 59 (iI 0)) := (((((hG_fr h).mono (fun a j q => by simp [pF] at q ⊢; omega)).sI 118 2 _ (by simp [pF])).sI 118 9 _ (by simp [pF])).sI 118 58 _ (by simp [pF])).sI 118 59 _ (by simp [pF])
    have z2 : zF (sI (sI (sI (sI (hG h) 118 2 (iI 0)) 118 9 (iI 0)) 118 58 (iI 0)) 118 59 (iI 0)) 118 2 = 0 := by rw [zF_o (by decide), zF_o (by decide), zF_o (by decide), zF_s (by decide)]
    have z9 : zF (sI (sI (sI (sI (hG h) 118 2 (iI 0)) 118 9 (iI 0)) 118 58 (iI 0)) 118 59 (iI 0)) 118 9 = 0 := by rw [zF_o (by decide), zF_o (by decide), zF_s (by decide)]
    have z39 : zF (sI (sI (sI (sI (hG h) 118 2 (iI 0)) 118 9 (iI 0)) 118 58 (iI 0)) 118 59 (iI 0)) 118 39 = 0 := by rw [zF_o (by decide), zF_o (by decide), zF_o (by decide), zF_o (by decide), zF_s (by decide)]
    have e58 : gI (sI (sI (sI (sI (hG h) 118 2 (iI 0)) 118 9 (iI 0)) 118 58 (iI 0)) 118 59 (iI 0)) 118 58 = iI 0 := by rw [sI_here, if_neg (by decide), sI_here, if_pos rfl]
    have e59 : gI (sI (sI (sI (sI (hG h) 118 2 (iI 0)) 118 9 (iI 0)) 118 58 (iI 0)) 118 59 (iI 0)) 118 59 = iI 0 := by rw [sI_here, if_pos rfl]
    have main : ∀ h0, Fr (pF [(118, 0), (118, 39), (118, 2), (118, 9), (118, 58), (118, 59)]) h h0 → zF h0 118 2 = 0 → zF h0 118 9 = 0 → zF h0 118 39 = 0 → gI h0 118 58 = iI 0 → gI h0 118 59 = iI 0 → XW (d + 8) 251 55 [.ref 118, .int (iI n)] [] h0 (KI K) := by
      intro h0 f0 z2 z9 z39 e58 e59
      have L0 := f0.lay hL
      have c0 : PlR np h h0 := PlR.of ⟨Fr.refl _ _, fun _ _ _ => rfl, fun _ _ _ => rfl⟩ f0 (fun a j q => by simp [pMp] at q; simp [pF]; omega) (fun j => by simp [pF])
      refine w_aload0 r_251_55 ?_
      refine w_iload1 r_251_56 ?_
      refine k_173 r_251_57 (Lk_118 L0) (Nat.le_of_ble_eq_true rfl) ?_
      refine m_begins (d := d + 5) L0 (by omega) ok t2 (fun i a b => by rw [f0.A (by simp [pF]), t1]; exact (hT i a (by omega)).1) (fun h3 f3 Y3 T3 e13 => ?_)
      have c3 : PlR np h h3 := c0.of f3 (fun a j q => by simp [pMp] at q; simp [pO, pA, pF]; omega) (fun j => by simp [pO, pA, pF])
      have L3 := c3.1.lay hL
      have C3 : MCx τ B nd np h3 := ⟨L3, hS.fr c3.1 (fun a j q => by simp [pMp]; omega), Y3, hQ.fr c3.1 (fun a j q => by simp [fpMB] at q; simp [pMp]; omega), by rw [(c3.1.2 118 37 (by simp [pMp])).1]; exact hnd.1, by rw [(f3.2 118 40 (by simp [pO, pA, pF])).1, (f0.2 118 40 (by simp [pF])).1]; exact hnp.1⟩
      have w2 : zF h3 118 2 = 0 := by rw [f3.F (by simp [pO, pA, pF])]; exact z2
      have w9 : zF h3 118 9 = 0 := by rw [f3.F (by simp [pO, pA, pF])]; exact z9
      have w39 : zF h3 118 39 = 0 := by rw [f3.F (by simp [pO, pA, pF])]; exact z39
      refine w_aload0 r_251_60 ?_
      refine k_250 r_251_61 (Lk_118 L3) (Nat.le_of_ble_eq_true rfl) ?_
      refine m_reads (d := d) C3 hg hnd.2 hnp.2 T3 (by rw [(f3.2 118 58 (by simp [pO, pA, pF])).1]; exact e58) (by rw [(f3.2 118 59 (by simp [pO, pA, pF])).1]; exact e59) e13 ?_ ?_
      · intro e ee h4 r4 m4
        have c4 := c3.rm r4
        have hL := c4.1.lay hL0
        have F5 : Fr (pF [(118, 39)]) h4 (sI h4 118 39 (iI 4)) := (Fr.refl _ _).sI 118 39 _ (by simp [pF])
        have R := kf e ee (sI h4 118 39 (iI 4)) (c4.of F5 (fun a j q => by simp [pMp] at q; simp [pF]; omega) (fun j => by simp [pF])) (zF_s (by decide)) (by rw [zF_o (by decide)]; exact m4.2.1) (by rw [zF_o (by decide)]; exact m4.2.2) (by rw [zF_o (by decide), r4.1.F (by simp [pPm])]; exact w2) (by rw [sI_here, if_neg (by decide)]; exact (MCx.rm r4 C3).2.2.2.2.2)
        refine w_aload0 r_251_64 ?_
        refine v_getI r_251_65 (Lk_118 hL) m4.1 ?_
        refine v_if_eq r_251_68 (by first | exact zF_in _ _ _ | exact zA_in _ _ _ | omega) (fun q => absurd q (by omega)) (fun _ => ?_)
        refine w_aload0 r_251_71 ?_
        refine w_iconst (v := iI (4)) r_251_72 rfl ?_
        refine k_165 r_251_73 (Lk_118 hL) (Nat.le_of_ble_eq_true rfl) ?_
        refine m_no hL ?_
        refine w_iret r_251_76 ?_
        exact R
      · intro p' ee okp h4 r4 e58' e13' mo
        have c4 := c3.rm r4
        have hL := c4.1.lay hL0
        have e40 : gI h4 118 40 = iI np := (MCx.rm r4 C3).2.2.2.2.2
        have x2 : zF h4 118 2 = 0 := by rw [r4.1.F (by simp [pPm])]; exact w2
        have x39 : zF h4 118 39 = 0 := by rw [r4.1.F (by simp [pPm])]; exact w39
        have x9 : zF h4 118 9 = 0 := by rw [(r4.2.2 e13').2]; exact w9
        by_cases y : np = 8
        · have F5 : Fr (pF [(118, 39)]) h4 (sI h4 118 39 (iI 3)) := (Fr.refl _ _).sI 118 39 _ (by simp [pF])
          have R := k3 p' ee y (sI h4 118 39 (iI 3)) (c4.of F5 (fun a j q => by simp [pMp] at q; simp [pF]; omega) (fun j => by simp [pF])) (zF_s (by decide)) (by rw [zF_o (by decide)]; exact x9) (by rw [zF_o (by decide)]; exact x2) (by rw [sI_here, if_neg (by decide)]; exact e40)
          refine w_aload0 r_251_64 ?_
          refine v_getI r_251_65 (Lk_118 hL) (e13') ?_
          refine v_if_eq r_251_68 (by first | exact zF_in _ _ _ | exact zA_in _ _ _ | omega) (fun _ => ?_) (fun q => absurd q (by omega))
          refine w_aload0 r_251_77 ?_
          refine v_getI r_251_78 (Lk_118 hL) e40 ?_
          refine w_bipush (v := iI (8)) r_251_81 rfl ?_
          refine v_ic_ne r_251_83 (by first | exact zF_in _ _ _ | exact zA_in _ _ _ | omega) (by first | exact zF_in _ _ _ | exact zA_in _ _ _ | omega) (fun q => absurd q (by omega)) (fun _ => ?_)
          refine w_aload0 r_251_86 ?_
          refine w_iconst (v := iI (3)) r_251_87 rfl ?_
          refine k_165 r_251_88 (Lk_118 hL) (Nat.le_of_ble_eq_true rfl) ?_
          refine m_no hL ?_
          refine w_iret r_251_91 ?_
          exact R
        · have q8 : np < 8 := by omega
          have kz := okp.1
          have row : ∀ x, 0 ≤ x → zA (sI h4 145 np.toNat (iI p'.z)) 145 x = if x = np then p'.z else zA h4 145 x := fun x x0 => zA_s (by omega) x0 (by omega)
          have F6 : Fr (pF [(118, 40)]) (sI h4 145 np.toNat (iI p'.z)) (sI (sI h4 145 np.toNat (iI p'.z)) 118 40 (iI (np + 1))) := (Fr.refl _ _).sI 118 40 _ (by simp [pF])
          have c5 : PlR np h (sI h4 145 np.toNat (iI p'.z)) := ⟨c4.1.sI 145 _ _ (by simp [pMp]), fun x a b => by rw [zA_o _ (by decide)]; exact c4.2.1 x a b, fun x a b => by rw [row x a, if_neg (by omega)]; exact c4.2.2 x a b⟩
          have c6 := c5.of F6 (fun a j q => by simp [pMp] at q; simp [pF]; omega) (fun j => by simp [pF])
          have M6 : MPl (sI (sI h4 145 np.toNat (iI p'.z)) 118 40 (iI (np + 1))) np p' := ((((mo q8).rows (by decide) hnp.2.1).rows (by decide) hnp.2.1)).mpl (by rw [zA_o _ (by decide), row np hnp.2.1, if_pos rfl])
          have e106 : gI (sI h4 145 np.toNat (iI p'.z)) 118 40 = iI np := by rw [sI_other _ (by decide)]; exact e40
          have e116 : gI (sI (sI h4 145 np.toNat (iI p'.z)) 118 40 (iI (np + 1))) 118 40 = iI (np + 1) := by rw [sI_here, if_pos rfl]
          have x8 : np + 1 - 1 = np := by omega
          have R := kt p' ee q8 _ c6 M6 okp (by rw [zF_o (by decide), zF_o (by omega)]; exact x39) (by rw [zF_o (by decide), zF_o (by omega)]; exact x9) (by rw [zF_o (by decide), zF_o (by omega)]; exact x2) e116
          refine w_aload0 r_251_64 ?_
          refine v_getI r_251_65 (Lk_118 hL) (e13') ?_
          refine v_if_eq r_251_68 (by first | exact zF_in _ _ _ | exact zA_in _ _ _ | omega) (fun _ => ?_) (fun q => absurd q (by omega))
          refine w_aload0 r_251_77 ?_
          refine v_getI r_251_78 (Lk_118 hL) e40 ?_
          refine w_bipush (v := iI (8)) r_251_81 rfl ?_
          refine v_ic_ne r_251_83 (by first | exact zF_in _ _ _ | exact zA_in _ _ _ | omega) (by first | exact zF_in _ _ _ | exact zA_in _ _ _ | omega) (fun _ => ?_) (fun q => absurd q (by omega))
          refine w_aload0 r_251_92 ?_
          refine w_getA (x := 145) r_251_93 (Lk_118 hL) (Lr_118_57 hL) (by decide) ?_
          refine w_aload0 r_251_96 ?_
          refine v_getI r_251_97 (Lk_118 hL) e40 ?_
          refine w_aload0 r_251_100 ?_
          refine v_getI r_251_101 (Lk_118 hL) (e58') ?_
          refine v_iast r_251_104 (Lk_145 hL) (Ln_145 hL) (Lz_145 hL) (by decide) (by omega) ?_
          refine w_aload0 r_251_105 ?_
          refine w_dupA r_251_106 ?_
          refine v_getI r_251_107 (Lk_118 hL) e106 ?_
          refine w_iconst (v := iI (1)) r_251_110 rfl ?_
          refine v_iadd r_251_111 ?_
          refine w_putI r_251_112 (Lk_118 hL) (Ln_118 hL) ?_
          refine w_aload0 r_251_115 ?_
          refine v_getI r_251_116 (Lk_118 hL) e116 ?_
          refine w_iconst (v := iI (1)) r_251_119 rfl ?_
          refine v_isub r_251_120 ?_
          refine w_iret r_251_121 ?_
          rw [x8]
          exact R
    have S := main _ F0 z2 z9 z39 e58 e59
    have hL := (hG_fr h).lay hL
    refine w_aload0 r_251_35 ?_
    refine w_iconst (v := iI (0)) r_251_36 rfl ?_
    refine w_putI r_251_37 (Lk_118 hL) (Ln_118 hL) ?_
    refine w_aload0 r_251_40 ?_
    refine w_iconst (v := iI (0)) r_251_41 rfl ?_
    refine w_putI r_251_42 (Lk_118 hL) (Ln_118 hL) ?_
    refine w_aload0 r_251_45 ?_
    refine w_iconst (v := iI (0)) r_251_46 rfl ?_
    refine w_putI r_251_47 (Lk_118 hL) (Ln_118 hL) ?_
    refine w_aload0 r_251_50 ?_
    refine w_iconst (v := iI (0)) r_251_51 rfl ?_
    refine w_putI r_251_52 (Lk_118 hL) (Ln_118 hL) ?_
    exact S
  refine w_aload0 r_251_0 ?_
  refine k_164 r_251_1 (Lk_118 hL) (Nat.le_of_ble_eq_true rfl) ?_
  refine m_good hL ?_
  refine w_aload0 r_251_4 ?_
  refine v_getI r_251_5 (Lk_118 hL) v5 ?_
  refine v_if_ne r_251_8 (by first | exact zF_in _ _ _ | exact zA_in _ _ _ | omega) (fun c8 => ?_) (fun c8 => ?_)
  · refine w_iload1 r_251_17 ?_
    refine w_iconst (v := iI (0)) r_251_18 rfl ?_
    refine w_aload0 r_251_19 ?_
    refine v_getI r_251_20 (Lk_118 hL) v20 ?_
    refine k_167 r_251_23 (Nat.le_of_ble_eq_true rfl) ?_
    refine m_within (by first | exact zF_in _ _ _ | exact zA_in _ _ _ | omega) (by first | exact zF_in _ _ _ | exact zA_in _ _ _ | omega) (by first | exact zF_in _ _ _ | exact zA_in _ _ _ | omega) (fun c23 => ?_) (fun c23 => ?_)
    · refine v_if_ne r_251_26 (by first | exact zF_in _ _ _ | exact zA_in _ _ _ | omega) (fun _ => ?_) (fun q => absurd q (by omega))
      exact go (by omega) (by omega)
    · refine v_if_ne r_251_26 (by first | exact zF_in _ _ _ | exact zA_in _ _ _ | omega) (fun q => absurd q (by omega)) (fun _ => ?_)
      refine w_aload0 r_251_29 ?_
      refine w_iconst (v := iI (2)) r_251_30 rfl ?_
      refine k_165 r_251_31 (Lk_118 hL) (Nat.le_of_ble_eq_true rfl) ?_
      refine m_no hL ?_
      refine w_iret r_251_34 ?_
      exact k2 (by omega) (by omega)
  · refine w_aload0 r_251_11 ?_
    refine w_iconst (v := iI (1)) r_251_12 rfl ?_
    refine k_165 r_251_13 (Lk_118 hL) (Nat.le_of_ble_eq_true rfl) ?_
    refine m_no hL ?_
    refine w_iret r_251_16 ?_
    exact k1 (by omega)
end MP6
