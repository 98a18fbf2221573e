/-! the class's plan -/
def pl0 : XL := (0, z0, z0, z0, z0)
def x0 : Bool × XS := (false, (0, 0, pl0, []))
def pPn (pa : Nat) : Nat → Nat → Bool := fun a j => (a == 3 && (decide (1 ≤ j) && decide (j ≤ 8))) || ((decide (pa ≤ a) && decide (a ≤ pa + 4)) || ((a == 5 && j == 3) || (a == 1 && (j == 1 || (j == 8 || (j == 18 || j == 19))))))
abbrev qPn : Nat → Nat → Bool := pF [(5, 1), (5, 2)]
section CPV
variable {d : Nat} {h : XH} {K : Int32 → XH → Prop} {KU : XH → Prop} {τ : XT} {k st nd : Int} {pa rb : Nat} {B : XB} {p : XL}
theorem xRT_pn : ∀ q ∈ xRT, qPn q.1 q.2.1 = false := by decide +kernel
theorem pn_lay {h' : XH} (c : Ch (pPn pa) qPn h h') (hL : Lay h) (hn : gN h' < 900000) : Lay h' := c.lay hL xRT_pn (fun j => by simp [pF]) xRT_lt hn
theorem pn_fr {P : Nat → Nat → Bool} {h' : XH} (f : Fr P h h') (hp : ∀ a j, pPn pa a j = false → P a j = false) : Ch (pPn pa) qPn h h' := f.ch.mono hp (fun _ _ _ => rfl)
theorem pn_R {h' : XH} (a j v : Nat) (hq : qPn a j = true) (c : Ch (pPn pa) qPn h h') : Ch (pPn pa) qPn h (sR h' a j v) := c.trans ((Ch.sR h' a j v).mono (fun _ _ _ => rfl) (fun x i q => by
  simp [pF] at q hq ⊢
  intro e1 e2
  subst e1; subst e2
  omega))
theorem pn_P {a j : Nat} (q : pPn pa a j = false) : pP pa a j = false := by
  simp [pPn] at q
  have q1 := q.1
  have q2 := q.2.1
  simp [pP]; omega
theorem pn_1 {a j : Nat} (q : pPn pa a j = false) : pF [(1, 1), (3, 1), (3, 2), (3, 3), (3, 4), (3, 5), (3, 6), (3, 7), (3, 8)] a j = false := by
  simp [pPn] at q
  have q1 := q.1
  have q2 := q.2.2.2
  by_cases c : a = 3
  · have := q1 c; simp [pF]; omega
  · simp [pF, c]; omega
theorem pn_a {a j : Nat} (q : pPn pa a j = false) : pF [(1, 8), (1, 18), (1, 19)] a j = false := by
  simp [pPn] at q
  have q2 := q.2.2.2
  simp [pF]; omega
theorem pn_b {a j : Nat} (q : pPn pa a j = false) : pF [(5, 3)] a j = false := by
  simp [pPn] at q
  have q2 := q.2.2.1
  simp [pF]; omega
theorem pn_c {a j : Nat} (q : pPn pa a j = false) : (fun a _ => decide (pa ≤ a) && decide (a ≤ pa + 4)) a j = false := by
  simp [pPn] at q
  have q2 := q.2.1
  simp; omega
theorem PlC.cpl (hC : PlC h pa st p []) : CPl h pa p := ⟨hC.1, fun i a b => ⟨(hC.2.2 i a b).1, (hC.2.2 i a b).2.1, (hC.2.2 i a b).2.2.1, fun z => (hC.2.2 i a b).2.2.2 z (fun e m => by cases m)⟩⟩
theorem s0_ok (nd k : Int) : SOk nd (k, 0, pl0, []) := ⟨⟨by show (0:Int) ≤ 0; decide, by show (0:Int) ≤ 40; decide⟩, ⟨by show (0:Int) ≤ 0; decide, by show (0:Int) + 0 ≤ 2 * 0; decide⟩, by show 0 ≤ 6; decide, fun i a b => by have : i < 0 := b; omega, fun e i m => by cases m⟩
theorem c_readPlan (hp : Pl pa) (hb : rb = 6 ∨ rb = 20) (hL : Lay h) (hS : StC h) (hX : TX h τ) (hT : TC h τ 0) (hB : CBk h rb B) (hg : 0 ≤ B.g ∧ B.g ≤ 8) (hnd : 0 ≤ nd ∧ nd ≤ 5)
    (kf : ∀ e, Ends τ B nd x0 (.inl e) → ∀ h', Ch (pPn pa) qPn h h' → gN h' = gN h → gU h' = gU h → BL h' e → (∀ j, gI h' 1 j = gI h 1 j) → K (iI 0) h')
    (kt : ∀ p', Ends τ B nd x0 (.inr p') → p'.ok nd → ∀ h', Ch (pPn pa) qPn h h' → gN h' = gN h → gU h' = gU h → CPl h' pa p' → zF h' 3 7 = zF h 3 7 → (∀ j, gI h' 1 j = gI h 1 j) → K (iI 1) h') : XW (d + 35) 70 0 [.ref 5, .ref pa, .ref rb, .int (iI nd)] [] h (KI K) := by
  have n := hp.ne
  have hN := hL.2.2.2.1
  have c1 := pn_R (pa := pa) 5 1 pa (by decide) (Ch.refl _ _ h)
  have L1 := pn_lay c1 hL (by show gN h < _; omega)
  have c2 := pn_R 5 2 rb (by decide) c1
  have L2 := pn_lay c2 hL (by show gN h < _; omega)
  have f3 : Fr (pF [(5, 3)]) (sR (sR h 5 1 pa) 5 2 rb) (sI (sR (sR h 5 1 pa) 5 2 rb) 5 3 (iI nd)) := (Fr.refl _ _).sI 5 3 _ (by simp [pF])
  have f4 : Fr (fun a _ => decide (pa ≤ a) && decide (a ≤ pa + 4)) (sI (sR (sR h 5 1 pa) 5 2 rb) 5 3 (iI nd)) (sI (sI (sI (sR (sR h 5 1 pa) 5 2 rb) 5 3 (iI nd)) pa 4 (iI 0)) pa 5 (iI 0)) := ((Fr.refl _ _).sI pa 4 _ (by simp)).sI pa 5 _ (by simp)
  have c4 := (c2.trans (pn_fr f3 (fun a j q => pn_b q))).trans (pn_fr f4 (fun a j q => pn_c q))
  have L3 : Lay (sI (sR (sR h 5 1 pa) 5 2 rb) 5 3 (iI nd)) := f3.lay L2
  have S2 : StC (sR (sR h 5 1 pa) 5 2 rb) := hS
  have X2 : TX (sR (sR h 5 1 pa) 5 2 rb) τ := hX
  have T2 : TC (sR (sR h 5 1 pa) 5 2 rb) τ 0 := hT
  have B2 : CBk (sR (sR h 5 1 pa) 5 2 rb) rb B := hB
  have P4 : PCx τ B nd pa rb (sI (sI (sI (sR (sR h 5 1 pa) 5 2 rb) 5 3 (iI nd)) pa 4 (iI 0)) pa 5 (iI 0)) := by
    have P3 : PCx τ B nd pa rb (sI (sR (sR h 5 1 pa) 5 2 rb) 5 3 (iI nd)) := ⟨L3, S2.fr f3 (fun a j q => by simp [pF]; omega), X2.fr f3 (by simp [pF]) (fun j => by simp [pF]), ⟨rfl, rfl, by rw [sI_here, if_pos rfl]⟩, B2.fr f3 hb (fun a j p q => by simp [pF]; omega)⟩
    exact P3.fr hp hb (pP_pl f4)
  have T4 := plTC hp f4 (T2.fr f3 (fun j => by left; simp [pF]))
  have Q4 : PlC (sI (sI (sI (sR (sR h 5 1 pa) 5 2 rb) 5 3 (iI nd)) pa 4 (iI 0)) pa 5 (iI 0)) pa 0 pl0 [] := ⟨by rw [zF_o (by omega), zF_s (by decide)]; rfl, zF_s (by decide), fun i a b => by have : i < 0 := b; omega⟩
  have n4 : gN (sI (sI (sI (sR (sR h 5 1 pa) 5 2 rb) 5 3 (iI nd)) pa 4 (iI 0)) pa 5 (iI 0)) = gN h := rfl
  have u4 : gU (sI (sI (sI (sR (sR h 5 1 pa) 5 2 rb) 5 3 (iI nd)) pa 4 (iI 0)) pa 5 (iI 0)) = gU h := rfl
  have o4 : ∀ j, gI (sI (sI (sI (sR (sR h 5 1 pa) 5 2 rb) 5 3 (iI nd)) pa 4 (iI 0)) pa 5 (iI 0)) 1 j = gI h 1 j := fun j => by rw [sI_other _ (by omega), sI_other _ (by omega), sI_other _ (by decide)]; rfl
  have z4 : zF (sI (sI (sI (sR (sR h 5 1 pa) 5 2 rb) 5 3 (iI nd)) pa 4 (iI 0)) pa 5 (iI 0)) 3 7 = zF h 3 7 := by rw [zF_o (by omega), zF_o (by omega), zF_o (by decide)]; rfl
  have go : ∀ g, Ch (pPn pa) qPn h g → PCx τ B nd pa rb g → TC g τ 0 → PlC g pa 0 pl0 [] → gN g = gN h → gU g = gU h → (∀ j, gI g 1 j = gI h 1 j) → zF g 3 7 = zF h 3 7 → XW (d + 35) 70 22 [.ref 5, .ref pa, .ref rb, .int (iI nd)] [] g (KI K) := by
    intro g cg hC Tg Pg ng ug og zg
    have hL := hC.1
    have hC0 := hC
    have J := c_allSteps (τ := τ) (d := d) hp hb hg hnd 6 0 (by omega)
    refine w_aload0 r_70_22 ?_
    refine w_iconst (v := iI 0) r_70_23 rfl ?_
    refine k_71 r_70_24 (Lk_5 hL) (Nat.le_of_ble_eq_true rfl) ?_
    refine J g _ 0 0 pl0 [] hC Tg Pg (s0_ok nd 0) rfl (fun e ee h' f' b' => ?_) (fun k' st' p' ls en so nk h' f' t' pc z7 => ?_)
    · have R := kf e ee h' (cg.trans (pn_fr f' (fun a j q => pn_P q))) (by rw [f'.N]; exact ng) (by rw [f'.U]; exact ug) b' (fun j => by rw [(f'.2 1 j (pP_no (by decide) (by omega))).1]; exact og j)
      have hL := f'.lay hL
      refine v_if_eq r_70_27 (by first | exact zF_in _ _ _ | exact zA_in _ _ _ | omega) (fun _ => ?_) (fun q => absurd q (by omega))
      refine w_iconst (v := iI (0)) r_70_55 rfl ?_
      refine w_zret r_70_56 (by decide) ?_
      exact R
    · have hC := hC0.fr hp hb f'
      have hL := hC.1
      have q := hC.pos t'
      have c' := cg.trans (pn_fr f' (fun a j q => pn_P q))
      have o' : ∀ j, gI h' 1 j = gI h 1 j := fun j => by rw [(f'.2 1 j (pP_no (by decide) (by omega))).1]; exact og j
      by_cases w : τ.k k' = 0
      · have R := kt p' (en _ (close_2 (s' := (k', st', p', [])) (by unfold sClose; dsimp only; rw [if_neg nk, if_pos w]))) so.ok h' c' (by rw [f'.N]; exact ng) (by rw [f'.U]; exact ug) pc.cpl (by rw [z7, zg]) o'
        refine v_if_eq r_70_27 (by first | exact zF_in _ _ _ | exact zA_in _ _ _ | omega) (fun q => absurd q (by omega)) (fun _ => ?_)
        refine w_aload0 r_70_30 ?_
        refine w_getA (x := 3) r_70_31 (Lk_5 hL) (Lr_5_0 hL) (by decide) ?_
        refine v_getI r_70_34 (Lk_3 hL) (t'.i.2.2) ?_
        refine v_if_eq r_70_37 (by first | exact zF_in _ _ _ | exact zA_in _ _ _ | omega) (fun _ => ?_) (fun q => absurd q (by omega))
        refine w_iconst (v := iI (1)) r_70_51 rfl ?_
        refine w_goto r_70_52 ?_
        refine w_zret r_70_56 (by decide) ?_
        exact R
      · have R := kf (1, τ.a k') (en _ (close_f (by unfold sClose; dsimp only; rw [if_neg nk, if_neg w]))) _ (c'.trans (pn_fr (pP_blm h' 1 (τ.a k')) (fun a j q => pn_P q))) (by show gN h' = _; rw [f'.N]; exact ng) (by show gU h' = _; rw [f'.U]; exact ug) (blm_BL (by omega) (by omega)) (fun j => by rw [((blm_fr h' 1 (τ.a k')).2 1 j (by simp [pF])).1]; exact o' j)
        refine v_if_eq r_70_27 (by first | exact zF_in _ _ _ | exact zA_in _ _ _ | omega) (fun q => absurd q (by omega)) (fun _ => ?_)
        refine w_aload0 r_70_30 ?_
        refine w_getA (x := 3) r_70_31 (Lk_5 hL) (Lr_5_0 hL) (by decide) ?_
        refine v_getI r_70_34 (Lk_3 hL) (t'.i.2.2) ?_
        refine v_if_eq r_70_37 (by first | exact zF_in _ _ _ | exact zA_in _ _ _ | omega) (fun q => absurd q (by omega)) (fun _ => ?_)
        refine w_aload0 r_70_40 ?_
        refine w_getA (x := 3) r_70_41 (Lk_5 hL) (Lr_5_0 hL) (by decide) ?_
        refine w_iconst (v := iI (1)) r_70_44 rfl ?_
        refine k_99 r_70_45 (Lk_3 hL) (Nat.le_of_ble_eq_true rfl) ?_
        refine c_blame (d := d + 33) hL t' ?_
        refine v_if_eq r_70_48 (by first | exact zF_in _ _ _ | exact zA_in _ _ _ | omega) (fun _ => ?_) (fun q => absurd q (by omega))
        refine w_iconst (v := iI (0)) r_70_55 rfl ?_
        refine w_zret r_70_56 (by decide) ?_
        exact R
  have G := go _ c4 P4 T4 Q4 n4 u4 o4 z4
  refine w_aload0 r_70_0 ?_
  refine w_aload1 r_70_1 ?_
  refine w_putA r_70_2 (Lk_5 hL) (Ln_5 hL) (by omega) ?_
  refine w_aload0 r_70_5 ?_
  refine w_aload2 r_70_6 ?_
  refine w_putA r_70_7 (Lk_5 L1) (Ln_5 L1) (by omega) ?_
  refine w_aload0 r_70_10 ?_
  refine w_iload3 r_70_11 ?_
  refine w_putI r_70_12 (Lk_5 L2) (Ln_5 L2) ?_
  refine w_aload0 r_70_15 ?_
  refine w_getA (x := pa) r_70_16 (Lk_5 L3) rfl (by omega) ?_
  refine k_66 r_70_19 (Plk L3 hp).1 (Nat.le_of_ble_eq_true rfl) ?_
  refine w_aload0 r_66_0 ?_
  refine w_iconst (v := iI 0) r_66_1 rfl ?_
  refine w_putI r_66_2 (Plk L3 hp).1 (Plk L3 hp).2.1 ?_
  refine w_aload0 r_66_5 ?_
  refine w_iconst (v := iI 0) r_66_6 rfl ?_
  refine w_putI r_66_7 (Plk L3 hp).1 (Plk L3 hp).2.1 ?_
  refine w_vret r_66_10 ?_
  exact G
theorem pl_at (hL : Lay h) {np : Int} (hn : 0 ≤ np ∧ np ≤ 8) : gR h 34 np.toNat = 35 + 5 * np.toNat ∧ Pl (35 + 5 * np.toNat) := by
  have : np.toNat = 0 ∨ np.toNat = 1 ∨ np.toNat = 2 ∨ np.toNat = 3 ∨ np.toNat = 4 ∨ np.toNat = 5 ∨ np.toNat = 6 ∨ np.toNat = 7 ∨ np.toNat = 8 := by omega
  rcases this with q | q | q | q | q | q | q | q | q <;> rw [q]
  · exact ⟨Lr_34_0 hL, by unfold Pl; decide⟩
  · exact ⟨Lr_34_1 hL, by unfold Pl; decide⟩
  · exact ⟨Lr_34_2 hL, by unfold Pl; decide⟩
  · exact ⟨Lr_34_3 hL, by unfold Pl; decide⟩
  · exact ⟨Lr_34_4 hL, by unfold Pl; decide⟩
  · exact ⟨Lr_34_5 hL, by unfold Pl; decide⟩
  · exact ⟨Lr_34_6 hL, by unfold Pl; decide⟩
  · exact ⟨Lr_34_7 hL, by unfold Pl; decide⟩
  · exact ⟨Lr_34_8 hL, by unfold Pl; decide⟩
set_option maxHeartbeats 4000000 in
theorem c_plan {n t np : Int} {T : Int → Int} (hn : R32 n) (hL : Lay h) (hS : StC h) (hB : RB h rb) (hC : CBk h rb B) (hg : 0 ≤ B.g ∧ B.g ≤ 8) (ht : gI h 1 1 = iI t ∧ 0 ≤ t ∧ t ≤ 500) (hT : ∀ i, 0 ≤ i → i < t → zA h 2 i = sgn (T i) ∧ 0 ≤ T i ∧ T i ≤ 255) (hnd : gI h 80 3 = iI nd ∧ 0 ≤ nd ∧ nd ≤ 5) (hnp : gI h 1 8 = iI np ∧ 0 ≤ np ∧ np ≤ 8)
    (k1 : zF h 80 2 = 0 → K (iI (-1)) (sI h 1 18 (iI 1)))
    (k2 : ¬ zF h 80 2 = 0 → ¬ (0 ≤ n ∧ n ≤ t) → K (iI (-1)) (sI h 1 18 (iI 2)))
    (kf : ¬ zF h 80 2 = 0 → 0 ≤ n ∧ n ≤ t → ∀ e, Ends (T, n) B nd x0 (.inl e) → ∀ h', Ch (pPn (35 + 5 * np.toNat)) qPn h h' → Lay h' → gN h' = gN h → gU h' = gU h → zF h' 1 18 = 4 → zF h' 1 19 = e.1 → zF h' 3 8 = e.2 → zF h' 1 1 = 0 → gI h' 1 8 = iI np → K (iI (-1)) h')
    (k3 : ¬ zF h 80 2 = 0 → 0 ≤ n ∧ n ≤ t → ∀ p', Ends (T, n) B nd x0 (.inr p') → np = 8 → ∀ h', Ch (pPn (35 + 5 * np.toNat)) qPn h h' → Lay h' → gN h' = gN h → gU h' = gU h → zF h' 1 18 = 3 → zF h' 1 19 = 0 → zF h' 1 1 = 0 → gI h' 1 8 = iI np → K (iI (-1)) h')
    (kt : ¬ zF h 80 2 = 0 → 0 ≤ n ∧ n ≤ t → ∀ p', Ends (T, n) B nd x0 (.inr p') → np < 8 → ∀ h', Ch (pPn (35 + 5 * np.toNat)) qPn h h' → Lay h' → gN h' = gN h → gU h' = gU h → CPl h' (35 + 5 * np.toNat) p' → p'.ok nd → zF h' 1 18 = 0 → zF h' 1 19 = 0 → zF h' 1 1 = 0 → gI h' 1 8 = iI (np + 1) → K (iI np) h') :
    XW (d + 36) 119 0 [.ref 1, .int (iI n), .null] [] h (KI K) := by
  have hb := hB.1
  have hN := hL.2.2.2.1
  have pl := pl_at hL hnp.2
  have nn := pl.2.ne
  have go : ¬ zF h 80 2 = 0 → 0 ≤ n ∧ n ≤ t → XW (d + 36) 119 34 [.ref 1, .int (iI n), .null] [] h (KI K) := by
    intro cm cn
    have kt := kt cm cn
    have kf := kf cm cn
    have k3 := k3 cm cn
    have ok : XT.ok (T, n) := ⟨⟨cn.1, by show n ≤ 500; omega⟩, fun k k0 k1 => (hT k k0 (by have : k < n := k1; omega)).2⟩
    obtain ⟨τ, hτ⟩ : ∃ τ : XT, τ = (T, n) := ⟨_, rfl⟩
    rw [← hτ] at kt kf k3 ok
    have t1 : τ.1 = T := by rw [hτ]
    have t2 : τ.2 = n := by rw [hτ]
    generalize hpa : 35 + 5 * np.toNat = pa at kt kf k3 pl nn
    have F0 : Fr (pF [(1, 1)]) h (sI h 1 1 (iI 0)) := (Fr.refl _ _).sI 1 1 _ (by simp [pF])
    have main : ∀ h2, Fr (pF [(1, 1), (3, 1), (3, 2), (3, 3), (3, 4), (3, 5), (3, 6), (3, 7), (3, 8)]) h h2 → zF h2 1 1 = 0 → TX h2 τ → TC h2 τ 0 → zF h2 3 7 = 0 → XW (d + 36) 119 47 [.ref 1, .int (iI n), .null] [] h2 (KI K) := by
      intro h2 f2 z1 X2 T2 z7
      have L2 := f2.lay hL
      have S2 : StC h2 := hS.fr f2 (fun a j q => by simp [pF]; omega)
      have C2 : CBk h2 rb B := hC.fr f2 hb (fun a j p q => by simp [pF]; omega)
      have c2 : Ch (pPn pa) qPn h h2 := pn_fr f2 (fun a j q => pn_1 q)
      have e8 : gI h2 1 8 = iI np := by rw [(f2.2 1 8 (by simp [pF])).1]; exact hnp.1
      have e3 : gI h2 80 3 = iI nd := by rw [(f2.2 80 3 (by simp [pF])).1]; exact hnd.1
      have rp : gR h2 34 (iI np).toNatClampNeg = pa := by rw [iI_nat (by omega) (by omega), f2.R]; exact pl.1
      refine w_aload0 r_119_47 ?_
      refine w_getA (x := 5) r_119_48 (Lk_1 L2) (Lr_1_4 L2) (by decide) ?_
      refine w_aload0 r_119_51 ?_
      refine w_getA (x := 34) r_119_52 (Lk_1 L2) (Lr_1_7 L2) (by decide) ?_
      refine w_aload0 r_119_55 ?_
      refine v_getI r_119_56 (Lk_1 L2) e8 ?_
      refine w_aald r_119_59 (Lk_34 L2) (by rw [Lz_34 L2]; exact iI_in (by decide) (by omega) (by show np < 9; omega)) rp (by omega) ?_
      refine w_aload0 r_119_60 ?_
      refine w_getA (x := rb) r_119_61 (Lk_1 L2) ((f2.R 1 5).trans hB.2.1) (by omega) ?_
      refine w_aload0 r_119_64 ?_
      refine w_getA (x := 80) r_119_65 (Lk_1 L2) (Lr_1_9 L2) (by decide) ?_
      refine v_getI r_119_68 (Lk_80 L2) e3 ?_
      refine k_70 r_119_71 (Lk_5 L2) (Nat.le_of_ble_eq_true rfl) ?_
      refine c_readPlan pl.2 hb L2 S2 X2 T2 C2 hg hnd.2 (fun e ee h3 c3 n3 u3 b3 o3 => ?_) (fun p' ee okp h3 c3 n3 u3 cp e7 o3 => ?_)
      · have c' := c2.trans c3
        have n' : gN h3 = gN h := by rw [n3, f2.N]
        have u' : gU h3 = gU h := by rw [u3, f2.U]
        have L3 := pn_lay c' hL (by omega)
        have v80 : gI h3 3 7 = iI e.1 := by rw [gI_F, b3.1]
        have e1r : R32 e.1 := by rw [← b3.1]; exact zF_in _ _ _
        have F4 : Fr (pF [(1, 8), (1, 18), (1, 19)]) h3 (sI (sI h3 1 19 (iI e.1)) 1 18 (iI 4)) := ((Fr.refl _ _).sI 1 19 _ (by simp [pF])).sI 1 18 _ (by simp [pF])
        have R := kf e ee (sI (sI h3 1 19 (iI e.1)) 1 18 (iI 4)) (c'.trans (pn_fr F4 (fun a j q => pn_a q))) (F4.lay L3) n' u' (zF_s (by decide)) (by rw [zF_o (by decide), zF_s e1r]) (by rw [F4.F (by simp [pF])]; exact b3.2) (by rw [F4.F (by simp [pF])]; unfold zF; rw [o3]; exact z1) (by rw [sI_here, if_neg (by decide), sI_here, if_neg (by decide), o3]; exact e8)
        have hL := L3
        refine w_istore2 r_119_74 rfl ?_
        refine w_aload0 r_119_75 ?_
        refine w_aload0 r_119_76 ?_
        refine w_getA (x := 3) r_119_77 (Lk_1 hL) (Lr_1_2 hL) (by decide) ?_
        refine v_getI r_119_80 (Lk_3 hL) v80 ?_
        refine w_putI r_119_83 (Lk_1 hL) (Ln_1 hL) ?_
        refine w_iload2 r_119_86 ?_
        refine v_if_ne r_119_87 (by first | exact zF_in _ _ _ | exact zA_in _ _ _ | omega) (fun q => absurd q (by omega)) (fun _ => ?_)
        refine w_aload0 r_119_90 ?_
        refine w_iconst (v := iI (4)) r_119_91 rfl ?_
        refine k_157 r_119_92 (Lk_1 hL) (Nat.le_of_ble_eq_true rfl) ?_
        refine c_refuse hL ?_
        refine w_iret r_119_95 ?_
        exact R
      · have c' := c2.trans c3
        have n' : gN h3 = gN h := by rw [n3, f2.N]
        have u' : gU h3 = gU h := by rw [u3, f2.U]
        have L3 := pn_lay c' hL (by omega)
        have v80 : gI h3 3 7 = iI 0 := by rw [gI_F, e7, z7]
        have z11 : zF h3 1 1 = 0 := by unfold zF; rw [o3]; exact z1
        have e8' : gI h3 1 8 = iI np := by rw [o3]; exact e8
        have e97 : gI (sI h3 1 19 (iI 0)) 1 8 = iI np := by rw [sI_here, if_neg (by decide)]; exact e8'
        have hL := L3
        by_cases y : np = 8
        · have F4 : Fr (pF [(1, 8), (1, 18), (1, 19)]) h3 (sI (sI h3 1 19 (iI 0)) 1 18 (iI 3)) := ((Fr.refl _ _).sI 1 19 _ (by simp [pF])).sI 1 18 _ (by simp [pF])
          have R := k3 p' ee y (sI (sI h3 1 19 (iI 0)) 1 18 (iI 3)) (c'.trans (pn_fr F4 (fun a j q => pn_a q))) (F4.lay L3) n' u' (zF_s (by decide)) (by rw [zF_o (by decide), zF_s (by decide)]) (by rw [F4.F (by simp [pF])]; exact z11) (by rw [sI_here, if_neg (by decide)]; exact e97)
          refine w_istore2 r_119_74 rfl ?_
          refine w_aload0 r_119_75 ?_
          refine w_aload0 r_119_76 ?_
          refine w_getA (x := 3) r_119_77 (Lk_1 hL) (Lr_1_2 hL) (by decide) ?_
          refine v_getI r_119_80 (Lk_3 hL) v80 ?_
          refine w_putI r_119_83 (Lk_1 hL) (Ln_1 hL) ?_
          refine w_iload2 r_119_86 ?_
          refine v_if_ne r_119_87 (by first | exact zF_in _ _ _ | exact zA_in _ _ _ | omega) (fun _ => ?_) (fun q => absurd q (by omega))
          refine w_aload0 r_119_96 ?_
          refine v_getI r_119_97 (Lk_1 hL) e97 ?_
          refine w_bipush (v := iI (8)) r_119_100 rfl ?_
          refine v_ic_lt r_119_102 (by first | exact zF_in _ _ _ | exact zA_in _ _ _ | omega) (by first | exact zF_in _ _ _ | exact zA_in _ _ _ | omega) (fun q => absurd q (by omega)) (fun _ => ?_)
          refine w_aload0 r_119_105 ?_
          refine w_iconst (v := iI (3)) r_119_106 rfl ?_
          refine k_157 r_119_107 (Lk_1 hL) (Nat.le_of_ble_eq_true rfl) ?_
          refine c_refuse hL ?_
          refine w_iret r_119_110 ?_
          exact R
        · have F4 : Fr (pF [(1, 8), (1, 18), (1, 19)]) h3 (sI (sI (sI h3 1 19 (iI 0)) 1 8 (iI (np + 1))) 1 18 (iI 0)) := (((Fr.refl _ _).sI 1 19 _ (by simp [pF])).sI 1 8 _ (by simp [pF])).sI 1 18 _ (by simp [pF])
          have e123 : gI (sI (sI h3 1 19 (iI 0)) 1 8 (iI (np + 1))) 1 8 = iI (np + 1) := by rw [sI_here, if_pos rfl]
          have R := kt p' ee (by omega) (sI (sI (sI h3 1 19 (iI 0)) 1 8 (iI (np + 1))) 1 18 (iI 0)) (c'.trans (pn_fr F4 (fun a j q => pn_a q))) (F4.lay L3) n' u' (cp.fr F4 pl.2 (fun a j p q => by simp [pF]; omega)) okp (zF_s (by decide)) (by rw [zF_o (by decide), zF_o (by decide), zF_s (by decide)]) (by rw [F4.F (by simp [pF])]; exact z11) (by rw [sI_here, if_neg (by decide)]; exact e123)
          refine w_istore2 r_119_74 rfl ?_
          refine w_aload0 r_119_75 ?_
          refine w_aload0 r_119_76 ?_
          refine w_getA (x := 3) r_119_77 (Lk_1 hL) (Lr_1_2 hL) (by decide) ?_
          refine v_getI r_119_80 (Lk_3 hL) v80 ?_
          refine w_putI r_119_83 (Lk_1 hL) (Ln_1 hL) ?_
          refine w_iload2 r_119_86 ?_
          refine v_if_ne r_119_87 (by first | exact zF_in _ _ _ | exact zA_in _ _ _ | omega) (fun _ => ?_) (fun q => absurd q (by omega))
          refine w_aload0 r_119_96 ?_
          refine v_getI r_119_97 (Lk_1 hL) e97 ?_
          refine w_bipush (v := iI (8)) r_119_100 rfl ?_
          refine v_ic_lt r_119_102 (by first | exact zF_in _ _ _ | exact zA_in _ _ _ | omega) (by first | exact zF_in _ _ _ | exact zA_in _ _ _ | omega) (fun _ => ?_) (fun q => absurd q (by omega))
          refine w_aload0 r_119_111 ?_
          refine w_dupA r_119_112 ?_
          refine v_getI r_119_113 (Lk_1 hL) e97 ?_
          refine w_iconst (v := iI (1)) r_119_116 rfl ?_
          refine v_iadd r_119_117 ?_
          refine w_putI r_119_118 (Lk_1 hL) (Ln_1 hL) ?_
          refine w_aload0 r_119_121 ?_
          refine w_aload0 r_119_122 ?_
          refine v_getI r_119_123 (Lk_1 hL) e123 ?_
          refine w_iconst (v := iI (1)) r_119_126 rfl ?_
          refine v_isub r_119_127 ?_
          refine k_156 r_119_128 (Lk_1 hL) (Nat.le_of_ble_eq_true rfl) ?_
          refine c_answer hL ?_
          refine w_iret r_119_131 ?_
          rw [show np + 1 - 1 = np by omega]
          exact R
    have L1 := F0.lay hL
    have B1 : XW (d + 36) 119 39 [.ref 1, .int (iI n), .null] [] (sI h 1 1 (iI 0)) (KI K) := by
      refine w_aload0 r_119_39 ?_
      refine w_getA (x := 3) r_119_40 (Lk_1 L1) (Lr_1_2 L1) (by decide) ?_
      refine w_iload1 r_119_43 ?_
      refine k_88 r_119_44 (Lk_3 L1) (Nat.le_of_ble_eq_true rfl) ?_
      exact c_begin (d := d + 33) L1 (by omega) ok t2 (fun i a b => by rw [F0.A (by simp [pF]), t1]; exact (hT i a (by omega)).1) (fun h2 f2 X2 T2 z7 => main h2 ((F0.mono (fun a j q => by simp [pF] at q ⊢; omega)).trans (f2.mono (fun a j q => by simp [pF] at q ⊢; omega))) (by rw [f2.F (by simp [pF]), zF_s (by decide)]) X2 T2 z7)
    refine w_aload0 r_119_34 ?_
    refine w_iconst (v := iI (0)) r_119_35 rfl ?_
    refine w_putI r_119_36 (Lk_1 hL) (Ln_1 hL) ?_
    exact B1
  refine w_aload0 r_119_0 ?_
  refine w_getA (x := 80) r_119_1 (Lk_1 hL) (Lr_1_9 hL) (by decide) ?_
  refine v_getI r_119_4 (Lk_80 hL) (gI_F h 80 2) ?_
  refine v_if_ne r_119_7 (by first | exact zF_in _ _ _ | exact zA_in _ _ _ | omega) (fun c7 => ?_) (fun c7 => ?_)
  · refine w_iload1 r_119_16 ?_
    refine v_if_lt r_119_17 (by first | exact zF_in _ _ _ | exact zA_in _ _ _ | omega) (fun c17 => ?_) (fun c17 => ?_)
    · refine w_aload0 r_119_28 ?_
      refine w_iconst (v := iI (2)) r_119_29 rfl ?_
      refine k_157 r_119_30 (Lk_1 hL) (Nat.le_of_ble_eq_true rfl) ?_
      refine c_refuse hL ?_
      refine w_iret r_119_33 ?_
      exact k2 (by omega) (by omega)
    · refine w_iload1 r_119_20 ?_
      refine w_aload0 r_119_21 ?_
      refine v_getI r_119_22 (Lk_1 hL) ht.1 ?_
      refine v_ic_le r_119_25 (by first | exact zF_in _ _ _ | exact zA_in _ _ _ | omega) (by first | exact zF_in _ _ _ | exact zA_in _ _ _ | omega) (fun c25 => ?_) (fun c25 => ?_)
      · exact go (by omega) (by omega)
      · refine w_aload0 r_119_28 ?_
        refine w_iconst (v := iI (2)) r_119_29 rfl ?_
        refine k_157 r_119_30 (Lk_1 hL) (Nat.le_of_ble_eq_true rfl) ?_
        refine c_refuse hL ?_
        refine w_iret r_119_33 ?_
        exact k2 (by omega) (by omega)
  · refine w_aload0 r_119_10 ?_
    refine w_iconst (v := iI (1)) r_119_11 rfl ?_
    refine k_157 r_119_12 (Lk_1 hL) (Nat.le_of_ble_eq_true rfl) ?_
    refine c_refuse hL ?_
    refine w_iret r_119_15 ?_
    exact k1 (by omega)
end CPV
