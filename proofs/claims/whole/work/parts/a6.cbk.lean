/-! the class reads a book -/
/-- what reading a book into the cells sp .. sp + 13 may change -/
def pB (sp : Nat) : Nat → Nat → Bool := fun a j => (a == 3 && (decide (2 ≤ j) && decide (j ≤ 8))) || (decide (sp ≤ a) && decide (a ≤ sp + 13))
def BL (h : XH) (e : Int × Int) : Prop := zF h 3 7 = e.1 ∧ zF h 3 8 = e.2
section CB
variable {d : Nat} {h : XH} {K : Int32 → XH → Prop} {KU : XH → Prop} {τ : XT} {k : Int} {w : List Int} {a sp : Nat} {B : XB}
theorem pB_tk {h' : XH} (f : Fr PTk h h') : Fr (pB sp) h h' := f.mono (fun a j q => by simp [pB] at q; simp [pF]; omega)
theorem pB_blm (h : XH) (f p : Int) : Fr (pB sp) h (blm h f p) := (blm_fr h f p).mono (fun a j q => by simp [pB] at q; simp [pF]; omega)
theorem blm_BL {f p : Int} (hf : R32 f) (hp : R32 p) : BL (blm h f p) (f, p) := ⟨by unfold blm; rw [zF_o (by decide)]; exact zF_s hf, by unfold blm; exact zF_s hp⟩
theorem pB_TX {h' : XH} (hs : sp = 6 ∨ sp = 20) (f : Fr (pB sp) h h') (hX : TX h τ) : TX h' τ := hX.fr f (by simp [pB]; omega) (fun j => by simp [pB]; omega)
theorem pB_StC {h' : XH} (hs : sp = 6 ∨ sp = 20) (f : Fr (pB sp) h h') (hS : StC h) : StC h' := hS.fr f (fun a j q => by simp [pB]; omega)
theorem tk_StC {h' : XH} (f : Fr PTk h h') (hS : StC h) : StC h' := hS.fr f (fun a j q => by simp [pF]; omega)
theorem tk_TX {h' : XH} (f : Fr PTk h h') (hX : TX h τ) : TX h' τ := hX.fr f (by simp [pF]) (fun j => by simp [pF])
theorem tk_CBk {h' : XH} (f : Fr PTk h h') (hs : sp = 6 ∨ sp = 20) (hC : CBk h sp B) : CBk h' sp B := hC.fr f hs (fun a j p q => by simp [pF]; omega)
theorem TC.pos (hX : TX h τ) (hT : TC h τ k) : (0 ≤ τ.a k ∧ τ.a k ≤ 500) ∧ (0 ≤ τ.e k ∧ τ.e k ≤ τ.2) ∧ (0 ≤ τ.k k ∧ τ.k k ≤ 59) := by
  have o := hX.1.1
  have hk := hT.1
  have e := XT.e_at hX.1 hT.1.1 hT.1.2
  have a := XT.a_at hX.1 hT.1.1 hT.1.2
  omega
theorem c_indexOf {na zs : Nat} {f : Int → Int} {n z : Int} (hn : gK h na = 4 ∧ gZ h na = zs ∧ na ≠ 0) (hz : zs ≤ 8) (hc : 0 ≤ n ∧ n ≤ zs) (hf : ∀ i, 0 ≤ i → i < n → zL h na i = f i) (hzr : -9223372036854775808 ≤ z ∧ z ≤ 9223372036854775807) (kk : K (iI (nmI f n z)) h) : XW d 6 0 [.ref na, .int (iI n), .long (iL z), .null, .null] [] h (KI K) := by
  have key : ∀ m : Nat, m ≤ n.toNat → (∀ i : Int, 0 ≤ i → i < m → ¬ f i = z) → XW d 6 3 [.ref na, .int (iI n), .long (iL z), .null, .int (iI m)] [] h (KI K) := by
    refine upto _ ?_ ?_
    · intro no
      have e : nmI f n z = -1 := fst1_no (fun i a b => by simp [no i a (by omega)])
      rw [e] at kk
      refine w_iload4 r_6_3 ?_
      refine w_iload1 r_6_5 ?_
      refine v_ic_ge r_6_6 (by first | exact zF_in _ _ _ | exact zA_in _ _ _ | omega) (by first | exact zF_in _ _ _ | exact zA_in _ _ _ | omega) (fun _ => ?_) (fun q => absurd q (by omega))
      refine w_iconst (v := iI (-1)) r_6_34 rfl ?_
      refine w_iret r_6_35 ?_
      exact kk
    · intro m hm ih no
      have v19 : gL h na (m : Int).toNat = iL (f m) := by rw [gL_A, hf m (by omega) (by omega)]
      have zi := zL_in h na m
      rw [hf m (by omega) (by omega)] at zi
      by_cases q : f m = z
      · have e : nmI f n z = m := fst1_at (by omega) (by omega) (by simp [q]) (fun i a b => by simp [no i a (by omega)])
        rw [e] at kk
        refine w_iload4 r_6_3 ?_
        refine w_iload1 r_6_5 ?_
        refine v_ic_ge r_6_6 (by first | exact zF_in _ _ _ | exact zA_in _ _ _ | omega) (by first | exact zF_in _ _ _ | exact zA_in _ _ _ | omega) (fun q => absurd q (by omega)) (fun _ => ?_)
        refine w_iload4 r_6_9 ?_
        refine w_aload0 r_6_11 ?_
        refine v_len r_6_12 (by rw [hn.1]; decide) hn.2.1 ?_
        refine v_ic_ge r_6_13 (by first | exact zF_in _ _ _ | exact zA_in _ _ _ | omega) (by first | exact zF_in _ _ _ | exact zA_in _ _ _ | omega) (fun q => absurd q (by omega)) (fun _ => ?_)
        refine w_aload0 r_6_16 ?_
        refine w_iload4 r_6_17 ?_
        refine v_lald r_6_19 hn.1 hn.2.1 (by omega) (by omega) v19 ?_
        refine w_lload2 r_6_20 ?_
        refine v_lcmp r_6_21 (by first | exact zF_in _ _ _ | exact zA_in _ _ _ | omega) (by first | exact zF_in _ _ _ | exact zA_in _ _ _ | omega) ?_
        rw [if_neg (by omega), if_pos q]
        refine v_if_ne r_6_22 (by first | exact zF_in _ _ _ | exact zA_in _ _ _ | omega) (fun q => absurd q (by omega)) (fun _ => ?_)
        refine w_iload4 r_6_25 ?_
        refine w_iret r_6_27 ?_
        exact kk
      · have J := ih (fun i a b => by
          by_cases y : i = (m : Int)
          · rw [y]; exact q
          · exact no i a (by omega))
        by_cases y : z < f m
        · refine w_iload4 r_6_3 ?_
          refine w_iload1 r_6_5 ?_
          refine v_ic_ge r_6_6 (by first | exact zF_in _ _ _ | exact zA_in _ _ _ | omega) (by first | exact zF_in _ _ _ | exact zA_in _ _ _ | omega) (fun q => absurd q (by omega)) (fun _ => ?_)
          refine w_iload4 r_6_9 ?_
          refine w_aload0 r_6_11 ?_
          refine v_len r_6_12 (by rw [hn.1]; decide) hn.2.1 ?_
          refine v_ic_ge r_6_13 (by first | exact zF_in _ _ _ | exact zA_in _ _ _ | omega) (by first | exact zF_in _ _ _ | exact zA_in _ _ _ | omega) (fun q => absurd q (by omega)) (fun _ => ?_)
          refine w_aload0 r_6_16 ?_
          refine w_iload4 r_6_17 ?_
          refine v_lald r_6_19 hn.1 hn.2.1 (by omega) (by omega) v19 ?_
          refine w_lload2 r_6_20 ?_
          refine v_lcmp r_6_21 (by first | exact zF_in _ _ _ | exact zA_in _ _ _ | omega) (by first | exact zF_in _ _ _ | exact zA_in _ _ _ | omega) ?_
          rw [if_pos y]
          refine v_if_ne r_6_22 (by first | exact zF_in _ _ _ | exact zA_in _ _ _ | omega) (fun _ => ?_) (fun q => absurd q (by omega))
          refine w_iinc4 r_6_28 rfl (iI_add _ _) ?_
          refine w_goto r_6_31 ?_
          exact J
        · refine w_iload4 r_6_3 ?_
          refine w_iload1 r_6_5 ?_
          refine v_ic_ge r_6_6 (by first | exact zF_in _ _ _ | exact zA_in _ _ _ | omega) (by first | exact zF_in _ _ _ | exact zA_in _ _ _ | omega) (fun q => absurd q (by omega)) (fun _ => ?_)
          refine w_iload4 r_6_9 ?_
          refine w_aload0 r_6_11 ?_
          refine v_len r_6_12 (by rw [hn.1]; decide) hn.2.1 ?_
          refine v_ic_ge r_6_13 (by first | exact zF_in _ _ _ | exact zA_in _ _ _ | omega) (by first | exact zF_in _ _ _ | exact zA_in _ _ _ | omega) (fun q => absurd q (by omega)) (fun _ => ?_)
          refine w_aload0 r_6_16 ?_
          refine w_iload4 r_6_17 ?_
          refine v_lald r_6_19 hn.1 hn.2.1 (by omega) (by omega) v19 ?_
          refine w_lload2 r_6_20 ?_
          refine v_lcmp r_6_21 (by first | exact zF_in _ _ _ | exact zA_in _ _ _ | omega) (by first | exact zF_in _ _ _ | exact zA_in _ _ _ | omega) ?_
          rw [if_neg y, if_neg q]
          refine v_if_ne r_6_22 (by first | exact zF_in _ _ _ | exact zA_in _ _ _ | omega) (fun _ => ?_) (fun q => absurd q (by omega))
          refine w_iinc4 r_6_28 rfl (iI_add _ _) ?_
          refine w_goto r_6_31 ?_
          exact J
  have J := key 0 (by omega) (fun i a b => by omega)
  refine w_iconst (v := iI (0)) r_6_0 rfl ?_
  refine w_istore4 r_6_1 rfl ?_
  exact J
theorem c_groundNamed {z : Int} (hL : Lay h) (hb : sp = 6 ∨ sp = 20) (hC : CBk h sp B) (hg : 0 ≤ B.g ∧ B.g ≤ 8) (hzr : -9223372036854775808 ≤ z ∧ z ≤ 9223372036854775807) (kk : K (iI (nmI B.nm B.g z)) h) : XW (d + 1) 4 0 [.ref sp, .long (iL z), .null] [] h (KI K) := by
  refine w_aload0 r_4_0 ?_
  refine w_getA (x := sp + 1) r_4_1 (Bk_ hL hb) (Br_1 hL hb) (by omega) ?_
  refine w_aload0 r_4_4 ?_
  refine v_getI r_4_5 (Bk_ hL hb) hC.f0 ?_
  refine w_lload1 r_4_8 ?_
  refine k_6 r_4_9 (Nat.le_of_ble_eq_true rfl) ?_
  refine c_indexOf (zs := 8) ⟨(Bk_1 hL hb).1, (Bk_1 hL hb).2, by omega⟩ (by decide) (by omega) (fun i a b => (hC.2.1 i a b).1) hzr ?_
  refine w_iret r_4_12 ?_
  exact kk
theorem c_tryNamed {z : Int} (hL : Lay h) (hb : sp = 6 ∨ sp = 20) (hC : CBk h sp B) (hg : 0 ≤ B.t ∧ B.t ≤ 6) (hzr : -9223372036854775808 ≤ z ∧ z ≤ 9223372036854775807) (kk : K (iI (nmI B.tn B.t z)) h) : XW (d + 1) 5 0 [.ref sp, .long (iL z), .null] [] h (KI K) := by
  refine w_aload0 r_5_0 ?_
  refine w_getA (x := sp + 10) r_5_1 (Bk_ hL hb) (Br_5 hL hb) (by omega) ?_
  refine w_aload0 r_5_4 ?_
  refine v_getI r_5_5 (Bk_ hL hb) hC.f4 ?_
  refine w_lload1 r_5_8 ?_
  refine k_6 r_5_9 (Nat.le_of_ble_eq_true rfl) ?_
  refine c_indexOf (zs := 6) ⟨(Bk_10 hL hb).1, (Bk_10 hL hb).2, by omega⟩ (by decide) (by omega) (fun i a b => (hC.2.2.2.2 i a b).1) hzr ?_
  refine w_iret r_5_12 ?_
  exact kk
theorem c_takeTold {lo hi : Int} (hlo : 0 ≤ lo ∧ lo ≤ 9999) (hhi : 0 ≤ hi ∧ hi ≤ 9999) (hL : Lay h) (hX : TX h τ) (hT : TC h τ k) (hs : SS h a w) (kt : ∀ r, gTold τ w lo hi k = .inr r → ∀ h', Fr PTk h h' → TC h' τ r.2 → K (iI r.1) h') (kf : ∀ e, gTold τ w lo hi k = .inl e → ∀ h', Fr (pO PTk (pF [(3, 7), (3, 8)])) h h' → BL h' e → K (iI (-1)) h') : XW (d + 6) 13 0 [.ref 4, .ref a, .int (iI lo), .int (iI hi)] [] h (KI K) := by
  have p := TC.pos hX hT
  have go : τ.is k w = true → ∀ h', Fr PTk h h' → TC h' τ (τ.e k) → XW (d + 6) 13 11 [.ref 4, .ref a, .int (iI lo), .int (iI hi)] [] h' (KI K) := by
    intro q h' f' t'
    have hL := f'.lay hL
    have X' := tk_TX f' hX
    have p' := TC.pos X' t'
    have w1 : gWord τ w k = .inr (τ.e k) := by unfold gWord; rw [if_pos q]
    have u : gTold τ w lo hi k = gNum τ lo hi (τ.e k) := bnd_r w1
    have kt' : τ.k (τ.e k) = 2 → lo ≤ τ.v (τ.e k) ∧ τ.v (τ.e k) ≤ hi → ∀ h2, Fr PTk h' h2 → TC h2 τ (τ.e (τ.e k)) → K (iI (τ.v (τ.e k))) h2 := fun a b h2 f2 t2 => kt (τ.v (τ.e k), τ.e (τ.e k)) (by rw [u]; unfold gNum; rw [if_pos a, if_pos b]) h2 (f'.trans f2) t2
    have k1' : ¬ τ.k (τ.e k) = 2 → K (iI (-1)) (blm h' 1 (τ.a (τ.e k))) := fun a => kf (1, τ.a (τ.e k)) (by rw [u]; unfold gNum; rw [if_neg a]) _ ((f'.mono (fun a j q => by simp [pO, pF] at q ⊢; omega)).trans ((blm_fr _ _ _).mono (fun a j q => by simp [pO, pF] at q ⊢; omega))) (blm_BL (by omega) (by omega))
    have k4' : τ.k (τ.e k) = 2 → ¬ (lo ≤ τ.v (τ.e k) ∧ τ.v (τ.e k) ≤ hi) → K (iI (-1)) (blm h' 4 (τ.a (τ.e k))) := fun a b => kf (4, τ.a (τ.e k)) (by rw [u]; unfold gNum; rw [if_pos a, if_neg b]) _ ((f'.mono (fun a j q => by simp [pO, pF] at q ⊢; omega)).trans ((blm_fr _ _ _).mono (fun a j q => by simp [pO, pF] at q ⊢; omega))) (blm_BL (by omega) (by omega))
    refine w_aload0 r_13_11 ?_
    refine w_getA (x := 3) r_13_12 (Lk_4 hL) (Lr_4_0 hL) (by decide) ?_
    refine w_iload2 r_13_15 ?_
    refine w_iload3 r_13_16 ?_
    refine k_98 r_13_17 (Lk_3 hL) (Nat.le_of_ble_eq_true rfl) ?_
    refine c_takeWhole (by omega) (by omega) hL X' t' (fun a b h2 f2 t2 => ?_) (fun a => ?_) (fun a b => ?_)
    · refine w_goto r_13_20 ?_
      refine w_iret r_13_24 ?_
      exact kt' a b h2 f2 t2
    · refine w_goto r_13_20 ?_
      refine w_iret r_13_24 ?_
      exact k1' a
    · refine w_goto r_13_20 ?_
      refine w_iret r_13_24 ?_
      exact k4' a b
  refine w_aload0 r_13_0 ?_
  refine w_getA (x := 3) r_13_1 (Lk_4 hL) (Lr_4_0 hL) (by decide) ?_
  refine w_aload1 r_13_4 ?_
  refine k_97 r_13_5 (Lk_3 hL) (Nat.le_of_ble_eq_true rfl) ?_
  refine c_takeWord hL hX hT hs (fun q h' f' t' => ?_) (fun q => ?_)
  · refine v_if_eq r_13_8 (by omega) (fun q => absurd q (by omega)) (fun _ => ?_)
    exact go q h' f' t'
  · refine v_if_eq r_13_8 (by omega) (fun _ => ?_) (fun q => absurd q (by omega))
    refine w_iconst (v := iI (-1)) r_13_23 rfl ?_
    refine w_iret r_13_24 ?_
    exact kf (1, τ.a k) (bnd_l (by unfold gWord; rw [if_neg (by rw [q]; decide)])) _ ((blm_fr _ _ _).mono (fun a j q => by simp [pO, pF] at q ⊢; omega)) (blm_BL (by omega) (by omega))
theorem c_takeTurn (hL : Lay h) (hX : TX h τ) (hT : TC h τ k) (hs : SS h a w) (kt : ∀ r, gTurn τ w k = .inr r → ∀ h', Fr PTk h h' → TC h' τ r.2 → K (iI r.1) h') (kf : ∀ e, gTurn τ w k = .inl e → ∀ h', Fr (pO PTk (pF [(3, 7), (3, 8)])) h h' → BL h' e → K (iI (-1000)) h') : XW (d + 6) 15 0 [.ref 4, .ref a, .null, .null, .null] [] h (KI K) := by
  have p := TC.pos hX hT
  have hL0 := hL
  have tail : τ.is k w = true → ∀ (mn : Int) (h' : XH), Fr PTk h h' → TC h' τ (τ.sk (τ.e k)) → (mn = if τ.k (τ.e k) = 45 then 1 else 0) → XW (d + 6) 15 52 [.ref 4, .ref a, .int (iI (τ.a (τ.e k))), .int (iI mn), .null] [] h' (KI K) := by
    intro q mn h' f' t' em
    have hL := f'.lay hL0
    have X' := tk_TX f' hX
    have p' := TC.pos X' t'
    have pe : (0 ≤ τ.a (τ.e k) ∧ τ.a (τ.e k) ≤ 500) := by
      have := XT.a_at hX.1 (k := τ.e k) (by omega) (by omega)
      have := hX.1.1
      omega
    have w1 : gWord τ w k = .inr (τ.e k) := by unfold gWord; rw [if_pos q]
    have u : gTurn τ w k = if τ.k (τ.sk (τ.e k)) = 2 then (if τ.v (τ.sk (τ.e k)) ≤ 4 then .inr (τ.sv (τ.e k), τ.e (τ.sk (τ.e k))) else .inl (4, τ.a (τ.e k))) else .inl (1, τ.a (τ.sk (τ.e k))) := bnd_r w1
    have kf1 : ¬ τ.k (τ.sk (τ.e k)) = 2 → K (iI (-1000)) (blm h' 1 (τ.a (τ.sk (τ.e k)))) := fun z => kf _ (by rw [u, if_neg z]) _ ((f'.mono (fun a j q => by simp [pO, pF] at q ⊢; omega)).trans ((blm_fr _ _ _).mono (fun a j q => by simp [pO, pF] at q ⊢; omega))) (blm_BL (by omega) (by omega))
    have kf4 : τ.k (τ.sk (τ.e k)) = 2 → ¬ τ.v (τ.sk (τ.e k)) ≤ 4 → K (iI (-1000)) (blm (blm h' 4 (τ.a (τ.sk (τ.e k)))) 4 (τ.a (τ.e k))) := fun z y => kf _ (by rw [u, if_pos z, if_neg y]) _ ((f'.mono (fun a j q => by simp [pO, pF] at q ⊢; omega)).trans (((blm_fr _ _ _).trans (blm_fr _ _ _)).mono (fun a j q => by simp [pO, pF] at q ⊢; omega))) (blm_BL (by omega) (by omega))
    have kt' : τ.k (τ.sk (τ.e k)) = 2 → τ.v (τ.sk (τ.e k)) ≤ 4 → ∀ h2, Fr PTk h' h2 → TC h2 τ (τ.e (τ.sk (τ.e k))) → K (iI (τ.sv (τ.e k))) h2 := fun z y h2 f2 t2 => kt _ (by rw [u, if_pos z, if_pos y]) h2 (f'.trans f2) t2
    have e7 : ∀ f p : Int, gI (blm h' f p) 3 7 = iI f := fun f p => by unfold blm; rw [sI_here, if_neg (by decide), sI_here, if_pos rfl]
    by_cases z : τ.k (τ.sk (τ.e k)) = 2
    · have vi := XT.v_at X'.1 t'.1.1 t'.1.2 z
      by_cases y : τ.v (τ.sk (τ.e k)) ≤ 4
      · by_cases m : τ.k (τ.e k) = 45
        · have sv : τ.sv (τ.e k) = -τ.v (τ.sk (τ.e k)) := by unfold XT.sv; rw [if_pos m]
          rw [if_pos m] at em
          subst em
          refine w_aload0 r_15_52 ?_
          refine w_getA (x := 3) r_15_53 (Lk_4 hL) (Lr_4_0 hL) (by decide) ?_
          refine w_iconst (v := iI (0)) r_15_56 rfl ?_
          refine w_iconst (v := iI (4)) r_15_57 rfl ?_
          refine k_98 r_15_58 (Lk_3 hL) (Nat.le_of_ble_eq_true rfl) ?_
          refine c_takeWhole (by omega) (by omega) hL X' t' (fun _ _ h2 f2 t2 => ?_) (fun z' => absurd z z') (fun _ y' => absurd (by omega) y')
          refine w_istore4 r_15_61 rfl ?_
          refine w_iload4 r_15_63 ?_
          refine w_iconst (v := iI (-1)) r_15_65 rfl ?_
          refine v_ic_ne r_15_66 (by first | exact zF_in _ _ _ | exact zA_in _ _ _ | omega) (by first | exact zF_in _ _ _ | exact zA_in _ _ _ | omega) (fun _ => ?_) (fun q => absurd q (by omega))
          refine w_iload3 r_15_94 ?_
          refine v_if_eq r_15_95 (by first | exact zF_in _ _ _ | exact zA_in _ _ _ | omega) (fun q => absurd q (by omega)) (fun _ => ?_)
          refine w_iload4 r_15_98 ?_
          refine v_ineg r_15_100 ?_
          refine w_goto r_15_101 ?_
          refine w_iret r_15_106 ?_
          rw [← sv]
          exact kt' z y h2 f2 t2
        · have sv : τ.sv (τ.e k) = τ.v (τ.sk (τ.e k)) := by unfold XT.sv; rw [if_neg m]
          rw [if_neg m] at em
          subst em
          refine w_aload0 r_15_52 ?_
          refine w_getA (x := 3) r_15_53 (Lk_4 hL) (Lr_4_0 hL) (by decide) ?_
          refine w_iconst (v := iI (0)) r_15_56 rfl ?_
          refine w_iconst (v := iI (4)) r_15_57 rfl ?_
          refine k_98 r_15_58 (Lk_3 hL) (Nat.le_of_ble_eq_true rfl) ?_
          refine c_takeWhole (by omega) (by omega) hL X' t' (fun _ _ h2 f2 t2 => ?_) (fun z' => absurd z z') (fun _ y' => absurd (by omega) y')
          refine w_istore4 r_15_61 rfl ?_
          refine w_iload4 r_15_63 ?_
          refine w_iconst (v := iI (-1)) r_15_65 rfl ?_
          refine v_ic_ne r_15_66 (by first | exact zF_in _ _ _ | exact zA_in _ _ _ | omega) (by first | exact zF_in _ _ _ | exact zA_in _ _ _ | omega) (fun _ => ?_) (fun q => absurd q (by omega))
          refine w_iload3 r_15_94 ?_
          refine v_if_eq r_15_95 (by first | exact zF_in _ _ _ | exact zA_in _ _ _ | omega) (fun _ => ?_) (fun q => absurd q (by omega))
          refine w_iload4 r_15_104 ?_
          refine w_iret r_15_106 ?_
          rw [← sv]
          exact kt' z y h2 f2 t2
      · refine w_aload0 r_15_52 ?_
        refine w_getA (x := 3) r_15_53 (Lk_4 hL) (Lr_4_0 hL) (by decide) ?_
        refine w_iconst (v := iI (0)) r_15_56 rfl ?_
        refine w_iconst (v := iI (4)) r_15_57 rfl ?_
        refine k_98 r_15_58 (Lk_3 hL) (Nat.le_of_ble_eq_true rfl) ?_
        refine c_takeWhole (by omega) (by omega) hL X' t' (fun _ y' => absurd y'.2 y) (fun z' => absurd z z') (fun _ _ => ?_)
        refine w_istore4 r_15_61 rfl ?_
        refine w_iload4 r_15_63 ?_
        refine w_iconst (v := iI (-1)) r_15_65 rfl ?_
        refine v_ic_ne r_15_66 (by first | exact zF_in _ _ _ | exact zA_in _ _ _ | omega) (by first | exact zF_in _ _ _ | exact zA_in _ _ _ | omega) (fun q => absurd q (by omega)) (fun _ => ?_)
        refine w_aload0 r_15_69 ?_
        refine w_getA (x := 3) r_15_70 (Lk_4 hL) (Lr_4_0 hL) (by decide) ?_
        refine v_getI r_15_73 (Lk_3 hL) (e7 _ _) ?_
        refine w_iconst (v := iI (4)) r_15_76 rfl ?_
        refine v_ic_ne r_15_77 (by first | exact zF_in _ _ _ | exact zA_in _ _ _ | omega) (by first | exact zF_in _ _ _ | exact zA_in _ _ _ | omega) (fun q => absurd q (by omega)) (fun _ => ?_)
        refine w_aload0 r_15_80 ?_
        refine w_getA (x := 3) r_15_81 (Lk_4 hL) (Lr_4_0 hL) (by decide) ?_
        refine w_iconst (v := iI (4)) r_15_84 rfl ?_
        refine w_iload2 r_15_85 ?_
        refine k_100 r_15_86 (Lk_3 hL) (Nat.le_of_ble_eq_true rfl) ?_
        refine c_blameAt hL ?_
        refine w_popI r_15_89 ?_
        refine w_sipush (v := iI (-1000)) r_15_90 rfl ?_
        refine w_iret r_15_93 ?_
        exact kf4 z y
    · refine w_aload0 r_15_52 ?_
      refine w_getA (x := 3) r_15_53 (Lk_4 hL) (Lr_4_0 hL) (by decide) ?_
      refine w_iconst (v := iI (0)) r_15_56 rfl ?_
      refine w_iconst (v := iI (4)) r_15_57 rfl ?_
      refine k_98 r_15_58 (Lk_3 hL) (Nat.le_of_ble_eq_true rfl) ?_
      refine c_takeWhole (by omega) (by omega) hL X' t' (fun z' => absurd z' z) (fun _ => ?_) (fun z' => absurd z' z)
      refine w_istore4 r_15_61 rfl ?_
      refine w_iload4 r_15_63 ?_
      refine w_iconst (v := iI (-1)) r_15_65 rfl ?_
      refine v_ic_ne r_15_66 (by first | exact zF_in _ _ _ | exact zA_in _ _ _ | omega) (by first | exact zF_in _ _ _ | exact zA_in _ _ _ | omega) (fun q => absurd q (by omega)) (fun _ => ?_)
      refine w_aload0 r_15_69 ?_
      refine w_getA (x := 3) r_15_70 (Lk_4 hL) (Lr_4_0 hL) (by decide) ?_
      refine v_getI r_15_73 (Lk_3 hL) (e7 _ _) ?_
      refine w_iconst (v := iI (4)) r_15_76 rfl ?_
      refine v_ic_ne r_15_77 (by first | exact zF_in _ _ _ | exact zA_in _ _ _ | omega) (by first | exact zF_in _ _ _ | exact zA_in _ _ _ | omega) (fun _ => ?_) (fun q => absurd q (by omega))
      refine w_sipush (v := iI (-1000)) r_15_90 rfl ?_
      refine w_iret r_15_93 ?_
      exact kf1 z
  have go : τ.is k w = true → ∀ h', Fr PTk h h' → TC h' τ (τ.e k) → XW (d + 6) 15 15 [.ref 4, .ref a, .null, .null, .null] [] h' (KI K) := by
    intro q h' f' t'
    have hL := f'.lay hL0
    have X' := tk_TX f' hX
    have p' := TC.pos X' t'
    by_cases m : τ.k (τ.e k) = 45
    · have es : τ.sk (τ.e k) = τ.e (τ.e k) := by unfold XT.sk; rw [if_pos m]
      have T := fun g f t => tail q 1 g f t (by rw [if_pos m])
      rw [es] at T
      refine w_aload0 r_15_15 ?_
      refine w_getA (x := 3) r_15_16 (Lk_4 hL) (Lr_4_0 hL) (by decide) ?_
      refine v_getI r_15_19 (Lk_3 hL) (t'.i.1) ?_
      refine w_istore2 r_15_22 rfl ?_
      refine w_aload0 r_15_23 ?_
      refine w_getA (x := 3) r_15_24 (Lk_4 hL) (Lr_4_0 hL) (by decide) ?_
      refine v_getI r_15_27 (Lk_3 hL) (t'.i.2.2) ?_
      refine w_bipush (v := iI (45)) r_15_30 rfl ?_
      refine v_ic_ne r_15_32 (by first | exact zF_in _ _ _ | exact zA_in _ _ _ | omega) (by first | exact zF_in _ _ _ | exact zA_in _ _ _ | omega) (fun q => absurd q (by omega)) (fun _ => ?_)
      refine w_iconst (v := iI (1)) r_15_35 rfl ?_
      refine w_goto r_15_36 ?_
      refine w_istore3 r_15_40 rfl ?_
      refine w_iload3 r_15_41 ?_
      refine v_if_eq r_15_42 (by first | exact zF_in _ _ _ | exact zA_in _ _ _ | omega) (fun q => absurd q (by omega)) (fun _ => ?_)
      refine w_aload0 r_15_45 ?_
      refine w_getA (x := 3) r_15_46 (Lk_4 hL) (Lr_4_0 hL) (by decide) ?_
      refine k_89 r_15_49 (Lk_3 hL) (Nat.le_of_ble_eq_true rfl) ?_
      refine c_advance hL X' (by omega) t'.i.2.1 (fun h2 f2 t2 => ?_)
      exact T h2 (f'.trans f2) t2
    · have es : τ.sk (τ.e k) = τ.e k := by unfold XT.sk; rw [if_neg m]
      have T := tail q 0 h' f' (by rw [es]; exact t') (by rw [if_neg m])
      refine w_aload0 r_15_15 ?_
      refine w_getA (x := 3) r_15_16 (Lk_4 hL) (Lr_4_0 hL) (by decide) ?_
      refine v_getI r_15_19 (Lk_3 hL) (t'.i.1) ?_
      refine w_istore2 r_15_22 rfl ?_
      refine w_aload0 r_15_23 ?_
      refine w_getA (x := 3) r_15_24 (Lk_4 hL) (Lr_4_0 hL) (by decide) ?_
      refine v_getI r_15_27 (Lk_3 hL) (t'.i.2.2) ?_
      refine w_bipush (v := iI (45)) r_15_30 rfl ?_
      refine v_ic_ne r_15_32 (by first | exact zF_in _ _ _ | exact zA_in _ _ _ | omega) (by first | exact zF_in _ _ _ | exact zA_in _ _ _ | omega) (fun _ => ?_) (fun q => absurd q (by omega))
      refine w_iconst (v := iI (0)) r_15_39 rfl ?_
      refine w_istore3 r_15_40 rfl ?_
      refine w_iload3 r_15_41 ?_
      refine v_if_eq r_15_42 (by first | exact zF_in _ _ _ | exact zA_in _ _ _ | omega) (fun _ => ?_) (fun q => absurd q (by omega))
      exact T
  refine w_aload0 r_15_0 ?_
  refine w_getA (x := 3) r_15_1 (Lk_4 hL) (Lr_4_0 hL) (by decide) ?_
  refine w_aload1 r_15_4 ?_
  refine k_97 r_15_5 (Lk_3 hL) (Nat.le_of_ble_eq_true rfl) ?_
  refine c_takeWord hL hX hT hs (fun q h' f' t' => ?_) (fun q => ?_)
  · refine v_if_ne r_15_8 (by omega) (fun _ => ?_) (fun q => absurd q (by omega))
    exact go q h' f' t'
  · refine v_if_ne r_15_8 (by omega) (fun q => absurd q (by omega)) (fun _ => ?_)
    refine w_sipush (v := iI (-1000)) r_15_11 rfl ?_
    refine w_iret r_15_14 ?_
    exact kf (1, τ.a k) (bnd_l (by unfold gWord; rw [if_neg (by rw [q]; decide)])) _ ((blm_fr _ _ _).mono (fun a j q => by simp [pO, pF] at q ⊢; omega)) (blm_BL (by omega) (by omega))
end CB
