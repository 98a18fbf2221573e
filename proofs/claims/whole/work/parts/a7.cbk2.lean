/-! the class reads a book: names, pairs -/
section CB2
variable {d : Nat} {h : XH} {K : Int32 → XH → Prop} {KU : XH → Prop} {τ : XT} {k : Int} {w : List Int} {a sp : Nat} {B : XB}
abbrev PTf : Nat → Nat → Bool := pF [(3, 2), (3, 3), (3, 4), (3, 5), (3, 6), (3, 7), (3, 8)]
theorem tf_tk {h' : XH} (f : Fr PTk h h') : Fr PTf h h' := f.mono (fun a j q => by simp [pF] at q ⊢; omega)
theorem tf_bl (h : XH) (f p : Int) : Fr PTf h (blm h f p) := (blm_fr h f p).mono (fun a j q => by simp [pF] at q ⊢; omega)
theorem fr_pO {P Q : Nat → Nat → Bool} {h' : XH} (f : Fr P h h') : Fr (pO P Q) h h' := f.mono (fun a j q => by simp only [pO, Bool.or_eq_false_iff] at q; exact q.1)
theorem fr_pO' {P Q : Nat → Nat → Bool} {h' : XH} (f : Fr Q h h') : Fr (pO P Q) h h' := f.mono (fun a j q => by simp only [pO, Bool.or_eq_false_iff] at q; exact q.2)
theorem pk_pf {Q : Nat → Nat → Bool} {h' : XH} (f : Fr (pO PTk Q) h h') : Fr (pO PTf Q) h h' := f.mono (fun a j q => by
  simp only [pO, Bool.or_eq_false_iff] at q ⊢
  refine ⟨?_, q.2⟩
  have := q.1
  simp [pF] at this ⊢
  omega)
theorem c_takeNewName {na zs : Nat} {f : Int → Int} {n : Int} {ag : Bool} (hL : Lay h) (hS : StC h) (hX : TX h τ) (hT : TC h τ k) (hn : gK h na = 4 ∧ gZ h na = zs ∧ na < gN h ∧ na ≠ 0) (h3 : ¬ na = 3 ∧ ¬ na = 2) (hzs : zs ≤ 8) (hc : 0 ≤ n ∧ n ≤ zs) (hag : τ.k k = 1 → (ag = true ↔ ¬ nmI f n (τ.w k) = -1))
    (kt : ∀ j, gName τ f n zs k = .inr j → ∀ h', Fr (pO PTk (pA [na])) h h' → TX h' τ → TC h' τ j → zL h' na n = τ.w k → (∀ i, 0 ≤ i → ¬ i = n → zL h' na i = zL h na i) → K (iI 1) h')
    (kf : ∀ e, gName τ f n zs k = .inl e → ∀ h', Fr PTf h h' → BL h' e → K (iI 0) h') : XW (d + 7) 10 0 [.ref 4, .int (iI (b2i ag)), .int (iI n), .ref na] [] h (KI K) := by
  have p := TC.pos hX hT
  have bi := b2i_in ag
  by_cases q : τ.nm k = true
  · have q1 := nm_word q
    have q2 := hag q1
    have kw := hT.2.2.2.2.2 q1
    have wl := XT.w_at hX.1 hT.1.1 hT.1.2 q1
    have wr : -9223372036854775808 ≤ τ.w k ∧ τ.w k ≤ 9223372036854775807 := by
      have a1 := (enc_nn (f := fun i => τ.1 (τ.a k + i)) (τ.e k - τ.a k).toNat (fun i x y => wl.2 i x (by omega))).1
      have a2 := enc_le (f := fun i => τ.1 (τ.a k + i)) (τ.e k - τ.a k).toNat (by omega) (fun i x y => wl.2 i x (by omega))
      have a3 : (27 : Int) ^ (τ.e k - τ.a k).toNat ≤ 282429536481 := by
        have : (τ.e k - τ.a k).toNat = 0 ∨ (τ.e k - τ.a k).toNat = 1 ∨ (τ.e k - τ.a k).toNat = 2 ∨ (τ.e k - τ.a k).toNat = 3 ∨ (τ.e k - τ.a k).toNat = 4 ∨ (τ.e k - τ.a k).toNat = 5 ∨ (τ.e k - τ.a k).toNat = 6 ∨ (τ.e k - τ.a k).toNat = 7 ∨ (τ.e k - τ.a k).toNat = 8 := by omega
        rcases this with q | q | q | q | q | q | q | q | q <;> rw [q] <;> decide
      unfold XT.w
      omega
    have isn : ∀ (KK : Int32 → XH → Prop), KK (iI 1) h → XW (d + 6) 94 0 [.ref 3] [] h (KI KK) := fun KK kk => c_isName hL hS hX hT (fun _ => kk) (fun z => absurd q (by rw [z]; decide))
    by_cases g : nmI f n (τ.w k) = -1
    · have ea : ag = false := by
        cases ag with
        | false => rfl
        | true => exact absurd g (q2.1 rfl)
      subst ea
      change XW (d + 7) 10 0 [.ref 4, .int (iI 0), .int (iI n), .ref na] [] h (KI K)
      by_cases m : (zs : Int) ≤ n
      · have F := kf (5, τ.a k) (by unfold gName; rw [if_pos q, if_pos g, if_pos m]) _ (tf_bl _ _ _) (blm_BL (by omega) (by omega))
        refine w_aload0 r_10_0 ?_
        refine w_getA (x := 3) r_10_1 (Lk_4 hL) (Lr_4_0 hL) (by decide) ?_
        refine k_94 r_10_4 (Lk_3 hL) (Nat.le_of_ble_eq_true rfl) ?_
        refine isn _ ?_
        refine v_if_ne r_10_7 (by first | exact zF_in _ _ _ | exact zA_in _ _ _ | omega) (fun _ => ?_) (fun q => absurd q (by omega))
        refine w_iload1 r_10_19 ?_
        refine v_if_eq r_10_20 (by first | exact zF_in _ _ _ | exact zA_in _ _ _ | omega) (fun _ => ?_) (fun q => absurd q (by omega))
        refine w_iload2 r_10_32 ?_
        refine w_aload3 r_10_33 ?_
        refine v_len r_10_34 (by rw [hn.1]; decide) hn.2.1 ?_
        refine v_ic_lt r_10_35 (by first | exact zF_in _ _ _ | exact zA_in _ _ _ | omega) (by first | exact zF_in _ _ _ | exact zA_in _ _ _ | omega) (fun q => absurd q (by omega)) (fun _ => ?_)
        refine w_aload0 r_10_38 ?_
        refine w_getA (x := 3) r_10_39 (Lk_4 hL) (Lr_4_0 hL) (by decide) ?_
        refine w_iconst (v := iI (5)) r_10_42 rfl ?_
        refine k_99 r_10_43 (Lk_3 hL) (Nat.le_of_ble_eq_true rfl) ?_
        refine c_blame hL hT ?_
        refine w_zret r_10_46 (by decide) ?_
        exact F
      · have F1 : Fr (pO PTk (pA [na])) h (sL h na n.toNat (iL (τ.w k))) := (Fr.refl _ _).sL na _ _ (by simp [pO, pA])
        have X1 := hX.fr F1 (by simp [pO, pA, pF]; omega) (fun j => by simp [pO, pA, pF]; omega)
        have w3 : gI (sL h na n.toNat (iL (τ.w k))) 3 3 = iI (τ.e k) := hT.i.2.1
        have F := fun h' (f' : Fr PTk (sL h na n.toNat (iL (τ.w k))) h') t' => kt (τ.e k) (by unfold gName; rw [if_pos q, if_pos g, if_neg m]) h' (F1.trans (fr_pO f')) (tk_TX f' X1) t' (by rw [f'.L (by simp [pF]; omega), zL_s (by omega) (by omega) wr, if_pos rfl]) (fun i i0 i1 => by rw [f'.L (by simp [pF]; omega), zL_s (by omega) i0 wr, if_neg i1])
        refine w_aload0 r_10_0 ?_
        refine w_getA (x := 3) r_10_1 (Lk_4 hL) (Lr_4_0 hL) (by decide) ?_
        refine k_94 r_10_4 (Lk_3 hL) (Nat.le_of_ble_eq_true rfl) ?_
        refine isn _ ?_
        refine v_if_ne r_10_7 (by first | exact zF_in _ _ _ | exact zA_in _ _ _ | omega) (fun _ => ?_) (fun q => absurd q (by omega))
        refine w_iload1 r_10_19 ?_
        refine v_if_eq r_10_20 (by first | exact zF_in _ _ _ | exact zA_in _ _ _ | omega) (fun _ => ?_) (fun q => absurd q (by omega))
        refine w_iload2 r_10_32 ?_
        refine w_aload3 r_10_33 ?_
        refine v_len r_10_34 (by rw [hn.1]; decide) hn.2.1 ?_
        refine v_ic_lt r_10_35 (by first | exact zF_in _ _ _ | exact zA_in _ _ _ | omega) (by first | exact zF_in _ _ _ | exact zA_in _ _ _ | omega) (fun _ => ?_) (fun q => absurd q (by omega))
        refine w_aload3 r_10_47 ?_
        refine w_iload2 r_10_48 ?_
        refine w_aload0 r_10_49 ?_
        refine w_getA (x := 3) r_10_50 (Lk_4 hL) (Lr_4_0 hL) (by decide) ?_
        refine v_getL r_10_53 (Lk_3 hL) kw ?_
        refine v_last r_10_56 hn.1 hn.2.2.1 hn.2.1 (by omega) (by omega) ?_
        refine w_aload0 r_10_57 ?_
        refine w_getA (x := 3) r_10_58 (Lk_4 hL) (Lr_4_0 hL) (by decide) ?_
        refine k_89 r_10_61 (Lk_3 hL) (Nat.le_of_ble_eq_true rfl) ?_
        refine c_advance (F1.lay hL) X1 (by omega) w3 (fun h' f' t' => ?_)
        refine w_iconst (v := iI (1)) r_10_64 rfl ?_
        refine w_zret r_10_65 (by decide) ?_
        exact F h' f' t'
    · have ea : ag = true := q2.2 g
      subst ea
      change XW (d + 7) 10 0 [.ref 4, .int (iI 1), .int (iI n), .ref na] [] h (KI K)
      have F := kf (3, τ.a k) (by unfold gName; rw [if_pos q, if_neg g]) _ (tf_bl _ _ _) (blm_BL (by omega) (by omega))
      refine w_aload0 r_10_0 ?_
      refine w_getA (x := 3) r_10_1 (Lk_4 hL) (Lr_4_0 hL) (by decide) ?_
      refine k_94 r_10_4 (Lk_3 hL) (Nat.le_of_ble_eq_true rfl) ?_
      refine isn _ ?_
      refine v_if_ne r_10_7 (by first | exact zF_in _ _ _ | exact zA_in _ _ _ | omega) (fun _ => ?_) (fun q => absurd q (by omega))
      refine w_iload1 r_10_19 ?_
      refine v_if_eq r_10_20 (by first | exact zF_in _ _ _ | exact zA_in _ _ _ | omega) (fun q => absurd q (by omega)) (fun _ => ?_)
      refine w_aload0 r_10_23 ?_
      refine w_getA (x := 3) r_10_24 (Lk_4 hL) (Lr_4_0 hL) (by decide) ?_
      refine w_iconst (v := iI (3)) r_10_27 rfl ?_
      refine k_99 r_10_28 (Lk_3 hL) (Nat.le_of_ble_eq_true rfl) ?_
      refine c_blame hL hT ?_
      refine w_zret r_10_31 (by decide) ?_
      exact F
  · have isn : ∀ (KK : Int32 → XH → Prop), KK (iI 0) h → XW (d + 6) 94 0 [.ref 3] [] h (KI KK) := fun KK kk => c_isName hL hS hX hT (fun z => absurd z q) (fun _ => kk)
    have F := kf (1, τ.a k) (by unfold gName; rw [if_neg q]) _ (tf_bl _ _ _) (blm_BL (by omega) (by omega))
    refine w_aload0 r_10_0 ?_
    refine w_getA (x := 3) r_10_1 (Lk_4 hL) (Lr_4_0 hL) (by decide) ?_
    refine k_94 r_10_4 (Lk_3 hL) (Nat.le_of_ble_eq_true rfl) ?_
    refine isn _ ?_
    refine v_if_ne r_10_7 (by first | exact zF_in _ _ _ | exact zA_in _ _ _ | omega) (fun q => absurd q (by omega)) (fun _ => ?_)
    refine w_aload0 r_10_10 ?_
    refine w_getA (x := 3) r_10_11 (Lk_4 hL) (Lr_4_0 hL) (by decide) ?_
    refine w_iconst (v := iI (1)) r_10_14 rfl ?_
    refine k_99 r_10_15 (Lk_3 hL) (Nat.le_of_ble_eq_true rfl) ?_
    refine c_blame hL hT ?_
    refine w_zret r_10_18 (by decide) ?_
    exact F
/-- a row of pairs in the class -/
def CPr (h h' : XH) (ca : Nat) (g n : Int) (ks vs : Int → Int) : Prop := (∀ i, 0 ≤ i → i < n → zA h' (ca + 1) (g * 4 + i) = ks i ∧ zA h' (ca + 2) (g * 4 + i) = vs i) ∧ (∀ i, 0 ≤ i → i < g * 4 → zA h' (ca + 1) i = zA h (ca + 1) i ∧ zA h' (ca + 2) i = zA h (ca + 2) i) ∧ ∀ i, 0 ≤ i → i < g → zA h' (ca + 3) i = zA h (ca + 3) i
theorem CPr.tk {h1 h2 : XH} {ca : Nat} {g n : Int} {ks vs : Int → Int} (hc : Cv ca) (f : Fr PTk h1 h2) (C : CPr h h1 ca g n ks vs) : CPr h h2 ca g n ks vs := by
  have cv : 8 ≤ ca ∧ ca ≤ 26 := by unfold Cv at hc; omega
  have p : ∀ q j, 8 ≤ q → PTk q j = false := fun q j hq => by simp [pF]; omega
  refine ⟨fun i a b => ?_, fun i a b => ?_, fun i a b => ?_⟩
  · rw [f.A (p _ _ (by omega)), f.A (p _ _ (by omega))]; exact C.1 i a b
  · rw [f.A (p _ _ (by omega)), f.A (p _ _ (by omega))]; exact C.2.1 i a b
  · rw [f.A (p _ _ (by omega))]; exact C.2.2 i a b
theorem c_readPairs {ca : Nat} {g mk mv : Int} {ri : Bool} (hL : Lay h) (hX : TX h τ) (hT : TC h τ k) (hc : Cv ca) (hg : 0 ≤ g ∧ g < 8) (hmk : 0 ≤ mk ∧ mk ≤ 9999) (hmv : 0 ≤ mv ∧ mv ≤ 9999)
    (kt : ∀ r, gPairs τ mk mv ri 5 0 (-1) 0 k z0 z0 = .inr r → ∀ h', Fr (pO PTk (pA [ca + 1, ca + 2, ca + 3])) h h' → TC h' τ r.2.2.2 → CPr h h' ca g r.1 r.2.1 r.2.2.1 → zA h' (ca + 3) g = r.1 → K (iI 1) h')
    (kf : ∀ e, gPairs τ mk mv ri 5 0 (-1) 0 k z0 z0 = .inl e → ∀ h', Fr (pO PTf (pA [ca + 1, ca + 2, ca + 3])) h h' → BL h' e → K (iI 0) h') : XW (d + 3) 11 0 [.ref 4, .ref ca, .int (iI g), .int (iI mk), .int (iI mv), .int (iI (b2i ri)), .null, .null, .null, .null] [] h (KI K) := by
  have hL0 := hL
  have hX0 := hX
  have cv : 8 ≤ ca ∧ ca ≤ 26 := by unfold Cv at hc; omega
  have bi := b2i_in ri
  have key : ∀ (n : Nat) (i lk lv k : Int) (ks vs : Int → Int) (X9 : Value) (h1 : XH), (n : Int) = 5 - i → (0 ≤ i ∧ i ≤ 4) → (-1 ≤ lk ∧ lk ≤ 9999) → (0 ≤ lv ∧ lv ≤ 9999) → Fr (pO PTk (pA [ca + 1, ca + 2, ca + 3])) h h1 → TC h1 τ k → CPr h h1 ca g i ks vs →
      (∀ r, gPairs τ mk mv ri n i lk lv k ks vs = .inr r → ∀ h', Fr (pO PTk (pA [ca + 1, ca + 2, ca + 3])) h h' → TC h' τ r.2.2.2 → CPr h h' ca g r.1 r.2.1 r.2.2.1 → zA h' (ca + 3) g = r.1 → K (iI 1) h') →
      (∀ e, gPairs τ mk mv ri n i lk lv k ks vs = .inl e → ∀ h', Fr (pO PTf (pA [ca + 1, ca + 2, ca + 3])) h h' → BL h' e → K (iI 0) h') →
      XW (d + 3) 11 9 [.ref 4, .ref ca, .int (iI g), .int (iI mk), .int (iI mv), .int (iI (b2i ri)), .int (iI lk), .int (iI lv), .int (iI i), X9] [] h1 (KI K) := by
    intro n
    induction n with
    | zero => intro i lk lv k ks vs X9 h1 hn hi; omega
    | succ n ih =>
      intro i lk lv k ks vs X9 h1 hn hi hlk hlv f1 T1 C1 kt kf
      have hL := f1.lay hL0
      have X1 : TX h1 τ := hX0.fr f1 (by simp [pO, pA, pF]; omega) (fun j => by simp [pO, pA, pF]; omega)
      have p := TC.pos X1 T1
      unfold gPairs at kt kf
      have bad1 : ¬ τ.k k = 2 → K (iI 0) (blm h1 1 (τ.a k)) := fun z => kf (1, τ.a k) (bnd_l (by unfold gNum; rw [if_neg z])) _ ((pk_pf f1).trans (fr_pO (tf_bl _ _ _))) (blm_BL (by omega) (by omega))
      have bad4 : τ.k k = 2 → ¬ (lk + 1 ≤ τ.v k ∧ τ.v k ≤ mk) → K (iI 0) (blm h1 4 (τ.a k)) := fun z y => kf (4, τ.a k) (bnd_l (by unfold gNum; rw [if_pos z, if_neg y])) _ ((pk_pf f1).trans (fr_pO (tf_bl _ _ _))) (blm_BL (by omega) (by omega))
      have good : τ.k k = 2 → lk + 1 ≤ τ.v k ∧ τ.v k ≤ mk → ∀ h2, Fr PTk h1 h2 → TC h2 τ (τ.e k) → XW (d + 3) 11 46 [.ref 4, .ref ca, .int (iI g), .int (iI mk), .int (iI mv), .int (iI (b2i ri)), .int (iI (τ.v k)), .int (iI lv), .int (iI i), .int (iI (τ.a k))] [] h2 (KI K) := by
        intro z y h2 f2 T2
        have vi := XT.v_at X1.1 T1.1.1 T1.1.2 z
        have F2 := f1.trans (fr_pO f2)
        have hL := F2.lay hL0
        have X2 := tk_TX f2 X1
        have p2 := TC.pos X2 T2
        have u1 : gNum τ (lk + 1) mk k = .inr (τ.v k, τ.e k) := by unfold gNum; rw [if_pos z, if_pos y]
        rw [bnd_r u1] at kt kf
        by_cases i4 : i = 4
        · have F := kf (5, τ.a k) (by rw [if_pos i4]) _ ((pk_pf F2).trans (fr_pO (tf_bl h2 5 (τ.a k)))) (blm_BL (by omega) (by omega))
          refine w_iload8 r_11_46 ?_
          refine w_iconst (v := iI (4)) r_11_48 rfl ?_
          refine v_ic_ne r_11_49 (by first | exact zF_in _ _ _ | exact zA_in _ _ _ | omega) (by first | exact zF_in _ _ _ | exact zA_in _ _ _ | omega) (fun q => absurd q (by omega)) (fun _ => ?_)
          refine w_aload0 r_11_52 ?_
          refine w_getA (x := 3) r_11_53 (Lk_4 hL) (Lr_4_0 hL) (by decide) ?_
          refine w_iconst (v := iI (5)) r_11_56 rfl ?_
          refine w_iload9 r_11_57 ?_
          refine k_100 r_11_59 (Lk_3 hL) (Nat.le_of_ble_eq_true rfl) ?_
          refine c_blameAt hL ?_
          refine w_zret r_11_62 (by decide) ?_
          exact F
        · rw [if_neg i4] at kt kf
          have tail : ∀ lo : Int, lo = (if ri = true then lv else 0) → XW (d + 3) 11 78 [.ref 4, .ref ca, .int (iI g), .int (iI mk), .int (iI mv), .int (iI (b2i ri)), .int (iI (τ.v k)), .int (iI lv), .int (iI i), .int (iI (τ.a k))] [.int (iI lo), .ref 3] h2 (KI K) := by
            intro lo elo
            have lo9 : 0 ≤ lo ∧ lo ≤ 9999 := by rw [elo]; split <;> omega
            rw [← elo] at kt kf
            have bad1 : ¬ τ.k (τ.e k) = 2 → K (iI 0) (blm h2 1 (τ.a (τ.e k))) := fun z => kf (1, τ.a (τ.e k)) (bnd_l (by unfold gNum; rw [if_neg z])) _ ((pk_pf F2).trans (fr_pO (tf_bl _ _ _))) (blm_BL (by omega) (by omega))
            have bad4 : τ.k (τ.e k) = 2 → ¬ (lo ≤ τ.v (τ.e k) ∧ τ.v (τ.e k) ≤ mv) → K (iI 0) (blm h2 4 (τ.a (τ.e k))) := fun z y => kf (4, τ.a (τ.e k)) (bnd_l (by unfold gNum; rw [if_pos z, if_neg y])) _ ((pk_pf F2).trans (fr_pO (tf_bl _ _ _))) (blm_BL (by omega) (by omega))
            have good : τ.k (τ.e k) = 2 → lo ≤ τ.v (τ.e k) ∧ τ.v (τ.e k) ≤ mv → ∀ h3, Fr PTk h2 h3 → TC h3 τ (τ.e (τ.e k)) → XW (d + 3) 11 93 [.ref 4, .ref ca, .int (iI g), .int (iI mk), .int (iI mv), .int (iI (b2i ri)), .int (iI (τ.v k)), .int (iI (τ.v (τ.e k))), .int (iI i), .int (iI (τ.a k))] [] h3 (KI K) := by
              intro z2 y2 h3 f3 T3
              have vi2 := XT.v_at X2.1 T2.1.1 T2.1.2 z2
              have F3 := F2.trans (fr_pO f3)
              have hL := F3.lay hL0
              have X3 := tk_TX f3 X2
              have p3 := TC.pos X3 T3
              have u2 : gNum τ lo mv (τ.e k) = .inr (τ.v (τ.e k), τ.e (τ.e k)) := by unfold gNum; rw [if_pos z2, if_pos y2]
              dsimp only at kt kf
              rw [bnd_r u2] at kt kf
              dsimp only at kt kf
              have G : Fr (pA [ca + 1, ca + 2, ca + 3]) h3 (sI (sI (sI h3 (ca + 1) (g * 4 + i).toNat (iI (τ.v k))) (ca + 2) (g * 4 + i).toNat (iI (τ.v (τ.e k)))) (ca + 3) g.toNat (iI (i + 1))) := (((Fr.refl _ _).sI (ca + 1) _ _ (by simp [pA])).sI (ca + 2) _ _ (by simp [pA])).sI (ca + 3) _ _ (by simp [pA])
              have T4 := T3.fr G (fun j => by left; simp [pA]; omega)
              have r1 : ∀ j, 0 ≤ j → zA (sI (sI (sI h3 (ca + 1) (g * 4 + i).toNat (iI (τ.v k))) (ca + 2) (g * 4 + i).toNat (iI (τ.v (τ.e k)))) (ca + 3) g.toNat (iI (i + 1))) (ca + 1) j = if j = g * 4 + i then τ.v k else zA h1 (ca + 1) j := fun j j0 => by
                rw [zA_o _ (by omega), zA_o _ (by omega), zA_s (by omega) j0 (by omega), f3.A (by simp [pF]; omega), f2.A (by simp [pF]; omega)]
              have r2 : ∀ j, 0 ≤ j → zA (sI (sI (sI h3 (ca + 1) (g * 4 + i).toNat (iI (τ.v k))) (ca + 2) (g * 4 + i).toNat (iI (τ.v (τ.e k)))) (ca + 3) g.toNat (iI (i + 1))) (ca + 2) j = if j = g * 4 + i then τ.v (τ.e k) else zA h1 (ca + 2) j := fun j j0 => by
                rw [zA_o _ (by omega), zA_s (by omega) j0 (by omega), zA_o _ (by omega), f3.A (by simp [pF]; omega), f2.A (by simp [pF]; omega)]
              have r3 : ∀ j, 0 ≤ j → zA (sI (sI (sI h3 (ca + 1) (g * 4 + i).toNat (iI (τ.v k))) (ca + 2) (g * 4 + i).toNat (iI (τ.v (τ.e k)))) (ca + 3) g.toNat (iI (i + 1))) (ca + 3) j = if j = g then i + 1 else zA h1 (ca + 3) j := fun j j0 => by
                rw [zA_s (by omega) j0 (by omega), zA_o _ (by omega), zA_o _ (by omega), f3.A (by simp [pF]; omega), f2.A (by simp [pF]; omega)]
              have F4 := F3.trans (fr_pO' (P := PTk) G)
              have C4 : CPr h (sI (sI (sI h3 (ca + 1) (g * 4 + i).toNat (iI (τ.v k))) (ca + 2) (g * 4 + i).toNat (iI (τ.v (τ.e k)))) (ca + 3) g.toNat (iI (i + 1))) ca g (i + 1) (up1 ks i (τ.v k)) (up1 vs i (τ.v (τ.e k))) := by
                refine ⟨fun j j0 j1 => ?_, fun j j0 j1 => ?_, fun j j0 j1 => ?_⟩
                · rw [r1 _ (by omega), r2 _ (by omega)]
                  by_cases q : j = i
                  · rw [if_pos (by omega), if_pos (by omega), q, up1_at, up1_at]; exact ⟨rfl, rfl⟩
                  · rw [if_neg (by omega), if_neg (by omega), up1_ne q, up1_ne q]; exact C1.1 j j0 (by omega)
                · rw [r1 _ j0, r2 _ j0, if_neg (by omega), if_neg (by omega)]; exact C1.2.1 j j0 j1
                · rw [r3 _ j0, if_neg (by omega)]; exact C1.2.2 j j0 j1
              have e4 := r3 g hg.1
              rw [if_pos rfl] at e4
              have after : ∀ h4, Fr (pO PTk (pA [ca + 1, ca + 2, ca + 3])) h h4 → TC h4 τ (τ.e (τ.e k)) → CPr h h4 ca g (i + 1) (up1 ks i (τ.v k)) (up1 vs i (τ.v (τ.e k))) → zA h4 (ca + 3) g = i + 1 → XW (d + 3) 11 129 [.ref 4, .ref ca, .int (iI g), .int (iI mk), .int (iI mv), .int (iI (b2i ri)), .int (iI (τ.v k)), .int (iI (τ.v (τ.e k))), .int (iI i), .int (iI (τ.a k))] [] h4 (KI K) := by
                intro h4 F4 T4 C4 e4
                have hL := F4.lay hL0
                have X4 : TX h4 τ := hX0.fr F4 (by simp [pO, pA, pF]; omega) (fun j => by simp [pO, pA, pF]; omega)
                by_cases cm : τ.k (τ.e (τ.e k)) = 44
                · rw [if_pos cm] at kt kf
                  have J := fun h5 (f5 : Fr PTk h4 h5) t5 => ih (i + 1) (τ.v k) (τ.v (τ.e k)) (τ.e (τ.e (τ.e k))) (up1 ks i (τ.v k)) (up1 vs i (τ.v (τ.e k))) (.int (iI (τ.a k))) h5 (by omega) (by omega) (by omega) (by omega) (F4.trans (fr_pO f5)) t5 (C4.tk hc f5) kt kf
                  refine w_aload0 r_11_129 ?_
                  refine w_getA (x := 3) r_11_130 (Lk_4 hL) (Lr_4_0 hL) (by decide) ?_
                  refine v_getI r_11_133 (Lk_3 hL) T4.i.2.2 ?_
                  refine w_bipush (v := iI (44)) r_11_136 rfl ?_
                  refine v_ic_eq r_11_138 (by first | exact zF_in _ _ _ | exact zA_in _ _ _ | omega) (by first | exact zF_in _ _ _ | exact zA_in _ _ _ | omega) (fun _ => ?_) (fun q => absurd q (by omega))
                  refine w_aload0 r_11_143 ?_
                  refine w_getA (x := 3) r_11_144 (Lk_4 hL) (Lr_4_0 hL) (by decide) ?_
                  refine k_89 r_11_147 (Lk_3 hL) (Nat.le_of_ble_eq_true rfl) ?_
                  refine c_advance hL X4 (by omega) T4.i.2.1 (fun h5 f5 t5 => ?_)
                  refine w_iinc8 r_11_150 rfl (iI_add _ _) ?_
                  refine w_goto r_11_153 ?_
                  exact J h5 f5 t5
                · rw [if_neg cm] at kt
                  have R := kt _ rfl h4 F4 T4 C4 e4
                  refine w_aload0 r_11_129 ?_
                  refine w_getA (x := 3) r_11_130 (Lk_4 hL) (Lr_4_0 hL) (by decide) ?_
                  refine v_getI r_11_133 (Lk_3 hL) T4.i.2.2 ?_
                  refine w_bipush (v := iI (44)) r_11_136 rfl ?_
                  refine v_ic_eq r_11_138 (by first | exact zF_in _ _ _ | exact zA_in _ _ _ | omega) (by first | exact zF_in _ _ _ | exact zA_in _ _ _ | omega) (fun q => absurd q (by omega)) (fun _ => ?_)
                  refine w_iconst (v := iI (1)) r_11_141 rfl ?_
                  refine w_zret r_11_142 (by decide) ?_
                  exact R
              have A4 := after _ F4 T4 C4 e4
              refine w_aload1 r_11_93 ?_
              refine w_getA (x := ca + 1) r_11_94 (Cvk hL hc) (Cvk1 hL hc).2.2 (Cv.nz hc 1) ?_
              refine w_iload2 r_11_97 ?_
              refine w_iconst (v := iI (4)) r_11_98 rfl ?_
              refine v_imul r_11_99 ?_
              refine w_iload8 r_11_100 ?_
              refine v_iadd r_11_102 ?_
              refine w_iload6 r_11_103 ?_
              refine v_iast r_11_105 (Cvk1 hL hc).1 (Cvn hL hc (by decide)) (Cvk1 hL hc).2.1 (by decide) (by omega) ?_
              refine w_aload1 r_11_106 ?_
              refine w_getA (x := ca + 2) r_11_107 (Cvk hL hc) (Cvk2 hL hc).2.2 (Cv.nz hc 2) ?_
              refine w_iload2 r_11_110 ?_
              refine w_iconst (v := iI (4)) r_11_111 rfl ?_
              refine v_imul r_11_112 ?_
              refine w_iload8 r_11_113 ?_
              refine v_iadd r_11_115 ?_
              refine w_iload7 r_11_116 ?_
              refine v_iast r_11_118 (Cvk2 hL hc).1 (Cvn hL hc (by decide)) (Cvk2 hL hc).2.1 (by decide) (by omega) ?_
              refine w_aload1 r_11_119 ?_
              refine w_getA (x := ca + 3) r_11_120 (Cvk hL hc) (Cvk3 hL hc).2.2 (Cv.nz hc 3) ?_
              refine w_iload2 r_11_123 ?_
              refine w_iload8 r_11_124 ?_
              refine w_iconst (v := iI (1)) r_11_126 rfl ?_
              refine v_iadd r_11_127 ?_
              refine v_iast r_11_128 (Cvk3 hL hc).1 (Cvn hL hc (by decide)) (Cvk3 hL hc).2.1 (by decide) (by omega) ?_
              exact A4
            refine w_iload4 r_11_78 ?_
            refine k_98 r_11_80 (Lk_3 hL) (Nat.le_of_ble_eq_true rfl) ?_
            refine c_takeWhole (by omega) (by omega) hL X2 T2 (fun z y h3 f3 t3 => ?_) (fun z => ?_) (fun z y => ?_)
            skip
            · have vi2 := XT.v_at X2.1 T2.1.1 T2.1.2 z
              have G := good z y h3 f3 t3
              refine w_istore7 r_11_83 rfl ?_
              refine w_iload7 r_11_85 ?_
              refine w_iconst (v := iI (-1)) r_11_87 rfl ?_
              refine v_ic_ne r_11_88 (by first | exact zF_in _ _ _ | exact zA_in _ _ _ | omega) (by first | exact zF_in _ _ _ | exact zA_in _ _ _ | omega) (fun _ => ?_) (fun q => absurd q (by omega))
              exact G
            · have F := bad1 z
              refine w_istore7 r_11_83 rfl ?_
              refine w_iload7 r_11_85 ?_
              refine w_iconst (v := iI (-1)) r_11_87 rfl ?_
              refine v_ic_ne r_11_88 (by first | exact zF_in _ _ _ | exact zA_in _ _ _ | omega) (by first | exact zF_in _ _ _ | exact zA_in _ _ _ | omega) (fun q => absurd q (by omega)) (fun _ => ?_)
              refine w_iconst (v := iI (0)) r_11_91 rfl ?_
              refine w_zret r_11_92 (by decide) ?_
              exact F
            · have F := bad4 z y
              refine w_istore7 r_11_83 rfl ?_
              refine w_iload7 r_11_85 ?_
              refine w_iconst (v := iI (-1)) r_11_87 rfl ?_
              refine v_ic_ne r_11_88 (by first | exact zF_in _ _ _ | exact zA_in _ _ _ | omega) (by first | exact zF_in _ _ _ | exact zA_in _ _ _ | omega) (fun q => absurd q (by omega)) (fun _ => ?_)
              refine w_iconst (v := iI (0)) r_11_91 rfl ?_
              refine w_zret r_11_92 (by decide) ?_
              exact F
          by_cases r : ri = true
          · have T := tail lv (by rw [if_pos r])
            have b1 : b2i ri = 1 := by rw [r]; rfl
            refine w_iload8 r_11_46 ?_
            refine w_iconst (v := iI (4)) r_11_48 rfl ?_
            refine v_ic_ne r_11_49 (by first | exact zF_in _ _ _ | exact zA_in _ _ _ | omega) (by first | exact zF_in _ _ _ | exact zA_in _ _ _ | omega) (fun _ => ?_) (fun q => absurd q (by omega))
            refine w_aload0 r_11_63 ?_
            refine w_getA (x := 3) r_11_64 (Lk_4 hL) (Lr_4_0 hL) (by decide) ?_
            refine w_iload5 r_11_67 ?_
            refine v_if_eq r_11_69 (by first | exact zF_in _ _ _ | exact zA_in _ _ _ | omega) (fun q => absurd q (by omega)) (fun _ => ?_)
            refine w_iload7 r_11_72 ?_
            refine w_goto r_11_74 ?_
            exact T
          · have T := tail 0 (by rw [if_neg r])
            have b1 : b2i ri = 0 := by
              cases ri with
              | false => rfl
              | true => exact absurd rfl r
            refine w_iload8 r_11_46 ?_
            refine w_iconst (v := iI (4)) r_11_48 rfl ?_
            refine v_ic_ne r_11_49 (by first | exact zF_in _ _ _ | exact zA_in _ _ _ | omega) (by first | exact zF_in _ _ _ | exact zA_in _ _ _ | omega) (fun _ => ?_) (fun q => absurd q (by omega))
            refine w_aload0 r_11_63 ?_
            refine w_getA (x := 3) r_11_64 (Lk_4 hL) (Lr_4_0 hL) (by decide) ?_
            refine w_iload5 r_11_67 ?_
            refine v_if_eq r_11_69 (by first | exact zF_in _ _ _ | exact zA_in _ _ _ | omega) (fun _ => ?_) (fun q => absurd q (by omega))
            refine w_iconst (v := iI (0)) r_11_77 rfl ?_
            exact T
      refine w_iload8 r_11_9 ?_
      refine w_iconst (v := iI (4)) r_11_11 rfl ?_
      refine v_ic_gt r_11_12 (by first | exact zF_in _ _ _ | exact zA_in _ _ _ | omega) (by first | exact zF_in _ _ _ | exact zA_in _ _ _ | omega) (fun q => absurd q (by omega)) (fun _ => ?_)
      refine w_aload0 r_11_15 ?_
      refine w_getA (x := 3) r_11_16 (Lk_4 hL) (Lr_4_0 hL) (by decide) ?_
      refine v_getI r_11_19 (Lk_3 hL) T1.i.1 ?_
      refine w_istore9 r_11_22 rfl ?_
      refine w_aload0 r_11_24 ?_
      refine w_getA (x := 3) r_11_25 (Lk_4 hL) (Lr_4_0 hL) (by decide) ?_
      refine w_iload6 r_11_28 ?_
      refine w_iconst (v := iI (1)) r_11_30 rfl ?_
      refine v_iadd r_11_31 ?_
      refine w_iload3 r_11_32 ?_
      refine k_98 r_11_33 (Lk_3 hL) (Nat.le_of_ble_eq_true rfl) ?_
      refine c_takeWhole (by omega) (by omega) hL X1 T1 (fun z y h2 f2 t2 => ?_) (fun z => ?_) (fun z y => ?_)
      skip
      · have vi := XT.v_at X1.1 T1.1.1 T1.1.2 z
        have G := good z y h2 f2 t2
        refine w_istore6 r_11_36 rfl ?_
        refine w_iload6 r_11_38 ?_
        refine w_iconst (v := iI (-1)) r_11_40 rfl ?_
        refine v_ic_ne r_11_41 (by first | exact zF_in _ _ _ | exact zA_in _ _ _ | omega) (by first | exact zF_in _ _ _ | exact zA_in _ _ _ | omega) (fun _ => ?_) (fun q => absurd q (by omega))
        exact G
      · have F := bad1 z
        refine w_istore6 r_11_36 rfl ?_
        refine w_iload6 r_11_38 ?_
        refine w_iconst (v := iI (-1)) r_11_40 rfl ?_
        refine v_ic_ne r_11_41 (by first | exact zF_in _ _ _ | exact zA_in _ _ _ | omega) (by first | exact zF_in _ _ _ | exact zA_in _ _ _ | omega) (fun q => absurd q (by omega)) (fun _ => ?_)
        refine w_iconst (v := iI (0)) r_11_44 rfl ?_
        refine w_zret r_11_45 (by decide) ?_
        exact F
      · have F := bad4 z y
        refine w_istore6 r_11_36 rfl ?_
        refine w_iload6 r_11_38 ?_
        refine w_iconst (v := iI (-1)) r_11_40 rfl ?_
        refine v_ic_ne r_11_41 (by first | exact zF_in _ _ _ | exact zA_in _ _ _ | omega) (by first | exact zF_in _ _ _ | exact zA_in _ _ _ | omega) (fun q => absurd q (by omega)) (fun _ => ?_)
        refine w_iconst (v := iI (0)) r_11_44 rfl ?_
        refine w_zret r_11_45 (by decide) ?_
        exact F
  have J := key 5 0 (-1) 0 k z0 z0 .null h (by omega) (by omega) (by omega) (by omega) (Fr.refl _ _) hT ⟨fun i a b => by omega, fun i a b => ⟨rfl, rfl⟩, fun i a b => rfl⟩ kt kf
  refine w_iconst (v := iI (-1)) r_11_0 rfl ?_
  refine w_istore6 r_11_1 rfl ?_
  refine w_iconst (v := iI (0)) r_11_3 rfl ?_
  refine w_istore7 r_11_4 rfl ?_
  refine w_iconst (v := iI (0)) r_11_6 rfl ?_
  refine w_istore8 r_11_7 rfl ?_
  exact J
end CB2
