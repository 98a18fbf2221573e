/-! the class's tokens: words, wholes, faults -/
/-- the ways' words -/
def XT.way (τ : XT) (k : Int) : Int := if τ.is k sW_right = true then 0 else if τ.is k sW_left = true then 1 else if τ.is k sW_up = true then 2 else if τ.is k sW_down = true then 3 else -1
/-- a name -/
def XT.nm (τ : XT) (k : Int) : Bool := decide (τ.k k = 1) && (!τ.is k sW_ground && (!τ.is k sW_rover && (!τ.is k sW_try && (!τ.is k sW_if && (!τ.is k sW_is && (!τ.is k sW_else && decide (τ.way k = -1)))))))
section CT2
variable {d : Nat} {h : XH} {K : Int32 → XH → Prop} {KU : XH → Prop} {τ : XT} {k : Int} {w : List Int} {a : Nat}
/-- a fault is told -/
def blm (h : XH) (f p : Int) : XH := sI (sI h 3 7 (iI f)) 3 8 (iI p)
theorem blm_fr (h : XH) (f p : Int) : Fr (pF [(3, 7), (3, 8)]) h (blm h f p) := ((Fr.refl _ _).sI 3 7 _ (by simp [pF])).sI 3 8 _ (by simp [pF])
theorem c_blameAt {f p : Int} (hL : Lay h) (kk : K (iI 0) (blm h f p)) : XW d 100 0 [.ref 3, .int (iI f), .int (iI p)] [] h (KI K) := by
  refine w_aload0 r_100_0 ?_
  refine w_iload1 r_100_1 ?_
  refine w_putI r_100_2 (Lk_3 hL) (Ln_3 hL) ?_
  refine w_aload0 r_100_5 ?_
  refine w_iload2 r_100_6 ?_
  refine w_putI r_100_7 (Lk_3 hL) (Ln_3 hL) ?_
  refine w_iconst (v := iI (0)) r_100_10 rfl ?_
  refine w_zret r_100_11 (by decide) ?_
  exact kk
theorem TC.i (hT : TC h τ k) : gI h 3 2 = iI (τ.a k) ∧ gI h 3 3 = iI (τ.e k) ∧ gI h 3 4 = iI (τ.k k) := ⟨by rw [gI_F, hT.2.1], by rw [gI_F, hT.2.2.1], by rw [gI_F, hT.2.2.2.1]⟩
theorem c_blame {f : Int} (hL : Lay h) (hT : TC h τ k) (kk : K (iI 0) (blm h f (τ.a k))) : XW (d + 1) 99 0 [.ref 3, .int (iI f)] [] h (KI K) := by
  refine w_aload0 r_99_0 ?_
  refine w_iload1 r_99_1 ?_
  refine w_aload0 r_99_2 ?_
  refine v_getI r_99_3 (Lk_3 hL) hT.i.1 ?_
  refine k_100 r_99_6 (Lk_3 hL) (Nat.le_of_ble_eq_true rfl) ?_
  refine c_blameAt hL ?_
  refine w_zret r_99_9 (by decide) ?_
  exact kk
theorem c_spells (hL : Lay h) (hX : TX h τ) (hT : TC h τ k) (hs : SS h a w) (kt : τ.is k w = true → K (iI 1) h) (kf : τ.is k w = false → K (iI 0) h) : XW (d + 4) 93 0 [.ref 3, .ref a, .null] [] h (KI K) := by
  have o := hX.1.1
  have hk := hT.1
  have e := XT.e_at hX.1 hT.1.1 hT.1.2
  have a' := XT.a_at hX.1 hT.1.1 hT.1.2
  have ii := XT.is_iff (w := w) hX.1 hT.1.1 hT.1.2 hs.2.2.2
  have hl := hs.2.1.2.2
  have kf' : ¬ (τ.k k = 1 ∧ τ.e k - τ.a k = w.length ∧ ∀ i : Int, 0 ≤ i → i < w.length → τ.1 (τ.a k + i) = w.getD i.toNat 0) → K (iI 0) h := fun q => kf (by
    cases z : τ.is k w with
    | false => rfl
    | true => exact absurd (ii.1 z) q)
  have kt' := fun q => kt (ii.2 q)
  have hI := hT.i
  by_cases z1 : τ.k k = 1
  · by_cases z2 : τ.e k - τ.a k = w.length
    · have wl := XT.w_at hX.1 hT.1.1 hT.1.2 z1
      have key : ∀ n : Nat, n ≤ w.length → (∀ i : Int, 0 ≤ i → i < n → τ.1 (τ.a k + i) = w.getD i.toNat 0) → XW (d + 4) 93 28 [.ref 3, .ref a, .int (iI n)] [] h (KI K) := by
        refine upto _ ?_ ?_
        · intro q
          refine w_iload2 r_93_28 ?_
          refine w_aload1 r_93_29 ?_
          refine k_271 r_93_30 hs.1.1 (Nat.le_of_ble_eq_true rfl) ?_
          refine c_length (d := d + 2) hs ?_
          refine v_ic_ge r_93_33 (by first | exact zF_in _ _ _ | exact zA_in _ _ _ | omega) (by first | exact zF_in _ _ _ | exact zA_in _ _ _ | omega) (fun _ => ?_) (fun q => absurd q (by omega))
          refine w_iconst (v := iI (1)) r_93_63 rfl ?_
          refine w_zret r_93_64 (by decide) ?_
          exact kt' ⟨z1, z2, q⟩
        · intro n hn ih q
          have hc := hs.2.2.2 n (by omega) (by omega)
          have l := wl.2 n (by omega) (by omega)
          have ci := (XT.c_in hX.1 (k := τ.a k + n) (by omega)).1 (by omega)
          have ct := hX.at (i := τ.a k + n) (by omega) (by omega)
          rw [ci.2.2, show sgn (τ.1 (τ.a k + n)) = τ.1 (τ.a k + n) by unfold sgn; rw [if_pos (by omega)]] at ct
          by_cases y : τ.1 (τ.a k + n) = w.getD (n : Int).toNat 0
          · have J := ih (fun i i0 i1 => by
              by_cases z : i = (n : Int)
              · rw [z]; exact y
              · exact q i i0 (by omega))
            refine w_iload2 r_93_28 ?_
            refine w_aload1 r_93_29 ?_
            refine k_271 r_93_30 hs.1.1 (Nat.le_of_ble_eq_true rfl) ?_
            refine c_length (d := d + 2) hs ?_
            refine v_ic_ge r_93_33 (by first | exact zF_in _ _ _ | exact zA_in _ _ _ | omega) (by first | exact zF_in _ _ _ | exact zA_in _ _ _ | omega) (fun q => absurd q (by omega)) (fun _ => ?_)
            refine w_aload0 r_93_36 ?_
            refine w_getA (x := 2) r_93_37 (Lk_3 hL) (Lr_3_0 hL) (by decide) ?_
            refine w_aload0 r_93_40 ?_
            refine v_getI r_93_41 (Lk_3 hL) hI.1 ?_
            refine w_iload2 r_93_44 ?_
            refine v_iadd r_93_45 ?_
            refine v_bald r_93_46 (Or.inl (Lk_2 hL)) (Lz_2 hL) (by decide) (by omega) ct ?_
            refine w_aload1 r_93_47 ?_
            refine w_iload2 r_93_48 ?_
            refine k_272 r_93_49 hs.1.1 (Nat.le_of_ble_eq_true rfl) ?_
            refine c_charAt hs (by omega) ?_
            refine v_ic_eq r_93_52 (by first | exact zF_in _ _ _ | exact zA_in _ _ _ | omega) (by first | exact zF_in _ _ _ | exact zA_in _ _ _ | omega) (fun _ => ?_) (fun q => absurd q (by omega))
            refine w_iinc2 r_93_57 rfl (iI_add _ _) ?_
            refine w_goto r_93_60 ?_
            exact J
          · refine w_iload2 r_93_28 ?_
            refine w_aload1 r_93_29 ?_
            refine k_271 r_93_30 hs.1.1 (Nat.le_of_ble_eq_true rfl) ?_
            refine c_length (d := d + 2) hs ?_
            refine v_ic_ge r_93_33 (by first | exact zF_in _ _ _ | exact zA_in _ _ _ | omega) (by first | exact zF_in _ _ _ | exact zA_in _ _ _ | omega) (fun q => absurd q (by omega)) (fun _ => ?_)
            refine w_aload0 r_93_36 ?_
            refine w_getA (x := 2) r_93_37 (Lk_3 hL) (Lr_3_0 hL) (by decide) ?_
            refine w_aload0 r_93_40 ?_
            refine v_getI r_93_41 (Lk_3 hL) hI.1 ?_
            refine w_iload2 r_93_44 ?_
            refine v_iadd r_93_45 ?_
            refine v_bald r_93_46 (Or.inl (Lk_2 hL)) (Lz_2 hL) (by decide) (by omega) ct ?_
            refine w_aload1 r_93_47 ?_
            refine w_iload2 r_93_48 ?_
            refine k_272 r_93_49 hs.1.1 (Nat.le_of_ble_eq_true rfl) ?_
            refine c_charAt hs (by omega) ?_
            refine v_ic_eq r_93_52 (by first | exact zF_in _ _ _ | exact zA_in _ _ _ | omega) (by first | exact zF_in _ _ _ | exact zA_in _ _ _ | omega) (fun q => absurd q (by omega)) (fun _ => ?_)
            refine w_iconst (v := iI (0)) r_93_55 rfl ?_
            refine w_zret r_93_56 (by decide) ?_
            exact kf' (fun z => y (z.2.2 n (by omega) (by omega)))
      have J := key 0 (by omega) (fun i i0 i1 => by omega)
      refine w_aload0 r_93_0 ?_
      refine v_getI r_93_1 (Lk_3 hL) hI.2.2 ?_
      refine w_iconst (v := iI (1)) r_93_4 rfl ?_
      refine v_ic_ne r_93_5 (by first | exact zF_in _ _ _ | exact zA_in _ _ _ | omega) (by first | exact zF_in _ _ _ | exact zA_in _ _ _ | omega) (fun q => absurd q (by omega)) (fun _ => ?_)
      refine w_aload0 r_93_8 ?_
      refine v_getI r_93_9 (Lk_3 hL) hI.2.1 ?_
      refine w_aload0 r_93_12 ?_
      refine v_getI r_93_13 (Lk_3 hL) hI.1 ?_
      refine v_isub r_93_16 ?_
      refine w_aload1 r_93_17 ?_
      refine k_271 r_93_18 hs.1.1 (Nat.le_of_ble_eq_true rfl) ?_
      refine c_length (d := d + 2) hs ?_
      refine v_ic_eq r_93_21 (by first | exact zF_in _ _ _ | exact zA_in _ _ _ | omega) (by first | exact zF_in _ _ _ | exact zA_in _ _ _ | omega) (fun _ => ?_) (fun q => absurd q (by omega))
      refine w_iconst (v := iI (0)) r_93_26 rfl ?_
      refine w_istore2 r_93_27 rfl ?_
      exact J
    · refine w_aload0 r_93_0 ?_
      refine v_getI r_93_1 (Lk_3 hL) hI.2.2 ?_
      refine w_iconst (v := iI (1)) r_93_4 rfl ?_
      refine v_ic_ne r_93_5 (by first | exact zF_in _ _ _ | exact zA_in _ _ _ | omega) (by first | exact zF_in _ _ _ | exact zA_in _ _ _ | omega) (fun q => absurd q (by omega)) (fun _ => ?_)
      refine w_aload0 r_93_8 ?_
      refine v_getI r_93_9 (Lk_3 hL) hI.2.1 ?_
      refine w_aload0 r_93_12 ?_
      refine v_getI r_93_13 (Lk_3 hL) hI.1 ?_
      refine v_isub r_93_16 ?_
      refine w_aload1 r_93_17 ?_
      refine k_271 r_93_18 hs.1.1 (Nat.le_of_ble_eq_true rfl) ?_
      refine c_length (d := d + 2) hs ?_
      refine v_ic_eq r_93_21 (by first | exact zF_in _ _ _ | exact zA_in _ _ _ | omega) (by first | exact zF_in _ _ _ | exact zA_in _ _ _ | omega) (fun q => absurd q (by omega)) (fun _ => ?_)
      refine w_iconst (v := iI (0)) r_93_24 rfl ?_
      refine w_zret r_93_25 (by decide) ?_
      exact kf' (fun z => z2 z.2.1)
  · refine w_aload0 r_93_0 ?_
    refine v_getI r_93_1 (Lk_3 hL) hI.2.2 ?_
    refine w_iconst (v := iI (1)) r_93_4 rfl ?_
    refine v_ic_ne r_93_5 (by first | exact zF_in _ _ _ | exact zA_in _ _ _ | omega) (by first | exact zF_in _ _ _ | exact zA_in _ _ _ | omega) (fun _ => ?_) (fun q => absurd q (by omega))
    refine w_iconst (v := iI (0)) r_93_24 rfl ?_
    refine w_zret r_93_25 (by decide) ?_
    exact kf' (fun z => z1 z.1)
theorem c_wayTold (hL : Lay h) (hS : StC h) (hX : TX h τ) (hT : TC h τ k) (kk : K (iI (τ.way k)) h) : XW (d + 5) 95 0 [.ref 3] [] h (KI K) := by
  unfold XT.way at kk
  refine w_aload0 r_95_0 ?_
  refine w_ldcS (a := 1000024) r_95_1 rfl ?_
  refine k_93 r_95_3 (Lk_3 hL) (Nat.le_of_ble_eq_true rfl) ?_
  refine c_spells hL hX hT (sS_7 hL hS) (fun q1 => ?_) (fun q1 => ?_)
  · refine v_if_eq r_95_6 (by first | exact zF_in _ _ _ | exact zA_in _ _ _ | omega) (fun q => absurd q (by omega)) (fun _ => ?_)
    refine w_iconst (v := iI (0)) r_95_9 rfl ?_
    refine w_iret r_95_10 ?_
    simp [*] at kk
    exact kk
  · refine v_if_eq r_95_6 (by first | exact zF_in _ _ _ | exact zA_in _ _ _ | omega) (fun _ => ?_) (fun q => absurd q (by omega))
    refine w_aload0 r_95_11 ?_
    refine w_ldcS (a := 1000026) r_95_12 rfl ?_
    refine k_93 r_95_14 (Lk_3 hL) (Nat.le_of_ble_eq_true rfl) ?_
    refine c_spells hL hX hT (sS_8 hL hS) (fun q2 => ?_) (fun q2 => ?_)
    · refine v_if_eq r_95_17 (by first | exact zF_in _ _ _ | exact zA_in _ _ _ | omega) (fun q => absurd q (by omega)) (fun _ => ?_)
      refine w_iconst (v := iI (1)) r_95_20 rfl ?_
      refine w_iret r_95_21 ?_
      simp [*] at kk
      exact kk
    · refine v_if_eq r_95_17 (by first | exact zF_in _ _ _ | exact zA_in _ _ _ | omega) (fun _ => ?_) (fun q => absurd q (by omega))
      refine w_aload0 r_95_22 ?_
      refine w_ldcS (a := 1000028) r_95_23 rfl ?_
      refine k_93 r_95_25 (Lk_3 hL) (Nat.le_of_ble_eq_true rfl) ?_
      refine c_spells hL hX hT (sS_9 hL hS) (fun q3 => ?_) (fun q3 => ?_)
      · refine v_if_eq r_95_28 (by first | exact zF_in _ _ _ | exact zA_in _ _ _ | omega) (fun q => absurd q (by omega)) (fun _ => ?_)
        refine w_iconst (v := iI (2)) r_95_31 rfl ?_
        refine w_iret r_95_32 ?_
        simp [*] at kk
        exact kk
      · refine v_if_eq r_95_28 (by first | exact zF_in _ _ _ | exact zA_in _ _ _ | omega) (fun _ => ?_) (fun q => absurd q (by omega))
        refine w_aload0 r_95_33 ?_
        refine w_ldcS (a := 1000030) r_95_34 rfl ?_
        refine k_93 r_95_36 (Lk_3 hL) (Nat.le_of_ble_eq_true rfl) ?_
        refine c_spells hL hX hT (sS_10 hL hS) (fun q4 => ?_) (fun q4 => ?_)
        · refine v_if_eq r_95_39 (by first | exact zF_in _ _ _ | exact zA_in _ _ _ | omega) (fun q => absurd q (by omega)) (fun _ => ?_)
          refine w_iconst (v := iI (3)) r_95_42 rfl ?_
          refine w_goto r_95_43 ?_
          refine w_iret r_95_47 ?_
          simp [*] at kk
          exact kk
        · refine v_if_eq r_95_39 (by first | exact zF_in _ _ _ | exact zA_in _ _ _ | omega) (fun _ => ?_) (fun q => absurd q (by omega))
          refine w_iconst (v := iI (-1)) r_95_46 rfl ?_
          refine w_iret r_95_47 ?_
          simp [*] at kk
          exact kk
theorem way_in (τ : XT) (k : Int) : -1 ≤ τ.way k ∧ τ.way k ≤ 3 := by
  unfold XT.way
  repeat' split
  all_goals decide
theorem c_isName (hL : Lay h) (hS : StC h) (hX : TX h τ) (hT : TC h τ k) (kt : τ.nm k = true → K (iI 1) h) (kf : τ.nm k = false → K (iI 0) h) : XW (d + 6) 94 0 [.ref 3] [] h (KI K) := by
  have wi := way_in τ k
  have e := XT.e_at hX.1 hT.1.1 hT.1.2
  unfold XT.nm at kt kf
  refine w_aload0 r_94_0 ?_
  refine v_getI r_94_1 (Lk_3 hL) hT.i.2.2 ?_
  refine w_iconst (v := iI (1)) r_94_4 rfl ?_
  refine v_ic_ne r_94_5 (by first | exact zF_in _ _ _ | exact zA_in _ _ _ | omega) (by first | exact zF_in _ _ _ | exact zA_in _ _ _ | omega) (fun c5 => ?_) (fun c5 => ?_)
  · refine w_iconst (v := iI (0)) r_94_74 rfl ?_
    refine w_zret r_94_75 (by decide) ?_
    first | exact kt (by simp [*]) | exact kf (by simp [*])
  · refine w_aload0 r_94_8 ?_
    refine w_ldcS (a := 1000012) r_94_9 rfl ?_
    refine k_93 r_94_11 (Lk_3 hL) (Nat.le_of_ble_eq_true rfl) ?_
    refine c_spells hL hX hT (sS_1 hL hS) (fun q1 => ?_) (fun q1 => ?_)
    · refine v_if_ne r_94_14 (by first | exact zF_in _ _ _ | exact zA_in _ _ _ | omega) (fun _ => ?_) (fun q => absurd q (by omega))
      refine w_iconst (v := iI (0)) r_94_74 rfl ?_
      refine w_zret r_94_75 (by decide) ?_
      first | exact kt (by simp [*]) | exact kf (by simp [*])
    · refine v_if_ne r_94_14 (by first | exact zF_in _ _ _ | exact zA_in _ _ _ | omega) (fun q => absurd q (by omega)) (fun _ => ?_)
      refine w_aload0 r_94_17 ?_
      refine w_ldcS (a := 1000014) r_94_18 rfl ?_
      refine k_93 r_94_20 (Lk_3 hL) (Nat.le_of_ble_eq_true rfl) ?_
      refine c_spells hL hX hT (sS_2 hL hS) (fun q2 => ?_) (fun q2 => ?_)
      · refine v_if_ne r_94_23 (by first | exact zF_in _ _ _ | exact zA_in _ _ _ | omega) (fun _ => ?_) (fun q => absurd q (by omega))
        refine w_iconst (v := iI (0)) r_94_74 rfl ?_
        refine w_zret r_94_75 (by decide) ?_
        first | exact kt (by simp [*]) | exact kf (by simp [*])
      · refine v_if_ne r_94_23 (by first | exact zF_in _ _ _ | exact zA_in _ _ _ | omega) (fun q => absurd q (by omega)) (fun _ => ?_)
        refine w_aload0 r_94_26 ?_
        refine w_ldcS (a := 1000016) r_94_27 rfl ?_
        refine k_93 r_94_29 (Lk_3 hL) (Nat.le_of_ble_eq_true rfl) ?_
        refine c_spells hL hX hT (sS_3 hL hS) (fun q3 => ?_) (fun q3 => ?_)
        · refine v_if_ne r_94_32 (by first | exact zF_in _ _ _ | exact zA_in _ _ _ | omega) (fun _ => ?_) (fun q => absurd q (by omega))
          refine w_iconst (v := iI (0)) r_94_74 rfl ?_
          refine w_zret r_94_75 (by decide) ?_
          first | exact kt (by simp [*]) | exact kf (by simp [*])
        · refine v_if_ne r_94_32 (by first | exact zF_in _ _ _ | exact zA_in _ _ _ | omega) (fun q => absurd q (by omega)) (fun _ => ?_)
          refine w_aload0 r_94_35 ?_
          refine w_ldcS (a := 1000018) r_94_36 rfl ?_
          refine k_93 r_94_38 (Lk_3 hL) (Nat.le_of_ble_eq_true rfl) ?_
          refine c_spells hL hX hT (sS_4 hL hS) (fun q4 => ?_) (fun q4 => ?_)
          · refine v_if_ne r_94_41 (by first | exact zF_in _ _ _ | exact zA_in _ _ _ | omega) (fun _ => ?_) (fun q => absurd q (by omega))
            refine w_iconst (v := iI (0)) r_94_74 rfl ?_
            refine w_zret r_94_75 (by decide) ?_
            first | exact kt (by simp [*]) | exact kf (by simp [*])
          · refine v_if_ne r_94_41 (by first | exact zF_in _ _ _ | exact zA_in _ _ _ | omega) (fun q => absurd q (by omega)) (fun _ => ?_)
            refine w_aload0 r_94_44 ?_
            refine w_ldcS (a := 1000020) r_94_45 rfl ?_
            refine k_93 r_94_47 (Lk_3 hL) (Nat.le_of_ble_eq_true rfl) ?_
            refine c_spells hL hX hT (sS_5 hL hS) (fun q5 => ?_) (fun q5 => ?_)
            · refine v_if_ne r_94_50 (by first | exact zF_in _ _ _ | exact zA_in _ _ _ | omega) (fun _ => ?_) (fun q => absurd q (by omega))
              refine w_iconst (v := iI (0)) r_94_74 rfl ?_
              refine w_zret r_94_75 (by decide) ?_
              first | exact kt (by simp [*]) | exact kf (by simp [*])
            · refine v_if_ne r_94_50 (by first | exact zF_in _ _ _ | exact zA_in _ _ _ | omega) (fun q => absurd q (by omega)) (fun _ => ?_)
              refine w_aload0 r_94_53 ?_
              refine w_ldcS (a := 1000022) r_94_54 rfl ?_
              refine k_93 r_94_56 (Lk_3 hL) (Nat.le_of_ble_eq_true rfl) ?_
              refine c_spells hL hX hT (sS_6 hL hS) (fun q6 => ?_) (fun q6 => ?_)
              · refine v_if_ne r_94_59 (by first | exact zF_in _ _ _ | exact zA_in _ _ _ | omega) (fun _ => ?_) (fun q => absurd q (by omega))
                refine w_iconst (v := iI (0)) r_94_74 rfl ?_
                refine w_zret r_94_75 (by decide) ?_
                first | exact kt (by simp [*]) | exact kf (by simp [*])
              · refine v_if_ne r_94_59 (by first | exact zF_in _ _ _ | exact zA_in _ _ _ | omega) (fun q => absurd q (by omega)) (fun _ => ?_)
                refine w_aload0 r_94_62 ?_
                refine k_95 r_94_63 (Lk_3 hL) (Nat.le_of_ble_eq_true rfl) ?_
                refine c_wayTold hL hS hX hT ?_
                refine w_iconst (v := iI (-1)) r_94_66 rfl ?_
                refine v_ic_ne r_94_67 (by first | exact zF_in _ _ _ | exact zA_in _ _ _ | omega) (by first | exact zF_in _ _ _ | exact zA_in _ _ _ | omega) (fun c67 => ?_) (fun c67 => ?_)
                · refine w_iconst (v := iI (0)) r_94_74 rfl ?_
                  refine w_zret r_94_75 (by decide) ?_
                  first | exact kt (by simp [*]) | exact kf (by simp [*])
                · refine w_iconst (v := iI (1)) r_94_70 rfl ?_
                  refine w_goto r_94_71 ?_
                  refine w_zret r_94_75 (by decide) ?_
                  first | exact kt (by simp [*]) | exact kf (by simp [*])
theorem c_take {x : Int} (hx : 0 ≤ x ∧ x ≤ 59) (hL : Lay h) (hX : TX h τ) (hT : TC h τ k) (kt : τ.k k = x → ∀ h', Fr PTk h h' → TC h' τ (τ.e k) → K (iI 1) h') (kf : ¬ τ.k k = x → K (iI 0) (blm h 1 (τ.a k))) : XW (d + 2) 96 0 [.ref 3, .int (iI x)] [] h (KI K) := by
  have e := XT.e_at hX.1 hT.1.1 hT.1.2
  have a' := XT.a_at hX.1 hT.1.1 hT.1.2
  have o := hX.1.1
  have hk := hT.1
  refine w_aload0 r_96_0 ?_
  refine v_getI r_96_1 (Lk_3 hL) hT.i.2.2 ?_
  refine w_iload1 r_96_4 ?_
  refine v_ic_eq r_96_5 (by first | exact zF_in _ _ _ | exact zA_in _ _ _ | omega) (by first | exact zF_in _ _ _ | exact zA_in _ _ _ | omega) (fun c5 => ?_) (fun c5 => ?_)
  · refine w_aload0 r_96_14 ?_
    refine k_89 r_96_15 (Lk_3 hL) (Nat.le_of_ble_eq_true rfl) ?_
    refine c_advance hL hX (by omega) hT.i.2.1 (fun h' f' t' => ?_)
    refine w_iconst (v := iI (1)) r_96_18 rfl ?_
    refine w_zret r_96_19 (by decide) ?_
    exact kt c5 h' f' t'
  · refine w_aload0 r_96_8 ?_
    refine w_iconst (v := iI (1)) r_96_9 rfl ?_
    refine k_99 r_96_10 (Lk_3 hL) (Nat.le_of_ble_eq_true rfl) ?_
    refine c_blame hL hT ?_
    refine w_zret r_96_13 (by decide) ?_
    exact kf c5
theorem c_takeWord (hL : Lay h) (hX : TX h τ) (hT : TC h τ k) (hs : SS h a w) (kt : τ.is k w = true → ∀ h', Fr PTk h h' → TC h' τ (τ.e k) → K (iI 1) h') (kf : τ.is k w = false → K (iI 0) (blm h 1 (τ.a k))) : XW (d + 5) 97 0 [.ref 3, .ref a] [] h (KI K) := by
  have e := XT.e_at hX.1 hT.1.1 hT.1.2
  have a' := XT.a_at hX.1 hT.1.1 hT.1.2
  have o := hX.1.1
  have hk := hT.1
  refine w_aload0 r_97_0 ?_
  refine w_aload1 r_97_1 ?_
  refine k_93 r_97_2 (Lk_3 hL) (Nat.le_of_ble_eq_true rfl) ?_
  refine c_spells hL hX hT hs (fun q => ?_) (fun q => ?_)
  · refine v_if_ne r_97_5 (by first | exact zF_in _ _ _ | exact zA_in _ _ _ | omega) (fun _ => ?_) (fun q => absurd q (by omega))
    refine w_aload0 r_97_14 ?_
    refine k_89 r_97_15 (Lk_3 hL) (Nat.le_of_ble_eq_true rfl) ?_
    refine c_advance hL hX (by omega) hT.i.2.1 (fun h' f' t' => ?_)
    refine w_iconst (v := iI (1)) r_97_18 rfl ?_
    refine w_zret r_97_19 (by decide) ?_
    exact kt q h' f' t'
  · refine v_if_ne r_97_5 (by first | exact zF_in _ _ _ | exact zA_in _ _ _ | omega) (fun q => absurd q (by omega)) (fun _ => ?_)
    refine w_aload0 r_97_8 ?_
    refine w_iconst (v := iI (1)) r_97_9 rfl ?_
    refine k_99 r_97_10 (Lk_3 hL) (Nat.le_of_ble_eq_true rfl) ?_
    refine c_blame hL hT ?_
    refine w_zret r_97_13 (by decide) ?_
    exact kf q
theorem c_takeWhole {lo hi : Int} (hlo : R32 lo) (hhi : R32 hi) (hL : Lay h) (hX : TX h τ) (hT : TC h τ k) (kt : τ.k k = 2 → lo ≤ τ.v k ∧ τ.v k ≤ hi → ∀ h', Fr PTk h h' → TC h' τ (τ.e k) → K (iI (τ.v k)) h') (k1 : ¬ τ.k k = 2 → K (iI (-1)) (blm h 1 (τ.a k))) (k4 : τ.k k = 2 → ¬ (lo ≤ τ.v k ∧ τ.v k ≤ hi) → K (iI (-1)) (blm h 4 (τ.a k))) : XW (d + 2) 98 0 [.ref 3, .int (iI lo), .int (iI hi), .null] [] h (KI K) := by
  have e := XT.e_at hX.1 hT.1.1 hT.1.2
  have a' := XT.a_at hX.1 hT.1.1 hT.1.2
  have o := hX.1.1
  have hk := hT.1
  by_cases z : τ.k k = 2
  · have vi := XT.v_at hX.1 hT.1.1 hT.1.2 z
    have ev : gI h 3 5 = iI (τ.v k) := by rw [gI_F, hT.2.2.2.2.1 z]
    refine w_aload0 r_98_0 ?_
    refine v_getI r_98_1 (Lk_3 hL) hT.i.2.2 ?_
    refine w_iconst (v := iI (2)) r_98_4 rfl ?_
    refine v_ic_eq r_98_5 (by first | exact zF_in _ _ _ | exact zA_in _ _ _ | omega) (by first | exact zF_in _ _ _ | exact zA_in _ _ _ | omega) (fun _ => ?_) (fun q => absurd q (by omega))
    refine w_aload0 r_98_16 ?_
    refine v_getI r_98_17 (Lk_3 hL) ev ?_
    refine w_iload1 r_98_20 ?_
    refine v_ic_lt r_98_21 (by first | exact zF_in _ _ _ | exact zA_in _ _ _ | omega) (by first | exact zF_in _ _ _ | exact zA_in _ _ _ | omega) (fun c21 => ?_) (fun c21 => ?_)
    · refine w_aload0 r_98_32 ?_
      refine w_iconst (v := iI (4)) r_98_33 rfl ?_
      refine k_99 r_98_34 (Lk_3 hL) (Nat.le_of_ble_eq_true rfl) ?_
      refine c_blame hL hT ?_
      refine w_popI r_98_37 ?_
      refine w_iconst (v := iI (-1)) r_98_38 rfl ?_
      refine w_iret r_98_39 ?_
      exact k4 z (by omega)
    · refine w_aload0 r_98_24 ?_
      refine v_getI r_98_25 (Lk_3 hL) ev ?_
      refine w_iload2 r_98_28 ?_
      refine v_ic_le r_98_29 (by first | exact zF_in _ _ _ | exact zA_in _ _ _ | omega) (by first | exact zF_in _ _ _ | exact zA_in _ _ _ | omega) (fun c29 => ?_) (fun c29 => ?_)
      · refine w_aload0 r_98_40 ?_
        refine v_getI r_98_41 (Lk_3 hL) ev ?_
        refine w_istore3 r_98_44 rfl ?_
        refine w_aload0 r_98_45 ?_
        refine k_89 r_98_46 (Lk_3 hL) (Nat.le_of_ble_eq_true rfl) ?_
        refine c_advance hL hX (by omega) hT.i.2.1 (fun h' f' t' => ?_)
        refine w_iload3 r_98_49 ?_
        refine w_iret r_98_50 ?_
        exact kt z (by omega) h' f' t'
      · refine w_aload0 r_98_32 ?_
        refine w_iconst (v := iI (4)) r_98_33 rfl ?_
        refine k_99 r_98_34 (Lk_3 hL) (Nat.le_of_ble_eq_true rfl) ?_
        refine c_blame hL hT ?_
        refine w_popI r_98_37 ?_
        refine w_iconst (v := iI (-1)) r_98_38 rfl ?_
        refine w_iret r_98_39 ?_
        exact k4 z (by omega)
  · refine w_aload0 r_98_0 ?_
    refine v_getI r_98_1 (Lk_3 hL) hT.i.2.2 ?_
    refine w_iconst (v := iI (2)) r_98_4 rfl ?_
    refine v_ic_eq r_98_5 (by first | exact zF_in _ _ _ | exact zA_in _ _ _ | omega) (by first | exact zF_in _ _ _ | exact zA_in _ _ _ | omega) (fun q => absurd q (by omega)) (fun _ => ?_)
    refine w_aload0 r_98_8 ?_
    refine w_iconst (v := iI (1)) r_98_9 rfl ?_
    refine k_99 r_98_10 (Lk_3 hL) (Nat.le_of_ble_eq_true rfl) ?_
    refine c_blame hL hT ?_
    refine w_popI r_98_13 ?_
    refine w_iconst (v := iI (-1)) r_98_14 rfl ?_
    refine w_iret r_98_15 ?_
    exact k1 z
theorem c_begin {n : Int} (hL : Lay h) (hn : 0 ≤ n ∧ n ≤ 500) (ho : τ.ok) (hτ : τ.2 = n) (hb : ∀ i, 0 ≤ i → i < n → zA h 2 i = sgn (τ.1 i)) (kk : ∀ h', Fr (pF [(3, 1), (3, 2), (3, 3), (3, 4), (3, 5), (3, 6), (3, 7), (3, 8)]) h h' → TX h' τ → TC h' τ 0 → zF h' 3 7 = 0 → KU h') : XW (d + 2) 88 0 [.ref 3, .int (iI n)] [] h (KV KU) := by
  have F1 : Fr (pF [(3, 1), (3, 2), (3, 3), (3, 4), (3, 5), (3, 6), (3, 7), (3, 8)]) h (sI (sI (sI (sI h 3 1 (iI n)) 3 3 (iI 0)) 3 7 (iI 0)) 3 8 (iI (-1))) := ((((Fr.refl _ _).sI 3 1 _ (by simp [pF])).sI 3 3 _ (by simp [pF])).sI 3 7 _ (by simp [pF])).sI 3 8 _ (by simp [pF])
  have X1 : TX (sI (sI (sI (sI h 3 1 (iI n)) 3 3 (iI 0)) 3 7 (iI 0)) 3 8 (iI (-1))) τ := ⟨ho, by rw [zF_o (by decide), zF_o (by decide), zF_o (by decide), zF_s (by omega), hτ], fun i a b => by rw [F1.A (by simp [pF])]; exact hb i a (by omega)⟩
  have e3 : gI (sI (sI (sI (sI h 3 1 (iI n)) 3 3 (iI 0)) 3 7 (iI 0)) 3 8 (iI (-1))) 3 3 = iI 0 := by rw [sI_here, if_neg (by decide), sI_here, if_neg (by decide), sI_here, if_pos rfl]
  have e7 : zF (sI (sI (sI (sI h 3 1 (iI n)) 3 3 (iI 0)) 3 7 (iI 0)) 3 8 (iI (-1))) 3 7 = 0 := by rw [zF_o (by decide), zF_s (by decide)]
  have L1 := F1.lay hL
  have go : XW (d + 2) 88 32 [.ref 3, .int (iI n)] [] (sI (sI (sI (sI h 3 1 (iI n)) 3 3 (iI 0)) 3 7 (iI 0)) 3 8 (iI (-1))) (KV KU) := by
    generalize sI (sI (sI (sI h 3 1 (iI n)) 3 3 (iI 0)) 3 7 (iI 0)) 3 8 (iI (-1)) = g at *
    have hL := L1
    refine w_aload0 r_88_32 ?_
    refine k_89 r_88_33 (Lk_3 hL) (Nat.le_of_ble_eq_true rfl) ?_
    refine c_advance (k := 0) hL X1 (by omega) e3 (fun h' f' t' => ?_)
    refine w_vret r_88_36 ?_
    exact kk h' (F1.trans (f'.mono (fun a j q => by simp [pF] at q ⊢; omega))) (X1.fr f' (by simp [pF]) (fun j => by simp [pF])) t' (by rw [f'.F (by simp [pF])]; exact e7)
  refine w_aload0 r_88_0 ?_
  refine w_iconst (v := iI (0)) r_88_1 rfl ?_
  refine w_iload1 r_88_2 ?_
  refine w_aload0 r_88_3 ?_
  refine w_getA (x := 2) r_88_4 (Lk_3 hL) (Lr_3_0 hL) (by decide) ?_
  refine v_len r_88_7 (by rw [(Lk_2 hL)]; decide) (Lz_2 hL) ?_
  refine k_270 r_88_8 (Nat.le_of_ble_eq_true rfl) ?_
  refine c_min (by first | exact zF_in _ _ _ | exact zA_in _ _ _ | omega) (by first | exact zF_in _ _ _ | exact zA_in _ _ _ | omega) ?_
  refine k_268 r_88_11 (Nat.le_of_ble_eq_true rfl) ?_
  refine c_max (by first | exact zF_in _ _ _ | exact zA_in _ _ _ | omega) (by first | exact zF_in _ _ _ | exact zA_in _ _ _ | omega) ?_
  rw [show max 0 (min n ((500 : Nat) : Int)) = n by omega]
  refine w_putI r_88_14 (Lk_3 hL) (Ln_3 hL) ?_
  refine w_aload0 r_88_17 ?_
  refine w_iconst (v := iI (0)) r_88_18 rfl ?_
  refine w_putI r_88_19 (Lk_3 hL) (Ln_3 hL) ?_
  refine w_aload0 r_88_22 ?_
  refine w_iconst (v := iI (0)) r_88_23 rfl ?_
  refine w_putI r_88_24 (Lk_3 hL) (Ln_3 hL) ?_
  refine w_aload0 r_88_27 ?_
  refine w_iconst (v := iI (-1)) r_88_28 rfl ?_
  refine w_putI r_88_29 (Lk_3 hL) (Ln_3 hL) ?_
  exact go
end CT2
