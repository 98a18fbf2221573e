/-! the Model's tokens: words, numbers, faults -/
section MT4
variable {d : Nat} {h : XH} {K : Int32 → XH → Prop} {KU : XH → Prop} {τ : XT} {k : Int} {w : List Int} {a : Nat}
/-- a fault is told -/
def wrg (h : XH) (f p : Int) : XH := sI (sI (sI h 118 13 (iI 1)) 118 9 (iI f)) 118 10 (iI p)
theorem wrg_fr (h : XH) (f p : Int) : Fr (pF [(118, 13), (118, 9), (118, 10)]) h (wrg h f p) := (((Fr.refl _ _).sI 118 13 _ (by simp [pF])).sI 118 9 _ (by simp [pF])).sI 118 10 _ (by simp [pF])
theorem wrg_13 (h : XH) (f p : Int) : gI (wrg h f p) 118 13 = iI 1 := by unfold wrg; rw [sI_here, if_neg (by decide), sI_here, if_neg (by decide), sI_here, if_pos rfl]
theorem m_wrong0 {f p : Int} (hL : Lay h) (h13 : gI h 118 13 = iI 0) (kk : K (iI 0) (wrg h f p)) : XW d 174 0 [.ref 118, .int (iI f), .int (iI p)] [] h (KI K) := by
  refine w_aload0 r_174_0 ?_
  refine v_getI r_174_1 (Lk_118 hL) h13 ?_
  refine v_if_ne r_174_4 (by first | exact zF_in _ _ _ | exact zA_in _ _ _ | omega) (fun q => absurd q (by omega)) (fun _ => ?_)
  refine w_aload0 r_174_7 ?_
  refine w_iconst (v := iI (1)) r_174_8 rfl ?_
  refine w_putZ r_174_9 (Lk_118 hL) (Ln_118 hL) (by decide) ?_
  refine w_aload0 r_174_12 ?_
  refine w_iload1 r_174_13 ?_
  refine w_putI r_174_14 (Lk_118 hL) (Ln_118 hL) ?_
  refine w_aload0 r_174_17 ?_
  refine w_iload2 r_174_18 ?_
  refine w_putI r_174_19 (Lk_118 hL) (Ln_118 hL) ?_
  refine w_iconst (v := iI (0)) r_174_22 rfl ?_
  refine w_zret r_174_23 (by decide) ?_
  exact kk
theorem m_wrong1 {f p : Int} (hL : Lay h) (h13 : gI h 118 13 = iI 1) (kk : K (iI 0) h) : XW d 174 0 [.ref 118, .int (iI f), .int (iI p)] [] h (KI K) := by
  refine w_aload0 r_174_0 ?_
  refine v_getI r_174_1 (Lk_118 hL) h13 ?_
  refine v_if_ne r_174_4 (by first | exact zF_in _ _ _ | exact zA_in _ _ _ | omega) (fun _ => ?_) (fun q => absurd q (by omega))
  refine w_iconst (v := iI (0)) r_174_22 rfl ?_
  refine w_zret r_174_23 (by decide) ?_
  exact kk
theorem TM.i (hT : TM h τ k) : gI h 118 4 = iI (τ.a k) ∧ gI h 118 5 = iI (τ.e k) ∧ gI h 118 6 = iI (mK (τ.k k)) := ⟨by rw [gI_F, hT.2.1], by rw [gI_F, hT.2.2.1], by rw [gI_F, hT.2.2.2.1]⟩
theorem mK_in {x : Int} (hx : 0 ≤ x ∧ x ≤ 59) : (0 ≤ mK x ∧ mK x ≤ 59) ∧ (mK x = 2 ↔ x = 1) ∧ (mK x = 3 ↔ x = 2) ∧ (mK x = 0 ↔ x = 0) ∧ (4 ≤ x → mK x = x) ∧ (4 ≤ mK x → mK x = x) := by
  unfold mK
  by_cases a : x = 1
  · rw [if_pos a]; omega
  · rw [if_neg a]
    by_cases b : x = 2
    · rw [if_pos b]; omega
    · rw [if_neg b]
      by_cases c : x = 3
      · rw [if_pos c]; omega
      · rw [if_neg c]; omega
theorem m_word0 (hL : Lay h) (hY : TY h τ) (hT : TM h τ k) (h13 : gI h 118 13 = iI 0) (hs : SS h a w) (kt : τ.is k w = true → K (iI 1) h) (kf : τ.is k w = false → K (iI 0) h) : XW (d + 4) 175 0 [.ref 118, .ref a, .null, .null] [] h (KI K) := by
  have o := hY.1.1
  have hk := hT.1
  have e := XT.e_at hY.1 hT.1.1 hT.1.2
  have a' := XT.a_at hY.1 hT.1.1 hT.1.2
  have mk := mK_in e.2.2.2
  have ii := XT.is_iff (w := w) hY.1 hT.1.1 hT.1.2 hs.2.2.2
  have hl := hs.2.1.2.2
  have kf' : ¬ (τ.k k = 1 ∧ τ.e k - τ.a k = w.length ∧ ∀ i : Int, 0 ≤ i → i < w.length → τ.1 (τ.a k + i) = w.getD i.toNat 0) → K (iI 0) h := fun q => kf (by
    cases z : τ.is k w with
    | false => rfl
    | true => exact absurd (ii.1 z) q)
  have kt' := fun q => kt (ii.2 q)
  have hI := hT.i
  by_cases z1 : τ.k k = 1
  · have t8 := hT.2.2.2.2.2 z1
    have v16 : gI h 118 8 = iI (τ.e k - τ.a k) := by rw [gI_F, t8.1]
    have wl := XT.w_at hY.1 hT.1.1 hT.1.2 z1
    by_cases z2 : τ.e k - τ.a k = w.length
    · rw [z2] at v16
      have bad : ∀ n : Nat, n ≤ w.length → (¬ ∀ i : Int, 0 ≤ i → i < w.length → τ.1 (τ.a k + i) = w.getD i.toNat 0) → XW (d + 4) 175 32 [.ref 118, .ref a, .int (iI 0), .int (iI n)] [] h (KI K) := by
        refine upto _ ?_ ?_
        · intro q
          refine w_iload3 r_175_32 ?_
          refine w_aload0 r_175_33 ?_
          refine v_getI r_175_34 (Lk_118 hL) v16 ?_
          refine v_ic_ge r_175_37 (by first | exact zF_in _ _ _ | exact zA_in _ _ _ | omega) (by first | exact zF_in _ _ _ | exact zA_in _ _ _ | omega) (fun _ => ?_) (fun q => absurd q (by omega))
          refine w_iload2 r_175_70 ?_
          refine w_zret r_175_71 (by decide) ?_
          exact kf' (fun z => q z.2.2)
        · intro n hn ih q
          have J := ih q
          refine w_iload3 r_175_32 ?_
          refine w_aload0 r_175_33 ?_
          refine v_getI r_175_34 (Lk_118 hL) v16 ?_
          refine v_ic_ge r_175_37 (by first | exact zF_in _ _ _ | exact zA_in _ _ _ | omega) (by first | exact zF_in _ _ _ | exact zA_in _ _ _ | omega) (fun q => absurd q (by omega)) (fun _ => ?_)
          refine w_iload2 r_175_40 ?_
          refine v_if_eq r_175_41 (by first | exact zF_in _ _ _ | exact zA_in _ _ _ | omega) (fun _ => ?_) (fun q => absurd q (by omega))
          refine w_iconst (v := iI (0)) r_175_62 rfl ?_
          refine w_istore2 r_175_63 rfl ?_
          refine w_iinc3 r_175_64 rfl (iI_add _ _) ?_
          refine w_goto r_175_67 ?_
          exact J
      have key : ∀ n : Nat, n ≤ w.length → (∀ i : Int, 0 ≤ i → i < n → τ.1 (τ.a k + i) = w.getD i.toNat 0) → XW (d + 4) 175 32 [.ref 118, .ref a, .int (iI 1), .int (iI n)] [] h (KI K) := by
        refine upto _ ?_ ?_
        · intro q
          refine w_iload3 r_175_32 ?_
          refine w_aload0 r_175_33 ?_
          refine v_getI r_175_34 (Lk_118 hL) v16 ?_
          refine v_ic_ge r_175_37 (by first | exact zF_in _ _ _ | exact zA_in _ _ _ | omega) (by first | exact zF_in _ _ _ | exact zA_in _ _ _ | omega) (fun _ => ?_) (fun q => absurd q (by omega))
          refine w_iload2 r_175_70 ?_
          refine w_zret r_175_71 (by decide) ?_
          exact kt' ⟨z1, z2, q⟩
        · intro n hn ih q
          have hc := hs.2.2.2 n (by omega) (by omega)
          have l := wl.2 n (by omega) (by omega)
          have ct : gI h 120 (n : Int).toNat = iI (τ.1 (τ.a k + n)) := by rw [gI_A, t8.2 n (by omega) (by omega)]
          by_cases y : τ.1 (τ.a k + n) = w.getD (n : Int).toNat 0
          · have J := ih (fun i i0 i1 => by
              by_cases z : i = (n : Int)
              · rw [z]; exact y
              · exact q i i0 (by omega))
            refine w_iload3 r_175_32 ?_
            refine w_aload0 r_175_33 ?_
            refine v_getI r_175_34 (Lk_118 hL) v16 ?_
            refine v_ic_ge r_175_37 (by first | exact zF_in _ _ _ | exact zA_in _ _ _ | omega) (by first | exact zF_in _ _ _ | exact zA_in _ _ _ | omega) (fun q => absurd q (by omega)) (fun _ => ?_)
            refine w_iload2 r_175_40 ?_
            refine v_if_eq r_175_41 (by first | exact zF_in _ _ _ | exact zA_in _ _ _ | omega) (fun q => absurd q (by omega)) (fun _ => ?_)
            refine w_aload0 r_175_44 ?_
            refine w_getA (x := 120) r_175_45 (Lk_118 hL) (Lr_118_11 hL) (by decide) ?_
            refine w_iload3 r_175_48 ?_
            refine v_iald r_175_49 (Lk_120 hL) (Lz_120 hL) (by decide) (by omega) ct ?_
            refine w_aload1 r_175_50 ?_
            refine w_iload3 r_175_51 ?_
            refine k_272 r_175_52 hs.1.1 (Nat.le_of_ble_eq_true rfl) ?_
            refine c_charAt hs (by omega) ?_
            refine v_ic_ne r_175_55 (by first | exact zF_in _ _ _ | exact zA_in _ _ _ | omega) (by first | exact zF_in _ _ _ | exact zA_in _ _ _ | omega) (fun q => absurd q (by omega)) (fun _ => ?_)
            refine w_iconst (v := iI (1)) r_175_58 rfl ?_
            refine w_goto r_175_59 ?_
            refine w_istore2 r_175_63 rfl ?_
            refine w_iinc3 r_175_64 rfl (iI_add _ _) ?_
            refine w_goto r_175_67 ?_
            exact J
          · have J := bad (n + 1) (by omega) (fun z => y (z n (by omega) (by omega)))
            refine w_iload3 r_175_32 ?_
            refine w_aload0 r_175_33 ?_
            refine v_getI r_175_34 (Lk_118 hL) v16 ?_
            refine v_ic_ge r_175_37 (by first | exact zF_in _ _ _ | exact zA_in _ _ _ | omega) (by first | exact zF_in _ _ _ | exact zA_in _ _ _ | omega) (fun q => absurd q (by omega)) (fun _ => ?_)
            refine w_iload2 r_175_40 ?_
            refine v_if_eq r_175_41 (by first | exact zF_in _ _ _ | exact zA_in _ _ _ | omega) (fun q => absurd q (by omega)) (fun _ => ?_)
            refine w_aload0 r_175_44 ?_
            refine w_getA (x := 120) r_175_45 (Lk_118 hL) (Lr_118_11 hL) (by decide) ?_
            refine w_iload3 r_175_48 ?_
            refine v_iald r_175_49 (Lk_120 hL) (Lz_120 hL) (by decide) (by omega) ct ?_
            refine w_aload1 r_175_50 ?_
            refine w_iload3 r_175_51 ?_
            refine k_272 r_175_52 hs.1.1 (Nat.le_of_ble_eq_true rfl) ?_
            refine c_charAt hs (by omega) ?_
            refine v_ic_ne r_175_55 (by first | exact zF_in _ _ _ | exact zA_in _ _ _ | omega) (by first | exact zF_in _ _ _ | exact zA_in _ _ _ | omega) (fun _ => ?_) (fun q => absurd q (by omega))
            refine w_iconst (v := iI (0)) r_175_62 rfl ?_
            refine w_istore2 r_175_63 rfl ?_
            refine w_iinc3 r_175_64 rfl (iI_add _ _) ?_
            refine w_goto r_175_67 ?_
            exact J
      have J := key 0 (by omega) (fun i i0 i1 => by omega)
      refine w_aload0 r_175_0 ?_
      refine v_getI r_175_1 (Lk_118 hL) h13 ?_
      refine v_if_ne r_175_4 (by first | exact zF_in _ _ _ | exact zA_in _ _ _ | omega) (fun q => absurd q (by omega)) (fun _ => ?_)
      refine w_aload0 r_175_7 ?_
      refine v_getI r_175_8 (Lk_118 hL) hI.2.2 ?_
      refine w_iconst (v := iI (2)) r_175_11 rfl ?_
      refine v_ic_ne r_175_12 (by first | exact zF_in _ _ _ | exact zA_in _ _ _ | omega) (by first | exact zF_in _ _ _ | exact zA_in _ _ _ | omega) (fun q => absurd q (by omega)) (fun _ => ?_)
      refine w_aload0 r_175_15 ?_
      refine v_getI r_175_16 (Lk_118 hL) v16 ?_
      refine w_aload1 r_175_19 ?_
      refine k_271 r_175_20 hs.1.1 (Nat.le_of_ble_eq_true rfl) ?_
      refine c_length (d := d + 2) hs ?_
      refine v_ic_eq r_175_23 (by first | exact zF_in _ _ _ | exact zA_in _ _ _ | omega) (by first | exact zF_in _ _ _ | exact zA_in _ _ _ | omega) (fun _ => ?_) (fun q => absurd q (by omega))
      refine w_iconst (v := iI (1)) r_175_28 rfl ?_
      refine w_istore2 r_175_29 rfl ?_
      refine w_iconst (v := iI (0)) r_175_30 rfl ?_
      refine w_istore3 r_175_31 rfl ?_
      exact J
    · refine w_aload0 r_175_0 ?_
      refine v_getI r_175_1 (Lk_118 hL) h13 ?_
      refine v_if_ne r_175_4 (by first | exact zF_in _ _ _ | exact zA_in _ _ _ | omega) (fun q => absurd q (by omega)) (fun _ => ?_)
      refine w_aload0 r_175_7 ?_
      refine v_getI r_175_8 (Lk_118 hL) hI.2.2 ?_
      refine w_iconst (v := iI (2)) r_175_11 rfl ?_
      refine v_ic_ne r_175_12 (by first | exact zF_in _ _ _ | exact zA_in _ _ _ | omega) (by first | exact zF_in _ _ _ | exact zA_in _ _ _ | omega) (fun q => absurd q (by omega)) (fun _ => ?_)
      refine w_aload0 r_175_15 ?_
      refine v_getI r_175_16 (Lk_118 hL) v16 ?_
      refine w_aload1 r_175_19 ?_
      refine k_271 r_175_20 hs.1.1 (Nat.le_of_ble_eq_true rfl) ?_
      refine c_length (d := d + 2) hs ?_
      refine v_ic_eq r_175_23 (by first | exact zF_in _ _ _ | exact zA_in _ _ _ | omega) (by first | exact zF_in _ _ _ | exact zA_in _ _ _ | omega) (fun q => absurd q (by omega)) (fun _ => ?_)
      refine w_iconst (v := iI (0)) r_175_26 rfl ?_
      refine w_zret r_175_27 (by decide) ?_
      exact kf' (fun z => z2 z.2.1)
  · refine w_aload0 r_175_0 ?_
    refine v_getI r_175_1 (Lk_118 hL) h13 ?_
    refine v_if_ne r_175_4 (by first | exact zF_in _ _ _ | exact zA_in _ _ _ | omega) (fun q => absurd q (by omega)) (fun _ => ?_)
    refine w_aload0 r_175_7 ?_
    refine v_getI r_175_8 (Lk_118 hL) hI.2.2 ?_
    refine w_iconst (v := iI (2)) r_175_11 rfl ?_
    refine v_ic_ne r_175_12 (by first | exact zF_in _ _ _ | exact zA_in _ _ _ | omega) (by first | exact zF_in _ _ _ | exact zA_in _ _ _ | omega) (fun _ => ?_) (fun q => absurd q (by omega))
    refine w_iconst (v := iI (0)) r_175_26 rfl ?_
    refine w_zret r_175_27 (by decide) ?_
    exact kf' (fun z => z1 z.1)
theorem m_word1 (hL : Lay h) (h13 : gI h 118 13 = iI 1) (kk : K (iI 0) h) : XW d 175 0 [.ref 118, .ref a, .null, .null] [] h (KI K) := by
  refine w_aload0 r_175_0 ?_
  refine v_getI r_175_1 (Lk_118 hL) h13 ?_
  refine v_if_ne r_175_4 (by first | exact zF_in _ _ _ | exact zA_in _ _ _ | omega) (fun _ => ?_) (fun q => absurd q (by omega))
  refine w_iconst (v := iI (0)) r_175_26 rfl ?_
  refine w_zret r_175_27 (by decide) ?_
  exact kk
theorem m_must0 (hL : Lay h) (hY : TY h τ) (hT : TM h τ k) (h13 : gI h 118 13 = iI 0) (hs : SS h a w) (kt : τ.is k w = true → ∀ h', Fr PTm h h' → TM h' τ (τ.e k) → K (iI 1) h') (kf : τ.is k w = false → K (iI 0) (wrg h 1 (τ.a k))) : XW (d + 5) 176 0 [.ref 118, .ref a] [] h (KI K) := by
  have o := hY.1.1
  have hk := hT.1
  have e := XT.e_at hY.1 hT.1.1 hT.1.2
  have a' := XT.a_at hY.1 hT.1.1 hT.1.2
  refine w_aload0 r_176_0 ?_
  refine v_getI r_176_1 (Lk_118 hL) h13 ?_
  refine v_if_eq r_176_4 (by first | exact zF_in _ _ _ | exact zA_in _ _ _ | omega) (fun _ => ?_) (fun q => absurd q (by omega))
  refine w_aload0 r_176_9 ?_
  refine w_aload1 r_176_10 ?_
  refine k_175 r_176_11 (Lk_118 hL) (Nat.le_of_ble_eq_true rfl) ?_
  refine m_word0 hL hY hT h13 hs (fun q => ?_) (fun q => ?_)
  · refine v_if_ne r_176_14 (by first | exact zF_in _ _ _ | exact zA_in _ _ _ | omega) (fun _ => ?_) (fun q => absurd q (by omega))
    refine w_aload0 r_176_27 ?_
    refine k_172 r_176_28 (Lk_118 hL) (Nat.le_of_ble_eq_true rfl) ?_
    refine m_next hL hY (by omega) hT.i.2.1 (fun h' f' t' => ?_)
    refine w_iconst (v := iI (1)) r_176_31 rfl ?_
    refine w_zret r_176_32 (by decide) ?_
    exact kt q h' f' t'
  · refine v_if_ne r_176_14 (by first | exact zF_in _ _ _ | exact zA_in _ _ _ | omega) (fun q => absurd q (by omega)) (fun _ => ?_)
    refine w_aload0 r_176_17 ?_
    refine w_iconst (v := iI (1)) r_176_18 rfl ?_
    refine w_aload0 r_176_19 ?_
    refine v_getI r_176_20 (Lk_118 hL) hT.i.1 ?_
    refine k_174 r_176_23 (Lk_118 hL) (Nat.le_of_ble_eq_true rfl) ?_
    refine m_wrong0 hL h13 ?_
    refine w_zret r_176_26 (by decide) ?_
    exact kf q
theorem m_must1 (hL : Lay h) (h13 : gI h 118 13 = iI 1) (kk : K (iI 0) h) : XW (d + 1) 176 0 [.ref 118, .ref a] [] h (KI K) := by
  refine w_aload0 r_176_0 ?_
  refine v_getI r_176_1 (Lk_118 hL) h13 ?_
  refine v_if_eq r_176_4 (by first | exact zF_in _ _ _ | exact zA_in _ _ _ | omega) (fun q => absurd q (by omega)) (fun _ => ?_)
  refine w_iconst (v := iI (0)) r_176_7 rfl ?_
  refine w_zret r_176_8 (by decide) ?_
  exact kk
theorem m_isName (hL : Lay h) (hS : StC h) (hY : TY h τ) (hT : TM h τ k) (h13 : gI h 118 13 = iI 0) (kt : τ.nm k = true → K (iI 1) h) (kf : τ.nm k = false → K (iI 0) h) : XW (d + 5) 177 0 [.ref 118, .null] [] h (KI K) := by
  have e := XT.e_at hY.1 hT.1.1 hT.1.2
  have mk := mK_in e.2.2.2
  unfold XT.nm XT.way at kt kf
  have out : ∀ b : Bool, (b = true ↔ ¬ (τ.is k sW_ground = false ∧ τ.is k sW_rover = false ∧ τ.is k sW_try = false ∧ τ.is k sW_if = false ∧ τ.is k sW_is = false ∧ τ.is k sW_else = false ∧ τ.is k sW_right = false ∧ τ.is k sW_left = false ∧ τ.is k sW_up = false ∧ τ.is k sW_down = false)) → XW (d + 5) 177 95 [.ref 118, .null] [.int (iI (b2i b))] h (KI K) := by
    intro b hb
    cases b with
    | true =>
      have q : ¬ (τ.is k sW_ground = false ∧ τ.is k sW_rover = false ∧ τ.is k sW_try = false ∧ τ.is k sW_if = false ∧ τ.is k sW_is = false ∧ τ.is k sW_else = false ∧ τ.is k sW_right = false ∧ τ.is k sW_left = false ∧ τ.is k sW_up = false ∧ τ.is k sW_down = false) := hb.1 rfl
      have F : K (iI 0) h := kf (by
        cases w1 : τ.is k sW_ground <;> cases w2 : τ.is k sW_rover <;> cases w3 : τ.is k sW_try <;> cases w4 : τ.is k sW_if <;> cases w5 : τ.is k sW_is <;> cases w6 : τ.is k sW_else <;> simp
        all_goals (cases w7 : τ.is k sW_right <;> cases w8 : τ.is k sW_left <;> cases w9 : τ.is k sW_up <;> cases w10 : τ.is k sW_down <;> simp [*] at q ⊢))
      change XW (d + 5) 177 95 [.ref 118, .null] [.int (iI 1)] h (KI K)
      refine w_istore1 r_177_95 rfl ?_
      refine w_aload0 r_177_96 ?_
      refine v_getI r_177_97 (Lk_118 hL) hT.i.2.2 ?_
      refine w_iconst (v := iI (2)) r_177_100 rfl ?_
      refine v_ic_ne r_177_101 (by first | exact zF_in _ _ _ | exact zA_in _ _ _ | omega) (by first | exact zF_in _ _ _ | exact zA_in _ _ _ | omega) (fun c101 => ?_) (fun c101 => ?_)
      · refine w_iconst (v := iI (0)) r_177_112 rfl ?_
        refine w_zret r_177_113 (by decide) ?_
        exact F
      · refine w_iload1 r_177_104 ?_
        refine v_if_ne r_177_105 (by first | exact zF_in _ _ _ | exact zA_in _ _ _ | omega) (fun _ => ?_) (fun q => absurd q (by omega))
        refine w_iconst (v := iI (0)) r_177_112 rfl ?_
        refine w_zret r_177_113 (by decide) ?_
        exact F
    | false =>
      have q : τ.is k sW_ground = false ∧ τ.is k sW_rover = false ∧ τ.is k sW_try = false ∧ τ.is k sW_if = false ∧ τ.is k sW_is = false ∧ τ.is k sW_else = false ∧ τ.is k sW_right = false ∧ τ.is k sW_left = false ∧ τ.is k sW_up = false ∧ τ.is k sW_down = false := by
        by_cases z : (τ.is k sW_ground = false ∧ τ.is k sW_rover = false ∧ τ.is k sW_try = false ∧ τ.is k sW_if = false ∧ τ.is k sW_is = false ∧ τ.is k sW_else = false ∧ τ.is k sW_right = false ∧ τ.is k sW_left = false ∧ τ.is k sW_up = false ∧ τ.is k sW_down = false)
        · exact z
        · exact absurd (hb.2 z) (by decide)
      obtain ⟨w1, w2, w3, w4, w5, w6, w7, w8, w9, w10⟩ := q
      simp only [w1, w2, w3, w4, w5, w6, w7, w8, w9, w10] at kt kf
      change XW (d + 5) 177 95 [.ref 118, .null] [.int (iI 0)] h (KI K)
      refine w_istore1 r_177_95 rfl ?_
      refine w_aload0 r_177_96 ?_
      refine v_getI r_177_97 (Lk_118 hL) hT.i.2.2 ?_
      refine w_iconst (v := iI (2)) r_177_100 rfl ?_
      refine v_ic_ne r_177_101 (by first | exact zF_in _ _ _ | exact zA_in _ _ _ | omega) (by first | exact zF_in _ _ _ | exact zA_in _ _ _ | omega) (fun c101 => ?_) (fun c101 => ?_)
      · refine w_iconst (v := iI (0)) r_177_112 rfl ?_
        refine w_zret r_177_113 (by decide) ?_
        first | exact kt (by simp; omega) | exact kf (by simp; omega)
      · refine w_iload1 r_177_104 ?_
        refine v_if_ne r_177_105 (by first | exact zF_in _ _ _ | exact zA_in _ _ _ | omega) (fun q => absurd q (by omega)) (fun _ => ?_)
        refine w_iconst (v := iI (1)) r_177_108 rfl ?_
        refine w_goto r_177_109 ?_
        refine w_zret r_177_113 (by decide) ?_
        first | exact kt (by simp; omega) | exact kf (by simp; omega)
  have ot := out true
  have of := out false
  change _ → XW (d + 5) 177 95 [.ref 118, .null] [.int (iI 1)] h (KI K) at ot
  change _ → XW (d + 5) 177 95 [.ref 118, .null] [.int (iI 0)] h (KI K) at of
  refine w_aload0 r_177_0 ?_
  refine w_ldcS (a := 1000064) r_177_1 rfl ?_
  refine k_175 r_177_3 (Lk_118 hL) (Nat.le_of_ble_eq_true rfl) ?_
  refine m_word0 hL hY hT h13 (sS_27 hL hS) (fun q1 => ?_) (fun q1 => ?_)
  · refine v_if_ne r_177_6 (by first | exact zF_in _ _ _ | exact zA_in _ _ _ | omega) (fun _ => ?_) (fun q => absurd q (by omega))
    refine w_iconst (v := iI (1)) r_177_90 rfl ?_
    refine w_goto r_177_91 ?_
    first | exact ot (by simp [*]) | exact of (by simp [*])
  · refine v_if_ne r_177_6 (by first | exact zF_in _ _ _ | exact zA_in _ _ _ | omega) (fun q => absurd q (by omega)) (fun _ => ?_)
    refine w_aload0 r_177_9 ?_
    refine w_ldcS (a := 1000066) r_177_10 rfl ?_
    refine k_175 r_177_12 (Lk_118 hL) (Nat.le_of_ble_eq_true rfl) ?_
    refine m_word0 hL hY hT h13 (sS_28 hL hS) (fun q2 => ?_) (fun q2 => ?_)
    · refine v_if_ne r_177_15 (by first | exact zF_in _ _ _ | exact zA_in _ _ _ | omega) (fun _ => ?_) (fun q => absurd q (by omega))
      refine w_iconst (v := iI (1)) r_177_90 rfl ?_
      refine w_goto r_177_91 ?_
      first | exact ot (by simp [*]) | exact of (by simp [*])
    · refine v_if_ne r_177_15 (by first | exact zF_in _ _ _ | exact zA_in _ _ _ | omega) (fun q => absurd q (by omega)) (fun _ => ?_)
      refine w_aload0 r_177_18 ?_
      refine w_ldcS (a := 1000068) r_177_19 rfl ?_
      refine k_175 r_177_21 (Lk_118 hL) (Nat.le_of_ble_eq_true rfl) ?_
      refine m_word0 hL hY hT h13 (sS_29 hL hS) (fun q3 => ?_) (fun q3 => ?_)
      · refine v_if_ne r_177_24 (by first | exact zF_in _ _ _ | exact zA_in _ _ _ | omega) (fun _ => ?_) (fun q => absurd q (by omega))
        refine w_iconst (v := iI (1)) r_177_90 rfl ?_
        refine w_goto r_177_91 ?_
        first | exact ot (by simp [*]) | exact of (by simp [*])
      · refine v_if_ne r_177_24 (by first | exact zF_in _ _ _ | exact zA_in _ _ _ | omega) (fun q => absurd q (by omega)) (fun _ => ?_)
        refine w_aload0 r_177_27 ?_
        refine w_ldcS (a := 1000070) r_177_28 rfl ?_
        refine k_175 r_177_30 (Lk_118 hL) (Nat.le_of_ble_eq_true rfl) ?_
        refine m_word0 hL hY hT h13 (sS_30 hL hS) (fun q4 => ?_) (fun q4 => ?_)
        · refine v_if_ne r_177_33 (by first | exact zF_in _ _ _ | exact zA_in _ _ _ | omega) (fun _ => ?_) (fun q => absurd q (by omega))
          refine w_iconst (v := iI (1)) r_177_90 rfl ?_
          refine w_goto r_177_91 ?_
          first | exact ot (by simp [*]) | exact of (by simp [*])
        · refine v_if_ne r_177_33 (by first | exact zF_in _ _ _ | exact zA_in _ _ _ | omega) (fun q => absurd q (by omega)) (fun _ => ?_)
          refine w_aload0 r_177_36 ?_
          refine w_ldcS (a := 1000072) r_177_37 rfl ?_
          refine k_175 r_177_39 (Lk_118 hL) (Nat.le_of_ble_eq_true rfl) ?_
          refine m_word0 hL hY hT h13 (sS_31 hL hS) (fun q5 => ?_) (fun q5 => ?_)
          · refine v_if_ne r_177_42 (by first | exact zF_in _ _ _ | exact zA_in _ _ _ | omega) (fun _ => ?_) (fun q => absurd q (by omega))
            refine w_iconst (v := iI (1)) r_177_90 rfl ?_
            refine w_goto r_177_91 ?_
            first | exact ot (by simp [*]) | exact of (by simp [*])
          · refine v_if_ne r_177_42 (by first | exact zF_in _ _ _ | exact zA_in _ _ _ | omega) (fun q => absurd q (by omega)) (fun _ => ?_)
            refine w_aload0 r_177_45 ?_
            refine w_ldcS (a := 1000074) r_177_46 rfl ?_
            refine k_175 r_177_48 (Lk_118 hL) (Nat.le_of_ble_eq_true rfl) ?_
            refine m_word0 hL hY hT h13 (sS_32 hL hS) (fun q6 => ?_) (fun q6 => ?_)
            · refine v_if_ne r_177_51 (by first | exact zF_in _ _ _ | exact zA_in _ _ _ | omega) (fun _ => ?_) (fun q => absurd q (by omega))
              refine w_iconst (v := iI (1)) r_177_90 rfl ?_
              refine w_goto r_177_91 ?_
              first | exact ot (by simp [*]) | exact of (by simp [*])
            · refine v_if_ne r_177_51 (by first | exact zF_in _ _ _ | exact zA_in _ _ _ | omega) (fun q => absurd q (by omega)) (fun _ => ?_)
              refine w_aload0 r_177_54 ?_
              refine w_ldcS (a := 1000076) r_177_55 rfl ?_
              refine k_175 r_177_57 (Lk_118 hL) (Nat.le_of_ble_eq_true rfl) ?_
              refine m_word0 hL hY hT h13 (sS_33 hL hS) (fun q7 => ?_) (fun q7 => ?_)
              · refine v_if_ne r_177_60 (by first | exact zF_in _ _ _ | exact zA_in _ _ _ | omega) (fun _ => ?_) (fun q => absurd q (by omega))
                refine w_iconst (v := iI (1)) r_177_90 rfl ?_
                refine w_goto r_177_91 ?_
                first | exact ot (by simp [*]) | exact of (by simp [*])
              · refine v_if_ne r_177_60 (by first | exact zF_in _ _ _ | exact zA_in _ _ _ | omega) (fun q => absurd q (by omega)) (fun _ => ?_)
                refine w_aload0 r_177_63 ?_
                refine w_ldcS (a := 1000078) r_177_64 rfl ?_
                refine k_175 r_177_66 (Lk_118 hL) (Nat.le_of_ble_eq_true rfl) ?_
                refine m_word0 hL hY hT h13 (sS_34 hL hS) (fun q8 => ?_) (fun q8 => ?_)
                · refine v_if_ne r_177_69 (by first | exact zF_in _ _ _ | exact zA_in _ _ _ | omega) (fun _ => ?_) (fun q => absurd q (by omega))
                  refine w_iconst (v := iI (1)) r_177_90 rfl ?_
                  refine w_goto r_177_91 ?_
                  first | exact ot (by simp [*]) | exact of (by simp [*])
                · refine v_if_ne r_177_69 (by first | exact zF_in _ _ _ | exact zA_in _ _ _ | omega) (fun q => absurd q (by omega)) (fun _ => ?_)
                  refine w_aload0 r_177_72 ?_
                  refine w_ldcS (a := 1000080) r_177_73 rfl ?_
                  refine k_175 r_177_75 (Lk_118 hL) (Nat.le_of_ble_eq_true rfl) ?_
                  refine m_word0 hL hY hT h13 (sS_35 hL hS) (fun q9 => ?_) (fun q9 => ?_)
                  · refine v_if_ne r_177_78 (by first | exact zF_in _ _ _ | exact zA_in _ _ _ | omega) (fun _ => ?_) (fun q => absurd q (by omega))
                    refine w_iconst (v := iI (1)) r_177_90 rfl ?_
                    refine w_goto r_177_91 ?_
                    first | exact ot (by simp [*]) | exact of (by simp [*])
                  · refine v_if_ne r_177_78 (by first | exact zF_in _ _ _ | exact zA_in _ _ _ | omega) (fun q => absurd q (by omega)) (fun _ => ?_)
                    refine w_aload0 r_177_81 ?_
                    refine w_ldcS (a := 1000082) r_177_82 rfl ?_
                    refine k_175 r_177_84 (Lk_118 hL) (Nat.le_of_ble_eq_true rfl) ?_
                    refine m_word0 hL hY hT h13 (sS_36 hL hS) (fun q10 => ?_) (fun q10 => ?_)
                    · refine v_if_eq r_177_87 (by first | exact zF_in _ _ _ | exact zA_in _ _ _ | omega) (fun q => absurd q (by omega)) (fun _ => ?_)
                      refine w_iconst (v := iI (1)) r_177_90 rfl ?_
                      refine w_goto r_177_91 ?_
                      first | exact ot (by simp [*]) | exact of (by simp [*])
                    · refine v_if_eq r_177_87 (by first | exact zF_in _ _ _ | exact zA_in _ _ _ | omega) (fun _ => ?_) (fun q => absurd q (by omega))
                      refine w_iconst (v := iI (0)) r_177_94 rfl ?_
                      first | exact ot (by simp [*]) | exact of (by simp [*])
theorem m_number0 {lo hi : Int} (hlo : R32 lo) (hhi : R32 hi) (hL : Lay h) (hY : TY h τ) (hT : TM h τ k) (h13 : gI h 118 13 = iI 0) (kt : τ.k k = 2 → lo ≤ τ.v k ∧ τ.v k ≤ hi → ∀ h', Fr PTm h h' → TM h' τ (τ.e k) → K (iI (τ.v k)) h') (k1 : ¬ τ.k k = 2 → K (iI lo) (wrg h 1 (τ.a k))) (k4 : τ.k k = 2 → ¬ (lo ≤ τ.v k ∧ τ.v k ≤ hi) → K (iI lo) (wrg h 4 (τ.a k))) : XW (d + 2) 179 0 [.ref 118, .int (iI lo), .int (iI hi), .null] [] h (KI K) := by
  have o := hY.1.1
  have hk := hT.1
  have e := XT.e_at hY.1 hT.1.1 hT.1.2
  have a' := XT.a_at hY.1 hT.1.1 hT.1.2
  have mk := mK_in e.2.2.2
  by_cases z : τ.k k = 2
  · have vi := XT.v_at hY.1 hT.1.1 hT.1.2 z
    have ev : gI h 118 7 = iI (τ.v k) := by rw [gI_F, hT.2.2.2.2.1 z]
    refine w_aload0 r_179_0 ?_
    refine v_getI r_179_1 (Lk_118 hL) h13 ?_
    refine v_if_eq r_179_4 (by first | exact zF_in _ _ _ | exact zA_in _ _ _ | omega) (fun _ => ?_) (fun q => absurd q (by omega))
    refine w_aload0 r_179_9 ?_
    refine v_getI r_179_10 (Lk_118 hL) hT.i.2.2 ?_
    refine w_iconst (v := iI (3)) r_179_13 rfl ?_
    refine v_ic_eq r_179_14 (by first | exact zF_in _ _ _ | exact zA_in _ _ _ | omega) (by first | exact zF_in _ _ _ | exact zA_in _ _ _ | omega) (fun _ => ?_) (fun q => absurd q (by omega))
    refine w_aload0 r_179_29 ?_
    refine v_getI r_179_30 (Lk_118 hL) ev ?_
    refine w_istore3 r_179_33 rfl ?_
    refine w_iload3 r_179_34 ?_
    refine w_iload1 r_179_35 ?_
    refine w_iload2 r_179_36 ?_
    refine k_167 r_179_37 (Nat.le_of_ble_eq_true rfl) ?_
    refine m_within (by first | exact zF_in _ _ _ | exact zA_in _ _ _ | omega) (by first | exact zF_in _ _ _ | exact zA_in _ _ _ | omega) (by first | exact zF_in _ _ _ | exact zA_in _ _ _ | omega) (fun c37 => ?_) (fun c37 => ?_)
    · refine v_if_ne r_179_40 (by first | exact zF_in _ _ _ | exact zA_in _ _ _ | omega) (fun _ => ?_) (fun q => absurd q (by omega))
      refine w_aload0 r_179_55 ?_
      refine k_172 r_179_56 (Lk_118 hL) (Nat.le_of_ble_eq_true rfl) ?_
      refine m_next hL hY (by omega) hT.i.2.1 (fun h' f' t' => ?_)
      refine w_iload3 r_179_59 ?_
      refine w_iret r_179_60 ?_
      exact kt z (by omega) h' f' t'
    · refine v_if_ne r_179_40 (by first | exact zF_in _ _ _ | exact zA_in _ _ _ | omega) (fun q => absurd q (by omega)) (fun _ => ?_)
      refine w_aload0 r_179_43 ?_
      refine w_iconst (v := iI (4)) r_179_44 rfl ?_
      refine w_aload0 r_179_45 ?_
      refine v_getI r_179_46 (Lk_118 hL) hT.i.1 ?_
      refine k_174 r_179_49 (Lk_118 hL) (Nat.le_of_ble_eq_true rfl) ?_
      refine m_wrong0 hL h13 ?_
      refine w_popI r_179_52 ?_
      refine w_iload1 r_179_53 ?_
      refine w_iret r_179_54 ?_
      exact k4 z (by omega)
  · refine w_aload0 r_179_0 ?_
    refine v_getI r_179_1 (Lk_118 hL) h13 ?_
    refine v_if_eq r_179_4 (by first | exact zF_in _ _ _ | exact zA_in _ _ _ | omega) (fun _ => ?_) (fun q => absurd q (by omega))
    refine w_aload0 r_179_9 ?_
    refine v_getI r_179_10 (Lk_118 hL) hT.i.2.2 ?_
    refine w_iconst (v := iI (3)) r_179_13 rfl ?_
    refine v_ic_eq r_179_14 (by first | exact zF_in _ _ _ | exact zA_in _ _ _ | omega) (by first | exact zF_in _ _ _ | exact zA_in _ _ _ | omega) (fun q => absurd q (by omega)) (fun _ => ?_)
    refine w_aload0 r_179_17 ?_
    refine w_iconst (v := iI (1)) r_179_18 rfl ?_
    refine w_aload0 r_179_19 ?_
    refine v_getI r_179_20 (Lk_118 hL) hT.i.1 ?_
    refine k_174 r_179_23 (Lk_118 hL) (Nat.le_of_ble_eq_true rfl) ?_
    refine m_wrong0 hL h13 ?_
    refine w_popI r_179_26 ?_
    refine w_iload1 r_179_27 ?_
    refine w_iret r_179_28 ?_
    exact k1 z
theorem m_number1 {lo hi : Int} (hL : Lay h) (h13 : gI h 118 13 = iI 1) (kk : K (iI lo) h) : XW (d + 1) 179 0 [.ref 118, .int (iI lo), .int (iI hi), .null] [] h (KI K) := by
  refine w_aload0 r_179_0 ?_
  refine v_getI r_179_1 (Lk_118 hL) h13 ?_
  refine v_if_eq r_179_4 (by first | exact zF_in _ _ _ | exact zA_in _ _ _ | omega) (fun q => absurd q (by omega)) (fun _ => ?_)
  refine w_iload1 r_179_7 ?_
  refine w_iret r_179_8 ?_
  exact kk
/-- where a turn's number stands -/
def XT.sk (τ : XT) (k : Int) : Int := if τ.k k = 45 then τ.e k else k
def XT.sv (τ : XT) (k : Int) : Int := if τ.k k = 45 then -τ.v (τ.sk k) else τ.v (τ.sk k)
theorem m_signed0 (hL : Lay h) (hY : TY h τ) (hT : TM h τ k) (h13 : gI h 118 13 = iI 0) (kt : τ.k (τ.sk k) = 2 → τ.v (τ.sk k) ≤ 4 → ∀ h', Fr PTm h h' → TM h' τ (τ.e (τ.sk k)) → K (iI (τ.sv k)) h') (k1 : ¬ τ.k (τ.sk k) = 2 → ∀ h', Fr PTm h h' → K (iI 0) (wrg h' 1 (τ.a (τ.sk k)))) (k4 : τ.k (τ.sk k) = 2 → ¬ τ.v (τ.sk k) ≤ 4 → ∀ h', Fr PTm h h' → K (iI 0) (wrg h' 4 (τ.a k))) : XW (d + 2) 180 0 [.ref 118, .int (iI (-4)), .int (iI 4), .null, .null, .null] [] h (KI K) := by
  have o := hY.1.1
  have hk := hT.1
  have e := XT.e_at hY.1 hT.1.1 hT.1.2
  have a' := XT.a_at hY.1 hT.1.1 hT.1.2
  have mk := mK_in e.2.2.2
  have hL0 := hL
  have tail : ∀ (mn : Int) (g : XH), Fr PTm h g → TM g τ (τ.sk k) → (mn = if τ.k k = 45 then 1 else 0) → XW (d + 2) 180 39 [.ref 118, .int (iI (-4)), .int (iI 4), .int (iI (τ.a k)), .int (iI mn), .null] [] g (KI K) := by
    intro mn g fg Tg em
    have hL := fg.lay hL0
    have g13 : gI g 118 13 = iI 0 := by rw [(fg.2 118 13 (by simp [pO, pA, pF])).1]; exact h13
    have Yg := hY.fr fg (by simp [pO, pA, pF]) (fun j => by simp [pO, pA, pF])
    have hk2 := Tg.1
    have e2 := XT.e_at hY.1 hk2.1 hk2.2
    have a2 := XT.a_at hY.1 hk2.1 hk2.2
    have mk2 := mK_in e2.2.2.2
    by_cases z : τ.k (τ.sk k) = 2
    · have vi := XT.v_at hY.1 hk2.1 hk2.2 z
      have ev : gI g 118 7 = iI (τ.v (τ.sk k)) := by rw [gI_F, Tg.2.2.2.2.1 z]
      by_cases m : τ.k k = 45
      · have sv : τ.sv k = -τ.v (τ.sk k) := by unfold XT.sv; rw [if_pos m]
        rw [if_pos m] at em
        subst em
        refine w_aload0 r_180_39 ?_
        refine v_getI r_180_40 (Lk_118 hL) Tg.i.2.2 ?_
        refine w_iconst (v := iI (3)) r_180_43 rfl ?_
        refine v_ic_eq r_180_44 (by first | exact zF_in _ _ _ | exact zA_in _ _ _ | omega) (by first | exact zF_in _ _ _ | exact zA_in _ _ _ | omega) (fun _ => ?_) (fun q => absurd q (by omega))
        refine w_iload4 r_180_59 ?_
        refine v_if_eq r_180_61 (by first | exact zF_in _ _ _ | exact zA_in _ _ _ | omega) (fun q => absurd q (by omega)) (fun _ => ?_)
        refine w_aload0 r_180_64 ?_
        refine v_getI r_180_65 (Lk_118 hL) ev ?_
        refine v_ineg r_180_68 ?_
        refine w_goto r_180_69 ?_
        refine w_istore5 r_180_76 rfl ?_
        refine w_iload5 r_180_78 ?_
        refine w_iload1 r_180_80 ?_
        refine w_iload2 r_180_81 ?_
        refine k_167 r_180_82 (Nat.le_of_ble_eq_true rfl) ?_
        refine m_within (by first | exact zF_in _ _ _ | exact zA_in _ _ _ | omega) (by first | exact zF_in _ _ _ | exact zA_in _ _ _ | omega) (by first | exact zF_in _ _ _ | exact zA_in _ _ _ | omega) (fun c82 => ?_) (fun c82 => ?_)
        · refine v_if_ne r_180_85 (by first | exact zF_in _ _ _ | exact zA_in _ _ _ | omega) (fun _ => ?_) (fun q => absurd q (by omega))
          refine w_aload0 r_180_97 ?_
          refine k_172 r_180_98 (Lk_118 hL) (Nat.le_of_ble_eq_true rfl) ?_
          refine m_next hL Yg (by omega) Tg.i.2.1 (fun h' f' t' => ?_)
          refine w_iload5 r_180_101 ?_
          refine w_iret r_180_103 ?_
          rw [← sv]
          exact kt z (by omega) h' (fg.trans f') t'
        · refine v_if_ne r_180_85 (by first | exact zF_in _ _ _ | exact zA_in _ _ _ | omega) (fun q => absurd q (by omega)) (fun _ => ?_)
          refine w_aload0 r_180_88 ?_
          refine w_iconst (v := iI (4)) r_180_89 rfl ?_
          refine w_iload3 r_180_90 ?_
          refine k_174 r_180_91 (Lk_118 hL) (Nat.le_of_ble_eq_true rfl) ?_
          refine m_wrong0 hL g13 ?_
          refine w_popI r_180_94 ?_
          refine w_iconst (v := iI (0)) r_180_95 rfl ?_
          refine w_iret r_180_96 ?_
          exact k4 z (by omega) g fg
      · have sv : τ.sv k = τ.v (τ.sk k) := by unfold XT.sv; rw [if_neg m]
        rw [if_neg m] at em
        subst em
        refine w_aload0 r_180_39 ?_
        refine v_getI r_180_40 (Lk_118 hL) Tg.i.2.2 ?_
        refine w_iconst (v := iI (3)) r_180_43 rfl ?_
        refine v_ic_eq r_180_44 (by first | exact zF_in _ _ _ | exact zA_in _ _ _ | omega) (by first | exact zF_in _ _ _ | exact zA_in _ _ _ | omega) (fun _ => ?_) (fun q => absurd q (by omega))
        refine w_iload4 r_180_59 ?_
        refine v_if_eq r_180_61 (by first | exact zF_in _ _ _ | exact zA_in _ _ _ | omega) (fun _ => ?_) (fun q => absurd q (by omega))
        refine w_aload0 r_180_72 ?_
        refine v_getI r_180_73 (Lk_118 hL) ev ?_
        refine w_istore5 r_180_76 rfl ?_
        refine w_iload5 r_180_78 ?_
        refine w_iload1 r_180_80 ?_
        refine w_iload2 r_180_81 ?_
        refine k_167 r_180_82 (Nat.le_of_ble_eq_true rfl) ?_
        refine m_within (by first | exact zF_in _ _ _ | exact zA_in _ _ _ | omega) (by first | exact zF_in _ _ _ | exact zA_in _ _ _ | omega) (by first | exact zF_in _ _ _ | exact zA_in _ _ _ | omega) (fun c82 => ?_) (fun c82 => ?_)
        · refine v_if_ne r_180_85 (by first | exact zF_in _ _ _ | exact zA_in _ _ _ | omega) (fun _ => ?_) (fun q => absurd q (by omega))
          refine w_aload0 r_180_97 ?_
          refine k_172 r_180_98 (Lk_118 hL) (Nat.le_of_ble_eq_true rfl) ?_
          refine m_next hL Yg (by omega) Tg.i.2.1 (fun h' f' t' => ?_)
          refine w_iload5 r_180_101 ?_
          refine w_iret r_180_103 ?_
          rw [← sv]
          exact kt z (by omega) h' (fg.trans f') t'
        · refine v_if_ne r_180_85 (by first | exact zF_in _ _ _ | exact zA_in _ _ _ | omega) (fun q => absurd q (by omega)) (fun _ => ?_)
          refine w_aload0 r_180_88 ?_
          refine w_iconst (v := iI (4)) r_180_89 rfl ?_
          refine w_iload3 r_180_90 ?_
          refine k_174 r_180_91 (Lk_118 hL) (Nat.le_of_ble_eq_true rfl) ?_
          refine m_wrong0 hL g13 ?_
          refine w_popI r_180_94 ?_
          refine w_iconst (v := iI (0)) r_180_95 rfl ?_
          refine w_iret r_180_96 ?_
          exact k4 z (by omega) g fg
    · refine w_aload0 r_180_39 ?_
      refine v_getI r_180_40 (Lk_118 hL) Tg.i.2.2 ?_
      refine w_iconst (v := iI (3)) r_180_43 rfl ?_
      refine v_ic_eq r_180_44 (by first | exact zF_in _ _ _ | exact zA_in _ _ _ | omega) (by first | exact zF_in _ _ _ | exact zA_in _ _ _ | omega) (fun q => absurd q (by omega)) (fun _ => ?_)
      refine w_aload0 r_180_47 ?_
      refine w_iconst (v := iI (1)) r_180_48 rfl ?_
      refine w_aload0 r_180_49 ?_
      refine v_getI r_180_50 (Lk_118 hL) Tg.i.1 ?_
      refine k_174 r_180_53 (Lk_118 hL) (Nat.le_of_ble_eq_true rfl) ?_
      refine m_wrong0 hL g13 ?_
      refine w_popI r_180_56 ?_
      refine w_iconst (v := iI (0)) r_180_57 rfl ?_
      refine w_iret r_180_58 ?_
      exact k1 z g fg
  by_cases m : τ.k k = 45
  · have es : τ.sk k = τ.e k := by unfold XT.sk; rw [if_pos m]
    have T := fun g f t => tail 1 g f t (by rw [if_pos m])
    rw [es] at T
    refine w_aload0 r_180_0 ?_
    refine v_getI r_180_1 (Lk_118 hL) h13 ?_
    refine v_if_eq r_180_4 (by first | exact zF_in _ _ _ | exact zA_in _ _ _ | omega) (fun _ => ?_) (fun q => absurd q (by omega))
    refine w_aload0 r_180_9 ?_
    refine v_getI r_180_10 (Lk_118 hL) hT.i.1 ?_
    refine w_istore3 r_180_13 rfl ?_
    refine w_aload0 r_180_14 ?_
    refine v_getI r_180_15 (Lk_118 hL) hT.i.2.2 ?_
    refine w_bipush (v := iI (45)) r_180_18 rfl ?_
    refine v_ic_ne r_180_20 (by first | exact zF_in _ _ _ | exact zA_in _ _ _ | omega) (by first | exact zF_in _ _ _ | exact zA_in _ _ _ | omega) (fun q => absurd q (by omega)) (fun _ => ?_)
    refine w_iconst (v := iI (1)) r_180_23 rfl ?_
    refine w_goto r_180_24 ?_
    refine w_istore4 r_180_28 rfl ?_
    refine w_iload4 r_180_30 ?_
    refine v_if_eq r_180_32 (by first | exact zF_in _ _ _ | exact zA_in _ _ _ | omega) (fun q => absurd q (by omega)) (fun _ => ?_)
    refine w_aload0 r_180_35 ?_
    refine k_172 r_180_36 (Lk_118 hL) (Nat.le_of_ble_eq_true rfl) ?_
    refine m_next hL hY (by omega) hT.i.2.1 (fun h' f' t' => ?_)
    exact T h' f' t'
  · have es : τ.sk k = k := by unfold XT.sk; rw [if_neg m]
    have T := tail 0 h (Fr.refl _ _) (by rw [es]; exact hT) (by rw [if_neg m])
    refine w_aload0 r_180_0 ?_
    refine v_getI r_180_1 (Lk_118 hL) h13 ?_
    refine v_if_eq r_180_4 (by first | exact zF_in _ _ _ | exact zA_in _ _ _ | omega) (fun _ => ?_) (fun q => absurd q (by omega))
    refine w_aload0 r_180_9 ?_
    refine v_getI r_180_10 (Lk_118 hL) hT.i.1 ?_
    refine w_istore3 r_180_13 rfl ?_
    refine w_aload0 r_180_14 ?_
    refine v_getI r_180_15 (Lk_118 hL) hT.i.2.2 ?_
    refine w_bipush (v := iI (45)) r_180_18 rfl ?_
    refine v_ic_ne r_180_20 (by first | exact zF_in _ _ _ | exact zA_in _ _ _ | omega) (by first | exact zF_in _ _ _ | exact zA_in _ _ _ | omega) (fun _ => ?_) (fun q => absurd q (by omega))
    refine w_iconst (v := iI (0)) r_180_27 rfl ?_
    refine w_istore4 r_180_28 rfl ?_
    refine w_iload4 r_180_30 ?_
    refine v_if_eq r_180_32 (by first | exact zF_in _ _ _ | exact zA_in _ _ _ | omega) (fun _ => ?_) (fun q => absurd q (by omega))
    exact T
theorem m_signed1 (hL : Lay h) (h13 : gI h 118 13 = iI 1) (kk : K (iI 0) h) : XW (d + 1) 180 0 [.ref 118, .int (iI (-4)), .int (iI 4), .null, .null, .null] [] h (KI K) := by
  refine w_aload0 r_180_0 ?_
  refine v_getI r_180_1 (Lk_118 hL) h13 ?_
  refine v_if_eq r_180_4 (by first | exact zF_in _ _ _ | exact zA_in _ _ _ | omega) (fun q => absurd q (by omega)) (fun _ => ?_)
  refine w_iconst (v := iI (0)) r_180_7 rfl ?_
  refine w_iret r_180_8 ?_
  exact kk
/-- where a name stands among names -/
def nmI (f : Int → Int) (n z : Int) : Int := fst1 (fun i => decide (f i = z)) n.toNat 0
theorem nmI_in (f : Int → Int) (n z : Int) (hn : 0 ≤ n) : nmI f n z = -1 ∨ (0 ≤ nmI f n z ∧ nmI f n z < n) := by
  rcases fst1_in (f := fun i => decide (f i = z)) n.toNat 0 with q | q
  · exact Or.inl q
  · right; unfold nmI; omega
theorem m_find {ra rs : Nat} {f : Int → Int} {n : Int} (hL : Lay h) (hY : TY h τ) (hT : TM h τ k) (hw : τ.k k = 1) (hr : (gK h ra = 1 ∧ gZ h ra = 64 ∧ ra ≠ 0) ∧ gK h rs = 1 ∧ gZ h rs = 8 ∧ rs ≠ 0) (hn : 0 ≤ n ∧ n ≤ 8) (hN : ∀ i, 0 ≤ i → i < n → MNm h ra rs i (f i)) (kk : K (iI (nmI f n (τ.w k))) h) : XW d 178 0 [.ref 118, .ref ra, .ref rs, .int (iI n), .null, .null, .null] [] h (KI K) := by
  have o := hY.1.1
  have hk := hT.1
  have t8 := hT.2.2.2.2.2 hw
  have v14 : gI h 118 8 = iI (τ.e k - τ.a k) := by rw [gI_F, t8.1]
  have wl := XT.w_at hY.1 hT.1.1 hT.1.2 hw
  have key : ∀ m : Nat, m ≤ n.toNat → ∀ X5 X6 : Value, (∀ i : Int, 0 ≤ i → i < m → ¬ f i = τ.w k) → XW d 178 3 [.ref 118, .ref ra, .ref rs, .int (iI n), .int (iI m), X5, X6] [] h (KI K) := by
    refine upto _ ?_ ?_
    · intro X5 X6 no
      have e : nmI f n (τ.w k) = -1 := fst1_no (fun i a b => by simp [no i a (by omega)])
      rw [e] at kk
      refine w_iload4 r_178_3 ?_
      refine w_iload3 r_178_5 ?_
      refine v_ic_ge r_178_6 (by first | exact zF_in _ _ _ | exact zA_in _ _ _ | omega) (by first | exact zF_in _ _ _ | exact zA_in _ _ _ | omega) (fun _ => ?_) (fun q => absurd q (by omega))
      refine w_iconst (v := iI (-1)) r_178_91 rfl ?_
      refine w_iret r_178_92 ?_
      exact kk
    · intro m hm ih X5 X6 no
      have N := hN m (by omega) (by omega)
      have v12 : gI h rs (m : Int).toNat = iI (zA h rs m) := gI_A _ _ _
      have eqi : f m = τ.w k ↔ zA h rs m = τ.e k - τ.a k ∧ ∀ i, 0 ≤ i → i < τ.e k - τ.a k → zA h ra (8 * m + i) = τ.1 (τ.a k + i) := by
        rw [← N.2.2.2]
        unfold XT.w
        constructor
        · intro q
          have r := enc_inj _ _ (fun i a b => N.2.2.1 i a (by omega)) (fun i a b => wl.2 i a (by omega)) q
          exact ⟨by have := N.1; omega, fun i a b => r.2 i a (by omega)⟩
        · intro q
          rw [q.1]
          exact enc_congr _ (fun i a b => q.2 i a (by omega))
      have no' : ¬ f m = τ.w k → ∀ X5 X6 : Value, XW d 178 3 [.ref 118, .ref ra, .ref rs, .int (iI n), .int (iI ((m : Int) + 1)), X5, X6] [] h (KI K) := fun q X5 X6 => ih X5 X6 (fun i a b => by
        by_cases z : i = (m : Int)
        · rw [z]; exact q
        · exact no i a (by omega))
      have yes : f m = τ.w k → K (iI m) h := fun q => by
        have e : nmI f n (τ.w k) = m := fst1_at (by omega) (by omega) (by simp [q]) (fun i a b => by simp [no i a (by omega)])
        rw [e] at kk
        exact kk
      by_cases z : zA h rs m = τ.e k - τ.a k
      · have inn : ∀ j : Nat, j ≤ (τ.e k - τ.a k).toNat → (∀ i : Int, 0 ≤ i → i < j → zA h ra (8 * m + i) = τ.1 (τ.a k + i)) → XW d 178 30 [.ref 118, .ref ra, .ref rs, .int (iI n), .int (iI m), .int (iI 1), .int (iI j)] [] h (KI K) := by
          refine upto _ ?_ ?_
          · intro q
            have Y := yes (eqi.2 ⟨z, fun i a b => q i a (by omega)⟩)
            refine w_iload6 r_178_30 ?_
            refine w_aload0 r_178_32 ?_
            refine v_getI r_178_33 (Lk_118 hL) v14 ?_
            refine v_ic_ge r_178_36 (by first | exact zF_in _ _ _ | exact zA_in _ _ _ | omega) (by first | exact zF_in _ _ _ | exact zA_in _ _ _ | omega) (fun _ => ?_) (fun q => absurd q (by omega))
            refine w_iload5 r_178_77 ?_
            refine v_if_eq r_178_79 (by first | exact zF_in _ _ _ | exact zA_in _ _ _ | omega) (fun q => absurd q (by omega)) (fun _ => ?_)
            refine w_iload4 r_178_82 ?_
            refine w_iret r_178_84 ?_
            exact Y
          · intro j hj ih2 q
            have l := wl.2 j (by omega) (by omega)
            have v53 : gI h ra (8 * (m : Int) + j).toNat = iI (zA h ra (8 * m + j)) := gI_A _ _ _
            have v60 : gI h 120 (j : Int).toNat = iI (τ.1 (τ.a k + j)) := by rw [gI_A, t8.2 j (by omega) (by omega)]
            by_cases y : zA h ra (8 * m + j) = τ.1 (τ.a k + j)
            · have J := ih2 (fun i a b => by
                by_cases z : i = (j : Int)
                · rw [z]; exact y
                · exact q i a (by omega))
              refine w_iload6 r_178_30 ?_
              refine w_aload0 r_178_32 ?_
              refine v_getI r_178_33 (Lk_118 hL) v14 ?_
              refine v_ic_ge r_178_36 (by first | exact zF_in _ _ _ | exact zA_in _ _ _ | omega) (by first | exact zF_in _ _ _ | exact zA_in _ _ _ | omega) (fun q => absurd q (by omega)) (fun _ => ?_)
              refine w_iload5 r_178_39 ?_
              refine v_if_eq r_178_41 (by first | exact zF_in _ _ _ | exact zA_in _ _ _ | omega) (fun q => absurd q (by omega)) (fun _ => ?_)
              refine w_aload1 r_178_44 ?_
              refine w_bipush (v := iI (8)) r_178_45 rfl ?_
              refine w_iload4 r_178_47 ?_
              refine v_imul r_178_49 ?_
              refine w_iload6 r_178_50 ?_
              refine v_iadd r_178_52 ?_
              refine v_iald r_178_53 (hr.1.1) (hr.1.2.1) (by decide) (by omega) v53 ?_
              refine w_aload0 r_178_54 ?_
              refine w_getA (x := 120) r_178_55 (Lk_118 hL) (Lr_118_11 hL) (by decide) ?_
              refine w_iload6 r_178_58 ?_
              refine v_iald r_178_60 (Lk_120 hL) (Lz_120 hL) (by decide) (by omega) v60 ?_
              refine v_ic_ne r_178_61 (by first | exact zF_in _ _ _ | exact zA_in _ _ _ | omega) (by first | exact zF_in _ _ _ | exact zA_in _ _ _ | omega) (fun q => absurd q (by omega)) (fun _ => ?_)
              refine w_iconst (v := iI (1)) r_178_64 rfl ?_
              refine w_goto r_178_65 ?_
              refine w_istore5 r_178_69 rfl ?_
              refine w_iinc6 r_178_71 rfl (iI_add _ _) ?_
              refine w_goto r_178_74 ?_
              exact J
            · have J := no' (fun q => y ((eqi.1 q).2 j (by omega) (by omega))) (.int (iI 0)) (.int (iI ((j : Int) + 1)))
              have J2 : XW d 178 30 [.ref 118, .ref ra, .ref rs, .int (iI n), .int (iI m), .int (iI 0), .int (iI ((j : Int) + 1))] [] h (KI K) := by
                refine w_iload6 r_178_30 ?_
                refine w_aload0 r_178_32 ?_
                refine v_getI r_178_33 (Lk_118 hL) v14 ?_
                refine v_ic_ge r_178_36 (by first | exact zF_in _ _ _ | exact zA_in _ _ _ | omega) (by first | exact zF_in _ _ _ | exact zA_in _ _ _ | omega) (fun c36 => ?_) (fun c36 => ?_)
                · refine w_iload5 r_178_77 ?_
                  refine v_if_eq r_178_79 (by first | exact zF_in _ _ _ | exact zA_in _ _ _ | omega) (fun _ => ?_) (fun q => absurd q (by omega))
                  refine w_iinc4 r_178_85 rfl (iI_add _ _) ?_
                  refine w_goto r_178_88 ?_
                  exact J
                · refine w_iload5 r_178_39 ?_
                  refine v_if_eq r_178_41 (by first | exact zF_in _ _ _ | exact zA_in _ _ _ | omega) (fun _ => ?_) (fun q => absurd q (by omega))
                  refine w_iload5 r_178_77 ?_
                  refine v_if_eq r_178_79 (by first | exact zF_in _ _ _ | exact zA_in _ _ _ | omega) (fun _ => ?_) (fun q => absurd q (by omega))
                  refine w_iinc4 r_178_85 rfl (iI_add _ _) ?_
                  refine w_goto r_178_88 ?_
                  exact J
              refine w_iload6 r_178_30 ?_
              refine w_aload0 r_178_32 ?_
              refine v_getI r_178_33 (Lk_118 hL) v14 ?_
              refine v_ic_ge r_178_36 (by first | exact zF_in _ _ _ | exact zA_in _ _ _ | omega) (by first | exact zF_in _ _ _ | exact zA_in _ _ _ | omega) (fun q => absurd q (by omega)) (fun _ => ?_)
              refine w_iload5 r_178_39 ?_
              refine v_if_eq r_178_41 (by first | exact zF_in _ _ _ | exact zA_in _ _ _ | omega) (fun q => absurd q (by omega)) (fun _ => ?_)
              refine w_aload1 r_178_44 ?_
              refine w_bipush (v := iI (8)) r_178_45 rfl ?_
              refine w_iload4 r_178_47 ?_
              refine v_imul r_178_49 ?_
              refine w_iload6 r_178_50 ?_
              refine v_iadd r_178_52 ?_
              refine v_iald r_178_53 (hr.1.1) (hr.1.2.1) (by decide) (by omega) v53 ?_
              refine w_aload0 r_178_54 ?_
              refine w_getA (x := 120) r_178_55 (Lk_118 hL) (Lr_118_11 hL) (by decide) ?_
              refine w_iload6 r_178_58 ?_
              refine v_iald r_178_60 (Lk_120 hL) (Lz_120 hL) (by decide) (by omega) v60 ?_
              refine v_ic_ne r_178_61 (by first | exact zF_in _ _ _ | exact zA_in _ _ _ | omega) (by first | exact zF_in _ _ _ | exact zA_in _ _ _ | omega) (fun _ => ?_) (fun q => absurd q (by omega))
              refine w_iconst (v := iI (0)) r_178_68 rfl ?_
              refine w_istore5 r_178_69 rfl ?_
              refine w_iinc6 r_178_71 rfl (iI_add _ _) ?_
              refine w_goto r_178_74 ?_
              exact J2
        have J := inn 0 (by omega) (fun i a b => by omega)
        refine w_iload4 r_178_3 ?_
        refine w_iload3 r_178_5 ?_
        refine v_ic_ge r_178_6 (by first | exact zF_in _ _ _ | exact zA_in _ _ _ | omega) (by first | exact zF_in _ _ _ | exact zA_in _ _ _ | omega) (fun q => absurd q (by omega)) (fun _ => ?_)
        refine w_aload2 r_178_9 ?_
        refine w_iload4 r_178_10 ?_
        refine v_iald r_178_12 (hr.2.1) (hr.2.2.1) (by decide) (by omega) v12 ?_
        refine w_aload0 r_178_13 ?_
        refine v_getI r_178_14 (Lk_118 hL) v14 ?_
        refine v_ic_ne r_178_17 (by first | exact zF_in _ _ _ | exact zA_in _ _ _ | omega) (by first | exact zF_in _ _ _ | exact zA_in _ _ _ | omega) (fun q => absurd q (by omega)) (fun _ => ?_)
        refine w_iconst (v := iI (1)) r_178_20 rfl ?_
        refine w_goto r_178_21 ?_
        refine w_istore5 r_178_25 rfl ?_
        refine w_iconst (v := iI (0)) r_178_27 rfl ?_
        refine w_istore6 r_178_28 rfl ?_
        exact J
      · have J := no' (fun q => z (eqi.1 q).1) (.int (iI 0)) (.int (iI 0))
        refine w_iload4 r_178_3 ?_
        refine w_iload3 r_178_5 ?_
        refine v_ic_ge r_178_6 (by first | exact zF_in _ _ _ | exact zA_in _ _ _ | omega) (by first | exact zF_in _ _ _ | exact zA_in _ _ _ | omega) (fun q => absurd q (by omega)) (fun _ => ?_)
        refine w_aload2 r_178_9 ?_
        refine w_iload4 r_178_10 ?_
        refine v_iald r_178_12 (hr.2.1) (hr.2.2.1) (by decide) (by omega) v12 ?_
        refine w_aload0 r_178_13 ?_
        refine v_getI r_178_14 (Lk_118 hL) v14 ?_
        refine v_ic_ne r_178_17 (by first | exact zF_in _ _ _ | exact zA_in _ _ _ | omega) (by first | exact zF_in _ _ _ | exact zA_in _ _ _ | omega) (fun _ => ?_) (fun q => absurd q (by omega))
        refine w_iconst (v := iI (0)) r_178_24 rfl ?_
        refine w_istore5 r_178_25 rfl ?_
        refine w_iconst (v := iI (0)) r_178_27 rfl ?_
        refine w_istore6 r_178_28 rfl ?_
        refine w_iload6 r_178_30 ?_
        refine w_aload0 r_178_32 ?_
        refine v_getI r_178_33 (Lk_118 hL) v14 ?_
        refine v_ic_ge r_178_36 (by first | exact zF_in _ _ _ | exact zA_in _ _ _ | omega) (by first | exact zF_in _ _ _ | exact zA_in _ _ _ | omega) (fun q => absurd q (by omega)) (fun _ => ?_)
        refine w_iload5 r_178_39 ?_
        refine v_if_eq r_178_41 (by first | exact zF_in _ _ _ | exact zA_in _ _ _ | omega) (fun _ => ?_) (fun q => absurd q (by omega))
        refine w_iload5 r_178_77 ?_
        refine v_if_eq r_178_79 (by first | exact zF_in _ _ _ | exact zA_in _ _ _ | omega) (fun _ => ?_) (fun q => absurd q (by omega))
        refine w_iinc4 r_178_85 rfl (iI_add _ _) ?_
        refine w_goto r_178_88 ?_
        exact J
  have J := key 0 (by omega) .null .null (fun i a b => by omega)
  refine w_iconst (v := iI (0)) r_178_0 rfl ?_
  refine w_istore4 r_178_1 rfl ?_
  exact J
end MT4
