/-! the Model's tokens -/
/-- the Model holds the text -/
def TY (h : XH) (τ : XT) : Prop := τ.ok ∧ zF h 118 3 = τ.2 ∧ ∀ i, 0 ≤ i → i < τ.2 → zA h 119 i = τ.1 i
def mK (x : Int) : Int := if x = 1 then 2 else if x = 2 then 3 else if x = 3 then 1 else x
/-- the Model stands at the token from k on -/
def TM (h : XH) (τ : XT) (k : Int) : Prop := (0 ≤ k ∧ k ≤ τ.2) ∧ zF h 118 4 = τ.a k ∧ zF h 118 5 = τ.e k ∧ zF h 118 6 = mK (τ.k k) ∧ (τ.k k = 2 → zF h 118 7 = τ.v k) ∧ (τ.k k = 1 → zF h 118 8 = τ.e k - τ.a k ∧ ∀ i, 0 ≤ i → i < τ.e k - τ.a k → zA h 120 i = τ.1 (τ.a k + i))
abbrev PTm : Nat → Nat → Bool := pO (pA [120]) (pF [(118, 4), (118, 5), (118, 6), (118, 7), (118, 8)])
section MT3
variable {d : Nat} {h : XH} {K : Int32 → XH → Prop} {KU : XH → Prop} {τ : XT} {k : Int}
theorem TY.fr {P : Nat → Nat → Bool} {h' : XH} (f : Fr P h h') (p1 : P 118 3 = false) (p2 : ∀ j, P 119 j = false) (hX : TY h τ) : TY h' τ := ⟨hX.1, by rw [f.F p1]; exact hX.2.1, fun i a b => by rw [f.A (p2 _)]; exact hX.2.2 i a b⟩
theorem TM.fr {P : Nat → Nat → Bool} {h' : XH} (f : Fr P h h') (p : ∀ j, j ≤ 4 → P 118 (j + 4) = false) (p2 : ∀ j, P 120 j = false) (hT : TM h τ k) : TM h' τ k := by
  refine ⟨hT.1, by rw [f.F (p 0 (by decide))]; exact hT.2.1, by rw [f.F (p 1 (by decide))]; exact hT.2.2.1, by rw [f.F (p 2 (by decide))]; exact hT.2.2.2.1, fun z => by rw [f.F (p 3 (by decide))]; exact hT.2.2.2.2.1 z, fun z => ⟨by rw [f.F (p 4 (by decide))]; exact (hT.2.2.2.2.2 z).1, fun i a b => by rw [f.A (p2 _)]; exact (hT.2.2.2.2.2 z).2 i a b⟩⟩
theorem c_rng (ho : τ.ok) (h0 : 0 ≤ k) : -1 ≤ τ.c k ∧ τ.c k ≤ 255 := by
  have c := XT.c_in ho h0
  by_cases q : k < τ.2
  · have := c.1 q; omega
  · have := c.2 (by omega); omega
theorem m_look (hL : Lay h) (hY : TY h τ) (hk : 0 ≤ k ∧ k ≤ 1000) (kk : K (iI (τ.c k)) h) : XW d 169 0 [.ref 118, .int (iI k)] [] h (KI K) := by
  have o := hY.1.1
  have v2 : gI h 118 3 = iI τ.2 := by rw [gI_F, hY.2.1]
  unfold XT.c at kk
  by_cases q : k < τ.2
  · have v13 : gI h 119 k.toNat = iI (τ.1 k) := by rw [gI_A, hY.2.2 k hk.1 q]
    rw [if_pos q] at kk
    refine w_iload1 r_169_0 ?_
    refine w_aload0 r_169_1 ?_
    refine v_getI r_169_2 (Lk_118 hL) v2 ?_
    refine v_ic_ge r_169_5 (by first | exact zF_in _ _ _ | exact zA_in _ _ _ | omega) (by first | exact zF_in _ _ _ | exact zA_in _ _ _ | omega) (fun q => absurd q (by omega)) (fun _ => ?_)
    refine w_aload0 r_169_8 ?_
    refine w_getA (x := 119) r_169_9 (Lk_118 hL) (Lr_118_1 hL) (by decide) ?_
    refine w_iload1 r_169_12 ?_
    refine v_iald r_169_13 (Lk_119 hL) (Lz_119 hL) (by decide) (by omega) v13 ?_
    refine w_goto r_169_14 ?_
    refine w_iret r_169_18 ?_
    exact kk
  · rw [if_neg q] at kk
    refine w_iload1 r_169_0 ?_
    refine w_aload0 r_169_1 ?_
    refine v_getI r_169_2 (Lk_118 hL) v2 ?_
    refine v_ic_ge r_169_5 (by first | exact zF_in _ _ _ | exact zA_in _ _ _ | omega) (by first | exact zF_in _ _ _ | exact zA_in _ _ _ | omega) (fun _ => ?_) (fun q => absurd q (by omega))
    refine w_iconst (v := iI (-1)) r_169_17 rfl ?_
    refine w_iret r_169_18 ?_
    exact kk
theorem m_isSmall {x : Int} (hx : -1 ≤ x ∧ x ≤ 255) (kt : smC x = true → K (iI 1) h) (kf : smC x = false → K (iI 0) h) : XW d 170 0 [.int (iI x)] [] h (KI K) := by
  refine w_iload0 r_170_0 ?_
  refine w_bipush (v := iI (97)) r_170_1 rfl ?_
  refine v_ic_lt r_170_3 (by first | exact zF_in _ _ _ | exact zA_in _ _ _ | omega) (by first | exact zF_in _ _ _ | exact zA_in _ _ _ | omega) (fun c3 => ?_) (fun c3 => ?_)
  · refine w_iconst (v := iI (0)) r_170_16 rfl ?_
    refine w_zret r_170_17 (by decide) ?_
    first | exact kt (by simp [smC]; omega) | exact kf (by simp [smC]; omega)
  · refine w_iload0 r_170_6 ?_
    refine w_bipush (v := iI (122)) r_170_7 rfl ?_
    refine v_ic_gt r_170_9 (by first | exact zF_in _ _ _ | exact zA_in _ _ _ | omega) (by first | exact zF_in _ _ _ | exact zA_in _ _ _ | omega) (fun c9 => ?_) (fun c9 => ?_)
    · refine w_iconst (v := iI (0)) r_170_16 rfl ?_
      refine w_zret r_170_17 (by decide) ?_
      first | exact kt (by simp [smC]; omega) | exact kf (by simp [smC]; omega)
    · refine w_iconst (v := iI (1)) r_170_12 rfl ?_
      refine w_goto r_170_13 ?_
      refine w_zret r_170_17 (by decide) ?_
      first | exact kt (by simp [smC]; omega) | exact kf (by simp [smC]; omega)
theorem m_isDigit {x : Int} (hx : -1 ≤ x ∧ x ≤ 255) (kt : dgC x = true → K (iI 1) h) (kf : dgC x = false → K (iI 0) h) : XW d 171 0 [.int (iI x)] [] h (KI K) := by
  refine w_iload0 r_171_0 ?_
  refine w_bipush (v := iI (48)) r_171_1 rfl ?_
  refine v_ic_lt r_171_3 (by first | exact zF_in _ _ _ | exact zA_in _ _ _ | omega) (by first | exact zF_in _ _ _ | exact zA_in _ _ _ | omega) (fun c3 => ?_) (fun c3 => ?_)
  · refine w_iconst (v := iI (0)) r_171_16 rfl ?_
    refine w_zret r_171_17 (by decide) ?_
    first | exact kt (by simp [dgC]; omega) | exact kf (by simp [dgC]; omega)
  · refine w_iload0 r_171_6 ?_
    refine w_bipush (v := iI (57)) r_171_7 rfl ?_
    refine v_ic_gt r_171_9 (by first | exact zF_in _ _ _ | exact zA_in _ _ _ | omega) (by first | exact zF_in _ _ _ | exact zA_in _ _ _ | omega) (fun c9 => ?_) (fun c9 => ?_)
    · refine w_iconst (v := iI (0)) r_171_16 rfl ?_
      refine w_zret r_171_17 (by decide) ?_
      first | exact kt (by simp [dgC]; omega) | exact kf (by simp [dgC]; omega)
    · refine w_iconst (v := iI (1)) r_171_12 rfl ?_
      refine w_goto r_171_13 ?_
      refine w_zret r_171_17 (by decide) ?_
      first | exact kt (by simp [dgC]; omega) | exact kf (by simp [dgC]; omega)
theorem m_next (hL : Lay h) (hY : TY h τ) (hk : 0 ≤ k ∧ k ≤ τ.2) (e5 : gI h 118 5 = iI k) (kk : ∀ h', Fr PTm h h' → TM h' τ k → KU h') : XW (d + 1) 172 0 [.ref 118, .null, .null, .null] [] h (KV KU) := by
  have o := hY.1.1
  have hL0 := hL
  have r := XT.a_at hY.1 hk.1 hk.2
  have ea := XT.e_at hY.1 hk.1 hk.2
  have ca := c_rng (k := τ.a k) hY.1 (by omega)
  have cases' : ∀ g : XH, Fr PTm h g → gI g 118 4 = iI (τ.a k) → gI g 118 8 = iI 0 → gI g 118 7 = iI 0 → XW (d + 1) 172 42 [.ref 118, .int (iI (τ.a k)), .int (iI (τ.c (τ.a k))), .null] [] g (KV KU) := by
    intro g fg g4 g8 g7
    have hL := fg.lay hL
    have Yg := hY.fr fg (by simp [pO, pA, pF]) (fun j => by simp [pO, pA, pF])
    by_cases nm : τ.c (τ.a k) = -1
    · have ee : τ.e k = τ.a k := by unfold XT.e; rw [if_pos nm]
      have ek : τ.k k = 0 := by unfold XT.k; rw [if_pos nm]
      have R := kk (sI (sI g 118 6 (iI 0)) 118 5 (iI (τ.a k))) ((fg.sI 118 6 _ (by simp [pO, pF])).sI 118 5 _ (by simp [pO, pF])) ⟨hk, gF (by omega) (by rw [sI_here, if_neg (by decide), sI_here, if_neg (by decide)]; exact g4), gF (by omega) (by rw [sI_here, if_pos rfl, ee]), gF (by rw [ek]; decide) (by rw [sI_here, if_neg (by decide), sI_here, if_pos rfl, ek]; rfl), fun q => by omega, fun q => by omega⟩
      refine w_iload2 r_172_42 ?_
      refine w_iconst (v := iI (-1)) r_172_43 rfl ?_
      refine v_ic_ne r_172_44 (by first | exact zF_in _ _ _ | exact zA_in _ _ _ | omega) (by first | exact zF_in _ _ _ | exact zA_in _ _ _ | omega) (fun q => absurd q (by omega)) (fun _ => ?_)
      refine w_aload0 r_172_47 ?_
      refine w_iconst (v := iI (0)) r_172_48 rfl ?_
      refine w_putI r_172_49 (Lk_118 hL) (Ln_118 hL) ?_
      refine w_aload0 r_172_52 ?_
      refine w_iload1 r_172_53 ?_
      refine w_putI r_172_54 (Lk_118 hL) (Ln_118 hL) ?_
      refine w_goto r_172_57 ?_
      refine w_vret r_172_265 ?_
      exact R
    · by_cases s : smC (τ.c (τ.a k)) = true
      · have ee : τ.e k = τ.ew (τ.a k) := by unfold XT.e; rw [if_neg nm, if_pos s]
        have ek : τ.k k = if τ.ew (τ.a k) - τ.a k ≤ 8 then 1 else 3 := by unfold XT.k; rw [if_neg nm, if_pos s, ee]
        have rr := run_at (f := smC) (k := τ.a k) hY.1 (by decide) (by omega) r.1.2
        have rw' : (τ.a k ≤ τ.ew (τ.a k) ∧ τ.ew (τ.a k) ≤ τ.2) ∧ smC (τ.c (τ.ew (τ.a k))) = false ∧ ∀ i, τ.a k ≤ i → i < τ.ew (τ.a k) → smC (τ.c i) = true := rr
        have key : ∀ n : Nat, n ≤ (τ.ew (τ.a k) - τ.a k).toNat → ∀ g1 : XH, Fr PTm h g1 → gI g1 118 4 = iI (τ.a k) → gI g1 118 8 = iI n → (∀ i : Int, 0 ≤ i → i < n → i < 8 → zA g1 120 i = τ.1 (τ.a k + i)) → XW (d + 1) 172 67 [.ref 118, .int (iI (τ.a k + n)), .int (iI (τ.c (τ.a k))), .null] [] g1 (KV KU) := by
          refine upto _ ?_ ?_
          · intro g1 f1 w4 w8 wl
            have hL := f1.lay hL0
            have Y1 := hY.fr f1 (by simp [pO, pA, pF]) (fun j => by simp [pO, pA, pF])
            have en : ((τ.ew (τ.a k) - τ.a k).toNat : Int) = τ.ew (τ.a k) - τ.a k := by omega
            rw [show τ.a k + ((τ.ew (τ.a k) - τ.a k).toNat : Int) = τ.ew (τ.a k) by omega]
            rw [en] at w8 wl
            have c2 := c_rng (k := τ.ew (τ.a k)) hY.1 (by omega)
            have v124 : gI (sI g1 118 5 (iI (τ.ew (τ.a k)))) 118 8 = iI (τ.ew (τ.a k) - τ.a k) := by rw [sI_here, if_neg (by decide)]; exact w8
            have R : ∀ x : Int, x = mK (τ.k k) → KU (sI (sI g1 118 5 (iI (τ.ew (τ.a k)))) 118 6 (iI x)) := fun x ex => kk _ ((f1.sI 118 5 _ (by simp [pO, pF])).sI 118 6 _ (by simp [pO, pF])) ⟨hk, gF (by omega) (by rw [sI_here, if_neg (by decide), sI_here, if_neg (by decide)]; exact w4), gF (by omega) (by rw [sI_here, if_neg (by decide), sI_here, if_pos rfl, ee]), gF (by rw [ek]; split <;> decide) (by rw [sI_here, if_pos rfl, ex]), fun q => by rw [ek] at q; split at q <;> omega, fun q => ⟨gF (by omega) (by rw [sI_here, if_neg (by decide), sI_here, if_neg (by decide), ee]; exact w8), fun i a b => by rw [zA_o _ (by decide), zA_o _ (by decide)]; exact wl i a (by omega) (by have := (XT.w_at hY.1 hk.1 hk.2 q).1; omega)⟩⟩
            by_cases q : τ.ew (τ.a k) - τ.a k ≤ 8
            · have R' := R 2 (by rw [ek, if_pos q]; rfl)
              refine w_aload0 r_172_67 ?_
              refine w_iload1 r_172_68 ?_
              refine k_169 r_172_69 (Lk_118 hL) (Nat.le_of_ble_eq_true rfl) ?_
              refine m_look hL Y1 (by omega) ?_
              refine k_170 r_172_72 (Nat.le_of_ble_eq_true rfl) ?_
              refine m_isSmall c2 (fun q => absurd rw'.2.1 (by rw [q]; decide)) (fun _ => ?_)
              refine v_if_eq r_172_75 (by first | exact zF_in _ _ _ | exact zA_in _ _ _ | omega) (fun _ => ?_) (fun q => absurd q (by omega))
              refine w_aload0 r_172_117 ?_
              refine w_iload1 r_172_118 ?_
              refine w_putI r_172_119 (Lk_118 hL) (Ln_118 hL) ?_
              refine w_aload0 r_172_122 ?_
              refine w_aload0 r_172_123 ?_
              refine v_getI r_172_124 (Lk_118 hL) v124 ?_
              refine w_bipush (v := iI (8)) r_172_127 rfl ?_
              refine v_ic_le r_172_129 (by first | exact zF_in _ _ _ | exact zA_in _ _ _ | omega) (by first | exact zF_in _ _ _ | exact zA_in _ _ _ | omega) (fun _ => ?_) (fun q => absurd q (by omega))
              refine w_iconst (v := iI (2)) r_172_136 rfl ?_
              refine w_putI r_172_137 (Lk_118 hL) (Ln_118 hL) ?_
              refine w_goto r_172_140 ?_
              refine w_vret r_172_265 ?_
              exact R'
            · have R' := R 1 (by rw [ek, if_neg q]; rfl)
              refine w_aload0 r_172_67 ?_
              refine w_iload1 r_172_68 ?_
              refine k_169 r_172_69 (Lk_118 hL) (Nat.le_of_ble_eq_true rfl) ?_
              refine m_look hL Y1 (by omega) ?_
              refine k_170 r_172_72 (Nat.le_of_ble_eq_true rfl) ?_
              refine m_isSmall c2 (fun q => absurd rw'.2.1 (by rw [q]; decide)) (fun _ => ?_)
              refine v_if_eq r_172_75 (by first | exact zF_in _ _ _ | exact zA_in _ _ _ | omega) (fun _ => ?_) (fun q => absurd q (by omega))
              refine w_aload0 r_172_117 ?_
              refine w_iload1 r_172_118 ?_
              refine w_putI r_172_119 (Lk_118 hL) (Ln_118 hL) ?_
              refine w_aload0 r_172_122 ?_
              refine w_aload0 r_172_123 ?_
              refine v_getI r_172_124 (Lk_118 hL) v124 ?_
              refine w_bipush (v := iI (8)) r_172_127 rfl ?_
              refine v_ic_le r_172_129 (by first | exact zF_in _ _ _ | exact zA_in _ _ _ | omega) (by first | exact zF_in _ _ _ | exact zA_in _ _ _ | omega) (fun q => absurd q (by omega)) (fun _ => ?_)
              refine w_iconst (v := iI (1)) r_172_132 rfl ?_
              refine w_goto r_172_133 ?_
              refine w_putI r_172_137 (Lk_118 hL) (Ln_118 hL) ?_
              refine w_goto r_172_140 ?_
              refine w_vret r_172_265 ?_
              exact R'
          · intro n hn ih g1 f1 w4 w8 wl
            have hL := f1.lay hL0
            have Y1 := hY.fr f1 (by simp [pO, pA, pF]) (fun j => by simp [pO, pA, pF])
            have c2 := c_rng (k := τ.a k + n) hY.1 (by omega)
            have ci := (XT.c_in hY.1 (k := τ.a k + n) (by omega)).1 (by omega)
            have sm := rw'.2.2 (τ.a k + n) (by omega) (by omega)
            rw [show τ.a k + (n : Int) = τ.a k + n from rfl]
            by_cases q : (n : Int) < 8
            · have v103 : gI (sI g1 120 (n : Int).toNat (iI (τ.c (τ.a k + n)))) 118 8 = iI n := by rw [sI_other _ (by decide)]; exact w8
              have J := ih (sI (sI g1 120 (n : Int).toNat (iI (τ.c (τ.a k + n)))) 118 8 (iI ((n : Int) + 1))) ((f1.sI 120 _ _ (by simp [pO, pA])).sI 118 8 _ (by simp [pO, pF])) (by rw [sI_here, if_neg (by decide), sI_other _ (by decide)]; exact w4) (by rw [sI_here, if_pos rfl]; rfl) (fun i a b c => by
                rw [zA_o _ (by decide), zA_s (by omega) a (by omega)]
                by_cases z : i = (n : Int)
                · rw [if_pos z, z]; exact ci.2.2
                · rw [if_neg z]; exact wl i a (by omega) c)
              rw [show τ.a k + ((n + 1 : Nat) : Int) = τ.a k + n + 1 by omega] at J
              refine w_aload0 r_172_67 ?_
              refine w_iload1 r_172_68 ?_
              refine k_169 r_172_69 (Lk_118 hL) (Nat.le_of_ble_eq_true rfl) ?_
              refine m_look hL Y1 (by omega) ?_
              refine k_170 r_172_72 (Nat.le_of_ble_eq_true rfl) ?_
              refine m_isSmall c2 (fun _ => ?_) (fun q => absurd sm (by rw [q]; decide))
              refine v_if_eq r_172_75 (by first | exact zF_in _ _ _ | exact zA_in _ _ _ | omega) (fun q => absurd q (by omega)) (fun _ => ?_)
              refine w_aload0 r_172_78 ?_
              refine v_getI r_172_79 (Lk_118 hL) w8 ?_
              refine w_bipush (v := iI (8)) r_172_82 rfl ?_
              refine v_ic_ge r_172_84 (by first | exact zF_in _ _ _ | exact zA_in _ _ _ | omega) (by first | exact zF_in _ _ _ | exact zA_in _ _ _ | omega) (fun q => absurd q (by omega)) (fun _ => ?_)
              refine w_aload0 r_172_87 ?_
              refine w_getA (x := 120) r_172_88 (Lk_118 hL) (Lr_118_11 hL) (by decide) ?_
              refine w_aload0 r_172_91 ?_
              refine v_getI r_172_92 (Lk_118 hL) w8 ?_
              refine w_aload0 r_172_95 ?_
              refine w_iload1 r_172_96 ?_
              refine k_169 r_172_97 (Lk_118 hL) (Nat.le_of_ble_eq_true rfl) ?_
              refine m_look hL Y1 (by omega) ?_
              refine v_iast r_172_100 (Lk_120 hL) (Ln_120 hL) (Lz_120 hL) (by decide) (by omega) ?_
              refine w_aload0 r_172_101 ?_
              refine w_dupA r_172_102 ?_
              refine v_getI r_172_103 (Lk_118 hL) v103 ?_
              refine w_iconst (v := iI (1)) r_172_106 rfl ?_
              refine v_iadd r_172_107 ?_
              refine w_putI r_172_108 (Lk_118 hL) (Ln_118 hL) ?_
              refine w_iinc1 r_172_111 rfl (iI_add _ _) ?_
              refine w_goto r_172_114 ?_
              exact J
            · have J := ih (sI g1 118 8 (iI ((n : Int) + 1))) (f1.sI 118 8 _ (by simp [pO, pF])) (by rw [sI_here, if_neg (by decide)]; exact w4) (by rw [sI_here, if_pos rfl]; rfl) (fun i a b c => by
                rw [zA_o _ (by decide)]; exact wl i a (by omega) c)
              rw [show τ.a k + ((n + 1 : Nat) : Int) = τ.a k + n + 1 by omega] at J
              refine w_aload0 r_172_67 ?_
              refine w_iload1 r_172_68 ?_
              refine k_169 r_172_69 (Lk_118 hL) (Nat.le_of_ble_eq_true rfl) ?_
              refine m_look hL Y1 (by omega) ?_
              refine k_170 r_172_72 (Nat.le_of_ble_eq_true rfl) ?_
              refine m_isSmall c2 (fun _ => ?_) (fun q => absurd sm (by rw [q]; decide))
              refine v_if_eq r_172_75 (by first | exact zF_in _ _ _ | exact zA_in _ _ _ | omega) (fun q => absurd q (by omega)) (fun _ => ?_)
              refine w_aload0 r_172_78 ?_
              refine v_getI r_172_79 (Lk_118 hL) w8 ?_
              refine w_bipush (v := iI (8)) r_172_82 rfl ?_
              refine v_ic_ge r_172_84 (by first | exact zF_in _ _ _ | exact zA_in _ _ _ | omega) (by first | exact zF_in _ _ _ | exact zA_in _ _ _ | omega) (fun _ => ?_) (fun q => absurd q (by omega))
              refine w_aload0 r_172_101 ?_
              refine w_dupA r_172_102 ?_
              refine v_getI r_172_103 (Lk_118 hL) w8 ?_
              refine w_iconst (v := iI (1)) r_172_106 rfl ?_
              refine v_iadd r_172_107 ?_
              refine w_putI r_172_108 (Lk_118 hL) (Ln_118 hL) ?_
              refine w_iinc1 r_172_111 rfl (iI_add _ _) ?_
              refine w_goto r_172_114 ?_
              exact J
        have J := key 0 (by omega) g fg g4 g8 (fun i a b c => by omega)
        rw [show τ.a k + ((0 : Nat) : Int) = τ.a k by omega] at J
        refine w_iload2 r_172_42 ?_
        refine w_iconst (v := iI (-1)) r_172_43 rfl ?_
        refine v_ic_ne r_172_44 (by first | exact zF_in _ _ _ | exact zA_in _ _ _ | omega) (by first | exact zF_in _ _ _ | exact zA_in _ _ _ | omega) (fun _ => ?_) (fun q => absurd q (by omega))
        refine w_iload2 r_172_60 ?_
        refine k_170 r_172_61 (Nat.le_of_ble_eq_true rfl) ?_
        refine m_isSmall ca (fun _ => ?_) (fun q => absurd s (by rw [q]; decide))
        refine v_if_eq r_172_64 (by first | exact zF_in _ _ _ | exact zA_in _ _ _ | omega) (fun q => absurd q (by omega)) (fun _ => ?_)
        exact J
      · have s0 : smC (τ.c (τ.a k)) = false := by simpa using s
        by_cases dd : dgC (τ.c (τ.a k)) = true
        · have ee : τ.e k = τ.ed (τ.a k) := by unfold XT.e; rw [if_neg nm, if_neg s, if_pos dd]
          have ek : τ.k k = if τ.ed (τ.a k) - τ.a k ≤ 4 then 2 else 3 := by unfold XT.k; rw [if_neg nm, if_neg s, if_pos dd, ee]
          have rr := run_at (f := dgC) (k := τ.a k) hY.1 (by decide) (by omega) r.1.2
          have rw' : (τ.a k ≤ τ.ed (τ.a k) ∧ τ.ed (τ.a k) ≤ τ.2) ∧ dgC (τ.c (τ.ed (τ.a k))) = false ∧ ∀ i, τ.a k ≤ i → i < τ.ed (τ.a k) → dgC (τ.c i) = true := rr
          have key : ∀ n : Nat, n ≤ (τ.ed (τ.a k) - τ.a k).toNat → ∀ g1 : XH, Fr PTm h g1 → gI g1 118 4 = iI (τ.a k) → (n ≤ 4 → gI g1 118 7 = iI (dec (fun i => τ.1 (τ.a k + i)) n)) → XW (d + 1) 172 152 [.ref 118, .int (iI (τ.a k + n)), .int (iI (τ.c (τ.a k))), .int (iI n)] [] g1 (KV KU) := by
            refine upto _ ?_ ?_
            · intro g1 f1 w4 w7
              have hL := f1.lay hL0
              have Y1 := hY.fr f1 (by simp [pO, pA, pF]) (fun j => by simp [pO, pA, pF])
              rw [show τ.a k + ((τ.ed (τ.a k) - τ.a k).toNat : Int) = τ.ed (τ.a k) by omega]
              have c2 := c_rng (k := τ.ed (τ.a k)) hY.1 (by omega)
              have R : ∀ x : Int, x = mK (τ.k k) → KU (sI (sI g1 118 5 (iI (τ.ed (τ.a k)))) 118 6 (iI x)) := fun x ex => kk _ ((f1.sI 118 5 _ (by simp [pO, pF])).sI 118 6 _ (by simp [pO, pF])) ⟨hk, gF (by omega) (by rw [sI_here, if_neg (by decide), sI_here, if_neg (by decide)]; exact w4), gF (by omega) (by rw [sI_here, if_neg (by decide), sI_here, if_pos rfl, ee]), gF (by rw [ek]; split <;> decide) (by rw [sI_here, if_pos rfl, ex]), fun q => gF (by have := (XT.v_at hY.1 hk.1 hk.2 q).2.2; omega) (by rw [sI_here, if_neg (by decide), sI_here, if_neg (by decide), w7 (by have := (XT.v_at hY.1 hk.1 hk.2 q).1; omega)]; unfold XT.v; rw [ee]), fun q => by rw [ek] at q; split at q <;> omega⟩
              by_cases q : τ.ed (τ.a k) - τ.a k ≤ 4
              · have R' := R 3 (by rw [ek, if_pos q]; rfl)
                refine w_aload0 r_172_152 ?_
                refine w_iload1 r_172_153 ?_
                refine k_169 r_172_154 (Lk_118 hL) (Nat.le_of_ble_eq_true rfl) ?_
                refine m_look hL Y1 (by omega) ?_
                refine k_171 r_172_157 (Nat.le_of_ble_eq_true rfl) ?_
                refine m_isDigit c2 (fun q => absurd rw'.2.1 (by rw [q]; decide)) (fun _ => ?_)
                refine v_if_eq r_172_160 (by first | exact zF_in _ _ _ | exact zA_in _ _ _ | omega) (fun _ => ?_) (fun q => absurd q (by omega))
                refine w_aload0 r_172_197 ?_
                refine w_iload1 r_172_198 ?_
                refine w_putI r_172_199 (Lk_118 hL) (Ln_118 hL) ?_
                refine w_aload0 r_172_202 ?_
                refine w_iload3 r_172_203 ?_
                refine w_iconst (v := iI (4)) r_172_204 rfl ?_
                refine v_ic_le r_172_205 (by first | exact zF_in _ _ _ | exact zA_in _ _ _ | omega) (by first | exact zF_in _ _ _ | exact zA_in _ _ _ | omega) (fun _ => ?_) (fun q => absurd q (by omega))
                refine w_iconst (v := iI (3)) r_172_212 rfl ?_
                refine w_putI r_172_213 (Lk_118 hL) (Ln_118 hL) ?_
                refine w_goto r_172_216 ?_
                refine w_vret r_172_265 ?_
                exact R'
              · have R' := R 1 (by rw [ek, if_neg q]; rfl)
                refine w_aload0 r_172_152 ?_
                refine w_iload1 r_172_153 ?_
                refine k_169 r_172_154 (Lk_118 hL) (Nat.le_of_ble_eq_true rfl) ?_
                refine m_look hL Y1 (by omega) ?_
                refine k_171 r_172_157 (Nat.le_of_ble_eq_true rfl) ?_
                refine m_isDigit c2 (fun q => absurd rw'.2.1 (by rw [q]; decide)) (fun _ => ?_)
                refine v_if_eq r_172_160 (by first | exact zF_in _ _ _ | exact zA_in _ _ _ | omega) (fun _ => ?_) (fun q => absurd q (by omega))
                refine w_aload0 r_172_197 ?_
                refine w_iload1 r_172_198 ?_
                refine w_putI r_172_199 (Lk_118 hL) (Ln_118 hL) ?_
                refine w_aload0 r_172_202 ?_
                refine w_iload3 r_172_203 ?_
                refine w_iconst (v := iI (4)) r_172_204 rfl ?_
                refine v_ic_le r_172_205 (by first | exact zF_in _ _ _ | exact zA_in _ _ _ | omega) (by first | exact zF_in _ _ _ | exact zA_in _ _ _ | omega) (fun q => absurd q (by omega)) (fun _ => ?_)
                refine w_iconst (v := iI (1)) r_172_208 rfl ?_
                refine w_goto r_172_209 ?_
                refine w_putI r_172_213 (Lk_118 hL) (Ln_118 hL) ?_
                refine w_goto r_172_216 ?_
                refine w_vret r_172_265 ?_
                exact R'
            · intro n hn ih g1 f1 w4 w7
              have hL := f1.lay hL0
              have Y1 := hY.fr f1 (by simp [pO, pA, pF]) (fun j => by simp [pO, pA, pF])
              have c2 := c_rng (k := τ.a k + n) hY.1 (by omega)
              have ci := (XT.c_in hY.1 (k := τ.a k + n) (by omega)).1 (by omega)
              have sm := rw'.2.2 (τ.a k + n) (by omega) (by omega)
              by_cases q : (n : Int) < 4
              · have w7' := w7 (by omega)
                have J := ih (sI g1 118 7 (iI (10 * dec (fun i => τ.1 (τ.a k + i)) n + τ.c (τ.a k + n) - 48))) (f1.sI 118 7 _ (by simp [pO, pF])) (by rw [sI_here, if_neg (by decide)]; exact w4) (fun _ => by rw [sI_here, if_pos rfl, dec_next, ci.2.2]; congr 1; omega)
                rw [show τ.a k + ((n + 1 : Nat) : Int) = τ.a k + n + 1 by omega, show ((n + 1 : Nat) : Int) = n + 1 by omega] at J
                refine w_aload0 r_172_152 ?_
                refine w_iload1 r_172_153 ?_
                refine k_169 r_172_154 (Lk_118 hL) (Nat.le_of_ble_eq_true rfl) ?_
                refine m_look hL Y1 (by omega) ?_
                refine k_171 r_172_157 (Nat.le_of_ble_eq_true rfl) ?_
                refine m_isDigit c2 (fun _ => ?_) (fun q => absurd sm (by rw [q]; decide))
                refine v_if_eq r_172_160 (by first | exact zF_in _ _ _ | exact zA_in _ _ _ | omega) (fun q => absurd q (by omega)) (fun _ => ?_)
                refine w_iload3 r_172_163 ?_
                refine w_iconst (v := iI (4)) r_172_164 rfl ?_
                refine v_ic_ge r_172_165 (by first | exact zF_in _ _ _ | exact zA_in _ _ _ | omega) (by first | exact zF_in _ _ _ | exact zA_in _ _ _ | omega) (fun q => absurd q (by omega)) (fun _ => ?_)
                refine w_aload0 r_172_168 ?_
                refine w_bipush (v := iI (10)) r_172_169 rfl ?_
                refine w_aload0 r_172_171 ?_
                refine v_getI r_172_172 (Lk_118 hL) (w7') ?_
                refine v_imul r_172_175 ?_
                refine w_aload0 r_172_176 ?_
                refine w_iload1 r_172_177 ?_
                refine k_169 r_172_178 (Lk_118 hL) (Nat.le_of_ble_eq_true rfl) ?_
                refine m_look hL Y1 (by omega) ?_
                refine v_iadd r_172_181 ?_
                refine w_bipush (v := iI (48)) r_172_182 rfl ?_
                refine v_isub r_172_184 ?_
                refine w_putI r_172_185 (Lk_118 hL) (Ln_118 hL) ?_
                refine w_iinc3 r_172_188 rfl (iI_add _ _) ?_
                refine w_iinc1 r_172_191 rfl (iI_add _ _) ?_
                refine w_goto r_172_194 ?_
                exact J
              · have J := ih g1 f1 w4 (fun q2 => by omega)
                rw [show τ.a k + ((n + 1 : Nat) : Int) = τ.a k + n + 1 by omega, show ((n + 1 : Nat) : Int) = n + 1 by omega] at J
                refine w_aload0 r_172_152 ?_
                refine w_iload1 r_172_153 ?_
                refine k_169 r_172_154 (Lk_118 hL) (Nat.le_of_ble_eq_true rfl) ?_
                refine m_look hL Y1 (by omega) ?_
                refine k_171 r_172_157 (Nat.le_of_ble_eq_true rfl) ?_
                refine m_isDigit c2 (fun _ => ?_) (fun q => absurd sm (by rw [q]; decide))
                refine v_if_eq r_172_160 (by first | exact zF_in _ _ _ | exact zA_in _ _ _ | omega) (fun q => absurd q (by omega)) (fun _ => ?_)
                refine w_iload3 r_172_163 ?_
                refine w_iconst (v := iI (4)) r_172_164 rfl ?_
                refine v_ic_ge r_172_165 (by first | exact zF_in _ _ _ | exact zA_in _ _ _ | omega) (by first | exact zF_in _ _ _ | exact zA_in _ _ _ | omega) (fun _ => ?_) (fun q => absurd q (by omega))
                refine w_iinc3 r_172_188 rfl (iI_add _ _) ?_
                refine w_iinc1 r_172_191 rfl (iI_add _ _) ?_
                refine w_goto r_172_194 ?_
                exact J
          have J := key 0 (by omega) g fg g4 (fun _ => g7)
          rw [show τ.a k + ((0 : Nat) : Int) = τ.a k by omega] at J
          refine w_iload2 r_172_42 ?_
          refine w_iconst (v := iI (-1)) r_172_43 rfl ?_
          refine v_ic_ne r_172_44 (by first | exact zF_in _ _ _ | exact zA_in _ _ _ | omega) (by first | exact zF_in _ _ _ | exact zA_in _ _ _ | omega) (fun _ => ?_) (fun q => absurd q (by omega))
          refine w_iload2 r_172_60 ?_
          refine k_170 r_172_61 (Nat.le_of_ble_eq_true rfl) ?_
          refine m_isSmall ca (fun q => absurd s0 (by rw [q]; decide)) (fun _ => ?_)
          refine v_if_eq r_172_64 (by first | exact zF_in _ _ _ | exact zA_in _ _ _ | omega) (fun _ => ?_) (fun q => absurd q (by omega))
          refine w_iload2 r_172_143 ?_
          refine k_171 r_172_144 (Nat.le_of_ble_eq_true rfl) ?_
          refine m_isDigit ca (fun _ => ?_) (fun q => absurd dd (by rw [q]; decide))
          refine v_if_eq r_172_147 (by first | exact zF_in _ _ _ | exact zA_in _ _ _ | omega) (fun q => absurd q (by omega)) (fun _ => ?_)
          refine w_iconst (v := iI (0)) r_172_150 rfl ?_
          refine w_istore3 r_172_151 rfl ?_
          exact J
        · have d0 : dgC (τ.c (τ.a k)) = false := by simpa using dd
          have ee : τ.e k = τ.a k + 1 := by unfold XT.e; rw [if_neg nm, if_neg s, if_neg dd]
          have ek : τ.k k = if sgC (τ.c (τ.a k)) = true then τ.c (τ.a k) else 3 := by unfold XT.k; rw [if_neg nm, if_neg s, if_neg dd]
          have s12 : (¬ τ.k k = 2 ∧ ¬ τ.k k = 1) ∧ (0 ≤ mK (τ.k k) ∧ mK (τ.k k) ≤ 59) := by
            rw [ek]
            split
            · rename_i q; simp [sgC] at q; unfold mK; rw [if_neg (by omega), if_neg (by omega), if_neg (by omega)]; omega
            · decide
          have R : ∀ x : Int, x = mK (τ.k k) → KU (sI (sI g 118 5 (iI (τ.a k + 1))) 118 6 (iI x)) := fun x ex => kk _ ((fg.sI 118 5 _ (by simp [pO, pF])).sI 118 6 _ (by simp [pO, pF])) ⟨hk, gF (by omega) (by rw [sI_here, if_neg (by decide), sI_here, if_neg (by decide)]; exact g4), gF (by omega) (by rw [sI_here, if_neg (by decide), sI_here, if_pos rfl, ee]), gF (by omega) (by rw [sI_here, if_pos rfl, ex]), fun q => absurd q s12.1.1, fun q => absurd q s12.1.2⟩
          have Rs : sgC (τ.c (τ.a k)) = true → KU (sI (sI g 118 5 (iI (τ.a k + 1))) 118 6 (iI (τ.c (τ.a k)))) := fun q => R _ (by rw [ek, if_pos q]; simp [sgC] at q; unfold mK; rw [if_neg (by omega), if_neg (by omega), if_neg (by omega)])
          have Rn : sgC (τ.c (τ.a k)) = false → KU (sI (sI g 118 5 (iI (τ.a k + 1))) 118 6 (iI 1)) := fun q => R _ (by rw [ek, if_neg (by rw [q]; decide)]; rfl)
          refine w_iload2 r_172_42 ?_
          refine w_iconst (v := iI (-1)) r_172_43 rfl ?_
          refine v_ic_ne r_172_44 (by first | exact zF_in _ _ _ | exact zA_in _ _ _ | omega) (by first | exact zF_in _ _ _ | exact zA_in _ _ _ | omega) (fun _ => ?_) (fun q => absurd q (by omega))
          refine w_iload2 r_172_60 ?_
          refine k_170 r_172_61 (Nat.le_of_ble_eq_true rfl) ?_
          refine m_isSmall ca (fun q => absurd s0 (by rw [q]; decide)) (fun _ => ?_)
          refine v_if_eq r_172_64 (by first | exact zF_in _ _ _ | exact zA_in _ _ _ | omega) (fun _ => ?_) (fun q => absurd q (by omega))
          refine w_iload2 r_172_143 ?_
          refine k_171 r_172_144 (Nat.le_of_ble_eq_true rfl) ?_
          refine m_isDigit ca (fun q => absurd d0 (by rw [q]; decide)) (fun _ => ?_)
          refine v_if_eq r_172_147 (by first | exact zF_in _ _ _ | exact zA_in _ _ _ | omega) (fun _ => ?_) (fun q => absurd q (by omega))
          refine w_aload0 r_172_219 ?_
          refine w_iload1 r_172_220 ?_
          refine w_iconst (v := iI (1)) r_172_221 rfl ?_
          refine v_iadd r_172_222 ?_
          refine w_putI r_172_223 (Lk_118 hL) (Ln_118 hL) ?_
          refine w_aload0 r_172_226 ?_
          refine w_iload2 r_172_227 ?_
          refine w_bipush (v := iI (59)) r_172_228 rfl ?_
          refine v_ic_eq r_172_230 (by first | exact zF_in _ _ _ | exact zA_in _ _ _ | omega) (by first | exact zF_in _ _ _ | exact zA_in _ _ _ | omega) (fun c230 => ?_) (fun c230 => ?_)
          · refine w_iload2 r_172_257 ?_
            refine w_goto r_172_258 ?_
            refine w_putI r_172_262 (Lk_118 hL) (Ln_118 hL) ?_
            refine w_vret r_172_265 ?_
            first | exact Rs (by simp [sgC]; omega) | exact Rn (by simp [sgC]; omega)
          · refine w_iload2 r_172_233 ?_
            refine w_bipush (v := iI (44)) r_172_234 rfl ?_
            refine v_ic_eq r_172_236 (by first | exact zF_in _ _ _ | exact zA_in _ _ _ | omega) (by first | exact zF_in _ _ _ | exact zA_in _ _ _ | omega) (fun c236 => ?_) (fun c236 => ?_)
            · refine w_iload2 r_172_257 ?_
              refine w_goto r_172_258 ?_
              refine w_putI r_172_262 (Lk_118 hL) (Ln_118 hL) ?_
              refine w_vret r_172_265 ?_
              first | exact Rs (by simp [sgC]; omega) | exact Rn (by simp [sgC]; omega)
            · refine w_iload2 r_172_239 ?_
              refine w_bipush (v := iI (45)) r_172_240 rfl ?_
              refine v_ic_eq r_172_242 (by first | exact zF_in _ _ _ | exact zA_in _ _ _ | omega) (by first | exact zF_in _ _ _ | exact zA_in _ _ _ | omega) (fun c242 => ?_) (fun c242 => ?_)
              · refine w_iload2 r_172_257 ?_
                refine w_goto r_172_258 ?_
                refine w_putI r_172_262 (Lk_118 hL) (Ln_118 hL) ?_
                refine w_vret r_172_265 ?_
                first | exact Rs (by simp [sgC]; omega) | exact Rn (by simp [sgC]; omega)
              · refine w_iload2 r_172_245 ?_
                refine w_bipush (v := iI (40)) r_172_246 rfl ?_
                refine v_ic_eq r_172_248 (by first | exact zF_in _ _ _ | exact zA_in _ _ _ | omega) (by first | exact zF_in _ _ _ | exact zA_in _ _ _ | omega) (fun c248 => ?_) (fun c248 => ?_)
                · refine w_iload2 r_172_257 ?_
                  refine w_goto r_172_258 ?_
                  refine w_putI r_172_262 (Lk_118 hL) (Ln_118 hL) ?_
                  refine w_vret r_172_265 ?_
                  first | exact Rs (by simp [sgC]; omega) | exact Rn (by simp [sgC]; omega)
                · refine w_iload2 r_172_251 ?_
                  refine w_bipush (v := iI (41)) r_172_252 rfl ?_
                  refine v_ic_ne r_172_254 (by first | exact zF_in _ _ _ | exact zA_in _ _ _ | omega) (by first | exact zF_in _ _ _ | exact zA_in _ _ _ | omega) (fun c254 => ?_) (fun c254 => ?_)
                  · refine w_iconst (v := iI (1)) r_172_261 rfl ?_
                    refine w_putI r_172_262 (Lk_118 hL) (Ln_118 hL) ?_
                    refine w_vret r_172_265 ?_
                    first | exact Rs (by simp [sgC]; omega) | exact Rn (by simp [sgC]; omega)
                  · refine w_iload2 r_172_257 ?_
                    refine w_goto r_172_258 ?_
                    refine w_putI r_172_262 (Lk_118 hL) (Ln_118 hL) ?_
                    refine w_vret r_172_265 ?_
                    first | exact Rs (by simp [sgC]; omega) | exact Rn (by simp [sgC]; omega)
  have skip : ∀ n : Nat, n ≤ (τ.a k - k).toNat → XW (d + 1) 172 5 [.ref 118, .int (iI (k + n)), .null, .null] [] h (KV KU) := by
    refine upto _ ?_ ?_
    · rw [show k + ((τ.a k - k).toNat : Int) = τ.a k by omega]
      have n32 := r.2.1
      have Y1 : TY (sI h 118 4 (iI (τ.a k))) τ := hY.fr ((Fr.refl (pF [(118, 4)]) h).sI 118 4 _ (by simp [pF])) (by simp [pF]) (fun j => by simp [pF])
      have J := cases' (sI (sI (sI h 118 4 (iI (τ.a k))) 118 8 (iI 0)) 118 7 (iI 0)) ((((Fr.refl _ _).sI 118 4 _ (by simp [pO, pF])).sI 118 8 _ (by simp [pO, pF])).sI 118 7 _ (by simp [pO, pF])) (by rw [sI_here, if_neg (by decide), sI_here, if_neg (by decide), sI_here, if_pos rfl]) (by rw [sI_here, if_neg (by decide), sI_here, if_pos rfl]) (by rw [sI_here, if_pos rfl])
      refine w_aload0 r_172_5 ?_
      refine w_iload1 r_172_6 ?_
      refine k_169 r_172_7 (Lk_118 hL) (Nat.le_of_ble_eq_true rfl) ?_
      refine m_look hL hY (by omega) ?_
      refine w_bipush (v := iI (32)) r_172_10 rfl ?_
      refine v_ic_ne r_172_12 (by first | exact zF_in _ _ _ | exact zA_in _ _ _ | omega) (by first | exact zF_in _ _ _ | exact zA_in _ _ _ | omega) (fun _ => ?_) (fun q => absurd q (by omega))
      refine w_aload0 r_172_21 ?_
      refine w_iload1 r_172_22 ?_
      refine w_putI r_172_23 (Lk_118 hL) (Ln_118 hL) ?_
      refine w_aload0 r_172_26 ?_
      refine w_iload1 r_172_27 ?_
      refine k_169 r_172_28 (Lk_118 hL) (Nat.le_of_ble_eq_true rfl) ?_
      refine m_look hL Y1 (by omega) ?_
      refine w_istore2 r_172_31 rfl ?_
      refine w_aload0 r_172_32 ?_
      refine w_iconst (v := iI (0)) r_172_33 rfl ?_
      refine w_putI r_172_34 (Lk_118 hL) (Ln_118 hL) ?_
      refine w_aload0 r_172_37 ?_
      refine w_iconst (v := iI (0)) r_172_38 rfl ?_
      refine w_putI r_172_39 (Lk_118 hL) (Ln_118 hL) ?_
      exact J
    · intro n hn ih
      have sp := r.2.2 (k + n) (by omega) (by omega)
      rw [show k + ((n + 1 : Nat) : Int) = k + n + 1 by omega] at ih
      refine w_aload0 r_172_5 ?_
      refine w_iload1 r_172_6 ?_
      refine k_169 r_172_7 (Lk_118 hL) (Nat.le_of_ble_eq_true rfl) ?_
      refine m_look hL hY (by omega) ?_
      rw [sp]
      refine w_bipush (v := iI (32)) r_172_10 rfl ?_
      refine v_ic_ne r_172_12 (by first | exact zF_in _ _ _ | exact zA_in _ _ _ | omega) (by first | exact zF_in _ _ _ | exact zA_in _ _ _ | omega) (fun q => absurd q (by omega)) (fun _ => ?_)
      refine w_iinc1 r_172_15 rfl (iI_add _ _) ?_
      refine w_goto r_172_18 ?_
      exact ih
  have J := skip 0 (by omega)
  rw [show k + ((0 : Nat) : Int) = k by omega] at J
  refine w_aload0 r_172_0 ?_
  refine v_getI r_172_1 (Lk_118 hL) e5 ?_
  refine w_istore1 r_172_4 rfl ?_
  exact J
end MT3
