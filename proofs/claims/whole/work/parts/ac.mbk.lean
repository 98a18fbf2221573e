/-! the Model reads a book: pairs -/
/-- what reading a book may change in the Model -/
def pM : Nat → Nat → Bool := fun a j => (a == 118 && ((decide (4 ≤ j) && decide (j ≤ 10)) || (j == 13 || (decide (22 ≤ j) && decide (j ≤ 29))))) || (decide (120 ≤ a) && decide (a ≤ 131))
/-- likewise, but for the numbers of the book -/
def pT : Nat → Nat → Bool := fun a j => (a == 118 && ((decide (4 ≤ j) && decide (j ≤ 10)) || j == 13)) || (decide (120 ≤ a) && decide (a ≤ 131))
/-- a fault was told -/
def MF (h : XH) (e : Int × Int) : Prop := gI h 118 13 = iI 1 ∧ zF h 118 9 = e.1 ∧ zF h 118 10 = e.2
section MB1
variable {d : Nat} {h : XH} {K : Int32 → XH → Prop} {KU : XH → Prop} {τ : XT} {k : Int} {w : List Int} {a : Nat} {B : XB}
theorem pM_tm {h' : XH} (f : Fr PTm h h') : Fr pM h h' := f.mono (fun a j q => by simp [pM] at q; simp [pO, pA, pF]; omega)
theorem pM_wrg (h : XH) (f p : Int) : Fr pM h (wrg h f p) := (wrg_fr h f p).mono (fun a j q => by simp [pM] at q; simp [pF]; omega)
theorem pT_pM {h' : XH} (f : Fr pT h h') : Fr pM h h' := f.mono (fun a j q => by simp [pM] at q; simp [pT]; omega)
theorem pT_tm {h' : XH} (f : Fr PTm h h') : Fr pT h h' := f.mono (fun a j q => by simp [pT] at q; simp [pO, pA, pF]; omega)
theorem pT_wrg (h : XH) (f p : Int) : Fr pT h (wrg h f p) := (wrg_fr h f p).mono (fun a j q => by simp [pT] at q; simp [pF]; omega)
theorem pT_row {g : XH} {x j : Nat} {v : Int32} (hx : 120 ≤ x ∧ x ≤ 131) (f : Fr pT h g) : Fr pT h (sI g x j v) := f.sI x j v (by simp [pT]; omega)
theorem pT_22 {g : XH} {j : Nat} (hj : 22 ≤ j) (f : Fr pT h g) : gI g 118 j = gI h 118 j := (f.2 118 j (by simp [pT]; omega)).1
theorem pM_row {g : XH} {x j : Nat} {v : Int32} (hx : 120 ≤ x ∧ x ≤ 131) (f : Fr pM h g) : Fr pM h (sI g x j v) := f.sI x j v (by simp [pM]; omega)
theorem pM_fld {g : XH} {j : Nat} {v : Int32} (hx : (4 ≤ j ∧ j ≤ 10) ∨ j = 13 ∨ (22 ≤ j ∧ j ≤ 29)) (f : Fr pM h g) : Fr pM h (sI g 118 j v) := f.sI 118 j v (by simp [pM]; omega)
theorem pM_TY {h' : XH} (f : Fr pM h h') (hY : TY h τ) : TY h' τ := hY.fr f (by simp [pM]) (fun j => by simp [pM])
theorem pM_StC {h' : XH} (f : Fr pM h h') (hS : StC h) : StC h' := hS.fr f (fun a j q => by simp [pM]; omega)
theorem tm_TY {h' : XH} (f : Fr PTm h h') (hY : TY h τ) : TY h' τ := pM_TY (pM_tm f) hY
theorem tm_StC {h' : XH} (f : Fr PTm h h') (hS : StC h) : StC h' := pM_StC (pM_tm f) hS
theorem tm_13 {h' : XH} (f : Fr PTm h h') {x : Int} (e : gI h 118 13 = iI x) : gI h' 118 13 = iI x := by rw [(f.2 118 13 (by simp [pO, pA, pF])).1]; exact e
theorem wrg_MF {f p : Int} (hf : R32 f) (hp : R32 p) : MF (wrg h f p) (f, p) := ⟨wrg_13 h f p, by unfold wrg; rw [zF_o (by decide)]; exact zF_s hf, by unfold wrg; exact zF_s hp⟩
theorem MF.row {e : Int × Int} {x j : Nat} {v : Int32} (hx : ¬ x = 118) (m : MF h e) : MF (sI h x j v) e := ⟨by rw [sI_other _ (by omega)]; exact m.1, by rw [zF_o (by omega)]; exact m.2.1, by rw [zF_o (by omega)]; exact m.2.2⟩
theorem TM.pos (hY : TY h τ) (hT : TM h τ k) : (0 ≤ τ.a k ∧ τ.a k ≤ 500) ∧ (0 ≤ τ.e k ∧ τ.e k ≤ τ.2) ∧ (0 ≤ τ.k k ∧ τ.k k ≤ 59) := by
  have o := hY.1.1
  have hk := hT.1
  have e := XT.e_at hY.1 hT.1.1 hT.1.2
  have a := XT.a_at hY.1 hT.1.1 hT.1.2
  omega
theorem TM.row {g : XH} {x j : Nat} {v : Int32} (hx : ¬ x = 118 ∧ ¬ x = 120) (T : TM g τ k) : TM (sI g x j v) τ k := T.fr (((Fr.refl (pA [x]) g).sI x j v (by simp [pA]))) (fun i _ => by simp [pA]; omega) (fun i => by simp [pA]; omega)
theorem TM.fld {g : XH} {j : Nat} {v : Int32} (hj : j < 4 ∨ 8 < j) (T : TM g τ k) : TM (sI g 118 j v) τ k := T.fr (((Fr.refl (pF [(118, j)]) g).sI 118 j v (by simp [pF]))) (fun i _ => by simp [pF]; omega) (fun i => by simp [pF])
/-- a row of pairs in the Model -/
def MPr (h h' : XH) (ra : Nat) (g n : Int) (ks vs : Int → Int) : Prop := (∀ i, 0 ≤ i → i < n → zA h' ra (8 * g + 2 * i) = ks i ∧ zA h' ra (8 * g + 2 * i + 1) = vs i) ∧ ∀ i, 0 ≤ i → i < 8 * g → zA h' ra i = zA h ra i
theorem MPr.fr {P : Nat → Nat → Bool} {h1 h2 : XH} {ra : Nat} {g n : Int} {ks vs : Int → Int} (f : Fr P h1 h2) (p : ∀ j, P ra j = false) (C : MPr h h1 ra g n ks vs) : MPr h h2 ra g n ks vs := by
  refine ⟨fun i a b => ?_, fun i a b => ?_⟩
  · rw [f.A (p _), f.A (p _)]; exact C.1 i a b
  · rw [f.A (p _)]; exact C.2 i a b
abbrev PMr (ra : Nat) : Nat → Nat → Bool := pO PTm (pA [ra])
theorem PMr_pT {ra : Nat} {g : XH} (hr : ra = 127 ∨ ra = 128) (f : Fr (PMr ra) h g) : Fr pT h g := f.mono (fun a j q => by
  simp [pT] at q
  simp only [pO, Bool.or_eq_false_iff]
  refine ⟨⟨by simp [pA]; omega, by simp [pF]; omega⟩, by simp [pA]; omega⟩)
theorem m_pairs1 {ra : Nat} {ri : Bool} (hL : Lay h) (h13 : gI h 118 13 = iI 1) (kk : K (iI 0) h) : XW (d + 3) 186 0 [.ref 118, .ref ra, .int (iI (b2i ri)), .null, .null, .null, .null, .null, .null, .null] [] h (KI K) := by
  refine w_iconst (v := iI (0)) r_186_0 rfl ?_
  refine w_istore3 r_186_1 rfl ?_
  refine w_aload0 r_186_2 ?_
  refine v_getI r_186_3 (Lk_118 hL) h13 ?_
  refine v_if_ne r_186_6 (by first | exact zF_in _ _ _ | exact zA_in _ _ _ | omega) (fun _ => ?_) (fun q => absurd q (by omega))
  refine w_iconst (v := iI (0)) r_186_13 rfl ?_
  refine w_istore4 r_186_14 rfl ?_
  refine w_iload4 r_186_16 ?_
  refine v_if_eq r_186_18 (by first | exact zF_in _ _ _ | exact zA_in _ _ _ | omega) (fun _ => ?_) (fun q => absurd q (by omega))
  refine w_iload3 r_186_223 ?_
  refine w_iret r_186_224 ?_
  exact kk
theorem m_pairs0 {ra : Nat} {g : Int} {ri : Bool} (hL : Lay h) (hY : TY h τ) (hT : TM h τ k) (h13 : gI h 118 13 = iI 0) (hr : ra = 127 ∨ ra = 128) (hg : 0 ≤ g ∧ g < 8) (e22 : gI h 118 22 = iI g)
    (kt : ∀ r, gPairs τ (if ri = true then 999 else 90) (if ri = true then 300 else 150) ri 5 0 (-1) 0 k z0 z0 = .inr r → ∀ h', Fr (PMr ra) h h' → TM h' τ r.2.2.2 → MPr h h' ra g r.1 r.2.1 r.2.2.1 → K (iI r.1) h')
    (kf : ∀ e, gPairs τ (if ri = true then 999 else 90) (if ri = true then 300 else 150) ri 5 0 (-1) 0 k z0 z0 = .inl e → ∀ h' x, Fr pT h h' → MF h' e → K (iI x) h') : XW (d + 3) 186 0 [.ref 118, .ref ra, .int (iI (b2i ri)), .null, .null, .null, .null, .null, .null, .null] [] h (KI K) := by
  have hL0 := hL
  have rk : ∀ {g : XH}, Lay g → gK g ra = 1 ∧ gZ g ra = 64 ∧ ra < gN g := fun {g} hg => by
    rcases hr with rfl | rfl
    · exact ⟨Lk_127 hg, Lz_127 hg, hg.n (by decide)⟩
    · exact ⟨Lk_128 hg, Lz_128 hg, hg.n (by decide)⟩
  have bi := b2i_in ri
  generalize hmk : (if ri = true then (999 : Int) else 90) = mk at kt kf
  generalize hmv : (if ri = true then (300 : Int) else 150) = mv at kt kf
  have mk9 : 0 ≤ mk ∧ mk ≤ 999 := by rw [← hmk]; split <;> omega
  have mv9 : 0 ≤ mv ∧ mv ≤ 300 := by rw [← hmv]; split <;> omega
  have key : ∀ (n : Nat) (i lk lv k : Int) (ks vs : Int → Int) (X5 X6 X7 X8 X9 : Value) (h1 : XH), (n : Int) = 5 - i → (0 ≤ i ∧ i ≤ 4) → (-1 ≤ lk ∧ lk ≤ 9999) → (0 ≤ lv ∧ lv ≤ 9999) → (0 < i → lk = ks (i - 1) ∧ lv = vs (i - 1)) → (i = 0 → lk = -1 ∧ lv = 0) → Fr (PMr ra) h h1 → TM h1 τ k → MPr h h1 ra g i ks vs →
      (∀ r, gPairs τ mk mv ri n i lk lv k ks vs = .inr r → ∀ h', Fr (PMr ra) h h' → TM h' τ r.2.2.2 → MPr h h' ra g r.1 r.2.1 r.2.2.1 → K (iI r.1) h') →
      (∀ e, gPairs τ mk mv ri n i lk lv k ks vs = .inl e → ∀ h' x, Fr pT h h' → MF h' e → K (iI x) h') →
      XW (d + 3) 186 16 [.ref 118, .ref ra, .int (iI (b2i ri)), .int (iI i), .int (iI 1), X5, X6, X7, X8, X9] [] h1 (KI K) := by
    intro n
    induction n with
    | zero => intro i lk lv k ks vs X5 X6 X7 X8 X9 h1 hn hi; omega
    | succ n ih =>
      intro i lk lv k ks vs X5 X6 X7 X8 X9 h1 hn hi hlk hlv hs h0 f1 T1 C1 kt kf
      have hL := f1.lay hL0
      have F1 := PMr_pT hr f1
      have Y1 := pM_TY (pT_pM F1) hY
      have p := TM.pos Y1 T1
      have n13 : gI h1 118 13 = iI 0 := by rw [(f1.2 118 13 (by simp [pO, pA, pF]; omega)).1]; exact h13
      have n22 : gI h1 118 22 = iI g := by rw [(f1.2 118 22 (by simp [pO, pA, pF]; omega)).1]; exact e22
      unfold gPairs at kt kf
      -- behind the key, failed: nothing more is done
      have dead : ∀ (h2 : XH) (e : Int × Int) (V5 V7 : Value) (v8 lw : Int), Fr pT h h2 → MF h2 e → (∀ x, K (iI x) h2) → XW (d + 3) 186 116 [.ref 118, .ref ra, .int (iI (b2i ri)), .int (iI i), .int (iI 1), V5, .int (iI lw), V7, .int (iI v8), X9] [] h2 (KI K) := by
        intro h2 e V5 V7 v8 lw f2 m2 R
        have hL := f2.lay hL0
        have R := R i
        by_cases r : ri = true
        · have b1 : b2i ri = 1 := by rw [r]; rfl
          by_cases i0 : 0 < i
          · refine w_aload0 r_186_116 ?_
            refine w_iload2 r_186_117 ?_
            refine v_if_eq r_186_118 (by first | exact zF_in _ _ _ | exact zA_in _ _ _ | omega) (fun q => absurd q (by omega)) (fun _ => ?_)
            refine w_iload3 r_186_121 ?_
            refine v_if_le r_186_122 (by first | exact zF_in _ _ _ | exact zA_in _ _ _ | omega) (fun q => absurd q (by omega)) (fun _ => ?_)
            refine w_aload0 r_186_125 ?_
            refine v_getI r_186_126 (Lk_118 hL) m2.1 ?_
            refine v_if_ne r_186_129 (by first | exact zF_in _ _ _ | exact zA_in _ _ _ | omega) (fun _ => ?_) (fun q => absurd q (by omega))
            refine w_iconst (v := iI (0)) r_186_150 rfl ?_
            refine w_iload2 r_186_151 ?_
            refine v_if_eq r_186_152 (by first | exact zF_in _ _ _ | exact zA_in _ _ _ | omega) (fun q => absurd q (by omega)) (fun _ => ?_)
            refine w_sipush (v := iI (300)) r_186_155 rfl ?_
            refine w_goto r_186_158 ?_
            refine k_179 r_186_164 (Lk_118 hL) (Nat.le_of_ble_eq_true rfl) ?_
            refine m_number1 (d := d + 1) hL m2.1 ?_
            refine w_istore9 r_186_167 rfl ?_
            refine w_aload0 r_186_169 ?_
            refine v_getI r_186_170 (Lk_118 hL) m2.1 ?_
            refine v_if_eq r_186_173 (by first | exact zF_in _ _ _ | exact zA_in _ _ _ | omega) (fun q => absurd q (by omega)) (fun _ => ?_)
            refine w_iload3 r_186_176 ?_
            refine w_iret r_186_177 ?_
            exact R
          · refine w_aload0 r_186_116 ?_
            refine w_iload2 r_186_117 ?_
            refine v_if_eq r_186_118 (by first | exact zF_in _ _ _ | exact zA_in _ _ _ | omega) (fun q => absurd q (by omega)) (fun _ => ?_)
            refine w_iload3 r_186_121 ?_
            refine v_if_le r_186_122 (by first | exact zF_in _ _ _ | exact zA_in _ _ _ | omega) (fun _ => ?_) (fun q => absurd q (by omega))
            refine w_iconst (v := iI (0)) r_186_150 rfl ?_
            refine w_iload2 r_186_151 ?_
            refine v_if_eq r_186_152 (by first | exact zF_in _ _ _ | exact zA_in _ _ _ | omega) (fun q => absurd q (by omega)) (fun _ => ?_)
            refine w_sipush (v := iI (300)) r_186_155 rfl ?_
            refine w_goto r_186_158 ?_
            refine k_179 r_186_164 (Lk_118 hL) (Nat.le_of_ble_eq_true rfl) ?_
            refine m_number1 (d := d + 1) hL m2.1 ?_
            refine w_istore9 r_186_167 rfl ?_
            refine w_aload0 r_186_169 ?_
            refine v_getI r_186_170 (Lk_118 hL) m2.1 ?_
            refine v_if_eq r_186_173 (by first | exact zF_in _ _ _ | exact zA_in _ _ _ | omega) (fun q => absurd q (by omega)) (fun _ => ?_)
            refine w_iload3 r_186_176 ?_
            refine w_iret r_186_177 ?_
            exact R
        · have b1 : b2i ri = 0 := by
            cases ri with
            | false => rfl
            | true => exact absurd rfl r
          refine w_aload0 r_186_116 ?_
          refine w_iload2 r_186_117 ?_
          refine v_if_eq r_186_118 (by first | exact zF_in _ _ _ | exact zA_in _ _ _ | omega) (fun _ => ?_) (fun q => absurd q (by omega))
          refine w_iconst (v := iI (0)) r_186_150 rfl ?_
          refine w_iload2 r_186_151 ?_
          refine v_if_eq r_186_152 (by first | exact zF_in _ _ _ | exact zA_in _ _ _ | omega) (fun _ => ?_) (fun q => absurd q (by omega))
          refine w_sipush (v := iI (150)) r_186_161 rfl ?_
          refine k_179 r_186_164 (Lk_118 hL) (Nat.le_of_ble_eq_true rfl) ?_
          refine m_number1 (d := d + 1) hL m2.1 ?_
          refine w_istore9 r_186_167 rfl ?_
          refine w_aload0 r_186_169 ?_
          refine v_getI r_186_170 (Lk_118 hL) m2.1 ?_
          refine v_if_eq r_186_173 (by first | exact zF_in _ _ _ | exact zA_in _ _ _ | omega) (fun q => absurd q (by omega)) (fun _ => ?_)
          refine w_iload3 r_186_176 ?_
          refine w_iret r_186_177 ?_
          exact R
      -- the key
      have num : ∀ (V5 : Int), (i < 4 → V5 = 8 * g + 2 * i) → XW (d + 3) 186 91 [.ref 118, .ref ra, .int (iI (b2i ri)), .int (iI i), .int (iI 1), .int (iI V5), .int (iI (lk + 1)), .int (iI (τ.a k)), X8, X9] [.int (iI mk), .int (iI (lk + 1)), .ref 118] h1 (KI K) := by
        intro V5 hV5
        refine k_179 r_186_91 (Lk_118 hL) (Nat.le_of_ble_eq_true rfl) ?_
        refine m_number0 (by omega) (by omega) hL Y1 T1 n13 (fun z y h2 f2 t2 => ?_) (fun z => ?_) (fun z y => ?_)
        rotate_left
        · have R := fun x => kf (1, τ.a k) (bnd_l (by unfold gNum; rw [if_neg z])) (wrg h1 1 (τ.a k)) x (F1.trans (pT_wrg _ _ _)) (wrg_MF (by omega) (by omega))
          have D := dead (wrg h1 1 (τ.a k)) (1, τ.a k) (.int (iI V5)) (.int (iI (τ.a k))) (lk + 1) (lk + 1) (F1.trans (pT_wrg _ _ _)) (wrg_MF (by omega) (by omega)) R
          have hL := (pT_wrg h1 1 (τ.a k)).lay hL
          refine w_istore8 r_186_94 rfl ?_
          refine w_aload0 r_186_96 ?_
          refine v_getI r_186_97 (Lk_118 hL) (wrg_13 _ _ _) ?_
          refine v_if_ne r_186_100 (by first | exact zF_in _ _ _ | exact zA_in _ _ _ | omega) (fun _ => ?_) (fun q => absurd q (by omega))
          exact D
        · have R := fun x => kf (4, τ.a k) (bnd_l (by unfold gNum; rw [if_pos z, if_neg y])) (wrg h1 4 (τ.a k)) x (F1.trans (pT_wrg _ _ _)) (wrg_MF (by omega) (by omega))
          have D := dead (wrg h1 4 (τ.a k)) (4, τ.a k) (.int (iI V5)) (.int (iI (τ.a k))) (lk + 1) (lk + 1) (F1.trans (pT_wrg _ _ _)) (wrg_MF (by omega) (by omega)) R
          have hL := (pT_wrg h1 4 (τ.a k)).lay hL
          refine w_istore8 r_186_94 rfl ?_
          refine w_aload0 r_186_96 ?_
          refine v_getI r_186_97 (Lk_118 hL) (wrg_13 _ _ _) ?_
          refine v_if_ne r_186_100 (by first | exact zF_in _ _ _ | exact zA_in _ _ _ | omega) (fun _ => ?_) (fun q => absurd q (by omega))
          exact D
        have vi := XT.v_at Y1.1 T1.1.1 T1.1.2 z
        have F2 := f1.trans (fr_pO (Q := pA [ra]) f2)
        have L2 := F2.lay hL0
        have Y2 := tm_TY f2 Y1
        have m13 := tm_13 f2 n13
        have p2 := TM.pos Y2 t2
        have u1 : gNum τ (lk + 1) mk k = .inr (τ.v k, τ.e k) := by unfold gNum; rw [if_pos z, if_pos y]
        rw [bnd_r u1] at kt kf
        by_cases i4 : i = 4
        · have G := PMr_pT hr F2
          have R := fun x => kf (5, τ.a k) (by rw [if_pos i4]) (wrg h2 5 (τ.a k)) x (G.trans (pT_wrg _ _ _)) (wrg_MF (by omega) (by omega))
          have D := dead (wrg h2 5 (τ.a k)) (5, τ.a k) (.int (iI V5)) (.int (iI (τ.a k))) (τ.v k) (lk + 1) (G.trans (pT_wrg _ _ _)) (wrg_MF (by omega) (by omega)) R
          have hL := L2
          refine w_istore8 r_186_94 rfl ?_
          refine w_aload0 r_186_96 ?_
          refine v_getI r_186_97 (Lk_118 hL) m13 ?_
          refine v_if_ne r_186_100 (by first | exact zF_in _ _ _ | exact zA_in _ _ _ | omega) (fun q => absurd q (by omega)) (fun _ => ?_)
          refine w_iload3 r_186_103 ?_
          refine w_iconst (v := iI (4)) r_186_104 rfl ?_
          refine v_ic_ne r_186_105 (by first | exact zF_in _ _ _ | exact zA_in _ _ _ | omega) (by first | exact zF_in _ _ _ | exact zA_in _ _ _ | omega) (fun q => absurd q (by omega)) (fun _ => ?_)
          refine w_aload0 r_186_108 ?_
          refine w_iconst (v := iI (5)) r_186_109 rfl ?_
          refine w_iload7 r_186_110 ?_
          refine k_174 r_186_112 (Lk_118 hL) (Nat.le_of_ble_eq_true rfl) ?_
          refine m_wrong0 hL m13 ?_
          refine w_popI r_186_115 ?_
          exact D
        · rw [if_neg i4] at kt kf
          have v5 := hV5 (by omega)
          subst v5
          have C2 := C1.fr f2 (fun j => by simp [pO, pA, pF]; omega)
          -- the value
          have val : ∀ lo : Int, lo = (if ri = true then lv else 0) → XW (d + 3) 186 164 [.ref 118, .ref ra, .int (iI (b2i ri)), .int (iI i), .int (iI 1), .int (iI (8 * g + 2 * i)), .int (iI (lk + 1)), .int (iI (τ.a k)), .int (iI (τ.v k)), X9] [.int (iI mv), .int (iI lo), .ref 118] h2 (KI K) := by
            intro lo elo
            have lo9 : 0 ≤ lo ∧ lo ≤ 9999 := by rw [elo]; split <;> omega
            rw [← elo] at kt kf
            refine k_179 r_186_164 (Lk_118 L2) (Nat.le_of_ble_eq_true rfl) ?_
            refine m_number0 (by omega) (by omega) L2 Y2 t2 m13 (fun z2 y2 h3 f3 t3 => ?_) (fun z2 => ?_) (fun z2 y2 => ?_)
            rotate_left
            · have R := kf (1, τ.a (τ.e k)) (bnd_l (by unfold gNum; rw [if_neg z2])) (wrg h2 1 (τ.a (τ.e k))) i ((PMr_pT hr F2).trans (pT_wrg _ _ _)) (wrg_MF (by omega) (by omega))
              have hL := (pT_wrg h2 1 (τ.a (τ.e k))).lay L2
              refine w_istore9 r_186_167 rfl ?_
              refine w_aload0 r_186_169 ?_
              refine v_getI r_186_170 (Lk_118 hL) (wrg_13 _ _ _) ?_
              refine v_if_eq r_186_173 (by first | exact zF_in _ _ _ | exact zA_in _ _ _ | omega) (fun q => absurd q (by omega)) (fun _ => ?_)
              refine w_iload3 r_186_176 ?_
              refine w_iret r_186_177 ?_
              exact R
            · have R := kf (4, τ.a (τ.e k)) (bnd_l (by unfold gNum; rw [if_pos z2, if_neg y2])) (wrg h2 4 (τ.a (τ.e k))) i ((PMr_pT hr F2).trans (pT_wrg _ _ _)) (wrg_MF (by omega) (by omega))
              have hL := (pT_wrg h2 4 (τ.a (τ.e k))).lay L2
              refine w_istore9 r_186_167 rfl ?_
              refine w_aload0 r_186_169 ?_
              refine v_getI r_186_170 (Lk_118 hL) (wrg_13 _ _ _) ?_
              refine v_if_eq r_186_173 (by first | exact zF_in _ _ _ | exact zA_in _ _ _ | omega) (fun q => absurd q (by omega)) (fun _ => ?_)
              refine w_iload3 r_186_176 ?_
              refine w_iret r_186_177 ?_
              exact R
            have vi2 := XT.v_at Y2.1 t2.1.1 t2.1.2 z2
            have F3 := F2.trans (fr_pO (Q := pA [ra]) f3)
            have L3 := F3.lay hL0
            have l13 := tm_13 f3 m13
            have Y3 := tm_TY f3 Y2
            have p3 := TM.pos Y3 t3
            have u2 : gNum τ lo mv (τ.e k) = .inr (τ.v (τ.e k), τ.e (τ.e k)) := by unfold gNum; rw [if_pos z2, if_pos y2]
            dsimp only at kt kf
            rw [bnd_r u2] at kt kf
            dsimp only at kt kf
            have C3 := C2.fr f3 (fun j => by simp [pO, pA, pF]; omega)
            have after : ∀ h4, Fr (PMr ra) h h4 → TM h4 τ (τ.e (τ.e k)) → MPr h h4 ra g (i + 1) (up1 ks i (τ.v k)) (up1 vs i (τ.v (τ.e k))) → XW (d + 3) 186 192 [.ref 118, .ref ra, .int (iI (b2i ri)), .int (iI i), .int (iI 1), .int (iI (8 * g + 2 * i)), .int (iI (lk + 1)), .int (iI (τ.a k)), .int (iI (τ.v k)), .int (iI (τ.v (τ.e k)))] [] h4 (KI K) := by
              intro h4 F4 T4 C4
              have hL := F4.lay hL0
              have Y4 := pM_TY (pT_pM (PMr_pT hr F4)) hY
              have mk4 := mK_in p3.2.2
              by_cases cm : τ.k (τ.e (τ.e k)) = 44
              · rw [if_pos cm] at kt kf
                have J := fun h5 (f5 : Fr PTm h4 h5) t5 => ih (i + 1) (τ.v k) (τ.v (τ.e k)) (τ.e (τ.e (τ.e k))) (up1 ks i (τ.v k)) (up1 vs i (τ.v (τ.e k))) (.int (iI (8 * g + 2 * i))) (.int (iI (lk + 1))) (.int (iI (τ.a k))) (.int (iI (τ.v k))) (.int (iI (τ.v (τ.e k)))) h5 (by omega) (by omega) (by omega) (by omega) (fun _ => by rw [show i + 1 - 1 = i by omega, up1_at, up1_at]; exact ⟨rfl, rfl⟩) (fun q => by omega) (F4.trans (fr_pO (Q := pA [ra]) f5)) t5 (C4.fr f5 (fun j => by simp [pO, pA, pF]; omega)) kt kf
                refine w_iinc3 r_186_192 rfl (iI_add _ _) ?_
                refine w_aload0 r_186_195 ?_
                refine v_getI r_186_196 (Lk_118 hL) T4.i.2.2 ?_
                refine w_bipush (v := iI (44)) r_186_199 rfl ?_
                refine v_ic_ne r_186_201 (by first | exact zF_in _ _ _ | exact zA_in _ _ _ | omega) (by first | exact zF_in _ _ _ | exact zA_in _ _ _ | omega) (fun q => absurd q (by omega)) (fun _ => ?_)
                refine w_iconst (v := iI (1)) r_186_204 rfl ?_
                refine w_goto r_186_205 ?_
                refine w_istore4 r_186_209 rfl ?_
                refine w_iload4 r_186_211 ?_
                refine v_if_eq r_186_213 (by first | exact zF_in _ _ _ | exact zA_in _ _ _ | omega) (fun q => absurd q (by omega)) (fun _ => ?_)
                refine w_aload0 r_186_216 ?_
                refine k_172 r_186_217 (Lk_118 hL) (Nat.le_of_ble_eq_true rfl) ?_
                refine m_next (d := d + 1) hL Y4 (by omega) T4.i.2.1 (fun h5 f5 t5 => ?_)
                refine w_goto r_186_220 ?_
                exact J h5 f5 t5
              · rw [if_neg cm] at kt
                have R := kt _ rfl h4 F4 T4 C4
                have E : XW (d + 3) 186 16 [.ref 118, .ref ra, .int (iI (b2i ri)), .int (iI (i + 1)), .int (iI 0), .int (iI (8 * g + 2 * i)), .int (iI (lk + 1)), .int (iI (τ.a k)), .int (iI (τ.v k)), .int (iI (τ.v (τ.e k)))] [] h4 (KI K) := by
                  refine w_iload4 r_186_16 ?_
                  refine v_if_eq r_186_18 (by first | exact zF_in _ _ _ | exact zA_in _ _ _ | omega) (fun _ => ?_) (fun q => absurd q (by omega))
                  refine w_iload3 r_186_223 ?_
                  refine w_iret r_186_224 ?_
                  exact R
                refine w_iinc3 r_186_192 rfl (iI_add _ _) ?_
                refine w_aload0 r_186_195 ?_
                refine v_getI r_186_196 (Lk_118 hL) T4.i.2.2 ?_
                refine w_bipush (v := iI (44)) r_186_199 rfl ?_
                refine v_ic_ne r_186_201 (by first | exact zF_in _ _ _ | exact zA_in _ _ _ | omega) (by first | exact zF_in _ _ _ | exact zA_in _ _ _ | omega) (fun _ => ?_) (fun q => absurd q (by omega))
                refine w_iconst (v := iI (0)) r_186_208 rfl ?_
                refine w_istore4 r_186_209 rfl ?_
                refine w_iload4 r_186_211 ?_
                refine v_if_eq r_186_213 (by first | exact zF_in _ _ _ | exact zA_in _ _ _ | omega) (fun _ => ?_) (fun q => absurd q (by omega))
                refine w_goto r_186_220 ?_
                exact E
            have G4 : Fr (pA [ra]) h3 (sI (sI h3 ra (8 * g + 2 * i).toNat (iI (τ.v k))) ra (8 * g + 2 * i + 1).toNat (iI (τ.v (τ.e k)))) := ((Fr.refl _ _).sI ra _ _ (by simp [pA])).sI ra _ _ (by simp [pA])
            have r1 : ∀ j, 0 ≤ j → zA (sI (sI h3 ra (8 * g + 2 * i).toNat (iI (τ.v k))) ra (8 * g + 2 * i + 1).toNat (iI (τ.v (τ.e k)))) ra j = if j = 8 * g + 2 * i + 1 then τ.v (τ.e k) else if j = 8 * g + 2 * i then τ.v k else zA h3 ra j := fun j j0 => by
              rw [zA_s (by omega) j0 (by omega), zA_s (by omega) j0 (by omega)]
            have A4 := after _ (F3.trans (fr_pO' (P := PTm) G4)) (t3.fr G4 (fun j _ => by simp [pA]; omega) (fun j => by simp [pA]; omega)) (by
              refine ⟨fun j j0 j1 => ?_, fun j j0 j1 => ?_⟩
              · rw [r1 _ (by omega), r1 _ (by omega)]
                by_cases q : j = i
                · rw [q, if_neg (by omega), if_pos rfl, if_pos rfl, up1_at, up1_at]; exact ⟨rfl, rfl⟩
                · rw [if_neg (by omega), if_neg (by omega), if_neg (by omega), if_neg (by omega), up1_ne q, up1_ne q]; exact C3.1 j j0 (by omega)
              · rw [r1 _ j0, if_neg (by omega), if_neg (by omega)]; exact C3.2 j j0 j1)
            have hL := L3
            refine w_istore9 r_186_167 rfl ?_
            refine w_aload0 r_186_169 ?_
            refine v_getI r_186_170 (Lk_118 hL) l13 ?_
            refine v_if_eq r_186_173 (by first | exact zF_in _ _ _ | exact zA_in _ _ _ | omega) (fun _ => ?_) (fun q => absurd q (by omega))
            refine w_aload1 r_186_178 ?_
            refine w_iload5 r_186_179 ?_
            refine w_iload8 r_186_181 ?_
            refine v_iast r_186_183 (rk hL).1 (rk hL).2.2 (rk hL).2.1 (by decide) (by omega) ?_
            refine w_aload1 r_186_184 ?_
            refine w_iload5 r_186_185 ?_
            refine w_iconst (v := iI (1)) r_186_187 rfl ?_
            refine v_iadd r_186_188 ?_
            refine w_iload9 r_186_189 ?_
            refine v_iast r_186_191 (rk hL).1 (rk hL).2.2 (rk hL).2.1 (by decide) (by omega) ?_
            exact A4
          have hL := L2
          have m22 : gI h2 118 22 = iI g := by rw [(f2.2 118 22 (by simp [pO, pA, pF])).1]; exact n22
          by_cases r : ri = true
          · have b1 : b2i ri = 1 := by rw [r]; rfl
            have emv : mv = 300 := by rw [← hmv, if_pos r]
            by_cases i0 : 0 < i
            · have V := val lv (by rw [if_pos r])
              have ev : gI h2 ra (8 * g + 2 * i - 1).toNat = iI lv := by
                have q := (C2.1 (i - 1) (by omega) (by omega)).2
                rw [show 8 * g + 2 * (i - 1) + 1 = 8 * g + 2 * i - 1 by omega] at q
                rw [gI_A, q, (hs i0).2]
              rw [emv] at V
              refine w_istore8 r_186_94 rfl ?_
              refine w_aload0 r_186_96 ?_
              refine v_getI r_186_97 (Lk_118 hL) m13 ?_
              refine v_if_ne r_186_100 (by first | exact zF_in _ _ _ | exact zA_in _ _ _ | omega) (fun q => absurd q (by omega)) (fun _ => ?_)
              refine w_iload3 r_186_103 ?_
              refine w_iconst (v := iI (4)) r_186_104 rfl ?_
              refine v_ic_ne r_186_105 (by first | exact zF_in _ _ _ | exact zA_in _ _ _ | omega) (by first | exact zF_in _ _ _ | exact zA_in _ _ _ | omega) (fun _ => ?_) (fun q => absurd q (by omega))
              refine w_aload0 r_186_116 ?_
              refine w_iload2 r_186_117 ?_
              refine v_if_eq r_186_118 (by first | exact zF_in _ _ _ | exact zA_in _ _ _ | omega) (fun q => absurd q (by omega)) (fun _ => ?_)
              refine w_iload3 r_186_121 ?_
              refine v_if_le r_186_122 (by first | exact zF_in _ _ _ | exact zA_in _ _ _ | omega) (fun q => absurd q (by omega)) (fun _ => ?_)
              refine w_aload0 r_186_125 ?_
              refine v_getI r_186_126 (Lk_118 hL) m13 ?_
              refine v_if_ne r_186_129 (by first | exact zF_in _ _ _ | exact zA_in _ _ _ | omega) (fun q => absurd q (by omega)) (fun _ => ?_)
              refine w_aload1 r_186_132 ?_
              refine w_bipush (v := iI (8)) r_186_133 rfl ?_
              refine w_aload0 r_186_135 ?_
              refine v_getI r_186_136 (Lk_118 hL) m22 ?_
              refine v_imul r_186_139 ?_
              refine w_iconst (v := iI (2)) r_186_140 rfl ?_
              refine w_iload3 r_186_141 ?_
              refine v_imul r_186_142 ?_
              refine v_iadd r_186_143 ?_
              refine w_iconst (v := iI (1)) r_186_144 rfl ?_
              refine v_isub r_186_145 ?_
              refine v_iald r_186_146 (rk hL).1 (rk hL).2.1 (by decide) (by omega) ev ?_
              refine w_goto r_186_147 ?_
              refine w_iload2 r_186_151 ?_
              refine v_if_eq r_186_152 (by first | exact zF_in _ _ _ | exact zA_in _ _ _ | omega) (fun q => absurd q (by omega)) (fun _ => ?_)
              refine w_sipush (v := iI (300)) r_186_155 rfl ?_
              refine w_goto r_186_158 ?_
              exact V
            · have V := val lv (by rw [if_pos r])
              rw [emv, (h0 (by omega)).2] at V
              refine w_istore8 r_186_94 rfl ?_
              refine w_aload0 r_186_96 ?_
              refine v_getI r_186_97 (Lk_118 hL) m13 ?_
              refine v_if_ne r_186_100 (by first | exact zF_in _ _ _ | exact zA_in _ _ _ | omega) (fun q => absurd q (by omega)) (fun _ => ?_)
              refine w_iload3 r_186_103 ?_
              refine w_iconst (v := iI (4)) r_186_104 rfl ?_
              refine v_ic_ne r_186_105 (by first | exact zF_in _ _ _ | exact zA_in _ _ _ | omega) (by first | exact zF_in _ _ _ | exact zA_in _ _ _ | omega) (fun _ => ?_) (fun q => absurd q (by omega))
              refine w_aload0 r_186_116 ?_
              refine w_iload2 r_186_117 ?_
              refine v_if_eq r_186_118 (by first | exact zF_in _ _ _ | exact zA_in _ _ _ | omega) (fun q => absurd q (by omega)) (fun _ => ?_)
              refine w_iload3 r_186_121 ?_
              refine v_if_le r_186_122 (by first | exact zF_in _ _ _ | exact zA_in _ _ _ | omega) (fun _ => ?_) (fun q => absurd q (by omega))
              refine w_iconst (v := iI (0)) r_186_150 rfl ?_
              refine w_iload2 r_186_151 ?_
              refine v_if_eq r_186_152 (by first | exact zF_in _ _ _ | exact zA_in _ _ _ | omega) (fun q => absurd q (by omega)) (fun _ => ?_)
              refine w_sipush (v := iI (300)) r_186_155 rfl ?_
              refine w_goto r_186_158 ?_
              exact V
          · have b1 : b2i ri = 0 := by
              cases ri with
              | false => rfl
              | true => exact absurd rfl r
            have emv : mv = 150 := by rw [← hmv, if_neg r]
            have V := val 0 (by rw [if_neg r])
            rw [emv] at V
            refine w_istore8 r_186_94 rfl ?_
            refine w_aload0 r_186_96 ?_
            refine v_getI r_186_97 (Lk_118 hL) m13 ?_
            refine v_if_ne r_186_100 (by first | exact zF_in _ _ _ | exact zA_in _ _ _ | omega) (fun q => absurd q (by omega)) (fun _ => ?_)
            refine w_iload3 r_186_103 ?_
            refine w_iconst (v := iI (4)) r_186_104 rfl ?_
            refine v_ic_ne r_186_105 (by first | exact zF_in _ _ _ | exact zA_in _ _ _ | omega) (by first | exact zF_in _ _ _ | exact zA_in _ _ _ | omega) (fun _ => ?_) (fun q => absurd q (by omega))
            refine w_aload0 r_186_116 ?_
            refine w_iload2 r_186_117 ?_
            refine v_if_eq r_186_118 (by first | exact zF_in _ _ _ | exact zA_in _ _ _ | omega) (fun _ => ?_) (fun q => absurd q (by omega))
            refine w_iconst (v := iI (0)) r_186_150 rfl ?_
            refine w_iload2 r_186_151 ?_
            refine v_if_eq r_186_152 (by first | exact zF_in _ _ _ | exact zA_in _ _ _ | omega) (fun _ => ?_) (fun q => absurd q (by omega))
            refine w_sipush (v := iI (150)) r_186_161 rfl ?_
            exact V
      -- to the key's number
      have low : ∀ (V5 : Int), (i < 4 → V5 = 8 * g + 2 * i) → XW (d + 3) 186 43 [.ref 118, .ref ra, .int (iI (b2i ri)), .int (iI i), .int (iI 1), .int (iI V5), X6, X7, X8, X9] [] h1 (KI K) := by
        intro V5 hV5
        have N := num V5 hV5
        have em : (ri = true → mk = 999 ∧ b2i ri = 1) ∧ (¬ ri = true → mk = 90 ∧ b2i ri = 0) := ⟨fun r => ⟨by rw [← hmk, if_pos r], by rw [r]; rfl⟩, fun r => ⟨by rw [← hmk, if_neg r], by
          cases ri with
          | false => rfl
          | true => exact absurd rfl r⟩⟩
        have fin : XW (d + 3) 186 68 [.ref 118, .ref ra, .int (iI (b2i ri)), .int (iI i), .int (iI 1), .int (iI V5), X6, X7, X8, X9] [.int (iI (lk + 1))] h1 (KI K) := by
          by_cases r : ri = true
          · have q := em.1 r
            rw [q.1] at N
            refine w_istore6 r_186_68 rfl ?_
            refine w_aload0 r_186_70 ?_
            refine v_getI r_186_71 (Lk_118 hL) T1.i.1 ?_
            refine w_istore7 r_186_74 rfl ?_
            refine w_aload0 r_186_76 ?_
            refine w_iload6 r_186_77 ?_
            refine w_iload2 r_186_79 ?_
            refine v_if_eq r_186_80 (by first | exact zF_in _ _ _ | exact zA_in _ _ _ | omega) (fun q => absurd q (by omega)) (fun _ => ?_)
            refine w_sipush (v := iI (999)) r_186_83 rfl ?_
            refine w_goto r_186_86 ?_
            exact N
          · have q := em.2 r
            rw [q.1] at N
            refine w_istore6 r_186_68 rfl ?_
            refine w_aload0 r_186_70 ?_
            refine v_getI r_186_71 (Lk_118 hL) T1.i.1 ?_
            refine w_istore7 r_186_74 rfl ?_
            refine w_aload0 r_186_76 ?_
            refine w_iload6 r_186_77 ?_
            refine w_iload2 r_186_79 ?_
            refine v_if_eq r_186_80 (by first | exact zF_in _ _ _ | exact zA_in _ _ _ | omega) (fun _ => ?_) (fun q => absurd q (by omega))
            refine w_bipush (v := iI (90)) r_186_89 rfl ?_
            exact N
        by_cases i0 : i = 0
        · rw [(h0 i0).1, show (-1 : Int) + 1 = 0 by omega] at fin
          refine w_iload3 r_186_43 ?_
          refine v_if_ne r_186_44 (by first | exact zF_in _ _ _ | exact zA_in _ _ _ | omega) (fun q => absurd q (by omega)) (fun _ => ?_)
          refine w_iconst (v := iI (0)) r_186_47 rfl ?_
          refine w_goto r_186_48 ?_
          exact fin
        · have ev : gI h1 ra (8 * g + 2 * i - 2).toNat = iI lk := by
            have q := (C1.1 (i - 1) (by omega) (by omega)).1
            rw [show 8 * g + 2 * (i - 1) = 8 * g + 2 * i - 2 by omega] at q
            rw [gI_A, q, (hs (by omega)).1]
          refine w_iload3 r_186_43 ?_
          refine v_if_ne r_186_44 (by first | exact zF_in _ _ _ | exact zA_in _ _ _ | omega) (fun _ => ?_) (fun q => absurd q (by omega))
          refine w_aload1 r_186_51 ?_
          refine w_bipush (v := iI (8)) r_186_52 rfl ?_
          refine w_aload0 r_186_54 ?_
          refine v_getI r_186_55 (Lk_118 hL) n22 ?_
          refine v_imul r_186_58 ?_
          refine w_iconst (v := iI (2)) r_186_59 rfl ?_
          refine w_iload3 r_186_60 ?_
          refine v_imul r_186_61 ?_
          refine v_iadd r_186_62 ?_
          refine w_iconst (v := iI (2)) r_186_63 rfl ?_
          refine v_isub r_186_64 ?_
          refine v_iald r_186_65 (rk hL).1 (rk hL).2.1 (by decide) (by omega) ev ?_
          refine w_iconst (v := iI (1)) r_186_66 rfl ?_
          refine v_iadd r_186_67 ?_
          exact fin
      by_cases i4 : i < 4
      · have Lw := low (8 * g + 2 * i) (fun _ => rfl)
        rw [show 8 * g + 2 * i = 8 * g + 2 * i from rfl] at Lw
        refine w_iload4 r_186_16 ?_
        refine v_if_eq r_186_18 (by first | exact zF_in _ _ _ | exact zA_in _ _ _ | omega) (fun q => absurd q (by omega)) (fun _ => ?_)
        refine w_bipush (v := iI (8)) r_186_21 rfl ?_
        refine w_aload0 r_186_23 ?_
        refine v_getI r_186_24 (Lk_118 hL) n22 ?_
        refine v_imul r_186_27 ?_
        refine w_iconst (v := iI (2)) r_186_28 rfl ?_
        refine w_iload3 r_186_29 ?_
        refine w_iconst (v := iI (4)) r_186_30 rfl ?_
        refine v_ic_ge r_186_31 (by first | exact zF_in _ _ _ | exact zA_in _ _ _ | omega) (by first | exact zF_in _ _ _ | exact zA_in _ _ _ | omega) (fun q => absurd q (by omega)) (fun _ => ?_)
        refine w_iload3 r_186_34 ?_
        refine w_goto r_186_35 ?_
        refine v_imul r_186_39 ?_
        refine v_iadd r_186_40 ?_
        refine w_istore5 r_186_41 rfl ?_
        exact Lw
      · have Lw := low (8 * g + 2 * 3) (fun q => absurd q i4)
        refine w_iload4 r_186_16 ?_
        refine v_if_eq r_186_18 (by first | exact zF_in _ _ _ | exact zA_in _ _ _ | omega) (fun q => absurd q (by omega)) (fun _ => ?_)
        refine w_bipush (v := iI (8)) r_186_21 rfl ?_
        refine w_aload0 r_186_23 ?_
        refine v_getI r_186_24 (Lk_118 hL) n22 ?_
        refine v_imul r_186_27 ?_
        refine w_iconst (v := iI (2)) r_186_28 rfl ?_
        refine w_iload3 r_186_29 ?_
        refine w_iconst (v := iI (4)) r_186_30 rfl ?_
        refine v_ic_ge r_186_31 (by first | exact zF_in _ _ _ | exact zA_in _ _ _ | omega) (by first | exact zF_in _ _ _ | exact zA_in _ _ _ | omega) (fun _ => ?_) (fun q => absurd q (by omega))
        refine w_iconst (v := iI (3)) r_186_38 rfl ?_
        refine v_imul r_186_39 ?_
        refine v_iadd r_186_40 ?_
        refine w_istore5 r_186_41 rfl ?_
        exact Lw
  have J := key 5 0 (-1) 0 k z0 z0 .null .null .null .null .null h (by omega) (by omega) (by omega) (by omega) (fun q => by omega) (fun _ => ⟨rfl, rfl⟩) (Fr.refl _ _) hT ⟨fun i a b => by omega, fun i a b => rfl⟩ kt kf
  refine w_iconst (v := iI (0)) r_186_0 rfl ?_
  refine w_istore3 r_186_1 rfl ?_
  refine w_aload0 r_186_2 ?_
  refine v_getI r_186_3 (Lk_118 hL) h13 ?_
  refine v_if_ne r_186_6 (by first | exact zF_in _ _ _ | exact zA_in _ _ _ | omega) (fun q => absurd q (by omega)) (fun _ => ?_)
  refine w_iconst (v := iI (1)) r_186_9 rfl ?_
  refine w_goto r_186_10 ?_
  refine w_istore4 r_186_14 rfl ?_
  exact J
end MB1
