/-! the Model reads a plan: a step begins -/
section MP2
variable {d : Nat} {h h' : XH} {K : Int32 → XH → Prop} {KU : XH → Prop} {τ : XT} {k st nd np : Int} {B : XB} {p : XL} {l l' : List (Bool × Int)}
abbrev pOr : Nat → Nat → Bool := pO (pA [144]) (pF [(118, 58)])
theorem pOr_RM {z : Int} (f : Fr pOr h h') (hz : 0 ≤ z) (same : ∀ x, 0 ≤ x → ¬ (512 * np + 4 * z ≤ x ∧ x < 512 * np + 4 * z + 4) → zA h' 144 x = zA h 144 x) : RM np h h' := ⟨f.mono (fun a j q => by simp [pPm] at q; simp [pO, pA, pF]; omega), fun x x0 x1 => same x x0 (by omega), fun q => ⟨by rw [← (f.2 118 13 (by simp [pO, pA, pF])).1]; exact q, f.F (by simp [pO, pA, pF])⟩⟩
theorem pOr_TM (f : Fr pOr h h') (hT : TM h τ k) : TM h' τ k := hT.fr f (fun j q => by simp [pO, pA, pF]; omega) (fun j => by simp [pO, pA, pF])
theorem pOr_MF {e : Int × Int} (f : Fr pOr h h') (m : MF h e) : MF h' e := ⟨by rw [(f.2 118 13 (by simp [pO, pA, pF])).1]; exact m.1, by rw [f.F (by simp [pO, pA, pF])]; exact m.2.1, by rw [f.F (by simp [pO, pA, pF])]; exact m.2.2⟩
theorem MRs.ord {a b c kd nm gd : Int} (f : Fr pOr h h') (e58 : gI h' 118 58 = iI (p.z + 1)) (new : np < 8 → zA h' 144 (512 * np + 4 * p.z) = a ∧ zA h' 144 (512 * np + 4 * p.z + 1) = b ∧ zA h' 144 (512 * np + 4 * p.z + 2) = c)
    (same : ∀ x, 0 ≤ x → ¬ (512 * np + 4 * p.z ≤ x ∧ x < 512 * np + 4 * p.z + 4) → zA h' 144 x = zA h 144 x) (hnp : 0 ≤ np) (hz : 0 ≤ p.z)
    (hk : (kd ≤ 3 → a = 0 ∧ b = kd ∧ c = nm) ∧ (kd = 4 → a = 1 ∧ b = nm ∧ c = gd) ∧ (kd = 5 → a = 2)) (m : MRs np h st p l) :
    gI h' 118 58 = iI (pAdd p kd nm gd).z ∧ gI h' 118 59 = iI st ∧ (∀ l', (4 ≤ kd → ∃ e, (e, p.z) ∈ l') → (∀ e i, (e, i) ∈ l → ∃ e', (e', i) ∈ l') → np < 8 → MO h' np (pAdd p kd nm gd) l') ∧ MStk h' l ∧ gI h' 118 13 = iI 0 :=
  ⟨e58, by rw [(f.2 118 59 (by simp [pO, pA, pF])).1]; exact m.2.1, fun l' a b q => (m.2.2.1 q).add hnp hz (new q) same hk a b, MStk.up l (fun a j a0 a1 j0 j1 => f.A (by simp [pO, pA, pF]; omega)) m.2.2.2.1, by rw [(f.2 118 13 (by simp [pO, pA, pF])).1]; exact m.2.2.2.2⟩
/-- rows of open blocks -/
theorem MO.rows {x : Nat} {j : Nat} {v : Int32} (hx : ¬ x = 144) (hnp : 0 ≤ np) (m : MO h np p l) : MO (sI h x j v) np p l := m.same (fun y _ => zA_o _ (by omega)) hnp
theorem m_openMove {w : Int} (hC : MCx τ B nd np h) (hnp : 0 ≤ np ∧ np ≤ 8) (hT : TM h τ k) (hM : MRs np h st p l) (hz : 0 ≤ p.z ∧ p.z < 80) (hw : 0 ≤ w ∧ w ≤ 3)
    (kf : τ.k k = 2 → ¬ (1 ≤ τ.v k ∧ τ.v k ≤ 9) → ∀ h', RM np h h' → MF h' (4, τ.a k) → K (iI 0) h')
    (kt : ∀ n k', (τ.k k = 2 ∧ n = τ.v k ∧ k' = τ.e k ∧ 1 ≤ n ∧ n ≤ 9) ∨ (¬ τ.k k = 2 ∧ n = 1 ∧ k' = k) → ∀ h', RM np h h' → TM h' τ k' → MRs np h' st (pAdd p w n (-1)) l → K (iI 0) h') :
    XW (d + 6) 249 63 [.ref 118, .int (iI l.length), .int (iI w), .int (iI 0), .null, .null] [] h (KI K) := by
  have hL := hC.1
  have hY := hC.2.2.1
  have q := TM.pos hY hT
  have mk := mK_in q.2.2
  have h13 := hM.2.2.2.2
  have fin : ∀ (n k' : Int) (g : XH), (τ.k k = 2 ∧ n = τ.v k ∧ k' = τ.e k ∧ 1 ≤ n ∧ n ≤ 9) ∨ (¬ τ.k k = 2 ∧ n = 1 ∧ k' = k) → RM np h g → TM g τ k' → MRs np g st p l → XW (d + 6) 249 87 [.ref 118, .int (iI l.length), .int (iI w), .int (iI 0), .int (iI n), .null] [] g (KI K) := by
    intro n k' g o rg Tg Mg
    have hC := hC.rm rg
    have hL := hC.1
    have on : 1 ≤ n ∧ n ≤ 9 := by rcases o with o | o <;> omega
    have A := fun g5 (f5 : Fr pOr g g5) e5 nw sm => kt n k' o g5 (rg.trans (pOr_RM f5 hz.1 sm)) (pOr_TM f5 Tg) (by
      have r := MRs.ord (a := 0) (b := w) (c := n) (kd := w) (nm := n) (gd := -1) f5 e5 nw sm hnp.1 hz.1 ⟨fun _ => ⟨rfl, rfl, rfl⟩, fun x => by omega, fun x => by omega⟩ Mg
      exact ⟨r.1, r.2.1, r.2.2.1 l (fun x => by omega) (fun e i m => ⟨e, m⟩), r.2.2.2⟩)
    refine w_aload0 r_249_87 ?_
    refine w_iconst (v := iI (0)) r_249_88 rfl ?_
    refine w_iload2 r_249_89 ?_
    refine w_iload4 r_249_90 ?_
    refine w_iconst (v := iI (0)) r_249_92 rfl ?_
    refine k_246 r_249_93 (Lk_118 hL) (Nat.le_of_ble_eq_true rfl) ?_
    refine m_order (d := d + 5) (np := np) (z := p.z) hL ⟨by decide, by omega, by omega, by decide⟩ ⟨hC.2.2.2.2.2, hnp⟩ ⟨Mg.1, hz⟩ (fun g5 f5 e5 nw sm => ?_)
    refine w_popI r_249_96 ?_
    refine w_iconst (v := iI (0)) r_249_97 rfl ?_
    refine w_zret r_249_98 (by decide) ?_
    exact A g5 f5 e5 nw sm
  by_cases z : τ.k k = 2
  · have z3 : mK (τ.k k) = 3 := mk.2.2.1.2 z
    by_cases y : 1 ≤ τ.v k ∧ τ.v k ≤ 9
    · have A := fun g (f : Fr PTm h g) t => fin (τ.v k) (τ.e k) g (Or.inl ⟨z, rfl, rfl, y⟩) (RM.tm f) t (hM.tm f hnp.1)
      refine w_iload3 r_249_63 ?_
      refine v_if_ne r_249_64 (by first | exact zF_in _ _ _ | exact zA_in _ _ _ | omega) (fun q => absurd q (by omega)) (fun _ => ?_)
      refine w_iconst (v := iI (1)) r_249_67 rfl ?_
      refine w_istore4 r_249_68 rfl ?_
      refine w_aload0 r_249_70 ?_
      refine v_getI r_249_71 (Lk_118 hL) hT.i.2.2 ?_
      refine w_iconst (v := iI (3)) r_249_74 rfl ?_
      refine v_ic_ne r_249_75 (by first | exact zF_in _ _ _ | exact zA_in _ _ _ | omega) (by first | exact zF_in _ _ _ | exact zA_in _ _ _ | omega) (fun q => absurd q (by omega)) (fun _ => ?_)
      refine w_aload0 r_249_78 ?_
      refine w_iconst (v := iI (1)) r_249_79 rfl ?_
      refine w_bipush (v := iI (9)) r_249_80 rfl ?_
      refine k_179 r_249_82 (Lk_118 hL) (Nat.le_of_ble_eq_true rfl) ?_
      refine m_number0 (d := d + 3) (by decide) (by decide) hL hY hT h13 (fun _ _ g f t => ?_) (fun x => absurd z x) (fun _ x => absurd y x)
      refine w_istore4 r_249_85 rfl ?_
      exact A g f t
    · have A : XW (d + 6) 249 87 [.ref 118, .int (iI l.length), .int (iI w), .int (iI 0), .int (iI 1), .null] [] (wrg h 4 (τ.a k)) (KI K) := by
        have rg : RM np h (wrg h 4 (τ.a k)) := RM.wrg h 4 (τ.a k)
        have mg : MF (wrg h 4 (τ.a k)) (4, τ.a k) := wrg_MF (by omega) (by omega)
        have e58 : gI (wrg h 4 (τ.a k)) 118 58 = iI p.z := by rw [((wrg_fr h 4 (τ.a k)).2 118 58 (by simp [pF])).1]; exact hM.1
        generalize wrg h 4 (τ.a k) = g at *
        have hC := hC.rm rg
        have hL := hC.1
        have A := fun g5 (f5 : Fr pOr g g5) sm => kf z y g5 (rg.trans (pOr_RM f5 hz.1 sm)) (pOr_MF f5 mg)
        refine w_aload0 r_249_87 ?_
        refine w_iconst (v := iI (0)) r_249_88 rfl ?_
        refine w_iload2 r_249_89 ?_
        refine w_iload4 r_249_90 ?_
        refine w_iconst (v := iI (0)) r_249_92 rfl ?_
        refine k_246 r_249_93 (Lk_118 hL) (Nat.le_of_ble_eq_true rfl) ?_
        refine m_order (d := d + 5) (np := np) (z := p.z) hL ⟨by decide, by omega, by decide, by decide⟩ ⟨hC.2.2.2.2.2, hnp⟩ ⟨e58, hz⟩ (fun g5 f5 e5 nw sm => ?_)
        refine w_popI r_249_96 ?_
        refine w_iconst (v := iI (0)) r_249_97 rfl ?_
        refine w_zret r_249_98 (by decide) ?_
        exact A g5 f5 sm
      refine w_iload3 r_249_63 ?_
      refine v_if_ne r_249_64 (by first | exact zF_in _ _ _ | exact zA_in _ _ _ | omega) (fun q => absurd q (by omega)) (fun _ => ?_)
      refine w_iconst (v := iI (1)) r_249_67 rfl ?_
      refine w_istore4 r_249_68 rfl ?_
      refine w_aload0 r_249_70 ?_
      refine v_getI r_249_71 (Lk_118 hL) hT.i.2.2 ?_
      refine w_iconst (v := iI (3)) r_249_74 rfl ?_
      refine v_ic_ne r_249_75 (by first | exact zF_in _ _ _ | exact zA_in _ _ _ | omega) (by first | exact zF_in _ _ _ | exact zA_in _ _ _ | omega) (fun q => absurd q (by omega)) (fun _ => ?_)
      refine w_aload0 r_249_78 ?_
      refine w_iconst (v := iI (1)) r_249_79 rfl ?_
      refine w_bipush (v := iI (9)) r_249_80 rfl ?_
      refine k_179 r_249_82 (Lk_118 hL) (Nat.le_of_ble_eq_true rfl) ?_
      refine m_number0 (d := d + 3) (by decide) (by decide) hL hY hT h13 (fun _ x g f t => absurd x y) (fun x => absurd z x) (fun _ _ => ?_)
      refine w_istore4 r_249_85 rfl ?_
      exact A
  · have z3 : ¬ mK (τ.k k) = 3 := fun x => z (mk.2.2.1.1 x)
    have A := fin 1 k h (Or.inr ⟨z, rfl, rfl⟩) (RM.refl np h) hT hM
    refine w_iload3 r_249_63 ?_
    refine v_if_ne r_249_64 (by first | exact zF_in _ _ _ | exact zA_in _ _ _ | omega) (fun q => absurd q (by omega)) (fun _ => ?_)
    refine w_iconst (v := iI (1)) r_249_67 rfl ?_
    refine w_istore4 r_249_68 rfl ?_
    refine w_aload0 r_249_70 ?_
    refine v_getI r_249_71 (Lk_118 hL) hT.i.2.2 ?_
    refine w_iconst (v := iI (3)) r_249_74 rfl ?_
    refine v_ic_ne r_249_75 (by first | exact zF_in _ _ _ | exact zA_in _ _ _ | omega) (by first | exact zF_in _ _ _ | exact zA_in _ _ _ | omega) (fun _ => ?_) (fun q => absurd q (by omega))
    exact A
theorem MRs.opn {a b : Int} {g : XH} (f : Fr pOr h g) (e58 : gI g 118 58 = iI (p.z + 1)) (new : np < 8 → zA g 144 (512 * np + 4 * p.z) = 1 ∧ zA g 144 (512 * np + 4 * p.z + 1) = a ∧ zA g 144 (512 * np + 4 * p.z + 2) = b)
    (same : ∀ x, 0 ≤ x → ¬ (512 * np + 4 * p.z ≤ x ∧ x < 512 * np + 4 * p.z + 4) → zA g 144 x = zA h 144 x) (hnp : 0 ≤ np) (hz : 0 ≤ p.z ∧ p.z < 80) (m : MRs np h st p l) :
    RM np h (sI (sI g 146 (l.length : Int).toNat (iI p.z)) 148 (l.length : Int).toNat (iI 0)) ∧ MRs np (sI (sI g 146 (l.length : Int).toNat (iI p.z)) 148 (l.length : Int).toNat (iI 0)) st (pAdd p 4 a b) ((false, p.z) :: l) := by
  have r := MRs.ord (kd := 4) (nm := a) (gd := b) f e58 new same hnp hz.1 ⟨fun x => by omega, fun _ => ⟨rfl, rfl, rfl⟩, fun x => by omega⟩ m
  have F : Fr (pA [146, 148]) g (sI (sI g 146 (l.length : Int).toNat (iI p.z)) 148 (l.length : Int).toNat (iI 0)) := ((Fr.refl _ _).sI 146 _ _ (by simp [pA])).sI 148 _ _ (by simp [pA])
  refine ⟨(pOr_RM f hz.1 same).trans (RM.of F (fun a j q => by simp [pPm] at q; simp [pA]; omega) (fun j => by simp [pA])), ?_, ?_, fun q => ?_, ⟨?_, ?_, ?_⟩, ?_⟩
  · rw [(F.2 118 58 (by simp [pA])).1]; exact r.1
  · rw [(F.2 118 59 (by simp [pA])).1]; exact r.2.1
  · exact ((r.2.2.1 ((false, p.z) :: l) (fun _ => ⟨false, List.mem_cons_self⟩) (fun e i m => ⟨e, List.mem_cons_of_mem _ m⟩) q).rows (by decide) hnp).rows (by decide) hnp
  · rw [zA_s (by omega) (by omega) (by decide), if_pos rfl]; rfl
  · rw [if_neg (by decide), zA_o _ (by decide), zA_s (by omega) (by omega) (by omega), if_pos rfl]
  · refine MStk.up l (fun a j a0 a1 j0 j1 => ?_) r.2.2.2.1
    by_cases x : a = 148
    · rw [x, zA_s (by omega) j0 (by decide), if_neg (by omega), zA_o _ (by decide)]
    · rw [zA_o _ x]
      by_cases y : a = 146
      · rw [y, zA_s (by omega) j0 (by omega), if_neg (by omega)]
      · rw [zA_o _ y]
  · rw [(F.2 118 13 (by simp [pA])).1]; exact r.2.2.2.2
theorem m_openIf {w : Int} (hC : MCx τ B nd np h) (hg : 0 ≤ B.g ∧ B.g ≤ 8) (hnd : 0 ≤ nd ∧ nd ≤ 5) (hnp : 0 ≤ np ∧ np ≤ 8) (hT : TM h τ k) (hM : MRs np h st p l) (hz : 0 ≤ p.z ∧ p.z < 80) (hl : l.length ≤ 6)
    (k1 : ∀ e, gQ τ B nd k = .inl e → ∀ h', RM np h h' → MF h' e → K (iI 0) h')
    (k2 : ∀ q, gQ τ B nd k = .inr q → ¬ τ.k q.2.2 = 40 → ∀ h', RM np h h' → MF h' (1, τ.a q.2.2) → K (iI 0) h')
    (k3 : ∀ q, gQ τ B nd k = .inr q → τ.k q.2.2 = 40 → 6 ≤ l.length → ∀ h', RM np h h' → MF h' (5, τ.a q.2.2) → K (iI 0) h')
    (kt : ∀ q, gQ τ B nd k = .inr q → (0 ≤ q.1 ∧ q.1 < nd) ∧ (0 ≤ q.2.1 ∧ q.2.1 < 8) → k ≤ q.2.2 ∧ q.2.2 ≤ τ.e q.2.2 ∧ τ.e q.2.2 ≤ τ.2 → τ.k q.2.2 = 40 → l.length < 6 → ∀ h', RM np h h' → TM h' τ (τ.e q.2.2) → MRs np h' st (pAdd p 4 q.1 q.2.1) ((false, p.z) :: l) → K (iI 1) h') :
    XW (d + 6) 249 63 [.ref 118, .int (iI l.length), .int (iI w), .int (iI 1), .null, .null] [] h (KI K) := by
  have hL := hC.1
  have hY := hC.2.2.1
  have q := TM.pos hY hT
  have mk := mK_in q.2.2
  have h13 := hM.2.2.2.2
  have hC0 := hC
  unfold gQ at k1 k2 k3 kt
  by_cases z : τ.k k = 2
  · have vi := XT.v_at hY.1 hT.1.1 hT.1.2 z
    have ea := XT.e_at hY.1 hT.1.1 hT.1.2
    have aa := XT.a_at hY.1 hT.1.1 hT.1.2
    have z3 : mK (τ.k k) = 3 := mk.2.2.1.2 z
    have v118 : gI h 118 7 = iI (τ.v k) := by rw [gI_F, hT.2.2.2.2.1 z]
    rw [if_pos z] at k1 k2 k3 kt
    by_cases y : nd ≤ τ.v k
    · have R := k1 (2, τ.a k) (by rw [if_pos y]) _ (RM.wrg h 2 (τ.a k)) (wrg_MF (by omega) (by omega))
      refine w_iload3 r_249_63 ?_
      refine v_if_ne r_249_64 (by first | exact zF_in _ _ _ | exact zA_in _ _ _ | omega) (fun _ => ?_) (fun q => absurd q (by omega))
      refine w_aload0 r_249_99 ?_
      refine v_getI r_249_100 (Lk_118 hL) hT.i.2.2 ?_
      refine w_iconst (v := iI (3)) r_249_103 rfl ?_
      refine v_ic_eq r_249_104 (by first | exact zF_in _ _ _ | exact zA_in _ _ _ | omega) (by first | exact zF_in _ _ _ | exact zA_in _ _ _ | omega) (fun _ => ?_) (fun q => absurd q (by omega))
      refine w_aload0 r_249_117 ?_
      refine v_getI r_249_118 (Lk_118 hL) v118 ?_
      refine w_istore4 r_249_121 rfl ?_
      refine w_iload4 r_249_123 ?_
      refine w_aload0 r_249_125 ?_
      refine v_getI r_249_126 (Lk_118 hL) hC.2.2.2.2.1 ?_
      refine v_ic_lt r_249_129 (by first | exact zF_in _ _ _ | exact zA_in _ _ _ | omega) (by first | exact zF_in _ _ _ | exact zA_in _ _ _ | omega) (fun q => absurd q (by omega)) (fun _ => ?_)
      refine w_aload0 r_249_132 ?_
      refine w_iconst (v := iI (2)) r_249_133 rfl ?_
      refine w_aload0 r_249_134 ?_
      refine v_getI r_249_135 (Lk_118 hL) hT.i.1 ?_
      refine k_174 r_249_138 (Lk_118 hL) (Nat.le_of_ble_eq_true rfl) ?_
      refine m_wrong0 hL h13 ?_
      refine w_zret r_249_141 (by decide) ?_
      exact R
    · rw [if_neg y] at k1 k2 k3 kt
      have mid : ∀ g, Fr PTm h g → TM g τ (τ.e k) → XW (d + 6) 249 146 [.ref 118, .int (iI l.length), .int (iI w), .int (iI 1), .int (iI (τ.v k)), .null] [] g (KI K) := by
        intro g fg Tg
        have rg : RM np h g := RM.tm fg
        have hC := hC0.rm rg
        have hL := hC.1
        have Yg := hC.2.2.1
        have Mg := hM.tm fg hnp.1
        have n13 := Mg.2.2.2.2
        have qg := TM.pos Yg Tg
        have eg := XT.e_at Yg.1 Tg.1.1 Tg.1.2
        have ag := XT.a_at Yg.1 Tg.1.1 Tg.1.2
        refine w_aload0 r_249_146 ?_
        refine w_ldcS (a := 1000072) r_249_147 rfl ?_
        refine k_176 r_249_149 (Lk_118 hL) (Nat.le_of_ble_eq_true rfl) ?_
        refine m_must0 (d := d) hL Yg Tg n13 (sS_31 hL hC.2.1) (fun u g2 f2 T2 => ?_) (fun u => ?_)
        skip
        rotate_left
        · have R := k1 _ (bnd_l (by unfold gWord; rw [if_neg (by rw [u]; decide)])) _ (rg.trans (RM.wrg g 1 (τ.a (τ.e k)))) (wrg_MF (by omega) (by omega))
          have w13 := wrg_13 g 1 (τ.a (τ.e k))
          have hL := (wrg_fr g 1 (τ.a (τ.e k))).lay hL
          refine w_popI r_249_152 ?_
          refine w_aload0 r_249_153 ?_
          refine v_getI r_249_154 (Lk_118 hL) w13 ?_
          refine v_if_eq r_249_157 (by first | exact zF_in _ _ _ | exact zA_in _ _ _ | omega) (fun q => absurd q (by omega)) (fun _ => ?_)
          refine w_iconst (v := iI (0)) r_249_160 rfl ?_
          refine w_zret r_249_161 (by decide) ?_
          exact R
        have gW : gWord τ sW_is (τ.e k) = .inr (τ.e (τ.e k)) := by unfold gWord; rw [if_pos u]
        rw [bnd_r gW] at k1 k2 k3 kt
        have ej : k ≤ τ.e (τ.e k) := by omega
        generalize τ.e (τ.e k) = j at k1 k2 k3 kt T2 ej
        have r2 : RM np h g2 := rg.trans (RM.tm f2)
        have hC := hC0.rm r2
        have hL := hC.1
        have Y2 := hC.2.2.1
        have M2 := Mg.tm f2 hnp.1
        have m13 := M2.2.2.2.2
        have q2 := TM.pos Y2 T2
        have e2 := XT.e_at Y2.1 T2.1.1 T2.1.2
        have a2 := XT.a_at Y2.1 T2.1.1 T2.1.2
        by_cases x : τ.nm j = true
        · rw [if_pos x] at k1 k2 k3 kt
          have w1 := nm_word x
          have ni := nmI_in B.nm B.g (τ.w j) hg.1
          have isn : ∀ (KK : Int32 → XH → Prop), KK (iI 1) g2 → XW (d + 5) 177 0 [.ref 118, .null] [] g2 (KI KK) := fun KK kk => m_isName hL hC.2.1 Y2 T2 m13 (fun _ => kk) (fun z => absurd x (by rw [z]; decide))
          have fnd : ∀ (KK : Int32 → XH → Prop), KK (iI (nmI B.nm B.g (τ.w j))) g2 → XW (d + 5) 178 0 [.ref 118, .ref 121, .ref 122, .int (iI B.g), .null, .null, .null] [] g2 (KI KK) := fun KK kk => m_find hL Y2 T2 w1 ⟨⟨Lk_121 hL, Lz_121 hL, by decide⟩, Lk_122 hL, Lz_122 hL, by decide⟩ hg (fun i a b => (hC.2.2.2.1.2.1 i a b).1) kk
          have v189 := e22 hC.2.2.2.1
          by_cases v : nmI B.nm B.g (τ.w j) = -1
          · have R := k1 (2, τ.a j) (by rw [if_pos v]) _ (r2.trans (RM.wrg g2 2 (τ.a j))) (wrg_MF (by omega) (by omega))
            refine w_popI r_249_152 ?_
            refine w_aload0 r_249_153 ?_
            refine v_getI r_249_154 (Lk_118 hL) m13 ?_
            refine v_if_eq r_249_157 (by first | exact zF_in _ _ _ | exact zA_in _ _ _ | omega) (fun _ => ?_) (fun q => absurd q (by omega))
            refine w_aload0 r_249_162 ?_
            refine k_177 r_249_163 (Lk_118 hL) (Nat.le_of_ble_eq_true rfl) ?_
            refine isn _ ?_
            refine v_if_ne r_249_166 (by first | exact zF_in _ _ _ | exact zA_in _ _ _ | omega) (fun _ => ?_) (fun q => absurd q (by omega))
            refine w_aload0 r_249_179 ?_
            refine w_aload0 r_249_180 ?_
            refine w_getA (x := 121) r_249_181 (Lk_118 hL) (Lr_118_14 hL) (by decide) ?_
            refine w_aload0 r_249_184 ?_
            refine w_getA (x := 122) r_249_185 (Lk_118 hL) (Lr_118_15 hL) (by decide) ?_
            refine w_aload0 r_249_188 ?_
            refine v_getI r_249_189 (Lk_118 hL) v189 ?_
            refine k_178 r_249_192 (Lk_118 hL) (Nat.le_of_ble_eq_true rfl) ?_
            refine fnd _ ?_
            refine w_istore5 r_249_195 rfl ?_
            refine w_iload5 r_249_197 ?_
            refine v_if_ge r_249_199 (by first | exact zF_in _ _ _ | exact zA_in _ _ _ | omega) (fun q => absurd q (by omega)) (fun _ => ?_)
            refine w_aload0 r_249_202 ?_
            refine w_iconst (v := iI (2)) r_249_203 rfl ?_
            refine w_aload0 r_249_204 ?_
            refine v_getI r_249_205 (Lk_118 hL) T2.i.1 ?_
            refine k_174 r_249_208 (Lk_118 hL) (Nat.le_of_ble_eq_true rfl) ?_
            refine m_wrong0 hL m13 ?_
            refine w_zret r_249_211 (by decide) ?_
            exact R
          · rw [if_neg v] at k2 k3 kt
            have k2 := k2 _ rfl
            have k3 := k3 _ rfl
            have kt := kt _ rfl ⟨⟨by show 0 ≤ τ.v k; omega, by show τ.v k < nd; omega⟩, by show 0 ≤ nmI B.nm B.g (τ.w j); omega, by show nmI B.nm B.g (τ.w j) < 8; omega⟩
            dsimp only at k2 k3 kt
            have lst : ∀ g3, Fr PTm g2 g3 → TM g3 τ (τ.e j) → XW (d + 6) 249 216 [.ref 118, .int (iI l.length), .int (iI w), .int (iI 1), .int (iI (τ.v k)), .int (iI (nmI B.nm B.g (τ.w j)))] [] g3 (KI K) := by
              intro g3 f3 t3
              have r3 : RM np h g3 := r2.trans (RM.tm f3)
              have hC := hC0.rm r3
              have hL := hC.1
              have Y3 := hC.2.2.1
              have M3 := M2.tm f3 hnp.1
              have l13 := M3.2.2.2.2
              have q3 := TM.pos Y3 t3
              have mk3 := mK_in q3.2.2
              have e3 := XT.e_at Y3.1 t3.1.1 t3.1.2
              have a3 := XT.a_at Y3.1 t3.1.1 t3.1.2
              by_cases c40 : τ.k (τ.e j) = 40
              · have z40 : mK (τ.k (τ.e j)) = 40 := by rw [c40]; rfl
                by_cases c6 : l.length < 6
                · have fin : ∀ g4, Fr PTm g3 g4 → TM g4 τ (τ.e (τ.e j)) → XW (d + 6) 249 255 [.ref 118, .int (iI l.length), .int (iI w), .int (iI 1), .int (iI (τ.v k)), .int (iI (nmI B.nm B.g (τ.w j)))] [] g4 (KI K) := by
                    intro g4 f4 t4
                    have r4 : RM np h g4 := r3.trans (RM.tm f4)
                    have hC := hC0.rm r4
                    have hL := hC.1
                    have M4 := M3.tm f4 hnp.1
                    have A := fun g5 (f5 : Fr pOr g4 g5) e5 nw sm => by
                      have o := MRs.opn (a := τ.v k) (b := nmI B.nm B.g (τ.w j)) f5 e5 nw sm hnp.1 hz M4
                      exact kt (by omega) c40 c6 _ (r4.trans o.1) (((pOr_TM f5 t4).row (by decide)).row (by decide)) o.2
                    refine w_aload0 r_249_255 ?_
                    refine w_getA (x := 146) r_249_256 (Lk_118 hL) (Lr_118_60 hL) (by decide) ?_
                    refine w_iload1 r_249_259 ?_
                    refine w_aload0 r_249_260 ?_
                    refine w_iconst (v := iI (1)) r_249_261 rfl ?_
                    refine w_iload4 r_249_262 ?_
                    refine w_iload5 r_249_264 ?_
                    refine w_iconst (v := iI (0)) r_249_266 rfl ?_
                    refine k_246 r_249_267 (Lk_118 hL) (Nat.le_of_ble_eq_true rfl) ?_
                    refine m_order (d := d + 5) (np := np) (z := p.z) hL ⟨by decide, by omega, by omega, by decide⟩ ⟨hC.2.2.2.2.2, hnp⟩ ⟨M4.1, hz⟩ (fun g5 f5 e5 nw sm => ?_)
                    have hL := f5.lay hL
                    refine v_iast r_249_270 (Lk_146 hL) (Ln_146 hL) (Lz_146 hL) (by decide) (by omega) ?_
                    refine w_aload0 r_249_271 ?_
                    refine w_getA (x := 148) r_249_272 (Lk_118 hL) (Lr_118_62 hL) (by decide) ?_
                    refine w_iload1 r_249_275 ?_
                    refine w_iconst (v := iI (0)) r_249_276 rfl ?_
                    refine v_zast r_249_277 (Lk_148 hL) (Ln_148 hL) (Lz_148 hL) (by decide) (by omega) (by decide) ?_
                    refine w_iconst (v := iI (1)) r_249_278 rfl ?_
                    refine w_zret r_249_279 (by decide) ?_
                    exact A g5 f5 e5 nw sm
                  refine w_aload0 r_249_216 ?_
                  refine v_getI r_249_217 (Lk_118 hL) t3.i.2.2 ?_
                  refine w_bipush (v := iI (40)) r_249_220 rfl ?_
                  refine v_ic_eq r_249_222 (by first | exact zF_in _ _ _ | exact zA_in _ _ _ | omega) (by first | exact zF_in _ _ _ | exact zA_in _ _ _ | omega) (fun _ => ?_) (fun q => absurd q (by omega))
                  refine w_iload1 r_249_235 ?_
                  refine w_bipush (v := iI (6)) r_249_236 rfl ?_
                  refine v_ic_ne r_249_238 (by first | exact zF_in _ _ _ | exact zA_in _ _ _ | omega) (by first | exact zF_in _ _ _ | exact zA_in _ _ _ | omega) (fun _ => ?_) (fun q => absurd q (by omega))
                  refine w_aload0 r_249_251 ?_
                  refine k_172 r_249_252 (Lk_118 hL) (Nat.le_of_ble_eq_true rfl) ?_
                  refine m_next (d := d + 4) hL Y3 (by omega) t3.i.2.1 (fun g4 f4 t4 => ?_)
                  exact fin g4 f4 t4
                · have R := k3 c40 (by omega) _ (r3.trans (RM.wrg g3 5 (τ.a (τ.e j)))) (wrg_MF (by omega) (by omega))
                  refine w_aload0 r_249_216 ?_
                  refine v_getI r_249_217 (Lk_118 hL) t3.i.2.2 ?_
                  refine w_bipush (v := iI (40)) r_249_220 rfl ?_
                  refine v_ic_eq r_249_222 (by first | exact zF_in _ _ _ | exact zA_in _ _ _ | omega) (by first | exact zF_in _ _ _ | exact zA_in _ _ _ | omega) (fun _ => ?_) (fun q => absurd q (by omega))
                  refine w_iload1 r_249_235 ?_
                  refine w_bipush (v := iI (6)) r_249_236 rfl ?_
                  refine v_ic_ne r_249_238 (by first | exact zF_in _ _ _ | exact zA_in _ _ _ | omega) (by first | exact zF_in _ _ _ | exact zA_in _ _ _ | omega) (fun q => absurd q (by omega)) (fun _ => ?_)
                  refine w_aload0 r_249_241 ?_
                  refine w_iconst (v := iI (5)) r_249_242 rfl ?_
                  refine w_aload0 r_249_243 ?_
                  refine v_getI r_249_244 (Lk_118 hL) t3.i.1 ?_
                  refine k_174 r_249_247 (Lk_118 hL) (Nat.le_of_ble_eq_true rfl) ?_
                  refine m_wrong0 hL l13 ?_
                  refine w_zret r_249_250 (by decide) ?_
                  exact R
              · have z40 : ¬ mK (τ.k (τ.e j)) = 40 := fun x => c40 (by rw [← mk3.2.2.2.2.2 (by omega)]; exact x)
                have R := k2 c40 _ (r3.trans (RM.wrg g3 1 (τ.a (τ.e j)))) (wrg_MF (by omega) (by omega))
                refine w_aload0 r_249_216 ?_
                refine v_getI r_249_217 (Lk_118 hL) t3.i.2.2 ?_
                refine w_bipush (v := iI (40)) r_249_220 rfl ?_
                refine v_ic_eq r_249_222 (by first | exact zF_in _ _ _ | exact zA_in _ _ _ | omega) (by first | exact zF_in _ _ _ | exact zA_in _ _ _ | omega) (fun q => absurd q (by omega)) (fun _ => ?_)
                refine w_aload0 r_249_225 ?_
                refine w_iconst (v := iI (1)) r_249_226 rfl ?_
                refine w_aload0 r_249_227 ?_
                refine v_getI r_249_228 (Lk_118 hL) t3.i.1 ?_
                refine k_174 r_249_231 (Lk_118 hL) (Nat.le_of_ble_eq_true rfl) ?_
                refine m_wrong0 hL l13 ?_
                refine w_zret r_249_234 (by decide) ?_
                exact R
            refine w_popI r_249_152 ?_
            refine w_aload0 r_249_153 ?_
            refine v_getI r_249_154 (Lk_118 hL) m13 ?_
            refine v_if_eq r_249_157 (by first | exact zF_in _ _ _ | exact zA_in _ _ _ | omega) (fun _ => ?_) (fun q => absurd q (by omega))
            refine w_aload0 r_249_162 ?_
            refine k_177 r_249_163 (Lk_118 hL) (Nat.le_of_ble_eq_true rfl) ?_
            refine isn _ ?_
            refine v_if_ne r_249_166 (by first | exact zF_in _ _ _ | exact zA_in _ _ _ | omega) (fun _ => ?_) (fun q => absurd q (by omega))
            refine w_aload0 r_249_179 ?_
            refine w_aload0 r_249_180 ?_
            refine w_getA (x := 121) r_249_181 (Lk_118 hL) (Lr_118_14 hL) (by decide) ?_
            refine w_aload0 r_249_184 ?_
            refine w_getA (x := 122) r_249_185 (Lk_118 hL) (Lr_118_15 hL) (by decide) ?_
            refine w_aload0 r_249_188 ?_
            refine v_getI r_249_189 (Lk_118 hL) v189 ?_
            refine k_178 r_249_192 (Lk_118 hL) (Nat.le_of_ble_eq_true rfl) ?_
            refine fnd _ ?_
            refine w_istore5 r_249_195 rfl ?_
            refine w_iload5 r_249_197 ?_
            refine v_if_ge r_249_199 (by first | exact zF_in _ _ _ | exact zA_in _ _ _ | omega) (fun _ => ?_) (fun q => absurd q (by omega))
            refine w_aload0 r_249_212 ?_
            refine k_172 r_249_213 (Lk_118 hL) (Nat.le_of_ble_eq_true rfl) ?_
            refine m_next (d := d + 4) hL Y2 (by omega) T2.i.2.1 (fun g3 f3 t3 => ?_)
            exact lst g3 f3 t3
        · rw [if_neg x] at k1
          have isn : ∀ (KK : Int32 → XH → Prop), KK (iI 0) g2 → XW (d + 5) 177 0 [.ref 118, .null] [] g2 (KI KK) := fun KK kk => m_isName hL hC.2.1 Y2 T2 m13 (fun z => absurd z x) (fun _ => kk)
          have R := k1 (1, τ.a j) rfl _ (r2.trans (RM.wrg g2 1 (τ.a j))) (wrg_MF (by omega) (by omega))
          refine w_popI r_249_152 ?_
          refine w_aload0 r_249_153 ?_
          refine v_getI r_249_154 (Lk_118 hL) m13 ?_
          refine v_if_eq r_249_157 (by first | exact zF_in _ _ _ | exact zA_in _ _ _ | omega) (fun _ => ?_) (fun q => absurd q (by omega))
          refine w_aload0 r_249_162 ?_
          refine k_177 r_249_163 (Lk_118 hL) (Nat.le_of_ble_eq_true rfl) ?_
          refine isn _ ?_
          refine v_if_ne r_249_166 (by first | exact zF_in _ _ _ | exact zA_in _ _ _ | omega) (fun q => absurd q (by omega)) (fun _ => ?_)
          refine w_aload0 r_249_169 ?_
          refine w_iconst (v := iI (1)) r_249_170 rfl ?_
          refine w_aload0 r_249_171 ?_
          refine v_getI r_249_172 (Lk_118 hL) T2.i.1 ?_
          refine k_174 r_249_175 (Lk_118 hL) (Nat.le_of_ble_eq_true rfl) ?_
          refine m_wrong0 hL m13 ?_
          refine w_zret r_249_178 (by decide) ?_
          exact R
      refine w_iload3 r_249_63 ?_
      refine v_if_ne r_249_64 (by first | exact zF_in _ _ _ | exact zA_in _ _ _ | omega) (fun _ => ?_) (fun q => absurd q (by omega))
      refine w_aload0 r_249_99 ?_
      refine v_getI r_249_100 (Lk_118 hL) hT.i.2.2 ?_
      refine w_iconst (v := iI (3)) r_249_103 rfl ?_
      refine v_ic_eq r_249_104 (by first | exact zF_in _ _ _ | exact zA_in _ _ _ | omega) (by first | exact zF_in _ _ _ | exact zA_in _ _ _ | omega) (fun _ => ?_) (fun q => absurd q (by omega))
      refine w_aload0 r_249_117 ?_
      refine v_getI r_249_118 (Lk_118 hL) v118 ?_
      refine w_istore4 r_249_121 rfl ?_
      refine w_iload4 r_249_123 ?_
      refine w_aload0 r_249_125 ?_
      refine v_getI r_249_126 (Lk_118 hL) hC.2.2.2.2.1 ?_
      refine v_ic_lt r_249_129 (by first | exact zF_in _ _ _ | exact zA_in _ _ _ | omega) (by first | exact zF_in _ _ _ | exact zA_in _ _ _ | omega) (fun _ => ?_) (fun q => absurd q (by omega))
      refine w_aload0 r_249_142 ?_
      refine k_172 r_249_143 (Lk_118 hL) (Nat.le_of_ble_eq_true rfl) ?_
      refine m_next (d := d + 4) hL hY (by omega) hT.i.2.1 (fun g f t => ?_)
      exact mid g f t
  · have z3 : ¬ mK (τ.k k) = 3 := fun x => z (mk.2.2.1.1 x)
    rw [if_neg z] at k1
    have R := k1 (1, τ.a k) rfl _ (RM.wrg h 1 (τ.a k)) (wrg_MF (by omega) (by omega))
    refine w_iload3 r_249_63 ?_
    refine v_if_ne r_249_64 (by first | exact zF_in _ _ _ | exact zA_in _ _ _ | omega) (fun _ => ?_) (fun q => absurd q (by omega))
    refine w_aload0 r_249_99 ?_
    refine v_getI r_249_100 (Lk_118 hL) hT.i.2.2 ?_
    refine w_iconst (v := iI (3)) r_249_103 rfl ?_
    refine v_ic_eq r_249_104 (by first | exact zF_in _ _ _ | exact zA_in _ _ _ | omega) (by first | exact zF_in _ _ _ | exact zA_in _ _ _ | omega) (fun q => absurd q (by omega)) (fun _ => ?_)
    refine w_aload0 r_249_107 ?_
    refine w_iconst (v := iI (1)) r_249_108 rfl ?_
    refine w_aload0 r_249_109 ?_
    refine v_getI r_249_110 (Lk_118 hL) hT.i.1 ?_
    refine k_174 r_249_113 (Lk_118 hL) (Nat.le_of_ble_eq_true rfl) ?_
    refine m_wrong0 hL h13 ?_
    refine w_zret r_249_116 (by decide) ?_
    exact R
end MP2
