/-! the Model reads a plan: a block ends, the whole plan -/
section MP4
variable {d : Nat} {h h' : XH} {K : Int32 → XH → Prop} {KU : XH → Prop} {τ : XT} {k st nd np : Int} {B : XB} {p : XL} {l l' t : List (Bool × Int)}
theorem m_lnd_RM (f : Fr (pA [144]) h h') (low : ∀ x, 0 ≤ x → x < 512 * np → zA h' 144 x = zA h 144 x) : RM np h h' := ⟨f.mono (fun a j q => by simp [pPm] at q; simp [pA]; omega), low, fun q => ⟨by rw [← (f.2 118 13 (by simp [pA])).1]; exact q, f.F (by simp [pA])⟩⟩
theorem pA145_TM (f : Fr (pA [144]) h h') (hT : TM h τ k) : TM h' τ k := hT.fr f (fun j q => by simp [pA]) (fun j => by simp [pA])
theorem m_close {e0 : Bool} {i0 kk0 : Int} {X5 : Value} (hC : MCx τ B nd np h) (hnp : 0 ≤ np ∧ np ≤ 8) (hT : TM h τ k) (hM : MRs np h st p ((e0, i0) :: t)) (hS : SOk nd (kk0, st, p, (e0, i0) :: t))
    (kf : e0 = false → τ.is k sW_else = true → ¬ τ.k (τ.e k) = 40 → ∀ h', RM np h h' → MF h' (1, τ.a (τ.e k)) → KU h')
    (k0 : e0 = false → τ.is k sW_else = true → τ.k (τ.e k) = 40 → ∀ h', RM np h h' → TM h' τ (τ.e (τ.e k)) → MRs np h' st (pLand (pAdd p 5 0 (-1)) i0) ((true, p.z) :: t) → XW (d + 7) 250 4 [.ref 118, .int (iI (t.length + 1)), .int (iI 1), .int (iI 0), .int (iI 0), .int (iI 1)] [] h' (KV KU))
    (k1 : ¬ (e0 = false ∧ τ.is k sW_else = true) → ∀ h', RM np h h' → TM h' τ k → MRs np h' st (pLand p i0) t → XW (d + 7) 250 35 [.ref 118, .int (iI t.length), .int (iI 1), .int (iI 0), .int (iI 1), .int (iI 0)] [] h' (KV KU)) :
    XW (d + 7) 250 57 [.ref 118, .int (iI (t.length + 1)), .int (iI 1), .int (iI 0), .int (iI 1), X5] [] h (KV KU) := by
  have hL := hC.1
  have hY := hC.2.2.1
  have q := TM.pos hY hT
  have h13 := hM.2.2.2.2
  have hC0 := hC
  have s1 : 0 ≤ st ∧ st ≤ 40 := hS.1
  have s2 : 0 ≤ p.z ∧ p.z + ((if e0 = true then 0 else 1) + opF t) ≤ 2 * st := hS.2.1
  have s3 : t.length + 1 ≤ 6 := hS.2.2.1
  have s5 := hS.2.2.2.2 e0 i0 List.mem_cons_self
  have s5 : 0 ≤ i0 ∧ i0 < p.z ∧ 4 ≤ p.kd i0 := s5
  have on := opF_nn t
  have z80 : p.z ≤ 80 := by
    have : 0 ≤ (if e0 = true then (0 : Int) else 1) := by split <;> decide
    omega
  have x1 : (t.length : Int) + 1 + -1 = t.length := by omega
  have m1 : zA h 148 t.length = b2i e0 := hM.2.2.2.1.1
  have v64 : gI h 148 (t.length : Int).toNat = iI (b2i e0) := by rw [gI_A, m1]
  cases e0 with
  | true =>
    have m2 : zA h 147 t.length = i0 := hM.2.2.2.1.2.1
    have v172 : gI h 147 (t.length : Int).toNat = iI i0 := by rw [gI_A, m2]
    have v64 : gI h 148 (t.length : Int).toNat = iI 1 := v64
    have J := fun g (f : Fr (pA [144]) h g) nw sm lo => k1 (by simp) g (m_lnd_RM f lo) (pA145_TM f hT) (hM.lnd f nw sm hnp.1 s5.1)
    have go : XW (d + 7) 250 60 [.ref 118, .int (iI t.length), .int (iI 1), .int (iI 0), .int (iI 1), X5] [] h (KV KU) := by
      refine w_aload0 r_250_60 ?_
      refine w_getA (x := 148) r_250_61 (Lk_118 hL) (Lr_118_62 hL) (by decide) ?_
      refine w_iload1 r_250_64 ?_
      refine v_bald r_250_65 (Or.inr (Lk_148 hL)) (Lz_148 hL) (by decide) (by omega) v64 ?_
      refine v_if_ne r_250_66 (by first | exact zF_in _ _ _ | exact zA_in _ _ _ | omega) (fun _ => ?_) (fun q => absurd q (by omega))
      refine w_iconst (v := iI (0)) r_250_82 rfl ?_
      refine w_istore5 r_250_83 rfl ?_
      refine w_iload5 r_250_85 ?_
      refine v_if_eq r_250_87 (by first | exact zF_in _ _ _ | exact zA_in _ _ _ | omega) (fun _ => ?_) (fun q => absurd q (by omega))
      refine w_aload0 r_250_158 ?_
      refine w_aload0 r_250_159 ?_
      refine w_getA (x := 148) r_250_160 (Lk_118 hL) (Lr_118_62 hL) (by decide) ?_
      refine w_iload1 r_250_163 ?_
      refine v_bald r_250_164 (Or.inr (Lk_148 hL)) (Lz_148 hL) (by decide) (by omega) v64 ?_
      refine v_if_eq r_250_165 (by first | exact zF_in _ _ _ | exact zA_in _ _ _ | omega) (fun q => absurd q (by omega)) (fun _ => ?_)
      refine w_aload0 r_250_168 ?_
      refine w_getA (x := 147) r_250_169 (Lk_118 hL) (Lr_118_61 hL) (by decide) ?_
      refine w_iload1 r_250_172 ?_
      refine v_iald r_250_173 (Lk_147 hL) (Lz_147 hL) (by decide) (by omega) v172 ?_
      refine w_goto r_250_174 ?_
      refine k_247 r_250_183 (Lk_118 hL) (Nat.le_of_ble_eq_true rfl) ?_
      refine m_lands (d := d + 6) (np := np) (z := p.z) hL (by omega) ⟨hC.2.2.2.2.2, hnp⟩ ⟨hM.1, by omega⟩ (fun g f nw sm lo => ?_)
      refine w_goto r_250_186 ?_
      exact J g f nw sm lo
    refine w_iinc1 r_250_57 rfl (iI_add _ _) ?_
    rw [x1]
    exact go
  | false =>
    have m2 : zA h 146 t.length = i0 := hM.2.2.2.1.2.1
    have v181 : gI h 146 (t.length : Int).toNat = iI i0 := by rw [gI_A, m2]
    have v64 : gI h 148 (t.length : Int).toNat = iI 0 := v64
    rw [if_neg (by decide)] at s2
    have go : XW (d + 7) 250 60 [.ref 118, .int (iI t.length), .int (iI 1), .int (iI 0), .int (iI 1), X5] [] h (KV KU) := by
      by_cases w : τ.is k sW_else = true
      · have k0 := k0 rfl w
        have kf := kf rfl w
        have mid : ∀ g, Fr PTm h g → TM g τ (τ.e k) → XW (d + 7) 250 94 [.ref 118, .int (iI t.length), .int (iI 1), .int (iI 0), .int (iI 1), .int (iI 1)] [] g (KV KU) := by
          intro g fg Tg
          have rg : RM np h g := RM.tm fg
          have hC := hC0.rm rg
          have hL := hC.1
          have Yg := hC.2.2.1
          have Mg := hM.tm fg hnp.1
          have n13 := Mg.2.2.2.2
          have qg := TM.pos Yg Tg
          have mk := mK_in qg.2.2
          by_cases c40 : τ.k (τ.e k) = 40
          · have z40 : mK (τ.k (τ.e k)) = 40 := by rw [c40]; rfl
            have k0 := k0 c40
            have fin : ∀ g3, Fr PTm g g3 → TM g3 τ (τ.e (τ.e k)) → XW (d + 7) 250 118 [.ref 118, .int (iI t.length), .int (iI 1), .int (iI 0), .int (iI 1), .int (iI 1)] [] g3 (KV KU) := by
              intro g3 f3 T3
              have r3 : RM np h g3 := rg.trans (RM.tm f3)
              have hC := hC0.rm r3
              have hL := hC.1
              have M3 := Mg.tm f3 hnp.1
              have tail : ∀ g4, Fr pOr g3 g4 → gI g4 118 58 = iI (p.z + 1) → (np < 8 → zA g4 144 (512 * np + 4 * p.z) = 2 ∧ zA g4 144 (512 * np + 4 * p.z + 1) = 0 ∧ zA g4 144 (512 * np + 4 * p.z + 2) = 0) → (∀ x, 0 ≤ x → ¬ (512 * np + 4 * p.z ≤ x ∧ x < 512 * np + 4 * p.z + 4) → zA g4 144 x = zA g3 144 x) → XW (d + 7) 250 132 [.ref 118, .int (iI t.length), .int (iI 1), .int (iI 0), .int (iI 1), .int (iI 1)] [] (sI g4 147 (t.length : Int).toNat (iI p.z)) (KV KU) := by
                intro g4 f4 e58 nw sm
                have r4 := pOr_RM f4 s2.1 sm
                have F5 : Fr (pA [147]) g4 (sI g4 147 (t.length : Int).toNat (iI p.z)) := (Fr.refl _ _).sI 147 _ _ (by simp [pA])
                have r5 : RM np g4 (sI g4 147 (t.length : Int).toNat (iI p.z)) := RM.of F5 (fun a j q => by simp [pPm] at q; simp [pA]; omega) (fun j => by simp [pA])
                have r5 := (r3.trans r4).trans r5
                have hC := hC0.rm r5
                have hL := hC.1
                have z5 : zA (sI g4 147 (t.length : Int).toNat (iI p.z)) 146 t.length = i0 := by
                  have : zA g3 146 t.length = i0 := M3.2.2.2.1.2.1
                  rw [zA_o _ (by decide), f4.A (by simp [pO, pA, pF])]; exact this
                have v138 : gI (sI g4 147 (t.length : Int).toNat (iI p.z)) 146 (t.length : Int).toNat = iI i0 := by rw [gI_A, z5]
                have e58' : gI (sI g4 147 (t.length : Int).toNat (iI p.z)) 118 58 = iI (p.z + 1) := by rw [sI_other _ (by decide)]; exact e58
                have J := fun g5 (f5 : Fr (pA [144]) (sI g4 147 (t.length : Int).toNat (iI p.z)) g5) nw5 sm5 lo5 => k0 (sI g5 148 (t.length : Int).toNat (iI 1)) ((r5.trans (m_lnd_RM f5 lo5)).trans (RM.of (P := pA [148]) ((Fr.refl _ _).sI 148 _ _ (by simp [pA])) (fun a j q => by simp [pPm] at q; simp [pA]; omega) (fun j => by simp [pA]))) ((pA145_TM f5 ((pOr_TM f4 T3).row (by decide))).row (by decide)) (MRs.els f4 e58 nw sm hnp.1 (by omega) s5.1 f5 nw5 sm5 M3)
                have J35 : ∀ g6, XW (d + 7) 250 4 [.ref 118, .int (iI (t.length + 1)), .int (iI 1), .int (iI 0), .int (iI 0), .int (iI 1)] [] g6 (KV KU) → XW (d + 7) 250 35 [.ref 118, .int (iI (t.length + 1)), .int (iI 1), .int (iI 0), .int (iI 0), .int (iI 1)] [] g6 (KV KU) := by
                  intro g6 J
                  refine w_iload4 r_250_35 ?_
                  refine v_if_eq r_250_37 (by first | exact zF_in _ _ _ | exact zA_in _ _ _ | omega) (fun _ => ?_) (fun q => absurd q (by omega))
                  refine w_iload4 r_250_189 ?_
                  refine v_if_ne r_250_191 (by first | exact zF_in _ _ _ | exact zA_in _ _ _ | omega) (fun q => absurd q (by omega)) (fun _ => ?_)
                  refine w_goto r_250_194 ?_
                  exact J
                generalize sI g4 147 (t.length : Int).toNat (iI p.z) = g4' at *
                refine w_aload0 r_250_132 ?_
                refine w_aload0 r_250_133 ?_
                refine w_getA (x := 146) r_250_134 (Lk_118 hL) (Lr_118_60 hL) (by decide) ?_
                refine w_iload1 r_250_137 ?_
                refine v_iald r_250_138 (Lk_146 hL) (Lz_146 hL) (by decide) (by omega) v138 ?_
                refine k_247 r_250_139 (Lk_118 hL) (Nat.le_of_ble_eq_true rfl) ?_
                refine m_lands (d := d + 6) (np := np) (z := p.z + 1) hL (by omega) ⟨hC.2.2.2.2.2, hnp⟩ ⟨e58', by omega⟩ (fun g5 f5 nw5 sm5 lo5 => ?_)
                have hL := f5.lay hL
                refine w_aload0 r_250_142 ?_
                refine w_getA (x := 148) r_250_143 (Lk_118 hL) (Lr_118_62 hL) (by decide) ?_
                refine w_iload1 r_250_146 ?_
                refine w_iconst (v := iI (1)) r_250_147 rfl ?_
                refine v_zast r_250_148 (Lk_148 hL) (Ln_148 hL) (Lz_148 hL) (by decide) (by omega) (by decide) ?_
                refine w_iinc1 r_250_149 rfl (iI_add _ _) ?_
                refine w_iconst (v := iI (0)) r_250_152 rfl ?_
                refine w_istore4 r_250_153 rfl ?_
                refine w_goto r_250_155 ?_
                refine w_goto r_250_186 ?_
                exact J35 _ (J g5 f5 nw5 sm5 lo5)
              refine w_aload0 r_250_118 ?_
              refine w_getA (x := 147) r_250_119 (Lk_118 hL) (Lr_118_61 hL) (by decide) ?_
              refine w_iload1 r_250_122 ?_
              refine w_aload0 r_250_123 ?_
              refine w_iconst (v := iI (2)) r_250_124 rfl ?_
              refine w_iconst (v := iI (0)) r_250_125 rfl ?_
              refine w_iconst (v := iI (0)) r_250_126 rfl ?_
              refine w_iconst (v := iI (0)) r_250_127 rfl ?_
              refine k_246 r_250_128 (Lk_118 hL) (Nat.le_of_ble_eq_true rfl) ?_
              refine m_order (d := d + 6) (np := np) (z := p.z) hL ⟨by decide, by decide, by decide, by decide⟩ ⟨hC.2.2.2.2.2, hnp⟩ ⟨M3.1, by omega⟩ (fun g4 f4 e4 nw sm => ?_)
              have hL := f4.lay hL
              refine v_iast r_250_131 (Lk_147 hL) (Ln_147 hL) (Lz_147 hL) (by decide) (by omega) ?_
              exact tail g4 f4 e4 nw sm
            refine w_aload0 r_250_94 ?_
            refine v_getI r_250_95 (Lk_118 hL) Tg.i.2.2 ?_
            refine w_bipush (v := iI (40)) r_250_98 rfl ?_
            refine v_ic_eq r_250_100 (by first | exact zF_in _ _ _ | exact zA_in _ _ _ | omega) (by first | exact zF_in _ _ _ | exact zA_in _ _ _ | omega) (fun _ => ?_) (fun q => absurd q (by omega))
            refine w_aload0 r_250_114 ?_
            refine k_172 r_250_115 (Lk_118 hL) (Nat.le_of_ble_eq_true rfl) ?_
            refine m_next (d := d + 5) hL Yg (by omega) Tg.i.2.1 (fun g3 f3 t3 => ?_)
            exact fin g3 f3 t3
          · have z40 : ¬ mK (τ.k (τ.e k)) = 40 := fun x => c40 (by rw [← mk.2.2.2.2.2 (by omega)]; exact x)
            have R := kf c40 _ (rg.trans (RM.wrg g 1 (τ.a (τ.e k)))) (wrg_MF (by omega) (by omega))
            refine w_aload0 r_250_94 ?_
            refine v_getI r_250_95 (Lk_118 hL) Tg.i.2.2 ?_
            refine w_bipush (v := iI (40)) r_250_98 rfl ?_
            refine v_ic_eq r_250_100 (by first | exact zF_in _ _ _ | exact zA_in _ _ _ | omega) (by first | exact zF_in _ _ _ | exact zA_in _ _ _ | omega) (fun q => absurd q (by omega)) (fun _ => ?_)
            refine w_aload0 r_250_103 ?_
            refine w_iconst (v := iI (1)) r_250_104 rfl ?_
            refine w_aload0 r_250_105 ?_
            refine v_getI r_250_106 (Lk_118 hL) Tg.i.1 ?_
            refine k_174 r_250_109 (Lk_118 hL) (Nat.le_of_ble_eq_true rfl) ?_
            refine m_wrong0 hL n13 ?_
            refine w_popI r_250_112 ?_
            refine w_vret r_250_113 ?_
            exact R
        refine w_aload0 r_250_60 ?_
        refine w_getA (x := 148) r_250_61 (Lk_118 hL) (Lr_118_62 hL) (by decide) ?_
        refine w_iload1 r_250_64 ?_
        refine v_bald r_250_65 (Or.inr (Lk_148 hL)) (Lz_148 hL) (by decide) (by omega) v64 ?_
        refine v_if_ne r_250_66 (by first | exact zF_in _ _ _ | exact zA_in _ _ _ | omega) (fun q => absurd q (by omega)) (fun _ => ?_)
        refine w_aload0 r_250_69 ?_
        refine w_ldcS (a := 1000074) r_250_70 rfl ?_
        refine k_175 r_250_72 (Lk_118 hL) (Nat.le_of_ble_eq_true rfl) ?_
        refine m_word0 (d := d + 2) hL hY hT h13 (sS_32 hL hC.2.1) (fun _ => ?_) (fun z => absurd w (by rw [z]; decide))
        refine v_if_eq r_250_75 (by first | exact zF_in _ _ _ | exact zA_in _ _ _ | omega) (fun q => absurd q (by omega)) (fun _ => ?_)
        refine w_iconst (v := iI (1)) r_250_78 rfl ?_
        refine w_goto r_250_79 ?_
        refine w_istore5 r_250_83 rfl ?_
        refine w_iload5 r_250_85 ?_
        refine v_if_eq r_250_87 (by first | exact zF_in _ _ _ | exact zA_in _ _ _ | omega) (fun q => absurd q (by omega)) (fun _ => ?_)
        refine w_aload0 r_250_90 ?_
        refine k_172 r_250_91 (Lk_118 hL) (Nat.le_of_ble_eq_true rfl) ?_
        refine m_next (d := d + 5) hL hY (by omega) hT.i.2.1 (fun g f t => ?_)
        exact mid g f t
      · have J := fun g (f : Fr (pA [144]) h g) nw sm lo => k1 (fun x => w x.2) g (m_lnd_RM f lo) (pA145_TM f hT) (hM.lnd f nw sm hnp.1 s5.1)
        refine w_aload0 r_250_60 ?_
        refine w_getA (x := 148) r_250_61 (Lk_118 hL) (Lr_118_62 hL) (by decide) ?_
        refine w_iload1 r_250_64 ?_
        refine v_bald r_250_65 (Or.inr (Lk_148 hL)) (Lz_148 hL) (by decide) (by omega) v64 ?_
        refine v_if_ne r_250_66 (by first | exact zF_in _ _ _ | exact zA_in _ _ _ | omega) (fun q => absurd q (by omega)) (fun _ => ?_)
        refine w_aload0 r_250_69 ?_
        refine w_ldcS (a := 1000074) r_250_70 rfl ?_
        refine k_175 r_250_72 (Lk_118 hL) (Nat.le_of_ble_eq_true rfl) ?_
        refine m_word0 (d := d + 2) hL hY hT h13 (sS_32 hL hC.2.1) (fun z => absurd z w) (fun _ => ?_)
        refine v_if_eq r_250_75 (by first | exact zF_in _ _ _ | exact zA_in _ _ _ | omega) (fun _ => ?_) (fun q => absurd q (by omega))
        refine w_iconst (v := iI (0)) r_250_82 rfl ?_
        refine w_istore5 r_250_83 rfl ?_
        refine w_iload5 r_250_85 ?_
        refine v_if_eq r_250_87 (by first | exact zF_in _ _ _ | exact zA_in _ _ _ | omega) (fun _ => ?_) (fun q => absurd q (by omega))
        refine w_aload0 r_250_158 ?_
        refine w_aload0 r_250_159 ?_
        refine w_getA (x := 148) r_250_160 (Lk_118 hL) (Lr_118_62 hL) (by decide) ?_
        refine w_iload1 r_250_163 ?_
        refine v_bald r_250_164 (Or.inr (Lk_148 hL)) (Lz_148 hL) (by decide) (by omega) v64 ?_
        refine v_if_eq r_250_165 (by first | exact zF_in _ _ _ | exact zA_in _ _ _ | omega) (fun _ => ?_) (fun q => absurd q (by omega))
        refine w_aload0 r_250_177 ?_
        refine w_getA (x := 146) r_250_178 (Lk_118 hL) (Lr_118_60 hL) (by decide) ?_
        refine w_iload1 r_250_181 ?_
        refine v_iald r_250_182 (Lk_146 hL) (Lz_146 hL) (by decide) (by omega) v181 ?_
        refine k_247 r_250_183 (Lk_118 hL) (Nat.le_of_ble_eq_true rfl) ?_
        refine m_lands (d := d + 6) (np := np) (z := p.z) hL (by omega) ⟨hC.2.2.2.2.2, hnp⟩ ⟨hM.1, by omega⟩ (fun g f nw sm lo => ?_)
        refine w_goto r_250_186 ?_
        exact J g f nw sm lo
    refine w_iinc1 r_250_57 rfl (iI_add _ _) ?_
    rw [x1]
    exact go
end MP4
