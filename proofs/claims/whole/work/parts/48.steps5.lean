/-! the class's tolls, kept in tables -/
section S5
variable {d : Nat} {h : XH} {K : Int32 → XH → Prop} {KU : XH → Prop} {rb ca : Nat} {B : XB} {dd : Int} {M : XM}
/-- the tables hold what a step costs -/
def PE (h : XH) (B : XB) (dd : Int) (M : XM) (c way : Int) : Prop := (M.nx c way < 0 → zA h 94 (c * 4 + way) = -1) ∧ (0 ≤ M.nx c way → M.db (M.nx c way) = -1 → zA h 94 (c * 4 + way) = tg B dd M c way (M.gr (M.nx c way))) ∧
  (0 ≤ M.nx c way → 0 ≤ M.db (M.nx c way) → ∀ i, 0 ≤ i → i < mny M (M.db (M.nx c way)) → zA h 95 ((M.db (M.nx c way) * 3 + i) * 4 + way) = tg B dd M c way (chc M (M.db (M.nx c way)) i))
abbrev PTs : Nat → Nat → Bool := pO (pA [94, 95]) (pF [(91, 6), (91, 7), (91, 8), (91, 9), (91, 12)])
theorem PMs_T : ∀ a j, PTs a j = false → PMs a j = false := by
  intro a j q
  simp [pO, pA, pF] at q ⊢
  omega
theorem mny_in {G e : Int} (hm : M.ok G) (he : 0 ≤ e ∧ e < M.nd) : 1 ≤ mny M e ∧ mny M e ≤ 3 := by
  have := hm.2.2.2.2 e he.1 he.2
  unfold mny; omega
theorem chs_mem {w : Int → Int} : ∀ (n : Nat) (x : Int), x ∈ chs w n → 0 ≤ x ∧ x < n ∧ 0 < w x := by
  intro n
  induction n with
  | zero => intro x h; simp [chs] at h
  | succ n ih =>
    intro x h
    unfold chs at h
    split at h
    · rename_i q
      rw [List.mem_append, List.mem_singleton] at h
      rcases h with h | h
      · have := ih x h; omega
      · subst h; exact ⟨by omega, by omega, q⟩
    · have := ih x h; omega
theorem chc_in {G e i : Int} (hm : M.ok G) (he : 0 ≤ e ∧ e < M.nd) (hi : 0 ≤ i ∧ i < mny M e) : 0 ≤ chc M e i ∧ chc M e i < G ∧ 0 < M.wt e (chc M e i) ∧ M.wt e (chc M e i) ≤ 9 := by
  have hl : i.toNat < (chs (M.wt e) 8).length := by unfold mny at hi; omega
  have e1 : chc M e i = (chs (M.wt e) 8)[i.toNat] := by unfold chc; rw [List.getD_eq_getElem?_getD, List.getElem?_eq_getElem hl]; rfl
  have mem : chc M e i ∈ chs (M.wt e) 8 := by rw [e1]; exact List.getElem_mem hl
  have q := chs_mem 8 _ mem
  have w := hm.2.2.2.1 e he.1 he.2 (chc M e i) q.1 (by omega)
  refine ⟨q.1, ?_, q.2.2, w.2.1⟩
  apply Classical.byContradiction
  intro z
  have := w.2.2 (by omega)
  omega
theorem c_prepareStep {G c way : Int} (hL : Lay h) (hb : rb = 6 ∨ rb = 20) (hr : gR h 91 1 = rb) (hC : CBk h rb B) (ho : B.ok) (hS : CLr h B dd) (hP : CMp h M) (hm : M.ok G) (hG : G = B.g) (hd : 0 ≤ dd ∧ dd < B.w) (hc : 0 ≤ c ∧ c < M.n) (hway : 0 ≤ way ∧ way < 4)
    (kk : ∀ h', Fr PTs h h' → zF h' 91 12 = zF h 91 12 → PE h' B dd M c way → (∀ j, 0 ≤ j → ¬ j = c * 4 + way → zA h' 94 j = zA h 94 j) → (∀ e i w, 0 ≤ e → 0 ≤ i → i < 3 → 0 ≤ w → w < 4 → ¬ (w = way ∧ 0 ≤ M.nx c way ∧ M.db (M.nx c way) = e) → zA h' 95 ((e * 3 + i) * 4 + w) = zA h 95 ((e * 3 + i) * 4 + w)) → KU h') :
    XW (d + 3) 84 0 [.ref 91, .int (iI c), .int (iI way), .null, .null, .null, .null] [] h (KV KU) := by
  subst hG
  have o := ho.1
  have om1 := hm.1
  have hn := M.n_in hm
  have hb1 := M.nx_in (way := way) hm hc
  have oc := fun q : 0 ≤ M.nx c way => hm.2.1 (M.nx c way) q (by omega)
  have e85 : gI h 85 (c * 4 + way).toNat = iI (M.nx c way) := by rw [gI_A, hP.2.2.2.2.2.2 c way hc.1 hc.2 hway.1 hway.2]
  have e83 : 0 ≤ M.nx c way → gI h 83 (M.nx c way).toNat = iI (M.db (M.nx c way)) := fun q => by rw [gI_A, (hP.2.1 _ q (by omega)).2.2]
  have e82 : 0 ≤ M.nx c way → gI h 82 (M.nx c way).toNat = iI (M.gr (M.nx c way)) := fun q => by rw [gI_A, (hP.2.1 _ q (by omega)).2.1]
  have F0 : Fr PTs h h := Fr.refl _ _
  have key : 0 ≤ M.nx c way → 0 ≤ M.db (M.nx c way) → ∀ i : Nat, (i : Int) ≤ mny M (M.db (M.nx c way)) → ∀ (h1 : XH) (X : Value), Fr PTs h h1 → zF h1 91 12 = zF h 91 12 → (∀ j, zA h1 94 j = zA h 94 j) → (∀ k : Int, 0 ≤ k → k < i → zA h1 95 ((M.db (M.nx c way) * 3 + k) * 4 + way) = tg B dd M c way (chc M (M.db (M.nx c way)) k)) → (∀ e i w, 0 ≤ e → 0 ≤ i → i < 3 → 0 ≤ w → w < 4 → ¬ (w = way ∧ M.db (M.nx c way) = e) → zA h1 95 ((e * 3 + i) * 4 + w) = zA h 95 ((e * 3 + i) * 4 + w)) → XW (d + 3) 84 76 [.ref 91, .int (iI c), .int (iI way), .int (iI (M.nx c way)), .int (iI (M.db (M.nx c way))), .int (iI i), X] [] h1 (KV KU) := by
    intro q1 q2
    have oc := oc q1
    have om := mny_in hm (e := M.db (M.nx c way)) (by omega)
    generalize hD : M.db (M.nx c way) = D at *
    have e90 := (hP.ch (e := D) (by omega)).1
    have e89 := (hP.ch (e := D) (by omega)).2.2
    suffices H : ∀ i : Nat, i ≤ (mny M D).toNat → ∀ (h1 : XH) (X : Value), Fr PTs h h1 → zF h1 91 12 = zF h 91 12 → (∀ j, zA h1 94 j = zA h 94 j) → (∀ k : Int, 0 ≤ k → k < i → zA h1 95 ((D * 3 + k) * 4 + way) = tg B dd M c way (chc M D k)) → (∀ e i w, 0 ≤ e → 0 ≤ i → i < 3 → 0 ≤ w → w < 4 → ¬ (w = way ∧ D = e) → zA h1 95 ((e * 3 + i) * 4 + w) = zA h 95 ((e * 3 + i) * 4 + w)) → XW (d + 3) 84 76 [.ref 91, .int (iI c), .int (iI way), .int (iI (M.nx c way)), .int (iI D), .int (iI i), X] [] h1 (KV KU) from fun i hi => H i (by omega)
    refine upto _ ?_ ?_
    · intro h1 X f g0 g1 g2 g3
      have hL := f.lay hL
      have e90 : gI h1 89 D.toNat = iI (mny M D) := by rw [gI_A, f.A (by simp [pO, pA, pF]), e90]
      refine w_iload5 r_84_76 ?_
      refine w_aload0 r_84_78 ?_
      refine w_getA (x := 80) r_84_79 (Lk_91 hL) (Lr_91_0 hL) (by decide) ?_
      refine w_getA (x := 89) r_84_82 (Lk_80 hL) (Lr_80_13 hL) (by decide) ?_
      refine w_iload4 r_84_85 ?_
      refine v_iald r_84_87 (Lk_89 hL) (Lz_89 hL) (by decide) (by omega) e90 ?_
      refine v_ic_ge r_84_88 (by first | exact zF_in _ _ _ | exact zA_in _ _ _ | omega) (by first | exact zF_in _ _ _ | exact zA_in _ _ _ | omega) (fun _ => ?_) (fun q => absurd q (by omega))
      refine w_vret r_84_138 ?_
      refine kk h1 f g0 ⟨fun z => by omega, fun _ z => by omega, fun _ _ i i0 i1 => ?_⟩ (fun j _ _ => g1 j) (fun e i w a b a2 b2 a3 n => g3 e i w a b a2 b2 a3 (fun z => n ⟨z.1, q1, z.2⟩))
      rw [hD] at i1 ⊢
      exact g2 i i0 (by omega)
    · intro i hi ih h1 X f g0 g1 g2 g3
      have hL := f.lay hL
      have e90 : gI h1 89 D.toNat = iI (mny M D) := by rw [gI_A, f.A (by simp [pO, pA, pF]), e90]
      have e89 : gI h1 88 (D * 3 + i).toNat = iI (chc M D i) := by rw [gI_A, f.A (by simp [pO, pA, pF]), e89 i (by omega) (by omega)]
      have ci := chc_in hm (e := D) (i := i) (by omega) (by omega)
      have hC := hC.fr f hb (fun a j p q => by simp [pO, pA, pF]; omega)
      have hS := hS.fr f (by decide) (fun j => ⟨by simp [pO, pA, pF], by simp [pO, pA, pF]⟩)
      have hP := hP.fr f (fun a j p q _ => by simp [pO, pA, pF]; omega)
      have hr := (f.R 91 1).trans hr
      have ti := tg_in (way := way) (c := c) (g := chc M D i) ho hm hd ⟨ci.1, ci.2.1⟩ hc
      refine w_iload5 r_84_76 ?_
      refine w_aload0 r_84_78 ?_
      refine w_getA (x := 80) r_84_79 (Lk_91 hL) (Lr_91_0 hL) (by decide) ?_
      refine w_getA (x := 89) r_84_82 (Lk_80 hL) (Lr_80_13 hL) (by decide) ?_
      refine w_iload4 r_84_85 ?_
      refine v_iald r_84_87 (Lk_89 hL) (Lz_89 hL) (by decide) (by omega) e90 ?_
      refine v_ic_ge r_84_88 (by first | exact zF_in _ _ _ | exact zA_in _ _ _ | omega) (by first | exact zF_in _ _ _ | exact zA_in _ _ _ | omega) (fun q => absurd q (by omega)) (fun _ => ?_)
      refine w_aload0 r_84_91 ?_
      refine w_getA (x := 80) r_84_92 (Lk_91 hL) (Lr_91_0 hL) (by decide) ?_
      refine w_getA (x := 88) r_84_95 (Lk_80 hL) (Lr_80_12 hL) (by decide) ?_
      refine w_iload4 r_84_98 ?_
      refine w_iconst (v := iI (3)) r_84_100 rfl ?_
      refine v_imul r_84_101 ?_
      refine w_iload5 r_84_102 ?_
      refine v_iadd r_84_104 ?_
      refine v_iald r_84_105 (Lk_88 hL) (Lz_88 hL) (by decide) (by omega) e89 ?_
      refine w_istore6 r_84_106 rfl ?_
      refine w_aload0 r_84_108 ?_
      refine w_getA (x := 95) r_84_109 (Lk_91 hL) (Lr_91_11 hL) (by decide) ?_
      refine w_iload4 r_84_112 ?_
      refine w_iconst (v := iI (3)) r_84_114 rfl ?_
      refine v_imul r_84_115 ?_
      refine w_iload5 r_84_116 ?_
      refine v_iadd r_84_118 ?_
      refine w_iconst (v := iI (4)) r_84_119 rfl ?_
      refine v_imul r_84_120 ?_
      refine w_iload2 r_84_121 ?_
      refine v_iadd r_84_122 ?_
      refine w_aload0 r_84_123 ?_
      refine w_iload1 r_84_124 ?_
      refine w_iload2 r_84_125 ?_
      refine w_iload6 r_84_126 ?_
      refine k_85 r_84_128 (Lk_91 hL) (Nat.le_of_ble_eq_true rfl) ?_
      refine c_tollOf hL hb hr hC ho hS hP hm hd ⟨ci.1, ci.2.1⟩ hc hway (fun h2 f2 => ?_)
      have hL := f2.lay hL
      refine v_iast r_84_131 (Lk_95 hL) (Ln_95 hL) (Lz_95 hL) (by decide) (by omega) ?_
      refine w_iinc5 r_84_132 rfl (iI_add _ _) ?_
      refine w_goto r_84_135 ?_
      refine ih _ _ ((f.trans (f2.mono PMs_T)).sI 95 _ _ (by simp [pO, pA])) ?_ ?_ ?_ ?_
      · rw [zF_o (by omega), f2.F (by decide)]; exact g0
      · intro j; rw [zA_o _ (by decide), f2.A (by simp [pF])]; exact g1 j
      · intro k k0 k1
        rw [zA_s (by omega) (by omega) (by omega)]
        by_cases z : k = i
        · rw [if_pos (by omega), z]
        · rw [if_neg (by omega), f2.A (by simp [pF])]; exact g2 k k0 (by omega)
      · intro e k w a b a2 b2 a3 n
        rw [zA_s (by omega) (by omega) (by omega), if_neg (by omega), f2.A (by simp [pF])]
        exact g3 e k w a b a2 b2 a3 n
  refine w_aload0 r_84_0 ?_
  refine w_getA (x := 80) r_84_1 (Lk_91 hL) (Lr_91_0 hL) (by decide) ?_
  refine w_getA (x := 85) r_84_4 (Lk_80 hL) (Lr_80_9 hL) (by decide) ?_
  refine w_iload1 r_84_7 ?_
  refine w_iconst (v := iI (4)) r_84_8 rfl ?_
  refine v_imul r_84_9 ?_
  refine w_iload2 r_84_10 ?_
  refine v_iadd r_84_11 ?_
  refine v_iald r_84_12 (Lk_85 hL) (Lz_85 hL) (by decide) (by omega) e85 ?_
  refine w_istore3 r_84_13 rfl ?_
  refine w_iload3 r_84_14 ?_
  refine v_if_ge r_84_15 (by first | exact zF_in _ _ _ | exact zA_in _ _ _ | omega) (fun c15 => ?_) (fun c15 => ?_)
  · refine w_aload0 r_84_30 ?_
    refine w_getA (x := 80) r_84_31 (Lk_91 hL) (Lr_91_0 hL) (by decide) ?_
    refine w_getA (x := 83) r_84_34 (Lk_80 hL) (Lr_80_7 hL) (by decide) ?_
    refine w_iload3 r_84_37 ?_
    refine v_iald r_84_38 (Lk_83 hL) (Lz_83 hL) (by decide) (by omega) (e83 (by omega)) ?_
    refine w_istore4 r_84_39 rfl ?_
    refine w_iload4 r_84_41 ?_
    refine w_iconst (v := iI (-1)) r_84_43 rfl ?_
    refine v_ic_ne r_84_44 (by first | exact zF_in _ _ _ | exact zA_in _ _ _ | omega) (by first | exact zF_in _ _ _ | exact zA_in _ _ _ | omega) (fun c44 => ?_) (fun c44 => ?_)
    · refine w_iconst (v := iI (0)) r_84_73 rfl ?_
      refine w_istore5 r_84_74 rfl ?_
      exact key (by omega) (by have := oc (by omega); omega) 0 (by have := mny_in hm (e := M.db (M.nx c way)) (by have := oc (by omega); omega); omega) h .null F0 rfl (fun _ => rfl) (fun k a b => by omega) (fun _ _ _ _ _ _ _ _ _ => rfl)
    · refine w_aload0 r_84_47 ?_
      refine w_getA (x := 94) r_84_48 (Lk_91 hL) (Lr_91_10 hL) (by decide) ?_
      refine w_iload1 r_84_51 ?_
      refine w_iconst (v := iI (4)) r_84_52 rfl ?_
      refine v_imul r_84_53 ?_
      refine w_iload2 r_84_54 ?_
      refine v_iadd r_84_55 ?_
      refine w_aload0 r_84_56 ?_
      refine w_iload1 r_84_57 ?_
      refine w_iload2 r_84_58 ?_
      refine w_aload0 r_84_59 ?_
      refine w_getA (x := 80) r_84_60 (Lk_91 hL) (Lr_91_0 hL) (by decide) ?_
      refine w_getA (x := 82) r_84_63 (Lk_80 hL) (Lr_80_6 hL) (by decide) ?_
      refine w_iload3 r_84_66 ?_
      refine v_iald r_84_67 (Lk_82 hL) (Lz_82 hL) (by decide) (by omega) (e82 (by omega)) ?_
      have gi := oc (by omega)
      have ti := tg_in (way := way) (c := c) (g := M.gr (M.nx c way)) ho hm hd ⟨gi.2.2.1, gi.2.2.2.1⟩ hc
      refine k_85 r_84_68 (Lk_91 hL) (Nat.le_of_ble_eq_true rfl) ?_
      refine c_tollOf hL hb hr hC ho hS hP hm hd ⟨gi.2.2.1, gi.2.2.2.1⟩ hc hway (fun h2 f2 => ?_)
      have hL := f2.lay hL
      refine v_iast r_84_71 (Lk_94 hL) (Ln_94 hL) (Lz_94 hL) (by decide) (by omega) ?_
      refine w_vret r_84_72 ?_
      refine kk _ ((F0.trans (f2.mono PMs_T)).sI 94 _ _ (by simp [pO, pA])) (by rw [zF_o (by omega), f2.F (by decide)]) ⟨fun z => by omega, fun _ _ => ?_, fun _ z => by omega⟩ (fun j j0 j1 => ?_) (fun e i w _ _ _ _ _ _ => by rw [zA_o _ (by decide), f2.A (by simp [pF])])
      · rw [zA_s (by omega) (by omega) (by omega), if_pos rfl]
      · rw [zA_s (by omega) (by omega) (by omega), if_neg j1, f2.A (by simp [pF])]
  · refine w_aload0 r_84_18 ?_
    refine w_getA (x := 94) r_84_19 (Lk_91 hL) (Lr_91_10 hL) (by decide) ?_
    refine w_iload1 r_84_22 ?_
    refine w_iconst (v := iI (4)) r_84_23 rfl ?_
    refine v_imul r_84_24 ?_
    refine w_iload2 r_84_25 ?_
    refine v_iadd r_84_26 ?_
    refine w_iconst (v := iI (-1)) r_84_27 rfl ?_
    refine v_iast r_84_28 (Lk_94 hL) (Ln_94 hL) (Lz_94 hL) (by decide) (by omega) ?_
    refine w_vret r_84_29 ?_
    refine kk _ (F0.sI 94 _ _ (by simp [pO, pA])) (by rw [zF_o (by omega)]) ⟨fun _ => ?_, fun z => by omega, fun z => by omega⟩ (fun j j0 j1 => ?_) (fun e i w _ _ _ _ _ _ => by rw [zA_o _ (by decide)])
    · rw [zA_s (by omega) (by omega) (by decide), if_pos rfl]
    · rw [zA_s (by omega) (by omega) (by decide), if_neg j1]
theorem bs_inj {wd hg c c' way : Int} (hw : 1 ≤ wd ∧ wd ≤ 10) (hc : 0 ≤ c ∧ c < wd * hg) (hc' : 0 ≤ c' ∧ c' < wd * hg) (hway : 0 ≤ way ∧ way < 4) (h0 : 0 ≤ bs wd hg c way) (he : bs wd hg c way = bs wd hg c' way) : c = c' := by
  have : way = 0 ∨ way = 1 ∨ way = 2 ∨ way = 3 := by omega
  unfold bs at h0 he
  rcases this with rfl | rfl | rfl | rfl
  · rw [bsx0] at h0; rw [bsx0, bsx0] at he
    repeat' split at he
    all_goals (try split at h0) <;> omega
  · rw [bsx1] at h0; rw [bsx1, bsx1] at he
    repeat' split at he
    all_goals (try split at h0) <;> omega
  · rw [bsx2] at h0; rw [bsx2, bsx2] at he
    repeat' split at he
    all_goals (try split at h0) <;> omega
  · rw [bsx3] at h0; rw [bsx3, bsx3] at he
    repeat' split at he
    all_goals (try split at h0) <;> omega
/-- all tables are made, for this land -/
def Prep (h : XH) (B : XB) (dd : Int) (M : XM) : Prop := ∀ c way, 0 ≤ c → c < M.n → 0 ≤ way → way < 4 → PE h B dd M c way
theorem PE.keep {h1 h2 : XH} {G c way c' way' : Int} (hm : M.ok G) (hc : 0 ≤ c ∧ c < M.n) (hc' : 0 ≤ c' ∧ c' < M.n) (hway : 0 ≤ way ∧ way < 4) (hway' : 0 ≤ way' ∧ way' < 4) (hne : ¬ (c = c' ∧ way = way')) (p1 : ∀ j, 0 ≤ j → ¬ j = c * 4 + way → zA h2 94 j = zA h1 94 j) (p2 : ∀ e i w, 0 ≤ e → 0 ≤ i → i < 3 → 0 ≤ w → w < 4 → ¬ (w = way ∧ 0 ≤ M.nx c way ∧ M.db (M.nx c way) = e) → zA h2 95 ((e * 3 + i) * 4 + w) = zA h1 95 ((e * 3 + i) * 4 + w)) (hE : PE h1 B dd M c' way') : PE h2 B dd M c' way' := by
  have o := hm.1
  obtain ⟨a, b, e⟩ := hE
  have ne : ¬ c' * 4 + way' = c * 4 + way := by omega
  refine ⟨fun q => by rw [p1 _ (by omega) ne]; exact a q, fun q1 q2 => by rw [p1 _ (by omega) ne]; exact b q1 q2, fun q1 q2 i i0 i1 => ?_⟩
  have hb := M.nx_in (way := way') hm hc'
  have oc := hm.2.1 (M.nx c' way') q1 (by omega)
  have om := mny_in hm (e := M.db (M.nx c' way')) (by omega)
  rw [p2 _ i way' q2 i0 (by omega) hway'.1 hway'.2 (fun z => ?_)]
  · exact e q1 q2 i i0 i1
  · obtain ⟨z1, z2, z3⟩ := z
    have hb2 := M.nx_in (way := way) hm hc
    have oc2 := hm.2.1 (M.nx c way) z2 (by omega)
    have f1 := oc2.2.2.2.2.2.2 (by omega)
    have f2 := oc.2.2.2.2.2.2 (by omega)
    rw [z3] at f1
    have f3 : M.nx c way = M.nx c' way' := f1.symm.trans f2
    rw [z1] at f3
    exact hne ⟨bs_inj (way := way) (by omega) hc hc' hway z2 f3, z1.symm⟩
theorem c_prepare {G : Int} (hL : Lay h) (hb : rb = 6 ∨ rb = 20) (hr : gR h 91 1 = rb) (hC : CBk h rb B) (ho : B.ok) (hS : CLr h B dd) (hP : CMp h M) (hm : M.ok G) (hG : G = B.g) (hd : 0 ≤ dd ∧ dd < B.w) (h0 : zF h 91 12 = zF h 80 4 → Prep h B dd M) (kk : ∀ h', Fr PTs h h' → zF h' 91 12 = zF h 80 4 → Prep h' B dd M → KU h') :
    XW (d + 4) 83 0 [.ref 91, .null, .null] [] h (KV KU) := by
  have hn := M.n_in hm
  have e2 : gI h 80 2 = iI M.n := by rw [gI_F, hP.1.2.2.1]
  have inn : ∀ c : Nat, (c : Int) < M.n → (∀ (h1 : XH) (X : Value), Fr PTs h h1 → zF h1 91 12 = zF h 80 4 → (∀ c' way' : Int, 0 ≤ c' → c' < c + 1 → 0 ≤ way' → way' < 4 → PE h1 B dd M c' way') → XW (d + 4) 83 28 [.ref 91, .int (iI ((c + 1 : Nat) : Int)), X] [] h1 (KV KU)) → ∀ w : Nat, w ≤ 4 → ∀ h1 : XH, Fr PTs h h1 → zF h1 91 12 = zF h 80 4 → (∀ c' way' : Int, 0 ≤ c' → 0 ≤ way' → way' < 4 → (c' < c ∨ (c' = c ∧ way' < w)) → PE h1 B dd M c' way') → XW (d + 4) 83 41 [.ref 91, .int (iI c), .int (iI w)] [] h1 (KV KU) := by
    intro c hc nxt
    refine upto _ ?_ ?_
    · intro h1 f g0 g1
      refine w_iload2 r_83_41 ?_
      refine w_iconst (v := iI (4)) r_83_42 rfl ?_
      refine v_ic_ge r_83_43 (by first | exact zF_in _ _ _ | exact zA_in _ _ _ | omega) (by first | exact zF_in _ _ _ | exact zA_in _ _ _ | omega) (fun _ => ?_) (fun q => absurd q (by omega))
      refine w_iinc1 r_83_58 rfl (iI_add _ _) ?_
      refine w_goto r_83_61 ?_
      exact nxt h1 _ f g0 (fun c' way' a b a2 b2 => g1 c' way' a a2 b2 (by omega))
    · intro w hw ih h1 f g0 g1
      have hL := f.lay hL
      have hC := hC.fr f hb (fun a j p q => by simp [pO, pA, pF]; omega)
      have hS := hS.fr f (by decide) (fun j => ⟨by simp [pO, pA, pF], by simp [pO, pA, pF]⟩)
      have hP := hP.fr f (fun a j p q _ => by simp [pO, pA, pF]; omega)
      have hr := (f.R 91 1).trans hr
      refine w_iload2 r_83_41 ?_
      refine w_iconst (v := iI (4)) r_83_42 rfl ?_
      refine v_ic_ge r_83_43 (by first | exact zF_in _ _ _ | exact zA_in _ _ _ | omega) (by first | exact zF_in _ _ _ | exact zA_in _ _ _ | omega) (fun q => absurd q (by omega)) (fun _ => ?_)
      refine w_aload0 r_83_46 ?_
      refine w_iload1 r_83_47 ?_
      refine w_iload2 r_83_48 ?_
      refine k_84 r_83_49 (Lk_91 hL) (Nat.le_of_ble_eq_true rfl) ?_
      refine c_prepareStep hL hb hr hC ho hS hP hm hG hd (by omega) (by omega) (fun h2 f2 g2 g3 g4 g5 => ?_)
      refine w_iinc2 r_83_52 rfl (iI_add _ _) ?_
      refine w_goto r_83_55 ?_
      refine ih h2 (f.trans f2) (by rw [g2]; exact g0) (fun c' way' a a2 b2 q => ?_)
      by_cases z : (c : Int) = c' ∧ (w : Int) = way'
      · rw [← z.1, ← z.2]; exact g3
      · exact PE.keep (c := c) (way := w) hm (by omega) (by omega) (by omega) (by omega) z g4 g5 (g1 c' way' a a2 b2 (by omega))
  have key : ∀ c : Nat, c ≤ M.n.toNat → ∀ (h1 : XH) (X : Value), Fr PTs h h1 → zF h1 91 12 = zF h 80 4 → (∀ c' way' : Int, 0 ≤ c' → c' < c → 0 ≤ way' → way' < 4 → PE h1 B dd M c' way') → XW (d + 4) 83 28 [.ref 91, .int (iI c), X] [] h1 (KV KU) := by
    refine upto _ ?_ ?_
    · intro h1 X f g0 g1
      have hL := f.lay hL
      have e2 : gI h1 80 2 = iI M.n := by rw [gI_F, f.F (by decide), ← gI_F, e2]
      refine w_iload1 r_83_28 ?_
      refine w_aload0 r_83_29 ?_
      refine w_getA (x := 80) r_83_30 (Lk_91 hL) (Lr_91_0 hL) (by decide) ?_
      refine v_getI r_83_33 (Lk_80 hL) e2 ?_
      refine v_ic_ge r_83_36 (by first | exact zF_in _ _ _ | exact zA_in _ _ _ | omega) (by first | exact zF_in _ _ _ | exact zA_in _ _ _ | omega) (fun _ => ?_) (fun q => absurd q (by omega))
      refine w_vret r_83_64 ?_
      exact kk h1 f g0 (fun c way a b a2 b2 => g1 c way a (by omega) a2 b2)
    · intro c hc ih h1 X f g0 g1
      have hL := f.lay hL
      have e2 : gI h1 80 2 = iI M.n := by rw [gI_F, f.F (by decide), ← gI_F, e2]
      refine w_iload1 r_83_28 ?_
      refine w_aload0 r_83_29 ?_
      refine w_getA (x := 80) r_83_30 (Lk_91 hL) (Lr_91_0 hL) (by decide) ?_
      refine v_getI r_83_33 (Lk_80 hL) e2 ?_
      refine v_ic_ge r_83_36 (by first | exact zF_in _ _ _ | exact zA_in _ _ _ | omega) (by first | exact zF_in _ _ _ | exact zA_in _ _ _ | omega) (fun q => absurd q (by omega)) (fun _ => ?_)
      refine w_iconst (v := iI (0)) r_83_39 rfl ?_
      refine w_istore2 r_83_40 rfl ?_
      exact inn c (by omega) ih 0 (by omega) h1 f g0 (fun c' way' a a2 b2 q => g1 c' way' a (by omega) a2 b2)
  refine w_aload0 r_83_0 ?_
  refine v_getI r_83_1 (Lk_91 hL) (gI_F h 91 12) ?_
  refine w_aload0 r_83_4 ?_
  refine w_getA (x := 80) r_83_5 (Lk_91 hL) (Lr_91_0 hL) (by decide) ?_
  refine v_getI r_83_8 (Lk_80 hL) (gI_F h 80 4) ?_
  refine v_ic_ne r_83_11 (by first | exact zF_in _ _ _ | exact zA_in _ _ _ | omega) (by first | exact zF_in _ _ _ | exact zA_in _ _ _ | omega) (fun c11 => ?_) (fun c11 => ?_)
  · refine w_aload0 r_83_15 ?_
    refine w_aload0 r_83_16 ?_
    refine w_getA (x := 80) r_83_17 (Lk_91 hL) (Lr_91_0 hL) (by decide) ?_
    refine v_getI r_83_20 (Lk_80 hL) (gI_F h 80 4) ?_
    refine w_putI r_83_23 (Lk_91 hL) (Ln_91 hL) ?_
    refine w_iconst (v := iI (0)) r_83_26 rfl ?_
    refine w_istore1 r_83_27 rfl ?_
    exact key 0 (by omega) _ .null ((Fr.refl _ _).sI 91 12 _ (by decide)) (zF_s (zF_in _ _ _)) (fun c' _ a b => by omega)
  · refine w_vret r_83_14 ?_
    exact kk h (Fr.refl _ _) (by omega) (h0 (by omega))
theorem c_toll {G s c way : Int} (hL : Lay h) (hP : CMp h M) (hm : M.ok G) (hE : Prep h B dd M) (hc : 0 ≤ c ∧ c < M.n) (hway : 0 ≤ way ∧ way < 4) (hs : 0 ≤ s ∧ s < 1024) (hsd : ∀ e, 0 ≤ e → e < M.nd → dg s e ≤ mny M e) (kk : K (iI (tlB B dd M s c way)) h) :
    XW (d + 1) 86 0 [.ref 91, .int (iI c), .int (iI way), .int (iI s), .null, .null, .null] [] h (KI K) := by
  have hn := M.n_in hm
  have hb1 := M.nx_in (way := way) hm hc
  have oc := fun q : 0 ≤ M.nx c way => hm.2.1 (M.nx c way) q (by omega)
  have o := hm.1
  have e85 : gI h 85 (c * 4 + way).toNat = iI (M.nx c way) := by rw [gI_A, hP.2.2.2.2.2.2 c way hc.1 hc.2 hway.1 hway.2]
  have e83 : 0 ≤ M.nx c way → gI h 83 (M.nx c way).toNat = iI (M.db (M.nx c way)) := fun q => by rw [gI_A, (hP.2.1 _ q (by omega)).2.2]
  obtain ⟨p1, p2, p3⟩ := hE c way hc.1 hc.2 hway.1 hway.2
  have e95 : M.nx c way < 0 → gI h 94 (c * 4 + way).toNat = iI (-1) := fun q => by rw [gI_A, p1 q]
  have e95' : 0 ≤ M.nx c way → M.db (M.nx c way) = -1 → gI h 94 (c * 4 + way).toNat = iI (tg B dd M c way (M.gr (M.nx c way))) := fun q q2 => by rw [gI_A, p2 q q2]
  have e96 : 0 ≤ M.nx c way → 0 ≤ M.db (M.nx c way) → 0 < dg s (M.db (M.nx c way)) → gI h 95 ((M.db (M.nx c way) * 3 + (dg s (M.db (M.nx c way)) - 1)) * 4 + way).toNat = iI (tg B dd M c way (chc M (M.db (M.nx c way)) (dg s (M.db (M.nx c way)) - 1))) := fun q q2 q3 => by
    have := oc q
    have l := hsd (M.db (M.nx c way)) q2 (by omega)
    rw [gI_A, p3 q q2 _ (by omega) (by omega)]
  have di := dg_in s (M.db (M.nx c way))
  unfold tlB at kk
  refine w_aload0 r_86_0 ?_
  refine w_getA (x := 80) r_86_1 (Lk_91 hL) (Lr_91_0 hL) (by decide) ?_
  refine w_getA (x := 85) r_86_4 (Lk_80 hL) (Lr_80_9 hL) (by decide) ?_
  refine w_iload1 r_86_7 ?_
  refine w_iconst (v := iI (4)) r_86_8 rfl ?_
  refine v_imul r_86_9 ?_
  refine w_iload2 r_86_10 ?_
  refine v_iadd r_86_11 ?_
  refine v_iald r_86_12 (Lk_85 hL) (Lz_85 hL) (by decide) (by omega) e85 ?_
  refine w_istore4 r_86_13 rfl ?_
  refine w_iload4 r_86_15 ?_
  refine v_if_ge r_86_17 (by first | exact zF_in _ _ _ | exact zA_in _ _ _ | omega) (fun c17 => ?_) (fun c17 => ?_)
  · refine w_aload0 r_86_24 ?_
    refine w_getA (x := 80) r_86_25 (Lk_91 hL) (Lr_91_0 hL) (by decide) ?_
    refine w_getA (x := 83) r_86_28 (Lk_80 hL) (Lr_80_7 hL) (by decide) ?_
    refine w_iload4 r_86_31 ?_
    have oc := oc (by omega)
    refine v_iald r_86_33 (Lk_83 hL) (Lz_83 hL) (by decide) (by omega) (e83 (by omega)) ?_
    refine w_istore5 r_86_34 rfl ?_
    refine w_iload5 r_86_36 ?_
    refine w_iconst (v := iI (-1)) r_86_38 rfl ?_
    refine v_ic_ne r_86_39 (by first | exact zF_in _ _ _ | exact zA_in _ _ _ | omega) (by first | exact zF_in _ _ _ | exact zA_in _ _ _ | omega) (fun c39 => ?_) (fun c39 => ?_)
    · refine w_aload0 r_86_53 ?_
      refine w_getA (x := 80) r_86_54 (Lk_91 hL) (Lr_91_0 hL) (by decide) ?_
      refine w_iload3 r_86_57 ?_
      refine w_iload5 r_86_58 ?_
      refine k_60 r_86_60 (Lk_80 hL) (Nat.le_of_ble_eq_true rfl) ?_
      refine c_choiceIn (by omega) (by omega) ?_
      refine w_istore6 r_86_63 rfl ?_
      refine w_iload6 r_86_65 ?_
      refine v_if_ge r_86_67 (by first | exact zF_in _ _ _ | exact zA_in _ _ _ | omega) (fun c67 => ?_) (fun c67 => ?_)
      · refine w_aload0 r_86_74 ?_
        refine w_getA (x := 95) r_86_75 (Lk_91 hL) (Lr_91_11 hL) (by decide) ?_
        refine w_iload5 r_86_78 ?_
        refine w_iconst (v := iI (3)) r_86_80 rfl ?_
        refine v_imul r_86_81 ?_
        refine w_iload6 r_86_82 ?_
        refine v_iadd r_86_84 ?_
        refine w_iconst (v := iI (4)) r_86_85 rfl ?_
        refine v_imul r_86_86 ?_
        refine w_iload2 r_86_87 ?_
        refine v_iadd r_86_88 ?_
        refine v_iald r_86_89 (Lk_95 hL) (Lz_95 hL) (by decide) (by omega) (e96 (by omega) (by omega) (by omega)) ?_
        refine w_iret r_86_90 ?_
        first | (rw [if_neg (by omega), if_neg (by omega), if_pos (by omega)] at kk; exact kk) | (rw [if_neg (by omega), if_neg (by omega), if_neg (by omega)] at kk; exact kk)
      · refine w_iconst (v := iI (0)) r_86_70 rfl ?_
        refine w_goto r_86_71 ?_
        refine w_iret r_86_90 ?_
        first | (rw [if_neg (by omega), if_neg (by omega), if_pos (by omega)] at kk; exact kk) | (rw [if_neg (by omega), if_neg (by omega), if_neg (by omega)] at kk; exact kk)
    · refine w_aload0 r_86_42 ?_
      refine w_getA (x := 94) r_86_43 (Lk_91 hL) (Lr_91_10 hL) (by decide) ?_
      refine w_iload1 r_86_46 ?_
      refine w_iconst (v := iI (4)) r_86_47 rfl ?_
      refine v_imul r_86_48 ?_
      refine w_iload2 r_86_49 ?_
      refine v_iadd r_86_50 ?_
      refine v_iald r_86_51 (Lk_94 hL) (Lz_94 hL) (by decide) (by omega) (by first | exact e95 (by omega) | exact e95' (by omega) (by omega)) ?_
      refine w_iret r_86_52 ?_
      first | (rw [if_pos (by omega)] at kk; exact kk) | (rw [if_neg (by omega), if_pos (by omega)] at kk; exact kk)
  · refine w_iconst (v := iI (-1)) r_86_20 rfl ?_
    refine w_goto r_86_21 ?_
    refine w_istore5 r_86_34 rfl ?_
    refine w_iload5 r_86_36 ?_
    refine w_iconst (v := iI (-1)) r_86_38 rfl ?_
    refine v_ic_ne r_86_39 (by first | exact zF_in _ _ _ | exact zA_in _ _ _ | omega) (by first | exact zF_in _ _ _ | exact zA_in _ _ _ | omega) (fun q => absurd q (by omega)) (fun _ => ?_)
    refine w_aload0 r_86_42 ?_
    refine w_getA (x := 94) r_86_43 (Lk_91 hL) (Lr_91_10 hL) (by decide) ?_
    refine w_iload1 r_86_46 ?_
    refine w_iconst (v := iI (4)) r_86_47 rfl ?_
    refine v_imul r_86_48 ?_
    refine w_iload2 r_86_49 ?_
    refine v_iadd r_86_50 ?_
    refine v_iald r_86_51 (Lk_94 hL) (Lz_94 hL) (by decide) (by omega) (by first | exact e95 (by omega) | exact e95' (by omega) (by omega)) ?_
    refine w_iret r_86_52 ?_
    first | (rw [if_pos (by omega)] at kk; exact kk) | (rw [if_neg (by omega), if_pos (by omega)] at kk; exact kk)
end S5
