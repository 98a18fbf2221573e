/-! the Model: lists, states, what is near -/
theorem chs_lt {w : Int → Int} : ∀ (n : Nat) (i j : Nat), i < j → j < (chs w n).length → (chs w n).getD i 0 < (chs w n).getD j 0 := by
  intro n
  induction n with
  | zero => intro i j _ h; simp [chs] at h
  | succ n ih =>
    intro i j hij h
    unfold chs at h ⊢
    split at h
    · rename_i q
      rw [if_pos q]
      rw [List.length_append] at h
      simp only [List.length_cons, List.length_nil] at h
      by_cases z : j < (chs w n).length
      · rw [List.getD_eq_getElem?_getD, List.getD_eq_getElem?_getD, List.getElem?_append_left (by omega), List.getElem?_append_left z, ← List.getD_eq_getElem?_getD, ← List.getD_eq_getElem?_getD]
        exact ih i j hij z
      · have e : j = (chs w n).length := by omega
        rw [List.getD_eq_getElem?_getD, List.getD_eq_getElem?_getD, List.getElem?_append_left (by omega), List.getElem?_append_right (by omega), e, Nat.sub_self]
        have hl : i < (chs w n).length := by omega
        have m := chs_mem n _ (List.getElem_mem hl)
        rw [List.getElem?_eq_getElem hl]
        show (chs w n)[i] < (n : Int)
        exact m.2.1
    · rename_i q
      rw [if_neg q]
      exact ih i j hij h
section MO1
variable {d : Nat} {h : XH} {K : Int32 → XH → Prop} {KL64 : Int64 → XH → Prop} {KU : XH → Prop} {M : XM} {G : Int}
theorem chc_inj {e i j : Int} (hi : 0 ≤ i ∧ i < mny M e) (hj : 0 ≤ j ∧ j < mny M e) (h : chc M e i = chc M e j) : i = j := by
  unfold mny at hi hj
  unfold chc at h
  by_cases q : i < j
  · have := chs_lt (w := M.wt e) 8 i.toNat j.toNat (by omega) (by omega); omega
  · by_cases q2 : j < i
    · have := chs_lt (w := M.wt e) 8 j.toNat i.toNat (by omega) (by omega); omega
    · omega
/-- the Model's lists are made -/
def MLs (h : XH) (M : XM) : Prop := ∀ e, 0 ≤ e → e < M.nd → zA h 142 e = mny M e ∧ ∀ i, 0 ≤ i → i < mny M e → zA h 141 (4 * e + i) = chc M e i
theorem MMp.fr {P : Nat → Nat → Bool} {h' : XH} (f : Fr P h h') (hp : ∀ a j, 133 ≤ a → a ≤ 138 → P a j = false) (hp2 : ∀ j, 34 ≤ j → j ≤ 37 → P 118 j = false) (hP : MMp h M) : MMp h' M := by
  have eA : ∀ a, 133 ≤ a → a ≤ 138 → ∀ i, zA h' a i = zA h a i := fun a p q i => f.A (hp _ _ p q)
  have eF : ∀ j, 34 ≤ j → j ≤ 37 → zF h' 118 j = zF h 118 j := fun j p q => f.F (hp2 _ p q)
  unfold MMp at hP ⊢
  simp only [eF 34 (by decide) (by decide), eF 35 (by decide) (by decide), eF 36 (by decide) (by decide), eF 37 (by decide) (by decide), eA 133 (by decide) (by decide), eA 134 (by decide) (by decide), eA 135 (by decide) (by decide), eA 136 (by decide) (by decide), eA 137 (by decide) (by decide), eA 138 (by decide) (by decide)]
  exact hP
theorem MMp.f37 (hP : MMp h M) : gI h 118 37 = iI M.nd := by rw [gI_F, hP.1.1]
theorem MMp.f35 (hP : MMp h M) (hm : M.ok G) : gI h 118 35 = iI M.wd := by
  have := hP.1.2; have o := hm.1
  rw [gI_F, show zF h 118 35 = M.wd by omega]
theorem MMp.f36 (hP : MMp h M) (hm : M.ok G) : gI h 118 36 = iI M.hg := by
  have := hP.1.2; have o := hm.1
  rw [gI_F, show zF h 118 36 = M.hg by omega]
theorem m_lists (hL : Lay h) (hP : MMp h M) (hm : M.ok G) (kk : ∀ h', Fr (pA [141, 142]) h h' → MLs h' M → KU h') : XW d 214 0 [.ref 118, .null, .null] [] h (KV KU) := by
  have o := hm.1
  have inn : ∀ e : Nat, (e : Int) < M.nd → (∀ (h1 : XH) (X : Value), Fr (pA [141, 142]) h h1 → (∀ e', 0 ≤ e' → e' < ((e + 1 : Nat) : Int) → zA h1 142 e' = mny M e' ∧ ∀ i, 0 ≤ i → i < mny M e' → zA h1 141 (4 * e' + i) = chc M e' i) → XW d 214 2 [.ref 118, .int (iI ((e + 1 : Nat) : Int)), X] [] h1 (KV KU)) →
      ∀ g : Nat, g ≤ 8 → ∀ h1 : XH, Fr (pA [141, 142]) h h1 → (∀ e' : Int, 0 ≤ e' → e' < e → zA h1 142 e' = mny M e' ∧ ∀ i, 0 ≤ i → i < mny M e' → zA h1 141 (4 * e' + i) = chc M e' i) → zA h1 142 e = (chs (M.wt e) g).length → (∀ i : Nat, i < (chs (M.wt e) g).length → zA h1 141 (4 * e + i) = (chs (M.wt e) g).getD i 0) → XW d 214 19 [.ref 118, .int (iI e), .int (iI g)] [] h1 (KV KU) := by
    intro e he nxt
    have om := mny_in hm (e := e) (by omega)
    refine upto _ ?_ ?_
    · intro h1 f g1 g2 g3
      refine w_iload2 r_214_19 ?_
      refine w_bipush (v := iI (8)) r_214_20 rfl ?_
      refine v_ic_ge r_214_22 (by first | exact zF_in _ _ _ | exact zA_in _ _ _ | omega) (by first | exact zF_in _ _ _ | exact zA_in _ _ _ | omega) (fun _ => ?_) (fun q => absurd q (by omega))
      refine w_iinc1 r_214_74 rfl (iI_add _ _) ?_
      refine w_goto r_214_77 ?_
      refine nxt h1 _ f (fun e' a b => ?_)
      by_cases z : e' = e
      · rw [z]; refine ⟨g2, fun i i0 i1 => ?_⟩; have := g3 i.toNat (by unfold mny at i1; omega); rw [show ((i.toNat : Nat) : Int) = i by omega] at this; exact this
      · exact g1 e' a (by omega)
    · intro g hg ih h1 f g1 g2 g3
      have hL := f.lay hL
      have hP := hP.fr f (fun a j p q => by simp [pA]; omega) (fun j p q => by simp [pA])
      have lm := chs_mono (w := M.wt e) (n := g) (8 - g)
      rw [show g + (8 - g) = 8 by omega] at lm
      have lm1 := chs_mono (w := M.wt e) (n := g + 1) (8 - (g + 1))
      rw [show g + 1 + (8 - (g + 1)) = 8 by omega] at lm1
      unfold mny at om
      have w := hm.2.2.2.1 e (by omega) he g (by omega) (by omega)
      have e139 : gI h1 138 (8 * (e : Int) + g).toNat = iI (M.wt e g) := by rw [gI_A, hP.2.2.2 e (by omega) (by omega) g (by omega) (by omega)]
      have e143 : gI h1 142 ((e : Int)).toNat = iI ((chs (M.wt e) g).length : Int) := by rw [gI_A, g2]
      by_cases q : M.wt e g = 0
      · have ec : chs (M.wt e) (g + 1) = chs (M.wt e) g := by
          show (if 0 < M.wt e g then _ else _) = _
          rw [if_neg (by omega)]
        refine w_iload2 r_214_19 ?_
        refine w_bipush (v := iI (8)) r_214_20 rfl ?_
        refine v_ic_ge r_214_22 (by first | exact zF_in _ _ _ | exact zA_in _ _ _ | omega) (by first | exact zF_in _ _ _ | exact zA_in _ _ _ | omega) (fun q => absurd q (by omega)) (fun _ => ?_)
        refine w_aload0 r_214_25 ?_
        refine w_getA (x := 138) r_214_26 (Lk_118 hL) (Lr_118_46 hL) (by decide) ?_
        refine w_bipush (v := iI (8)) r_214_29 rfl ?_
        refine w_iload1 r_214_31 ?_
        refine v_imul r_214_32 ?_
        refine w_iload2 r_214_33 ?_
        refine v_iadd r_214_34 ?_
        refine v_iald r_214_35 (Lk_138 hL) (Lz_138 hL) (by decide) (by omega) e139 ?_
        refine v_if_ne r_214_36 (by first | exact zF_in _ _ _ | exact zA_in _ _ _ | omega) (fun q => absurd q (by omega)) (fun _ => ?_)
        refine w_goto r_214_39 ?_
        refine w_iinc2 r_214_68 rfl (iI_add _ _) ?_
        refine w_goto r_214_71 ?_
        rw [ec] at ih
        exact ih h1 f g1 g2 g3
      · have ec : chs (M.wt e) (g + 1) = chs (M.wt e) g ++ [(g : Int)] := by
          show (if 0 < M.wt e g then _ else _) = _
          rw [if_pos (by omega)]
        have el : (chs (M.wt e) (g + 1)).length = (chs (M.wt e) g).length + 1 := by rw [ec, List.length_append]; rfl
        rw [el] at lm1
        have e143' : gI (sI h1 141 (4 * (e : Int) + (chs (M.wt e) g).length).toNat (iI g)) 142 ((e : Int)).toNat = iI ((chs (M.wt e) g).length : Int) := by rw [sI_other _ (by decide)]; exact e143
        refine w_iload2 r_214_19 ?_
        refine w_bipush (v := iI (8)) r_214_20 rfl ?_
        refine v_ic_ge r_214_22 (by first | exact zF_in _ _ _ | exact zA_in _ _ _ | omega) (by first | exact zF_in _ _ _ | exact zA_in _ _ _ | omega) (fun q => absurd q (by omega)) (fun _ => ?_)
        refine w_aload0 r_214_25 ?_
        refine w_getA (x := 138) r_214_26 (Lk_118 hL) (Lr_118_46 hL) (by decide) ?_
        refine w_bipush (v := iI (8)) r_214_29 rfl ?_
        refine w_iload1 r_214_31 ?_
        refine v_imul r_214_32 ?_
        refine w_iload2 r_214_33 ?_
        refine v_iadd r_214_34 ?_
        refine v_iald r_214_35 (Lk_138 hL) (Lz_138 hL) (by decide) (by omega) e139 ?_
        refine v_if_ne r_214_36 (by first | exact zF_in _ _ _ | exact zA_in _ _ _ | omega) (fun _ => ?_) (fun q => absurd q (by omega))
        refine w_aload0 r_214_42 ?_
        refine w_getA (x := 141) r_214_43 (Lk_118 hL) (Lr_118_52 hL) (by decide) ?_
        refine w_iconst (v := iI (4)) r_214_46 rfl ?_
        refine w_iload1 r_214_47 ?_
        refine v_imul r_214_48 ?_
        refine w_aload0 r_214_49 ?_
        refine w_getA (x := 142) r_214_50 (Lk_118 hL) (Lr_118_53 hL) (by decide) ?_
        refine w_iload1 r_214_53 ?_
        refine v_iald r_214_54 (Lk_142 hL) (Lz_142 hL) (by decide) (by omega) e143 ?_
        refine v_iadd r_214_55 ?_
        refine w_iload2 r_214_56 ?_
        refine v_iast r_214_57 (Lk_141 hL) (Ln_141 hL) (Lz_141 hL) (by decide) (by omega) ?_
        refine w_aload0 r_214_58 ?_
        refine w_getA (x := 142) r_214_59 (Lk_118 hL) (Lr_118_53 hL) (by decide) ?_
        refine w_iload1 r_214_62 ?_
        refine w_dup2IA r_214_63 ?_
        refine v_iald r_214_64 (Lk_142 hL) (Lz_142 hL) (by decide) (by omega) (e143') ?_
        refine w_iconst (v := iI (1)) r_214_65 rfl ?_
        refine v_iadd r_214_66 ?_
        refine v_iast r_214_67 (Lk_142 hL) (Ln_142 hL) (Lz_142 hL) (by decide) (by omega) ?_
        refine w_iinc2 r_214_68 rfl (iI_add _ _) ?_
        refine w_goto r_214_71 ?_
        refine ih _ ((f.sI 141 _ _ (by simp [pA])).sI 142 _ _ (by simp [pA])) (fun e' a b => ?_) ?_ (fun i hi => ?_)
        · have z := g1 e' a b; refine ⟨?_, fun i i0 i1 => ?_⟩
          · rw [zA_s (by omega) (by omega) (by omega), if_neg (by omega), zA_o _ (by decide)]; exact z.1
          · have m2 := mny_in hm (e := e') (by omega); rw [zA_o _ (by decide), zA_s (by omega) (by omega) (by omega), if_neg (by omega)]; exact z.2 i i0 i1
        · rw [zA_s (by omega) (by omega) (by omega), if_pos rfl, el]; omega
        · rw [el] at hi; rw [zA_o _ (by decide), zA_s (by omega) (by omega) (by omega), ec, List.getD_eq_getElem?_getD]
          by_cases z : i = (chs (M.wt e) g).length
          · rw [if_pos (by omega), z, List.getElem?_append_right (Nat.le_refl _), Nat.sub_self]; rfl
          · rw [if_neg (by omega), List.getElem?_append_left (by omega), ← List.getD_eq_getElem?_getD]; exact g3 i (by omega)
  have key : ∀ e : Nat, e ≤ M.nd.toNat → ∀ (h1 : XH) (X : Value), Fr (pA [141, 142]) h h1 → (∀ e' : Int, 0 ≤ e' → e' < e → zA h1 142 e' = mny M e' ∧ ∀ i, 0 ≤ i → i < mny M e' → zA h1 141 (4 * e' + i) = chc M e' i) → XW d 214 2 [.ref 118, .int (iI e), X] [] h1 (KV KU) := by
    refine upto _ ?_ ?_
    · intro h1 X f g
      have hL := f.lay hL
      have hP := hP.fr f (fun a j p q => by simp [pA]; omega) (fun j p q => by simp [pA])
      refine w_iload1 r_214_2 ?_
      refine w_aload0 r_214_3 ?_
      refine v_getI r_214_4 (Lk_118 hL) (hP.f37) ?_
      refine v_ic_ge r_214_7 (by first | exact zF_in _ _ _ | exact zA_in _ _ _ | omega) (by first | exact zF_in _ _ _ | exact zA_in _ _ _ | omega) (fun _ => ?_) (fun q => absurd q (by omega))
      refine w_vret r_214_80 ?_
      exact kk h1 f (fun e a b => g e a (by omega))
    · intro e he ih h1 X f g
      have hL := f.lay hL
      have hP := hP.fr f (fun a j p q => by simp [pA]; omega) (fun j p q => by simp [pA])
      refine w_iload1 r_214_2 ?_
      refine w_aload0 r_214_3 ?_
      refine v_getI r_214_4 (Lk_118 hL) (hP.f37) ?_
      refine v_ic_ge r_214_7 (by first | exact zF_in _ _ _ | exact zA_in _ _ _ | omega) (by first | exact zF_in _ _ _ | exact zA_in _ _ _ | omega) (fun q => absurd q (by omega)) (fun _ => ?_)
      refine w_aload0 r_214_10 ?_
      refine w_getA (x := 142) r_214_11 (Lk_118 hL) (Lr_118_53 hL) (by decide) ?_
      refine w_iload1 r_214_14 ?_
      refine w_iconst (v := iI (0)) r_214_15 rfl ?_
      refine v_iast r_214_16 (Lk_142 hL) (Ln_142 hL) (Lz_142 hL) (by decide) (by omega) ?_
      refine w_iconst (v := iI (0)) r_214_17 rfl ?_
      refine w_istore2 r_214_18 rfl ?_
      refine inn e (by omega) ih 0 (by omega) _ (f.sI 142 _ _ (by simp [pA])) (fun e' a b => ?_) ?_ (fun i hi => by simp [chs] at hi)
      · have z := g e' a b; refine ⟨?_, fun i i0 i1 => ?_⟩
        · rw [zA_s (by omega) (by omega) (by decide), if_neg (by omega)]; exact z.1
        · rw [zA_o _ (by decide)]; exact z.2 i i0 i1
      · rw [zA_s (by omega) (by omega) (by decide), if_pos rfl]; rfl
  refine w_iconst (v := iI (0)) r_214_0 rfl ?_
  refine w_istore1 r_214_1 rfl ?_
  exact key 0 (by omega) h .null (Fr.refl _ _) (fun e' a b => by omega)
theorem e143 {e : Int} (hK : MLs h M) (he : 0 ≤ e ∧ e < M.nd) : gI h 142 e.toNat = iI (mny M e) := by rw [gI_A, (hK e he.1 he.2).1]
theorem e142 {e i : Int} (hK : MLs h M) (he : 0 ≤ e ∧ e < M.nd) (hi : 0 ≤ i ∧ i < mny M e) : gI h 141 (4 * e + i).toNat = iI (chc M e i) := by rw [gI_A, (hK e he.1 he.2).2 i hi.1 hi.2]
theorem e138 {e : Int} (hP : MMp h M) (he : 0 ≤ e ∧ e < M.nd) : gI h 137 e.toNat = iI (M.kn e) := by rw [gI_A, (hP.2.2.1 e he.1 he.2).2]
theorem e137 {e : Int} (hP : MMp h M) (he : 0 ≤ e ∧ e < M.nd) : gI h 136 e.toNat = iI (M.dc e) := by rw [gI_A, (hP.2.2.1 e he.1 he.2).1]
theorem e136 {c : Int} (hP : MMp h M) (he : 0 ≤ c ∧ c < M.n) : gI h 135 c.toNat = iI (M.db c) := by rw [gI_A, (hP.2.1 c he.1 he.2).2.2]
theorem e135 {c : Int} (hP : MMp h M) (he : 0 ≤ c ∧ c < M.n) : gI h 134 c.toNat = iI (M.gr c) := by rw [gI_A, (hP.2.1 c he.1 he.2).2.1]
theorem m_base (hL : Lay h) (hP : MMp h M) (hm : M.ok G) (hK : MLs h M) (kk : K (iI (sta M)) h) : XW (d + 1) 215 0 [.ref 118, .null, .null, .null] [] h (KI K) := by
  have o := hm.1
  have inn : ∀ e : Nat, (e : Int) < M.nd → (∀ X : Value, XW (d + 1) 215 4 [.ref 118, .int (iI (dsm (fun e => kix M e + 1) (e + 1))), .int (iI ((e + 1 : Nat) : Int)), X] [] h (KI K)) → ∀ i : Nat, i ≤ (mny M e).toNat → XW (d + 1) 215 14 [.ref 118, .int (iI (dsm (fun e => kix M e + 1) e + if 0 ≤ kix M e ∧ kix M e < i then (kix M e + 1) * 4 ^ ((e : Int)).toNat else 0)), .int (iI e), .int (iI i)] [] h (KI K) := by
    intro e he nxt
    have om := mny_in hm (e := e) (by omega)
    have ki := kix_in hm (e := e) (by omega)
    refine upto _ ?_ ?_
    · refine w_iload3 r_215_14 ?_
      refine w_aload0 r_215_15 ?_
      refine w_getA (x := 142) r_215_16 (Lk_118 hL) (Lr_118_53 hL) (by decide) ?_
      refine w_iload2 r_215_19 ?_
      refine v_iald r_215_20 (Lk_142 hL) (Lz_142 hL) (by decide) (by omega) (e143 hK (by omega)) ?_
      refine v_ic_ge r_215_21 (by first | exact zF_in _ _ _ | exact zA_in _ _ _ | omega) (by first | exact zF_in _ _ _ | exact zA_in _ _ _ | omega) (fun _ => ?_) (fun q => absurd q (by omega))
      refine w_iinc2 r_215_60 rfl (iI_add _ _) ?_
      refine w_goto r_215_63 ?_
      have n := nxt
      have e2 : dsm (fun e => kix M e + 1) (e + 1) = dsm (fun e => kix M e + 1) e + if 0 ≤ kix M e ∧ kix M e < ((mny M e).toNat : Int) then (kix M e + 1) * 4 ^ ((e : Int)).toNat else 0 := by
        show dsm _ e + (kix M e + 1) * 4 ^ ((e : Int)).toNat = _
        by_cases z : 0 ≤ kix M e
        · rw [if_pos (by omega)]
        · rw [if_neg (by omega), show kix M e + 1 = 0 by omega, Int.zero_mul]
      rw [e2] at n
      exact n _
    · intro i hi ih
      have kn := (hm.2.2.1 e (by omega) he).2.2.2
      have ci := chc_in hm (e := e) (i := i) (by omega) (by omega)
      by_cases q : kix M e = i
      · have z := ki.2.2.2 (by omega)
        rw [q] at z
        rw [if_neg (by omega)]
        rw [if_pos (by omega)] at ih
        refine w_iload3 r_215_14 ?_
        refine w_aload0 r_215_15 ?_
        refine w_getA (x := 142) r_215_16 (Lk_118 hL) (Lr_118_53 hL) (by decide) ?_
        refine w_iload2 r_215_19 ?_
        refine v_iald r_215_20 (Lk_142 hL) (Lz_142 hL) (by decide) (by omega) (e143 hK (by omega)) ?_
        refine v_ic_ge r_215_21 (by first | exact zF_in _ _ _ | exact zA_in _ _ _ | omega) (by first | exact zF_in _ _ _ | exact zA_in _ _ _ | omega) (fun q => absurd q (by omega)) (fun _ => ?_)
        refine w_aload0 r_215_24 ?_
        refine w_getA (x := 137) r_215_25 (Lk_118 hL) (Lr_118_45 hL) (by decide) ?_
        refine w_iload2 r_215_28 ?_
        refine v_iald r_215_29 (Lk_137 hL) (Lz_137 hL) (by decide) (by omega) (e138 hP (by omega)) ?_
        refine w_aload0 r_215_30 ?_
        refine w_getA (x := 141) r_215_31 (Lk_118 hL) (Lr_118_52 hL) (by decide) ?_
        refine w_iconst (v := iI (4)) r_215_34 rfl ?_
        refine w_iload2 r_215_35 ?_
        refine v_imul r_215_36 ?_
        refine w_iload3 r_215_37 ?_
        refine v_iadd r_215_38 ?_
        refine v_iald r_215_39 (Lk_141 hL) (Lz_141 hL) (by decide) (by omega) (e142 hK (by omega) (by omega)) ?_
        refine v_ic_ne r_215_40 (by first | exact zF_in _ _ _ | exact zA_in _ _ _ | omega) (by first | exact zF_in _ _ _ | exact zA_in _ _ _ | omega) (fun q => absurd q (by omega)) (fun _ => ?_)
        refine w_iload1 r_215_43 ?_
        refine w_iload3 r_215_44 ?_
        refine w_iconst (v := iI (1)) r_215_45 rfl ?_
        refine v_iadd r_215_46 ?_
        refine w_iload2 r_215_47 ?_
        refine k_212 r_215_48 (Nat.le_of_ble_eq_true rfl) ?_
        refine m_power (by omega) ?_
        refine v_imul r_215_51 ?_
        refine v_iadd r_215_52 ?_
        refine w_istore1 r_215_53 rfl ?_
        refine w_iinc3 r_215_54 rfl (iI_add _ _) ?_
        refine w_goto r_215_57 ?_
        rw [Int.add_zero]
        rw [q] at ih
        exact ih
      · have z : ¬ M.kn e = chc M e i := fun z => by
          by_cases k0 : 0 ≤ kix M e
          · have := ki.2.2.2 k0
            exact q (chc_inj (M := M) (e := e) (by omega) (by omega) (by omega))
          · have := ki.2.2.1.mp (by omega); omega
        have e2 : (if 0 ≤ kix M e ∧ kix M e < ((i + 1 : Nat) : Int) then (kix M e + 1) * 4 ^ ((e : Int)).toNat else 0) = if 0 ≤ kix M e ∧ kix M e < (i : Int) then (kix M e + 1) * 4 ^ ((e : Int)).toNat else 0 := by
          by_cases w : 0 ≤ kix M e ∧ kix M e < (i : Int)
          · rw [if_pos w, if_pos (by omega)]
          · rw [if_neg w, if_neg (by omega)]
        rw [e2] at ih
        refine w_iload3 r_215_14 ?_
        refine w_aload0 r_215_15 ?_
        refine w_getA (x := 142) r_215_16 (Lk_118 hL) (Lr_118_53 hL) (by decide) ?_
        refine w_iload2 r_215_19 ?_
        refine v_iald r_215_20 (Lk_142 hL) (Lz_142 hL) (by decide) (by omega) (e143 hK (by omega)) ?_
        refine v_ic_ge r_215_21 (by first | exact zF_in _ _ _ | exact zA_in _ _ _ | omega) (by first | exact zF_in _ _ _ | exact zA_in _ _ _ | omega) (fun q => absurd q (by omega)) (fun _ => ?_)
        refine w_aload0 r_215_24 ?_
        refine w_getA (x := 137) r_215_25 (Lk_118 hL) (Lr_118_45 hL) (by decide) ?_
        refine w_iload2 r_215_28 ?_
        refine v_iald r_215_29 (Lk_137 hL) (Lz_137 hL) (by decide) (by omega) (e138 hP (by omega)) ?_
        refine w_aload0 r_215_30 ?_
        refine w_getA (x := 141) r_215_31 (Lk_118 hL) (Lr_118_52 hL) (by decide) ?_
        refine w_iconst (v := iI (4)) r_215_34 rfl ?_
        refine w_iload2 r_215_35 ?_
        refine v_imul r_215_36 ?_
        refine w_iload3 r_215_37 ?_
        refine v_iadd r_215_38 ?_
        refine v_iald r_215_39 (Lk_141 hL) (Lz_141 hL) (by decide) (by omega) (e142 hK (by omega) (by omega)) ?_
        refine v_ic_ne r_215_40 (by first | exact zF_in _ _ _ | exact zA_in _ _ _ | omega) (by first | exact zF_in _ _ _ | exact zA_in _ _ _ | omega) (fun _ => ?_) (fun q => absurd q (by omega))
        refine w_iinc3 r_215_54 rfl (iI_add _ _) ?_
        refine w_goto r_215_57 ?_
        exact ih
  have key : ∀ e : Nat, e ≤ M.nd.toNat → ∀ X : Value, XW (d + 1) 215 4 [.ref 118, .int (iI (dsm (fun e => kix M e + 1) e)), .int (iI e), X] [] h (KI K) := by
    refine upto _ ?_ ?_
    · intro X
      refine w_iload2 r_215_4 ?_
      refine w_aload0 r_215_5 ?_
      refine v_getI r_215_6 (Lk_118 hL) (hP.f37) ?_
      refine v_ic_ge r_215_9 (by first | exact zF_in _ _ _ | exact zA_in _ _ _ | omega) (by first | exact zF_in _ _ _ | exact zA_in _ _ _ | omega) (fun _ => ?_) (fun q => absurd q (by omega))
      refine w_iload1 r_215_66 ?_
      refine w_iret r_215_67 ?_
      exact kk
    · intro e he ih X
      refine w_iload2 r_215_4 ?_
      refine w_aload0 r_215_5 ?_
      refine v_getI r_215_6 (Lk_118 hL) (hP.f37) ?_
      refine v_ic_ge r_215_9 (by first | exact zF_in _ _ _ | exact zA_in _ _ _ | omega) (by first | exact zF_in _ _ _ | exact zA_in _ _ _ | omega) (fun q => absurd q (by omega)) (fun _ => ?_)
      refine w_iconst (v := iI (0)) r_215_12 rfl ?_
      refine w_istore3 r_215_13 rfl ?_
      have := inn e (by omega) ih 0 (by omega)
      rw [if_neg (by omega), Int.add_zero] at this
      exact this
  refine w_iconst (v := iI (0)) r_215_0 rfl ?_
  refine w_istore1 r_215_1 rfl ?_
  refine w_iconst (v := iI (0)) r_215_2 rfl ?_
  refine w_istore2 r_215_3 rfl ?_
  exact key 0 (by omega) .null
theorem m_weightOf {e k : Int} (hL : Lay h) (hP : MMp h M) (hm : M.ok G) (hK : MLs h M) (he : 0 ≤ e ∧ e < M.nd) (hk : 0 ≤ k ∧ k < mny M e) (kk : K (iI (M.wt e (chc M e k))) h) : XW d 216 0 [.ref 118, .int (iI e), .int (iI k)] [] h (KI K) := by
  have o := hm.1
  have om := mny_in hm he
  have ci := chc_in hm he hk
  have e139 : gI h 138 (8 * e + chc M e k).toNat = iI (M.wt e (chc M e k)) := by rw [gI_A, hP.2.2.2 e he.1 he.2 _ ci.1 (by omega)]
  refine w_aload0 r_216_0 ?_
  refine w_getA (x := 138) r_216_1 (Lk_118 hL) (Lr_118_46 hL) (by decide) ?_
  refine w_bipush (v := iI (8)) r_216_4 rfl ?_
  refine w_iload1 r_216_6 ?_
  refine v_imul r_216_7 ?_
  refine w_aload0 r_216_8 ?_
  refine w_getA (x := 141) r_216_9 (Lk_118 hL) (Lr_118_52 hL) (by decide) ?_
  refine w_iconst (v := iI (4)) r_216_12 rfl ?_
  refine w_iload1 r_216_13 ?_
  refine v_imul r_216_14 ?_
  refine w_iload2 r_216_15 ?_
  refine v_iadd r_216_16 ?_
  refine v_iald r_216_17 (Lk_141 hL) (Lz_141 hL) (by decide) (by omega) (e142 hK he hk) ?_
  refine v_iadd r_216_18 ?_
  refine v_iald r_216_19 (Lk_138 hL) (Lz_138 hL) (by decide) (by omega) e139 ?_
  refine w_iret r_216_20 ?_
  exact kk
theorem m_allOf {e : Int} (hL : Lay h) (hP : MMp h M) (hm : M.ok G) (hK : MLs h M) (he : 0 ≤ e ∧ e < M.nd) (kk : KL64 (iL (sumTo (fun k => M.wt e (chc M e k)) (mny M e).toNat)) h) : XW (d + 1) 217 0 [.ref 118, .int (iI e), .null, .null, .null] [] h (KL KL64) := by
  have o := hm.1
  have om := mny_in hm he
  have key : ∀ i : Nat, i ≤ (mny M e).toNat → XW (d + 1) 217 5 [.ref 118, .int (iI e), .long (iL (sumTo (fun k => M.wt e (chc M e k)) i)), .null, .int (iI i)] [] h (KL KL64) := by
    refine upto _ ?_ ?_
    · refine w_iload4 r_217_5 ?_
      refine w_aload0 r_217_7 ?_
      refine w_getA (x := 142) r_217_8 (Lk_118 hL) (Lr_118_53 hL) (by decide) ?_
      refine w_iload1 r_217_11 ?_
      refine v_iald r_217_12 (Lk_142 hL) (Lz_142 hL) (by decide) (by omega) (e143 hK he) ?_
      refine v_ic_ge r_217_13 (by first | exact zF_in _ _ _ | exact zA_in _ _ _ | omega) (by first | exact zF_in _ _ _ | exact zA_in _ _ _ | omega) (fun _ => ?_) (fun q => absurd q (by omega))
      refine w_lload2 r_217_33 ?_
      refine w_lret r_217_34 ?_
      exact kk
    · intro i hi ih
      have ci := chc_in hm he (i := i) (by omega)
      refine w_iload4 r_217_5 ?_
      refine w_aload0 r_217_7 ?_
      refine w_getA (x := 142) r_217_8 (Lk_118 hL) (Lr_118_53 hL) (by decide) ?_
      refine w_iload1 r_217_11 ?_
      refine v_iald r_217_12 (Lk_142 hL) (Lz_142 hL) (by decide) (by omega) (e143 hK he) ?_
      refine v_ic_ge r_217_13 (by first | exact zF_in _ _ _ | exact zA_in _ _ _ | omega) (by first | exact zF_in _ _ _ | exact zA_in _ _ _ | omega) (fun q => absurd q (by omega)) (fun _ => ?_)
      refine w_lload2 r_217_16 ?_
      refine w_aload0 r_217_17 ?_
      refine w_iload1 r_217_18 ?_
      refine w_iload4 r_217_19 ?_
      refine k_216 r_217_21 (Lk_118 hL) (Nat.le_of_ble_eq_true rfl) ?_
      refine m_weightOf hL hP hm hK he (by omega) ?_
      refine v_i2l r_217_24 (by first | exact zF_in _ _ _ | exact zA_in _ _ _ | omega) ?_
      refine v_ladd r_217_25 ?_
      refine w_lstore2 r_217_26 rfl ?_
      refine w_iinc4 r_217_27 rfl (iI_add _ _) ?_
      refine w_goto r_217_30 ?_
      exact ih
  refine w_lconst (v := iL 0) r_217_0 rfl ?_
  refine w_lstore2 r_217_1 rfl ?_
  refine w_iconst (v := iI (0)) r_217_2 rfl ?_
  refine w_istore4 r_217_3 rfl ?_
  exact key 0 (by omega)
theorem m_left {s : Int} (hL : Lay h) (hP : MMp h M) (hm : M.ok G) (hK : MLs h M) (hs : 0 ≤ s ∧ s < 1024) (kk : KL64 (iL (prodTo (fun e => if dg s e = 0 then sumTo (fun k => M.wt e (chc M e k)) (mny M e).toNat else 1) M.nd.toNat)) h) : XW (d + 2) 218 0 [.ref 118, .int (iI s), .null, .null, .null] [] h (KL KL64) := by
  have o := hm.1
  have key : ∀ i : Nat, i ≤ M.nd.toNat → XW (d + 2) 218 5 [.ref 118, .int (iI s), .long (iL (prodTo (fun e => if dg s e = 0 then sumTo (fun k => M.wt e (chc M e k)) (mny M e).toNat else 1) i)), .null, .int (iI i)] [] h (KL KL64) := by
    refine upto _ ?_ ?_
    · refine w_iload4 r_218_5 ?_
      refine w_aload0 r_218_7 ?_
      refine v_getI r_218_8 (Lk_118 hL) (hP.f37) ?_
      refine v_ic_ge r_218_11 (by first | exact zF_in _ _ _ | exact zA_in _ _ _ | omega) (by first | exact zF_in _ _ _ | exact zA_in _ _ _ | omega) (fun _ => ?_) (fun q => absurd q (by omega))
      refine w_lload2 r_218_42 ?_
      refine w_lret r_218_43 ?_
      exact kk
    · intro i hi ih
      have di := dg_in s i
      have e : prodTo (fun e => if dg s e = 0 then sumTo (fun k => M.wt e (chc M e k)) (mny M e).toNat else 1) (i + 1) = prodTo (fun e => if dg s e = 0 then sumTo (fun k => M.wt e (chc M e k)) (mny M e).toNat else 1) i * if dg s i = 0 then sumTo (fun k => M.wt i (chc M i k)) (mny M i).toNat else 1 := rfl
      rw [e] at ih
      refine w_iload4 r_218_5 ?_
      refine w_aload0 r_218_7 ?_
      refine v_getI r_218_8 (Lk_118 hL) (hP.f37) ?_
      refine v_ic_ge r_218_11 (by first | exact zF_in _ _ _ | exact zA_in _ _ _ | omega) (by first | exact zF_in _ _ _ | exact zA_in _ _ _ | omega) (fun q => absurd q (by omega)) (fun _ => ?_)
      refine w_iload1 r_218_14 ?_
      refine w_iload4 r_218_15 ?_
      refine k_213 r_218_17 (Nat.le_of_ble_eq_true rfl) ?_
      refine m_digit (by omega) (by omega) ?_
      refine v_if_ne r_218_20 (by first | exact zF_in _ _ _ | exact zA_in _ _ _ | omega) (fun c20 => ?_) (fun c20 => ?_)
      · refine w_lload2 r_218_34 ?_
        refine w_lstore2 r_218_35 rfl ?_
        refine w_iinc4 r_218_36 rfl (iI_add _ _) ?_
        refine w_goto r_218_39 ?_
        first | (rw [if_pos (by omega)] at ih; exact ih) | (rw [if_neg (by omega), Int.mul_one] at ih; exact ih)
      · refine w_lload2 r_218_23 ?_
        refine w_aload0 r_218_24 ?_
        refine w_iload4 r_218_25 ?_
        refine k_217 r_218_27 (Lk_118 hL) (Nat.le_of_ble_eq_true rfl) ?_
        refine m_allOf hL hP hm hK (by omega) ?_
        refine v_lmul r_218_30 ?_
        refine w_goto r_218_31 ?_
        refine w_lstore2 r_218_35 rfl ?_
        refine w_iinc4 r_218_36 rfl (iI_add _ _) ?_
        refine w_goto r_218_39 ?_
        first | (rw [if_pos (by omega)] at ih; exact ih) | (rw [if_neg (by omega), Int.mul_one] at ih; exact ih)
  refine w_lconst (v := iL 1) r_218_0 rfl ?_
  refine w_lstore2 r_218_1 rfl ?_
  refine w_iconst (v := iI (0)) r_218_2 rfl ?_
  refine w_istore4 r_218_3 rfl ?_
  exact key 0 (by omega)
/-- a state that agrees with what is known -/
def CanB (M : XM) (s : Int) (n : Nat) : Prop := ∀ e : Int, 0 ≤ e → e < n → (e < M.nd → dg s e ≤ mny M e ∧ (¬ M.kn e = -1 → dg s e = kix M e + 1)) ∧ (M.nd ≤ e → dg s e = 0)
theorem m_canBe {s : Int} (hL : Lay h) (hP : MMp h M) (hm : M.ok G) (hK : MLs h M) (hs : 0 ≤ s ∧ s < 1024) (kt : CanB M s 5 → K (iI 1) h) (kf : ¬ CanB M s 5 → K (iI 0) h) : XW (d + 1) 219 0 [.ref 118, .int (iI s), .null, .null] [] h (KI K) := by
  have o := hm.1
  have key : ∀ e : Nat, e ≤ 5 → ∀ X : Value, CanB M s e → XW (d + 1) 219 2 [.ref 118, .int (iI s), .int (iI e), X] [] h (KI K) := by
    refine upto _ ?_ ?_
    · intro X hc
      refine w_iload2 r_219_2 ?_
      refine w_iconst (v := iI (5)) r_219_3 rfl ?_
      refine v_ic_ge r_219_4 (by first | exact zF_in _ _ _ | exact zA_in _ _ _ | omega) (by first | exact zF_in _ _ _ | exact zA_in _ _ _ | omega) (fun _ => ?_) (fun q => absurd q (by omega))
      refine w_iconst (v := iI (1)) r_219_91 rfl ?_
      refine w_zret r_219_92 (by decide) ?_
      exact kt hc
    · intro e he ih X hc
      have di := dg_in s e
      have no : ¬ ((e < M.nd → dg s e ≤ mny M e ∧ (¬ M.kn e = -1 → dg s e = kix M e + 1)) ∧ (M.nd ≤ e → dg s e = 0)) → K (iI 0) h := fun z => kf (fun q => z (q e (by omega) (by omega)))
      have yes : ((e < M.nd → dg s e ≤ mny M e ∧ (¬ M.kn e = -1 → dg s e = kix M e + 1)) ∧ (M.nd ≤ e → dg s e = 0)) → CanB M s (e + 1) := fun z e' a b => by
        by_cases w : e' = e
        · rw [w]; exact z
        · exact hc e' a (by omega)
      by_cases q : (e : Int) < M.nd
      · have om := mny_in hm (e := e) (by omega)
        have ki := kix_in hm (e := e) (by omega)
        have kn := (hm.2.2.1 e (by omega) q).2.2.2
        by_cases q2 : dg s e ≤ mny M e
        · by_cases q3 : M.kn e = -1
          · refine w_iload2 r_219_2 ?_
            refine w_iconst (v := iI (5)) r_219_3 rfl ?_
            refine v_ic_ge r_219_4 (by first | exact zF_in _ _ _ | exact zA_in _ _ _ | omega) (by first | exact zF_in _ _ _ | exact zA_in _ _ _ | omega) (fun q => absurd q (by omega)) (fun _ => ?_)
            refine w_iload1 r_219_7 ?_
            refine w_iload2 r_219_8 ?_
            refine k_213 r_219_9 (Nat.le_of_ble_eq_true rfl) ?_
            refine m_digit (by omega) (by omega) ?_
            refine w_istore3 r_219_12 rfl ?_
            refine w_iload2 r_219_13 ?_
            refine w_aload0 r_219_14 ?_
            refine v_getI r_219_15 (Lk_118 hL) (hP.f37) ?_
            refine v_ic_lt r_219_18 (by first | exact zF_in _ _ _ | exact zA_in _ _ _ | omega) (by first | exact zF_in _ _ _ | exact zA_in _ _ _ | omega) (fun _ => ?_) (fun q => absurd q (by omega))
            refine w_iload3 r_219_28 ?_
            refine w_aload0 r_219_29 ?_
            refine w_getA (x := 142) r_219_30 (Lk_118 hL) (Lr_118_53 hL) (by decide) ?_
            refine w_iload2 r_219_33 ?_
            refine v_iald r_219_34 (Lk_142 hL) (Lz_142 hL) (by decide) (by omega) (e143 hK (by omega)) ?_
            refine v_ic_le r_219_35 (by first | exact zF_in _ _ _ | exact zA_in _ _ _ | omega) (by first | exact zF_in _ _ _ | exact zA_in _ _ _ | omega) (fun _ => ?_) (fun q => absurd q (by omega))
            refine w_iload2 r_219_40 ?_
            refine w_aload0 r_219_41 ?_
            refine v_getI r_219_42 (Lk_118 hL) (hP.f37) ?_
            refine v_ic_ge r_219_45 (by first | exact zF_in _ _ _ | exact zA_in _ _ _ | omega) (by first | exact zF_in _ _ _ | exact zA_in _ _ _ | omega) (fun q => absurd q (by omega)) (fun _ => ?_)
            refine w_aload0 r_219_48 ?_
            refine w_getA (x := 137) r_219_49 (Lk_118 hL) (Lr_118_45 hL) (by decide) ?_
            refine w_iload2 r_219_52 ?_
            refine v_iald r_219_53 (Lk_137 hL) (Lz_137 hL) (by decide) (by omega) (e138 hP (by omega)) ?_
            refine w_iconst (v := iI (-1)) r_219_54 rfl ?_
            refine v_ic_eq r_219_55 (by first | exact zF_in _ _ _ | exact zA_in _ _ _ | omega) (by first | exact zF_in _ _ _ | exact zA_in _ _ _ | omega) (fun _ => ?_) (fun q => absurd q (by omega))
            refine w_iinc2 r_219_85 rfl (iI_add _ _) ?_
            refine w_goto r_219_88 ?_
            exact ih _ (yes ⟨fun _ => ⟨q2, fun z => absurd q3 z⟩, fun z => by omega⟩)
          · by_cases q4 : dg s e = 0
            · refine w_iload2 r_219_2 ?_
              refine w_iconst (v := iI (5)) r_219_3 rfl ?_
              refine v_ic_ge r_219_4 (by first | exact zF_in _ _ _ | exact zA_in _ _ _ | omega) (by first | exact zF_in _ _ _ | exact zA_in _ _ _ | omega) (fun q => absurd q (by omega)) (fun _ => ?_)
              refine w_iload1 r_219_7 ?_
              refine w_iload2 r_219_8 ?_
              refine k_213 r_219_9 (Nat.le_of_ble_eq_true rfl) ?_
              refine m_digit (by omega) (by omega) ?_
              refine w_istore3 r_219_12 rfl ?_
              refine w_iload2 r_219_13 ?_
              refine w_aload0 r_219_14 ?_
              refine v_getI r_219_15 (Lk_118 hL) (hP.f37) ?_
              refine v_ic_lt r_219_18 (by first | exact zF_in _ _ _ | exact zA_in _ _ _ | omega) (by first | exact zF_in _ _ _ | exact zA_in _ _ _ | omega) (fun _ => ?_) (fun q => absurd q (by omega))
              refine w_iload3 r_219_28 ?_
              refine w_aload0 r_219_29 ?_
              refine w_getA (x := 142) r_219_30 (Lk_118 hL) (Lr_118_53 hL) (by decide) ?_
              refine w_iload2 r_219_33 ?_
              refine v_iald r_219_34 (Lk_142 hL) (Lz_142 hL) (by decide) (by omega) (e143 hK (by omega)) ?_
              refine v_ic_le r_219_35 (by first | exact zF_in _ _ _ | exact zA_in _ _ _ | omega) (by first | exact zF_in _ _ _ | exact zA_in _ _ _ | omega) (fun _ => ?_) (fun q => absurd q (by omega))
              refine w_iload2 r_219_40 ?_
              refine w_aload0 r_219_41 ?_
              refine v_getI r_219_42 (Lk_118 hL) (hP.f37) ?_
              refine v_ic_ge r_219_45 (by first | exact zF_in _ _ _ | exact zA_in _ _ _ | omega) (by first | exact zF_in _ _ _ | exact zA_in _ _ _ | omega) (fun q => absurd q (by omega)) (fun _ => ?_)
              refine w_aload0 r_219_48 ?_
              refine w_getA (x := 137) r_219_49 (Lk_118 hL) (Lr_118_45 hL) (by decide) ?_
              refine w_iload2 r_219_52 ?_
              refine v_iald r_219_53 (Lk_137 hL) (Lz_137 hL) (by decide) (by omega) (e138 hP (by omega)) ?_
              refine w_iconst (v := iI (-1)) r_219_54 rfl ?_
              refine v_ic_eq r_219_55 (by first | exact zF_in _ _ _ | exact zA_in _ _ _ | omega) (by first | exact zF_in _ _ _ | exact zA_in _ _ _ | omega) (fun q => absurd q (by omega)) (fun _ => ?_)
              refine w_iload3 r_219_58 ?_
              refine v_if_eq r_219_59 (by first | exact zF_in _ _ _ | exact zA_in _ _ _ | omega) (fun _ => ?_) (fun q => absurd q (by omega))
              refine w_iconst (v := iI (0)) r_219_83 rfl ?_
              refine w_zret r_219_84 (by decide) ?_
              exact no (fun z => by have := (z.1 q).2 q3; omega)
            · have ci := chc_in hm (e := e) (i := dg s e - 1) (by omega) (by omega)
              have e142' : gI h 141 (4 * (e : Int) + dg s e - 1).toNat = iI (chc M e (dg s e - 1)) := by
                rw [show 4 * (e : Int) + dg s e - 1 = 4 * (e : Int) + (dg s e - 1) by omega]; exact e142 hK (by omega) (by omega)
              refine w_iload2 r_219_2 ?_
              refine w_iconst (v := iI (5)) r_219_3 rfl ?_
              refine v_ic_ge r_219_4 (by first | exact zF_in _ _ _ | exact zA_in _ _ _ | omega) (by first | exact zF_in _ _ _ | exact zA_in _ _ _ | omega) (fun q => absurd q (by omega)) (fun _ => ?_)
              refine w_iload1 r_219_7 ?_
              refine w_iload2 r_219_8 ?_
              refine k_213 r_219_9 (Nat.le_of_ble_eq_true rfl) ?_
              refine m_digit (by omega) (by omega) ?_
              refine w_istore3 r_219_12 rfl ?_
              refine w_iload2 r_219_13 ?_
              refine w_aload0 r_219_14 ?_
              refine v_getI r_219_15 (Lk_118 hL) (hP.f37) ?_
              refine v_ic_lt r_219_18 (by first | exact zF_in _ _ _ | exact zA_in _ _ _ | omega) (by first | exact zF_in _ _ _ | exact zA_in _ _ _ | omega) (fun _ => ?_) (fun q => absurd q (by omega))
              refine w_iload3 r_219_28 ?_
              refine w_aload0 r_219_29 ?_
              refine w_getA (x := 142) r_219_30 (Lk_118 hL) (Lr_118_53 hL) (by decide) ?_
              refine w_iload2 r_219_33 ?_
              refine v_iald r_219_34 (Lk_142 hL) (Lz_142 hL) (by decide) (by omega) (e143 hK (by omega)) ?_
              refine v_ic_le r_219_35 (by first | exact zF_in _ _ _ | exact zA_in _ _ _ | omega) (by first | exact zF_in _ _ _ | exact zA_in _ _ _ | omega) (fun _ => ?_) (fun q => absurd q (by omega))
              refine w_iload2 r_219_40 ?_
              refine w_aload0 r_219_41 ?_
              refine v_getI r_219_42 (Lk_118 hL) (hP.f37) ?_
              refine v_ic_ge r_219_45 (by first | exact zF_in _ _ _ | exact zA_in _ _ _ | omega) (by first | exact zF_in _ _ _ | exact zA_in _ _ _ | omega) (fun q => absurd q (by omega)) (fun _ => ?_)
              refine w_aload0 r_219_48 ?_
              refine w_getA (x := 137) r_219_49 (Lk_118 hL) (Lr_118_45 hL) (by decide) ?_
              refine w_iload2 r_219_52 ?_
              refine v_iald r_219_53 (Lk_137 hL) (Lz_137 hL) (by decide) (by omega) (e138 hP (by omega)) ?_
              refine w_iconst (v := iI (-1)) r_219_54 rfl ?_
              refine v_ic_eq r_219_55 (by first | exact zF_in _ _ _ | exact zA_in _ _ _ | omega) (by first | exact zF_in _ _ _ | exact zA_in _ _ _ | omega) (fun q => absurd q (by omega)) (fun _ => ?_)
              refine w_iload3 r_219_58 ?_
              refine v_if_eq r_219_59 (by first | exact zF_in _ _ _ | exact zA_in _ _ _ | omega) (fun q => absurd q (by omega)) (fun _ => ?_)
              refine w_aload0 r_219_62 ?_
              refine w_getA (x := 141) r_219_63 (Lk_118 hL) (Lr_118_52 hL) (by decide) ?_
              refine w_iconst (v := iI (4)) r_219_66 rfl ?_
              refine w_iload2 r_219_67 ?_
              refine v_imul r_219_68 ?_
              refine w_iload3 r_219_69 ?_
              refine v_iadd r_219_70 ?_
              refine w_iconst (v := iI (1)) r_219_71 rfl ?_
              refine v_isub r_219_72 ?_
              refine v_iald r_219_73 (Lk_141 hL) (Lz_141 hL) (by decide) (by omega) (e142') ?_
              refine w_aload0 r_219_74 ?_
              refine w_getA (x := 137) r_219_75 (Lk_118 hL) (Lr_118_45 hL) (by decide) ?_
              refine w_iload2 r_219_78 ?_
              refine v_iald r_219_79 (Lk_137 hL) (Lz_137 hL) (by decide) (by omega) (e138 hP (by omega)) ?_
              refine v_ic_eq r_219_80 (by first | exact zF_in _ _ _ | exact zA_in _ _ _ | omega) (by first | exact zF_in _ _ _ | exact zA_in _ _ _ | omega) (fun c80 => ?_) (fun c80 => ?_)
              · refine w_iinc2 r_219_85 rfl (iI_add _ _) ?_
                refine w_goto r_219_88 ?_
                refine ih _ (yes ⟨fun _ => ⟨q2, fun _ => ?_⟩, fun z => by omega⟩)
                have k0 : 0 ≤ kix M e := by
                  apply Classical.byContradiction
                  intro k0
                  exact q3 (ki.2.2.1.mp (by omega))
                have := ki.2.2.2 k0
                have := chc_inj (M := M) (e := e) (i := dg s e - 1) (j := kix M e) (by omega) (by omega) (by omega)
                omega
              · refine w_iconst (v := iI (0)) r_219_83 rfl ?_
                refine w_zret r_219_84 (by decide) ?_
                refine no (fun z => ?_)
                have z2 := (z.1 q).2 q3
                have := ki.2.2.2 (by omega)
                rw [z2, show kix M e + 1 - 1 = kix M e by omega] at c80
                omega
        · refine w_iload2 r_219_2 ?_
          refine w_iconst (v := iI (5)) r_219_3 rfl ?_
          refine v_ic_ge r_219_4 (by first | exact zF_in _ _ _ | exact zA_in _ _ _ | omega) (by first | exact zF_in _ _ _ | exact zA_in _ _ _ | omega) (fun q => absurd q (by omega)) (fun _ => ?_)
          refine w_iload1 r_219_7 ?_
          refine w_iload2 r_219_8 ?_
          refine k_213 r_219_9 (Nat.le_of_ble_eq_true rfl) ?_
          refine m_digit (by omega) (by omega) ?_
          refine w_istore3 r_219_12 rfl ?_
          refine w_iload2 r_219_13 ?_
          refine w_aload0 r_219_14 ?_
          refine v_getI r_219_15 (Lk_118 hL) (hP.f37) ?_
          refine v_ic_lt r_219_18 (by first | exact zF_in _ _ _ | exact zA_in _ _ _ | omega) (by first | exact zF_in _ _ _ | exact zA_in _ _ _ | omega) (fun _ => ?_) (fun q => absurd q (by omega))
          refine w_iload3 r_219_28 ?_
          refine w_aload0 r_219_29 ?_
          refine w_getA (x := 142) r_219_30 (Lk_118 hL) (Lr_118_53 hL) (by decide) ?_
          refine w_iload2 r_219_33 ?_
          refine v_iald r_219_34 (Lk_142 hL) (Lz_142 hL) (by decide) (by omega) (e143 hK (by omega)) ?_
          refine v_ic_le r_219_35 (by first | exact zF_in _ _ _ | exact zA_in _ _ _ | omega) (by first | exact zF_in _ _ _ | exact zA_in _ _ _ | omega) (fun q => absurd q (by omega)) (fun _ => ?_)
          refine w_iconst (v := iI (0)) r_219_38 rfl ?_
          refine w_zret r_219_39 (by decide) ?_
          exact no (fun z => by have := (z.1 q).1; omega)
      · by_cases q2 : dg s e = 0
        · refine w_iload2 r_219_2 ?_
          refine w_iconst (v := iI (5)) r_219_3 rfl ?_
          refine v_ic_ge r_219_4 (by first | exact zF_in _ _ _ | exact zA_in _ _ _ | omega) (by first | exact zF_in _ _ _ | exact zA_in _ _ _ | omega) (fun q => absurd q (by omega)) (fun _ => ?_)
          refine w_iload1 r_219_7 ?_
          refine w_iload2 r_219_8 ?_
          refine k_213 r_219_9 (Nat.le_of_ble_eq_true rfl) ?_
          refine m_digit (by omega) (by omega) ?_
          refine w_istore3 r_219_12 rfl ?_
          refine w_iload2 r_219_13 ?_
          refine w_aload0 r_219_14 ?_
          refine v_getI r_219_15 (Lk_118 hL) (hP.f37) ?_
          refine v_ic_lt r_219_18 (by first | exact zF_in _ _ _ | exact zA_in _ _ _ | omega) (by first | exact zF_in _ _ _ | exact zA_in _ _ _ | omega) (fun q => absurd q (by omega)) (fun _ => ?_)
          refine w_iload3 r_219_21 ?_
          refine v_if_le r_219_22 (by first | exact zF_in _ _ _ | exact zA_in _ _ _ | omega) (fun _ => ?_) (fun q => absurd q (by omega))
          refine w_iload2 r_219_40 ?_
          refine w_aload0 r_219_41 ?_
          refine v_getI r_219_42 (Lk_118 hL) (hP.f37) ?_
          refine v_ic_ge r_219_45 (by first | exact zF_in _ _ _ | exact zA_in _ _ _ | omega) (by first | exact zF_in _ _ _ | exact zA_in _ _ _ | omega) (fun _ => ?_) (fun q => absurd q (by omega))
          refine w_iinc2 r_219_85 rfl (iI_add _ _) ?_
          refine w_goto r_219_88 ?_
          exact ih _ (yes ⟨fun z => by omega, fun _ => q2⟩)
        · refine w_iload2 r_219_2 ?_
          refine w_iconst (v := iI (5)) r_219_3 rfl ?_
          refine v_ic_ge r_219_4 (by first | exact zF_in _ _ _ | exact zA_in _ _ _ | omega) (by first | exact zF_in _ _ _ | exact zA_in _ _ _ | omega) (fun q => absurd q (by omega)) (fun _ => ?_)
          refine w_iload1 r_219_7 ?_
          refine w_iload2 r_219_8 ?_
          refine k_213 r_219_9 (Nat.le_of_ble_eq_true rfl) ?_
          refine m_digit (by omega) (by omega) ?_
          refine w_istore3 r_219_12 rfl ?_
          refine w_iload2 r_219_13 ?_
          refine w_aload0 r_219_14 ?_
          refine v_getI r_219_15 (Lk_118 hL) (hP.f37) ?_
          refine v_ic_lt r_219_18 (by first | exact zF_in _ _ _ | exact zA_in _ _ _ | omega) (by first | exact zF_in _ _ _ | exact zA_in _ _ _ | omega) (fun q => absurd q (by omega)) (fun _ => ?_)
          refine w_iload3 r_219_21 ?_
          refine v_if_le r_219_22 (by first | exact zF_in _ _ _ | exact zA_in _ _ _ | omega) (fun q => absurd q (by omega)) (fun _ => ?_)
          refine w_goto r_219_25 ?_
          refine w_iconst (v := iI (0)) r_219_38 rfl ?_
          refine w_zret r_219_39 (by decide) ?_
          exact no (fun z => q2 (z.2 (by omega)))
  refine w_iconst (v := iI (0)) r_219_0 rfl ?_
  refine w_istore2 r_219_1 rfl ?_
  exact key 0 (by omega) .null (fun e a b => by omega)
end MO1
