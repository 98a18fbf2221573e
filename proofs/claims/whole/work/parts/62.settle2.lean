/-! the class settles a row; looks at a state -/
theorem row_out {s s' c' n : Int} (hn : 1 ≤ n) (hc' : 0 ≤ c' ∧ c' < n) (hs : ¬ s' = s) : s' * n + c' < s * n ∨ s * n + n ≤ s' * n + c' := by
  by_cases q : s < s'
  · have := Int.mul_le_mul_of_nonneg_right (a := s + 1) (b := s') (c := n) (by omega) (by omega)
    rw [Int.add_mul] at this; omega
  · have := Int.mul_le_mul_of_nonneg_right (a := s' + 1) (b := s) (c := n) (by omega) (by omega)
    rw [Int.add_mul] at this; omega
theorem cntT_no (n : Nat) : cntT (fun _ => false) n = 0 := by
  induction n with
  | zero => rfl
  | succ n ih => show cntT (fun _ => false) n + (if false = true then 1 else 0) = 0; rw [ih]; rfl
section ST2
variable {d : Nat} {h : XH} {K : Int32 → XH → Prop} {KL64 : Int64 → XH → Prop} {KU : XH → Prop} {wa va zv : Nat} {hp sl val : Int → Int} {sz n i x : Int} {M : XM} {B : XB} {dd go stp : Int} {bm : Bool}
theorem WOk.put {s c z : Int} (hO : WOk h wa va zv B dd M go bm stp) (hn : 1 ≤ M.n) (hs : StM M s) (hc : 0 ≤ c ∧ c < M.n) (hz : -9223372036854775808 ≤ z ∧ z ≤ 9223372036854775807) (hns : ¬ zA h (wa + 1) s = stp) : WOk (sL h va (s * M.n + c).toNat (iL z)) wa va zv B dd M go bm stp ∧ Kep h (sL h va (s * M.n + c).toNat (iL z)) wa va M.n s := by
  obtain ⟨a, b, e⟩ := hO
  have s0 := Int.mul_nonneg hs.1.1 (show 0 ≤ M.n by omega)
  have out : ∀ s', 0 ≤ s' → ¬ s' = s → ∀ c', 0 ≤ c' → c' < M.n → zL (sL h va (s * M.n + c).toNat (iL z)) va (s' * M.n + c') = zL h va (s' * M.n + c') := fun s' q1 q2 c' c0 c1 => by
    have := Int.mul_nonneg q1 (show 0 ≤ M.n by omega)
    rw [zL_s (by omega) (by omega) hz, if_neg (row_ne hn ⟨c0, c1⟩ hc q2)]
  refine ⟨⟨⟨a.1.fr ((Fr.refl (pA [va]) h).sL va _ _ (by simp [pA])), a.2⟩, fun s' q1 q2 c' c0 c1 => ?_, e⟩, fun s' q1 q2 => ⟨rfl, fun c' c0 c1 => out s' q1 (by omega) c' c0 c1⟩⟩
  have q2' : zA h (wa + 1) s' = stp := q2
  rw [out s' q1.1.1 (fun w => hns (by rw [← w]; exact q2')) c' c0 c1]
  exact b s' q1 q2' c' c0 c1
theorem WOk.fr {P : Nat → Nat → Bool} {h' : XH} (f : Fr P h h') (p1 : ∀ j, P (wa + 1) j = false ∧ P va j = false) (p2 : P wa 4 = false ∧ P wa 2 = false ∧ P wa 8 = false) (hO : WOk h wa va zv B dd M go bm stp) : WOk h' wa va zv B dd M go bm stp := by
  obtain ⟨a, b, e⟩ := hO
  refine ⟨⟨a.1.fr f, ((f.2 _ _ p2.1).1).trans a.2.1, ((f.2 _ _ p2.2.1).1).trans a.2.2.1, ((f.2 _ _ p2.2.2).1).trans a.2.2.2.1, a.2.2.2.2⟩, fun s q1 q2 => ?_, e.1, fun s q1 q3 => (by rw [f.A (p1 _).1]; exact e.2 s q1 q3)⟩
  rw [f.A (p1 _).1] at q2
  exact (b s q1 q2).fr f (fun j => (p1 j).2)
theorem Kep.of {h' : XH} {P : Nat → Nat → Bool} {s : Int} (f : Fr P h h') (p1 : ∀ j, P (wa + 1) j = false ∧ P va j = false) : Kep h h' wa va n s := fun s' _ _ => ⟨f.A (p1 _).1, fun c _ _ => f.L (p1 _).2⟩
theorem c_settle {k : Nat} (hw : Wa wa) (ho : B.ok) (hd : 0 ≤ dd ∧ dd < B.w) (hm : M.ok B.g) (hg : 0 ≤ go ∧ go < M.n) (N : SeeT wa va zv B dd M go bm stp k (3 * k + 4) (3 * k + 1) (fun s c => c = go ∨ ¬ (xp B dd M go bm).nw s c = -1) 1) : SetT wa va zv B dd M go bm stp k (3 * k + 5) (3 * k + 2) := by
  intro D h KU s dp hD hL hP hE hO hs hk hdp hdp2 kk
  obtain ⟨D, rfl⟩ : ∃ D', D = D' + 5 := ⟨D - 5, by omega⟩
  have o := hm.1
  have hn := M.n_in hm
  have hs1 := hs.1
  have u := uns_in hs1
  have hw' : wa = 96 ∨ wa = 101 := hw
  have vne := hO.1.1.2.2.2.2.2.2
  have zv1 := hO.1.1.2.2.2.2.2.1
  have s0 := Int.mul_nonneg hs1.1 (show 0 ≤ M.n by omega)
  have sm := hO.2.2.1 s hs
  have hX := xp_ok (go := go) (bm := bm) ho hm hd hg
  have hV := Vl_sol hX
  have hst : St (xp B dd M go bm) s := hs
  have sS0 : ∀ h1 : XH, CMp h1 M → ∀ c, 0 ≤ c ∧ c < M.n → (lnd (zA h1 84 c) (uns s) = 0 ↔ (xp B dd M go bm).nw s c = -1) := fun h1 hP c hc => see0 hP hm hs1 hc
  have est : gI h (wa + 1) s.toNat = iI (zA h (wa + 1) s) := gI_A _ _ _
  have stR := hO.1.2.2.2.2
  have hW := hO.1.1
  have ec0 : gI h 80 2 = iI M.n := by rw [gI_F, hP.1.2.2.1]
  by_cases qs : zA h (wa + 1) s = stp
  · refine w_aload0 r_107_0 ?_
    refine w_getA (x := wa + 1) r_107_1 (Wk hL hw).1 (Wk1 hL hw).2.2.2.1 (Wk1 hL hw).2.2.2.2 ?_
    refine w_iload1 r_107_4 ?_
    refine v_iald r_107_5 (Wk1 hL hw).1 (Wk1 hL hw).2.1 (by decide) (by omega) est ?_
    refine w_aload0 r_107_6 ?_
    refine v_getI r_107_7 (Wk hL hw).1 (hO.1.2.2.2.1) ?_
    refine v_ic_ne r_107_10 (by first | exact zF_in _ _ _ | exact zA_in _ _ _ | omega) (by first | exact zF_in _ _ _ | exact zA_in _ _ _ | omega) (fun q => absurd q (by omega)) (fun _ => ?_)
    refine w_vret r_107_13 ?_
    exact kk h (Fr.refl _ _) hO (Kep.refl _ _ _ _ _) qs
  · have eXn : (xp B dd M go bm).n = M.n := rfl
    have eXgo : (xp B dd M go bm).go = go := rfl
    generalize hXe : xp B dd M go bm = X at *
    have vf : ∀ c, 0 ≤ c → c < M.n → X.bd s c = true → Vl X s c = X.bv (Vl X) s c := fun c c0 c1 q => by
      have := (hV s hst).1 c c0 (by omega)
      rw [if_pos q] at this; exact this
    have vb : ∀ c, 0 ≤ c → c < M.n → (0 ≤ Vl X s c ∧ Vl X s c ≤ 1000000000000000) := fun c c0 c1 => (hV s hst).2 c c0 (by omega)
    generalize hini : (fun c => if X.bd s c = true then cvv (X.bv (Vl X) s c) else 1152921504606846976) = ini
    have ini1 : ∀ c, ini c = if X.bd s c = true then cvv (X.bv (Vl X) s c) else 1152921504606846976 := fun c => by rw [← hini]
    have iniB : ∀ c, 0 ≤ c → c < M.n → 0 ≤ ini c ∧ ini c ≤ 1152921504606846976 ∧ (ini c = 1152921504606846976 ∨ ini c ≤ 400000000000000) := fun c c0 c1 => by
      rw [ini1]
      split
      · rename_i q
        rw [← vf c c0 c1 q]
        have cl := cvv_lt (vb c c0 c1)
        have sml := Sol.small hX hV hst c0 (show c < X.n by omega)
        by_cases z : Vl X s c < 1000000000000000
        · have := (sml z).1
          rw [cl.2.2 z]; omega
        · have : cvv (Vl X s c) = 1152921504606846976 := by unfold cvv; rw [if_pos (by omega)]
          omega
      · omega
    -- the rows are spread from what is seen
    have lp2 : ∀ c : Nat, c ≤ M.n.toNat → ∀ (h1 : XH) (hp sl : Int → Int) (sz : Int) (X6 : Value), Fr (PWs wa va) h h1 → WOk h1 wa va zv B dd M go bm stp → Kep h h1 wa va M.n s → ¬ zA h1 (wa + 1) s = stp → VR h1 va (s * M.n) M.n ini → HR h1 wa hp sl → gI h1 wa 11 = iI sz → gI h1 wa 12 = iI (s * M.n) → Hp hp sl sz M.n ini → (∀ z, Mem hp sz z ↔ ((0 ≤ z ∧ z < c) ∧ ini z < 1152921504606846976)) → (∀ z, 0 ≤ z → z < (c : Int) → ¬ Mem hp sz z → sl z = -1) → XW (D + 5) 107 130 [.ref wa, .int (iI s), .int (iI dp), .int (iI (s * M.n)), .int (iI (uns s)), .int (iI c), X6] [] h1 (KV KU) := by
      refine upto _ ?_ ?_
      · intro h1 hp sl sz X6 f hO1 hK1 hns hV1 hR1 e11 e12 H1 hm1 hs2
        have hL := f.lay hL
        obtain ⟨hP, hE⟩ := PWs_fr hw vne f hP hE
        have ec : gI h1 80 2 = iI M.n := by rw [gI_F, hP.1.2.2.1]
        have hW := hO1.1.1
        have nb : (((M.n.toNat : Nat) : Int)) = M.n := by omega
        rw [nb] at hm1 hs2
        have I0 : SpI h1 h1 wa va (s * M.n) X s hp sl ini sz (fun _ => false) 0 (-1) 0 := by
          refine ⟨⟨Fr.refl _ _, fun j _ _ => rfl⟩, ⟨by rw [eXn]; exact hV1, hR1, e11⟩, by rw [eXn]; exact H1, ⟨fun c c0 c1 => ?_, fun c c0 c1 q => ?_, fun c c0 c1 q => ?_, fun y q => (Bool.false_ne_true q).elim⟩, fun y q => (Bool.false_ne_true q).elim, ⟨fun c c0 c1 q => Or.inr ((hm1 c).mpr ⟨⟨c0, by omega⟩, q⟩), fun c q => ?_, fun y c q => (Bool.false_ne_true q).elim, fun c c0 c1 q _ => hs2 c c0 (by omega) q⟩, by rw [cntT_no]; rfl⟩
          · have := iniB c c0 (by omega); omega
          · rw [ini1, if_pos q]
          · left; rw [ini1, if_neg (by rw [q]; decide)]
          · have := (hm1 c).mp q; exact ⟨by omega, this.2, rfl⟩
        refine w_iload5 r_107_130 ?_
        refine w_aload0 r_107_132 ?_
        refine w_getA (x := 80) r_107_133 (Wk hL hw).1 (Wk0 hL hw).1 (by decide) ?_
        refine v_getI r_107_136 (Lk_80 hL) ec ?_
        refine v_ic_ge r_107_139 (by first | exact zF_in _ _ _ | exact zA_in _ _ _ | omega) (by first | exact zF_in _ _ _ | exact zA_in _ _ _ | omega) (fun _ => ?_) (fun q => absurd q (by omega))
        refine w_aload0 r_107_178 ?_
        refine w_iload1 r_107_179 ?_
        refine w_iload4 r_107_180 ?_
        refine k_108 r_107_182 (Wk hL hw).1 (Nat.le_of_ble_eq_true rfl) ?_
        refine c_spread (B := B) (dd := dd) (go := go) (bm := bm) hL hw hW ho hd hP hm hg hE hs hO1.1.2.2.1 hO1.1.2.1 e12 ⟨s0, sm⟩ (by rw [hXe]; exact I0) (fun h2 f2 kp2 V2 => ?_)
        have hL := f2.lay hL
        have hW := hW.fr f2
        rw [hXe] at V2
        have e8 : gI h2 wa 8 = iI stp := ((f2.2 wa 8 (by simp [pO, pA, pF]; omega)).1).trans hO1.1.2.2.2.1
        refine w_aload0 r_107_185 ?_
        refine w_getA (x := wa + 1) r_107_186 (Wk hL hw).1 (Wk1 hL hw).2.2.2.1 (Wk1 hL hw).2.2.2.2 ?_
        refine w_iload1 r_107_189 ?_
        refine w_aload0 r_107_190 ?_
        refine v_getI r_107_191 (Wk hL hw).1 e8 ?_
        refine v_iast r_107_194 (Wk1 hL hw).1 (Wk1 hL hw).2.2.1 (Wk1 hL hw).2.1 (by decide) (by omega) ?_
        refine w_vret r_107_195 ?_
        have ste : ∀ s', 0 ≤ s' → zA (sI h2 (wa + 1) s.toNat (iI stp)) (wa + 1) s' = if s' = s then stp else zA h1 (wa + 1) s' := fun s' q => by
          rw [zA_s hs1.1 q stR]
          split
          · rfl
          · rw [f2.A (by simp [pO, pA, pF]; omega)]
        have ov : ∀ s', 0 ≤ s' → ¬ s' = s → ∀ c', 0 ≤ c' → c' < M.n → zL h2 va (s' * M.n + c') = zL h1 va (s' * M.n + c') := fun s' q1 q2 c' c0 c1 => by
          have := Int.mul_nonneg q1 (show 0 ≤ M.n by omega)
          exact kp2 _ (by omega) (row_out (by omega) ⟨c0, c1⟩ q2)
        refine kk _ ((f.trans (f2.mono (fun a j q => by simp [pO, pA, pF] at q ⊢; omega))).sI (wa + 1) _ _ (by simp [pO, pA])) ⟨⟨hW, ?_, ?_, ?_, stR⟩, fun s' q1 q2 => ?_, hO1.2.2.1, fun s' q1 q3 => (by rw [ste s' q1]; split <;> first | exact Int.le_refl _ | exact hO1.2.2.2 s' q1 q3)⟩ (fun s' q1 q2 => ⟨?_, fun c' c0 c1 => ?_⟩) ?_
        · rw [sI_other _ (by omega), (f2.2 wa 4 (by simp [pO, pA, pF]; omega)).1]; exact hO1.1.2.1
        · rw [sI_other _ (by omega), (f2.2 wa 2 (by simp [pO, pA, pF]; omega)).1]; exact hO1.1.2.2.1
        · rw [sI_other _ (by omega)]; exact e8
        · rw [ste s' q1.1.1] at q2
          by_cases z : s' = s
          · rw [z, hXe]; exact V2
          · rw [if_neg z] at q2
            intro c' c0 c1
            have := hO1.2.1 s' q1 q2 c' c0 c1
            rw [← this]
            exact ov s' q1.1.1 z c' c0 c1
        · rw [ste s' q1, if_neg (by omega)]; exact (hK1 s' q1 q2).1
        · exact (ov s' q1 (by omega) c' c0 c1).trans ((hK1 s' q1 q2).2 c' c0 c1)
        · rw [ste s hs1.1, if_pos rfl]
      · intro c hc ih h1 hp sl sz X6 f hO1 hK1 hns hV1 hR1 e11 e12 H1 hm1 hs2
        have hL := f.lay hL
        obtain ⟨hP, hE⟩ := PWs_fr hw vne f hP hE
        have ec : gI h1 80 2 = iI M.n := by rw [gI_F, hP.1.2.2.1]
        have hW := hO1.1.1
        have nmc : ¬ Mem hp sz c := fun z => by have := (hm1 c).mp z; omega
        have ib := iniB c (by omega) (by omega)
        have F2 : Fr (PHp wa) h1 (sI h1 (wa + 3) ((c : Int)).toNat (iI (-1))) := (Fr.refl _ _).sI (wa + 3) _ _ (by simp [pO, pA])
        have nva := va_ne hw hW
        have R2 : HR (sI h1 (wa + 3) ((c : Int)).toNat (iI (-1))) wa hp (up1 sl c (-1)) := by
          refine ⟨fun j j0 j1 => ?_, fun j j0 j1 => ?_⟩
          · rw [zA_o _ (by omega)]; exact hR1.1 j j0 j1
          · rw [zA_s (by omega) j0 (by decide)]
            unfold up1
            split
            · rfl
            · exact hR1.2 j j0 j1
        have H2 : Hp hp (up1 sl c (-1)) sz M.n ini := by
          refine ⟨H1.1, fun j j0 j1 => ⟨(H1.2.1 j j0 j1).1, ?_⟩, H1.2.2⟩
          rw [up1_ne (fun z => nmc ⟨j, j0, j1, z⟩)]; exact (H1.2.1 j j0 j1).2
        have O2 : WOk (sI h1 (wa + 3) ((c : Int)).toNat (iI (-1))) wa va zv B dd M go bm stp := hO1.fr F2 (fun j => ⟨by simp [pO, pA, pF], nva j⟩) (by simp [pO, pA, pF])
        have evc : gL (sI h1 (wa + 3) ((c : Int)).toNat (iI (-1))) va (s * M.n + (c : Int)).toNat = iL (ini c) := hV1.at (c := c) (by omega)
        have e12' : gI (sI h1 (wa + 3) ((c : Int)).toNat (iI (-1))) wa 12 = iI (s * M.n) := by rw [sI_other _ (by omega)]; exact e12
        have e11' : gI (sI h1 (wa + 3) ((c : Int)).toNat (iI (-1))) wa 11 = iI sz := by rw [sI_other _ (by omega)]; exact e11
        have wide : ∀ a j, PWs wa va a j = false → PHp wa a j = false := fun a j q => by simp [pO, pA, pF] at q ⊢; omega
        have go2 : ∀ (h3 : XH) (hp' sl' : Int → Int) (sz' : Int) (X6 : Value), Fr (PHp wa) h1 h3 → HR h3 wa hp' sl' → gI h3 wa 11 = iI sz' → Hp hp' sl' sz' M.n ini → (∀ z, Mem hp' sz' z ↔ ((0 ≤ z ∧ z < ((c + 1 : Nat) : Int)) ∧ ini z < 1152921504606846976)) → (∀ z, 0 ≤ z → z < ((c + 1 : Nat) : Int) → ¬ Mem hp' sz' z → sl' z = -1) → XW (D + 5) 107 130 [.ref wa, .int (iI s), .int (iI dp), .int (iI (s * M.n)), .int (iI (uns s)), .int (iI ((c : Int) + 1)), X6] [] h3 (KV KU) := by
          intro h3 hp' sl' sz' X6 f3 r3 z3 H3 m3 s3
          refine ih h3 hp' sl' sz' X6 (f.trans (f3.mono wide)) (hO1.fr f3 (fun j => ⟨by simp [pO, pA, pF], nva j⟩) (by simp [pO, pA, pF])) (hK1.trans (Kep.of f3 (fun j => ⟨by simp [pO, pA, pF], nva j⟩))) ?_ (hV1.fr f3 nva) r3 z3 ?_ H3 m3 s3
          · rw [f3.A (by simp [pO, pA, pF])]; exact hns
          · exact ((f3.2 wa 12 (by simp [pO, pA, pF])).1).trans e12
        by_cases q : ini c < 1152921504606846976
        · have szl := H1.room (c := c) (by omega) nmc
          have HX := H2.addX (x := c) (by omega) szl nmc
          refine w_iload5 r_107_130 ?_
          refine w_aload0 r_107_132 ?_
          refine w_getA (x := 80) r_107_133 (Wk hL hw).1 (Wk0 hL hw).1 (by decide) ?_
          refine v_getI r_107_136 (Lk_80 hL) ec ?_
          refine v_ic_ge r_107_139 (by first | exact zF_in _ _ _ | exact zA_in _ _ _ | omega) (by first | exact zF_in _ _ _ | exact zA_in _ _ _ | omega) (fun q => absurd q (by omega)) (fun _ => ?_)
          refine w_aload0 r_107_142 ?_
          refine w_getA (x := wa + 3) r_107_143 (Wk hL hw).1 (Wk3 hL hw).2.2.2.1 (Wk3 hL hw).2.2.2.2 ?_
          refine w_iload5 r_107_146 ?_
          refine w_iconst (v := iI (-1)) r_107_148 rfl ?_
          refine v_iast r_107_149 (Wk3 hL hw).1 (Wk3 hL hw).2.2.1 (Wk3 hL hw).2.1 (by decide) (by omega) ?_
          refine w_aload0 r_107_150 ?_
          refine w_getA (x := va) r_107_151 (Wk hL hw).1 hW.1 hW.2.2.2.2.1 ?_
          refine w_iload3 r_107_154 ?_
          refine w_iload5 r_107_155 ?_
          refine v_iadd r_107_157 ?_
          refine v_lald r_107_158 hW.2.1 hW.2.2.1 (by omega) (by omega) evc ?_
          refine w_ldc2 (v := iL (1152921504606846976)) r_107_159 rfl ?_
          refine v_lcmp r_107_162 (by first | exact zF_in _ _ _ | exact zA_in _ _ _ | omega) (by first | exact zF_in _ _ _ | exact zA_in _ _ _ | omega) ?_
          rw [if_neg (by omega), if_neg (by omega)] 
          refine v_if_ge r_107_163 (by first | exact zF_in _ _ _ | exact zA_in _ _ _ | omega) (fun q => absurd q (by decide)) (fun _ => ?_)
          refine w_aload0 r_107_166 ?_
          refine w_iload5 r_107_167 ?_
          refine k_110 r_107_169 (Wk hL hw).1 (Nat.le_of_ble_eq_true rfl) ?_
          refine c_lift (sz := sz + 1) (i := sz) (n := M.n) (val := ini) (ro := s * M.n) hL hw O2.1.1 e12' ⟨s0, sm⟩ (by omega) hV1 R2 e11' HX (by omega) (Or.inl ⟨up1_at _ _ _, rfl, rfl⟩) (fun h3 L => ?_)
          refine w_iinc5 r_107_172 rfl (iI_add _ _) ?_
          refine w_goto r_107_175 ?_
          obtain ⟨l1, l2, hp', sl', l3, l4, l5, l6⟩ := L
          refine go2 h3 hp' sl' (sz + 1) _ (F2.trans l1) l3 l2 l4 (fun z => ?_) (fun z z0 z1 z2 => ?_)
          · rw [l5 z, memX_new, hm1 z]
            constructor
            · rintro (w | w)
              · rw [w]; exact ⟨by omega, q⟩
              · exact ⟨by omega, w.2⟩
            · rintro ⟨w1, w2⟩
              by_cases w : z = (c : Int)
              · exact Or.inl w
              · exact Or.inr ⟨by omega, w2⟩
          · rw [l6 z z2]
            have z3 := z2
            rw [l5 z, memX_new] at z3
            have zc : ¬ z = (c : Int) := fun w => z3 (Or.inl w)
            rw [up1_ne zc]
            exact hs2 z z0 (by omega) (fun w => z3 (Or.inr w))
        · refine w_iload5 r_107_130 ?_
          refine w_aload0 r_107_132 ?_
          refine w_getA (x := 80) r_107_133 (Wk hL hw).1 (Wk0 hL hw).1 (by decide) ?_
          refine v_getI r_107_136 (Lk_80 hL) ec ?_
          refine v_ic_ge r_107_139 (by first | exact zF_in _ _ _ | exact zA_in _ _ _ | omega) (by first | exact zF_in _ _ _ | exact zA_in _ _ _ | omega) (fun q => absurd q (by omega)) (fun _ => ?_)
          refine w_aload0 r_107_142 ?_
          refine w_getA (x := wa + 3) r_107_143 (Wk hL hw).1 (Wk3 hL hw).2.2.2.1 (Wk3 hL hw).2.2.2.2 ?_
          refine w_iload5 r_107_146 ?_
          refine w_iconst (v := iI (-1)) r_107_148 rfl ?_
          refine v_iast r_107_149 (Wk3 hL hw).1 (Wk3 hL hw).2.2.1 (Wk3 hL hw).2.1 (by decide) (by omega) ?_
          refine w_aload0 r_107_150 ?_
          refine w_getA (x := va) r_107_151 (Wk hL hw).1 hW.1 hW.2.2.2.2.1 ?_
          refine w_iload3 r_107_154 ?_
          refine w_iload5 r_107_155 ?_
          refine v_iadd r_107_157 ?_
          refine v_lald r_107_158 hW.2.1 hW.2.2.1 (by omega) (by omega) evc ?_
          refine w_ldc2 (v := iL (1152921504606846976)) r_107_159 rfl ?_
          refine v_lcmp r_107_162 (by first | exact zF_in _ _ _ | exact zA_in _ _ _ | omega) (by first | exact zF_in _ _ _ | exact zA_in _ _ _ | omega) ?_
          rw [if_neg (by omega), if_pos (by omega)] 
          refine v_if_ge r_107_163 (by first | exact zF_in _ _ _ | exact zA_in _ _ _ | omega) (fun _ => ?_) (fun q => absurd q (by decide))
          refine w_iinc5 r_107_172 rfl (iI_add _ _) ?_
          refine w_goto r_107_175 ?_
          refine go2 _ hp (up1 sl c (-1)) sz _ F2 R2 e11' H2 (fun z => ?_) (fun z z0 z1 z2 => ?_)
          · rw [hm1 z]
            constructor
            · rintro ⟨w1, w2⟩; exact ⟨by omega, w2⟩
            · rintro ⟨w1, w2⟩
              have : ¬ z = (c : Int) := fun w => by rw [w] at w2; exact q w2
              exact ⟨by omega, w2⟩
          · by_cases w : z = (c : Int)
            · rw [w, up1_at]
            · rw [up1_ne w]; exact hs2 z z0 (by omega) z2
    -- what is seen at once
    have lp1 : ∀ c : Nat, c ≤ M.n.toNat → ∀ (h1 : XH) (X6 : Value), Fr (PWs wa va) h h1 → WOk h1 wa va zv B dd M go bm stp → Kep h h1 wa va M.n s → ¬ zA h1 (wa + 1) s = stp → (∀ c' : Int, 0 ≤ c' → c' < c → zL h1 va (s * M.n + c') = ini c') → XW (D + 5) 107 37 [.ref wa, .int (iI s), .int (iI dp), .int (iI (s * M.n)), .int (iI (uns s)), .int (iI c), X6] [] h1 (KV KU) := by
      refine upto _ ?_ ?_
      · intro h1 X6 f hO1 hK1 hns g
        have hL := f.lay hL
        obtain ⟨hP, hE⟩ := PWs_fr hw vne f hP hE
        have ec : gI h1 80 2 = iI M.n := by rw [gI_F, hP.1.2.2.1]
        have hW := hO1.1.1
        have F2 : Fr (pF [(wa, 11), (wa, 12)]) h1 (sI (sI h1 wa 12 (iI (s * M.n))) wa 11 (iI 0)) := ((Fr.refl _ _).sI wa 12 _ (by simp [pF])).sI wa 11 _ (by simp [pF])
        have pv : ∀ j, pF [(wa, 11), (wa, 12)] va j = false := fun j => by simp [pF]; omega
        refine w_iload5 r_107_37 ?_
        refine w_aload0 r_107_39 ?_
        refine w_getA (x := 80) r_107_40 (Wk hL hw).1 (Wk0 hL hw).1 (by decide) ?_
        refine v_getI r_107_43 (Lk_80 hL) ec ?_
        refine v_ic_ge r_107_46 (by first | exact zF_in _ _ _ | exact zA_in _ _ _ | omega) (by first | exact zF_in _ _ _ | exact zA_in _ _ _ | omega) (fun _ => ?_) (fun q => absurd q (by omega))
        refine w_aload0 r_107_117 ?_
        refine w_iload3 r_107_118 ?_
        refine w_putI r_107_119 (Wk hL hw).1 (Wk hL hw).2.1 ?_
        refine w_aload0 r_107_122 ?_
        refine w_iconst (v := iI (0)) r_107_123 rfl ?_
        refine w_putI r_107_124 (Wk hL hw).1 (Wk hL hw).2.1 ?_
        refine w_iconst (v := iI (0)) r_107_127 rfl ?_
        refine w_istore5 r_107_128 rfl ?_
        refine lp2 0 (by omega) _ (zA h1 (wa + 2)) (zA h1 (wa + 3)) 0 _ (f.trans (F2.mono (fun a j q => by simp [pO, pA, pF] at q ⊢; omega))) (hO1.fr F2 (fun j => ⟨by simp [pF], pv j⟩) (by simp [pF])) (hK1.trans (Kep.of F2 (fun j => ⟨by simp [pF], pv j⟩))) ?_ (fun c c0 c1 => ?_) ⟨fun j _ _ => F2.A (by simp [pF]), fun j _ _ => F2.A (by simp [pF])⟩ (by rw [sI_here, if_pos rfl]) (by rw [sI_here, if_neg (by decide), sI_here, if_pos rfl]) ⟨by omega, fun j j0 j1 => by omega, fun j j0 j1 => by omega⟩ (fun z => ⟨fun w => ?_, fun w => by omega⟩) (fun z z0 z1 => by omega)
        · rw [F2.A (by simp [pF])]; exact hns
        · rw [F2.L (pv _)]; exact g c c0 (by omega)
        · obtain ⟨j, j0, j1, _⟩ := w; omega
      · intro c hc ih h1 X6 f hO1 hK1 hns g
        have hL := f.lay hL
        obtain ⟨hP, hE⟩ := PWs_fr hw vne f hP hE
        have ec : gI h1 80 2 = iI M.n := by rw [gI_F, hP.1.2.2.1]
        have hW := hO1.1.1
        have bdc : X.bd s c = (decide ((c : Int) = go) || !decide (X.nw s c = -1)) := by unfold XP.bd; rw [eXgo]
        have sg := hP.2.2.2.2.1 c (by omega) (by omega)
        have li := lnd_in (b := uns s) sg
        have ss := sS0 h1 hP c (by omega)
        have put : ∀ (h2 : XH) (z : Int) (X6 : Value), Fr (PWs wa va) h1 h2 → WOk h2 wa va zv B dd M go bm stp → Kep h1 h2 wa va M.n (s + 1) → z = ini c → XW (D + 5) 107 37 [.ref wa, .int (iI s), .int (iI dp), .int (iI (s * M.n)), .int (iI (uns s)), .int (iI ((c : Int) + 1)), X6] [] (sL h2 va (s * M.n + (c : Int)).toNat (iL z)) (KV KU) := by
          intro h2 z X6 f2 hO2 hK2 hz
          have ib := iniB c (by omega) (by omega)
          have ks := hK2 s hs1.1 (by omega)
          have ns2 : ¬ zA h2 (wa + 1) s = stp := by rw [ks.1]; exact hns
          have pt := hO2.put (c := c) (z := z) (by omega) hs (by omega) (by omega) ns2
          refine ih _ X6 ((f.trans f2).sL va _ _ (by simp [pO, pA])) pt.1 ((hK1.trans (hK2.le (by omega))).trans pt.2) ns2 (fun c' c0 c1 => ?_)
          rw [zL_s (by omega) (by omega) (by omega)]
          by_cases w : c' = (c : Int)
          · rw [if_pos (by omega), w, hz]
          · rw [if_neg (by omega), ks.2 c' c0 (by omega)]; exact g c' c0 (by omega)
        have see : X.bd s c = true → (((c : Int) = go) ∨ ¬ X.nw s c = -1) → ∀ KK : Int64 → XH → Prop, (∀ h2, Fr (PWs wa va) h1 h2 → WOk h2 wa va zv B dd M go bm stp → Kep h1 h2 wa va M.n (s + 1) → KK (iL (ini c)) h2) → XW (D + 4) 106 0 [.ref wa, .int (iI s), .int (iI c), .int (iI (dp + 1)), .null, .null, .null, .null, .null, .null] [] h1 (KL KK) := fun bt q KK kq => by
          refine N (D + 4) h1 KK s c (dp + 1) (by omega) hL hP hE hO1 hs (by omega) (by rw [hXe]; exact hk) (by omega) (by omega) q (fun h2 f2 hO2 hK2 => ?_)
          rw [hXe, vf c (by omega) (by omega) bt]
          have := kq h2 f2 hO2 hK2
          rw [ini1, if_pos bt] at this
          exact this
        by_cases q1 : (c : Int) = go
        · have bt : X.bd s c = true := by rw [bdc]; simp [q1]
          refine w_iload5 r_107_37 ?_
          refine w_aload0 r_107_39 ?_
          refine w_getA (x := 80) r_107_40 (Wk hL hw).1 (Wk0 hL hw).1 (by decide) ?_
          refine v_getI r_107_43 (Lk_80 hL) ec ?_
          refine v_ic_ge r_107_46 (by first | exact zF_in _ _ _ | exact zA_in _ _ _ | omega) (by first | exact zF_in _ _ _ | exact zA_in _ _ _ | omega) (fun q => absurd q (by omega)) (fun _ => ?_)
          refine w_iload5 r_107_49 ?_
          refine w_aload0 r_107_51 ?_
          refine v_getI r_107_52 (Wk hL hw).1 (hO1.1.2.1) ?_
          refine v_ic_eq r_107_55 (by first | exact zF_in _ _ _ | exact zA_in _ _ _ | omega) (by first | exact zF_in _ _ _ | exact zA_in _ _ _ | omega) (fun _ => ?_) (fun q => absurd q (by omega))
          refine w_iconst (v := iI (1)) r_107_74 rfl ?_
          refine w_goto r_107_75 ?_
          refine w_istore6 r_107_79 rfl ?_
          refine w_aload0 r_107_81 ?_
          refine w_getA (x := va) r_107_82 (Wk hL hw).1 hW.1 hW.2.2.2.2.1 ?_
          refine w_iload3 r_107_85 ?_
          refine w_iload5 r_107_86 ?_
          refine v_iadd r_107_88 ?_
          refine w_iload6 r_107_89 ?_
          refine v_if_eq r_107_91 (by first | exact zF_in _ _ _ | exact zA_in _ _ _ | omega) (fun q => absurd q (by decide)) (fun _ => ?_)
          refine w_aload0 r_107_94 ?_
          refine w_iload1 r_107_95 ?_
          refine w_iload5 r_107_96 ?_
          refine w_iload2 r_107_98 ?_
          refine w_iconst (v := iI (1)) r_107_99 rfl ?_
          refine v_iadd r_107_100 ?_
          refine k_106 r_107_101 (Wk hL hw).1 (Nat.le_of_ble_eq_true rfl) ?_
          refine see bt (Or.inl q1) _ (fun h2 f2 hO2 hK2 => ?_)
          have hL := f2.lay hL
          have hW := hO2.1.1
          refine w_goto r_107_104 ?_
          refine v_last r_107_110 hW.2.1 hW.2.2.2.1 hW.2.2.1 (by omega) (by omega) ?_
          refine w_iinc5 r_107_111 rfl (iI_add _ _) ?_
          refine w_goto r_107_114 ?_
          exact put h2 _ _ f2 hO2 hK2 rfl
        · by_cases q2 : lnd (zA h1 84 c) (uns s) = 0
          · have bf : X.bd s c = false := by rw [bdc]; simp [q1, ss.mp q2]
            have ei : (1152921504606846976 : Int) = ini c := by rw [ini1, if_neg (by rw [bf]; decide)]
            refine w_iload5 r_107_37 ?_
            refine w_aload0 r_107_39 ?_
            refine w_getA (x := 80) r_107_40 (Wk hL hw).1 (Wk0 hL hw).1 (by decide) ?_
            refine v_getI r_107_43 (Lk_80 hL) ec ?_
            refine v_ic_ge r_107_46 (by first | exact zF_in _ _ _ | exact zA_in _ _ _ | omega) (by first | exact zF_in _ _ _ | exact zA_in _ _ _ | omega) (fun q => absurd q (by omega)) (fun _ => ?_)
            refine w_iload5 r_107_49 ?_
            refine w_aload0 r_107_51 ?_
            refine v_getI r_107_52 (Wk hL hw).1 (hO1.1.2.1) ?_
            refine v_ic_eq r_107_55 (by first | exact zF_in _ _ _ | exact zA_in _ _ _ | omega) (by first | exact zF_in _ _ _ | exact zA_in _ _ _ | omega) (fun q => absurd q (by omega)) (fun _ => ?_)
            refine w_aload0 r_107_58 ?_
            refine w_getA (x := 80) r_107_59 (Wk hL hw).1 (Wk0 hL hw).1 (by decide) ?_
            refine w_getA (x := 84) r_107_62 (Lk_80 hL) (Lr_80_8 hL) (by decide) ?_
            refine w_iload5 r_107_65 ?_
            refine v_iald r_107_67 (Lk_84 hL) (Lz_84 hL) (by decide) (by omega) (gI_A h1 84 _) ?_
            refine w_iload4 r_107_68 ?_
            refine v_iandN (hs := sg.1) (he := u.1.1) r_107_70 ?_
            refine v_if_eq r_107_71 (by first | exact zF_in _ _ _ | exact zA_in _ _ _ | omega) (fun _ => ?_) (fun q => absurd q (by omega))
            refine w_iconst (v := iI (0)) r_107_78 rfl ?_
            refine w_istore6 r_107_79 rfl ?_
            refine w_aload0 r_107_81 ?_
            refine w_getA (x := va) r_107_82 (Wk hL hw).1 hW.1 hW.2.2.2.2.1 ?_
            refine w_iload3 r_107_85 ?_
            refine w_iload5 r_107_86 ?_
            refine v_iadd r_107_88 ?_
            refine w_iload6 r_107_89 ?_
            refine v_if_eq r_107_91 (by first | exact zF_in _ _ _ | exact zA_in _ _ _ | omega) (fun _ => ?_) (fun q => absurd q (by decide))
            refine w_ldc2 (v := iL (1152921504606846976)) r_107_107 rfl ?_
            refine v_last r_107_110 hW.2.1 hW.2.2.2.1 hW.2.2.1 (by omega) (by omega) ?_
            refine w_iinc5 r_107_111 rfl (iI_add _ _) ?_
            refine w_goto r_107_114 ?_
            exact put h1 _ _ (Fr.refl _ _) hO1 (Kep.refl _ _ _ _ _) ei
          · have nw : ¬ X.nw s c = -1 := fun z => q2 (ss.mpr z)
            have bt : X.bd s c = true := by rw [bdc]; simp [nw]
            refine w_iload5 r_107_37 ?_
            refine w_aload0 r_107_39 ?_
            refine w_getA (x := 80) r_107_40 (Wk hL hw).1 (Wk0 hL hw).1 (by decide) ?_
            refine v_getI r_107_43 (Lk_80 hL) ec ?_
            refine v_ic_ge r_107_46 (by first | exact zF_in _ _ _ | exact zA_in _ _ _ | omega) (by first | exact zF_in _ _ _ | exact zA_in _ _ _ | omega) (fun q => absurd q (by omega)) (fun _ => ?_)
            refine w_iload5 r_107_49 ?_
            refine w_aload0 r_107_51 ?_
            refine v_getI r_107_52 (Wk hL hw).1 (hO1.1.2.1) ?_
            refine v_ic_eq r_107_55 (by first | exact zF_in _ _ _ | exact zA_in _ _ _ | omega) (by first | exact zF_in _ _ _ | exact zA_in _ _ _ | omega) (fun q => absurd q (by omega)) (fun _ => ?_)
            refine w_aload0 r_107_58 ?_
            refine w_getA (x := 80) r_107_59 (Wk hL hw).1 (Wk0 hL hw).1 (by decide) ?_
            refine w_getA (x := 84) r_107_62 (Lk_80 hL) (Lr_80_8 hL) (by decide) ?_
            refine w_iload5 r_107_65 ?_
            refine v_iald r_107_67 (Lk_84 hL) (Lz_84 hL) (by decide) (by omega) (gI_A h1 84 _) ?_
            refine w_iload4 r_107_68 ?_
            refine v_iandN (hs := sg.1) (he := u.1.1) r_107_70 ?_
            refine v_if_eq r_107_71 (by first | exact zF_in _ _ _ | exact zA_in _ _ _ | omega) (fun q => absurd q (by omega)) (fun _ => ?_)
            refine w_iconst (v := iI (1)) r_107_74 rfl ?_
            refine w_goto r_107_75 ?_
            refine w_istore6 r_107_79 rfl ?_
            refine w_aload0 r_107_81 ?_
            refine w_getA (x := va) r_107_82 (Wk hL hw).1 hW.1 hW.2.2.2.2.1 ?_
            refine w_iload3 r_107_85 ?_
            refine w_iload5 r_107_86 ?_
            refine v_iadd r_107_88 ?_
            refine w_iload6 r_107_89 ?_
            refine v_if_eq r_107_91 (by first | exact zF_in _ _ _ | exact zA_in _ _ _ | omega) (fun q => absurd q (by decide)) (fun _ => ?_)
            refine w_aload0 r_107_94 ?_
            refine w_iload1 r_107_95 ?_
            refine w_iload5 r_107_96 ?_
            refine w_iload2 r_107_98 ?_
            refine w_iconst (v := iI (1)) r_107_99 rfl ?_
            refine v_iadd r_107_100 ?_
            refine k_106 r_107_101 (Wk hL hw).1 (Nat.le_of_ble_eq_true rfl) ?_
            refine see bt (Or.inr nw) _ (fun h2 f2 hO2 hK2 => ?_)
            have hL := f2.lay hL
            have hW := hO2.1.1
            refine w_goto r_107_104 ?_
            refine v_last r_107_110 hW.2.1 hW.2.2.2.1 hW.2.2.1 (by omega) (by omega) ?_
            refine w_iinc5 r_107_111 rfl (iI_add _ _) ?_
            refine w_goto r_107_114 ?_
            exact put h2 _ _ f2 hO2 hK2 rfl
    refine w_aload0 r_107_0 ?_
    refine w_getA (x := wa + 1) r_107_1 (Wk hL hw).1 (Wk1 hL hw).2.2.2.1 (Wk1 hL hw).2.2.2.2 ?_
    refine w_iload1 r_107_4 ?_
    refine v_iald r_107_5 (Wk1 hL hw).1 (Wk1 hL hw).2.1 (by decide) (by omega) est ?_
    refine w_aload0 r_107_6 ?_
    refine v_getI r_107_7 (Wk hL hw).1 (hO.1.2.2.2.1) ?_
    refine v_ic_ne r_107_10 (by first | exact zF_in _ _ _ | exact zA_in _ _ _ | omega) (by first | exact zF_in _ _ _ | exact zA_in _ _ _ | omega) (fun _ => ?_) (fun q => absurd q (by omega))
    refine w_iload1 r_107_14 ?_
    refine w_aload0 r_107_15 ?_
    refine w_getA (x := 80) r_107_16 (Wk hL hw).1 (Wk0 hL hw).1 (by decide) ?_
    refine v_getI r_107_19 (Lk_80 hL) ec0 ?_
    refine v_imul r_107_22 ?_
    refine w_istore3 r_107_23 rfl ?_
    refine w_aload0 r_107_24 ?_
    refine w_getA (x := 80) r_107_25 (Wk hL hw).1 (Wk0 hL hw).1 (by decide) ?_
    refine w_iload1 r_107_28 ?_
    refine k_62 r_107_29 (Lk_80 hL) (Nat.le_of_ble_eq_true rfl) ?_
    refine c_unseen hs1 ?_
    refine w_istore4 r_107_32 rfl ?_
    refine w_iconst (v := iI (0)) r_107_34 rfl ?_
    refine w_istore5 r_107_35 rfl ?_
    exact lp1 0 (by omega) h .null (Fr.refl _ _) hO (Kep.refl _ _ _ _ _) qs (fun c' a b => by omega)
end ST2
