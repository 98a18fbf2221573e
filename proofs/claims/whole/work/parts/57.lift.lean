/-! the class's heap of cells -/
def Wa (wa : Nat) : Prop := wa = 96 ∨ wa = 101
section LF
variable {d : Nat} {h : XH} {K : Int32 → XH → Prop} {KL64 : Int64 → XH → Prop} {KU : XH → Prop} {wa va zv : Nat} {hp sl val : Int → Int} {sz n i x : Int}
theorem Wk (hL : Lay h) (hw : Wa wa) : gK h wa = 20 ∧ wa < gN h ∧ wa ≠ 0 := by
  rcases hw with rfl | rfl
  · exact ⟨Lk_96 hL, Ln_96 hL, by decide⟩
  · exact ⟨Lk_101 hL, Ln_101 hL, by decide⟩
theorem Wk1 (hL : Lay h) (hw : Wa wa) : gK h (wa + 1) = 1 ∧ gZ h (wa + 1) = 1024 ∧ wa + 1 < gN h ∧ gR h wa 7 = wa + 1 ∧ wa + 1 ≠ 0 := by
  rcases hw with rfl | rfl
  · exact ⟨Lk_97 hL, Lz_97 hL, Ln_97 hL, Lr_96_7 hL, by decide⟩
  · exact ⟨Lk_102 hL, Lz_102 hL, Ln_102 hL, Lr_101_7 hL, by decide⟩
theorem Wk2 (hL : Lay h) (hw : Wa wa) : gK h (wa + 2) = 1 ∧ gZ h (wa + 2) = 100 ∧ wa + 2 < gN h ∧ gR h wa 9 = wa + 2 ∧ wa + 2 ≠ 0 := by
  rcases hw with rfl | rfl
  · exact ⟨Lk_98 hL, Lz_98 hL, Ln_98 hL, Lr_96_9 hL, by decide⟩
  · exact ⟨Lk_103 hL, Lz_103 hL, Ln_103 hL, Lr_101_9 hL, by decide⟩
theorem Wk3 (hL : Lay h) (hw : Wa wa) : gK h (wa + 3) = 1 ∧ gZ h (wa + 3) = 100 ∧ wa + 3 < gN h ∧ gR h wa 10 = wa + 3 ∧ wa + 3 ≠ 0 := by
  rcases hw with rfl | rfl
  · exact ⟨Lk_99 hL, Lz_99 hL, Ln_99 hL, Lr_96_10 hL, by decide⟩
  · exact ⟨Lk_104 hL, Lz_104 hL, Ln_104 hL, Lr_101_10 hL, by decide⟩
theorem Wk0 (hL : Lay h) (hw : Wa wa) : gR h wa 0 = 80 ∧ gR h wa 1 = 91 := by
  rcases hw with rfl | rfl
  · exact ⟨Lr_96_0 hL, Lr_96_1 hL⟩
  · exact ⟨Lr_101_0 hL, Lr_101_1 hL⟩
/-- the row of values that a Ways has now -/
def WV (h : XH) (wa va zv : Nat) : Prop := gR h wa 6 = va ∧ gK h va = 4 ∧ gZ h va = zv ∧ va < gN h ∧ va ≠ 0 ∧ zv ≤ 102400 ∧ (va = wa + 4 ∨ 155 ≤ va)
theorem WV.fr {P : Nat → Nat → Bool} {h' : XH} (f : Fr P h h') (hv : WV h wa va zv) : WV h' wa va zv := by
  obtain ⟨a, b, c, e, r⟩ := hv
  exact ⟨by rw [f.R]; exact a, by rw [f.K]; exact b, by rw [f.Z]; exact c, f.n e, r⟩
/-- heap and places, as functions -/
def HR (h : XH) (wa : Nat) (hp sl : Int → Int) : Prop := (∀ j, 0 ≤ j → j < 100 → zA h (wa + 2) j = hp j) ∧ ∀ c, 0 ≤ c → c < 100 → zA h (wa + 3) c = sl c
abbrev PHp (wa : Nat) : Nat → Nat → Bool := pO (pA [wa + 2, wa + 3]) (pF [(wa, 11)])
theorem HR.put {c : Int} (H : HR h wa hp sl) (hi : 0 ≤ i ∧ i < 100) (hc : 0 ≤ c ∧ c < 100) : HR (sI (sI h (wa + 2) i.toNat (iI c)) (wa + 3) c.toNat (iI i)) wa (up1 hp i c) (up1 sl c i) := by
  refine ⟨fun j j0 j1 => ?_, fun j j0 j1 => ?_⟩
  · rw [zA_o _ (by omega), zA_s hi.1 j0 (by omega)]
    unfold up1
    split
    · rfl
    · exact H.1 j j0 j1
  · rw [zA_s hc.1 j0 (by omega), zA_o _ (by omega)]
    unfold up1
    split
    · rfl
    · exact H.2 j j0 j1
theorem HR.of {h' : XH} (e1 : ∀ j, 0 ≤ j → j < 100 → zA h' (wa + 2) j = zA h (wa + 2) j) (e2 : ∀ j, 0 ≤ j → j < 100 → zA h' (wa + 3) j = zA h (wa + 3) j) (H : HR h wa hp sl) : HR h' wa hp sl :=
  ⟨fun j a b => by rw [e1 j a b]; exact H.1 j a b, fun j a b => by rw [e2 j a b]; exact H.2 j a b⟩
theorem c_put {c : Int} (hL : Lay h) (hw : Wa wa) (hi : 0 ≤ i ∧ i < 100) (hc : 0 ≤ c ∧ c < 100) (kk : KU (sI (sI h (wa + 2) i.toNat (iI c)) (wa + 3) c.toNat (iI i))) : XW d 111 0 [.ref wa, .int (iI i), .int (iI c)] [] h (KV KU) := by
  refine w_aload0 r_111_0 ?_
  refine w_getA (x := wa + 2) r_111_1 (Wk hL hw).1 (Wk2 hL hw).2.2.2.1 (Wk2 hL hw).2.2.2.2 ?_
  refine w_iload1 r_111_4 ?_
  refine w_iload2 r_111_5 ?_
  refine v_iast r_111_6 (Wk2 hL hw).1 (Wk2 hL hw).2.2.1 (Wk2 hL hw).2.1 (by decide) (by omega) ?_
  refine w_aload0 r_111_7 ?_
  refine w_getA (x := wa + 3) r_111_8 (Wk hL hw).1 (Wk3 hL hw).2.2.2.1 (Wk3 hL hw).2.2.2.2 ?_
  refine w_iload2 r_111_11 ?_
  refine w_iload1 r_111_12 ?_
  refine v_iast r_111_13 (Wk3 hL hw).1 (Wk3 hL hw).2.2.1 (Wk3 hL hw).2.1 (by decide) (by omega) ?_
  refine w_vret r_111_14 ?_
  exact kk
theorem PHp_put {h1 : XH} {c : Int} (f : Fr (PHp wa) h h1) (i : Int) : Fr (PHp wa) h (sI (sI h1 (wa + 2) i.toNat (iI c)) (wa + 3) c.toNat (iI i)) := (f.sI (wa + 2) _ _ (by simp [pO, pA])).sI (wa + 3) _ _ (by simp [pO, pA])
/-- values by cell in the row at ro -/
def VR (h : XH) (va : Nat) (ro n : Int) (val : Int → Int) : Prop := ∀ c, 0 ≤ c → c < n → zL h va (ro + c) = val c
theorem VR.at {ro c : Int} (H : VR h va ro n val) (hc : 0 ≤ c ∧ c < n) : gL h va (ro + c).toNat = iL (val c) := by rw [gL_A, H c hc.1 hc.2]
theorem VR.in {ro c : Int} (H : VR h va ro n val) (hc : 0 ≤ c ∧ c < n) : -9223372036854775808 ≤ val c ∧ val c ≤ 9223372036854775807 := by rw [← H c hc.1 hc.2]; exact zL_in _ _ _
theorem VR.fr {P : Nat → Nat → Bool} {h' : XH} {ro : Int} (f : Fr P h h') (hp : ∀ j, P va j = false) (H : VR h va ro n val) : VR h' va ro n val := fun c a b => by rw [f.L (hp _)]; exact H c a b
theorem va_ne (hw : Wa wa) (hW : WV h wa va zv) : ∀ j, PHp wa va j = false := fun j => by
  have := hW.2.2.2.2.2.2
  have hw : wa = 96 ∨ wa = 101 := hw
  simp [pO, pA, pF]; omega
/-- what lift leaves -/
def Lft (h h' : XH) (wa : Nat) (hp sl : Int → Int) (sz n : Int) (val : Int → Int) (i x : Int) : Prop := Fr (PHp wa) h h' ∧ gI h' wa 11 = iI sz ∧ ∃ hp' sl', HR h' wa hp' sl' ∧ Hp hp' sl' sz n val ∧ (∀ c, Mem hp' sz c ↔ c = x ∨ MemX hp sz i c) ∧ ∀ c, ¬ Mem hp' sz c → sl' c = sl c
theorem c_lift {ro sz0 : Int} (hL : Lay h) (hw : Wa wa) (hW : WV h wa va zv) (hro : gI h wa 12 = iI ro) (hrb : 0 ≤ ro ∧ ro + n ≤ zv) (hn : n ≤ 100) (hV : VR h va ro n val) (hR : HR h wa hp sl) (hz : gI h wa 11 = iI sz0) (hX : HpX hp sl sz n val i x true) (hi : i < sz)
    (hc : (sl x = -1 ∧ i = sz0 ∧ sz = sz0 + 1) ∨ (sl x = i ∧ sz = sz0)) (kk : ∀ h', Lft h h' wa hp sl sz n val i x → KU h') : XW (d + 1) 110 0 [.ref wa, .int (iI x), .null, .null, .null, .null, .null] [] h (KV KU) := by
  have a0 := hX.1
  have zv1 := hW.2.2.2.2.2.1
  have hvx := hV.in (c := x) (by omega)
  have nva := va_ne hw hW
  have h0 := h
  have key : ∀ (k : Nat) (turn : Int) (i1 : Int) (h1 : XH) (hp1 sl1 : Int → Int) (X : Value), i1 ≤ k → 0 ≤ turn → i1 + turn ≤ 99 → Fr (PHp wa) h h1 → gI h1 wa 11 = iI sz → HR h1 wa hp1 sl1 → HpX hp1 sl1 sz n val i1 x true → i1 < sz → (∀ c, MemX hp1 sz i1 c ↔ MemX hp sz i c) → (∀ c, ¬ MemX hp1 sz i1 c → sl1 c = sl c) → XW (d + 1) 110 41 [.ref wa, .int (iI x), .int (iI i1), .long (iL (val x)), .null, .int (iI turn), X] [] h1 (KV KU) := by
    intro k
    induction k with
    | zero =>
      intro turn i1 h1 hp1 sl1 X hk ht hti f e11 hR1 hX1 hi1 hm1 hs1
      have hL := f.lay hL
      have b0 := hX1.1
      refine w_iload5 r_110_41 ?_
      refine w_bipush (v := iI (100)) r_110_43 rfl ?_
      refine v_ic_ge r_110_45 (by first | exact zF_in _ _ _ | exact zA_in _ _ _ | omega) (by first | exact zF_in _ _ _ | exact zA_in _ _ _ | omega) (fun q => absurd q (by omega)) (fun _ => ?_)
      refine w_iload2 r_110_48 ?_
      refine v_if_le r_110_49 (by first | exact zF_in _ _ _ | exact zA_in _ _ _ | omega) (fun _ => ?_) (fun q => absurd q (by omega))
      refine w_aload0 r_110_105 ?_
      refine w_iload2 r_110_106 ?_
      refine w_iload1 r_110_107 ?_
      refine k_111 r_110_108 (Wk hL hw).1 (Nat.le_of_ble_eq_true rfl) ?_
      refine c_put hL hw (by omega) (by omega) ?_
      refine w_vret r_110_111 ?_
      refine kk _ ⟨PHp_put f i1, ?_, up1 hp1 i1 x, up1 sl1 x i1, hR1.put (by omega) (by omega), hX1.fill_up hi1 (fun z => by omega), fun c => ?_, fun c q => ?_⟩
      · rw [sI_other _ (by omega), sI_other _ (by omega)]; exact e11
      · rw [Mem.fill (by omega)]; exact or_congr Iff.rfl (hm1 c)
      · rw [Mem.fill (by omega)] at q; rw [up1_ne (fun z => q (Or.inl z))]; exact hs1 c (fun z => q (Or.inr z))
    | succ k ih =>
      intro turn i1 h1 hp1 sl1 X hk ht hti f e11 hR1 hX1 hi1 hm1 hs1
      have hL := f.lay hL
      have hW := hW.fr f
      have hV := hV.fr f nva
      have hro : gI h1 wa 12 = iI ro := ((f.2 wa 12 (by simp [pO, pA, pF])).1).trans hro
      have b0 := hX1.1
      have fin : (0 < i1 → val (hp1 ((i1 - 1) / 2)) ≤ val x) → KU (sI (sI h1 (wa + 2) i1.toNat (iI x)) (wa + 3) x.toNat (iI i1)) := fun hq => by
        refine kk _ ⟨PHp_put f i1, ?_, up1 hp1 i1 x, up1 sl1 x i1, hR1.put (by omega) (by omega), hX1.fill_up hi1 hq, fun c => ?_, fun c q => ?_⟩
        · rw [sI_other _ (by omega), sI_other _ (by omega)]; exact e11
        · rw [Mem.fill (by omega)]; exact or_congr Iff.rfl (hm1 c)
        · rw [Mem.fill (by omega)] at q; rw [up1_ne (fun z => q (Or.inl z))]; exact hs1 c (fun z => q (Or.inr z))
      by_cases q0 : i1 ≤ 0
      · refine w_iload5 r_110_41 ?_
        refine w_bipush (v := iI (100)) r_110_43 rfl ?_
        refine v_ic_ge r_110_45 (by first | exact zF_in _ _ _ | exact zA_in _ _ _ | omega) (by first | exact zF_in _ _ _ | exact zA_in _ _ _ | omega) (fun q => absurd q (by omega)) (fun _ => ?_)
        refine w_iload2 r_110_48 ?_
        refine v_if_le r_110_49 (by first | exact zF_in _ _ _ | exact zA_in _ _ _ | omega) (fun _ => ?_) (fun q => absurd q (by omega))
        refine w_aload0 r_110_105 ?_
        refine w_iload2 r_110_106 ?_
        refine w_iload1 r_110_107 ?_
        refine k_111 r_110_108 (Wk hL hw).1 (Nat.le_of_ble_eq_true rfl) ?_
        refine c_put hL hw (by omega) (by omega) ?_
        refine w_vret r_110_111 ?_
        exact fin (fun z => by omega)
      · have bu := hX1.2.1 ((i1 - 1) / 2) (by omega) (by omega) (by omega)
        have eu : gI h1 (wa + 2) ((i1 - 1) / 2).toNat = iI (hp1 ((i1 - 1) / 2)) := by rw [gI_A, hR1.1 _ (by omega) (by omega)]
        have hvu := hV.in (c := hp1 ((i1 - 1) / 2)) bu.1
        by_cases q1 : val x < val (hp1 ((i1 - 1) / 2))
        · have hX2 := hX1.up (by omega) hi1 q1
          refine w_iload5 r_110_41 ?_
          refine w_bipush (v := iI (100)) r_110_43 rfl ?_
          refine v_ic_ge r_110_45 (by first | exact zF_in _ _ _ | exact zA_in _ _ _ | omega) (by first | exact zF_in _ _ _ | exact zA_in _ _ _ | omega) (fun q => absurd q (by omega)) (fun _ => ?_)
          refine w_iload2 r_110_48 ?_
          refine v_if_le r_110_49 (by first | exact zF_in _ _ _ | exact zA_in _ _ _ | omega) (fun q => absurd q (by omega)) (fun _ => ?_)
          refine w_iload2 r_110_52 ?_
          refine w_iconst (v := iI (1)) r_110_53 rfl ?_
          refine v_isub r_110_54 ?_
          refine w_iconst (v := iI (2)) r_110_55 rfl ?_
          refine v_idivN r_110_56 (by first | exact zF_in _ _ _ | exact zA_in _ _ _ | omega) (by omega) ?_
          refine w_istore6 r_110_57 rfl ?_
          refine w_aload0 r_110_59 ?_
          refine w_getA (x := va) r_110_60 (Wk hL hw).1 hW.1 hW.2.2.2.2.1 ?_
          refine w_aload0 r_110_63 ?_
          refine v_getI r_110_64 (Wk hL hw).1 hro ?_
          refine w_aload0 r_110_67 ?_
          refine w_getA (x := wa + 2) r_110_68 (Wk hL hw).1 (Wk2 hL hw).2.2.2.1 (Wk2 hL hw).2.2.2.2 ?_
          refine w_iload6 r_110_71 ?_
          refine v_iald r_110_73 (Wk2 hL hw).1 (Wk2 hL hw).2.1 (by decide) (by omega) eu ?_
          refine v_iadd r_110_74 ?_
          refine v_lald r_110_75 hW.2.1 hW.2.2.1 (by omega) (by omega) (hV.at bu.1) ?_
          refine w_lload3 r_110_76 ?_
          refine v_lcmp r_110_77 (by first | exact zF_in _ _ _ | exact zA_in _ _ _ | omega) (by first | exact zF_in _ _ _ | exact zA_in _ _ _ | omega) ?_
          rw [if_pos (by omega)] 
          refine v_if_gt r_110_78 (by first | exact zF_in _ _ _ | exact zA_in _ _ _ | omega) (fun _ => ?_) (fun q => absurd q (by decide))
          refine w_aload0 r_110_84 ?_
          refine w_iload2 r_110_85 ?_
          refine w_aload0 r_110_86 ?_
          refine w_getA (x := wa + 2) r_110_87 (Wk hL hw).1 (Wk2 hL hw).2.2.2.1 (Wk2 hL hw).2.2.2.2 ?_
          refine w_iload6 r_110_90 ?_
          refine v_iald r_110_92 (Wk2 hL hw).1 (Wk2 hL hw).2.1 (by decide) (by omega) eu ?_
          refine k_111 r_110_93 (Wk hL hw).1 (Nat.le_of_ble_eq_true rfl) ?_
          refine c_put hL hw (by omega) (by omega) ?_
          refine w_iload6 r_110_96 ?_
          refine w_istore2 r_110_98 rfl ?_
          refine w_iinc5 r_110_99 rfl (iI_add _ _) ?_
          refine w_goto r_110_102 ?_
          refine ih _ _ _ _ _ _ (by omega) (by omega) (by omega) (PHp_put f i1) ?_ (hR1.put (by omega) (by omega)) hX2 (by omega) (fun c => ?_) (fun c q => ?_)
          · rw [sI_other _ (by omega), sI_other _ (by omega)]; exact e11
          · rw [MemX.move (by omega) (by omega) (by omega)]; exact hm1 c
          · rw [MemX.move (by omega) (by omega) (by omega)] at q; rw [up1_ne (fun z => q ⟨(i1 - 1) / 2, by omega, by omega, by omega, z.symm⟩)]; exact hs1 c q
        · refine w_iload5 r_110_41 ?_
          refine w_bipush (v := iI (100)) r_110_43 rfl ?_
          refine v_ic_ge r_110_45 (by first | exact zF_in _ _ _ | exact zA_in _ _ _ | omega) (by first | exact zF_in _ _ _ | exact zA_in _ _ _ | omega) (fun q => absurd q (by omega)) (fun _ => ?_)
          refine w_iload2 r_110_48 ?_
          refine v_if_le r_110_49 (by first | exact zF_in _ _ _ | exact zA_in _ _ _ | omega) (fun q => absurd q (by omega)) (fun _ => ?_)
          refine w_iload2 r_110_52 ?_
          refine w_iconst (v := iI (1)) r_110_53 rfl ?_
          refine v_isub r_110_54 ?_
          refine w_iconst (v := iI (2)) r_110_55 rfl ?_
          refine v_idivN r_110_56 (by first | exact zF_in _ _ _ | exact zA_in _ _ _ | omega) (by omega) ?_
          refine w_istore6 r_110_57 rfl ?_
          refine w_aload0 r_110_59 ?_
          refine w_getA (x := va) r_110_60 (Wk hL hw).1 hW.1 hW.2.2.2.2.1 ?_
          refine w_aload0 r_110_63 ?_
          refine v_getI r_110_64 (Wk hL hw).1 hro ?_
          refine w_aload0 r_110_67 ?_
          refine w_getA (x := wa + 2) r_110_68 (Wk hL hw).1 (Wk2 hL hw).2.2.2.1 (Wk2 hL hw).2.2.2.2 ?_
          refine w_iload6 r_110_71 ?_
          refine v_iald r_110_73 (Wk2 hL hw).1 (Wk2 hL hw).2.1 (by decide) (by omega) eu ?_
          refine v_iadd r_110_74 ?_
          refine v_lald r_110_75 hW.2.1 hW.2.2.1 (by omega) (by omega) (hV.at bu.1) ?_
          refine w_lload3 r_110_76 ?_
          refine v_lcmp r_110_77 (by first | exact zF_in _ _ _ | exact zA_in _ _ _ | omega) (by first | exact zF_in _ _ _ | exact zA_in _ _ _ | omega) ?_
          rw [if_neg (by omega)] 
          refine v_if_gt r_110_78 (by split <;> omega) (fun q => absurd q (by split <;> omega)) (fun _ => ?_)
          refine w_goto r_110_81 ?_
          refine w_aload0 r_110_105 ?_
          refine w_iload2 r_110_106 ?_
          refine w_iload1 r_110_107 ?_
          refine k_111 r_110_108 (Wk hL hw).1 (Nat.le_of_ble_eq_true rfl) ?_
          refine c_put hL hw (by omega) (by omega) ?_
          refine w_vret r_110_111 ?_
          exact fin (fun _ => by omega)
  have esl : gI h (wa + 3) x.toNat = iI (sl x) := by rw [gI_A, hR.2 x (by omega) (by omega)]
  have evx := hV.at (c := x) (by omega)
  rcases hc with ⟨c1, c2, c3⟩ | ⟨c1, c2⟩
  · rw [c1] at esl
    have e11' : gI (sI h wa 11 (iI (sz0 + 1))) wa 11 = iI sz := by rw [sI_here, if_pos rfl, c3]
    have hR' : HR (sI h wa 11 (iI (sz0 + 1))) wa hp sl := hR.of (fun j a b => by rw [zA_o _ (by omega)]) (fun j a b => by rw [zA_o _ (by omega)])
    refine w_aload0 r_110_0 ?_
    refine w_getA (x := wa + 3) r_110_1 (Wk hL hw).1 (Wk3 hL hw).2.2.2.1 (Wk3 hL hw).2.2.2.2 ?_
    refine w_iload1 r_110_4 ?_
    refine v_iald r_110_5 (Wk3 hL hw).1 (Wk3 hL hw).2.1 (by decide) (by omega) esl ?_
    refine w_istore2 r_110_6 rfl ?_
    refine w_iload2 r_110_7 ?_
    refine v_if_ge r_110_8 (by first | exact zF_in _ _ _ | exact zA_in _ _ _ | omega) (fun q => absurd q (by decide)) (fun _ => ?_)
    refine w_aload0 r_110_11 ?_
    refine v_getI r_110_12 (Wk hL hw).1 hz ?_
    refine w_istore2 r_110_15 rfl ?_
    refine w_aload0 r_110_16 ?_
    refine w_dupA r_110_17 ?_
    refine v_getI r_110_18 (Wk hL hw).1 hz ?_
    refine w_iconst (v := iI (1)) r_110_21 rfl ?_
    refine v_iadd r_110_22 ?_
    refine w_putI r_110_23 (Wk hL hw).1 (Wk hL hw).2.1 ?_
    refine w_aload0 r_110_26 ?_
    refine w_getA (x := va) r_110_27 (Wk hL hw).1 hW.1 hW.2.2.2.2.1 ?_
    refine w_aload0 r_110_30 ?_
    refine v_getI r_110_31 (Wk hL hw).1 (show _ = iI ro from by rw [sI_here, if_neg (by decide)]; exact hro) ?_
    refine w_iload1 r_110_34 ?_
    refine v_iadd r_110_35 ?_
    refine v_lald r_110_36 hW.2.1 hW.2.2.1 (by omega) (by omega) evx ?_
    refine w_lstore3 r_110_37 rfl ?_
    refine w_iconst (v := iI (0)) r_110_38 rfl ?_
    refine w_istore5 r_110_39 rfl ?_
    have := key i.toNat 0 i _ hp sl .null (by omega) (by omega) (by omega) ((Fr.refl _ _).sI wa 11 _ (by simp [pO, pF])) e11' hR' hX hi (fun c => Iff.rfl) (fun c _ => rfl)
    rw [c2] at this
    exact this
  · rw [c1] at esl
    refine w_aload0 r_110_0 ?_
    refine w_getA (x := wa + 3) r_110_1 (Wk hL hw).1 (Wk3 hL hw).2.2.2.1 (Wk3 hL hw).2.2.2.2 ?_
    refine w_iload1 r_110_4 ?_
    refine v_iald r_110_5 (Wk3 hL hw).1 (Wk3 hL hw).2.1 (by decide) (by omega) esl ?_
    refine w_istore2 r_110_6 rfl ?_
    refine w_iload2 r_110_7 ?_
    refine v_if_ge r_110_8 (by first | exact zF_in _ _ _ | exact zA_in _ _ _ | omega) (fun _ => ?_) (fun q => absurd q (by omega))
    refine w_aload0 r_110_26 ?_
    refine w_getA (x := va) r_110_27 (Wk hL hw).1 hW.1 hW.2.2.2.2.1 ?_
    refine w_aload0 r_110_30 ?_
    refine v_getI r_110_31 (Wk hL hw).1 hro ?_
    refine w_iload1 r_110_34 ?_
    refine v_iadd r_110_35 ?_
    refine v_lald r_110_36 hW.2.1 hW.2.2.1 (by omega) (by omega) evx ?_
    refine w_lstore3 r_110_37 rfl ?_
    refine w_iconst (v := iI (0)) r_110_38 rfl ?_
    refine w_istore5 r_110_39 rfl ?_
    exact key i.toNat 0 i h hp sl .null (by omega) (by omega) (by omega) (Fr.refl _ _) (by rw [hz, c2]) hR hX hi (fun c => Iff.rfl) (fun c _ => rfl)
end LF
