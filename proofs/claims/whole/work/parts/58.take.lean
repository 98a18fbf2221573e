/-! the class's heap: the least is taken; an offer -/
section TK
variable {d : Nat} {h : XH} {K : Int32 → XH → Prop} {KL64 : Int64 → XH → Prop} {KU : XH → Prop} {wa va zv : Nat} {hp sl val : Int → Int} {sz n i x : Int}
/-- what takeLeast leaves -/
def Tkn (h h' : XH) (wa : Nat) (hp sl : Int → Int) (sz n : Int) (val : Int → Int) : Prop := Fr (PHp wa) h h' ∧ gI h' wa 11 = iI (sz - 1) ∧ ∃ hp' sl', HR h' wa hp' sl' ∧ Hp hp' sl' (sz - 1) n val ∧ (∀ c, Mem hp' (sz - 1) c ↔ (Mem hp sz c ∧ ¬ c = hp 0)) ∧ ∀ c, ¬ c = hp 0 → ¬ Mem hp' (sz - 1) c → sl' c = sl c
theorem Hp.ne (H : Hp hp sl sz n val) {j k : Int} (j0 : 0 ≤ j) (j1 : j < sz) (k0 : 0 ≤ k) (k1 : k < sz) (hne : ¬ j = k) : ¬ hp j = hp k := fun z => by
  have a := (H.2.1 j j0 j1).2
  have b := (H.2.1 k k0 k1).2
  rw [z, b] at a; omega
theorem c_takeLeast {ro : Int} (hL : Lay h) (hw : Wa wa) (hW : WV h wa va zv) (hro : gI h wa 12 = iI ro) (hrb : 0 ≤ ro ∧ ro + n ≤ zv) (hn : n ≤ 100) (hV : VR h va ro n val) (hR : HR h wa hp sl) (hz : gI h wa 11 = iI sz) (H : Hp hp sl sz n val) (h0 : 0 < sz)
    (kk : ∀ h', Tkn h h' wa hp sl sz n val → K (iI (hp 0)) h') : XW (d + 1) 112 0 [.ref wa, .null, .null, .null, .null, .null, .null, .null] [] h (KI K) := by
  have zv1 := hW.2.2.2.2.2.1
  have nva := va_ne hw hW
  have hX := H.takeX h0
  have b1 := H.1
  have bl := H.2.1 (sz - 1) (by omega) (by omega)
  have bf := H.2.1 0 (by omega) (by omega)
  have hvx := hV.in (c := hp (sz - 1)) bl.1
  have key : ∀ (k : Nat) (turn : Int) (i1 : Int) (h1 : XH) (hp1 sl1 : Int → Int) (X : Value), 100 - i1 ≤ k → 0 ≤ turn → turn ≤ i1 → i1 ≤ 99 → Fr (PHp wa) h h1 → gI h1 wa 11 = iI (sz - 1) → HR h1 wa hp1 sl1 → HpX hp1 sl1 (sz - 1) n val i1 (hp (sz - 1)) false → (∀ c, MemX hp1 (sz - 1) i1 c ↔ MemX hp (sz - 1) 0 c) → (∀ c, ¬ MemX hp1 (sz - 1) i1 c → sl1 c = sl c) → XW (d + 1) 112 45 [.ref wa, .int (iI (hp 0)), .int (iI (hp (sz - 1))), .long (iL (val (hp (sz - 1)))), .null, .int (iI i1), .int (iI turn), X] [] h1 (KI K) := by
    intro k
    induction k with
    | zero => intro turn i1 h1 hp1 sl1 X hk ht hti h99; omega
    | succ k ih =>
      intro turn i1 h1 hp1 sl1 X hk ht hti h99 f e11 hR1 hX1 hm1 hs1
      have hL := f.lay hL
      have hW := hW.fr f
      have hV := hV.fr f nva
      have hro : gI h1 wa 12 = iI ro := ((f.2 wa 12 (by simp [pO, pA, pF])).1).trans hro
      have b0 := hX1.1
      have fin : (∀ j, 0 < j → j < sz - 1 → (j - 1) / 2 = i1 → val (hp (sz - 1)) ≤ val (hp1 j)) → K (iI (hp 0)) (sI (sI h1 (wa + 2) i1.toNat (iI (hp (sz - 1)))) (wa + 3) (hp (sz - 1)).toNat (iI i1)) := fun hq => by
        refine kk _ ⟨PHp_put f i1, ?_, up1 hp1 i1 (hp (sz - 1)), up1 sl1 (hp (sz - 1)) i1, hR1.put (by omega) (by omega), hX1.fill_down hq, fun c => ?_, fun c q0 q => ?_⟩
        · rw [sI_other _ (by omega), sI_other _ (by omega)]; exact e11
        · by_cases z : sz - 1 = 0
          · constructor
            · rintro ⟨j, j0, j1, _⟩; omega
            · rintro ⟨⟨j, j0, j1, j2⟩, w⟩
              rw [show j = 0 by omega] at j2
              exact absurd j2.symm w
          · rw [Mem.fill (by omega)]
            constructor
            · rintro (q | q)
              · rw [q]; exact ⟨⟨sz - 1, by omega, by omega, rfl⟩, H.ne (by omega) (by omega) (by omega) (by omega) z⟩
              · obtain ⟨j, j0, j1, j2, j3⟩ := (hm1 c).mp q
                exact ⟨⟨j, j0, by omega, j3⟩, by rw [← j3]; exact H.ne j0 (by omega) (by omega) (by omega) j2⟩
            · rintro ⟨⟨j, j0, j1, j2⟩, w⟩
              by_cases q : j = sz - 1
              · left; rw [← j2, q]
              · right
                exact (hm1 c).mpr ⟨j, j0, by omega, fun z => w (by rw [← j2, z]), j2⟩
        · by_cases z : sz - 1 = 0
          · rw [up1_ne (fun w => q0 (by rw [w, z]))]
            refine hs1 c (fun w => ?_)
            obtain ⟨j, j0, j1, _⟩ := w
            omega
          · rw [Mem.fill (by omega)] at q
            rw [up1_ne (fun w => q (Or.inl w))]
            exact hs1 c (fun w => q (Or.inr w))
      by_cases qa : sz - 1 ≤ 2 * i1 + 1
      · refine w_iload6 r_112_45 ?_
        refine w_bipush (v := iI (100)) r_112_47 rfl ?_
        refine v_ic_ge r_112_49 (by first | exact zF_in _ _ _ | exact zA_in _ _ _ | omega) (by first | exact zF_in _ _ _ | exact zA_in _ _ _ | omega) (fun q => absurd q (by omega)) (fun _ => ?_)
        refine w_iconst (v := iI (2)) r_112_52 rfl ?_
        refine w_iload5 r_112_53 ?_
        refine v_imul r_112_55 ?_
        refine w_iconst (v := iI (1)) r_112_56 rfl ?_
        refine v_iadd r_112_57 ?_
        refine w_istore7 r_112_58 rfl ?_
        refine w_iload7 r_112_60 ?_
        refine w_aload0 r_112_62 ?_
        refine v_getI r_112_63 (Wk hL hw).1 e11 ?_
        refine v_ic_lt r_112_66 (by first | exact zF_in _ _ _ | exact zA_in _ _ _ | omega) (by first | exact zF_in _ _ _ | exact zA_in _ _ _ | omega) (fun q => absurd q (by omega)) (fun _ => ?_)
        refine w_goto r_112_69 ?_
        refine w_aload0 r_112_174 ?_
        refine w_iload5 r_112_175 ?_
        refine w_iload2 r_112_177 ?_
        refine k_111 r_112_178 (Wk hL hw).1 (Nat.le_of_ble_eq_true rfl) ?_
        refine c_put hL hw (by omega) (by omega) ?_
        refine w_iload1 r_112_181 ?_
        refine w_iret r_112_182 ?_
        exact fin (fun j j0 j1 j2 => by omega)
      · have c1 := hX1.2.1 (2 * i1 + 1) (by omega) (by omega) (by omega)
        have e1 : gI h1 (wa + 2) (2 * i1 + 1).toNat = iI (hp1 (2 * i1 + 1)) := by rw [gI_A, hR1.1 _ (by omega) (by omega)]
        have v1 := hV.in (c := hp1 (2 * i1 + 1)) c1.1
        have nxt : ∀ b : Int, (b = 2 * i1 + 1 ∨ b = 2 * i1 + 2) → b < sz - 1 → (∀ j, 0 < j → j < sz - 1 → (j - 1) / 2 = i1 → val (hp1 b) ≤ val (hp1 j)) → val (hp1 b) < val (hp (sz - 1)) → XW (d + 1) 112 45 [.ref wa, .int (iI (hp 0)), .int (iI (hp (sz - 1))), .long (iL (val (hp (sz - 1)))), .null, .int (iI b), .int (iI (turn + 1)), .int (iI b)] [] (sI (sI h1 (wa + 2) i1.toNat (iI (hp1 b))) (wa + 3) (hp1 b).toNat (iI i1)) (KI K) := by
          intro b hb hb2 hmn hlt
          have cb := hX1.2.1 b (by omega) (by omega) (by omega)
          refine ih _ _ _ _ _ _ (by omega) (by omega) (by omega) (by omega) (PHp_put f i1) ?_ (hR1.put (by omega) (by omega)) (hX1.down ⟨hb, hb2⟩ hmn hlt) (fun c => ?_) (fun c q => ?_)
          · rw [sI_other _ (by omega), sI_other _ (by omega)]; exact e11
          · rw [MemX.move (by omega) (by omega) (by omega)]; exact hm1 c
          · rw [MemX.move (by omega) (by omega) (by omega)] at q
            rw [up1_ne (fun z => q ⟨b, by omega, by omega, by omega, z.symm⟩)]
            exact hs1 c q
        by_cases qb : 2 * i1 + 1 + 1 < sz - 1
        · have c2 := hX1.2.1 (2 * i1 + 1 + 1) (by omega) (by omega) (by omega)
          have e2 : gI h1 (wa + 2) (2 * i1 + 1 + 1).toNat = iI (hp1 (2 * i1 + 1 + 1)) := by rw [gI_A, hR1.1 _ (by omega) (by omega)]
          have v2 := hV.in (c := hp1 (2 * i1 + 1 + 1)) c2.1
          have both : ∀ j, 0 < j → j < sz - 1 → (j - 1) / 2 = i1 → j = 2 * i1 + 1 ∨ j = 2 * i1 + 1 + 1 := fun j j0 j1 j2 => by omega
          by_cases qc : val (hp1 (2 * i1 + 1 + 1)) < val (hp1 (2 * i1 + 1))
          · by_cases qd : val (hp1 (2 * i1 + 1 + 1)) < val (hp (sz - 1))
            · refine w_iload6 r_112_45 ?_
              refine w_bipush (v := iI (100)) r_112_47 rfl ?_
              refine v_ic_ge r_112_49 (by first | exact zF_in _ _ _ | exact zA_in _ _ _ | omega) (by first | exact zF_in _ _ _ | exact zA_in _ _ _ | omega) (fun q => absurd q (by omega)) (fun _ => ?_)
              refine w_iconst (v := iI (2)) r_112_52 rfl ?_
              refine w_iload5 r_112_53 ?_
              refine v_imul r_112_55 ?_
              refine w_iconst (v := iI (1)) r_112_56 rfl ?_
              refine v_iadd r_112_57 ?_
              refine w_istore7 r_112_58 rfl ?_
              refine w_iload7 r_112_60 ?_
              refine w_aload0 r_112_62 ?_
              refine v_getI r_112_63 (Wk hL hw).1 e11 ?_
              refine v_ic_lt r_112_66 (by first | exact zF_in _ _ _ | exact zA_in _ _ _ | omega) (by first | exact zF_in _ _ _ | exact zA_in _ _ _ | omega) (fun _ => ?_) (fun q => absurd q (by omega))
              refine w_iload7 r_112_72 ?_
              refine w_iconst (v := iI (1)) r_112_74 rfl ?_
              refine v_iadd r_112_75 ?_
              refine w_aload0 r_112_76 ?_
              refine v_getI r_112_77 (Wk hL hw).1 e11 ?_
              refine v_ic_ge r_112_80 (by first | exact zF_in _ _ _ | exact zA_in _ _ _ | omega) (by first | exact zF_in _ _ _ | exact zA_in _ _ _ | omega) (fun q => absurd q (by omega)) (fun _ => ?_)
              refine w_aload0 r_112_83 ?_
              refine w_getA (x := va) r_112_84 (Wk hL hw).1 hW.1 hW.2.2.2.2.1 ?_
              refine w_aload0 r_112_87 ?_
              refine v_getI r_112_88 (Wk hL hw).1 hro ?_
              refine w_aload0 r_112_91 ?_
              refine w_getA (x := wa + 2) r_112_92 (Wk hL hw).1 (Wk2 hL hw).2.2.2.1 (Wk2 hL hw).2.2.2.2 ?_
              refine w_iload7 r_112_95 ?_
              refine w_iconst (v := iI (1)) r_112_97 rfl ?_
              refine v_iadd r_112_98 ?_
              refine v_iald r_112_99 (Wk2 hL hw).1 (Wk2 hL hw).2.1 (by decide) (by omega) e2 ?_
              refine v_iadd r_112_100 ?_
              refine v_lald r_112_101 hW.2.1 hW.2.2.1 (by omega) (by omega) (hV.at c2.1) ?_
              refine w_aload0 r_112_102 ?_
              refine w_getA (x := va) r_112_103 (Wk hL hw).1 hW.1 hW.2.2.2.2.1 ?_
              refine w_aload0 r_112_106 ?_
              refine v_getI r_112_107 (Wk hL hw).1 hro ?_
              refine w_aload0 r_112_110 ?_
              refine w_getA (x := wa + 2) r_112_111 (Wk hL hw).1 (Wk2 hL hw).2.2.2.1 (Wk2 hL hw).2.2.2.2 ?_
              refine w_iload7 r_112_114 ?_
              refine v_iald r_112_116 (Wk2 hL hw).1 (Wk2 hL hw).2.1 (by decide) (by omega) e1 ?_
              refine v_iadd r_112_117 ?_
              refine v_lald r_112_118 hW.2.1 hW.2.2.1 (by omega) (by omega) (hV.at c1.1) ?_
              refine v_lcmp r_112_119 (by first | exact zF_in _ _ _ | exact zA_in _ _ _ | omega) (by first | exact zF_in _ _ _ | exact zA_in _ _ _ | omega) ?_
              rw [if_neg (by omega), if_neg (by omega)] 
              refine v_if_ge r_112_120 (by first | exact zF_in _ _ _ | exact zA_in _ _ _ | omega) (fun q => absurd q (by decide)) (fun _ => ?_)
              refine w_iinc7 r_112_123 rfl (iI_add _ _) ?_
              refine w_lload3 r_112_126 ?_
              refine w_aload0 r_112_127 ?_
              refine w_getA (x := va) r_112_128 (Wk hL hw).1 hW.1 hW.2.2.2.2.1 ?_
              refine w_aload0 r_112_131 ?_
              refine v_getI r_112_132 (Wk hL hw).1 hro ?_
              refine w_aload0 r_112_135 ?_
              refine w_getA (x := wa + 2) r_112_136 (Wk hL hw).1 (Wk2 hL hw).2.2.2.1 (Wk2 hL hw).2.2.2.2 ?_
              refine w_iload7 r_112_139 ?_
              refine v_iald r_112_141 (Wk2 hL hw).1 (Wk2 hL hw).2.1 (by decide) (by omega) e2 ?_
              refine v_iadd r_112_142 ?_
              refine v_lald r_112_143 hW.2.1 hW.2.2.1 (by omega) (by omega) (hV.at c2.1) ?_
              refine v_lcmp r_112_144 (by first | exact zF_in _ _ _ | exact zA_in _ _ _ | omega) (by first | exact zF_in _ _ _ | exact zA_in _ _ _ | omega) ?_
              rw [if_pos (by omega)] 
              refine v_if_gt r_112_145 (by first | exact zF_in _ _ _ | exact zA_in _ _ _ | omega) (fun _ => ?_) (fun q => absurd q (by decide))
              refine w_aload0 r_112_151 ?_
              refine w_iload5 r_112_152 ?_
              refine w_aload0 r_112_154 ?_
              refine w_getA (x := wa + 2) r_112_155 (Wk hL hw).1 (Wk2 hL hw).2.2.2.1 (Wk2 hL hw).2.2.2.2 ?_
              refine w_iload7 r_112_158 ?_
              refine v_iald r_112_160 (Wk2 hL hw).1 (Wk2 hL hw).2.1 (by decide) (by omega) e2 ?_
              refine k_111 r_112_161 (Wk hL hw).1 (Nat.le_of_ble_eq_true rfl) ?_
              refine c_put hL hw (by omega) (by omega) ?_
              refine w_iload7 r_112_164 ?_
              refine w_istore5 r_112_166 rfl ?_
              refine w_iinc6 r_112_168 rfl (iI_add _ _) ?_
              refine w_goto r_112_171 ?_
              exact nxt _ (by omega) (by omega) (fun j j0 j1 j2 => by rcases both j j0 j1 j2 with w | w <;> rw [w] <;> omega) qd
            · refine w_iload6 r_112_45 ?_
              refine w_bipush (v := iI (100)) r_112_47 rfl ?_
              refine v_ic_ge r_112_49 (by first | exact zF_in _ _ _ | exact zA_in _ _ _ | omega) (by first | exact zF_in _ _ _ | exact zA_in _ _ _ | omega) (fun q => absurd q (by omega)) (fun _ => ?_)
              refine w_iconst (v := iI (2)) r_112_52 rfl ?_
              refine w_iload5 r_112_53 ?_
              refine v_imul r_112_55 ?_
              refine w_iconst (v := iI (1)) r_112_56 rfl ?_
              refine v_iadd r_112_57 ?_
              refine w_istore7 r_112_58 rfl ?_
              refine w_iload7 r_112_60 ?_
              refine w_aload0 r_112_62 ?_
              refine v_getI r_112_63 (Wk hL hw).1 e11 ?_
              refine v_ic_lt r_112_66 (by first | exact zF_in _ _ _ | exact zA_in _ _ _ | omega) (by first | exact zF_in _ _ _ | exact zA_in _ _ _ | omega) (fun _ => ?_) (fun q => absurd q (by omega))
              refine w_iload7 r_112_72 ?_
              refine w_iconst (v := iI (1)) r_112_74 rfl ?_
              refine v_iadd r_112_75 ?_
              refine w_aload0 r_112_76 ?_
              refine v_getI r_112_77 (Wk hL hw).1 e11 ?_
              refine v_ic_ge r_112_80 (by first | exact zF_in _ _ _ | exact zA_in _ _ _ | omega) (by first | exact zF_in _ _ _ | exact zA_in _ _ _ | omega) (fun q => absurd q (by omega)) (fun _ => ?_)
              refine w_aload0 r_112_83 ?_
              refine w_getA (x := va) r_112_84 (Wk hL hw).1 hW.1 hW.2.2.2.2.1 ?_
              refine w_aload0 r_112_87 ?_
              refine v_getI r_112_88 (Wk hL hw).1 hro ?_
              refine w_aload0 r_112_91 ?_
              refine w_getA (x := wa + 2) r_112_92 (Wk hL hw).1 (Wk2 hL hw).2.2.2.1 (Wk2 hL hw).2.2.2.2 ?_
              refine w_iload7 r_112_95 ?_
              refine w_iconst (v := iI (1)) r_112_97 rfl ?_
              refine v_iadd r_112_98 ?_
              refine v_iald r_112_99 (Wk2 hL hw).1 (Wk2 hL hw).2.1 (by decide) (by omega) e2 ?_
              refine v_iadd r_112_100 ?_
              refine v_lald r_112_101 hW.2.1 hW.2.2.1 (by omega) (by omega) (hV.at c2.1) ?_
              refine w_aload0 r_112_102 ?_
              refine w_getA (x := va) r_112_103 (Wk hL hw).1 hW.1 hW.2.2.2.2.1 ?_
              refine w_aload0 r_112_106 ?_
              refine v_getI r_112_107 (Wk hL hw).1 hro ?_
              refine w_aload0 r_112_110 ?_
              refine w_getA (x := wa + 2) r_112_111 (Wk hL hw).1 (Wk2 hL hw).2.2.2.1 (Wk2 hL hw).2.2.2.2 ?_
              refine w_iload7 r_112_114 ?_
              refine v_iald r_112_116 (Wk2 hL hw).1 (Wk2 hL hw).2.1 (by decide) (by omega) e1 ?_
              refine v_iadd r_112_117 ?_
              refine v_lald r_112_118 hW.2.1 hW.2.2.1 (by omega) (by omega) (hV.at c1.1) ?_
              refine v_lcmp r_112_119 (by first | exact zF_in _ _ _ | exact zA_in _ _ _ | omega) (by first | exact zF_in _ _ _ | exact zA_in _ _ _ | omega) ?_
              rw [if_neg (by omega), if_neg (by omega)] 
              refine v_if_ge r_112_120 (by first | exact zF_in _ _ _ | exact zA_in _ _ _ | omega) (fun q => absurd q (by decide)) (fun _ => ?_)
              refine w_iinc7 r_112_123 rfl (iI_add _ _) ?_
              refine w_lload3 r_112_126 ?_
              refine w_aload0 r_112_127 ?_
              refine w_getA (x := va) r_112_128 (Wk hL hw).1 hW.1 hW.2.2.2.2.1 ?_
              refine w_aload0 r_112_131 ?_
              refine v_getI r_112_132 (Wk hL hw).1 hro ?_
              refine w_aload0 r_112_135 ?_
              refine w_getA (x := wa + 2) r_112_136 (Wk hL hw).1 (Wk2 hL hw).2.2.2.1 (Wk2 hL hw).2.2.2.2 ?_
              refine w_iload7 r_112_139 ?_
              refine v_iald r_112_141 (Wk2 hL hw).1 (Wk2 hL hw).2.1 (by decide) (by omega) e2 ?_
              refine v_iadd r_112_142 ?_
              refine v_lald r_112_143 hW.2.1 hW.2.2.1 (by omega) (by omega) (hV.at c2.1) ?_
              refine v_lcmp r_112_144 (by first | exact zF_in _ _ _ | exact zA_in _ _ _ | omega) (by first | exact zF_in _ _ _ | exact zA_in _ _ _ | omega) ?_
              rw [if_neg (by omega)] 
              refine v_if_gt r_112_145 (by split <;> omega) (fun q => absurd q (by split <;> omega)) (fun _ => ?_)
              refine w_goto r_112_148 ?_
              refine w_aload0 r_112_174 ?_
              refine w_iload5 r_112_175 ?_
              refine w_iload2 r_112_177 ?_
              refine k_111 r_112_178 (Wk hL hw).1 (Nat.le_of_ble_eq_true rfl) ?_
              refine c_put hL hw (by omega) (by omega) ?_
              refine w_iload1 r_112_181 ?_
              refine w_iret r_112_182 ?_
              exact fin (fun j j0 j1 j2 => by rcases both j j0 j1 j2 with w | w <;> rw [w] <;> omega)
          · by_cases qd : val (hp1 (2 * i1 + 1)) < val (hp (sz - 1))
            · refine w_iload6 r_112_45 ?_
              refine w_bipush (v := iI (100)) r_112_47 rfl ?_
              refine v_ic_ge r_112_49 (by first | exact zF_in _ _ _ | exact zA_in _ _ _ | omega) (by first | exact zF_in _ _ _ | exact zA_in _ _ _ | omega) (fun q => absurd q (by omega)) (fun _ => ?_)
              refine w_iconst (v := iI (2)) r_112_52 rfl ?_
              refine w_iload5 r_112_53 ?_
              refine v_imul r_112_55 ?_
              refine w_iconst (v := iI (1)) r_112_56 rfl ?_
              refine v_iadd r_112_57 ?_
              refine w_istore7 r_112_58 rfl ?_
              refine w_iload7 r_112_60 ?_
              refine w_aload0 r_112_62 ?_
              refine v_getI r_112_63 (Wk hL hw).1 e11 ?_
              refine v_ic_lt r_112_66 (by first | exact zF_in _ _ _ | exact zA_in _ _ _ | omega) (by first | exact zF_in _ _ _ | exact zA_in _ _ _ | omega) (fun _ => ?_) (fun q => absurd q (by omega))
              refine w_iload7 r_112_72 ?_
              refine w_iconst (v := iI (1)) r_112_74 rfl ?_
              refine v_iadd r_112_75 ?_
              refine w_aload0 r_112_76 ?_
              refine v_getI r_112_77 (Wk hL hw).1 e11 ?_
              refine v_ic_ge r_112_80 (by first | exact zF_in _ _ _ | exact zA_in _ _ _ | omega) (by first | exact zF_in _ _ _ | exact zA_in _ _ _ | omega) (fun q => absurd q (by omega)) (fun _ => ?_)
              refine w_aload0 r_112_83 ?_
              refine w_getA (x := va) r_112_84 (Wk hL hw).1 hW.1 hW.2.2.2.2.1 ?_
              refine w_aload0 r_112_87 ?_
              refine v_getI r_112_88 (Wk hL hw).1 hro ?_
              refine w_aload0 r_112_91 ?_
              refine w_getA (x := wa + 2) r_112_92 (Wk hL hw).1 (Wk2 hL hw).2.2.2.1 (Wk2 hL hw).2.2.2.2 ?_
              refine w_iload7 r_112_95 ?_
              refine w_iconst (v := iI (1)) r_112_97 rfl ?_
              refine v_iadd r_112_98 ?_
              refine v_iald r_112_99 (Wk2 hL hw).1 (Wk2 hL hw).2.1 (by decide) (by omega) e2 ?_
              refine v_iadd r_112_100 ?_
              refine v_lald r_112_101 hW.2.1 hW.2.2.1 (by omega) (by omega) (hV.at c2.1) ?_
              refine w_aload0 r_112_102 ?_
              refine w_getA (x := va) r_112_103 (Wk hL hw).1 hW.1 hW.2.2.2.2.1 ?_
              refine w_aload0 r_112_106 ?_
              refine v_getI r_112_107 (Wk hL hw).1 hro ?_
              refine w_aload0 r_112_110 ?_
              refine w_getA (x := wa + 2) r_112_111 (Wk hL hw).1 (Wk2 hL hw).2.2.2.1 (Wk2 hL hw).2.2.2.2 ?_
              refine w_iload7 r_112_114 ?_
              refine v_iald r_112_116 (Wk2 hL hw).1 (Wk2 hL hw).2.1 (by decide) (by omega) e1 ?_
              refine v_iadd r_112_117 ?_
              refine v_lald r_112_118 hW.2.1 hW.2.2.1 (by omega) (by omega) (hV.at c1.1) ?_
              refine v_lcmp r_112_119 (by first | exact zF_in _ _ _ | exact zA_in _ _ _ | omega) (by first | exact zF_in _ _ _ | exact zA_in _ _ _ | omega) ?_
              refine v_if_ge r_112_120 (by repeat' split; all_goals omega) (fun _ => ?_) (fun q => absurd q (by repeat' split; all_goals omega))
              refine w_lload3 r_112_126 ?_
              refine w_aload0 r_112_127 ?_
              refine w_getA (x := va) r_112_128 (Wk hL hw).1 hW.1 hW.2.2.2.2.1 ?_
              refine w_aload0 r_112_131 ?_
              refine v_getI r_112_132 (Wk hL hw).1 hro ?_
              refine w_aload0 r_112_135 ?_
              refine w_getA (x := wa + 2) r_112_136 (Wk hL hw).1 (Wk2 hL hw).2.2.2.1 (Wk2 hL hw).2.2.2.2 ?_
              refine w_iload7 r_112_139 ?_
              refine v_iald r_112_141 (Wk2 hL hw).1 (Wk2 hL hw).2.1 (by decide) (by omega) e1 ?_
              refine v_iadd r_112_142 ?_
              refine v_lald r_112_143 hW.2.1 hW.2.2.1 (by omega) (by omega) (hV.at c1.1) ?_
              refine v_lcmp r_112_144 (by first | exact zF_in _ _ _ | exact zA_in _ _ _ | omega) (by first | exact zF_in _ _ _ | exact zA_in _ _ _ | omega) ?_
              rw [if_pos (by omega)] 
              refine v_if_gt r_112_145 (by first | exact zF_in _ _ _ | exact zA_in _ _ _ | omega) (fun _ => ?_) (fun q => absurd q (by decide))
              refine w_aload0 r_112_151 ?_
              refine w_iload5 r_112_152 ?_
              refine w_aload0 r_112_154 ?_
              refine w_getA (x := wa + 2) r_112_155 (Wk hL hw).1 (Wk2 hL hw).2.2.2.1 (Wk2 hL hw).2.2.2.2 ?_
              refine w_iload7 r_112_158 ?_
              refine v_iald r_112_160 (Wk2 hL hw).1 (Wk2 hL hw).2.1 (by decide) (by omega) e1 ?_
              refine k_111 r_112_161 (Wk hL hw).1 (Nat.le_of_ble_eq_true rfl) ?_
              refine c_put hL hw (by omega) (by omega) ?_
              refine w_iload7 r_112_164 ?_
              refine w_istore5 r_112_166 rfl ?_
              refine w_iinc6 r_112_168 rfl (iI_add _ _) ?_
              refine w_goto r_112_171 ?_
              exact nxt _ (by omega) (by omega) (fun j j0 j1 j2 => by rcases both j j0 j1 j2 with w | w <;> rw [w] <;> omega) qd
            · refine w_iload6 r_112_45 ?_
              refine w_bipush (v := iI (100)) r_112_47 rfl ?_
              refine v_ic_ge r_112_49 (by first | exact zF_in _ _ _ | exact zA_in _ _ _ | omega) (by first | exact zF_in _ _ _ | exact zA_in _ _ _ | omega) (fun q => absurd q (by omega)) (fun _ => ?_)
              refine w_iconst (v := iI (2)) r_112_52 rfl ?_
              refine w_iload5 r_112_53 ?_
              refine v_imul r_112_55 ?_
              refine w_iconst (v := iI (1)) r_112_56 rfl ?_
              refine v_iadd r_112_57 ?_
              refine w_istore7 r_112_58 rfl ?_
              refine w_iload7 r_112_60 ?_
              refine w_aload0 r_112_62 ?_
              refine v_getI r_112_63 (Wk hL hw).1 e11 ?_
              refine v_ic_lt r_112_66 (by first | exact zF_in _ _ _ | exact zA_in _ _ _ | omega) (by first | exact zF_in _ _ _ | exact zA_in _ _ _ | omega) (fun _ => ?_) (fun q => absurd q (by omega))
              refine w_iload7 r_112_72 ?_
              refine w_iconst (v := iI (1)) r_112_74 rfl ?_
              refine v_iadd r_112_75 ?_
              refine w_aload0 r_112_76 ?_
              refine v_getI r_112_77 (Wk hL hw).1 e11 ?_
              refine v_ic_ge r_112_80 (by first | exact zF_in _ _ _ | exact zA_in _ _ _ | omega) (by first | exact zF_in _ _ _ | exact zA_in _ _ _ | omega) (fun q => absurd q (by omega)) (fun _ => ?_)
              refine w_aload0 r_112_83 ?_
              refine w_getA (x := va) r_112_84 (Wk hL hw).1 hW.1 hW.2.2.2.2.1 ?_
              refine w_aload0 r_112_87 ?_
              refine v_getI r_112_88 (Wk hL hw).1 hro ?_
              refine w_aload0 r_112_91 ?_
              refine w_getA (x := wa + 2) r_112_92 (Wk hL hw).1 (Wk2 hL hw).2.2.2.1 (Wk2 hL hw).2.2.2.2 ?_
              refine w_iload7 r_112_95 ?_
              refine w_iconst (v := iI (1)) r_112_97 rfl ?_
              refine v_iadd r_112_98 ?_
              refine v_iald r_112_99 (Wk2 hL hw).1 (Wk2 hL hw).2.1 (by decide) (by omega) e2 ?_
              refine v_iadd r_112_100 ?_
              refine v_lald r_112_101 hW.2.1 hW.2.2.1 (by omega) (by omega) (hV.at c2.1) ?_
              refine w_aload0 r_112_102 ?_
              refine w_getA (x := va) r_112_103 (Wk hL hw).1 hW.1 hW.2.2.2.2.1 ?_
              refine w_aload0 r_112_106 ?_
              refine v_getI r_112_107 (Wk hL hw).1 hro ?_
              refine w_aload0 r_112_110 ?_
              refine w_getA (x := wa + 2) r_112_111 (Wk hL hw).1 (Wk2 hL hw).2.2.2.1 (Wk2 hL hw).2.2.2.2 ?_
              refine w_iload7 r_112_114 ?_
              refine v_iald r_112_116 (Wk2 hL hw).1 (Wk2 hL hw).2.1 (by decide) (by omega) e1 ?_
              refine v_iadd r_112_117 ?_
              refine v_lald r_112_118 hW.2.1 hW.2.2.1 (by omega) (by omega) (hV.at c1.1) ?_
              refine v_lcmp r_112_119 (by first | exact zF_in _ _ _ | exact zA_in _ _ _ | omega) (by first | exact zF_in _ _ _ | exact zA_in _ _ _ | omega) ?_
              refine v_if_ge r_112_120 (by repeat' split; all_goals omega) (fun _ => ?_) (fun q => absurd q (by repeat' split; all_goals omega))
              refine w_lload3 r_112_126 ?_
              refine w_aload0 r_112_127 ?_
              refine w_getA (x := va) r_112_128 (Wk hL hw).1 hW.1 hW.2.2.2.2.1 ?_
              refine w_aload0 r_112_131 ?_
              refine v_getI r_112_132 (Wk hL hw).1 hro ?_
              refine w_aload0 r_112_135 ?_
              refine w_getA (x := wa + 2) r_112_136 (Wk hL hw).1 (Wk2 hL hw).2.2.2.1 (Wk2 hL hw).2.2.2.2 ?_
              refine w_iload7 r_112_139 ?_
              refine v_iald r_112_141 (Wk2 hL hw).1 (Wk2 hL hw).2.1 (by decide) (by omega) e1 ?_
              refine v_iadd r_112_142 ?_
              refine v_lald r_112_143 hW.2.1 hW.2.2.1 (by omega) (by omega) (hV.at c1.1) ?_
              refine v_lcmp r_112_144 (by first | exact zF_in _ _ _ | exact zA_in _ _ _ | omega) (by first | exact zF_in _ _ _ | exact zA_in _ _ _ | omega) ?_
              rw [if_neg (by omega)] 
              refine v_if_gt r_112_145 (by split <;> omega) (fun q => absurd q (by split <;> omega)) (fun _ => ?_)
              refine w_goto r_112_148 ?_
              refine w_aload0 r_112_174 ?_
              refine w_iload5 r_112_175 ?_
              refine w_iload2 r_112_177 ?_
              refine k_111 r_112_178 (Wk hL hw).1 (Nat.le_of_ble_eq_true rfl) ?_
              refine c_put hL hw (by omega) (by omega) ?_
              refine w_iload1 r_112_181 ?_
              refine w_iret r_112_182 ?_
              exact fin (fun j j0 j1 j2 => by rcases both j j0 j1 j2 with w | w <;> rw [w] <;> omega)
        · have one : ∀ j, 0 < j → j < sz - 1 → (j - 1) / 2 = i1 → j = 2 * i1 + 1 := fun j j0 j1 j2 => by omega
          by_cases qd : val (hp1 (2 * i1 + 1)) < val (hp (sz - 1))
          · refine w_iload6 r_112_45 ?_
            refine w_bipush (v := iI (100)) r_112_47 rfl ?_
            refine v_ic_ge r_112_49 (by first | exact zF_in _ _ _ | exact zA_in _ _ _ | omega) (by first | exact zF_in _ _ _ | exact zA_in _ _ _ | omega) (fun q => absurd q (by omega)) (fun _ => ?_)
            refine w_iconst (v := iI (2)) r_112_52 rfl ?_
            refine w_iload5 r_112_53 ?_
            refine v_imul r_112_55 ?_
            refine w_iconst (v := iI (1)) r_112_56 rfl ?_
            refine v_iadd r_112_57 ?_
            refine w_istore7 r_112_58 rfl ?_
            refine w_iload7 r_112_60 ?_
            refine w_aload0 r_112_62 ?_
            refine v_getI r_112_63 (Wk hL hw).1 e11 ?_
            refine v_ic_lt r_112_66 (by first | exact zF_in _ _ _ | exact zA_in _ _ _ | omega) (by first | exact zF_in _ _ _ | exact zA_in _ _ _ | omega) (fun _ => ?_) (fun q => absurd q (by omega))
            refine w_iload7 r_112_72 ?_
            refine w_iconst (v := iI (1)) r_112_74 rfl ?_
            refine v_iadd r_112_75 ?_
            refine w_aload0 r_112_76 ?_
            refine v_getI r_112_77 (Wk hL hw).1 e11 ?_
            refine v_ic_ge r_112_80 (by first | exact zF_in _ _ _ | exact zA_in _ _ _ | omega) (by first | exact zF_in _ _ _ | exact zA_in _ _ _ | omega) (fun _ => ?_) (fun q => absurd q (by omega))
            refine w_lload3 r_112_126 ?_
            refine w_aload0 r_112_127 ?_
            refine w_getA (x := va) r_112_128 (Wk hL hw).1 hW.1 hW.2.2.2.2.1 ?_
            refine w_aload0 r_112_131 ?_
            refine v_getI r_112_132 (Wk hL hw).1 hro ?_
            refine w_aload0 r_112_135 ?_
            refine w_getA (x := wa + 2) r_112_136 (Wk hL hw).1 (Wk2 hL hw).2.2.2.1 (Wk2 hL hw).2.2.2.2 ?_
            refine w_iload7 r_112_139 ?_
            refine v_iald r_112_141 (Wk2 hL hw).1 (Wk2 hL hw).2.1 (by decide) (by omega) e1 ?_
            refine v_iadd r_112_142 ?_
            refine v_lald r_112_143 hW.2.1 hW.2.2.1 (by omega) (by omega) (hV.at c1.1) ?_
            refine v_lcmp r_112_144 (by first | exact zF_in _ _ _ | exact zA_in _ _ _ | omega) (by first | exact zF_in _ _ _ | exact zA_in _ _ _ | omega) ?_
            rw [if_pos (by omega)] 
            refine v_if_gt r_112_145 (by first | exact zF_in _ _ _ | exact zA_in _ _ _ | omega) (fun _ => ?_) (fun q => absurd q (by decide))
            refine w_aload0 r_112_151 ?_
            refine w_iload5 r_112_152 ?_
            refine w_aload0 r_112_154 ?_
            refine w_getA (x := wa + 2) r_112_155 (Wk hL hw).1 (Wk2 hL hw).2.2.2.1 (Wk2 hL hw).2.2.2.2 ?_
            refine w_iload7 r_112_158 ?_
            refine v_iald r_112_160 (Wk2 hL hw).1 (Wk2 hL hw).2.1 (by decide) (by omega) e1 ?_
            refine k_111 r_112_161 (Wk hL hw).1 (Nat.le_of_ble_eq_true rfl) ?_
            refine c_put hL hw (by omega) (by omega) ?_
            refine w_iload7 r_112_164 ?_
            refine w_istore5 r_112_166 rfl ?_
            refine w_iinc6 r_112_168 rfl (iI_add _ _) ?_
            refine w_goto r_112_171 ?_
            exact nxt _ (by omega) (by omega) (fun j j0 j1 j2 => by rw [one j j0 j1 j2]; exact Int.le_refl _) qd
          · refine w_iload6 r_112_45 ?_
            refine w_bipush (v := iI (100)) r_112_47 rfl ?_
            refine v_ic_ge r_112_49 (by first | exact zF_in _ _ _ | exact zA_in _ _ _ | omega) (by first | exact zF_in _ _ _ | exact zA_in _ _ _ | omega) (fun q => absurd q (by omega)) (fun _ => ?_)
            refine w_iconst (v := iI (2)) r_112_52 rfl ?_
            refine w_iload5 r_112_53 ?_
            refine v_imul r_112_55 ?_
            refine w_iconst (v := iI (1)) r_112_56 rfl ?_
            refine v_iadd r_112_57 ?_
            refine w_istore7 r_112_58 rfl ?_
            refine w_iload7 r_112_60 ?_
            refine w_aload0 r_112_62 ?_
            refine v_getI r_112_63 (Wk hL hw).1 e11 ?_
            refine v_ic_lt r_112_66 (by first | exact zF_in _ _ _ | exact zA_in _ _ _ | omega) (by first | exact zF_in _ _ _ | exact zA_in _ _ _ | omega) (fun _ => ?_) (fun q => absurd q (by omega))
            refine w_iload7 r_112_72 ?_
            refine w_iconst (v := iI (1)) r_112_74 rfl ?_
            refine v_iadd r_112_75 ?_
            refine w_aload0 r_112_76 ?_
            refine v_getI r_112_77 (Wk hL hw).1 e11 ?_
            refine v_ic_ge r_112_80 (by first | exact zF_in _ _ _ | exact zA_in _ _ _ | omega) (by first | exact zF_in _ _ _ | exact zA_in _ _ _ | omega) (fun _ => ?_) (fun q => absurd q (by omega))
            refine w_lload3 r_112_126 ?_
            refine w_aload0 r_112_127 ?_
            refine w_getA (x := va) r_112_128 (Wk hL hw).1 hW.1 hW.2.2.2.2.1 ?_
            refine w_aload0 r_112_131 ?_
            refine v_getI r_112_132 (Wk hL hw).1 hro ?_
            refine w_aload0 r_112_135 ?_
            refine w_getA (x := wa + 2) r_112_136 (Wk hL hw).1 (Wk2 hL hw).2.2.2.1 (Wk2 hL hw).2.2.2.2 ?_
            refine w_iload7 r_112_139 ?_
            refine v_iald r_112_141 (Wk2 hL hw).1 (Wk2 hL hw).2.1 (by decide) (by omega) e1 ?_
            refine v_iadd r_112_142 ?_
            refine v_lald r_112_143 hW.2.1 hW.2.2.1 (by omega) (by omega) (hV.at c1.1) ?_
            refine v_lcmp r_112_144 (by first | exact zF_in _ _ _ | exact zA_in _ _ _ | omega) (by first | exact zF_in _ _ _ | exact zA_in _ _ _ | omega) ?_
            rw [if_neg (by omega)] 
            refine v_if_gt r_112_145 (by split <;> omega) (fun q => absurd q (by split <;> omega)) (fun _ => ?_)
            refine w_goto r_112_148 ?_
            refine w_aload0 r_112_174 ?_
            refine w_iload5 r_112_175 ?_
            refine w_iload2 r_112_177 ?_
            refine k_111 r_112_178 (Wk hL hw).1 (Nat.le_of_ble_eq_true rfl) ?_
            refine c_put hL hw (by omega) (by omega) ?_
            refine w_iload1 r_112_181 ?_
            refine w_iret r_112_182 ?_
            exact fin (fun j j0 j1 j2 => by rw [one j j0 j1 j2]; omega)
  have eh0 : gI h (wa + 2) (0 : Int).toNat = iI (hp 0) := by rw [gI_A, hR.1 0 (by omega) (by omega)]
  have ehl : gI (sI h wa 11 (iI (sz - 1))) (wa + 2) (sz - 1).toNat = iI (hp (sz - 1)) := by rw [sI_other _ (by omega), gI_A, hR.1 _ (by omega) (by omega)]
  have e11' : gI (sI h wa 11 (iI (sz - 1))) wa 11 = iI (sz - 1) := by rw [sI_here, if_pos rfl]
  have hR' : HR (sI h wa 11 (iI (sz - 1))) wa hp sl := hR.of (fun j a b => by rw [zA_o _ (by omega)]) (fun j a b => by rw [zA_o _ (by omega)])
  have evl := hV.at (c := hp (sz - 1)) bl.1
  refine w_aload0 r_112_0 ?_
  refine w_getA (x := wa + 2) r_112_1 (Wk hL hw).1 (Wk2 hL hw).2.2.2.1 (Wk2 hL hw).2.2.2.2 ?_
  refine w_iconst (v := iI (0)) r_112_4 rfl ?_
  refine v_iald r_112_5 (Wk2 hL hw).1 (Wk2 hL hw).2.1 (by decide) (by omega) eh0 ?_
  refine w_istore1 r_112_6 rfl ?_
  refine w_aload0 r_112_7 ?_
  refine w_dupA r_112_8 ?_
  refine v_getI r_112_9 (Wk hL hw).1 hz ?_
  refine w_iconst (v := iI (1)) r_112_12 rfl ?_
  refine v_isub r_112_13 ?_
  refine w_putI r_112_14 (Wk hL hw).1 (Wk hL hw).2.1 ?_
  refine w_aload0 r_112_17 ?_
  refine w_getA (x := wa + 2) r_112_18 (Wk hL hw).1 (Wk2 hL hw).2.2.2.1 (Wk2 hL hw).2.2.2.2 ?_
  refine w_aload0 r_112_21 ?_
  refine v_getI r_112_22 (Wk hL hw).1 (e11') ?_
  refine v_iald r_112_25 (Wk2 hL hw).1 (Wk2 hL hw).2.1 (by decide) (by omega) ehl ?_
  refine w_istore2 r_112_26 rfl ?_
  refine w_aload0 r_112_27 ?_
  refine w_getA (x := va) r_112_28 (Wk hL hw).1 hW.1 hW.2.2.2.2.1 ?_
  refine w_aload0 r_112_31 ?_
  refine v_getI r_112_32 (Wk hL hw).1 (show _ = iI ro from by rw [sI_here, if_neg (by decide)]; exact hro) ?_
  refine w_iload2 r_112_35 ?_
  refine v_iadd r_112_36 ?_
  refine v_lald r_112_37 hW.2.1 hW.2.2.1 (by omega) (by omega) evl ?_
  refine w_lstore3 r_112_38 rfl ?_
  refine w_iconst (v := iI (0)) r_112_39 rfl ?_
  refine w_istore5 r_112_40 rfl ?_
  refine w_iconst (v := iI (0)) r_112_42 rfl ?_
  refine w_istore6 r_112_43 rfl ?_
  exact key 100 0 0 _ hp sl .null (by omega) (by omega) (by omega) (by omega) ((Fr.refl _ _).sI wa 11 _ (by simp [pO, pF])) e11' hR' hX (fun c => Iff.rfl) (fun c _ => rfl)
end TK
