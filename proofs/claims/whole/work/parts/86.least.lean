/-! digging: the class's leastMove -/
section LM
variable {d : Nat} {h : XH} {K : Int32 → XH → Prop} {KU : XH → Prop} {B : XB} {rb a0 : Nat} {V : Int → Int}
/-- a try that keeps the least cost -/
def Gd (B : XB) (V : Int → Int) (s t w : Int) : Prop := tgt V (dnx B s (6 * t + w)) + (B.pr t * 1024 + 1) = tgt V s
theorem c_leastMove {s j : Int} (hL : Lay h) (hb : rb = 6 ∨ rb = 20) (hr : gR h 107 0 = rb) (hC : CBk h rb B) (ho : B.ok) (hD : DA h a0) (hA : CAf h a0 B) (hF : CLf B V h a0) (hV : DSl B 1024 V) (hs : 0 ≤ s ∧ s < 5 ^ B.w.toNat) (hj : j = nmb B (cds B s)) (hn : ∀ k : Int, 0 ≤ k → k < B.w → zA h 109 k = vs s k) (k1 : ∀ t w, 0 ≤ t ∧ t < B.t → 0 ≤ w ∧ w < B.w → Gd B V s t w → (∀ t' w', 0 ≤ t' ∧ t' < B.t → 0 ≤ w' ∧ w' < B.w → t' < t ∨ t' = t ∧ w' < w → ¬ Gd B V s t' w') → K (iI (10 * t + w)) h) (k2 : (∀ t w, 0 ≤ t ∧ t < B.t → 0 ≤ w ∧ w < B.w → ¬ Gd B V s t w) → K (iI (-1)) h) : XW (d + 1) 30 0 [.ref 107, .int (iI j), .null, .null, .null] [] h (KI K) := by
  have o := ho.1
  have a156 := hD.2.2.2.1
  have nj := nmb_in (x := cds B s) ho (cds_in ho)
  have nj2 := nj.2.2 (vld_cds ho)
  rw [← hj] at nj nj2
  have ts := tgt_in hV ho hs.1 hs.2
  have v71 : gI h (a0 + 3) j.toNat = iI (tgt V s) := by rw [gI_A, hj, hF s hs.1 hs.2]
  have tl : ∀ n : Nat, n ≤ B.t.toNat → ∀ X3 X4 : Value, (∀ t' w', 0 ≤ t' ∧ t' < B.t → 0 ≤ w' ∧ w' < B.w → t' < n → ¬ Gd B V s t' w') → XW (d + 1) 30 2 [.ref 107, .int (iI j), .int (iI n), X3, X4] [] h (KI K) := by
    refine upto _ ?_ ?_
    · intro X3 X4 no
      refine w_iload2 r_30_2 ?_
      refine w_aload0 r_30_3 ?_
      refine w_getA (x := rb) r_30_4 (Lk_107 hL) hr (RB.nz hb) ?_
      refine v_getI r_30_7 (Bk_ hL hb) (hC.f4) ?_
      refine v_ic_ge r_30_10 (by first | exact zF_in _ _ _ | exact zA_in _ _ _ | omega) (by first | exact zF_in _ _ _ | exact zA_in _ _ _ | omega) (fun _ => ?_) (fun q => absurd q (by omega))
      refine w_iconst (v := iI (-1)) r_30_94 rfl ?_
      refine w_iret r_30_95 ?_
      exact k2 (fun t w ht hw => no t w ht hw (by omega))
    · intro n hnt ih X3 X4 no
      have hn5 : (n : Int) < B.t := by omega
      have op := ho.2.2.2.2 (n : Int) (by omega) hn5
      have wl : ∀ m : Nat, m ≤ B.w.toNat → ∀ X4 : Value, (∀ w' : Int, 0 ≤ w' → w' < m → ¬ Gd B V s n w') → XW (d + 1) 30 15 [.ref 107, .int (iI j), .int (iI n), .int (iI m), X4] [] h (KI K) := by
        refine upto _ ?_ ?_
        · intro X4 nw
          have J := ih (.int (iI (B.w.toNat : Int))) X4 (fun t' w' ht' hw' q => by
            by_cases e : t' = (n : Int)
            · rw [e]; exact nw w' hw'.1 (by omega)
            · exact no t' w' ht' hw' (by omega))
          refine w_iload3 r_30_15 ?_
          refine w_aload0 r_30_16 ?_
          refine w_getA (x := rb) r_30_17 (Lk_107 hL) hr (RB.nz hb) ?_
          refine v_getI r_30_20 (Bk_ hL hb) (hC.f10) ?_
          refine v_ic_ge r_30_23 (by first | exact zF_in _ _ _ | exact zA_in _ _ _ | omega) (by first | exact zF_in _ _ _ | exact zA_in _ _ _ | omega) (fun _ => ?_) (fun q => absurd q (by omega))
          refine w_iinc2 r_30_88 rfl (iI_add _ _) ?_
          refine w_goto r_30_91 ?_
          exact J
        · intro m hm ih2 X4 nw
          have hw : 0 ≤ (m : Int) ∧ (m : Int) < B.w := by omega
          have vi := vs_in s m
          have v43 : gI h 109 (m : Int).toNat = iI (vs s m) := by rw [gI_A, hn _ hw.1 hw.2]
          have ea : aft B s n (vs s m) = nmb B (cds B (dnx B s (6 * n + m))) := by
            unfold aft
            rw [if_pos (cnt_at hw.1 (by omega)), nxc_at ho hw]
          have v45 : gI h (a0 + 2) (j * 30 + (n : Int) * 5 + vs s m).toNat = iI (nmb B (cds B (dnx B s (6 * n + m)))) := by
            have q := hA s hs.1 hs.2 (5 * n + vs s m) (by omega) (by omega)
            rw [show (5 * (n : Int) + vs s m) / 5 = n by omega, show (5 * (n : Int) + vs s m) % 5 = vs s m by omega, ea, ← hj] at q
            rw [gI_A, show j * 30 + (n : Int) * 5 + vs s m = j * 30 + (5 * n + vs s m) by omega, q]
          have n1 := dnx_in B s (6 * n + m)
          have t1 := tgt_in hV ho n1.1 n1.2
          have nn := nmb_in (x := cds B (dnx B s (6 * n + m))) ho (cds_in ho)
          have nn2 := nn.2.2 (vld_cds ho)
          have v59 : gI h (a0 + 3) (nmb B (cds B (dnx B s (6 * n + m)))).toNat = iI (tgt V (dnx B s (6 * n + m))) := by rw [gI_A, hF _ n1.1 n1.2]
          by_cases g : Gd B V s n m
          · have g' : tgt V (dnx B s (6 * n + m)) + (B.pr n * 1024 + 1) = tgt V s := g
            refine w_iload3 r_30_15 ?_
            refine w_aload0 r_30_16 ?_
            refine w_getA (x := rb) r_30_17 (Lk_107 hL) hr (RB.nz hb) ?_
            refine v_getI r_30_20 (Bk_ hL hb) (hC.f10) ?_
            refine v_ic_ge r_30_23 (by first | exact zF_in _ _ _ | exact zA_in _ _ _ | omega) (by first | exact zF_in _ _ _ | exact zA_in _ _ _ | omega) (fun q => absurd q (by omega)) (fun _ => ?_)
            refine w_aload0 r_30_26 ?_
            refine w_getA (x := a0 + 2) r_30_27 (Lk_107 hL) hD.1.2.2.1 (by omega) ?_
            refine w_iload1 r_30_30 ?_
            refine w_bipush (v := iI (30)) r_30_31 rfl ?_
            refine v_imul r_30_33 ?_
            refine w_iload2 r_30_34 ?_
            refine w_iconst (v := iI (5)) r_30_35 rfl ?_
            refine v_imul r_30_36 ?_
            refine v_iadd r_30_37 ?_
            refine w_aload0 r_30_38 ?_
            refine w_getA (x := 109) r_30_39 (Lk_107 hL) (Lr_107_2 hL) (by decide) ?_
            refine w_iload3 r_30_42 ?_
            refine v_iald r_30_43 (Lk_109 hL) (Lz_109 hL) (by decide) (by omega) v43 ?_
            refine v_iadd r_30_44 ?_
            refine v_iald r_30_45 hD.2.1.2.2.1 hD.2.2.1.2.2.1 (by decide) (by omega) v45 ?_
            refine w_istore4 r_30_46 rfl ?_
            refine w_iload4 r_30_48 ?_
            refine v_if_lt r_30_50 (by first | exact zF_in _ _ _ | exact zA_in _ _ _ | omega) (fun q => absurd q (by omega)) (fun _ => ?_)
            refine w_aload0 r_30_53 ?_
            refine w_getA (x := a0 + 3) r_30_54 (Lk_107 hL) hD.1.2.2.2.1 (by omega) ?_
            refine w_iload4 r_30_57 ?_
            refine v_iald r_30_59 hD.2.1.2.2.2.1 hD.2.2.1.2.2.2.1 (by decide) (by omega) v59 ?_
            refine w_aload0 r_30_60 ?_
            refine w_iload2 r_30_61 ?_
            refine k_31 r_30_62 (Lk_107 hL) (Nat.le_of_ble_eq_true rfl) ?_
            refine c_priceOf hL hb hr hC (by omega) ho ?_
            refine v_iadd r_30_65 ?_
            refine w_aload0 r_30_66 ?_
            refine w_getA (x := a0 + 3) r_30_67 (Lk_107 hL) hD.1.2.2.2.1 (by omega) ?_
            refine w_iload1 r_30_70 ?_
            refine v_iald r_30_71 hD.2.1.2.2.2.1 hD.2.2.1.2.2.2.1 (by decide) (by omega) v71 ?_
            refine v_ic_ne r_30_72 (by first | exact zF_in _ _ _ | exact zA_in _ _ _ | omega) (by first | exact zF_in _ _ _ | exact zA_in _ _ _ | omega) (fun q => absurd q (by omega)) (fun _ => ?_)
            refine w_bipush (v := iI (10)) r_30_75 rfl ?_
            refine w_iload2 r_30_77 ?_
            refine v_imul r_30_78 ?_
            refine w_iload3 r_30_79 ?_
            refine v_iadd r_30_80 ?_
            refine w_iret r_30_81 ?_
            exact k1 n m (by omega) hw g (fun t' w' ht' hw' q => by
              by_cases e : t' = (n : Int)
              · rw [e]; exact nw w' hw'.1 (by omega)
              · exact no t' w' ht' hw' (by omega))
          · have g' : ¬ tgt V (dnx B s (6 * n + m)) + (B.pr n * 1024 + 1) = tgt V s := g
            have J := ih2 (.int (iI (nmb B (cds B (dnx B s (6 * n + m)))))) (fun w' a b => by
              by_cases e : w' = (m : Int)
              · rw [e]; exact g
              · exact nw w' a (by omega))
            refine w_iload3 r_30_15 ?_
            refine w_aload0 r_30_16 ?_
            refine w_getA (x := rb) r_30_17 (Lk_107 hL) hr (RB.nz hb) ?_
            refine v_getI r_30_20 (Bk_ hL hb) (hC.f10) ?_
            refine v_ic_ge r_30_23 (by first | exact zF_in _ _ _ | exact zA_in _ _ _ | omega) (by first | exact zF_in _ _ _ | exact zA_in _ _ _ | omega) (fun q => absurd q (by omega)) (fun _ => ?_)
            refine w_aload0 r_30_26 ?_
            refine w_getA (x := a0 + 2) r_30_27 (Lk_107 hL) hD.1.2.2.1 (by omega) ?_
            refine w_iload1 r_30_30 ?_
            refine w_bipush (v := iI (30)) r_30_31 rfl ?_
            refine v_imul r_30_33 ?_
            refine w_iload2 r_30_34 ?_
            refine w_iconst (v := iI (5)) r_30_35 rfl ?_
            refine v_imul r_30_36 ?_
            refine v_iadd r_30_37 ?_
            refine w_aload0 r_30_38 ?_
            refine w_getA (x := 109) r_30_39 (Lk_107 hL) (Lr_107_2 hL) (by decide) ?_
            refine w_iload3 r_30_42 ?_
            refine v_iald r_30_43 (Lk_109 hL) (Lz_109 hL) (by decide) (by omega) v43 ?_
            refine v_iadd r_30_44 ?_
            refine v_iald r_30_45 hD.2.1.2.2.1 hD.2.2.1.2.2.1 (by decide) (by omega) v45 ?_
            refine w_istore4 r_30_46 rfl ?_
            refine w_iload4 r_30_48 ?_
            refine v_if_lt r_30_50 (by first | exact zF_in _ _ _ | exact zA_in _ _ _ | omega) (fun q => absurd q (by omega)) (fun _ => ?_)
            refine w_aload0 r_30_53 ?_
            refine w_getA (x := a0 + 3) r_30_54 (Lk_107 hL) hD.1.2.2.2.1 (by omega) ?_
            refine w_iload4 r_30_57 ?_
            refine v_iald r_30_59 hD.2.1.2.2.2.1 hD.2.2.1.2.2.2.1 (by decide) (by omega) v59 ?_
            refine w_aload0 r_30_60 ?_
            refine w_iload2 r_30_61 ?_
            refine k_31 r_30_62 (Lk_107 hL) (Nat.le_of_ble_eq_true rfl) ?_
            refine c_priceOf hL hb hr hC (by omega) ho ?_
            refine v_iadd r_30_65 ?_
            refine w_aload0 r_30_66 ?_
            refine w_getA (x := a0 + 3) r_30_67 (Lk_107 hL) hD.1.2.2.2.1 (by omega) ?_
            refine w_iload1 r_30_70 ?_
            refine v_iald r_30_71 hD.2.1.2.2.2.1 hD.2.2.1.2.2.2.1 (by decide) (by omega) v71 ?_
            refine v_ic_ne r_30_72 (by first | exact zF_in _ _ _ | exact zA_in _ _ _ | omega) (by first | exact zF_in _ _ _ | exact zA_in _ _ _ | omega) (fun _ => ?_) (fun q => absurd q (by omega))
            refine w_iinc3 r_30_82 rfl (iI_add _ _) ?_
            refine w_goto r_30_85 ?_
            exact J
      have go := wl 0 (by omega) X4 (fun w' a b => by omega)
      refine w_iload2 r_30_2 ?_
      refine w_aload0 r_30_3 ?_
      refine w_getA (x := rb) r_30_4 (Lk_107 hL) hr (RB.nz hb) ?_
      refine v_getI r_30_7 (Bk_ hL hb) (hC.f4) ?_
      refine v_ic_ge r_30_10 (by first | exact zF_in _ _ _ | exact zA_in _ _ _ | omega) (by first | exact zF_in _ _ _ | exact zA_in _ _ _ | omega) (fun q => absurd q (by omega)) (fun _ => ?_)
      refine w_iconst (v := iI (0)) r_30_13 rfl ?_
      refine w_istore3 r_30_14 rfl ?_
      exact go
  refine w_iconst (v := iI (0)) r_30_0 rfl ?_
  refine w_istore2 r_30_1 rfl ?_
  exact tl 0 (by omega) _ _ (fun t' w' a _ b => by omega)
end LM
