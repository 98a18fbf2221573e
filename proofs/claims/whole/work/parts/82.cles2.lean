/-! digging: the class's lessen -/
section CL
variable {d : Nat} {h : XH} {K : Int32 → XH → Prop} {KU : XH → Prop} {B : XB} {rb a0 : Nat} {V : Int → Int}
/-- the table of moves stands -/
def CAf (h : XH) (a0 : Nat) (B : XB) : Prop := ∀ s, 0 ≤ s → s < 5 ^ B.w.toNat → ∀ m, 0 ≤ m → m < 5 * B.t → zA h (a0 + 2) (nmb B (cds B s) * 30 + m) = aft B s (m / 5) (m % 5)
theorem num_st {j : Int} (ho : B.ok) (h0 : 0 ≤ j) (h1 : j < nmb B 2401) : ∃ s : Int, (0 ≤ s ∧ s < 5 ^ B.w.toNat) ∧ j = nmb B (cds B s) := by
  obtain ⟨m, m0, m1, m2⟩ := nuW_hit (W := B.w) 2401 j h0 h1
  obtain ⟨s, s0, s1, s2⟩ := st_ex (x := (m : Int)) ho (by omega) m1
  refine ⟨s, ⟨s0, s1⟩, ?_⟩
  rw [s2]
  show j = nuW B.w m
  exact m2.symm
theorem tgt_in {s : Int} (hV : DSl B 1024 V) (ho : B.ok) (a : 0 ≤ s) (b : s < 5 ^ B.w.toNat) : 0 ≤ tgt V s ∧ tgt V s ≤ 536870912 := by
  have v0 := hV.2 s a (by rw [p5c]; exact b)
  unfold tgt
  by_cases q : V s < 1000000000000000
  · have := hV.small (by decide) ho a b q
    rw [if_pos q]; omega
  · rw [if_neg q]; omega
theorem c_lessen (hL : Lay h) (hb : rb = 6 ∨ rb = 20) (hr : gR h 107 0 = rb) (hC : CBk h rb B) (ho : B.ok) (hD : DA h a0) (hA : CAf h a0 B) (h5 : zF h 107 5 = nmb B 2401) (hV : DSl B 1024 V) (hl : LB B V h a0) (kk : ∀ h1 fl, LsI B V a0 h h1 fl (nmb B 2401) 0 → K (iI fl) h1) : XW (d + 1) 37 0 [.ref 107, .null, .null, .null, .null, .null] [] h (KI K) := by
  have o := ho.1
  have a156 := hD.2.2.2.1
  have nb := nmb_in (x := 2400) ho (by decide)
  have nB : 1 ≤ nmb B 2401 ∧ nmb B 2401 ≤ 210 := by
    have l := nuW_lt (W := B.w) (m := 0) (n := 2401) (by decide) (by show (0 : Int) ≤ B.w; omega)
    have u := nuW_le (W := B.w) (by omega) 2401
    rw [cnV_all] at u
    have z : nuW B.w 0 = 0 := rfl
    have e : nmb B 2401 = nuW B.w 2401 := rfl
    omega
  have st : ∀ j : Int, 0 ≤ j → j < nmb B 2401 → ∃ s : Int, (0 ≤ s ∧ s < 5 ^ B.w.toNat) ∧ j = nmb B (cds B s) := fun j a b => num_st ho a b
  clear nb
  generalize nmb B 2401 = NB at *
  have jl : ∀ n : Nat, n ≤ (NB - 1).toNat → ∀ h1 fl (X3 X4 X5 : Value), LsI B V a0 h h1 fl ((n : Int) + 1) 0 → XW (d + 1) 37 4 [.ref 107, .int (iI fl), .int (iI ((n : Int) + 1)), X3, X4, X5] [] h1 (KI K) := by
    refine upto _ ?_ ?_
    · intro h1 fl X3 X4 X5 I
      have f := I.1
      have hL := f.lay hL
      have e1 : ((NB - 1).toNat : Int) + 1 = NB := by omega
      rw [e1] at I ⊢
      have g5 : gI h1 107 5 = iI (NB) := by rw [gI_F, f.F (by simp [pA]; omega), h5]
      rcases I.2.2.2.2.1 with e | e
      · subst e
        refine w_iload2 r_37_4 ?_
        refine w_aload0 r_37_5 ?_
        refine v_getI r_37_6 (Lk_107 hL) g5 ?_
        refine v_ic_ge r_37_9 (by first | exact zF_in _ _ _ | exact zA_in _ _ _ | omega) (by first | exact zF_in _ _ _ | exact zA_in _ _ _ | omega) (fun _ => ?_) (fun q => absurd q (by omega))
        refine w_iload1 r_37_118 ?_
        refine w_zret r_37_119 (by decide) ?_
        exact kk h1 _ I
      · subst e
        refine w_iload2 r_37_4 ?_
        refine w_aload0 r_37_5 ?_
        refine v_getI r_37_6 (Lk_107 hL) g5 ?_
        refine v_ic_ge r_37_9 (by first | exact zF_in _ _ _ | exact zA_in _ _ _ | omega) (by first | exact zF_in _ _ _ | exact zA_in _ _ _ | omega) (fun _ => ?_) (fun q => absurd q (by omega))
        refine w_iload1 r_37_118 ?_
        refine w_zret r_37_119 (by decide) ?_
        exact kk h1 _ I
    · intro jn hjn nxt h1 fl X3 X4 X5 I
      obtain ⟨s, hs, hj⟩ := st ((jn : Int) + 1) (by omega) (by omega)
      have nxt' : ∀ h1 fl (X3 X4 X5 : Value), LsI B V a0 h h1 fl ((jn : Int) + 1 + 1) 0 → XW (d + 1) 37 4 [.ref 107, .int (iI fl), .int (iI ((jn : Int) + 1 + 1)), X3, X4, X5] [] h1 (KI K) := nxt
      have jb : 1 ≤ (jn : Int) + 1 ∧ (jn : Int) + 1 < 210 ∧ (jn : Int) + 1 < NB := by omega
      clear nxt
      generalize (jn : Int) + 1 = j at *
      have xl : ∀ n : Nat, n ≤ 5 * B.t.toNat → ∀ h1 fl (X5 : Value), LsI B V a0 h h1 fl j n → (n < 5 * B.t.toNat → XW (d + 1) 37 28 [.ref 107, .int (iI fl), .int (iI j), .int (iI ((n : Int) / 5)), .int (iI ((n : Int) % 5)), X5] [] h1 (KI K)) ∧ ((n : Int) % 5 = 0 → ∀ X4 : Value, XW (d + 1) 37 14 [.ref 107, .int (iI fl), .int (iI j), .int (iI ((n : Int) / 5)), X4, X5] [] h1 (KI K)) := by
        refine upto _ ?_ ?_
        · intro h1 fl X5 I
          have f := I.1
          have hL := f.lay hL
          have hC := hC.fr f hb (fun a j p q => by simp [pA]; omega)
          have hr := (f.R 107 0).trans hr
          refine ⟨fun z => absurd z (Nat.lt_irrefl _), fun q X4 => ?_⟩
          have e5 : ((5 * B.t.toNat : Nat) : Int) / 5 = B.t := by omega
          have e6 : ((5 * B.t.toNat : Nat) : Int) = 5 * B.t := by omega
          rw [e6] at I
          rw [e5]
          refine w_iload3 r_37_14 ?_
          refine w_aload0 r_37_15 ?_
          refine w_getA (x := rb) r_37_16 (Lk_107 hL) hr (RB.nz hb) ?_
          refine v_getI r_37_19 (Bk_ hL hb) (hC.f4) ?_
          refine v_ic_ge r_37_22 (by first | exact zF_in _ _ _ | exact zA_in _ _ _ | omega) (by first | exact zF_in _ _ _ | exact zA_in _ _ _ | omega) (fun _ => ?_) (fun q => absurd q (by omega))
          refine w_iinc2 r_37_112 rfl (iI_add _ _) ?_
          refine w_goto r_37_115 ?_
          exact nxt' _ _ _ _ _ I.next
        · intro n hn ih h1 fl X5 I
          have f := I.1
          have hL := f.lay hL
          have hD := hD.fr f
          have hC := hC.fr f hb (fun a j p q => by simp [pA]; omega)
          have hr := (f.R 107 0).trans hr
          have hn5 : (n : Int) < 5 * B.t := by omega
          have ai := aft_in (s := s) (t := (n : Int) / 5) (x := (n : Int) % 5) ho
          have op := ho.2.2.2.2 ((n : Int) / 5) (by omega) (by omega)
          have first : XW (d + 1) 37 28 [.ref 107, .int (iI fl), .int (iI j), .int (iI ((n : Int) / 5)), .int (iI ((n : Int) % 5)), X5] [] h1 (KI K) := by
            have tail : ∀ h3 fl' (Y5 : Value), LsI B V a0 h h3 fl' j ((n : Int) + 1) → XW (d + 1) 37 100 [.ref 107, .int (iI fl'), .int (iI j), .int (iI ((n : Int) / 5)), .int (iI ((n : Int) % 5)), Y5] [] h3 (KI K) := by
              intro h3 fl' Y5 I3
              have hL := I3.1.lay (‹Lay h›)
              have J := ih h3 fl' Y5 I3
              have mv : XW (d + 1) 37 28 [.ref 107, .int (iI fl'), .int (iI j), .int (iI ((n : Int) / 5)), .int (iI ((n : Int) % 5 + 1)), Y5] [] h3 (KI K) := by
                by_cases q : (n : Int) % 5 = 4
                · have e1 : ((n + 1 : Nat) : Int) / 5 = (n : Int) / 5 + 1 := by omega
                  have i2 := J.2 (by omega) (.int (iI 5))
                  rw [e1] at i2
                  rw [q]
                  refine w_iload4 r_37_28 ?_
                  refine w_iconst (v := iI (5)) r_37_30 rfl ?_
                  refine v_ic_ge r_37_31 (by first | exact zF_in _ _ _ | exact zA_in _ _ _ | omega) (by first | exact zF_in _ _ _ | exact zA_in _ _ _ | omega) (fun _ => ?_) (fun q => absurd q (by omega))
                  refine w_iinc3 r_37_106 rfl (iI_add _ _) ?_
                  refine w_goto r_37_109 ?_
                  exact i2
                · have e1 : ((n + 1 : Nat) : Int) / 5 = (n : Int) / 5 := by omega
                  have e2 : ((n + 1 : Nat) : Int) % 5 = (n : Int) % 5 + 1 := by omega
                  have i1 := J.1 (by omega)
                  rw [e1, e2] at i1
                  exact i1
              refine w_iinc4 r_37_100 rfl (iI_add _ _) ?_
              refine w_goto r_37_103 ?_
              exact mv
            have v49 : gI h1 (a0 + 2) (j * 30 + (n : Int) / 5 * 5 + (n : Int) % 5).toNat = iI (aft B s ((n : Int) / 5) ((n : Int) % 5)) := by
              rw [gI_A, f.A (by simp [pA]), show j * 30 + (n : Int) / 5 * 5 + (n : Int) % 5 = j * 30 + n by omega, hj, hA s hs.1 hs.2 n (by omega) hn5]
            by_cases q : 0 < cnt (vs s) ((n : Int) % 5) B.w.toNat
            · obtain ⟨w, hw, wx, we⟩ := nxc_ok (t := (n : Int) / 5) ho q
              have ea : aft B s ((n : Int) / 5) ((n : Int) % 5) = nmb B (nxc B s ((n : Int) / 5) ((n : Int) % 5)) := by unfold aft; rw [if_pos q]
              have n1 := dnx_in B s (6 * ((n : Int) / 5) + w)
              have c1 := I.2.2.1.2 _ n1.1 n1.2
              have t1 := tgt_in hV ho n1.1 n1.2
              rw [← we] at c1
              have cs := I.2.2.1.2 s hs.1 hs.2
              have ts := tgt_in hV ho hs.1 hs.2
              rw [← hj] at cs
              have nn := nmb_in (x := cds B (dnx B s (6 * ((n : Int) / 5) + w))) ho (cds_in ho)
              rw [← we] at nn
              rw [ea] at v49 ai
              by_cases lt : zA h1 (a0 + 3) (nmb B (nxc B s ((n : Int) / 5) ((n : Int) % 5))) + (B.pr ((n : Int) / 5) * 1024 + 1) < zA h1 (a0 + 3) j
              · have I3 := I.put hV ho hs hj jb.1 hn5 q lt
                have T := tail _ _ (.int (iI (nmb B (nxc B s ((n : Int) / 5) ((n : Int) % 5))))) I3
                refine w_iload4 r_37_28 ?_
                refine w_iconst (v := iI (5)) r_37_30 rfl ?_
                refine v_ic_ge r_37_31 (by first | exact zF_in _ _ _ | exact zA_in _ _ _ | omega) (by first | exact zF_in _ _ _ | exact zA_in _ _ _ | omega) (fun q => absurd q (by omega)) (fun _ => ?_)
                refine w_aload0 r_37_34 ?_
                refine w_getA (x := a0 + 2) r_37_35 (Lk_107 hL) hD.1.2.2.1 (by omega) ?_
                refine w_iload2 r_37_38 ?_
                refine w_bipush (v := iI (30)) r_37_39 rfl ?_
                refine v_imul r_37_41 ?_
                refine w_iload3 r_37_42 ?_
                refine w_iconst (v := iI (5)) r_37_43 rfl ?_
                refine v_imul r_37_44 ?_
                refine v_iadd r_37_45 ?_
                refine w_iload4 r_37_46 ?_
                refine v_iadd r_37_48 ?_
                refine v_iald r_37_49 hD.2.1.2.2.1 hD.2.2.1.2.2.1 (by decide) (by omega) v49 ?_
                refine w_istore5 r_37_50 rfl ?_
                refine w_iload5 r_37_52 ?_
                refine v_if_lt r_37_54 (by first | exact zF_in _ _ _ | exact zA_in _ _ _ | omega) (fun q => absurd q (by omega)) (fun _ => ?_)
                refine w_aload0 r_37_57 ?_
                refine w_getA (x := a0 + 3) r_37_58 (Lk_107 hL) hD.1.2.2.2.1 (by omega) ?_
                refine w_iload5 r_37_61 ?_
                refine v_iald r_37_63 hD.2.1.2.2.2.1 hD.2.2.1.2.2.2.1 (by decide) (by omega) (gI_A h1 (a0 + 3) _) ?_
                refine w_aload0 r_37_64 ?_
                refine w_iload3 r_37_65 ?_
                refine k_31 r_37_66 (Lk_107 hL) (Nat.le_of_ble_eq_true rfl) ?_
                refine c_priceOf hL hb hr hC (by omega) ho ?_
                refine v_iadd r_37_69 ?_
                refine w_aload0 r_37_70 ?_
                refine w_getA (x := a0 + 3) r_37_71 (Lk_107 hL) hD.1.2.2.2.1 (by omega) ?_
                refine w_iload2 r_37_74 ?_
                refine v_iald r_37_75 hD.2.1.2.2.2.1 hD.2.2.1.2.2.2.1 (by decide) (by omega) (gI_A h1 (a0 + 3) _) ?_
                refine v_ic_ge r_37_76 (by first | exact zF_in _ _ _ | exact zA_in _ _ _ | omega) (by first | exact zF_in _ _ _ | exact zA_in _ _ _ | omega) (fun q => absurd q (by omega)) (fun _ => ?_)
                refine w_aload0 r_37_79 ?_
                refine w_getA (x := a0 + 3) r_37_80 (Lk_107 hL) hD.1.2.2.2.1 (by omega) ?_
                refine w_iload2 r_37_83 ?_
                refine w_aload0 r_37_84 ?_
                refine w_getA (x := a0 + 3) r_37_85 (Lk_107 hL) hD.1.2.2.2.1 (by omega) ?_
                refine w_iload5 r_37_88 ?_
                refine v_iald r_37_90 hD.2.1.2.2.2.1 hD.2.2.1.2.2.2.1 (by decide) (by omega) (gI_A h1 (a0 + 3) _) ?_
                refine w_aload0 r_37_91 ?_
                refine w_iload3 r_37_92 ?_
                refine k_31 r_37_93 (Lk_107 hL) (Nat.le_of_ble_eq_true rfl) ?_
                refine c_priceOf hL hb hr hC (by omega) ho ?_
                refine v_iadd r_37_96 ?_
                refine v_iast r_37_97 hD.2.1.2.2.2.1 hD.n3 hD.2.2.1.2.2.2.1 (by decide) (by omega) ?_
                refine w_iconst (v := iI (1)) r_37_98 rfl ?_
                refine w_istore1 r_37_99 rfl ?_
                exact T
              · have I3 := I.keep ho hs hj (fun _ => by omega)
                have T := tail _ _ (.int (iI (nmb B (nxc B s ((n : Int) / 5) ((n : Int) % 5))))) I3
                refine w_iload4 r_37_28 ?_
                refine w_iconst (v := iI (5)) r_37_30 rfl ?_
                refine v_ic_ge r_37_31 (by first | exact zF_in _ _ _ | exact zA_in _ _ _ | omega) (by first | exact zF_in _ _ _ | exact zA_in _ _ _ | omega) (fun q => absurd q (by omega)) (fun _ => ?_)
                refine w_aload0 r_37_34 ?_
                refine w_getA (x := a0 + 2) r_37_35 (Lk_107 hL) hD.1.2.2.1 (by omega) ?_
                refine w_iload2 r_37_38 ?_
                refine w_bipush (v := iI (30)) r_37_39 rfl ?_
                refine v_imul r_37_41 ?_
                refine w_iload3 r_37_42 ?_
                refine w_iconst (v := iI (5)) r_37_43 rfl ?_
                refine v_imul r_37_44 ?_
                refine v_iadd r_37_45 ?_
                refine w_iload4 r_37_46 ?_
                refine v_iadd r_37_48 ?_
                refine v_iald r_37_49 hD.2.1.2.2.1 hD.2.2.1.2.2.1 (by decide) (by omega) v49 ?_
                refine w_istore5 r_37_50 rfl ?_
                refine w_iload5 r_37_52 ?_
                refine v_if_lt r_37_54 (by first | exact zF_in _ _ _ | exact zA_in _ _ _ | omega) (fun q => absurd q (by omega)) (fun _ => ?_)
                refine w_aload0 r_37_57 ?_
                refine w_getA (x := a0 + 3) r_37_58 (Lk_107 hL) hD.1.2.2.2.1 (by omega) ?_
                refine w_iload5 r_37_61 ?_
                refine v_iald r_37_63 hD.2.1.2.2.2.1 hD.2.2.1.2.2.2.1 (by decide) (by omega) (gI_A h1 (a0 + 3) _) ?_
                refine w_aload0 r_37_64 ?_
                refine w_iload3 r_37_65 ?_
                refine k_31 r_37_66 (Lk_107 hL) (Nat.le_of_ble_eq_true rfl) ?_
                refine c_priceOf hL hb hr hC (by omega) ho ?_
                refine v_iadd r_37_69 ?_
                refine w_aload0 r_37_70 ?_
                refine w_getA (x := a0 + 3) r_37_71 (Lk_107 hL) hD.1.2.2.2.1 (by omega) ?_
                refine w_iload2 r_37_74 ?_
                refine v_iald r_37_75 hD.2.1.2.2.2.1 hD.2.2.1.2.2.2.1 (by decide) (by omega) (gI_A h1 (a0 + 3) _) ?_
                refine v_ic_ge r_37_76 (by first | exact zF_in _ _ _ | exact zA_in _ _ _ | omega) (by first | exact zF_in _ _ _ | exact zA_in _ _ _ | omega) (fun _ => ?_) (fun q => absurd q (by omega))
                exact T
            · have ea : aft B s ((n : Int) / 5) ((n : Int) % 5) = -1 := by unfold aft; rw [if_neg q]
              rw [ea] at v49
              have T := tail _ _ (.int (iI (-1))) (I.keep ho hs hj (fun z => absurd z q))
              refine w_iload4 r_37_28 ?_
              refine w_iconst (v := iI (5)) r_37_30 rfl ?_
              refine v_ic_ge r_37_31 (by first | exact zF_in _ _ _ | exact zA_in _ _ _ | omega) (by first | exact zF_in _ _ _ | exact zA_in _ _ _ | omega) (fun q => absurd q (by omega)) (fun _ => ?_)
              refine w_aload0 r_37_34 ?_
              refine w_getA (x := a0 + 2) r_37_35 (Lk_107 hL) hD.1.2.2.1 (by omega) ?_
              refine w_iload2 r_37_38 ?_
              refine w_bipush (v := iI (30)) r_37_39 rfl ?_
              refine v_imul r_37_41 ?_
              refine w_iload3 r_37_42 ?_
              refine w_iconst (v := iI (5)) r_37_43 rfl ?_
              refine v_imul r_37_44 ?_
              refine v_iadd r_37_45 ?_
              refine w_iload4 r_37_46 ?_
              refine v_iadd r_37_48 ?_
              refine v_iald r_37_49 hD.2.1.2.2.1 hD.2.2.1.2.2.1 (by decide) (by omega) v49 ?_
              refine w_istore5 r_37_50 rfl ?_
              refine w_iload5 r_37_52 ?_
              refine v_if_lt r_37_54 (by first | exact zF_in _ _ _ | exact zA_in _ _ _ | omega) (fun _ => ?_) (fun q => absurd q (by omega))
              exact T
          refine ⟨fun _ => first, fun q X4 => ?_⟩
          rw [q] at first
          refine w_iload3 r_37_14 ?_
          refine w_aload0 r_37_15 ?_
          refine w_getA (x := rb) r_37_16 (Lk_107 hL) hr (RB.nz hb) ?_
          refine v_getI r_37_19 (Bk_ hL hb) (hC.f4) ?_
          refine v_ic_ge r_37_22 (by first | exact zF_in _ _ _ | exact zA_in _ _ _ | omega) (by first | exact zF_in _ _ _ | exact zA_in _ _ _ | omega) (fun q => absurd q (by omega)) (fun _ => ?_)
          refine w_iconst (v := iI (0)) r_37_25 rfl ?_
          refine w_istore4 r_37_26 rfl ?_
          exact first
      have f := I.1
      have hL := f.lay hL
      have g5 : gI h1 107 5 = iI (NB) := by rw [gI_F, f.F (by simp [pA]; omega), h5]
      have go := (xl 0 (by omega) h1 fl X5 I).2 rfl X4
      refine w_iload2 r_37_4 ?_
      refine w_aload0 r_37_5 ?_
      refine v_getI r_37_6 (Lk_107 hL) g5 ?_
      refine v_ic_ge r_37_9 (by first | exact zF_in _ _ _ | exact zA_in _ _ _ | omega) (by first | exact zF_in _ _ _ | exact zA_in _ _ _ | omega) (fun q => absurd q (by omega)) (fun _ => ?_)
      refine w_iconst (v := iI (0)) r_37_12 rfl ?_
      refine w_istore3 r_37_13 rfl ?_
      exact go
  refine w_iconst (v := iI (0)) r_37_0 rfl ?_
  refine w_istore1 r_37_1 rfl ?_
  refine w_iconst (v := iI (1)) r_37_2 rfl ?_
  refine w_istore2 r_37_3 rfl ?_
  exact jl 0 (by omega) h 0 _ _ _ ⟨Fr.refl _ _, fun i _ => Int.le_refl _, hl, fun s s0 s1 s2 m m0 m1 q => by omega, Or.inl rfl, fun _ _ _ => rfl⟩
end CL
