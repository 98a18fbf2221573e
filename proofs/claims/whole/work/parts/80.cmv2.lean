/-! digging: the class's table of moves -/
section CN
variable {d : Nat} {h : XH} {K : Int32 → XH → Prop} {KU : XH → Prop} {B : XB} {rb a0 : Nat}
/-- the code behind a try at a wheel of depth x -/
def nxc (B : XB) (s t x : Int) : Int := cda (B.ea t) (B.on t) (cnt (vs s) 0 B.w.toNat) (cnt (vs s) 1 B.w.toNat) (cnt (vs s) 2 B.w.toNat) (cnt (vs s) 3 B.w.toNat) (cnt (vs s) 4 B.w.toNat) x
theorem nxc_at {s t w : Int} (ho : B.ok) (hw : 0 ≤ w ∧ w < B.w) : nxc B s t (vs s w) = cds B (dnx B s (6 * t + w)) := (cds_dnx ho hw).symm
theorem nxc_ok {s t x : Int} (ho : B.ok) (hx : 0 < cnt (vs s) x B.w.toNat) : ∃ w : Int, (0 ≤ w ∧ w < B.w) ∧ vs s w = x ∧ nxc B s t x = cds B (dnx B s (6 * t + w)) := by
  have o := ho.1
  obtain ⟨w, a, b, c⟩ := cnt_pos hx
  have hw : 0 ≤ w ∧ w < B.w := ⟨a, by omega⟩
  exact ⟨w, hw, c, by rw [← c]; exact nxc_at ho hw⟩
/-- the row of moves -/
def aft (B : XB) (s t x : Int) : Int := if 0 < cnt (vs s) x B.w.toNat then nmb B (nxc B s t x) else -1
theorem aft_in {s t x : Int} (ho : B.ok) : -1 ≤ aft B s t x ∧ aft B s t x < 210 := by
  unfold aft
  by_cases q : 0 < cnt (vs s) x B.w.toNat
  · obtain ⟨w, hw, _, e⟩ := nxc_ok (t := t) ho q
    have v := vld_cds (s := dnx B s (6 * t + w)) ho
    have c := cds_in (s := dnx B s (6 * t + w)) ho
    have n := nmb_in (x := cds B (dnx B s (6 * t + w))) ho c
    have := n.2.2 v
    rw [if_pos q, e]; omega
  · rw [if_neg q]; omega
theorem cds_held {s i : Int} (ho : B.ok) (hi : 1 ≤ i ∧ i ≤ 4) : cds B s / unt i % 7 = cnt (vs s) i B.w.toNat := by
  have o := ho.1
  have a := cde_cnt (v := vs s) (n := B.w.toNat) (by omega) (fun k _ _ => vs_in s k)
  have : i = 1 ∨ i = 2 ∨ i = 3 ∨ i = 4 := by omega
  rcases this with rfl | rfl | rfl | rfl
  · show cds B s / 1 % 7 = _
    rw [Int.ediv_one]; exact a.2.2.1
  · exact a.2.2.2.1
  · exact a.2.2.2.2.1
  · exact a.2.2.2.2.2
theorem Unt.fr {P : Nat → Nat → Bool} {h' : XH} (f : Fr P h h') (hU : Unt h) (hp : ∀ j, P 1000001 j = false) : Unt h' := fun x a b => by rw [(f.2 1000001 _ (hp _)).1]; exact hU x a b
theorem c_codeAt {s t x : Int} (hL : Lay h) (hU : Unt h) (hb : rb = 6 ∨ rb = 20) (hr : gR h 107 0 = rb) (hC : CBk h rb B) (ho : B.ok) (ht : 0 ≤ t ∧ t < B.t) (hx : 0 ≤ x ∧ x ≤ 4) (hc : ∀ i : Int, 0 ≤ i → i ≤ 4 → zA h 110 i = cnt (vs s) i B.w.toNat) (kk : K (iI (nxc B s t x)) h) : XW (d + 2) 36 0 [.ref 107, .int (iI t), .int (iI x), .null, .null, .null] [] h (KI K) := by
  have o := ho.1
  refine c_codeAfter hL hU hb hr hC ho ht hx (fun i a b => ?_) ?_
  · have := cnt_in (vs s) i B.w.toNat
    rw [hc i a (by omega)]; omega
  · rw [hc 0 (by decide) (by decide), hc 1 (by decide) (by decide), hc 2 (by decide) (by decide), hc 3 (by decide) (by decide), hc 4 (by decide) (by decide)]
    exact kk
theorem c_listMoves {s j : Int} (hL : Lay h) (hU : Unt h) (hb : rb = 6 ∨ rb = 20) (hr : gR h 107 0 = rb) (hC : CBk h rb B) (ho : B.ok) (hD : DA h a0) (hc : CLc h a0 B 2401) (hj : j = nmb B (cds B s)) (kk : ∀ h', Fr (pA [110, a0 + 2]) h h' → (∀ m, 0 ≤ m → m < 5 * B.t → zA h' (a0 + 2) (j * 30 + m) = aft B s (m / 5) (m % 5)) → (∀ i, 0 ≤ i → i < j * 30 ∨ j * 30 + 30 ≤ i → zA h' (a0 + 2) i = zA h (a0 + 2) i) → KU h') : XW (d + 3) 35 0 [.ref 107, .int (iI j), .null, .null, .null, .null] [] h (KV KU) := by
  have o := ho.1
  have a156 := hD.2.2.2.1
  have ci := cds_in (s := s) ho
  have cv := vld_cds (s := s) ho
  have nj := nmb_in (x := cds B s) ho ci
  have nj2 := nj.2.2 cv
  rw [← hj] at nj nj2
  have cc := hc.1 (cds B s) ci.1 ci.2 cv
  rw [← hj] at cc
  have far : ∀ j : Nat, pA [110, a0 + 2] 1000001 j = false := fun j => by simp [pA]; have := hD.2.2.2.2; have := hL.2.2.2.1; omega
  have xl : ∀ n : Nat, n ≤ 5 * B.t.toNat → ∀ (h2 : XH) (X5 : Value), Fr (pA [110, a0 + 2]) h h2 → (∀ i : Int, 0 ≤ i → i ≤ 4 → zA h2 110 i = cnt (vs s) i B.w.toNat) → (∀ m : Int, 0 ≤ m → m < n → zA h2 (a0 + 2) (j * 30 + m) = aft B s (m / 5) (m % 5)) → (∀ i, 0 ≤ i → i < j * 30 ∨ j * 30 + 30 ≤ i → zA h2 (a0 + 2) i = zA h (a0 + 2) i) → (n < 5 * B.t.toNat → XW (d + 3) 35 69 [.ref 107, .int (iI j), .int (iI (cnt (vs s) 0 B.w.toNat)), .int (iI ((n : Int) / 5)), .int (iI ((n : Int) % 5)), X5] [] h2 (KV KU)) ∧ ((n : Int) % 5 = 0 → ∀ X4 : Value, XW (d + 3) 35 55 [.ref 107, .int (iI j), .int (iI (cnt (vs s) 0 B.w.toNat)), .int (iI ((n : Int) / 5)), X4, X5] [] h2 (KV KU)) := by
    refine upto _ ?_ ?_
    · intro h2 X5 f hh w1 w2
      have hL := f.lay hL
      have hD := hD.fr f
      have hC := hC.fr f hb (fun a j p q => by simp [pA]; omega)
      have hr := (f.R 107 0).trans hr
      refine ⟨fun z => absurd z (Nat.lt_irrefl _), fun q X4 => ?_⟩
      have e5 : ((5 * B.t.toNat : Nat) : Int) / 5 = B.t := by omega
      rw [e5]
      refine w_iload3 r_35_55 ?_
      refine w_aload0 r_35_56 ?_
      refine w_getA (x := rb) r_35_57 (Lk_107 hL) hr (RB.nz hb) ?_
      refine v_getI r_35_60 (Bk_ hL hb) (hC.f4) ?_
      refine v_ic_ge r_35_63 (by first | exact zF_in _ _ _ | exact zA_in _ _ _ | omega) (by first | exact zF_in _ _ _ | exact zA_in _ _ _ | omega) (fun _ => ?_) (fun q => absurd q (by omega))
      refine w_vret r_35_133 ?_
      exact kk h2 f (fun m a b => w1 m a (by omega)) w2
    · intro n hn ih h2 X5 f hh w1 w2
      have hL := f.lay hL
      have hD := hD.fr f
      have hC := hC.fr f hb (fun a j p q => by simp [pA]; omega)
      have hr := (f.R 107 0).trans hr
      have hU := hU.fr f far
      have hn5 : (n : Int) < 5 * B.t := by omega
      have c0 : zA h2 a0 = zA h a0 := funext fun i => f.A (by simp [pA]; omega)
      have bx := cnt_in (vs s) ((n : Int) % 5) B.w.toNat
      have ai := aft_in (s := s) (t := (n : Int) / 5) (x := (n : Int) % 5) ho
      have first : XW (d + 3) 35 69 [.ref 107, .int (iI j), .int (iI (cnt (vs s) 0 B.w.toNat)), .int (iI ((n : Int) / 5)), .int (iI ((n : Int) % 5)), X5] [] h2 (KV KU) := by
        have tail : ∀ y : Int, y = aft B s ((n : Int) / 5) ((n : Int) % 5) → XW (d + 3) 35 101 [.ref 107, .int (iI j), .int (iI (cnt (vs s) 0 B.w.toNat)), .int (iI ((n : Int) / 5)), .int (iI ((n : Int) % 5)), X5] [.int (iI y)] h2 (KV KU) := by
          intro y ey
          have F2 : Fr (pA [110, a0 + 2]) h2 (sI h2 (a0 + 2) (j * 30 + (n : Int) / 5 * 5 + (n : Int) % 5).toNat (iI y)) := (Fr.refl _ _).sI _ _ _ (by simp [pA])
          have yz : ∀ i, 0 ≤ i → zA (sI h2 (a0 + 2) (j * 30 + (n : Int) / 5 * 5 + (n : Int) % 5).toNat (iI y)) (a0 + 2) i = if i = j * 30 + n then y else zA h2 (a0 + 2) i := fun i a => by
            rw [zA_s (by omega) a (by omega)]
            rw [show j * 30 + (n : Int) / 5 * 5 + (n : Int) % 5 = j * 30 + n by omega]
          have I := ih (sI h2 (a0 + 2) (j * 30 + (n : Int) / 5 * 5 + (n : Int) % 5).toNat (iI y)) (.int (iI y)) (f.trans F2) (fun i a b => by rw [zA_o _ (by omega)]; exact hh i a b) (fun m a b => by
            rw [yz _ (by omega)]
            by_cases e : m = (n : Int)
            · rw [if_pos (by omega), e]; exact ey
            · rw [if_neg (by omega)]; exact w1 m a (by omega)) (fun i a b => by rw [yz i a, if_neg (by omega)]; exact w2 i a b)
          have mv : XW (d + 3) 35 69 [.ref 107, .int (iI j), .int (iI (cnt (vs s) 0 B.w.toNat)), .int (iI ((n : Int) / 5)), .int (iI ((n : Int) % 5 + 1)), .int (iI y)] [] (sI h2 (a0 + 2) (j * 30 + (n : Int) / 5 * 5 + (n : Int) % 5).toNat (iI y)) (KV KU) := by
            by_cases q : (n : Int) % 5 = 4
            · have e1 : ((n + 1 : Nat) : Int) / 5 = (n : Int) / 5 + 1 := by omega
              have i2 := I.2 (by omega) (.int (iI 5))
              rw [e1] at i2
              generalize sI h2 (a0 + 2) (j * 30 + (n : Int) / 5 * 5 + (n : Int) % 5).toNat (iI y) = h3 at *
              rw [q]
              refine w_iload4 r_35_69 ?_
              refine w_iconst (v := iI (5)) r_35_71 rfl ?_
              refine v_ic_ge r_35_72 (by first | exact zF_in _ _ _ | exact zA_in _ _ _ | omega) (by first | exact zF_in _ _ _ | exact zA_in _ _ _ | omega) (fun _ => ?_) (fun q => absurd q (by omega))
              refine w_iinc3 r_35_127 rfl (iI_add _ _) ?_
              refine w_goto r_35_130 ?_
              exact i2
            · have e1 : ((n + 1 : Nat) : Int) / 5 = (n : Int) / 5 := by omega
              have e2 : ((n + 1 : Nat) : Int) % 5 = (n : Int) % 5 + 1 := by omega
              have i1 := I.1 (by omega)
              rw [e1, e2] at i1
              exact i1
          refine w_istore5 r_35_101 rfl ?_
          refine w_aload0 r_35_103 ?_
          refine w_getA (x := a0 + 2) r_35_104 (Lk_107 hL) hD.1.2.2.1 (by omega) ?_
          refine w_iload1 r_35_107 ?_
          refine w_bipush (v := iI (30)) r_35_108 rfl ?_
          refine v_imul r_35_110 ?_
          refine w_iload3 r_35_111 ?_
          refine w_iconst (v := iI (5)) r_35_112 rfl ?_
          refine v_imul r_35_113 ?_
          refine v_iadd r_35_114 ?_
          refine w_iload4 r_35_115 ?_
          refine v_iadd r_35_117 ?_
          refine w_iload5 r_35_118 ?_
          refine v_iast r_35_120 hD.2.1.2.2.1 hD.n2 hD.2.2.1.2.2.1 (by decide) (by omega) ?_
          refine w_iinc4 r_35_121 rfl (iI_add _ _) ?_
          refine w_goto r_35_124 ?_
          exact mv
        have v81 : gI h2 110 ((n : Int) % 5).toNat = iI (cnt (vs s) ((n : Int) % 5) B.w.toNat) := by rw [gI_A, hh _ (by omega) (by omega)]
        by_cases q : 0 < cnt (vs s) ((n : Int) % 5) B.w.toNat
        · obtain ⟨w, hw, wx, we⟩ := nxc_ok (t := (n : Int) / 5) ho q
          have xi := cds_in (s := dnx B s (6 * ((n : Int) / 5) + w)) ho
          have xv := vld_cds (s := dnx B s (6 * ((n : Int) / 5) + w)) ho
          rw [← we] at xi xv
          have v96 : gI h2 a0 (nxc B s ((n : Int) / 5) ((n : Int) % 5)).toNat = iI (nmb B (nxc B s ((n : Int) / 5) ((n : Int) % 5))) := by rw [gI_A, c0, (hc.1 _ xi.1 xi.2 xv).1]
          have ea : aft B s ((n : Int) / 5) ((n : Int) % 5) = nmb B (nxc B s ((n : Int) / 5) ((n : Int) % 5)) := by unfold aft; rw [if_pos q]
          refine w_iload4 r_35_69 ?_
          refine w_iconst (v := iI (5)) r_35_71 rfl ?_
          refine v_ic_ge r_35_72 (by first | exact zF_in _ _ _ | exact zA_in _ _ _ | omega) (by first | exact zF_in _ _ _ | exact zA_in _ _ _ | omega) (fun q => absurd q (by omega)) (fun _ => ?_)
          refine w_aload0 r_35_75 ?_
          refine w_getA (x := 110) r_35_76 (Lk_107 hL) (Lr_107_3 hL) (by decide) ?_
          refine w_iload4 r_35_79 ?_
          refine v_iald r_35_81 (Lk_110 hL) (Lz_110 hL) (by decide) (by omega) v81 ?_
          refine v_if_le r_35_82 (by first | exact zF_in _ _ _ | exact zA_in _ _ _ | omega) (fun q => absurd q (by omega)) (fun _ => ?_)
          refine w_aload0 r_35_85 ?_
          refine w_getA (x := a0) r_35_86 (Lk_107 hL) hD.1.1 hD.z0 ?_
          refine w_aload0 r_35_89 ?_
          refine w_iload3 r_35_90 ?_
          refine w_iload4 r_35_91 ?_
          refine k_36 r_35_93 (Lk_107 hL) (Nat.le_of_ble_eq_true rfl) ?_
          refine c_codeAt (s := s) hL hU hb hr hC ho (by omega) (by omega) hh ?_
          refine v_iald r_35_96 hD.2.1.1 hD.2.2.1.1 (by decide) (by omega) v96 ?_
          refine w_goto r_35_97 ?_
          exact tail _ ea.symm
        · have ea : aft B s ((n : Int) / 5) ((n : Int) % 5) = -1 := by unfold aft; rw [if_neg q]
          refine w_iload4 r_35_69 ?_
          refine w_iconst (v := iI (5)) r_35_71 rfl ?_
          refine v_ic_ge r_35_72 (by first | exact zF_in _ _ _ | exact zA_in _ _ _ | omega) (by first | exact zF_in _ _ _ | exact zA_in _ _ _ | omega) (fun q => absurd q (by omega)) (fun _ => ?_)
          refine w_aload0 r_35_75 ?_
          refine w_getA (x := 110) r_35_76 (Lk_107 hL) (Lr_107_3 hL) (by decide) ?_
          refine w_iload4 r_35_79 ?_
          refine v_iald r_35_81 (Lk_110 hL) (Lz_110 hL) (by decide) (by omega) v81 ?_
          refine v_if_le r_35_82 (by first | exact zF_in _ _ _ | exact zA_in _ _ _ | omega) (fun _ => ?_) (fun q => absurd q (by omega))
          refine w_iconst (v := iI (-1)) r_35_100 rfl ?_
          exact tail _ ea.symm
      refine ⟨fun _ => first, fun q X4 => ?_⟩
      rw [q] at first
      refine w_iload3 r_35_55 ?_
      refine w_aload0 r_35_56 ?_
      refine w_getA (x := rb) r_35_57 (Lk_107 hL) hr (RB.nz hb) ?_
      refine v_getI r_35_60 (Bk_ hL hb) (hC.f4) ?_
      refine v_ic_ge r_35_63 (by first | exact zF_in _ _ _ | exact zA_in _ _ _ | omega) (by first | exact zF_in _ _ _ | exact zA_in _ _ _ | omega) (fun q => absurd q (by omega)) (fun _ => ?_)
      refine w_iconst (v := iI (0)) r_35_66 rfl ?_
      refine w_istore4 r_35_67 rfl ?_
      exact first
  have sb : ∀ n : Nat, n ≤ 4 → 0 ≤ sumTo (fun k => cnt (vs s) (k + 1) B.w.toNat) n ∧ sumTo (fun k => cnt (vs s) (k + 1) B.w.toNat) n ≤ 6 * n := fun n hn => sumTo_in (fun i a b => by have := cnt_in (vs s) (i + 1) B.w.toNat; omega)
  have hl : ∀ n : Nat, n ≤ 4 → ∀ h1, Fr (pA [110, a0 + 2]) h h1 → (∀ i : Int, 1 ≤ i → i ≤ n → zA h1 110 i = cnt (vs s) i B.w.toNat) → zA h1 (a0 + 2) = zA h (a0 + 2) → XW (d + 3) 35 10 [.ref 107, .int (iI j), .int (iI (B.w - sumTo (fun k => cnt (vs s) (k + 1) B.w.toNat) n)), .int (iI ((n : Int) + 1)), .null, .null] [] h1 (KV KU) := by
    refine upto _ ?_ ?_
    · intro h1 f hh hz
      have hL := f.lay hL
      have sa := cnt_sum (v := vs s) (n := B.w.toNat) (fun k _ _ => vs_in s k)
      have e0 : B.w - sumTo (fun k => cnt (vs s) (k + 1) B.w.toNat) 4 = cnt (vs s) 0 B.w.toNat := by
        show B.w - (0 + cnt (vs s) 1 B.w.toNat + cnt (vs s) 2 B.w.toNat + cnt (vs s) 3 B.w.toNat + cnt (vs s) 4 B.w.toNat) = _
        omega
      rw [e0]
      have c0 := cnt_in (vs s) 0 B.w.toNat
      have F2 : Fr (pA [110, a0 + 2]) h1 (sI h1 110 (0 : Int).toNat (iI (cnt (vs s) 0 B.w.toNat))) := (Fr.refl _ _).sI _ _ _ (by simp [pA])
      have go := (xl 0 (by omega) _ .null (f.trans F2) (fun i a b => by
        rw [zA_s (by decide) a (by omega)]
        by_cases e : i = 0
        · rw [if_pos e, e]
        · rw [if_neg e]; exact hh i (by omega) (by omega)) (fun m a b => by omega) (fun i a b => by rw [zA_o _ (by omega), hz])).2 rfl .null
      refine w_iload3 r_35_10 ?_
      refine w_iconst (v := iI (5)) r_35_11 rfl ?_
      refine v_ic_ge r_35_12 (by first | exact zF_in _ _ _ | exact zA_in _ _ _ | omega) (by first | exact zF_in _ _ _ | exact zA_in _ _ _ | omega) (fun _ => ?_) (fun q => absurd q (by omega))
      refine w_aload0 r_35_46 ?_
      refine w_getA (x := 110) r_35_47 (Lk_107 hL) (Lr_107_3 hL) (by decide) ?_
      refine w_iconst (v := iI (0)) r_35_50 rfl ?_
      refine w_iload2 r_35_51 ?_
      refine v_iast r_35_52 (Lk_110 hL) (Ln_110 hL) (Lz_110 hL) (by decide) (by omega) ?_
      refine w_iconst (v := iI (0)) r_35_53 rfl ?_
      refine w_istore3 r_35_54 rfl ?_
      exact go
    · intro n hn ih h1 f hh hz
      have hL := f.lay hL
      have hD := hD.fr f
      have hU := hU.fr f far
      have s1 := sb n (by omega)
      have s2 := sb (n + 1) (by omega)
      have ex : sumTo (fun k => cnt (vs s) (k + 1) B.w.toNat) (n + 1) = sumTo (fun k => cnt (vs s) (k + 1) B.w.toNat) n + cnt (vs s) ((n : Int) + 1) B.w.toNat := rfl
      have cx := cnt_in (vs s) ((n : Int) + 1) B.w.toNat
      have v25 : gI h1 (a0 + 1) j.toNat = iI (cds B s) := by rw [gI_A, f.A (by simp [pA]; omega), cc.2]
      have ch := cds_held (s := s) (i := (n : Int) + 1) ho (by omega)
      have F2 : Fr (pA [110, a0 + 2]) h1 (sI h1 110 ((n : Int) + 1).toNat (iI (cnt (vs s) ((n : Int) + 1) B.w.toNat))) := (Fr.refl _ _).sI _ _ _ (by simp [pA])
      have v37 : gI (sI h1 110 ((n : Int) + 1).toNat (iI (cnt (vs s) ((n : Int) + 1) B.w.toNat))) 110 ((n : Int) + 1).toNat = iI (cnt (vs s) ((n : Int) + 1) B.w.toNat) := by rw [sI_here, if_pos rfl]
      have I := ih _ (f.trans F2) (fun i a b => by
        rw [zA_s (by omega) (by omega) (by omega)]
        by_cases e : i = (n : Int) + 1
        · rw [if_pos e, e]
        · rw [if_neg e]; exact hh i a (by omega)) (by rw [← hz]; exact funext fun i => zA_o _ (by omega))
      rw [ex, show B.w - (sumTo (fun k => cnt (vs s) (k + 1) B.w.toNat) n + cnt (vs s) ((n : Int) + 1) B.w.toNat) = B.w - sumTo (fun k => cnt (vs s) (k + 1) B.w.toNat) n - cnt (vs s) ((n : Int) + 1) B.w.toNat by omega] at I
      refine w_iload3 r_35_10 ?_
      refine w_iconst (v := iI (5)) r_35_11 rfl ?_
      refine v_ic_ge r_35_12 (by first | exact zF_in _ _ _ | exact zA_in _ _ _ | omega) (by first | exact zF_in _ _ _ | exact zA_in _ _ _ | omega) (fun q => absurd q (by omega)) (fun _ => ?_)
      refine w_aload0 r_35_15 ?_
      refine w_getA (x := 110) r_35_16 (Lk_107 hL) (Lr_107_3 hL) (by decide) ?_
      refine w_iload3 r_35_19 ?_
      refine w_aload0 r_35_20 ?_
      refine w_getA (x := a0 + 1) r_35_21 (Lk_107 hL) hD.1.2.1 (by omega) ?_
      refine w_iload1 r_35_24 ?_
      refine v_iald r_35_25 hD.2.1.2.1 hD.2.2.1.2.1 (by decide) (by omega) v25 ?_
      refine w_iload3 r_35_26 ?_
      refine k_34 r_35_27 (Nat.le_of_ble_eq_true rfl) ?_
      refine c_heldAt hL hU ci (by omega) ?_
      rw [ch]
      refine v_iast r_35_30 (Lk_110 hL) (Ln_110 hL) (Lz_110 hL) (by decide) (by omega) ?_
      refine w_iload2 r_35_31 ?_
      refine w_aload0 r_35_32 ?_
      refine w_getA (x := 110) r_35_33 (Lk_107 hL) (Lr_107_3 hL) (by decide) ?_
      refine w_iload3 r_35_36 ?_
      refine v_iald r_35_37 (Lk_110 hL) (Lz_110 hL) (by decide) (by omega) v37 ?_
      refine v_isub r_35_38 ?_
      refine w_istore2 r_35_39 rfl ?_
      refine w_iinc3 r_35_40 rfl (iI_add _ _) ?_
      refine w_goto r_35_43 ?_
      exact I
  refine w_aload0 r_35_0 ?_
  refine w_getA (x := rb) r_35_1 (Lk_107 hL) hr (RB.nz hb) ?_
  refine v_getI r_35_4 (Bk_ hL hb) (hC.f10) ?_
  refine w_istore2 r_35_7 rfl ?_
  refine w_iconst (v := iI (1)) r_35_8 rfl ?_
  refine w_istore3 r_35_9 rfl ?_
  have := hl 0 (by omega) h (Fr.refl _ _) (fun i a b => by omega) rfl
  rw [show B.w - sumTo (fun k => cnt (vs s) (k + 1) B.w.toNat) 0 = B.w by show B.w - 0 = B.w; omega] at this
  exact this
end CN
