/-! calls: regret, the class -/
/-- how long the way in a truth is -/
noncomputable def rln (B : XB) (dd : Int) (M : XM) (go c t : Int) : Nat := Classical.epsilon (fun L => RnL B dd M go false t c L)
/-- what is regretted in a truth -/
noncomputable def rgt (B : XB) (dd : Int) (M : XM) (go c t : Int) : Int := pcst B dd M go false (ful M t) (sta M) c (rln B dd M go c t) - Vl (xp B dd M go false) (ful M t) c
section OPF
variable {d : Nat} {h h' h1 : XH} {K : Int32 → XH → Prop} {KU : XH → Prop} {B : XB} {dd : Int} {M : XM} {rb va zv : Nat} {c go e stp t : Int} {bm : Bool}
theorem RnL.eq {L : Nat} (r : RnL B dd M go false t c L) : rln B dd M go c t = L := by
  have s : RnL B dd M go false t c (rln B dd M go c t) := Classical.epsilon_spec (p := fun L => RnL B dd M go false t c L) ⟨L, r⟩
  generalize rln B dd M go c t = N at s
  have a : ¬ N < L := fun x => r.2.2 N x s.2.1
  have b : ¬ L < N := fun x => s.2.2 L x r.2.1
  omega
theorem trs_fin (ho : B.ok) (hd : 0 ≤ dd ∧ dd < B.w) (hm : M.ok B.g) (hg : 0 ≤ go ∧ go < M.n) (hc : 0 ≤ c ∧ c < M.n) : ∀ (n : Nat) (s r : Int), n ≤ M.nd → 0 ≤ r → StM M s → (∀ e : Int, 0 ≤ e → e < n → M.kn e = -1 → dg s e = 0) → Vl (xp B dd M go bm) s c < 1000000000000000 → Vl (xp B dd M go bm) (trs M n s r) c < 1000000000000000 := by
  have o := hm.1
  have hX := xp_ok (go := go) (bm := bm) ho hm hd hg
  have hV := Vl_sol hX
  intro n
  induction n with
  | zero => intro s r _ _ _ _ v; exact v
  | succ n ih =>
    intro s r hn hr hs h1 v
    have om := mny_in hm (e := n) (by omega)
    unfold trs
    by_cases q : M.kn n = -1
    · rw [if_pos q]
      have z := h1 n (by omega) (by omega) q
      have rm := Int.emod_nonneg r (b := mny M n) (by omega)
      have rl := Int.emod_lt_of_pos r (b := mny M n) (by omega)
      have t := tel_in (s := s) (e := n) (k := r % mny M n) hs.1 (by omega) z (by omega)
      have e : s + (r % mny M n + 1) * 4 ^ ((n : Int)).toNat = tel s n (r % mny M n) := rfl
      rw [e]
      have inf := Sol.info hX hV (s := s) (e := n) hs ⟨by omega, by have : (xp B dd M go bm).nd = M.nd := rfl; omega⟩ z hc.1 hc.2 v
      refine ih _ _ (by omega) (Int.ediv_nonneg hr (by omega)) ⟨by have := hs.1; omega, fun j a b => ?_⟩ (fun j a b c => ?_) (inf.1 (r % mny M n) rm rl)
      · rw [t.2.2 j a b]
        by_cases z2 : j = n
        · rw [if_pos z2, z2]; exact ⟨fun _ => by omega, fun _ => by omega⟩
        · rw [if_neg z2]; exact hs.2 j a b
      · rw [t.2.2 j a (by omega), if_neg (by omega)]; exact h1 j a (by omega) c
    · rw [if_neg q]
      exact ih s r (by omega) hr hs (fun j a b c => h1 j a (by omega) c) v
theorem ful_fin (ho : B.ok) (hd : 0 ≤ dd ∧ dd < B.w) (hm : M.ok B.g) (hg : 0 ≤ go ∧ go < M.n) (hc : 0 ≤ c ∧ c < M.n) (ht : 0 ≤ t) (hv : Vl (xp B dd M go bm) (sta M) c < 1000000000000000) : Vl (xp B dd M go bm) (ful M t) c < 1000000000000000 := by
  have o := hm.1
  refine trs_fin ho hd hm hg hc M.nd.toNat (sta M) t (by omega) ht (sta_st hm) (fun e a b c => ?_) hv
  rw [(sta_in hm).2 e a (by omega), if_pos (by omega)]
  have k := kix_in hm (e := e) (by omega)
  omega
theorem rgt_in (ho : B.ok) (hd : 0 ≤ dd ∧ dd < B.w) (hm : M.ok B.g) (hg : 0 ≤ go ∧ go < M.n) (hc : 0 ≤ c ∧ c < M.n) (ht : 0 ≤ t) (hv : Vl (xp B dd M go false) (sta M) c < 1000000000000000) : (0 ≤ Vl (xp B dd M go false) (ful M t) c ∧ Vl (xp B dd M go false) (ful M t) c ≤ 24060600) ∧ (∀ L : Nat, L ≤ 600 → 0 ≤ pcst B dd M go false (ful M t) (sta M) c L ∧ pcst B dd M go false (ful M t) (sta M) c L ≤ 24060600) ∧ ∀ L : Nat, RnL B dd M go false t c L → rgt B dd M go c t = pcst B dd M go false (ful M t) (sta M) c L - Vl (xp B dd M go false) (ful M t) c := by
  have hX := xp_ok (go := go) (bm := false) ho hm hd hg
  have hV := Vl_sol hX
  have hn := M.n_in hm
  have ff := ful_fin (bm := false) ho hd hm hg hc ht hv
  have fi := (ful_in hm ht).1
  have b := (hV (ful M t) fi).2 c hc.1 (by show c < ((M.n.toNat : Nat) : Int); omega)
  have sm := (Sol.small hX hV fi hc.1 hc.2 ff).2 rfl
  have cf := con_ful hm ht
  refine ⟨⟨b.1, sm⟩, fun L l => ?_, fun L r => ?_⟩
  · have := pcst_in (bm := false) ho hd hm hg (sta_st hm) cf.1 cf.2 hc hv L
    omega
  · unfold rgt; rw [r.eq]
theorem rgt_max (ho : B.ok) (hd : 0 ≤ dd ∧ dd < B.w) (hm : M.ok B.g) (hg : 0 ≤ go ∧ go < M.n) (hc : 0 ≤ c ∧ c < M.n) (hv : Vl (xp B dd M go false) (sta M) c < 1000000000000000) (n : Nat) : 0 ≤ maxTo (rgt B dd M go c) n ∧ maxTo (rgt B dd M go c) n ≤ 24060600 := by
  refine maxTo_in (by decide) (fun i i0 _ => ?_)
  have r := rgt_in ho hd hm hg hc i0 hv
  have cf := con_ful hm i0
  obtain ⟨L, l1, l2, l3⟩ := pos_end (bm := false) ho hd hm hg (sta_st hm) cf.1 cf.2 hc hv
  rw [r.2.2 L ⟨l1, l2, l3⟩]
  have := r.2.1 L l1
  omega
abbrev XRg : Nat → Nat → Bool := pO (pA [117]) (pF [(96, 3)])
theorem fo_rg {a j : Nat} (p : pO (PWs 96 va) XRg a j = false) : PFo 96 va 117 a j = false := by
  simp only [pO, Bool.or_eq_false_iff] at p ⊢
  obtain ⟨⟨p1, p2⟩, p3, p4⟩ := p
  refine ⟨?_, ?_⟩
  · simp [pA] at p1 p3 ⊢; omega
  · simp [pF] at p2 p4 ⊢; omega
theorem c_regret (hc : R32 c) (hgo : R32 go) (hL : Lay h) (hX : CX h rb B dd M) (hW : 0 < M.n → CWy h 96 va zv B dd M false stp)
    (k1 : ¬ ((0 ≤ c ∧ c < M.n) ∧ 0 ≤ go ∧ go < M.n) → K (iI (-1)) (sI h 1 18 (iI 1)))
    (k6 : (0 ≤ c ∧ c < M.n) ∧ 0 ≤ go ∧ go < M.n → ¬ Vl (xp B dd M go false) (sta M) c < 1000000000000000 → ∀ h' va' zv' stp', Wed q0 h h' 96 va zv va' zv' B dd M false stp stp' → K (iI (-1)) (sI h' 1 18 (iI 6)))
    (kt : (0 ≤ c ∧ c < M.n) ∧ 0 ≤ go ∧ go < M.n → Vl (xp B dd M go false) (sta M) c < 1000000000000000 → ∀ h' va' zv' stp', Wed XRg h h' 96 va zv va' zv' B dd M false stp stp' → K (iI (maxTo (rgt B dd M go c) (trm M).toNat)) (sI h' 1 18 (iI 0))) :
    XW (d + 23) 142 0 [.ref 1, .int (iI c), .int (iI go), .null, .null, .null, .null, .null, .null, .null, .null] [] h (KI K) := by
  obtain ⟨hB, hC, hP, hv⟩ := hX
  have hb := hB.1
  have e2 := hP.1.2.2.1
  have main : (0 ≤ c ∧ c < M.n) ∧ 0 ≤ go ∧ go < M.n → XW (d + 23) 142 15 [.ref 1, .int (iI c), .int (iI go), .null, .null, .null, .null, .null, .null, .null, .null] [] h (KI K) := by
    intro cd
    obtain ⟨ho, hm, hd, hS⟩ := hv (by omega)
    obtain ⟨hE, hI, hst, hN⟩ := hW (by omega)
    have kt := kt cd
    have k6 := k6 cd
    have vi := vl_in (bm := false) ho hm hd cd.2 cd.1
    have cv := cvv_lt vi.1
    have tr := trm_in hm
    have fin : ∀ h1 va' zv' stp', Aim h h1 96 va zv va' zv' B dd M go false stp stp' → XW (d + 23) 142 31 [.ref 1, .int (iI c), .int (iI go), .int (iI (sta M)), .null, .null, .null, .null, .null, .null, .null] [] h1 (KI K) := by
      intro h1 va' zv' stp' A
      have hL1 := A.2.2.2.2.2.2.2
      have tail : ∀ h2, Fr (PWs 96 va') h1 h2 → Aimed h2 96 va' zv' B dd M go false stp' → XW (d + 23) 142 40 [.ref 1, .int (iI c), .int (iI go), .int (iI (sta M)), .null, .null, .null, .null, .null, .null, .null] [.long (iL (cvv (Vl (xp B dd M go false) (sta M) c)))] h2 (KI K) := by
        intro h2 f2 O2
        have hL2 := f2.lay hL1
        by_cases q : Vl (xp B dd M go false) (sta M) c < 1000000000000000
        · rw [cv.2.2 q]
          have kt := kt q
          have key : ∀ n : Nat, n ≤ (trm M).toNat → ∀ (g : XH) (X8 X9 X10 : Value), Fr (pO (PWs 96 va') XRg) h1 g → Aimed g 96 va' zv' B dd M go false stp' → XW (d + 23) 142 69 [.ref 1, .int (iI c), .int (iI go), .int (iI (sta M)), .long (iL (maxTo (rgt B dd M go c) n)), .null, .int (iI (trm M)), .int (iI n), X8, X9, X10] [] g (KI K) := by
            refine upto _ ?_ ?_
            · intro g X8 X9 X10 fg Og
              have hL := fg.lay hL1
              have R := kt g va' zv' stp' (Wed.of (Or.inl rfl) (by assumption) hm hI.1.1.2.2.2.2.2.2 A fg Og ⟨hI.1.2.2.2.1, hst⟩ cd.2 ⟨rfl, rfl⟩)
              refine w_iload7 r_142_69 ?_
              refine w_iload6 r_142_71 ?_
              refine v_ic_ge r_142_73 (by first | exact zF_in _ _ _ | exact zA_in _ _ _ | omega) (by first | exact zF_in _ _ _ | exact zA_in _ _ _ | omega) (fun _ => ?_) (fun q => absurd q (by omega))
              refine w_aload0 r_142_131 ?_
              refine w_lload4 r_142_132 ?_
              refine v_l2i r_142_134 ?_
              refine k_156 r_142_135 (Lk_1 hL) (Nat.le_of_ble_eq_true rfl) ?_
              refine c_answer hL ?_
              refine w_iret r_142_138 ?_
              exact R
            · intro n hn ih g X8 X9 X10 fg Og
              have hL := fg.lay hL1
              have n0 : (0 : Int) ≤ n := by omega
              have cf := con_ful hm n0
              have rg := rgt_in ho hd hm cd.2 cd.1 n0 q
              have mx := rgt_max ho hd hm cd.2 cd.1 q n
              have fs := (ful_in hm n0).1
              have cw := (cvv_lt (x := Vl (xp B dd M go false) (ful M n) c) ⟨rg.1.1, by omega⟩).2.2 (by omega)
              have fin3 : ∀ g2 (L : Nat) (X10 : Value), RnL B dd M go false n c L → Fr (pO (PWs 96 va') XRg) h1 g2 → Aimed g2 96 va' zv' B dd M go false stp' → XW (d + 23) 142 119 [.ref 1, .int (iI c), .int (iI go), .int (iI (sta M)), .long (iL (maxTo (rgt B dd M go c) n)), .null, .int (iI (trm M)), .int (iI n), .int (iI (ful M n)), .long (iL (pcst B dd M go false (ful M n) (sta M) c L)), .null] [.long (iL (Vl (xp B dd M go false) (ful M n) c)), .long (iL (pcst B dd M go false (ful M n) (sta M) c L)), .long (iL (maxTo (rgt B dd M go c) n))] g2 (KI K) := by
                intro g2 L _ rl f2 O2
                have hL := f2.lay hL1
                have pb := rg.2.1 L rl.1
                have J := ih g2 (.int (iI (ful M n))) (.long (iL (pcst B dd M go false (ful M n) (sta M) c L))) .null f2 O2
                rw [show maxTo (rgt B dd M go c) (n + 1) = max (maxTo (rgt B dd M go c) n) (rgt B dd M go c n) from rfl, rg.2.2 L rl, Int.natCast_add, Int.natCast_one] at J
                generalize maxTo (rgt B dd M go c) n = mm at *
                generalize pcst B dd M go false (ful M n) (sta M) c L = pp at *
                generalize Vl (xp B dd M go false) (ful M n) c = vv at *
                refine v_lsub r_142_119 ?_
                refine k_269 r_142_120 (Nat.le_of_ble_eq_true rfl) ?_
                refine c_maxL (by omega) (by omega) ?_
                refine w_lstore4 r_142_123 rfl ?_
                refine w_iinc7 r_142_125 rfl (iI_add _ _) ?_
                refine w_goto r_142_128 ?_
                exact J
              have J8 : ∀ g1 (L : Nat), RnL B dd M go false n c L → Fr (PFo 96 va' 117) g g1 → Aimed g1 96 va' zv' B dd M go false stp' → XW (d + 23) 142 102 [.ref 1, .int (iI c), .int (iI go), .int (iI (sta M)), .long (iL (maxTo (rgt B dd M go c) n)), .null, .int (iI (trm M)), .int (iI n), .int (iI (ful M n)), X9, X10] [.int (iI (pcst B dd M go false (ful M n) (sta M) c L))] g1 (KI K) := by
                intro g1 L rl f1 O1
                have hL := f1.lay hL
                have pb := rg.2.1 L rl.1
                have F1 : Fr (pO (PWs 96 va') XRg) h1 g1 := fg.trans (f1.mono (fun a j p => fo_rg p))
                refine v_i2l r_142_102 (by first | exact zF_in _ _ _ | exact zA_in _ _ _ | omega) ?_
                refine w_lstore9 r_142_103 rfl ?_
                refine w_lload4 r_142_105 ?_
                refine w_lload9 r_142_107 ?_
                refine w_aload0 r_142_109 ?_
                refine w_getA (x := 96) r_142_110 (Lk_1 hL) (Lr_1_11 hL) (by decide) ?_
                refine w_iload8 r_142_113 ?_
                refine w_iload1 r_142_115 ?_
                refine k_103 r_142_116 (Lk_96 hL) (Nat.le_of_ble_eq_true rfl) ?_
                refine c_valueFrom (d := d) (Or.inl rfl) ho hd hm cd.2 hL O1 fs cd.1 (fun g2 f2 O2 => ?_)
                rw [cw]
                exact fin3 g2 L .null rl (F1.trans (f2.mono (fun a j p => by simp only [pO, Bool.or_eq_false_iff] at p ⊢; exact p.1))) O2
              refine w_iload7 r_142_69 ?_
              refine w_iload6 r_142_71 ?_
              refine v_ic_ge r_142_73 (by first | exact zF_in _ _ _ | exact zA_in _ _ _ | omega) (by first | exact zF_in _ _ _ | exact zA_in _ _ _ | omega) (fun q => absurd q (by omega)) (fun _ => ?_)
              refine w_aload0 r_142_76 ?_
              refine w_getA (x := 80) r_142_77 (Lk_1 hL) (Lr_1_9 hL) (by decide) ?_
              refine w_iload7 r_142_80 ?_
              refine k_59 r_142_82 (Lk_80 hL) (Nat.le_of_ble_eq_true rfl) ?_
              refine c_stateOfTruth (d := d + 19) hL Og.1 hm (by omega) ?_
              refine w_istore8 r_142_85 rfl ?_
              refine w_aload0 r_142_87 ?_
              refine w_getA (x := 96) r_142_88 (Lk_1 hL) (Lr_1_11 hL) (by decide) ?_
              refine w_iload1 r_142_91 ?_
              refine w_iload3 r_142_92 ?_
              refine w_iload8 r_142_93 ?_
              refine w_aload0 r_142_95 ?_
              refine w_getA (x := 117) r_142_96 (Lk_1 hL) (Lr_1_16 hL) (by decide) ?_
              refine k_114 r_142_99 (Lk_96 hL) (Nat.le_of_ble_eq_true rfl) ?_
              refine c_follow (d := d) (ta := 117) (zt := 0) (Or.inl rfl) ho hd hm cd.2 hL Og (sta_st hm) cf.1 cf.2 cd.1 q ⟨Lk_117 hL, Lz_117 hL, Ln_117 hL⟩ (Or.inr ⟨rfl, rfl⟩) (fun g1 L l6 pl pn f1 O1 _ => ?_)
              exact J8 g1 L ⟨l6, pl, pn⟩ f1 O1
          have hL := hL2
          have J := key 0 (by omega) h2 .null .null .null (f2.mono (fun a j p => by simp only [pO, Bool.or_eq_false_iff] at p ⊢; exact p.1)) O2
          refine w_ldc2 (v := iL (1152921504606846976)) r_142_40 rfl ?_
          refine v_lcmp r_142_43 (by first | exact zF_in _ _ _ | exact zA_in _ _ _ | omega) (by first | exact zF_in _ _ _ | exact zA_in _ _ _ | omega) ?_
          refine v_if_lt r_142_44 (by split <;> (try split) <;> omega) (fun _ => ?_) (fun q => absurd q (by (split <;> (try split) <;> omega)))
          refine w_lconst (v := iL 0) r_142_54 rfl ?_
          refine w_lstore4 r_142_55 rfl ?_
          refine w_aload0 r_142_57 ?_
          refine w_getA (x := 80) r_142_58 (Lk_1 hL) (Lr_1_9 hL) (by decide) ?_
          refine k_55 r_142_61 (Lk_80 hL) (Nat.le_of_ble_eq_true rfl) ?_
          refine c_truthM hL O2.1 hm ?_
          refine w_istore6 r_142_64 rfl ?_
          refine w_iconst (v := iI (0)) r_142_66 rfl ?_
          refine w_istore7 r_142_67 rfl ?_
          exact J
        · have R := k6 q h2 va' zv' stp' (Wed.of (Or.inl rfl) hL hm hI.1.1.2.2.2.2.2.2 A (pq0 f2) O2 ⟨hI.1.2.2.2.1, hst⟩ cd.2 ⟨rfl, rfl⟩)
          have hL := hL2
          have : ¬ cvv (Vl (xp B dd M go false) (sta M) c) < 1152921504606846976 := fun x => q (cv.2.1.1 x)
          refine w_ldc2 (v := iL (1152921504606846976)) r_142_40 rfl ?_
          refine v_lcmp r_142_43 (by first | exact zF_in _ _ _ | exact zA_in _ _ _ | omega) (by first | exact zF_in _ _ _ | exact zA_in _ _ _ | omega) ?_
          refine v_if_lt r_142_44 (by split <;> (try split) <;> omega) (fun q => absurd q (by (split <;> (try split) <;> omega))) (fun _ => ?_)
          refine w_aload0 r_142_47 ?_
          refine w_bipush (v := iI (6)) r_142_48 rfl ?_
          refine k_157 r_142_50 (Lk_1 hL) (Nat.le_of_ble_eq_true rfl) ?_
          refine c_refuse hL ?_
          refine w_iret r_142_53 ?_
          exact R
      have hL := hL1
      refine w_aload0 r_142_31 ?_
      refine w_getA (x := 96) r_142_32 (Lk_1 hL) (Lr_1_11 hL) (by decide) ?_
      refine w_iload3 r_142_35 ?_
      refine w_iload1 r_142_36 ?_
      refine k_103 r_142_37 (Lk_96 hL) (Nat.le_of_ble_eq_true rfl) ?_
      refine c_valueFrom (d := d) (Or.inl rfl) ho hd hm cd.2 hL A.2.1 (sta_st hm) cd.1 (fun h2 f2 O2 => ?_)
      exact tail h2 f2 O2
    refine w_aload0 r_142_15 ?_
    refine w_getA (x := 80) r_142_16 (Lk_1 hL) (Lr_1_9 hL) (by decide) ?_
    refine k_56 r_142_19 (Lk_80 hL) (Nat.le_of_ble_eq_true rfl) ?_
    refine c_startState (d := d + 20) hL hP hm ?_
    refine w_istore3 r_142_22 rfl ?_
    refine w_aload0 r_142_23 ?_
    refine w_getA (x := 96) r_142_24 (Lk_1 hL) (Lr_1_11 hL) (by decide) ?_
    refine w_iload2 r_142_27 ?_
    refine k_102 r_142_28 (Lk_96 hL) (Nat.le_of_ble_eq_true rfl) ?_
    refine c_aim (d := d + 17) (Or.inl rfl) hL hb hB.2.2.2.1 hC ho hS hP hm hd cd.2 hE hI hst hN (fun h1 va' zv' stp' A => ?_)
    exact fin h1 va' zv' stp' A
  refine w_aload0 r_142_0 ?_
  refine w_iload1 r_142_1 ?_
  refine w_iload2 r_142_2 ?_
  refine k_154 r_142_3 (Lk_1 hL) (Nat.le_of_ble_eq_true rfl) ?_
  refine c_areCells (by omega) (by omega) hL (fun c3 => ?_) (fun c3 => ?_)
  · refine v_if_ne r_142_6 (by first | exact zF_in _ _ _ | exact zA_in _ _ _ | omega) (fun _ => ?_) (fun q => absurd q (by omega))
    exact main (by omega)
  · refine v_if_ne r_142_6 (by first | exact zF_in _ _ _ | exact zA_in _ _ _ | omega) (fun q => absurd q (by omega)) (fun _ => ?_)
    refine w_aload0 r_142_9 ?_
    refine w_iconst (v := iI (1)) r_142_10 rfl ?_
    refine k_157 r_142_11 (Lk_1 hL) (Nat.le_of_ble_eq_true rfl) ?_
    refine c_refuse hL ?_
    refine w_iret r_142_14 ?_
    exact k1 (by omega)
end OPF
