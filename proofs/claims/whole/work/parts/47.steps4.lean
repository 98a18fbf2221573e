/-! the class's steps: measure, tolls -/
def tg (B : XB) (dd : Int) (M : XM) (c way g : Int) : Int := if why B dd M c way g = 0 then cst B dd M c way g else -why B dd M c way g
def mny (M : XM) (e : Int) : Int := (chs (M.wt e) 8).length
def chc (M : XM) (e i : Int) : Int := (chs (M.wt e) 8).getD i.toNat 0
/-- what a step costs in a state; below 0 why it can't be; 0 if its ground is open -/
def tlB (B : XB) (dd : Int) (M : XM) (s c way : Int) : Int := if M.nx c way < 0 then -1 else if M.db (M.nx c way) = -1 then tg B dd M c way (M.gr (M.nx c way)) else if dg s (M.db (M.nx c way)) = 0 then 0 else tg B dd M c way (chc M (M.db (M.nx c way)) (dg s (M.db (M.nx c way)) - 1))
abbrev PMs : Nat → Nat → Bool := pF [(91, 6), (91, 7), (91, 8), (91, 9)]
section S4
variable {d : Nat} {h : XH} {K : Int32 → XH → Prop} {KU : XH → Prop} {rb ca : Nat} {B : XB} {dd : Int} {M : XM}
theorem CLr.fr {P : Nat → Nat → Bool} {h' : XH} (f : Fr P h h') (p1 : P 91 2 = false ∧ P 91 3 = false) (p2 : ∀ j, P 92 j = false ∧ P 93 j = false) (hC : CLr h B dd) : CLr h' B dd := by
  obtain ⟨a, b, c, e⟩ := hC
  refine ⟨by rw [f.F p1.1]; exact a, by rw [f.F p1.2]; exact b, fun g g0 g1 => ?_, fun g g0 g1 p p0 p1 => ?_⟩
  · rw [f.A (p2 _).1]; exact c g g0 g1
  · rw [f.A (p2 _).2]; exact e g g0 g1 p p0 p1
theorem CMp.fr {P : Nat → Nat → Bool} {h' : XH} (f : Fr P h h') (hp : ∀ a j, 80 ≤ a → a ≤ 90 → ¬ (a = 80 ∧ j = 4) → P a j = false) (hP : CMp h M) : CMp h' M := by
  have eA : ∀ a, 81 ≤ a → a ≤ 90 → ∀ i, zA h' a i = zA h a i := fun a p q i => f.A (hp _ _ (by omega) q (by omega))
  have eF : ∀ j, j < 4 → zF h' 80 j = zF h 80 j := fun j q => f.F (hp _ _ (by omega) (by omega) (by omega))
  unfold CMp ChOK at hP ⊢
  simp only [eF 0 (by decide), eF 1 (by decide), eF 2 (by decide), eF 3 (by decide), eA 81 (by decide) (by decide), eA 82 (by decide) (by decide), eA 83 (by decide) (by decide), eA 84 (by decide) (by decide), eA 85 (by decide) (by decide), eA 86 (by decide) (by decide), eA 87 (by decide) (by decide), eA 88 (by decide) (by decide), eA 89 (by decide) (by decide), eA 90 (by decide) (by decide)]
  exact hP
theorem CMp.ch {e : Int} (hP : CMp h M) (he : 0 ≤ e ∧ e < M.nd) : zA h 89 e = mny M e ∧ zA h 90 e = sumTo (M.wt e) 8 ∧ ∀ i, 0 ≤ i → i < mny M e → zA h 88 (e * 3 + i) = chc M e i := by
  have c := (hP.2.2.1 e he.1 he.2).2
  have w := hP.2.2.2.1 e he.1 he.2
  have e1 : chs (fun g => zA h 87 (e * 8 + g)) 8 = chs (M.wt e) 8 := chs_congr (fun i a b => w i a (by omega))
  have e2 : sumTo (fun g => zA h 87 (e * 8 + g)) 8 = sumTo (M.wt e) 8 := sumTo_congr (fun i a b => w i a (by omega))
  obtain ⟨c1, c2, c3⟩ := c
  rw [e1] at c1 c3
  rw [e2] at c2
  refine ⟨c1, c2, fun i i0 i1 => ?_⟩
  unfold mny at i1
  have := c3 i.toNat (by omega)
  rw [show ((i.toNat : Nat) : Int) = i by omega] at this
  exact this
theorem CBk.f0 (hC : CBk h rb B) : gI h rb 0 = iI B.g := by rw [gI_F, hC.1.1]
theorem CBk.f4 (hC : CBk h rb B) : gI h rb 4 = iI B.t := by rw [gI_F, hC.1.2.1]
theorem CBk.f10 (hC : CBk h rb B) : gI h rb 10 = iI B.w := by rw [gI_F, hC.1.2.2.1]
theorem CBk.f11 (hC : CBk h rb B) : gI h rb 11 = iI B.wt := by rw [gI_F, hC.1.2.2.2.1]
theorem CBk.f12 (hC : CBk h rb B) : gI h rb 12 = iI B.cl := by rw [gI_F, hC.1.2.2.2.2.1]
theorem CBk.f13 (hC : CBk h rb B) : gI h rb 13 = iI B.tp := by rw [gI_F, hC.1.2.2.2.2.2.1]
theorem CBk.f14 (hC : CBk h rb B) : gI h rb 14 = iI B.dr := by rw [gI_F, hC.1.2.2.2.2.2.2]
theorem c_leastSlip {g n : Int} (hL : Lay h) (hb : rb = 6 ∨ rb = 20) (hr : gR h 91 1 = rb) (hC : CBk h rb B) (ho : B.ok) (hS : CLr h B dd) (hd : 0 ≤ dd ∧ dd < B.w) (hg : 0 ≤ g ∧ g < B.g) (hn : 0 ≤ n ∧ n ≤ 400000) (en : gI h 91 7 = iI n) (kk : K (iI (slp B dd n g)) h) :
    XW d 82 0 [.ref 91, .int (iI g), .null, .null] [] h (KI K) := by
  have o := ho.1
  have e2 : gI h 91 2 = iI dd := by rw [gI_F, hS.1]
  have e3 : gI h 91 3 = iI B.load := by rw [gI_F, hS.2.1]
  have hh := hld_in ho hd
  have eh : B.load * (B.w - dd) = hld B dd := rfl
  rw [slp_slf ho hd hg hn.1] at kk
  have sl := fun p => slf_in B g p
  have dv : 0 < hld B dd → 0 ≤ (n + hld B dd - 1) / hld B dd ∧ (n + hld B dd - 1) / hld B dd ≤ n + hld B dd - 1 := fun q => ⟨Int.ediv_nonneg (by omega) (by omega), Int.ediv_le_self _ (by omega)⟩
  have e94 : 0 < hld B dd → (n + hld B dd - 1) / hld B dd ≤ 150 → gI h 93 (g * 151 + (n + hld B dd - 1) / hld B dd).toNat = iI (slf B g ((n + hld B dd - 1) / hld B dd)) := fun q1 q2 => by
    rw [gI_A, hS.2.2.2 g hg.1 hg.2 _ (dv q1).1 q2]
  refine w_aload0 r_82_0 ?_
  refine v_getI r_82_1 (Lk_91 hL) en ?_
  refine v_if_ne r_82_4 (by first | exact zF_in _ _ _ | exact zA_in _ _ _ | omega) (fun c4 => ?_) (fun c4 => ?_)
  · refine w_aload0 r_82_9 ?_
    refine v_getI r_82_10 (Lk_91 hL) e3 ?_
    refine w_aload0 r_82_13 ?_
    refine w_getA (x := rb) r_82_14 (Lk_91 hL) hr (RB.nz hb) ?_
    refine v_getI r_82_17 (Bk_ hL hb) (hC.f10) ?_
    refine w_aload0 r_82_20 ?_
    refine v_getI r_82_21 (Lk_91 hL) e2 ?_
    refine v_isub r_82_24 ?_
    refine v_imul r_82_25 ?_
    rw [eh] 
    refine w_istore2 r_82_26 rfl ?_
    refine w_iload2 r_82_27 ?_
    refine v_if_gt r_82_28 (by first | exact zF_in _ _ _ | exact zA_in _ _ _ | omega) (fun c28 => ?_) (fun c28 => ?_)
    · refine w_aload0 r_82_33 ?_
      refine v_getI r_82_34 (Lk_91 hL) en ?_
      refine w_iload2 r_82_37 ?_
      refine v_iadd r_82_38 ?_
      refine w_iconst (v := iI (1)) r_82_39 rfl ?_
      refine v_isub r_82_40 ?_
      refine w_iload2 r_82_41 ?_
      refine v_idivN r_82_42 (by first | exact zF_in _ _ _ | exact zA_in _ _ _ | omega) (by omega) ?_
      have dv := dv (by omega)
      refine w_istore3 r_82_43 rfl ?_
      refine w_iload3 r_82_44 ?_
      refine w_sipush (v := iI (150)) r_82_45 rfl ?_
      refine v_ic_le r_82_48 (by first | exact zF_in _ _ _ | exact zA_in _ _ _ | omega) (by first | exact zF_in _ _ _ | exact zA_in _ _ _ | omega) (fun c48 => ?_) (fun c48 => ?_)
      · refine w_aload0 r_82_55 ?_
        refine w_getA (x := 93) r_82_56 (Lk_91 hL) (Lr_91_5 hL) (by decide) ?_
        refine w_iload1 r_82_59 ?_
        refine w_sipush (v := iI (151)) r_82_60 rfl ?_
        refine v_imul r_82_63 ?_
        refine w_iload3 r_82_64 ?_
        refine v_iadd r_82_65 ?_
        refine v_iald r_82_66 (Lk_93 hL) (Lz_93 hL) (by decide) (by omega) (e94 (by omega) (by omega)) ?_
        refine w_iret r_82_67 ?_
        first | (rw [if_neg (by omega), if_neg (by omega), if_pos (by omega)] at kk; exact kk) | (rw [if_neg (by omega), if_neg (by omega), if_neg (by omega)] at kk; exact kk)
      · refine w_iconst (v := iI (-1)) r_82_51 rfl ?_
        refine w_goto r_82_52 ?_
        refine w_iret r_82_67 ?_
        first | (rw [if_neg (by omega), if_neg (by omega), if_pos (by omega)] at kk; exact kk) | (rw [if_neg (by omega), if_neg (by omega), if_neg (by omega)] at kk; exact kk)
    · refine w_iconst (v := iI (-1)) r_82_31 rfl ?_
      refine w_iret r_82_32 ?_
      rw [if_neg (by omega), if_pos (by omega)] at kk
      exact kk
  · refine w_iconst (v := iI (0)) r_82_7 rfl ?_
    refine w_iret r_82_8 ?_
    rw [if_pos (by omega)] at kk
    exact kk
theorem c_cannot {x : Int32} (hL : Lay h) (hk : KU (sI (sI (sI (sI h 91 6 x) 91 7 (iI (-2))) 91 8 (iI (-2))) 91 9 (iI (-2)))) : XW d 81 0 [.ref 91, .int x] [] h (KV KU) := by
  refine w_aload0 r_81_0 ?_
  refine w_iload1 r_81_1 ?_
  refine w_putI r_81_2 (Lk_91 hL) (Ln_91 hL) ?_
  refine w_aload0 r_81_5 ?_
  refine w_bipush (v := iI (-2)) r_81_6 rfl ?_
  refine w_putI r_81_8 (Lk_91 hL) (Ln_91 hL) ?_
  refine w_aload0 r_81_11 ?_
  refine w_bipush (v := iI (-2)) r_81_12 rfl ?_
  refine w_putI r_81_14 (Lk_91 hL) (Ln_91 hL) ?_
  refine w_aload0 r_81_17 ?_
  refine w_bipush (v := iI (-2)) r_81_18 rfl ?_
  refine w_putI r_81_20 (Lk_91 hL) (Ln_91 hL) ?_
  refine w_vret r_81_23 ?_
  exact hk
/-- what measure leaves -/
def Msd (h' : XH) (B : XB) (dd : Int) (M : XM) (c way g : Int) : Prop := zF h' 91 6 = why B dd M c way g ∧ (¬ why B dd M c way g = 0 → zF h' 91 7 = -2 ∧ zF h' 91 8 = -2 ∧ zF h' 91 9 = -2) ∧ (why B dd M c way g = 0 → zF h' 91 7 = ned B dd (rise M c way) g ∧ zF h' 91 8 = slp B dd (ned B dd (rise M c way) g) g ∧ zF h' 91 9 = cst B dd M c way g)
theorem c_measure {G c way g : Int} (hL : Lay h) (hb : rb = 6 ∨ rb = 20) (hr : gR h 91 1 = rb) (hC : CBk h rb B) (ho : B.ok) (hS : CLr h B dd) (hP : CMp h M) (hm : M.ok G) (hd : 0 ≤ dd ∧ dd < B.w) (hg : 0 ≤ g ∧ g < B.g) (hc : 0 ≤ c ∧ c < M.n) (hway : 0 ≤ way ∧ way < 4) (kk : ∀ h', Fr PMs h h' → Msd h' B dd M c way g → KU h') :
    XW (d + 1) 80 0 [.ref 91, .int (iI c), .int (iI way), .int (iI g), .null, .null, .null] [] h (KV KU) := by
  have o := ho.1
  have hn := M.n_in hm
  have hb1 := M.nx_in (way := way) hm hc
  have l := B.load_in ho
  have si := B.sink_in ho hg (x := B.load)
  have rr := fun q => rise_in (way := way) hm hc q
  have er : M.ht (M.nx c way) - M.ht c = rise M c way := rfl
  have e2 : gI h 91 2 = iI dd := by rw [gI_F, hS.1]
  have e3 : gI h 91 3 = iI B.load := by rw [gI_F, hS.2.1]
  have e85 : gI h 85 (c * 4 + way).toNat = iI (M.nx c way) := by rw [gI_A, hP.2.2.2.2.2.2 c way hc.1 hc.2 hway.1 hway.2]
  have e81 : ∀ x, 0 ≤ x ∧ x < M.n → gI h 81 x.toNat = iI (M.ht x) := fun x q => by rw [gI_A, (hP.2.1 x q.1 q.2).1]
  have e93 : gI h 92 g.toNat = iI (B.sink g B.load) := by rw [gI_A, hS.2.2.1 g hg.1 hg.2]
  have sn := slp_in B dd (ned B dd (rise M c way) g) g
  have no : ∀ (h1 : XH) (r : Int), Fr PMs h h1 → why B dd M c way g = r → ¬ r = 0 → KU (sI (sI (sI (sI h1 91 6 (iI r)) 91 7 (iI (-2))) 91 8 (iI (-2))) 91 9 (iI (-2))) := by
    intro h1 r f q q0
    have wi := why_in (B := B) (dd := dd) (M := M) (c := c) (way := way) (g := g)
    refine kk _ ((((f.sI 91 6 _ (by decide)).sI 91 7 _ (by decide)).sI 91 8 _ (by decide)).sI 91 9 _ (by decide)) ⟨?_, fun _ => ⟨zF_of rfl (by decide), zF_of rfl (by decide), zF_of rfl (by decide)⟩, fun z => absurd z (by omega)⟩
    rw [q]; exact zF_of rfl (by unfold R32; omega)
  have F7 : Fr PMs h (sI h 91 7 (iI (ned B dd (rise M c way) g))) := (Fr.refl _ _).sI 91 7 _ (by decide)
  have F8 : Fr PMs h (sI (sI h 91 7 (iI (ned B dd (rise M c way) g))) 91 8 (iI (slp B dd (ned B dd (rise M c way) g) g))) := F7.sI 91 8 _ (by decide)
  have pr : 0 ≤ M.nx c way → -1297701 ≤ B.wt * (rise M c way + B.sink g B.load) ∧ B.wt * (rise M c way + B.sink g B.load) ≤ 1297701 := fun q => (ned_parts ho hd hg (rr q)).1
  have pr2 : 0 ≤ M.nx c way → (0 ≤ dd * B.load ∧ dd * B.load ≤ 2495) ∧ (0 ≤ dd * B.load * B.dr ∧ dd * B.load * B.dr ≤ 247005) := fun q => (ned_parts ho hd hg (rr q)).2
  have en : max 0 (B.wt * (rise M c way + B.sink g B.load) / 10 + dd * B.load * B.dr) = ned B dd (rise M c way) g := rfl
  have ni := fun q => ned_in ho hd hg (rr q)
  unfold why at no
  refine w_aload0 r_80_0 ?_
  refine w_getA (x := 80) r_80_1 (Lk_91 hL) (Lr_91_0 hL) (by decide) ?_
  refine w_getA (x := 85) r_80_4 (Lk_80 hL) (Lr_80_9 hL) (by decide) ?_
  refine w_iload1 r_80_7 ?_
  refine w_iconst (v := iI (4)) r_80_8 rfl ?_
  refine v_imul r_80_9 ?_
  refine w_iload2 r_80_10 ?_
  refine v_iadd r_80_11 ?_
  refine v_iald r_80_12 (Lk_85 hL) (Lz_85 hL) (by decide) (by omega) e85 ?_
  refine w_istore4 r_80_13 rfl ?_
  refine w_iload4 r_80_15 ?_
  refine v_if_ge r_80_17 (by first | exact zF_in _ _ _ | exact zA_in _ _ _ | omega) (fun c17 => ?_) (fun c17 => ?_)
  · refine w_aload0 r_80_26 ?_
    refine w_getA (x := 80) r_80_27 (Lk_91 hL) (Lr_91_0 hL) (by decide) ?_
    refine w_getA (x := 81) r_80_30 (Lk_80 hL) (Lr_80_5 hL) (by decide) ?_
    refine w_iload4 r_80_33 ?_
    refine v_iald r_80_35 (Lk_81 hL) (Lz_81 hL) (by decide) (by omega) (e81 _ (by omega)) ?_
    refine w_aload0 r_80_36 ?_
    refine w_getA (x := 80) r_80_37 (Lk_91 hL) (Lr_91_0 hL) (by decide) ?_
    refine w_getA (x := 81) r_80_40 (Lk_80 hL) (Lr_80_5 hL) (by decide) ?_
    refine w_iload1 r_80_43 ?_
    refine v_iald r_80_44 (Lk_81 hL) (Lz_81 hL) (by decide) (by omega) (e81 _ hc) ?_
    refine v_isub r_80_45 ?_
    have rr := rr (by omega)
    have pr := pr (by omega)
    have pr2 := pr2 (by omega)
    have ni := ni (by omega)
    rw [er] 
    refine w_istore5 r_80_46 rfl ?_
    refine w_iload5 r_80_48 ?_
    refine k_267 r_80_50 (Nat.le_of_ble_eq_true rfl) ?_
    refine c_abs (by unfold R32; omega) ?_
    rw [show (if rise M c way < 0 then -rise M c way else rise M c way) = max (rise M c way) (-rise M c way) by split <;> omega] 
    refine w_aload0 r_80_53 ?_
    refine w_getA (x := rb) r_80_54 (Lk_91 hL) hr (RB.nz hb) ?_
    refine v_getI r_80_57 (Bk_ hL hb) (hC.f13) ?_
    refine v_ic_le r_80_60 (by first | exact zF_in _ _ _ | exact zA_in _ _ _ | omega) (by first | exact zF_in _ _ _ | exact zA_in _ _ _ | omega) (fun c60 => ?_) (fun c60 => ?_)
    · refine w_aload0 r_80_69 ?_
      refine w_getA (x := 92) r_80_70 (Lk_91 hL) (Lr_91_4 hL) (by decide) ?_
      refine w_iload3 r_80_73 ?_
      refine v_iald r_80_74 (Lk_92 hL) (Lz_92 hL) (by decide) (by omega) e93 ?_
      refine w_aload0 r_80_75 ?_
      refine w_getA (x := rb) r_80_76 (Lk_91 hL) hr (RB.nz hb) ?_
      refine v_getI r_80_79 (Bk_ hL hb) (hC.f12) ?_
      refine v_ic_le r_80_82 (by first | exact zF_in _ _ _ | exact zA_in _ _ _ | omega) (by first | exact zF_in _ _ _ | exact zA_in _ _ _ | omega) (fun c82 => ?_) (fun c82 => ?_)
      · refine w_aload0 r_80_91 ?_
        refine w_getA (x := rb) r_80_92 (Lk_91 hL) hr (RB.nz hb) ?_
        refine v_getI r_80_95 (Bk_ hL hb) (hC.f11) ?_
        refine w_iload5 r_80_98 ?_
        refine w_aload0 r_80_100 ?_
        refine w_getA (x := 92) r_80_101 (Lk_91 hL) (Lr_91_4 hL) (by decide) ?_
        refine w_iload3 r_80_104 ?_
        refine v_iald r_80_105 (Lk_92 hL) (Lz_92 hL) (by decide) (by omega) e93 ?_
        refine v_iadd r_80_106 ?_
        refine v_imul r_80_107 ?_
        refine w_bipush (v := iI (10)) r_80_108 rfl ?_
        refine k_266 r_80_110 (Nat.le_of_ble_eq_true rfl) ?_
        refine c_floorDiv (by unfold R32; omega) (by omega) ?_
        refine w_istore6 r_80_113 rfl ?_
        refine w_aload0 r_80_115 ?_
        refine w_iconst (v := iI (0)) r_80_116 rfl ?_
        refine w_iload6 r_80_117 ?_
        refine w_aload0 r_80_119 ?_
        refine v_getI r_80_120 (Lk_91 hL) e2 ?_
        refine w_aload0 r_80_123 ?_
        refine v_getI r_80_124 (Lk_91 hL) e3 ?_
        refine v_imul r_80_127 ?_
        refine w_aload0 r_80_128 ?_
        refine w_getA (x := rb) r_80_129 (Lk_91 hL) hr (RB.nz hb) ?_
        refine v_getI r_80_132 (Bk_ hL hb) (hC.f14) ?_
        refine v_imul r_80_135 ?_
        refine v_iadd r_80_136 ?_
        refine k_268 r_80_137 (Nat.le_of_ble_eq_true rfl) ?_
        refine c_max (by decide) (by unfold R32; omega) ?_
        rw [en] 
        refine w_putI r_80_140 (Lk_91 hL) (Ln_91 hL) ?_
        refine w_aload0 r_80_143 ?_
        refine w_aload0 r_80_144 ?_
        refine w_iload3 r_80_145 ?_
        refine k_82 r_80_146 (Lk_91 hL) (Nat.le_of_ble_eq_true rfl) ?_
        refine c_leastSlip (n := ned B dd (rise M c way) g) hL hb hr (hC.fr F7 hb (fun a j p q => by simp [pF]; omega)) ho (hS.fr F7 (by decide) (fun j => ⟨by simp [pF], by simp [pF]⟩)) hd hg (by omega) rfl ?_
        refine w_putI r_80_149 (Lk_91 hL) (Ln_91 hL) ?_
        refine w_aload0 r_80_152 ?_
        refine v_getI r_80_153 (Lk_91 hL) (show _ = iI (slp B dd (ned B dd (rise M c way) g) g) from rfl) ?_
        refine v_if_lt r_80_156 (by first | exact zF_in _ _ _ | exact zA_in _ _ _ | omega) (fun c156 => ?_) (fun c156 => ?_)
        · refine w_aload0 r_80_168 ?_
          refine w_iconst (v := iI (4)) r_80_169 rfl ?_
          refine k_81 r_80_170 (Lk_91 hL) (Nat.le_of_ble_eq_true rfl) ?_
          refine c_cannot hL ?_
          refine w_vret r_80_173 ?_
          exact no _ 4 F8 (by rw [if_neg (by omega), if_neg (by omega), if_neg (by omega), if_pos (by omega)]) (by decide)
        · refine w_aload0 r_80_159 ?_
          refine v_getI r_80_160 (Lk_91 hL) (show _ = iI (slp B dd (ned B dd (rise M c way) g) g) from rfl) ?_
          refine w_bipush (v := iI (90)) r_80_163 rfl ?_
          refine v_ic_le r_80_165 (by first | exact zF_in _ _ _ | exact zA_in _ _ _ | omega) (by first | exact zF_in _ _ _ | exact zA_in _ _ _ | omega) (fun _ => ?_) (fun q => absurd q (by omega))
          refine w_aload0 r_80_174 ?_
          refine w_iconst (v := iI (0)) r_80_175 rfl ?_
          refine w_putI r_80_176 (Lk_91 hL) (Ln_91 hL) ?_
          refine w_aload0 r_80_179 ?_
          refine w_sipush (v := iI (1000)) r_80_180 rfl ?_
          refine w_aload0 r_80_183 ?_
          refine v_getI r_80_184 (Lk_91 hL) (show _ = iI (ned B dd (rise M c way) g) from rfl) ?_
          refine v_iadd r_80_187 ?_
          refine w_bipush (v := iI (100)) r_80_188 rfl ?_
          refine w_aload0 r_80_190 ?_
          refine v_getI r_80_191 (Lk_91 hL) (show _ = iI (slp B dd (ned B dd (rise M c way) g) g) from rfl) ?_
          refine v_isub r_80_194 ?_
          refine v_idivN r_80_195 (by first | exact zF_in _ _ _ | exact zA_in _ _ _ | omega) (by omega) ?_
          refine w_iconst (v := iI (1)) r_80_196 rfl ?_
          refine v_iadd r_80_197 ?_
          refine w_putI r_80_198 (Lk_91 hL) (Ln_91 hL) ?_
          refine w_vret r_80_201 ?_
          have w0 : why B dd M c way g = 0 := by unfold why; rw [if_neg (by omega), if_neg (by omega), if_neg (by omega), if_neg (by omega)]
          have ci := cst_in (way := way) ho hm hd hg hc (by omega)
          refine kk _ ((F8.sI 91 6 _ (by decide)).sI 91 9 _ (by decide)) ⟨?_, fun z => absurd w0 z, fun _ => ⟨zF_of rfl (by unfold R32; omega), zF_of rfl (by unfold R32; omega), zF_of rfl (by unfold R32; omega)⟩⟩
          rw [w0]; exact zF_of rfl (by decide)
      · refine w_aload0 r_80_85 ?_
        refine w_iconst (v := iI (3)) r_80_86 rfl ?_
        refine k_81 r_80_87 (Lk_91 hL) (Nat.le_of_ble_eq_true rfl) ?_
        refine c_cannot hL ?_
        refine w_vret r_80_90 ?_
        exact no h 3 (Fr.refl _ _) (by rw [if_neg (by omega), if_neg (by omega), if_pos (by omega)]) (by decide)
    · refine w_aload0 r_80_63 ?_
      refine w_iconst (v := iI (2)) r_80_64 rfl ?_
      refine k_81 r_80_65 (Lk_91 hL) (Nat.le_of_ble_eq_true rfl) ?_
      refine c_cannot hL ?_
      refine w_vret r_80_68 ?_
      exact no h 2 (Fr.refl _ _) (by rw [if_neg (by omega), if_pos (by omega)]) (by decide)
  · refine w_aload0 r_80_20 ?_
    refine w_iconst (v := iI (1)) r_80_21 rfl ?_
    refine k_81 r_80_22 (Lk_91 hL) (Nat.le_of_ble_eq_true rfl) ?_
    refine c_cannot hL ?_
    refine w_vret r_80_25 ?_
    exact no h 1 (Fr.refl _ _) (by rw [if_pos (by omega)]) (by decide)
theorem tg_in {G c way g : Int} (ho : B.ok) (hm : M.ok G) (hd : 0 ≤ dd ∧ dd < B.w) (hg : 0 ≤ g ∧ g < B.g) (hc : 0 ≤ c ∧ c < M.n) : -4 ≤ tg B dd M c way g ∧ tg B dd M c way g ≤ 40101 := by
  have wi := why_in (B := B) (dd := dd) (M := M) (c := c) (way := way) (g := g)
  unfold tg
  split
  · rename_i q
    have hb : 0 ≤ M.nx c way := by
      unfold why at q
      by_cases z : M.nx c way < 0
      · rw [if_pos z] at q; omega
      · omega
    have := cst_in (way := way) ho hm hd hg hc hb
    omega
  · omega
theorem c_tollOf {G c way g : Int} (hL : Lay h) (hb : rb = 6 ∨ rb = 20) (hr : gR h 91 1 = rb) (hC : CBk h rb B) (ho : B.ok) (hS : CLr h B dd) (hP : CMp h M) (hm : M.ok G) (hd : 0 ≤ dd ∧ dd < B.w) (hg : 0 ≤ g ∧ g < B.g) (hc : 0 ≤ c ∧ c < M.n) (hway : 0 ≤ way ∧ way < 4) (kk : ∀ h', Fr PMs h h' → K (iI (tg B dd M c way g)) h') :
    XW (d + 2) 85 0 [.ref 91, .int (iI c), .int (iI way), .int (iI g)] [] h (KI K) := by
  have wi := why_in (B := B) (dd := dd) (M := M) (c := c) (way := way) (g := g)
  refine w_aload0 r_85_0 ?_
  refine w_iload1 r_85_1 ?_
  refine w_iload2 r_85_2 ?_
  refine w_iload3 r_85_3 ?_
  refine k_80 r_85_4 (Lk_91 hL) (Nat.le_of_ble_eq_true rfl) ?_
  -- at 7
  refine c_measure hL hb hr hC ho hS hP hm hd hg hc hway (fun h1 f ms => ?_)
  have hL := f.lay hL
  have kk := kk h1 f
  unfold tg at kk
  have e6 : gI h1 91 6 = iI (why B dd M c way g) := by rw [gI_F, ms.1]
  have e9 : why B dd M c way g = 0 → gI h1 91 9 = iI (cst B dd M c way g) := fun q => by rw [gI_F, (ms.2.2 q).2.2]
  refine w_aload0 r_85_7 ?_
  refine v_getI r_85_8 (Lk_91 hL) e6 ?_
  refine v_if_ne r_85_11 (by first | exact zF_in _ _ _ | exact zA_in _ _ _ | omega) (fun c11 => ?_) (fun c11 => ?_)
  · refine w_aload0 r_85_21 ?_
    refine v_getI r_85_22 (Lk_91 hL) e6 ?_
    refine v_ineg r_85_25 ?_
    refine w_iret r_85_26 ?_
    first | (rw [if_pos (by omega)] at kk; exact kk) | (rw [if_neg (by omega)] at kk; exact kk)
  · refine w_aload0 r_85_14 ?_
    refine v_getI r_85_15 (Lk_91 hL) (e9 (by omega)) ?_
    refine w_goto r_85_18 ?_
    refine w_iret r_85_26 ?_
    first | (rw [if_pos (by omega)] at kk; exact kk) | (rw [if_neg (by omega)] at kk; exact kk)
end S4
