/-! plans are gone, in a truth -/
/-- size, and the orders: kind (0..3 a way, 4 if, 5 leap), number, ground, target -/
abbrev XL : Type := Int × (Int → Int) × (Int → Int) × (Int → Int) × (Int → Int)
def XL.z (p : XL) : Int := p.1
def XL.kd (p : XL) : Int → Int := p.2.1
def XL.nm (p : XL) : Int → Int := p.2.2.1
def XL.gd (p : XL) : Int → Int := p.2.2.2.1
def XL.tg (p : XL) : Int → Int := p.2.2.2.2
def XL.ok (p : XL) (nd : Int) : Prop := (0 ≤ p.z ∧ p.z ≤ 80) ∧ ∀ i, 0 ≤ i → i < p.z → (0 ≤ p.kd i ∧ p.kd i ≤ 5) ∧ (4 ≤ p.kd i → i < p.tg i ∧ p.tg i ≤ p.z) ∧ (p.kd i ≤ 3 → 1 ≤ p.nm i ∧ p.nm i ≤ 9) ∧ (p.kd i = 4 → (0 ≤ p.nm i ∧ p.nm i < nd) ∧ 0 ≤ p.gd i ∧ p.gd i < 8)
/-- cell, state, steps made, cost -/
abbrev XQ : Type := Int × Int × Int × Int
def goN (B : XB) (dd : Int) (M : XM) (f w : Int) : Nat → XQ → Int × XQ
  | 0, q => (0, q)
  | n + 1, q => if M.nx q.1 w < 0 then (1, q) else if tlB B dd M q.2.1 q.1 w ≤ 0 then (-tlB B dd M q.2.1 q.1 w, q) else goN B dd M f w n (M.nx q.1 w, seeS M q.2.1 (M.nx q.1 w) f, q.2.2.1 + 1, q.2.2.2 + tlB B dd M q.2.1 q.1 w)
def acN (B : XB) (dd : Int) (M : XM) (f : Int) (p : XL) (to : Int) : Nat → Int → XQ → Int × XQ
  | 0, _, q => (0, q)
  | n + 1, k, q => if p.z ≤ k then (if q.1 = to then 0 else 6, q) else if p.kd k = 5 then acN B dd M f p to n (p.tg k) q else if p.kd k = 4 then (if dg q.2.1 (p.nm k) = 0 then (5, q) else acN B dd M f p to n (if chc M (p.nm k) (dg q.2.1 (p.nm k) - 1) = p.gd k then k + 1 else p.tg k) q) else if (goN B dd M f (p.kd k) (p.nm k).toNat q).1 = 0 then acN B dd M f p to n (k + 1) (goN B dd M f (p.kd k) (p.nm k).toNat q).2 else goN B dd M f (p.kd k) (p.nm k).toNat q
/-- a place of a plan's run -/
def OnJ (B : XB) (dd : Int) (M : XM) (f : Int) (q : XQ) : Prop := StM M q.2.1 ∧ Con M q.2.1 f ∧ (0 ≤ q.1 ∧ q.1 < M.n) ∧ (xp B dd M 0 false).nw q.2.1 q.1 = -1 ∧ (0 ≤ q.2.2.2 ∧ q.2.2.2 ≤ 40101 * q.2.2.1)
section JU
variable {d : Nat} {h : XH} {K : Int32 → XH → Prop} {KU : XH → Prop} {M : XM} {B : XB} {dd f : Int} {p : XL}
theorem tl_ful {s c w : Int} (ho : B.ok) (hm : M.ok B.g) (hd : 0 ≤ dd ∧ dd < B.w) (hs : StM M s) (hcn : Con M s f) (hc : 0 ≤ c ∧ c < M.n) (hn : (xp B dd M 0 false).nw s c = -1) (hw : 0 ≤ w ∧ w < 4) : tlB B dd M s c w = tlB B dd M f c w := by
  have o := hm.1
  have n1 := M.n_in hm
  have hX := xp_ok (go := 0) (bm := false) ho hm hd (by omega)
  refine hX.2.2.2.2 s f c w hc.1 hc.2 hw.1 hw.2 (fun e a b q => ?_)
  rcases (xp B dd M 0 false).nw_spec s c (by have : (xp B dd M 0 false).nd = M.nd := rfl; omega) with ⟨_, z⟩ | ⟨z, _⟩
  · exact (hcn e a b).resolve_left (z e a b q)
  · omega
theorem OnJ.step {w : Int} {q : XQ} (ho : B.ok) (hm : M.ok B.g) (hd : 0 ≤ dd ∧ dd < B.w) (hf : Tru M f) (hq : OnJ B dd M f q) (ht : 0 < tlB B dd M q.2.1 q.1 w) : OnJ B dd M f (M.nx q.1 w, seeS M q.2.1 (M.nx q.1 w) f, q.2.2.1 + 1, q.2.2.2 + tlB B dd M q.2.1 q.1 w) := by
  obtain ⟨a, b, c, e, g⟩ := hq
  have t := tlB_in (s := q.2.1) ho hm hd c ht
  have k := seeS_in (c := M.nx q.1 w) hm a hf
  refine ⟨k.1, seeS_con hm a hf b, t.2, seeS_nw hm a hf, ?_⟩
  show 0 ≤ q.2.2.2 + tlB B dd M q.2.1 q.1 w ∧ q.2.2.2 + tlB B dd M q.2.1 q.1 w ≤ 40101 * (q.2.2.1 + 1)
  omega
theorem goN_on {w : Int} (ho : B.ok) (hm : M.ok B.g) (hd : 0 ≤ dd ∧ dd < B.w) (hf : Tru M f) : ∀ (n : Nat) (q : XQ), OnJ B dd M f q → OnJ B dd M f (goN B dd M f w n q).2 ∧ (0 ≤ (goN B dd M f w n q).1 ∧ (goN B dd M f w n q).1 ≤ 4) ∧ (q.2.2.1 ≤ (goN B dd M f w n q).2.2.2.1 ∧ (goN B dd M f w n q).2.2.2.1 ≤ q.2.2.1 + n) := by
  intro n
  induction n with
  | zero => intro q hq; exact ⟨hq, by show (0 : Int) ≤ 0 ∧ (0 : Int) ≤ 4; decide, by show q.2.2.1 ≤ q.2.2.1 ∧ q.2.2.1 ≤ q.2.2.1 + ((0 : Nat) : Int); omega⟩
  | succ n ih =>
    intro q hq
    unfold goN
    by_cases z1 : M.nx q.1 w < 0
    · rw [if_pos z1]; exact ⟨hq, by show (0 : Int) ≤ 1 ∧ (1 : Int) ≤ 4; decide, by dsimp only; omega⟩
    · rw [if_neg z1]
      by_cases z2 : tlB B dd M q.2.1 q.1 w ≤ 0
      · rw [if_pos z2]
        have tlo : -4 ≤ tlB B dd M q.2.1 q.1 w := by
          have hc := hq.2.2.1
          have hb1 := M.nx_in (way := w) hm hc
          have oc := hm.2.1 (M.nx q.1 w) (by omega) (by omega)
          unfold tlB
          rw [if_neg z1]
          split
          · exact (tg_in ho hm hd ⟨oc.2.2.1, oc.2.2.2.1⟩ hc).1
          · split
            · decide
            · exact (tg_in ho hm hd (chc_any hm (by omega)) hc).1
        exact ⟨hq, by dsimp only; omega, by dsimp only; omega⟩
      · rw [if_neg z2]
        have i := ih _ (hq.step (w := w) ho hm hd hf (by omega))
        refine ⟨i.1, i.2.1, ?_⟩
        have := i.2.2
        dsimp only at this
        omega
abbrev PJu : Nat → Nat → Bool := pF [(106, 5), (106, 6), (106, 8), (106, 9)]
def JF (h : XH) (f : Int) (q : XQ) : Prop := gI h 106 5 = iI q.1 ∧ gI h 106 6 = iI q.2.1 ∧ gI h 106 7 = iI f ∧ gI h 106 8 = iI q.2.2.1 ∧ gI h 106 9 = iI q.2.2.2
theorem CP_fr {P : Nat → Nat → Bool} {h' : XH} (g : Fr P h h') (p0 : ∀ a j, 80 ≤ a → a ≤ 95 → ¬ a = 91 → P a j = false) (hP : CMp h M) (hE : Prep h B dd M) : CMp h' M ∧ Prep h' B dd M := by
  refine ⟨hP.fr g (fun a j p q _ => p0 a j p (by omega) (by omega)), fun c w a b a2 b2 => ?_⟩
  have z := hE c w a b a2 b2
  unfold PE at z ⊢
  have e95 : ∀ i, zA h' 94 i = zA h 94 i := fun i => g.A (p0 _ _ (by decide) (by decide) (by decide))
  have e96 : ∀ i, zA h' 95 i = zA h 95 i := fun i => g.A (p0 _ _ (by decide) (by decide) (by decide))
  simp only [e95, e96]
  exact z
theorem c_moveBy {w n : Int} {q : XQ} (hL : Lay h) (ho : B.ok) (hd : 0 ≤ dd ∧ dd < B.w) (hm : M.ok B.g) (hP : CMp h M) (hE : Prep h B dd M) (hf : Tru M f) (hw : 0 ≤ w ∧ w < 4) (hn : 0 ≤ n ∧ n ≤ 9) (hq : OnJ B dd M f q) (hF : JF h f q) (kk : ∀ h', Fr PJu h h' → JF h' f (goN B dd M f w n.toNat q).2 → K (iI (goN B dd M f w n.toNat q).1) h') :
    XW (d + 2) 42 0 [.ref 106, .int (iI w), .int (iI n), .null, .null, .null] [] h (KI K) := by
  have o := hm.1
  have nn := M.n_in hm
  have key : ∀ (k : Nat) (i : Int), 0 ≤ i → i + k = n → ∀ (h1 : XH) (q : XQ) (X4 X5 : Value), OnJ B dd M f q → JF h1 f q → Fr PJu h h1 → (∀ h', Fr PJu h h' → JF h' f (goN B dd M f w k q).2 → K (iI (goN B dd M f w k q).1) h') → XW (d + 2) 42 2 [.ref 106, .int (iI w), .int (iI n), .int (iI i), X4, X5] [] h1 (KI K) := by
    intro k
    induction k with
    | zero =>
      intro i i0 ie h1 q X4 X5 hq hF g kk
      refine w_iload3 r_42_2 ?_
      refine w_iload2 r_42_3 ?_
      refine v_ic_ge r_42_4 (by first | exact zF_in _ _ _ | exact zA_in _ _ _ | omega) (by first | exact zF_in _ _ _ | exact zA_in _ _ _ | omega) (fun _ => ?_) (fun q => absurd q (by omega))
      refine w_iconst (v := iI (0)) r_42_118 rfl ?_
      refine w_iret r_42_119 ?_
      exact kk h1 g hF
    | succ k ih =>
      intro i i0 ie h1 q X4 X5 hq hF g kk
      have hL := g.lay hL
      obtain ⟨hP, hE⟩ := CP_fr g (fun a j p q n => by simp [pF]; omega) hP hE
      obtain ⟨b1, b2, b3, b4, b5⟩ := id hq
      obtain ⟨f5, f6, f7, f8, f9⟩ := hF
      have hb1 := M.nx_in (way := w) hm b3
      have e85 : gI h1 85 (q.1 * 4 + w).toNat = iI (M.nx q.1 w) := by rw [gI_A, hP.2.2.2.2.2.2 q.1 w b3.1 b3.2 hw.1 hw.2]
      unfold goN at kk
      by_cases z1 : M.nx q.1 w < 0
      · rw [if_pos z1] at kk
        refine w_iload3 r_42_2 ?_
        refine w_iload2 r_42_3 ?_
        refine v_ic_ge r_42_4 (by first | exact zF_in _ _ _ | exact zA_in _ _ _ | omega) (by first | exact zF_in _ _ _ | exact zA_in _ _ _ | omega) (fun q => absurd q (by omega)) (fun _ => ?_)
        refine w_aload0 r_42_7 ?_
        refine w_getA (x := 80) r_42_8 (Lk_106 hL) (Lr_106_0 hL) (by decide) ?_
        refine w_getA (x := 85) r_42_11 (Lk_80 hL) (Lr_80_9 hL) (by decide) ?_
        refine w_aload0 r_42_14 ?_
        refine v_getI r_42_15 (Lk_106 hL) f5 ?_
        refine w_iconst (v := iI (4)) r_42_18 rfl ?_
        refine v_imul r_42_19 ?_
        refine w_iload1 r_42_20 ?_
        refine v_iadd r_42_21 ?_
        refine v_iald r_42_22 (Lk_85 hL) (Lz_85 hL) (by decide) (by omega) e85 ?_
        refine w_istore4 r_42_23 rfl ?_
        refine w_iload4 r_42_25 ?_
        refine v_if_ge r_42_27 (by first | exact zF_in _ _ _ | exact zA_in _ _ _ | omega) (fun q => absurd q (by omega)) (fun _ => ?_)
        refine w_iconst (v := iI (1)) r_42_30 rfl ?_
        refine w_iret r_42_31 ?_
        exact kk h1 g ⟨f5, f6, f7, f8, f9⟩
      · rw [if_neg z1] at kk
        have tlo : -4 ≤ tlB B dd M q.2.1 q.1 w := by
          have oc := hm.2.1 (M.nx q.1 w) (by omega) (by omega)
          unfold tlB
          rw [if_neg z1]
          split
          · exact (tg_in ho hm hd ⟨oc.2.2.1, oc.2.2.2.1⟩ b3).1
          · split
            · decide
            · exact (tg_in ho hm hd (chc_any hm (by omega)) b3).1
        by_cases z2 : tlB B dd M q.2.1 q.1 w ≤ 0
        · rw [if_pos z2] at kk
          refine w_iload3 r_42_2 ?_
          refine w_iload2 r_42_3 ?_
          refine v_ic_ge r_42_4 (by first | exact zF_in _ _ _ | exact zA_in _ _ _ | omega) (by first | exact zF_in _ _ _ | exact zA_in _ _ _ | omega) (fun q => absurd q (by omega)) (fun _ => ?_)
          refine w_aload0 r_42_7 ?_
          refine w_getA (x := 80) r_42_8 (Lk_106 hL) (Lr_106_0 hL) (by decide) ?_
          refine w_getA (x := 85) r_42_11 (Lk_80 hL) (Lr_80_9 hL) (by decide) ?_
          refine w_aload0 r_42_14 ?_
          refine v_getI r_42_15 (Lk_106 hL) f5 ?_
          refine w_iconst (v := iI (4)) r_42_18 rfl ?_
          refine v_imul r_42_19 ?_
          refine w_iload1 r_42_20 ?_
          refine v_iadd r_42_21 ?_
          refine v_iald r_42_22 (Lk_85 hL) (Lz_85 hL) (by decide) (by omega) e85 ?_
          refine w_istore4 r_42_23 rfl ?_
          refine w_iload4 r_42_25 ?_
          refine v_if_ge r_42_27 (by first | exact zF_in _ _ _ | exact zA_in _ _ _ | omega) (fun _ => ?_) (fun q => absurd q (by omega))
          refine w_aload0 r_42_32 ?_
          refine w_getA (x := 91) r_42_33 (Lk_106 hL) (Lr_106_1 hL) (by decide) ?_
          refine w_aload0 r_42_36 ?_
          refine v_getI r_42_37 (Lk_106 hL) f5 ?_
          refine w_iload1 r_42_40 ?_
          refine w_aload0 r_42_41 ?_
          refine v_getI r_42_42 (Lk_106 hL) f6 ?_
          refine k_86 r_42_45 (Lk_91 hL) (Nat.le_of_ble_eq_true rfl) ?_
          refine c_toll hL hP hm hE b3 hw b1.1 (fun e a b => ((b1.2 e a (by omega)).1 b)) ?_
          refine w_istore5 r_42_48 rfl ?_
          refine w_iload5 r_42_50 ?_
          refine v_if_gt r_42_52 (by first | exact zF_in _ _ _ | exact zA_in _ _ _ | omega) (fun q => absurd q (by omega)) (fun _ => ?_)
          refine w_iload5 r_42_55 ?_
          refine v_ineg r_42_57 ?_
          refine w_iret r_42_58 ?_
          exact kk h1 g ⟨f5, f6, f7, f8, f9⟩
        · rw [if_neg z2] at kk
          have t := tlB_in (s := q.2.1) ho hm hd b3 (by omega : 0 < tlB B dd M q.2.1 q.1 w)
          have st := hq.step (w := w) ho hm hd hf (by omega)
          have os := or_see (c := M.nx q.1 w) hP hm b1 hf b2 t.2
          have sg := hP.2.2.2.2.1 (M.nx q.1 w) t.2.1 (by omega)
          have l1 := lnd_in (b := zA h1 84 (M.nx q.1 w)) hf.1.1
          generalize htl : tlB B dd M q.2.1 q.1 w = tt at *
          have F2 : Fr PJu h1 (sI (sI (sI (sI h1 106 9 (iI (q.2.2.2 + tt))) 106 8 (iI (q.2.2.1 + 1))) 106 5 (iI (M.nx q.1 w))) 106 6 (iI (seeS M q.2.1 (M.nx q.1 w) f))) := ((((Fr.refl _ _).sI 106 9 _ (by decide)).sI 106 8 _ (by decide)).sI 106 5 _ (by decide)).sI 106 6 _ (by decide)
          refine w_iload3 r_42_2 ?_
          refine w_iload2 r_42_3 ?_
          refine v_ic_ge r_42_4 (by first | exact zF_in _ _ _ | exact zA_in _ _ _ | omega) (by first | exact zF_in _ _ _ | exact zA_in _ _ _ | omega) (fun q => absurd q (by omega)) (fun _ => ?_)
          refine w_aload0 r_42_7 ?_
          refine w_getA (x := 80) r_42_8 (Lk_106 hL) (Lr_106_0 hL) (by decide) ?_
          refine w_getA (x := 85) r_42_11 (Lk_80 hL) (Lr_80_9 hL) (by decide) ?_
          refine w_aload0 r_42_14 ?_
          refine v_getI r_42_15 (Lk_106 hL) f5 ?_
          refine w_iconst (v := iI (4)) r_42_18 rfl ?_
          refine v_imul r_42_19 ?_
          refine w_iload1 r_42_20 ?_
          refine v_iadd r_42_21 ?_
          refine v_iald r_42_22 (Lk_85 hL) (Lz_85 hL) (by decide) (by omega) e85 ?_
          refine w_istore4 r_42_23 rfl ?_
          refine w_iload4 r_42_25 ?_
          refine v_if_ge r_42_27 (by first | exact zF_in _ _ _ | exact zA_in _ _ _ | omega) (fun _ => ?_) (fun q => absurd q (by omega))
          refine w_aload0 r_42_32 ?_
          refine w_getA (x := 91) r_42_33 (Lk_106 hL) (Lr_106_1 hL) (by decide) ?_
          refine w_aload0 r_42_36 ?_
          refine v_getI r_42_37 (Lk_106 hL) f5 ?_
          refine w_iload1 r_42_40 ?_
          refine w_aload0 r_42_41 ?_
          refine v_getI r_42_42 (Lk_106 hL) f6 ?_
          refine k_86 r_42_45 (Lk_91 hL) (Nat.le_of_ble_eq_true rfl) ?_
          refine c_toll hL hP hm hE b3 hw b1.1 (fun e a b => ((b1.2 e a (by omega)).1 b)) ?_
          rw [htl] 
          refine w_istore5 r_42_48 rfl ?_
          refine w_iload5 r_42_50 ?_
          refine v_if_gt r_42_52 (by first | exact zF_in _ _ _ | exact zA_in _ _ _ | omega) (fun _ => ?_) (fun q => absurd q (by omega))
          refine w_aload0 r_42_59 ?_
          refine w_dupA r_42_60 ?_
          refine v_getI r_42_61 (Lk_106 hL) f9 ?_
          refine w_iload5 r_42_64 ?_
          refine v_iadd r_42_66 ?_
          refine w_putI r_42_67 (Lk_106 hL) (Ln_106 hL) ?_
          refine w_aload0 r_42_70 ?_
          refine w_dupA r_42_71 ?_
          refine v_getI r_42_72 (Lk_106 hL) (show _ = iI q.2.2.1 from f8) ?_
          refine w_iconst (v := iI (1)) r_42_75 rfl ?_
          refine v_iadd r_42_76 ?_
          refine w_putI r_42_77 (Lk_106 hL) (Ln_106 hL) ?_
          refine w_aload0 r_42_80 ?_
          refine w_iload4 r_42_81 ?_
          refine w_putI r_42_83 (Lk_106 hL) (Ln_106 hL) ?_
          refine w_aload0 r_42_86 ?_
          refine w_dupA r_42_87 ?_
          refine v_getI r_42_88 (Lk_106 hL) (show _ = iI q.2.1 from f6) ?_
          refine w_aload0 r_42_91 ?_
          refine v_getI r_42_92 (Lk_106 hL) (show _ = iI f from f7) ?_
          refine w_aload0 r_42_95 ?_
          refine w_getA (x := 80) r_42_96 (Lk_106 hL) (Lr_106_0 hL) (by decide) ?_
          refine w_getA (x := 84) r_42_99 (Lk_80 hL) (Lr_80_8 hL) (by decide) ?_
          refine w_aload0 r_42_102 ?_
          refine v_getI r_42_103 (Lk_106 hL) (show _ = iI (M.nx q.1 w) from rfl) ?_
          refine v_iald r_42_106 (Lk_84 hL) (Lz_84 hL) (by decide) (by omega) (gI_A h1 84 _) ?_
          refine v_iandN (hs := hf.1.1.1) (he := sg.1) r_42_107 ?_
          refine v_iorN (hs := b1.1.1) (he := l1.1) r_42_108 ?_
          rw [os] 
          refine w_putI r_42_109 (Lk_106 hL) (Ln_106 hL) ?_
          refine w_iinc3 r_42_112 rfl (iI_add _ _) ?_
          refine w_goto r_42_115 ?_
          refine ih (i + 1) (by omega) (by omega) _ _ _ _ st ⟨rfl, rfl, f7, rfl, rfl⟩ (g.trans F2) kk
  have k0 := key n.toNat 0 (by omega) (by omega) h q .null .null hq hF (Fr.refl _ _) kk
  refine w_iconst (v := iI (0)) r_42_0 rfl ?_
  refine w_istore3 r_42_1 rfl ?_
  exact k0
end JU
