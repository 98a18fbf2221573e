/-! the Model: steps of a way, truths, the way that is gone -/
section GO1
variable {d : Nat} {h : XH} {K : Int32 → XH → Prop} {KL64 : Int64 → XH → Prop} {KU : XH → Prop} {M : XM} {B : XB} {dd go s c f : Int} {bm : Bool}
theorem CanB.sta {G : Int} (hm : M.ok G) : CanB M (sta M) 5 := fun e a b => by
  have o := hm.1
  have t := (sta_in hm).2 e a (by omega)
  refine ⟨fun q => ?_, fun q => ?_⟩
  · rw [t, if_pos q]
    have k := kix_in hm (e := e) ⟨a, q⟩
    exact ⟨by omega, fun _ => rfl⟩
  · rw [t, if_neg (by omega)]
theorem CanB.see {G : Int} (hm : M.ok G) (hs : StM M s) (hf : Tru M f) (hb : CanB M s 5) : CanB M (seeS M s c f) 5 := fun e a b => by
  have k := seeS_in (c := c) hm hs hf
  refine ⟨fun q => ⟨(k.1.2 e a (by omega)).1 q, fun z => ?_⟩, fun q => (k.1.2 e a (by omega)).2 q⟩
  have b1 := ((hb e a b).1 q).2 z
  have ki := kix_in hm (e := e) ⟨a, q⟩
  have : ¬ kix M e = -1 := fun w => z (ki.2.2.1.mp w)
  rw [k.2 e a q, if_neg (fun w => by omega)]; exact b1
theorem canB_pos {s c : Int} (ho : B.ok) (hd : 0 ≤ dd ∧ dd < B.w) (hm : M.ok B.g) (hg : 0 ≤ go ∧ go < M.n) (hs : StM M s) (hf : Tru M f) (hcn : Con M s f) (hc : 0 ≤ c ∧ c < M.n) (hv : Vl (xp B dd M go bm) s c < 1000000000000000) (hb : CanB M s 5) : ∀ t : Nat, CanB M (pos B dd M go bm f s c t).1 5 := by
  intro t
  induction t with
  | zero => exact hb.see hm hs hf
  | succ t ih =>
    have on := (pos_on (bm := bm) ho hd hm hg hs hf hcn hc hv t).1
    unfold pos
    split
    · exact ih
    · exact ih.see hm on.1 hf
theorem m_sees (hL : Lay h) (hP : MMp h M) (hm : M.ok B.g) (hs : StM M s) (hf : Tru M f) (hc : 0 ≤ c ∧ c < M.n) (kk : K (iI (seeS M s c f)) h) : XW (d + 3) 239 0 [.ref 118, .int (iI s), .int (iI c), .int (iI f), .null, .null] [] h (KI K) := by
  have o := hm.1
  have hf1 := hf.1.1
  have key : ∀ n : Nat, n ≤ M.nd.toNat → XW (d + 3) 239 6 [.ref 118, .int (iI s), .int (iI c), .int (iI f), .int (iI (seeK M s c f n)), .int (iI n)] [] h (KI K) := by
    refine upto _ ?_ ?_
    · refine w_iload5 r_239_6 ?_
      refine w_aload0 r_239_8 ?_
      refine v_getI r_239_9 (Lk_118 hL) (hP.f37) ?_
      refine v_ic_ge r_239_12 (by first | exact zF_in _ _ _ | exact zA_in _ _ _ | omega) (by first | exact zF_in _ _ _ | exact zA_in _ _ _ | omega) (fun _ => ?_) (fun q => absurd q (by omega))
      refine w_iload4 r_239_58 ?_
      refine w_iret r_239_60 ?_
      exact kk
    · intro n hn ih
      have k := seeK_in (c := c) hm hs hf n (by omega)
      have zn := k.2 n (by omega) (by omega)
      rw [if_neg (by omega)] at zn
      have k1 := k.1.1
      have di := dg_in (seeK M s c f n) n
      unfold seeK at ih
      by_cases q : dg s n = 0
      · by_cases q2 : nr M.wd M.hg (M.dc n) c = true
        · rw [if_pos ⟨q, q2⟩] at ih
          have et : seeK M s c f n + dg f n * 4 ^ ((n : Int)).toNat = tel (seeK M s c f n) n (dg f n - 1) := by unfold tel; rw [show dg f n - 1 + 1 = dg f n by omega]
          refine w_iload5 r_239_6 ?_
          refine w_aload0 r_239_8 ?_
          refine v_getI r_239_9 (Lk_118 hL) (hP.f37) ?_
          refine v_ic_ge r_239_12 (by first | exact zF_in _ _ _ | exact zA_in _ _ _ | omega) (by first | exact zF_in _ _ _ | exact zA_in _ _ _ | omega) (fun q => absurd q (by omega)) (fun _ => ?_)
          refine w_iload4 r_239_15 ?_
          refine w_iload5 r_239_17 ?_
          refine k_213 r_239_19 (Nat.le_of_ble_eq_true rfl) ?_
          refine m_digit (by omega) (by omega) ?_
          refine v_if_ne r_239_22 (by first | exact zF_in _ _ _ | exact zA_in _ _ _ | omega) (fun q => absurd q (by omega)) (fun _ => ?_)
          refine w_aload0 r_239_25 ?_
          refine w_iload2 r_239_26 ?_
          refine w_iload5 r_239_27 ?_
          refine k_220 r_239_29 (Lk_118 hL) (Nat.le_of_ble_eq_true rfl) ?_
          refine m_isNear hL hP hm hc (by omega) (fun _ => ?_) (fun z => absurd q2 (by rw [z]; decide))
          refine v_if_eq r_239_32 (by first | exact zF_in _ _ _ | exact zA_in _ _ _ | omega) (fun q => absurd q (by decide)) (fun _ => ?_)
          refine w_iload4 r_239_35 ?_
          refine w_iload3 r_239_37 ?_
          refine w_iload5 r_239_38 ?_
          refine k_213 r_239_40 (Nat.le_of_ble_eq_true rfl) ?_
          refine m_digit (by omega) (by omega) ?_
          refine w_iload5 r_239_43 ?_
          refine k_212 r_239_45 (Nat.le_of_ble_eq_true rfl) ?_
          refine m_power (by omega) ?_
          refine v_imul r_239_48 ?_
          refine v_iadd r_239_49 ?_
          refine w_istore4 r_239_50 rfl ?_
          refine w_iinc5 r_239_52 rfl (iI_add _ _) ?_
          refine w_goto r_239_55 ?_
          rw [et]
          exact ih
        · rw [if_neg (fun z => q2 z.2)] at ih
          refine w_iload5 r_239_6 ?_
          refine w_aload0 r_239_8 ?_
          refine v_getI r_239_9 (Lk_118 hL) (hP.f37) ?_
          refine v_ic_ge r_239_12 (by first | exact zF_in _ _ _ | exact zA_in _ _ _ | omega) (by first | exact zF_in _ _ _ | exact zA_in _ _ _ | omega) (fun q => absurd q (by omega)) (fun _ => ?_)
          refine w_iload4 r_239_15 ?_
          refine w_iload5 r_239_17 ?_
          refine k_213 r_239_19 (Nat.le_of_ble_eq_true rfl) ?_
          refine m_digit (by omega) (by omega) ?_
          refine v_if_ne r_239_22 (by first | exact zF_in _ _ _ | exact zA_in _ _ _ | omega) (fun q => absurd q (by omega)) (fun _ => ?_)
          refine w_aload0 r_239_25 ?_
          refine w_iload2 r_239_26 ?_
          refine w_iload5 r_239_27 ?_
          refine k_220 r_239_29 (Lk_118 hL) (Nat.le_of_ble_eq_true rfl) ?_
          refine m_isNear hL hP hm hc (by omega) (fun z => absurd z q2) (fun _ => ?_)
          refine v_if_eq r_239_32 (by first | exact zF_in _ _ _ | exact zA_in _ _ _ | omega) (fun _ => ?_) (fun q => absurd q (by decide))
          refine w_iinc5 r_239_52 rfl (iI_add _ _) ?_
          refine w_goto r_239_55 ?_
          exact ih
      · rw [if_neg (fun z => q z.1)] at ih
        refine w_iload5 r_239_6 ?_
        refine w_aload0 r_239_8 ?_
        refine v_getI r_239_9 (Lk_118 hL) (hP.f37) ?_
        refine v_ic_ge r_239_12 (by first | exact zF_in _ _ _ | exact zA_in _ _ _ | omega) (by first | exact zF_in _ _ _ | exact zA_in _ _ _ | omega) (fun q => absurd q (by omega)) (fun _ => ?_)
        refine w_iload4 r_239_15 ?_
        refine w_iload5 r_239_17 ?_
        refine k_213 r_239_19 (Nat.le_of_ble_eq_true rfl) ?_
        refine m_digit (by omega) (by omega) ?_
        refine v_if_ne r_239_22 (by first | exact zF_in _ _ _ | exact zA_in _ _ _ | omega) (fun _ => ?_) (fun q => absurd q (by omega))
        refine w_iinc5 r_239_52 rfl (iI_add _ _) ?_
        refine w_goto r_239_55 ?_
        exact ih
  refine w_iload1 r_239_0 ?_
  refine w_istore4 r_239_1 rfl ?_
  refine w_iconst (v := iI (0)) r_239_3 rfl ?_
  refine w_istore5 r_239_4 rfl ?_
  exact key 0 (by omega)
theorem m_all {t : Int} (hL : Lay h) (hP : MMp h M) (hm : M.ok B.g) (hK : MLs h M) (ht : 0 ≤ t ∧ t ≤ 2147483647) (kk : K (iI (ful M t)) h) : XW (d + 2) 237 0 [.ref 118, .int (iI t), .null, .null, .null] [] h (KI K) := by
  have o := hm.1
  have key : ∀ (n : Nat) (s r : Int), n ≤ M.nd → (0 ≤ r ∧ r ≤ 2147483647) → K (iI (trs M n s r)) h → XW (d + 2) 237 15 [.ref 118, .int (iI t), .int (iI s), .int (iI r), .int (iI ((n : Int) - 1))] [] h (KI K) := by
    intro n
    induction n with
    | zero =>
      intro s r _ _ kk
      refine w_iload4 r_237_15 ?_
      refine v_if_lt r_237_17 (by first | exact zF_in _ _ _ | exact zA_in _ _ _ | omega) (fun _ => ?_) (fun q => absurd q (by omega))
      refine w_iload2 r_237_70 ?_
      refine w_iret r_237_71 ?_
      exact kk
    | succ n ih =>
      intro s r hn hr kk
      have om := mny_in hm (e := n) (by omega)
      have kn := (hm.2.2.1 n (by omega) (by omega)).2.2.2
      have rm := Int.emod_nonneg r (b := mny M n) (by omega)
      have rl := Int.emod_lt_of_pos r (b := mny M n) (by omega)
      have rd := Int.ediv_nonneg hr.1 (show 0 ≤ mny M n by omega)
      have rd2 := Int.ediv_le_self (mny M n) hr.1
      rw [show ((n + 1 : Nat) : Int) - 1 = (n : Int) by omega]
      unfold trs at kk
      by_cases q : M.kn n = -1
      · rw [if_pos q] at kk
        refine w_iload4 r_237_15 ?_
        refine v_if_lt r_237_17 (by first | exact zF_in _ _ _ | exact zA_in _ _ _ | omega) (fun q => absurd q (by omega)) (fun _ => ?_)
        refine w_aload0 r_237_20 ?_
        refine w_getA (x := 137) r_237_21 (Lk_118 hL) (Lr_118_45 hL) (by decide) ?_
        refine w_iload4 r_237_24 ?_
        refine v_iald r_237_26 (Lk_137 hL) (Lz_137 hL) (by decide) (by omega) (e138 hP (by omega)) ?_
        refine w_iconst (v := iI (-1)) r_237_27 rfl ?_
        refine v_ic_eq r_237_28 (by first | exact zF_in _ _ _ | exact zA_in _ _ _ | omega) (by first | exact zF_in _ _ _ | exact zA_in _ _ _ | omega) (fun _ => ?_) (fun q => absurd q (by omega))
        refine w_iload2 r_237_34 ?_
        refine w_iload3 r_237_35 ?_
        refine w_aload0 r_237_36 ?_
        refine w_getA (x := 142) r_237_37 (Lk_118 hL) (Lr_118_53 hL) (by decide) ?_
        refine w_iload4 r_237_40 ?_
        refine v_iald r_237_42 (Lk_142 hL) (Lz_142 hL) (by decide) (by omega) (e143 hK (by omega)) ?_
        refine v_iremN r_237_43 (by first | exact zF_in _ _ _ | exact zA_in _ _ _ | omega) (by omega) ?_
        refine w_iconst (v := iI (1)) r_237_44 rfl ?_
        refine v_iadd r_237_45 ?_
        refine w_iload4 r_237_46 ?_
        refine k_212 r_237_48 (Nat.le_of_ble_eq_true rfl) ?_
        refine m_power (by omega) ?_
        refine v_imul r_237_51 ?_
        refine v_iadd r_237_52 ?_
        refine w_istore2 r_237_53 rfl ?_
        refine w_iload3 r_237_54 ?_
        refine w_aload0 r_237_55 ?_
        refine w_getA (x := 142) r_237_56 (Lk_118 hL) (Lr_118_53 hL) (by decide) ?_
        refine w_iload4 r_237_59 ?_
        refine v_iald r_237_61 (Lk_142 hL) (Lz_142 hL) (by decide) (by omega) (e143 hK (by omega)) ?_
        refine v_idivN r_237_62 (by first | exact zF_in _ _ _ | exact zA_in _ _ _ | omega) (by omega) ?_
        refine w_istore3 r_237_63 rfl ?_
        refine w_iinc4 r_237_64 rfl (iI_add _ _) ?_
        refine w_goto r_237_67 ?_
        have := ih _ _ (by omega) ⟨rd, by omega⟩ kk
        rw [show (n : Int) + -1 = (n : Int) - 1 by omega]
        exact this
      · rw [if_neg q] at kk
        refine w_iload4 r_237_15 ?_
        refine v_if_lt r_237_17 (by first | exact zF_in _ _ _ | exact zA_in _ _ _ | omega) (fun q => absurd q (by omega)) (fun _ => ?_)
        refine w_aload0 r_237_20 ?_
        refine w_getA (x := 137) r_237_21 (Lk_118 hL) (Lr_118_45 hL) (by decide) ?_
        refine w_iload4 r_237_24 ?_
        refine v_iald r_237_26 (Lk_137 hL) (Lz_137 hL) (by decide) (by omega) (e138 hP (by omega)) ?_
        refine w_iconst (v := iI (-1)) r_237_27 rfl ?_
        refine v_ic_eq r_237_28 (by first | exact zF_in _ _ _ | exact zA_in _ _ _ | omega) (by first | exact zF_in _ _ _ | exact zA_in _ _ _ | omega) (fun q => absurd q (by omega)) (fun _ => ?_)
        refine w_goto r_237_31 ?_
        refine w_iinc4 r_237_64 rfl (iI_add _ _) ?_
        refine w_goto r_237_67 ?_
        have := ih s r (by omega) hr kk
        rw [show (n : Int) + -1 = (n : Int) - 1 by omega]
        exact this
  refine w_aload0 r_237_0 ?_
  refine k_215 r_237_1 (Lk_118 hL) (Nat.le_of_ble_eq_true rfl) ?_
  refine m_base hL hP hm hK ?_
  refine w_istore2 r_237_4 rfl ?_
  refine w_iload1 r_237_5 ?_
  refine w_istore3 r_237_6 rfl ?_
  refine w_aload0 r_237_7 ?_
  refine v_getI r_237_8 (Lk_118 hL) (hP.f37) ?_
  refine w_iconst (v := iI (1)) r_237_11 rfl ?_
  refine v_isub r_237_12 ?_
  refine w_istore4 r_237_13 rfl ?_
  have := key M.nd.toNat (sta M) t (by omega) ht kk
  rw [show ((M.nd.toNat : Nat) : Int) - 1 = M.nd - 1 by omega] at this
  exact this
/-- the Model has solved this goal -/
def MSd (h : XH) (B : XB) (dd : Int) (M : XM) (go : Int) (bm : Bool) : Prop := MTb h B dd M ∧ Rws h B dd M go bm 0 ∧ zF h 118 49 = go ∧ zF h 118 50 = b2i bm
theorem MSd.fr {P : Nat → Nat → Bool} {h' : XH} (f : Fr P h h') (hp : ∀ j, P 141 j = false ∧ P 142 j = false ∧ P 151 j = false ∧ P 152 j = false) (hp2 : ∀ j, P 140 j = false) (hp3 : P 118 49 = false ∧ P 118 50 = false) (hS : MSd h B dd M go bm) : MSd h' B dd M go bm := by
  obtain ⟨a, b, e, g⟩ := hS
  refine ⟨a.fr f hp, fun s' p0 p1 p2 p3 c c0 c1 => ?_, by rw [f.F hp3.1]; exact e, by rw [f.F hp3.2]; exact g⟩
  unfold vr
  rw [f.L (hp2 _)]
  exact b s' p0 p1 p2 p3 c c0 c1
theorem m_stepOf (hL : Lay h) (ho : B.ok) (hd : 0 ≤ dd ∧ dd < B.w) (hP : MMp h M) (hm : M.ok B.g) (hg : 0 ≤ go ∧ go < M.n) (hS : MSd h B dd M go bm) (hs : 0 ≤ s ∧ s < 1024) (hb : CanB M s 5) (hc : 0 ≤ c ∧ c < M.n) (hnw : (xp B dd M go bm).nw s c = -1) (hfi : Vl (xp B dd M go bm) s c < 1000000000000000)
    (kg : c = go → K (iI 4) h) (kw : ¬ c = go → ∀ h', Fr (pA [150]) h h' → MLy h' B dd M s → K (iI ((xp B dd M go bm).wy (Vl (xp B dd M go bm)) s c)) h') : XW (d + 3) 233 0 [.ref 118, .int (iI c), .int (iI s), .null, .null, .null, .null, .null] [] h (KI K) := by
  have o := hm.1
  have hn := M.n_in hm
  have hX := xp_ok (go := go) (bm := bm) ho hm hd hg
  have hV := Vl_sol hX
  have hsM := CanB.st hs hb
  have hst : St (xp B dd M go bm) s := hsM
  obtain ⟨hTb, hRw, e49, e50⟩ := hS
  have g49 : gI h 118 49 = iI go := by rw [gI_F, e49]
  have bi := b2i_in bm
  by_cases q : c = go
  · refine w_iload1 r_233_0 ?_
    refine w_aload0 r_233_1 ?_
    refine v_getI r_233_2 (Lk_118 hL) g49 ?_
    refine v_ic_ne r_233_5 (by first | exact zF_in _ _ _ | exact zA_in _ _ _ | omega) (by first | exact zF_in _ _ _ | exact zA_in _ _ _ | omega) (fun q => absurd q (by omega)) (fun _ => ?_)
    refine w_iconst (v := iI (4)) r_233_8 rfl ?_
    refine w_iret r_233_9 ?_
    exact kg q
  · have kw := kw q
    have wy := Sol.wy hX hV hst hc.1 hc.2 q hnw hfi
    have scI := sc_in (s := s) hX
    have vb : ∀ c, 0 ≤ c → c < M.n → (0 ≤ Vl (xp B dd M go bm) s c ∧ Vl (xp B dd M go bm) s c ≤ 1000000000000000) := fun c c0 c1 => (hV s hst).2 c c0 (by have : (xp B dd M go bm).n = M.n := rfl; omega)
    have vsm : ∀ c, 0 ≤ c → c < M.n → Vl (xp B dd M go bm) s c < 1000000000000000 → Vl (xp B dd M go bm) s c ≤ 400000000000000 := fun c c0 c1 z => (Sol.small hX hV hst c0 c1 z).1
    have eXlf : (xp B dd M go bm).lft s = prodTo (fun e => if dg s e = 0 then sumTo (fun k => M.wt e (chc M e k)) (mny M e).toNat else 1) M.nd.toNat := rfl
    have eXbm : (xp B dd M go bm).bm = bm := rfl
    have eXnx : (xp B dd M go bm).nx = M.nx := rfl
    have eXtl : (xp B dd M go bm).tl s = tlB B dd M s := rfl
    have ew : (xp B dd M go bm).wy (Vl (xp B dd M go bm)) s c = fst1 (fun w => decide (0 < tlB B dd M s c w) && (decide (Vl (xp B dd M go bm) s (M.nx c w) < 1000000000000000) && decide (Vl (xp B dd M go bm) s (M.nx c w) + (xp B dd M go bm).sc s * tlB B dd M s c w = Vl (xp B dd M go bm) s c))) 4 0 := rfl
    have wnn := wy.1.1
    rw [ew] at kw wnn
    generalize hXe : xp B dd M go bm = X at *
    -- the loop
    have loop : ∀ h1 : XH, Fr (pA [150]) h h1 → MLy h1 B dd M s → ∀ w : Nat, w ≤ 4 → ∀ X6 X7 : Value, 0 ≤ fst1 (fun w => decide (0 < tlB B dd M s c w) && (decide (Vl X s (M.nx c w) < 1000000000000000) && decide (Vl X s (M.nx c w) + X.sc s * tlB B dd M s c w = Vl X s c))) (4 - w) w → K (iI (fst1 (fun w => decide (0 < tlB B dd M s c w) && (decide (Vl X s (M.nx c w) < 1000000000000000) && decide (Vl X s (M.nx c w) + X.sc s * tlB B dd M s c w = Vl X s c))) (4 - w) w)) h1 → XW (d + 3) 233 35 [.ref 118, .int (iI c), .int (iI s), .long (iL (X.sc s)), .null, .int (iI w), X6, X7] [] h1 (KI K) := by
      intro h1 f hY
      have hL := f.lay hL
      have hP := hP.fr f (fun a j p q => by simp [pA]; omega) (fun j p q => by simp [pA])
      have ev : ∀ c', 0 ≤ c' → c' < M.n → gL h1 140 (100 * s + c').toNat = iL (Vl X s c') := fun c' a b => by
        have z := hRw s hs.1 hs.1 hs.2 hb c' a b
        unfold vr at z
        rw [gL_A, f.L (by simp [pA]), z, hXe]
      refine upto _ ?_ ?_
      · intro X6 X7 z
        exact absurd z (by show ¬ 0 ≤ (-1 : Int); decide)
      · intro w hw ih X6 X7 nn kk
        have e151 : gI h1 150 (4 * c + (w : Int)).toNat = iI (max 0 (tlB B dd M s c w)) := by rw [gI_A, hY c w hc.1 hc.2 (by omega) (by omega)]
        rw [show 4 - w = (4 - (w + 1)) + 1 by omega] at nn kk
        unfold fst1 at nn kk
        have vc := vb c hc.1 hc.2
        by_cases q1 : 0 < tlB B dd M s c w
        · have t := tlB_in (s := s) (way := w) ho hm hd hc q1
          have vn := vb _ t.2.1 t.2.2
          rw [show max 0 (tlB B dd M s c w) = tlB B dd M s c w by omega] at e151
          have mm := mul_in (a := X.sc s) (b := tlB B dd M s c w) (A := 14348907) (B := 40101) (by omega) (by omega)
          by_cases q2 : Vl X s (M.nx c w) < 1000000000000000
          · by_cases q3 : Vl X s (M.nx c w) + X.sc s * tlB B dd M s c w = Vl X s c
            · rw [if_pos (by simp [q1, q2, q3])] at kk
              refine w_iload5 r_233_35 ?_
              refine w_iconst (v := iI (4)) r_233_37 rfl ?_
              refine v_ic_ge r_233_38 (by first | exact zF_in _ _ _ | exact zA_in _ _ _ | omega) (by first | exact zF_in _ _ _ | exact zA_in _ _ _ | omega) (fun q => absurd q (by omega)) (fun _ => ?_)
              refine w_aload0 r_233_41 ?_
              refine w_getA (x := 150) r_233_42 (Lk_118 hL) (Lr_118_70 hL) (by decide) ?_
              refine w_iconst (v := iI (4)) r_233_45 rfl ?_
              refine w_iload1 r_233_46 ?_
              refine v_imul r_233_47 ?_
              refine w_iload5 r_233_48 ?_
              refine v_iadd r_233_50 ?_
              refine v_iald r_233_51 (Lk_150 hL) (Lz_150 hL) (by decide) (by omega) e151 ?_
              refine v_if_ne r_233_52 (by first | exact zF_in _ _ _ | exact zA_in _ _ _ | omega) (fun _ => ?_) (fun q => absurd q (by omega))
              refine w_aload0 r_233_58 ?_
              refine w_getA (x := 140) r_233_59 (Lk_118 hL) (Lr_118_48 hL) (by decide) ?_
              refine w_bipush (v := iI (100)) r_233_62 rfl ?_
              refine w_iload2 r_233_64 ?_
              refine v_imul r_233_65 ?_
              refine w_aload0 r_233_66 ?_
              refine w_iload1 r_233_67 ?_
              refine w_iload5 r_233_68 ?_
              refine k_206 r_233_70 (Lk_118 hL) (Nat.le_of_ble_eq_true rfl) ?_
              refine m_bs hL hP hm hc (by omega) ?_
              refine v_iadd r_233_73 ?_
              refine v_lald r_233_74 (Lk_140 hL) (Lz_140 hL) (by decide) (by omega) (ev _ t.2.1 t.2.2) ?_
              refine w_lstore6 r_233_75 rfl ?_
              refine w_lload6 r_233_77 ?_
              refine w_ldc2 (v := iL (1000000000000000)) r_233_79 rfl ?_
              refine v_lcmp r_233_82 (by first | exact zF_in _ _ _ | exact zA_in _ _ _ | omega) (by first | exact zF_in _ _ _ | exact zA_in _ _ _ | omega) ?_
              rw [if_neg (by omega), if_neg (by omega)] 
              refine v_if_ge r_233_83 (by first | exact zF_in _ _ _ | exact zA_in _ _ _ | omega) (fun q => absurd q (by decide)) (fun _ => ?_)
              refine w_lload6 r_233_86 ?_
              refine w_lload3 r_233_88 ?_
              refine w_aload0 r_233_89 ?_
              refine w_getA (x := 150) r_233_90 (Lk_118 hL) (Lr_118_70 hL) (by decide) ?_
              refine w_iconst (v := iI (4)) r_233_93 rfl ?_
              refine w_iload1 r_233_94 ?_
              refine v_imul r_233_95 ?_
              refine w_iload5 r_233_96 ?_
              refine v_iadd r_233_98 ?_
              refine v_iald r_233_99 (Lk_150 hL) (Lz_150 hL) (by decide) (by omega) e151 ?_
              refine v_i2l r_233_100 (by first | exact zF_in _ _ _ | exact zA_in _ _ _ | omega) ?_
              refine v_lmul r_233_101 ?_
              refine v_ladd r_233_102 ?_
              refine w_aload0 r_233_103 ?_
              refine w_getA (x := 140) r_233_104 (Lk_118 hL) (Lr_118_48 hL) (by decide) ?_
              refine w_bipush (v := iI (100)) r_233_107 rfl ?_
              refine w_iload2 r_233_109 ?_
              refine v_imul r_233_110 ?_
              refine w_iload1 r_233_111 ?_
              refine v_iadd r_233_112 ?_
              refine v_lald r_233_113 (Lk_140 hL) (Lz_140 hL) (by decide) (by omega) (ev c hc.1 hc.2) ?_
              refine v_lcmp r_233_114 (by first | exact zF_in _ _ _ | exact zA_in _ _ _ | omega) (by first | exact zF_in _ _ _ | exact zA_in _ _ _ | omega) ?_
              rw [if_neg (by omega), if_pos q3] 
              refine v_if_ne r_233_115 (by first | exact zF_in _ _ _ | exact zA_in _ _ _ | omega) (fun q => absurd q (by decide)) (fun _ => ?_)
              refine w_iload5 r_233_118 ?_
              refine w_iret r_233_120 ?_
              exact kk
            · rw [if_neg (by simp [q3])] at nn kk
              refine w_iload5 r_233_35 ?_
              refine w_iconst (v := iI (4)) r_233_37 rfl ?_
              refine v_ic_ge r_233_38 (by first | exact zF_in _ _ _ | exact zA_in _ _ _ | omega) (by first | exact zF_in _ _ _ | exact zA_in _ _ _ | omega) (fun q => absurd q (by omega)) (fun _ => ?_)
              refine w_aload0 r_233_41 ?_
              refine w_getA (x := 150) r_233_42 (Lk_118 hL) (Lr_118_70 hL) (by decide) ?_
              refine w_iconst (v := iI (4)) r_233_45 rfl ?_
              refine w_iload1 r_233_46 ?_
              refine v_imul r_233_47 ?_
              refine w_iload5 r_233_48 ?_
              refine v_iadd r_233_50 ?_
              refine v_iald r_233_51 (Lk_150 hL) (Lz_150 hL) (by decide) (by omega) e151 ?_
              refine v_if_ne r_233_52 (by first | exact zF_in _ _ _ | exact zA_in _ _ _ | omega) (fun _ => ?_) (fun q => absurd q (by omega))
              refine w_aload0 r_233_58 ?_
              refine w_getA (x := 140) r_233_59 (Lk_118 hL) (Lr_118_48 hL) (by decide) ?_
              refine w_bipush (v := iI (100)) r_233_62 rfl ?_
              refine w_iload2 r_233_64 ?_
              refine v_imul r_233_65 ?_
              refine w_aload0 r_233_66 ?_
              refine w_iload1 r_233_67 ?_
              refine w_iload5 r_233_68 ?_
              refine k_206 r_233_70 (Lk_118 hL) (Nat.le_of_ble_eq_true rfl) ?_
              refine m_bs hL hP hm hc (by omega) ?_
              refine v_iadd r_233_73 ?_
              refine v_lald r_233_74 (Lk_140 hL) (Lz_140 hL) (by decide) (by omega) (ev _ t.2.1 t.2.2) ?_
              refine w_lstore6 r_233_75 rfl ?_
              refine w_lload6 r_233_77 ?_
              refine w_ldc2 (v := iL (1000000000000000)) r_233_79 rfl ?_
              refine v_lcmp r_233_82 (by first | exact zF_in _ _ _ | exact zA_in _ _ _ | omega) (by first | exact zF_in _ _ _ | exact zA_in _ _ _ | omega) ?_
              rw [if_neg (by omega), if_neg (by omega)] 
              refine v_if_ge r_233_83 (by first | exact zF_in _ _ _ | exact zA_in _ _ _ | omega) (fun q => absurd q (by decide)) (fun _ => ?_)
              refine w_lload6 r_233_86 ?_
              refine w_lload3 r_233_88 ?_
              refine w_aload0 r_233_89 ?_
              refine w_getA (x := 150) r_233_90 (Lk_118 hL) (Lr_118_70 hL) (by decide) ?_
              refine w_iconst (v := iI (4)) r_233_93 rfl ?_
              refine w_iload1 r_233_94 ?_
              refine v_imul r_233_95 ?_
              refine w_iload5 r_233_96 ?_
              refine v_iadd r_233_98 ?_
              refine v_iald r_233_99 (Lk_150 hL) (Lz_150 hL) (by decide) (by omega) e151 ?_
              refine v_i2l r_233_100 (by first | exact zF_in _ _ _ | exact zA_in _ _ _ | omega) ?_
              refine v_lmul r_233_101 ?_
              refine v_ladd r_233_102 ?_
              refine w_aload0 r_233_103 ?_
              refine w_getA (x := 140) r_233_104 (Lk_118 hL) (Lr_118_48 hL) (by decide) ?_
              refine w_bipush (v := iI (100)) r_233_107 rfl ?_
              refine w_iload2 r_233_109 ?_
              refine v_imul r_233_110 ?_
              refine w_iload1 r_233_111 ?_
              refine v_iadd r_233_112 ?_
              refine v_lald r_233_113 (Lk_140 hL) (Lz_140 hL) (by decide) (by omega) (ev c hc.1 hc.2) ?_
              refine v_lcmp r_233_114 (by first | exact zF_in _ _ _ | exact zA_in _ _ _ | omega) (by first | exact zF_in _ _ _ | exact zA_in _ _ _ | omega) ?_
              refine v_if_ne r_233_115 (by repeat' split; all_goals omega) (fun _ => ?_) (fun q => absurd q (by repeat' split; all_goals omega))
              refine w_iinc5 r_233_121 rfl (iI_add _ _) ?_
              refine w_goto r_233_124 ?_
              exact ih _ _ nn kk
          · rw [if_neg (by simp [q2])] at nn kk
            refine w_iload5 r_233_35 ?_
            refine w_iconst (v := iI (4)) r_233_37 rfl ?_
            refine v_ic_ge r_233_38 (by first | exact zF_in _ _ _ | exact zA_in _ _ _ | omega) (by first | exact zF_in _ _ _ | exact zA_in _ _ _ | omega) (fun q => absurd q (by omega)) (fun _ => ?_)
            refine w_aload0 r_233_41 ?_
            refine w_getA (x := 150) r_233_42 (Lk_118 hL) (Lr_118_70 hL) (by decide) ?_
            refine w_iconst (v := iI (4)) r_233_45 rfl ?_
            refine w_iload1 r_233_46 ?_
            refine v_imul r_233_47 ?_
            refine w_iload5 r_233_48 ?_
            refine v_iadd r_233_50 ?_
            refine v_iald r_233_51 (Lk_150 hL) (Lz_150 hL) (by decide) (by omega) e151 ?_
            refine v_if_ne r_233_52 (by first | exact zF_in _ _ _ | exact zA_in _ _ _ | omega) (fun _ => ?_) (fun q => absurd q (by omega))
            refine w_aload0 r_233_58 ?_
            refine w_getA (x := 140) r_233_59 (Lk_118 hL) (Lr_118_48 hL) (by decide) ?_
            refine w_bipush (v := iI (100)) r_233_62 rfl ?_
            refine w_iload2 r_233_64 ?_
            refine v_imul r_233_65 ?_
            refine w_aload0 r_233_66 ?_
            refine w_iload1 r_233_67 ?_
            refine w_iload5 r_233_68 ?_
            refine k_206 r_233_70 (Lk_118 hL) (Nat.le_of_ble_eq_true rfl) ?_
            refine m_bs hL hP hm hc (by omega) ?_
            refine v_iadd r_233_73 ?_
            refine v_lald r_233_74 (Lk_140 hL) (Lz_140 hL) (by decide) (by omega) (ev _ t.2.1 t.2.2) ?_
            refine w_lstore6 r_233_75 rfl ?_
            refine w_lload6 r_233_77 ?_
            refine w_ldc2 (v := iL (1000000000000000)) r_233_79 rfl ?_
            refine v_lcmp r_233_82 (by first | exact zF_in _ _ _ | exact zA_in _ _ _ | omega) (by first | exact zF_in _ _ _ | exact zA_in _ _ _ | omega) ?_
            refine v_if_ge r_233_83 (by repeat' split; all_goals omega) (fun _ => ?_) (fun q => absurd q (by repeat' split; all_goals omega))
            refine w_iinc5 r_233_121 rfl (iI_add _ _) ?_
            refine w_goto r_233_124 ?_
            exact ih _ _ nn kk
        · rw [if_neg (by simp [q1])] at nn kk
          rw [show max 0 (tlB B dd M s c w) = 0 by omega] at e151
          refine w_iload5 r_233_35 ?_
          refine w_iconst (v := iI (4)) r_233_37 rfl ?_
          refine v_ic_ge r_233_38 (by first | exact zF_in _ _ _ | exact zA_in _ _ _ | omega) (by first | exact zF_in _ _ _ | exact zA_in _ _ _ | omega) (fun q => absurd q (by omega)) (fun _ => ?_)
          refine w_aload0 r_233_41 ?_
          refine w_getA (x := 150) r_233_42 (Lk_118 hL) (Lr_118_70 hL) (by decide) ?_
          refine w_iconst (v := iI (4)) r_233_45 rfl ?_
          refine w_iload1 r_233_46 ?_
          refine v_imul r_233_47 ?_
          refine w_iload5 r_233_48 ?_
          refine v_iadd r_233_50 ?_
          refine v_iald r_233_51 (Lk_150 hL) (Lz_150 hL) (by decide) (by omega) e151 ?_
          refine v_if_ne r_233_52 (by first | exact zF_in _ _ _ | exact zA_in _ _ _ | omega) (fun q => absurd q (by omega)) (fun _ => ?_)
          refine w_goto r_233_55 ?_
          refine w_iinc5 r_233_121 rfl (iI_add _ _) ?_
          refine w_goto r_233_124 ?_
          exact ih _ _ nn kk
    have go2 : ∀ h1 : XH, Fr (pA [150]) h h1 → MLy h1 B dd M s → XW (d + 3) 233 15 [.ref 118, .int (iI c), .int (iI s), .null, .null, .null, .null, .null] [] h1 (KI K) := by
      intro h1 f hY
      have l0 := fun X6 X7 => loop h1 f hY 0 (by omega) X6 X7 wnn (kw h1 f hY)
      have hL := f.lay hL
      have hP := hP.fr f (fun a j p q => by simp [pA]; omega) (fun j p q => by simp [pA])
      have hK := hTb.1.fr f (fun j => by simp [pA])
      have g50 : gI h1 118 50 = iI (b2i bm) := by rw [gI_F, f.F (by simp [pA]), e50]
      by_cases hbm : bm = true
      · have e0 : b2i bm = 1 := by rw [hbm]; rfl
        have e1 : X.sc s = prodTo (fun e => if dg s e = 0 then sumTo (fun k => M.wt e (chc M e k)) (mny M e).toNat else 1) M.nd.toNat := by unfold XP.sc; rw [eXbm, if_pos hbm, eXlf]
        refine w_aload0 r_233_15 ?_
        refine v_getI r_233_16 (Lk_118 hL) g50 ?_
        refine v_if_eq r_233_19 (by first | exact zF_in _ _ _ | exact zA_in _ _ _ | omega) (fun q => absurd q (by omega)) (fun _ => ?_)
        refine w_aload0 r_233_22 ?_
        refine w_iload2 r_233_23 ?_
        refine k_218 r_233_24 (Lk_118 hL) (Nat.le_of_ble_eq_true rfl) ?_
        refine m_left hL hP hm hK hs ?_
        refine w_goto r_233_27 ?_
        refine w_lstore3 r_233_31 rfl ?_
        refine w_iconst (v := iI (0)) r_233_32 rfl ?_
        refine w_istore5 r_233_33 rfl ?_
        rw [← e1]
        exact l0 _ _
      · have e0 : b2i bm = 0 := by unfold b2i; rw [if_neg hbm]
        have e1 : X.sc s = 1 := by unfold XP.sc; rw [eXbm, if_neg hbm]
        rw [e1] at l0
        refine w_aload0 r_233_15 ?_
        refine v_getI r_233_16 (Lk_118 hL) g50 ?_
        refine v_if_eq r_233_19 (by first | exact zF_in _ _ _ | exact zA_in _ _ _ | omega) (fun _ => ?_) (fun q => absurd q (by omega))
        refine w_lconst (v := iL 1) r_233_30 rfl ?_
        refine w_lstore3 r_233_31 rfl ?_
        refine w_iconst (v := iI (0)) r_233_32 rfl ?_
        refine w_istore5 r_233_33 rfl ?_
        exact l0 _ _
    refine w_iload1 r_233_0 ?_
    refine w_aload0 r_233_1 ?_
    refine v_getI r_233_2 (Lk_118 hL) g49 ?_
    refine v_ic_ne r_233_5 (by first | exact zF_in _ _ _ | exact zA_in _ _ _ | omega) (by first | exact zF_in _ _ _ | exact zA_in _ _ _ | omega) (fun _ => ?_) (fun q => absurd q (by omega))
    refine w_aload0 r_233_10 ?_
    refine w_iload2 r_233_11 ?_
    refine k_224 r_233_12 (Lk_118 hL) (Nat.le_of_ble_eq_true rfl) ?_
    refine m_lays hL ho hP hm hd hTb.1 hTb.2.2 hsM (fun h1 f1 hY => ?_)
    exact go2 h1 f1 hY
/-- the Model goes a way -/
abbrev PGo : Nat → Nat → Bool := pO (pA [143, 150]) (pF [(118, 55)])
theorem PGo_fr {h1 : XH} (f : Fr PGo h h1) (hP : MMp h M) (hS : MSd h B dd M go bm) : MMp h1 M ∧ MSd h1 B dd M go bm := ⟨hP.fr f (fun a j p q => by simp [pO, pA, pF]; omega) (fun j p q => by simp [pO, pA, pF]; omega), hS.fr f (fun j => by simp [pO, pA, pF]) (fun j => by simp [pO, pA, pF]) (by simp [pO, pA, pF])⟩
theorem m_goes {tr : Int} (hL : Lay h) (ho : B.ok) (hd : 0 ≤ dd ∧ dd < B.w) (hP : MMp h M) (hm : M.ok B.g) (hg : 0 ≤ go ∧ go < M.n) (hS : MSd h B dd M go bm) (ht : 0 ≤ tr ∧ tr ≤ 2147483647) (hc : 0 ≤ c ∧ c < M.n) (hv : Vl (xp B dd M go bm) (sta M) c < 1000000000000000)
    (kk : ∀ (h' : XH) (L : Nat), L ≤ 600 → (pos B dd M go bm (ful M tr) (sta M) c L).2 = go → (∀ t, t < L → ¬ (pos B dd M go bm (ful M tr) (sta M) c t).2 = go) → Fr PGo h h' → MSd h' B dd M go bm → zF h' 118 55 = L + 1 → (∀ t : Nat, t ≤ L → zA h' 143 t = (pos B dd M go bm (ful M tr) (sta M) c t).2) → K (iI (pcst B dd M go bm (ful M tr) (sta M) c L)) h') :
    XW (d + 4) 240 0 [.ref 118, .int (iI c), .int (iI tr), .null, .null, .null, .null, .null, .null] [] h (KI K) := by
  have o := hm.1
  have hn := M.n_in hm
  have hX := xp_ok (go := go) (bm := bm) ho hm hd hg
  have hV := Vl_sol hX
  have fi := ful_in hm ht.1
  have hf : Tru M (ful M tr) := ⟨fi.1, fi.2.1⟩
  have hs := sta_st hm
  have ts := sta_in hm
  have hcn : Con M (sta M) (ful M tr) := fun e a b => by
    by_cases q : M.kn e = -1
    · left
      rw [ts.2 e a (by omega), if_pos b]
      have := (kix_in hm (e := e) ⟨a, b⟩).2.2.1.mpr q; omega
    · right; exact (fi.2.2 e a b q).symm
  generalize hF : ful M tr = f at *
  have hb := CanB.sta hm
  obtain ⟨L, l1, l2, l3⟩ := pos_end (bm := bm) ho hd hm hg hs hf hcn hc hv
  have on := fun t => (pos_on (bm := bm) ho hd hm hg hs hf hcn hc hv t).1
  have cb := canB_pos (bm := bm) ho hd hm hg hs hf hcn hc hv hb
  have ci := fun t => pcst_in (bm := bm) ho hd hm hg hs hf hcn hc hv t
  have ff := hf.1.1
  -- the state before what is seen at step t
  generalize hpre : (fun t : Nat => match t with
    | 0 => sta M
    | t + 1 => (pos B dd M go bm f (sta M) c t).1) = pre
  have p0 : pre 0 = sta M := by rw [← hpre]
  have pS : ∀ t, pre (t + 1) = (pos B dd M go bm f (sta M) c t).1 := fun t => by rw [← hpre]
  have preSt : ∀ t, StM M (pre t) := fun t => by
    cases t with
    | zero => rw [p0]; exact hs
    | succ t => rw [pS]; exact (on t).1
  have prePos : ∀ t, t ≤ L → seeS M (pre t) (pos B dd M go bm f (sta M) c t).2 f = (pos B dd M go bm f (sta M) c t).1 := fun t htL => by
    cases t with
    | zero => rw [p0]; rfl
    | succ t =>
      rw [pS]
      have q := l3 t (by omega)
      have ep : pos B dd M go bm f (sta M) c (t + 1) = (seeS M (pos B dd M go bm f (sta M) c t).1 (M.nx (pos B dd M go bm f (sta M) c t).2 ((xp B dd M go bm).wy (Vl (xp B dd M go bm)) (pos B dd M go bm f (sta M) c t).1 (pos B dd M go bm f (sta M) c t).2)) f, M.nx (pos B dd M go bm f (sta M) c t).2 ((xp B dd M go bm).wy (Vl (xp B dd M go bm)) (pos B dd M go bm f (sta M) c t).1 (pos B dd M go bm f (sta M) c t).2)) := by
        show (if (pos B dd M go bm f (sta M) c t).2 = go then _ else _) = _
        rw [if_neg q]
      rw [ep]
  have key : ∀ k t : Nat, t + k = L → ∀ (h1 : XH) (X8 : Value), Fr PGo h h1 → zF h1 118 55 = t → (∀ i : Nat, i < t → zA h1 143 i = (pos B dd M go bm f (sta M) c i).2) → XW (d + 4) 240 26 [.ref 118, .int (iI c), .int (iI tr), .int (iI f), .int (iI (pre t)), .int (iI (pos B dd M go bm f (sta M) c t).2), .int (iI (pcst B dd M go bm f (sta M) c t)), .int (iI 1), X8] [] h1 (KI K) := by
    intro k
    induction k with
    | zero =>
      intro t e h1 X8 f1 e55 hz
      have tL : t = L := by omega
      have hL := f1.lay hL
      obtain ⟨hP, hS⟩ := PGo_fr f1 hP hS
      have i3 := (on t).2.2.1
      have g55 : gI h1 118 55 = iI t := by rw [gI_F, e55]
      have g55' : gI (sI h1 143 ((t : Int)).toNat (iI (pos B dd M go bm f (sta M) c t).2)) 118 55 = iI t := by rw [sI_other _ (by decide)]; exact g55
      have F2 : Fr PGo h1 (sI (sI h1 143 ((t : Int)).toNat (iI (pos B dd M go bm f (sta M) c t).2)) 118 55 (iI ((t : Int) + 1))) := ((Fr.refl _ _).sI 143 _ _ (by simp [pO, pA])).sI 118 55 _ (by decide)
      obtain ⟨hP2, hS2⟩ := PGo_fr F2 hP hS
      have pt := prePos t (by omega)
      have gq : (pos B dd M go bm f (sta M) c t).2 = go := by rw [tL]; exact l2
      obtain ⟨i1, i2, i3', i4, i5⟩ := on t
      refine w_iload7 r_240_26 ?_
      refine v_if_eq r_240_28 (by first | exact zF_in _ _ _ | exact zA_in _ _ _ | omega) (fun q => absurd q (by decide)) (fun _ => ?_)
      refine w_aload0 r_240_31 ?_
      refine w_getA (x := 143) r_240_32 (Lk_118 hL) (Lr_118_54 hL) (by decide) ?_
      refine w_aload0 r_240_35 ?_
      refine v_getI r_240_36 (Lk_118 hL) g55 ?_
      refine w_iload5 r_240_39 ?_
      refine v_iast r_240_41 (Lk_143 hL) (Ln_143 hL) (Lz_143 hL) (by decide) (by omega) ?_
      refine w_aload0 r_240_42 ?_
      refine w_dupA r_240_43 ?_
      refine v_getI r_240_44 (Lk_118 hL) (g55') ?_
      refine w_iconst (v := iI (1)) r_240_47 rfl ?_
      refine v_iadd r_240_48 ?_
      refine w_putI r_240_49 (Lk_118 hL) (Ln_118 hL) ?_
      refine w_aload0 r_240_52 ?_
      refine w_iload4 r_240_53 ?_
      refine w_iload5 r_240_55 ?_
      refine w_iload3 r_240_57 ?_
      refine k_239 r_240_58 (Lk_118 hL) (Nat.le_of_ble_eq_true rfl) ?_
      refine m_sees hL hP2 hm (preSt t) hf i3 ?_
      rw [pt] 
      refine w_istore4 r_240_61 rfl ?_
      refine w_aload0 r_240_63 ?_
      refine w_iload5 r_240_64 ?_
      refine w_iload4 r_240_66 ?_
      refine k_233 r_240_68 (Lk_118 hL) (Nat.le_of_ble_eq_true rfl) ?_
      refine m_stepOf hL ho hd hP2 hm hg hS2 i1.1 (cb t) i3 i4 i5 (fun _ => ?_) (fun z => absurd gq z)
      refine w_istore8 r_240_71 rfl ?_
      refine w_iload8 r_240_73 ?_
      refine w_iconst (v := iI (4)) r_240_75 rfl ?_
      refine v_ic_ge r_240_76 (by first | exact zF_in _ _ _ | exact zA_in _ _ _ | omega) (by first | exact zF_in _ _ _ | exact zA_in _ _ _ | omega) (fun _ => ?_) (fun q => absurd q (by decide))
      refine w_iconst (v := iI (0)) r_240_83 rfl ?_
      refine w_istore7 r_240_84 rfl ?_
      refine w_iload7 r_240_86 ?_
      refine v_if_ne r_240_88 (by first | exact zF_in _ _ _ | exact zA_in _ _ _ | omega) (fun q => absurd q (by decide)) (fun _ => ?_)
      refine w_goto r_240_91 ?_
      refine w_iload7 r_240_26 ?_
      refine v_if_eq r_240_28 (by decide) (fun _ => ?_) (fun q => absurd rfl q)
      refine w_iload6 r_240_124 ?_
      refine w_iret r_240_126 ?_
      have kk := kk _ t (by omega) gq (fun i hi => l3 i (by omega)) (f1.trans F2) hS2 ?_ (fun i hi => ?_)
      · exact kk
      · rw [zF_s (by omega)]
      · rw [zA_o _ (by decide), zA_s (by omega) (by omega) (by omega)]
        by_cases z : i = t
        · rw [if_pos (by omega), z]
        · rw [if_neg (by omega)]; exact hz i (by omega)
    | succ k ih =>
      intro t e h1 X8 f1 e55 hz
      have hL := f1.lay hL
      obtain ⟨hP, hS⟩ := PGo_fr f1 hP hS
      have i3 := (on t).2.2.1
      have g55 : gI h1 118 55 = iI t := by rw [gI_F, e55]
      have g55' : gI (sI h1 143 ((t : Int)).toNat (iI (pos B dd M go bm f (sta M) c t).2)) 118 55 = iI t := by rw [sI_other _ (by decide)]; exact g55
      have F2 : Fr PGo h1 (sI (sI h1 143 ((t : Int)).toNat (iI (pos B dd M go bm f (sta M) c t).2)) 118 55 (iI ((t : Int) + 1))) := ((Fr.refl _ _).sI 143 _ _ (by simp [pO, pA])).sI 118 55 _ (by decide)
      obtain ⟨hP2, hS2⟩ := PGo_fr F2 hP hS
      have pt := prePos t (by omega)
      have gq := l3 t (by omega)
      obtain ⟨i1, i2, i3', i4, i5⟩ := on t
      have ep : pos B dd M go bm f (sta M) c (t + 1) = (seeS M (pos B dd M go bm f (sta M) c t).1 (M.nx (pos B dd M go bm f (sta M) c t).2 ((xp B dd M go bm).wy (Vl (xp B dd M go bm)) (pos B dd M go bm f (sta M) c t).1 (pos B dd M go bm f (sta M) c t).2)) f, M.nx (pos B dd M go bm f (sta M) c t).2 ((xp B dd M go bm).wy (Vl (xp B dd M go bm)) (pos B dd M go bm f (sta M) c t).1 (pos B dd M go bm f (sta M) c t).2)) := by
        show (if (pos B dd M go bm f (sta M) c t).2 = go then _ else _) = _
        rw [if_neg gq]
      have ec : pcst B dd M go bm f (sta M) c (t + 1) = pcst B dd M go bm f (sta M) c t + tlB B dd M (pos B dd M go bm f (sta M) c t).1 (pos B dd M go bm f (sta M) c t).2 ((xp B dd M go bm).wy (Vl (xp B dd M go bm)) (pos B dd M go bm f (sta M) c t).1 (pos B dd M go bm f (sta M) c t).2) := by
        show _ + (if (pos B dd M go bm f (sta M) c t).2 = go then 0 else _) = _
        rw [if_neg gq]
      have wy := Sol.wy hX hV i1 i3.1 i3.2 gq i4 i5
      have ih := fun h2 X8 f2 e2 hz2 => ih (t + 1) (by omega) h2 X8 f2 e2 hz2
      rw [pS, ep, ec] at ih
      have hw4 := wy.1
      have ht0 : 0 < tlB B dd M (pos B dd M go bm f (sta M) c t).1 (pos B dd M go bm f (sta M) c t).2 ((xp B dd M go bm).wy (Vl (xp B dd M go bm)) (pos B dd M go bm f (sta M) c t).1 (pos B dd M go bm f (sta M) c t).2) := wy.2.1
      have ti := tlB_in ho hm hd i3 ht0
      generalize hW : (xp B dd M go bm).wy (Vl (xp B dd M go bm)) (pos B dd M go bm f (sta M) c t).1 (pos B dd M go bm f (sta M) c t).2 = w at *
      refine w_iload7 r_240_26 ?_
      refine v_if_eq r_240_28 (by first | exact zF_in _ _ _ | exact zA_in _ _ _ | omega) (fun q => absurd q (by decide)) (fun _ => ?_)
      refine w_aload0 r_240_31 ?_
      refine w_getA (x := 143) r_240_32 (Lk_118 hL) (Lr_118_54 hL) (by decide) ?_
      refine w_aload0 r_240_35 ?_
      refine v_getI r_240_36 (Lk_118 hL) g55 ?_
      refine w_iload5 r_240_39 ?_
      refine v_iast r_240_41 (Lk_143 hL) (Ln_143 hL) (Lz_143 hL) (by decide) (by omega) ?_
      refine w_aload0 r_240_42 ?_
      refine w_dupA r_240_43 ?_
      refine v_getI r_240_44 (Lk_118 hL) (g55') ?_
      refine w_iconst (v := iI (1)) r_240_47 rfl ?_
      refine v_iadd r_240_48 ?_
      refine w_putI r_240_49 (Lk_118 hL) (Ln_118 hL) ?_
      refine w_aload0 r_240_52 ?_
      refine w_iload4 r_240_53 ?_
      refine w_iload5 r_240_55 ?_
      refine w_iload3 r_240_57 ?_
      refine k_239 r_240_58 (Lk_118 hL) (Nat.le_of_ble_eq_true rfl) ?_
      refine m_sees hL hP2 hm (preSt t) hf i3 ?_
      rw [pt] 
      refine w_istore4 r_240_61 rfl ?_
      refine w_aload0 r_240_63 ?_
      refine w_iload5 r_240_64 ?_
      refine w_iload4 r_240_66 ?_
      refine k_233 r_240_68 (Lk_118 hL) (Nat.le_of_ble_eq_true rfl) ?_
      refine m_stepOf hL ho hd hP2 hm hg hS2 i1.1 (cb t) i3 i4 i5 (fun z => absurd z gq) (fun _ h3 f3 hY => ?_)
      rw [hW]
      have hL := f3.lay hL
      have hP3 := hP2.fr f3 (fun a j p q => by simp [pA]; omega) (fun j p q => by simp [pA])
      have e151 : gI h3 150 (4 * (pos B dd M go bm f (sta M) c t).2 + w).toNat = iI (tlB B dd M (pos B dd M go bm f (sta M) c t).1 (pos B dd M go bm f (sta M) c t).2 w) := by rw [gI_A, hY _ w i3.1 i3.2 hw4.1 hw4.2]; congr 1; omega
      refine w_istore8 r_240_71 rfl ?_
      refine w_iload8 r_240_73 ?_
      refine w_iconst (v := iI (4)) r_240_75 rfl ?_
      refine v_ic_ge r_240_76 (by first | exact zF_in _ _ _ | exact zA_in _ _ _ | omega) (by first | exact zF_in _ _ _ | exact zA_in _ _ _ | omega) (fun q => absurd q (by omega)) (fun _ => ?_)
      refine w_iconst (v := iI (1)) r_240_79 rfl ?_
      refine w_goto r_240_80 ?_
      refine w_istore7 r_240_84 rfl ?_
      refine w_iload7 r_240_86 ?_
      refine v_if_ne r_240_88 (by first | exact zF_in _ _ _ | exact zA_in _ _ _ | omega) (fun _ => ?_) (fun q => absurd q (by decide))
      refine w_iload6 r_240_94 ?_
      refine w_aload0 r_240_96 ?_
      refine w_getA (x := 150) r_240_97 (Lk_118 hL) (Lr_118_70 hL) (by decide) ?_
      refine w_iconst (v := iI (4)) r_240_100 rfl ?_
      refine w_iload5 r_240_101 ?_
      refine v_imul r_240_103 ?_
      refine w_iload8 r_240_104 ?_
      refine v_iadd r_240_106 ?_
      refine v_iald r_240_107 (Lk_150 hL) (Lz_150 hL) (by decide) (by omega) e151 ?_
      refine v_iadd r_240_108 ?_
      refine w_istore6 r_240_109 rfl ?_
      refine w_aload0 r_240_111 ?_
      refine w_iload5 r_240_112 ?_
      refine w_iload8 r_240_114 ?_
      refine k_206 r_240_116 (Lk_118 hL) (Nat.le_of_ble_eq_true rfl) ?_
      refine m_bs hL hP3 hm i3 hw4 ?_
      refine w_istore5 r_240_119 rfl ?_
      refine w_goto r_240_121 ?_
      refine ih h3 _ ((f1.trans F2).trans (f3.mono (fun a j q => by simp [pO, pA, pF] at q ⊢; omega))) ?_ (fun i hi => ?_)
      · rw [f3.F (by decide), zF_s (by omega)]; rfl
      · rw [f3.A (by simp [pA]), zA_o _ (by decide), zA_s (by omega) (by omega) (by omega)]
        by_cases z : i = t
        · rw [if_pos (by omega), z]
        · rw [if_neg (by omega)]; exact hz i (by omega)
  have k0 := key L 0 (by omega) (sI h 118 55 (iI 0)) .null ((Fr.refl _ _).sI 118 55 _ (by decide)) (by rw [zF_s (by decide)]; rfl) (fun i hi => by omega)
  rw [p0] at k0
  refine w_aload0 r_240_0 ?_
  refine w_iload2 r_240_1 ?_
  refine k_237 r_240_2 (Lk_118 hL) (Nat.le_of_ble_eq_true rfl) ?_
  refine m_all hL hP hm hS.1.1 ht ?_
  rw [hF] 
  refine w_istore3 r_240_5 rfl ?_
  refine w_aload0 r_240_6 ?_
  refine k_215 r_240_7 (Lk_118 hL) (Nat.le_of_ble_eq_true rfl) ?_
  refine m_base hL hP hm hS.1.1 ?_
  refine w_istore4 r_240_10 rfl ?_
  refine w_iload1 r_240_12 ?_
  refine w_istore5 r_240_13 rfl ?_
  refine w_iconst (v := iI (0)) r_240_15 rfl ?_
  refine w_istore6 r_240_16 rfl ?_
  refine w_aload0 r_240_18 ?_
  refine w_iconst (v := iI (0)) r_240_19 rfl ?_
  refine w_putI r_240_20 (Lk_118 hL) (Ln_118 hL) ?_
  refine w_iconst (v := iI (1)) r_240_23 rfl ?_
  refine w_istore7 r_240_24 rfl ?_
  exact k0
end GO1
