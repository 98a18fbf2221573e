/-! states of the class: what is seen anew, truths; the values' equations for a land -/
def rv (way : Int) : Int := if way = 0 then 1 else if way = 1 then 0 else if way = 2 then 3 else 2
theorem rv_in {way : Int} (h : 0 ≤ way ∧ way < 4) : 0 ≤ rv way ∧ rv way < 4 ∧ rv (rv way) = way := by
  have : way = 0 ∨ way = 1 ∨ way = 2 ∨ way = 3 := by omega
  rcases this with rfl | rfl | rfl | rfl <;> decide
theorem bs_back {wd hg c way : Int} (hw : 1 ≤ wd ∧ wd ≤ 10) (hh : 1 ≤ hg ∧ hg ≤ 10) (hc : 0 ≤ c ∧ c < wd * hg) (hway : 0 ≤ way ∧ way < 4) (h0 : 0 ≤ bs wd hg c way) : bs wd hg (bs wd hg c way) (rv way) = c := by
  have xy := xy_in hw hh hc
  have cxy := c_of_xy (wd := wd) (c := c)
  have : way = 0 ∨ way = 1 ∨ way = 2 ∨ way = 3 := by omega
  generalize hx : c % wd = x at *
  generalize hy : c / wd = y at *
  have e : bs wd hg c way = bsx wd hg x y c way := by unfold bs; rw [hx, hy]
  rcases this with rfl | rfl | rfl | rfl
  · rw [e, bsx0] at h0 ⊢
    by_cases q : x + 1 < wd
    · rw [if_pos q]
      have z := xy_of (wd := wd) (x := x + 1) (y := y) (c := c + 1) (by omega) (by omega)
      show bs wd hg (c + 1) 1 = c
      unfold bs
      rw [z.1, z.2, bsx1, if_pos (by omega)]; omega
    · rw [if_neg q] at h0; omega
  · rw [e, bsx1] at h0 ⊢
    by_cases q : 0 < x
    · rw [if_pos q]
      have z := xy_of (wd := wd) (x := x - 1) (y := y) (c := c - 1) (by omega) (by omega)
      show bs wd hg (c - 1) 0 = c
      unfold bs
      rw [z.1, z.2, bsx0, if_pos (by omega)]; omega
    · rw [if_neg q] at h0; omega
  · rw [e, bsx2] at h0 ⊢
    by_cases q : 0 < y
    · rw [if_pos q]
      have z := xy_of (wd := wd) (x := x) (y := y - 1) (c := c - wd) (by omega) (by rw [Int.sub_mul]; omega)
      show bs wd hg (c - wd) 3 = c
      unfold bs
      rw [z.1, z.2, bsx3, if_pos (by omega)]; omega
    · rw [if_neg q] at h0; omega
  · rw [e, bsx3] at h0 ⊢
    by_cases q : y + 1 < hg
    · rw [if_pos q]
      have z := xy_of (wd := wd) (x := x) (y := y + 1) (c := c + wd) (by omega) (by rw [Int.add_mul]; omega)
      show bs wd hg (c + wd) 2 = c
      unfold bs
      rw [z.1, z.2, bsx2, if_pos (by omega)]; omega
    · rw [if_neg q] at h0; omega
theorem nr_ways {wd hg a c : Int} : nr wd hg a c = true ↔ (c = a ∨ ∃ w, 0 ≤ w ∧ w < 4 ∧ bs wd hg a w = c) := by
  show (nrK wd hg a c 0 || bs wd hg a ((0 : Nat) : Int) == c || bs wd hg a ((1 : Nat) : Int) == c || bs wd hg a ((2 : Nat) : Int) == c || bs wd hg a ((3 : Nat) : Int) == c) = true ↔ _
  show ((c == a) || bs wd hg a 0 == c || bs wd hg a 1 == c || bs wd hg a 2 == c || bs wd hg a 3 == c) = true ↔ _
  simp only [Bool.or_eq_true, beq_iff_eq]
  constructor
  · rintro ((((q | q) | q) | q) | q)
    · exact Or.inl q
    · exact Or.inr ⟨0, by decide, by decide, q⟩
    · exact Or.inr ⟨1, by decide, by decide, q⟩
    · exact Or.inr ⟨2, by decide, by decide, q⟩
    · exact Or.inr ⟨3, by decide, by decide, q⟩
  · rintro (q | ⟨w, w0, w1, q⟩)
    · simp [q]
    · have : w = 0 ∨ w = 1 ∨ w = 2 ∨ w = 3 := by omega
      rcases this with rfl | rfl | rfl | rfl <;> simp [q]
/-- the equations' data of a land -/
def xp (B : XB) (dd : Int) (M : XM) (go : Int) (bm : Bool) : XP := ((M.n, M.nd, go, bm), fun e c => nr M.wd M.hg (M.dc e) c, mny M, fun e k => M.wt e (chc M e k), M.nx, tlB B dd M)
section XO
variable {B : XB} {dd : Int} {M : XM} {go s : Int} {bm : Bool} {V : Int → Int → Int}
theorem chc_any {G e i : Int} (hm : M.ok G) (he : 0 ≤ e ∧ e < M.nd) : 0 ≤ chc M e i ∧ chc M e i < G := by
  have o := hm.1
  by_cases q : i.toNat < (chs (M.wt e) 8).length
  · have e1 : chc M e i = chc M e ((i.toNat : Nat) : Int) := by unfold chc; rw [Int.toNat_natCast]
    rw [e1]
    have := chc_in hm he (i := ((i.toNat : Nat) : Int)) (by unfold mny; omega)
    exact ⟨this.1, this.2.1⟩
  · have : chc M e i = 0 := by
      unfold chc
      rw [List.getD_eq_getElem?_getD, List.getElem?_eq_none (by omega)]; rfl
    omega
theorem tlB_in {c way : Int} (ho : B.ok) (hm : M.ok B.g) (hd : 0 ≤ dd ∧ dd < B.w) (hc : 0 ≤ c ∧ c < M.n) (ht : 0 < tlB B dd M s c way) : tlB B dd M s c way ≤ 40101 ∧ 0 ≤ M.nx c way ∧ M.nx c way < M.n := by
  have hb1 := M.nx_in (way := way) hm hc
  unfold tlB at ht ⊢
  by_cases q : M.nx c way < 0
  · rw [if_pos q] at ht; omega
  · rw [if_neg q] at ht ⊢
    have oc := hm.2.1 (M.nx c way) (by omega) (by omega)
    refine ⟨?_, by omega⟩
    by_cases q2 : M.db (M.nx c way) = -1
    · rw [if_pos q2] at ht ⊢
      exact (tg_in ho hm hd ⟨oc.2.2.1, oc.2.2.2.1⟩ hc).2
    · rw [if_neg q2] at ht ⊢
      by_cases q3 : dg s (M.db (M.nx c way)) = 0
      · rw [if_pos q3] at ht; omega
      · rw [if_neg q3] at ht ⊢
        exact (tg_in ho hm hd (chc_any hm (by omega)) hc).2
theorem xp_ok (ho : B.ok) (hm : M.ok B.g) (hd : 0 ≤ dd ∧ dd < B.w) (hg : 0 ≤ go ∧ go < M.n) : (xp B dd M go bm).ok := by
  have o := hm.1
  have hn := M.n_in hm
  refine ⟨⟨hn.1, hn.2, o.2.2.2.2.1, o.2.2.2.2.2.1, hg.1, hg.2⟩, fun e a b => mny_in hm ⟨a, b⟩, fun e k a b a2 b2 => ?_, fun s c w a b w0 w1 ht => tlB_in ho hm hd ⟨a, b⟩ ht, fun s s' c w a b w0 w1 hs => ?_⟩
  · have := chc_in hm ⟨a, b⟩ ⟨a2, b2⟩
    show 1 ≤ M.wt e (chc M e k) ∧ M.wt e (chc M e k) ≤ 9
    omega
  · show tlB B dd M s c w = tlB B dd M s' c w
    unfold tlB
    by_cases q : M.nx c w < 0
    · rw [if_pos q, if_pos q]
    · rw [if_neg q, if_neg q]
      have hb1 := M.nx_in (way := w) hm ⟨a, b⟩
      have oc := hm.2.1 (M.nx c w) (by omega) (by omega)
      by_cases q2 : M.db (M.nx c w) = -1
      · rw [if_pos q2, if_pos q2]
      · rw [if_neg q2, if_neg q2]
        have e : dg s (M.db (M.nx c w)) = dg s' (M.db (M.nx c w)) := by
          refine hs _ (by omega) oc.2.2.2.2.2.1 ?_
          show nr M.wd M.hg (M.dc (M.db (M.nx c w))) c = true
          rw [oc.2.2.2.2.2.2 (by omega)]
          exact nr_ways.mpr (Or.inr ⟨rv w, (rv_in ⟨w0, w1⟩).1, (rv_in ⟨w0, w1⟩).2.1, bs_back (by omega) (by omega) ⟨a, b⟩ ⟨w0, w1⟩ (by show 0 ≤ M.nx c w; omega)⟩)
        rw [e]
/-- the weights of the choices are all the weights -/
theorem tot_wt {e : Int} (hm : M.ok B.g) (he : 0 ≤ e ∧ e < M.nd) : (xp B dd M go bm).tot e = sumTo (M.wt e) 8 := by
  have w := hm.2.2.2.1 e he.1 he.2
  have gen : ∀ n : Nat, n ≤ 8 → sumTo (fun k => M.wt e ((chs (M.wt e) n).getD k.toNat 0)) (chs (M.wt e) n).length = sumTo (M.wt e) n := by
    intro n
    induction n with
    | zero => intro _; rfl
    | succ n ih =>
      intro hn
      have ih := ih (by omega)
      have wn := w n (by omega) (by omega)
      show _ = sumTo (M.wt e) n + M.wt e n
      by_cases q : 0 < M.wt e n
      · have e1 : chs (M.wt e) (n + 1) = chs (M.wt e) n ++ [(n : Int)] := by
          show (if 0 < M.wt e n then _ else _) = _
          rw [if_pos q]
        rw [e1, List.length_append]
        show sumTo _ ((chs (M.wt e) n).length) + M.wt e ((chs (M.wt e) n ++ [(n : Int)]).getD ((((chs (M.wt e) n).length : Nat) : Int)).toNat 0) = _
        rw [Int.toNat_natCast, List.getD_eq_getElem?_getD, List.getElem?_append_right (Nat.le_refl _), Nat.sub_self]
        rw [← ih]
        congr 1
        refine sumTo_congr (fun i a b => ?_)
        show M.wt e ((chs (M.wt e) n ++ [(n : Int)]).getD i.toNat 0) = M.wt e ((chs (M.wt e) n).getD i.toNat 0)
        rw [List.getD_eq_getElem?_getD, List.getD_eq_getElem?_getD, List.getElem?_append_left (by omega)]
      · have e1 : chs (M.wt e) (n + 1) = chs (M.wt e) n := by
          show (if 0 < M.wt e n then _ else _) = _
          rw [if_neg q]
        rw [e1, ih]; omega
  have g := gen 8 (by omega)
  show sumTo (fun k => M.wt e (chc M e k)) (mny M e).toNat = _
  unfold mny chc
  rw [Int.toNat_natCast]
  exact g
theorem lft_wt (hm : M.ok B.g) : (xp B dd M go bm).lft s = prodTo (fun e => if dg s e = 0 then sumTo (M.wt e) 8 else 1) M.nd.toNat := by
  refine prodTo_congr (fun i a b => ?_)
  show (if dg s i = 0 then (xp B dd M go bm).tot i else 1) = _
  have o := hm.1
  have en : (xp B dd M go bm).nd = M.nd := rfl
  rw [tot_wt hm ⟨a, by omega⟩]
/-- a state that may be -/
def StM (M : XM) (s : Int) : Prop := (0 ≤ s ∧ s < 1024) ∧ ∀ e, 0 ≤ e → e < 5 → (e < M.nd → dg s e ≤ mny M e) ∧ (M.nd ≤ e → dg s e = 0)
theorem StM.st (h : StM M s) : St (xp B dd M go bm) s := h
theorem sta_st {G : Int} (hm : M.ok G) : StM M (sta M) := by
  have o := hm.1
  have t := sta_in hm
  refine ⟨t.1, fun e a b => ⟨fun q => ?_, fun q => ?_⟩⟩
  · rw [t.2 e a b, if_pos q]
    have := kix_in hm (e := e) ⟨a, q⟩; omega
  · rw [t.2 e a b, if_neg (by omega)]
/-- truths: states with all told, as the base has it -/
theorem trs_in {G : Int} (hm : M.ok G) : ∀ (n : Nat) (s r : Int), n ≤ M.nd → 0 ≤ r → StM M s → (∀ e : Int, 0 ≤ e → e < n → M.kn e = -1 → dg s e = 0) → (∀ e : Int, n ≤ e → e < M.nd → 1 ≤ dg s e) → (∀ e, 0 ≤ e → e < M.nd → ¬ M.kn e = -1 → dg s e = dg (sta M) e) → StM M (trs M n s r) ∧ (∀ e, 0 ≤ e → e < M.nd → 1 ≤ dg (trs M n s r) e) ∧ ∀ e, 0 ≤ e → e < M.nd → ¬ M.kn e = -1 → dg (trs M n s r) e = dg (sta M) e := by
  have o := hm.1
  have ts := sta_in hm
  intro n
  induction n with
  | zero =>
    intro s r _ _ hs _ h2 h3
    exact ⟨hs, fun e a b => h2 e (by omega) b, h3⟩
  | succ n ih =>
    intro s r hn hr hs h1 h2 h3
    have om := mny_in hm (e := n) (by omega)
    unfold trs
    by_cases q : M.kn n = -1
    · rw [if_pos q]
      have z := h1 n (by omega) (by omega) q
      have rm := Int.emod_nonneg r (b := mny M n) (by omega)
      have rl := Int.emod_lt_of_pos r (b := mny M n) (by omega)
      have t := tel_in (s := s) (e := n) (k := r % mny M n) hs.1 (by omega) z (by omega)
      have e : s + (r % mny M n + 1) * 4 ^ ((n : Int)).toNat = tel s n (r % mny M n) := rfl
      rw [e]
      refine ih _ _ (by omega) (Int.ediv_nonneg hr (by omega)) ⟨by have := hs.1; omega, fun j a b => ?_⟩ (fun j a b c => ?_) (fun j a b => ?_) (fun j a b c => ?_)
      · rw [t.2.2 j a b]
        by_cases z2 : j = n
        · rw [if_pos z2, z2]; exact ⟨fun _ => by omega, fun _ => by omega⟩
        · rw [if_neg z2]; exact hs.2 j a b
      · rw [t.2.2 j a (by omega), if_neg (by omega)]; exact h1 j a (by omega) c
      · rw [t.2.2 j (by omega) (by omega)]
        by_cases z2 : j = n
        · rw [if_pos z2]; omega
        · rw [if_neg z2]; exact h2 j (by omega) b
      · rw [t.2.2 j a (by omega), if_neg (fun z2 => c (by rw [z2]; exact q))]; exact h3 j a b c
    · rw [if_neg q]
      refine ih s r (by omega) hr hs (fun j a b c => h1 j a (by omega) c) (fun j a b => ?_) h3
      by_cases z2 : j = n
      · rw [z2, h3 n (by omega) (by omega) q, ts.2 n (by omega) (by omega), if_pos (by omega)]
        have k := kix_in hm (e := n) (by omega)
        omega
      · exact h2 j (by omega) b
theorem ful_in {G t : Int} (hm : M.ok G) (ht : 0 ≤ t) : StM M (ful M t) ∧ (∀ e, 0 ≤ e → e < M.nd → 1 ≤ dg (ful M t) e) ∧ ∀ e, 0 ≤ e → e < M.nd → ¬ M.kn e = -1 → dg (ful M t) e = dg (sta M) e := by
  have o := hm.1
  have ts := sta_in hm
  refine trs_in hm M.nd.toNat (sta M) t (by omega) ht (sta_st hm) (fun e a b c => ?_) (fun e a b => by omega) (fun e _ _ _ => rfl)
  rw [ts.2 e a (by omega), if_pos (by omega)]
  have k := kix_in hm (e := e) (by omega)
  omega
end XO
section SB
variable {d : Nat} {h : XH} {K : Int32 → XH → Prop} {KU : XH → Prop} {M : XM} {G : Int}
theorem c_stateOfTruth {t : Int} (hL : Lay h) (hP : CMp h M) (hm : M.ok G) (ht : 0 ≤ t ∧ t ≤ 2147483647) (kk : K (iI (ful M t)) h) : XW (d + 3) 59 0 [.ref 80, .int (iI t), .null, .null, .null] [] h (KI K) := by
  have o := hm.1
  have ts := sta_in hm
  have e3 : gI h 80 3 = iI M.nd := by rw [gI_F, hP.1.2.2.2]
  have key : ∀ (n : Nat) (s r : Int), n ≤ M.nd → (0 ≤ r ∧ r ≤ 2147483647) → StM M s → (∀ e : Int, 0 ≤ e → e < n → M.kn e = -1 → dg s e = 0) → K (iI (trs M n s r)) h → XW (d + 3) 59 15 [.ref 80, .int (iI t), .int (iI s), .int (iI r), .int (iI ((n : Int) - 1))] [] h (KI K) := by
    intro n
    induction n with
    | zero =>
      intro s r _ _ _ _ kk
      refine w_iload4 r_59_15 ?_
      refine v_if_lt r_59_17 (by first | exact zF_in _ _ _ | exact zA_in _ _ _ | omega) (fun _ => ?_) (fun q => absurd q (by omega))
      refine w_iload2 r_59_75 ?_
      refine w_iret r_59_76 ?_
      exact kk
    | succ n ih =>
      intro s r hn hr hs h1 kk
      have om := mny_in hm (e := n) (by omega)
      have e87 : gI h 86 (((n + 1 : Nat) : Int) - 1).toNat = iI (M.kn n) := by
        rw [show ((n + 1 : Nat) : Int) - 1 = n by omega, gI_A, (hP.2.2.1 n (by omega) (by omega)).1]
      have e90 : gI h 89 (((n + 1 : Nat) : Int) - 1).toNat = iI (mny M n) := by
        rw [show ((n + 1 : Nat) : Int) - 1 = n by omega, gI_A, (hP.ch (e := n) (by omega)).1]
      have e90' : gI h 89 ((n : Int)).toNat = iI (mny M n) := by rw [gI_A, (hP.ch (e := n) (by omega)).1]
      have kn := (hm.2.2.1 n (by omega) (by omega)).2.2.2
      have rm := Int.emod_nonneg r (b := mny M n) (by omega)
      have rl := Int.emod_lt_of_pos r (b := mny M n) (by omega)
      have rd := Int.ediv_nonneg hr.1 (show 0 ≤ mny M n by omega)
      have rd2 := Int.ediv_le_self (mny M n) hr.1
      unfold trs at kk
      by_cases q : M.kn n = -1
      · rw [if_pos q] at kk
        have z := h1 n (by omega) (by omega) q
        have tt := tel_in (s := s) (e := n) (k := r % mny M n) hs.1 (by omega) z (by omega)
        have ee : s + (r % mny M n + 1) * 4 ^ ((n : Int)).toNat = tel s n (r % mny M n) := rfl
        refine w_iload4 r_59_15 ?_
        refine v_if_lt r_59_17 (by first | exact zF_in _ _ _ | exact zA_in _ _ _ | omega) (fun q => absurd q (by omega)) (fun _ => ?_)
        refine w_aload0 r_59_20 ?_
        refine w_getA (x := 86) r_59_21 (Lk_80 hL) (Lr_80_10 hL) (by decide) ?_
        refine w_iload4 r_59_24 ?_
        refine v_iald r_59_26 (Lk_86 hL) (Lz_86 hL) (by decide) (by omega) e87 ?_
        refine w_iconst (v := iI (-1)) r_59_27 rfl ?_
        refine v_ic_ne r_59_28 (by first | exact zF_in _ _ _ | exact zA_in _ _ _ | omega) (by first | exact zF_in _ _ _ | exact zA_in _ _ _ | omega) (fun q => absurd q (by omega)) (fun _ => ?_)
        refine w_aload0 r_59_31 ?_
        refine w_getA (x := 89) r_59_32 (Lk_80 hL) (Lr_80_13 hL) (by decide) ?_
        refine w_iload4 r_59_35 ?_
        refine v_iald r_59_37 (Lk_89 hL) (Lz_89 hL) (by decide) (by omega) e90 ?_
        refine v_if_le r_59_38 (by first | exact zF_in _ _ _ | exact zA_in _ _ _ | omega) (fun q => absurd q (by omega)) (fun _ => ?_)
        refine w_iload2 r_59_41 ?_
        refine w_aload0 r_59_42 ?_
        refine w_iload4 r_59_43 ?_
        refine w_iload3 r_59_45 ?_
        refine w_aload0 r_59_46 ?_
        refine w_getA (x := 89) r_59_47 (Lk_80 hL) (Lr_80_13 hL) (by decide) ?_
        refine w_iload4 r_59_50 ?_
        refine v_iald r_59_52 (Lk_89 hL) (Lz_89 hL) (by decide) (by omega) e90 ?_
        refine v_iremN r_59_53 (by first | exact zF_in _ _ _ | exact zA_in _ _ _ | omega) (by omega) ?_
        refine k_58 r_59_54 (Lk_80 hL) (Nat.le_of_ble_eq_true rfl) ?_
        refine c_stateBits (by omega) (by omega) ?_
        rw [show ((n + 1 : Nat) : Int) - 1 = n by omega] 
        refine v_iorT (hs := hs.1) (he := by omega) (h0 := z) (hk := by omega) r_59_57 ?_
        refine w_istore2 r_59_58 rfl ?_
        refine w_iload3 r_59_59 ?_
        refine w_aload0 r_59_60 ?_
        refine w_getA (x := 89) r_59_61 (Lk_80 hL) (Lr_80_13 hL) (by decide) ?_
        refine w_iload4 r_59_64 ?_
        refine v_iald r_59_66 (Lk_89 hL) (Lz_89 hL) (by decide) (by omega) (e90') ?_
        refine v_idivN r_59_67 (by first | exact zF_in _ _ _ | exact zA_in _ _ _ | omega) (by omega) ?_
        refine w_istore3 r_59_68 rfl ?_
        refine w_iinc4 r_59_69 rfl (iI_add _ _) ?_
        refine w_goto r_59_72 ?_
        have := ih _ _ (by omega) ⟨rd, by omega⟩ ?_ (fun e a b c => ?_) kk
        · rw [show (n : Int) + -1 = (n : Int) - 1 by omega]
          exact this
        · refine ⟨by have := hs.1; omega, fun j a b => ?_⟩
          rw [ee, tt.2.2 j a b]
          by_cases z2 : j = n
          · rw [if_pos z2, z2]; exact ⟨fun _ => by omega, fun _ => by omega⟩
          · rw [if_neg z2]; exact hs.2 j a b
        · rw [ee, tt.2.2 e a (by omega), if_neg (by omega)]; exact h1 e a (by omega) c
      · rw [if_neg q] at kk
        refine w_iload4 r_59_15 ?_
        refine v_if_lt r_59_17 (by first | exact zF_in _ _ _ | exact zA_in _ _ _ | omega) (fun q => absurd q (by omega)) (fun _ => ?_)
        refine w_aload0 r_59_20 ?_
        refine w_getA (x := 86) r_59_21 (Lk_80 hL) (Lr_80_10 hL) (by decide) ?_
        refine w_iload4 r_59_24 ?_
        refine v_iald r_59_26 (Lk_86 hL) (Lz_86 hL) (by decide) (by omega) e87 ?_
        refine w_iconst (v := iI (-1)) r_59_27 rfl ?_
        refine v_ic_ne r_59_28 (by first | exact zF_in _ _ _ | exact zA_in _ _ _ | omega) (by first | exact zF_in _ _ _ | exact zA_in _ _ _ | omega) (fun _ => ?_) (fun q => absurd q (by omega))
        refine w_iinc4 r_59_69 rfl (iI_add _ _) ?_
        refine w_goto r_59_72 ?_
        have := ih s r (by omega) hr hs (fun e a b c => h1 e a (by omega) c) kk
        rw [show ((n + 1 : Nat) : Int) - 1 + -1 = (n : Int) - 1 by omega]
        exact this
  refine w_aload0 r_59_0 ?_
  refine k_56 r_59_1 (Lk_80 hL) (Nat.le_of_ble_eq_true rfl) ?_
  refine c_startState hL hP hm ?_
  refine w_istore2 r_59_4 rfl ?_
  refine w_iload1 r_59_5 ?_
  refine w_istore3 r_59_6 rfl ?_
  refine w_aload0 r_59_7 ?_
  refine v_getI r_59_8 (Lk_80 hL) e3 ?_
  refine w_iconst (v := iI (1)) r_59_11 rfl ?_
  refine v_isub r_59_12 ?_
  refine w_istore4 r_59_13 rfl ?_
  have := key M.nd.toNat (sta M) t (by omega) (by omega) (sta_st hm) (fun e a b c => ?_) kk
  · rw [show ((M.nd.toNat : Nat) : Int) - 1 = M.nd - 1 by omega] at this; exact this
  · rw [ts.2 e a (by omega), if_pos (by omega)]; have k := kix_in hm (e := e) (by omega); omega
theorem sg_dg {c e : Int} (hP : CMp h M) (hm : M.ok G) (hc : 0 ≤ c ∧ c < M.n) (he : 0 ≤ e ∧ e < 5) : dg (zA h 84 c) e = if e < M.nd ∧ nr M.wd M.hg (M.dc e) c = true then 3 else 0 := hP.2.2.2.2.2.1 c hc.1 hc.2 e he.1 he.2
theorem c_firstUnseen {s c : Int} (hL : Lay h) (hP : CMp h M) (hm : M.ok G) (hs : 0 ≤ s ∧ s < 1024) (hc : 0 ≤ c ∧ c < M.n) (kk : K (iI (fst1 (fun e => decide (dg s e = 0) && nr M.wd M.hg (M.dc e) c) M.nd.toNat 0)) h) : XW (d + 1) 64 0 [.ref 80, .int (iI s), .int (iI c), .null, .null] [] h (KI K) := by
  have o := hm.1
  have hn := M.n_in hm
  have e3 : gI h 80 3 = iI M.nd := by rw [gI_F, hP.1.2.2.2]
  have sg := hP.2.2.2.2.1 c hc.1 (by omega)
  have u := uns_in hs
  have bi : 0 ≤ lnd (zA h 84 c) (uns s) ∧ lnd (zA h 84 c) (uns s) < 1024 := lnd_in sg
  have bd : ∀ e, 0 ≤ e → e < M.nd → dg (lnd (zA h 84 c) (uns s)) e = if (decide (dg s e = 0) && nr M.wd M.hg (M.dc e) c) = true then 3 else 0 := by
    intro e a b
    rw [dg_lnd sg.1 u.1.1 a, u.2 e a (by omega), sg_dg hP hm hc ⟨a, by omega⟩]
    by_cases q1 : dg s e = 0
    · by_cases q2 : nr M.wd M.hg (M.dc e) c = true
      · rw [if_pos q1, if_pos ⟨b, q2⟩, if_pos (by simp [q1, q2])]; decide
      · rw [if_pos q1, if_neg (fun z => q2 z.2), if_neg (by simp [q2])]; decide
    · have w : (decide (dg s e = 0) && nr M.wd M.hg (M.dc e) c) = false := by simp [q1]
      rw [if_neg q1, w]
      by_cases q2 : e < M.nd ∧ nr M.wd M.hg (M.dc e) c = true
      · rw [if_pos q2]; decide
      · rw [if_neg q2]; decide
  have key : ∀ i : Nat, i ≤ M.nd.toNat → K (iI (fst1 (fun e => decide (dg s e = 0) && nr M.wd M.hg (M.dc e) c) (M.nd.toNat - i) i)) h → XW (d + 1) 64 16 [.ref 80, .int (iI s), .int (iI c), .int (iI (lnd (zA h 84 c) (uns s))), .int (iI i)] [] h (KI K) := by
    generalize hb : lnd (zA h 84 c) (uns s) = b at *
    refine upto _ ?_ ?_
    · intro kk
      rw [Nat.sub_self] at kk
      refine w_iload4 r_64_16 ?_
      refine w_aload0 r_64_18 ?_
      refine v_getI r_64_19 (Lk_80 hL) e3 ?_
      refine v_ic_ge r_64_22 (by first | exact zF_in _ _ _ | exact zA_in _ _ _ | omega) (by first | exact zF_in _ _ _ | exact zA_in _ _ _ | omega) (fun _ => ?_) (fun q => absurd q (by omega))
      refine w_iconst (v := iI (-1)) r_64_49 rfl ?_
      refine w_iret r_64_50 ?_
      exact kk
    · intro i hi ih kk
      have bi' := bd i (by omega) (by omega)
      have p := p4 (d := (i : Int)) (by omega)
      have p2 := p4s (d := (i : Int)) (by omega)
      have e5 : 0 ≤ b / 2 ^ (2 * (i : Int)).toNat ∧ b / 2 ^ (2 * (i : Int)).toNat ≤ 2147483647 := by
        rw [p]; rcases p2 with q | q | q | q | q | q <;> rw [q] <;> omega
      have e6 : b / 2 ^ (2 * (i : Int)).toNat % 2 ^ 2 = dg b i := by rw [p]; rfl
      have none0 : b = 0 → fst1 (fun e => decide (dg s e = 0) && nr M.wd M.hg (M.dc e) c) (M.nd.toNat - i) i = -1 := fun z => fst1_no (fun j a b2 => by
        have q := bd j (by omega) (by omega)
        have z2 : dg b j = 0 := by rw [z]; unfold dg; simp
        rw [z2] at q
        by_cases w : (decide (dg s j = 0) && nr M.wd M.hg (M.dc j) c) = true
        · rw [if_pos w] at q; omega
        · simpa using w)
      rw [show M.nd.toNat - i = (M.nd.toNat - (i + 1)) + 1 by omega] at kk none0
      refine w_iload4 r_64_16 ?_
      refine w_aload0 r_64_18 ?_
      refine v_getI r_64_19 (Lk_80 hL) e3 ?_
      refine v_ic_ge r_64_22 (by first | exact zF_in _ _ _ | exact zA_in _ _ _ | omega) (by first | exact zF_in _ _ _ | exact zA_in _ _ _ | omega) (fun q => absurd q (by omega)) (fun _ => ?_)
      refine w_iload3 r_64_25 ?_
      refine v_if_eq r_64_26 (by first | exact zF_in _ _ _ | exact zA_in _ _ _ | omega) (fun c26 => ?_) (fun c26 => ?_)
      · refine w_iconst (v := iI (-1)) r_64_49 rfl ?_
        refine w_iret r_64_50 ?_
        rw [none0 (by omega)] at kk
        exact kk
      · refine w_iload3 r_64_29 ?_
        refine w_iconst (v := iI (2)) r_64_30 rfl ?_
        refine w_iload4 r_64_31 ?_
        refine v_imul r_64_33 ?_
        refine v_ishr (hx := by omega) (hk := by omega) r_64_34 ?_
        refine w_iconst (v := iI (3)) r_64_35 rfl ?_
        refine v_mask 2 (hm := by decide) (hk := by decide) (hx := e5) r_64_36 ?_
        rw [e6] 
        refine v_if_eq r_64_37 (by first | exact zF_in _ _ _ | exact zA_in _ _ _ | omega) (fun c37 => ?_) (fun c37 => ?_)
        · refine w_iinc4 r_64_43 rfl (iI_add _ _) ?_
          refine w_goto r_64_46 ?_
          unfold fst1 at kk
          rw [bi'] at c37
          by_cases w : (decide (dg s (i : Int) = 0) && nr M.wd M.hg (M.dc (i : Int)) c) = true
          · rw [if_pos w] at c37; omega
          · rw [if_neg w] at kk; exact ih kk
        · refine w_iload4 r_64_40 ?_
          refine w_iret r_64_42 ?_
          unfold fst1 at kk
          rw [bi'] at c37
          by_cases w : (decide (dg s (i : Int) = 0) && nr M.wd M.hg (M.dc (i : Int)) c) = true
          · rw [if_pos w] at kk; exact kk
          · rw [if_neg w] at c37; omega
  refine w_aload0 r_64_0 ?_
  refine w_getA (x := 84) r_64_1 (Lk_80 hL) (Lr_80_8 hL) (by decide) ?_
  refine w_iload2 r_64_4 ?_
  refine v_iald r_64_5 (Lk_84 hL) (Lz_84 hL) (by decide) (by omega) (gI_A h 84 _) ?_
  refine w_aload0 r_64_6 ?_
  refine w_iload1 r_64_7 ?_
  refine k_62 r_64_8 (Lk_80 hL) (Nat.le_of_ble_eq_true rfl) ?_
  refine c_unseen hs ?_
  refine v_iandN (hs := sg.1) (he := u.1.1) r_64_11 ?_
  refine w_istore3 r_64_12 rfl ?_
  refine w_iconst (v := iI (0)) r_64_13 rfl ?_
  refine w_istore4 r_64_14 rfl ?_
  exact key 0 (by omega) (by rw [Nat.sub_zero]; exact kk)
end SB
