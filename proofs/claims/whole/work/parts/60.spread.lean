/-! the class spreads values backwards -/
theorem XW.monoV {d m pc : Nat} {ls st : List Value} {h : XH} {KU KU' : XH → Prop} (k : XW d m pc ls st h (KV KU)) (hq : ∀ h', KU h' → KU' h') : XW d m pc ls st h (KV KU') := k.mono (fun v h' q => by
  cases v with
  | none => exact hq h' q
  | some v => exact q)
/-- as many as there are places -/
def rmS (f : Int → Int) : Nat → Int → Bool
  | 0 => fun _ => false
  | j + 1 => upB (rmS f j) (f j)
theorem inj_le {f : Int → Int} {n : Nat} : ∀ m : Nat, (∀ i : Int, 0 ≤ i → i < m → 0 ≤ f i ∧ f i < n) → (∀ i j : Int, 0 ≤ i → i < m → 0 ≤ j → j < m → f i = f j → i = j) → cntT (rmS f m) n = m ∧ ∀ c, rmS f m c = true → ∃ i : Int, 0 ≤ i ∧ i < m ∧ f i = c := by
  intro m
  induction m with
  | zero =>
    intro _ _
    refine ⟨?_, fun c q => absurd q (by show ¬ false = true; decide)⟩
    have : ∀ k, cntT (rmS f 0) k = 0 := by
      intro k
      induction k with
      | zero => rfl
      | succ k ih => show cntT (rmS f 0) k + (if false = true then 1 else 0) = 0; rw [ih]; rfl
    exact this n
  | succ m ih =>
    intro hr hi
    have i := ih (fun i a b => hr i a (by omega)) (fun i j a b c d => hi i j a (by omega) c (by omega))
    have fm := hr m (by omega) (by omega)
    have nf : rmS f m (f m) = false := by
      cases hq : rmS f m (f m) with
      | false => rfl
      | true =>
        obtain ⟨j, j0, j1, j2⟩ := i.2 _ hq
        have := hi j m j0 (by omega) (by omega) (by omega) j2
        omega
    refine ⟨?_, fun c q => ?_⟩
    · show cntT (upB (rmS f m) (f m)) n = m + 1
      rw [cntT_add fm.1 fm.2 nf, i.1]
    · have q' : upB (rmS f m) (f m) c = true := q
      unfold upB at q'
      by_cases z : c = f m
      · exact ⟨m, by omega, by omega, z.symm⟩
      · rw [if_neg z] at q'
        obtain ⟨j, j0, j1, j2⟩ := i.2 c q'
        exact ⟨j, j0, by omega, j2⟩
theorem Hp.room {hp sl val : Int → Int} {sz n c : Int} (H : Hp hp sl sz n val) (hc : 0 ≤ c ∧ c < n) (hm : ¬ Mem hp sz c) : sz < n := by
  have a := H.1
  have il := inj_le (f := fun j => if j = sz then c else hp j) (n := n.toNat) (sz + 1).toNat (fun i i0 i1 => by
    by_cases q : i = sz
    · rw [if_pos q]; omega
    · rw [if_neg q]; have := (H.2.1 i i0 (by omega)).1; omega) (fun i j i0 i1 j0 j1 e => by
    by_cases q : i = sz
    · by_cases q2 : j = sz
      · omega
      · simp only [if_pos q, if_neg q2] at e
        exact absurd ⟨j, j0, by omega, e.symm⟩ hm
    · by_cases q2 : j = sz
      · simp only [if_neg q, if_pos q2] at e
        exact absurd ⟨i, i0, by omega, e⟩ hm
      · simp only [if_neg q, if_neg q2] at e
        have e1 := (H.2.1 i i0 (by omega)).2
        have e2 := (H.2.1 j j0 (by omega)).2
        rw [e, e2] at e1
        exact e1.symm)
  have := cntT_le (rmS (fun j => if j = sz then c else hp j) (sz + 1).toNat) n.toNat
  omega
theorem Hp.valc {hp sl val val' : Int → Int} {sz n : Int} (H : Hp hp sl sz n val) (hv : ∀ c, Mem hp sz c → val' c = val c) : Hp hp sl sz n val' := by
  refine ⟨H.1, H.2.1, fun j j0 j1 => ?_⟩
  rw [hv _ ⟨j, by omega, j1, rfl⟩, hv _ ⟨(j - 1) / 2, by omega, by omega, rfl⟩]
  exact H.2.2 j j0 j1
section SP
variable {d : Nat} {h : XH} {K : Int32 → XH → Prop} {KL64 : Int64 → XH → Prop} {KU : XH → Prop} {wa va zv : Nat} {hp sl val : Int → Int} {sz n i x : Int} {M : XM} {B : XB} {dd go : Int} {bm : Bool}
theorem c_offer {ro c v can : Int} (hL : Lay h) (hw : Wa wa) (hW : WV h wa va zv) (hro : gI h wa 12 = iI ro) (hrb : 0 ≤ ro ∧ ro + n ≤ zv) (hn : n ≤ 100) (hV : VR h va ro n val) (hc : 0 ≤ c ∧ c < n) (hcan : can = 0 ∨ can = 1) (hv : -9223372036854775808 ≤ v ∧ v ≤ 9223372036854775807) (k0 : can = 0 ∨ val c ≤ v → KU h)
    (k1 : can = 1 → v < val c → XW (d + 1) 110 0 [.ref wa, .int (iI c), .null, .null, .null, .null, .null] [] (sL h va (ro + c).toNat (iL v)) (KV KU)) : XW (d + 2) 109 0 [.ref wa, .int (iI c), .long (iL v), .null, .int (iI can)] [] h (KV KU) := by
  have zv1 := hW.2.2.2.2.2.1
  have hvx := hV.in (c := c) hc
  rcases hcan with rfl | rfl
  · refine w_iload4 r_109_0 ?_
    refine v_if_eq r_109_2 (by first | exact zF_in _ _ _ | exact zA_in _ _ _ | omega) (fun _ => ?_) (fun q => absurd q (by decide))
    refine w_vret r_109_38 ?_
    exact k0 (Or.inl rfl)
  · by_cases q : v < val c
    · have k1 := k1 rfl q
      refine w_iload4 r_109_0 ?_
      refine v_if_eq r_109_2 (by first | exact zF_in _ _ _ | exact zA_in _ _ _ | omega) (fun q => absurd q (by decide)) (fun _ => ?_)
      refine w_lload2 r_109_5 ?_
      refine w_aload0 r_109_6 ?_
      refine w_getA (x := va) r_109_7 (Wk hL hw).1 hW.1 hW.2.2.2.2.1 ?_
      refine w_aload0 r_109_10 ?_
      refine v_getI r_109_11 (Wk hL hw).1 hro ?_
      refine w_iload1 r_109_14 ?_
      refine v_iadd r_109_15 ?_
      refine v_lald r_109_16 hW.2.1 hW.2.2.1 (by omega) (by omega) (hV.at hc) ?_
      refine v_lcmp r_109_17 (by first | exact zF_in _ _ _ | exact zA_in _ _ _ | omega) (by first | exact zF_in _ _ _ | exact zA_in _ _ _ | omega) ?_
      rw [if_neg (by omega), if_neg (by omega)] 
      refine v_if_ge r_109_18 (by first | exact zF_in _ _ _ | exact zA_in _ _ _ | omega) (fun q => absurd q (by decide)) (fun _ => ?_)
      refine w_aload0 r_109_21 ?_
      refine w_getA (x := va) r_109_22 (Wk hL hw).1 hW.1 hW.2.2.2.2.1 ?_
      refine w_aload0 r_109_25 ?_
      refine v_getI r_109_26 (Wk hL hw).1 hro ?_
      refine w_iload1 r_109_29 ?_
      refine v_iadd r_109_30 ?_
      refine w_lload2 r_109_31 ?_
      refine v_last r_109_32 hW.2.1 hW.2.2.2.1 hW.2.2.1 (by omega) (by omega) ?_
      refine w_aload0 r_109_33 ?_
      refine w_iload1 r_109_34 ?_
      refine k_110 r_109_35 (Wk hL hw).1 (Nat.le_of_ble_eq_true rfl) ?_
      refine XW.monoV k1 (fun h' q => ?_)
      refine w_vret r_109_38 ?_
      exact q
    · refine w_iload4 r_109_0 ?_
      refine v_if_eq r_109_2 (by first | exact zF_in _ _ _ | exact zA_in _ _ _ | omega) (fun q => absurd q (by decide)) (fun _ => ?_)
      refine w_lload2 r_109_5 ?_
      refine w_aload0 r_109_6 ?_
      refine w_getA (x := va) r_109_7 (Wk hL hw).1 hW.1 hW.2.2.2.2.1 ?_
      refine w_aload0 r_109_10 ?_
      refine v_getI r_109_11 (Wk hL hw).1 hro ?_
      refine w_iload1 r_109_14 ?_
      refine v_iadd r_109_15 ?_
      refine v_lald r_109_16 hW.2.1 hW.2.2.1 (by omega) (by omega) (hV.at hc) ?_
      refine v_lcmp r_109_17 (by first | exact zF_in _ _ _ | exact zA_in _ _ _ | omega) (by first | exact zF_in _ _ _ | exact zA_in _ _ _ | omega) ?_
      refine v_if_ge r_109_18 (by repeat' split; all_goals omega) (fun _ => ?_) (fun q => absurd q (by repeat' split; all_goals omega))
      refine w_vret r_109_38 ?_
      exact k0 (Or.inr (by omega))
theorem see0 {s c : Int} (hP : CMp h M) (hm : M.ok B.g) (hs : 0 ≤ s ∧ s < 1024) (hc : 0 ≤ c ∧ c < M.n) : lnd (zA h 84 c) (uns s) = 0 ↔ (xp B dd M go bm).nw s c = -1 := by
  have o := hm.1
  have hn := M.n_in hm
  have sg := hP.2.2.2.2.1 c hc.1 (by omega)
  have u := uns_in hs
  have bi := lnd_in (b := uns s) sg
  have bd : ∀ e, 0 ≤ e → e < 5 → dg (lnd (zA h 84 c) (uns s)) e = if dg s e = 0 ∧ e < M.nd ∧ nr M.wd M.hg (M.dc e) c = true then 3 else 0 := by
    intro e a b
    rw [dg_lnd sg.1 u.1.1 a, u.2 e a (by omega), sg_dg hP hm hc ⟨a, b⟩]
    by_cases q1 : dg s e = 0
    · rw [if_pos q1]
      by_cases q2 : e < M.nd ∧ nr M.wd M.hg (M.dc e) c = true
      · rw [if_pos q2, if_pos ⟨q1, q2⟩]; decide
      · rw [if_neg q2, if_neg (fun z => q2 z.2)]; decide
    · rw [if_neg q1, show (if dg s e = 0 ∧ e < M.nd ∧ nr M.wd M.hg (M.dc e) c = true then (3 : Int) else 0) = 0 from if_neg (fun z => q1 z.1)]
      by_cases q2 : e < M.nd ∧ nr M.wd M.hg (M.dc e) c = true
      · rw [if_pos q2]; decide
      · rw [if_neg q2]; decide
  have en : (xp B dd M go bm).nd = M.nd := rfl
  rcases (xp B dd M go bm).nw_spec s c (by omega) with ⟨q, f⟩ | ⟨q1, q2, q3, _⟩
  · refine ⟨fun _ => q, fun _ => st_ext bi (by decide) (fun e a b => ?_)⟩
    rw [bd e a b, if_neg (fun z => f e a (by omega) z.2.2 z.1)]
    unfold dg; simp
  · refine ⟨fun z => ?_, fun z => by omega⟩
    have := bd ((xp B dd M go bm).nw s c) q1.1 (by omega)
    rw [if_pos ⟨q2, by omega, q3⟩, z] at this
    unfold dg at this
    simp at this
theorem v_ixorR {m pc len ra rb rc rw : Nat} {ls st : List Value} {Q : Option Value → XH → Prop} {b : Int} (r : xrow m pc = some (.ixor, len, ra, rb, rc, rw)) (hb : 0 ≤ b ∧ b < 4) (kk : XW d m (pc + 1) ls (.int (iI (rv b)) :: st) h Q) : XW d m pc ls (.int (iI 1) :: .int (iI b) :: st) h Q := by
  refine w_ixor r ?_
  have : b = 0 ∨ b = 1 ∨ b = 2 ∨ b = 3 := by omega
  have e : iI b ^^^ iI 1 = iI (rv b) := by rcases this with rfl | rfl | rfl | rfl <;> decide
  rw [e]; exact kk
abbrev PSp (wa va : Nat) : Nat → Nat → Bool := pO (pA [wa + 2, wa + 3, va]) (pF [(wa, 11)])
theorem xp_back (ho : B.ok) (hm : M.ok B.g) (hd : 0 ≤ dd ∧ dd < B.w) : Back (xp B dd M go bm) := fun s c i c0 c1 i0 i1 ht => by
  have o := hm.1
  have t := tlB_in (s := s) ho hm hd ⟨c0, c1⟩ ht
  exact bs_back (by omega) (by omega) ⟨c0, c1⟩ ⟨i0, i1⟩ t.2.1
def SpI (h h1 : XH) (wa va : Nat) (ro : Int) (X : XP) (s : Int) (hp sl val : Int → Int) (sz : Int) (rm : Int → Bool) (t x b : Int) : Prop :=
  (Fr (PSp wa va) h h1 ∧ ∀ j, 0 ≤ j → j < ro ∨ ro + X.n ≤ j → zL h1 va j = zL h va j) ∧ (VR h1 va ro X.n val ∧ HR h1 wa hp sl ∧ gI h1 wa 11 = iI sz) ∧ Hp hp sl sz X.n val ∧ DjV X (Vl X) s val rm t ∧ DjC X s val rm x b ∧ DjM X val rm hp sl sz ∧ (cntT rm X.n.toNat : Int) = t
theorem PHp_Sp : ∀ a j, PSp wa va a j = false → PHp wa a j = false := by
  intro a j q
  simp [pO, pA, pF] at q ⊢
  exact ⟨⟨q.1.1, q.1.2.1⟩, q.2⟩
theorem c_spread {s ro : Int} (hL : Lay h) (hw : Wa wa) (hW : WV h wa va zv) (ho : B.ok) (hd : 0 ≤ dd ∧ dd < B.w) (hP : CMp h M) (hm : M.ok B.g) (hg : 0 ≤ go ∧ go < M.n) (hE : Prep h B dd M) (hs : StM M s) (e2 : gI h wa 2 = iI (b2i bm)) (e4 : gI h wa 4 = iI go) (hro : gI h wa 12 = iI ro) (hrb : 0 ≤ ro ∧ ro + M.n ≤ zv)
    (I0 : SpI h h wa va ro (xp B dd M go bm) s hp sl val sz (fun _ => false) 0 (-1) 0)
    (kk : ∀ h', Fr (PSp wa va) h h' → (∀ j, 0 ≤ j → j < ro ∨ ro + M.n ≤ j → zL h' va j = zL h va j) → VR h' va ro M.n (fun c => cvv (Vl (xp B dd M go bm) s c)) → KU h') : XW (d + 3) 108 0 [.ref wa, .int (iI s), .int (iI (uns s)), .null, .null, .null, .null, .null, .null, .null] [] h (KV KU) := by
  have o := hm.1
  have hn := M.n_in hm
  have hs1 := hs.1
  have u := uns_in hs1
  have zv1 := hW.2.2.2.2.2.1
  have vne := hW.2.2.2.2.2.2
  have hw' : wa = 96 ∨ wa = 101 := hw
  have bi := b2i_in bm
  have hX := xp_ok (go := go) (bm := bm) ho hm hd hg
  have hV := Vl_sol hX
  have hBk := xp_back (go := go) (bm := bm) ho hm hd
  have eXn : (xp B dd M go bm).n = M.n := rfl
  have hst : St (xp B dd M go bm) s := hs
  have sS0 : ∀ h1 : XH, CMp h1 M → ∀ c, 0 ≤ c ∧ c < M.n → (lnd (zA h1 84 c) (uns s) = 0 ↔ (xp B dd M go bm).nw s c = -1) := fun h1 hP c hc => see0 hP hm hs1 hc
  have eXlf : (xp B dd M go bm).lft s = prodTo (fun e => if dg s e = 0 then sumTo (M.wt e) 8 else 1) M.nd.toNat := lft_wt hm
  generalize hXe : xp B dd M go bm = X at *
  have eXnx : X.nx = M.nx := by rw [← hXe]; rfl
  have eXtl : ∀ s, X.tl s = tlB B dd M s := fun s => by rw [← hXe]; rfl
  have eXgo : X.go = go := by rw [← hXe]; rfl
  have eXbm : X.bm = bm := by rw [← hXe]; rfl
  have scI := sc_in (s := s) hX
  have cfr : ∀ h1 : XH, Fr (PSp wa va) h h1 → CMp h1 M ∧ Prep h1 B dd M := fun h1 f => by
    refine ⟨hP.fr f (fun a j p q _ => by simp [pO, pA, pF]; omega), fun c w a b a2 b2 => ?_⟩
    have z := hE c w a b a2 b2
    unfold PE at z ⊢
    have e95 : ∀ i, zA h1 94 i = zA h 94 i := fun i => f.A (by simp [pO, pA, pF]; omega)
    have e96 : ∀ i, zA h1 95 i = zA h 95 i := fun i => f.A (by simp [pO, pA, pF]; omega)
    simp only [e95, e96]
    exact z
  -- the ways back of one cell
  have inn : ∀ (t x vx : Int), 0 ≤ t → t < 100 → (0 ≤ x ∧ x < M.n) → 0 ≤ vx → vx ≤ 400000000000000 + 600000000000 * t →
      (∀ (h1 : XH) (hp sl val : Int → Int) (sz : Int) (rm : Int → Bool) (X6 X7 X8 X9 : Value), SpI h h1 wa va ro X s hp sl val sz rm (t + 1) (-1) 0 → XW (d + 3) 108 23 [.ref wa, .int (iI s), .int (iI (uns s)), .long (iL (X.sc s)), .null, .int (iI (t + 1)), X6, X7, X8, X9] [] h1 (KV KU)) →
      ∀ b : Nat, b ≤ 4 → ∀ (h1 : XH) (hp sl val : Int → Int) (sz : Int) (rm : Int → Bool) (X8 X9 : Value), SpI h h1 wa va ro X s hp sl val sz rm (t + 1) x b → rm x = true → val x = vx → (∀ y, rm y = true → val y ≤ vx) → XW (d + 3) 108 51 [.ref wa, .int (iI s), .int (iI (uns s)), .long (iL (X.sc s)), .null, .int (iI t), .int (iI x), .int (iI b), X8, X9] [] h1 (KV KU) := by
    intro t x vx t0 t1 hx vx0 vx1 nxt
    refine upto _ ?_ ?_
    · intro h1 hp sl val sz rm X8 X9 I hrx hvx hle
      obtain ⟨a1, a2, a3, a4, a5, a6, a7⟩ := I
      refine w_iload7 r_108_51 ?_
      refine w_iconst (v := iI (4)) r_108_53 rfl ?_
      refine v_ic_ge r_108_54 (by first | exact zF_in _ _ _ | exact zA_in _ _ _ | omega) (by first | exact zF_in _ _ _ | exact zA_in _ _ _ | omega) (fun _ => ?_) (fun q => absurd q (by omega))
      refine w_iinc5 r_108_159 rfl (iI_add _ _) ?_
      refine w_goto r_108_162 ?_
      exact nxt h1 hp sl val sz rm _ _ _ _ ⟨a1, a2, a3, a4, a5.end, a6, a7⟩
    · intro b hb ih h1 hp sl val sz rm X8 X9 I hrx hvx hle
      obtain ⟨a1, a2, a3, a4, a5, a6, a7⟩ := id I
      have hL := a1.1.lay hL
      have hW := hW.fr a1.1
      obtain ⟨hP, hE⟩ := cfr h1 a1.1
      have e4 : gI h1 wa 4 = iI go := ((a1.1.2 wa 4 (by simp [pO, pA, pF]; omega)).1).trans e4
      have hro : gI h1 wa 12 = iI ro := ((a1.1.2 wa 12 (by simp [pO, pA, pF]; omega)).1).trans hro
      have hb1 := M.nx_in (way := b) hm hx
      have e85 : gI h1 85 (x * 4 + (b : Int)).toNat = iI (M.nx x b) := by rw [gI_A, hP.2.2.2.2.2.2 x b hx.1 hx.2 (by omega) (by omega)]
      have skip : (∀ c, c = X.nx x b → 0 ≤ c → c < X.n → X.bd s c = false → 0 < X.tl s c (rv b) → X.nx c (rv b) = x → val c ≤ val x + X.sc s * X.tl s c (rv b)) → ∀ (X8 X9 : Value), XW (d + 3) 108 51 [.ref wa, .int (iI s), .int (iI (uns s)), .long (iL (X.sc s)), .null, .int (iI t), .int (iI x), .int (iI ((b : Int) + 1)), X8, X9] [] h1 (KV KU) := fun q X8 X9 =>
        ih h1 hp sl val sz rm X8 X9 ⟨a1, a2, a3, a4, a5.next hBk (by omega) q, a6, a7⟩ hrx hvx hle
      by_cases q1 : M.nx x b < 0
      · refine w_iload7 r_108_51 ?_
        refine w_iconst (v := iI (4)) r_108_53 rfl ?_
        refine v_ic_ge r_108_54 (by first | exact zF_in _ _ _ | exact zA_in _ _ _ | omega) (by first | exact zF_in _ _ _ | exact zA_in _ _ _ | omega) (fun q => absurd q (by omega)) (fun _ => ?_)
        refine w_aload0 r_108_57 ?_
        refine w_getA (x := 80) r_108_58 (Wk hL hw).1 (Wk0 hL hw).1 (by decide) ?_
        refine w_getA (x := 85) r_108_61 (Lk_80 hL) (Lr_80_9 hL) (by decide) ?_
        refine w_iload6 r_108_64 ?_
        refine w_iconst (v := iI (4)) r_108_66 rfl ?_
        refine v_imul r_108_67 ?_
        refine w_iload7 r_108_68 ?_
        refine v_iadd r_108_70 ?_
        refine v_iald r_108_71 (Lk_85 hL) (Lz_85 hL) (by decide) (by omega) e85 ?_
        refine w_istore8 r_108_72 rfl ?_
        refine w_iload8 r_108_74 ?_
        refine v_if_lt r_108_76 (by first | exact zF_in _ _ _ | exact zA_in _ _ _ | omega) (fun _ => ?_) (fun q => absurd q (by omega))
        refine w_iinc7 r_108_153 rfl (iI_add _ _) ?_
        refine w_goto r_108_156 ?_
        exact skip (fun c z z0 => by rw [eXnx] at z; omega) _ _
      · have bdc : X.bd s (M.nx x b) = (decide (M.nx x b = go) || !decide (X.nw s (M.nx x b) = -1)) := by unfold XP.bd; rw [eXgo]
        by_cases q2 : M.nx x b = go
        · refine w_iload7 r_108_51 ?_
          refine w_iconst (v := iI (4)) r_108_53 rfl ?_
          refine v_ic_ge r_108_54 (by first | exact zF_in _ _ _ | exact zA_in _ _ _ | omega) (by first | exact zF_in _ _ _ | exact zA_in _ _ _ | omega) (fun q => absurd q (by omega)) (fun _ => ?_)
          refine w_aload0 r_108_57 ?_
          refine w_getA (x := 80) r_108_58 (Wk hL hw).1 (Wk0 hL hw).1 (by decide) ?_
          refine w_getA (x := 85) r_108_61 (Lk_80 hL) (Lr_80_9 hL) (by decide) ?_
          refine w_iload6 r_108_64 ?_
          refine w_iconst (v := iI (4)) r_108_66 rfl ?_
          refine v_imul r_108_67 ?_
          refine w_iload7 r_108_68 ?_
          refine v_iadd r_108_70 ?_
          refine v_iald r_108_71 (Lk_85 hL) (Lz_85 hL) (by decide) (by omega) e85 ?_
          refine w_istore8 r_108_72 rfl ?_
          refine w_iload8 r_108_74 ?_
          refine v_if_lt r_108_76 (by first | exact zF_in _ _ _ | exact zA_in _ _ _ | omega) (fun q => absurd q (by omega)) (fun _ => ?_)
          refine w_iload8 r_108_79 ?_
          refine w_aload0 r_108_81 ?_
          refine v_getI r_108_82 (Wk hL hw).1 e4 ?_
          refine v_ic_eq r_108_85 (by first | exact zF_in _ _ _ | exact zA_in _ _ _ | omega) (by first | exact zF_in _ _ _ | exact zA_in _ _ _ | omega) (fun _ => ?_) (fun q => absurd q (by omega))
          refine w_iinc7 r_108_153 rfl (iI_add _ _) ?_
          refine w_goto r_108_156 ?_
          exact skip (fun c z z0 z1 z2 => by rw [eXnx] at z; rw [z, bdc] at z2; simp [q2] at z2) _ _
        · have s0 := sS0 h1 hP (M.nx x b) (by omega)
          have sg := hP.2.2.2.2.1 (M.nx x b) (by omega) (by omega)
          have li := lnd_in (b := uns s) sg
          by_cases q3 : lnd (zA h1 84 (M.nx x b)) (uns s) = 0
          · have nw := s0.mp q3
            have bf : X.bd s (M.nx x b) = false := by rw [bdc]; simp [q2, nw]
            have r := rv_in (way := (b : Int)) (by omega)
            have nb : M.nx (M.nx x b) (rv b) = x := bs_back (by omega) (by omega) hx (by omega) (by show 0 ≤ M.nx x b; omega)
            have tup : 0 < tlB B dd M s (M.nx x b) (rv b) → tlB B dd M s (M.nx x b) (rv b) ≤ 40101 := fun q => (tlB_in ho hm hd (by omega) q).1
            have tlo : -4 ≤ tlB B dd M s (M.nx x b) (rv b) := by
              unfold tlB
              rw [nb, if_neg (by omega)]
              have oc := hm.2.1 x hx.1 hx.2
              split
              · exact (tg_in ho hm hd ⟨oc.2.2.1, oc.2.2.2.1⟩ (by omega)).1
              · split
                · decide
                · exact (tg_in ho hm hd (chc_any hm (by omega)) (by omega)).1
            generalize htl : tlB B dd M s (M.nx x b) (rv b) = tt at *
            have mm : -100000000 ≤ X.sc s * tt ∧ X.sc s * tt ≤ 600000000000 := by
              by_cases z : 0 < tt
              · have := mul_in (a := X.sc s) (b := tt) (A := 14348907) (B := 40101) (by omega) (by have := tup z; omega)
                omega
              · have := mul_in (a := X.sc s) (b := -tt) (A := 14348907) (B := 4) (by omega) (by omega)
                rw [Int.mul_neg] at this
                omega
            have evx := a2.1.at (c := x) (by omega)
            rw [hvx] at evx
            have eS : X.tl s (M.nx x b) (rv b) = tt := by rw [eXtl]; exact htl
            have c0 := a4.1 (M.nx x b) (by omega) (by omega)
            have offr : ∀ can : Int, (can = 0 ∧ ¬ 0 < tt) ∨ (can = 1 ∧ 0 < tt) → ∀ X9 : Value, XW (d + 2) 109 0 [.ref wa, .int (iI (M.nx x b)), .long (iL (vx + X.sc s * tt)), .null, .int (iI can)] [] h1 (KV (fun h2 => XW (d + 3) 108 153 [.ref wa, .int (iI s), .int (iI (uns s)), .long (iL (X.sc s)), .null, .int (iI t), .int (iI x), .int (iI b), .int (iI (M.nx x b)), X9] [] h2 (KV KU))) := by
              intro can hcan X9
              refine c_offer hL hw hW hro (by rw [eXn]; exact hrb) (by omega) a2.1 (by omega) (by omega) (by omega) (fun q => ?_) (fun hc1 hlt => ?_)
              · refine w_iinc7 r_108_153 rfl (iI_add _ _) ?_
                refine w_goto r_108_156 ?_
                refine skip (fun c z z0 z1 z2 z3 z4 => ?_) _ _
                rw [eXnx] at z
                rw [z, eS] at z3 ⊢
                rw [hvx]
                omega
              · have htp : 0 < tt := by omega
                have hrc : rm (M.nx x b) = false := by
                  cases hq : rm (M.nx x b) with
                  | false => rfl
                  | true =>
                    have := hle _ hq
                    have := Int.mul_pos (show 0 < X.sc s by omega) htp
                    omega
                have pos := Int.mul_pos (show 0 < X.sc s by omega) htp
                have F2 : Fr (PSp wa va) h1 (sL h1 va (ro + M.nx x b).toNat (iL (vx + X.sc s * tt))) := (Fr.refl _ _).sL va _ _ (by simp [pO, pA])
                have V2 : VR (sL h1 va (ro + M.nx x b).toNat (iL (vx + X.sc s * tt))) va ro X.n (up1 val (M.nx x b) (vx + X.sc s * tt)) := fun c' z0 z1 => by
                  rw [zL_s (by omega) (by omega) (by omega)]
                  unfold up1
                  by_cases w : c' = M.nx x b
                  · rw [if_pos (by omega), if_pos w]
                  · rw [if_neg (by omega), if_neg w]; exact a2.1 c' z0 z1
                have keep2 : ∀ j, 0 ≤ j → j < ro ∨ ro + X.n ≤ j → zL (sL h1 va (ro + M.nx x b).toNat (iL (vx + X.sc s * tt))) va j = zL h va j := fun j j0 j1 => by
                  rw [zL_s (by omega) (by omega) (by omega), if_neg (by omega)]; exact a1.2 j j0 j1
                have D2 := a4.offer (c := M.nx x b) (w := rv b) (v := vx + X.sc s * tt) hrx (by omega) bf hrc (by omega) (by rw [eS]; exact htp) (by rw [eXnx]; exact nb) (by rw [eS, hvx]) (by omega)
                have C2 := a5.offer (c := M.nx x b) (v := vx + X.sc s * tt) hBk (by omega) (by rw [eXnx]) hrc (by rw [eS, hvx]) hlt
                have fin : ∀ (sz' : Int) (h3 : XH) (i : Int), Lft (sL h1 va (ro + M.nx x b).toNat (iL (vx + X.sc s * tt))) h3 wa hp sl sz' X.n (up1 val (M.nx x b) (vx + X.sc s * tt)) i (M.nx x b) → (∀ z, (z = M.nx x b ∨ MemX hp sz' i z) ↔ (z = M.nx x b ∨ Mem hp sz z)) → XW (d + 3) 108 153 [.ref wa, .int (iI s), .int (iI (uns s)), .long (iL (X.sc s)), .null, .int (iI t), .int (iI x), .int (iI b), .int (iI (M.nx x b)), X9] [] h3 (KV KU) := by
                  intro sz' h3 i L hmem
                  obtain ⟨l1, l2, hp', sl', l3, l4, l5, l6⟩ := L
                  refine w_iinc7 r_108_153 rfl (iI_add _ _) ?_
                  refine w_goto r_108_156 ?_
                  have nva := va_ne hw hW
                  have M2 := a6.offer (c := M.nx x b) (v := vx + X.sc s * tt) (by omega) hrc (by omega) (fun y hy => by have := hle y hy; omega) (fun z => (l5 z).trans (hmem z)) l6
                  have nx' : ¬ x = M.nx x b := fun w => by rw [← w, hrx] at hrc; exact absurd hrc (by decide)
                  refine ih h3 hp' sl' _ sz' rm _ _ ⟨⟨(a1.1.trans F2).trans (l1.mono PHp_Sp), fun j j0 j1 => by rw [l1.L (nva _)]; exact keep2 j j0 j1⟩, ⟨V2.fr l1 nva, l3, l2⟩, l4, D2, C2, M2, a7⟩ hrx (by rw [up1_ne nx']; exact hvx) (fun y hy => ?_)
                  rw [up1_ne (fun w => by rw [w, hrc] at hy; exact absurd hy (by decide))]
                  exact hle y hy
                have R2 : HR (sL h1 va (ro + M.nx x b).toNat (iL (vx + X.sc s * tt))) wa hp sl := a2.2.1
                have Z2 : gI (sL h1 va (ro + M.nx x b).toNat (iL (vx + X.sc s * tt))) wa 11 = iI sz := a2.2.2
                by_cases hmm : Mem hp sz (M.nx x b)
                · obtain ⟨j, j0, j1, j2⟩ := hmm
                  have pj := (a3.2.1 j j0 j1).2
                  rw [j2] at pj
                  have HX := a3.lowX (val' := up1 val (M.nx x b) (vx + X.sc s * tt)) j0 j1 j2 (fun c _ _ w => up1_ne w) (by rw [up1_at]; omega)
                  exact c_lift (sz := sz) (i := j) hL hw (hW.fr F2) hro (by rw [eXn]; exact hrb) (by omega) V2 R2 Z2 HX j1 (Or.inr ⟨pj, rfl⟩) (fun h3 L => fin sz h3 j L (fun z => memX_old a3 ⟨j0, j1⟩ j2))
                · have slc := a6.2.2.2 (M.nx x b) (by omega) (by omega) hmm hrc
                  have szl : sz < X.n := a3.room (by omega) hmm
                  have HX : HpX hp sl (sz + 1) X.n (up1 val (M.nx x b) (vx + X.sc s * tt)) sz (M.nx x b) true := (a3.valc (val' := up1 val (M.nx x b) (vx + X.sc s * tt)) (fun c hcm => up1_ne (fun w => hmm (by rw [← w]; exact hcm)))).addX (by omega) szl hmm
                  exact c_lift (sz := sz + 1) (i := sz) hL hw (hW.fr F2) hro (by rw [eXn]; exact hrb) (by omega) V2 R2 Z2 HX (by omega) (Or.inl ⟨slc, rfl, rfl⟩) (fun h3 L => fin (sz + 1) h3 sz L (fun z => by rw [memX_new]))
            by_cases q4 : 0 < tt
            · refine w_iload7 r_108_51 ?_
              refine w_iconst (v := iI (4)) r_108_53 rfl ?_
              refine v_ic_ge r_108_54 (by first | exact zF_in _ _ _ | exact zA_in _ _ _ | omega) (by first | exact zF_in _ _ _ | exact zA_in _ _ _ | omega) (fun q => absurd q (by omega)) (fun _ => ?_)
              refine w_aload0 r_108_57 ?_
              refine w_getA (x := 80) r_108_58 (Wk hL hw).1 (Wk0 hL hw).1 (by decide) ?_
              refine w_getA (x := 85) r_108_61 (Lk_80 hL) (Lr_80_9 hL) (by decide) ?_
              refine w_iload6 r_108_64 ?_
              refine w_iconst (v := iI (4)) r_108_66 rfl ?_
              refine v_imul r_108_67 ?_
              refine w_iload7 r_108_68 ?_
              refine v_iadd r_108_70 ?_
              refine v_iald r_108_71 (Lk_85 hL) (Lz_85 hL) (by decide) (by omega) e85 ?_
              refine w_istore8 r_108_72 rfl ?_
              refine w_iload8 r_108_74 ?_
              refine v_if_lt r_108_76 (by first | exact zF_in _ _ _ | exact zA_in _ _ _ | omega) (fun q => absurd q (by omega)) (fun _ => ?_)
              refine w_iload8 r_108_79 ?_
              refine w_aload0 r_108_81 ?_
              refine v_getI r_108_82 (Wk hL hw).1 e4 ?_
              refine v_ic_eq r_108_85 (by first | exact zF_in _ _ _ | exact zA_in _ _ _ | omega) (by first | exact zF_in _ _ _ | exact zA_in _ _ _ | omega) (fun q => absurd q (by omega)) (fun _ => ?_)
              refine w_aload0 r_108_88 ?_
              refine w_getA (x := 80) r_108_89 (Wk hL hw).1 (Wk0 hL hw).1 (by decide) ?_
              refine w_getA (x := 84) r_108_92 (Lk_80 hL) (Lr_80_8 hL) (by decide) ?_
              refine w_iload8 r_108_95 ?_
              refine v_iald r_108_97 (Lk_84 hL) (Lz_84 hL) (by decide) (by omega) (gI_A h1 84 _) ?_
              refine w_iload2 r_108_98 ?_
              refine v_iandN (hs := sg.1) (he := u.1.1) r_108_99 ?_
              refine v_if_ne r_108_100 (by first | exact zF_in _ _ _ | exact zA_in _ _ _ | omega) (fun q => absurd q (by omega)) (fun _ => ?_)
              refine w_aload0 r_108_103 ?_
              refine w_getA (x := 91) r_108_104 (Wk hL hw).1 (Wk0 hL hw).2 (by decide) ?_
              refine w_iload8 r_108_107 ?_
              refine w_iload7 r_108_109 ?_
              refine w_iconst (v := iI (1)) r_108_111 rfl ?_
              refine v_ixorR (hb := by omega) r_108_112 ?_
              refine w_iload1 r_108_113 ?_
              refine k_86 r_108_114 (Lk_91 hL) (Nat.le_of_ble_eq_true rfl) ?_
              refine c_toll hL hP hm hE (by omega) (by omega) hs1 (fun e a b => ((hs.2 e a (by omega)).1 b)) ?_
              rw [htl] 
              refine w_istore9 r_108_117 rfl ?_
              refine w_aload0 r_108_119 ?_
              refine w_iload8 r_108_120 ?_
              refine w_aload0 r_108_122 ?_
              refine w_getA (x := va) r_108_123 (Wk hL hw).1 hW.1 hW.2.2.2.2.1 ?_
              refine w_aload0 r_108_126 ?_
              refine v_getI r_108_127 (Wk hL hw).1 hro ?_
              refine w_iload6 r_108_130 ?_
              refine v_iadd r_108_132 ?_
              refine v_lald r_108_133 hW.2.1 hW.2.2.1 (by omega) (by omega) evx ?_
              refine w_lload3 r_108_134 ?_
              refine w_iload9 r_108_135 ?_
              refine v_i2l r_108_137 (by first | exact zF_in _ _ _ | exact zA_in _ _ _ | omega) ?_
              refine v_lmul r_108_138 ?_
              refine v_ladd r_108_139 ?_
              refine w_iload9 r_108_140 ?_
              refine v_if_le r_108_142 (by first | exact zF_in _ _ _ | exact zA_in _ _ _ | omega) (fun q => absurd q (by omega)) (fun _ => ?_)
              refine w_iconst (v := iI (1)) r_108_145 rfl ?_
              refine w_goto r_108_146 ?_
              refine k_109 r_108_150 (Wk hL hw).1 (Nat.le_of_ble_eq_true rfl) ?_
              refine offr 1 (Or.inr ⟨rfl, q4⟩) _
              all_goals skip
            · refine w_iload7 r_108_51 ?_
              refine w_iconst (v := iI (4)) r_108_53 rfl ?_
              refine v_ic_ge r_108_54 (by first | exact zF_in _ _ _ | exact zA_in _ _ _ | omega) (by first | exact zF_in _ _ _ | exact zA_in _ _ _ | omega) (fun q => absurd q (by omega)) (fun _ => ?_)
              refine w_aload0 r_108_57 ?_
              refine w_getA (x := 80) r_108_58 (Wk hL hw).1 (Wk0 hL hw).1 (by decide) ?_
              refine w_getA (x := 85) r_108_61 (Lk_80 hL) (Lr_80_9 hL) (by decide) ?_
              refine w_iload6 r_108_64 ?_
              refine w_iconst (v := iI (4)) r_108_66 rfl ?_
              refine v_imul r_108_67 ?_
              refine w_iload7 r_108_68 ?_
              refine v_iadd r_108_70 ?_
              refine v_iald r_108_71 (Lk_85 hL) (Lz_85 hL) (by decide) (by omega) e85 ?_
              refine w_istore8 r_108_72 rfl ?_
              refine w_iload8 r_108_74 ?_
              refine v_if_lt r_108_76 (by first | exact zF_in _ _ _ | exact zA_in _ _ _ | omega) (fun q => absurd q (by omega)) (fun _ => ?_)
              refine w_iload8 r_108_79 ?_
              refine w_aload0 r_108_81 ?_
              refine v_getI r_108_82 (Wk hL hw).1 e4 ?_
              refine v_ic_eq r_108_85 (by first | exact zF_in _ _ _ | exact zA_in _ _ _ | omega) (by first | exact zF_in _ _ _ | exact zA_in _ _ _ | omega) (fun q => absurd q (by omega)) (fun _ => ?_)
              refine w_aload0 r_108_88 ?_
              refine w_getA (x := 80) r_108_89 (Wk hL hw).1 (Wk0 hL hw).1 (by decide) ?_
              refine w_getA (x := 84) r_108_92 (Lk_80 hL) (Lr_80_8 hL) (by decide) ?_
              refine w_iload8 r_108_95 ?_
              refine v_iald r_108_97 (Lk_84 hL) (Lz_84 hL) (by decide) (by omega) (gI_A h1 84 _) ?_
              refine w_iload2 r_108_98 ?_
              refine v_iandN (hs := sg.1) (he := u.1.1) r_108_99 ?_
              refine v_if_ne r_108_100 (by first | exact zF_in _ _ _ | exact zA_in _ _ _ | omega) (fun q => absurd q (by omega)) (fun _ => ?_)
              refine w_aload0 r_108_103 ?_
              refine w_getA (x := 91) r_108_104 (Wk hL hw).1 (Wk0 hL hw).2 (by decide) ?_
              refine w_iload8 r_108_107 ?_
              refine w_iload7 r_108_109 ?_
              refine w_iconst (v := iI (1)) r_108_111 rfl ?_
              refine v_ixorR (hb := by omega) r_108_112 ?_
              refine w_iload1 r_108_113 ?_
              refine k_86 r_108_114 (Lk_91 hL) (Nat.le_of_ble_eq_true rfl) ?_
              refine c_toll hL hP hm hE (by omega) (by omega) hs1 (fun e a b => ((hs.2 e a (by omega)).1 b)) ?_
              rw [htl] 
              refine w_istore9 r_108_117 rfl ?_
              refine w_aload0 r_108_119 ?_
              refine w_iload8 r_108_120 ?_
              refine w_aload0 r_108_122 ?_
              refine w_getA (x := va) r_108_123 (Wk hL hw).1 hW.1 hW.2.2.2.2.1 ?_
              refine w_aload0 r_108_126 ?_
              refine v_getI r_108_127 (Wk hL hw).1 hro ?_
              refine w_iload6 r_108_130 ?_
              refine v_iadd r_108_132 ?_
              refine v_lald r_108_133 hW.2.1 hW.2.2.1 (by omega) (by omega) evx ?_
              refine w_lload3 r_108_134 ?_
              refine w_iload9 r_108_135 ?_
              refine v_i2l r_108_137 (by first | exact zF_in _ _ _ | exact zA_in _ _ _ | omega) ?_
              refine v_lmul r_108_138 ?_
              refine v_ladd r_108_139 ?_
              refine w_iload9 r_108_140 ?_
              refine v_if_le r_108_142 (by first | exact zF_in _ _ _ | exact zA_in _ _ _ | omega) (fun _ => ?_) (fun q => absurd q (by omega))
              refine w_iconst (v := iI (0)) r_108_149 rfl ?_
              refine k_109 r_108_150 (Wk hL hw).1 (Nat.le_of_ble_eq_true rfl) ?_
              refine offr 0 (Or.inl ⟨rfl, q4⟩) _
              all_goals skip
          · have bt : X.bd s (M.nx x b) = true := by
              rw [bdc]
              have : ¬ X.nw s (M.nx x b) = -1 := fun z => q3 (s0.mpr z)
              simp [this]
            refine w_iload7 r_108_51 ?_
            refine w_iconst (v := iI (4)) r_108_53 rfl ?_
            refine v_ic_ge r_108_54 (by first | exact zF_in _ _ _ | exact zA_in _ _ _ | omega) (by first | exact zF_in _ _ _ | exact zA_in _ _ _ | omega) (fun q => absurd q (by omega)) (fun _ => ?_)
            refine w_aload0 r_108_57 ?_
            refine w_getA (x := 80) r_108_58 (Wk hL hw).1 (Wk0 hL hw).1 (by decide) ?_
            refine w_getA (x := 85) r_108_61 (Lk_80 hL) (Lr_80_9 hL) (by decide) ?_
            refine w_iload6 r_108_64 ?_
            refine w_iconst (v := iI (4)) r_108_66 rfl ?_
            refine v_imul r_108_67 ?_
            refine w_iload7 r_108_68 ?_
            refine v_iadd r_108_70 ?_
            refine v_iald r_108_71 (Lk_85 hL) (Lz_85 hL) (by decide) (by omega) e85 ?_
            refine w_istore8 r_108_72 rfl ?_
            refine w_iload8 r_108_74 ?_
            refine v_if_lt r_108_76 (by first | exact zF_in _ _ _ | exact zA_in _ _ _ | omega) (fun q => absurd q (by omega)) (fun _ => ?_)
            refine w_iload8 r_108_79 ?_
            refine w_aload0 r_108_81 ?_
            refine v_getI r_108_82 (Wk hL hw).1 e4 ?_
            refine v_ic_eq r_108_85 (by first | exact zF_in _ _ _ | exact zA_in _ _ _ | omega) (by first | exact zF_in _ _ _ | exact zA_in _ _ _ | omega) (fun q => absurd q (by omega)) (fun _ => ?_)
            refine w_aload0 r_108_88 ?_
            refine w_getA (x := 80) r_108_89 (Wk hL hw).1 (Wk0 hL hw).1 (by decide) ?_
            refine w_getA (x := 84) r_108_92 (Lk_80 hL) (Lr_80_8 hL) (by decide) ?_
            refine w_iload8 r_108_95 ?_
            refine v_iald r_108_97 (Lk_84 hL) (Lz_84 hL) (by decide) (by omega) (gI_A h1 84 _) ?_
            refine w_iload2 r_108_98 ?_
            refine v_iandN (hs := sg.1) (he := u.1.1) r_108_99 ?_
            refine v_if_ne r_108_100 (by first | exact zF_in _ _ _ | exact zA_in _ _ _ | omega) (fun _ => ?_) (fun q => absurd q (by omega))
            refine w_iinc7 r_108_153 rfl (iI_add _ _) ?_
            refine w_goto r_108_156 ?_
            exact skip (fun c z z0 z1 z2 => by rw [eXnx] at z; rw [z, bt] at z2; exact absurd z2 (by decide)) _ _
  have fin : ∀ (t : Nat) (h1 : XH) (hp sl val : Int → Int) (sz : Int) (rm : Int → Bool), (t : Int) ≤ M.n → SpI h h1 wa va ro X s hp sl val sz rm t (-1) 0 → (∀ c, 0 ≤ c → c < M.n → val c < 1152921504606846976 → rm c = true) → KU h1 := by
    intro t h1 hp sl val sz rm ht I hf
    obtain ⟨a1, a2, a3, a4, a5, a6, a7⟩ := I
    have dn := a4.done hX hV hst (by omega) a5 (fun c c0 c1 => hf c c0 (by omega))
    refine kk h1 a1.1 (fun j j0 j1 => a1.2 j j0 (by omega)) (fun c c0 c1 => ?_)
    rw [a2.1 c c0 (by omega)]
    exact dn c c0 (by omega)
  have key : ∀ t : Nat, t ≤ M.n.toNat → ∀ (h1 : XH) (hp sl val : Int → Int) (sz : Int) (rm : Int → Bool) (X6 X7 X8 X9 : Value), SpI h h1 wa va ro X s hp sl val sz rm t (-1) 0 → XW (d + 3) 108 23 [.ref wa, .int (iI s), .int (iI (uns s)), .long (iL (X.sc s)), .null, .int (iI t), X6, X7, X8, X9] [] h1 (KV KU) := by
    refine upto _ ?_ ?_
    · intro h1 hp sl val sz rm X6 X7 X8 X9 I
      have hL := I.1.1.lay hL
      obtain ⟨hP, hE⟩ := cfr h1 I.1.1
      have ec : gI h1 80 2 = iI M.n := by rw [gI_F, hP.1.2.2.1]
      have all := cntT_all (rm := rm) (n := X.n.toNat) (by have := I.2.2.2.2.2.2; omega)
      refine w_iload5 r_108_23 ?_
      refine w_aload0 r_108_25 ?_
      refine w_getA (x := 80) r_108_26 (Wk hL hw).1 (Wk0 hL hw).1 (by decide) ?_
      refine v_getI r_108_29 (Lk_80 hL) ec ?_
      refine v_ic_ge r_108_32 (by first | exact zF_in _ _ _ | exact zA_in _ _ _ | omega) (by first | exact zF_in _ _ _ | exact zA_in _ _ _ | omega) (fun _ => ?_) (fun q => absurd q (by omega))
      refine w_vret r_108_165 ?_
      exact fin M.n.toNat h1 hp sl val sz rm (by omega) I (fun c c0 c1 _ => all c c0 (by omega))
    · intro t ht ih h1 hp sl val sz rm X6 X7 X8 X9 I
      have hL := I.1.1.lay hL
      have hW := hW.fr I.1.1
      obtain ⟨hP, hE⟩ := cfr h1 I.1.1
      have ec : gI h1 80 2 = iI M.n := by rw [gI_F, hP.1.2.2.1]
      have hro : gI h1 wa 12 = iI ro := ((I.1.1.2 wa 12 (by simp [pO, pA, pF]; omega)).1).trans hro
      obtain ⟨a1, a2, a3, a4, a5, a6, a7⟩ := id I
      have sz0 := a3.1
      by_cases q : sz ≤ 0
      · refine w_iload5 r_108_23 ?_
        refine w_aload0 r_108_25 ?_
        refine w_getA (x := 80) r_108_26 (Wk hL hw).1 (Wk0 hL hw).1 (by decide) ?_
        refine v_getI r_108_29 (Lk_80 hL) ec ?_
        refine v_ic_ge r_108_32 (by first | exact zF_in _ _ _ | exact zA_in _ _ _ | omega) (by first | exact zF_in _ _ _ | exact zA_in _ _ _ | omega) (fun q => absurd q (by omega)) (fun _ => ?_)
        refine w_aload0 r_108_35 ?_
        refine v_getI r_108_36 (Wk hL hw).1 (a2.2.2) ?_
        refine v_if_le r_108_39 (by first | exact zF_in _ _ _ | exact zA_in _ _ _ | omega) (fun _ => ?_) (fun q => absurd q (by omega))
        refine w_vret r_108_165 ?_
        refine fin t h1 hp sl val sz rm (by omega) I (fun c c0 c1 c2 => ?_)
        rcases a6.1 c c0 (by omega) c2 with w | ⟨j, j0, j1, _⟩
        · exact w
        · omega
      · have top : Mem hp sz (hp 0) := ⟨0, by omega, by omega, rfl⟩
        have tp := a6.2.1 _ top
        have c0 := a4.1 (hp 0) tp.1.1 tp.1.2
        refine w_iload5 r_108_23 ?_
        refine w_aload0 r_108_25 ?_
        refine w_getA (x := 80) r_108_26 (Wk hL hw).1 (Wk0 hL hw).1 (by decide) ?_
        refine v_getI r_108_29 (Lk_80 hL) ec ?_
        refine v_ic_ge r_108_32 (by first | exact zF_in _ _ _ | exact zA_in _ _ _ | omega) (by first | exact zF_in _ _ _ | exact zA_in _ _ _ | omega) (fun q => absurd q (by omega)) (fun _ => ?_)
        refine w_aload0 r_108_35 ?_
        refine v_getI r_108_36 (Wk hL hw).1 (a2.2.2) ?_
        refine v_if_le r_108_39 (by first | exact zF_in _ _ _ | exact zA_in _ _ _ | omega) (fun q => absurd q (by omega)) (fun _ => ?_)
        refine w_aload0 r_108_42 ?_
        refine k_112 r_108_43 (Wk hL hw).1 (Nat.le_of_ble_eq_true rfl) ?_
        refine c_takeLeast (n := X.n) hL hw hW hro (by rw [eXn]; exact hrb) (by omega) a2.1 a2.2.1 a2.2.2 a3 (by omega) (fun h2 T => ?_)
        refine w_istore6 r_108_46 rfl ?_
        refine w_iconst (v := iI (0)) r_108_48 rfl ?_
        refine w_istore7 r_108_49 rfl ?_
        obtain ⟨l1, l2, hp', sl', l3, l4, l5, l6⟩ := T
        have nva := va_ne hw hW
        refine inn t (hp 0) (val (hp 0)) (by omega) (by omega) (by omega) c0.1 (by omega) (fun h1 hp sl val sz rm X6 X7 X8 X9 I => ih h1 hp sl val sz rm X6 X7 X8 X9 I) 0 (by omega) h2 hp' sl' val (sz - 1) (upB rm (hp 0)) _ _ ⟨⟨a1.1.trans (l1.mono PHp_Sp), fun j j0 j1 => by rw [l1.L (nva _)]; exact a1.2 j j0 j1⟩, ⟨a2.1.fr l1 nva, l3, l2⟩, l4, a4.take ⟨tp.1, tp.2.1⟩ (by omega), a5.take (fun y hy => (a4.2.2.2 y hy).1.1), a6.take a3 (by omega) l5 l6, ?_⟩ (by unfold upB; rw [if_pos rfl]) rfl (fun y hy => ?_)
        · rw [cntT_add tp.1.1 (by omega) tp.2.2]; omega
        · unfold upB at hy
          by_cases z : y = hp 0
          · rw [z]; exact Int.le_refl _
          · rw [if_neg z] at hy; exact a6.2.2.1 y _ hy top
  by_cases hb : bm = true
  · have e0 : b2i bm = 1 := by rw [hb]; rfl
    have e1 : X.sc s = prodTo (fun e => if dg s e = 0 then sumTo (M.wt e) 8 else 1) M.nd.toNat := by unfold XP.sc; rw [eXbm, if_pos hb, eXlf]
    refine w_aload0 r_108_0 ?_
    refine v_getI r_108_1 (Wk hL hw).1 e2 ?_
    refine v_if_eq r_108_4 (by first | exact zF_in _ _ _ | exact zA_in _ _ _ | omega) (fun q => absurd q (by omega)) (fun _ => ?_)
    refine w_aload0 r_108_7 ?_
    refine w_getA (x := 80) r_108_8 (Wk hL hw).1 (Wk0 hL hw).1 (by decide) ?_
    refine w_iload1 r_108_11 ?_
    refine k_63 r_108_12 (Lk_80 hL) (Nat.le_of_ble_eq_true rfl) ?_
    refine c_totalWeight hL hP hm hs1 ?_
    refine w_goto r_108_15 ?_
    refine w_lstore3 r_108_19 rfl ?_
    refine w_iconst (v := iI (0)) r_108_20 rfl ?_
    refine w_istore5 r_108_21 rfl ?_
    rw [← e1]
    exact key 0 (by omega) h hp sl val sz _ _ _ _ _ I0
  · have e0 : b2i bm = 0 := by unfold b2i; rw [if_neg hb]
    have e1 : X.sc s = 1 := by unfold XP.sc; rw [eXbm, if_neg hb]
    have k0 := key 0 (by omega) h hp sl val sz (fun _ => false) .null .null .null .null I0
    rw [e1] at k0
    refine w_aload0 r_108_0 ?_
    refine v_getI r_108_1 (Wk hL hw).1 e2 ?_
    refine v_if_eq r_108_4 (by first | exact zF_in _ _ _ | exact zA_in _ _ _ | omega) (fun _ => ?_) (fun q => absurd q (by omega))
    refine w_lconst (v := iL 1) r_108_18 rfl ?_
    refine w_lstore3 r_108_19 rfl ?_
    refine w_iconst (v := iI (0)) r_108_20 rfl ?_
    refine w_istore5 r_108_21 rfl ?_
    exact k0
end SP
