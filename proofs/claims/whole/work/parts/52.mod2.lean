/-! the Model: near, news, tables of costs -/
section MO2
variable {d : Nat} {h : XH} {K : Int32 → XH → Prop} {KL64 : Int64 → XH → Prop} {KU : XH → Prop} {M : XM} {G : Int} {B : XB} {dd : Int}
theorem nr_sym {c a : Int} (hm : M.ok G) (hc : 0 ≤ c ∧ c < M.n) (ha : 0 ≤ a ∧ a < M.n) : nr M.wd M.hg a c = true ↔ (c = a ∨ ∃ w, 0 ≤ w ∧ w < 4 ∧ M.nx c w = a) := by
  have o := hm.1
  rw [nr_ways]
  constructor
  · rintro (q | ⟨w, w0, w1, q⟩)
    · exact Or.inl q
    · right
      have r := rv_in (way := w) ⟨w0, w1⟩
      refine ⟨rv w, r.1, r.2.1, ?_⟩
      have b := bs_back (wd := M.wd) (hg := M.hg) (c := a) (way := w) (by omega) (by omega) ha ⟨w0, w1⟩ (by omega)
      rw [q] at b
      exact b
  · rintro (q | ⟨w, w0, w1, q⟩)
    · exact Or.inl q
    · right
      have r := rv_in (way := w) ⟨w0, w1⟩
      refine ⟨rv w, r.1, r.2.1, ?_⟩
      have b := bs_back (wd := M.wd) (hg := M.hg) (c := c) (way := w) (by omega) (by omega) hc ⟨w0, w1⟩ (by show 0 ≤ M.nx c w; omega)
      have q' : bs M.wd M.hg c w = a := q
      rw [q'] at b
      exact b
theorem m_isNear {c e : Int} (hL : Lay h) (hP : MMp h M) (hm : M.ok G) (hc : 0 ≤ c ∧ c < M.n) (he : 0 ≤ e ∧ e < M.nd) (kt : nr M.wd M.hg (M.dc e) c = true → K (iI 1) h) (kf : nr M.wd M.hg (M.dc e) c = false → K (iI 0) h) : XW (d + 2) 220 0 [.ref 118, .int (iI c), .int (iI e), .null, .null] [] h (KI K) := by
  have o := hm.1
  have od := hm.2.2.1 e he.1 he.2
  have hn := M.n_in hm
  have ns := nr_sym hm hc (a := M.dc e) (by omega)
  have key : ∀ w : Nat, w ≤ 4 → ∀ b : Int, (b = 1 ∧ (∃ v, 0 ≤ v ∧ v < (w : Int) ∧ M.nx c v = M.dc e)) ∨ (b = 0 ∧ ¬ c = M.dc e ∧ ∀ v, 0 ≤ v → v < (w : Int) → ¬ M.nx c v = M.dc e) → XW (d + 2) 220 17 [.ref 118, .int (iI c), .int (iI e), .int (iI b), .int (iI w)] [] h (KI K) := by
    refine upto _ ?_ ?_
    · intro b hb
      rcases hb with ⟨rfl, v, v0, v1, v2⟩ | ⟨rfl, q0, q1⟩
      · refine w_iload4 r_220_17 ?_
        refine w_iconst (v := iI (4)) r_220_19 rfl ?_
        refine v_ic_ge r_220_20 (by first | exact zF_in _ _ _ | exact zA_in _ _ _ | omega) (by first | exact zF_in _ _ _ | exact zA_in _ _ _ | omega) (fun _ => ?_) (fun q => absurd q (by omega))
        refine w_iload3 r_220_55 ?_
        refine w_zret r_220_56 (by decide) ?_
        exact kt (ns.mpr (Or.inr ⟨v, v0, by omega, v2⟩))
      · refine w_iload4 r_220_17 ?_
        refine w_iconst (v := iI (4)) r_220_19 rfl ?_
        refine v_ic_ge r_220_20 (by first | exact zF_in _ _ _ | exact zA_in _ _ _ | omega) (by first | exact zF_in _ _ _ | exact zA_in _ _ _ | omega) (fun _ => ?_) (fun q => absurd q (by omega))
        refine w_iload3 r_220_55 ?_
        refine w_zret r_220_56 (by decide) ?_
        refine kf ?_
        have : ¬ nr M.wd M.hg (M.dc e) c = true := fun z => by
          rcases ns.mp z with q | ⟨v, v0, v1, v2⟩
          · exact q0 q
          · exact q1 v v0 (by omega) v2
        simpa using this
    · intro w hw ih b hb
      have hb1 := M.nx_in (way := w) hm hc
      rcases hb with ⟨rfl, v, v0, v1, v2⟩ | ⟨rfl, q0, q1⟩
      · refine w_iload4 r_220_17 ?_
        refine w_iconst (v := iI (4)) r_220_19 rfl ?_
        refine v_ic_ge r_220_20 (by first | exact zF_in _ _ _ | exact zA_in _ _ _ | omega) (by first | exact zF_in _ _ _ | exact zA_in _ _ _ | omega) (fun q => absurd q (by omega)) (fun _ => ?_)
        refine w_iload3 r_220_23 ?_
        refine v_if_ne r_220_24 (by first | exact zF_in _ _ _ | exact zA_in _ _ _ | omega) (fun _ => ?_) (fun q => absurd q (by omega))
        refine w_iconst (v := iI (1)) r_220_43 rfl ?_
        refine w_goto r_220_44 ?_
        refine w_istore3 r_220_48 rfl ?_
        refine w_iinc4 r_220_49 rfl (iI_add _ _) ?_
        refine w_goto r_220_52 ?_
        exact ih 1 (Or.inl ⟨rfl, v, v0, by omega, v2⟩)
      · refine w_iload4 r_220_17 ?_
        refine w_iconst (v := iI (4)) r_220_19 rfl ?_
        refine v_ic_ge r_220_20 (by first | exact zF_in _ _ _ | exact zA_in _ _ _ | omega) (by first | exact zF_in _ _ _ | exact zA_in _ _ _ | omega) (fun q => absurd q (by omega)) (fun _ => ?_)
        refine w_iload3 r_220_23 ?_
        refine v_if_ne r_220_24 (by first | exact zF_in _ _ _ | exact zA_in _ _ _ | omega) (fun q => absurd q (by omega)) (fun _ => ?_)
        refine w_aload0 r_220_27 ?_
        refine w_iload1 r_220_28 ?_
        refine w_iload4 r_220_29 ?_
        refine k_206 r_220_31 (Lk_118 hL) (Nat.le_of_ble_eq_true rfl) ?_
        refine m_bs hL hP hm hc (by omega) ?_
        refine w_aload0 r_220_34 ?_
        refine w_getA (x := 136) r_220_35 (Lk_118 hL) (Lr_118_44 hL) (by decide) ?_
        refine w_iload2 r_220_38 ?_
        refine v_iald r_220_39 (Lk_136 hL) (Lz_136 hL) (by decide) (by omega) (e137 hP he) ?_
        refine v_ic_ne r_220_40 (by first | exact zF_in _ _ _ | exact zA_in _ _ _ | omega) (by first | exact zF_in _ _ _ | exact zA_in _ _ _ | omega) (fun c40 => ?_) (fun c40 => ?_)
        · refine w_iconst (v := iI (0)) r_220_47 rfl ?_
          refine w_istore3 r_220_48 rfl ?_
          refine w_iinc4 r_220_49 rfl (iI_add _ _) ?_
          refine w_goto r_220_52 ?_
          first | exact ih 1 (Or.inl ⟨rfl, w, by omega, by omega, by omega⟩) | exact ih 0 (Or.inr ⟨rfl, q0, fun v a b => if z : v = (w : Int) then (by rw [z]; omega) else q1 v a (by omega)⟩)
        · refine w_iconst (v := iI (1)) r_220_43 rfl ?_
          refine w_goto r_220_44 ?_
          refine w_istore3 r_220_48 rfl ?_
          refine w_iinc4 r_220_49 rfl (iI_add _ _) ?_
          refine w_goto r_220_52 ?_
          first | exact ih 1 (Or.inl ⟨rfl, w, by omega, by omega, by omega⟩) | exact ih 0 (Or.inr ⟨rfl, q0, fun v a b => if z : v = (w : Int) then (by rw [z]; omega) else q1 v a (by omega)⟩)
  refine w_aload0 r_220_0 ?_
  refine w_getA (x := 136) r_220_1 (Lk_118 hL) (Lr_118_44 hL) (by decide) ?_
  refine w_iload2 r_220_4 ?_
  refine v_iald r_220_5 (Lk_136 hL) (Lz_136 hL) (by decide) (by omega) (e137 hP he) ?_
  refine w_iload1 r_220_6 ?_
  refine v_ic_ne r_220_7 (by first | exact zF_in _ _ _ | exact zA_in _ _ _ | omega) (by first | exact zF_in _ _ _ | exact zA_in _ _ _ | omega) (fun c7 => ?_) (fun c7 => ?_)
  · refine w_iconst (v := iI (0)) r_220_12 rfl ?_
    refine w_istore3 r_220_13 rfl ?_
    refine w_iconst (v := iI (0)) r_220_14 rfl ?_
    refine w_istore4 r_220_15 rfl ?_
    exact key 0 (by omega) 0 (Or.inr ⟨rfl, by omega, fun v a b => by omega⟩)
  · refine w_iconst (v := iI (1)) r_220_10 rfl ?_
    refine w_zret r_220_11 (by decide) ?_
    exact kt (ns.mpr (Or.inl (by omega)))
/-- which doubts are near, as bits -/
def MNr (h : XH) (M : XM) : Prop := ∀ c, 0 ≤ c → c < M.n → (0 ≤ zA h 152 c ∧ zA h 152 c < 32) ∧ ∀ e, 0 ≤ e → e < 5 → zA h 152 c / 2 ^ e.toNat % 2 = if e < M.nd ∧ nr M.wd M.hg (M.dc e) c = true then 1 else 0
theorem m_news {c s : Int} (hL : Lay h) (hP : MMp h M) (hm : M.ok G) (hN : MNr h M) (hc : 0 ≤ c ∧ c < M.n) (hs : 0 ≤ s ∧ s < 1024) (kk : K (iI (fst1 (fun e => decide (dg s e = 0) && nr M.wd M.hg (M.dc e) c) M.nd.toNat 0)) h) : XW (d + 1) 221 0 [.ref 118, .int (iI c), .int (iI s), .null] [] h (KI K) := by
  have o := hm.1
  have hn := M.n_in hm
  have nn := hN c hc.1 hc.2
  have e153 : gI h 152 c.toNat = iI (zA h 152 c) := gI_A _ _ _
  generalize zA h 152 c = b at *
  have key : ∀ i : Nat, i ≤ M.nd.toNat → K (iI (fst1 (fun e => decide (dg s e = 0) && nr M.wd M.hg (M.dc e) c) (M.nd.toNat - i) i)) h → XW (d + 1) 221 2 [.ref 118, .int (iI c), .int (iI s), .int (iI i)] [] h (KI K) := by
    refine upto _ ?_ ?_
    · intro kk
      rw [Nat.sub_self] at kk
      refine w_iload3 r_221_2 ?_
      refine w_aload0 r_221_3 ?_
      refine v_getI r_221_4 (Lk_118 hL) (hP.f37) ?_
      refine v_ic_ge r_221_7 (by first | exact zF_in _ _ _ | exact zA_in _ _ _ | omega) (by first | exact zF_in _ _ _ | exact zA_in _ _ _ | omega) (fun _ => ?_) (fun q => absurd q (by omega))
      refine w_iconst (v := iI (-1)) r_221_40 rfl ?_
      refine w_iret r_221_41 ?_
      exact kk
    · intro i hi ih kk
      have di := dg_in s i
      have nb := nn.2 i (by omega) (by omega)
      have e5 : 0 ≤ b / 2 ^ ((i : Int)).toNat ∧ b / 2 ^ ((i : Int)).toNat ≤ 2147483647 := by
        have p2 : (2 : Int) ^ ((i : Int)).toNat = 1 ∨ (2 : Int) ^ ((i : Int)).toNat = 2 ∨ (2 : Int) ^ ((i : Int)).toNat = 4 ∨ (2 : Int) ^ ((i : Int)).toNat = 8 ∨ (2 : Int) ^ ((i : Int)).toNat = 16 := by
          have : i = 0 ∨ i = 1 ∨ i = 2 ∨ i = 3 ∨ i = 4 := by omega
          rcases this with rfl | rfl | rfl | rfl | rfl <;> decide
        rcases p2 with q | q | q | q | q <;> rw [q] <;> omega
      rw [show M.nd.toNat - i = (M.nd.toNat - (i + 1)) + 1 by omega] at kk
      unfold fst1 at kk
      have e7 : b / 2 ^ ((i : Int)).toNat % 2 ^ 1 = b / 2 ^ ((i : Int)).toNat % 2 := rfl
      by_cases q : dg s i = 0
      · by_cases q2 : nr M.wd M.hg (M.dc i) c = true
        · rw [if_pos ⟨by omega, q2⟩] at nb
          rw [if_pos (by simp [q, q2])] at kk
          refine w_iload3 r_221_2 ?_
          refine w_aload0 r_221_3 ?_
          refine v_getI r_221_4 (Lk_118 hL) (hP.f37) ?_
          refine v_ic_ge r_221_7 (by first | exact zF_in _ _ _ | exact zA_in _ _ _ | omega) (by first | exact zF_in _ _ _ | exact zA_in _ _ _ | omega) (fun q => absurd q (by omega)) (fun _ => ?_)
          refine w_iload2 r_221_10 ?_
          refine w_iload3 r_221_11 ?_
          refine k_213 r_221_12 (Nat.le_of_ble_eq_true rfl) ?_
          refine m_digit (by omega) (by omega) ?_
          refine v_if_ne r_221_15 (by first | exact zF_in _ _ _ | exact zA_in _ _ _ | omega) (fun q => absurd q (by omega)) (fun _ => ?_)
          refine w_aload0 r_221_18 ?_
          refine w_getA (x := 152) r_221_19 (Lk_118 hL) (Lr_118_72 hL) (by decide) ?_
          refine w_iload1 r_221_22 ?_
          refine v_iald r_221_23 (Lk_152 hL) (Lz_152 hL) (by decide) (by omega) e153 ?_
          refine w_iload3 r_221_24 ?_
          refine v_ishr (hx := by omega) (hk := by omega) r_221_25 ?_
          refine w_iconst (v := iI (1)) r_221_26 rfl ?_
          refine v_mask 1 (hm := by decide) (hk := by decide) (hx := e5) r_221_27 ?_
          rw [e7, nb] 
          refine w_iconst (v := iI (1)) r_221_28 rfl ?_
          refine v_ic_ne r_221_29 (by first | exact zF_in _ _ _ | exact zA_in _ _ _ | omega) (by first | exact zF_in _ _ _ | exact zA_in _ _ _ | omega) (fun q => absurd q (by decide)) (fun _ => ?_)
          refine w_iload3 r_221_32 ?_
          refine w_iret r_221_33 ?_
          exact kk
        · rw [if_neg (fun z => q2 z.2)] at nb
          rw [if_neg (by simp [q2])] at kk
          refine w_iload3 r_221_2 ?_
          refine w_aload0 r_221_3 ?_
          refine v_getI r_221_4 (Lk_118 hL) (hP.f37) ?_
          refine v_ic_ge r_221_7 (by first | exact zF_in _ _ _ | exact zA_in _ _ _ | omega) (by first | exact zF_in _ _ _ | exact zA_in _ _ _ | omega) (fun q => absurd q (by omega)) (fun _ => ?_)
          refine w_iload2 r_221_10 ?_
          refine w_iload3 r_221_11 ?_
          refine k_213 r_221_12 (Nat.le_of_ble_eq_true rfl) ?_
          refine m_digit (by omega) (by omega) ?_
          refine v_if_ne r_221_15 (by first | exact zF_in _ _ _ | exact zA_in _ _ _ | omega) (fun q => absurd q (by omega)) (fun _ => ?_)
          refine w_aload0 r_221_18 ?_
          refine w_getA (x := 152) r_221_19 (Lk_118 hL) (Lr_118_72 hL) (by decide) ?_
          refine w_iload1 r_221_22 ?_
          refine v_iald r_221_23 (Lk_152 hL) (Lz_152 hL) (by decide) (by omega) e153 ?_
          refine w_iload3 r_221_24 ?_
          refine v_ishr (hx := by omega) (hk := by omega) r_221_25 ?_
          refine w_iconst (v := iI (1)) r_221_26 rfl ?_
          refine v_mask 1 (hm := by decide) (hk := by decide) (hx := e5) r_221_27 ?_
          rw [e7, nb] 
          refine w_iconst (v := iI (1)) r_221_28 rfl ?_
          refine v_ic_ne r_221_29 (by first | exact zF_in _ _ _ | exact zA_in _ _ _ | omega) (by first | exact zF_in _ _ _ | exact zA_in _ _ _ | omega) (fun _ => ?_) (fun q => absurd q (by decide))
          refine w_iinc3 r_221_34 rfl (iI_add _ _) ?_
          refine w_goto r_221_37 ?_
          exact ih kk
      · rw [if_neg (by simp [q])] at kk
        refine w_iload3 r_221_2 ?_
        refine w_aload0 r_221_3 ?_
        refine v_getI r_221_4 (Lk_118 hL) (hP.f37) ?_
        refine v_ic_ge r_221_7 (by first | exact zF_in _ _ _ | exact zA_in _ _ _ | omega) (by first | exact zF_in _ _ _ | exact zA_in _ _ _ | omega) (fun q => absurd q (by omega)) (fun _ => ?_)
        refine w_iload2 r_221_10 ?_
        refine w_iload3 r_221_11 ?_
        refine k_213 r_221_12 (Nat.le_of_ble_eq_true rfl) ?_
        refine m_digit (by omega) (by omega) ?_
        refine v_if_ne r_221_15 (by first | exact zF_in _ _ _ | exact zA_in _ _ _ | omega) (fun _ => ?_) (fun q => absurd q (by omega))
        refine w_iinc3 r_221_34 rfl (iI_add _ _) ?_
        refine w_goto r_221_37 ?_
        exact ih kk
  refine w_iconst (v := iI (0)) r_221_0 rfl ?_
  refine w_istore3 r_221_1 rfl ?_
  exact key 0 (by omega) (by rw [Nat.sub_zero]; exact kk)
theorem m_floorOf {c s : Int} (hL : Lay h) (hP : MMp h M) (hm : M.ok G) (hK : MLs h M) (hc : 0 ≤ c ∧ c < M.n) (hs : 0 ≤ s ∧ s < 1024) (hd : 0 ≤ M.db c → 1 ≤ dg s (M.db c) ∧ dg s (M.db c) ≤ mny M (M.db c)) (kk : K (iI (if M.db c = -1 then M.gr c else chc M (M.db c) (dg s (M.db c) - 1))) h) : XW (d + 1) 222 0 [.ref 118, .int (iI c), .int (iI s), .null] [] h (KI K) := by
  have o := hm.1
  have hn := M.n_in hm
  have oc := hm.2.1 c hc.1 hc.2
  by_cases q : M.db c = -1
  · rw [if_pos q] at kk
    refine w_aload0 r_222_0 ?_
    refine w_getA (x := 135) r_222_1 (Lk_118 hL) (Lr_118_43 hL) (by decide) ?_
    refine w_iload1 r_222_4 ?_
    refine v_iald r_222_5 (Lk_135 hL) (Lz_135 hL) (by decide) (by omega) (e136 hP hc) ?_
    refine w_istore3 r_222_6 rfl ?_
    refine w_iload3 r_222_7 ?_
    refine w_iconst (v := iI (-1)) r_222_8 rfl ?_
    refine v_ic_ne r_222_9 (by first | exact zF_in _ _ _ | exact zA_in _ _ _ | omega) (by first | exact zF_in _ _ _ | exact zA_in _ _ _ | omega) (fun q => absurd q (by omega)) (fun _ => ?_)
    refine w_aload0 r_222_12 ?_
    refine w_getA (x := 134) r_222_13 (Lk_118 hL) (Lr_118_42 hL) (by decide) ?_
    refine w_iload1 r_222_16 ?_
    refine v_iald r_222_17 (Lk_134 hL) (Lz_134 hL) (by decide) (by omega) (e135 hP hc) ?_
    refine w_goto r_222_18 ?_
    refine w_iret r_222_37 ?_
    exact kk
  · rw [if_neg q] at kk
    have hd := hd (by omega)
    have om := mny_in hm (e := M.db c) (by omega)
    have e142' : gI h 141 (4 * M.db c + dg s (M.db c) - 1).toNat = iI (chc M (M.db c) (dg s (M.db c) - 1)) := by
      rw [show 4 * M.db c + dg s (M.db c) - 1 = 4 * M.db c + (dg s (M.db c) - 1) by omega]; exact e142 hK (by omega) (by omega)
    refine w_aload0 r_222_0 ?_
    refine w_getA (x := 135) r_222_1 (Lk_118 hL) (Lr_118_43 hL) (by decide) ?_
    refine w_iload1 r_222_4 ?_
    refine v_iald r_222_5 (Lk_135 hL) (Lz_135 hL) (by decide) (by omega) (e136 hP hc) ?_
    refine w_istore3 r_222_6 rfl ?_
    refine w_iload3 r_222_7 ?_
    refine w_iconst (v := iI (-1)) r_222_8 rfl ?_
    refine v_ic_ne r_222_9 (by first | exact zF_in _ _ _ | exact zA_in _ _ _ | omega) (by first | exact zF_in _ _ _ | exact zA_in _ _ _ | omega) (fun _ => ?_) (fun q => absurd q (by omega))
    refine w_aload0 r_222_21 ?_
    refine w_getA (x := 141) r_222_22 (Lk_118 hL) (Lr_118_52 hL) (by decide) ?_
    refine w_iconst (v := iI (4)) r_222_25 rfl ?_
    refine w_iload3 r_222_26 ?_
    refine v_imul r_222_27 ?_
    refine w_iload2 r_222_28 ?_
    refine w_iload3 r_222_29 ?_
    refine k_213 r_222_30 (Nat.le_of_ble_eq_true rfl) ?_
    refine m_digit (by omega) (by omega) ?_
    refine v_iadd r_222_33 ?_
    refine w_iconst (v := iI (1)) r_222_34 rfl ?_
    refine v_isub r_222_35 ?_
    refine v_iald r_222_36 (Lk_141 hL) (Lz_141 hL) (by decide) (by omega) (e142') ?_
    refine w_iret r_222_37 ?_
    exact kk
/-- costs by ground -/
def MBg (h : XH) (B : XB) (dd : Int) (M : XM) : Prop := ∀ c w g, 0 ≤ c → c < M.n → 0 ≤ w → w < 4 → 0 ≤ g → g < B.g → zA h 151 (32 * c + 8 * w + g) = if why B dd M c w g = 0 then cst B dd M c w g else 0
theorem MLs.fr {P : Nat → Nat → Bool} {h' : XH} (f : Fr P h h') (hp : ∀ j, P 141 j = false ∧ P 142 j = false) (hK : MLs h M) : MLs h' M := fun e a b => by
  refine ⟨by rw [f.A (hp _).2]; exact (hK e a b).1, fun i i0 i1 => by rw [f.A (hp _).1]; exact (hK e a b).2 i i0 i1⟩
theorem bit_or : ∀ x, x < 32 → ∀ e, e < 5 → x / 2 ^ e % 2 = 0 → x ||| (1 * 2 ^ e) = x + 2 ^ e ∧ x + 2 ^ e < 32 ∧ ∀ i, i < 5 → (x + 2 ^ e) / 2 ^ i % 2 = if i = e then 1 else x / 2 ^ i % 2 := by decide +kernel
theorem p2c' (x k : Nat) : ((x : Int) / 2 ^ k % 2) = ((x / 2 ^ k % 2 : Nat) : Int) := by
  rw [Int.natCast_emod, Int.natCast_ediv, p2c]; rfl
abbrev PPr : Nat → Nat → Bool := pA [141, 142, 151, 152]
theorem PPr_fr {h' : XH} (f : Fr PPr h h') (hQ : MBk h B) (hP : MMp h M) : MBk h' B ∧ MMp h' M := ⟨hQ.fr f (fun a j q => by simp [fpMB] at q; simp [pA]; omega), hP.fr f (fun a j p q => by simp [pA]; omega) (fun j p q => by simp [pA])⟩
theorem v_iorB {m pc len ra rb rc rw : Nat} {ls st : List Value} {Q : Option Value → XH → Prop} {x e : Int} (r : xrow m pc = some (.ior, len, ra, rb, rc, rw)) (hx : 0 ≤ x ∧ x < 32) (he : 0 ≤ e ∧ e < 5) (h0 : x / 2 ^ e.toNat % 2 = 0) (kk : XW d m (pc + 1) ls (.int (iI (x + 2 ^ e.toNat)) :: st) h Q) : XW d m pc ls (.int (iI (1 * 2 ^ e.toNat)) :: .int (iI x) :: st) h Q := by
  refine w_ior r ?_
  obtain ⟨a, rfl⟩ := nats hx.1
  obtain ⟨b, rfl⟩ := nats he.1
  rw [Int.toNat_natCast] at h0 kk ⊢
  rw [p2c'] at h0
  have f := bit_or a (by omega) b (by omega) (by omega)
  have e1 : iI (a : Int) ||| iI (1 * 2 ^ b) = iI ((a : Int) + 2 ^ b) := by
    rw [show (1 : Int) * 2 ^ b = ((1 * 2 ^ b : Nat) : Int) by rw [Int.natCast_mul, p2c]; rfl, iI_or, f.1, Int.natCast_add, p2c]
  rw [e1]; exact kk
theorem bit_set {x e : Int} (hx : 0 ≤ x ∧ x < 32) (he : 0 ≤ e ∧ e < 5) (h0 : x / 2 ^ e.toNat % 2 = 0) : (0 ≤ x + 2 ^ e.toNat ∧ x + 2 ^ e.toNat < 32) ∧ ∀ i : Int, 0 ≤ i → i < 5 → (x + 2 ^ e.toNat) / 2 ^ i.toNat % 2 = if i = e then 1 else x / 2 ^ i.toNat % 2 := by
  obtain ⟨a, rfl⟩ := nats hx.1
  obtain ⟨b, rfl⟩ := nats he.1
  rw [Int.toNat_natCast] at h0 ⊢
  rw [p2c'] at h0
  have f := bit_or a (by omega) b (by omega) (by omega)
  have e1 : (a : Int) + 2 ^ b = ((a + 2 ^ b : Nat) : Int) := by rw [Int.natCast_add, p2c]
  rw [e1]
  refine ⟨by omega, fun i i0 i1 => ?_⟩
  obtain ⟨k, rfl⟩ := nats i0
  rw [Int.toNat_natCast, p2c', p2c', f.2.2 k (by omega)]
  by_cases q : k = b
  · rw [if_pos q, if_pos (by omega)]; rfl
  · rw [if_neg q, if_neg (by omega)]
def NrP (h : XH) (M : XM) (c n : Int) : Prop := (0 ≤ zA h 152 c ∧ zA h 152 c < 32) ∧ ∀ e, 0 ≤ e → e < 5 → zA h 152 c / 2 ^ e.toNat % 2 = if e < n ∧ nr M.wd M.hg (M.dc e) c = true then 1 else 0
def BgC (h : XH) (B : XB) (dd : Int) (M : XM) (c : Int) : Prop := ∀ w g, 0 ≤ w → w < 4 → 0 ≤ g → g < B.g → zA h 151 (32 * c + 8 * w + g) = if why B dd M c w g = 0 then cst B dd M c w g else 0
def PrI (h h1 : XH) (B : XB) (dd : Int) (M : XM) (c : Int) : Prop := Fr PPr h h1 ∧ MLs h1 M ∧ ∀ c', 0 ≤ c' → c' < c → NrP h1 M c' M.nd ∧ BgC h1 B dd M c'
theorem PrI.put153 {h1 : XH} {c v : Int} {x : Int32} (I : PrI h h1 B dd M c) (hc : 0 ≤ c) : PrI h (sI h1 152 c.toNat x) B dd M c := by
  obtain ⟨f, l, g⟩ := I
  have f1 : Fr (fun a j => a == 152 && j == c.toNat) h1 (sI h1 152 c.toNat x) := (Fr.refl _ _).sI 152 _ _ (by simp)
  refine ⟨f.sI 152 _ _ (by simp [pA]), l.fr f1 (fun j => by simp), fun c' a b => ?_⟩
  have z := g c' a b
  refine ⟨?_, ?_⟩
  · unfold NrP at z ⊢
    rw [f1.A (by simp; omega)]
    exact z.1
  · intro w g' a1 a2 a3 a4
    rw [f1.A (by simp)]
    exact z.2 w g' a1 a2 a3 a4
theorem PrI.put152 {h1 : XH} {c w g : Int} {x : Int32} (I : PrI h h1 B dd M c) (hc : 0 ≤ c) (hw : 0 ≤ w ∧ w < 4) (hg : 0 ≤ g ∧ g < 8) (hB : B.g ≤ 8) : PrI h (sI h1 151 (32 * c + 8 * w + g).toNat x) B dd M c := by
  obtain ⟨f, l, q⟩ := I
  have f1 : Fr (fun a j => a == 151 && j == (32 * c + 8 * w + g).toNat) h1 (sI h1 151 (32 * c + 8 * w + g).toNat x) := (Fr.refl _ _).sI 151 _ _ (by simp)
  refine ⟨f.sI 151 _ _ (by simp [pA]), l.fr f1 (fun j => by simp), fun c' a b => ?_⟩
  have z := q c' a b
  refine ⟨?_, ?_⟩
  · unfold NrP at z ⊢
    rw [f1.A (by simp)]
    exact z.1
  · intro w' g' a1 a2 a3 a4
    rw [f1.A (by simp; omega)]
    exact z.2 w' g' a1 a2 a3 a4
theorem m_prepares (hL : Lay h) (hQ : MBk h B) (ho : B.ok) (hP : MMp h M) (hm : M.ok B.g) (hdd : gI h 118 38 = iI dd) (hd : 0 ≤ dd ∧ dd < B.w) (kk : ∀ h', Fr PPr h h' → MLs h' M → MNr h' M → MBg h' B dd M → KU h') : XW (d + 4) 223 0 [.ref 118, .null, .null, .null] [] h (KV KU) := by
  have o := hm.1
  have ob := ho.1
  have hn := M.n_in hm
  have en : M.wd * M.hg = M.n := rfl
  have lpC : ∀ c : Nat, (c : Int) < M.n → ∀ w : Nat, w < 4 → (∀ (X : Value) (h1 : XH), PrI h h1 B dd M c → NrP h1 M c M.nd → (∀ w' g : Int, 0 ≤ w' → w' < ((w + 1 : Nat) : Int) → 0 ≤ g → g < B.g → zA h1 151 (32 * c + 8 * w' + g) = if why B dd M c w' g = 0 then cst B dd M c w' g else 0) → XW (d + 4) 223 69 [.ref 118, .int (iI c), .int (iI ((w + 1 : Nat) : Int)), X] [] h1 (KV KU)) →
      ∀ g : Nat, g ≤ B.g.toNat → ∀ h1 : XH, PrI h h1 B dd M c → NrP h1 M c M.nd → (∀ w' g' : Int, 0 ≤ w' → w' < 4 → 0 ≤ g' → g' < B.g → w' < w ∨ (w' = w ∧ g' < g) → zA h1 151 (32 * c + 8 * w' + g') = if why B dd M c w' g' = 0 then cst B dd M c w' g' else 0) → XW (d + 4) 223 76 [.ref 118, .int (iI c), .int (iI w), .int (iI g)] [] h1 (KV KU) := by
    intro c hc w hw nxt
    refine upto _ ?_ ?_
    · intro h1 I N b
      have hL := I.1.lay hL
      obtain ⟨hQ, hP⟩ := PPr_fr I.1 hQ hP
      refine w_iload3 r_223_76 ?_
      refine w_aload0 r_223_77 ?_
      refine v_getI r_223_78 (Lk_118 hL) (e22 hQ) ?_
      refine v_ic_ge r_223_81 (by first | exact zF_in _ _ _ | exact zA_in _ _ _ | omega) (by first | exact zF_in _ _ _ | exact zA_in _ _ _ | omega) (fun _ => ?_) (fun q => absurd q (by omega))
      refine w_iinc2 r_223_127 rfl (iI_add _ _) ?_
      refine w_goto r_223_130 ?_
      exact nxt _ h1 I N (fun w' g' a1 a2 a3 a4 => b w' g' a1 (by omega) a3 a4 (by omega))
    · intro g hg ih h1 I N b
      have hL := I.1.lay hL
      obtain ⟨hQ, hP⟩ := PPr_fr I.1 hQ hP
      have hdd : gI h1 118 38 = iI dd := ((I.1.2 118 38 (by simp [pA])).1).trans hdd
      have wi := why_in (B := B) (dd := dd) (M := M) (c := c) (way := w) (g := g)
      have nx0 : why B dd M c w g = 0 → 0 ≤ M.nx c w := fun q => by
        unfold why at q
        by_cases z : M.nx c w < 0
        · rw [if_pos z] at q; omega
        · omega
      have ci := fun q => cst_in (way := w) (g := g) ho hm hd (by omega) ⟨by omega, hc⟩ (nx0 q)
      refine w_iload3 r_223_76 ?_
      refine w_aload0 r_223_77 ?_
      refine v_getI r_223_78 (Lk_118 hL) (e22 hQ) ?_
      refine v_ic_ge r_223_81 (by first | exact zF_in _ _ _ | exact zA_in _ _ _ | omega) (by first | exact zF_in _ _ _ | exact zA_in _ _ _ | omega) (fun q => absurd q (by omega)) (fun _ => ?_)
      refine w_aload0 r_223_84 ?_
      refine w_getA (x := 151) r_223_85 (Lk_118 hL) (Lr_118_71 hL) (by decide) ?_
      refine w_bipush (v := iI (32)) r_223_88 rfl ?_
      refine w_iload1 r_223_90 ?_
      refine v_imul r_223_91 ?_
      refine w_bipush (v := iI (8)) r_223_92 rfl ?_
      refine w_iload2 r_223_94 ?_
      refine v_imul r_223_95 ?_
      refine v_iadd r_223_96 ?_
      refine w_iload3 r_223_97 ?_
      refine v_iadd r_223_98 ?_
      refine w_aload0 r_223_99 ?_
      refine w_iload1 r_223_100 ?_
      refine w_iload2 r_223_101 ?_
      refine w_iload3 r_223_102 ?_
      refine k_209 r_223_103 (Lk_118 hL) (Nat.le_of_ble_eq_true rfl) ?_
      refine m_barred hL hQ ho hP hm hdd hd (by omega) (by omega) (by omega) ?_
      refine v_if_ne r_223_106 (by first | exact zF_in _ _ _ | exact zA_in _ _ _ | omega) (fun c106 => ?_) (fun c106 => ?_)
      · refine w_iconst (v := iI (0)) r_223_119 rfl ?_
        refine v_iast r_223_120 (Lk_151 hL) (Ln_151 hL) (Lz_151 hL) (by decide) (by omega) ?_
        refine w_iinc3 r_223_121 rfl (iI_add _ _) ?_
        refine w_goto r_223_124 ?_
        refine ih _ (I.put152 (w := w) (g := g) (by omega) (by omega) (by omega) (by omega)) ?_ (fun w' g' a1 a2 a3 a4 q => ?_)
        · unfold NrP; rw [zA_o _ (by decide)]; exact N
        · by_cases z : w' = w ∧ g' = g
          · rw [z.1, z.2]
            first | (rw [if_pos (by omega)]; have := ci (by omega); rw [zA_s (by omega) (by omega) (by omega), if_pos rfl]) | (rw [if_neg (by omega), zA_s (by omega) (by omega) (by decide), if_pos rfl])
          · have keep : zA h1 151 (32 * (c : Int) + 8 * w' + g') = zA h1 151 (32 * (c : Int) + 8 * w' + g') := rfl
            rw [← b w' g' a1 a2 a3 a4 (by omega)]
            first | (have := ci (by omega); rw [zA_s (by omega) (by omega) (by omega), if_neg (by omega)]) | (rw [zA_s (by omega) (by omega) (by decide), if_neg (by omega)])
      · refine w_aload0 r_223_109 ?_
        refine w_iload1 r_223_110 ?_
        refine w_iload2 r_223_111 ?_
        refine w_iload3 r_223_112 ?_
        refine k_210 r_223_113 (Lk_118 hL) (Nat.le_of_ble_eq_true rfl) ?_
        refine m_cost hL hQ ho hP hm hdd hd (by omega) (by omega) (by omega) (nx0 (by omega)) ?_
        refine w_goto r_223_116 ?_
        refine v_iast r_223_120 (Lk_151 hL) (Ln_151 hL) (Lz_151 hL) (by decide) (by omega) ?_
        refine w_iinc3 r_223_121 rfl (iI_add _ _) ?_
        refine w_goto r_223_124 ?_
        refine ih _ (I.put152 (w := w) (g := g) (by omega) (by omega) (by omega) (by omega)) ?_ (fun w' g' a1 a2 a3 a4 q => ?_)
        · unfold NrP; rw [zA_o _ (by decide)]; exact N
        · by_cases z : w' = w ∧ g' = g
          · rw [z.1, z.2]
            first | (rw [if_pos (by omega)]; have := ci (by omega); rw [zA_s (by omega) (by omega) (by omega), if_pos rfl]) | (rw [if_neg (by omega), zA_s (by omega) (by omega) (by decide), if_pos rfl])
          · have keep : zA h1 151 (32 * (c : Int) + 8 * w' + g') = zA h1 151 (32 * (c : Int) + 8 * w' + g') := rfl
            rw [← b w' g' a1 a2 a3 a4 (by omega)]
            first | (have := ci (by omega); rw [zA_s (by omega) (by omega) (by omega), if_neg (by omega)]) | (rw [zA_s (by omega) (by omega) (by decide), if_neg (by omega)])
  have lpB : ∀ c : Nat, (c : Int) < M.n → (∀ (X Y : Value) (h1 : XH), PrI h h1 B dd M ((c + 1 : Nat) : Int) → XW (d + 4) 223 6 [.ref 118, .int (iI ((c + 1 : Nat) : Int)), X, Y] [] h1 (KV KU)) → ∀ w : Nat, w ≤ 4 → ∀ (X : Value) (h1 : XH), PrI h h1 B dd M c → NrP h1 M c M.nd → (∀ w' g : Int, 0 ≤ w' → w' < w → 0 ≤ g → g < B.g → zA h1 151 (32 * c + 8 * w' + g) = if why B dd M c w' g = 0 then cst B dd M c w' g else 0) → XW (d + 4) 223 69 [.ref 118, .int (iI c), .int (iI w), X] [] h1 (KV KU) := by
    intro c hc nxt
    refine upto _ ?_ ?_
    · intro X h1 I N b
      refine w_iload2 r_223_69 ?_
      refine w_iconst (v := iI (4)) r_223_70 rfl ?_
      refine v_ic_ge r_223_71 (by first | exact zF_in _ _ _ | exact zA_in _ _ _ | omega) (by first | exact zF_in _ _ _ | exact zA_in _ _ _ | omega) (fun _ => ?_) (fun q => absurd q (by omega))
      refine w_iinc1 r_223_133 rfl (iI_add _ _) ?_
      refine w_goto r_223_136 ?_
      refine nxt _ _ h1 ⟨I.1, I.2.1, fun c' a1 a2 => ?_⟩
      by_cases z : c' = c
      · rw [z]; exact ⟨N, fun w g a1 a2 a3 a4 => b w g a1 (by omega) a3 a4⟩
      · exact I.2.2 c' a1 (by omega)
    · intro w hw ih X h1 I N b
      refine w_iload2 r_223_69 ?_
      refine w_iconst (v := iI (4)) r_223_70 rfl ?_
      refine v_ic_ge r_223_71 (by first | exact zF_in _ _ _ | exact zA_in _ _ _ | omega) (by first | exact zF_in _ _ _ | exact zA_in _ _ _ | omega) (fun q => absurd q (by omega)) (fun _ => ?_)
      refine w_iconst (v := iI (0)) r_223_74 rfl ?_
      refine w_istore3 r_223_75 rfl ?_
      exact lpC c hc w hw ih 0 (by omega) h1 I N (fun w' g' a1 a2 a3 a4 q => b w' g' a1 (by omega) a3 a4)
  have lpA : ∀ c : Nat, (c : Int) < M.n → (∀ (X Y : Value) (h1 : XH), PrI h h1 B dd M ((c + 1 : Nat) : Int) → XW (d + 4) 223 6 [.ref 118, .int (iI ((c + 1 : Nat) : Int)), X, Y] [] h1 (KV KU)) → ∀ e : Nat, e ≤ M.nd.toNat → ∀ (X : Value) (h1 : XH), PrI h h1 B dd M c → NrP h1 M c e → XW (d + 4) 223 28 [.ref 118, .int (iI c), .int (iI e), X] [] h1 (KV KU) := by
    intro c hc nxt
    refine upto _ ?_ ?_
    · intro X h1 I N
      have hL := I.1.lay hL
      obtain ⟨hQ, hP⟩ := PPr_fr I.1 hQ hP
      rw [show ((M.nd.toNat : Nat) : Int) = M.nd by omega] at N
      refine w_iload2 r_223_28 ?_
      refine w_aload0 r_223_29 ?_
      refine v_getI r_223_30 (Lk_118 hL) (hP.f37) ?_
      refine v_ic_ge r_223_33 (by first | exact zF_in _ _ _ | exact zA_in _ _ _ | omega) (by first | exact zF_in _ _ _ | exact zA_in _ _ _ | omega) (fun _ => ?_) (fun q => absurd q (by omega))
      refine w_iconst (v := iI (0)) r_223_67 rfl ?_
      refine w_istore2 r_223_68 rfl ?_
      exact lpB c hc nxt 0 (by omega) X h1 I N (fun w' g' a1 a2 => by omega)
    · intro e he ih X h1 I N
      have hL := I.1.lay hL
      obtain ⟨hQ, hP⟩ := PPr_fr I.1 hQ hP
      have e153 : gI h1 152 ((c : Int)).toNat = iI (zA h1 152 c) := gI_A _ _ _
      have ze := N.2 e (by omega) (by omega)
      rw [if_neg (by omega)] at ze
      by_cases q : nr M.wd M.hg (M.dc e) c = true
      · have b2 : (1 : Int) * 2 ^ ((e : Int)).toNat < 4294967296 := by
          have : e = 0 ∨ e = 1 ∨ e = 2 ∨ e = 3 ∨ e = 4 := by omega
          rcases this with rfl | rfl | rfl | rfl | rfl <;> decide
        have bset := bit_set N.1 (e := e) (by omega) ze
        refine w_iload2 r_223_28 ?_
        refine w_aload0 r_223_29 ?_
        refine v_getI r_223_30 (Lk_118 hL) (hP.f37) ?_
        refine v_ic_ge r_223_33 (by first | exact zF_in _ _ _ | exact zA_in _ _ _ | omega) (by first | exact zF_in _ _ _ | exact zA_in _ _ _ | omega) (fun q => absurd q (by omega)) (fun _ => ?_)
        refine w_aload0 r_223_36 ?_
        refine w_getA (x := 152) r_223_37 (Lk_118 hL) (Lr_118_72 hL) (by decide) ?_
        refine w_iload1 r_223_40 ?_
        refine w_dup2IA r_223_41 ?_
        refine v_iald r_223_42 (Lk_152 hL) (Lz_152 hL) (by decide) (by omega) e153 ?_
        refine w_aload0 r_223_43 ?_
        refine w_iload1 r_223_44 ?_
        refine w_iload2 r_223_45 ?_
        refine k_220 r_223_46 (Lk_118 hL) (Nat.le_of_ble_eq_true rfl) ?_
        refine m_isNear hL hP hm ⟨by omega, hc⟩ (by omega) (fun _ => ?_) (fun z => absurd q (by rw [z]; decide))
        refine v_if_eq r_223_49 (by first | exact zF_in _ _ _ | exact zA_in _ _ _ | omega) (fun q => absurd q (by decide)) (fun _ => ?_)
        refine w_iconst (v := iI (1)) r_223_52 rfl ?_
        refine w_iload2 r_223_53 ?_
        refine v_ishl (hx := by omega) (hk := by omega) (hb := b2) r_223_54 ?_
        refine w_goto r_223_55 ?_
        refine v_iorB (hx := N.1) (he := by omega) (h0 := ze) r_223_59 ?_
        refine v_iast r_223_60 (Lk_152 hL) (Ln_152 hL) (Lz_152 hL) (by decide) (by omega) ?_
        refine w_iinc2 r_223_61 rfl (iI_add _ _) ?_
        refine w_goto r_223_64 ?_
        refine ih _ _ (I.put153 (v := 0) (by omega)) ⟨?_, fun i i0 i1 => ?_⟩
        · rw [zA_s (by omega) (by omega) (by omega), if_pos rfl]; exact bset.1
        · rw [zA_s (by omega) (by omega) (by omega), if_pos rfl, bset.2 i i0 i1]
          by_cases z : i = e
          · rw [if_pos z, if_pos ⟨by omega, by rw [z]; exact q⟩]
          · rw [if_neg z, N.2 i i0 i1]
            by_cases z2 : i < (e : Int) ∧ nr M.wd M.hg (M.dc i) c = true
            · rw [if_pos z2, if_pos ⟨by omega, z2.2⟩]
            · rw [if_neg z2, if_neg (fun z3 => z2 ⟨by omega, z3.2⟩)]
      · have q' : nr M.wd M.hg (M.dc e) c = false := by simpa using q
        have or0 : iI (zA h1 152 c) ||| iI 0 = iI (zA h1 152 c) := by
          rw [iI_lor N.1.1 (by decide)]; unfold lor; simp; congr 1; have := N.1.1; omega
        refine w_iload2 r_223_28 ?_
        refine w_aload0 r_223_29 ?_
        refine v_getI r_223_30 (Lk_118 hL) (hP.f37) ?_
        refine v_ic_ge r_223_33 (by first | exact zF_in _ _ _ | exact zA_in _ _ _ | omega) (by first | exact zF_in _ _ _ | exact zA_in _ _ _ | omega) (fun q => absurd q (by omega)) (fun _ => ?_)
        refine w_aload0 r_223_36 ?_
        refine w_getA (x := 152) r_223_37 (Lk_118 hL) (Lr_118_72 hL) (by decide) ?_
        refine w_iload1 r_223_40 ?_
        refine w_dup2IA r_223_41 ?_
        refine v_iald r_223_42 (Lk_152 hL) (Lz_152 hL) (by decide) (by omega) e153 ?_
        refine w_aload0 r_223_43 ?_
        refine w_iload1 r_223_44 ?_
        refine w_iload2 r_223_45 ?_
        refine k_220 r_223_46 (Lk_118 hL) (Nat.le_of_ble_eq_true rfl) ?_
        refine m_isNear hL hP hm ⟨by omega, hc⟩ (by omega) (fun z => absurd z q) (fun _ => ?_)
        refine v_if_eq r_223_49 (by first | exact zF_in _ _ _ | exact zA_in _ _ _ | omega) (fun _ => ?_) (fun q => absurd q (by decide))
        refine w_iconst (v := iI (0)) r_223_58 rfl ?_
        refine w_ior r_223_59 ?_
        rw [or0] 
        refine v_iast r_223_60 (Lk_152 hL) (Ln_152 hL) (Lz_152 hL) (by decide) (by omega) ?_
        refine w_iinc2 r_223_61 rfl (iI_add _ _) ?_
        refine w_goto r_223_64 ?_
        refine ih _ _ (I.put153 (v := 0) (by omega)) ⟨?_, fun i i0 i1 => ?_⟩
        · rw [zA_s (by omega) (by omega) (zA_in _ _ _), if_pos rfl]; exact N.1
        · rw [zA_s (by omega) (by omega) (zA_in _ _ _), if_pos rfl, N.2 i i0 i1]
          by_cases z2 : i < (e : Int) ∧ nr M.wd M.hg (M.dc i) c = true
          · rw [if_pos z2, if_pos ⟨by omega, z2.2⟩]
          · rw [if_neg z2, if_neg (fun z3 => z2 ⟨if z4 : i = (e : Int) then absurd z3.2 (by rw [z4]; exact q) else (by omega), z3.2⟩)]
  have key : ∀ c : Nat, c ≤ M.n.toNat → ∀ (X Y : Value) (h1 : XH), PrI h h1 B dd M c → XW (d + 4) 223 6 [.ref 118, .int (iI c), X, Y] [] h1 (KV KU) := by
    refine upto _ ?_ ?_
    · intro X Y h1 I
      have hL := I.1.lay hL
      obtain ⟨hQ, hP⟩ := PPr_fr I.1 hQ hP
      refine w_iload1 r_223_6 ?_
      refine w_aload0 r_223_7 ?_
      refine v_getI r_223_8 (Lk_118 hL) (hP.f35 hm) ?_
      refine w_aload0 r_223_11 ?_
      refine v_getI r_223_12 (Lk_118 hL) (hP.f36 hm) ?_
      refine v_imul r_223_15 ?_
      rw [en] 
      refine v_ic_ge r_223_16 (by first | exact zF_in _ _ _ | exact zA_in _ _ _ | omega) (by first | exact zF_in _ _ _ | exact zA_in _ _ _ | omega) (fun _ => ?_) (fun q => absurd q (by omega))
      refine w_vret r_223_139 ?_
      exact kk h1 I.1 I.2.1 (fun c a b => (I.2.2 c a (by omega)).1) (fun c w g a b w0 w1 g0 g1 => (I.2.2 c a (by omega)).2 w g w0 w1 g0 g1)
    · intro c hc ih X Y h1 I
      have hL := I.1.lay hL
      obtain ⟨hQ, hP⟩ := PPr_fr I.1 hQ hP
      refine w_iload1 r_223_6 ?_
      refine w_aload0 r_223_7 ?_
      refine v_getI r_223_8 (Lk_118 hL) (hP.f35 hm) ?_
      refine w_aload0 r_223_11 ?_
      refine v_getI r_223_12 (Lk_118 hL) (hP.f36 hm) ?_
      refine v_imul r_223_15 ?_
      rw [en] 
      refine v_ic_ge r_223_16 (by first | exact zF_in _ _ _ | exact zA_in _ _ _ | omega) (by first | exact zF_in _ _ _ | exact zA_in _ _ _ | omega) (fun q => absurd q (by omega)) (fun _ => ?_)
      refine w_aload0 r_223_19 ?_
      refine w_getA (x := 152) r_223_20 (Lk_118 hL) (Lr_118_72 hL) (by decide) ?_
      refine w_iload1 r_223_23 ?_
      refine w_iconst (v := iI (0)) r_223_24 rfl ?_
      refine v_iast r_223_25 (Lk_152 hL) (Ln_152 hL) (Lz_152 hL) (by decide) (by omega) ?_
      refine w_iconst (v := iI (0)) r_223_26 rfl ?_
      refine w_istore2 r_223_27 rfl ?_
      refine lpA c (by omega) ih 0 (by omega) Y _ (I.put153 (v := 0) (by omega)) ⟨?_, fun i i0 i1 => ?_⟩
      · rw [zA_s (by omega) (by omega) (by decide), if_pos rfl]; decide
      · rw [zA_s (by omega) (by omega) (by decide), if_pos rfl, if_neg (by omega)]; simp
  refine w_aload0 r_223_0 ?_
  refine k_214 r_223_1 (Lk_118 hL) (Nat.le_of_ble_eq_true rfl) ?_
  refine m_lists hL hP hm (fun h1 f1 ls => ?_)
  refine w_iconst (v := iI (0)) r_223_4 rfl ?_
  refine w_istore1 r_223_5 rfl ?_
  exact key 0 (by omega) .null .null h1 ⟨f1.mono (fun a j q => by simp [pA] at q ⊢; omega), ls, fun c a b => by omega⟩
end MO2
