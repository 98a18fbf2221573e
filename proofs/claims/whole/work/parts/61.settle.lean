/-! the class: values seen, rows settled -/
section PT
variable {P : XP} {V : Int → Int → Int} {s c e : Int}
/-- over the first choices, all reached -/
theorem Sol.part (hP : P.ok) (hV : Sol P V) (hs : St P s) (he : 0 ≤ e ∧ e < P.nd) (h0 : dg s e = 0) (a : 0 ≤ c) (b : c < P.n) (hb : P.bm = true) {j : Nat} (hj : (j : Int) ≤ P.mn e) (hf : ∀ i : Int, 0 ≤ i → i < j → V (tel s e i) c < 1000000000000000) :
    ovK true (P.we e) (fun k => V (tel s e k) c) j = sumTo (fun k => P.we e k * V (tel s e k) c) j ∧ 0 ≤ sumTo (fun k => P.we e k * V (tel s e k) c) j ∧ sumTo (fun k => P.we e k * V (tel s e k) c) j ≤ 300000000000000 := by
  have o := hP.1
  have mn := hP.2.1 e he.1 he.2
  have bx := bX_in (s := s) (e := e) hP
  have f1 : ∀ i : Int, 0 ≤ i → i < j → 0 ≤ V (tel s e i) c ∧ V (tel s e i) c ≤ P.bX s e := fun i i0 i1 => by
    have st := hs.tel (k := i) hP he h0 (by omega)
    refine ⟨((hV _ st).2 c a (by omega)).1, ?_⟩
    have := Sol.bound hP hV 1024 _ st (by have := st.1; omega) c a b (hf i i0 i1)
    rw [sc_tel (k := i) hP hs.1 he h0 (by omega), opn_tel (k := i) hP hs.1 he h0 (by omega)] at this
    exact this
  have wp : ∀ i : Int, 0 ≤ i → i < P.mn e → 0 ≤ P.we e i := fun i i0 i1 => by have := hP.2.2.1 e i he.1 he.2 i0 i1; omega
  have sm : ∀ n : Nat, j ≤ n → (n : Int) ≤ P.mn e → sumTo (P.we e) j ≤ sumTo (P.we e) n := by
    intro n
    induction n with
    | zero => intro q _; rw [show j = 0 by omega]; exact Int.le_refl _
    | succ n ih =>
      intro q1 q2
      by_cases z : j = n + 1
      · rw [z]; exact Int.le_refl _
      · have := ih (by omega) (by omega)
        have := wp n (by omega) (by omega)
        show _ ≤ sumTo (P.we e) n + P.we e n
        omega
  have st := sm (P.mn e).toNat (by omega) (by omega)
  have l1 : P.bX s e * sumTo (P.we e) j ≤ P.bX s e * P.tot e := Int.mul_le_mul_of_nonneg_left st bx.1
  rw [bX_tot hP hs.1 he h0 hb] at l1
  have sl := scL_in (s := s) hP
  have key := ovK_plain (w := P.we e) (f := fun k => V (tel s e k) c) (X := P.bX s e) (n := j) (by omega) (by omega) (fun i i0 i1 => wp i i0 (by omega)) (fun i i0 i1 => f1 i i0 (by omega))
  exact ⟨key.1, key.2.1, by omega⟩
theorem cvv_lt {x : Int} (hx : 0 ≤ x ∧ x ≤ 1000000000000000) : (0 ≤ cvv x ∧ cvv x ≤ 1152921504606846976) ∧ (cvv x < 1152921504606846976 ↔ x < 1000000000000000) ∧ (x < 1000000000000000 → cvv x = x) := by
  unfold cvv
  split <;> omega
theorem ovK_stay {bm : Bool} {w f : Int → Int} {j : Nat} (h : 1000000000000000 ≤ ovK bm w f j) : ∀ k, 1000000000000000 ≤ ovK bm w f (j + k) := by
  intro k
  induction k with
  | zero => exact h
  | succ k ih =>
    show 1000000000000000 ≤ ovK bm w f ((j + k) + 1)
    unfold ovK
    rw [if_pos (Or.inl ih)]; decide
/-- one choice more, as the class takes them together -/
theorem ov_next (hP : P.ok) (hV : Sol P V) (hs : St P s) (he : 0 ≤ e ∧ e < P.nd) (h0 : dg s e = 0) (a : 0 ≤ c) (b : c < P.n) {j : Nat} (hj : (j : Int) < P.mn e) (hl : ovK P.bm (P.we e) (fun k => V (tel s e k) c) j < 1000000000000000) :
    cvv (ovK P.bm (P.we e) (fun k => V (tel s e k) c) (j + 1)) = if 1152921504606846976 ≤ cvv (ovK P.bm (P.we e) (fun k => V (tel s e k) c) j) ∨ 1152921504606846976 ≤ cvv (V (tel s e j) c) then 1152921504606846976 else if P.bm = true then cvv (ovK P.bm (P.we e) (fun k => V (tel s e k) c) j) + cvv (V (tel s e j) c) * P.we e j else max (cvv (ovK P.bm (P.we e) (fun k => V (tel s e k) c) j)) (cvv (V (tel s e j) c)) := by
  have mn := hP.2.1 e he.1 he.2
  have st := hs.tel (k := (j : Int)) hP he h0 (by omega)
  have vj := (hV _ st).2 c a (by have := hP.1; omega)
  have fin := ovK_fin hl
  have on := ovK_in (bm := P.bm) (w := P.we e) (f := fun k => V (tel s e k) c) (n := j) (fun k k0 k1 => (hV _ (hs.tel (k := k) hP he h0 (by omega))).2 c a (by have := hP.1; omega)) (fun k k0 k1 => by have := hP.2.2.1 e k he.1 he.2 k0 (by omega); omega)
  have c1 := cvv_lt on
  have c2 := cvv_lt vj
  show cvv (if 1000000000000000 ≤ ovK P.bm (P.we e) (fun k => V (tel s e k) c) j ∨ 1000000000000000 ≤ V (tel s e j) c then 1000000000000000 else if P.bm = true then min 1000000000000000 (ovK P.bm (P.we e) (fun k => V (tel s e k) c) j + P.we e j * V (tel s e j) c) else max (ovK P.bm (P.we e) (fun k => V (tel s e k) c) j) (V (tel s e j) c)) = _
  by_cases q : 1000000000000000 ≤ V (tel s e j) c
  · rw [if_pos (Or.inr q), if_pos (Or.inr (by omega))]; rfl
  · have z1 : cvv (ovK P.bm (P.we e) (fun k => V (tel s e k) c) j) = ovK P.bm (P.we e) (fun k => V (tel s e k) c) j := c1.2.2 hl
    have z2 : cvv (V (tel s e j) c) = V (tel s e j) c := c2.2.2 (by omega)
    have g1 : ¬ (1000000000000000 ≤ ovK P.bm (P.we e) (fun k => V (tel s e k) c) j ∨ 1000000000000000 ≤ V (tel s e j) c) := by omega
    have g2 : ¬ (1152921504606846976 ≤ ovK P.bm (P.we e) (fun k => V (tel s e k) c) j ∨ 1152921504606846976 ≤ V (tel s e j) c) := by omega
    rw [if_neg g1, z1, z2, if_neg g2]
    by_cases hb : P.bm = true
    · rw [if_pos hb, if_pos hb]
      have pt := Sol.part hP hV hs he h0 a b hb (j := j + 1) (by omega) (fun i i0 i1 => if z : i = (j : Int) then (by rw [z]; omega) else fin i i0 (by omega))
      have p0 := Sol.part hP hV hs he h0 a b hb (j := j) (by omega) (fun i i0 i1 => fin i i0 i1)
      have e1 : sumTo (fun k => P.we e k * V (tel s e k) c) (j + 1) = sumTo (fun k => P.we e k * V (tel s e k) c) j + P.we e j * V (tel s e j) c := rfl
      rw [hb, p0.1]
      rw [e1] at pt
      rw [show min 1000000000000000 (sumTo (fun k => P.we e k * V (tel s e k) c) j + P.we e j * V (tel s e j) c) = sumTo (fun k => P.we e k * V (tel s e k) c) j + P.we e j * V (tel s e j) c by omega, Int.mul_comm (V (tel s e j) c)]
      unfold cvv
      rw [if_neg (by omega)]
    · rw [if_neg hb, if_neg hb]
      unfold cvv
      rw [if_neg (by omega)]
end PT
section SE
variable {d : Nat} {h : XH} {K : Int32 → XH → Prop} {KL64 : Int64 → XH → Prop} {KU : XH → Prop} {wa va zv : Nat} {hp sl val : Int → Int} {sz n i x : Int} {M : XM} {B : XB} {dd go stp : Int} {bm : Bool}
theorem c_together {x y e k : Int} (hL : Lay h) (hw : Wa wa) (hP : CMp h M) (hm : M.ok B.g) (e2 : gI h wa 2 = iI (b2i bm)) (hx : 0 ≤ x ∧ x ≤ 1152921504606846976) (hy : 0 ≤ y ∧ y ≤ 1152921504606846976) (he : 0 ≤ e ∧ e < M.nd) (hk : 0 ≤ k ∧ k < mny M e)
    (kk : KL64 (iL (if 1152921504606846976 ≤ x ∨ 1152921504606846976 ≤ y then 1152921504606846976 else if bm = true then x + y * M.wt e (chc M e k) else max x y)) h) : XW (d + 1) 105 0 [.ref wa, .long (iL x), .null, .long (iL y), .null, .int (iI e), .int (iI k)] [] h (KL KL64) := by
  have o := hm.1
  have om := mny_in hm he
  have ci := chc_in hm he hk
  have e89 : gI h 88 (e * 3 + k).toNat = iI (chc M e k) := by rw [gI_A, (hP.ch he).2.2 k hk.1 hk.2]
  have e88 : zA h 87 (e * 8 + chc M e k) = M.wt e (chc M e k) := hP.2.2.2.1 e he.1 he.2 _ ci.1 (by omega)
  by_cases q1 : 1152921504606846976 ≤ x
  · rw [if_pos (Or.inl q1)] at kk
    refine w_lload1 r_105_0 ?_
    refine w_ldc2 (v := iL (1152921504606846976)) r_105_1 rfl ?_
    refine v_lcmp r_105_4 (by first | exact zF_in _ _ _ | exact zA_in _ _ _ | omega) (by first | exact zF_in _ _ _ | exact zA_in _ _ _ | omega) ?_
    rw [if_neg (by omega), if_pos (by omega)] 
    refine v_if_ge r_105_5 (by first | exact zF_in _ _ _ | exact zA_in _ _ _ | omega) (fun _ => ?_) (fun q => absurd q (by decide))
    refine w_ldc2 (v := iL (1152921504606846976)) r_105_16 rfl ?_
    refine w_lret r_105_19 ?_
    exact kk
  · by_cases q2 : 1152921504606846976 ≤ y
    · rw [if_pos (Or.inr q2)] at kk
      refine w_lload1 r_105_0 ?_
      refine w_ldc2 (v := iL (1152921504606846976)) r_105_1 rfl ?_
      refine v_lcmp r_105_4 (by first | exact zF_in _ _ _ | exact zA_in _ _ _ | omega) (by first | exact zF_in _ _ _ | exact zA_in _ _ _ | omega) ?_
      rw [if_neg (by omega), if_neg (by omega)] 
      refine v_if_ge r_105_5 (by first | exact zF_in _ _ _ | exact zA_in _ _ _ | omega) (fun q => absurd q (by decide)) (fun _ => ?_)
      refine w_lload3 r_105_8 ?_
      refine w_ldc2 (v := iL (1152921504606846976)) r_105_9 rfl ?_
      refine v_lcmp r_105_12 (by first | exact zF_in _ _ _ | exact zA_in _ _ _ | omega) (by first | exact zF_in _ _ _ | exact zA_in _ _ _ | omega) ?_
      rw [if_neg (by omega), if_pos (by omega)] 
      refine v_if_lt r_105_13 (by first | exact zF_in _ _ _ | exact zA_in _ _ _ | omega) (fun q => absurd q (by decide)) (fun _ => ?_)
      refine w_ldc2 (v := iL (1152921504606846976)) r_105_16 rfl ?_
      refine w_lret r_105_19 ?_
      exact kk
    · rw [if_neg (by omega)] at kk
      by_cases hb : bm = true
      · rw [if_pos hb] at kk
        have e0 : b2i bm = 1 := by rw [hb]; rfl
        refine w_lload1 r_105_0 ?_
        refine w_ldc2 (v := iL (1152921504606846976)) r_105_1 rfl ?_
        refine v_lcmp r_105_4 (by first | exact zF_in _ _ _ | exact zA_in _ _ _ | omega) (by first | exact zF_in _ _ _ | exact zA_in _ _ _ | omega) ?_
        rw [if_neg (by omega), if_neg (by omega)] 
        refine v_if_ge r_105_5 (by first | exact zF_in _ _ _ | exact zA_in _ _ _ | omega) (fun q => absurd q (by decide)) (fun _ => ?_)
        refine w_lload3 r_105_8 ?_
        refine w_ldc2 (v := iL (1152921504606846976)) r_105_9 rfl ?_
        refine v_lcmp r_105_12 (by first | exact zF_in _ _ _ | exact zA_in _ _ _ | omega) (by first | exact zF_in _ _ _ | exact zA_in _ _ _ | omega) ?_
        rw [if_neg (by omega), if_neg (by omega)] 
        refine v_if_lt r_105_13 (by first | exact zF_in _ _ _ | exact zA_in _ _ _ | omega) (fun _ => ?_) (fun q => absurd q (by decide))
        refine w_aload0 r_105_20 ?_
        refine v_getI r_105_21 (Wk hL hw).1 e2 ?_
        refine v_if_ne r_105_24 (by first | exact zF_in _ _ _ | exact zA_in _ _ _ | omega) (fun _ => ?_) (fun q => absurd q (by omega))
        refine w_lload1 r_105_33 ?_
        refine w_lload3 r_105_34 ?_
        refine w_aload0 r_105_35 ?_
        refine w_getA (x := 80) r_105_36 (Wk hL hw).1 (Wk0 hL hw).1 (by decide) ?_
        refine w_iload5 r_105_39 ?_
        refine w_aload0 r_105_41 ?_
        refine w_getA (x := 80) r_105_42 (Wk hL hw).1 (Wk0 hL hw).1 (by decide) ?_
        refine w_getA (x := 88) r_105_45 (Lk_80 hL) (Lr_80_12 hL) (by decide) ?_
        refine w_iload5 r_105_48 ?_
        refine w_iconst (v := iI (3)) r_105_50 rfl ?_
        refine v_imul r_105_51 ?_
        refine w_iload6 r_105_52 ?_
        refine v_iadd r_105_54 ?_
        refine v_iald r_105_55 (Lk_88 hL) (Lz_88 hL) (by decide) (by omega) e89 ?_
        refine k_50 r_105_56 (Lk_80 hL) (Nat.le_of_ble_eq_true rfl) ?_
        refine c_weightOf hL (by omega) ?_
        rw [e88] 
        refine v_i2l r_105_59 (by first | exact zF_in _ _ _ | exact zA_in _ _ _ | omega) ?_
        refine v_lmul r_105_60 ?_
        refine v_ladd r_105_61 ?_
        refine w_lret r_105_62 ?_
        exact kk
      · rw [if_neg hb] at kk
        have e0 : b2i bm = 0 := by unfold b2i; rw [if_neg hb]
        refine w_lload1 r_105_0 ?_
        refine w_ldc2 (v := iL (1152921504606846976)) r_105_1 rfl ?_
        refine v_lcmp r_105_4 (by first | exact zF_in _ _ _ | exact zA_in _ _ _ | omega) (by first | exact zF_in _ _ _ | exact zA_in _ _ _ | omega) ?_
        rw [if_neg (by omega), if_neg (by omega)] 
        refine v_if_ge r_105_5 (by first | exact zF_in _ _ _ | exact zA_in _ _ _ | omega) (fun q => absurd q (by decide)) (fun _ => ?_)
        refine w_lload3 r_105_8 ?_
        refine w_ldc2 (v := iL (1152921504606846976)) r_105_9 rfl ?_
        refine v_lcmp r_105_12 (by first | exact zF_in _ _ _ | exact zA_in _ _ _ | omega) (by first | exact zF_in _ _ _ | exact zA_in _ _ _ | omega) ?_
        rw [if_neg (by omega), if_neg (by omega)] 
        refine v_if_lt r_105_13 (by first | exact zF_in _ _ _ | exact zA_in _ _ _ | omega) (fun _ => ?_) (fun q => absurd q (by decide))
        refine w_aload0 r_105_20 ?_
        refine v_getI r_105_21 (Wk hL hw).1 e2 ?_
        refine v_if_ne r_105_24 (by first | exact zF_in _ _ _ | exact zA_in _ _ _ | omega) (fun q => absurd q (by omega)) (fun _ => ?_)
        refine w_lload1 r_105_27 ?_
        refine w_lload3 r_105_28 ?_
        refine k_269 r_105_29 (Nat.le_of_ble_eq_true rfl) ?_
        refine c_maxL (by omega) (by omega) ?_
        refine w_lret r_105_32 ?_
        exact kk
abbrev PWs (wa va : Nat) : Nat → Nat → Bool := pO (pA [wa + 1, wa + 2, wa + 3, va]) (pF [(wa, 11), (wa, 12)])
/-- a Ways as it should be: what is stamped is settled -/
def WOk (h : XH) (wa va zv : Nat) (B : XB) (dd : Int) (M : XM) (go : Int) (bm : Bool) (stp : Int) : Prop := (WV h wa va zv ∧ gI h wa 4 = iI go ∧ gI h wa 2 = iI (b2i bm) ∧ gI h wa 8 = iI stp ∧ R32 stp) ∧ (∀ s, StM M s → zA h (wa + 1) s = stp → VR h va (s * M.n) M.n (fun c => cvv (Vl (xp B dd M go bm) s c))) ∧ (∀ s, StM M s → s * M.n + M.n ≤ zv) ∧ ∀ s, 0 ≤ s → s < 1024 → zA h (wa + 1) s ≤ stp
def Kep (h h' : XH) (wa va : Nat) (n s : Int) : Prop := ∀ s', 0 ≤ s' → s' < s → zA h' (wa + 1) s' = zA h (wa + 1) s' ∧ ∀ c, 0 ≤ c → c < n → zL h' va (s' * n + c) = zL h va (s' * n + c)
theorem Kep.refl (h : XH) (wa va : Nat) (n s : Int) : Kep h h wa va n s := fun _ _ _ => ⟨rfl, fun _ _ _ => rfl⟩
theorem Kep.trans {h1 h2 : XH} {s : Int} (a : Kep h h1 wa va n s) (b : Kep h1 h2 wa va n s) : Kep h h2 wa va n s := fun s' q1 q2 => ⟨(b s' q1 q2).1.trans (a s' q1 q2).1, fun c c0 c1 => ((b s' q1 q2).2 c c0 c1).trans ((a s' q1 q2).2 c c0 c1)⟩
theorem Kep.le {h1 : XH} {s t : Int} (a : Kep h h1 wa va n s) (q : t ≤ s) : Kep h h1 wa va n t := fun s' q1 q2 => a s' q1 (by omega)
theorem row_ne {s s' c c' n : Int} (hn : 1 ≤ n) (hc : 0 ≤ c ∧ c < n) (hc' : 0 ≤ c' ∧ c' < n) (hs : ¬ s = s') : ¬ s * n + c = s' * n + c' := fun z => by
  by_cases q : s < s'
  · have := Int.mul_le_mul_of_nonneg_right (a := s + 1) (b := s') (c := n) (by omega) (by omega)
    rw [Int.add_mul] at this; omega
  · have := Int.mul_le_mul_of_nonneg_right (a := s' + 1) (b := s) (c := n) (by omega) (by omega)
    rw [Int.add_mul] at this; omega
theorem PWs_fr {h1 : XH} (hw : Wa wa) (hv : va = wa + 4 ∨ 155 ≤ va) (f : Fr (PWs wa va) h h1) (hP : CMp h M) (hE : Prep h B dd M) : CMp h1 M ∧ Prep h1 B dd M := by
  have hw' : wa = 96 ∨ wa = 101 := hw
  refine ⟨hP.fr f (fun a j p q _ => by simp [pO, pA, pF]; omega), fun c w a b a2 b2 => ?_⟩
  have z := hE c w a b a2 b2
  unfold PE at z ⊢
  have e95 : ∀ i, zA h1 94 i = zA h 94 i := fun i => f.A (by simp [pO, pA, pF]; omega)
  have e96 : ∀ i, zA h1 95 i = zA h 95 i := fun i => f.A (by simp [pO, pA, pF]; omega)
  simp only [e95, e96]
  exact z
/-- what a look at a state promises -/
def SeeT (wa va zv : Nat) (B : XB) (dd : Int) (M : XM) (go : Int) (bm : Bool) (stp : Int) (k D0 : Nat) (dpm : Int) (Q : Int → Int → Prop) (kp : Int) : Prop := ∀ (D : Nat) (h : XH) (KL64 : Int64 → XH → Prop) (s c dp : Int), D0 ≤ D → Lay h → CMp h M → Prep h B dd M → WOk h wa va zv B dd M go bm stp → StM M s → 0 ≤ c ∧ c < M.n → (xp B dd M go bm).opn s ≤ k → 0 ≤ dp → dp + dpm ≤ 40 → Q s c →
  (∀ h', Fr (PWs wa va) h h' → WOk h' wa va zv B dd M go bm stp → Kep h h' wa va M.n (s + kp) → KL64 (iL (cvv (Vl (xp B dd M go bm) s c))) h') → XW D 106 0 [.ref wa, .int (iI s), .int (iI c), .int (iI dp), .null, .null, .null, .null, .null, .null] [] h (KL KL64)
def SetT (wa va zv : Nat) (B : XB) (dd : Int) (M : XM) (go : Int) (bm : Bool) (stp : Int) (k D0 : Nat) (dpm : Int) : Prop := ∀ (D : Nat) (h : XH) (KU : XH → Prop) (s dp : Int), D0 ≤ D → Lay h → CMp h M → Prep h B dd M → WOk h wa va zv B dd M go bm stp → StM M s → (xp B dd M go bm).opn s ≤ k → 0 ≤ dp → dp + dpm ≤ 40 →
  (∀ h', Fr (PWs wa va) h h' → WOk h' wa va zv B dd M go bm stp → Kep h h' wa va M.n s → zA h' (wa + 1) s = stp → KU h') → XW D 107 0 [.ref wa, .int (iI s), .int (iI dp), .null, .null, .null, .null] [] h (KV KU)
/-- where more is seen -/
theorem c_news {k : Nat} (hw : Wa wa) (ho : B.ok) (hd : 0 ≤ dd ∧ dd < B.w) (hm : M.ok B.g) (hg : 0 ≤ go ∧ go < M.n) (T : k = 0 ∨ ∃ k', k = k' + 1 ∧ SeeT wa va zv B dd M go bm stp k' (3 * k' + 6) (3 * k' + 3) (fun _ _ => True) 0) :
    SeeT wa va zv B dd M go bm stp k (3 * k + 4) (3 * k + 1) (fun s c => c = go ∨ ¬ (xp B dd M go bm).nw s c = -1) 1 := by
  intro D h KL64 s c dp hD hL hP hE hO hs hc hk hdp hdp2 hQ kk
  obtain ⟨D, rfl⟩ : ∃ D', D = D' + 4 := ⟨D - 4, by omega⟩
  have o := hm.1
  have hn := M.n_in hm
  have hs1 := hs.1
  have hX := xp_ok (go := go) (bm := bm) ho hm hd hg
  have hV := Vl_sol hX
  have hst : St (xp B dd M go bm) s := hs
  have e4 := hO.1.2.1
  by_cases q1 : c = go
  · have v0 : Vl (xp B dd M go bm) s c = 0 := by
      have := Sol.goal hX hV hst
      rw [show (xp B dd M go bm).go = c from q1.symm] at this
      exact this
    have kk := kk h (Fr.refl _ _) hO (Kep.refl _ _ _ _ _)
    rw [v0] at kk
    refine w_iload2 r_106_0 ?_
    refine w_aload0 r_106_1 ?_
    refine v_getI r_106_2 (Wk hL hw).1 e4 ?_
    refine v_ic_ne r_106_5 (by first | exact zF_in _ _ _ | exact zA_in _ _ _ | omega) (by first | exact zF_in _ _ _ | exact zA_in _ _ _ | omega) (fun q => absurd q (by omega)) (fun _ => ?_)
    refine w_lconst (v := iL 0) r_106_8 rfl ?_
    refine w_lret r_106_9 ?_
    exact kk
  · have hQ : ¬ (xp B dd M go bm).nw s c = -1 := hQ.resolve_left q1
    rcases (xp B dd M go bm).nw_spec s c (by have : (xp B dd M go bm).nd = M.nd := rfl; omega) with ⟨z, _⟩ | ⟨n1, n2, n3, _⟩
    · exact absurd z hQ
    have hv := Sol.seen hX hV hst hc.1 hc.2 q1 hQ
    have eN : (xp B dd M go bm).nw s c = fst1 (fun e => decide (dg s e = 0) && nr M.wd M.hg (M.dc e) c) M.nd.toNat 0 := rfl
    generalize hE2 : (xp B dd M go bm).nw s c = e at *
    have he : 0 ≤ e ∧ e < M.nd := n1
    have om := mny_in hm he
    rcases T with T | ⟨k', hk', T⟩
    · exfalso
      have ot := opn_tel (P := xp B dd M go bm) (s := s) (e := e) (k := 0) hX hs1 n1 n2 (by omega)
      have oi := opn_in (P := xp B dd M go bm) (s := tel s e 0) hX
      omega
    have loop : ∀ i : Nat, i ≤ (mny M e).toNat → ∀ (h1 : XH) (X8 X9 : Value), Fr (PWs wa va) h h1 → WOk h1 wa va zv B dd M go bm stp → Kep h h1 wa va M.n (s + 1) → XW (D + 4) 106 68 [.ref wa, .int (iI s), .int (iI c), .int (iI dp), .int (iI e), .long (iL (cvv (ovK (xp B dd M go bm).bm ((xp B dd M go bm).we e) (fun k => Vl (xp B dd M go bm) (tel s e k) c) i))), .null, .int (iI i), X8, X9] [] h1 (KL KL64) := by
      refine upto _ ?_ ?_
      · intro h1 X8 X9 f hO1 hK1
        have hL := f.lay hL
        obtain ⟨hP, hE⟩ := PWs_fr hw hO.1.1.2.2.2.2.2.2 f hP hE
        have e90 : gI h1 89 e.toNat = iI (mny M e) := by rw [gI_A, (hP.ch he).1]
        have kk := kk h1 f hO1 hK1
        rw [hv] at kk
        refine w_iload7 r_106_68 ?_
        refine w_aload0 r_106_70 ?_
        refine w_getA (x := 80) r_106_71 (Wk hL hw).1 (Wk0 hL hw).1 (by decide) ?_
        refine w_getA (x := 89) r_106_74 (Lk_80 hL) (Lr_80_13 hL) (by decide) ?_
        refine w_iload4 r_106_77 ?_
        refine v_iald r_106_79 (Lk_89 hL) (Lz_89 hL) (by decide) (by omega) e90 ?_
        refine v_ic_ge r_106_80 (by first | exact zF_in _ _ _ | exact zA_in _ _ _ | omega) (by first | exact zF_in _ _ _ | exact zA_in _ _ _ | omega) (fun _ => ?_) (fun q => absurd q (by omega))
        refine w_lload5 r_106_135 ?_
        refine w_lret r_106_137 ?_
        exact kk
      · intro i hi ih h1 X8 X9 f hO1 hK1
        have hL := f.lay hL
        obtain ⟨hP, hE⟩ := PWs_fr hw hO.1.1.2.2.2.2.2.2 f hP hE
        have e90 : gI h1 89 e.toNat = iI (mny M e) := by rw [gI_A, (hP.ch he).1]
        have kk := kk h1 f hO1 hK1
        rw [hv] at kk
        have on := ovK_in (bm := (xp B dd M go bm).bm) (w := (xp B dd M go bm).we e) (f := fun k => Vl (xp B dd M go bm) (tel s e k) c) (n := i) (fun j j0 j1 => (hV _ (hst.tel (k := j) hX n1 n2 ⟨j0, by have : (xp B dd M go bm).mn e = mny M e := rfl; omega⟩)).2 c hc.1 (by have : (xp B dd M go bm).n = M.n := rfl; omega)) (fun j j0 j1 => by have := hX.2.2.1 e j n1.1 n1.2 j0 (by have : (xp B dd M go bm).mn e = mny M e := rfl; omega); omega)
        have cl := cvv_lt on
        by_cases q2 : ovK (xp B dd M go bm).bm ((xp B dd M go bm).we e) (fun k => Vl (xp B dd M go bm) (tel s e k) c) i < 1000000000000000
        · have stt := hst.tel (k := (i : Int)) hX n1 n2 ⟨by omega, by have : (xp B dd M go bm).mn e = mny M e := rfl; omega⟩
          have ti := tel_in (s := s) (e := e) (k := i) hs1 (by omega) n2 (by omega)
          have ot := opn_tel (P := xp B dd M go bm) (s := s) (e := e) (k := i) hX hs1 n1 n2 (by omega)
          have vt := cvv_lt ((hV _ stt).2 c hc.1 (by have : (xp B dd M go bm).n = M.n := rfl; omega))
          have nx := ov_next hX hV hst n1 n2 hc.1 hc.2 (j := i) (by have : (xp B dd M go bm).mn e = mny M e := rfl; omega) q2
          rw [nx] at ih
          have et : s + ((i : Int) + 1) * 4 ^ e.toNat = tel s e i := rfl
          refine w_iload7 r_106_68 ?_
          refine w_aload0 r_106_70 ?_
          refine w_getA (x := 80) r_106_71 (Wk hL hw).1 (Wk0 hL hw).1 (by decide) ?_
          refine w_getA (x := 89) r_106_74 (Lk_80 hL) (Lr_80_13 hL) (by decide) ?_
          refine w_iload4 r_106_77 ?_
          refine v_iald r_106_79 (Lk_89 hL) (Lz_89 hL) (by decide) (by omega) e90 ?_
          refine v_ic_ge r_106_80 (by first | exact zF_in _ _ _ | exact zA_in _ _ _ | omega) (by first | exact zF_in _ _ _ | exact zA_in _ _ _ | omega) (fun q => absurd q (by omega)) (fun _ => ?_)
          refine w_lload5 r_106_83 ?_
          refine w_ldc2 (v := iL (1152921504606846976)) r_106_85 rfl ?_
          refine v_lcmp r_106_88 (by first | exact zF_in _ _ _ | exact zA_in _ _ _ | omega) (by first | exact zF_in _ _ _ | exact zA_in _ _ _ | omega) ?_
          rw [if_neg (by omega), if_neg (by omega)] 
          refine v_if_ge r_106_89 (by first | exact zF_in _ _ _ | exact zA_in _ _ _ | omega) (fun q => absurd q (by decide)) (fun _ => ?_)
          refine w_aload0 r_106_92 ?_
          refine w_iload1 r_106_93 ?_
          refine w_aload0 r_106_94 ?_
          refine w_getA (x := 80) r_106_95 (Wk hL hw).1 (Wk0 hL hw).1 (by decide) ?_
          refine w_iload4 r_106_98 ?_
          refine w_iload7 r_106_100 ?_
          refine k_58 r_106_102 (Lk_80 hL) (Nat.le_of_ble_eq_true rfl) ?_
          refine c_stateBits (by omega) (by omega) ?_
          refine v_iorT (hs := hs1) (he := by omega) (h0 := n2) (hk := by omega) r_106_105 ?_
          rw [et] 
          refine w_iload2 r_106_106 ?_
          refine w_iload3 r_106_107 ?_
          refine w_iconst (v := iI (1)) r_106_108 rfl ?_
          refine v_iadd r_106_109 ?_
          refine k_106 r_106_110 (Wk hL hw).1 (Nat.le_of_ble_eq_true rfl) ?_
          refine T (D + 3) h1 _ (tel s e i) c (dp + 1) (by omega) hL hP hE hO1 stt hc (by omega) (by omega) (by omega) trivial (fun h2 f2 hO2 hK2 => ?_)
          have hL := f2.lay hL
          obtain ⟨hP, hE⟩ := PWs_fr hw hO.1.1.2.2.2.2.2.2 f2 hP hE
          refine w_lstore8 r_106_113 rfl ?_
          refine w_aload0 r_106_115 ?_
          refine w_lload5 r_106_116 ?_
          refine w_lload8 r_106_118 ?_
          refine w_iload4 r_106_120 ?_
          refine w_iload7 r_106_122 ?_
          refine k_105 r_106_124 (Wk hL hw).1 (Nat.le_of_ble_eq_true rfl) ?_
          refine c_together hL hw hP hm hO2.1.2.2.1 cl.1 vt.1 he (by omega) ?_
          refine w_lstore5 r_106_127 rfl ?_
          refine w_iinc7 r_106_129 rfl (iI_add _ _) ?_
          refine w_goto r_106_132 ?_
          exact ih h2 _ _ (f.trans f2) hO2 (hK1.trans (hK2.le (by omega)))
        · have st := ovK_stay (bm := (xp B dd M go bm).bm) (w := (xp B dd M go bm).we e) (f := fun k => Vl (xp B dd M go bm) (tel s e k) c) (j := i) (by omega) ((mny M e).toNat - i)
          rw [show i + ((mny M e).toNat - i) = (mny M e).toNat by omega] at st
          have c1 : cvv (ovK (xp B dd M go bm).bm ((xp B dd M go bm).we e) (fun k => Vl (xp B dd M go bm) (tel s e k) c) i) = 1152921504606846976 := by unfold cvv; rw [if_pos (by omega)]
          have c2 : cvv ((xp B dd M go bm).ov (Vl (xp B dd M go bm)) s c e) = 1152921504606846976 := by unfold cvv; rw [if_pos (by exact st)]
          rw [c2] at kk
          rw [c1]
          refine w_iload7 r_106_68 ?_
          refine w_aload0 r_106_70 ?_
          refine w_getA (x := 80) r_106_71 (Wk hL hw).1 (Wk0 hL hw).1 (by decide) ?_
          refine w_getA (x := 89) r_106_74 (Lk_80 hL) (Lr_80_13 hL) (by decide) ?_
          refine w_iload4 r_106_77 ?_
          refine v_iald r_106_79 (Lk_89 hL) (Lz_89 hL) (by decide) (by omega) e90 ?_
          refine v_ic_ge r_106_80 (by first | exact zF_in _ _ _ | exact zA_in _ _ _ | omega) (by first | exact zF_in _ _ _ | exact zA_in _ _ _ | omega) (fun q => absurd q (by omega)) (fun _ => ?_)
          refine w_lload5 r_106_83 ?_
          refine w_ldc2 (v := iL (1152921504606846976)) r_106_85 rfl ?_
          refine v_lcmp r_106_88 (by first | exact zF_in _ _ _ | exact zA_in _ _ _ | omega) (by first | exact zF_in _ _ _ | exact zA_in _ _ _ | omega) ?_
          rw [if_neg (by omega), if_pos rfl] 
          refine v_if_ge r_106_89 (by first | exact zF_in _ _ _ | exact zA_in _ _ _ | omega) (fun _ => ?_) (fun q => absurd q (by decide))
          refine w_lload5 r_106_135 ?_
          refine w_lret r_106_137 ?_
          exact kk
    have l0 := loop 0 (by omega) h .null .null (Fr.refl _ _) hO (Kep.refl _ _ _ _ _)
    refine w_iload2 r_106_0 ?_
    refine w_aload0 r_106_1 ?_
    refine v_getI r_106_2 (Wk hL hw).1 e4 ?_
    refine v_ic_ne r_106_5 (by first | exact zF_in _ _ _ | exact zA_in _ _ _ | omega) (by first | exact zF_in _ _ _ | exact zA_in _ _ _ | omega) (fun _ => ?_) (fun q => absurd q (by omega))
    refine w_iload3 r_106_10 ?_
    refine w_bipush (v := iI (40)) r_106_11 rfl ?_
    refine v_ic_le r_106_13 (by first | exact zF_in _ _ _ | exact zA_in _ _ _ | omega) (by first | exact zF_in _ _ _ | exact zA_in _ _ _ | omega) (fun _ => ?_) (fun q => absurd q (by omega))
    refine w_aload0 r_106_20 ?_
    refine w_getA (x := 80) r_106_21 (Wk hL hw).1 (Wk0 hL hw).1 (by decide) ?_
    refine w_iload1 r_106_24 ?_
    refine w_iload2 r_106_25 ?_
    refine k_64 r_106_26 (Lk_80 hL) (Nat.le_of_ble_eq_true rfl) ?_
    refine c_firstUnseen hL hP hm hs1 hc ?_
    rw [← eN] 
    refine w_istore4 r_106_29 rfl ?_
    refine w_iload4 r_106_31 ?_
    refine w_iconst (v := iI (-1)) r_106_33 rfl ?_
    refine v_ic_ne r_106_34 (by first | exact zF_in _ _ _ | exact zA_in _ _ _ | omega) (by first | exact zF_in _ _ _ | exact zA_in _ _ _ | omega) (fun _ => ?_) (fun q => absurd q (by omega))
    refine w_lconst (v := iL 0) r_106_62 rfl ?_
    refine w_lstore5 r_106_63 rfl ?_
    refine w_iconst (v := iI (0)) r_106_65 rfl ?_
    refine w_istore7 r_106_66 rfl ?_
    exact l0
end SE
