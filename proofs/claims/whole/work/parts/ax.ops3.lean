/-! calls: values, the class -/
/-- what the class's Ways must be between calls -/
def CWy (h : XH) (wa va zv : Nat) (B : XB) (dd : Int) (M : XM) (bm : Bool) (stp : Int) : Prop := (zF h 91 12 = zF h 80 4 → Prep h B dd M) ∧ WIn h wa va zv B dd M bm stp ∧ stp < 100000 ∧ gN h < 899000
/-- a Ways was used -/
def Wed (X : Nat → Nat → Bool) (h h' : XH) (wa va zv va' zv' : Nat) (B : XB) (dd : Int) (M : XM) (bm : Bool) (stp stp' : Int) : Prop := Ch (pO (PAi wa va) X) (pF [(wa, 6)]) h h' ∧ WIn h' wa va' zv' B dd M bm stp' ∧ ((va' = va ∧ zv' = zv ∧ gN h' = gN h ∧ gU h' = gU h) ∨ (va' = gN h ∧ gN h' = gN h + 1 ∧ gU h' = gU h + zv' ∧ zv < zv' ∧ (2 * zv ≤ zv' ∨ zv' = 102400))) ∧ (stp ≤ stp' ∧ stp' ≤ stp + 1) ∧ Prep h' B dd M ∧ CMp h' M ∧ Lay h' ∧ zF h' 91 12 = zF h' 80 4
section OP3
variable {d : Nat} {h h' h1 : XH} {K : Int32 → XH → Prop} {KL64 : Int64 → XH → Prop} {KU : XH → Prop} {B : XB} {dd : Int} {M : XM} {rb wa va zv va' zv' : Nat} {c go e stp stp' : Int} {bm : Bool} {X : Nat → Nat → Bool}
theorem ai_ws {a j : Nat} (p : PAi wa va a j = false) (hne : ¬ a = va') : PWs wa va' a j = false := by
  simp only [pO, Bool.or_eq_false_iff] at p ⊢
  obtain ⟨p1, p2⟩ := p
  refine ⟨?_, ?_⟩
  · simp [pA] at p1 ⊢; omega
  · simp [pF] at p2 ⊢; omega
theorem ai_va {a j : Nat} (p : PAi wa va a j = false) : ¬ a = va := by
  intro w
  subst w
  simp [pO, pA] at p
theorem Wed.of (hw : Wa wa) (hL : Lay h) (hm : M.ok B.g) (hv : va = wa + 4 ∨ 155 ≤ va) (A : Aim h h1 wa va zv va' zv' B dd M go bm stp stp') (f : Fr (pO (PWs wa va') X) h1 h') (O : Aimed h' wa va' zv' B dd M go bm stp') (hst : 0 ≤ stp ∧ stp < 100000) (hg : 0 ≤ go ∧ go < M.n) (hx : X wa 5 = false ∧ X 80 4 = false) (hx2 : X 91 12 = false := by first | rfl | simp [pO, pA, pF]) : Wed X h h' wa va zv va' zv' B dd M bm stp stp' := by
  obtain ⟨A1, A2, A3, A4, A5, A6, A7, A8⟩ := A
  have hn := M.n_in hm
  have L' := f.lay A8
  have hN := L'.2.2.2.1
  have hN1 := A8.2.2.2.1
  have hN0 := hL.2.2.1
  have wv := O.2.2.1.1
  have c2 := f.ch
  have hw' : wa = 96 ∨ wa = 101 := hw
  have v156 := wv.2.2.2.2.2.2
  have vlt := wv.2.2.2.1
  have eN := f.N
  have z4 : zF h1 80 4 = zF h 80 4 := by
    unfold zF
    rw [(A1.1 80 4 (Or.inl (by omega)) (by simp [pO, pA, pF]; omega)).1]
  have z4' : zF h' 80 4 = zF h1 80 4 := f.F (by simp [pO, pA, pF, hx.2]; omega)
  have z5' : zF h' wa 5 = zF h1 wa 5 := f.F (by simp [pO, pA, pF, hx.1]; omega)
  have ha : ∀ a, a < gN h ∨ 1000000 ≤ a → a < gN h1 ∨ 1000000 ≤ a := fun a q => by have := A1.2.2.2; omega
  have nv : ∀ a j, (a < gN h ∨ 1000000 ≤ a) → pO (PAi wa va) X a j = false → pO (PWs wa va') X a j = false := fun a j q p => by
    have p' : (PAi wa va a j || X a j) = false := p
    obtain ⟨p1, p2⟩ := Bool.or_eq_false_iff.1 p'
    have hne : ¬ a = va' := by
      rcases A3 with z | z
      · rw [z.1]; exact ai_va p1
      · have z1 := z.1
        clear p p' p1 p2 A1 A2 O f c2
        omega
    show (PWs wa va' a j || X a j) = false
    exact Bool.or_eq_false_iff.2 ⟨ai_ws p1 hne, p2⟩
  have g4 : zF h' wa 4 = go := gF (by omega) O.2.2.1.2.1
  refine ⟨⟨fun a j q p => ?_, fun a j q p => ?_, fun a q => ?_, ?_⟩, ⟨⟨wv, O.2.2.1.2.2.1, O.2.2.1.2.2.2.1, by omega⟩, O.2.2.2.2.2, by omega, fun _ _ s hs q => by rw [g4]; exact O.2.2.2.1 s hs q⟩, ?_, A4, O.2.1, O.1, L', ?_⟩
  · have p' : (PAi wa va a j || X a j) = false := p
    have p1 := (Bool.or_eq_false_iff.1 p').1
    have x1 := A1.1 a j q p1
    have x2 := c2.1 a j (ha a q) (nv a j q p)
    exact ⟨x2.1.trans x1.1, x2.2.trans x1.2⟩
  · exact (c2.2.1 a j (ha a q) rfl).trans (A1.2.1 a j q p)
  · have x1 := A1.2.2.1 a q
    have x2 := c2.2.2.1 a (ha a q)
    exact ⟨x2.1.trans x1.1, x2.2.trans x1.2⟩
  · have := A1.2.2.2; omega
  · rw [eN, f.U]; exact A3
  · rw [z4', z4, ← A7]
    exact f.F (by simp [pO, pA, pF, hx2]; omega)
theorem pq0 {P : Nat → Nat → Bool} {g g' : XH} (f : Fr P g g') : Fr (pO P q0) g g' := f.mono (fun a j q => by simp [pO] at q; exact q.1)
theorem vl_in (ho : B.ok) (hm : M.ok B.g) (hd : 0 ≤ dd ∧ dd < B.w) (hg : 0 ≤ go ∧ go < M.n) (hc : 0 ≤ c ∧ c < M.n) : (0 ≤ Vl (xp B dd M go bm) (sta M) c ∧ Vl (xp B dd M go bm) (sta M) c ≤ 1000000000000000) ∧ (Vl (xp B dd M go bm) (sta M) c < 1000000000000000 → Vl (xp B dd M go bm) (sta M) c ≤ 400000000000000 ∧ (bm = false → Vl (xp B dd M go bm) (sta M) c ≤ 24060600)) := by
  have hX := xp_ok (go := go) (bm := bm) ho hm hd hg
  have hV := Vl_sol hX
  have hs := sta_st hm
  have hn := M.n_in hm
  exact ⟨(hV (sta M) hs).2 c hc.1 (by show c < ((M.n.toNat : Nat) : Int); omega), fun q => Sol.small hX hV hs hc.1 hc.2 q⟩
theorem c_worst (hc : R32 c) (hgo : R32 go) (hL : Lay h) (hX : CX h rb B dd M) (hW : 0 < M.n → CWy h 96 va zv B dd M false stp)
    (k1 : ¬ ((0 ≤ c ∧ c < M.n) ∧ 0 ≤ go ∧ go < M.n) → K (iI (-1)) (sI h 1 18 (iI 1)))
    (k6 : (0 ≤ c ∧ c < M.n) ∧ 0 ≤ go ∧ go < M.n → ¬ Vl (xp B dd M go false) (sta M) c < 1000000000000000 → ∀ h' va' zv' stp', Wed q0 h h' 96 va zv va' zv' B dd M false stp stp' → K (iI (-1)) (sI h' 1 18 (iI 6)))
    (kt : (0 ≤ c ∧ c < M.n) ∧ 0 ≤ go ∧ go < M.n → Vl (xp B dd M go false) (sta M) c < 1000000000000000 → ∀ h' va' zv' stp', Wed q0 h h' 96 va zv va' zv' B dd M false stp stp' → K (iI (Vl (xp B dd M go false) (sta M) c)) (sI h' 1 18 (iI 0))) :
    XW (d + 23) 135 0 [.ref 1, .int (iI c), .int (iI go), .null, .null] [] h (KI K) := by
  obtain ⟨hB, hC, hP, hv⟩ := hX
  have hb := hB.1
  have e2 := hP.1.2.2.1
  have main : (0 ≤ c ∧ c < M.n) ∧ 0 ≤ go ∧ go < M.n → XW (d + 23) 135 15 [.ref 1, .int (iI c), .int (iI go), .null, .null] [] h (KI K) := by
    intro cd
    obtain ⟨ho, hm, hd, hS⟩ := hv (by omega)
    obtain ⟨hE, hI, hst, hN⟩ := hW (by omega)
    have kt := kt cd
    have k6 := k6 cd
    have vi := vl_in (bm := false) ho hm hd cd.2 cd.1
    have cv := cvv_lt vi.1
    have fin : ∀ h1 va' zv' stp', Aim h h1 96 va zv va' zv' B dd M go false stp stp' → XW (d + 23) 135 23 [.ref 1, .int (iI c), .int (iI go), .null, .null] [] h1 (KI K) := by
      intro h1 va' zv' stp' A
      have hL1 := A.2.2.2.2.2.2.2
      have tail : ∀ h2, Fr (PWs 96 va') h1 h2 → Aimed h2 96 va' zv' B dd M go false stp' → XW (d + 23) 135 38 [.ref 1, .int (iI c), .int (iI go), .null, .null] [.long (iL (cvv (Vl (xp B dd M go false) (sta M) c)))] h2 (KI K) := by
        intro h2 f2 O2
        have W := Wed.of (Or.inl rfl) hL hm hI.1.1.2.2.2.2.2.2 A (pq0 f2) O2 ⟨hI.1.2.2.2.1, hst⟩ cd.2 ⟨rfl, rfl⟩
        have hL := f2.lay hL1
        by_cases q : Vl (xp B dd M go false) (sta M) c < 1000000000000000
        · have R := kt q h2 va' zv' stp' W
          rw [cv.2.2 q]
          refine w_lstore3 r_135_38 rfl ?_
          refine w_lload3 r_135_39 ?_
          refine w_ldc2 (v := iL (1152921504606846976)) r_135_40 rfl ?_
          refine v_lcmp r_135_43 (by first | exact zF_in _ _ _ | exact zA_in _ _ _ | omega) (by first | exact zF_in _ _ _ | exact zA_in _ _ _ | omega) ?_
          refine v_if_lt r_135_44 (by split <;> (try split) <;> omega) (fun _ => ?_) (fun q => absurd q (by (split <;> (try split) <;> omega)))
          refine w_aload0 r_135_56 ?_
          refine w_lload3 r_135_57 ?_
          refine v_l2i r_135_58 ?_
          refine k_156 r_135_59 (Lk_1 hL) (Nat.le_of_ble_eq_true rfl) ?_
          refine c_answer hL ?_
          refine w_iret r_135_62 ?_
          exact R
        · have R := k6 q h2 va' zv' stp' W
          have : ¬ cvv (Vl (xp B dd M go false) (sta M) c) < 1152921504606846976 := fun x => q (cv.2.1.1 x)
          refine w_lstore3 r_135_38 rfl ?_
          refine w_lload3 r_135_39 ?_
          refine w_ldc2 (v := iL (1152921504606846976)) r_135_40 rfl ?_
          refine v_lcmp r_135_43 (by first | exact zF_in _ _ _ | exact zA_in _ _ _ | omega) (by first | exact zF_in _ _ _ | exact zA_in _ _ _ | omega) ?_
          refine v_if_lt r_135_44 (by split <;> (try split) <;> omega) (fun q => absurd q (by (split <;> (try split) <;> omega))) (fun _ => ?_)
          refine w_aload0 r_135_47 ?_
          refine w_bipush (v := iI (6)) r_135_48 rfl ?_
          refine k_157 r_135_50 (Lk_1 hL) (Nat.le_of_ble_eq_true rfl) ?_
          refine c_refuse hL ?_
          refine w_goto r_135_53 ?_
          refine w_iret r_135_62 ?_
          exact R
      have hL := hL1
      refine w_aload0 r_135_23 ?_
      refine w_getA (x := 96) r_135_24 (Lk_1 hL) (Lr_1_11 hL) (by decide) ?_
      refine w_aload0 r_135_27 ?_
      refine w_getA (x := 80) r_135_28 (Lk_1 hL) (Lr_1_9 hL) (by decide) ?_
      refine k_56 r_135_31 (Lk_80 hL) (Nat.le_of_ble_eq_true rfl) ?_
      refine c_startState (d := d + 20) hL A.2.1.1 hm ?_
      refine w_iload1 r_135_34 ?_
      refine k_103 r_135_35 (Lk_96 hL) (Nat.le_of_ble_eq_true rfl) ?_
      refine c_valueFrom (d := d) (Or.inl rfl) ho hd hm cd.2 hL A.2.1 (sta_st hm) cd.1 (fun h2 f2 O2 => ?_)
      exact tail h2 f2 O2
    refine w_aload0 r_135_15 ?_
    refine w_getA (x := 96) r_135_16 (Lk_1 hL) (Lr_1_11 hL) (by decide) ?_
    refine w_iload2 r_135_19 ?_
    refine k_102 r_135_20 (Lk_96 hL) (Nat.le_of_ble_eq_true rfl) ?_
    refine c_aim (d := d + 17) (Or.inl rfl) hL hb hB.2.2.2.1 hC ho hS hP hm hd cd.2 hE hI hst hN (fun h1 va' zv' stp' A => ?_)
    exact fin h1 va' zv' stp' A
  refine w_aload0 r_135_0 ?_
  refine w_iload1 r_135_1 ?_
  refine w_iload2 r_135_2 ?_
  refine k_154 r_135_3 (Lk_1 hL) (Nat.le_of_ble_eq_true rfl) ?_
  refine c_areCells (by omega) (by omega) hL (fun c3 => ?_) (fun c3 => ?_)
  · refine v_if_ne r_135_6 (by first | exact zF_in _ _ _ | exact zA_in _ _ _ | omega) (fun _ => ?_) (fun q => absurd q (by omega))
    exact main (by omega)
  · refine v_if_ne r_135_6 (by first | exact zF_in _ _ _ | exact zA_in _ _ _ | omega) (fun q => absurd q (by omega)) (fun _ => ?_)
    refine w_aload0 r_135_9 ?_
    refine w_iconst (v := iI (1)) r_135_10 rfl ?_
    refine k_157 r_135_11 (Lk_1 hL) (Nat.le_of_ble_eq_true rfl) ?_
    refine c_refuse hL ?_
    refine w_iret r_135_14 ?_
    exact k1 (by omega)
end OP3
