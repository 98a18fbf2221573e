/-! the class's book -/
section CBO
variable {d : Nat} {h : XH} {K : Int32 → XH → Prop} {KU : XH → Prop} {B : XB} {rb sp : Nat}
/-- what the class's book may change -/
def pCb (sp : Nat) : Nat → Nat → Bool := fun a j => (a == 1 && (j == 1 || (j == 8 || (j == 18 || j == 19)))) || (a == 3 || ((decide (sp ≤ a) && decide (a ≤ sp + 13)) || ((a == 80 && decide (j ≤ 4)) || ((a == 91 && (j == 2 || j == 3)) || (a == 92 || (a == 93 || ((a == 107 && (j == 4 || j == 10)) || a == 108)))))))
/-- what it changes if the text is faulty -/
def pCf (sp : Nat) : Nat → Nat → Bool := fun a j => (a == 1 && (j == 1 || (j == 18 || j == 19))) || (a == 3 || (decide (sp ≤ a) && decide (a ≤ sp + 13)))
abbrev qCb : Nat → Nat → Bool := pF [(1, 5), (1, 6), (91, 1), (107, 0)]
theorem xRT_cb : ∀ q ∈ xRT, qCb q.1 q.2.1 = false := by decide +kernel
theorem fr_cb {P : Nat → Nat → Bool} {h' : XH} (f : Fr P h h') (hp : ∀ a j, pCb sp a j = false → P a j = false) : Ch (pCb sp) qCb h h' := f.ch.mono hp (fun _ _ _ => rfl)
theorem ch_R {h' : XH} (a j v : Nat) (hq : qCb a j = true) (c : Ch (pCb sp) qCb h h') : Ch (pCb sp) qCb h (sR h' a j v) := c.trans ((Ch.sR h' a j v).mono (fun _ _ _ => rfl) (fun x i q => by
  simp [pF] at q hq ⊢
  intro e1 e2
  subst e1; subst e2
  omega))
theorem cb_lay {h' : XH} (c : Ch (pCb sp) qCb h h') (hL : Lay h) (hn : gN h' < 900000) : Lay h' := c.lay hL xRT_cb (fun j => by simp [pF]; omega) xRT_lt hn
theorem cb_18 {a j : Nat} (q : pCb sp a j = false) : pF [(1, 18)] a j = false := by simp [pCb] at q; simp [pF]; omega
theorem cb_19 {a j : Nat} (q : pCb sp a j = false) : pF [(1, 19)] a j = false := by simp [pCb] at q; simp [pF]; omega
theorem cb_89 {a j : Nat} (q : pCb sp a j = false) : pF [(1, 18), (1, 19)] a j = false := by simp [pCb] at q; simp [pF]; omega
theorem cb_C {a j : Nat} (q : pCb sp a j = false) : pF [(80, 0), (80, 1), (80, 2), (80, 3), (80, 4), (1, 8)] a j = false := by
  simp [pCb] at q
  have q1 := q.1
  have q2 := q.2.2.2.1
  by_cases c : a = 80
  · have := q2 c; simp [pF]; omega
  · simp [pF, c]; omega
theorem cb_L {a j : Nat} (q : pCb sp a j = false) : PLn a j = false := by
  simp [pCb] at q
  have q2 := q.2.2.2.2
  simp [pO, pA, pF]; omega
theorem cb_D {a j : Nat} (q : pCb sp a j = false) : pO (pA [108]) (pF [(107, 4), (107, 10)]) a j = false := by
  simp [pCb] at q
  have q2 := q.2.2.2.2.2.2.2
  simp [pO, pA, pF]; omega
theorem cb_B {a j : Nat} (q : pCb sp a j = false) : pB sp a j = false := by
  simp [pCb] at q
  have q1 := q.2.1
  have q2 := q.2.2.1
  simp [pB]; omega
theorem cb_2 {a j : Nat} (q : pCb sp a j = false) : pF [(1, 1), (3, 1), (3, 2), (3, 3), (3, 4), (3, 5), (3, 6), (3, 7), (3, 8)] a j = false := by
  simp [pCb] at q
  have q1 := q.1
  have c := q.2.1
  simp [pF, c]; omega
set_option maxHeartbeats 4000000 in
theorem c_book {n t : Int} {T : Int → Int} (hn : R32 n) (hL : Lay h) (hS : StC h) (hB : RB h rb) (hsp : sp + rb = 26) (ht : gI h 1 1 = iI t ∧ 0 ≤ t ∧ t ≤ 500) (hT : ∀ i, 0 ≤ i → i < t → zA h 2 i = sgn (T i) ∧ 0 ≤ T i ∧ T i ≤ 255)
    (k1 : ¬ (0 ≤ n ∧ n ≤ t) → K (iI (-1)) (sI h 1 18 (iI 2)))
    (kf : 0 ≤ n ∧ n ≤ t → ∀ e, gLines (T, n) 501 (bk0, false) 0 = .inl e → ∀ h', Fr (pCf sp) h h' → zF h' 1 18 = 4 → zF h' 1 19 = e.1 → zF h' 3 8 = e.2 → zF h' 1 1 = 0 → (∀ a j, a = 80 ∨ a = 91 ∨ a = 92 ∨ a = 93 ∨ a = 107 ∨ a = 108 ∨ (a = 1 ∧ j = 8) → gI h' a j = gI h a j) → K (iI (-1)) h')
    (kt : 0 ≤ n ∧ n ≤ t → ∀ B', gLines (T, n) 501 (bk0, false) 0 = .inr B' → ∀ h', Ch (pCb sp) qCb h h' → gN h' = gN h → gU h' = gU h → Lay h' → RB h' sp → CBk h' sp B' → (zF h' 80 0 = 0 ∧ zF h' 80 1 = 0 ∧ zF h' 80 2 = 0 ∧ zF h' 80 3 = 0 ∧ gI h' 80 4 = iI (zF h 80 4 + 1)) → CLr h' B' 0 → (zF h' 107 4 = 0 ∧ zF h' 107 10 = 0 ∧ ∀ k : Int, 0 ≤ k → k < 6 → zA h' 108 k = 0) → (zF h' 1 18 = 0 ∧ zF h' 1 19 = 0 ∧ zF h' 1 1 = 0 ∧ zF h' 1 8 = 0) → K (iI B'.g) h') :
    XW (d + 10) 118 0 [.ref 1, .int (iI n), .null, .null] [] h (KI K) := by
  have hb := hB.1
  have hs : sp = 6 ∨ sp = 20 := by omega
  have r6 : gR h 1 6 = sp := by have := hB.2.2.1; omega
  have hN := hL.2.2.2.1
  have go : 0 ≤ n ∧ n ≤ t → XW (d + 10) 118 18 [.ref 1, .int (iI n), .null, .null] [] h (KI K) := by
    intro cn
    have kt := kt cn
    have kf := kf cn
    have ok : XT.ok (T, n) := ⟨⟨cn.1, by show n ≤ 500; omega⟩, fun k k0 k1 => (hT k k0 (by have : k < n := k1; omega)).2⟩
    obtain ⟨τ, hτ⟩ : ∃ τ : XT, τ = (T, n) := ⟨_, rfl⟩
    rw [← hτ] at kt kf ok
    have t1 : τ.1 = T := by rw [hτ]
    have t2 : τ.2 = n := by rw [hτ]
    have F0 : Fr (pF [(1, 1)]) h (sI h 1 1 (iI 0)) := (Fr.refl _ _).sI 1 1 _ (by simp [pF])
    have main : ∀ h2, Fr (pF [(1, 1), (3, 1), (3, 2), (3, 3), (3, 4), (3, 5), (3, 6), (3, 7), (3, 8)]) h h2 → zF h2 1 1 = 0 → TX h2 τ → TC h2 τ 0 → zF h2 3 7 = 0 → XW (d + 10) 118 31 [.ref 1, .int (iI n), .null, .null] [] h2 (KI K) := by
      intro h2 f2 z1 X2 T2 z7
      have L2 := f2.lay hL
      have S2 : StC h2 := hS.fr f2 (fun a j q => by simp [pF]; omega)
      have q6 : gR h2 1 6 = sp := (f2.R 1 6).trans r6
      have c2 : Ch (pCb sp) qCb h h2 := fr_cb f2 (fun a j q => cb_2 q)
      refine w_aload0 r_118_31 ?_
      refine w_getA (x := 4) r_118_32 (Lk_1 L2) (Lr_1_3 L2) (by decide) ?_
      refine w_aload0 r_118_35 ?_
      refine w_getA (x := sp) r_118_36 (Lk_1 L2) q6 (by omega) ?_
      refine k_8 r_118_39 (Lk_4 L2) (Nat.le_of_ble_eq_true rfl) ?_
      refine c_readBook L2 S2 X2 T2 hs z7 (fun B' gB h3 f3 C3 e7 => ?_) (fun e ge h3 f3 b3 => ?_)
      · have o' := gLines_ok ok 501 (bk0, false) 0 B' (by have := ok.1; omega) bk0_ok gB
        have L3 := f3.lay L2
        have c3 : Ch (pCb sp) qCb h h3 := c2.trans (fr_cb f3 (fun a j q => cb_B q))
        have c4 : Ch (pCb sp) qCb h (sI h3 1 19 (iI 0)) := c3.trans (fr_cb ((Fr.refl (pF [(1, 19)]) h3).sI 1 19 _ (by simp [pF])) (fun a j q => cb_19 q))
        have n3 : gN h3 = gN h := by rw [f3.N, f2.N]
        have u3 : gU h3 = gU h := by rw [f3.U, f2.U]
        have v48 : gI h3 3 7 = iI 0 := by rw [gI_F, e7]
        have r65 : gR (sI h3 1 19 (iI 0)) 1 5 = rb := (f3.R 1 5).trans ((f2.R 1 5).trans hB.2.1)
        have r71 : gR (sI h3 1 19 (iI 0)) 1 6 = sp := (f3.R 1 6).trans q6
        have z19 : zF (sI h3 1 19 (iI 0)) 1 19 = 0 := zF_s (by decide)
        have C4 : CBk (sI h3 1 19 (iI 0)) sp B' := C3.fr ((Fr.refl (pF [(1, 19)]) h3).sI 1 19 _ (by simp [pF])) hs (fun a j p q => by simp [pF]; omega)
        have zz1 : zF (sI h3 1 19 (iI 0)) 1 1 = 0 := by rw [zF_o (by decide), f3.F (by simp [pB]; omega)]; exact z1
        have e804 : zF (sI h3 1 19 (iI 0)) 80 4 = zF h 80 4 := by rw [zF_o (by decide), f3.F (by simp [pB]; omega), f2.F (by simp [pF])]
        have n4 : gN (sI h3 1 19 (iI 0)) = gN h := n3
        have u4 : gU (sI h3 1 19 (iI 0)) = gU h := u3
        have rest : ∀ g, Ch (pCb sp) qCb h g → gN g = gN h → gU g = gU h → gR g 1 5 = rb → gR g 1 6 = sp → zF g 1 19 = 0 → CBk g sp B' → zF g 1 1 = 0 → zF g 80 4 = zF h 80 4 → XW (d + 10) 118 64 [.ref 1, .int (iI n), .int (iI 1), .null] [] g (KI K) := by
          intro g cg ng ug g5 g6 g19 Cg g1 g80
          have Lg := cb_lay cg hL (by omega)
          have cA := ch_R 1 5 sp (by decide) cg
          have LA := cb_lay cA hL (by show gN g < _; omega)
          have cB := ch_R 1 6 rb (by decide) cA
          have LB := cb_lay cB hL (by show gN g < _; omega)
          have fC : Fr (pF [(80, 0), (80, 1), (80, 2), (80, 3), (80, 4), (1, 8)]) (sR (sR g 1 5 sp) 1 6 rb) (sI (sI (sI (sI (sI (sI (sR (sR g 1 5 sp) 1 6 rb) 80 0 (iI 0)) 80 1 (iI 0)) 80 2 (iI 0)) 80 3 (iI 0)) 80 4 (iI (zF g 80 4 + 1))) 1 8 (iI 0)) := ((((((Fr.refl _ _).sI 80 0 _ (by simp [pF])).sI 80 1 _ (by simp [pF])).sI 80 2 _ (by simp [pF])).sI 80 3 _ (by simp [pF])).sI 80 4 _ (by simp [pF])).sI 1 8 _ (by simp [pF])
          have cC := cB.trans (fr_cb fC (fun a j q => cb_C q))
          have i80 : ∀ x : XH, x = sI (sI (sI (sI (sI (sI (sR (sR g 1 5 sp) 1 6 rb) 80 0 (iI 0)) 80 1 (iI 0)) 80 2 (iI 0)) 80 3 (iI 0)) 80 4 (iI (zF g 80 4 + 1))) 1 8 (iI 0) → (zF x 80 0 = 0 ∧ zF x 80 1 = 0 ∧ zF x 80 2 = 0 ∧ zF x 80 3 = 0 ∧ gI x 80 4 = iI (zF h 80 4 + 1)) ∧ zF x 1 8 = 0 ∧ zF x 1 19 = 0 ∧ zF x 1 1 = 0 := fun x ex => by
            subst ex
            refine ⟨⟨by rw [zF_o (by decide), zF_o (by decide), zF_o (by decide), zF_o (by decide), zF_o (by decide), zF_s (by decide)], by rw [zF_o (by decide), zF_o (by decide), zF_o (by decide), zF_o (by decide), zF_s (by decide)], by rw [zF_o (by decide), zF_o (by decide), zF_o (by decide), zF_s (by decide)], by rw [zF_o (by decide), zF_o (by decide), zF_s (by decide)], by rw [sI_other _ (by decide), sI_here, if_pos rfl, g80]⟩, zF_s (by decide), by rw [fC.F (by simp [pF])]; exact g19, by rw [fC.F (by simp [pF])]; exact g1⟩
          have RC : ∀ x : XH, x = sI (sI (sI (sI (sI (sI (sR (sR g 1 5 sp) 1 6 rb) 80 0 (iI 0)) 80 1 (iI 0)) 80 2 (iI 0)) 80 3 (iI 0)) 80 4 (iI (zF g 80 4 + 1))) 1 8 (iI 0) → gR x 1 5 = sp ∧ gR x 1 6 = rb ∧ gN x = gN h ∧ gU x = gU h ∧ CBk x sp B' := fun x ex => by
            subst ex
            refine ⟨rfl, rfl, ng, ug, ?_⟩
            have C' : CBk (sR (sR g 1 5 sp) 1 6 rb) sp B' := Cg
            exact C'.fr fC hs (fun a j p q => by simp [pF]; omega)
          have tail : ∀ x : XH, Ch (pCb sp) qCb h x → gR x 1 5 = sp → gR x 1 6 = rb → gN x = gN h → gU x = gU h → CBk x sp B' → (zF x 80 0 = 0 ∧ zF x 80 1 = 0 ∧ zF x 80 2 = 0 ∧ zF x 80 3 = 0 ∧ gI x 80 4 = iI (zF h 80 4 + 1)) → zF x 1 8 = 0 → zF x 1 19 = 0 → zF x 1 1 = 0 → ∀ X3 : Value, XW (d + 10) 118 94 [.ref 1, .int (iI n), .int (iI 1), X3] [] x (KI K) := by
            intro x cx x5 x6 nx ux Cx m80 m8 m19 m1 X3
            have Lx := cb_lay cx hL (by omega)
            refine w_aload0 r_118_94 ?_
            refine w_getA (x := 91) r_118_95 (Lk_1 Lx) (Lr_1_10 Lx) (by decide) ?_
            refine w_aload0 r_118_98 ?_
            refine w_getA (x := sp) r_118_99 (Lk_1 Lx) x5 (by omega) ?_
            refine k_78 r_118_102 (Lk_91 Lx) (Nat.le_of_ble_eq_true rfl) ?_
            refine c_learn (d := d + 5) Lx hs Cx o' (fun y fy Sy => ?_)
            have cy0 := ch_R 91 1 sp (by decide) cx
            have cy := cy0.trans (fr_cb fy (fun a j q => cb_L q))
            have ny : gN y = gN h := by rw [fy.N]; exact nx
            have uy : gU y = gU h := by rw [fy.U]; exact ux
            have Ly := cb_lay cy hL (by omega)
            have y5 : gR y 1 5 = sp := (fy.R 1 5).trans x5
            have y6 : gR y 1 6 = rb := (fy.R 1 6).trans x6
            have y92 : gR y 91 1 = sp := (fy.R 91 1).trans (by rw [sR_here, if_pos rfl])
            have Cx' : CBk (sR x 91 1 sp) sp B' := Cx
            have Cy := Cx'.fr fy hs (fun a j p q => by simp [pO, pA, pF]; omega)
            have no : ∀ a j, ¬ a = 92 → ¬ a = 93 → ¬ a = 91 → PLn a j = false := fun a j p q r => by simp [pO, pA, pF]; omega
            have yF : ∀ a j, ¬ a = 92 → ¬ a = 93 → ¬ a = 91 → gI y a j = gI x a j := fun a j p q r => (fy.2 a j (no a j p q r)).1
            refine w_aload0 r_118_105 ?_
            refine w_getA (x := 107) r_118_106 (Lk_1 Ly) (Lr_1_14 Ly) (by decide) ?_
            refine w_aload0 r_118_109 ?_
            refine w_getA (x := sp) r_118_110 (Lk_1 Ly) y5 (by omega) ?_
            refine k_20 r_118_113 (Lk_107 Ly) (Nat.le_of_ble_eq_true rfl) ?_
            refine c_digLearn (d := d + 8) Ly hs (fun z cz nz uz Lz z108 d109 d4 d10 => ?_)
            have cz' : Ch (pCb sp) qCb y z := cz.mono (fun a j q => cb_D q) (fun a j q => by simp [pF] at q ⊢; omega)
            have zI : ∀ a j, a < 155 → ¬ a = 108 → ¬ a = 107 → gI z a j = gI y a j := fun a j lt p q => (cz.1 a j (Or.inl (by have := Ly.2.2.1; omega)) (by simp [pO, pA, pF]; omega)).1
            have zR : ∀ a j, a < 155 → ¬ (a = 107 ∧ j = 0) → gR z a j = gR y a j := fun a j lt p => cz.2.1 a j (Or.inl (by have := Ly.2.2.1; omega)) (by simp [pF]; omega)
            have Cz' := Cy.fr cz.fr hs (fun a j p q => by simp [pO, pA, pF]; have := Ly.2.2.1; omega)
            have Cz : CBk z sp B' := Cz'
            have Sz' := Sy.fr cz.fr (by constructor <;> (simp [pO, pA, pF]; have := Ly.2.2.1; omega)) (fun j => by constructor <;> (simp [pO, pA, pF]; have := Ly.2.2.1; omega))
            have Sz : CLr z B' 0 := Sz'
            have zF' : ∀ a j, a < 91 → zF z a j = zF x a j := fun a j lt => by unfold zF; rw [zI a j (by omega) (by omega) (by omega), yF a j (by omega) (by omega) (by omega)]
            have fE : Fr (pF [(1, 18)]) z (sI z 1 18 (iI 0)) := (Fr.refl _ _).sI 1 18 _ (by simp [pF])
            have R := kt B' gB (sI z 1 18 (iI 0)) ((cy.trans cz').trans (fr_cb fE (fun a j q => cb_18 q))) (by show gN z = gN h; rw [nz]; exact ny) (by show gU z = gU h; rw [uz]; exact uy) (fE.lay Lz) ⟨hs, by show gR z 1 5 = sp; rw [zR 1 5 (by decide) (by decide)]; exact y5, by show gR z 1 6 = 26 - sp; rw [zR 1 6 (by decide) (by decide), y6]; omega, by show gR z 91 1 = sp; rw [zR 91 1 (by decide) (by decide)]; exact y92, z108⟩ (Cz.fr fE hs (fun a j p q => by simp [pF]; omega)) ⟨by rw [fE.F (by simp [pF]), zF' 80 0 (by decide)]; exact m80.1, by rw [fE.F (by simp [pF]), zF' 80 1 (by decide)]; exact m80.2.1, by rw [fE.F (by simp [pF]), zF' 80 2 (by decide)]; exact m80.2.2.1, by rw [fE.F (by simp [pF]), zF' 80 3 (by decide)]; exact m80.2.2.2.1, by rw [sI_other _ (by decide), zI 80 4 (by decide) (by decide) (by decide), yF 80 4 (by decide) (by decide) (by decide)]; exact m80.2.2.2.2⟩ (Sz.fr fE (by simp [pF]) (fun j => by simp [pF])) ⟨by rw [fE.F (by simp [pF])]; exact d4, by rw [fE.F (by simp [pF])]; exact d10, fun k a b => by rw [fE.A (by simp [pF])]; exact d109 k a b⟩ ⟨zF_s (by decide), by rw [fE.F (by simp [pF]), zF' 1 19 (by decide)]; exact m19, by rw [fE.F (by simp [pF]), zF' 1 1 (by decide)]; exact m1, by rw [fE.F (by simp [pF]), zF' 1 8 (by decide)]; exact m8⟩
            have z5 : gR z 1 5 = sp := by rw [zR 1 5 (by decide) (by decide)]; exact y5
            refine w_aload0 r_118_116 ?_
            refine w_aload0 r_118_117 ?_
            refine w_getA (x := sp) r_118_118 (Lk_1 Lz) z5 (by omega) ?_
            refine v_getI r_118_121 (Bk_ Lz hs) Cz.f0 ?_
            refine k_156 r_118_124 (Lk_1 Lz) (Nat.le_of_ble_eq_true rfl) ?_
            refine c_answer Lz ?_
            refine w_iret r_118_127 ?_
            exact R
          have tl := tail _ cC (RC _ rfl).1 (RC _ rfl).2.1 (RC _ rfl).2.2.1 (RC _ rfl).2.2.2.1 (RC _ rfl).2.2.2.2 (i80 _ rfl).1 (i80 _ rfl).2.1 (i80 _ rfl).2.2.1 (i80 _ rfl).2.2.2
          refine w_aload0 r_118_64 ?_
          refine w_getA (x := rb) r_118_65 (Lk_1 Lg) g5 (by omega) ?_
          refine w_astore3 r_118_68 rfl ?_
          refine w_aload0 r_118_69 ?_
          refine w_aload0 r_118_70 ?_
          refine w_getA (x := sp) r_118_71 (Lk_1 Lg) g6 (by omega) ?_
          refine w_putA r_118_74 (Lk_1 Lg) (Ln_1 Lg) (by omega) ?_
          refine w_aload0 r_118_77 ?_
          refine w_aload3 r_118_78 ?_
          refine w_putA r_118_79 (Lk_1 LA) (Ln_1 LA) (by omega) ?_
          refine w_aload0 r_118_82 ?_
          refine w_getA (x := 80) r_118_83 (Lk_1 LB) (Lr_1_9 LB) (by decide) ?_
          refine k_44 r_118_86 (Lk_80 LB) (Nat.le_of_ble_eq_true rfl) ?_
          refine c_clear LB ?_
          refine w_aload0 r_118_89 ?_
          refine w_iconst (v := iI 0) r_118_90 rfl ?_
          refine w_putI r_118_91 (Lk_1 LB) (Ln_1 LB) ?_
          exact tl _
        have Rs := rest _ c4 n4 u4 r65 r71 z19 C4 zz1 e804
        have hL := L3
        refine w_istore2 r_118_42 rfl ?_
        refine w_aload0 r_118_43 ?_
        refine w_aload0 r_118_44 ?_
        refine w_getA (x := 3) r_118_45 (Lk_1 hL) (Lr_1_2 hL) (by decide) ?_
        refine v_getI r_118_48 (Lk_3 hL) v48 ?_
        refine w_putI r_118_51 (Lk_1 hL) (Ln_1 hL) ?_
        refine w_iload2 r_118_54 ?_
        refine v_if_ne r_118_55 (by first | exact zF_in _ _ _ | exact zA_in _ _ _ | omega) (fun _ => ?_) (fun q => absurd q (by omega))
        exact Rs
      · have L3 := f3.lay L2
        have v48 : gI h3 3 7 = iI e.1 := by rw [gI_F, b3.1]
        have e1r : R32 e.1 := by rw [← b3.1]; exact zF_in _ _ _
        have F4 : Fr (pF [(1, 18), (1, 19)]) h3 (sI (sI h3 1 19 (iI e.1)) 1 18 (iI 4)) := ((Fr.refl _ _).sI 1 19 _ (by simp [pF])).sI 1 18 _ (by simp [pF])
        have R := kf e ge (sI (sI h3 1 19 (iI e.1)) 1 18 (iI 4)) (((f2.mono (fun a j q => by simp [pCf] at q; simp [pF]; omega)).trans (f3.mono (fun a j q => by simp [pCf] at q; simp [pB]; omega))).trans (F4.mono (fun a j q => by simp [pCf] at q; simp [pF]; omega))) (zF_s (by decide)) (by rw [zF_o (by decide), zF_s e1r]) (by rw [F4.F (by simp [pF])]; exact b3.2) (by rw [F4.F (by simp [pF]), f3.F (by simp [pB]; omega)]; exact z1) (fun a j q => by
          rw [(F4.2 a j (by simp [pF]; omega)).1, (f3.2 a j (by simp [pB]; omega)).1, (f2.2 a j (by simp [pF]; omega)).1])
        have hL := L3
        refine w_istore2 r_118_42 rfl ?_
        refine w_aload0 r_118_43 ?_
        refine w_aload0 r_118_44 ?_
        refine w_getA (x := 3) r_118_45 (Lk_1 hL) (Lr_1_2 hL) (by decide) ?_
        refine v_getI r_118_48 (Lk_3 hL) v48 ?_
        refine w_putI r_118_51 (Lk_1 hL) (Ln_1 hL) ?_
        refine w_iload2 r_118_54 ?_
        refine v_if_ne r_118_55 (by first | exact zF_in _ _ _ | exact zA_in _ _ _ | omega) (fun q => absurd q (by omega)) (fun _ => ?_)
        refine w_aload0 r_118_58 ?_
        refine w_iconst (v := iI (4)) r_118_59 rfl ?_
        refine k_157 r_118_60 (Lk_1 hL) (Nat.le_of_ble_eq_true rfl) ?_
        refine c_refuse hL ?_
        refine w_iret r_118_63 ?_
        exact R
    have L1 := F0.lay hL
    have B1 : XW (d + 10) 118 23 [.ref 1, .int (iI n), .null, .null] [] (sI h 1 1 (iI 0)) (KI K) := by
      refine w_aload0 r_118_23 ?_
      refine w_getA (x := 3) r_118_24 (Lk_1 L1) (Lr_1_2 L1) (by decide) ?_
      refine w_iload1 r_118_27 ?_
      refine k_88 r_118_28 (Lk_3 L1) (Nat.le_of_ble_eq_true rfl) ?_
      exact c_begin (d := d + 7) L1 (by omega) ok t2 (fun i a b => by rw [F0.A (by simp [pF]), t1]; exact (hT i a (by omega)).1) (fun h2 f2 X2 T2 z7 => main h2 ((F0.mono (fun a j q => by simp [pF] at q ⊢; omega)).trans (f2.mono (fun a j q => by simp [pF] at q ⊢; omega))) (by rw [f2.F (by simp [pF]), zF_s (by decide)]) X2 T2 z7)
    refine w_aload0 r_118_18 ?_
    refine w_iconst (v := iI (0)) r_118_19 rfl ?_
    refine w_putI r_118_20 (Lk_1 hL) (Ln_1 hL) ?_
    exact B1
  refine w_iload1 r_118_0 ?_
  refine v_if_lt r_118_1 (by first | exact zF_in _ _ _ | exact zA_in _ _ _ | omega) (fun c1 => ?_) (fun c1 => ?_)
  · refine w_aload0 r_118_12 ?_
    refine w_iconst (v := iI (2)) r_118_13 rfl ?_
    refine k_157 r_118_14 (Lk_1 hL) (Nat.le_of_ble_eq_true rfl) ?_
    refine c_refuse hL ?_
    refine w_iret r_118_17 ?_
    exact k1 (by omega)
  · refine w_iload1 r_118_4 ?_
    refine w_aload0 r_118_5 ?_
    refine v_getI r_118_6 (Lk_1 hL) ht.1 ?_
    refine v_ic_le r_118_9 (by first | exact zF_in _ _ _ | exact zA_in _ _ _ | omega) (by first | exact zF_in _ _ _ | exact zA_in _ _ _ | omega) (fun c9 => ?_) (fun c9 => ?_)
    · exact go (by omega)
    · refine w_aload0 r_118_12 ?_
      refine w_iconst (v := iI (2)) r_118_13 rfl ?_
      refine k_157 r_118_14 (Lk_1 hL) (Nat.le_of_ble_eq_true rfl) ?_
      refine c_refuse hL ?_
      refine w_iret r_118_17 ?_
      exact k1 (by omega)
end CBO
