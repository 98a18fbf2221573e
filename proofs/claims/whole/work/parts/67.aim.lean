/-! a Ways is aimed at a goal -/
/-- only what P, Q allow has changed; cells may have been made -/
def Ch (P Q : Nat → Nat → Bool) (h h' : XH) : Prop := (∀ a j, (a < gN h ∨ 1000000 ≤ a) → P a j = false → gI h' a j = gI h a j ∧ gL h' a j = gL h a j) ∧ (∀ a j, (a < gN h ∨ 1000000 ≤ a) → Q a j = false → gR h' a j = gR h a j) ∧ (∀ a, (a < gN h ∨ 1000000 ≤ a) → gK h' a = gK h a ∧ gZ h' a = gZ h a) ∧ gN h ≤ gN h'
def q0 : Nat → Nat → Bool := fun _ _ => false
section CH
variable {P P' Q Q' : Nat → Nat → Bool} {h h' h'' : XH}
theorem Ch.refl (P Q : Nat → Nat → Bool) (h : XH) : Ch P Q h h := ⟨fun _ _ _ _ => ⟨rfl, rfl⟩, fun _ _ _ _ => rfl, fun _ _ => ⟨rfl, rfl⟩, Nat.le_refl _⟩
theorem Fr.ch (f : Fr P h h') : Ch P q0 h h' := ⟨fun a j _ q => f.2 a j q, fun a j _ _ => f.R a j, fun a _ => ⟨f.K a, f.Z a⟩, Nat.le_of_eq f.N.symm⟩
theorem Ch.mono (c : Ch P Q h h') (hp : ∀ a j, P' a j = false → P a j = false) (hq : ∀ a j, Q' a j = false → Q a j = false) : Ch P' Q' h h' := ⟨fun a j x q => c.1 a j x (hp a j q), fun a j x q => c.2.1 a j x (hq a j q), c.2.2.1, c.2.2.2⟩
theorem Ch.trans (a : Ch P Q h h') (b : Ch P Q h' h'') : Ch P Q h h'' := by
  have n := a.2.2.2
  refine ⟨fun x j w q => ?_, fun x j w q => ?_, fun x w => ?_, Nat.le_trans a.2.2.2 b.2.2.2⟩
  · have e1 := a.1 x j w q
    have e2 := b.1 x j (by omega) q
    exact ⟨e2.1.trans e1.1, e2.2.trans e1.2⟩
  · exact (b.2.1 x j (by omega) q).trans (a.2.1 x j w q)
  · have e1 := a.2.2.1 x w
    have e2 := b.2.2.1 x (by omega)
    exact ⟨e2.1.trans e1.1, e2.2.trans e1.2⟩
/-- as a frame, for what is said of ints and longs alone -/
theorem Ch.fr (c : Ch P Q h h') : Fr (fun a j => P a j || (decide (gN h ≤ a) && decide (a < 1000000))) h (h'.1, h'.2.1, h.2.2) := by
  refine ⟨rfl, fun a j q => ?_⟩
  simp only [Bool.or_eq_false_iff, Bool.and_eq_false_iff, decide_eq_false_iff_not] at q
  exact c.1 a j (by omega) q.1
theorem Ch.lay (c : Ch P Q h h') (hL : Lay h) (hq : ∀ q ∈ xRT, Q q.1 q.2.1 = false) (hq2 : ∀ j, Q (1000010 + 2 * j) 0 = false) (hr : ∀ q ∈ xRT, q.1 < 155) (hn : gN h' < 900000) : Lay h' := by
  obtain ⟨a, b, n1, n2, u, k, r⟩ := hL
  have n := c.2.2.2
  have K := c.2.2.1
  refine ⟨fun x hx => ?_, fun q hq1 => ?_, by omega, hn, ?_, fun j hj => ?_, fun j hj => ?_⟩
  · have := K x (by omega)
    rw [this.1, this.2]; exact a x hx
  · rw [c.2.1 q.1 q.2.1 (Or.inl (by have := hr q hq1; omega)) (hq q hq1)]; exact b q hq1
  · have := K 1000001 (by omega)
    rw [this.1, this.2]; exact u
  · have := K (1000010 + j) (by omega)
    rw [this.1, this.2]; exact k j hj
  · rw [c.2.1 _ _ (by omega) (hq2 j)]; exact r j hj
theorem Ch.new (h : XH) (k n : Nat) (hn : gN h < 1000000) : Ch q0 q0 h (xnew h k n) := by
  refine ⟨fun a j x _ => ?_, fun a j x _ => ?_, fun a x => ?_, by rw [xnew_N]; omega⟩
  · rw [xnew_I, xnew_L, if_neg (by omega), if_neg (by omega)]; exact ⟨rfl, rfl⟩
  · rw [xnew_R, if_neg (by omega)]
  · rw [xnew_K, xnew_Z, if_neg (by omega), if_neg (by omega)]; exact ⟨rfl, rfl⟩
theorem Ch.sR (h : XH) (a j v : Nat) : Ch q0 (pF [(a, j)]) h (Jvm.Pilot.@@N@@.sR h a j v) := by
  refine ⟨fun _ _ _ _ => ⟨rfl, rfl⟩, fun x k w q => ?_, fun _ _ => ⟨rfl, rfl⟩, Nat.le_refl _⟩
  show (if x = a ∧ k = j then v else h.2.2.1 x k) = _
  rw [if_neg (fun z => by simp [pF, z.1, z.2] at q)]
  rfl
end CH
theorem xRT_lt : ∀ q ∈ xRT, q.1 < 155 := by decide +kernel
theorem xRT_w : ∀ q ∈ xRT, pF [(96, 6)] q.1 q.2.1 = false ∧ pF [(101, 6)] q.1 q.2.1 = false := by decide +kernel
section AI
variable {d : Nat} {h : XH} {K : Int32 → XH → Prop} {KL64 : Int64 → XH → Prop} {KU : XH → Prop} {wa va zv rb : Nat} {M : XM} {B : XB} {dd go stp : Int} {bm : Bool}
theorem Wa.q (hw : Wa wa) : ∀ q ∈ xRT, pF [(wa, 6)] q.1 q.2.1 = false := fun q hq => by
  rcases hw with rfl | rfl
  · exact (xRT_w q hq).1
  · exact (xRT_w q hq).2
theorem st_lt {G s : Int} (hm : M.ok G) (hs : StM M s) : s < 4 ^ M.nd.toNat := by
  have o := hm.1
  have s1 := hs.1
  have z := fun e a b c => (hs.2 e a b).2 c
  have : M.nd = 0 ∨ M.nd = 1 ∨ M.nd = 2 ∨ M.nd = 3 ∨ M.nd = 4 ∨ M.nd = 5 := by omega
  have d0 : dg s 0 = s / 1 % 4 := by unfold dg; rw [show (4 : Int) ^ (0 : Int).toNat = 1 by decide]
  have d1 : dg s 1 = s / 4 % 4 := by unfold dg; rw [show (4 : Int) ^ (1 : Int).toNat = 4 by decide]
  have d2 : dg s 2 = s / 16 % 4 := by unfold dg; rw [show (4 : Int) ^ (2 : Int).toNat = 16 by decide]
  have d3 : dg s 3 = s / 64 % 4 := by unfold dg; rw [show (4 : Int) ^ (3 : Int).toNat = 64 by decide]
  have d4 : dg s 4 = s / 256 % 4 := by unfold dg; rw [show (4 : Int) ^ (4 : Int).toNat = 256 by decide]
  have z0 := z 0 (by decide) (by decide)
  have z1 := z 1 (by decide) (by decide)
  have z2 := z 2 (by decide) (by decide)
  have z3 := z 3 (by decide) (by decide)
  have z4 := z 4 (by decide) (by decide)
  rcases this with q | q | q | q | q | q <;> rw [q]
  · show s < 1; omega
  · show s < 4; omega
  · show s < 16; omega
  · show s < 64; omega
  · show s < 256; omega
  · show s < 1024; omega
/-- a Ways between calls: what is kept is right for its goal, if the land is the same -/
def WIn (h : XH) (wa va zv : Nat) (B : XB) (dd : Int) (M : XM) (bm : Bool) (stp : Int) : Prop := (WV h wa va zv ∧ gI h wa 2 = iI (b2i bm) ∧ gI h wa 8 = iI stp ∧ 0 ≤ stp ∧ stp ≤ 100000) ∧ (∀ s, 0 ≤ s → s < 1024 → zA h (wa + 1) s ≤ stp) ∧ zF h wa 5 ≤ zF h 80 4 ∧
  (zF h wa 5 = zF h 80 4 → 0 ≤ zF h wa 4 → ∀ s, StM M s → zA h (wa + 1) s = stp → VR h va (s * M.n) M.n (fun c => cvv (Vl (xp B dd M (zF h wa 4) bm) s c)))
abbrev PAi (wa va : Nat) : Nat → Nat → Bool := pO (pA [94, 95, wa + 1, wa + 2, wa + 3, va]) (pF [(91, 6), (91, 7), (91, 8), (91, 9), (91, 12), (wa, 4), (wa, 5), (wa, 8), (wa, 11), (wa, 12)])
/-- what aim leaves -/
def Aim (h h' : XH) (wa va zv va' zv' : Nat) (B : XB) (dd : Int) (M : XM) (go : Int) (bm : Bool) (stp stp' : Int) : Prop := Ch (PAi wa va) (pF [(wa, 6)]) h h' ∧ Aimed h' wa va' zv' B dd M go bm stp' ∧ ((va' = va ∧ zv' = zv ∧ gN h' = gN h ∧ gU h' = gU h) ∨ (va' = gN h ∧ gN h' = gN h + 1 ∧ gU h' = gU h + zv' ∧ zv < zv' ∧ (2 * zv ≤ zv' ∨ zv' = 102400))) ∧ (stp ≤ stp' ∧ stp' ≤ stp + 1) ∧ (∀ s, 0 ≤ s → s < 1024 → zA h' (wa + 1) s ≤ stp') ∧ zF h' wa 5 = zF h 80 4 ∧ zF h' 91 12 = zF h 80 4 ∧ Lay h'
/-- new goal, age, stamp -/
theorem c_aim_set {h0 h2 : XH} {va' zv' : Nat} {X3 X4 : Value} (hw : Wa wa) (hL : Lay h2) (hst : 0 ≤ stp ∧ stp < 100000) (c2 : Ch (PAi wa va) (pF [(wa, 6)]) h0 h2) (hP2 : CMp h2 M) (hE2 : Prep h2 B dd M) (hW2 : WV h2 wa va' zv') (g2 : gI h2 wa 2 = iI (b2i bm)) (g8 : gI h2 wa 8 = iI stp) (e12 : zF h2 91 12 = zF h0 80 4) (e4 : zF h2 80 4 = zF h0 80 4) (st2 : ∀ s, 0 ≤ s → s < 1024 → zA h2 (wa + 1) s ≤ stp) (sz2 : ∀ s, StM M s → s * M.n + M.n ≤ zv')
    (bud : (va' = va ∧ zv' = zv ∧ gN h2 = gN h0 ∧ gU h2 = gU h0) ∨ (va' = gN h0 ∧ gN h2 = gN h0 + 1 ∧ gU h2 = gU h0 + zv' ∧ zv < zv' ∧ (2 * zv ≤ zv' ∨ zv' = 102400)))
    (kk : ∀ h' va' zv' stp', Aim h0 h' wa va zv va' zv' B dd M go bm stp stp' → KU h') : XW (d + 5) 102 94 [.ref wa, .int (iI go), .int (iI 0), X3, X4] [] h2 (KV KU) := by
  have hw' : wa = 96 ∨ wa = 101 := hw
  have F3 : Fr (pF [(wa, 4), (wa, 5), (wa, 8)]) h2 (sI (sI (sI h2 wa 4 (iI go)) wa 5 (iI (zF h2 80 4))) wa 8 (iI (stp + 1))) := (((Fr.refl _ _).sI wa 4 _ (by simp [pF])).sI wa 5 _ (by simp [pF])).sI wa 8 _ (by simp [pF])
  have g80 : gI (sI h2 wa 4 (iI go)) 80 4 = iI (zF h2 80 4) := by rw [sI_other _ (by omega)]; exact gI_F _ _ _
  have g8' : gI (sI (sI h2 wa 4 (iI go)) wa 5 (iI (zF h2 80 4))) wa 8 = iI stp := by rw [sI_here, if_neg (by decide), sI_here, if_neg (by decide)]; exact g8
  have G4 : gI (sI (sI (sI h2 wa 4 (iI go)) wa 5 (iI (zF h2 80 4))) wa 8 (iI (stp + 1))) wa 4 = iI go := by rw [sI_here, if_neg (by decide), sI_here, if_neg (by decide), sI_here, if_pos rfl]
  have G2 : gI (sI (sI (sI h2 wa 4 (iI go)) wa 5 (iI (zF h2 80 4))) wa 8 (iI (stp + 1))) wa 2 = iI (b2i bm) := by rw [sI_here, if_neg (by decide), sI_here, if_neg (by decide), sI_here, if_neg (by decide)]; exact g2
  have G8 : gI (sI (sI (sI h2 wa 4 (iI go)) wa 5 (iI (zF h2 80 4))) wa 8 (iI (stp + 1))) wa 8 = iI (stp + 1) := by rw [sI_here, if_pos rfl]
  have Z5 : zF (sI (sI (sI h2 wa 4 (iI go)) wa 5 (iI (zF h2 80 4))) wa 8 (iI (stp + 1))) wa 5 = zF h0 80 4 := by rw [zF_o (by omega), zF_s (zF_in _ _ _)]; exact e4
  have U3 : gU (sI (sI (sI h2 wa 4 (iI go)) wa 5 (iI (zF h2 80 4))) wa 8 (iI (stp + 1))) = gU h2 := F3.U
  have N3 : gN (sI (sI (sI h2 wa 4 (iI go)) wa 5 (iI (zF h2 80 4))) wa 8 (iI (stp + 1))) = gN h2 := F3.N
  have L3 : Lay (sI (sI (sI h2 wa 4 (iI go)) wa 5 (iI (zF h2 80 4))) wa 8 (iI (stp + 1))) := F3.lay hL
  have hend : KU (sI (sI (sI h2 wa 4 (iI go)) wa 5 (iI (zF h2 80 4))) wa 8 (iI (stp + 1))) := by
    generalize sI (sI (sI h2 wa 4 (iI go)) wa 5 (iI (zF h2 80 4))) wa 8 (iI (stp + 1)) = h3 at *
    have st3 : ∀ s, 0 ≤ s → s < 1024 → zA h3 (wa + 1) s ≤ stp := fun s a b => by rw [F3.A (by simp [pF])]; exact st2 s a b
    have hE3 : Prep h3 B dd M := fun c w a b a2 b2 => by
      have z := hE2 c w a b a2 b2
      unfold PE at z ⊢
      have e95 : ∀ i, zA h3 94 i = zA h2 94 i := fun i => F3.A (by simp [pF]; omega)
      have e96 : ∀ i, zA h3 95 i = zA h2 95 i := fun i => F3.A (by simp [pF]; omega)
      simp only [e95, e96]
      exact z
    have hO3 : WOk h3 wa va' zv' B dd M go bm (stp + 1) := ⟨⟨hW2.fr F3, G4, G2, G8, by unfold R32; omega⟩, fun s q1 q2 => by have := st3 s q1.1.1 q1.1.2; omega, sz2, fun s a b => by have := st3 s a b; omega⟩
    have c3 : Ch (PAi wa va) (pF [(wa, 6)]) h2 h3 := F3.ch.mono (fun a j q => by simp [pO, pA, pF] at q ⊢; omega) (fun _ _ _ => rfl)
    refine kk h3 va' zv' (stp + 1) ⟨c2.trans c3, ⟨hP2.fr F3 (fun a j p q _ => by simp [pF]; omega), hE3, hO3⟩, ?_, by omega, fun s a b => by have := st3 s a b; omega, Z5, ?_, L3⟩
    · rw [N3, U3]; exact bud
    · rw [F3.F (by simp [pF])]; exact e12
  refine w_aload0 r_102_94 ?_
  refine w_iload1 r_102_95 ?_
  refine w_putI r_102_96 (Wk hL hw).1 (Wk hL hw).2.1 ?_
  refine w_aload0 r_102_99 ?_
  refine w_aload0 r_102_100 ?_
  refine w_getA (x := 80) r_102_101 (Wk hL hw).1 (Wk0 hL hw).1 (by decide) ?_
  refine v_getI r_102_104 (Lk_80 hL) g80 ?_
  refine w_putI r_102_107 (Wk hL hw).1 (Wk hL hw).2.1 ?_
  refine w_aload0 r_102_110 ?_
  refine w_dupA r_102_111 ?_
  refine v_getI r_102_112 (Wk hL hw).1 (g8') ?_
  refine w_iconst (v := iI (1)) r_102_115 rfl ?_
  refine v_iadd r_102_116 ?_
  refine w_putI r_102_117 (Wk hL hw).1 (Wk hL hw).2.1 ?_
  refine w_vret r_102_120 ?_
  exact hend
/-- more room for values -/
theorem c_aim_grow {h0 : XH} {X2 X4 : Value} {size : Int} (hw : Wa wa) (hL : Lay h) (hst : 0 ≤ stp ∧ stp < 100000) (c1 : Ch (PAi wa va) (pF [(wa, 6)]) h0 h) (hP : CMp h M) (hE : Prep h B dd M) (hW : WV h wa va zv) (g2 : gI h wa 2 = iI (b2i bm)) (g8 : gI h wa 8 = iI stp) (e12 : zF h 91 12 = zF h0 80 4) (e4 : zF h 80 4 = zF h0 80 4) (st1 : ∀ s, 0 ≤ s → s < 1024 → zA h (wa + 1) s ≤ stp) (hsz : zv < size ∧ size ≤ 102400) (rows : ∀ z : Int, size ≤ z → ∀ s, StM M s → s * M.n + M.n ≤ z) (hN : gN h < 899000 ∧ 155 ≤ gN h) (eN : gN h = gN h0) (eU : gU h = gU h0)
    (kk : ∀ h' va' zv' stp', Aim h0 h' wa va zv va' zv' B dd M go bm stp stp' → KU h') : XW (d + 5) 102 62 [.ref wa, .int (iI go), X2, .int (iI size), X4] [] h (KV KU) := by
  have hw' : wa = 96 ∨ wa = 101 := hw
  generalize hnv : min (max size (2 * (zv : Int))) 102400 = nv
  have nb : size ≤ nv ∧ nv ≤ 102400 ∧ (2 * (zv : Int) ≤ nv ∨ nv = 102400) ∧ 0 ≤ nv := by omega
  have znv : (iI nv).toNatClampNeg = nv.toNat := iI_nat nb.2.2.2 (by omega)
  have nneg : ¬ iI nv < 0 := fun q => by
    have := (iI_lt (a := nv) (b := 0) (by omega) (by decide)).mp q
    omega
  have C2 := Ch.new h 4 nv.toNat (by omega)
  have hL2 : Lay (xnew h 4 nv.toNat) := C2.lay hL (fun _ _ => rfl) (fun _ => rfl) xRT_lt (by rw [xnew_N]; omega)
  have C3 := Ch.sR (xnew h 4 nv.toNat) wa 6 (gN h)
  have hL3 : Lay (sR (xnew h 4 nv.toNat) wa 6 (gN h)) := C3.lay hL2 hw.q (fun j => by simp [pF]) xRT_lt (by show gN h + 1 < 900000; omega)
  have CC : Ch (PAi wa va) (pF [(wa, 6)]) h (sR (xnew h 4 nv.toNat) wa 6 (gN h)) := (C2.mono (fun _ _ _ => rfl) (fun _ _ _ => rfl)).trans (C3.mono (fun _ _ _ => rfl) (fun _ _ q => q))
  have C0 : Ch q0 (pF [(wa, 6)]) h (sR (xnew h 4 nv.toNat) wa 6 (gN h)) := (C2.mono (fun _ _ _ => rfl) (fun _ _ _ => rfl)).trans (C3.mono (fun _ _ _ => rfl) (fun _ _ q => q))
  have W3 : WV (sR (xnew h 4 nv.toNat) wa 6 (gN h)) wa (gN h) nv.toNat := by
    refine ⟨?_, ?_, ?_, ?_, by omega, by omega, Or.inr hN.2⟩
    · rw [sR_here, if_pos rfl]
    · show gK (xnew h 4 nv.toNat) (gN h) = 4; rw [xnew_K, if_pos rfl]
    · show gZ (xnew h 4 nv.toNat) (gN h) = nv.toNat; rw [xnew_Z, if_pos rfl]
    · show gN h < gN h + 1; omega
  have N3 : gN (sR (xnew h 4 nv.toNat) wa 6 (gN h)) = gN h0 + 1 := by show gN h + 1 = _; rw [eN]
  have U3 : gU (sR (xnew h 4 nv.toNat) wa 6 (gN h)) = gU h0 + nv.toNat := by show gU h + nv.toNat = _; rw [eU]
  have eI : ∀ a j, a < gN h → gI (sR (xnew h 4 nv.toNat) wa 6 (gN h)) a j = gI h a j := fun a j q => (C0.1 a j (Or.inl q) rfl).1
  have fr := C0.fr
  have st3 : ∀ s, 0 ≤ s → s < 1024 → zA (sR (xnew h 4 nv.toNat) wa 6 (gN h)) (wa + 1) s ≤ stp := fun s a b => by
    unfold zA; rw [eI _ _ (by omega)]; exact st1 s a b
  have P3' := hP.fr fr (fun a j p q _ => by simp [q0]; omega)
  have P3 : CMp (sR (xnew h 4 nv.toNat) wa 6 (gN h)) M := P3'
  have E3 : Prep (sR (xnew h 4 nv.toNat) wa 6 (gN h)) B dd M := fun c w a b a2 b2 => by
    have z := hE c w a b a2 b2
    unfold PE at z ⊢
    have e95 : ∀ i, zA (sR (xnew h 4 nv.toNat) wa 6 (gN h)) 94 i = zA h 94 i := fun i => by unfold zA; rw [eI _ _ (by omega)]
    have e96 : ∀ i, zA (sR (xnew h 4 nv.toNat) wa 6 (gN h)) 95 i = zA h 95 i := fun i => by unfold zA; rw [eI _ _ (by omega)]
    simp only [e95, e96]
    exact z
  have g23 := (eI wa 2 (by omega)).trans g2
  have g83 := (eI wa 8 (by omega)).trans g8
  have e123 : zF (sR (xnew h 4 nv.toNat) wa 6 (gN h)) 91 12 = zF h0 80 4 := by unfold zF; rw [eI _ _ (by omega)]; exact e12
  have e43 : zF (sR (xnew h 4 nv.toNat) wa 6 (gN h)) 80 4 = zF h0 80 4 := by unfold zF; rw [eI _ _ (by omega)]; exact e4
  have zvb := hW.2.2.2.2.2.1
  have wlen : gK h va = 4 := hW.2.1
  have last : ∀ X3 X4 : Value, XW (d + 5) 102 94 [.ref wa, .int (iI go), .int (iI 0), X3, X4] [] (sR (xnew h 4 nv.toNat) wa 6 (gN h)) (KV KU) := fun X3 X4 =>
    c_aim_set (va := va) (zv := zv) (h0 := h0) hw hL3 hst (c1.trans CC) P3 E3 W3 g23 g83 e123 e43 st3 (rows _ (by omega)) (Or.inr ⟨eN, N3, U3, by omega, by omega⟩) kk
  refine w_iload3 r_102_62 ?_
  refine w_iconst (v := iI (2)) r_102_63 rfl ?_
  refine w_aload0 r_102_64 ?_
  refine w_getA (x := va) r_102_65 (Wk hL hw).1 hW.1 hW.2.2.2.2.1 ?_
  refine v_len r_102_68 (by rw [wlen]; decide) hW.2.2.1 ?_
  refine v_imul r_102_69 ?_
  refine k_268 r_102_70 (Nat.le_of_ble_eq_true rfl) ?_
  refine c_max (by unfold R32; omega) (by unfold R32; omega) ?_
  refine w_istore4 r_102_73 rfl ?_
  refine w_aload0 r_102_75 ?_
  refine w_iload4 r_102_76 ?_
  refine w_ldcI (v := iI 102400) r_102_78 rfl ?_
  refine k_270 r_102_80 (Nat.le_of_ble_eq_true rfl) ?_
  refine c_min (by unfold R32; omega) (by unfold R32; omega) ?_
  rw [hnv]
  refine w_newa r_102_83 ⟨nneg, by rw [znv]; omega⟩ (by omega) ?_
  rw [znv]
  refine w_putA r_102_85 (Wk hL2 hw).1 (Wk hL2 hw).2.1 (by omega) ?_
  refine w_iconst (v := iI (0)) r_102_88 rfl ?_
  refine w_istore2 r_102_89 rfl ?_
  refine w_iload2 r_102_90 ?_
  refine v_if_ne r_102_91 (by decide) (fun q => absurd rfl q) (fun _ => ?_)
  exact last _ _
theorem PTs_Ai : ∀ a j, PAi wa va a j = false → PTs a j = false := by
  intro a j q
  simp only [pO, pA, pF, List.contains_cons, List.contains_nil, Bool.or_eq_false_iff, Bool.or_false] at q ⊢
  exact ⟨⟨q.1.1, q.1.2.1⟩, q.2.1, q.2.2.1, q.2.2.2.1, q.2.2.2.2.1, q.2.2.2.2.2.1⟩
theorem c_aim (hw : Wa wa) (hL : Lay h) (hb : rb = 6 ∨ rb = 20) (hr : gR h 91 1 = rb) (hC : CBk h rb B) (ho : B.ok) (hS : CLr h B dd) (hP : CMp h M) (hm : M.ok B.g) (hd : 0 ≤ dd ∧ dd < B.w) (hg : 0 ≤ go ∧ go < M.n) (hE : zF h 91 12 = zF h 80 4 → Prep h B dd M) (hI : WIn h wa va zv B dd M bm stp) (hst : stp < 100000) (hN : gN h < 899000)
    (kk : ∀ h' va' zv' stp', Aim h h' wa va zv va' zv' B dd M go bm stp stp' → KU h') : XW (d + 5) 102 0 [.ref wa, .int (iI go), .null, .null, .null] [] h (KV KU) := by
  have o := hm.1
  have hn := M.n_in hm
  have hw' : wa = 96 ∨ wa = 101 := hw
  have sz1 : M.n * 4 ^ M.nd.toNat ≤ 102400 ∧ 1 ≤ M.n * 4 ^ M.nd.toNat := by
    rcases p4s (d := M.nd) (by omega) with q | q | q | q | q | q <;> rw [q] <;> omega
  have rows : ∀ z : Int, M.n * 4 ^ M.nd.toNat ≤ z → ∀ s, StM M s → s * M.n + M.n ≤ z := fun z q s hs => by
    have := st_lt hm hs
    have := Int.mul_le_mul_of_nonneg_right (a := s + 1) (b := 4 ^ M.nd.toNat) (c := M.n) (by omega) (by omega)
    rw [Int.add_mul, Int.mul_comm (4 ^ M.nd.toNat)] at this
    omega
  have szE : M.n * 2 ^ (2 * M.nd).toNat = M.n * 4 ^ M.nd.toNat := by rw [p4 (by omega)]
  have szB : M.n * 2 ^ (2 * M.nd).toNat < 4294967296 := by rw [szE]; omega
  have hN0 := hL.2.2.1
  generalize hsize : M.n * 4 ^ M.nd.toNat = size at *
  refine w_aload0 r_102_0 ?_
  refine w_getA (x := 91) r_102_1 (Wk hL hw).1 (Wk0 hL hw).2 (by decide) ?_
  refine k_83 r_102_4 (Lk_91 hL) (Nat.le_of_ble_eq_true rfl) ?_
  refine c_prepare hL hb hr hC ho hS hP hm rfl hd hE (fun h1 f1 e12 hE1 => ?_)
  have hL := f1.lay hL
  have hP1 := hP.fr f1 (fun a j p q _ => by simp [pO, pA, pF]; omega)
  have hW := hI.1.1.fr f1
  have a4 : zF h1 80 4 = zF h 80 4 := f1.F (by decide)
  have g2 : gI h1 wa 2 = iI (b2i bm) := ((f1.2 wa 2 (by simp [pO, pA, pF]; omega)).1).trans hI.1.2.1
  have g8 : gI h1 wa 8 = iI stp := ((f1.2 wa 8 (by simp [pO, pA, pF]; omega)).1).trans hI.1.2.2.1
  have z4 : zF h1 wa 4 = zF h wa 4 := f1.F (by simp [pO, pA, pF]; omega)
  have z5 : zF h1 wa 5 = zF h wa 5 := f1.F (by simp [pO, pA, pF]; omega)
  have e2 : gI h1 80 2 = iI M.n := by rw [gI_F, hP1.1.2.2.1]
  have e3 : gI h1 80 3 = iI M.nd := by rw [gI_F, hP1.1.2.2.2]
  have e4 : gI h1 wa 4 = iI (zF h1 wa 4) := gI_F _ _ _
  have e5 : gI h1 wa 5 = iI (zF h1 wa 5) := gI_F _ _ _
  have stm : ∀ s, 0 ≤ s → s < 1024 → zA h1 (wa + 1) s ≤ stp := fun s a b => by rw [f1.A (by simp [pO, pA, pF]; omega)]; exact hI.2.1 s a b
  have F1 : Ch (PAi wa va) (pF [(wa, 6)]) h h1 := f1.ch.mono PTs_Ai (fun _ _ _ => rfl)
  have zvb := hW.2.2.2.2.2.1
  have wlen : gK h1 va = 4 := hW.2.1
  have st0 := hI.1.2.2.2.1
  have vne := hW.2.2.2.2.2.2
  -- behind the question whether all is the same
  have tail : ∀ sm : Int, (sm = 1 ∧ zF h1 wa 4 = go ∧ zF h1 wa 5 = zF h1 80 4) ∨ sm = 0 → ∀ X3 X4 : Value, XW (d + 5) 102 35 [.ref wa, .int (iI go), .int (iI sm), X3, X4] [] h1 (KV KU) := by
    intro sm hsm X3 X4
    by_cases q : (zv : Int) < size
    · refine w_aload0 r_102_35 ?_
      refine w_getA (x := 80) r_102_36 (Wk hL hw).1 (Wk0 hL hw).1 (by decide) ?_
      refine v_getI r_102_39 (Lk_80 hL) e2 ?_
      refine w_iconst (v := iI (2)) r_102_42 rfl ?_
      refine w_aload0 r_102_43 ?_
      refine w_getA (x := 80) r_102_44 (Wk hL hw).1 (Wk0 hL hw).1 (by decide) ?_
      refine v_getI r_102_47 (Lk_80 hL) e3 ?_
      refine v_imul r_102_50 ?_
      refine v_ishl (hx := by omega) (hk := by omega) (hb := szB) r_102_51 ?_
      rw [szE] 
      refine w_istore3 r_102_52 rfl ?_
      refine w_aload0 r_102_53 ?_
      refine w_getA (x := va) r_102_54 (Wk hL hw).1 hW.1 hW.2.2.2.2.1 ?_
      refine v_len r_102_57 (by rw [wlen]; decide) hW.2.2.1 ?_
      refine w_iload3 r_102_58 ?_
      refine v_ic_ge r_102_59 (by first | exact zF_in _ _ _ | exact zA_in _ _ _ | omega) (by first | exact zF_in _ _ _ | exact zA_in _ _ _ | omega) (fun q => absurd q (by omega)) (fun _ => ?_)
      exact c_aim_grow (size := size) hw hL ⟨st0, hst⟩ F1 hP1 hE1 hW g2 g8 e12 a4 stm ⟨q, sz1.1⟩ rows ⟨by rw [f1.N]; exact hN, by rw [f1.N]; exact hN0⟩ f1.N f1.U kk
    · rcases hsm with ⟨rfl, s1, s2⟩ | rfl
      · refine w_aload0 r_102_35 ?_
        refine w_getA (x := 80) r_102_36 (Wk hL hw).1 (Wk0 hL hw).1 (by decide) ?_
        refine v_getI r_102_39 (Lk_80 hL) e2 ?_
        refine w_iconst (v := iI (2)) r_102_42 rfl ?_
        refine w_aload0 r_102_43 ?_
        refine w_getA (x := 80) r_102_44 (Wk hL hw).1 (Wk0 hL hw).1 (by decide) ?_
        refine v_getI r_102_47 (Lk_80 hL) e3 ?_
        refine v_imul r_102_50 ?_
        refine v_ishl (hx := by omega) (hk := by omega) (hb := szB) r_102_51 ?_
        rw [szE] 
        refine w_istore3 r_102_52 rfl ?_
        refine w_aload0 r_102_53 ?_
        refine w_getA (x := va) r_102_54 (Wk hL hw).1 hW.1 hW.2.2.2.2.1 ?_
        refine v_len r_102_57 (by rw [wlen]; decide) hW.2.2.1 ?_
        refine w_iload3 r_102_58 ?_
        refine v_ic_ge r_102_59 (by first | exact zF_in _ _ _ | exact zA_in _ _ _ | omega) (by first | exact zF_in _ _ _ | exact zA_in _ _ _ | omega) (fun _ => ?_) (fun q => absurd q (by omega))
        refine w_iload2 r_102_90 ?_
        refine v_if_ne r_102_91 (by first | exact zF_in _ _ _ | exact zA_in _ _ _ | omega) (fun _ => ?_) (fun q => absurd q (by decide))
        refine w_vret r_102_120 ?_
        have hO1 : WOk h1 wa va zv B dd M go bm stp := by
          refine ⟨⟨hW, by rw [e4, s1], g2, g8, by unfold R32; omega⟩, fun s q1 q2 => ?_, rows _ (by omega), stm⟩
          have z := hI.2.2.2 (by omega) (by omega) s q1 (by rw [f1.A (by simp [pO, pA, pF]; omega)] at q2; exact q2)
          rw [← z4, s1] at z
          exact z.fr f1 (fun j => by simp [pO, pA, pF]; omega)
        exact kk h1 va zv stp ⟨F1, ⟨hP1, hE1, hO1⟩, Or.inl ⟨rfl, rfl, f1.N, f1.U⟩, by omega, stm, by omega, e12, hL⟩
      · refine w_aload0 r_102_35 ?_
        refine w_getA (x := 80) r_102_36 (Wk hL hw).1 (Wk0 hL hw).1 (by decide) ?_
        refine v_getI r_102_39 (Lk_80 hL) e2 ?_
        refine w_iconst (v := iI (2)) r_102_42 rfl ?_
        refine w_aload0 r_102_43 ?_
        refine w_getA (x := 80) r_102_44 (Wk hL hw).1 (Wk0 hL hw).1 (by decide) ?_
        refine v_getI r_102_47 (Lk_80 hL) e3 ?_
        refine v_imul r_102_50 ?_
        refine v_ishl (hx := by omega) (hk := by omega) (hb := szB) r_102_51 ?_
        rw [szE] 
        refine w_istore3 r_102_52 rfl ?_
        refine w_aload0 r_102_53 ?_
        refine w_getA (x := va) r_102_54 (Wk hL hw).1 hW.1 hW.2.2.2.2.1 ?_
        refine v_len r_102_57 (by rw [wlen]; decide) hW.2.2.1 ?_
        refine w_iload3 r_102_58 ?_
        refine v_ic_ge r_102_59 (by first | exact zF_in _ _ _ | exact zA_in _ _ _ | omega) (by first | exact zF_in _ _ _ | exact zA_in _ _ _ | omega) (fun _ => ?_) (fun q => absurd q (by omega))
        refine w_iload2 r_102_90 ?_
        refine v_if_ne r_102_91 (by first | exact zF_in _ _ _ | exact zA_in _ _ _ | omega) (fun q => absurd q (by decide)) (fun _ => ?_)
        exact c_aim_set (va := va) (zv := zv) (h0 := h) hw hL ⟨st0, hst⟩ F1 hP1 hE1 hW g2 g8 e12 a4 stm (rows _ (by omega)) (Or.inl ⟨rfl, rfl, f1.N, f1.U⟩) kk
  by_cases q1 : zF h1 wa 4 = go
  · by_cases q2 : zF h1 wa 5 = zF h1 80 4
    · refine w_aload0 r_102_7 ?_
      refine v_getI r_102_8 (Wk hL hw).1 e4 ?_
      refine w_iload1 r_102_11 ?_
      refine v_ic_ne r_102_12 (by first | exact zF_in _ _ _ | exact zA_in _ _ _ | omega) (by first | exact zF_in _ _ _ | exact zA_in _ _ _ | omega) (fun q => absurd q (by omega)) (fun _ => ?_)
      refine w_aload0 r_102_15 ?_
      refine v_getI r_102_16 (Wk hL hw).1 e5 ?_
      refine w_aload0 r_102_19 ?_
      refine w_getA (x := 80) r_102_20 (Wk hL hw).1 (Wk0 hL hw).1 (by decide) ?_
      refine v_getI r_102_23 (Lk_80 hL) (gI_F h1 80 4) ?_
      refine v_ic_ne r_102_26 (by first | exact zF_in _ _ _ | exact zA_in _ _ _ | omega) (by first | exact zF_in _ _ _ | exact zA_in _ _ _ | omega) (fun q => absurd q (by omega)) (fun _ => ?_)
      refine w_iconst (v := iI (1)) r_102_29 rfl ?_
      refine w_goto r_102_30 ?_
      refine w_istore2 r_102_34 rfl ?_
      exact tail 1 (Or.inl ⟨rfl, q1, q2⟩) _ _
    · refine w_aload0 r_102_7 ?_
      refine v_getI r_102_8 (Wk hL hw).1 e4 ?_
      refine w_iload1 r_102_11 ?_
      refine v_ic_ne r_102_12 (by first | exact zF_in _ _ _ | exact zA_in _ _ _ | omega) (by first | exact zF_in _ _ _ | exact zA_in _ _ _ | omega) (fun q => absurd q (by omega)) (fun _ => ?_)
      refine w_aload0 r_102_15 ?_
      refine v_getI r_102_16 (Wk hL hw).1 e5 ?_
      refine w_aload0 r_102_19 ?_
      refine w_getA (x := 80) r_102_20 (Wk hL hw).1 (Wk0 hL hw).1 (by decide) ?_
      refine v_getI r_102_23 (Lk_80 hL) (gI_F h1 80 4) ?_
      refine v_ic_ne r_102_26 (by first | exact zF_in _ _ _ | exact zA_in _ _ _ | omega) (by first | exact zF_in _ _ _ | exact zA_in _ _ _ | omega) (fun _ => ?_) (fun q => absurd q (by omega))
      refine w_iconst (v := iI (0)) r_102_33 rfl ?_
      refine w_istore2 r_102_34 rfl ?_
      exact tail 0 (Or.inr rfl) _ _
  · refine w_aload0 r_102_7 ?_
    refine v_getI r_102_8 (Wk hL hw).1 e4 ?_
    refine w_iload1 r_102_11 ?_
    refine v_ic_ne r_102_12 (by first | exact zF_in _ _ _ | exact zA_in _ _ _ | omega) (by first | exact zF_in _ _ _ | exact zA_in _ _ _ | omega) (fun _ => ?_) (fun q => absurd q (by omega))
    refine w_iconst (v := iI (0)) r_102_33 rfl ?_
    refine w_istore2 r_102_34 rfl ?_
    exact tail 0 (Or.inr rfl) _ _
end AI
