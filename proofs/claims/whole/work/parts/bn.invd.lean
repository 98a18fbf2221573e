/-! between two calls: heights, grounds, what is told, maps -/
section INVD
variable {i n rb va zv va2 zv2 a0 a1 va' zv' wa k : Nat} {h h1 h2 h3 h' : XH} {P Q X : Nat → Nat → Bool} {s : Nat → Int32} {B : XB} {dd dd' : Int} {M M' : XM} {t np np' L L' t' r x y e stp stp2 stp' to c bd G : Int} {T T' tr tr' du du' g : Int → Int} {pl : Int → XL} {v w : Nat → Int} {K : Int32 → XH → Prop} {bm : Bool}
theorem CMp.cells (f : Fr P h h') (hp : ∀ a j, 80 ≤ a → a ≤ 90 → ¬ (a = 80 ∧ j = 4) → ¬ (a = 81 ∨ a = 82) → P a j = false) (hk : k = 0 ∨ k = 1) (hr : ∀ c, 0 ≤ c → c < M.n → zA h' 81 c = (M.put k g).ht c ∧ zA h' 82 c = (M.put k g).gr c) (hP : CMp h M) : CMp h' (M.put k g) := by
  have eA : ∀ a, 83 ≤ a → a ≤ 90 → ∀ i, zA h' a i = zA h a i := fun a p q i => f.A (hp _ _ (by omega) q (by omega) (by omega))
  have eF : ∀ j, j < 4 → zF h' 80 j = zF h 80 j := fun j q => f.F (hp _ _ (by omega) (by omega) (by omega) (by omega))
  unfold CMp ChOK at hP ⊢
  simp only [eF 0 (by decide), eF 1 (by decide), eF 2 (by decide), eF 3 (by decide), eA 83 (by decide) (by decide), eA 84 (by decide) (by decide), eA 85 (by decide) (by decide), eA 86 (by decide) (by decide), eA 87 (by decide) (by decide), eA 88 (by decide) (by decide), eA 89 (by decide) (by decide), eA 90 (by decide) (by decide)]
  rcases hk with rfl | rfl
  · exact ⟨hP.1, fun c a b => ⟨(hr c a b).1, (hr c a b).2, (hP.2.1 c a b).2.2⟩, hP.2.2⟩
  · exact ⟨hP.1, fun c a b => ⟨(hr c a b).1, (hr c a b).2, (hP.2.1 c a b).2.2⟩, hP.2.2⟩
theorem CMp.told (f : Fr P h h') (hp : ∀ a j, 80 ≤ a → a ≤ 90 → ¬ (a = 80 ∧ j = 4) → ¬ a = 86 → P a j = false) (hr : ∀ e, 0 ≤ e → e < M.nd → zA h' 86 e = g e) (hP : CMp h M) : CMp h' (M.put 4 g) := by
  have eA : ∀ a, 81 ≤ a → a ≤ 90 → ¬ a = 86 → ∀ i, zA h' a i = zA h a i := fun a p q r i => f.A (hp _ _ (by omega) q (by omega) (by omega))
  have eF : ∀ j, j < 4 → zF h' 80 j = zF h 80 j := fun j q => f.F (hp _ _ (by omega) (by omega) (by omega) (by omega))
  unfold CMp ChOK at hP ⊢
  simp only [eF 0 (by decide), eF 1 (by decide), eF 2 (by decide), eF 3 (by decide), eA 81 (by decide) (by decide) (by decide), eA 82 (by decide) (by decide) (by decide), eA 83 (by decide) (by decide) (by decide), eA 84 (by decide) (by decide) (by decide), eA 85 (by decide) (by decide) (by decide), eA 87 (by decide) (by decide) (by decide), eA 88 (by decide) (by decide) (by decide), eA 89 (by decide) (by decide) (by decide), eA 90 (by decide) (by decide) (by decide)]
  exact ⟨hP.1, hP.2.1, fun e a b => ⟨hr e a b, (hP.2.2.1 e a b).2⟩, hP.2.2.2⟩
theorem MMp.cells (f : Fr P h h') (hp : ∀ a j, 133 ≤ a → a ≤ 138 → ¬ (a = 133 ∨ a = 134) → P a j = false) (hp2 : ∀ j, 34 ≤ j → j ≤ 37 → P 118 j = false) (hk : k = 0 ∨ k = 1) (hr : ∀ c, 0 ≤ c → c < M.n → zA h' 133 c = (M.put k g).ht c ∧ zA h' 134 c = (M.put k g).gr c) (hP : MMp h M) : MMp h' (M.put k g) := by
  have eA : ∀ a, 135 ≤ a → a ≤ 138 → ∀ i, zA h' a i = zA h a i := fun a p q i => f.A (hp _ _ (by omega) q (by omega))
  have eF : ∀ j, 34 ≤ j → j ≤ 37 → zF h' 118 j = zF h 118 j := fun j p q => f.F (hp2 _ p q)
  unfold MMp at hP ⊢
  simp only [eF 34 (by decide) (by decide), eF 35 (by decide) (by decide), eF 36 (by decide) (by decide), eF 37 (by decide) (by decide), eA 135 (by decide) (by decide), eA 136 (by decide) (by decide), eA 137 (by decide) (by decide), eA 138 (by decide) (by decide)]
  rcases hk with rfl | rfl
  · exact ⟨hP.1, fun c a b => ⟨(hr c a b).1, (hr c a b).2, (hP.2.1 c a b).2.2⟩, hP.2.2⟩
  · exact ⟨hP.1, fun c a b => ⟨(hr c a b).1, (hr c a b).2, (hP.2.1 c a b).2.2⟩, hP.2.2⟩
theorem MMp.told (f : Fr P h h') (hp : ∀ a j, 133 ≤ a → a ≤ 138 → ¬ a = 137 → P a j = false) (hp2 : ∀ j, 34 ≤ j → j ≤ 37 → P 118 j = false) (hr : ∀ e, 0 ≤ e → e < M.nd → zA h' 137 e = g e) (hP : MMp h M) : MMp h' (M.put 4 g) := by
  have eA : ∀ a, 133 ≤ a → a ≤ 138 → ¬ a = 137 → ∀ i, zA h' a i = zA h a i := fun a p q r i => f.A (hp _ _ (by omega) q (by omega))
  have eF : ∀ j, 34 ≤ j → j ≤ 37 → zF h' 118 j = zF h 118 j := fun j p q => f.F (hp2 _ p q)
  unfold MMp at hP ⊢
  simp only [eF 34 (by decide) (by decide), eF 35 (by decide) (by decide), eF 36 (by decide) (by decide), eF 37 (by decide) (by decide), eA 133 (by decide) (by decide) (by decide), eA 134 (by decide) (by decide) (by decide), eA 135 (by decide) (by decide) (by decide), eA 136 (by decide) (by decide) (by decide), eA 138 (by decide) (by decide) (by decide)]
  exact ⟨hP.1, hP.2.1, fun e a b => ⟨(hP.2.2.1 e a b).1, hr e a b⟩, hP.2.2.2⟩
/-- the land was changed in one cell (row ra of the class, rm of the Model) -/
theorem cell_end {ra rm kf : Nat} (hi : i ≤ 600) (S : ST i h s n B dd M t T np pl L tr du v v) (hr : (ra = 81 ∧ rm = 133 ∧ kf = 0) ∨ (ra = 82 ∧ rm = 134 ∧ kf = 1)) (q : 0 ≤ x ∧ x < M.n) (hy : R32 y) (ok : (M.put kf (updI (M.2.1 kf) x y)).ok B.g) : KS (sI (sI (sI h ra x.toNat (iI y)) 80 4 (iI (zF h 80 4 + 1))) 1 18 (iI 0)) s n ∧ IM (sI (sI (sI h ra x.toNat (iI y)) 80 4 (iI (zF h 80 4 + 1))) 1 18 (iI 0)) B dd M t T np pl L tr du ∧ INV (i + 1) (sI (sI (hG (sI (sI (sI h ra x.toNat (iI y)) 80 4 (iI (zF h 80 4 + 1))) 1 18 (iI 0))) rm x.toNat (iI y)) 118 51 (iI 0)) s n := by
  obtain ⟨rb, va, zv, va2, zv2, a0, stp, stp2, c1, c2, c3, c4, c5, c6, c7, c8⟩ := id S.2.2.1
  have p := S.2.1
  have h8 := p.2.2.2.2.1.1.2
  have age := c2.1
  have f : Fr (pO (pA [ra]) (pF [(80, 4), (1, 18)])) h (sI (sI (sI h ra x.toNat (iI y)) 80 4 (iI (zF h 80 4 + 1))) 1 18 (iI 0)) := (((Fr.refl _ _).sI ra _ _ (by simp [pO, pA])).sI 80 4 _ (by simp [pO, pA, pF])).sI 1 18 _ (by simp [pO, pA, pF])
  have f2 : Fr (pF [(80, 4), (1, 18)]) (sI h ra x.toNat (iI y)) (sI (sI (sI h ra x.toNat (iI y)) 80 4 (iI (zF h 80 4 + 1))) 1 18 (iI 0)) := ((Fr.refl _ _).sI 80 4 _ (by simp [pF])).sI 1 18 _ (by simp [pF])
  have er : ∀ c, 0 ≤ c → zA (sI (sI (sI h ra x.toNat (iI y)) 80 4 (iI (zF h 80 4 + 1))) 1 18 (iI 0)) ra c = updI (zA h ra) x y c := fun c hc => by
    rw [f2.A (by simp [pF]; omega)]; exact zA_sI q.1 hy c hc
  have ag : zF (sI (sI (sI h ra x.toNat (iI y)) 80 4 (iI (zF h 80 4 + 1))) 1 18 (iI 0)) 80 4 = zF h 80 4 + 1 := gF (by omega) rfl
  have z18 : zF (sI (sI (sI h ra x.toNat (iI y)) 80 4 (iI (zF h 80 4 + 1))) 1 18 (iI 0)) 1 18 = 0 := gF (by omega) rfl
  have hp : ∀ a j, pLd a j = false → pO (pA [ra]) (pF [(80, 4), (1, 18)]) a j = false := fun a j q => by simp [pLd] at q; simp [pO, pA, pF]; omega
  have cp := c1.2.2.1
  generalize sI (sI (sI h ra x.toNat (iI y)) 80 4 (iI (zF h 80 4 + 1))) 1 18 (iI 0) = h1 at *
  have cm : CMp h1 (M.put kf (updI (M.2.1 kf) x y)) := by
    refine cp.cells f (fun a j p q r z => by simp [pO, pA, pF]; omega) (by omega) (fun c a b => ?_)
    have o := cp.2.1 c a b
    rcases hr with ⟨rfl, _, rfl⟩ | ⟨rfl, _, rfl⟩
    · refine ⟨?_, by rw [f.A (by simp [pO, pA, pF])]; exact o.2.1⟩
      rw [er c a]; unfold updI; rw [o.1]; rfl
    · refine ⟨by rw [f.A (by simp [pO, pA, pF])]; exact o.1, ?_⟩
      rw [er c a]; unfold updI; rw [o.2.1]; rfl
  have ic := S.2.2.1.land f S.1.1 hp cm (by rw [f.F (by simp [pO, pA, pF]; omega)]; exact c1.2.2.2.1) (fun z => (c1.2.2.2.2 z).fr f ⟨by simp [pO, pA, pF]; omega, by simp [pO, pA, pF]; omega⟩ (fun j => by simp [pO, pA, pF]; omega)) ag (c4.fr f S.1.1 ⟨by simp [pO, pA, pF]; omega, fun a j p q => by simp [pO, pA, pF]; omega⟩ h8)
  obtain ⟨k1, cv, m, mv⟩ := land_st S f hp z18
  refine ⟨k1, m, ?_⟩
  have g1 : Fr (pO (pA [rm]) (pF [(118, 0), (118, 39), (118, 51)])) h1 (sI (sI (hG h1) rm x.toNat (iI y)) 118 51 (iI 0)) := (((hG_fr h1).mono (fun a j q => by simp only [pO, Bool.or_eq_false_iff] at q; have := q.2; simp [pF] at this ⊢; omega)).sI rm _ _ (by simp [pO, pA, pF])).sI 118 51 _ (by simp [pO, pA, pF])
  have g2 : Fr (pF [(118, 51)]) (sI (hG h1) rm x.toNat (iI y)) (sI (sI (hG h1) rm x.toNat (iI y)) 118 51 (iI 0)) := (Fr.refl _ _).sI 118 51 _ (by simp [pF])
  have mr : ∀ c, 0 ≤ c → zA (sI (sI (hG h1) rm x.toNat (iI y)) 118 51 (iI 0)) rm c = updI (zA h1 rm) x y c := fun c hc => by
    rw [g2.A (by simp [pF]; omega), zA_sI q.1 hy c hc]
    unfold updI
    rw [(hG_fr h1).A (by simp [pF]; omega)]
  have z39 : zF (sI (sI (hG h1) rm x.toNat (iI y)) 118 51 (iI 0)) 118 39 = 0 := by
    have e : Fr (pO (pA [rm]) (pF [(118, 51)])) (hG h1) (sI (sI (hG h1) rm x.toNat (iI y)) 118 51 (iI 0)) := ((Fr.refl _ _).sI rm _ _ (by simp [pO, pA, pF])).sI 118 51 _ (by simp [pO, pA, pF])
    rw [e.F (by simp [pO, pA, pF]; omega)]; exact hG_39 h1
  have z51 : zF (sI (sI (hG h1) rm x.toNat (iI y)) 118 51 (iI 0)) 118 51 = 0 := gF (by decide) rfl
  generalize sI (sI (hG h1) rm x.toNat (iI y)) 118 51 (iI 0) = h2 at *
  have mp := m.1.2.2.1
  have bo := p.map (by omega)
  have mm : MMp h2 (M.put kf (updI (M.2.1 kf) x y)) := by
    refine mp.cells g1 (fun a j p q r => by simp [pO, pA, pF]; omega) (fun j p q => by simp [pO, pA, pF]; omega) (by omega) (fun c a b => ?_)
    have o := mp.2.1 c a b
    rcases hr with ⟨_, rfl, rfl⟩ | ⟨_, rfl, rfl⟩
    · refine ⟨?_, by rw [g1.A (by simp [pO, pA, pF])]; exact o.2.1⟩
      rw [mr c a]; unfold updI; rw [o.1]; rfl
    · refine ⟨by rw [g1.A (by simp [pO, pA, pF])]; exact o.1, ?_⟩
      rw [mr c a]; unfold updI; rw [o.2.1]; rfl
  have nn : 0 < (M.put kf (updI (M.2.1 kf) x y)).n := by have : (M.put kf (updI (M.2.1 kf) x y)).n = M.n := rfl; omega
  exact land_inv k1 ⟨p.1, p.2.1, Or.inl ⟨nn, bo.1, ok⟩, p.2.2.2⟩ ic cv m mv g1 (fun a j q => by simp [pLm] at q; simp [pO, pA, pF]; omega) z39 (m.1.1.fr g1 (by simp [pO, pA, pF]; omega)) mm (by rw [(g1.2 118 38 (by simp [pO, pA, pF]; omega)).1]; exact m.1.2.2.2.1) z51 (m.2.2.1.fr g1 ⟨by simp [pO, pA, pF]; omega, fun j => by simp [pO, pA, pF]; omega⟩)
theorem o_height (hi : i ≤ 600) (hx : R32 x) (hy : R32 y) (I : INV i h s n) (kk : ∀ r h1, Mid i 40 199 [.ref 118, .int (iI x), .int (iI y)] s n r h1 → K r h1) : XW 40 126 0 [.ref 1, .int (iI x), .int (iI y)] [] h (KI K) := by
  obtain ⟨B, dd, M, t, T, np, pl, L, tr, du, v, S⟩ := I
  have S : ST i h s n B dd M t T np pl L tr du v v := S
  obtain ⟨rb, c1⟩ := S.c1
  have p := S.2.1
  have n1 := p.n100
  have e2 : zF h 80 2 = M.n := c1.2.2.1.1.2.2.1
  refine c_height hx hy S.1.1 (by omega) (fun q => kk _ _ ?_) (fun q q1 => kk _ _ ?_) (fun q q1 => kk _ _ ?_)
  · have S1 := S.c18 (r := 1) (by decide)
    have m := S1.2.2.2.2.1
    have ce := (m.cell p).1 x
    rw [e2] at q
    exact ⟨S1.1, fun K2 k2 => m_height hx hy S1.1.1 m.1.1 (fun _ => k2 _ (S1.ref (by decide))) (fun w => absurd (ce.1 w) q) (fun w => absurd (ce.1 w) q)⟩
  · have S1 := S.c18 (r := 2) (by decide)
    have m := S1.2.2.2.2.1
    have ce := (m.cell p).1 x
    rw [e2] at q
    exact ⟨S1.1, fun K2 k2 => m_height hx hy S1.1.1 m.1.1 (fun w => absurd (ce.2 q) w) (fun _ _ => k2 _ (S1.ref (by decide))) (fun _ w => absurd w q1)⟩
  · rw [e2] at q
    have o := (p.map (by omega)).2.1
    have ok : (M.put 0 (updI (M.2.1 0) x y)).ok B.g := by
      refine ⟨o.1, fun c a b => ?_, o.2.2⟩
      have z := o.2.1 c a b
      refine ⟨?_, ?_, z.2.2⟩
      · show 0 ≤ (if c = x then y else M.ht c); split <;> omega
      · show (if c = x then y else M.ht c) ≤ 999; split <;> omega
    obtain ⟨k1, m, fin⟩ := cell_end (ra := 81) (rm := 133) hi S (Or.inl ⟨rfl, rfl, rfl⟩) q hy ok
    have ce := (m.cell p).1 x
    exact ⟨k1, fun K2 k2 => m_height hx hy k1.1 m.1.1 (fun w => absurd (ce.2 q) w) (fun _ w => absurd q1 w) (fun _ _ => k2 _ fin)⟩
theorem o_ground (hi : i ≤ 600) (hx : R32 x) (hy : R32 y) (I : INV i h s n) (kk : ∀ r h1, Mid i 40 200 [.ref 118, .int (iI x), .int (iI y)] s n r h1 → K r h1) : XW 40 127 0 [.ref 1, .int (iI x), .int (iI y)] [] h (KI K) := by
  obtain ⟨B, dd, M, t, T, np, pl, L, tr, du, v, S⟩ := I
  have S : ST i h s n B dd M t T np pl L tr du v v := S
  obtain ⟨rb, c1⟩ := S.c1
  have p := S.2.1
  have n1 := p.n100
  have e2 : zF h 80 2 = M.n := c1.2.2.1.1.2.2.1
  have eg : zF h rb 0 = B.g := c1.2.1.1.1
  have d83 : 0 ≤ x ∧ x < M.n → zA h 83 x = M.db x := fun q => (c1.2.2.1.2.1 x q.1 q.2).2.2
  have d136 : ∀ {h1}, IM h1 B dd M t T np pl L tr du → 0 ≤ x ∧ x < M.n → zA h1 135 x = M.db x := fun m q => (m.1.2.2.1.2.1 x q.1 q.2).2.2
  refine c_ground hx hy S.1.1 c1.1 (by omega) (fun q => kk _ _ ?_) (fun q q1 q2 => kk _ _ ?_) (fun q q1 q2 => kk _ _ ?_)
  · have S1 := S.c18 (r := 1) (by decide)
    have m := S1.2.2.2.2.1
    have ce := m.cell p
    rw [e2, eg] at q
    have no : ∀ {Z : Prop}, (zF (sI h 1 18 (iI 1)) 118 34 = 1 ∧ 0 ≤ x ∧ x < zF (sI h 1 18 (iI 1)) 118 35 * zF (sI h 1 18 (iI 1)) 118 36) → (zF (sI h 1 18 (iI 1)) 118 12 = 1 ∧ 0 ≤ y ∧ y < zF (sI h 1 18 (iI 1)) 118 22) → Z := fun a b => absurd ⟨(ce.1 x).1 a, (ce.2.2 y).1 b⟩ q
    exact ⟨S1.1, fun K2 k2 => m_ground hx hy S1.1.1 m.1.1 (fun _ => k2 _ (S1.ref (by decide))) (fun a b => no a b) (fun a b => no a b)⟩
  · have S1 := S.c18 (r := 5) (by decide)
    have m := S1.2.2.2.2.1
    have ce := m.cell p
    rw [e2] at q
    rw [eg] at q1
    rw [d83 q, ← d136 m q] at q2
    exact ⟨S1.1, fun K2 k2 => m_ground hx hy S1.1.1 m.1.1 (fun w => absurd ⟨(ce.1 x).2 q, (ce.2.2 y).2 q1⟩ w) (fun _ _ _ => k2 _ (S1.ref (by decide))) (fun _ _ w => absurd w q2)⟩
  · rw [e2] at q
    rw [eg] at q1
    have o := (p.map (by omega)).2.1
    have ok : (M.put 1 (updI (M.2.1 1) x y)).ok B.g := by
      refine ⟨o.1, fun c a b => ?_, o.2.2⟩
      have z := o.2.1 c a b
      refine ⟨z.1, z.2.1, ?_, ?_, z.2.2.2.2⟩
      · show 0 ≤ (if c = x then y else M.gr c); split <;> omega
      · show (if c = x then y else M.gr c) < B.g; split <;> omega
    obtain ⟨k1, m, fin⟩ := cell_end (ra := 82) (rm := 134) hi S (Or.inr ⟨rfl, rfl, rfl⟩) q hy ok
    have ce := m.cell p
    rw [d83 q, ← d136 m q] at q2
    exact ⟨k1, fun K2 k2 => m_ground hx hy k1.1 m.1.1 (fun w => absurd ⟨(ce.1 x).2 q, (ce.2.2 y).2 q1⟩ w) (fun _ _ w => absurd q2 w) (fun _ _ _ => k2 _ fin)⟩
end INVD
