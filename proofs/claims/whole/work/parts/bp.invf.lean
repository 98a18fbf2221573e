/-! between two calls: maps, doubts -/
def XM.lay (x y : Int) : XM := (fun k => if k = 0 then x else if k = 1 then y else 0, fun k => if k = 2 then fun _ => -1 else fun _ => 0, fun _ _ => 0)
section INVF
variable {i n rb va zv va2 zv2 a0 a1 va' zv' wa k : Nat} {h h1 h2 h3 h' : XH} {P Q X : Nat → Nat → Bool} {s : Nat → Int32} {B : XB} {dd dd' : Int} {M M' : XM} {t np np' L L' t' r x y z e stp stp2 stp' to c bd G : Int} {T T' tr tr' du du' g : Int → Int} {pl : Int → XL} {v w : Nat → Int} {K : Int32 → XH → Prop} {bm : Bool}
theorem dg_0 (e : Int) : dg 0 e = 0 := by unfold dg; rw [Int.zero_ediv]; rfl
theorem o_map (hi : i ≤ 600) (hx : R32 x) (hy : R32 y) (I : INV i h s n) (kk : ∀ r h1, Mid i 40 196 [.ref 118, .int (iI x), .int (iI y), .null] s n r h1 → K r h1) : XW 40 125 0 [.ref 1, .int (iI x), .int (iI y)] [] h (KI K) := by
  obtain ⟨B, dd, M, t, T, np, pl, L, tr, du, v, S⟩ := I
  have S : ST i h s n B dd M t T np pl L tr du v v := S
  obtain ⟨rb, va, zv, va2, zv2, a0, stp, stp2, c1, c2, c3, c4, c5, c6, c7, c8⟩ := id S.2.2.1
  have p := S.2.1
  have g1 := p.g
  have eg : zF h rb 0 = B.g := c1.2.1.1.1
  have bo : ¬ B.g = 0 → B.ok := fun q => by
    rcases p.1 with z | z
    · exact z
    · exact absurd z.1 q
  have cond : ∀ {h1}, IM h1 B dd M t T np pl L tr du → ((zF h1 118 12 = 1 ∧ ¬ zF h1 118 22 = 0) ↔ ¬ B.g = 0) := fun {h1} m => by
    rw [m.1.2.1.1.1]
    exact ⟨fun a => a.2, fun a => ⟨(bk12 m).2.1 (bo a), a⟩⟩
  refine c_map hx hy S.1.1 c1.1 (fun q => kk _ _ ?_) (fun q q1 => kk _ _ ?_) (fun q qx qy h' f' z0 z1 z2 z3 z4 rows nb => kk _ _ ?_)
  · have S1 := S.c18 (r := 1) (by decide)
    have m := S1.2.2.2.2.1
    have cd := cond m
    exact ⟨S1.1, fun K2 k2 => m_map hx hy S1.1.1 m.1.1 (fun _ => k2 _ (S1.ref (by decide))) (fun a b => absurd (by omega) (cd.1 ⟨a, b⟩)) (fun a b => absurd (by omega) (cd.1 ⟨a, b⟩))⟩
  · have S1 := S.c18 (r := 2) (by decide)
    have m := S1.2.2.2.2.1
    have cd := cond m
    exact ⟨S1.1, fun K2 k2 => m_map hx hy S1.1.1 m.1.1 (fun w => absurd (cd.2 (by omega)) w) (fun _ _ _ => k2 _ (S1.ref (by decide))) (fun _ _ a b => absurd ⟨a, b⟩ q1)⟩
  · rw [eg] at q
    have age := c2.1
    have pr := prod_in (a := x) (b := y) (by omega) (by omega)
    have f : Fr (pO PLay (pF [(1, 8), (1, 18)])) h (sI (sI h' 1 8 (iI 0)) 1 18 (iI 0)) := ((f'.mono (fun a j q => by simp only [pO, Bool.or_eq_false_iff] at q ⊢; exact q.1)).sI 1 8 _ (by simp [pO, pA, pF])).sI 1 18 _ (by simp [pO, pA, pF])
    have f2 : Fr (pF [(1, 8), (1, 18)]) h' (sI (sI h' 1 8 (iI 0)) 1 18 (iI 0)) := ((Fr.refl _ _).sI 1 8 _ (by simp [pF])).sI 1 18 _ (by simp [pF])
    have z18 : zF (sI (sI h' 1 8 (iI 0)) 1 18 (iI 0)) 1 18 = 0 := gF (by omega) rfl
    have z8 : gI (sI (sI h' 1 8 (iI 0)) 1 18 (iI 0)) 1 8 = iI 0 := rfl
    have hp : ∀ a j, pLd a j = false → pO PLay (pF [(1, 8), (1, 18)]) a j = false := fun a j q => by simp [pLd] at q; simp [pO, pA, pF]; omega
    generalize sI (sI h' 1 8 (iI 0)) 1 18 (iI 0) = h1 at *
    have F : ∀ j, gI h1 80 j = gI h' 80 j := fun j => (f2.2 80 j (by simp [pF])).1
    have A : ∀ a k, 81 ≤ a → a ≤ 90 → zA h1 a k = zA h' a k := fun a k p q => f2.A (by simp [pF]; omega)
    have row : ∀ c : Int, 0 ≤ c → c < 100 → zA h1 81 c = 0 ∧ zA h1 82 c = 0 ∧ zA h1 83 c = -1 ∧ zA h1 84 c = 0 := fun c a b => by
      have o := rows c.toNat (by omega)
      rw [A 81 c (by omega) (by omega), A 82 c (by omega) (by omega), A 83 c (by omega) (by omega), A 84 c (by omega) (by omega)]
      unfold zA
      rw [o.1, o.2.1, o.2.2.1, o.2.2.2]
      exact ⟨rfl, rfl, rfl, rfl⟩
    have en : (XM.lay x y).n = x * y := rfl
    have ed : (XM.lay x y).nd = 0 := rfl
    have ew : (XM.lay x y).wd = x := rfl
    have eh : (XM.lay x y).hg = y := rfl
    have cm : CMp h1 (XM.lay x y) := by
      refine ⟨⟨?_, ?_, ?_, ?_⟩, fun c a b => ?_, fun e a b => absurd b (by omega), fun e a b => absurd b (by omega), fun c a b => ?_, fun c a b e e0 e1 => ?_, fun c way a b w0 w1 => ?_⟩
      · exact gF (by omega) ((F 0).trans z0)
      · exact gF (by omega) ((F 1).trans z1)
      · exact gF (by omega) ((F 2).trans z2)
      · exact gF (by omega) ((F 3).trans z3)
      · have := row c a (by omega)
        exact ⟨this.1, this.2.1, this.2.2.1⟩
      · rw [(row c a b).2.2.2]; decide
      · rw [(row c a (by omega)).2.2.2, dg_0, if_neg (by omega)]
      · rw [A 85 _ (by omega) (by omega)]; exact nb c way a (by rw [Int.mul_comm]; exact b) w0 w1
    have ok : (XM.lay x y).ok B.g := by
      refine ⟨⟨qx.1, qx.2, qy.1, qy.2, by omega, by omega, by omega, by omega⟩, fun c a b => ⟨Int.le_refl _, (by show (0 : Int) ≤ 999; decide), Int.le_refl _, (by show (0 : Int) < B.g; omega), Int.le_refl _, (by show (-1 : Int) < 0; decide), fun w => absurd (show (0 : Int) ≤ -1 from w) (by decide)⟩, fun e a b => absurd b (by omega), fun e a b => absurd b (by omega), fun e a b => absurd b (by omega)⟩
    have ic : IC (i + 1) h1 B dd (XM.lay x y) t T 0 pl L tr du := S.2.2.1.land f S.1.1 hp cm (by rw [f.F (by simp [pO, pA, pF])]; exact c1.2.2.2.1) (fun z => (c1.2.2.2.2 z).fr f ⟨by simp [pO, pA, pF], by simp [pO, pA, pF]⟩ (fun j => by simp [pO, pA, pF])) (gF (by omega) ((F 4).trans z4)) ⟨z8, fun j a b => absurd b (by omega)⟩
    obtain ⟨k1, cv, m, mv⟩ := land_st S f hp z18
    have cd := cond m
    refine ⟨k1, fun K2 k2 => m_map hx hy k1.1 m.1.1 (fun w => absurd (cd.2 q) w) (fun _ _ w => absurd ⟨qx, qy⟩ w) (fun _ _ _ _ h2 f3 gj mrow => k2 _ ?_)⟩
    have e34 : zF h2 118 34 = 1 := gF (by omega) (by rw [gj 34]; rfl)
    have e35 : zF h2 118 35 = x := gF (by omega) (by rw [gj 35]; rfl)
    have e36 : zF h2 118 36 = y := gF (by omega) (by rw [gj 36]; rfl)
    have e37 : zF h2 118 37 = 0 := gF (by omega) (by rw [gj 37]; rfl)
    have mb := m.1.1
    refine land_inv k1 ⟨p.1, p.2.1, Or.inl ⟨by rw [en]; have : 1 * 1 ≤ x * y := Int.mul_le_mul qx.1 qy.1 (by decide) (by omega); omega, bo q, ok⟩, p.2.2.2.1, ⟨by decide, fun j a b => absurd b (by omega)⟩, p.2.2.2.2.2⟩ ic cv m mv f3 (fun a j q => by simp [pLm] at q; simp [pO, pA, pF]; omega) (gF (by decide) (by rw [gj 39]; rfl)) ?_ ⟨⟨e37, Or.inl ⟨e34, e35, e36, qx.1, qx.2, qy.1, qy.2⟩⟩, fun c a b => ?_, fun e a b => absurd b (by omega), fun e a b => absurd b (by omega)⟩ (by rw [(f3.2 118 38 (by simp [pO, pA, pF])).1]; exact m.1.2.2.2.1) (gF (by decide) (by rw [gj 51]; rfl)) ⟨gF (by decide) (by rw [gj 40]; rfl), fun j a b => absurd b (by omega)⟩
    · unfold MB at mb ⊢
      rw [f3.F (j := 12) (by simp [pO, pA, pF]), f3.F (j := 22) (by simp [pO, pA, pF]), e34, e35, e36, e37]
      exact ⟨mb.1, Or.inr rfl, mb.2.2.1, by omega, by omega, by decide⟩
    · have o := mrow c.toNat (by omega)
      unfold zA
      rw [o.1, o.2.1, o.2.2]
      exact ⟨rfl, rfl, rfl⟩
def XM.dbt (M : XM) (c : Int) : XM := (fun k => if k = 2 then M.nd + 1 else M.1 k, fun k => if k = 2 then updI M.db c M.nd else if k = 3 then updI M.dc M.nd c else if k = 4 then updI M.kn M.nd (-1) else M.2.1 k, fun e g => if e = M.nd then (if g = M.gr c then 1 else 0) else M.wt e g)
theorem XM.dbt_ok (o : M.ok G) (q : 0 ≤ c ∧ c < M.n) (hd : M.db c = -1) (h5 : M.nd < 5) : (M.dbt c).ok G := by
  have o1 := o.1
  have gc := o.2.1 c q.1 q.2
  have en : (M.dbt c).n = M.n := rfl
  have ed : (M.dbt c).nd = M.nd + 1 := rfl
  have wD : ∀ g, (M.dbt c).wt M.nd g = if g = M.gr c then 1 else 0 := fun g => by show (if M.nd = M.nd then _ else _) = _; rw [if_pos rfl]
  have wE : ∀ e g, ¬ e = M.nd → (M.dbt c).wt e g = M.wt e g := fun e g w => by show (if e = M.nd then _ else _) = _; rw [if_neg w]
  refine ⟨⟨o1.1, o1.2.1, o1.2.2.1, o1.2.2.2.1, by omega, by omega, o1.2.2.2.2.2.2⟩, fun x a b => ?_, fun e a b => ?_, fun e a b g g0 g1 => ?_, fun e a b => ?_⟩
  · have z := o.2.1 x a b
    refine ⟨z.1, z.2.1, z.2.2.1, z.2.2.2.1, ?_, ?_, ?_⟩
    · show -1 ≤ (if x = c then M.nd else M.db x); split <;> omega
    · show (if x = c then M.nd else M.db x) < M.nd + 1; split <;> omega
    · show 0 ≤ (if x = c then M.nd else M.db x) → (if (if x = c then M.nd else M.db x) = M.nd then c else M.dc (if x = c then M.nd else M.db x)) = x
      intro w
      by_cases xc : x = c
      · rw [if_pos xc, if_pos rfl, xc]
      · rw [if_neg xc] at w ⊢
        rw [if_neg (by omega)]; exact z.2.2.2.2.2.2 w
  · show 0 ≤ (if e = M.nd then c else M.dc e) ∧ (if e = M.nd then c else M.dc e) < M.n ∧ (if (if e = M.nd then c else M.dc e) = c then M.nd else M.db (if e = M.nd then c else M.dc e)) = e ∧ ((if e = M.nd then -1 else M.kn e) = -1 ∨ (0 ≤ (if e = M.nd then -1 else M.kn e) ∧ (if e = M.nd then -1 else M.kn e) < G ∧ 0 < (M.dbt c).wt e (if e = M.nd then -1 else M.kn e)))
    by_cases w : e = M.nd
    · rw [if_pos w, if_pos w, if_pos rfl]
      exact ⟨q.1, q.2, w.symm, Or.inl rfl⟩
    · have z := o.2.2.1 e a (by omega)
      rw [if_neg w, if_neg w, if_neg (fun x => by rw [x, hd] at z; omega), wE e _ w]
      exact z
  · by_cases w : e = M.nd
    · rw [w, wD]; split <;> omega
    · rw [wE e g w]; exact o.2.2.2.1 e a (by omega) g g0 g1
  · by_cases w : e = M.nd
    · have : chs ((M.dbt c).wt e) 8 = [M.gr c] := by
        rw [w, chs_congr (u := fun i => if i = M.gr c then 1 else 0) (fun i _ _ => wD i)]
        exact chs_one (by omega)
      rw [this]; exact ⟨Nat.le_refl 1, (by show (1 : Nat) ≤ 3; decide)⟩
    · rw [chs_congr (u := M.wt e) (fun i _ _ => wE e i w)]; exact o.2.2.2.2 e a (by omega)
theorem XL.ok_mono {p : XL} {a b : Int} (ab : a ≤ b) (o : p.ok a) : p.ok b := ⟨o.1, fun j x y => by
  have z := o.2 j x y
  exact ⟨z.1, z.2.1, z.2.2.1, fun q => by have := z.2.2.2 q; omega⟩⟩
theorem o_doubt (hi : i ≤ 600) (hx : R32 c) (I : INV i h s n) (kk : ∀ r h1, Mid i 40 201 [.ref 118, .int (iI c), .null] s n r h1 → K r h1) : XW 40 128 0 [.ref 1, .int (iI c)] [] h (KI K) := by
  obtain ⟨B, dd, M, t, T, np, pl, L, tr, du, v, S⟩ := I
  have S : ST i h s n B dd M t T np pl L tr du v v := S
  obtain ⟨rb, va, zv, va2, zv2, a0, stp, stp2, c1, c2, c3, c4, c5, c6, c7, c8⟩ := id S.2.2.1
  have p := S.2.1
  have h8 := p.2.2.2.2.1.1.2
  have n1 := p.n100
  have cp := c1.2.2.1
  have e0 : zF h 80 0 = M.wd := cp.1.1
  have e1 : zF h 80 1 = M.hg := cp.1.2.1
  have e2 : zF h 80 2 = M.n := cp.1.2.2.1
  have e3 : zF h 80 3 = M.nd := cp.1.2.2.2
  have wh : (0 ≤ M.wd ∧ M.wd ≤ 10) ∧ 0 ≤ M.hg ∧ M.hg ≤ 10 := by
    by_cases q : 0 < M.n
    · have := (p.map q).2.1.1; omega
    · have := p.nomap q; omega
  have hg : ∀ x, 0 ≤ x → x < zF h 80 2 → 0 ≤ zA h 82 x ∧ zA h 82 x < 8 := fun x a b => by
    rw [e2] at b
    have o := (p.map (by omega)).2.1
    have z := o.2.1 x a b
    have z1 := o.1
    rw [(cp.2.1 x a b).2.1]; omega
  have d83 : 0 ≤ c ∧ c < M.n → zA h 83 c = M.db c := fun q => (cp.2.1 c q.1 q.2).2.2
  have d136 : ∀ {h1}, IM h1 B dd M t T np pl L tr du → 0 ≤ c ∧ c < M.n → zA h1 135 c = M.db c := fun m q => (m.1.2.2.1.2.1 c q.1 q.2).2.2
  have e37 : ∀ {h1}, IM h1 B dd M t T np pl L tr du → zF h1 118 37 = M.nd := fun m => m.1.2.2.1.1.1
  refine c_doubt hx S.1.1 (by omega) (by omega) (by omega) (by rw [e0, e1, e2]; rfl) (by rw [e0, e1, e2]; exact cp.2.2.2.2.2.2) cp.2.2.2.2.1 hg (fun q => kk _ _ ?_) (fun q q1 => kk _ _ ?_) (fun q q1 q2 => kk _ _ ?_) (fun q q1 q2 h' ad => kk _ _ ?_)
  · have S1 := S.c18 (r := 1) (by decide)
    have m := S1.2.2.2.2.1
    have ce := (m.cell p).1 c
    rw [e2] at q
    exact ⟨S1.1, fun K2 k2 => m_doubt hx S1.1.1 m.1.1 (fun _ => k2 _ (S1.ref (by decide))) (fun a => absurd (ce.1 a) q) (fun a => absurd (ce.1 a) q) (fun a => absurd (ce.1 a) q)⟩
  · have S1 := S.c18 (r := 5) (by decide)
    have m := S1.2.2.2.2.1
    have ce := (m.cell p).1 c
    rw [e2] at q
    rw [d83 q, ← d136 m q] at q1
    exact ⟨S1.1, fun K2 k2 => m_doubt hx S1.1.1 m.1.1 (fun w => absurd (ce.2 q) w) (fun _ _ => k2 _ (S1.ref (by decide))) (fun _ a => absurd a q1) (fun _ a => absurd a q1)⟩
  · have S1 := S.c18 (r := 3) (by decide)
    have m := S1.2.2.2.2.1
    have ce := (m.cell p).1 c
    have e := e37 m
    rw [e2] at q
    rw [d83 q, ← d136 m q] at q1
    exact ⟨S1.1, fun K2 k2 => m_doubt hx S1.1.1 m.1.1 (fun w => absurd (ce.2 q) w) (fun _ a => absurd q1 a) (fun _ _ _ => k2 _ (S1.ref (by decide))) (fun _ _ a => absurd a (by omega))⟩
  · rw [e2] at q
    rw [e3] at q2 ad ⊢
    have age := c2.1
    have o := (p.map (by omega)).2.1
    have ok := XM.dbt_ok o q (by rw [← d83 q]; exact q1) q2
    obtain ⟨f', a3, a4, r83, r87, r88, r84, chD, r90, r89⟩ := ad
    have f : Fr (pO PAdd (pF [(1, 18)])) h (sI h' 1 18 (iI 0)) := (f'.mono (fun a j q => by simp only [pO, Bool.or_eq_false_iff] at q ⊢; exact q.1)).sI 1 18 _ (by simp [pO, pA, pF])
    have f2 := s18_fr h' 0
    have z18 := s18_v h' (r := 0) (by decide)
    have hp : ∀ a j, pLd a j = false → pO PAdd (pF [(1, 18)]) a j = false := fun a j q => by simp [pLd] at q; simp [pO, pA, pF]; omega
    generalize sI h' 1 18 (iI 0) = h1 at *
    have A : ∀ a k, 81 ≤ a → a ≤ 90 → zA h1 a k = zA h' a k := fun a k p q => f2.A (by simp [pF]; omega)
    have F : ∀ j, gI h1 80 j = gI h' 80 j := fun j => (f2.2 80 j (by simp [pF])).1
    have G0 : ∀ a k, a = 81 ∨ a = 82 ∨ a = 85 → zA h1 a k = zA h a k := fun a k q => f.A (by simp [pO, pA, pF]; omega)
    have en : (M.dbt c).n = M.n := rfl
    have ed : (M.dbt c).nd = M.nd + 1 := rfl
    have gc := hg c q.1 (by rw [e2]; exact q.2)
    have c82 : zA h 82 c = M.gr c := (cp.2.1 c q.1 q.2).2.1
    have cm : CMp h1 (M.dbt c) := by
      refine ⟨⟨?_, ?_, ?_, ?_⟩, fun x a b => ?_, fun e a b => ?_, fun e a b g g0 g1 => ?_, fun x a b => ?_, fun x a b e e0' e1' => ?_, fun x way a b w0 w1 => ?_⟩
      · rw [f.F (by simp [pO, pA, pF])]; exact e0
      · rw [f.F (by simp [pO, pA, pF])]; exact e1
      · rw [f.F (by simp [pO, pA, pF])]; exact e2
      · exact gF (by omega) ((F 3).trans a3)
      · have z := cp.2.1 x a b
        rw [G0 81 x (by omega), G0 82 x (by omega), A 83 x (by omega) (by omega), r83 x a]
        refine ⟨z.1, z.2.1, ?_⟩
        show _ = (if x = c then M.nd else M.db x)
        rw [z.2.2]
      · rw [A 86 e (by omega) (by omega), r87 e a]
        refine ⟨?_, ?_⟩
        · show _ = (if e = M.nd then -1 else M.kn e)
          by_cases w : e = M.nd
          · rw [if_pos w, if_pos w]
          · rw [if_neg w, if_neg w]; exact (cp.2.2.1 e a (by omega)).1
        · unfold ChOK
          have x1 : ∀ k, zA h1 87 k = zA h' 87 k := fun k => A 87 k (by omega) (by omega)
          have x2 : ∀ k, zA h1 88 k = zA h' 88 k := fun k => A 88 k (by omega) (by omega)
          rw [A 89 e (by omega) (by omega), A 90 e (by omega) (by omega)]
          simp only [x1, x2]
          by_cases w : e = M.nd
          · rw [w]; exact chD
          · have ce := (cp.2.2.1 e a (by omega)).2
            have lim := (o.2.2.2.2 e a (by omega)).2
            have eq8 : ∀ g : Int, 0 ≤ g → g < 8 → zA h' 87 (e * 8 + g) = zA h 87 (e * 8 + g) := fun g g0 g1 => by
              rw [r88 _ (by omega), if_neg (by omega)]
            have ec : chs (fun g => zA h' 87 (e * 8 + g)) 8 = chs (fun g => zA h 87 (e * 8 + g)) 8 := chs_congr (fun g g0 g1 => eq8 g g0 (by omega))
            have es : sumTo (fun g => zA h' 87 (e * 8 + g)) 8 = sumTo (fun g => zA h 87 (e * 8 + g)) 8 := sumTo_congr (fun g g0 g1 => eq8 g g0 (by omega))
            have el : chs (fun g => zA h 87 (e * 8 + g)) 8 = chs (M.wt e) 8 := chs_congr (fun g g0 g1 => cp.2.2.2.1 e a (by omega) g g0 (by omega))
            unfold ChOK at ce
            rw [ec, es, (r90 e a w).1, (r90 e a w).2]
            refine ⟨ce.1, ce.2.1, fun j hj => ?_⟩
            rw [r89 _ (by omega) (Or.inl (by rw [el] at hj; omega))]
            exact ce.2.2 j hj
      · rw [A 87 _ (by omega) (by omega), r88 _ (by omega)]
        show _ = (if e = M.nd then (if g = M.gr c then 1 else 0) else M.wt e g)
        by_cases w : e = M.nd
        · rw [if_pos (by omega), if_pos w, c82]
          have : e * 8 + g - M.nd * 8 = g := by omega
          rw [this]
        · rw [if_neg (by omega), if_neg w]; exact cp.2.2.2.1 e a (by omega) g g0 g1
      · rw [A 84 x (by omega) (by omega), r84 x a b]
        have z := cp.2.2.2.2.1 x a b
        split
        · exact orD_in z (by omega)
        · exact z
      · rw [A 84 x (by omega) (by omega), r84 x a (by omega), e0, e1]
        have z := cp.2.2.2.2.1 x a (by omega)
        have y := cp.2.2.2.2.2.1 x a b e e0' e1'
        show _ = if e < M.nd + 1 ∧ nr M.wd M.hg (if e = M.nd then c else M.dc e) x = true then 3 else 0
        by_cases w : e = M.nd
        · rw [if_pos w]
          rw [if_neg (by omega)] at y
          by_cases u : nr M.wd M.hg c x = true
          · rw [if_pos u, dg_orD z (by omega) (by omega), if_pos w, if_pos ⟨by omega, u⟩]
          · rw [if_neg u, y, if_neg (fun q => u q.2)]
        · rw [if_neg w]
          have yy : dg (if nr M.wd M.hg c x = true then orD (zA h 84 x) M.nd else zA h 84 x) e = dg (zA h 84 x) e := by
            split
            · rw [dg_orD z (by omega) (by omega), if_neg w]
            · rfl
          rw [yy, y]
          by_cases u : e < M.nd ∧ nr M.wd M.hg (M.dc e) x = true
          · rw [if_pos u, if_pos ⟨by omega, u.2⟩]
          · rw [if_neg u, if_neg (fun q => u ⟨by omega, q.2⟩)]
      · rw [G0 85 _ (by omega)]; exact cp.2.2.2.2.2.2 x way a b w0 w1
    have ic := S.2.2.1.land f S.1.1 hp cm (by rw [f.F (by simp [pO, pA, pF])]; exact c1.2.2.2.1) (fun z => (c1.2.2.2.2 z).fr f ⟨by simp [pO, pA, pF], by simp [pO, pA, pF]⟩ (fun j => by simp [pO, pA, pF])) (gF (by omega) ((F 4).trans a4)) (c4.fr f S.1.1 ⟨by simp [pO, pA, pF], fun a j p q => by simp [pO, pA, pF]; omega⟩ h8)
    obtain ⟨k1, cv, m, mv⟩ := land_st S f hp z18
    have ce := (m.cell p).1 c
    have e := e37 m
    rw [d83 q, ← d136 m q] at q1
    refine ⟨k1, fun K2 k2 => m_doubt hx k1.1 m.1.1 (fun w => absurd (ce.2 q) w) (fun _ w => absurd q1 w) (fun _ _ w => absurd w (by omega)) (fun _ _ _ h2 ma => ?_)⟩
    rw [e] at ma ⊢
    obtain ⟨g1, b0, b39, b37, b51, s136, s137, s138, s139⟩ := ma
    have mp := m.1.2.2.1
    have mb := m.1.1
    have x37 : zF h2 118 37 = M.nd + 1 := gF (by omega) b37
    refine k2 _ (land_inv k1 ⟨p.1, p.2.1, Or.inl ⟨by rw [en]; omega, (p.map (by omega)).1, ok⟩, p.2.2.2.1, ⟨p.2.2.2.2.1.1, fun j a b => XL.ok_mono (by rw [ed]; omega) (p.2.2.2.2.1.2 j a b)⟩, p.2.2.2.2.2⟩ ic cv m mv g1 (fun a j q => by simp [pLm] at q; simp [pO, pA, pF]; omega) (gF (by decide) b39) ?_ ⟨⟨x37, ?_⟩, fun x a b => ?_, fun e a b => ?_, fun e a b g g0 g2 => ?_⟩ (by rw [(g1.2 118 38 (by simp [pO, pA, pF])).1]; exact m.1.2.2.2.1) (gF (by decide) b51) (m.2.2.1.fr g1 ⟨by simp [pO, pA, pF], fun j => by simp [pO, pA, pF]⟩))
    · unfold MB at mb ⊢
      rw [g1.F (j := 12) (by simp [pO, pA, pF]), g1.F (j := 34) (by simp [pO, pA, pF]), g1.F (j := 22) (by simp [pO, pA, pF]), g1.F (j := 35) (by simp [pO, pA, pF]), g1.F (j := 36) (by simp [pO, pA, pF]), x37]
      exact ⟨mb.1, mb.2.1, mb.2.2.1, mb.2.2.2.1, mb.2.2.2.2.1, by omega⟩
    · rw [g1.F (j := 34) (by simp [pO, pA, pF]), g1.F (j := 35) (by simp [pO, pA, pF]), g1.F (j := 36) (by simp [pO, pA, pF])]
      rcases mp.1.2 with z | z
      · exact Or.inl z
      · have : M.n = 0 := by show M.wd * M.hg = 0; rw [z.2.1, Int.zero_mul]
        omega
    · have z := mp.2.1 x a b
      rw [g1.A (by simp [pO, pA, pF]), g1.A (by simp [pO, pA, pF]), s136 x a]
      refine ⟨z.1, z.2.1, ?_⟩
      show _ = (if x = c then M.nd else M.db x)
      rw [z.2.2]
    · rw [s137 e a, s138 e a]
      refine ⟨?_, ?_⟩
      · show _ = (if e = M.nd then c else M.dc e)
        by_cases w : e = M.nd
        · rw [if_pos w, if_pos w]
        · rw [if_neg w, if_neg w]; exact (mp.2.2.1 e a (by omega)).1
      · show _ = (if e = M.nd then -1 else M.kn e)
        by_cases w : e = M.nd
        · rw [if_pos w, if_pos w]
        · rw [if_neg w, if_neg w]; exact (mp.2.2.1 e a (by omega)).2
    · rw [s139 _ (by omega)]
      show _ = (if e = M.nd then (if g = M.gr c then 1 else 0) else M.wt e g)
      by_cases w : e = M.nd
      · rw [if_pos (by omega), if_pos w, (mp.2.1 c q.1 q.2).2.1]
        have : 8 * e + g - 8 * M.nd = g := by omega
        rw [this]
      · rw [if_neg (by omega), if_neg w]; exact mp.2.2.2 e a (by omega) g g0 g2
end INVF
