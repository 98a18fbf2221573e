/-! between two calls: what is told, maps -/
section INVE
variable {i n rb va zv va2 zv2 a0 a1 va' zv' wa k : Nat} {h h1 h2 h3 h' : XH} {P Q X : Nat → Nat → Bool} {s : Nat → Int32} {B : XB} {dd dd' : Int} {M M' : XM} {t np np' L L' t' r x y e stp stp2 stp' to c bd G : Int} {T T' tr tr' du du' g : Int → Int} {pl : Int → XL} {v w : Nat → Int} {K : Int32 → XH → Prop} {bm : Bool}
theorem Prep.fr (f : Fr P h h') (hp : ∀ j, P 94 j = false ∧ P 95 j = false) (H : Prep h B dd M) : Prep h' B dd M := by
  have e1 : ∀ k, zA h' 94 k = zA h 94 k := fun k => f.A (hp _).1
  have e2 : ∀ k, zA h' 95 k = zA h 95 k := fun k => f.A (hp _).2
  unfold Prep PE at H ⊢
  simp only [e1, e2]
  exact H
theorem IC.told (f : Fr P h h') (hL : Lay h) (hp : ∀ a j, ¬ (a = 86 ∨ (a = 1 ∧ j = 18)) → P a j = false) (h8 : np ≤ 8) (cm : CMp h' (M.put 4 g)) (I : IC i h B dd M t T np pl L tr du) : IC (i + 1) h' B dd (M.put 4 g) t T np pl L tr du := by
  obtain ⟨rb, va, zv, va2, zv2, a0, stp, stp2, c1, c2, c3, c4, c5, c6, c7, c8⟩ := I
  have w1 := c3.1.vb1
  have w2 := c3.2.1.vb2
  have n := hL.2.2.1
  have c := f.ch
  have e12 : zF h' 91 12 = zF h 91 12 := f.F (hp _ _ (by omega))
  have e4 : zF h' 80 4 = zF h 80 4 := f.F (hp _ _ (by omega))
  refine ⟨rb, va, zv, va2, zv2, a0, stp, stp2, ⟨c1.1.ch c hL ⟨rfl, rfl, rfl, rfl⟩, c1.2.1.fr f c1.1.1 (fun a j p q => hp a j (by omega)), cm, by rw [f.F (hp _ _ (by omega))]; exact c1.2.2.2.1, fun z => (c1.2.2.2.2 z).fr f ⟨hp _ _ (by omega), hp _ _ (by omega)⟩ (fun j => ⟨hp _ _ (by omega), hp _ _ (by omega)⟩)⟩, ⟨by have := c2.1; omega, by have := c2.2.1; omega, fun q => ?_⟩, ⟨?_, ?_, by have := c3.2.2.1; omega, c3.2.2.2⟩, c4.fr f hL ⟨hp _ _ (by omega), fun a j p q => hp a j (by omega)⟩ h8, ?_, ?_, ?_, ?_⟩
  · have x : Prep h' B dd M := (c2.2.2 (by omega)).fr f (fun j => ⟨hp _ _ (by omega), hp _ _ (by omega)⟩)
    exact x
  · have x : WIn h' 96 va zv B dd M false stp := c3.1.ch c hL (Or.inl rfl) rfl (fun j => ⟨hp _ _ (by omega), hp _ _ (by omega)⟩) ⟨hp _ _ (by omega), hp _ _ (by omega), hp _ _ (by omega), hp _ _ (by omega), hp _ _ (by omega)⟩
    exact x
  · have x : WIn h' 101 va2 zv2 B dd M true stp2 := c3.2.1.ch c hL (Or.inr rfl) rfl (fun j => ⟨hp _ _ (by omega), hp _ _ (by omega)⟩) ⟨hp _ _ (by omega), hp _ _ (by omega), hp _ _ (by omega), hp _ _ (by omega), hp _ _ (by omega)⟩
    exact x
  · exact c5.ch c hL ⟨hp _ _ (by omega), fun j => hp _ _ (by omega)⟩
  · exact c6.ch c hL ⟨hp _ _ (by omega), fun j => hp _ _ (by omega)⟩
  · exact c7.ch c hL ⟨rfl, rfl, rfl, rfl, rfl⟩ ⟨⟨hp _ _ (by omega), hp _ _ (by omega)⟩, hp _ _ (by omega), hp _ _ (by omega)⟩ (fun q j => ⟨⟨hp _ _ (by omega), hp _ _ (by omega), hp _ _ (by omega), hp _ _ (by omega)⟩, hp _ _ (by omega)⟩) (fun j => hp _ _ (by omega))
  · unfold C8 at c8 ⊢; rw [f.N, f.U]; omega
theorem told_end (S : ST i h s n B dd M t T np pl L tr du v v) (q : 0 ≤ x ∧ x < M.nd) (hy : R32 y) (ok : (M.put 4 (updI M.kn x y)).ok B.g) : KS (sI (sI h 86 x.toNat (iI y)) 1 18 (iI 0)) s n ∧ IM (sI (sI h 86 x.toNat (iI y)) 1 18 (iI 0)) B dd M t T np pl L tr du ∧ INV (i + 1) (sI (sI (hG (sI (sI h 86 x.toNat (iI y)) 1 18 (iI 0))) 137 x.toNat (iI y)) 118 51 (iI 0)) s n := by
  obtain ⟨rb, va, zv, va2, zv2, a0, stp, stp2, c1, c2, c3, c4, c5, c6, c7, c8⟩ := id S.2.2.1
  have p := S.2.1
  have h8 := p.2.2.2.2.1.1.2
  have f : Fr (pO (pA [86]) (pF [(1, 18)])) h (sI (sI h 86 x.toNat (iI y)) 1 18 (iI 0)) := ((Fr.refl _ _).sI 86 _ _ (by simp [pO, pA])).sI 1 18 _ (by simp [pO, pA, pF])
  have er : ∀ c, 0 ≤ c → zA (sI (sI h 86 x.toNat (iI y)) 1 18 (iI 0)) 86 c = updI (zA h 86) x y c := fun c hc => by
    rw [(s18_fr _ 0).A (by simp [pF])]; exact zA_sI q.1 hy c hc
  have z18 : zF (sI (sI h 86 x.toNat (iI y)) 1 18 (iI 0)) 1 18 = 0 := gF (by omega) rfl
  have hp : ∀ a j, pLd a j = false → pO (pA [86]) (pF [(1, 18)]) a j = false := fun a j q => by simp [pLd] at q; simp [pO, pA, pF]; omega
  have cp := c1.2.2.1
  generalize sI (sI h 86 x.toNat (iI y)) 1 18 (iI 0) = h1 at *
  have cm : CMp h1 (M.put 4 (updI M.kn x y)) := cp.told f (fun a j p q r z => by simp [pO, pA, pF]; omega) (fun e a b => by
    rw [er e a]; unfold updI; rw [(cp.2.2.1 e a b).1])
  have ic := S.2.2.1.told f S.1.1 (fun a j q => by simp [pO, pA, pF]; omega) h8 cm
  obtain ⟨k1, cv, m, mv⟩ := land_st S f hp z18
  refine ⟨k1, m, ?_⟩
  have g1 : Fr (pO (pA [137]) (pF [(118, 0), (118, 39), (118, 51)])) h1 (sI (sI (hG h1) 137 x.toNat (iI y)) 118 51 (iI 0)) := (((hG_fr h1).mono (fun a j q => by simp only [pO, Bool.or_eq_false_iff] at q; have := q.2; simp [pF] at this ⊢; omega)).sI 137 _ _ (by simp [pO, pA, pF])).sI 118 51 _ (by simp [pO, pA, pF])
  have g2 : Fr (pF [(118, 51)]) (sI (hG h1) 137 x.toNat (iI y)) (sI (sI (hG h1) 137 x.toNat (iI y)) 118 51 (iI 0)) := (Fr.refl _ _).sI 118 51 _ (by simp [pF])
  have mr : ∀ c, 0 ≤ c → zA (sI (sI (hG h1) 137 x.toNat (iI y)) 118 51 (iI 0)) 137 c = updI (zA h1 137) x y c := fun c hc => by
    rw [g2.A (by simp [pF]), zA_sI q.1 hy c hc]
    unfold updI
    rw [(hG_fr h1).A (by simp [pF])]
  have z39 : zF (sI (sI (hG h1) 137 x.toNat (iI y)) 118 51 (iI 0)) 118 39 = 0 := by
    have e : Fr (pO (pA [137]) (pF [(118, 51)])) (hG h1) (sI (sI (hG h1) 137 x.toNat (iI y)) 118 51 (iI 0)) := ((Fr.refl _ _).sI 137 _ _ (by simp [pO, pA, pF])).sI 118 51 _ (by simp [pO, pA, pF])
    rw [e.F (by simp [pO, pA, pF])]; exact hG_39 h1
  have z51 : zF (sI (sI (hG h1) 137 x.toNat (iI y)) 118 51 (iI 0)) 118 51 = 0 := gF (by decide) rfl
  generalize sI (sI (hG h1) 137 x.toNat (iI y)) 118 51 (iI 0) = h2 at *
  have mp := m.1.2.2.1
  have hn : 0 < M.n := by
    by_cases z : 0 < M.n
    · exact z
    · have := p.nomap z; omega
  have bo := p.map hn
  have mm : MMp h2 (M.put 4 (updI M.kn x y)) := mp.told g1 (fun a j p q r => by simp [pO, pA, pF]; omega) (fun j p q => by simp [pO, pA, pF]; omega) (fun e a b => by
    rw [mr e a]; unfold updI; rw [(mp.2.2.1 e a b).2])
  have nn : 0 < (M.put 4 (updI M.kn x y)).n := hn
  exact land_inv k1 ⟨p.1, p.2.1, Or.inl ⟨nn, bo.1, ok⟩, p.2.2.2⟩ ic cv m mv g1 (fun a j q => by simp [pLm] at q; simp [pO, pA, pF]; omega) z39 (m.1.1.fr g1 (by simp [pO, pA, pF])) mm (by rw [(g1.2 118 38 (by simp [pO, pA, pF])).1]; exact m.1.2.2.2.1) z51 (m.2.2.1.fr g1 ⟨by simp [pO, pA, pF], fun j => by simp [pO, pA, pF]⟩)
theorem o_told (hx : R32 x) (hy : R32 y) (I : INV i h s n) (kk : ∀ r h1, Mid i 40 203 [.ref 118, .int (iI x), .int (iI y)] s n r h1 → K r h1) : XW 40 130 0 [.ref 1, .int (iI x), .int (iI y)] [] h (KI K) := by
  obtain ⟨B, dd, M, t, T, np, pl, L, tr, du, v, S⟩ := I
  have S : ST i h s n B dd M t T np pl L tr du v v := S
  obtain ⟨rb, c1⟩ := S.c1
  have p := S.2.1
  have n1 := p.n100
  have g1 := p.g
  have e3 : zF h 80 3 = M.nd := c1.2.2.1.1.2.2.2
  have eg : zF h rb 0 = B.g := c1.2.1.1.1
  have d88 : 0 ≤ x ∧ x < M.nd → 0 ≤ y ∧ y < B.g → zA h 87 (x * 8 + y) = M.wt x y := fun q q1 => c1.2.2.1.2.2.2.1 x q.1 q.2 y q1.1 (by omega)
  have d139 : ∀ {h1}, IM h1 B dd M t T np pl L tr du → 0 ≤ x ∧ x < M.nd → 0 ≤ y ∧ y < B.g → zA h1 138 (8 * x + y) = M.wt x y := fun m q q1 => m.1.2.2.1.2.2.2 x q.1 q.2 y q1.1 (by omega)
  refine c_told hx hy S.1.1 c1.1 (by omega) (by omega) (fun q => kk _ _ ?_) (fun q q1 q2 => kk _ _ ?_) (fun q q1 q2 => kk _ _ ?_)
  · have S1 := S.c18 (r := 1) (by decide)
    have m := S1.2.2.2.2.1
    have ce := m.cell p
    rw [e3, eg] at q
    exact ⟨S1.1, fun K2 k2 => m_told hx hy S1.1.1 m.1.1 (fun _ => k2 _ (S1.ref (by decide))) (fun a b => absurd ⟨(ce.2.1 x).1 a, (ce.2.2 y).1 b⟩ q) (fun a b => absurd ⟨(ce.2.1 x).1 a, (ce.2.2 y).1 b⟩ q)⟩
  · have S1 := S.c18 (r := 5) (by decide)
    have m := S1.2.2.2.2.1
    have ce := m.cell p
    rw [e3] at q
    rw [eg] at q1
    rw [d88 q q1, ← d139 m q q1] at q2
    exact ⟨S1.1, fun K2 k2 => m_told hx hy S1.1.1 m.1.1 (fun w => absurd ⟨(ce.2.1 x).2 q, (ce.2.2 y).2 q1⟩ w) (fun _ _ _ => k2 _ (S1.ref (by decide))) (fun _ _ w => absurd q2 w)⟩
  · rw [e3] at q
    rw [eg] at q1
    have hn : 0 < M.n := by
      by_cases z : 0 < M.n
      · exact z
      · have := p.nomap z; omega
    have o := (p.map hn).2.1
    have w0 := o.2.2.2.1 x q.1 q.2 y q1.1 (by omega)
    have ok : (M.put 4 (updI M.kn x y)).ok B.g := by
      refine ⟨o.1, o.2.1, fun e a b => ?_, o.2.2.2⟩
      have z := o.2.2.1 e a b
      refine ⟨z.1, z.2.1, z.2.2.1, ?_⟩
      show (if e = x then y else M.kn e) = -1 ∨ (0 ≤ (if e = x then y else M.kn e) ∧ (if e = x then y else M.kn e) < B.g ∧ 0 < M.wt e (if e = x then y else M.kn e))
      by_cases c : e = x
      · rw [if_pos c, c]
        right
        refine ⟨q1.1, q1.2, ?_⟩
        rw [d88 q q1] at q2
        omega
      · rw [if_neg c]; exact z.2.2.2
    obtain ⟨k1, m, fin⟩ := told_end S q hy ok
    have ce := m.cell p
    rw [d88 q q1, ← d139 m q q1] at q2
    exact ⟨k1, fun K2 k2 => m_told hx hy k1.1 m.1.1 (fun w => absurd ⟨(ce.2.1 x).2 q, (ce.2.2 y).2 q1⟩ w) (fun _ _ w => absurd w q2) (fun _ _ _ => k2 _ fin)⟩
theorem o_forget (hx : R32 x) (I : INV i h s n) (kk : ∀ r h1, Mid i 40 204 [.ref 118, .int (iI x)] s n r h1 → K r h1) : XW 40 131 0 [.ref 1, .int (iI x)] [] h (KI K) := by
  obtain ⟨B, dd, M, t, T, np, pl, L, tr, du, v, S⟩ := I
  have S : ST i h s n B dd M t T np pl L tr du v v := S
  obtain ⟨rb, c1⟩ := S.c1
  have p := S.2.1
  have n1 := p.n100
  have e3 : zF h 80 3 = M.nd := c1.2.2.1.1.2.2.2
  have d87 : 0 ≤ x ∧ x < M.nd → zA h 86 x = M.kn x := fun q => (c1.2.2.1.2.2.1 x q.1 q.2).1
  have d138 : ∀ {h1}, IM h1 B dd M t T np pl L tr du → 0 ≤ x ∧ x < M.nd → zA h1 137 x = M.kn x := fun m q => (m.1.2.2.1.2.2.1 x q.1 q.2).2
  refine c_forget hx S.1.1 (by omega) (fun q => kk _ _ ?_) (fun q q2 => kk _ _ ?_) (fun q q2 => kk _ _ ?_)
  · have S1 := S.c18 (r := 1) (by decide)
    have m := S1.2.2.2.2.1
    have ce := m.cell p
    rw [e3] at q
    exact ⟨S1.1, fun K2 k2 => m_forget hx S1.1.1 m.1.1 (fun _ => k2 _ (S1.ref (by decide))) (fun a => absurd ((ce.2.1 x).1 a) q) (fun a => absurd ((ce.2.1 x).1 a) q)⟩
  · have S1 := S.c18 (r := 5) (by decide)
    have m := S1.2.2.2.2.1
    have ce := m.cell p
    rw [e3] at q
    rw [d87 q, ← d138 m q] at q2
    exact ⟨S1.1, fun K2 k2 => m_forget hx S1.1.1 m.1.1 (fun w => absurd ((ce.2.1 x).2 q) w) (fun _ _ => k2 _ (S1.ref (by decide))) (fun _ w => absurd q2 w)⟩
  · rw [e3] at q
    have hn : 0 < M.n := by
      by_cases z : 0 < M.n
      · exact z
      · have := p.nomap z; omega
    have o := (p.map hn).2.1
    have ok : (M.put 4 (updI M.kn x (-1))).ok B.g := by
      refine ⟨o.1, o.2.1, fun e a b => ?_, o.2.2.2⟩
      have z := o.2.2.1 e a b
      refine ⟨z.1, z.2.1, z.2.2.1, ?_⟩
      show (if e = x then -1 else M.kn e) = -1 ∨ (0 ≤ (if e = x then -1 else M.kn e) ∧ (if e = x then -1 else M.kn e) < B.g ∧ 0 < M.wt e (if e = x then -1 else M.kn e))
      by_cases c : e = x
      · rw [if_pos c]; exact Or.inl rfl
      · rw [if_neg c]; exact z.2.2.2
    obtain ⟨k1, m, fin⟩ := told_end S q (by decide) ok
    have ce := m.cell p
    rw [d87 q, ← d138 m q] at q2
    exact ⟨k1, fun K2 k2 => m_forget hx k1.1 m.1.1 (fun w => absurd ((ce.2.1 x).2 q) w) (fun _ w => absurd w q2) (fun _ _ => k2 _ fin)⟩
end INVE
