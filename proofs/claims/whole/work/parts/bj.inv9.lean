/-! between two calls: the wheels, plans judged -/
def pM7 : Nat → Nat → Bool := fun a j => (a == 118 && (j == 0 || (j == 39 || j == 69))) || (a == 139 || a == 149)
section INV9
variable {i n rb va zv va2 zv2 a0 a1 va' zv' wa : Nat} {h h1 h2 h3 h' : XH} {P Q X : Nat → Nat → Bool} {s : Nat → Int32} {B : XB} {dd : Int} {M : XM} {t np L L' t' r x y e stp stp2 stp' to c bd : Int} {T T' tr tr' du du' : Int → Int} {pl : Int → XL} {v w : Nat → Int} {K : Int32 → XH → Prop}
theorem inv_mk (k : KS h1 s n) (p : IP B dd M t T np pl L du) (ic : IC i h1 B dd M t T np pl L tr du) (cv : CV h1 v) (f : Fr P h1 h2) (hp : ∀ a j, a < 118 ∨ 154 ≤ a → P a j = false) (m : IM h2 B dd M t T np pl L tr du) (mv : MV h2 v) : INV i h2 s n :=
  ⟨B, dd, M, t, T, np, pl, L, tr, du, v, k.fr f (fun a j q => hp a j (by omega)), p, ic.fr f k.1 (fun a j q => hp a j (by simp [pFree] at q; omega)) p.2.2.2.2.1.1.2, cv.fr f (fun a j q => hp a j (by omega)), m, mv⟩
theorem IM.re7 (f : Fr P h h') (hp : ∀ a j, pM7 a j = false → P a j = false) (m7 : M7 h' B du') (I : IM h B dd M t T np pl L tr du) : IM h' B dd M t T np pl L tr du' := by
  obtain ⟨⟨q1, q2, q3, q4, q5⟩, qS, ⟨p1, p2⟩, ⟨t1, t2⟩, q6, _⟩ := I
  have F : ∀ j, pM7 118 j = false → zF h' 118 j = zF h 118 j := fun j q => f.F (hp _ _ q)
  refine ⟨⟨?_, q2.fr f (fun a j q => hp a j (by simp [fpMB] at q; simp [pM7]; omega)), q3.fr f (fun a j p q => hp a j (by simp [pM7]; omega)) (fun j p q => hp _ _ (by simp [pM7]; omega)), by rw [(f.2 118 38 (hp _ _ rfl)).1]; exact q4, by rw [F 12 rfl]; exact q5⟩, qS.fr f (fun j => ⟨hp _ _ (by simp [pM7]), hp _ _ (by simp [pM7]), hp _ _ (by simp [pM7]), hp _ _ (by simp [pM7]), hp _ _ (by simp [pM7])⟩) ⟨hp _ _ rfl, hp _ _ rfl, hp _ _ rfl⟩, ⟨by rw [F 40 rfl]; exact p1, fun k a b => (p2 k a b).fr f (fun j => ⟨hp _ _ (by simp [pM7]), hp _ _ (by simp [pM7])⟩)⟩, ⟨by rw [(f.2 118 2 (hp _ _ rfl)).1]; exact t1, fun k a b => by rw [f.A (hp _ _ (by simp [pM7]))]; exact t2 k a b⟩, q6.fr f ⟨⟨hp _ _ rfl, hp _ _ rfl⟩, fun j => hp _ _ (by simp [pM7])⟩, m7⟩
  unfold MB at q1 ⊢; rw [F 12 rfl, F 34 rfl, F 22 rfl, F 35 rfl, F 36 rfl, F 37 rfl]; exact q1
theorem s5_congr {d e : Int → Int} {k : Nat} (hl : ∀ j : Int, 0 ≤ j → j < k → d j = e j) : s5 d k = s5 e k :=
  Int.le_antisymm (s5_le (fun j a b => Int.le_of_eq (hl j a b))) (s5_le (fun j a b => Int.le_of_eq (hl j a b).symm))
/-- the wheels of the class are others -/
theorem ic_dug (S : ST i h s n B dd M t T np pl L tr du v v) (f : Fr P h h1) (hp : ∀ a j, ¬ (a = 108 ∨ (a = 107 ∧ j = 10) ∨ (a = 1 ∧ j = 18)) → P a j = false) (h18 : zF h1 1 18 = 0) (z10 : zF h1 107 10 = 0) (hd : ∀ k, 0 ≤ k → k < 6 → zA h1 108 k = du' k) : KS h1 s n ∧ IC (i + 1) h1 B dd M t T np pl L tr du' ∧ CV h1 (upv v 3 0) ∧ IM h1 B dd M t T np pl L tr du ∧ MV h1 v := by
  obtain ⟨rb, va, zv, va2, zv2, a0, stp, stp2, c1, c2, c3, c4, c5, c6, c7, c8⟩ := id S.2.2.1
  have p := S.2.1
  have F : ∀ a j, ¬ (a = 108 ∨ (a = 107 ∧ j = 10) ∨ (a = 1 ∧ j = 18)) → zF h1 a j = zF h a j := fun a j q => f.F (hp a j q)
  have cv := S.2.2.2.1
  refine ⟨S.1.fr f (fun a j q => hp a j (by omega)), (S.2.2.1.re f S.1.1 (fun a j q => hp a j (by simp [pRe, pFree] at q; omega)) p.2.2.2.2.1.1.2 (c5.ch f.ch S.1.1 ⟨hp _ _ (by omega), fun j => hp _ _ (by omega)⟩) (c6.ch f.ch S.1.1 ⟨hp _ _ (by omega), fun j => hp _ _ (by omega)⟩) (fun a0 _ cd => ⟨cd, hd, Or.inl z10⟩)).up, ?_, S.2.2.2.2.1.cls f.ch S.1.1 (fun a j q r => hp a j (by omega)), S.2.2.2.2.2.cls f.ch S.1.1 (fun a j q r => hp a j (by omega))⟩
  exact ⟨(F 106 2 (by omega)).trans cv.1, (F 106 3 (by omega)).trans cv.2.1, (F 106 4 (by omega)).trans cv.2.2.1, h18, (F 1 19 (by omega)).trans cv.2.2.2.2.1, fun q => absurd (show (0 : Int) = 4 from q) (by decide)⟩
theorem IP.dug (p : IP B dd M t T np pl L du) (hd : ∀ k, 0 ≤ k → k < 6 → 0 ≤ du' k ∧ du' k ≤ 4 ∧ (B.w ≤ k → du' k = 0)) : IP B dd M t T np pl L du' := ⟨p.1, p.2.1, p.2.2.1, p.2.2.2.1, p.2.2.2.2.1, p.2.2.2.2.2.1, hd⟩
theorem o_dig (hx : R32 x) (hy : R32 y) (I : INV i h s n) (kk : ∀ r h1, Mid i 40 256 [.ref 118, .int (iI x), .int (iI y)] s n r h1 → K r h1) : XW 40 148 0 [.ref 1, .int (iI x), .int (iI y)] [] h (KI K) := by
  obtain ⟨B, dd, M, t, T, np, pl, L, tr, du, v, S⟩ := I
  have S : ST i h s n B dd M t T np pl L tr du v v := S
  obtain ⟨rb, va, zv, va2, zv2, a0, stp, stp2, c1, c2, c3, c4, c5, c6, c7, c8⟩ := id S.2.2.1
  have p := S.2.1
  have g := p.g
  have ew : zF h rb 10 = B.w := c1.2.1.1.2.2.1
  have cond : ∀ {h1}, IM h1 B dd M t T np pl L tr du → (zF h1 118 24 = B.w ∧ ((zF h1 118 12 = 1 ∧ 0 ≤ x ∧ x < zF h1 118 24) ↔ (0 ≤ x ∧ x < B.w))) := fun {h1} m => by
    have e := m.1.2.1.1.2.2.1
    refine ⟨e, ⟨fun a => by rw [e] at a; exact a.2, fun a => ?_⟩⟩
    rcases m.1.2.2.2.2 with q | q
    · rw [e]; exact ⟨q.1, a⟩
    · have := q.2.2.2.1; omega
  refine c_dig hx hy S.1.1 c1.1 (by omega) (fun q => kk _ _ ?_) (fun q1 q2 => kk _ _ ?_) (fun q1 q2 => kk _ _ ?_)
  · have S1 := S.c18 (r := 1) (by decide)
    have cd := cond S1.2.2.2.2.1
    rw [ew] at q
    exact ⟨S1.1, fun K2 k2 => m_dig hx hy S1.1.1 S1.2.2.2.2.1.1.1 (by omega) (fun _ => k2 _ (S1.ref (by decide))) (fun w => absurd (cd.2.1 w) q) (fun w => absurd (cd.2.1 w) q)⟩
  · have S1 := S.c18 (r := 2) (by decide)
    have cd := cond S1.2.2.2.2.1
    rw [ew] at q1
    exact ⟨S1.1, fun K2 k2 => m_dig hx hy S1.1.1 S1.2.2.2.2.1.1.1 (by omega) (fun w => absurd (cd.2.2 q1) w) (fun _ _ => k2 _ (S1.ref (by decide))) (fun _ w => absurd w q2)⟩
  · rw [ew] at q1
    have f : Fr (pO (pA [108]) (pF [(107, 10), (1, 18)])) h (sI (sI (sI h 108 x.toNat (iI y)) 107 10 (iI 0)) 1 18 (iI 0)) := (((Fr.refl _ _).sI 108 _ _ (by simp [pO, pA])).sI 107 10 _ (by simp [pO, pA, pF])).sI 1 18 _ (by simp [pO, pA, pF])
    have hd : ∀ k, 0 ≤ k → k < 6 → zA (sI (sI (sI h 108 x.toNat (iI y)) 107 10 (iI 0)) 1 18 (iI 0)) 108 k = (fun k => if k = x then y else du k) k := fun k a b => by
      have f2 : Fr (pF [(107, 10), (1, 18)]) (sI h 108 x.toNat (iI y)) (sI (sI (sI h 108 x.toNat (iI y)) 107 10 (iI 0)) 1 18 (iI 0)) := ((Fr.refl _ _).sI 107 10 _ (by simp [pF])).sI 1 18 _ (by simp [pF])
      rw [f2.A (by simp [pF])]
      show (gI (sI h 108 x.toNat (iI y)) 108 k.toNat).toInt = if k = x then y else du k
      rw [sI_here]
      by_cases w : k = x
      · rw [if_pos (by omega), if_pos w, iI_t (by omega)]
      · rw [if_neg (by omega), if_neg w]; exact c7.2.1 k a b
    obtain ⟨k1, ic, cv, m1, mv1⟩ := ic_dug S f (fun a j q => by simp [pO, pA, pF]; omega) (s18_v _ (by decide)) (by rw [(s18_fr _ 0).F (by simp [pF])]; exact gF (by decide) (by rw [sI_here, if_pos rfl])) hd
    generalize sI (sI (sI h 108 x.toNat (iI y)) 107 10 (iI 0)) 1 18 (iI 0) = g1 at *
    have cd := cond m1
    refine ⟨k1, fun K2 k2 => m_dig hx hy k1.1 m1.1.1 (by omega) (fun w => absurd (cd.2.2 q1) w) (fun _ w => absurd q2 w) (fun _ _ => k2 _ ?_)⟩
    have fm : Fr (pO (pF [(118, 0), (118, 39)]) (pA [139])) g1 (sI (hG g1) 139 x.toNat (iI y)) := ((hG_fr g1).mono (fun a j q => by simp only [pO, Bool.or_eq_false_iff] at q; exact q.1)).sI 139 _ _ (by simp [pO, pA, pF])
    have f1 : Fr (pA [139]) (hG g1) (sI (hG g1) 139 x.toNat (iI y)) := (Fr.refl _ _).sI 139 _ _ (by simp [pA])
    have m7 := m1.2.2.2.2.2
    refine inv_mk k1 (p.dug (fun k a b => ?_)) ic cv fm (fun a j q => by simp [pO, pA, pF]; omega) (m1.re7 fm (fun a j q => by simp [pM7] at q; simp [pO, pA, pF]; omega) ⟨by rw [fm.F (by simp [pO, pA, pF])]; exact m7.1, fun q z a b => ?_, fun k a b => ?_⟩) (mv1.g.fr f1 (by simp [pA]))
    · have := p.2.2.2.2.2.2 k a b
      split <;> omega
    · rw [fm.F (by simp [pO, pA, pF])] at q; rw [fm.A (by simp [pO, pA, pF])]; exact m7.2.1 q z a b
    · by_cases w : k = x
      · have : zA (sI (hG g1) 139 x.toNat (iI y)) 139 k = y := by unfold zA; rw [sI_here, if_pos (by omega), iI_t (by omega)]
        rw [this]; dsimp only; rw [if_pos w]
      · have : zA (sI (hG g1) 139 x.toNat (iI y)) 139 k = zA (hG g1) 139 k := by unfold zA; rw [sI_here, if_neg (by omega)]
        rw [this, hG_140]; dsimp only; rw [if_neg w]; exact m7.2.2 k a b
theorem bk12 (m : IM h B dd M t T np pl L tr du) : ((zF h 118 12 = 1 ∧ B.ok) ∨ zF h 118 12 = 0) ∧ (B.ok → zF h 118 12 = 1) ∧ (B.none → zF h 118 12 = 0) := by
  rcases m.1.2.2.2.2 with q | q
  · exact ⟨Or.inl q, fun _ => q.1, fun z => by have a := q.2.1; have b := z.2.2.1; omega⟩
  · exact ⟨Or.inr q.1, fun z => by have a := z.1; have b := q.2.2.2.1; omega, fun _ => q.1⟩
theorem o_make (hx : R32 x) (hy : R32 y) (I : INV i h s n) (kk : ∀ r h1, Mid i 40 263 [.ref 118, .int (iI x), .int (iI y), .null, .null] s n r h1 → K r h1) : XW 40 151 0 [.ref 1, .int (iI x), .int (iI y)] [] h (KI K) := by
  obtain ⟨B, dd, M, t, T, np, pl, L, tr, du, v, S⟩ := I
  have S : ST i h s n B dd M t T np pl L tr du v v := S
  obtain ⟨rb, va, zv, va2, zv2, a0, stp, stp2, c1, c2, c3, c4, c5, c6, c7, c8⟩ := id S.2.2.1
  have p := S.2.1
  have g := p.g
  have du4 := p.2.2.2.2.2.2
  have hv : ∀ k : Int, 0 ≤ k → k < B.w → 0 ≤ zA h 108 k ∧ zA h 108 k ≤ 4 := fun k a b => by
    rw [c7.2.1 k a (by omega)]; have := du4 k a (by omega); omega
  have hv2 : ∀ {h1}, IM h1 B dd M t T np pl L tr du → ∀ k : Int, 0 ≤ k → k < B.w → 0 ≤ zA h1 139 k ∧ zA h1 139 k ≤ 4 := fun {h1} m k a b => by
    rw [m.2.2.2.2.2.2.2 k a (by omega)]; have := du4 k a (by omega); omega
  refine c_make hx hy S.1.1 c1.1 c1.2.1 p.1 hv (fun q => kk _ _ ?_) (fun q h' f1 w1 w2 z10 => kk _ _ ?_)
  · have S1 := S.c18 (r := 1) (by decide)
    have m := S1.2.2.2.2.1
    exact ⟨S1.1, fun K2 k2 => m_make hx hy S1.1.1 m.1.2.1 (bk12 m).1 (hv2 m) (fun _ => k2 _ (S1.ref (by decide))) (fun _ w w2 => absurd ⟨w, w2⟩ q)⟩
  · have bo : B.ok := by
      rcases p.1 with z | z
      · exact z
      · have := z.2.2.1; omega
    have f : Fr (pO (pA [108]) (pF [(107, 10), (1, 18)])) h (sI h' 1 18 (iI 0)) := (f1.mono (fun a j q => by simp only [pO, Bool.or_eq_false_iff] at q ⊢; refine ⟨q.1, ?_⟩; have := q.2; simp [pF] at this ⊢; omega)).trans ((s18_fr h' 0).mono (fun a j q => by simp only [pO, Bool.or_eq_false_iff] at q; have := q.2; simp [pF] at this ⊢; omega))
    have e9 : ∀ k, zA (sI h' 1 18 (iI 0)) 108 k = zA h' 108 k := fun k => (s18_fr h' 0).A (by simp [pF])
    have hd : ∀ k, 0 ≤ k → k < 6 → zA h' 108 k = (if k < B.w then mvd (B.ea x) (B.on x) du y k else du k) := fun k a b => by
      by_cases w : k < B.w
      · rw [if_pos w, w1 k a w]; unfold mvd; rw [c7.2.1 k a b]
      · rw [if_neg w, w2 k (by omega)]; exact c7.2.1 k a b
    obtain ⟨k1, ic, cv, m1, mv1⟩ := ic_dug (du' := fun k => if k < B.w then mvd (B.ea x) (B.on x) du y k else du k) S f (fun a j q => by simp [pO, pA, pF]; omega) (s18_v _ (by decide)) (by rw [(s18_fr _ 0).F (by simp [pF])]; exact z10) (fun k a b => by rw [e9]; exact hd k a b)
    generalize sI h' 1 18 (iI 0) = g1 at *
    refine ⟨k1, fun K2 k2 => m_make hx hy k1.1 m1.1.2.1 (bk12 m1).1 (hv2 m1) (fun w => absurd ⟨(bk12 m1).2.1 bo, q⟩ w) (fun _ _ _ h2 f2 u1 u2 => ?_)⟩
    have m7 := m1.2.2.2.2.2
    have d2 : ∀ k, 0 ≤ k → k < 6 → zA h2 139 k = (if k < B.w then mvd (B.ea x) (B.on x) du y k else du k) := fun k a b => by
      by_cases w : k < B.w
      · rw [if_pos w, u1 k a w]; unfold mvd; rw [m7.2.2 k a b]
      · rw [if_neg w, u2 k (by omega)]; exact m7.2.2 k a b
    have fm : Fr (pO (pF [(118, 0), (118, 39)]) (pA [139])) g1 h2 := ((hG_fr g1).mono (fun a j q => by simp only [pO, Bool.or_eq_false_iff] at q; exact q.1)).trans (f2.mono (fun a j q => by simp only [pO, Bool.or_eq_false_iff] at q; exact q.2))
    have em : maxTo (zA h2 139) B.w.toNat = maxTo (zA h' 108) 6 := (maxTo_more (by omega) (fun k a b => by rw [hd k a (by omega), d2 k a (by omega)]) (fun k a b => by rw [hd k (by omega) (by omega), if_neg (by omega)]; exact (du4 k (by omega) (by omega)).2.2 (by omega))).symm
    rw [em]
    refine k2 _ (inv_mk k1 (p.dug (fun k a b => ?_)) ic cv fm (fun a j q => by simp [pO, pA, pF]; omega) (m1.re7 fm (fun a j q => by simp [pM7] at q; simp [pO, pA, pF]; omega) ⟨by rw [fm.F (by simp [pO, pA, pF])]; exact m7.1, fun q z a b => ?_, d2⟩) (mv1.g.fr f2 (by simp [pA])))
    · have := du4 k a b
      have := mvd_in (B.ea x) (B.on x) du y k
      split <;> omega
    · rw [fm.F (by simp [pO, pA, pF])] at q; rw [fm.A (by simp [pO, pA, pF])]; exact m7.2.1 q z a b
/-- the class's survey was used -/
theorem IC.dg (hL : Lay h) (c1 : C1 h rb B dd M) (c2 : C2 i h B dd M) (c3 : C3 i h va zv va2 zv2 a0 stp stp2 B dd M) (c4 : C4 h np pl) (c5 : C5 h t T) (c6 : C6 h L tr) (c7 : C7 h a0 B du) (c8 : C8 i h zv zv2 a0) (h8 : np ≤ 8) (c : Ch P qV h h') (hp : ∀ a j, PPl a1 a j = false → P a j = false) (gw : Gw h h' a0 a1) (z4 : zF h' 107 4 = 1) (sv : SvD B (cV B) h' a1) (h10 : zF h' 107 10 = 0 ∨ zF h' 107 10 = 1 ∧ zF h' 107 4 = 1 ∧ Pth h' B a1 (s5 du B.w.toNat)) : IC (i + 1) h' B dd M t T np pl L tr du := by
  have w1 := c3.1.vb1
  have w2 := c3.2.1.vb2
  have l1 := c3.1.1.1.2.2.2.1
  have l2 := c3.2.1.1.1.2.2.2.1
  have nn := hL.2.2.1
  have ap := c3.2.2.2
  have lim := c7.1.lim
  have b1 := sv.1.2.2.2
  have hp' : ∀ a j, ¬ (a = 109 ∨ a = 110 ∨ (a1 ≤ a ∧ a ≤ a1 + 4)) → ¬ (a = 107 ∧ (j = 4 ∨ j = 5 ∨ j = 10 ∨ j = 12)) → P a j = false := fun a j q r => hp a j (by
    simp only [pO, Bool.or_eq_false_iff]
    exact ⟨by simp [pA]; omega, by simp [pF]; omega⟩)
  have hq : ∀ a j, ¬ a = 107 → qV a j = false := fun a j q => by simp [pF]; omega
  have g1 : a1 = a0 ∨ (a0 = 0 ∧ a1 = gN h) := by
    rcases gw with z | z
    · exact Or.inl z.1
    · exact Or.inr ⟨z.1, z.2.1⟩
  have o1 : ¬ (a1 ≤ va ∧ va ≤ a1 + 4) ∧ ¬ (a1 ≤ va2 ∧ va2 ≤ a1 + 4) := by omega
  refine ⟨rb, va, zv, va2, zv2, a1, stp, stp2, ?_, ?_, ⟨?_, ?_, ?_, ap.1, Or.inr o1⟩, ?_, ?_, ?_, ⟨Or.inr ⟨sv.1, Or.inr ⟨z4, sv⟩⟩, fun k a b => ?_, h10⟩, ?_⟩
  · exact c1.ch c hL ⟨hq _ _ (by omega), hq _ _ (by omega), hq _ _ (by omega), rfl⟩ ⟨fun a j p q => hp' a j (by omega) (by omega), fun a j p q r => hp' a j (by omega) (by omega), ⟨hp' _ _ (by omega) (by omega), hp' _ _ (by omega) (by omega)⟩, fun j => ⟨hp' _ _ (by omega) (by omega), hp' _ _ (by omega) (by omega)⟩⟩
  · have x := c2.ch c hL ⟨fun a j p q r => hp' a j (by omega) (by omega), hp' _ _ (by omega) (by omega)⟩ c1.2.2.1
    exact ⟨by have := x.1; omega, x.2⟩
  · exact c3.1.ch c hL (Or.inl rfl) (hq _ _ (by omega)) (fun j => ⟨hp' _ _ (by omega) (by omega), hp' _ _ (by omega) (by omega)⟩) ⟨hp' _ _ (by omega) (by omega), hp' _ _ (by omega) (by omega), hp' _ _ (by omega) (by omega), hp' _ _ (by omega) (by omega), hp' _ _ (by omega) (by omega)⟩
  · exact c3.2.1.ch c hL (Or.inr rfl) (hq _ _ (by omega)) (fun j => ⟨hp' _ _ (by omega) (by omega), hp' _ _ (by omega) (by omega)⟩) ⟨hp' _ _ (by omega) (by omega), hp' _ _ (by omega) (by omega), hp' _ _ (by omega) (by omega), hp' _ _ (by omega) (by omega), hp' _ _ (by omega) (by omega)⟩
  · have := c3.2.2.1; omega
  · exact c4.ch c hL ⟨hp' _ _ (by omega) (by omega), fun a j p q => hp' a j (by omega) (by omega)⟩ h8
  · exact c5.ch c hL ⟨hp' _ _ (by omega) (by omega), fun j => hp' _ _ (by omega) (by omega)⟩
  · exact c6.ch c hL ⟨hp' _ _ (by omega) (by omega), fun j => hp' _ _ (by omega) (by omega)⟩
  · have : zA h' 108 k = zA h 108 k := by unfold zA; rw [(c.1 108 _ (by omega) (hp' _ _ (by omega) (by omega))).1]
    rw [this]; exact c7.2.1 k a b
  · unfold C8 at c8 ⊢
    generalize potv zv = p1 at *
    generalize potv zv2 = p2 at *
    rcases gw with z | z
    · rw [z.1]; split at c8 <;> split <;> omega
    · rw [if_pos z.1] at c8; rw [if_neg (by omega)]; omega
end INV9
