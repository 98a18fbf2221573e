/-! between two calls: the small steps -/
def ST (i : Nat) (h : XH) (s : Nat → Int32) (n : Nat) (B : XB) (dd : Int) (M : XM) (t : Int) (T : Int → Int) (np : Int) (pl : Int → XL) (L : Int) (tr du : Int → Int) (v w : Nat → Int) : Prop := KS h s n ∧ IP B dd M t T np pl L du ∧ IC i h B dd M t T np pl L tr du ∧ CV h v ∧ IM h B dd M t T np pl L tr du ∧ MV h w
def upv (v : Nat → Int) (k : Nat) (x : Int) : Nat → Int := fun j => if j = k then x else v j
def pFr1 : Nat → Nat → Bool := fun a j => (a == 1 && j == 18) || (a == 91 && (decide (6 ≤ j) && decide (j ≤ 9)))
def pFr2 : Nat → Nat → Bool := fun a j => a == 118 && (j == 0 || j == 39)
section INV3
variable {i n rb : Nat} {h h1 h2 h' : XH} {P Q : Nat → Nat → Bool} {s : Nat → Int32} {B : XB} {dd : Int} {M : XM} {t np L r x y : Int} {T tr du : Int → Int} {pl : Int → XL} {v w : Nat → Int} {K : Int32 → XH → Prop}
theorem IP.no (p : IP B dd M t T np pl L du) (q : B.none) : ¬ B.ok := fun o => by
  have a := o.1
  have b := q.2.2.1
  omega
theorem IP.map (p : IP B dd M t T np pl L du) (q : 0 < M.n) : B.ok ∧ M.ok B.g ∧ 0 ≤ dd ∧ dd < B.w := by
  rcases p.2.2.1 with z | z
  · exact ⟨z.2.1, z.2.2, p.2.1.1, p.2.1.2.1 z.2.1⟩
  · have : M.n = 0 := by show M.wd * M.hg = 0; rw [z.1, Int.zero_mul]
    omega
theorem IP.nomap (p : IP B dd M t T np pl L du) (q : ¬ 0 < M.n) : M.n = 0 ∧ M.wd = 0 ∧ M.hg = 0 ∧ M.nd = 0 ∧ np = 0 := by
  rcases p.2.2.1 with z | z
  · exact absurd z.1 q
  · exact ⟨by show M.wd * M.hg = 0; rw [z.1, Int.zero_mul], z⟩
theorem IP.n100 (p : IP B dd M t T np pl L du) : 0 ≤ M.n ∧ M.n ≤ 100 ∧ 0 ≤ M.nd ∧ M.nd ≤ 5 := by
  by_cases q : 0 < M.n
  · have a := p.map q
    have b := M.n_in a.2.1
    have c := a.2.1.1
    omega
  · have := p.nomap q; omega
theorem IP.g (p : IP B dd M t T np pl L du) : 0 ≤ B.g ∧ B.g ≤ 8 ∧ 0 ≤ B.w ∧ B.w ≤ 6 := by
  rcases p.1 with z | z
  · have := z.1; omega
  · have := z; unfold XB.none at this; omega
theorem C1.cx (c : C1 h rb B dd M) (p : IP B dd M t T np pl L du) : CX h rb B dd M := ⟨c.1, c.2.1, c.2.2.1, fun q => by
  have a := p.map q
  exact ⟨a.1, a.2.1, a.2.2, c.2.2.2.2 a.1⟩⟩
theorem IM.mx (m : IM h B dd M t T np pl L tr du) (p : IP B dd M t T np pl L du) : MX h B dd M := ⟨m.1.1, m.1.2.1, m.1.2.2.1, m.1.2.2.2.1, fun q => by
  have a := p.map q
  refine ⟨?_, a.1, a.2.1, a.2.2⟩
  rcases m.1.2.2.2.2 with z | z
  · exact z.1
  · exact absurd a.1 (p.no z.2)⟩
theorem IM.small (f : Fr P h h') (hp : ∀ a j, pFr2 a j = false → P a j = false) (m : IM h B dd M t T np pl L tr du) : IM h' B dd M t T np pl L tr du :=
  m.fr f (fun a j q => hp a j (by simp [pFm] at q; simp [pFr2]; omega)) (m.2.1.fr f (fun j => ⟨hp _ _ (by simp [pFr2]), hp _ _ (by simp [pFr2]), hp _ _ (by simp [pFr2]), hp _ _ (by simp [pFr2]), hp _ _ (by simp [pFr2])⟩) ⟨hp _ _ rfl, hp _ _ rfl, hp _ _ rfl⟩) (m.2.2.2.2.1.fr f ⟨⟨hp _ _ rfl, hp _ _ rfl⟩, fun j => hp _ _ (by simp [pFr2])⟩)
/-- the class has answered, and looked only -/
theorem ST.cls (S : ST i h s n B dd M t T np pl L tr du v w) (f : Fr P h h1) (hp : ∀ a j, pFr1 a j = false → P a j = false) (h18 : zF h1 1 18 = r) (hr : ¬ r = 4) : ST (i + 1) h1 s n B dd M t T np pl L tr du (upv v 3 r) w := by
  obtain ⟨k, p, c, cv, m, mv⟩ := S
  have F : ∀ a j, pFr1 a j = false → zF h1 a j = zF h a j := fun a j q => f.F (hp a j q)
  refine ⟨k.fr f (fun a j q => hp a j (by simp [pFr1]; omega)), p, (c.fr f k.1 (fun a j q => hp a j (by simp [pFree] at q; simp [pFr1]; omega)) p.2.2.2.2.1.1.2).up, ?_, m.cls f.ch k.1 (fun a j q _ => hp a j (by simp [pFr1]; omega)), mv.cls f.ch k.1 (fun a j q _ => hp a j (by simp [pFr1]; omega))⟩
  exact ⟨(F 106 2 rfl).trans cv.1, (F 106 3 rfl).trans cv.2.1, (F 106 4 rfl).trans cv.2.2.1, h18, (F 1 19 rfl).trans cv.2.2.2.2.1, fun q => absurd q hr⟩
/-- the Model has answered -/
theorem ST.mdl (S : ST i h1 s n B dd M t T np pl L tr du v w) (f : Fr P h1 h2) (hp : ∀ a j, a < 118 ∨ 154 ≤ a → P a j = false) (m : IM h2 B dd M t T np pl L tr du) (mv : MV h2 v) : INV i h2 s n := by
  obtain ⟨k, p, c, cv, _, _⟩ := S
  exact ⟨B, dd, M, t, T, np, pl, L, tr, du, v, k.fr f (fun a j q => hp a j (by omega)), p, c.fr f k.1 (fun a j q => hp a j (by simp [pFree] at q; omega)) p.2.2.2.2.1.1.2, cv.fr f (fun a j q => hp a j (by omega)), m, mv⟩
theorem hG_s (h : XH) (r : Int) : Fr (pF [(118, 0), (118, 39)]) h (sI (hG h) 118 39 (iI r)) := (hG_fr h).sI 118 39 _ rfl
theorem ST.ref (S : ST i h1 s n B dd M t T np pl L tr du (upv v 3 r) v) (hr : R32 r ∧ ¬ r = 4) : INV i (sI (hG h1) 118 39 (iI r)) s n := by
  have f := hG_s h1 r
  have mv := S.2.2.2.2.2
  refine S.mdl f (fun a j q => by simp [pF]; omega) (S.2.2.2.2.1.small f (fun a j q => by simp [pFr2] at q; simp [pF]; omega)) ?_
  exact ⟨(f.F (by simp [pF])).trans mv.1, (f.F (by simp [pF])).trans mv.2.1, (f.F (by simp [pF])).trans mv.2.2.1, (show zF (sI (hG h1) 118 39 (iI r)) 118 39 = r from gF hr.1 (by rw [sI_here, if_pos rfl])), (f.F (by simp [pF])).trans mv.2.2.2.2.1, fun q => absurd q hr.2⟩
theorem hG_39 (h : XH) : zF (hG h) 118 39 = 0 := gF (by decide) (by unfold hG; rw [sI_here, if_pos rfl])
theorem ST.ok (S : ST i h1 s n B dd M t T np pl L tr du (upv v 3 0) v) : INV i (hG h1) s n := by
  have f := hG_fr h1
  have mv := S.2.2.2.2.2
  refine S.mdl f (fun a j q => by simp [pF]; omega) (S.2.2.2.2.1.small f (fun a j q => by simp [pFr2] at q; simp [pF]; omega)) ?_
  exact ⟨(f.F (by simp [pF])).trans mv.1, (f.F (by simp [pF])).trans mv.2.1, (f.F (by simp [pF])).trans mv.2.2.1, hG_39 h1, (f.F (by simp [pF])).trans mv.2.2.2.2.1, fun q => absurd (show (0 : Int) = 4 from q) (by decide)⟩
/-- nothing of the class has changed -/
theorem ST.up (S : ST i h s n B dd M t T np pl L tr du v v) : ST (i + 1) h s n B dd M t T np pl L tr du v v := ⟨S.1, S.2.1, S.2.2.1.up, S.2.2.2⟩
theorem ST.t0 (S : ST i h1 s n B dd M t T np pl L tr du v v) : INV i (sI h1 118 0 (iI 0)) s n := by
  have f : Fr (pF [(118, 0)]) h1 (sI h1 118 0 (iI 0)) := (Fr.refl _ _).sI 118 0 _ (by simp [pF])
  have mv := S.2.2.2.2.2
  refine S.mdl f (fun a j q => by simp [pF]; omega) (S.2.2.2.2.1.small f (fun a j q => by simp [pFr2] at q; simp [pF]; omega)) ?_
  unfold MV at mv ⊢
  rw [f.F (by simp [pF]), f.F (by simp [pF]), f.F (by simp [pF]), f.F (by simp [pF]), f.F (by simp [pF]), f.F (by simp [pF])]; exact mv
theorem s18_fr (h : XH) (r : Int) : Fr (pF [(1, 18)]) h (sI h 1 18 (iI r)) := (Fr.refl _ _).sI 1 18 _ (by simp [pF])
theorem s18_v (h : XH) (hr : R32 r) : zF (sI h 1 18 (iI r)) 1 18 = r := gF hr (by rw [sI_here, if_pos rfl])
theorem ST.c18 (S : ST i h s n B dd M t T np pl L tr du v w) (hr : R32 r ∧ ¬ r = 4) : ST (i + 1) (sI h 1 18 (iI r)) s n B dd M t T np pl L tr du (upv v 3 r) w := S.cls (s18_fr h r) (fun a j q => by simp [pFr1] at q; simp [pF]; omega) (s18_v h hr.1) hr.2
/-! the calls that tell what is kept -/
theorem o_fault (I : INV i h s n) (kk : ∀ r h1, Mid i 40 188 [.ref 118] s n r h1 → K r h1) : XW 40 120 0 [.ref 1] [] h (KI K) := by
  obtain ⟨B, dd, M, t, T, np, pl, L, tr, du, v, S⟩ := I
  have S : ST i h s n B dd M t T np pl L tr du v v := S
  refine c_fault S.1.1 (kk _ _ ⟨S.1, fun K2 k2 => m_fault S.1.1 ?_⟩)
  rw [show iI (zF h 118 9) = gI h 1 19 by rw [gI_F, S.2.2.2.1.2.2.2.2.1, S.2.2.2.2.2.2.2.2.2.1]]
  exact k2 _ S.up.t0
theorem o_trouble (I : INV i h s n) (kk : ∀ r h1, Mid i 40 265 [.ref 118] s n r h1 → K r h1) : XW 40 153 0 [.ref 1] [] h (KI K) := by
  obtain ⟨B, dd, M, t, T, np, pl, L, tr, du, v, S⟩ := I
  have S : ST i h s n B dd M t T np pl L tr du v v := S
  refine c_trouble S.1.1 (kk _ _ ⟨S.1, fun K2 k2 => m_trouble S.1.1 ?_⟩)
  rw [show iI (zF h 118 39) = gI h 1 18 by rw [gI_F, S.2.2.2.1.2.2.2.1, S.2.2.2.2.2.2.2.2.1]]
  exact k2 _ S.up.t0
theorem o_where (I : INV i h s n) (kk : ∀ r h1, Mid i 40 189 [.ref 118] s n r h1 → K r h1) : XW 40 121 0 [.ref 1] [] h (KI K) := by
  obtain ⟨B, dd, M, t, T, np, pl, L, tr, du, v, S⟩ := I
  have S : ST i h s n B dd M t T np pl L tr du v v := S
  have a := S.2.2.2.1.2.2.2.1
  have b := S.2.2.2.2.2.2.2.2.1
  refine c_where S.1.1 (kk _ _ ⟨S.1, fun K2 k2 => m_where S.1.1 (fun q => ?_) (fun q => ?_)⟩)
  · have e : zF h 118 10 = zF h 3 8 := by rw [S.2.2.2.1.2.2.2.2.2 (by omega), S.2.2.2.2.2.2.2.2.2.2 (by omega)]
    have := k2 _ S.up.t0
    rw [if_pos (by omega), gI_F] at this
    rw [e]; exact this
  · have := k2 _ S.up.t0
    rw [if_neg (by omega)] at this
    exact this
theorem o_first (hx : R32 x) (I : INV i h s n) (kk : ∀ r h1, Mid i 40 254 [.ref 118, .int (iI x)] s n r h1 → K r h1) : XW 40 146 0 [.ref 1, .int (iI x)] [] h (KI K) := by
  obtain ⟨B, dd, M, t, T, np, pl, L, tr, du, v, S⟩ := I
  have S : ST i h s n B dd M t T np pl L tr du v v := S
  have a := S.2.2.2.1
  have b := S.2.2.2.2.2
  refine c_first hx S.1.1 (fun q => kk _ _ ⟨S.1, fun K2 k2 => m_first hx S.1.1 (fun p => ?_) (fun p => absurd p (by omega)) (fun p => absurd p (by omega)) (fun p => absurd p (by omega))⟩) (fun q => kk _ _ ⟨S.1, fun K2 k2 => m_first hx S.1.1 (fun p => absurd p (by omega)) (fun p => ?_) (fun p => absurd p (by omega)) (fun p => absurd p (by omega))⟩) (fun q => kk _ _ ⟨S.1, fun K2 k2 => m_first hx S.1.1 (fun p => absurd p (by omega)) (fun p => absurd p (by omega)) (fun p => ?_) (fun p => absurd p (by omega))⟩) (fun q => kk _ _ ⟨S.1, fun K2 k2 => m_first hx S.1.1 (fun p => absurd p (by omega)) (fun p => absurd p (by omega)) (fun p => absurd p (by omega)) (fun p => ?_)⟩)
  · rw [b.1, ← a.1]; exact k2 _ S.up.t0
  · rw [b.2.1, ← a.2.1]; exact k2 _ S.up.t0
  · rw [b.2.2.1, ← a.2.2.1]; exact k2 _ S.up.t0
  · exact k2 _ S.up.t0
end INV3
