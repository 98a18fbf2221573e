/-! values of cells by states: the equations, one solution -/
/-- cells, doubts, goal, by mean; which doubt is seen from which cell; how many choices; their weights; the cell beside; what a step costs in a state -/
abbrev XP : Type := (Int × Int × Int × Bool) × (Int → Int → Bool) × (Int → Int) × (Int → Int → Int) × (Int → Int → Int) × (Int → Int → Int → Int)
def XP.n (P : XP) : Int := P.1.1
def XP.nd (P : XP) : Int := P.1.2.1
def XP.go (P : XP) : Int := P.1.2.2.1
def XP.bm (P : XP) : Bool := P.1.2.2.2
def XP.nr (P : XP) : Int → Int → Bool := P.2.1
def XP.mn (P : XP) : Int → Int := P.2.2.1
def XP.we (P : XP) : Int → Int → Int := P.2.2.2.1
def XP.nx (P : XP) : Int → Int → Int := P.2.2.2.2.1
def XP.tl (P : XP) : Int → Int → Int → Int := P.2.2.2.2.2
def XP.ok (P : XP) : Prop := (1 ≤ P.n ∧ P.n ≤ 100 ∧ 0 ≤ P.nd ∧ P.nd ≤ 5 ∧ 0 ≤ P.go ∧ P.go < P.n) ∧ (∀ e, 0 ≤ e → e < P.nd → 1 ≤ P.mn e ∧ P.mn e ≤ 3) ∧
  (∀ e k, 0 ≤ e → e < P.nd → 0 ≤ k → k < P.mn e → 1 ≤ P.we e k ∧ P.we e k ≤ 9) ∧
  (∀ s c w, 0 ≤ c → c < P.n → 0 ≤ w → w < 4 → 0 < P.tl s c w → P.tl s c w ≤ 40101 ∧ 0 ≤ P.nx c w ∧ P.nx c w < P.n) ∧
  (∀ s s' c w, 0 ≤ c → c < P.n → 0 ≤ w → w < 4 → (∀ e, 0 ≤ e → e < P.nd → P.nr e c = true → dg s e = dg s' e) → P.tl s c w = P.tl s' c w)
def St (P : XP) (s : Int) : Prop := (0 ≤ s ∧ s < 1024) ∧ ∀ e, 0 ≤ e → e < 5 → (e < P.nd → dg s e ≤ P.mn e) ∧ (P.nd ≤ e → dg s e = 0)
/-- the first doubt that is seen anew -/
def XP.nw (P : XP) (s c : Int) : Int := fst1 (fun e => decide (dg s e = 0) && P.nr e c) P.nd.toNat 0
def XP.tot (P : XP) (e : Int) : Int := sumTo (P.we e) (P.mn e).toNat
def XP.lft (P : XP) (s : Int) : Int := prodTo (fun e => if dg s e = 0 then P.tot e else 1) P.nd.toNat
def XP.sc (P : XP) (s : Int) : Int := if P.bm = true then P.lft s else 1
def tel (s e k : Int) : Int := s + (k + 1) * 4 ^ e.toNat
def ovK (bm : Bool) (w f : Int → Int) : Nat → Int
  | 0 => 0
  | k + 1 => if 1000000000000000 ≤ ovK bm w f k ∨ 1000000000000000 ≤ f k then 1000000000000000 else if bm = true then min 1000000000000000 (ovK bm w f k + w k * f k) else max (ovK bm w f k) (f k)
def XP.ov (P : XP) (V : Int → Int → Int) (s c e : Int) : Int := ovK P.bm (P.we e) (fun k => V (tel s e k) c) (P.mn e).toNat
def XP.bv (P : XP) (V : Int → Int → Int) (s c : Int) : Int := if c = P.go then 0 else P.ov V s c (P.nw s c)
def XP.bd (P : XP) (s c : Int) : Bool := decide (c = P.go) || !decide (P.nw s c = -1)
def XP.co (P : XP) (s c w : Int) : Int := P.sc s * P.tl s c w
def Sol (P : XP) (V : Int → Int → Int) : Prop := ∀ s, St P s → Fix P.n.toNat (P.bd s) (P.bv V s) P.nx (P.co s) (V s) ∧ ∀ c : Int, 0 ≤ c → c < P.n.toNat → 0 ≤ V s c ∧ V s c ≤ 1000000000000000
theorem fst1_spec {f : Int → Bool} : ∀ (m : Nat) (s : Int), (fst1 f m s = -1 ∧ ∀ i, s ≤ i → i < s + m → f i = false) ∨ (s ≤ fst1 f m s ∧ fst1 f m s < s + m ∧ f (fst1 f m s) = true ∧ ∀ i, s ≤ i → i < fst1 f m s → f i = false) := by
  intro m
  induction m with
  | zero => intro s; exact Or.inl ⟨rfl, fun i a b => by omega⟩
  | succ m ih =>
    intro s
    unfold fst1
    by_cases q : f s = true
    · rw [if_pos q]; exact Or.inr ⟨by omega, by omega, q, fun i a b => by omega⟩
    · rw [if_neg q]
      have q' : f s = false := by simpa using q
      rcases ih (s + 1) with ⟨e, h⟩ | ⟨a, b, c, h⟩
      · refine Or.inl ⟨e, fun i a b => ?_⟩
        by_cases z : i = s
        · subst z; exact q'
        · exact h i (by omega) (by omega)
      · refine Or.inr ⟨by omega, by omega, c, fun i a' b' => ?_⟩
        by_cases z : i = s
        · subst z; exact q'
        · exact h i (by omega) (by omega)
theorem tel_fact : ∀ s, s < 1024 → ∀ d, d < 5 → s / 4 ^ d % 4 = 0 → ∀ k, k < 3 → s + (k + 1) * 4 ^ d < 1024 ∧ ∀ e, e < 5 → (s + (k + 1) * 4 ^ d) / 4 ^ e % 4 = if e = d then k + 1 else s / 4 ^ e % 4 := by decide +kernel
theorem tel_nat (s e k : Nat) : tel s e k = ((s + (k + 1) * 4 ^ e : Nat) : Int) := by
  unfold tel
  rw [Int.toNat_natCast, Int.natCast_add, Int.natCast_mul, p4c]
  rfl
theorem tel_in {s e k : Int} (hs : 0 ≤ s ∧ s < 1024) (he : 0 ≤ e ∧ e < 5) (h0 : dg s e = 0) (hk : 0 ≤ k ∧ k < 3) : s < tel s e k ∧ tel s e k < 1024 ∧ ∀ i, 0 ≤ i → i < 5 → dg (tel s e k) i = if i = e then k + 1 else dg s i := by
  obtain ⟨a, rfl⟩ := nats hs.1
  obtain ⟨b, rfl⟩ := nats he.1
  obtain ⟨c, rfl⟩ := nats hk.1
  rw [dg_nat] at h0
  have f := tel_fact a (by omega) b (by omega) (by omega) c (by omega)
  rw [tel_nat]
  have p : 0 < 4 ^ b := Nat.pow_pos (by decide)
  have p2 : 0 < (c + 1) * 4 ^ b := Nat.mul_pos (by omega) p
  refine ⟨by omega, by omega, fun i i0 i1 => ?_⟩
  obtain ⟨j, rfl⟩ := nats i0
  rw [dg_nat, dg_nat, f.2 j (by omega)]
  by_cases q : j = b
  · rw [if_pos q, if_pos (by omega)]; omega
  · rw [if_neg q, if_neg (by omega)]
section VA
variable {P : XP} {V U : Int → Int → Int} {s c e : Int}
theorem XP.nw_spec (P : XP) (s c : Int) (h : 0 ≤ P.nd) : (P.nw s c = -1 ∧ ∀ i, 0 ≤ i → i < P.nd → P.nr i c = true → ¬ dg s i = 0) ∨ ((0 ≤ P.nw s c ∧ P.nw s c < P.nd) ∧ dg s (P.nw s c) = 0 ∧ P.nr (P.nw s c) c = true ∧ ∀ i, 0 ≤ i → i < P.nw s c → P.nr i c = true → ¬ dg s i = 0) := by
  unfold XP.nw
  rcases fst1_spec (f := fun e => decide (dg s e = 0) && P.nr e c) P.nd.toNat 0 with ⟨q, h2⟩ | ⟨q1, q2, q3, h2⟩
  · refine Or.inl ⟨q, fun i a b r z => ?_⟩
    have := h2 i a (by omega)
    rw [r] at this
    simp [z] at this
  · simp only [Bool.and_eq_true, decide_eq_true_eq] at q3
    refine Or.inr ⟨⟨q1, by omega⟩, q3.1, q3.2, fun i a b r z => ?_⟩
    have := h2 i a b
    rw [r] at this
    simp [z] at this
theorem St.tel {k : Int} (hP : P.ok) (hs : St P s) (he : 0 ≤ e ∧ e < P.nd) (h0 : dg s e = 0) (hk : 0 ≤ k ∧ k < P.mn e) : St P (tel s e k) := by
  have o := hP.1
  have m := hP.2.1 e he.1 he.2
  have t := tel_in (k := k) hs.1 (e := e) (by omega) h0 (by omega)
  have s1 := hs.1
  refine ⟨by omega, fun i a b => ?_⟩
  rw [t.2.2 i a b]
  by_cases q : i = e
  · rw [if_pos q]; subst q; exact ⟨fun _ => by omega, fun z => by omega⟩
  · rw [if_neg q]; exact hs.2 i a b
theorem ovK_in {bm : Bool} {w f : Int → Int} {n : Nat} (hf : ∀ k : Int, 0 ≤ k → k < n → 0 ≤ f k ∧ f k ≤ 1000000000000000) (hw : ∀ k : Int, 0 ≤ k → k < n → 0 ≤ w k) : 0 ≤ ovK bm w f n ∧ ovK bm w f n ≤ 1000000000000000 := by
  induction n with
  | zero => exact ⟨Int.le_refl _, by show (0 : Int) ≤ 1000000000000000; decide⟩
  | succ n ih =>
    have i := ih (fun k a b => hf k a (by omega)) (fun k a b => hw k a (by omega))
    have f1 := hf n (by omega) (by omega)
    have w1 := hw n (by omega) (by omega)
    have m := Int.mul_nonneg w1 f1.1
    unfold ovK
    split
    · omega
    · split
      · omega
      · omega
theorem ovK_congr {bm : Bool} {w f f' : Int → Int} {n : Nat} (hf : ∀ k : Int, 0 ≤ k → k < n → f k = f' k) : ovK bm w f n = ovK bm w f' n := by
  induction n with
  | zero => rfl
  | succ n ih =>
    unfold ovK
    rw [ih (fun k a b => hf k a (by omega)), hf n (by omega) (by omega)]
theorem tot_in (hP : P.ok) (he : 0 ≤ e ∧ e < P.nd) : 1 ≤ P.tot e ∧ P.tot e ≤ 27 := by
  have m := hP.2.1 e he.1 he.2
  unfold XP.tot
  have key : ∀ k : Nat, (k : Int) ≤ P.mn e → k ≤ sumTo (P.we e) k ∧ sumTo (P.we e) k ≤ 9 * k := by
    intro k
    induction k with
    | zero => intro _; exact ⟨Int.le_refl _, Int.le_refl _⟩
    | succ k ih =>
      intro h
      have i := ih (by omega)
      have w := hP.2.2.1 e k he.1 he.2 (by omega) (by omega)
      show ((k + 1 : Nat) : Int) ≤ sumTo (P.we e) k + P.we e k ∧ sumTo (P.we e) k + P.we e k ≤ 9 * ((k + 1 : Nat) : Int)
      omega
  have := key (P.mn e).toNat (by omega)
  omega
theorem prodTo_in {f : Int → Int} {n : Nat} (hf : ∀ i : Int, 0 ≤ i → i < n → 1 ≤ f i ∧ f i ≤ 27) : 1 ≤ prodTo f n ∧ prodTo f n ≤ 27 ^ n := by
  induction n with
  | zero => exact ⟨Int.le_refl _, Int.le_refl _⟩
  | succ n ih =>
    have i := ih (fun k a b => hf k a (by omega))
    have f1 := hf n (by omega) (by omega)
    show 1 ≤ prodTo f n * f n ∧ prodTo f n * f n ≤ 27 ^ (n + 1)
    have h1 := Int.mul_le_mul i.1 f1.1 (by decide) (by omega)
    have h2 := Int.mul_le_mul i.2 f1.2 (by omega) (by omega)
    rw [Int.pow_succ]
    omega
theorem lft_in (hP : P.ok) : 1 ≤ P.lft s ∧ P.lft s ≤ 14348907 := by
  have o := hP.1
  have h := prodTo_in (f := fun e => if dg s e = 0 then P.tot e else 1) (n := P.nd.toNat) (fun i a b => by
    have t := tot_in (e := i) hP (by omega)
    split <;> omega)
  have m : (27 : Int) ^ P.nd.toNat ≤ 14348907 := by
    have : P.nd.toNat = 0 ∨ P.nd.toNat = 1 ∨ P.nd.toNat = 2 ∨ P.nd.toNat = 3 ∨ P.nd.toNat = 4 ∨ P.nd.toNat = 5 := by omega
    rcases this with q | q | q | q | q | q <;> rw [q] <;> decide
  unfold XP.lft
  omega
theorem sc_in (hP : P.ok) : 1 ≤ P.sc s ∧ P.sc s ≤ 14348907 := by
  unfold XP.sc
  split
  · exact lft_in hP
  · decide
theorem co_pos {w : Int} (hP : P.ok) : 0 < P.co s c w ↔ 0 < P.tl s c w := by
  have h := (sc_in (s := s) hP).1
  unfold XP.co
  constructor
  · intro q
    apply Classical.byContradiction
    intro z
    have := Int.mul_le_mul_of_nonneg_left (a := P.tl s c w) (b := 0) (c := P.sc s) (by omega) (by omega)
    omega
  · intro q; exact Int.mul_pos (by omega) q
theorem XP.nice (hP : P.ok) (hs : St P s) (hV : ∀ s', s < s' → St P s' → ∀ c : Int, 0 ≤ c → c < P.n.toNat → 0 ≤ V s' c ∧ V s' c ≤ 1000000000000000) : Nice P.n.toNat (P.bd s) (P.bv V s) P.nx (P.co s) := by
  have o := hP.1
  refine ⟨fun c w a b w0 w1 w2 => ?_, fun c a b q => ?_⟩
  · have := (hP.2.2.2.1 s c w a (by omega) w0 w1 ((co_pos hP).mp w2)).2
    omega
  · unfold XP.bv
    split
    · decide
    · rename_i z
      rcases P.nw_spec s c (by omega) with ⟨e, _⟩ | ⟨e1, e2, e3, _⟩
      · simp [XP.bd, z, e] at q
      · have m := hP.2.1 _ e1.1 e1.2
        refine ovK_in (fun k k0 k1 => ?_) (fun k k0 k1 => ?_)
        · have t := (tel_in (k := k) hs.1 (e := P.nw s c) (by omega) e2 (by omega)).1
          exact hV _ t (hs.tel hP e1 e2 (by omega)) c a b
        · have := hP.2.2.1 _ k e1.1 e1.2 k0 (by omega); omega
theorem bv_congr (hP : P.ok) (hs : St P s) (hVU : ∀ s', s < s' → St P s' → ∀ c : Int, 0 ≤ c → c < P.n.toNat → V s' c = U s' c) (a : 0 ≤ c) (b : c < P.n.toNat) (q : P.bd s c = true) : P.bv V s c = P.bv U s c := by
  have o := hP.1
  unfold XP.bv
  split
  · rfl
  · rename_i z
    rcases P.nw_spec s c (by omega) with ⟨e, _⟩ | ⟨e1, e2, e3, _⟩
    · simp [XP.bd, z, e] at q
    · have m := hP.2.1 _ e1.1 e1.2
      refine ovK_congr (fun k k0 k1 => ?_)
      have t := (tel_in (k := k) hs.1 (e := P.nw s c) (by omega) e2 (by omega)).1
      exact hVU _ t (hs.tel hP e1 e2 (by omega)) c a b
theorem sol_ex (hP : P.ok) : ∃ V, Sol P V := by
  have key : ∀ m : Nat, ∃ V : Int → Int → Int, ∀ s, St P s → 1024 - m ≤ s → Fix P.n.toNat (P.bd s) (P.bv V s) P.nx (P.co s) (V s) ∧ ∀ c : Int, 0 ≤ c → c < P.n.toNat → 0 ≤ V s c ∧ V s c ≤ 1000000000000000 := by
    intro m
    induction m with
    | zero => exact ⟨fun _ _ => 0, fun s hs q => by have := hs.1; omega⟩
    | succ m ih =>
      obtain ⟨V, hV⟩ := ih
      by_cases h0 : St P (1024 - m - 1)
      · obtain ⟨u, hu, hu0⟩ := Fix.ex (XP.nice (V := V) hP h0 (fun s' q1 q2 => (hV s' q2 (by omega)).2))
        refine ⟨fun s c => if s = 1024 - m - 1 then u c else V s c, fun s hs q => ?_⟩
        have gt : ∀ s', s < s' → St P s' → ∀ c : Int, 0 ≤ c → c < P.n.toNat → V s' c = (fun s c => if s = 1024 - (m : Int) - 1 then u c else V s c) s' c := by
          intro s' q1 q2 c _ _
          show V s' c = if s' = 1024 - (m : Int) - 1 then u c else V s' c
          rw [if_neg (by omega)]
        by_cases e : s = 1024 - m - 1
        · subst e
          have e2 : (fun c => if (1024 - (m : Int) - 1) = 1024 - (m : Int) - 1 then u c else V (1024 - (m : Int) - 1) c) = u := by
            funext c; rw [if_pos rfl]
          show Fix _ _ _ _ _ (fun c => if (1024 - (m : Int) - 1) = 1024 - (m : Int) - 1 then u c else V (1024 - (m : Int) - 1) c) ∧ _
          rw [e2]
          refine ⟨hu.congr (fun c a b q => bv_congr hP hs gt a b q), fun c a b => ?_⟩
          show 0 ≤ (if (1024 - (m : Int) - 1) = 1024 - (m : Int) - 1 then u c else V (1024 - (m : Int) - 1) c) ∧ (if (1024 - (m : Int) - 1) = 1024 - (m : Int) - 1 then u c else V (1024 - (m : Int) - 1) c) ≤ 1000000000000000
          rw [if_pos rfl]
          exact hu0 c a b
        · have e2 : (fun c => if s = 1024 - (m : Int) - 1 then u c else V s c) = V s := by
            funext c; rw [if_neg e]
          have h1 := hV s hs (by omega)
          show Fix _ _ _ _ _ (fun c => if s = 1024 - (m : Int) - 1 then u c else V s c) ∧ _
          rw [e2]
          refine ⟨h1.1.congr (fun c a b q => bv_congr hP hs gt a b q), fun c a b => ?_⟩
          show 0 ≤ (if s = 1024 - (m : Int) - 1 then u c else V s c) ∧ (if s = 1024 - (m : Int) - 1 then u c else V s c) ≤ 1000000000000000
          rw [if_neg e]
          exact h1.2 c a b
      · refine ⟨V, fun s hs q => hV s hs ?_⟩
        by_cases e : s = 1024 - m - 1
        · subst e; exact absurd hs h0
        · omega
  obtain ⟨V, hV⟩ := key 1024
  exact ⟨V, fun s hs => hV s hs (by have := hs.1; omega)⟩
theorem Sol.uniq (hP : P.ok) (hV : Sol P V) (hU : Sol P U) : ∀ (m : Nat) (s : Int), St P s → 1024 - m ≤ s → ∀ c : Int, 0 ≤ c → c < P.n.toNat → V s c = U s c := by
  intro m
  induction m with
  | zero => intro s hs q; have := hs.1; omega
  | succ m ih =>
    intro s hs q
    have gt : ∀ s', s < s' → St P s' → ∀ c : Int, 0 ≤ c → c < P.n.toNat → U s' c = V s' c := fun s' q1 q2 c a b => (ih s' q2 (by omega) c a b).symm
    have h1 := hV s hs
    have h2 := hU s hs
    exact Fix.uniq (XP.nice hP hs (fun s' q1 q2 => (hV s' q2).2)) h1.1 (h2.1.congr (fun c a b q => bv_congr hP hs gt a b q)) (fun c a b => (h1.2 c a b).1) (fun c a b => (h2.2 c a b).1)
noncomputable def Vl (P : XP) : Int → Int → Int := Classical.epsilon (fun V => Sol P V)
theorem Vl_sol (hP : P.ok) : Sol P (Vl P) := Classical.epsilon_spec (sol_ex hP)
end VA
