/-! values: bounds; to be told never harms -/
theorem prodTo_one {f g : Int → Int} {e : Int} {n : Nat} (h0 : 0 ≤ e) (h1 : e < n) (hf : ∀ i : Int, 0 ≤ i → i < n → ¬ i = e → f i = g i) (he : f e = 1) : prodTo f n * g e = prodTo g n := by
  induction n with
  | zero => omega
  | succ n ih =>
    show prodTo f n * f n * g e = prodTo g n * g n
    by_cases q : e = n
    · subst q
      rw [he, Int.mul_one, prodTo_congr (f := f) (g := g) (fun i a b => hf i a (by omega) (by omega))]
    · rw [hf n (by omega) (by omega) (by omega), Int.mul_right_comm, ih (by omega) (fun i a b c => hf i a (by omega) c)]
theorem sumTo_one {f g : Int → Int} {e : Int} {n : Nat} (h0 : 0 ≤ e) (h1 : e < n) (hf : ∀ i : Int, 0 ≤ i → i < n → ¬ i = e → f i = g i) (he : f e + 1 = g e) : sumTo f n + 1 = sumTo g n := by
  induction n with
  | zero => omega
  | succ n ih =>
    show sumTo f n + f n + 1 = sumTo g n + g n
    by_cases q : e = n
    · subst q
      rw [sumTo_congr (f := f) (g := g) (fun i a b => hf i a (by omega) (by omega))]
      omega
    · have := ih (by omega) (fun i a b c => hf i a (by omega) c)
      have := hf n (by omega) (by omega) (by omega)
      omega
theorem sumTo_add (f g : Int → Int) (n : Nat) : sumTo (fun i => f i + g i) n = sumTo f n + sumTo g n := by
  induction n with
  | zero => rfl
  | succ n ih =>
    show sumTo (fun i => f i + g i) n + (f n + g n) = sumTo f n + f n + (sumTo g n + g n)
    omega
theorem sumTo_mul (a : Int) (g : Int → Int) (n : Nat) : sumTo (fun i => a * g i) n = a * sumTo g n := by
  induction n with
  | zero => show (0 : Int) = a * 0; rw [Int.mul_zero]
  | succ n ih =>
    show sumTo (fun i => a * g i) n + a * g n = a * (sumTo g n + g n)
    rw [ih, Int.mul_add]
theorem sumTo_swap (a b : Int → Int) (f : Int → Int → Int) (n m : Nat) : sumTo (fun k => a k * sumTo (fun j => b j * f j k) n) m = sumTo (fun j => b j * sumTo (fun k => a k * f j k) m) n := by
  induction m with
  | zero =>
    show (0 : Int) = sumTo (fun j => b j * 0) n
    rw [sumTo_congr (f := fun j => b j * 0) (g := fun j => 0 * b j) (fun i _ _ => by rw [Int.mul_zero, Int.zero_mul]), sumTo_mul, Int.zero_mul]
  | succ m ih =>
    show sumTo (fun k => a k * sumTo (fun j => b j * f j k) n) m + a m * sumTo (fun j => b j * f j m) n = sumTo (fun j => b j * (sumTo (fun k => a k * f j k) m + a m * f j m)) n
    rw [ih, ← sumTo_mul, ← sumTo_add]
    refine sumTo_congr (fun i _ _ => ?_)
    show b i * sumTo (fun k => a k * f i k) m + a m * (b i * f i m) = b i * (sumTo (fun k => a k * f i k) m + a m * f i m)
    rw [Int.mul_add, Int.mul_left_comm]
def XP.opn (P : XP) (s : Int) : Int := sumTo (fun e => if dg s e = 0 then 1 else 0) P.nd.toNat
section VB
variable {P : XP} {V : Int → Int → Int} {s c e k : Int}
theorem opn_in (hP : P.ok) : 0 ≤ P.opn s ∧ P.opn s ≤ P.nd := by
  have o := hP.1
  have := sumTo_in (f := fun e => if dg s e = 0 then 1 else 0) (b := 1) (n := P.nd.toNat) (fun i _ _ => by split <;> omega)
  unfold XP.opn
  omega
theorem lft_tel (hP : P.ok) (hs : 0 ≤ s ∧ s < 1024) (he : 0 ≤ e ∧ e < P.nd) (h0 : dg s e = 0) (hk : 0 ≤ k ∧ k < 3) : P.lft (tel s e k) * P.tot e = P.lft s := by
  have o := hP.1
  have t := (tel_in hs (e := e) (by omega) h0 hk).2.2
  have := prodTo_one (f := fun i => if dg (tel s e k) i = 0 then P.tot i else 1) (g := fun i => if dg s i = 0 then P.tot i else 1) (e := e) (n := P.nd.toNat) he.1 (by omega) (fun i a b q => by
    show (if dg (tel s e k) i = 0 then P.tot i else 1) = if dg s i = 0 then P.tot i else 1
    rw [t i a (by omega), if_neg q]) (by
    show (if dg (tel s e k) e = 0 then P.tot e else 1) = 1
    rw [t e he.1 (by omega), if_pos rfl, if_neg (by omega)])
  rw [if_pos h0] at this
  exact this
theorem lft_same (hP : P.ok) (hs : 0 ≤ s ∧ s < 1024) (he : 0 ≤ e ∧ e < P.nd) (h0 : dg s e = 0) (hk : 0 ≤ k ∧ k < 3) : P.lft (tel s e k) = P.lft (tel s e 0) := by
  have o := hP.1
  have t := (tel_in hs (e := e) (by omega) h0 hk).2.2
  have t0 := (tel_in (k := 0) hs (e := e) (by omega) h0 (by omega)).2.2
  refine prodTo_congr (fun i a b => ?_)
  show (if dg (tel s e k) i = 0 then P.tot i else 1) = if dg (tel s e 0) i = 0 then P.tot i else 1
  rw [t i a (by omega), t0 i a (by omega)]
  by_cases q : i = e
  · rw [if_pos q, if_pos q, if_neg (by omega), if_neg (by omega)]
  · rw [if_neg q, if_neg q]
theorem opn_tel (hP : P.ok) (hs : 0 ≤ s ∧ s < 1024) (he : 0 ≤ e ∧ e < P.nd) (h0 : dg s e = 0) (hk : 0 ≤ k ∧ k < 3) : P.opn (tel s e k) + 1 = P.opn s := by
  have o := hP.1
  have t := (tel_in hs (e := e) (by omega) h0 hk).2.2
  exact sumTo_one (f := fun i => if dg (tel s e k) i = 0 then 1 else 0) (g := fun i => if dg s i = 0 then 1 else 0) (e := e) (n := P.nd.toNat) he.1 (by omega) (fun i a b q => by
    show (if dg (tel s e k) i = 0 then (1 : Int) else 0) = if dg s i = 0 then 1 else 0
    rw [t i a (by omega), if_neg q]) (by
    show (if dg (tel s e k) e = 0 then (1 : Int) else 0) + 1 = if dg s e = 0 then 1 else 0
    rw [t e he.1 (by omega), if_pos rfl, if_neg (by omega), if_pos h0]; rfl)
theorem ovK_bound {w f : Int → Int} {X : Int} {n : Nat} (hX : 0 ≤ X) (hw : ∀ i : Int, 0 ≤ i → i < n → 0 ≤ w i) (hf : ∀ i : Int, 0 ≤ i → i < n → 0 ≤ f i ∧ (f i < 1000000000000000 → f i ≤ X)) :
    (ovK true w f n < 1000000000000000 → ovK true w f n ≤ X * sumTo w n) ∧ (ovK false w f n < 1000000000000000 → ovK false w f n ≤ X) := by
  induction n with
  | zero => exact ⟨fun _ => by show (0 : Int) ≤ X * 0; omega, fun _ => hX⟩
  | succ n ih =>
    have i := ih (fun i a b => hw i a (by omega)) (fun i a b => hf i a (by omega))
    have w1 := hw n (by omega) (by omega)
    have f1 := hf n (by omega) (by omega)
    constructor
    · intro q
      unfold ovK at q ⊢
      by_cases z : 1000000000000000 ≤ ovK true w f n ∨ 1000000000000000 ≤ f n
      · rw [if_pos z] at q; omega
      · rw [if_neg z, if_pos rfl] at q ⊢
        have h1 := i.1 (by omega)
        have h2 := f1.2 (by omega)
        have h3 : w n * f n ≤ w n * X := Int.mul_le_mul_of_nonneg_left h2 w1
        show _ ≤ X * (sumTo w n + w n)
        rw [Int.mul_add, Int.mul_comm X (w n)]
        omega
    · intro q
      unfold ovK at q ⊢
      by_cases z : 1000000000000000 ≤ ovK false w f n ∨ 1000000000000000 ≤ f n
      · rw [if_pos z] at q; omega
      · rw [if_neg z, if_neg (by decide)] at q ⊢
        have h1 := i.2 (by omega)
        have h2 := f1.2 (by omega)
        omega
theorem ovK_fin {bm : Bool} {w f : Int → Int} {n : Nat} (h : ovK bm w f n < 1000000000000000) : ∀ i : Int, 0 ≤ i → i < n → f i < 1000000000000000 := by
  induction n with
  | zero => intro i a b; omega
  | succ n ih =>
    unfold ovK at h
    by_cases z : 1000000000000000 ≤ ovK bm w f n ∨ 1000000000000000 ≤ f n
    · rw [if_pos z] at h; omega
    · intro i a b
      by_cases q : i = n
      · subst q; omega
      · exact ih (by omega) i a (by omega)
/-- all are reached: by mean the sum, by worst the greatest -/
theorem ovK_plain {w f : Int → Int} {X : Int} {n : Nat} (hX : 0 ≤ X ∧ X < 1000000000000000) (hXn : X * sumTo w n < 1000000000000000) (hw : ∀ i : Int, 0 ≤ i → i < n → 0 ≤ w i) (hf : ∀ i : Int, 0 ≤ i → i < n → 0 ≤ f i ∧ f i ≤ X) : ovK true w f n = sumTo (fun i => w i * f i) n ∧ 0 ≤ sumTo (fun i => w i * f i) n ∧ sumTo (fun i => w i * f i) n ≤ X * sumTo w n := by
  induction n with
  | zero => exact ⟨rfl, Int.le_refl _, by show (0 : Int) ≤ X * 0; omega⟩
  | succ n ih =>
    have w1 := hw n (by omega) (by omega)
    have f1 := hf n (by omega) (by omega)
    have e1 : X * sumTo w (n + 1) = X * sumTo w n + w n * X := by
      show X * (sumTo w n + w n) = _
      rw [Int.mul_add, Int.mul_comm X (w n)]
    have p := Int.mul_nonneg w1 hX.1
    rw [e1] at hXn ⊢
    have i := ih (by omega) (fun i a b => hw i a (by omega)) (fun i a b => hf i a (by omega))
    have h3 : w n * f n ≤ w n * X := Int.mul_le_mul_of_nonneg_left f1.2 w1
    have h4 := Int.mul_nonneg w1 f1.1
    have e2 : sumTo (fun i => w i * f i) (n + 1) = sumTo (fun i => w i * f i) n + w n * f n := rfl
    rw [e2]
    refine ⟨?_, by omega, by omega⟩
    unfold ovK
    rw [if_neg (by omega), if_pos rfl]
    omega
theorem ovK_maxp {w f : Int → Int} {n : Nat} (hf : ∀ i : Int, 0 ≤ i → i < n → 0 ≤ f i ∧ f i < 1000000000000000) : ovK false w f n = maxTo f n ∧ maxTo f n < 1000000000000000 := by
  induction n with
  | zero => exact ⟨rfl, by show (0 : Int) < _; decide⟩
  | succ n ih =>
    have f1 := hf n (by omega) (by omega)
    have i := ih (fun i a b => hf i a (by omega))
    have e2 : maxTo f (n + 1) = max (maxTo f n) (f n) := rfl
    rw [e2]
    refine ⟨?_, by omega⟩
    unfold ovK
    rw [if_neg (by omega), if_neg (by decide)]
    omega
theorem maxTo_ge {f : Int → Int} {n : Nat} : ∀ i : Int, 0 ≤ i → i < n → f i ≤ maxTo f n := by
  induction n with
  | zero => intro i a b; omega
  | succ n ih =>
    intro i a b
    have e2 : maxTo f (n + 1) = max (maxTo f n) (f n) := rfl
    rw [e2]
    by_cases q : i = n
    · subst q; omega
    · have := ih i a (by omega); omega
/-- the bound of what is reached, one doubt told -/
def XP.bX (P : XP) (s e : Int) : Int := (if P.bm = true then P.lft (tel s e 0) else 1) * (4010100 * P.opn s)
theorem sc_tel (hP : P.ok) (hs : 0 ≤ s ∧ s < 1024) (he : 0 ≤ e ∧ e < P.nd) (h0 : dg s e = 0) (hk : 0 ≤ k ∧ k < 3) : P.sc (tel s e k) = if P.bm = true then P.lft (tel s e 0) else 1 := by
  unfold XP.sc
  rw [lft_same hP hs he h0 hk]
theorem bX_tot (hP : P.ok) (hs : 0 ≤ s ∧ s < 1024) (he : 0 ≤ e ∧ e < P.nd) (h0 : dg s e = 0) (hb : P.bm = true) : P.bX s e * P.tot e = P.sc s * (4010100 * P.opn s) := by
  unfold XP.bX XP.sc
  rw [if_pos hb, if_pos hb, Int.mul_right_comm, lft_tel hP hs he h0 (by omega)]
theorem bX_in (hP : P.ok) : 0 ≤ P.bX s e ∧ P.bX s e ≤ 400000000000000 := by
  have o := hP.1
  have n := opn_in (s := s) hP
  have l := lft_in (s := tel s e 0) hP
  unfold XP.bX
  have h : 0 ≤ (if P.bm = true then P.lft (tel s e 0) else 1) ∧ (if P.bm = true then P.lft (tel s e 0) else 1) ≤ 14348907 := by split <;> omega
  have := mul_in (a := if P.bm = true then P.lft (tel s e 0) else 1) (b := 4010100 * P.opn s) (A := 14348907) (B := 20050500) h (by omega)
  omega
theorem scL_in (hP : P.ok) : 0 ≤ P.sc s * (4010100 * P.opn s) ∧ P.sc s * (4010100 * P.opn s) ≤ 300000000000000 := by
  have o := hP.1
  have n := opn_in (s := s) hP
  have l := sc_in (s := s) hP
  have := mul_in (a := P.sc s) (b := 4010100 * P.opn s) (A := 14348907) (B := 20050500) (by omega) (by omega)
  omega
theorem Sol.bound (hP : P.ok) (hV : Sol P V) : ∀ (m : Nat) (s : Int), St P s → 1024 - m ≤ s → ∀ c : Int, 0 ≤ c → c < P.n → V s c < 1000000000000000 → V s c ≤ P.sc s * (4010100 * (P.opn s + 1)) := by
  intro m
  induction m with
  | zero => intro s hs q; have := hs.1; omega
  | succ m ih =>
    intro s hs q c a b hc
    have o := hP.1
    have h1 := hV s hs
    have s1 := sc_in (s := s) hP
    have oi := opn_in (s := s) hP
    have hN := XP.nice hP hs (fun s' q1 q2 => (hV s' q2).2)
    have v0 := h1.2 c a (by omega)
    have bnd := Fix.bound (C := P.sc s * 40101) (Bd := P.sc s * (4010100 * P.opn s)) hN h1.1 (fun c a b => (h1.2 c a b).1) (Int.mul_nonneg (by omega) (by decide)) (fun c w a b w0 w1 => by
      unfold XP.co
      by_cases t : 0 < P.tl s c w
      · exact Int.mul_le_mul_of_nonneg_left (hP.2.2.2.1 s c w a (by omega) w0 w1 t).1 (by omega)
      · exact Int.mul_le_mul_of_nonneg_left (by omega) (by omega)) (fun c a b hb hf => by
      have sl := scL_in (s := s) hP
      unfold XP.bv at hf ⊢
      by_cases z : c = P.go
      · rw [if_pos z]; omega
      · rw [if_neg z] at hf ⊢
        rcases P.nw_spec s c (by omega) with ⟨e, _⟩ | ⟨e1, e2, e3, _⟩
        · simp [XP.bd, z, e] at hb
        · have mn := hP.2.1 _ e1.1 e1.2
          have bx := bX_in (s := s) (e := P.nw s c) hP
          have key := ovK_bound (w := P.we (P.nw s c)) (f := fun k => V (tel s (P.nw s c) k) c) (X := P.bX s (P.nw s c)) (n := (P.mn (P.nw s c)).toNat) bx.1 (fun i i0 i1 => by
              have := hP.2.2.1 _ i e1.1 e1.2 i0 (by omega); omega) (fun i i0 i1 => by
            have t := (tel_in (k := i) hs.1 (e := P.nw s c) (by omega) e2 (by omega)).1
            have st := hs.tel (k := i) hP e1 e2 (by omega)
            refine ⟨((hV _ st).2 c a b).1, fun q2 => ?_⟩
            have := ih _ st (by omega) c a (by omega) q2
            have e4 := sc_tel (k := i) hP hs.1 e1 e2 (by omega)
            have e5 := opn_tel (k := i) hP hs.1 e1 e2 (by omega)
            rw [e4, e5] at this
            exact this)
          unfold XP.ov at hf ⊢
          by_cases hbm : P.bm = true
          · rw [hbm] at hf ⊢
            have k1 := key.1 hf
            have k2 := bX_tot hP hs.1 e1 e2 hbm
            unfold XP.tot at k2
            rw [k2] at k1
            exact k1
          · have hbm' : P.bm = false := by simpa using hbm
            rw [hbm'] at hf ⊢
            have k1 := key.2 hf
            have e6 : P.bX s (P.nw s c) = P.sc s * (4010100 * P.opn s) := by
              unfold XP.bX XP.sc
              rw [if_neg hbm, if_neg hbm]
            rw [e6] at k1
            exact k1) ((V s c).toNat + 1) c a (by omega) (by omega) hc
    have cl := cntL_le (V s) (V s c) P.n.toNat
    have m1 : P.sc s * 40101 * (cntL (V s) (V s c) P.n.toNat : Int) ≤ P.sc s * 40101 * 100 := Int.mul_le_mul_of_nonneg_left (by omega) (Int.mul_nonneg (by omega) (by decide))
    have e7 : P.sc s * (4010100 * (P.opn s + 1)) = P.sc s * (4010100 * P.opn s) + P.sc s * 4010100 := by
      rw [Int.mul_add, Int.mul_one, Int.mul_add]
    omega
theorem Sol.small (hP : P.ok) (hV : Sol P V) (hs : St P s) (a : 0 ≤ c) (b : c < P.n) (hc : V s c < 1000000000000000) : V s c ≤ 400000000000000 ∧ (P.bm = false → V s c ≤ 24060600) := by
  have o := hP.1
  have q := Sol.bound hP hV 1024 s hs (by have := hs.1; omega) c a b hc
  have n := opn_in (s := s) hP
  have l := sc_in (s := s) hP
  have := mul_in (a := P.sc s) (b := 4010100 * (P.opn s + 1)) (A := 14348907) (B := 24060600) (by omega) (by omega)
  refine ⟨by omega, fun z => ?_⟩
  have e : P.sc s = 1 := by unfold XP.sc; rw [z]; rfl
  rw [e] at q
  omega
/-- what it comes to over a doubt's choices, all reached -/
theorem Sol.over (hP : P.ok) (hV : Sol P V) (hs : St P s) (he : 0 ≤ e ∧ e < P.nd) (h0 : dg s e = 0) (a : 0 ≤ c) (b : c < P.n) (hf : ∀ i : Int, 0 ≤ i → i < P.mn e → V (tel s e i) c < 1000000000000000) :
    (∀ j : Nat, (j : Int) ≤ P.mn e → ovK true (P.we e) (fun k => V (tel s e k) c) j = sumTo (fun k => P.we e k * V (tel s e k) c) j ∧ 0 ≤ sumTo (fun k => P.we e k * V (tel s e k) c) j ∧ (P.bm = true → sumTo (fun k => P.we e k * V (tel s e k) c) j ≤ 300000000000000) ∨ P.bm = false) ∧
    (∀ j : Nat, (j : Int) ≤ P.mn e → ovK false (P.we e) (fun k => V (tel s e k) c) j = maxTo (fun k => V (tel s e k) c) j ∧ maxTo (fun k => V (tel s e k) c) j < 1000000000000000) := by
  have o := hP.1
  have mn := hP.2.1 e he.1 he.2
  have bx := bX_in (s := s) (e := e) hP
  have f1 : ∀ i : Int, 0 ≤ i → i < P.mn e → 0 ≤ V (tel s e i) c ∧ V (tel s e i) c ≤ P.bX s e := fun i i0 i1 => by
    have st := hs.tel (k := i) hP he h0 (by omega)
    refine ⟨((hV _ st).2 c a (by omega)).1, ?_⟩
    have := Sol.bound hP hV 1024 _ st (by have := st.1; omega) c a b (hf i i0 i1)
    rw [sc_tel (k := i) hP hs.1 he h0 (by omega), opn_tel (k := i) hP hs.1 he h0 (by omega)] at this
    exact this
  refine ⟨fun j hj => ?_, fun j hj => ovK_maxp (fun i i0 i1 => ⟨(f1 i i0 (by omega)).1, hf i i0 (by omega)⟩)⟩
  by_cases hbm : P.bm = true
  · left
    have wp : ∀ i : Int, 0 ≤ i → i < P.mn e → 0 ≤ P.we e i := fun i i0 i1 => by have := hP.2.2.1 e i he.1 he.2 i0 i1; omega
    have sm : ∀ n : Nat, j ≤ n → (n : Int) ≤ P.mn e → sumTo (P.we e) j ≤ sumTo (P.we e) n := by
      intro n
      induction n with
      | zero => intro q _; rw [show j = 0 by omega]; exact Int.le_refl _
      | succ n ih =>
        intro q1 q2
        by_cases z : j = n + 1
        · rw [z]; exact Int.le_refl _
        · have := ih (by omega) (by omega)
          have := wp n (by omega) (by omega)
          show _ ≤ sumTo (P.we e) n + P.we e n
          omega
    have st := sm (P.mn e).toNat (by omega) (by omega)
    have l1 : P.bX s e * sumTo (P.we e) j ≤ P.bX s e * P.tot e := Int.mul_le_mul_of_nonneg_left st bx.1
    rw [bX_tot hP hs.1 he h0 hbm] at l1
    have sl := scL_in (s := s) hP
    have key := ovK_plain (w := P.we e) (f := fun k => V (tel s e k) c) (X := P.bX s e) (n := j) (by omega) (by omega) (fun i i0 i1 => wp i i0 (by omega)) (fun i i0 i1 => f1 i i0 (by omega))
    exact ⟨key.1, key.2.1, fun _ => by omega⟩
  · right; simpa using hbm
end VB
