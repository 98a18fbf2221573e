/-! texts and their tokens -/
/-- a text: its bytes, its size -/
abbrev XT : Type := (Int → Int) × Int
def XT.c (τ : XT) (k : Int) : Int := if k < τ.2 then τ.1 k else -1
def XT.ok (τ : XT) : Prop := (0 ≤ τ.2 ∧ τ.2 ≤ 500) ∧ ∀ k, 0 ≤ k → k < τ.2 → 0 ≤ τ.1 k ∧ τ.1 k ≤ 255
def smC (c : Int) : Bool := decide (97 ≤ c ∧ c ≤ 122)
def dgC (c : Int) : Bool := decide (48 ≤ c ∧ c ≤ 57)
def sgC (c : Int) : Bool := decide (c = 40 ∨ c = 41 ∨ c = 44 ∨ c = 45 ∨ c = 59)
/-- where the token from k on begins -/
def XT.a (τ : XT) (k : Int) : Int := fst1 (fun i => !decide (τ.c i = 32)) 501 k
def XT.ew (τ : XT) (a : Int) : Int := fst1 (fun i => !smC (τ.c i)) 501 a
def XT.ed (τ : XT) (a : Int) : Int := fst1 (fun i => !dgC (τ.c i)) 501 a
/-- where it ends -/
def XT.e (τ : XT) (k : Int) : Int := if τ.c (τ.a k) = -1 then τ.a k else if smC (τ.c (τ.a k)) = true then τ.ew (τ.a k) else if dgC (τ.c (τ.a k)) = true then τ.ed (τ.a k) else τ.a k + 1
/-- its kind: 0 the end, 1 a word, 2 a whole, 3 strange, else a sign -/
def XT.k (τ : XT) (k : Int) : Int := if τ.c (τ.a k) = -1 then 0 else if smC (τ.c (τ.a k)) = true then (if τ.e k - τ.a k ≤ 8 then 1 else 3) else if dgC (τ.c (τ.a k)) = true then (if τ.e k - τ.a k ≤ 4 then 2 else 3) else if sgC (τ.c (τ.a k)) = true then τ.c (τ.a k) else 3
def dec (f : Int → Int) : Nat → Int
  | 0 => 0
  | n + 1 => dec f n * 10 + (f n - 48)
def XT.w (τ : XT) (k : Int) : Int := enc (fun i => τ.1 (τ.a k + i)) (τ.e k - τ.a k).toNat
def XT.v (τ : XT) (k : Int) : Int := dec (fun i => τ.1 (τ.a k + i)) (τ.e k - τ.a k).toNat
def encL (w : List Int) : Int := enc (fun i => w.getD i.toNat 0) w.length
/-- a token is a word -/
def XT.is (τ : XT) (k : Int) (w : List Int) : Bool := decide (τ.k k = 1 ∧ τ.w k = encL w)
section TX
variable {τ : XT} {k : Int}
theorem enc_nn {f : Int → Int} : ∀ n : Nat, (∀ i : Int, 0 ≤ i → i < n → 97 ≤ f i ∧ f i ≤ 122) → 0 ≤ enc f n ∧ (0 < n → 1 ≤ enc f n) := by
  intro n
  induction n with
  | zero => intro _; exact ⟨Int.le_refl _, fun q => by omega⟩
  | succ n ih =>
    intro hf
    have i := ih (fun i a b => hf i a (by omega))
    have j := hf n (by omega) (by omega)
    show 0 ≤ enc f n * 27 + (f n - 96) ∧ (_ → 1 ≤ enc f n * 27 + (f n - 96))
    omega
theorem enc_inj {f g : Int → Int} : ∀ n m : Nat, (∀ i : Int, 0 ≤ i → i < n → 97 ≤ f i ∧ f i ≤ 122) → (∀ i : Int, 0 ≤ i → i < m → 97 ≤ g i ∧ g i ≤ 122) → enc f n = enc g m → n = m ∧ ∀ i : Int, 0 ≤ i → i < n → f i = g i := by
  intro n
  induction n with
  | zero =>
    intro m _ hg he
    cases m with
    | zero => exact ⟨rfl, fun i a b => by omega⟩
    | succ m =>
      have := (enc_nn (m + 1) hg).2 (by omega)
      have e0 : enc f 0 = 0 := rfl
      omega
  | succ n ih =>
    intro m hf hg he
    cases m with
    | zero =>
      have := (enc_nn (n + 1) hf).2 (by omega)
      have e0 : enc g 0 = 0 := rfl
      omega
    | succ m =>
      have a := hf n (by omega) (by omega)
      have b := hg m (by omega) (by omega)
      have e1 : enc f (n + 1) = enc f n * 27 + (f n - 96) := rfl
      have e2 : enc g (m + 1) = enc g m * 27 + (g m - 96) := rfl
      have r := ih m (fun i x y => hf i x (by omega)) (fun i x y => hg i x (by omega)) (by omega)
      refine ⟨by omega, fun i x y => ?_⟩
      by_cases z : i = (n : Int)
      · have z2 : i = (m : Int) := by omega
        have : f i = f n := by rw [z]
        have : g i = g m := by rw [z2]
        omega
      · exact r.2 i x (by omega)
theorem enc_congr {f g : Int → Int} : ∀ n : Nat, (∀ i : Int, 0 ≤ i → i < n → f i = g i) → enc f n = enc g n := by
  intro n
  induction n with
  | zero => intro _; rfl
  | succ n ih =>
    intro h
    show enc f n * 27 + (f n - 96) = enc g n * 27 + (g n - 96)
    rw [ih (fun i a b => h i a (by omega)), h n (by omega) (by omega)]
theorem enc_le {f : Int → Int} : ∀ n : Nat, n ≤ 8 → (∀ i : Int, 0 ≤ i → i < n → 97 ≤ f i ∧ f i ≤ 122) → enc f n < 27 ^ n := by
  intro n
  induction n with
  | zero => intro _ _; exact (by decide : (0 : Int) < 27 ^ 0)
  | succ n ih =>
    intro hn hf
    have i := ih (by omega) (fun i a b => hf i a (by omega))
    have j := hf n (by omega) (by omega)
    show enc f n * 27 + (f n - 96) < 27 ^ (n + 1)
    rw [Int.pow_succ]
    omega
theorem dec_in {f : Int → Int} : ∀ n : Nat, (∀ i : Int, 0 ≤ i → i < n → 48 ≤ f i ∧ f i ≤ 57) → 0 ≤ dec f n ∧ dec f n < 10 ^ n := by
  intro n
  induction n with
  | zero => intro _; exact ⟨Int.le_refl _, (by decide : (0 : Int) < 10 ^ 0)⟩
  | succ n ih =>
    intro hf
    have i := ih (fun i a b => hf i a (by omega))
    have j := hf n (by omega) (by omega)
    show 0 ≤ dec f n * 10 + (f n - 48) ∧ dec f n * 10 + (f n - 48) < 10 ^ (n + 1)
    rw [Int.pow_succ]
    omega
theorem XT.c_in (ho : τ.ok) (h0 : 0 ≤ k) : (k < τ.2 → 0 ≤ τ.c k ∧ τ.c k ≤ 255 ∧ τ.c k = τ.1 k) ∧ (τ.2 ≤ k → τ.c k = -1) := by
  unfold XT.c
  constructor
  · intro q; rw [if_pos q]; exact ⟨(ho.2 k h0 q).1, (ho.2 k h0 q).2, rfl⟩
  · intro q; rw [if_neg (by omega)]
/-- the first place from k on where f doesn't hold, if f doesn't hold behind the text -/
theorem run_at {f : Int → Bool} (ho : τ.ok) (hf : f (-1) = false) (h0 : 0 ≤ k) (h1 : k ≤ τ.2) : (k ≤ fst1 (fun i => !f (τ.c i)) 501 k ∧ fst1 (fun i => !f (τ.c i)) 501 k ≤ τ.2) ∧ f (τ.c (fst1 (fun i => !f (τ.c i)) 501 k)) = false ∧ ∀ i, k ≤ i → i < fst1 (fun i => !f (τ.c i)) 501 k → f (τ.c i) = true := by
  have o := ho.1
  have e : f (τ.c τ.2) = false := by rw [(XT.c_in ho (by omega)).2 (Int.le_refl _)]; exact hf
  rcases fst1_spec (f := fun i => !f (τ.c i)) 501 k with ⟨_, no⟩ | ⟨a, b, c, m⟩
  · have q := no τ.2 h1 (by omega)
    simp [e] at q
  · refine ⟨⟨a, ?_⟩, by simpa using c, fun i x y => by simpa using m i x y⟩
    by_cases z : fst1 (fun i => !f (τ.c i)) 501 k ≤ τ.2
    · exact z
    · have q := m τ.2 h1 (by omega)
      simp [e] at q
theorem XT.a_at (ho : τ.ok) (h0 : 0 ≤ k) (h1 : k ≤ τ.2) : (k ≤ τ.a k ∧ τ.a k ≤ τ.2) ∧ ¬ τ.c (τ.a k) = 32 ∧ ∀ i, k ≤ i → i < τ.a k → τ.c i = 32 := by
  have r := run_at (f := fun c => decide (c = 32)) ho (by decide) h0 h1
  refine ⟨r.1, of_decide_eq_false r.2.1, fun i a b => of_decide_eq_true (r.2.2 i a b)⟩
theorem XT.a_eq {j : Int} (h0 : k ≤ j) (h1 : j < k + 501) (hn : ¬ τ.c j = 32) (hs : ∀ i, k ≤ i → i < j → τ.c i = 32) : τ.a k = j := fst1_at h0 h1 (by simp [hn]) (fun i a b => by simp [hs i a b])
theorem XT.ew_eq {j : Int} (h0 : k ≤ j) (h1 : j < k + 501) (hn : smC (τ.c j) = false) (hs : ∀ i, k ≤ i → i < j → smC (τ.c i) = true) : τ.ew k = j := fst1_at h0 h1 (by simp [hn]) (fun i a b => by simp [hs i a b])
theorem XT.ed_eq {j : Int} (h0 : k ≤ j) (h1 : j < k + 501) (hn : dgC (τ.c j) = false) (hs : ∀ i, k ≤ i → i < j → dgC (τ.c i) = true) : τ.ed k = j := fst1_at h0 h1 (by simp [hn]) (fun i a b => by simp [hs i a b])
theorem XT.e_at (ho : τ.ok) (h0 : 0 ≤ k) (h1 : k ≤ τ.2) : (τ.a k ≤ τ.e k ∧ τ.e k ≤ τ.2) ∧ (τ.k k = 0 ↔ τ.a k = τ.2) ∧ (¬ τ.k k = 0 → τ.a k < τ.e k) ∧ (0 ≤ τ.k k ∧ τ.k k ≤ 59) := by
  have o := ho.1
  have a := XT.a_at ho h0 h1
  have ci := XT.c_in ho (k := τ.a k) (by omega)
  have w := run_at (f := smC) (k := τ.a k) ho (by decide) (by omega) a.1.2
  have g := run_at (f := dgC) (k := τ.a k) ho (by decide) (by omega) a.1.2
  have w' : (τ.a k ≤ τ.ew (τ.a k) ∧ τ.ew (τ.a k) ≤ τ.2) ∧ smC (τ.c (τ.ew (τ.a k))) = false := ⟨w.1, w.2.1⟩
  have g' : (τ.a k ≤ τ.ed (τ.a k) ∧ τ.ed (τ.a k) ≤ τ.2) ∧ dgC (τ.c (τ.ed (τ.a k))) = false := ⟨g.1, g.2.1⟩
  unfold XT.k XT.e
  by_cases z : τ.c (τ.a k) = -1
  · rw [if_pos z, if_pos z]
    have : τ.a k = τ.2 := by
      by_cases q : τ.a k < τ.2
      · have := ci.1 q; omega
      · omega
    exact ⟨by omega, by simp [this], fun q => absurd rfl q, by decide⟩
  · rw [if_neg z]
    have la : τ.a k < τ.2 := by
      by_cases q : τ.a k < τ.2
      · exact q
      · exact absurd (ci.2 (by omega)) z
    rw [if_neg z]
    by_cases s : smC (τ.c (τ.a k)) = true
    · have ne : ¬ τ.ew (τ.a k) = τ.a k := fun q => by rw [q, s] at w'; exact absurd w'.2 (by decide)
      rw [if_pos s, if_pos s]
      exact ⟨by omega, ⟨fun q => by split at q <;> omega, fun q => by omega⟩, fun _ => by omega, by split <;> decide⟩
    · rw [if_neg s, if_neg s]
      by_cases dd : dgC (τ.c (τ.a k)) = true
      · have ne : ¬ τ.ed (τ.a k) = τ.a k := fun q => by rw [q, dd] at g'; exact absurd g'.2 (by decide)
        rw [if_pos dd, if_pos dd]
        exact ⟨by omega, ⟨fun q => by split at q <;> omega, fun q => by omega⟩, fun _ => by omega, by split <;> decide⟩
      · rw [if_neg dd, if_neg dd]
        by_cases sg : sgC (τ.c (τ.a k)) = true
        · have q : τ.c (τ.a k) = 40 ∨ τ.c (τ.a k) = 41 ∨ τ.c (τ.a k) = 44 ∨ τ.c (τ.a k) = 45 ∨ τ.c (τ.a k) = 59 := by simpa [sgC] using sg
          rw [if_pos sg]
          exact ⟨by omega, by constructor <;> (intro; omega), fun _ => by omega, by omega⟩
        · rw [if_neg sg]
          exact ⟨by omega, by constructor <;> (intro; omega), fun _ => by omega, by decide⟩
/-- a word's letters -/
theorem XT.w_at (ho : τ.ok) (h0 : 0 ≤ k) (h1 : k ≤ τ.2) (hk : τ.k k = 1) : (1 ≤ τ.e k - τ.a k ∧ τ.e k - τ.a k ≤ 8) ∧ ∀ i, 0 ≤ i → i < τ.e k - τ.a k → 97 ≤ τ.1 (τ.a k + i) ∧ τ.1 (τ.a k + i) ≤ 122 := by
  have o := ho.1
  have a := XT.a_at ho h0 h1
  have e := XT.e_at ho h0 h1
  have w := run_at (f := smC) (k := τ.a k) ho (by decide) (by omega) a.1.2
  have ne := e.2.2.1 (by omega)
  by_cases z : τ.c (τ.a k) = -1
  · unfold XT.k at hk; rw [if_pos z] at hk; omega
  · by_cases s : smC (τ.c (τ.a k)) = true
    · have ee : τ.e k = τ.ew (τ.a k) := by unfold XT.e; rw [if_neg z, if_pos s]
      have le : τ.e k - τ.a k ≤ 8 := by
        unfold XT.k at hk; rw [if_neg z, if_pos s] at hk
        split at hk
        · assumption
        · omega
      refine ⟨by omega, fun i i0 i1 => ?_⟩
      have q := w.2.2 (τ.a k + i) (by omega) (by rw [ee] at i1; unfold XT.ew at i1; omega)
      have ci := (XT.c_in ho (k := τ.a k + i) (by omega)).1 (by omega)
      rw [ci.2.2] at q
      simpa [smC] using q
    · exfalso
      unfold XT.k at hk; rw [if_neg z, if_neg s] at hk
      split at hk
      · split at hk <;> omega
      · split at hk
        · rename_i q; simp [sgC] at q; omega
        · omega
theorem XT.v_at (ho : τ.ok) (h0 : 0 ≤ k) (h1 : k ≤ τ.2) (hk : τ.k k = 2) : (1 ≤ τ.e k - τ.a k ∧ τ.e k - τ.a k ≤ 4) ∧ (∀ i, 0 ≤ i → i < τ.e k - τ.a k → 48 ≤ τ.1 (τ.a k + i) ∧ τ.1 (τ.a k + i) ≤ 57) ∧ 0 ≤ τ.v k ∧ τ.v k ≤ 9999 := by
  have o := ho.1
  have a := XT.a_at ho h0 h1
  have e := XT.e_at ho h0 h1
  have g := run_at (f := dgC) (k := τ.a k) ho (by decide) (by omega) a.1.2
  have ne := e.2.2.1 (by omega)
  by_cases z : τ.c (τ.a k) = -1
  · unfold XT.k at hk; rw [if_pos z] at hk; omega
  · by_cases s : smC (τ.c (τ.a k)) = true
    · exfalso
      unfold XT.k at hk; rw [if_neg z, if_pos s] at hk
      split at hk <;> omega
    · by_cases dd : dgC (τ.c (τ.a k)) = true
      · have ee : τ.e k = τ.ed (τ.a k) := by unfold XT.e; rw [if_neg z, if_neg s, if_pos dd]
        have le : τ.e k - τ.a k ≤ 4 := by
          unfold XT.k at hk; rw [if_neg z, if_neg s, if_pos dd] at hk
          split at hk
          · assumption
          · omega
        have dg : ∀ i, 0 ≤ i → i < τ.e k - τ.a k → 48 ≤ τ.1 (τ.a k + i) ∧ τ.1 (τ.a k + i) ≤ 57 := fun i i0 i1 => by
          have q := g.2.2 (τ.a k + i) (by omega) (by rw [ee] at i1; unfold XT.ed at i1; omega)
          have ci := (XT.c_in ho (k := τ.a k + i) (by omega)).1 (by omega)
          rw [ci.2.2] at q
          simpa [dgC] using q
        have vi := dec_in (f := fun i => τ.1 (τ.a k + i)) (τ.e k - τ.a k).toNat (fun i i0 i1 => dg i i0 (by omega))
        have p : (10 : Int) ^ (τ.e k - τ.a k).toNat ≤ 10000 := by
          have : (τ.e k - τ.a k).toNat = 0 ∨ (τ.e k - τ.a k).toNat = 1 ∨ (τ.e k - τ.a k).toNat = 2 ∨ (τ.e k - τ.a k).toNat = 3 ∨ (τ.e k - τ.a k).toNat = 4 := by omega
          rcases this with q | q | q | q | q <;> rw [q] <;> decide
        refine ⟨by omega, dg, vi.1, ?_⟩
        unfold XT.v
        omega
      · exfalso
        unfold XT.k at hk; rw [if_neg z, if_neg s, if_neg dd] at hk
        split at hk
        · rename_i q; simp [sgC] at q; omega
        · omega
/-- a token is a word, letter by letter -/
theorem XT.is_iff {w : List Int} (ho : τ.ok) (h0 : 0 ≤ k) (h1 : k ≤ τ.2) (hw : ∀ i : Int, 0 ≤ i → i < w.length → 97 ≤ w.getD i.toNat 0 ∧ w.getD i.toNat 0 ≤ 122) : τ.is k w = true ↔ τ.k k = 1 ∧ τ.e k - τ.a k = w.length ∧ ∀ i : Int, 0 ≤ i → i < w.length → τ.1 (τ.a k + i) = w.getD i.toNat 0 := by
  unfold XT.is
  rw [decide_eq_true_iff]
  constructor
  · rintro ⟨a, b⟩
    have l := XT.w_at ho h0 h1 a
    have r := enc_inj _ _ (fun i x y => l.2 i x (by omega)) hw b
    exact ⟨a, by omega, fun i x y => r.2 i x (by omega)⟩
  · rintro ⟨a, b, c⟩
    refine ⟨a, ?_⟩
    unfold XT.w encL
    rw [show (τ.e k - τ.a k).toNat = w.length by omega]
    exact enc_congr _ c
end TX
