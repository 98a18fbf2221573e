/-! what a plan's text says: a machine of steps -/
/-- where the text stands, how many steps were told, the plan, the blocks that are open (behind an else?, the order to be led) -/
abbrev XS : Type := Int × Int × XL × List (Bool × Int)
def pAdd (p : XL) (kd nm gd : Int) : XL := (p.z + 1, up1 p.kd p.z kd, up1 p.nm p.z nm, up1 p.gd p.z gd, p.tg)
def pLand (p : XL) (i : Int) : XL := (p.z, p.kd, p.nm, p.gd, up1 p.tg i p.z)
/-- the question of an if: doubt, ground, where it goes on -/
def gQ (τ : XT) (B : XB) (nd k : Int) : PR (Int × Int × Int) := if τ.k k = 2 then (if nd ≤ τ.v k then .inl (2, τ.a k) else bnd (gWord τ sW_is (τ.e k)) (fun j => if τ.nm j = true then (if nmI B.nm B.g (τ.w j) = -1 then .inl (2, τ.a j) else .inr (τ.v k, nmI B.nm B.g (τ.w j), τ.e j)) else .inl (1, τ.a j))) else .inl (1, τ.a k)
/-- a step begins; true: a block was opened -/
def sOpen (τ : XT) (B : XB) (nd : Int) (s : XS) : PR (Bool × XS) := if τ.way s.1 = -1 ∧ τ.is s.1 sW_if = false then .inl (1, τ.a s.1) else if 40 ≤ s.2.1 then .inl (5, τ.a s.1) else if τ.way s.1 = -1 then bnd (gQ τ B nd (τ.e s.1)) (fun q => if τ.k q.2.2 = 40 then (if 6 ≤ s.2.2.2.length then .inl (5, τ.a q.2.2) else .inr (true, (τ.e q.2.2, s.2.1 + 1, pAdd s.2.2.1 4 q.1 q.2.1, (false, s.2.2.1.z) :: s.2.2.2))) else .inl (1, τ.a q.2.2)) else if τ.k (τ.e s.1) = 2 then (if 1 ≤ τ.v (τ.e s.1) ∧ τ.v (τ.e s.1) ≤ 9 then .inr (false, (τ.e (τ.e s.1), s.2.1 + 1, pAdd s.2.2.1 (τ.way s.1) (τ.v (τ.e s.1)) (-1), s.2.2.2)) else .inl (4, τ.a (τ.e s.1))) else .inr (false, (τ.e s.1, s.2.1 + 1, pAdd s.2.2.1 (τ.way s.1) 1 (-1), s.2.2.2))
/-- behind a step: 0 a step begins, 1 behind a step again, 2 the end -/
def sClose (τ : XT) (s : XS) : PR (Nat × XS) := match s.2.2.2 with
  | (e, i) :: rest => if τ.k s.1 = 41 then (if e = false ∧ τ.is (τ.e s.1) sW_else = true then (if τ.k (τ.e (τ.e s.1)) = 40 then .inr (0, (τ.e (τ.e (τ.e s.1)), s.2.1, pLand (pAdd s.2.2.1 5 0 (-1)) i, (true, s.2.2.1.z) :: rest)) else .inl (1, τ.a (τ.e (τ.e s.1)))) else .inr (1, (τ.e s.1, s.2.1, pLand s.2.2.1 i, rest))) else if τ.k s.1 = 59 then .inr (0, (τ.e s.1, s.2.1, s.2.2.1, (e, i) :: rest)) else .inl (1, τ.a s.1)
  | [] => if τ.k s.1 = 59 then .inr (0, (τ.e s.1, s.2.1, s.2.2.1, [])) else if τ.k s.1 = 0 then .inr (2, s) else .inl (1, τ.a s.1)
/-- one turn: behind a step (true) or ahead of one -/
def sStp (τ : XT) (B : XB) (nd : Int) (x : Bool × XS) : Sum (PR XL) (Bool × XS) := if x.1 = true then (match sClose τ x.2 with
    | .inl e => .inl (.inl e)
    | .inr (0, s) => .inr (false, s)
    | .inr (1, s) => .inr (true, s)
    | .inr (_, s) => .inl (.inr s.2.2.1)) else (match sOpen τ B nd x.2 with
    | .inl e => .inl (.inl e)
    | .inr (true, s) => .inr (false, s)
    | .inr (false, s) => .inr (true, s))
def sRun (τ : XT) (B : XB) (nd : Int) : Nat → Bool × XS → Option (PR XL)
  | 0, _ => none
  | n + 1, x => match sStp τ B nd x with
    | .inl r => some r
    | .inr y => sRun τ B nd n y
def Ends (τ : XT) (B : XB) (nd : Int) (x : Bool × XS) (r : PR XL) : Prop := ∃ n, sRun τ B nd n x = some r
section PLM
variable {τ : XT} {B : XB} {nd : Int} {x y : Bool × XS} {r r' : PR XL} {s s' : XS}
theorem ends_now (h : sStp τ B nd x = .inl r) : Ends τ B nd x r := ⟨1, by show (match sStp τ B nd x with | .inl r => some r | .inr y => sRun τ B nd 0 y) = _; rw [h]⟩
theorem ends_step (h : sStp τ B nd x = .inr y) (e : Ends τ B nd y r) : Ends τ B nd x r := by
  obtain ⟨n, e⟩ := e
  exact ⟨n + 1, by show (match sStp τ B nd x with | .inl r => some r | .inr y => sRun τ B nd n y) = _; rw [h]; exact e⟩
theorem run_eq : ∀ (n m : Nat) (x : Bool × XS), sRun τ B nd n x = some r → sRun τ B nd m x = some r' → r = r' := by
  intro n
  induction n with
  | zero => intro m x h; cases h
  | succ n ih =>
    intro m x h h'
    cases m with
    | zero => cases h'
    | succ m =>
      unfold sRun at h h'
      cases z : sStp τ B nd x with
      | inl q => rw [z] at h h'; cases h; cases h'; rfl
      | inr y => rw [z] at h h'; exact ih m y h h'
theorem Ends.eq (h : Ends τ B nd x r) (h' : Ends τ B nd x r') : r = r' := by
  obtain ⟨n, a⟩ := h
  obtain ⟨m, b⟩ := h'
  exact run_eq n m x a b
theorem open_f {e : Int × Int} (h : sOpen τ B nd s = .inl e) : Ends τ B nd (false, s) (.inl e) := ends_now (by unfold sStp; simp [h])
theorem open_t (h : sOpen τ B nd s = .inr (true, s')) (e : Ends τ B nd (false, s') r) : Ends τ B nd (false, s) r := ends_step (by unfold sStp; simp [h]) e
theorem open_m (h : sOpen τ B nd s = .inr (false, s')) (e : Ends τ B nd (true, s') r) : Ends τ B nd (false, s) r := ends_step (by unfold sStp; simp [h]) e
theorem close_f {e : Int × Int} (h : sClose τ s = .inl e) : Ends τ B nd (true, s) (.inl e) := ends_now (by unfold sStp; simp [h])
theorem close_0 (h : sClose τ s = .inr (0, s')) (e : Ends τ B nd (false, s') r) : Ends τ B nd (true, s) r := ends_step (by unfold sStp; simp [h]) e
theorem close_1 (h : sClose τ s = .inr (1, s')) (e : Ends τ B nd (true, s') r) : Ends τ B nd (true, s) r := ends_step (by unfold sStp; simp [h]) e
theorem close_2 (h : sClose τ s = .inr (2, s')) : Ends τ B nd (true, s) (.inr s'.2.2.1) := ends_now (by unfold sStp; simp [h])
/-- how many ifs are open whose else may still come -/
def opF : List (Bool × Int) → Int
  | [] => 0
  | (e, _) :: t => (if e = true then 0 else 1) + opF t
theorem opF_nn : ∀ l : List (Bool × Int), 0 ≤ opF l := by
  intro l
  induction l with
  | nil => exact Int.le_refl _
  | cons a t ih => obtain ⟨e, i⟩ := a; show 0 ≤ (if e = true then 0 else 1) + opF t; split <;> omega
/-- an order that is as it must be, but for its target -/
def OrO (p : XL) (nd i : Int) : Prop := (0 ≤ p.kd i ∧ p.kd i ≤ 5) ∧ (p.kd i ≤ 3 → 1 ≤ p.nm i ∧ p.nm i ≤ 9) ∧ (p.kd i = 4 → (0 ≤ p.nm i ∧ p.nm i < nd) ∧ 0 ≤ p.gd i ∧ p.gd i < 8)
def SOk (nd : Int) (s : XS) : Prop := (0 ≤ s.2.1 ∧ s.2.1 ≤ 40) ∧ (0 ≤ s.2.2.1.z ∧ s.2.2.1.z + opF s.2.2.2 ≤ 2 * s.2.1) ∧ s.2.2.2.length ≤ 6 ∧ (∀ i, 0 ≤ i → i < s.2.2.1.z → OrO s.2.2.1 nd i ∧ (4 ≤ s.2.2.1.kd i → (∃ e, (e, i) ∈ s.2.2.2) ∨ (i < s.2.2.1.tg i ∧ s.2.2.1.tg i ≤ s.2.2.1.z))) ∧ ∀ e i, (e, i) ∈ s.2.2.2 → 0 ≤ i ∧ i < s.2.2.1.z ∧ 4 ≤ s.2.2.1.kd i
theorem SOk.add {k st : Int} {p : XL} {l : List (Bool × Int)} {k' kd nm gd : Int} (h : SOk nd (k, st, p, l)) (h40 : st < 40) (hm : 0 ≤ kd ∧ kd ≤ 3) (hn : 1 ≤ nm ∧ nm ≤ 9) : SOk nd (k', st + 1, pAdd p kd nm gd, l) := by
  obtain ⟨a, b, c, d, f⟩ := h
  dsimp only at a b c d f
  refine ⟨by dsimp only; omega, ⟨by show 0 ≤ p.z + 1; omega, by show p.z + 1 + opF l ≤ 2 * (st + 1); omega⟩, c, fun i i0 i1 => ?_, fun e i m => ?_⟩
  · have i1' : i < p.z + 1 := i1
    by_cases q : i = p.z
    · subst q
      refine ⟨⟨?_, fun _ => ?_, fun z => ?_⟩, fun z => ?_⟩
      · show 0 ≤ up1 p.kd p.z kd p.z ∧ up1 p.kd p.z kd p.z ≤ 5; rw [up1_at]; omega
      · show 1 ≤ up1 p.nm p.z nm p.z ∧ up1 p.nm p.z nm p.z ≤ 9; rw [up1_at]; exact hn
      · have z : up1 p.kd p.z kd p.z = 4 := z
        rw [up1_at] at z; omega
      · have z : 4 ≤ up1 p.kd p.z kd p.z := z
        rw [up1_at] at z; omega
    · have o := d i i0 (by omega)
      have ek : (pAdd p kd nm gd).kd i = p.kd i := up1_ne q
      have en : (pAdd p kd nm gd).nm i = p.nm i := up1_ne q
      have eg : (pAdd p kd nm gd).gd i = p.gd i := up1_ne q
      refine ⟨by unfold OrO; rw [ek, en, eg]; exact o.1, fun z => ?_⟩
      rw [ek] at z
      rcases o.2 z with w | w
      · exact Or.inl w
      · right; show i < p.tg i ∧ p.tg i ≤ p.z + 1; omega
  · have o := f e i m
    have ek : (pAdd p kd nm gd).kd i = p.kd i := up1_ne (by omega)
    exact ⟨o.1, by show i < p.z + 1; omega, by show 4 ≤ (pAdd p kd nm gd).kd i; rw [ek]; exact o.2.2⟩
theorem SOk.opn {k st : Int} {p : XL} {l : List (Bool × Int)} {k' nm gd : Int} (h : SOk nd (k, st, p, l)) (h40 : st < 40) (hl : l.length < 6) (hn : 0 ≤ nm ∧ nm < nd) (hg : 0 ≤ gd ∧ gd < 8) : SOk nd (k', st + 1, pAdd p 4 nm gd, (false, p.z) :: l) := by
  obtain ⟨a, b, c, d, f⟩ := h
  dsimp only at a b c d f
  refine ⟨by dsimp only; omega, ⟨by show 0 ≤ p.z + 1; omega, by show p.z + 1 + ((if false = true then 0 else 1) + opF l) ≤ 2 * (st + 1); rw [if_neg (by decide)]; omega⟩, by show l.length + 1 ≤ 6; omega, fun i i0 i1 => ?_, fun e i m => ?_⟩
  · have i1' : i < p.z + 1 := i1
    by_cases q : i = p.z
    · subst q
      refine ⟨⟨?_, fun z => ?_, fun _ => ?_⟩, fun _ => Or.inl ⟨false, List.mem_cons_self⟩⟩
      · show 0 ≤ up1 p.kd p.z 4 p.z ∧ up1 p.kd p.z 4 p.z ≤ 5; rw [up1_at]; omega
      · have z : up1 p.kd p.z 4 p.z ≤ 3 := z
        rw [up1_at] at z; omega
      · show (0 ≤ up1 p.nm p.z nm p.z ∧ up1 p.nm p.z nm p.z < nd) ∧ 0 ≤ up1 p.gd p.z gd p.z ∧ up1 p.gd p.z gd p.z < 8; rw [up1_at, up1_at]; exact ⟨hn, hg⟩
    · have o := d i i0 (by omega)
      have ek : (pAdd p 4 nm gd).kd i = p.kd i := up1_ne q
      have en : (pAdd p 4 nm gd).nm i = p.nm i := up1_ne q
      have eg : (pAdd p 4 nm gd).gd i = p.gd i := up1_ne q
      refine ⟨by unfold OrO; rw [ek, en, eg]; exact o.1, fun z => ?_⟩
      rw [ek] at z
      rcases o.2 z with ⟨e, w⟩ | w
      · exact Or.inl ⟨e, List.mem_cons_of_mem _ w⟩
      · right; show i < p.tg i ∧ p.tg i ≤ p.z + 1; omega
  · rcases List.mem_cons.1 m with w | w
    · cases w
      exact ⟨b.1, by show p.z < p.z + 1; omega, by show 4 ≤ up1 p.kd p.z 4 p.z; rw [up1_at]; omega⟩
    · have o := f e i w
      have ek : (pAdd p 4 nm gd).kd i = p.kd i := up1_ne (by omega)
      exact ⟨o.1, by show i < p.z + 1; omega, by show 4 ≤ (pAdd p 4 nm gd).kd i; rw [ek]; exact o.2.2⟩
theorem SOk.land {k st : Int} {p : XL} {l : List (Bool × Int)} {k' i0 : Int} {e0 : Bool} (h : SOk nd (k, st, p, (e0, i0) :: l)) : SOk nd (k', st, pLand p i0, l) := by
  obtain ⟨a, b, c, d, f⟩ := h
  dsimp only at a b c d f
  have b2 : p.z + ((if e0 = true then 0 else 1) + opF l) ≤ 2 * st := b.2
  have t0 := f e0 i0 List.mem_cons_self
  refine ⟨a, ⟨b.1, by show p.z + opF l ≤ 2 * st; split at b2 <;> omega⟩, by have : l.length + 1 ≤ 6 := c; show l.length ≤ 6; omega, fun i j0 j1 => ?_, fun e i m => ?_⟩
  · have o := d i j0 j1
    refine ⟨o.1, fun z => ?_⟩
    by_cases q : i = i0
    · right
      show i < up1 p.tg i0 p.z i ∧ up1 p.tg i0 p.z i ≤ p.z
      rw [q, up1_at]; omega
    · rcases o.2 z with ⟨e, w⟩ | w
      · rcases List.mem_cons.1 w with v | v
        · cases v; exact absurd rfl q
        · exact Or.inl ⟨e, v⟩
      · right
        show i < up1 p.tg i0 p.z i ∧ up1 p.tg i0 p.z i ≤ p.z
        rw [up1_ne q]; exact w
  · exact f e i (List.mem_cons_of_mem _ m)
theorem SOk.els {k st : Int} {p : XL} {l : List (Bool × Int)} {k' i0 : Int} (h : SOk nd (k, st, p, (false, i0) :: l)) : SOk nd (k', st, pLand (pAdd p 5 0 (-1)) i0, (true, p.z) :: l) := by
  obtain ⟨a, b, c, d, f⟩ := h
  dsimp only at a b c d f
  have b2 : p.z + ((if false = true then 0 else 1) + opF l) ≤ 2 * st := b.2
  rw [if_neg (by decide)] at b2
  have t0 := f false i0 List.mem_cons_self
  refine ⟨a, ⟨by show 0 ≤ p.z + 1; omega, by show p.z + 1 + ((if true = true then 0 else 1) + opF l) ≤ 2 * st; rw [if_pos rfl]; omega⟩, c, fun i j0 j1 => ?_, fun e i m => ?_⟩
  · have j1' : i < p.z + 1 := j1
    by_cases q : i = p.z
    · subst q
      refine ⟨⟨?_, fun z => ?_, fun z => ?_⟩, fun _ => Or.inl ⟨true, List.mem_cons_self⟩⟩
      · show 0 ≤ up1 p.kd p.z 5 p.z ∧ up1 p.kd p.z 5 p.z ≤ 5; rw [up1_at]; omega
      · have z : up1 p.kd p.z 5 p.z ≤ 3 := z
        rw [up1_at] at z; omega
      · have z : up1 p.kd p.z 5 p.z = 4 := z
        rw [up1_at] at z; omega
    · have o := d i j0 (by omega)
      have ek : (pLand (pAdd p 5 0 (-1)) i0).kd i = p.kd i := up1_ne q
      have en : (pLand (pAdd p 5 0 (-1)) i0).nm i = p.nm i := up1_ne q
      have eg : (pLand (pAdd p 5 0 (-1)) i0).gd i = p.gd i := up1_ne q
      refine ⟨by unfold OrO; rw [ek, en, eg]; exact o.1, fun z => ?_⟩
      rw [ek] at z
      by_cases w : i = i0
      · right
        show i < up1 p.tg i0 (p.z + 1) i ∧ up1 p.tg i0 (p.z + 1) i ≤ p.z + 1
        rw [w, up1_at]; omega
      · rcases o.2 z with ⟨e, v⟩ | v
        · rcases List.mem_cons.1 v with u | u
          · cases u; exact absurd rfl w
          · exact Or.inl ⟨e, List.mem_cons_of_mem _ u⟩
        · right
          show i < up1 p.tg i0 (p.z + 1) i ∧ up1 p.tg i0 (p.z + 1) i ≤ p.z + 1
          rw [up1_ne w]; omega
  · rcases List.mem_cons.1 m with w | w
    · cases w
      exact ⟨b.1, by show p.z < p.z + 1; omega, by show 4 ≤ up1 p.kd p.z 5 p.z; rw [up1_at]; omega⟩
    · have o := f e i (List.mem_cons_of_mem _ w)
      have ek : (pLand (pAdd p 5 0 (-1)) i0).kd i = p.kd i := up1_ne (by omega)
      exact ⟨o.1, by show i < p.z + 1; omega, by show 4 ≤ (pLand (pAdd p 5 0 (-1)) i0).kd i; rw [ek]; exact o.2.2⟩
theorem SOk.ok {k st : Int} {p : XL} (h : SOk nd (k, st, p, [])) : p.ok nd := by
  obtain ⟨a, b, c, d, f⟩ := h
  dsimp only at a b c d f
  have b2 : p.z + 0 ≤ 2 * st := b.2
  refine ⟨by omega, fun i i0 i1 => ?_⟩
  have o := d i i0 i1
  refine ⟨o.1.1, fun z => ?_, o.1.2.1, o.1.2.2⟩
  rcases o.2 z with ⟨e, w⟩ | w
  · cases w
  · exact w
theorem way_if {k : Int} (h : ¬ τ.way k = -1) : τ.is k sW_if = false := by
  cases z : τ.is k sW_if with
  | false => rfl
  | true =>
    exfalso
    apply h
    unfold XT.is at z
    have z := (of_decide_eq_true z).2
    have n : ∀ w : List Int, ¬ encL w = encL sW_if → τ.is k w = false := fun w hw => by
      unfold XT.is
      rw [decide_eq_false_iff_not]
      rintro ⟨_, q⟩
      exact hw (q.symm.trans z)
    unfold XT.way
    rw [n sW_right (by decide), n sW_left (by decide), n sW_up (by decide), n sW_down (by decide)]
    rfl
end PLM
