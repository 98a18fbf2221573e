/-! calls, and whole runs -/
theorem xTG_good {w : Cond} (h : w ∈ xTG) : goodWord w = true := (List.mem_filter.mp h).2
theorem xTG_in {ws : List Cond} (h : ∀ w ∈ ws, w ∈ xTG) : GoodIn xTG ws := fun w hw => ⟨h w hw, good_of_word (xTG_good (h w hw))⟩
/-- how a method ends -/
def XEnd (y : YM) (pc : Nat) (v : Option Value) : Prop :=
  (∃ (x : Int32) (ty : FieldType), v = some (.int x) ∧ y.2.2.2.1 = some ty ∧ narrow ty (.int x) = .int x ∧ decode y.2.1 pc = .ok (.ireturn, 1)) ∨
  (∃ x : Int64, v = some (.long x) ∧ y.2.2.2.1 = some .long ∧ decode y.2.1 pc = .ok (.lreturn, 1)) ∨
  (v = none ∧ y.2.2.2.1 = none ∧ decode y.2.1 pc = .ok (.return_, 1))
theorem xend_end {y : YM} {pc : Nat} {r : XRow} {st : List Value} {v : Option Value} (hok : xok y (pc, r) = true) (hE : xisE r = true) (h : xend r st = some v) : XEnd y pc v ∧ st = v.toList := by
  obtain ⟨hd, hln⟩ := xok_dec hok
  unfold xok at hok
  rw [Bool.and_eq_true] at hok
  replace hok := hok.2
  obtain ⟨ins, len, a, b, cd, w⟩ := r
  dsimp only at hd hln hok h
  unfold xend at h
  split at h
  · rename_i x heq
    have heq : ins = .ireturn := heq
    subst heq
    obtain rfl : len = 1 := hln.resolve_left (by intro q; cases q)
    have hr := of_decide_eq_true hok
    dsimp only at hr h
    split at h
    · rename_i h0
      rw [if_pos h0] at hr
      cases h
      exact ⟨Or.inl ⟨x, _, rfl, hr, rfl, hd⟩, rfl⟩
    · rename_i h0
      rw [if_neg h0] at hr
      split at h
      · rename_i h1
        rw [if_pos h1] at hr
        split at h
        · rename_i hx
          cases h
          exact ⟨Or.inl ⟨x, _, rfl, hr, by rcases hx with q | q <;> rw [q] <;> rfl, hd⟩, rfl⟩
        · cases h
      · rename_i h1
        rw [if_neg h1] at hr
        split at h
        · rename_i h2
          rw [if_pos h2] at hr
          split at h
          · rename_i hx
            cases h
            exact ⟨Or.inl ⟨x, _, rfl, hr, hx, hd⟩, rfl⟩
          · cases h
        · rename_i h2
          rw [if_neg h2] at hr
          split at h
          · rename_i hx
            cases h
            exact ⟨Or.inl ⟨x, _, rfl, hr, hx, hd⟩, rfl⟩
          · cases h
  · rename_i x heq
    have heq : ins = .lreturn := heq
    subst heq
    obtain rfl : len = 1 := hln.resolve_left (by intro q; cases q)
    have hr := of_decide_eq_true hok
    cases h
    exact ⟨Or.inr (Or.inl ⟨x, rfl, hr, hd⟩), rfl⟩
  · rename_i heq
    have heq : ins = .return_ := heq
    subst heq
    obtain rfl : len = 1 := hln.resolve_left (by intro q; cases q)
    have hr := of_decide_eq_true hok
    cases h
    exact ⟨Or.inr (Or.inr ⟨rfl, hr, hd⟩), rfl⟩
  · cases h
theorem xop_N {r : XRow} {pc : Nat} {ls st : List Value} {h : XH} {z : XC} (hop : xop r pc ls st h = some z) : gN h ≤ gN z.2.2.2 ∧ gU h ≤ gU z.2.2.2 := by
  obtain ⟨ins, len, a, b, cd, w⟩ := r
  cases ins <;> simp only [xop, xloadI, xloadL, xloadA, xstoreI, xstoreL, xstoreA, xinc, xii, xll, xiiD, xllD, xi, xl, xjmp, xswi, xdup, xdup2, xpop, xget, xput, xstat, xaldI, xaldB, xaldL, xaldA, xastI, xastB, xastL, xastA, xlen, xnewa, xnewo, xobj, xcopy, xled] at hop <;>
    (repeat' (split at hop)) <;> (first | (cases hop; done) | (cases hop; exact ⟨Nat.le_refl _, Nat.le_refl _⟩) | (cases hop; exact ⟨Nat.le_succ _, Nat.le_add_right _ _⟩))
theorem xrun_N : ∀ (n d m pc : Nat) (ls st : List Value) (h : XH) (v : Option Value) (h' : XH), xrun n d m pc ls st h = some (v, h') → gN h ≤ gN h' ∧ gU h ≤ gU h' := by
  intro n
  induction n with
  | zero => intro d m pc ls st h v h' hr; cases hr
  | succ n ih =>
    intro d m pc ls st h v h' hr
    unfold xrun at hr
    split at hr
    · cases hr
    · split at hr
      · split at hr
        · cases hr
        · cases hr; exact ⟨Nat.le_refl _, Nat.le_refl _⟩
      · split at hr
        · split at hr
          · cases hr
          · split at hr
            · cases hr
            · split at hr
              · cases hr
              · rename_i heq
                have h1 := ih _ _ _ _ _ _ _ _ heq
                have h2 := ih _ _ _ _ _ _ _ _ hr
                exact ⟨Nat.le_trans h1.1 h2.1, Nat.le_trans h1.2 h2.2⟩
        · split at hr
          · cases hr
          · rename_i heq
            have h1 := xop_N heq
            have h2 := ih _ _ _ _ _ _ _ _ hr
            exact ⟨Nat.le_trans h1.1 h2.1, Nat.le_trans h1.2 h2.2⟩
