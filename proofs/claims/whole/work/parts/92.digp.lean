/-! digging: the tries that lead out, one by one -/
/-- the class's least costs -/
noncomputable def cV (B : XB) : Int → Int := fun s => cnv (dS B s)
/-- the first try that keeps the least cost -/
noncomputable def btI (B : XB) (s : Int) : Int := fst1 (fun i => decide (i / 6 < B.t ∧ i % 6 < B.w ∧ dS B (dnx B s i) < 1000000000000000 ∧ dS B (dnx B s i) + (10000 * B.pr (i / 6) + 1) = dS B s)) 36 0
noncomputable def bst (B : XB) (s : Int) : Int := 10 * (btI B s / 6) + btI B s % 6
noncomputable def dpo (B : XB) (s : Int) : Nat → Int
  | 0 => s
  | n + 1 => dnx B (dpo B s n) (btI B (dpo B s n))
section DP
variable {B : XB} {s t w : Int}
theorem cV_sol (ho : B.ok) : DSl B 1024 (cV B) := DSl.conv (dS_sol B) ho
theorem dS_in (a : 0 ≤ s) (b : s < 5 ^ B.w.toNat) : 0 ≤ dS B s ∧ dS B s ≤ 1000000000000000 := (dS_sol B).2 s a (by rw [p5c]; exact b)
theorem dS_small (ho : B.ok) (a : 0 ≤ s) (b : s < 5 ^ B.w.toNat) (hf : dS B s < 1000000000000000) : (0 ≤ dS B s % 10000 ∧ dS B s % 10000 ≤ 210) ∧ dS B s ≤ 207900210 := (dS_sol B).small (by decide) ho a b hf
theorem btI_spec (ho : B.ok) (h0 : 0 < s) (h1 : s < 5 ^ B.w.toNat) (hf : dS B s < 1000000000000000) : (0 ≤ btI B s / 6 ∧ btI B s / 6 < B.t) ∧ (0 ≤ btI B s % 6 ∧ btI B s % 6 < B.w) ∧ btI B s = 6 * (btI B s / 6) + btI B s % 6 ∧ dS B (dnx B s (btI B s)) < 1000000000000000 ∧ dS B (dnx B s (btI B s)) + (10000 * B.pr (btI B s / 6) + 1) = dS B s := by
  have o := ho.1
  obtain ⟨t, w, ht, hw, w6, hf', e⟩ := (dS_sol B).way h0 h1 hf
  rcases fst1_spec (f := fun i => decide (i / 6 < B.t ∧ i % 6 < B.w ∧ dS B (dnx B s i) < 1000000000000000 ∧ dS B (dnx B s i) + (10000 * B.pr (i / 6) + 1) = dS B s)) 36 0 with ⟨_, no⟩ | ⟨a, b, c, _⟩
  · have q := no (6 * t + w) (by omega) (by omega)
    rw [decide_eq_false_iff_not, show (6 * t + w) / 6 = t by omega, show (6 * t + w) % 6 = w by omega] at q
    exact absurd ⟨ht.2, hw.2, hf', e.symm⟩ q
  · have q := of_decide_eq_true c
    have a' : 0 ≤ btI B s := a
    have q' : btI B s / 6 < B.t ∧ btI B s % 6 < B.w ∧ dS B (dnx B s (btI B s)) < 1000000000000000 ∧ dS B (dnx B s (btI B s)) + (10000 * B.pr (btI B s / 6) + 1) = dS B s := q
    exact ⟨⟨by omega, q'.1⟩, ⟨by omega, q'.2.1⟩, by omega, q'.2.2.1, q'.2.2.2⟩
theorem dS_next (ho : B.ok) (h0 : 0 < s) (h1 : s < 5 ^ B.w.toNat) (hf : dS B s < 1000000000000000) : dS B (dnx B s (btI B s)) % 10000 + 1 = dS B s % 10000 := by
  obtain ⟨_, _, _, f, e⟩ := btI_spec ho h0 h1 hf
  have n := dnx_in B s (btI B s)
  have sm := dS_small ho n.1 n.2 f
  omega
theorem dS_pos (ho : B.ok) (h0 : 0 < s) (h1 : s < 5 ^ B.w.toNat) (hf : dS B s < 1000000000000000) : 1 ≤ dS B s % 10000 := by
  obtain ⟨_, _, _, f, e⟩ := btI_spec ho h0 h1 hf
  have n := dnx_in B s (btI B s)
  have sm := dS_small ho n.1 n.2 f
  have := dS_next ho h0 h1 hf
  omega
theorem dS_zero : dS B 0 = 0 := (dS_sol B).zero
theorem dpo_at (ho : B.ok) (h0 : 0 ≤ s) (h1 : s < 5 ^ B.w.toNat) (hf : dS B s < 1000000000000000) : ∀ n : Nat, (n : Int) ≤ dS B s % 10000 → (0 ≤ dpo B s n ∧ dpo B s n < 5 ^ B.w.toNat) ∧ dS B (dpo B s n) < 1000000000000000 ∧ dS B (dpo B s n) % 10000 = dS B s % 10000 - n ∧ ((n : Int) < dS B s % 10000 → 0 < dpo B s n) ∧ ((n : Int) = dS B s % 10000 → dpo B s n = 0) := by
  intro n
  have fin : ∀ x : Int, 0 ≤ x → x < 5 ^ B.w.toNat → dS B x < 1000000000000000 → dS B x % 10000 = dS B s % 10000 - n → ((n : Int) < dS B s % 10000 → 0 < x) ∧ ((n : Int) = dS B s % 10000 → x = 0) := by
    intro x a b c e
    constructor
    · intro q
      by_cases z : x = 0
      · rw [z, dS_zero] at e; omega
      · omega
    · intro q
      by_cases z : x = 0
      · exact z
      · have := dS_pos ho (by omega) b c
        omega
  induction n with
  | zero => intro _; exact ⟨⟨h0, h1⟩, hf, by show dS B s % 10000 = _; omega, fin s h0 h1 hf (by omega)⟩
  | succ n ih =>
    intro hn
    have fin' : ∀ x : Int, 0 ≤ x → x < 5 ^ B.w.toNat → dS B x < 1000000000000000 → dS B x % 10000 = dS B s % 10000 - ((n + 1 : Nat) : Int) → (((n + 1 : Nat) : Int) < dS B s % 10000 → 0 < x) ∧ (((n + 1 : Nat) : Int) = dS B s % 10000 → x = 0) := fin
    have fin0 : ∀ x : Int, 0 ≤ x → x < 5 ^ B.w.toNat → dS B x < 1000000000000000 → dS B x % 10000 = dS B s % 10000 - (n : Int) → ((n : Int) < dS B s % 10000 → 0 < x) ∧ ((n : Int) = dS B s % 10000 → x = 0) := by
      intro x a b c e
      constructor
      · intro q
        by_cases z : x = 0
        · rw [z, dS_zero] at e; omega
        · omega
      · intro q
        by_cases z : x = 0
        · exact z
        · have := dS_pos ho (by omega) b c
          omega
    obtain ⟨r, f, m, p, _⟩ := ih fin0 (by omega)
    have p0 := p (by omega)
    have nx := dS_next ho p0 r.2 f
    have sp := btI_spec ho p0 r.2 f
    have n1 := dnx_in B (dpo B s n) (btI B (dpo B s n))
    have e : dS B (dpo B s (n + 1)) % 10000 = dS B s % 10000 - ((n + 1 : Nat) : Int) := by
      show dS B (dnx B (dpo B s n) (btI B (dpo B s n))) % 10000 = _
      omega
    exact ⟨n1, sp.2.2.2.1, e, fin' _ n1.1 n1.2 sp.2.2.2.1 e⟩
theorem cnv_fin {x : Int} (h : x < 1000000000000000) : cnv x = 1024 * (x / 10000) + x % 10000 := if_neg (by omega)
theorem tgt_cV (ho : B.ok) (a : 0 ≤ s) (b : s < 5 ^ B.w.toNat) : tgt (cV B) s = if dS B s < 1000000000000000 then 1024 * (dS B s / 10000) + dS B s % 10000 else 536870912 := by
  unfold tgt cV
  by_cases f : dS B s < 1000000000000000
  · have sm := dS_small ho a b f
    have i := dS_in a b
    rw [cnv_fin f, if_pos f, if_pos (by omega)]
  · rw [if_neg f, if_neg (by unfold cnv; rw [if_pos (by omega)]; omega)]
theorem gd_iff (ho : B.ok) (ht : 0 ≤ t ∧ t < B.t) (h0 : 0 < s) (h1 : s < 5 ^ B.w.toNat) (hf : dS B s < 1000000000000000) : Gd B (cV B) s t w ↔ dS B (dnx B s (6 * t + w)) < 1000000000000000 ∧ dS B (dnx B s (6 * t + w)) + (10000 * B.pr t + 1) = dS B s := by
  have op := ho.2.2.2.2 t ht.1 ht.2
  have n := dnx_in B s (6 * t + w)
  unfold Gd
  rw [tgt_cV ho n.1 n.2, tgt_cV ho (by omega) h1, if_pos hf]
  have sm := dS_small ho (by omega) h1 hf
  have i := dS_in (B := B) n.1 n.2
  by_cases f : dS B (dnx B s (6 * t + w)) < 1000000000000000
  · have sn := dS_small ho n.1 n.2 f
    rw [if_pos f]
    generalize dS B (dnx B s (6 * t + w)) = x at *
    generalize dS B s = y at *
    constructor
    · intro q; exact ⟨f, by omega⟩
    · intro q; have := q.2; omega
  · rw [if_neg f]
    constructor
    · intro q
      exfalso
      omega
    · intro q; exact absurd q.1 f
theorem best_of (ho : B.ok) (h0 : 0 < s) (h1 : s < 5 ^ B.w.toNat) (hf : dS B s < 1000000000000000) (ht : 0 ≤ t ∧ t < B.t) (hw : 0 ≤ w ∧ w < B.w) (g : dS B (dnx B s (6 * t + w)) < 1000000000000000 ∧ dS B (dnx B s (6 * t + w)) + (10000 * B.pr t + 1) = dS B s) (mn : ∀ t' w', 0 ≤ t' ∧ t' < B.t → 0 ≤ w' ∧ w' < B.w → t' < t ∨ t' = t ∧ w' < w → ¬ (dS B (dnx B s (6 * t' + w')) < 1000000000000000 ∧ dS B (dnx B s (6 * t' + w')) + (10000 * B.pr t' + 1) = dS B s)) : btI B s = 6 * t + w := by
  have o := ho.1
  refine fst1_at (by omega) (by omega) ?_ (fun i a b => ?_)
  · rw [decide_eq_true_iff, show (6 * t + w) / 6 = t by omega, show (6 * t + w) % 6 = w by omega]
    exact ⟨ht.2, hw.2, g.1, g.2⟩
  · rw [decide_eq_false_iff_not]
    intro q
    refine mn (i / 6) (i % 6) ⟨by omega, q.1⟩ ⟨by omega, q.2.1⟩ (by omega) ?_
    rw [show 6 * (i / 6) + i % 6 = i by omega]
    exact q.2.2
theorem cds_s5 {v : Int → Int} (hv : ∀ k : Int, 0 ≤ k → k < B.w → 0 ≤ v k ∧ v k ≤ 4) : cds B (s5 v B.w.toNat) = cde v B.w.toNat := by
  unfold cds cde
  exact sumTo_congr (fun k a b => by rw [s5_dig (fun k a b => hv k a (by omega)) k a b])
theorem s5_ok (ho : B.ok) {v : Int → Int} (hv : ∀ k : Int, 0 ≤ k → k < B.w → 0 ≤ v k ∧ v k ≤ 4) : 0 ≤ s5 v B.w.toNat ∧ s5 v B.w.toNat < 5 ^ B.w.toNat := s5_in (fun k a b => hv k a (by omega))
end DP
/-- the answer of tryAt -/
noncomputable def tryR (B : XB) (s i : Int) : Int := if dS B s < 1000000000000000 ∧ i < dS B s % 10000 then bst B (dpo B s i.toNat) else -2
