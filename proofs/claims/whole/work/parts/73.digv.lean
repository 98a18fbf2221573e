/-! digging: states of wheels, least costs -/
def s5 (d : Int → Int) : Nat → Int
  | 0 => 0
  | n + 1 => s5 d n + 5 ^ n * d n
def vs (s k : Int) : Int := s / 5 ^ k.toNat % 5
theorem p5 (n : Nat) : (1 : Int) ≤ 5 ^ n := by
  induction n with
  | zero => decide
  | succ n ih => rw [Int.pow_succ]; omega
theorem vs_in (s k : Int) : 0 ≤ vs s k ∧ vs s k ≤ 4 := by unfold vs; omega
theorem s5_in {d : Int → Int} {n : Nat} (hd : ∀ k : Int, 0 ≤ k → k < n → 0 ≤ d k ∧ d k ≤ 4) : 0 ≤ s5 d n ∧ s5 d n < 5 ^ n := by
  induction n with
  | zero => show (0 : Int) ≤ 0 ∧ (0 : Int) < 1; decide
  | succ n ih =>
    have i := ih (fun k a b => hd k a (by omega))
    have b := hd n (by omega) (by omega)
    have p := p5 n
    show 0 ≤ s5 d n + 5 ^ n * d n ∧ s5 d n + 5 ^ n * d n < 5 ^ (n + 1)
    have m1 := Int.mul_nonneg (show 0 ≤ (5 : Int) ^ n by omega) b.1
    have m2 : (5 : Int) ^ n * d n ≤ 5 ^ n * 4 := Int.mul_le_mul_of_nonneg_left b.2 (by omega)
    rw [Int.pow_succ]
    omega
theorem s5_dig {d : Int → Int} {n : Nat} (hd : ∀ k : Int, 0 ≤ k → k < n → 0 ≤ d k ∧ d k ≤ 4) : ∀ j : Int, 0 ≤ j → j < n → vs (s5 d n) j = d j := by
  induction n with
  | zero => intro j a b; omega
  | succ n ih =>
    intro j a b
    have i := ih (fun k a b => hd k a (by omega))
    have sn := s5_in (n := n) (fun k a b => hd k a (by omega))
    have bn := hd n (by omega) (by omega)
    have p := p5 n
    show (s5 d n + 5 ^ n * d n) / 5 ^ j.toNat % 5 = d j
    by_cases q : j = n
    · subst q
      rw [Int.toNat_natCast, Int.add_mul_ediv_left _ _ (by omega), Int.ediv_eq_zero_of_lt sn.1 sn.2]
      omega
    · have e : (5 : Int) ^ n = 5 ^ j.toNat * (5 * 5 ^ (n - j.toNat - 1)) := by
        rw [← Int.mul_assoc, ← Int.pow_succ, ← Int.pow_add]
        congr 1; omega
      have pj := p5 j.toNat
      rw [e, Int.mul_assoc, Int.add_mul_ediv_left _ _ (by omega), Int.mul_assoc, Int.add_mul_emod_self_left]
      exact i j a (by omega)
theorem vs_ext {n : Nat} : ∀ (s t : Int), 0 ≤ s → s < 5 ^ n → 0 ≤ t → t < 5 ^ n → (∀ k : Int, 0 ≤ k → k < n → vs s k = vs t k) → s = t := by
  induction n with
  | zero => intro s t a b c e _; simp at b e; omega
  | succ n ih =>
    intro s t a b c e h
    have h0 := h 0 (by omega) (by omega)
    unfold vs at h0
    rw [show (5 : Int) ^ (0 : Int).toNat = 1 by decide] at h0
    rw [Int.pow_succ] at b e
    have i := ih (s / 5) (t / 5) (by omega) (by omega) (by omega) (by omega) (fun k k0 k1 => by
      have := h (k + 1) (by omega) (by omega)
      unfold vs at this ⊢
      rw [show (k + 1).toNat = k.toNat + 1 by omega, Int.pow_succ, Int.mul_comm, ← Int.ediv_ediv_of_nonneg (by decide), ← Int.ediv_ediv_of_nonneg (by decide)] at this
      exact this)
    omega
/-- a state, by its wheels -/
theorem s5_vs {n : Nat} {s : Int} (h0 : 0 ≤ s) (h1 : s < 5 ^ n) : s5 (vs s) n = s := by
  have i := s5_in (d := vs s) (n := n) (fun k _ _ => vs_in s k)
  exact vs_ext (n := n) _ _ i.1 i.2 h0 h1 (fun k a b => s5_dig (fun k _ _ => vs_in s k) k a b)
def dnx (B : XB) (s i : Int) : Int := s5 (mvd (B.ea (i / 6)) (B.on (i / 6)) (vs s) (i % 6)) B.w.toNat
def dco (B : XB) (U i : Int) : Int := if i / 6 < B.t ∧ i % 6 < B.w then U * B.pr (i / 6) + 1 else 0
/-- least costs of getting out, a cost counted U times a try -/
def DSl (B : XB) (U : Int) (v : Int → Int) : Prop := FixM (5 ^ B.w.toNat) 36 (fun s => decide (s = 0)) (fun _ => 0) (dnx B) (fun _ i => dco B U i) v ∧ ∀ s : Int, 0 ≤ s → s < ((5 ^ B.w.toNat : Nat) : Int) → 0 ≤ v s ∧ v s ≤ 1000000000000000
section DV
variable {B : XB} {U : Int} {v u : Int → Int}
theorem mvd_in (e o : Int) (v : Int → Int) (w k : Int) : 0 ≤ mvd e o v w k ∧ mvd e o v w k ≤ 4 := clp_in _
theorem p5c (n : Nat) : ((5 ^ n : Nat) : Int) = 5 ^ n := by
  induction n with
  | zero => rfl
  | succ n ih => rw [Nat.pow_succ, Int.natCast_mul, ih, Int.pow_succ]; rfl
theorem dnx_in (B : XB) (s i : Int) : 0 ≤ dnx B s i ∧ dnx B s i < 5 ^ B.w.toNat := s5_in (fun k _ _ => mvd_in _ _ _ _ k)
theorem DSl.nice : NiceM (5 ^ B.w.toNat) 36 (fun s => decide (s = 0)) (fun _ => 0) (dnx B) (fun _ i => dco B U i) :=
  ⟨fun c w _ _ _ _ _ => by rw [p5c]; exact dnx_in B c w, fun _ _ _ _ => by show (0 : Int) ≤ 0 ∧ (0 : Int) ≤ 1000000000000000; decide⟩
theorem DSl.ex : ∃ v, DSl B U v := FixM.ex DSl.nice
theorem DSl.uniq (hv : DSl B U v) (hu : DSl B U u) {s : Int} (h0 : 0 ≤ s) (h1 : s < ((5 ^ B.w.toNat : Nat) : Int)) : v s = u s :=
  FixM.uniq DSl.nice hv.1 hu.1 (fun c a b => (hv.2 c a b).1) (fun c a b => (hu.2 c a b).1) s h0 h1
theorem DSl.zero (hv : DSl B U v) : v 0 = 0 := by
  have := hv.1 0 (by decide) (by rw [p5c]; have := p5 B.w.toNat; omega)
  rw [if_pos (by decide)] at this
  exact this
theorem DSl.way {s : Int} (hv : DSl B U v) (h0 : 0 < s) (h1 : s < 5 ^ B.w.toNat) (hf : v s < 1000000000000000) : ∃ t w : Int, (0 ≤ t ∧ t < B.t) ∧ (0 ≤ w ∧ w < B.w) ∧ w < 6 ∧ v (dnx B s (6 * t + w)) < 1000000000000000 ∧ v s = v (dnx B s (6 * t + w)) + (U * B.pr t + 1) := by
  obtain ⟨i, i0, i1, i2, i3, i4⟩ := hv.1.way (c := s) (by omega) (by rw [p5c]; exact h1) (by simp; omega) hf
  unfold dco at i2 i4
  by_cases q : i / 6 < B.t ∧ i % 6 < B.w
  · rw [if_pos q] at i4
    refine ⟨i / 6, i % 6, by omega, by omega, by omega, ?_, ?_⟩
    · rw [show 6 * (i / 6) + i % 6 = i by omega]; exact i3
    · rw [show 6 * (i / 6) + i % 6 = i by omega]; exact i4
  · rw [if_neg q] at i2; omega
theorem DSl.all {s t w : Int} (hv : DSl B U v) (hU : 0 ≤ U) (ho : B.ok) (h0 : 0 < s) (h1 : s < 5 ^ B.w.toNat) (ht : 0 ≤ t ∧ t < B.t) (hw : 0 ≤ w ∧ w < B.w) (hf : v (dnx B s (6 * t + w)) < 1000000000000000) : v s ≤ v (dnx B s (6 * t + w)) + (U * B.pr t + 1) := by
  have o := ho.1
  have op := ho.2.2.2.2 t ht.1 ht.2
  have e1 : (6 * t + w) / 6 = t := by omega
  have e2 : (6 * t + w) % 6 = w := by omega
  have ec : dco B U (6 * t + w) = U * B.pr t + 1 := by unfold dco; rw [e1, e2, if_pos ⟨ht.2, hw.2⟩]
  have m := Int.mul_nonneg hU (show 0 ≤ B.pr t by omega)
  have := hv.1.all (c := s) (by omega) (by rw [p5c]; exact h1) (by simp; omega) (w := 6 * t + w) (by omega) (by omega) (by rw [ec]; omega) hf
  rw [ec] at this
  exact this
theorem dnx_tw {s t w : Int} (ho : B.ok) (hw : 0 ≤ w ∧ w < B.w) : dnx B s (6 * t + w) = s5 (mvd (B.ea t) (B.on t) (vs s) w) B.w.toNat := by
  have o := ho.1
  unfold dnx
  rw [show (6 * t + w) / 6 = t by omega, show (6 * t + w) % 6 = w by omega]
/-- the code of a state's counts -/
def cds (B : XB) (s : Int) : Int := cde (vs s) B.w.toNat
theorem cds_dnx {s t w : Int} (ho : B.ok) (hw : 0 ≤ w ∧ w < B.w) : cds B (dnx B s (6 * t + w)) = cda (B.ea t) (B.on t) (cnt (vs s) 0 B.w.toNat) (cnt (vs s) 1 B.w.toNat) (cnt (vs s) 2 B.w.toNat) (cnt (vs s) 3 B.w.toNat) (cnt (vs s) 4 B.w.toNat) (vs s w) := by
  have o := ho.1
  rw [← mvd_code (n := B.w.toNat) ⟨hw.1, by omega⟩ (fun k _ _ => vs_in s k), dnx_tw ho hw]
  unfold cds cde
  refine sumTo_congr (fun k a b => ?_)
  rw [s5_dig (fun k _ _ => mvd_in _ _ _ _ k) k a b]
theorem cds_cnt {s s' : Int} (ho : B.ok) (h : cds B s = cds B s') : ∀ d : Int, 0 ≤ d → d ≤ 4 → cnt (vs s) d B.w.toNat = cnt (vs s') d B.w.toNat := by
  have o := ho.1
  have a := cde_cnt (v := vs s) (n := B.w.toNat) (by omega) (fun k _ _ => vs_in s k)
  have b := cde_cnt (v := vs s') (n := B.w.toNat) (by omega) (fun k _ _ => vs_in s' k)
  have sa := cnt_sum (v := vs s) (n := B.w.toNat) (fun k _ _ => vs_in s k)
  have sb := cnt_sum (v := vs s') (n := B.w.toNat) (fun k _ _ => vs_in s' k)
  unfold cds at h
  rw [h] at a
  intro d d0 d1
  have : d = 0 ∨ d = 1 ∨ d = 2 ∨ d = 3 ∨ d = 4 := by omega
  rcases this with rfl | rfl | rfl | rfl | rfl <;> omega
theorem cds_zero {s : Int} (ho : B.ok) (h0 : 0 ≤ s) (h1 : s < 5 ^ B.w.toNat) : cds B s = 0 ↔ s = 0 := by
  have o := ho.1
  have a := cde_cnt (v := vs s) (n := B.w.toNat) (by omega) (fun k _ _ => vs_in s k)
  have sa := cnt_sum (v := vs s) (n := B.w.toNat) (fun k _ _ => vs_in s k)
  have c1 := cnt_in (vs s) 1 B.w.toNat
  have c2 := cnt_in (vs s) 2 B.w.toNat
  have c3 := cnt_in (vs s) 3 B.w.toNat
  have c4 := cnt_in (vs s) 4 B.w.toNat
  unfold cds
  constructor
  · intro q
    refine vs_ext (n := B.w.toNat) s 0 h0 h1 (by decide) (by have := p5 B.w.toNat; omega) (fun k k0 k1 => ?_)
    have z : vs 0 k = 0 := by unfold vs; simp
    rw [z]
    have b := vs_in s k
    have p := cnt_at (v := vs s) k0 k1
    apply Classical.byContradiction
    intro w
    have : vs s k = 1 ∨ vs s k = 2 ∨ vs s k = 3 ∨ vs s k = 4 := by omega
    rcases this with e | e | e | e <;> rw [e] at p <;> omega
  · intro q
    have z : ∀ d : Int, ¬ d = 0 → cnt (vs s) d B.w.toNat = 0 := fun d hd => by
      have c := cnt_in (vs s) d B.w.toNat
      apply Classical.byContradiction
      intro w
      obtain ⟨k, k0, k1, k2⟩ := cnt_pos (v := vs s) (d := d) (n := B.w.toNat) (by omega)
      rw [q] at k2
      have : vs 0 k = 0 := by unfold vs; simp
      omega
    rw [a.1, z 1 (by decide), z 2 (by decide), z 3 (by decide), z 4 (by decide)]; rfl
/-- costs depend on the counts alone -/
theorem DSl.sym (hv : DSl B U v) (hU : 0 ≤ U) (ho : B.ok) : ∀ (N : Nat) (s s' : Int), 0 ≤ s → s < 5 ^ B.w.toNat → 0 ≤ s' → s' < 5 ^ B.w.toNat → cds B s = cds B s' → v s < N → v s < 1000000000000000 → v s' ≤ v s := by
  have o := ho.1
  intro N
  induction N with
  | zero => intro s s' a b _ _ _ q; have := (hv.2 s a (by rw [p5c]; exact b)).1; omega
  | succ N ih =>
    intro s s' a b a' b' hc q1 q2
    by_cases z : s = 0
    · have : s' = 0 := (cds_zero ho a' b').mp (by rw [← hc]; exact (cds_zero ho a b).mpr z)
      rw [z, this]; exact Int.le_refl _
    · have z' : ¬ s' = 0 := fun w => z ((cds_zero ho a b).mp (by rw [hc]; exact (cds_zero ho a' b').mpr w))
      obtain ⟨t, w, ht, hw, w6, hf, he⟩ := hv.way (by omega) b q2
      have op := ho.2.2.2.2 t ht.1 ht.2
      have m := Int.mul_nonneg hU (show 0 ≤ B.pr t by omega)
      have cc := cds_cnt ho hc
      have p := cnt_at (v := vs s) (n := B.w.toNat) hw.1 (by omega)
      have bw := vs_in s w
      rw [cc _ bw.1 bw.2] at p
      obtain ⟨w', k0, k1, k2⟩ := cnt_pos p
      have hw' : 0 ≤ w' ∧ w' < B.w := ⟨k0, by omega⟩
      have ec : cds B (dnx B s (6 * t + w)) = cds B (dnx B s' (6 * t + w')) := by
        rw [cds_dnx ho hw, cds_dnx ho hw', cc 0 (by decide) (by decide), cc 1 (by decide) (by decide), cc 2 (by decide) (by decide), cc 3 (by decide) (by decide), cc 4 (by decide) (by decide), k2]
      have n1 := dnx_in B s (6 * t + w)
      have n2 := dnx_in B s' (6 * t + w')
      have i := ih _ _ n1.1 n1.2 n2.1 n2.2 ec (by omega) hf
      have := hv.all hU ho (by omega) b' ht hw' (by omega)
      omega
theorem DSl.same {s s' : Int} (hv : DSl B U v) (hU : 0 ≤ U) (ho : B.ok) (a : 0 ≤ s) (b : s < 5 ^ B.w.toNat) (a' : 0 ≤ s') (b' : s' < 5 ^ B.w.toNat) (hc : cds B s = cds B s') : v s = v s' := by
  have v1 := hv.2 s a (by rw [p5c]; exact b)
  have v2 := hv.2 s' a' (by rw [p5c]; exact b')
  have h1 : v s < 1000000000000000 → v s' ≤ v s := fun q => hv.sym hU ho ((v s).toNat + 1) s s' a b a' b' hc (by omega) q
  have h2 : v s' < 1000000000000000 → v s ≤ v s' := fun q => hv.sym hU ho ((v s').toNat + 1) s' s a' b' a b hc.symm (by omega) q
  omega
end DV
