/-! digging: tries are few; a cost counted 1024 times or 10000 times comes to the same -/
def vlN (x : Nat) : Bool := decide (x % 7 + x / 7 % 7 + x / 49 % 7 + x / 343 % 7 ≤ 6)
def cnV : Nat → Nat
  | 0 => 0
  | n + 1 => cnV n + if vlN n = true then 1 else 0
theorem cnV_all : cnV 2401 = 210 := by decide +kernel
section DW
variable {B : XB} {U : Int} {v u : Int → Int}
def isS (B : XB) (x s : Int) : Prop := 0 ≤ s ∧ s < 5 ^ B.w.toNat ∧ cds B s = x
/-- the cost by code -/
noncomputable def dQ (B : XB) (v : Int → Int) (x : Int) : Int := @ite _ (isS B x (Classical.epsilon (isS B x))) (Classical.propDecidable _) (v (Classical.epsilon (isS B x))) 1000000000000000
theorem dQ_at {s : Int} (hv : DSl B U v) (hU : 0 ≤ U) (ho : B.ok) (a : 0 ≤ s) (b : s < 5 ^ B.w.toNat) : dQ B v (cds B s) = v s := by
  have sp : isS B (cds B s) (Classical.epsilon (isS B (cds B s))) := Classical.epsilon_spec (p := isS B (cds B s)) ⟨s, a, b, rfl⟩
  unfold dQ
  rw [if_pos sp]
  exact hv.same hU ho sp.1 sp.2.1 a b sp.2.2
theorem cds_in {s : Int} (ho : B.ok) : 0 ≤ cds B s ∧ cds B s < 2401 := by
  have o := ho.1
  exact (cde_cnt (v := vs s) (n := B.w.toNat) (by omega) (fun k _ _ => vs_in s k)).2.1
theorem dQ_vl {x : Nat} (ho : B.ok) (h : dQ B v x < 1000000000000000) : vlN x = true := by
  have o := ho.1
  unfold dQ at h
  by_cases q : isS B (x : Int) (Classical.epsilon (isS B (x : Int)))
  · have a := cde_cnt (v := vs (Classical.epsilon (isS B (x : Int)))) (n := B.w.toNat) (by omega) (fun k _ _ => vs_in _ k)
    have sa := cnt_sum (v := vs (Classical.epsilon (isS B (x : Int)))) (n := B.w.toNat) (fun k _ _ => vs_in _ k)
    have c0 := cnt_in (vs (Classical.epsilon (isS B (x : Int)))) 0 B.w.toNat
    have e : cde (vs (Classical.epsilon (isS B (x : Int)))) B.w.toNat = x := q.2.2
    rw [e] at a
    unfold vlN
    simp only [decide_eq_true_eq]
    have q2 : ((x % 7 + x / 7 % 7 + x / 49 % 7 + x / 343 % 7 : Nat) : Int) = (x : Int) % 7 + (x : Int) / 7 % 7 + (x : Int) / 49 % 7 + (x : Int) / 343 % 7 := by
      simp only [Int.natCast_add, Int.natCast_emod, Int.natCast_ediv]; rfl
    rw [← a.2.2.1, ← a.2.2.2.1, ← a.2.2.2.2.1, ← a.2.2.2.2.2] at sa
    generalize (x : Int) % 7 = y1 at *
    generalize (x : Int) / 7 % 7 = y2 at *
    generalize (x : Int) / 49 % 7 = y3 at *
    generalize (x : Int) / 343 % 7 = y4 at *
    omega
  · rw [if_neg q] at h; omega
theorem cntL_dQ (ho : B.ok) {x : Int} (hx : x ≤ 1000000000000000) : ∀ n : Nat, cntL (dQ B v) x n ≤ cnV n := by
  intro n
  induction n with
  | zero => exact Nat.le_refl _
  | succ n ih =>
    unfold cntL cnV
    by_cases q : dQ B v n < x
    · rw [if_pos q, if_pos (dQ_vl (v := v) (x := n) ho (by omega))]; omega
    · rw [if_neg q]; omega
/-- few tries, small costs -/
theorem DSl.few (hv : DSl B U v) (hU : 1000 ≤ U ∧ U ≤ 10000) (ho : B.ok) : ∀ (N : Nat) (s : Int), 0 ≤ s → s < 5 ^ B.w.toNat → v s < N → v s < 1000000000000000 → v s % U ≤ cntL (dQ B v) (v s) 2401 ∧ v s ≤ 990001 * cntL (dQ B v) (v s) 2401 := by
  have o := ho.1
  intro N
  induction N with
  | zero => intro s a b q; have := (hv.2 s a (by rw [p5c]; exact b)).1; omega
  | succ N ih =>
    intro s a b q1 q2
    by_cases z : s = 0
    · rw [z, hv.zero]
      have : (0 : Int) % U = 0 := Int.zero_emod U
      omega
    · obtain ⟨t, w, ht, hw, w6, hf, he⟩ := hv.way (by omega) b q2
      have op := ho.2.2.2.2 t ht.1 ht.2
      have n1 := dnx_in B s (6 * t + w)
      have v1 := hv.2 _ n1.1 (by rw [p5c]; exact n1.2)
      have mp := Int.mul_nonneg (show 0 ≤ U by omega) (show 0 ≤ B.pr t by omega)
      have mp2 := mul_in (a := U) (b := B.pr t) (A := 10000) (B := 99) (by omega) (by omega)
      have i := ih _ n1.1 n1.2 (by omega) hf
      have dq := dQ_at hv (by omega) ho n1.1 n1.2
      have ci := cds_in (s := dnx B s (6 * t + w)) ho
      have lt := cntL_lt (v := dQ B v) (n := 2401) (x := v (dnx B s (6 * t + w))) (y := v s) (c := cds B (dnx B s (6 * t + w))) ci.1 ci.2 (by rw [dq]; exact Int.le_refl _) (by rw [dq]; omega)
      have bn := cntL_dQ (v := v) ho (x := v s) (by omega) 2401
      rw [cnV_all] at bn
      have em : v s % U = v (dnx B s (6 * t + w)) % U + 1 := by
        rw [he, show v (dnx B s (6 * t + w)) + (U * B.pr t + 1) = v (dnx B s (6 * t + w)) + 1 + U * B.pr t by omega, Int.add_mul_emod_self_left, Int.add_emod]
        have i0 := Int.emod_nonneg (v (dnx B s (6 * t + w))) (b := U) (by omega)
        rw [Int.emod_eq_of_lt (show (0 : Int) ≤ 1 by decide) (show (1 : Int) < U by omega), Int.emod_eq_of_lt (by omega) (by omega)]
      refine ⟨by omega, ?_⟩
      have : (990001 : Int) * ((cntL (dQ B v) (v (dnx B s (6 * t + w))) 2401 : Int) + 1) ≤ 990001 * (cntL (dQ B v) (v s) 2401 : Int) := Int.mul_le_mul_of_nonneg_left (by omega) (by decide)
      omega
theorem DSl.small {s : Int} (hv : DSl B U v) (hU : 1000 ≤ U ∧ U ≤ 10000) (ho : B.ok) (a : 0 ≤ s) (b : s < 5 ^ B.w.toNat) (hf : v s < 1000000000000000) : (0 ≤ v s % U ∧ v s % U ≤ 210) ∧ v s ≤ 207900210 := by
  have v0 := (hv.2 s a (by rw [p5c]; exact b)).1
  have f := hv.few hU ho ((v s).toNat + 1) s a b (by omega) hf
  have bn := cntL_dQ (v := v) ho (x := v s) (by omega) 2401
  rw [cnV_all] at bn
  have i0 := Int.emod_nonneg (v s) (b := U) (by omega)
  omega
/-- the same, counted otherwise -/
def cnv (x : Int) : Int := if 1000000000000000 ≤ x then 1000000000000000 else 1024 * (x / 10000) + x % 10000
theorem DSl.conv (hv : DSl B 10000 v) (ho : B.ok) : DSl B 1024 (fun s => cnv (v s)) := by
  have o := ho.1
  have sm := fun s a b hf => hv.small (s := s) (by decide) ho a b hf
  have cb : ∀ s : Int, 0 ≤ s → s < 5 ^ B.w.toNat → (cnv (v s) < 1000000000000000 ↔ v s < 1000000000000000) ∧ (v s < 1000000000000000 → cnv (v s) = 1024 * (v s / 10000) + v s % 10000 ∧ 0 ≤ cnv (v s) ∧ cnv (v s) ≤ 300000000) ∧ (0 ≤ cnv (v s) ∧ cnv (v s) ≤ 1000000000000000) := fun s a b => by
    have v0 := hv.2 s a (by rw [p5c]; exact b)
    unfold cnv
    by_cases q : v s < 1000000000000000
    · have := sm s a b q
      rw [if_neg (by omega)]
      refine ⟨⟨fun _ => q, fun _ => by omega⟩, fun _ => ⟨rfl, by omega⟩, by omega⟩
    · rw [if_pos (by omega)]
      exact ⟨⟨fun z => by omega, fun z => absurd z q⟩, fun z => absurd z q, by decide⟩
  refine ⟨fun s a b => ?_, fun s a b => (cb s a (by rw [← p5c]; exact b)).2.2⟩
  rw [p5c] at b
  by_cases z : s = 0
  · rw [if_pos (by simp [z]), z]
    show cnv (v 0) = 0
    rw [hv.zero]; rfl
  · rw [if_neg (by simp [z])]
    have le := lowK_le (nx := dnx B) (co := fun _ i => dco B 1024 i) (v := fun s => cnv (v s)) s 36
    have cs := cb s a b
    -- not above
    have up : lowK (dnx B) (fun _ i => dco B 1024 i) (fun s => cnv (v s)) s 36 ≤ cnv (v s) := by
      by_cases q : v s < 1000000000000000
      · obtain ⟨t, w, ht, hw, w6, hf, he⟩ := hv.way (by omega) b q
        have op := ho.2.2.2.2 t ht.1 ht.2
        have n1 := dnx_in B s (6 * t + w)
        have c1 := cb _ n1.1 n1.2
        have s1 := sm _ n1.1 n1.2 hf
        have ec : dco B 1024 (6 * t + w) = 1024 * B.pr t + 1 := by unfold dco; rw [show (6 * t + w) / 6 = t by omega, show (6 * t + w) % 6 = w by omega, if_pos ⟨ht.2, hw.2⟩]
        have l := lowK_all (nx := dnx B) (co := fun _ i => dco B 1024 i) (v := fun s => cnv (v s)) s 36 (6 * t + w) (by omega) (by omega) (by rw [ec]; omega) (c1.1.mpr hf)
        rw [ec] at l
        have e1 := (c1.2.1 hf).1
        have e2 := (cs.2.1 q).1
        have d1 : v s / 10000 = v (dnx B s (6 * t + w)) / 10000 + B.pr t := by omega
        have d2 : v s % 10000 = v (dnx B s (6 * t + w)) % 10000 + 1 := by omega
        omega
      · have : cnv (v s) = 1000000000000000 := by
          have := cs.2.2
          have : ¬ cnv (v s) < 1000000000000000 := fun w => q (cs.1.mp w)
          omega
        omega
    have dn : cnv (v s) ≤ lowK (dnx B) (fun _ i => dco B 1024 i) (fun s => cnv (v s)) s 36 := by
      rcases lowK_way (nx := dnx B) (co := fun _ i => dco B 1024 i) (v := fun s => cnv (v s)) s 36 with e | ⟨i, i0, i1, i2, i3, i4⟩
      · rw [e]; exact cs.2.2.2
      · rw [i4]
        unfold dco at i2
        by_cases q : i / 6 < B.t ∧ i % 6 < B.w
        · have n1 := dnx_in B s i
          have c1 := cb _ n1.1 n1.2
          have hf := c1.1.mp i3
          have s1 := sm _ n1.1 n1.2 hf
          have op := ho.2.2.2.2 (i / 6) (by omega) q.1
          have ei : 6 * (i / 6) + i % 6 = i := by omega
          have al := hv.all (t := i / 6) (w := i % 6) (by decide) ho (by omega) b ⟨by omega, q.1⟩ ⟨by omega, q.2⟩ (by rw [ei]; exact hf)
          rw [ei] at al
          have ec : dco B 1024 i = 1024 * B.pr (i / 6) + 1 := by unfold dco; rw [if_pos q]
          rw [ec]
          have vf : v s < 1000000000000000 := by omega
          have s2 := sm s a b vf
          have e1 := (c1.2.1 hf).1
          have e2 := (cs.2.1 vf).1
          rw [e1, e2]
          generalize B.pr (i / 6) = pp at *
          generalize hy : v (dnx B s i) = y at *
          generalize hx : v s = x at *
          have t1 : x / 10000 ≤ y / 10000 + pp := by omega
          by_cases tq : x / 10000 = y / 10000 + pp
          · have : x % 10000 ≤ y % 10000 + 1 := by omega
            omega
          · omega
        · rw [if_neg q] at i2; omega
    show cnv (v s) = _
    omega
end DW
