/-! digging: rounds of lessening come to the costs -/
section SU
variable {h h1 : XH} {B : XB} {a0 : Nat} {V : Int → Int} {fl s : Int}
def LX (B : XB) (V : Int → Int) (h : XH) (a0 : Nat) (r : Int) : Prop := ∀ s, 0 ≤ s → s < 5 ^ B.w.toNat → V s < 1000000000000000 → V s % 1024 ≤ r → zA h (a0 + 3) (nmb B (cds B s)) = V s
theorem nmb_pos (ho : B.ok) (a : 0 ≤ s) (b : s < 5 ^ B.w.toNat) (z : ¬ s = 0) : 1 ≤ nmb B (cds B s) ∧ nmb B (cds B s) < nmb B 2401 := by
  have o := ho.1
  have ci := cds_in (s := s) ho
  have nz : ¬ cds B s = 0 := fun q => z ((cds_zero ho a b).mp q)
  have l := nuW_lt (W := B.w) (m := 0) (n := (cds B s).toNat) (by omega) (by show (0 : Int) ≤ B.w; omega)
  have l2 := nuW_lt (W := B.w) (m := (cds B s).toNat) (n := 2401) (by omega) (by rw [show (((cds B s).toNat : Nat) : Int) = cds B s by omega]; exact vld_cds ho)
  have z0 : nuW B.w 0 = 0 := rfl
  have e1 : nmb B (cds B s) = nuW B.w (cds B s).toNat := rfl
  have e2 : nmb B 2401 = nuW B.w 2401 := rfl
  rw [e1, e2]
  omega
theorem DSl.step (hV : DSl B 1024 V) (ho : B.ok) (a : 0 ≤ s) (b : s < 5 ^ B.w.toNat) (z : ¬ s = 0) (hf : V s < 1000000000000000) : ∃ t w : Int, (0 ≤ t ∧ t < B.t) ∧ (0 ≤ w ∧ w < B.w) ∧ (0 ≤ dnx B s (6 * t + w) ∧ dnx B s (6 * t + w) < 5 ^ B.w.toNat) ∧ V (dnx B s (6 * t + w)) < 1000000000000000 ∧ V s = V (dnx B s (6 * t + w)) + (B.pr t * 1024 + 1) ∧ V s % 1024 = V (dnx B s (6 * t + w)) % 1024 + 1 ∧ V (dnx B s (6 * t + w)) < V s := by
  obtain ⟨t, w, ht, hw, w6, lo, he⟩ := hV.way (by omega) b hf
  have n1 := dnx_in B s (6 * t + w)
  have s1 := hV.small (by decide) ho n1.1 n1.2 lo
  have op := ho.2.2.2.2 t ht.1 ht.2
  exact ⟨t, w, ht, hw, n1, lo, by omega, by omega, by omega⟩
theorem LsI.le (ho : B.ok) (I : LsI B V a0 h h1 fl (nmb B 2401) 0) (a : 0 ≤ s) (b : s < 5 ^ B.w.toNat) (z : ¬ s = 0) {t w : Int} (ht : 0 ≤ t ∧ t < B.t) (hw : 0 ≤ w ∧ w < B.w) : zA h1 (a0 + 3) (nmb B (cds B s)) ≤ zA h (a0 + 3) (nmb B (cds B (dnx B s (6 * t + w)))) + (B.pr t * 1024 + 1) := by
  have o := ho.1
  have np := nmb_pos ho a b z
  have vi := vs_in s w
  have e := I.2.2.2.1 s a b np.1 (5 * t + vs s w) (by omega) (by omega) (Or.inl np.2)
  have e1 : (5 * t + vs s w) / 5 = t := by omega
  have e2 : (5 * t + vs s w) % 5 = vs s w := by omega
  rw [e1, e2, nxc_at ho hw] at e
  exact e (cnt_at hw.1 (by omega))
theorem LX.zero (hV : DSl B 1024 V) (ho : B.ok) (hl : LB B V h a0) : LX B V h a0 0 := by
  intro s a b hf q
  by_cases z : s = 0
  · have : cds B s = 0 := (cds_zero ho a b).mpr z
    rw [this, z, hV.zero]
    exact hl.1
  · obtain ⟨t, w, ht, hw, n1, lo, he, hm, hlt⟩ := hV.step ho a b z hf
    omega
theorem LX.step {r : Int} (hV : DSl B 1024 V) (ho : B.ok) (I : LsI B V a0 h h1 fl (nmb B 2401) 0) (hx : LX B V h a0 r) : LX B V h1 a0 (r + 1) := by
  intro s a b hf q
  have lb := (I.2.2.1.2 s a b).1
  rw [show tgt V s = V s by unfold tgt; rw [if_pos hf]] at lb
  by_cases z : s = 0
  · have : cds B s = 0 := (cds_zero ho a b).mpr z
    rw [this, z, hV.zero]
    exact I.2.2.1.1
  · obtain ⟨t, w, ht, hw, n1, lo, he, hm, hlt⟩ := hV.step ho a b z hf
    have x := hx _ n1.1 n1.2 lo (by omega)
    have l := I.le ho a b z ht hw
    omega
theorem LX.fix (hV : DSl B 1024 V) (ho : B.ok) (I : LsI B V a0 h h1 0 (nmb B 2401) 0) : ∀ (N : Nat) (s : Int), 0 ≤ s → s < 5 ^ B.w.toNat → V s < 1000000000000000 → V s < N → zA h1 (a0 + 3) (nmb B (cds B s)) = V s := by
  intro N
  induction N with
  | zero => intro s a b _ q; have := (hV.2 s a (by rw [p5c]; exact b)).1; omega
  | succ N ih =>
    intro s a b hf q
    have lb := (I.2.2.1.2 s a b).1
    rw [show tgt V s = V s by unfold tgt; rw [if_pos hf]] at lb
    by_cases z : s = 0
    · have : cds B s = 0 := (cds_zero ho a b).mpr z
      rw [this, z, hV.zero]
      exact I.2.2.1.1
    · obtain ⟨t, w, ht, hw, n1, lo, he, hm, hlt⟩ := hV.step ho a b z hf
      have x := ih _ n1.1 n1.2 lo (by omega)
      have l := I.le ho a b z ht hw
      have ni := nmb_in (x := cds B (dnx B s (6 * t + w))) ho (cds_in ho)
      rw [← I.2.2.2.2.2 rfl _ ni.1] at l
      omega
/-- the costs stand -/
def CLf (B : XB) (V : Int → Int) (h : XH) (a0 : Nat) : Prop := ∀ s, 0 ≤ s → s < 5 ^ B.w.toNat → zA h (a0 + 3) (nmb B (cds B s)) = tgt V s
theorem LX.done (hV : DSl B 1024 V) (ho : B.ok) (hl : LB B V h a0) (hx : LX B V h a0 210) : CLf B V h a0 := by
  intro s a b
  have l := hl.2 s a b
  unfold tgt at l ⊢
  by_cases q : V s < 1000000000000000
  · rw [if_pos q]
    exact hx s a b q (hV.small (by decide) ho a b q).1.2
  · rw [if_neg q] at l ⊢; omega
theorem LX.stop (hV : DSl B 1024 V) (ho : B.ok) (I : LsI B V a0 h h1 0 (nmb B 2401) 0) : CLf B V h1 a0 := by
  refine LX.done hV ho I.2.2.1 (fun s a b hf _ => ?_)
  have := (hV.2 s a (by rw [p5c]; exact b)).1
  exact LX.fix hV ho I ((V s).toNat + 1) s a b hf (by omega)
end SU
