/-! digging: the class's round of lessening -/
section CL
variable {d : Nat} {h h1 : XH} {K : Int32 → XH → Prop} {KU : XH → Prop} {B : XB} {rb a0 : Nat} {V : Int → Int} {fl j s : Int} {n : Nat}
theorem nxc_same {s s' t x : Int} (ho : B.ok) (he : cds B s = cds B s') : nxc B s t x = nxc B s' t x := by
  have c := cds_cnt ho he
  unfold nxc
  rw [c 0 (by decide) (by decide), c 1 (by decide) (by decide), c 2 (by decide) (by decide), c 3 (by decide) (by decide), c 4 (by decide) (by decide)]
def tgt (V : Int → Int) (s : Int) : Int := if V s < 1000000000000000 then V s else 536870912
/-- what is left is no less than it must be -/
def LB (B : XB) (V : Int → Int) (h : XH) (a0 : Nat) : Prop := zA h (a0 + 3) 0 = 0 ∧ ∀ s, 0 ≤ s → s < 5 ^ B.w.toNat → tgt V s ≤ zA h (a0 + 3) (nmb B (cds B s)) ∧ zA h (a0 + 3) (nmb B (cds B s)) ≤ 536870912
/-- in a round -/
def LsI (B : XB) (V : Int → Int) (a0 : Nat) (h h1 : XH) (fl j n : Int) : Prop := Fr (pA [a0 + 3]) h h1 ∧ (∀ i, 0 ≤ i → zA h1 (a0 + 3) i ≤ zA h (a0 + 3) i) ∧ LB B V h1 a0 ∧
  (∀ s, 0 ≤ s → s < 5 ^ B.w.toNat → 1 ≤ nmb B (cds B s) → ∀ m, 0 ≤ m → m < 5 * B.t → (nmb B (cds B s) < j ∨ nmb B (cds B s) = j ∧ m < n) → 0 < cnt (vs s) (m % 5) B.w.toNat → zA h1 (a0 + 3) (nmb B (cds B s)) ≤ zA h (a0 + 3) (nmb B (nxc B s (m / 5) (m % 5))) + (B.pr (m / 5) * 1024 + 1)) ∧
  (fl = 0 ∨ fl = 1) ∧ (fl = 0 → ∀ i, 0 ≤ i → zA h1 (a0 + 3) i = zA h (a0 + 3) i)
theorem LsI.next (I : LsI B V a0 h h1 fl j (5 * B.t)) : LsI B V a0 h h1 fl (j + 1) 0 := by
  obtain ⟨a, b, c, e, f, g⟩ := I
  exact ⟨a, b, c, fun s s0 s1 s2 m m0 m1 q p => e s s0 s1 s2 m m0 m1 (by omega) p, f, g⟩
theorem LsI.keep (ho : B.ok) (I : LsI B V a0 h h1 fl j n) (hs : 0 ≤ s ∧ s < 5 ^ B.w.toNat) (hj : j = nmb B (cds B s)) (hk : 0 < cnt (vs s) ((n : Int) % 5) B.w.toNat → zA h1 (a0 + 3) j ≤ zA h1 (a0 + 3) (nmb B (nxc B s ((n : Int) / 5) ((n : Int) % 5))) + (B.pr ((n : Int) / 5) * 1024 + 1)) : LsI B V a0 h h1 fl j ((n : Int) + 1) := by
  obtain ⟨a, b, c, e, f, g⟩ := I
  refine ⟨a, b, c, fun s' s0 s1 s2 m m0 m1 q p => ?_, f, g⟩
  by_cases z : nmb B (cds B s') = j ∧ m = n
  · have ci := cds_in (s := s) ho
    have ci' := cds_in (s := s') ho
    have ee : cds B s' = cds B s := nmb_inj ci'.1 ci.1 (vld_cds ho) (vld_cds ho) (by rw [z.1, hj])
    have cc := cds_cnt ho ee ((n : Int) % 5) (by omega) (by omega)
    rw [z.2] at p ⊢
    have k := hk (by omega)
    rw [z.1, nxc_same ho ee]
    have nn : 0 ≤ nmb B (nxc B s ((n : Int) / 5) ((n : Int) % 5)) := by
      obtain ⟨w, hw, _, we⟩ := nxc_ok (s := s) (t := (n : Int) / 5) (x := (n : Int) % 5) ho (by omega)
      rw [we]; exact (nmb_in ho (cds_in ho)).1
    have := b _ nn
    omega
  · exact e s' s0 s1 s2 m m0 m1 (by omega) p
theorem LsI.put (hV : DSl B 1024 V) (ho : B.ok) (I : LsI B V a0 h h1 fl j n) (hs : 0 ≤ s ∧ s < 5 ^ B.w.toNat) (hj : j = nmb B (cds B s)) (h1j : 1 ≤ j) (hn : (n : Int) < 5 * B.t) (hp : 0 < cnt (vs s) ((n : Int) % 5) B.w.toNat) (hk : zA h1 (a0 + 3) (nmb B (nxc B s ((n : Int) / 5) ((n : Int) % 5))) + (B.pr ((n : Int) / 5) * 1024 + 1) < zA h1 (a0 + 3) j) : LsI B V a0 h (sI h1 (a0 + 3) j.toNat (iI (zA h1 (a0 + 3) (nmb B (nxc B s ((n : Int) / 5) ((n : Int) % 5))) + (B.pr ((n : Int) / 5) * 1024 + 1)))) 1 j ((n : Int) + 1) := by
  have o := ho.1
  obtain ⟨a, b, c, e, f, g⟩ := I
  have op := ho.2.2.2.2 ((n : Int) / 5) (by omega) (by omega)
  obtain ⟨w, hw, wx, we⟩ := nxc_ok (s := s) (t := (n : Int) / 5) (x := (n : Int) % 5) ho hp
  have n1 := dnx_in B s (6 * ((n : Int) / 5) + w)
  have c1 := c.2 _ n1.1 n1.2
  have cs := c.2 s hs.1 hs.2
  rw [← we] at c1
  rw [← hj] at cs
  have v1 := hV.2 _ n1.1 (by rw [p5c]; exact n1.2)
  have v0 := hV.2 s hs.1 (by rw [p5c]; exact hs.2)
  have z0 : 0 < s := by
    have : ¬ s = 0 := fun z => by
      have q := (cds_zero ho hs.1 hs.2).mpr z
      rw [q] at hj
      have : nmb B 0 = 0 := rfl
      omega
    omega
  have lo : V (dnx B s (6 * ((n : Int) / 5) + w)) < 1000000000000000 := by
    apply Classical.byContradiction
    intro q
    unfold tgt at c1
    rw [if_neg q] at c1
    omega
  have al := hV.all (t := (n : Int) / 5) (w := w) (by decide) ho z0 hs.2 (by omega) hw lo
  have t1 : tgt V (dnx B s (6 * ((n : Int) / 5) + w)) = V (dnx B s (6 * ((n : Int) / 5) + w)) := by unfold tgt; rw [if_pos lo]
  have sm := hV.small (by decide) ho n1.1 n1.2 lo
  have t0 : tgt V s = V s := by unfold tgt; rw [if_pos (by omega)]
  rw [t1] at c1
  generalize hy : zA h1 (a0 + 3) (nmb B (nxc B s ((n : Int) / 5) ((n : Int) % 5))) + (B.pr ((n : Int) / 5) * 1024 + 1) = y at hk ⊢
  have yz : ∀ i, 0 ≤ i → zA (sI h1 (a0 + 3) j.toNat (iI y)) (a0 + 3) i = if i = j then y else zA h1 (a0 + 3) i := fun i i0 => zA_s (by omega) i0 (by omega)
  have dn : ∀ i, 0 ≤ i → zA (sI h1 (a0 + 3) j.toNat (iI y)) (a0 + 3) i ≤ zA h1 (a0 + 3) i := fun i i0 => by
    rw [yz i i0]
    by_cases q : i = j
    · rw [if_pos q, q]; omega
    · rw [if_neg q]; exact Int.le_refl _
  refine ⟨a.sI _ _ _ (by simp [pA]), fun i i0 => Int.le_trans (dn i i0) (b i i0), ⟨?_, fun s' s0 s1 => ?_⟩, fun s' s0 s1 s2 m m0 m1 q p => ?_, Or.inr rfl, fun z => absurd z (by decide)⟩
  · rw [yz 0 (by decide), if_neg (by omega)]; exact c.1
  · have ci := cds_in (s := s) ho
    have ci' := cds_in (s := s') ho
    have ni := nmb_in (x := cds B s') ho ci'
    have c' := c.2 s' s0 s1
    rw [yz _ ni.1]
    by_cases q : nmb B (cds B s') = j
    · have ee : cds B s' = cds B s := nmb_inj ci'.1 ci.1 (vld_cds ho) (vld_cds ho) (by rw [q, hj])
      have es : V s' = V s := hV.same (by decide) ho s0 s1 hs.1 hs.2 ee
      have : tgt V s' = V s := by unfold tgt; rw [es, if_pos (by omega)]
      rw [if_pos q, this]
      omega
    · rw [if_neg q]; exact c'
  · have ci := cds_in (s := s) ho
    have ci' := cds_in (s := s') ho
    have ni := nmb_in (x := cds B s') ho ci'
    by_cases z : nmb B (cds B s') = j ∧ m = n
    · have ee : cds B s' = cds B s := nmb_inj ci'.1 ci.1 (vld_cds ho) (vld_cds ho) (by rw [z.1, hj])
      have nn : 0 ≤ nmb B (nxc B s ((n : Int) / 5) ((n : Int) % 5)) := by rw [we]; exact (nmb_in ho (cds_in ho)).1
      have bb := b _ nn
      rw [z.2, z.1, nxc_same ho ee, yz _ (by omega), if_pos rfl]
      omega
    · have := e s' s0 s1 s2 m m0 m1 (by omega) p
      have := dn _ ni.1
      omega
end CL
