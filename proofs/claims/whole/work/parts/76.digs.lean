/-! digging: how the Model's costs fall, apart from the machine -/
noncomputable def dS (B : XB) : Int → Int := Classical.epsilon (DSl B 10000)
theorem dS_sol (B : XB) : DSl B 10000 (dS B) := Classical.epsilon_spec (DSl.ex (B := B) (U := 10000))
def sgm (B : XB) (s : Int) : Int := sumTo (vs s) B.w.toNat
/-- a try that never digs deeper, and digs out somewhere -/
def Gut (B : XB) : Prop := ∃ t, (0 ≤ t ∧ t < B.t) ∧ B.ea t ≤ 0 ∧ B.on t ≤ 0 ∧ (B.ea t < 0 ∨ B.on t < 0)
theorem s5_le {d e : Int → Int} {n : Nat} (hl : ∀ k : Int, 0 ≤ k → k < n → d k ≤ e k) : s5 d n ≤ s5 e n := by
  induction n with
  | zero => exact Int.le_refl _
  | succ n ih =>
    have i := ih (fun k a b => hl k a (by omega))
    have p := p5 n
    have m : (5 : Int) ^ n * d n ≤ 5 ^ n * e n := Int.mul_le_mul_of_nonneg_left (hl n (by omega) (by omega)) (by omega)
    show s5 d n + 5 ^ n * d n ≤ s5 e n + 5 ^ n * e n
    omega
theorem s5_lt {d e : Int → Int} {n : Nat} (hl : ∀ k : Int, 0 ≤ k → k < n → d k ≤ e k) {j : Int} (j0 : 0 ≤ j) (j1 : j < n) (hj : d j < e j) : s5 d n < s5 e n := by
  induction n with
  | zero => omega
  | succ n ih =>
    have p := p5 n
    have l := s5_le (n := n) (fun k a b => hl k a (by omega))
    show s5 d n + 5 ^ n * d n < s5 e n + 5 ^ n * e n
    by_cases q : j = n
    · subst q
      have m : (5 : Int) ^ n * (d n + 1) ≤ 5 ^ n * e n := Int.mul_le_mul_of_nonneg_left (by omega) (by omega)
      rw [Int.mul_add, Int.mul_one] at m
      omega
    · have i := ih (fun k a b => hl k a (by omega)) (by omega)
      have m : (5 : Int) ^ n * d n ≤ 5 ^ n * e n := Int.mul_le_mul_of_nonneg_left (hl n (by omega) (by omega)) (by omega)
      omega
section DG
variable {B : XB} {z z' : Int → Int} {s t w : Int} {fst : Bool}
theorem sgm_in (ho : B.ok) : 0 ≤ sgm B s ∧ sgm B s ≤ 24 := by
  have o := ho.1
  have := sumTo_in (f := vs s) (b := 4) (n := B.w.toNat) (fun i _ _ => vs_in s i)
  unfold sgm; omega
theorem vs_some (hs : 0 < s) (h1 : s < 5 ^ B.w.toNat) : ∃ k : Int, 0 ≤ k ∧ k < B.w.toNat ∧ 0 < vs s k := by
  apply Classical.byContradiction
  intro q
  have : s = 0 := vs_ext (n := B.w.toNat) s 0 (by omega) h1 (by decide) (by have := p5 B.w.toNat; omega) (fun k a b => by
    have b2 := vs_in s k
    have e : vs 0 k = 0 := by unfold vs; simp
    have : ¬ 0 < vs s k := fun w => q ⟨k, a, b, w⟩
    omega)
  omega
/-- by a good try from anywhere nearer -/
theorem gut_down (ho : B.ok) (ht : (0 ≤ t ∧ t < B.t) ∧ B.ea t ≤ 0 ∧ B.on t ≤ 0 ∧ (B.ea t < 0 ∨ B.on t < 0)) (hs : 0 < s) (h1 : s < 5 ^ B.w.toNat) : ∃ w, (0 ≤ w ∧ w < B.w) ∧ dnx B s (6 * t + w) < s ∧ sgm B (dnx B s (6 * t + w)) < sgm B s := by
  have o := ho.1
  obtain ⟨k, k0, k1, k2⟩ := vs_some hs h1
  have main : ∀ w, (0 ≤ w ∧ w < B.w) → mvd (B.ea t) (B.on t) (vs s) w k < vs s k → dnx B s (6 * t + w) < s ∧ sgm B (dnx B s (6 * t + w)) < sgm B s := by
    intro w hw hk
    have le : ∀ j : Int, 0 ≤ j → j < B.w.toNat → mvd (B.ea t) (B.on t) (vs s) w j ≤ vs s j := fun j _ _ => by
      have b := vs_in s j
      unfold mvd clp
      split <;> omega
    rw [dnx_tw ho hw]
    refine ⟨?_, ?_⟩
    · have := s5_lt le k0 k1 hk
      rw [s5_vs (by omega) h1] at this
      exact this
    · unfold sgm
      rw [sumTo_congr (f := vs (s5 (mvd (B.ea t) (B.on t) (vs s) w) B.w.toNat)) (g := mvd (B.ea t) (B.on t) (vs s) w) (fun j a b => s5_dig (fun k _ _ => mvd_in _ _ _ _ k) j a b)]
      exact sumTo_lt le k0 k1 hk
  have bk := vs_in s k
  by_cases q : B.on t < 0
  · refine ⟨k, ⟨k0, by omega⟩, main k ⟨k0, by omega⟩ ?_⟩
    unfold mvd clp
    rw [if_pos rfl]; omega
  · have w2 : ∃ w, (0 ≤ w ∧ w < B.w) ∧ ¬ k = w := by
      by_cases z : k = 0
      · exact ⟨1, by omega, by omega⟩
      · exact ⟨0, by omega, z⟩
    obtain ⟨w, hw, hne⟩ := w2
    refine ⟨w, hw, main w hw ?_⟩
    unfold mvd clp
    rw [if_neg hne]; omega
theorem out_gut (ho : B.ok) (ht : 0 ≤ t ∧ t < B.t) (hw : 0 ≤ w ∧ w < B.w) (hs : 0 < s) (h1 : s < 5 ^ B.w.toNat) (h0 : dnx B s (6 * t + w) = 0) : Gut B := by
  have o := ho.1
  obtain ⟨k, k0, k1, k2⟩ := vs_some hs h1
  have dz : ∀ j : Int, 0 ≤ j → j < B.w → mvd (B.ea t) (B.on t) (vs s) w j = 0 := fun j a b => by
    rw [dnx_tw ho hw] at h0
    have := s5_dig (d := mvd (B.ea t) (B.on t) (vs s) w) (n := B.w.toNat) (fun k _ _ => mvd_in _ _ _ _ k) j a (by omega)
    rw [h0] at this
    rw [← this]; unfold vs; simp
  have bk := vs_in s k
  have zk := dz k k0 (by omega)
  have zw := dz w hw.1 hw.2
  have bw := vs_in s w
  unfold mvd clp at zk zw
  rw [if_pos rfl] at zw
  by_cases q : k = w
  · rw [if_pos q] at zk
    have j2 : ∃ j, (0 ≤ j ∧ j < B.w) ∧ ¬ j = w := by
      by_cases y : w = 0
      · exact ⟨1, by omega, by omega⟩
      · exact ⟨0, by omega, fun e => y e.symm⟩
    obtain ⟨j, hj, hne⟩ := j2
    have zj := dz j hj.1 hj.2
    have bj := vs_in s j
    unfold mvd clp at zj
    rw [if_neg hne] at zj
    exact ⟨t, ht, by omega, by omega, by omega⟩
  · rw [if_neg q] at zk
    exact ⟨t, ht, by omega, by omega, by omega⟩
/-- the costs on their way -/
def DgI (B : XB) (z : Int → Int) (fst : Bool) (s : Int) : Prop := z 0 = 0 ∧ (∀ x, 0 < x → x < 5 ^ B.w.toNat → z x = 2000000000 ∨ ((0 ≤ z x ∧ z x ≤ 24750025) ∧ ∃ t w, (0 ≤ t ∧ t < B.t) ∧ (0 ≤ w ∧ w < B.w) ∧ ¬ z (dnx B x (6 * t + w)) = 2000000000 ∧ z (dnx B x (6 * t + w)) + (10000 * B.pr t + 1) ≤ z x)) ∧
  (∀ x, 0 < x → x < 5 ^ B.w.toNat → ¬ x = s → z x = 2000000000 ∨ z x ≤ 23760024) ∧ (fst = true → ∀ x, s < x → x < 5 ^ B.w.toNat → z x = 2000000000) ∧
  (Gut B → ∀ x, 0 ≤ x → x < (if fst = true then s else 5 ^ B.w.toNat) → z x ≤ 990001 * sgm B x) ∧ (¬ Gut B → ∀ x, 0 < x → x < 5 ^ B.w.toNat → z x = 2000000000)
theorem DgI.fin {x : Int} (I : DgI B z fst s) (h0 : 0 ≤ x) (h1 : x < 5 ^ B.w.toNat) (hne : ¬ x = s ∨ s = 0) : z x = 2000000000 ∨ (0 ≤ z x ∧ z x ≤ 23760024) := by
  by_cases q : x = 0
  · rw [q, I.1]; right; decide
  · rcases I.2.1 x (by omega) h1 with e | e
    · exact Or.inl e
    · rcases I.2.2.1 x (by omega) h1 (by omega) with e2 | e2
      · exact Or.inl e2
      · exact Or.inr ⟨e.1.1, e2⟩
/-- a cost falls -/
theorem DgI.step {c : Int} (ho : B.ok) (I : DgI B z fst s) (hs : 0 < s) (h1 : s < 5 ^ B.w.toNat) (ht : 0 ≤ t ∧ t < B.t) (hw : 0 ≤ w ∧ w < B.w) (hf : ¬ z (dnx B s (6 * t + w)) = 2000000000) (hc : c = z (dnx B s (6 * t + w)) + (10000 * B.pr t + 1)) (hl : c < z s) (hz : ∀ x, 0 ≤ x → z' x = if x = s then c else z x) : DgI B z' fst s ∧ (0 ≤ c ∧ c ≤ 24750025) ∧ Gut B := by
  have op := ho.2.2.2.2 t ht.1 ht.2
  have n1 := dnx_in B s (6 * t + w)
  have ne : ¬ dnx B s (6 * t + w) = s := fun q => by rw [q] at hc; omega
  have fn := (I.fin n1.1 n1.2 (Or.inl ne)).resolve_left hf
  have gt : Gut B := by
    apply Classical.byContradiction
    intro q
    by_cases z0 : dnx B s (6 * t + w) = 0
    · exact q (out_gut ho ht hw hs h1 z0)
    · exact hf (I.2.2.2.2.2 q _ (by omega) n1.2)
  obtain ⟨i0, i1, i2, i3, i4, i5⟩ := I
  have lez : ∀ x, 0 ≤ x → z' x ≤ z x := fun x a => by
    rw [hz x a]
    split
    · rename_i q; rw [q]; omega
    · omega
  refine ⟨⟨by rw [hz 0 (by decide), if_neg (by omega)]; exact i0, fun x a b => ?_, fun x a b q => by rw [hz x (by omega), if_neg q]; exact i2 x a b q, fun q x a b => by rw [hz x (by omega), if_neg (by omega)]; exact i3 q x a b, fun q x a b => by have := i4 q x a b; have := lez x a; omega, fun q => absurd gt q⟩, by omega, gt⟩
  by_cases q : x = s
  · right
    rw [hz x (by omega), if_pos q, q]
    refine ⟨by omega, t, w, ht, hw, ?_, ?_⟩
    · rw [hz _ n1.1, if_neg ne]; exact hf
    · rw [hz _ n1.1, if_neg ne]; omega
  · rw [hz x (by omega), if_neg q]
    rcases i1 x a b with e | ⟨e, t', w', ht', hw', hf', hl'⟩
    · exact Or.inl e
    · right
      have n2 := dnx_in B x (6 * t' + w')
      refine ⟨e, t', w', ht', hw', ?_, ?_⟩
      · rw [hz _ n2.1]
        split
        · omega
        · exact hf'
      · have := lez _ n2.1; omega
def ClD (B : XB) (z : Int → Int) (s t w : Int) : Prop := ¬ z (dnx B s (6 * t + w)) = 2000000000 → z s ≤ z (dnx B s (6 * t + w)) + (10000 * B.pr t + 1)
def ClA (B : XB) (z : Int → Int) (s : Int) : Prop := ∀ t w, 0 ≤ t → t < B.t → 0 ≤ w → w < B.w → ClD B z s t w
/-- a state is through -/
theorem DgI.next (ho : B.ok) (I : DgI B z fst s) (hs : 0 < s) (h1 : s < 5 ^ B.w.toNat) (hc : ClA B z s) : DgI B z fst (s + 1) := by
  obtain ⟨i0, i1, i2, i3, i4, i5⟩ := id I
  have low : Gut B → z s ≤ 990001 * sgm B s := fun g => by
    obtain ⟨t, ht⟩ := g
    obtain ⟨w, hw, l1, l2⟩ := gut_down ho ht hs h1
    have op := ho.2.2.2.2 t ht.1.1 ht.1.2
    have n1 := dnx_in B s (6 * t + w)
    have b := i4 ⟨t, ht⟩ _ n1.1 (by
      split
      · exact l1
      · exact n1.2)
    have sg := sgm_in (s := dnx B s (6 * t + w)) ho
    have c := hc t w ht.1.1 ht.1.2 hw.1 hw.2 (by omega)
    omega
  have sg := sgm_in (s := s) ho
  refine ⟨i0, i1, fun x a b q => ?_, fun q x a b => i3 q x (by omega) b, fun g x a b => ?_, i5⟩
  · by_cases y : x = s
    · by_cases g : Gut B
      · right; rw [y]; have := low g; omega
      · left; rw [y]; exact i5 g s hs h1
    · exact i2 x a b y
  · by_cases y : x = s
    · rw [y]; exact low g
    · refine i4 g x a ?_
      by_cases q : fst = true
      · rw [if_pos q] at b ⊢; omega
      · rw [if_neg q] at b ⊢; exact b
/-- a new round -/
theorem DgI.round (ho : B.ok) (I : DgI B z fst (5 ^ B.w.toNat)) : DgI B z false 1 := by
  obtain ⟨i0, i1, i2, i3, i4, i5⟩ := I
  refine ⟨i0, i1, fun x a b _ => i2 x a b (by omega), fun q => absurd q (by decide), fun g x a b => ?_, i5⟩
  rw [if_neg (by decide)] at b
  refine i4 g x a ?_
  split
  · exact b
  · exact b
/-- the end: the least costs -/
theorem DgI.done (ho : B.ok) (I : DgI B z fst s) (hb : ∀ x, 0 < x → x < 5 ^ B.w.toNat → z x = 2000000000 ∨ z x ≤ 24750025) (hc : ∀ x, 0 < x → x < 5 ^ B.w.toNat → ClA B z x) : ∀ x, 0 ≤ x → x < 5 ^ B.w.toNat → z x = if 1000000000000000 ≤ dS B x then 2000000000 else dS B x := by
  obtain ⟨i0, i1, i2, i3, i4, i5⟩ := I
  have zn : ∀ x, 0 ≤ x → x < 5 ^ B.w.toNat → z x = 2000000000 ∨ (0 ≤ z x ∧ z x ≤ 24750025) := fun x a b => by
    by_cases q : x = 0
    · rw [q, i0]; right; decide
    · rcases i1 x (by omega) b with e | e
      · exact Or.inl e
      · exact Or.inr e.1
  have sol : DSl B 10000 (fun x => if z x = 2000000000 then 1000000000000000 else z x) := by
    refine ⟨fun x a b => ?_, fun x a b => ?_⟩
    · rw [p5c] at b
      by_cases q : x = 0
      · rw [if_pos (by simp [q]), q]
        show (if z 0 = 2000000000 then (1000000000000000 : Int) else z 0) = 0
        rw [i0]; rfl
      · rw [if_neg (by simp [q])]
        show (if z x = 2000000000 then (1000000000000000 : Int) else z x) = _
        have le := lowK_le (nx := dnx B) (co := fun _ i => dco B 10000 i) (v := fun x => if z x = 2000000000 then 1000000000000000 else z x) x 36
        have up : lowK (dnx B) (fun _ i => dco B 10000 i) (fun x => if z x = 2000000000 then 1000000000000000 else z x) x 36 ≤ if z x = 2000000000 then 1000000000000000 else z x := by
          rcases i1 x (by omega) b with e | ⟨e, t, w, ht, hw, hf, hl⟩
          · rw [if_pos e]; exact le
          · have o := ho.1
            have op := ho.2.2.2.2 t ht.1 ht.2
            have n1 := dnx_in B x (6 * t + w)
            have fz := (zn _ n1.1 n1.2).resolve_left hf
            have ec : dco B 10000 (6 * t + w) = 10000 * B.pr t + 1 := by unfold dco; rw [show (6 * t + w) / 6 = t by omega, show (6 * t + w) % 6 = w by omega, if_pos ⟨ht.2, hw.2⟩]
            have l := lowK_all (nx := dnx B) (co := fun _ i => dco B 10000 i) (v := fun x => if z x = 2000000000 then 1000000000000000 else z x) x 36 (6 * t + w) (by omega) (by omega) (by rw [ec]; omega) (by rw [if_neg hf]; omega)
            rw [ec, if_neg hf] at l
            rw [if_neg (by omega)]
            omega
        have dn : (if z x = 2000000000 then 1000000000000000 else z x) ≤ lowK (dnx B) (fun _ i => dco B 10000 i) (fun x => if z x = 2000000000 then 1000000000000000 else z x) x 36 := by
          rcases lowK_way (nx := dnx B) (co := fun _ i => dco B 10000 i) (v := fun x => if z x = 2000000000 then 1000000000000000 else z x) x 36 with e | ⟨i, j0, j1, j2, j3, j4⟩
          · rw [e]; have := zn x a b; split <;> omega
          · rw [j4]
            unfold dco at j2
            by_cases q2 : i / 6 < B.t ∧ i % 6 < B.w
            · have ei : 6 * (i / 6) + i % 6 = i := by omega
              have cl := hc x (by omega) b (i / 6) (i % 6) (by omega) q2.1 (by omega) q2.2
              unfold ClD at cl
              rw [ei] at cl
              have hf : ¬ z (dnx B x i) = 2000000000 := fun y => by rw [if_pos y] at j3; omega
              have cl := cl hf
              have n1 := dnx_in B x i
              have fz := (zn _ n1.1 n1.2).resolve_left hf
              have op := ho.2.2.2.2 (i / 6) (by omega) q2.1
              have ec : dco B 10000 i = 10000 * B.pr (i / 6) + 1 := by unfold dco; rw [if_pos q2]
              rw [ec, if_neg hf]
              have := zn x a b
              rw [if_neg (by omega)]
              exact cl
            · rw [if_neg q2] at j2; omega
        omega
    · rw [p5c] at b
      have := zn x a b
      dsimp only
      split <;> omega
  intro x a b
  have u := DSl.uniq sol (dS_sol B) a (by rw [p5c]; exact b)
  have zx := zn x a b
  rw [← u]
  by_cases q : z x = 2000000000
  · rw [if_pos q, if_pos (by decide)]; exact q
  · rw [if_neg q, if_neg (by omega)]
end DG
