/-! to be told never harms; the way that is chosen -/
section VC
variable {P : XP} {V : Int → Int → Int} {s c e k : Int}
theorem Sol.goal (hP : P.ok) (hV : Sol P V) (hs : St P s) : V s P.go = 0 := by
  have o := hP.1
  have h := (hV s hs).1 P.go (by omega) (by omega)
  rw [if_pos (by simp [XP.bd])] at h
  rw [h]
  unfold XP.bv
  rw [if_pos rfl]
theorem Sol.seen (hP : P.ok) (hV : Sol P V) (hs : St P s) (a : 0 ≤ c) (b : c < P.n) (hg : ¬ c = P.go) (hn : ¬ P.nw s c = -1) : V s c = P.ov V s c (P.nw s c) := by
  have o := hP.1
  have h := (hV s hs).1 c a (by omega)
  rw [if_pos (by simp [XP.bd, hn])] at h
  rw [h]
  unfold XP.bv
  rw [if_neg hg]
theorem bd_inner (hg : ¬ c = P.go) (hn : P.nw s c = -1) : P.bd s c = false := by simp [XP.bd, hg, hn]
theorem Sol.inner (hP : P.ok) (hV : Sol P V) (hs : St P s) (a : 0 ≤ c) (b : c < P.n) (hg : ¬ c = P.go) (hn : P.nw s c = -1) (hf : V s c < 1000000000000000) : ∃ w : Int, 0 ≤ w ∧ w < 4 ∧ 0 < P.tl s c w ∧ (0 ≤ P.nx c w ∧ P.nx c w < P.n) ∧ V s (P.nx c w) < 1000000000000000 ∧ V s c = V s (P.nx c w) + P.sc s * P.tl s c w := by
  obtain ⟨w, w0, w1, w2, w3, w4⟩ := (hV s hs).1.way a (by omega) (bd_inner hg hn) hf
  have t := (co_pos hP).mp w2
  exact ⟨w, w0, w1, t, (hP.2.2.2.1 s c w a b w0 w1 t).2, w3, w4⟩
theorem Sol.inner_all {w : Int} (hP : P.ok) (hV : Sol P V) (hs : St P s) (a : 0 ≤ c) (b : c < P.n) (hg : ¬ c = P.go) (hn : P.nw s c = -1) (w0 : 0 ≤ w) (w1 : w < 4) (ht : 0 < P.tl s c w) (hf : V s (P.nx c w) < 1000000000000000) : V s c ≤ V s (P.nx c w) + P.sc s * P.tl s c w :=
  (hV s hs).1.all a (by omega) (bd_inner hg hn) w0 w1 ((co_pos hP).mpr ht) hf
theorem nw_tel (hP : P.ok) (hs : 0 ≤ s ∧ s < 1024) (he : 0 ≤ e ∧ e < P.nd) (h0 : dg s e = 0) (hk : 0 ≤ k ∧ k < 3) (hn : ¬ P.nw s c = e) : P.nw (tel s e k) c = P.nw s c := by
  have o := hP.1
  have t := (tel_in hs (e := e) (by omega) h0 hk).2.2
  have te := t e he.1 (by omega)
  rw [if_pos rfl] at te
  have tn : ∀ i, 0 ≤ i → i < P.nd → ¬ i = e → dg (tel s e k) i = dg s i := fun i a b q => by rw [t i a (by omega), if_neg q]
  rcases P.nw_spec s c (by omega) with ⟨q1, q2⟩ | ⟨q1, q2, q3, q4⟩
  · rcases P.nw_spec (tel s e k) c (by omega) with ⟨r1, r2⟩ | ⟨r1, r2, r3, r4⟩
    · omega
    · exfalso
      by_cases z : P.nw (tel s e k) c = e
      · rw [z] at r2; omega
      · rw [tn _ r1.1 r1.2 z] at r2
        exact q2 _ r1.1 r1.2 r3 r2
  · rcases P.nw_spec (tel s e k) c (by omega) with ⟨r1, r2⟩ | ⟨r1, r2, r3, r4⟩
    · exfalso
      have := r2 _ q1.1 q1.2 q3
      rw [tn _ q1.1 q1.2 hn] at this
      exact this q2
    · have z : ¬ P.nw (tel s e k) c = e := fun z => by rw [z] at r2; omega
      rw [tn _ r1.1 r1.2 z] at r2
      have h1 : ¬ P.nw (tel s e k) c < P.nw s c := fun q => q4 _ r1.1 q r3 r2
      have h2 : ¬ P.nw s c < P.nw (tel s e k) c := fun q => by
        have := r4 _ q1.1 q q3
        rw [tn _ q1.1 q1.2 hn] at this
        exact this q2
      omega
theorem tel_comm (s e k d j : Int) : tel (tel s e k) d j = tel (tel s d j) e k := by unfold tel; omega
/-- what is told of e, if all was reached at s -/
def Inf (P : XP) (V : Int → Int → Int) (s e c : Int) : Prop := (∀ i, 0 ≤ i → i < P.mn e → V (tel s e i) c < 1000000000000000) ∧ (P.bm = true → sumTo (fun i => P.we e i * V (tel s e i) c) (P.mn e).toNat ≤ V s c) ∧ (P.bm = false → ∀ i, 0 ≤ i → i < P.mn e → V (tel s e i) c ≤ V s c)
theorem sumTo_z (n : Nat) : sumTo (fun _ => (0 : Int)) n = 0 := by
  induction n with
  | zero => rfl
  | succ n ih => show sumTo (fun _ => (0 : Int)) n + 0 = 0; omega
theorem Inf.goal (hP : P.ok) (hV : Sol P V) (hs : St P s) (he : 0 ≤ e ∧ e < P.nd) (h0 : dg s e = 0) : Inf P V s e P.go := by
  have mn := hP.2.1 e he.1 he.2
  have g : ∀ i, 0 ≤ i → i < P.mn e → V (tel s e i) P.go = 0 := fun i i0 i1 => Sol.goal hP hV (hs.tel hP he h0 ⟨i0, i1⟩)
  have g0 := Sol.goal hP hV hs
  refine ⟨fun i i0 i1 => by rw [g i i0 i1]; decide, fun _ => ?_, fun _ i i0 i1 => by rw [g i i0 i1, g0]; decide⟩
  rw [sumTo_congr (f := fun i => P.we e i * V (tel s e i) P.go) (g := fun _ => 0) (fun i i0 i1 => by
    show P.we e i * V (tel s e i) P.go = 0
    rw [g i i0 (by omega), Int.mul_zero]), sumTo_z, g0]
  exact Int.le_refl _
theorem Inf.same (hP : P.ok) (hV : Sol P V) (hs : St P s) (a : 0 ≤ c) (b : c < P.n) (hg : ¬ c = P.go) (he : 0 ≤ e ∧ e < P.nd) (h0 : dg s e = 0) (hn : P.nw s c = e) (hf : V s c < 1000000000000000) : Inf P V s e c := by
  have mn := hP.2.1 e he.1 he.2
  have hv := Sol.seen hP hV hs a b hg (by omega)
  rw [hn] at hv
  unfold XP.ov at hv
  have fin : ∀ i : Int, 0 ≤ i → i < P.mn e → V (tel s e i) c < 1000000000000000 := fun i i0 i1 => ovK_fin (by rw [← hv]; exact hf) i i0 (by omega)
  have ov := Sol.over hP hV hs he h0 a b fin
  refine ⟨fin, fun hb => ?_, fun hb i i0 i1 => ?_⟩
  · rw [hb] at hv
    rcases ov.1 (P.mn e).toNat (by omega) with q | q
    · rw [hv, q.1]; exact Int.le_refl _
    · rw [q] at hb; exact absurd hb (by decide)
  · rw [hb] at hv
    rw [hv, (ov.2 (P.mn e).toNat (by omega)).1]
    exact maxTo_ge (f := fun k => V (tel s e k) c) i i0 (by omega)
theorem maxTo_le {f : Int → Int} {n : Nat} {X : Int} (hX : 0 ≤ X) (hf : ∀ i : Int, 0 ≤ i → i < n → f i ≤ X) : maxTo f n ≤ X := (maxTo_in hX hf).2
theorem Sol.told (hP : P.ok) (hV : Sol P V) : ∀ (m : Nat) (s : Int), St P s → 1024 - m ≤ s → ∀ e : Int, 0 ≤ e ∧ e < P.nd → dg s e = 0 → ∀ (N : Nat) (c : Int), 0 ≤ c → c < P.n → V s c < N → V s c < 1000000000000000 → Inf P V s e c := by
  intro m
  induction m with
  | zero => intro s hs q; have := hs.1; omega
  | succ m ihm =>
    intro s hs q e he h0 N
    have o := hP.1
    have mn := hP.2.1 e he.1 he.2
    induction N with
    | zero => intro c a b q1; have := ((hV s hs).2 c a (by omega)).1; omega
    | succ N ihN =>
      intro c a b q1 hf
      by_cases hg : c = P.go
      · rw [hg]; exact Inf.goal hP hV hs he h0
      by_cases hn : P.nw s c = -1
      · -- nothing new is seen
        obtain ⟨w, w0, w1, w2, w3, w4, w5⟩ := Sol.inner hP hV hs a b hg hn hf
        have sp := Int.mul_pos (show 0 < P.sc s by have := sc_in (s := s) hP; omega) w2
        have ih := ihN (P.nx c w) w3.1 w3.2 (by omega) w4
        have t0 : ∀ i, 0 ≤ i → i < P.mn e → P.tl (tel s e i) c w = P.tl s c w := fun i i0 i1 => by
          refine hP.2.2.2.2 _ _ c w a b w0 w1 (fun j j0 j1 j2 => ?_)
          have tt := (tel_in (k := i) hs.1 (e := e) (by omega) h0 (by omega)).2.2 j j0 (by omega)
          rw [tt]
          rcases P.nw_spec s c (by omega) with ⟨_, q2⟩ | ⟨q1, _⟩
          · have := q2 j j0 j1 j2
            rw [if_neg (fun z => this (by rw [z]; exact h0))]
          · omega
        have le : ∀ i, 0 ≤ i → i < P.mn e → V (tel s e i) c ≤ V (tel s e i) (P.nx c w) + P.sc (tel s e i) * P.tl s c w := fun i i0 i1 => by
          have st := hs.tel (k := i) hP he h0 ⟨i0, i1⟩
          have n2 := nw_tel (k := i) (c := c) hP hs.1 he h0 (by omega) (by omega)
          have := Sol.inner_all (w := w) hP hV st a b hg (by omega) w0 w1 (by rw [t0 i i0 i1]; exact w2) (ih.1 i i0 i1)
          rw [t0 i i0 i1] at this
          exact this
        refine ⟨fun i i0 i1 => ?_, fun hb => ?_, fun hb i i0 i1 => ?_⟩
        · have st := hs.tel (k := i) hP he h0 ⟨i0, i1⟩
          have l := le i i0 i1
          have sm := (Sol.small hP hV st w3.1 w3.2 (ih.1 i i0 i1)).1
          have tw := (hP.2.2.2.1 s c w a b w0 w1 w2).1
          have si := sc_in (s := tel s e i) hP
          have := mul_in (a := P.sc (tel s e i)) (b := P.tl s c w) (A := 14348907) (B := 40101) (by omega) (by omega)
          omega
        · have wp : ∀ i : Int, 0 ≤ i → i < P.mn e → 0 ≤ P.we e i := fun i i0 i1 => by have := hP.2.2.1 e i he.1 he.2 i0 i1; omega
          have i2 := ih.2.1 hb
          have e1 : sumTo (fun i => P.we e i * (P.lft (tel s e 0) * P.tl s c w)) (P.mn e).toNat = P.sc s * P.tl s c w := by
            rw [sumTo_congr (f := fun i => P.we e i * (P.lft (tel s e 0) * P.tl s c w)) (g := fun i => (P.lft (tel s e 0) * P.tl s c w) * P.we e i) (fun i _ _ => Int.mul_comm _ _), sumTo_mul]
            show P.lft (tel s e 0) * P.tl s c w * P.tot e = _
            rw [Int.mul_right_comm, lft_tel hP hs.1 he h0 (by omega)]
            unfold XP.sc
            rw [if_pos hb]
          have e2 : sumTo (fun i => P.we e i * V (tel s e i) c) (P.mn e).toNat ≤ sumTo (fun i => P.we e i * V (tel s e i) (P.nx c w) + P.we e i * (P.lft (tel s e 0) * P.tl s c w)) (P.mn e).toNat := by
            refine sumTo_le (fun i i0 i1 => ?_)
            rw [← Int.mul_add]
            have l := le i i0 (by omega)
            rw [sc_tel (k := i) hP hs.1 he h0 (by omega), if_pos hb] at l
            exact Int.mul_le_mul_of_nonneg_left l (wp i i0 (by omega))
          rw [sumTo_add, e1] at e2
          omega
        · have l := le i i0 i1
          rw [sc_tel (k := i) hP hs.1 he h0 (by omega)] at l
          have i2 := ih.2.2 hb i i0 i1
          have e3 : P.sc s = 1 := by unfold XP.sc; rw [hb]; rfl
          rw [e3] at w5
          rw [hb, if_neg (by decide)] at l
          omega
      by_cases hne : P.nw s c = e
      · exact Inf.same hP hV hs a b hg he h0 hne hf
      · -- another doubt is seen first
        rcases P.nw_spec s c (by omega) with ⟨q2, _⟩ | ⟨d1, d2, _, _⟩
        · omega
        have hv := Sol.seen hP hV hs a b hg hn
        generalize hd : P.nw s c = d at *
        have md := hP.2.1 d d1.1 d1.2
        unfold XP.ov at hv
        have fin : ∀ j : Int, 0 ≤ j → j < P.mn d → V (tel s d j) c < 1000000000000000 := fun j j0 j1 => ovK_fin (by rw [← hv]; exact hf) j j0 (by omega)
        have ovd := Sol.over hP hV hs d1 d2 a b fin
        have ij : ∀ j : Int, 0 ≤ j → j < P.mn d → Inf P V (tel s d j) e c := fun j j0 j1 => by
          have t := tel_in (k := j) hs.1 (e := d) (by omega) d2 (by omega)
          refine ihm _ (hs.tel hP d1 d2 ⟨j0, j1⟩) (by omega) e he ?_ ((V (tel s d j) c).toNat + 1) c a b (by omega) (fin j j0 j1)
          rw [t.2.2 e he.1 (by omega), if_neg (fun z => hne z.symm)]
          exact h0
        have sk : ∀ i, 0 ≤ i → i < P.mn e → St P (tel s e i) ∧ dg (tel s e i) d = 0 ∧ V (tel s e i) c = ovK P.bm (P.we d) (fun j => V (tel (tel s d j) e i) c) (P.mn d).toNat ∧ (∀ j, 0 ≤ j → j < P.mn d → V (tel (tel s e i) d j) c < 1000000000000000) := fun i i0 i1 => by
          have st := hs.tel (k := i) hP he h0 ⟨i0, i1⟩
          have t := (tel_in (k := i) hs.1 (e := e) (by omega) h0 (by omega)).2.2 d d1.1 (by omega)
          rw [if_neg hne] at t
          have n2 := nw_tel (k := i) (c := c) hP hs.1 he h0 (by omega) (by rw [hd]; exact hne)
          rw [hd] at n2
          refine ⟨st, by rw [t]; exact d2, ?_, fun j j0 j1 => ?_⟩
          · rw [Sol.seen hP hV st a b hg (by rw [n2]; exact hn), n2]
            unfold XP.ov
            exact ovK_congr (fun j _ _ => by rw [tel_comm])
          · rw [tel_comm]; exact (ij j j0 j1).1 i i0 i1
        refine ⟨fun i i0 i1 => ?_, fun hb => ?_, fun hb i i0 i1 => ?_⟩
        · obtain ⟨st, z0, hv2, fn2⟩ := sk i i0 i1
          have ov2 := Sol.over hP hV st d1 z0 a b fn2
          rw [hv2]
          rw [ovK_congr (f := fun j => V (tel (tel s d j) e i) c) (f' := fun j => V (tel (tel s e i) d j) c) (fun j _ _ => by rw [tel_comm])]
          by_cases hb : P.bm = true
          · rw [hb]
            rcases ov2.1 (P.mn d).toNat (by omega) with q | q
            · rw [q.1]; have := q.2.2 hb; omega
            · rw [q] at hb; exact absurd hb (by decide)
          · rw [show P.bm = false by simpa using hb]
            have := ov2.2 (P.mn d).toNat (by omega)
            rw [this.1]; exact this.2
        · have e1 : ∀ i : Int, 0 ≤ i → i < P.mn e → V (tel s e i) c = sumTo (fun j => P.we d j * V (tel (tel s d j) e i) c) (P.mn d).toNat := fun i i0 i1 => by
            obtain ⟨st, z0, hv2, fn2⟩ := sk i i0 i1
            have ov2 := Sol.over hP hV st d1 z0 a b fn2
            rw [hv2, hb]
            rcases ov2.1 (P.mn d).toNat (by omega) with q | q
            · rw [ovK_congr (f := fun j => V (tel (tel s d j) e i) c) (f' := fun j => V (tel (tel s e i) d j) c) (fun j _ _ => by rw [tel_comm]), q.1]
              exact sumTo_congr (fun j _ _ => by rw [tel_comm])
            · rw [q] at hb; exact absurd hb (by decide)
          rw [sumTo_congr (f := fun i => P.we e i * V (tel s e i) c) (g := fun i => P.we e i * sumTo (fun j => P.we d j * V (tel (tel s d j) e i) c) (P.mn d).toNat) (fun i i0 i1 => by
            show P.we e i * V (tel s e i) c = _
            rw [e1 i i0 (by omega)]), sumTo_swap (P.we e) (P.we d) (fun j i => V (tel (tel s d j) e i) c)]
          rw [hb] at hv
          rcases ovd.1 (P.mn d).toNat (by omega) with q | q
          · rw [hv, q.1]
            refine sumTo_le (fun j j0 j1 => ?_)
            have wj := hP.2.2.1 d j d1.1 d1.2 j0 (by omega)
            exact Int.mul_le_mul_of_nonneg_left ((ij j j0 (by omega)).2.1 hb) (by omega)
          · rw [q] at hb; exact absurd hb (by decide)
        · obtain ⟨st, z0, hv2, fn2⟩ := sk i i0 i1
          have ov2 := Sol.over hP hV st d1 z0 a b fn2
          have v0 := ((hV s hs).2 c a (by omega)).1
          rw [hv2, hb, ovK_congr (f := fun j => V (tel (tel s d j) e i) c) (f' := fun j => V (tel (tel s e i) d j) c) (fun j _ _ => by rw [tel_comm]), (ov2.2 (P.mn d).toNat (by omega)).1]
          refine maxTo_le v0 (fun j j0 j1 => ?_)
          rw [tel_comm]
          have i3 := (ij j j0 (by omega)).2.2 hb i i0 i1
          rw [hb] at hv
          have i4 := maxTo_ge (f := fun k => V (tel s d k) c) (n := (P.mn d).toNat) j j0 j1
          rw [← (ovd.2 (P.mn d).toNat (by omega)).1, ← hv] at i4
          omega
theorem Sol.info (hP : P.ok) (hV : Sol P V) (hs : St P s) (he : 0 ≤ e ∧ e < P.nd) (h0 : dg s e = 0) (a : 0 ≤ c) (b : c < P.n) (hf : V s c < 1000000000000000) : Inf P V s e c :=
  Sol.told hP hV 1024 s hs (by have := hs.1; omega) e he h0 ((V s c).toNat + 1) c a b (by omega) hf
/-- the way that is chosen: the first that leads on best -/
def XP.wy (P : XP) (V : Int → Int → Int) (s c : Int) : Int := fst1 (fun w => decide (0 < P.tl s c w) && (decide (V s (P.nx c w) < 1000000000000000) && decide (V s (P.nx c w) + P.sc s * P.tl s c w = V s c))) 4 0
theorem Sol.wy (hP : P.ok) (hV : Sol P V) (hs : St P s) (a : 0 ≤ c) (b : c < P.n) (hg : ¬ c = P.go) (hn : P.nw s c = -1) (hf : V s c < 1000000000000000) : (0 ≤ P.wy V s c ∧ P.wy V s c < 4) ∧ 0 < P.tl s c (P.wy V s c) ∧ (0 ≤ P.nx c (P.wy V s c) ∧ P.nx c (P.wy V s c) < P.n) ∧ V s (P.nx c (P.wy V s c)) < 1000000000000000 ∧ V s (P.nx c (P.wy V s c)) + P.sc s * P.tl s c (P.wy V s c) = V s c ∧ ∀ i, 0 ≤ i → i < P.wy V s c → 0 < P.tl s c i → V s (P.nx c i) < 1000000000000000 → V s c < V s (P.nx c i) + P.sc s * P.tl s c i := by
  obtain ⟨w, w0, w1, w2, w3, w4, w5⟩ := Sol.inner hP hV hs a b hg hn hf
  unfold XP.wy
  rcases fst1_spec (f := fun w => decide (0 < P.tl s c w) && (decide (V s (P.nx c w) < 1000000000000000) && decide (V s (P.nx c w) + P.sc s * P.tl s c w = V s c))) 4 0 with ⟨q1, q2⟩ | ⟨q1, q2, q3, q4⟩
  · have := q2 w w0 (by omega)
    simp [w2, w4, w5] at this
  · simp only [Bool.and_eq_true, decide_eq_true_eq] at q3
    refine ⟨⟨q1, by omega⟩, q3.1, (hP.2.2.2.1 s c _ a b q1 (by omega) q3.1).2, q3.2.1, q3.2.2, fun i i0 i1 i2 i3 => ?_⟩
    have f1 := q4 i i0 i1
    have l := Sol.inner_all (w := i) hP hV hs a b hg hn i0 (by omega) i2 i3
    have : ¬ V s (P.nx c i) + P.sc s * P.tl s c i = V s c := by simpa [i2, i3] using f1
    omega
end VC
