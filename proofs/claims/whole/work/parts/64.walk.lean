/-! ways in a truth, apart from the machine -/
def seeK (M : XM) (s c f : Int) : Nat → Int
  | 0 => s
  | n + 1 => if dg s n = 0 ∧ nr M.wd M.hg (M.dc n) c = true then tel (seeK M s c f n) n (dg f n - 1) else seeK M s c f n
def seeS (M : XM) (s c f : Int) : Int := seeK M s c f M.nd.toNat
/-- a truth: all is told -/
def Tru (M : XM) (f : Int) : Prop := StM M f ∧ ∀ e, 0 ≤ e → e < M.nd → 1 ≤ dg f e
/-- a state that agrees with a truth -/
def Con (M : XM) (s f : Int) : Prop := ∀ e, 0 ≤ e → e < M.nd → dg s e = 0 ∨ dg s e = dg f e
section WK1
variable {M : XM} {B : XB} {dd go s c f : Int} {bm : Bool}
theorem seeK_in {G : Int} (hm : M.ok G) (hs : StM M s) (hf : Tru M f) : ∀ n : Nat, (n : Int) ≤ M.nd → StM M (seeK M s c f n) ∧ ∀ e, 0 ≤ e → e < 5 → dg (seeK M s c f n) e = if e < n ∧ dg s e = 0 ∧ nr M.wd M.hg (M.dc e) c = true then dg f e else dg s e := by
  have o := hm.1
  intro n
  induction n with
  | zero => intro _; exact ⟨hs, fun e a b => by rw [if_neg (by omega)]; rfl⟩
  | succ n ih =>
    intro hn
    obtain ⟨i1, i2⟩ := ih (by omega)
    unfold seeK
    have zn := i2 n (by omega) (by omega)
    rw [if_neg (by omega)] at zn
    by_cases q : dg s n = 0 ∧ nr M.wd M.hg (M.dc n) c = true
    · rw [if_pos q]
      have f1 := hf.2 n (by omega) (by omega)
      have f2 := (hf.1.2 n (by omega) (by omega)).1 (by omega)
      have om := mny_in hm (e := n) (by omega)
      have z0 : dg (seeK M s c f n) n = 0 := by rw [zn]; exact q.1
      have t := tel_in (k := dg f n - 1) i1.1 (e := n) (by omega) z0 (by omega)
      refine ⟨⟨by have := i1.1; omega, fun e a b => ?_⟩, fun e a b => ?_⟩
      · rw [t.2.2 e a b]
        by_cases z : e = n
        · rw [if_pos z, z]; exact ⟨fun _ => by omega, fun _ => by omega⟩
        · rw [if_neg z]; exact i1.2 e a b
      · rw [t.2.2 e a b]
        by_cases z : e = n
        · rw [if_pos z, if_pos ⟨by omega, by rw [z]; exact q⟩, z]; omega
        · rw [if_neg z, i2 e a b]
          by_cases w : e < (n : Int) ∧ dg s e = 0 ∧ nr M.wd M.hg (M.dc e) c = true
          · rw [if_pos w, if_pos ⟨by omega, w.2⟩]
          · rw [if_neg w, if_neg (fun v => w ⟨by omega, v.2⟩)]
    · rw [if_neg q]
      refine ⟨i1, fun e a b => ?_⟩
      rw [i2 e a b]
      by_cases w : e < (n : Int) ∧ dg s e = 0 ∧ nr M.wd M.hg (M.dc e) c = true
      · rw [if_pos w, if_pos ⟨by omega, w.2⟩]
      · rw [if_neg w, if_neg (fun v => w ⟨if z : e = (n : Int) then absurd v.2 (by rw [z]; exact q) else (by omega), v.2⟩)]
theorem seeS_in {G : Int} (hm : M.ok G) (hs : StM M s) (hf : Tru M f) : StM M (seeS M s c f) ∧ ∀ e, 0 ≤ e → e < M.nd → dg (seeS M s c f) e = if dg s e = 0 ∧ nr M.wd M.hg (M.dc e) c = true then dg f e else dg s e := by
  have o := hm.1
  have k := seeK_in (c := c) hm hs hf M.nd.toNat (by omega)
  refine ⟨k.1, fun e a b => ?_⟩
  have := k.2 e a (by omega)
  unfold seeS
  rw [this]
  by_cases w : dg s e = 0 ∧ nr M.wd M.hg (M.dc e) c = true
  · rw [if_pos w, if_pos ⟨by omega, w⟩]
  · rw [if_neg w, if_neg (fun v => w v.2)]
theorem seeS_con {G : Int} (hm : M.ok G) (hs : StM M s) (hf : Tru M f) (hc : Con M s f) : Con M (seeS M s c f) f := fun e a b => by
  rw [(seeS_in hm hs hf).2 e a b]
  split
  · exact Or.inr rfl
  · exact hc e a b
theorem seeS_nw {G : Int} (hm : M.ok G) (hs : StM M s) (hf : Tru M f) : (xp B dd M go bm).nw (seeS M s c f) c = -1 := by
  have o := hm.1
  have en : (xp B dd M go bm).nd = M.nd := rfl
  rcases (xp B dd M go bm).nw_spec (seeS M s c f) c (by omega) with ⟨q, _⟩ | ⟨q1, q2, q3, _⟩
  · exact q
  · exfalso
    have := (seeS_in (c := c) hm hs hf).2 _ q1.1 q1.2
    rw [q2] at this
    have f1 := hf.2 _ q1.1 q1.2
    by_cases w : dg s ((xp B dd M go bm).nw (seeS M s c f) c) = 0
    · rw [if_pos ⟨w, q3⟩] at this; omega
    · rw [if_neg (fun v => w v.1)] at this; omega
/-- what is seen keeps the goal in reach -/
theorem seeS_fin (ho : B.ok) (hd : 0 ≤ dd ∧ dd < B.w) (hm : M.ok B.g) (hg : 0 ≤ go ∧ go < M.n) (hs : StM M s) (hf : Tru M f) (hc : 0 ≤ c ∧ c < M.n) (hv : Vl (xp B dd M go bm) s c < 1000000000000000) : Vl (xp B dd M go bm) (seeS M s c f) c < 1000000000000000 := by
  have o := hm.1
  have hX := xp_ok (go := go) (bm := bm) ho hm hd hg
  have hV := Vl_sol hX
  have key : ∀ n : Nat, (n : Int) ≤ M.nd → Vl (xp B dd M go bm) (seeK M s c f n) c < 1000000000000000 := by
    intro n
    induction n with
    | zero => intro _; exact hv
    | succ n ih =>
      intro hn
      have i := ih (by omega)
      have k := seeK_in (c := c) hm hs hf n (by omega)
      have zn := k.2 n (by omega) (by omega)
      rw [if_neg (by omega)] at zn
      unfold seeK
      by_cases q : dg s n = 0 ∧ nr M.wd M.hg (M.dc n) c = true
      · rw [if_pos q]
        have f1 := hf.2 n (by omega) (by omega)
        have f2 := (hf.1.2 n (by omega) (by omega)).1 (by omega)
        have inf := Sol.info hX hV (s := seeK M s c f n) (e := n) k.1 ⟨by omega, by have : (xp B dd M go bm).nd = M.nd := rfl; omega⟩ (by rw [zn]; exact q.1) hc.1 hc.2 i
        exact inf.1 (dg f n - 1) (by omega) (by have : (xp B dd M go bm).mn n = mny M n := rfl; omega)
      · rw [if_neg q]; exact i
  exact key M.nd.toNat (by omega)
/-- how much is open becomes less, or the state stays -/
theorem seeS_opn {G : Int} (hm : M.ok G) (hs : StM M s) (hf : Tru M f) : (seeS M s c f = s) ∨ (xp B dd M go bm).opn (seeS M s c f) < (xp B dd M go bm).opn s := by
  have o := hm.1
  have k := seeS_in (c := c) hm hs hf
  by_cases q : ∃ e, 0 ≤ e ∧ e < M.nd ∧ dg s e = 0 ∧ nr M.wd M.hg (M.dc e) c = true
  · right
    obtain ⟨e, e0, e1, e2, e3⟩ := q
    have f1 := hf.2 e e0 e1
    refine sumTo_lt (c0 := e) (fun i a b => ?_) e0 (by have : (xp B dd M go bm).nd = M.nd := rfl; omega) ?_
    · have bi : i < M.nd := by have : (xp B dd M go bm).nd = M.nd := rfl; omega
      have fi := hf.2 i a bi
      rw [k.2 i a bi]
      by_cases w : dg s i = 0 ∧ nr M.wd M.hg (M.dc i) c = true
      · rw [if_pos w, if_pos w.1, if_neg (by omega)]; decide
      · rw [if_neg w]; exact Int.le_refl _
    · have kd := k.2 e e0 e1
      rw [if_pos ⟨e2, e3⟩] at kd
      rw [kd, if_neg (by omega), if_pos e2]; decide
  · left
    refine st_ext k.1.1 hs.1 (fun e a b => ?_)
    by_cases z : e < M.nd
    · rw [k.2 e a z, if_neg (fun w => q ⟨e, a, z, w.1, w.2⟩)]
    · rw [(k.1.2 e a b).2 (by omega), (hs.2 e a b).2 (by omega)]
/-- states and cells on the way, step by step -/
noncomputable def pos (B : XB) (dd : Int) (M : XM) (go : Int) (bm : Bool) (f : Int) (s c : Int) : Nat → Int × Int
  | 0 => (seeS M s c f, c)
  | t + 1 => if (pos B dd M go bm f s c t).2 = go then pos B dd M go bm f s c t else (seeS M (pos B dd M go bm f s c t).1 (M.nx (pos B dd M go bm f s c t).2 ((xp B dd M go bm).wy (Vl (xp B dd M go bm)) (pos B dd M go bm f s c t).1 (pos B dd M go bm f s c t).2)) f, M.nx (pos B dd M go bm f s c t).2 ((xp B dd M go bm).wy (Vl (xp B dd M go bm)) (pos B dd M go bm f s c t).1 (pos B dd M go bm f s c t).2))
noncomputable def pcst (B : XB) (dd : Int) (M : XM) (go : Int) (bm : Bool) (f : Int) (s c : Int) : Nat → Int
  | 0 => 0
  | t + 1 => pcst B dd M go bm f s c t + if (pos B dd M go bm f s c t).2 = go then 0 else tlB B dd M (pos B dd M go bm f s c t).1 (pos B dd M go bm f s c t).2 ((xp B dd M go bm).wy (Vl (xp B dd M go bm)) (pos B dd M go bm f s c t).1 (pos B dd M go bm f s c t).2)
/-- a place on the way -/
def OnW (B : XB) (dd : Int) (M : XM) (go : Int) (bm : Bool) (f : Int) (p : Int × Int) : Prop := StM M p.1 ∧ Con M p.1 f ∧ (0 ≤ p.2 ∧ p.2 < M.n) ∧ (xp B dd M go bm).nw p.1 p.2 = -1 ∧ Vl (xp B dd M go bm) p.1 p.2 < 1000000000000000
noncomputable def pot (B : XB) (dd : Int) (M : XM) (go : Int) (bm : Bool) (p : Int × Int) : Int := (xp B dd M go bm).opn p.1 * 100 + (cntL (Vl (xp B dd M go bm) p.1) (Vl (xp B dd M go bm) p.1 p.2) M.n.toNat : Nat)
theorem pos_on (ho : B.ok) (hd : 0 ≤ dd ∧ dd < B.w) (hm : M.ok B.g) (hg : 0 ≤ go ∧ go < M.n) (hs : StM M s) (hf : Tru M f) (hcn : Con M s f) (hc : 0 ≤ c ∧ c < M.n) (hv : Vl (xp B dd M go bm) s c < 1000000000000000) : ∀ t : Nat, OnW B dd M go bm f (pos B dd M go bm f s c t) ∧ ((pos B dd M go bm f s c t).2 = go ∨ pot B dd M go bm (pos B dd M go bm f s c t) + t ≤ 599) := by
  have o := hm.1
  have hn := M.n_in hm
  have hX := xp_ok (go := go) (bm := bm) ho hm hd hg
  have hV := Vl_sol hX
  have pmax : ∀ p : Int × Int, (0 ≤ p.2 ∧ p.2 < M.n) → pot B dd M go bm p ≤ (xp B dd M go bm).opn p.1 * 100 + 99 := fun p hp => by
    have := cntL_self (v := Vl (xp B dd M go bm) p.1) (n := M.n.toNat) (c := p.2) hp.1 (by omega)
    unfold pot; omega
  intro t
  induction t with
  | zero =>
    have k := seeS_in (c := c) hm hs hf
    refine ⟨⟨k.1, seeS_con hm hs hf hcn, hc, seeS_nw hm hs hf, seeS_fin ho hd hm hg hs hf hc hv⟩, Or.inr ?_⟩
    have p := pmax (pos B dd M go bm f s c 0) hc
    have oi := opn_in (P := xp B dd M go bm) (s := (pos B dd M go bm f s c 0).1) hX
    have en : (xp B dd M go bm).nd = M.nd := rfl
    omega
  | succ t ih =>
    obtain ⟨⟨i1, i2, i3, i4, i5⟩, i6⟩ := ih
    unfold pos
    by_cases q : (pos B dd M go bm f s c t).2 = go
    · rw [if_pos q]; exact ⟨⟨i1, i2, i3, i4, i5⟩, Or.inl q⟩
    · rw [if_neg q]
      generalize pos B dd M go bm f s c t = p at *
      have wy := Sol.wy hX hV i1 i3.1 i3.2 q i4 i5
      have eXnx : (xp B dd M go bm).nx = M.nx := rfl
      rw [eXnx] at wy
      generalize hw : (xp B dd M go bm).wy (Vl (xp B dd M go bm)) p.1 p.2 = w at *
      have nr2 : 0 ≤ M.nx p.2 w ∧ M.nx p.2 w < M.n := wy.2.2.1
      have k := seeS_in (c := M.nx p.2 w) hm i1 hf
      have fin := seeS_fin (c := M.nx p.2 w) (bm := bm) ho hd hm hg i1 hf nr2 wy.2.2.2.1
      refine ⟨⟨k.1, seeS_con hm i1 hf i2, nr2, seeS_nw hm i1 hf, fin⟩, Or.inr ?_⟩
      have i6 := i6.resolve_left q
      have oi := opn_in (P := xp B dd M go bm) (s := seeS M p.1 (M.nx p.2 w) f) hX
      rcases seeS_opn (B := B) (dd := dd) (go := go) (bm := bm) (c := M.nx p.2 w) hm i1 hf with z | z
      · rw [z]
        have scp := (sc_in (s := p.1) hX).1
        have pos2 := Int.mul_pos (show 0 < (xp B dd M go bm).sc p.1 by omega) wy.2.1
        have cl := cntL_lt (v := Vl (xp B dd M go bm) p.1) (n := M.n.toNat) (x := Vl (xp B dd M go bm) p.1 (M.nx p.2 w)) (y := Vl (xp B dd M go bm) p.1 p.2) (c := M.nx p.2 w) nr2.1 (by omega) (Int.le_refl _) (by omega)
        unfold pot at i6 ⊢
        dsimp only
        omega
      · have p1 := pmax (seeS M p.1 (M.nx p.2 w) f, M.nx p.2 w) nr2
        dsimp only at p1
        unfold pot at i6
        omega
/-- the goal is come to -/
theorem pos_end (ho : B.ok) (hd : 0 ≤ dd ∧ dd < B.w) (hm : M.ok B.g) (hg : 0 ≤ go ∧ go < M.n) (hs : StM M s) (hf : Tru M f) (hcn : Con M s f) (hc : 0 ≤ c ∧ c < M.n) (hv : Vl (xp B dd M go bm) s c < 1000000000000000) : ∃ L : Nat, L ≤ 600 ∧ (pos B dd M go bm f s c L).2 = go ∧ ∀ t, t < L → ¬ (pos B dd M go bm f s c t).2 = go := by
  have hX := xp_ok (go := go) (bm := bm) ho hm hd hg
  have h600 : (pos B dd M go bm f s c 600).2 = go := by
    have p := (pos_on ho hd hm hg hs hf hcn hc hv 600).2
    rcases p with q | q
    · exact q
    · exfalso
      have oi := opn_in (P := xp B dd M go bm) (s := (pos B dd M go bm f s c 600).1) hX
      unfold pot at q
      omega
  have key : ∀ n : Nat, (pos B dd M go bm f s c n).2 = go → ∃ L : Nat, L ≤ n ∧ (pos B dd M go bm f s c L).2 = go ∧ ∀ t, t < L → ¬ (pos B dd M go bm f s c t).2 = go := by
    intro n
    induction n with
    | zero => intro q; exact ⟨0, Nat.le_refl _, q, fun t h => by omega⟩
    | succ n ih =>
      intro q
      by_cases z : (pos B dd M go bm f s c n).2 = go
      · obtain ⟨L, l1, l2, l3⟩ := ih z
        exact ⟨L, by omega, l2, l3⟩
      · by_cases w : ∃ t, t < n ∧ (pos B dd M go bm f s c t).2 = go
        · obtain ⟨t, t1, t2⟩ := w
          exfalso
          have stay : ∀ k, (pos B dd M go bm f s c (t + k)).2 = go := by
            intro k
            induction k with
            | zero => exact t2
            | succ k ih =>
              show (pos B dd M go bm f s c ((t + k) + 1)).2 = go
              unfold pos
              rw [if_pos ih]; exact ih
          have := stay (n - t)
          rw [show t + (n - t) = n by omega] at this
          exact z this
        · refine ⟨n + 1, Nat.le_refl _, q, fun t ht y => ?_⟩
          by_cases e : t = n
          · rw [e] at y; exact z y
          · exact w ⟨t, by omega, y⟩
  exact key 600 h600
theorem pcst_in (ho : B.ok) (hd : 0 ≤ dd ∧ dd < B.w) (hm : M.ok B.g) (hg : 0 ≤ go ∧ go < M.n) (hs : StM M s) (hf : Tru M f) (hcn : Con M s f) (hc : 0 ≤ c ∧ c < M.n) (hv : Vl (xp B dd M go bm) s c < 1000000000000000) : ∀ t : Nat, 0 ≤ pcst B dd M go bm f s c t ∧ pcst B dd M go bm f s c t ≤ 40101 * t := by
  have hX := xp_ok (go := go) (bm := bm) ho hm hd hg
  have hV := Vl_sol hX
  intro t
  induction t with
  | zero => exact ⟨Int.le_refl _, Int.le_refl _⟩
  | succ t ih =>
    unfold pcst
    obtain ⟨i1, i2, i3, i4, i5⟩ := (pos_on ho hd hm hg hs hf hcn hc hv t).1
    by_cases q : (pos B dd M go bm f s c t).2 = go
    · rw [if_pos q]; omega
    · rw [if_neg q]
      have wy := Sol.wy hX hV i1 i3.1 i3.2 q i4 i5
      have := tlB_in (s := (pos B dd M go bm f s c t).1) ho hm hd i3 wy.2.1
      have : 0 < tlB B dd M (pos B dd M go bm f s c t).1 (pos B dd M go bm f s c t).2 ((xp B dd M go bm).wy (Vl (xp B dd M go bm)) (pos B dd M go bm f s c t).1 (pos B dd M go bm f s c t).2) := wy.2.1
      omega
end WK1
