/-! between two calls: weights -/
def XM.wgh (M : XM) (x y z : Int) : XM := (M.1, M.2.1, fun e g => if e = x ∧ g = y then z else M.wt e g)
section INVG
variable {i n rb va zv va2 zv2 a0 a1 va' zv' wa k : Nat} {h h1 h2 h3 h' : XH} {P Q X : Nat → Nat → Bool} {s : Nat → Int32} {B : XB} {dd dd' : Int} {M M' : XM} {t np np' L L' t' r x y z e stp stp2 stp' to c bd G : Int} {T T' tr tr' du du' g : Int → Int} {pl : Int → XL} {v w : Nat → Int} {K : Int32 → XH → Prop} {bm : Bool}
theorem chs_othr {u : Int → Int} (hy : 0 ≤ y) : ∀ m : Nat, ((chs u m).length : Int) = othr u y m + (if y < m ∧ 0 < u y then 1 else 0) := by
  intro m
  induction m with
  | zero => show ((0 : Nat) : Int) = 0 + _; rw [if_neg (by omega)]; rfl
  | succ m ih =>
    have e : othr u y (m + 1) = othr u y m + (if ¬ (m : Int) = y ∧ 0 < u m then 1 else 0) := rfl
    have hw : (m : Int) = y → u m = u y := fun w => by rw [w]
    have lc : ((chs u (m + 1)).length : Int) = (chs u m).length + (if 0 < u m then 1 else 0) := by
      show ((if 0 < u m then chs u m ++ [(m : Int)] else chs u m).length : Int) = _
      by_cases q : 0 < u m
      · rw [if_pos q, if_pos q, List.length_append, List.length_singleton, Int.natCast_add]; rfl
      · rw [if_neg q, if_neg q]; omega
    rw [lc, ih, e]
    clear lc ih e
    repeat' split
    all_goals omega
theorem othr_congr {u u' : Int → Int} {m : Nat} (hu : ∀ k : Int, 0 ≤ k → k < m → ¬ k = y → u k = u' k) : othr u y m = othr u' y m := sumTo_congr (fun k a b => by
  by_cases w : k = y
  · rw [if_neg (fun x => x.1 w), if_neg (fun x => x.1 w)]
  · rw [hu k a b w])
theorem o_weigh (hi : i ≤ 600) (hx : R32 x) (hy : R32 y) (hz : R32 z) (I : INV i h s n) (kk : ∀ r h1, Mid i 40 202 [.ref 118, .int (iI x), .int (iI y), .int (iI z), .null, .null] s n r h1 → K r h1) : XW 40 129 0 [.ref 1, .int (iI x), .int (iI y), .int (iI z)] [] h (KI K) := by
  obtain ⟨B, dd, M, t, T, np, pl, L, tr, du, v, S⟩ := I
  have S : ST i h s n B dd M t T np pl L tr du v v := S
  obtain ⟨rb, va, zv, va2, zv2, a0, stp, stp2, c1, c2, c3, c4, c5, c6, c7, c8⟩ := id S.2.2.1
  have p := S.2.1
  have h8 := p.2.2.2.2.1.1.2
  have n1 := p.n100
  have g1 := p.g
  have cp := c1.2.2.1
  have e3 : zF h 80 3 = M.nd := cp.1.2.2.2
  have eg : zF h rb 0 = B.g := c1.2.1.1.1
  have mo : 0 < M.nd → 0 < M.n ∧ M.ok B.g := fun q => by
    by_cases w : 0 < M.n
    · exact ⟨w, (p.map w).2.1⟩
    · have := p.nomap w; omega
  have w88 : ∀ x g, 0 ≤ x → x < M.nd → 0 ≤ g → g < 8 → zA h 87 (x * 8 + g) = M.wt x g := fun x g a b c d => cp.2.2.2.1 x a b g c d
  have w90 : ∀ x, 0 ≤ x → x < M.nd → zA h 89 x = mny M x := fun x a b => (cp.ch ⟨a, b⟩).1
  have my : ∀ x, 0 ≤ x → x < M.nd → 1 ≤ mny M x ∧ mny M x ≤ 3 := fun x a b => mny_in (mo (by omega)).2 ⟨a, b⟩
  have mny_o : ∀ x y, 0 ≤ x → x < M.nd → 0 ≤ y → y < 8 → mny M x = othr (M.wt x) y 8 + (if 0 < M.wt x y then 1 else 0) := fun x y a b c d => by
    have := chs_othr (u := M.wt x) c 8
    unfold mny
    rw [this]
    by_cases w : 0 < M.wt x y
    · rw [if_pos ⟨by omega, w⟩, if_pos w]
    · rw [if_neg (fun q => w q.2), if_neg w]
  have new_o : ∀ (u : Int → Int) x y z, 0 ≤ x → x < M.nd → 0 ≤ y → y < 8 → (∀ g, 0 ≤ g → g < 8 → u g = if g = y then z else M.wt x g) → ((chs u 8).length : Int) = othr (M.wt x) y 8 + (if 0 < z then 1 else 0) := fun u x y z a b c d hu => by
    rw [chs_othr (u := u) c 8, othr_congr (u := u) (u' := M.wt x) (fun k k0 k1 k2 => by rw [hu k k0 (by omega), if_neg k2])]
    by_cases w : 0 < z
    · rw [if_pos ⟨by omega, by rw [hu y c d, if_pos rfl]; exact w⟩, if_pos w]
    · rw [if_neg (fun q => w (by have := q.2; rw [hu y c d, if_pos rfl] at this; exact this)), if_neg w]
  have od : ∀ {h1}, IM h1 B dd M t T np pl L tr du → 0 ≤ x ∧ x < M.nd → othr (fun k => zA h1 138 (8 * x + k)) y 8 = othr (M.wt x) y 8 := fun {h1} m q => othr_congr (fun k a b _ => m.1.2.2.1.2.2.2 x q.1 q.2 k a (by omega))
  have d138 : ∀ {h1}, IM h1 B dd M t T np pl L tr du → 0 ≤ x ∧ x < M.nd → zA h1 137 x = M.kn x := fun m q => (m.1.2.2.1.2.2.1 x q.1 q.2).2
  have d87 : 0 ≤ x ∧ x < M.nd → zA h 86 x = M.kn x := fun q => (cp.2.2.1 x q.1 q.2).1
  refine c_weigh hx hy hz S.1.1 c1.1 (by omega) (by omega) (fun x g a b c d => ?_) (fun x a b => ?_) (fun x y z a b c d e f => ?_) (fun q => kk _ _ ?_) (fun q q1 q2 => kk _ _ ?_) (fun q q1 q2 q3 => kk _ _ ?_) (fun q q1 q2 q3 q4 h' f' ag ch r88 r90 r89 => kk _ _ ?_)
  · rw [e3] at b
    rw [w88 x g a b c d]; have := (mo (by omega)).2.2.2.2.1 x a b g c d; omega
  · rw [e3] at b
    rw [w90 x a b]; have := my x a b; omega
  · rw [e3] at b
    have y8 : y < 8 := d
    rw [w90 x a b, w88 x y a b c y8] at f
    have l := new_o (fun g => if g = y then z else zA h 87 (x * 8 + g)) x y z a b c y8 (fun g g0 g1 => by
      by_cases w : g = y
      · rw [if_pos w, if_pos w]
      · rw [if_neg w, if_neg w]; exact w88 x g a b g0 g1)
    have o := mny_o x y a b c y8
    have m3 := my x a b
    by_cases w : 0 < z
    · rw [if_pos w] at l; have := f w; omega
    · rw [if_neg w] at l; split at o <;> omega
  · have S1 := S.c18 (r := 1) (by decide)
    have m := S1.2.2.2.2.1
    have ce := m.cell p
    rw [e3, eg] at q
    exact ⟨S1.1, fun K2 k2 => m_weigh hx hy hz S1.1.1 m.1.1 (fun _ => k2 _ (S1.ref (by decide))) (fun a b => absurd ⟨(ce.2.1 x).1 a, (ce.2.2 y).1 b⟩ q) (fun a b => absurd ⟨(ce.2.1 x).1 a, (ce.2.2 y).1 b⟩ q) (fun a b => absurd ⟨(ce.2.1 x).1 a, (ce.2.2 y).1 b⟩ q)⟩
  · have S1 := S.c18 (r := 2) (by decide)
    have m := S1.2.2.2.2.1
    have ce := m.cell p
    rw [e3] at q
    rw [eg] at q1
    exact ⟨S1.1, fun K2 k2 => m_weigh hx hy hz S1.1.1 m.1.1 (fun w => absurd ⟨(ce.2.1 x).2 q, (ce.2.2 y).2 q1⟩ w) (fun _ _ _ => k2 _ (S1.ref (by decide))) (fun _ _ w => absurd w q2) (fun _ _ w => absurd w q2)⟩
  · have S1 := S.c18 (r := 5) (by decide)
    have m := S1.2.2.2.2.1
    have ce := m.cell p
    rw [e3] at q
    rw [eg] at q1
    have o := mny_o x y q.1 q.2 q1.1 (by omega)
    rw [w90 x q.1 q.2, w88 x y q.1 q.2 q1.1 (by omega), d87 q] at q3
    have m3 := my x q.1 q.2
    refine ⟨S1.1, fun K2 k2 => m_weigh hx hy hz S1.1.1 m.1.1 (fun w => absurd ⟨(ce.2.1 x).2 q, (ce.2.2 y).2 q1⟩ w) (fun _ _ w => absurd q2 w) (fun _ _ _ _ => k2 _ (S1.ref (by decide))) (fun _ _ _ w => ?_)⟩
    rw [od m q, d138 m q] at w
    exfalso
    apply q3
    refine ⟨fun a => ?_, fun a => ?_⟩
    · rw [if_pos a] at w; omega
    · rw [if_neg (by omega)] at w; exact ⟨by omega, by omega⟩
  · rw [e3] at q
    rw [eg] at q1
    have age := c2.1
    have mok := mo (by omega)
    have o := mny_o x y q.1 q.2 q1.1 (by omega)
    have m3 := my x q.1 q.2
    rw [w90 x q.1 q.2, w88 x y q.1 q.2 q1.1 (by omega)] at q3 q4
    rw [d87 q] at q4
    have ok : (M.wgh x y z).ok B.g := by
      have o' := mok.2
      have wX : ∀ e g, (M.wgh x y z).wt e g = if e = x ∧ g = y then z else M.wt e g := fun _ _ => rfl
      refine ⟨o'.1, o'.2.1, fun e a b => ?_, fun e a b g g0 g2 => ?_, fun e a b => ?_⟩
      · have u := o'.2.2.1 e a b
        refine ⟨u.1, u.2.1, u.2.2.1, ?_⟩
        show M.kn e = -1 ∨ (0 ≤ M.kn e ∧ M.kn e < B.g ∧ 0 < (M.wgh x y z).wt e (M.kn e))
        rcases u.2.2.2 with u | u
        · exact Or.inl u
        · refine Or.inr ⟨u.1, u.2.1, ?_⟩
          rw [wX]
          by_cases w : e = x ∧ M.kn e = y
          · rw [if_pos w]
            by_cases z0 : z = 0
            · have := (q4 z0).2; rw [w.1] at w; omega
            · omega
          · rw [if_neg w]; exact u.2.2
      · have u := o'.2.2.2.1 e a b g g0 g2
        rw [wX]
        by_cases w : e = x ∧ g = y
        · rw [if_pos w]; exact ⟨q2.1, q2.2, fun _ => by omega⟩
        · rw [if_neg w]; exact u
      · by_cases w : e = x
        · have l := new_o ((M.wgh x y z).wt e) x y z q.1 q.2 q1.1 (by omega) (fun g _ _ => by
            rw [wX, w]
            by_cases u : g = y
            · rw [if_pos ⟨rfl, u⟩, if_pos u]
            · rw [if_neg (fun q => u q.2), if_neg u])
          by_cases z0 : 0 < z
          · rw [if_pos z0] at l
            have := q3 z0
            have : 0 ≤ othr (M.wt x) y 8 := by split at o <;> omega
            split at o <;> omega
          · rw [if_neg z0] at l
            have := (q4 (by omega)).1
            split at o <;> omega
        · rw [chs_congr (u := M.wt e) (fun g _ _ => by rw [wX, if_neg (fun q => w q.1)])]; exact o'.2.2.2.2 e a b
    have f : Fr (pO (pA [87, 88, 89, 90]) (pF [(80, 4), (1, 18)])) h (sI h' 1 18 (iI 0)) := (f'.mono (fun a j q => by simp only [pO, Bool.or_eq_false_iff] at q ⊢; refine ⟨q.1, ?_⟩; have := q.2; simp [pF] at this ⊢; omega)).sI 1 18 _ (by simp [pO, pA, pF])
    have f2 := s18_fr h' 0
    have z18 := s18_v h' (r := 0) (by decide)
    have hp : ∀ a j, pLd a j = false → pO (pA [87, 88, 89, 90]) (pF [(80, 4), (1, 18)]) a j = false := fun a j q => by simp [pLd] at q; simp [pO, pA, pF]; omega
    generalize sI h' 1 18 (iI 0) = h1 at *
    have A : ∀ a k, 81 ≤ a → a ≤ 90 → zA h1 a k = zA h' a k := fun a k p q => f2.A (by simp [pF]; omega)
    have A0 : ∀ a k, 81 ≤ a → a ≤ 86 → zA h1 a k = zA h a k := fun a k p q => f.A (by simp [pO, pA, pF]; omega)
    have F : ∀ j, ¬ j = 4 → zF h1 80 j = zF h 80 j := fun j q => f.F (by simp [pO, pA, pF]; omega)
    have cm : CMp h1 (M.wgh x y z) := by
      refine ⟨⟨(F 0 (by omega)).trans cp.1.1, (F 1 (by omega)).trans cp.1.2.1, (F 2 (by omega)).trans cp.1.2.2.1, (F 3 (by omega)).trans cp.1.2.2.2⟩, fun c a b => ?_, fun e a b => ?_, fun e a b g g0 g2 => ?_, fun c a b => ?_, fun c a b e e0 e1 => ?_, fun c way a b w0 w1 => ?_⟩
      · rw [A0 81 c (by omega) (by omega), A0 82 c (by omega) (by omega), A0 83 c (by omega) (by omega)]; exact cp.2.1 c a b
      · rw [A0 86 e (by omega) (by omega)]
        have u := cp.2.2.1 e a b
        refine ⟨u.1, ?_⟩
        unfold ChOK
        have x1 : ∀ k, zA h1 87 k = zA h' 87 k := fun k => A 87 k (by omega) (by omega)
        have x2 : ∀ k, zA h1 88 k = zA h' 88 k := fun k => A 88 k (by omega) (by omega)
        rw [A 89 e (by omega) (by omega), A 90 e (by omega) (by omega)]
        simp only [x1, x2]
        by_cases w : e = x
        · rw [w]; exact ch
        · have ce := u.2
          have lim := (mok.2.2.2.2.2 e a b).2
          have eq8 : ∀ g : Int, 0 ≤ g → g < 8 → zA h' 87 (e * 8 + g) = zA h 87 (e * 8 + g) := fun g g0 g1 => by
            rw [r88 _ (by omega), if_neg (by omega)]
          have ec : chs (fun g => zA h' 87 (e * 8 + g)) 8 = chs (fun g => zA h 87 (e * 8 + g)) 8 := chs_congr (fun g g0 g1 => eq8 g g0 (by omega))
          have es : sumTo (fun g => zA h' 87 (e * 8 + g)) 8 = sumTo (fun g => zA h 87 (e * 8 + g)) 8 := sumTo_congr (fun g g0 g1 => eq8 g g0 (by omega))
          have el : chs (fun g => zA h 87 (e * 8 + g)) 8 = chs (M.wt e) 8 := chs_congr (fun g g0 g1 => w88 e g a b g0 (by omega))
          unfold ChOK at ce
          rw [ec, es, (r90 e a w).1, (r90 e a w).2]
          refine ⟨ce.1, ce.2.1, fun j hj => ?_⟩
          rw [r89 _ (by omega) (by rw [el] at hj; omega)]
          exact ce.2.2 j hj
      · rw [A 87 _ (by omega) (by omega), r88 _ (by omega)]
        show _ = (if e = x ∧ g = y then z else M.wt e g)
        by_cases w : e = x ∧ g = y
        · rw [if_pos (by rw [w.1, w.2]), if_pos w]
        · rw [if_neg (fun q => w (by omega)), if_neg w]; exact w88 e g a b g0 g2
      · rw [A0 84 c (by omega) (by omega)]; exact cp.2.2.2.2.1 c a b
      · rw [A0 84 c (by omega) (by omega)]; exact cp.2.2.2.2.2.1 c a b e e0 e1
      · rw [A0 85 _ (by omega) (by omega)]; exact cp.2.2.2.2.2.2 c way a b w0 w1
    have ic := S.2.2.1.land f S.1.1 hp cm (by rw [f.F (by simp [pO, pA, pF])]; exact c1.2.2.2.1) (fun z => (c1.2.2.2.2 z).fr f ⟨by simp [pO, pA, pF], by simp [pO, pA, pF]⟩ (fun j => by simp [pO, pA, pF])) (gF (by omega) ((f2.2 80 4 (by simp [pF])).1.trans ag)) (c4.fr f S.1.1 ⟨by simp [pO, pA, pF], fun a j p q => by simp [pO, pA, pF]; omega⟩ h8)
    obtain ⟨k1, cv, m, mv⟩ := land_st S f hp z18
    have ce := m.cell p
    refine ⟨k1, fun K2 k2 => m_weigh hx hy hz k1.1 m.1.1 (fun w => absurd ⟨(ce.2.1 x).2 q, (ce.2.2 y).2 q1⟩ w) (fun _ _ w => absurd q2 w) (fun _ _ _ w => ?_) (fun _ _ _ _ => k2 _ ?_)⟩
    · rw [od m q, d138 m q] at w
      exfalso
      by_cases z0 : 0 < z
      · rw [if_pos z0] at w; have := q3 z0; split at o <;> omega
      · rw [if_neg z0] at w; have := q4 (by omega); split at o <;> omega
    · have g3 : Fr (pO (pA [138]) (pF [(118, 0), (118, 39), (118, 51)])) h1 (sI (sI (hG h1) 138 (8 * x + y).toNat (iI z)) 118 51 (iI 0)) := (((hG_fr h1).mono (fun a j q => by simp only [pO, Bool.or_eq_false_iff] at q; have := q.2; simp [pF] at this ⊢; omega)).sI 138 _ _ (by simp [pO, pA, pF])).sI 118 51 _ (by simp [pO, pA, pF])
      have g4 : Fr (pF [(118, 51)]) (sI (hG h1) 138 (8 * x + y).toNat (iI z)) (sI (sI (hG h1) 138 (8 * x + y).toNat (iI z)) 118 51 (iI 0)) := (Fr.refl _ _).sI 118 51 _ (by simp [pF])
      have mr : ∀ c, 0 ≤ c → zA (sI (sI (hG h1) 138 (8 * x + y).toNat (iI z)) 118 51 (iI 0)) 138 c = updI (zA h1 138) (8 * x + y) z c := fun c hc => by
        rw [g4.A (by simp [pF]), zA_sI (by omega) (by omega) c hc]
        unfold updI
        rw [(hG_fr h1).A (by simp [pF])]
      have z39 : zF (sI (sI (hG h1) 138 (8 * x + y).toNat (iI z)) 118 51 (iI 0)) 118 39 = 0 := by
        have e : Fr (pO (pA [138]) (pF [(118, 51)])) (hG h1) (sI (sI (hG h1) 138 (8 * x + y).toNat (iI z)) 118 51 (iI 0)) := ((Fr.refl _ _).sI 138 _ _ (by simp [pO, pA, pF])).sI 118 51 _ (by simp [pO, pA, pF])
        rw [e.F (by simp [pO, pA, pF])]; exact hG_39 h1
      have z51 : zF (sI (sI (hG h1) 138 (8 * x + y).toNat (iI z)) 118 51 (iI 0)) 118 51 = 0 := gF (by decide) rfl
      generalize sI (sI (hG h1) 138 (8 * x + y).toNat (iI z)) 118 51 (iI 0) = h2 at *
      have mp := m.1.2.2.1
      have nn : 0 < (M.wgh x y z).n := mok.1
      refine land_inv k1 ⟨p.1, p.2.1, Or.inl ⟨nn, (p.map mok.1).1, ok⟩, p.2.2.2⟩ ic cv m mv g3 (fun a j q => by simp [pLm] at q; simp [pO, pA, pF]; omega) z39 (m.1.1.fr g3 (by simp [pO, pA, pF])) ⟨?_, fun c a b => ?_, fun e a b => ?_, fun e a b g g0 g2 => ?_⟩ (by rw [(g3.2 118 38 (by simp [pO, pA, pF])).1]; exact m.1.2.2.2.1) z51 (m.2.2.1.fr g3 ⟨by simp [pO, pA, pF], fun j => by simp [pO, pA, pF]⟩)
      · rw [g3.F (j := 34) (by simp [pO, pA, pF]), g3.F (j := 35) (by simp [pO, pA, pF]), g3.F (j := 36) (by simp [pO, pA, pF]), g3.F (j := 37) (by simp [pO, pA, pF])]; exact mp.1
      · rw [g3.A (by simp [pO, pA, pF]), g3.A (by simp [pO, pA, pF]), g3.A (by simp [pO, pA, pF])]; exact mp.2.1 c a b
      · rw [g3.A (by simp [pO, pA, pF]), g3.A (by simp [pO, pA, pF])]; exact mp.2.2.1 e a b
      · rw [mr _ (by omega)]
        unfold updI
        show _ = (if e = x ∧ g = y then z else M.wt e g)
        by_cases w : e = x ∧ g = y
        · rw [if_pos (by rw [w.1, w.2]), if_pos w]
        · rw [if_neg (fun q => w (by omega)), if_neg w]; exact mp.2.2.2 e a b g g0 g2
end INVG
