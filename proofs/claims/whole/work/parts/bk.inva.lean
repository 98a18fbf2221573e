/-! between two calls: out, tryAt; plans judged -/
section INVA
variable {i n rb va zv va2 zv2 a0 a1 va' zv' wa : Nat} {h h1 h2 h3 h' : XH} {P Q X : Nat → Nat → Bool} {s : Nat → Int32} {B : XB} {dd : Int} {M : XM} {t np L L' t' r x y e stp stp2 stp' to c bd k : Int} {T T' tr tr' du du' : Int → Int} {pl : Int → XL} {v w : Nat → Int} {K : Int32 → XH → Prop}
theorem dg_st (S : ST i h s n B dd M t T np pl L tr du v w) (c : Ch P qV h h') (la : Lay h') (hp : ∀ a j, PPl a1 a j = false → P a j = false) (b1 : 155 ≤ a1 ∧ a1 + 4 < gN h') : KS h' s n ∧ CV h' v ∧ IM h' B dd M t T np pl L tr du ∧ MV h' w := by
  have nn := S.1.1.2.2.1
  have nl := la.2.2.2.1
  have hp' : ∀ a j, ¬ (a = 109 ∨ a = 110 ∨ (a1 ≤ a ∧ a ≤ a1 + 4)) → ¬ (a = 107 ∧ (j = 4 ∨ j = 5 ∨ j = 10 ∨ j = 12)) → P a j = false := fun a j q r => hp a j (by
    simp only [pO, Bool.or_eq_false_iff]
    exact ⟨by simp [pA]; omega, by simp [pF]; omega⟩)
  have F : ∀ a j, a < 155 → ¬ (a = 109 ∨ a = 110) → ¬ (a = 107) → zF h' a j = zF h a j := fun a j q0 q1 q2 => by unfold zF; rw [(c.1 a j (by omega) (hp' a j (by omega) (by omega))).1]
  refine ⟨S.1.ch c la (fun a j q => hp' a j (by omega) (by omega)), ?_, S.2.2.2.2.1.cls c S.1.1 (fun a j q r => hp' a j (by omega) (by omega)), S.2.2.2.2.2.cls c S.1.1 (fun a j q r => hp' a j (by omega) (by omega))⟩
  have cv := S.2.2.2.1
  unfold CV at cv ⊢
  rw [F 106 2 (by omega) (by omega) (by omega), F 106 3 (by omega) (by omega) (by omega), F 106 4 (by omega) (by omega) (by omega), F 1 18 (by omega) (by omega) (by omega), F 1 19 (by omega) (by omega) (by omega), F 3 8 (by omega) (by omega) (by omega)]
  exact cv
/-- the Model has surveyed its tries -/
theorem ST.dgm (S : ST i h1 s n B dd M t T np pl L tr du (upv v 3 0) v) (f : Fr PDg (hG h1) h2) (z : zF h2 118 69 = 1) (m : MDg h2 B) : INV i h2 s n := by
  have fm : Fr (pO (pF [(118, 0), (118, 39)]) PDg) h1 h2 := ((hG_fr h1).mono (fun a j q => by simp only [pO, Bool.or_eq_false_iff] at q; exact q.1)).trans (f.mono (fun a j q => by simp only [pO, Bool.or_eq_false_iff] at q ⊢; exact q.2))
  exact S.mdl fm (fun a j q => by simp [pO, pA, pF]; omega) (S.2.2.2.2.1.re7 fm (fun a j q => by simp [pM7] at q; simp [pO, pA, pF]; omega) ⟨Or.inr z, fun _ => m, fun k a b => by rw [fm.A (by simp [pO, pA, pF])]; exact S.2.2.2.2.1.2.2.2.2.2.2.2 k a b⟩) (S.2.2.2.2.2.g.fr f (by simp [pO, pA, pF]))
theorem ST.dgn (S : ST i h1 s n B dd M t T np pl L tr du (upv v 3 6) v) (f : Fr PDg (hG h1) h2) (z : zF h2 118 69 = 1) (m : MDg h2 B) : INV i (sI h2 118 39 (iI 6)) s n := by
  have f1 : Fr (pF [(118, 39)]) h2 (sI h2 118 39 (iI 6)) := (Fr.refl _ _).sI 118 39 _ (by simp [pF])
  have fm : Fr (pO (pF [(118, 0), (118, 39)]) PDg) h1 (sI h2 118 39 (iI 6)) := (((hG_fr h1).mono (fun a j q => by simp only [pO, Bool.or_eq_false_iff] at q; exact q.1)).trans (f.mono (fun a j q => by simp only [pO, Bool.or_eq_false_iff] at q ⊢; exact q.2))).trans (f1.mono (fun a j q => by simp only [pO, Bool.or_eq_false_iff] at q; have := q.1; simp [pF] at this ⊢; omega))
  have mv := MV.s39 (r := 6) (by decide) (S.2.2.2.2.2.g.fr f (by simp [pO, pA, pF]))
  rw [upv2] at mv
  exact S.mdl fm (fun a j q => by simp [pO, pA, pF]; omega) (S.2.2.2.2.1.re7 fm (fun a j q => by simp [pM7] at q; simp [pO, pA, pF]; omega) ⟨Or.inr (by rw [f1.F (by simp [pF])]; exact z), fun _ x a b => by rw [f1.A (by simp [pF])]; exact m x a b, fun k a b => by rw [fm.A (by simp [pO, pA, pF])]; exact S.2.2.2.2.1.2.2.2.2.2.2.2 k a b⟩) mv
theorem o_out (hi : i ≤ 600) (I : INV i h s n) (kk : ∀ r h1, Mid i 40 260 [.ref 118, .null] s n r h1 → K r h1) : XW 40 149 0 [.ref 1, .null] [] h (KI K) := by
  obtain ⟨B, dd, M, t, T, np, pl, L, tr, du, v, S⟩ := I
  have S : ST i h s n B dd M t T np pl L tr du v v := S
  obtain ⟨rb, va, zv, va2, zv2, a0, stp, stp2, c1, c2, c3, c4, c5, c6, c7, c8⟩ := id S.2.2.1
  have p := S.2.1
  have g := p.g
  have h8 := p.2.2.2.2.1.1.2
  have du4 := p.2.2.2.2.2.2
  have gn : gN h < 899000 := by have := c8.1; omega
  have hv : ∀ k : Int, 0 ≤ k → k < B.w → 0 ≤ zA h 108 k ∧ zA h 108 k ≤ 4 := fun k a b => by
    rw [c7.2.1 k a (by omega)]; have := du4 k a (by omega); omega
  have hv2 : ∀ {h1}, IM h1 B dd M t T np pl L tr du → ∀ k : Int, 0 ≤ k → k < B.w → 0 ≤ zA h1 139 k ∧ zA h1 139 k ≤ 4 := fun {h1} m k a b => by
    rw [m.2.2.2.2.2.2.2 k a (by omega)]; have := du4 k a (by omega); omega
  have e1 : s5 (zA h 108) B.w.toNat = s5 du B.w.toNat := s5_congr (fun j a b => c7.2.1 j a (by omega))
  have e2 : ∀ {h1}, IM h1 B dd M t T np pl L tr du → s5 (zA h1 139) B.w.toNat = s5 du B.w.toNat := fun {h1} m => s5_congr (fun j a b => m.2.2.2.2.2.2.2 j a (by omega))
  have st : ∀ h' a1, Ch (PDc a1) qV h h' → Lay h' → zF h' 107 4 = 1 → SvD B (cV B) h' a1 → Gw h h' a0 a1 → ST (i + 1) h' s n B dd M t T np pl L tr du v v := fun h' a1 c la z4 sv gw => by
    have hp : ∀ a j, PPl a1 a j = false → PDc a1 a j = false := fun a j q => by
      simp only [pO, Bool.or_eq_false_iff] at q ⊢
      refine ⟨?_, ?_⟩
      · have := q.1; simp [pA] at this ⊢; omega
      · have := q.2; simp [pF] at this ⊢; omega
    have x := dg_st S c la hp sv.1.2.2.2
    have nn := S.1.1.2.2.1
    have z10 : zF h' 107 10 = zF h 107 10 := by unfold zF; rw [(c.1 107 10 (by omega) (by simp only [pO, Bool.or_eq_false_iff]; have := sv.1.2.2.2; exact ⟨by simp [pA]; omega, by simp [pF]⟩)).1]
    refine ⟨x.1, p, IC.dg S.1.1 c1 c2 c3 c4 c5 c6 c7 c8 h8 c hp gw z4 sv ?_, x.2⟩
    rw [z10]
    rcases c7.2.2 with q | ⟨q1, q2, q3⟩
    · exact Or.inl q
    · have l := c7.1.da q2
      have ea : a1 = a0 := by
        rcases gw with z | z
        · exact z.1
        · omega
      subst ea
      exact Or.inr ⟨q1, z4, q3.ch c l.2 S.1.1 ⟨by simp only [pO, Bool.or_eq_false_iff]; exact ⟨by simp [pA]; omega, by simp [pF]⟩, fun j => by simp only [pO, Bool.or_eq_false_iff]; exact ⟨by simp [pA]; omega, by simp [pF]; omega⟩⟩⟩
  refine c_out S.1.1 S.1.2.1 c1.1 c1.2.1 p.1 (fun _ => c7.1) gn hv (fun q => kk _ _ ?_) (fun q q1 h' a1 ch la z4 sv gw => kk _ _ ?_) (fun q q1 h' a1 ch la z4 sv gw => kk _ _ ?_)
  · have S1 := S.c18 (r := 1) (by decide)
    have m := S1.2.2.2.2.1
    have z := (bk12 m).2.2 q
    exact ⟨S1.1, fun K2 k2 => m_out S1.1.1 m.1.2.1 (bk12 m).1 m.2.2.2.2.2.1 m.2.2.2.2.2.2.1 (hv2 m) (fun _ => k2 _ (S1.ref (by decide))) (fun w => absurd w (by omega)) (fun w => absurd w (by omega))⟩
  · have S1 := (st h' a1 ch la z4 sv gw).keep (r := 6) (by decide)
    have m := S1.2.2.2.2.1
    have z := (bk12 m).2.1 q
    rw [e1] at q1
    exact ⟨S1.1, fun K2 k2 => m_out S1.1.1 m.1.2.1 (bk12 m).1 m.2.2.2.2.2.1 m.2.2.2.2.2.2.1 (hv2 m) (fun w => absurd w (by omega)) (fun _ h2 f2 z2 m2 w => absurd (by rw [← e2 m]; exact w) q1) (fun _ h2 f2 z2 m2 w => k2 _ (S1.dgn f2 z2 m2))⟩
  · have S1 := (st h' a1 ch la z4 sv gw).keep (r := 0) (by decide)
    have m := S1.2.2.2.2.1
    have z := (bk12 m).2.1 q
    have e2 := e2 m
    rw [e1] at q1 ⊢
    refine ⟨S1.1, fun K2 k2 => m_out S1.1.1 m.1.2.1 (bk12 m).1 m.2.2.2.2.2.1 m.2.2.2.2.2.2.1 (hv2 m) (fun w => absurd w (by omega)) (fun _ h2 f2 z2 m2 w => ?_) (fun _ h2 f2 z2 m2 w => absurd (by rw [e2]; exact q1) w)⟩
    rw [e2]
    exact k2 _ (S1.dgm f2 z2 m2)
theorem o_tryAt (hi : i ≤ 600) (hx : R32 x) (I : INV i h s n) (kk : ∀ r h1, Mid i 40 261 [.ref 118, .int (iI x), .null, .null, .null, .null, .null, .null] s n r h1 → K r h1) : XW 40 150 0 [.ref 1, .int (iI x)] [] h (KI K) := by
  obtain ⟨B, dd, M, t, T, np, pl, L, tr, du, v, S⟩ := I
  have S : ST i h s n B dd M t T np pl L tr du v v := S
  obtain ⟨rb, va, zv, va2, zv2, a0, stp, stp2, c1, c2, c3, c4, c5, c6, c7, c8⟩ := id S.2.2.1
  have p := S.2.1
  have g := p.g
  have h8 := p.2.2.2.2.1.1.2
  have du4 := p.2.2.2.2.2.2
  have gn : gN h < 899000 := by have := c8.1; omega
  have hv : ∀ k : Int, 0 ≤ k → k < B.w → 0 ≤ zA h 108 k ∧ zA h 108 k ≤ 4 := fun k a b => by
    rw [c7.2.1 k a (by omega)]; have := du4 k a (by omega); omega
  have hv2 : ∀ {h1}, IM h1 B dd M t T np pl L tr du → ∀ k : Int, 0 ≤ k → k < B.w → 0 ≤ zA h1 139 k ∧ zA h1 139 k ≤ 4 := fun {h1} m k a b => by
    rw [m.2.2.2.2.2.2.2 k a (by omega)]; have := du4 k a (by omega); omega
  have e1 : s5 (zA h 108) B.w.toNat = s5 du B.w.toNat := s5_congr (fun j a b => c7.2.1 j a (by omega))
  have e2 : ∀ {h1}, IM h1 B dd M t T np pl L tr du → s5 (zA h1 139) B.w.toNat = s5 du B.w.toNat := fun {h1} m => s5_congr (fun j a b => m.2.2.2.2.2.2.2 j a (by omega))
  refine c_tryAt hx S.1.1 S.1.2.1 c1.1 c1.2.1 p.1 (fun _ => c7.1) gn hv (fun _ => by rw [e1]; exact c7.2.2) (fun q => kk _ _ ?_) (fun q q1 h' a1 ch la z4 z10 sv pt gw => kk _ _ ?_)
  · have S1 := S.c18 (r := 1) (by decide)
    have m := S1.2.2.2.2.1
    refine ⟨S1.1, fun K2 k2 => m_tryAt hx S1.1.1 m.1.2.1 (bk12 m).1 m.2.2.2.2.2.1 m.2.2.2.2.2.2.1 (hv2 m) (fun _ => k2 _ (S1.ref (by decide))) (fun w w2 => ?_)⟩
    rcases q with z | z
    · have := (bk12 m).2.2 z; omega
    · omega
  · rw [e1] at pt ⊢
    have x1 := dg_st S ch la (fun _ _ q => q) sv.1.2.2.2
    have S0 : ST (i + 1) h' s n B dd M t T np pl L tr du v v := ⟨x1.1, p, IC.dg S.1.1 c1 c2 c3 c4 c5 c6 c7 c8 h8 ch (fun _ _ q => q) gw z4 sv (Or.inr ⟨z10, z4, pt⟩), x1.2⟩
    have S1 := S0.keep (r := 0) (by decide)
    have m := S1.2.2.2.2.1
    have z := (bk12 m).2.1 q
    have e2 := e2 m
    refine ⟨S1.1, fun K2 k2 => m_tryAt hx S1.1.1 m.1.2.1 (bk12 m).1 m.2.2.2.2.2.1 m.2.2.2.2.2.2.1 (hv2 m) (fun w => absurd w (by omega)) (fun _ _ h2 f2 z2 m2 => ?_)⟩
    rw [e2]
    exact k2 _ (S1.dgm f2 z2 m2)
end INVA
