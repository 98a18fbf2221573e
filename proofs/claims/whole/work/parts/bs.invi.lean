/-! between two calls: plans -/
section INVI
variable {i n rb sp va zv va2 zv2 a0 a1 va' zv' wa k : Nat} {h h1 h2 h3 h' : XH} {P Q X : Nat → Nat → Bool} {s : Nat → Int32} {B B' : XB} {dd dd' : Int} {M M' : XM} {t np np' L L' t' r x y z e stp stp2 stp' to c b G : Int} {T T' tr tr' du du' g : Int → Int} {pl pl' : Int → XL} {v w : Nat → Int} {K : Int32 → XH → Prop} {bm : Bool}
theorem C4.ch2 (c : Ch P Q h h') (hL : Lay h) (g8 : gI h' 1 8 = iI np') (hp : ∀ (a j : Nat), 35 ≤ a → (a : Int) < 35 + 5 * np → P a j = false) (h8 : np ≤ 8) (D : C4 h np pl) (hn : ∀ j, 0 ≤ j → j < np' → ¬ j < np → CPl h' (35 + 5 * j.toNat) (pl' j)) (hs : ∀ j, 0 ≤ j → j < np → pl' j = pl j) : C4 h' np' pl' := by
  have n := hL.2.2.1
  refine ⟨g8, fun i a b => ?_⟩
  by_cases w : i < np
  · have o := D.2 i a w
    rw [hs i a w]
    have F : ∀ (x j : Nat), 35 ≤ x → (x : Int) < 35 + 5 * np → gI h' x j = gI h x j := fun x j a b => (c.1 x j (by omega) (hp x j a b)).1
    have A : ∀ (x : Nat) (k : Int), 35 ≤ x → (x : Int) < 35 + 5 * np → zA h' x k = zA h x k := fun x k a b => by unfold zA; rw [F x _ a b]
    unfold CPl at o ⊢
    have e4 : zF h' (35 + 5 * i.toNat) 4 = zF h (35 + 5 * i.toNat) 4 := by unfold zF; rw [F _ _ (by omega) (by omega)]
    rw [e4]
    refine ⟨o.1, fun k k0 k1 => ?_⟩
    rw [A _ _ (by omega) (by omega), A _ _ (by omega) (by omega), A _ _ (by omega) (by omega), A _ _ (by omega) (by omega)]
    exact o.2 k k0 k1
  · exact hn i a b w
theorem o_plan (hb : R32 b) (I : INV i h s n) (kk : ∀ r h1, Mid i 40 251 [.ref 118, .int (iI b)] s n r h1 → K r h1) : XW 40 119 0 [.ref 1, .int (iI b), .null] [] h (KI K) := by
  obtain ⟨B, dd, M, t, T, np, pl, L, tr, du, v, S⟩ := I
  have S : ST i h s n B dd M t T np pl L tr du v v := S
  obtain ⟨rb, va, zv, va2, zv2, a0, stp, stp2, c1, c2, c3, c4, c5, c6, c7, c8⟩ := id S.2.2.1
  have p := S.2.1
  have np8 := p.2.2.2.2.1.1
  have tb := p.2.2.2.1
  have g := p.g
  have n1 := p.n100
  have rbs := c1.1.1
  have nn := S.1.1.2.2.1
  have cp := c1.2.2.1
  have e2 : zF h 80 2 = M.n := cp.1.2.2.1
  have mt : ∀ {h1}, IM h1 B dd M t T np pl L tr du → (gI h1 118 2 = iI t ∧ 0 ≤ t ∧ t ≤ 500) ∧ ∀ j, 0 ≤ j → j < t → zA h1 119 j = T j ∧ 0 ≤ T j ∧ T j ≤ 255 := fun m => ⟨⟨m.2.2.2.1.1, tb.1⟩, fun j a c => ⟨m.2.2.2.1.2 j a c, tb.2 j a c⟩⟩
  have mn : ∀ {h1}, IM h1 B dd M t T np pl L tr du → (gI h1 118 37 = iI M.nd ∧ 0 ≤ M.nd ∧ M.nd ≤ 5) ∧ (gI h1 118 40 = iI np ∧ 0 ≤ np ∧ np ≤ 8) ∧ (zF h1 118 34 = 0 ↔ M.n = 0) := fun {h1} m => by
    refine ⟨⟨by rw [gI_F, m.1.2.2.1.1.1], by omega⟩, ⟨by rw [gI_F, m.2.2.1.1], np8⟩, ?_⟩
    have ew := (m.mx p).n
    have mb := m.1.1.2.1
    rcases m.1.2.2.1.1.2 with z | z
    · have : 1 * 1 ≤ M.wd * M.hg := Int.mul_le_mul z.2.2.2.1 z.2.2.2.2.2.1 (by decide) (by omega)
      have e : M.n = M.wd * M.hg := rfl
      exact ⟨fun w => by omega, fun w => by omega⟩
    · exact ⟨fun w => ew.2 (by omega), fun _ => z.1⟩
  -- what stands when the class has read
  have rd : ∀ h' np' pl' vv, Ch (pPn (35 + 5 * np.toNat)) qPn h h' → Lay h' → gN h' = gN h → gU h' = gU h → zF h' 1 1 = 0 → gI h' 1 8 = iI np' → (∀ j, 0 ≤ j → j < np' → ¬ j < np → CPl h' (35 + 5 * j.toNat) (pl' j)) → (∀ j, 0 ≤ j → j < np → pl' j = pl j) → vv 0 = v 0 → vv 1 = v 1 → vv 2 = v 2 → zF h' 1 18 = vv 3 → zF h' 1 19 = vv 4 → (vv 3 = 4 → zF h' 3 8 = vv 5) → KS h' s n ∧ IC (i + 1) h' B dd M 0 T np' pl' L tr du ∧ CV h' vv ∧ IM h' B dd M t T np pl L tr du ∧ MV h' v := by
    intro h' np' pl' vv c la nN nU z11 g8 hn hs v0 v1 v2 v3 v4 v5
    have pp : ∀ a j, ¬ (a = 3 ∨ a = 5 ∨ (a = 1 ∧ (j = 1 ∨ j = 8 ∨ j = 18 ∨ j = 19)) ∨ (35 + 5 * np.toNat ≤ a ∧ a ≤ 39 + 5 * np.toNat)) → pPn (35 + 5 * np.toNat) a j = false := fun a j q => by simp [pPn]; omega
    have F : ∀ a j, a < 155 → ¬ (a = 3 ∨ a = 5 ∨ (a = 1 ∧ (j = 1 ∨ j = 8 ∨ j = 18 ∨ j = 19)) ∨ (35 + 5 * np.toNat ≤ a ∧ a ≤ 39 + 5 * np.toNat)) → zF h' a j = zF h a j := fun a j q r => by unfold zF; rw [(c.1 a j (by omega) (pp a j r)).1]
    have f := c.fr
    have cb : CBk (h'.1, h'.2.1, h.2.2) rb B := c1.2.1.fr2 f (fun a j p q => by
      have := pp a j (by omega)
      simp [this]; omega)
    have cv0 := S.2.2.2.1
    refine ⟨S.1.ch c la (fun a j q => pp a j (by omega)), (IC.gen c S.1.1 (fun a j q => by simp [pF]; omega) (fun a j q => pp a j (by simp [pGn, pFree] at q; omega)) nN nU cb (c4.ch2 c S.1.1 g8 (fun a j p q => pp a j (by omega)) np8.2 hn hs) ⟨by rw [gI_F, z11], fun j a b => absurd b (by omega)⟩ c1 c2 c3 c6 c7 c8).up, ⟨?_, ?_, ?_, v3, v4, v5⟩, S.2.2.2.2.1.cls c S.1.1 (fun a j q r => pp a j (by omega)), S.2.2.2.2.2.cls c S.1.1 (fun a j q r => pp a j (by omega))⟩
    · rw [v0, F 106 2 (by omega) (by omega)]; exact cv0.1
    · rw [v1, F 106 3 (by omega) (by omega)]; exact cv0.2.1
    · rw [v2, F 106 4 (by omega) (by omega)]; exact cv0.2.2.1
  -- and when the Model has
  have rm : ∀ h1 h2 np' pl' vv, KS h1 s n → IC (i + 1) h1 B dd M 0 T np' pl' L tr du → CV h1 vv → IM h1 B dd M t T np pl L tr du → MV h1 v → PlR np h1 h2 → zF h2 118 2 = 0 → gI h2 118 40 = iI np' → (0 ≤ np' ∧ np' ≤ 8) → (np' = 0 ∨ 0 < M.n) → (∀ j, 0 ≤ j → j < np' → ¬ j < np → MPl h2 j (pl' j)) → (∀ j, 0 ≤ j → j < np' → (pl' j).ok M.nd) → (∀ j, 0 ≤ j → j < np → pl' j = pl j) → vv 0 = v 0 → vv 1 = v 1 → vv 2 = v 2 → zF h2 118 39 = vv 3 → zF h2 118 9 = vv 4 → (vv 3 = 4 → zF h2 118 10 = vv 5) → INV (i + 1) h2 s n := by
    intro h1 h2 np' pl' vv k1 ic cv m mv pr z2 g40 hn' hno mp' ok' hs v0 v1 v2 v3 v4 v5
    have f2 := pr.1
    obtain ⟨⟨q1, q2, q3, q4, q5⟩, qS, q7, ⟨t1, t2⟩, q6, ⟨g1, g2, g3⟩⟩ := m
    have F : ∀ j, pMp 118 j = false → zF h2 118 j = zF h1 118 j := fun j q => f2.F q
    refine inv_mk k1 ⟨p.1, p.2.1, ?_, ⟨by decide, fun j a b => absurd b (by omega)⟩, ⟨hn', ok'⟩, p.2.2.2.2.2⟩ ic cv f2 (fun a j q => by simp [pMp]; omega) ⟨⟨q1.fr f2 ⟨rfl, rfl, rfl, rfl, rfl, rfl⟩, q2.fr f2 (fun a j q => by simp [fpMB] at q; simp [pMp]; omega), q3.fr f2 (fun a j p q => by simp [pMp]; omega) (fun j p q => by simp [pMp]; omega), by rw [(f2.2 118 38 (by simp [pMp])).1]; exact q4, by rw [F 12 rfl]; exact q5⟩, qS.fr f2 (fun j => by simp [pMp]) ⟨rfl, rfl, rfl⟩, ⟨gF (by omega) g40, fun j a b => ?_⟩, ⟨by rw [gI_F, z2], fun j a b => absurd b (by omega)⟩, q6.fr f2 ⟨⟨rfl, rfl⟩, fun j => by simp [pMp]⟩, by rw [F 69 rfl]; exact g1, fun q x a b => ?_, fun k a b => by rw [f2.A (by simp [pMp])]; exact g3 k a b⟩ ⟨by rw [v0, F 63 rfl]; exact mv.1, by rw [v1, F 64 rfl]; exact mv.2.1, by rw [v2, F 65 rfl]; exact mv.2.2.1, v3, v4, v5⟩
    · rcases p.2.2.1 with z | z
      · exact Or.inl z
      · have : M.n = 0 := by show M.wd * M.hg = 0; rw [z.1, Int.zero_mul]
        exact Or.inr ⟨z.1, z.2.1, z.2.2.1, by omega⟩
    · by_cases w : j < np
      · rw [hs j a w]
        exact pr.mpl ⟨a, w⟩ (p.2.2.2.2.1.2 j a w).1.2 (q7.2 j a w)
      · exact mp' j a b w
    · rw [F 69 rfl] at q; rw [f2.A (by simp [pMp])]; exact g2 q x a b
  refine c_plan (t := t) (T := T) (np := np) hb S.1.1 S.1.2.2.1 c1.1 c1.2.1 (by omega) ⟨c5.1, tb.1⟩ (fun j a c => ⟨c5.2 j a c, tb.2 j a c⟩) (nd := M.nd) ⟨by rw [gI_F, cp.1.2.2.2], by omega⟩ ⟨c4.1, np8⟩ (fun q => kk _ _ ?_) (fun q q1 => kk _ _ ?_) (fun q q1 e en h' c la nN nU z18 z19 z38 z11 g8 => kk _ _ ?_) (fun q q1 p' en q8 h' c la nN nU z18 z19 z11 g8 => kk _ _ ?_) (fun q q1 p' en q8 h' c la nN nU cpl pok z18 z19 z11 g8 => kk _ _ ?_)
  · have S1 := S.c18 (r := 1) (by decide)
    have m := S1.2.2.2.2.1
    have x := mn m
    have z := x.2.2.2 (by omega)
    exact ⟨S1.1, fun K2 k2 => m_plan hb S1.1.1 S1.1.2.2.1 m.1.2.1 (by omega) (mt m).1 (mt m).2 x.1 x.2.1 (fun _ => k2 _ (S1.ref (by decide))) (fun w => absurd z w) (fun w => absurd z w) (fun w => absurd z w) (fun w => absurd z w)⟩
  · have S1 := S.c18 (r := 2) (by decide)
    have m := S1.2.2.2.2.1
    have x := mn m
    have z : ¬ zF (sI h 1 18 (iI 2)) 118 34 = 0 := fun w => q (by rw [e2]; exact x.2.2.1 w)
    exact ⟨S1.1, fun K2 k2 => m_plan hb S1.1.1 S1.1.2.2.1 m.1.2.1 (by omega) (mt m).1 (mt m).2 x.1 x.2.1 (fun w => absurd w z) (fun _ _ => k2 _ (S1.ref (by decide))) (fun _ w => absurd w q1) (fun _ w => absurd w q1) (fun _ w => absurd w q1)⟩
  · obtain ⟨k1, ic, cv, m, mv⟩ := rd h' np pl (upv (upv (upv v 3 4) 4 e.1) 5 e.2) c la nN nU z11 g8 (fun j _ a b => absurd a b) (fun _ _ _ => rfl) rfl rfl rfl z18 z19 (fun _ => z38)
    have x := mn m
    have z : ¬ zF h' 118 34 = 0 := fun w => q (by rw [e2]; exact x.2.2.1 w)
    refine ⟨k1, fun K2 k2 => m_plan hb k1.1 k1.2.2.1 m.1.2.1 (by omega) (mt m).1 (mt m).2 x.1 x.2.1 (fun w => absurd w z) (fun _ w => absurd q1 w) (fun _ _ e' en' h2 pr y39 y9 y10 y2 g40 => k2 _ ?_) (fun _ _ p' en' => ?_) (fun _ _ p' en' => ?_)⟩
    · have ee := Ends.eq en en'
      injection ee with ee
      subst ee
      exact rm h' h2 np pl _ k1 ic cv m mv pr y2 g40 np8 (Or.inr (by omega)) (fun j _ a b => absurd a b) p.2.2.2.2.1.2 (fun _ _ _ => rfl) rfl rfl rfl y39 y9 (fun _ => y10)
    · have ee := Ends.eq en en'; cases ee
    · have ee := Ends.eq en en'; cases ee
  · obtain ⟨k1, ic, cv, m, mv⟩ := rd h' np pl (upv (upv v 3 3) 4 0) c la nN nU z11 g8 (fun j _ a b => absurd a b) (fun _ _ _ => rfl) rfl rfl rfl z18 z19 (fun w => absurd (show (3 : Int) = 4 from w) (by decide))
    have x := mn m
    have z : ¬ zF h' 118 34 = 0 := fun w => q (by rw [e2]; exact x.2.2.1 w)
    refine ⟨k1, fun K2 k2 => m_plan hb k1.1 k1.2.2.1 m.1.2.1 (by omega) (mt m).1 (mt m).2 x.1 x.2.1 (fun w => absurd w z) (fun _ w => absurd q1 w) (fun _ _ e' en' => ?_) (fun _ _ p2 en' _ h2 pr y39 y9 y2 g40 => k2 _ ?_) (fun _ _ p2 en' w => absurd w (by omega))⟩
    · have ee := Ends.eq en en'; cases ee
    · exact rm h' h2 np pl _ k1 ic cv m mv pr y2 g40 np8 (Or.inr (by omega)) (fun j _ a b => absurd a b) p.2.2.2.2.1.2 (fun _ _ _ => rfl) rfl rfl rfl y39 y9 (fun w => absurd (show (3 : Int) = 4 from w) (by decide))
  · obtain ⟨k1, ic, cv, m, mv⟩ := rd h' (np + 1) (fun j => if j = np then p' else pl j) (upv (upv v 3 0) 4 0) c la nN nU z11 g8 (fun j a b w => by
      have e : j = np := by omega
      subst e
      rw [if_pos rfl]; exact cpl) (fun j a b => if_neg (by omega)) rfl rfl rfl z18 z19 (fun w => absurd (show (0 : Int) = 4 from w) (by decide))
    have x := mn m
    have z : ¬ zF h' 118 34 = 0 := fun w => q (by rw [e2]; exact x.2.2.1 w)
    refine ⟨k1, fun K2 k2 => m_plan hb k1.1 k1.2.2.1 m.1.2.1 (by omega) (mt m).1 (mt m).2 x.1 x.2.1 (fun w => absurd w z) (fun _ w => absurd q1 w) (fun _ _ e' en' => ?_) (fun _ _ p2 en' w => absurd w (by omega)) (fun _ _ p2 en' _ h2 pr mpl pok2 y39 y9 y2 g40 => k2 _ ?_)⟩
    · have ee := Ends.eq en en'; cases ee
    · have ee := Ends.eq en en'
      injection ee with ee
      subst ee
      exact rm h' h2 (np + 1) (fun j => if j = np then p' else pl j) _ k1 ic cv m mv pr y2 g40 (by omega) (Or.inr (by omega)) (fun j a b w => by
        have e : j = np := by omega
        subst e
        rw [if_pos rfl]; exact mpl) (fun j a b => by
        by_cases w : j = np
        · rw [if_pos w]; exact pok
        · rw [if_neg w]; exact p.2.2.2.2.1.2 j a (by omega)) (fun j a b => if_neg (by omega)) rfl rfl rfl y39 y9 (fun w => absurd (show (0 : Int) = 4 from w) (by decide))
end INVI
