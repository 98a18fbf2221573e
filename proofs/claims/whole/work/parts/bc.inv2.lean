/-! between two calls: frames -/
/-- what calls that only look may write, in the class -/
def pFree : Nat → Nat → Bool := fun a j => (decide (118 ≤ a) && decide (a < 154)) || ((a == 1 && (j == 18 || j == 19)) || (a == 3 || (a == 106 || (a == 91 && (decide (6 ≤ j) && decide (j ≤ 9))))))
/-- what calls that only look, or walk, may write, in the Model -/
def pFm : Nat → Nat → Bool := fun a j => decide (a < 118) || (decide (154 ≤ a) || ((decide (140 ≤ a) && decide (a ≤ 143)) || ((decide (150 ≤ a) && decide (a ≤ 153)) || (a == 118 && (j == 0 || (j == 9 || (j == 10 || (j == 39 || (j == 49 || (j == 50 || (j == 51 || (j == 55 || (j == 73 || (decide (63 ≤ j) && decide (j ≤ 67)))))))))))))))
section INV2
variable {i : Nat} {h h' : XH} {P Q : Nat → Nat → Bool} {s : Nat → Int32} {n rb va zv va2 zv2 wa a0 : Nat} {B : XB} {dd : Int} {M : XM} {t np L L' stp stp2 : Int} {T tr tr' du : Int → Int} {pl : Int → XL} {v : Nat → Int} {bm : Bool}
theorem pF_va {j : Nat} (q : va = 100 ∨ va = 105 ∨ 155 ≤ va) : pFree va j = false := by
  simp [pFree]; omega
theorem WIn.vb1 (W : WIn h 96 va zv B dd M bm stp) : va = 100 ∨ 155 ≤ va := W.1.1.2.2.2.2.2.2
theorem WIn.vb2 (W : WIn h 101 va zv B dd M bm stp) : va = 105 ∨ 155 ≤ va := W.1.1.2.2.2.2.2.2
theorem CDg.lim (D : CDg h B a0) : a0 = 0 ∨ (155 ≤ a0 ∧ a0 + 4 < gN h) := by
  rcases D with q | q
  · exact Or.inl q.1
  · exact Or.inr q.1.2.2.2
theorem CDg.da (D : CDg h B a0) (q : zF h 107 4 = 1) : 155 ≤ a0 ∧ a0 + 4 < gN h := by
  rcases D with w | w
  · omega
  · exact w.1.2.2.2
theorem C7.ch (c : Ch P Q h h') (hL : Lay h) (hq : Q 107 6 = false ∧ Q 107 7 = false ∧ Q 107 8 = false ∧ Q 107 9 = false ∧ Q 107 11 = false) (hp : (P 107 4 = false ∧ P 107 5 = false) ∧ P 107 10 = false ∧ P 107 12 = false) (hp2 : 155 ≤ a0 → ∀ j, (P a0 j = false ∧ P (a0 + 1) j = false ∧ P (a0 + 2) j = false ∧ P (a0 + 3) j = false) ∧ P (a0 + 4) j = false) (hp3 : ∀ j, P 108 j = false) (D : C7 h a0 B du) : C7 h' a0 B du := by
  have n := hL.2.2.1
  have F : ∀ j, P 107 j = false → zF h' 107 j = zF h 107 j := fun j p => by unfold zF; rw [(c.1 107 j (by omega) p).1]
  refine ⟨D.1.keep c hL hq hp.1 (fun q j => (hp2 q j).1), fun k a b => ?_, ?_⟩
  · have : zA h' 108 k = zA h 108 k := by unfold zA; rw [(c.1 108 _ (by omega) (hp3 _)).1]
    rw [this]; exact D.2.1 k a b
  · rw [F 10 hp.2.1, F 4 hp.1.1]
    rcases D.2.2 with q | ⟨q1, q2, q3⟩
    · exact Or.inl q
    · have l := D.1.da q2
      exact Or.inr ⟨q1, q2, q3.ch c l.2 hL ⟨hp.2.2, fun j => (hp2 l.1 j).2⟩⟩
theorem C4.ch (c : Ch P Q h h') (hL : Lay h) (hp : P 1 8 = false ∧ ∀ a j, 35 ≤ a → a ≤ 74 → P a j = false) (h8 : np ≤ 8) (D : C4 h np pl) : C4 h' np pl := by
  have n := hL.2.2.1
  refine ⟨by rw [(c.1 1 8 (by omega) hp.1).1]; exact D.1, fun i a b => ?_⟩
  have o := D.2 i a b
  have F : ∀ x j, 35 ≤ x → x ≤ 74 → gI h' x j = gI h x j := fun x j a b => (c.1 x j (by omega) (hp.2 x j a b)).1
  have A : ∀ x (k : Int), 35 ≤ x → x ≤ 74 → zA h' x k = zA h x k := fun x k a b => by unfold zA; rw [F x _ a b]
  unfold CPl at o ⊢
  have e4 : zF h' (35 + 5 * i.toNat) 4 = zF h (35 + 5 * i.toNat) 4 := by unfold zF; rw [F _ _ (by omega) (by omega)]
  rw [e4]
  refine ⟨o.1, fun k k0 k1 => ?_⟩
  rw [A _ _ (by omega) (by omega), A _ _ (by omega) (by omega), A _ _ (by omega) (by omega), A _ _ (by omega) (by omega)]
  exact o.2 k k0 k1
theorem C5.ch (c : Ch P Q h h') (hL : Lay h) (hp : P 1 1 = false ∧ ∀ j, P 2 j = false) (D : C5 h t T) : C5 h' t T := by
  have n := hL.2.2.1
  refine ⟨by rw [(c.1 1 1 (by omega) hp.1).1]; exact D.1, fun i a b => ?_⟩
  have : zA h' 2 i = zA h 2 i := by unfold zA; rw [(c.1 2 _ (by omega) (hp.2 _)).1]
  rw [this]; exact D.2 i a b
theorem C6.ch (c : Ch P Q h h') (hL : Lay h) (hp : P 1 17 = false ∧ ∀ j, P 116 j = false) (D : C6 h L tr) : C6 h' L tr := by
  have n := hL.2.2.1
  have e : zF h' 1 17 = zF h 1 17 := by unfold zF; rw [(c.1 1 17 (by omega) hp.1).1]
  refine ⟨by rw [e]; exact D.1, fun i a b => ?_⟩
  have : zA h' 116 i = zA h 116 i := by unfold zA; rw [(c.1 116 _ (by omega) (hp.2 _)).1]
  rw [this]; exact D.2 i a b
theorem C1.ch (c : Ch P Q h h') (hL : Lay h) (hq : Q 1 5 = false ∧ Q 1 6 = false ∧ Q 91 1 = false ∧ Q 107 0 = false) (hp : (∀ a j, 6 ≤ a → a ≤ 33 → P a j = false) ∧ (∀ a j, 80 ≤ a → a ≤ 90 → ¬ (a = 80 ∧ j = 4) → P a j = false) ∧ (P 91 2 = false ∧ P 91 3 = false) ∧ ∀ j, P 92 j = false ∧ P 93 j = false) (D : C1 h rb B dd M) : C1 h' rb B dd M := by
  have n := hL.2.2.1
  have f := c.fr
  have pp : ∀ a j, a < 155 → P a j = false → (fun a j => P a j || (decide (gN h ≤ a) && decide (a < 1000000))) a j = false := fun a j q p => by simp [p]; omega
  have x1 : CBk (h'.1, h'.2.1, h.2.2) rb B := D.2.1.fr f D.1.1 (fun a j p q => pp a j (by omega) (hp.1 a j p q))
  have x2 : CMp (h'.1, h'.2.1, h.2.2) M := D.2.2.1.fr f (fun a j p q r => pp a j (by omega) (hp.2.1 a j p q r))
  have x3 : B.ok → CLr (h'.1, h'.2.1, h.2.2) B dd := fun q => (D.2.2.2.2 q).fr f ⟨pp _ _ (by omega) hp.2.2.1.1, pp _ _ (by omega) hp.2.2.1.2⟩ (fun j => ⟨pp _ _ (by omega) (hp.2.2.2 j).1, pp _ _ (by omega) (hp.2.2.2 j).2⟩)
  have e : zF h' 91 2 = zF h 91 2 := by unfold zF; rw [(c.1 91 2 (by omega) hp.2.2.1.1).1]
  exact ⟨D.1.ch c hL hq, x1, x2, by rw [e]; exact D.2.2.2.1, x3⟩
theorem C2.ch (c : Ch P Q h h') (hL : Lay h) (hp : (∀ a j, 80 ≤ a → a ≤ 95 → ¬ a = 91 → P a j = false) ∧ P 91 12 = false) (hP : CMp h M) (D : C2 i h B dd M) : C2 i h' B dd M := by
  have n := hL.2.2.1
  have f := c.fr
  have pp : ∀ a j, a < 155 → P a j = false → (fun a j => P a j || (decide (gN h ≤ a) && decide (a < 1000000))) a j = false := fun a j q p => by simp [p]; omega
  have e1 : zF h' 80 4 = zF h 80 4 := by unfold zF; rw [(c.1 80 4 (by omega) (hp.1 _ _ (by omega) (by omega) (by omega))).1]
  have e2 : zF h' 91 12 = zF h 91 12 := by unfold zF; rw [(c.1 91 12 (by omega) hp.2).1]
  refine ⟨by rw [e1]; exact D.1, by rw [e1, e2]; exact D.2.1, fun q => ?_⟩
  rw [e1, e2] at q
  have x : Prep (h'.1, h'.2.1, h.2.2) B dd M := (CP_fr f (fun a j p q r => pp a j (by omega) (hp.1 a j p q r)) hP (D.2.2 q)).2
  exact x
/-- calls that only look leave the class as it was -/
theorem IC.ch (c : Ch P q0 h h') (hL : Lay h) (hp : ∀ a j, pFree a j = false → P a j = false) (hN : gN h' = gN h) (hU : gU h' = gU h) (h8 : np ≤ 8) (I : IC i h B dd M t T np pl L tr du) : IC i h' B dd M t T np pl L tr du := by
  obtain ⟨rb, va, zv, va2, zv2, a0, stp, stp2, c1, c2, c3, c4, c5, c6, c7, c8⟩ := I
  have w1 := c3.1.vb1
  have w2 := c3.2.1.vb2
  have n := hL.2.2.1
  refine ⟨rb, va, zv, va2, zv2, a0, stp, stp2, ?_, ?_, ⟨?_, ?_, c3.2.2⟩, ?_, ?_, ?_, ?_, ?_⟩
  · exact c1.ch c hL ⟨rfl, rfl, rfl, rfl⟩ ⟨fun a j p q => hp a j (by simp [pFree]; omega), fun a j p q r => hp a j (by simp [pFree]; omega), ⟨hp _ _ rfl, hp _ _ rfl⟩, fun j => ⟨hp _ _ (by simp [pFree]), hp _ _ (by simp [pFree])⟩⟩
  · exact c2.ch c hL ⟨fun a j p q r => hp a j (by simp [pFree]; omega), hp _ _ rfl⟩ c1.2.2.1
  · exact c3.1.ch c hL (Or.inl rfl) rfl (fun j => ⟨hp _ _ (by simp [pFree]), hp _ _ (pF_va (by omega))⟩) ⟨hp _ _ rfl, hp _ _ rfl, hp _ _ rfl, hp _ _ rfl, hp _ _ rfl⟩
  · exact c3.2.1.ch c hL (Or.inr rfl) rfl (fun j => ⟨hp _ _ (by simp [pFree]), hp _ _ (pF_va (by omega))⟩) ⟨hp _ _ rfl, hp _ _ rfl, hp _ _ rfl, hp _ _ rfl, hp _ _ rfl⟩
  · exact c4.ch c hL ⟨hp _ _ rfl, fun a j p q => hp a j (by simp [pFree]; omega)⟩ h8
  · exact c5.ch c hL ⟨hp _ _ rfl, fun j => hp _ _ (by simp [pFree])⟩
  · exact c6.ch c hL ⟨hp _ _ rfl, fun j => hp _ _ (by simp [pFree])⟩
  · exact c7.ch c hL ⟨rfl, rfl, rfl, rfl, rfl⟩ ⟨⟨hp _ _ rfl, hp _ _ rfl⟩, hp _ _ rfl, hp _ _ rfl⟩ (fun q j => ⟨⟨hp _ _ (by simp [pFree]; omega), hp _ _ (by simp [pFree]; omega), hp _ _ (by simp [pFree]; omega), hp _ _ (by simp [pFree]; omega)⟩, hp _ _ (by simp [pFree]; omega)⟩) (fun j => hp _ _ (by simp [pFree]))
  · unfold C8 at c8 ⊢; rw [hN, hU]; exact c8
theorem IC.fr (f : Fr P h h') (hL : Lay h) (hp : ∀ a j, pFree a j = false → P a j = false) (h8 : np ≤ 8) (I : IC i h B dd M t T np pl L tr du) : IC i h' B dd M t T np pl L tr du := I.ch f.ch hL hp f.N f.U h8
theorem IC.up (I : IC i h B dd M t T np pl L tr du) : IC (i + 1) h B dd M t T np pl L tr du := by
  obtain ⟨rb, va, zv, va2, zv2, a0, stp, stp2, c1, c2, c3, c4, c5, c6, c7, c8⟩ := I
  refine ⟨rb, va, zv, va2, zv2, a0, stp, stp2, c1, ⟨?_, c2.2⟩, ⟨c3.1, c3.2.1, ?_, c3.2.2.2⟩, c4, c5, c6, c7, ?_⟩
  · have := c2.1; omega
  · have := c3.2.2.1; omega
  · unfold C8 at c8 ⊢; omega
/-- the class's calls leave the Model as it was -/
theorem IM.cls (c : Ch P Q h h') (hL : Lay h) (hp : ∀ a j, 118 ≤ a → a < 154 → P a j = false) (I : IM h B dd M t T np pl L tr du) : IM h' B dd M t T np pl L tr du := by
  have n := hL.2.2.1
  have f := c.fr
  have pp : ∀ a j, 118 ≤ a → a < 154 → (fun a j => P a j || (decide (gN h ≤ a) && decide (a < 1000000))) a j = false := fun a j q p => by simp [hp a j q p]; omega
  obtain ⟨⟨m1, m2, m3, m4, m5⟩, mS, ⟨p1, p2⟩, ⟨t1, t2⟩, ⟨l1, l2, l3⟩, ⟨g1, g2, g3⟩⟩ := I
  have F : ∀ j, zF h' 118 j = zF h 118 j := fun j => by unfold zF; rw [(c.1 118 j (by omega) (hp _ _ (by omega) (by omega))).1]
  have A : ∀ a (k : Int), 118 ≤ a → a < 154 → zA h' a k = zA h a k := fun a k q r => by unfold zA; rw [(c.1 a _ (by omega) (hp _ _ q r)).1]
  have G : ∀ j, gI h' 118 j = gI h 118 j := fun j => (c.1 118 j (by omega) (hp _ _ (by omega) (by omega))).1
  have x2 : MBk (h'.1, h'.2.1, h.2.2) B := m2.fr f (fun a j q => pp a j (by simp [fpMB] at q; omega) (by simp [fpMB] at q; omega))
  have x3 : MMp (h'.1, h'.2.1, h.2.2) M := m3.fr f (fun a j p q => pp a j (by omega) (by omega)) (fun j p q => pp _ _ (by omega) (by omega))
  have xS : MSl (h'.1, h'.2.1, h.2.2) B dd M := mS.fr f (fun j => ⟨pp _ _ (by omega) (by omega), pp _ _ (by omega) (by omega), pp _ _ (by omega) (by omega), pp _ _ (by omega) (by omega), pp _ _ (by omega) (by omega)⟩) ⟨pp _ _ (by omega) (by omega), pp _ _ (by omega) (by omega), pp _ _ (by omega) (by omega)⟩
  have xp : ∀ k, 0 ≤ k → k < np → MPl (h'.1, h'.2.1, h.2.2) k (pl k) := fun k a b => (p2 k a b).fr f (fun j => ⟨pp _ _ (by omega) (by omega), pp _ _ (by omega) (by omega)⟩)
  refine ⟨⟨?_, x2, x3, by rw [G]; exact m4, by rw [F]; exact m5⟩, xS, ⟨by rw [F]; exact p1, xp⟩, ⟨by rw [G]; exact t1, fun k a b => by rw [A _ _ (by omega) (by omega)]; exact t2 k a b⟩, ⟨by rw [F]; exact l1, by rw [F]; exact l2, fun k a b => by rw [A _ _ (by omega) (by omega)]; exact l3 k a b⟩, by rw [F]; exact g1, fun q x a b => ?_, fun k a b => by rw [A _ _ (by omega) (by omega)]; exact g3 k a b⟩
  · unfold MB at m1 ⊢; rw [F, F, F, F, F, F]; exact m1
  · rw [F] at q; rw [A _ _ (by omega) (by omega)]; exact g2 q x a b
theorem MV.cls (c : Ch P Q h h') (hL : Lay h) (hp : ∀ a j, 118 ≤ a → a < 154 → P a j = false) (I : MV h v) : MV h' v := by
  have n := hL.2.2.1
  have F : ∀ j, zF h' 118 j = zF h 118 j := fun j => by unfold zF; rw [(c.1 118 j (by omega) (hp _ _ (by omega) (by omega))).1]
  unfold MV at I ⊢; rw [F, F, F, F, F, F]; exact I
theorem CV.fr (f : Fr P h h') (hp : ∀ a j, a < 118 → P a j = false) (I : CV h v) : CV h' v := by
  unfold CV at I ⊢; rw [f.F (hp _ _ (by omega)), f.F (hp _ _ (by omega)), f.F (hp _ _ (by omega)), f.F (hp _ _ (by omega)), f.F (hp _ _ (by omega)), f.F (hp _ _ (by omega))]; exact I
/-- calls that only look, or walk, leave the Model as it was -/
theorem IM.fr (f : Fr P h h') (hp : ∀ a j, pFm a j = false → P a j = false) (hS : MSl h' B dd M) (h6 : M6 h' L' tr') (I : IM h B dd M t T np pl L tr du) : IM h' B dd M t T np pl L' tr' du := by
  obtain ⟨⟨m1, m2, m3, m4, m5⟩, mS, ⟨p1, p2⟩, ⟨t1, t2⟩, ⟨l1, l2, l3⟩, ⟨g1, g2, g3⟩⟩ := I
  have F : ∀ j, pFm 118 j = false → zF h' 118 j = zF h 118 j := fun j q => f.F (hp _ _ q)
  refine ⟨⟨?_, ?_, ?_, by rw [(f.2 118 38 (hp _ _ rfl)).1]; exact m4, by rw [F 12 rfl]; exact m5⟩, hS, ⟨by rw [F 40 rfl]; exact p1, fun k a b => (p2 k a b).fr f (fun j => ⟨hp _ _ (by simp [pFm]), hp _ _ (by simp [pFm])⟩)⟩, ⟨by rw [(f.2 118 2 (hp _ _ rfl)).1]; exact t1, fun k a b => by rw [f.A (hp _ _ (by simp [pFm]))]; exact t2 k a b⟩, h6, by rw [F 69 rfl]; exact g1, fun q x a b => ?_, fun k a b => by rw [f.A (hp _ _ (by simp [pFm]))]; exact g3 k a b⟩
  · unfold MB at m1 ⊢; rw [F 12 rfl, F 34 rfl, F 22 rfl, F 35 rfl, F 36 rfl, F 37 rfl]; exact m1
  · exact m2.fr f (fun a j q => hp a j (by simp [fpMB] at q; simp [pFm]; omega))
  · exact m3.fr f (fun a j p q => hp a j (by simp [pFm]; omega)) (fun j p q => hp _ _ (by simp [pFm]; omega))
  · rw [F 69 rfl] at q; rw [f.A (hp _ _ (by simp [pFm]))]; exact g2 q x a b
theorem M6.fr (f : Fr P h h') (hp : (P 118 55 = false ∧ P 118 73 = false) ∧ ∀ j, P 143 j = false) (I : M6 h L tr) : M6 h' L tr := ⟨by rw [f.F hp.1.1]; exact I.1, by rw [f.F hp.1.2]; exact I.2.1, fun k a b => by rw [f.A (hp.2 _)]; exact I.2.2 k a b⟩
end INV2
