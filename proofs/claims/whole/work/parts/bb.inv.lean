/-! between two calls: what the class holds, what the Model holds, of one state -/
/-- the constants, and the script -/
def KS (h : XH) (s : Nat → Int32) (n : Nat) : Prop := Lay h ∧ Unt h ∧ StC h ∧ gK h 1000000 = 1 ∧ gZ h 1000000 = n ∧ ∀ j, gI h 1000000 j = s j
/-- what a row of values may have cost -/
def potv (zv : Nat) : Nat := if zv = 102400 then 307200 else 2 * zv
def IP (B : XB) (dd : Int) (M : XM) (t : Int) (T : Int → Int) (np : Int) (pl : Int → XL) (L : Int) (du : Int → Int) : Prop :=
  (B.ok ∨ B.none) ∧ (0 ≤ dd ∧ (B.ok → dd < B.w) ∧ (B.none → dd = 0)) ∧ ((0 < M.n ∧ B.ok ∧ M.ok B.g) ∨ (M.wd = 0 ∧ M.hg = 0 ∧ M.nd = 0 ∧ np = 0)) ∧
  ((0 ≤ t ∧ t ≤ 500) ∧ ∀ i, 0 ≤ i → i < t → 0 ≤ T i ∧ T i ≤ 255) ∧ ((0 ≤ np ∧ np ≤ 8) ∧ ∀ i, 0 ≤ i → i < np → (pl i).ok M.nd) ∧ (0 ≤ L ∧ L ≤ 601) ∧ ∀ k, 0 ≤ k → k < 6 → 0 ≤ du k ∧ du k ≤ 4 ∧ (B.w ≤ k → du k = 0)
def C1 (h : XH) (rb : Nat) (B : XB) (dd : Int) (M : XM) : Prop := RB h rb ∧ CBk h rb B ∧ CMp h M ∧ zF h 91 2 = dd ∧ (B.ok → CLr h B dd)
def C2 (i : Nat) (h : XH) (B : XB) (dd : Int) (M : XM) : Prop := (0 ≤ zF h 80 4 ∧ zF h 80 4 ≤ i) ∧ zF h 91 12 ≤ zF h 80 4 ∧ (zF h 91 12 = zF h 80 4 → Prep h B dd M)
def C3 (i : Nat) (h : XH) (va zv va2 zv2 a0 : Nat) (stp stp2 : Int) (B : XB) (dd : Int) (M : XM) : Prop := WIn h 96 va zv B dd M false stp ∧ WIn h 101 va2 zv2 B dd M true stp2 ∧ (stp ≤ i ∧ stp2 ≤ i) ∧ ¬ va = va2 ∧ (a0 = 0 ∨ (¬ (a0 ≤ va ∧ va ≤ a0 + 4) ∧ ¬ (a0 ≤ va2 ∧ va2 ≤ a0 + 4)))
def C4 (h : XH) (np : Int) (pl : Int → XL) : Prop := gI h 1 8 = iI np ∧ ∀ i, 0 ≤ i → i < np → CPl h (35 + 5 * i.toNat) (pl i)
def C5 (h : XH) (t : Int) (T : Int → Int) : Prop := gI h 1 1 = iI t ∧ ∀ i, 0 ≤ i → i < t → zA h 2 i = sgn (T i)
def C6 (h : XH) (L : Int) (tr : Int → Int) : Prop := zF h 1 17 = L ∧ ∀ i, 0 ≤ i → i < L → zA h 116 i = tr i
def C7 (h : XH) (a0 : Nat) (B : XB) (du : Int → Int) : Prop := CDg h B a0 ∧ (∀ k, 0 ≤ k → k < 6 → zA h 108 k = du k) ∧ (zF h 107 10 = 0 ∨ zF h 107 10 = 1 ∧ zF h 107 4 = 1 ∧ Pth h B a0 (s5 du B.w.toNat))
def C8 (i : Nat) (h : XH) (zv zv2 a0 : Nat) : Prop := gN h ≤ 155 + 6 * i ∧ gU h ≤ 141084 + potv zv + potv zv2 + (if a0 = 0 then 0 else 9331) + 6 * i
def IC (i : Nat) (h : XH) (B : XB) (dd : Int) (M : XM) (t : Int) (T : Int → Int) (np : Int) (pl : Int → XL) (L : Int) (tr du : Int → Int) : Prop := ∃ rb va zv va2 zv2 a0 stp stp2,
  C1 h rb B dd M ∧ C2 i h B dd M ∧ C3 i h va zv va2 zv2 a0 stp stp2 B dd M ∧ C4 h np pl ∧ C5 h t T ∧ C6 h L tr ∧ C7 h a0 B du ∧ C8 i h zv zv2 a0
def CV (h : XH) (v : Nat → Int) : Prop := zF h 106 2 = v 0 ∧ zF h 106 3 = v 1 ∧ zF h 106 4 = v 2 ∧ zF h 1 18 = v 3 ∧ zF h 1 19 = v 4 ∧ (v 3 = 4 → zF h 3 8 = v 5)
def M1 (h : XH) (B : XB) (dd : Int) (M : XM) : Prop := MB h ∧ MBk h B ∧ MMp h M ∧ gI h 118 38 = iI dd ∧ ((zF h 118 12 = 1 ∧ B.ok) ∨ (zF h 118 12 = 0 ∧ B.none))
def M4 (h : XH) (np : Int) (pl : Int → XL) : Prop := zF h 118 40 = np ∧ ∀ i, 0 ≤ i → i < np → MPl h i (pl i)
def M5 (h : XH) (t : Int) (T : Int → Int) : Prop := gI h 118 2 = iI t ∧ ∀ i, 0 ≤ i → i < t → zA h 119 i = T i
def M6 (h : XH) (L : Int) (tr : Int → Int) : Prop := zF h 118 55 = L ∧ (zF h 118 73 = 1 ∨ (zF h 118 73 = 0 ∧ L = 0)) ∧ ∀ i, 0 ≤ i → i < L → zA h 143 i = tr i
def M7 (h : XH) (B : XB) (du : Int → Int) : Prop := (zF h 118 69 = 0 ∨ zF h 118 69 = 1) ∧ (zF h 118 69 = 1 → MDg h B) ∧ ∀ k, 0 ≤ k → k < 6 → zA h 139 k = du k
def IM (h : XH) (B : XB) (dd : Int) (M : XM) (t : Int) (T : Int → Int) (np : Int) (pl : Int → XL) (L : Int) (tr du : Int → Int) : Prop := M1 h B dd M ∧ MSl h B dd M ∧ M4 h np pl ∧ M5 h t T ∧ M6 h L tr ∧ M7 h B du
def MV (h : XH) (v : Nat → Int) : Prop := zF h 118 63 = v 0 ∧ zF h 118 64 = v 1 ∧ zF h 118 65 = v 2 ∧ zF h 118 39 = v 3 ∧ zF h 118 9 = v 4 ∧ (v 3 = 4 → zF h 118 10 = v 5)
def INV (i : Nat) (h : XH) (s : Nat → Int32) (n : Nat) : Prop := ∃ B dd M t T np pl L tr du v, KS h s n ∧ IP B dd M t T np pl L du ∧ IC i h B dd M t T np pl L tr du ∧ CV h v ∧ IM h B dd M t T np pl L tr du ∧ MV h v
/-- a call of the Model is due, with this answer -/
def Mid (i D mm : Nat) (ms : List Value) (s : Nat → Int32) (n : Nat) (x : Int32) (h : XH) : Prop := KS h s n ∧ ∀ K2 : Int32 → XH → Prop, (∀ h2, INV (i + 1) h2 s n → K2 x h2) → XW D mm 0 ms [] h (KI K2)
def MidL (i D mm : Nat) (ms : List Value) (s : Nat → Int32) (n : Nat) (x : Int64) (h : XH) : Prop := KS h s n ∧ ∀ K2 : Int64 → XH → Prop, (∀ h2, INV (i + 1) h2 s n → K2 x h2) → XW D mm 0 ms [] h (KL K2)
section INVS
variable {i : Nat} {h h' : XH} {P Q : Nat → Nat → Bool} {s : Nat → Int32} {n rb va zv va2 zv2 wa a0 : Nat} {B : XB} {dd : Int} {M : XM} {t np L stp stp2 : Int} {T tr du : Int → Int} {pl : Int → XL} {v : Nat → Int} {bm : Bool}
theorem KS.ch (c : Ch P Q h h') (hL : Lay h') (hp : ∀ a j, 1000000 ≤ a → P a j = false) (K : KS h s n) : KS h' s n := by
  obtain ⟨k1, k2, k3, k4, k5, k6⟩ := K
  have e := c.2.2.1 1000000 (Or.inr (by omega))
  have f := c.fr
  have hp' : ∀ a j, 1000000 ≤ a → (fun a j => P a j || (decide (gN h ≤ a) && decide (a < 1000000))) a j = false := fun a j q => by simp [hp a j q]; omega
  have u : Unt (h'.1, h'.2.1, h.2.2) := k2.fr f (fun j => hp' 1000001 j (by omega))
  have w : StC (h'.1, h'.2.1, h.2.2) := k3.fr f hp'
  exact ⟨hL, u, w, by rw [e.1]; exact k4, by rw [e.2]; exact k5, fun j => by rw [(c.1 1000000 j (Or.inr (by omega)) (hp _ _ (by omega))).1]; exact k6 j⟩
theorem KS.fr (f : Fr P h h') (hp : ∀ a j, 1000000 ≤ a → P a j = false) (K : KS h s n) : KS h' s n := K.ch f.ch (f.lay K.1) hp
theorem RB.ch (c : Ch P Q h h') (hL : Lay h) (hq : Q 1 5 = false ∧ Q 1 6 = false ∧ Q 91 1 = false ∧ Q 107 0 = false) (r : RB h rb) : RB h' rb := by
  have n := hL.2.2.1
  obtain ⟨r0, r1, r2, r3, r4⟩ := r
  exact ⟨r0, by rw [c.2.1 1 5 (by omega) hq.1]; exact r1, by rw [c.2.1 1 6 (by omega) hq.2.1]; exact r2, by rw [c.2.1 91 1 (by omega) hq.2.2.1]; exact r3, by rw [c.2.1 107 0 (by omega) hq.2.2.2]; exact r4⟩
theorem WIn.ch (c : Ch P Q h h') (hL : Lay h) (hw : Wa wa) (hq : Q wa 6 = false) (hp : ∀ j, P (wa + 1) j = false ∧ P va j = false) (hp2 : P wa 2 = false ∧ P wa 4 = false ∧ P wa 5 = false ∧ P wa 8 = false ∧ P 80 4 = false) (W : WIn h wa va zv B dd M bm stp) : WIn h' wa va zv B dd M bm stp := by
  have n := hL.2.2.1
  have hw' : wa = 96 ∨ wa = 101 := hw
  obtain ⟨⟨⟨w1, w2, w3, w4, w5, w6⟩, m2, m8, s0⟩, st, ag, vr⟩ := W
  have F : ∀ a j, a < 155 → P a j = false → zF h' a j = zF h a j := fun a j q p => by unfold zF; rw [(c.1 a j (by omega) p).1]
  have A : ∀ a (k : Int), a < 155 → (∀ j, P a j = false) → zA h' a k = zA h a k := fun a k q p => by unfold zA; rw [(c.1 a _ (by omega) (p _)).1]
  have Lv : ∀ k : Int, zL h' va k = zL h va k := fun k => by unfold zL; rw [(c.1 va _ (by omega) (hp _).2).2]
  have kz := c.2.2.1 va (by omega)
  have nn := c.2.2.2
  refine ⟨⟨⟨by rw [c.2.1 wa 6 (by omega) hq]; exact w1, by rw [kz.1]; exact w2, by rw [kz.2]; exact w3, by omega, w5, w6⟩, by rw [(c.1 wa 2 (by omega) hp2.1).1]; exact m2, by rw [(c.1 wa 8 (by omega) hp2.2.2.2.1).1]; exact m8, s0⟩, fun s a b => ?_, ?_, ?_⟩
  · rw [A (wa + 1) s (by omega) (fun j => (hp j).1)]; exact st s a b
  · rw [F wa 5 (by omega) hp2.2.2.1, F 80 4 (by omega) hp2.2.2.2.2]; exact ag
  · rw [F wa 5 (by omega) hp2.2.2.1, F 80 4 (by omega) hp2.2.2.2.2, F wa 4 (by omega) hp2.2.1]
    intro q1 q2 s hs q3
    rw [A (wa + 1) s (by omega) (fun j => (hp j).1)] at q3
    intro c a b
    rw [Lv]; exact vr q1 q2 s hs q3 c a b
theorem Pth.ch {s : Int} (c : Ch P Q h h') (hn : a0 + 4 < gN h) (hL : Lay h) (hp : P 107 12 = false ∧ ∀ j, P (a0 + 4) j = false) (p : Pth h B a0 s) : Pth h' B a0 s := by
  have n := hL.2.2.1
  have F : zF h' 107 12 = zF h 107 12 := by unfold zF; rw [(c.1 107 12 (by omega) hp.1).1]
  refine ⟨by rw [F]; exact p.1, fun i q => ?_⟩
  rw [F] at q
  have : zA h' (a0 + 4) i = zA h (a0 + 4) i := by unfold zA; rw [(c.1 (a0 + 4) _ (by omega) (hp.2 _)).1]
  rw [this]; exact p.2 i q
theorem DA.ch (c : Ch P Q h h') (hL : Lay h) (hq : Q 107 6 = false ∧ Q 107 7 = false ∧ Q 107 8 = false ∧ Q 107 9 = false ∧ Q 107 11 = false) (D : DA h a0) : DA h' a0 := by
  have n := hL.2.2.1
  obtain ⟨⟨r1, r2, r3, r4, r5⟩, ⟨k1, k2, k3, k4, k5⟩, ⟨z1, z2, z3, z4, z5⟩, b, e⟩ := D
  have nn := c.2.2.2
  have K := fun x (q : x ≤ 4) => c.2.2.1 (a0 + x) (by omega)
  refine ⟨⟨?_, ?_, ?_, ?_, ?_⟩, ⟨?_, ?_, ?_, ?_, ?_⟩, ⟨?_, ?_, ?_, ?_, ?_⟩, b, by omega⟩
  · rw [c.2.1 107 6 (by omega) hq.1]; exact r1
  · rw [c.2.1 107 7 (by omega) hq.2.1]; exact r2
  · rw [c.2.1 107 8 (by omega) hq.2.2.1]; exact r3
  · rw [c.2.1 107 9 (by omega) hq.2.2.2.1]; exact r4
  · rw [c.2.1 107 11 (by omega) hq.2.2.2.2]; exact r5
  · exact (K 0 (by omega)).1.trans k1
  · exact (K 1 (by omega)).1.trans k2
  · exact (K 2 (by omega)).1.trans k3
  · exact (K 3 (by omega)).1.trans k4
  · exact (K 4 (by omega)).1.trans k5
  · exact (K 0 (by omega)).2.trans z1
  · exact (K 1 (by omega)).2.trans z2
  · exact (K 2 (by omega)).2.trans z3
  · exact (K 3 (by omega)).2.trans z4
  · exact (K 4 (by omega)).2.trans z5
/-- the digging is as it was, if its cells are -/
theorem CDg.keep (c : Ch P Q h h') (hL : Lay h) (hq : Q 107 6 = false ∧ Q 107 7 = false ∧ Q 107 8 = false ∧ Q 107 9 = false ∧ Q 107 11 = false) (hp : P 107 4 = false ∧ P 107 5 = false) (hp2 : 155 ≤ a0 → ∀ j, P a0 j = false ∧ P (a0 + 1) j = false ∧ P (a0 + 2) j = false ∧ P (a0 + 3) j = false) (D : CDg h B a0) : CDg h' B a0 := by
  have n := hL.2.2.1
  have e4 : zF h' 107 4 = zF h 107 4 := by unfold zF; rw [(c.1 107 4 (by omega) hp.1).1]
  rcases D with ⟨q1, q2, q3⟩ | ⟨q1, q2⟩
  · exact Or.inl ⟨q1, by rw [e4]; exact q2, by rw [c.2.1 107 11 (by omega) hq.2.2.2.2]; exact q3⟩
  · refine Or.inr ⟨q1.ch c hL hq, ?_⟩
    have b := q1.2.2.2
    have pp := hp2 b.1
    rcases q2 with q | ⟨q, S⟩
    · exact Or.inl (by rw [e4]; exact q)
    · refine Or.inr ⟨by rw [e4]; exact q, q1.ch c hL hq, ?_, ?_, ?_⟩
      · have f := c.fr
        have x : CLc (h'.1, h'.2.1, h.2.2) a0 B 2401 := S.2.1.fr f (fun j => by simp [(pp j).1]; omega) (fun j => by simp [(pp j).2.1]; omega) (by simp [hp.2]; omega)
        exact x
      · have f := c.fr
        have x : CAf (h'.1, h'.2.1, h.2.2) a0 B := S.2.2.1.fr f (fun j => by simp [(pp j).2.2.1]; omega)
        exact x
      · intro s a b
        have : zA h' (a0 + 3) (nmb B (cds B s)) = zA h (a0 + 3) (nmb B (cds B s)) := by unfold zA; rw [(c.1 (a0 + 3) _ (by omega) (pp _).2.2.2).1]
        rw [this]; exact S.2.2.2 s a b
end INVS
