/-! between two calls: the land changes -/
def XM.put (M : XM) (k : Nat) (f : Int → Int) : XM := (M.1, fun j => if j = k then f else M.2.1 j, M.2.2)
def updI (f : Int → Int) (x y : Int) : Int → Int := fun c => if c = x then y else f c
def pLd : Nat → Nat → Bool := fun a j => (decide (80 ≤ a) && decide (a ≤ 90)) || ((a == 91 && j == 2) || (a == 1 && (j == 8 || j == 18)))
def pLm : Nat → Nat → Bool := fun a j => (decide (133 ≤ a) && decide (a ≤ 138)) || (a == 118 && (j == 0 || (j == 39 || (j == 40 || (j == 51 || (decide (34 ≤ j) && decide (j ≤ 38)))))))
section INVC
variable {i n rb va zv va2 zv2 a0 a1 va' zv' wa : Nat} {h h1 h2 h3 h' : XH} {P Q X : Nat → Nat → Bool} {s : Nat → Int32} {B : XB} {dd dd' : Int} {M M' : XM} {t np np' L L' t' r x y e stp stp2 stp' to c bd k : Int} {T T' tr tr' du du' : Int → Int} {pl : Int → XL} {v w : Nat → Int} {K : Int32 → XH → Prop} {bm : Bool}
theorem WIn.old (f : Fr P h h') (hw : Wa wa) (hp : ∀ j, P (wa + 1) j = false) (hp2 : P wa 2 = false ∧ P wa 5 = false ∧ P wa 8 = false) (ag : zF h' 80 4 = zF h 80 4 + 1) (W : WIn h wa va zv B dd M bm stp) : WIn h' wa va zv B dd' M' bm stp := by
  obtain ⟨⟨wv, m2, m8, s0⟩, st, a5, _⟩ := W
  refine ⟨⟨wv.fr f, by rw [(f.2 wa 2 hp2.1).1]; exact m2, by rw [(f.2 wa 8 hp2.2.2).1]; exact m8, s0⟩, fun s a b => by rw [f.A (hp _)]; exact st s a b, ?_, ?_⟩
  · rw [f.F hp2.2.1]; omega
  · intro q
    rw [f.F hp2.2.1] at q
    omega
theorem IC.land (f : Fr P h h') (hL : Lay h) (hp : ∀ a j, pLd a j = false → P a j = false) (cm : CMp h' M') (z2 : zF h' 91 2 = dd') (cl : B.ok → CLr h' B dd') (ag : zF h' 80 4 = zF h 80 4 + 1) (c4' : C4 h' np' pl) (I : IC i h B dd M t T np pl L tr du) : IC (i + 1) h' B dd' M' t T np' pl L tr du := by
  obtain ⟨rb, va, zv, va2, zv2, a0, stp, stp2, c1, c2, c3, c4, c5, c6, c7, c8⟩ := I
  have n := hL.2.2.1
  have c := f.ch
  have e12 : zF h' 91 12 = zF h 91 12 := f.F (hp _ _ rfl)
  refine ⟨rb, va, zv, va2, zv2, a0, stp, stp2, ⟨c1.1.ch c hL ⟨rfl, rfl, rfl, rfl⟩, c1.2.1.fr f c1.1.1 (fun a j p q => hp a j (by simp [pLd]; omega)), cm, z2, cl⟩, ⟨by have := c2.1; omega, by have := c2.2.1; omega, fun q => by have := c2.2.1; omega⟩, ⟨?_, ?_, by have := c3.2.2.1; omega, c3.2.2.2⟩, c4', ?_, ?_, ?_, ?_⟩
  · exact c3.1.old f (Or.inl rfl) (fun j => hp _ _ (by simp [pLd])) ⟨hp _ _ rfl, hp _ _ rfl, hp _ _ rfl⟩ ag
  · exact c3.2.1.old f (Or.inr rfl) (fun j => hp _ _ (by simp [pLd])) ⟨hp _ _ rfl, hp _ _ rfl, hp _ _ rfl⟩ ag
  · exact c5.ch c hL ⟨hp _ _ rfl, fun j => hp _ _ (by simp [pLd])⟩
  · exact c6.ch c hL ⟨hp _ _ rfl, fun j => hp _ _ (by simp [pLd])⟩
  · exact c7.ch c hL ⟨rfl, rfl, rfl, rfl, rfl⟩ ⟨⟨hp _ _ rfl, hp _ _ rfl⟩, hp _ _ rfl, hp _ _ rfl⟩ (fun q j => ⟨⟨hp _ _ (by simp [pLd]; omega), hp _ _ (by simp [pLd]; omega), hp _ _ (by simp [pLd]; omega), hp _ _ (by simp [pLd]; omega)⟩, hp _ _ (by simp [pLd]; omega)⟩) (fun j => hp _ _ (by simp [pLd]))
  · unfold C8 at c8 ⊢; rw [f.N, f.U]; omega
/-- what else stands when the land was changed -/
theorem land_st (S : ST i h s n B dd M t T np pl L tr du v w) (f : Fr P h h') (hp : ∀ a j, pLd a j = false → P a j = false) (h18 : zF h' 1 18 = 0) : KS h' s n ∧ CV h' (upv v 3 0) ∧ IM h' B dd M t T np pl L tr du ∧ MV h' w := by
  have F : ∀ a j, pLd a j = false → zF h' a j = zF h a j := fun a j q => f.F (hp a j q)
  have cv := S.2.2.2.1
  refine ⟨S.1.fr f (fun a j q => hp a j (by simp [pLd]; omega)), ⟨(F 106 2 rfl).trans cv.1, (F 106 3 rfl).trans cv.2.1, (F 106 4 rfl).trans cv.2.2.1, h18, (F 1 19 rfl).trans cv.2.2.2.2.1, fun q => absurd (show (0 : Int) = 4 from q) (by decide)⟩, S.2.2.2.2.1.cls f.ch S.1.1 (fun a j q r => hp a j (by simp [pLd]; omega)), S.2.2.2.2.2.cls f.ch S.1.1 (fun a j q r => hp a j (by simp [pLd]; omega))⟩
theorem IM.land (f : Fr P h h') (hp : ∀ a j, pLm a j = false → P a j = false) (mb : MB h') (mm : MMp h' M') (hd : gI h' 118 38 = iI dd') (z51 : zF h' 118 51 = 0) (m4 : M4 h' np' pl) (I : IM h B dd M t T np pl L tr du) : IM h' B dd' M' t T np' pl L tr du := by
  obtain ⟨⟨q1, q2, q3, q4, q5⟩, qS, _, ⟨t1, t2⟩, q6, ⟨g1, g2, g3⟩⟩ := I
  have F : ∀ j, pLm 118 j = false → zF h' 118 j = zF h 118 j := fun j q => f.F (hp _ _ q)
  refine ⟨⟨mb, q2.fr f (fun a j q => hp a j (by simp [fpMB] at q; simp [pLm]; omega)), mm, hd, by rw [F 12 rfl]; exact q5⟩, ⟨Or.inl z51, fun _ _ q => absurd q (by omega)⟩, m4, ⟨by rw [(f.2 118 2 (hp _ _ rfl)).1]; exact t1, fun k a b => by rw [f.A (hp _ _ (by simp [pLm]))]; exact t2 k a b⟩, q6.fr f ⟨⟨hp _ _ rfl, hp _ _ rfl⟩, fun j => hp _ _ (by simp [pLm])⟩, by rw [F 69 rfl]; exact g1, fun q x a b => ?_, fun k a b => by rw [f.A (hp _ _ (by simp [pLm]))]; exact g3 k a b⟩
  rw [F 69 rfl] at q; rw [f.A (hp _ _ (by simp [pLm]))]; exact g2 q x a b
theorem C4.fr (f : Fr P h h') (hL : Lay h) (hp : P 1 8 = false ∧ ∀ a j, 35 ≤ a → a ≤ 74 → P a j = false) (h8 : np ≤ 8) (c : C4 h np pl) : C4 h' np pl := c.ch f.ch hL hp h8
theorem M4.fr (f : Fr P h h') (hp : P 118 40 = false ∧ ∀ j, P 144 j = false ∧ P 145 j = false) (m : M4 h np pl) : M4 h' np pl := ⟨by rw [f.F hp.1]; exact m.1, fun k a b => (m.2 k a b).fr f hp.2⟩
theorem MB.fr (f : Fr P h h') (hp : P 118 12 = false ∧ P 118 34 = false ∧ P 118 22 = false ∧ P 118 35 = false ∧ P 118 36 = false ∧ P 118 37 = false) (m : MB h) : MB h' := by
  unfold MB at m ⊢
  rw [f.F hp.1, f.F hp.2.1, f.F hp.2.2.1, f.F hp.2.2.2.1, f.F hp.2.2.2.2.1, f.F hp.2.2.2.2.2]; exact m
theorem zA_sI {a : Nat} (hx : 0 ≤ x) (hy : R32 y) (c : Int) (hc : 0 ≤ c) : zA (sI h a x.toNat (iI y)) a c = updI (zA h a) x y c := by
  unfold zA updI
  rw [sI_here]
  by_cases q : c = x
  · rw [if_pos (by omega), if_pos q, iI_t hy]
  · rw [if_neg (by omega), if_neg q]
theorem zF_sI {a j : Nat} (hy : R32 y) : zF (sI h a j (iI y)) a j = y := gF hy (by rw [sI_here, if_pos rfl])
/-- the Model's end of a change of the land -/
theorem land_inv (k1 : KS h1 s n) (p : IP B dd' M' t T np' pl L du) (ic : IC i h1 B dd' M' t T np' pl L tr du) (cv : CV h1 (upv v 3 0)) (m : IM h1 B dd M t T np pl L tr du) (mv : MV h1 v) (f : Fr P h1 h2) (hp : ∀ a j, pLm a j = false → P a j = false) (z39 : zF h2 118 39 = 0) (mb : MB h2) (mm : MMp h2 M') (hd : gI h2 118 38 = iI dd') (z51 : zF h2 118 51 = 0) (m4 : M4 h2 np' pl) : INV i h2 s n := by
  refine inv_mk k1 p ic cv f (fun a j q => hp a j (by simp [pLm]; omega)) (m.land f hp mb mm hd z51 m4) ?_
  have F : ∀ j, pLm 118 j = false → zF h2 118 j = zF h1 118 j := fun j q => f.F (hp _ _ q)
  exact ⟨(F 63 rfl).trans mv.1, (F 64 rfl).trans mv.2.1, (F 65 rfl).trans mv.2.2.1, z39, (F 9 rfl).trans mv.2.2.2.2.1, fun q => absurd (show (0 : Int) = 4 from q) (by decide)⟩
theorem o_dead (hi : i ≤ 600) (hx : R32 x) (I : INV i h s n) (kk : ∀ r h1, Mid i 40 195 [.ref 118, .int (iI x)] s n r h1 → K r h1) : XW 40 124 0 [.ref 1, .int (iI x)] [] h (KI K) := by
  obtain ⟨B, dd, M, t, T, np, pl, L, tr, du, v, S⟩ := I
  have S : ST i h s n B dd M t T np pl L tr du v v := S
  obtain ⟨rb, va, zv, va2, zv2, a0, stp, stp2, c1, c2, c3, c4, c5, c6, c7, c8⟩ := id S.2.2.1
  have p := S.2.1
  have g := p.g
  have h8 := p.2.2.2.2.1.1.2
  have ew : zF h rb 10 = B.w := c1.2.1.1.2.2.1
  have bo : 0 < B.w → B.ok := fun q => by
    rcases p.1 with z | z
    · exact z
    · have := z.2.2.1; omega
  have bn : ¬ 0 < B.w → B.none := fun q => by
    rcases p.1 with z | z
    · have := z.1; omega
    · exact z
  have e24 : ∀ {h1}, IM h1 B dd M t T np pl L tr du → zF h1 118 24 = B.w := fun m => m.1.2.1.1.2.2.1
  refine c_dead hx S.1.1 c1.1 (fun q => kk _ _ ?_) (fun q q1 => kk _ _ ?_) (fun q q1 => kk _ _ ?_)
  · have S1 := S.c18 (r := 1) (by decide)
    have m := S1.2.2.2.2.1
    have e := e24 m
    have z := (bk12 m).2.2 (bn (by omega))
    exact ⟨S1.1, fun K2 k2 => m_dead hx S1.1.1 m.1.1 (by omega) (fun _ => k2 _ (S1.ref (by decide))) (fun w => absurd w (by omega)) (fun w => absurd w (by omega))⟩
  · have S1 := S.c18 (r := 2) (by decide)
    have m := S1.2.2.2.2.1
    have e := e24 m
    have z := (bk12 m).2.1 (bo (by omega))
    exact ⟨S1.1, fun K2 k2 => m_dead hx S1.1.1 m.1.1 (by omega) (fun w => absurd z w) (fun _ _ => k2 _ (S1.ref (by decide))) (fun _ w => absurd w (by omega))⟩
  · rw [ew] at q q1
    have age := c2.1
    have f : Fr (pF [(91, 2), (80, 4), (1, 18)]) h (sI (sI (sI h 91 2 (iI x)) 80 4 (iI (zF h 80 4 + 1))) 1 18 (iI 0)) := (((Fr.refl _ _).sI 91 2 _ (by simp [pF])).sI 80 4 _ (by simp [pF])).sI 1 18 _ (by simp [pF])
    have z2 : zF (sI (sI (sI h 91 2 (iI x)) 80 4 (iI (zF h 80 4 + 1))) 1 18 (iI 0)) 91 2 = x := gF (by omega) rfl
    have ag : zF (sI (sI (sI h 91 2 (iI x)) 80 4 (iI (zF h 80 4 + 1))) 1 18 (iI 0)) 80 4 = zF h 80 4 + 1 := gF (by omega) rfl
    have z18 : zF (sI (sI (sI h 91 2 (iI x)) 80 4 (iI (zF h 80 4 + 1))) 1 18 (iI 0)) 1 18 = 0 := gF (by omega) rfl
    have hp : ∀ a j, pLd a j = false → pF [(91, 2), (80, 4), (1, 18)] a j = false := fun a j q => by simp [pLd] at q; simp [pF]; omega
    have cl := c1.2.2.2.2 (bo q)
    generalize sI (sI (sI h 91 2 (iI x)) 80 4 (iI (zF h 80 4 + 1))) 1 18 (iI 0) = h1 at *
    have ic := S.2.2.1.land f S.1.1 hp (c1.2.2.1.fr f (fun a j p q r => by simp [pF]; omega)) z2 (fun _ => ⟨z2, by rw [f.F (by simp [pF])]; exact cl.2.1, fun g a b => by rw [f.A (by simp [pF])]; exact cl.2.2.1 g a b, fun g a b r c d => by rw [f.A (by simp [pF])]; exact cl.2.2.2 g a b r c d⟩) ag (c4.fr f S.1.1 ⟨by simp [pF], fun a j p q => by simp [pF]; omega⟩ h8)
    obtain ⟨k1, cv, m, mv⟩ := land_st S f hp z18
    have e := e24 m
    have z := (bk12 m).2.1 (bo q)
    refine ⟨k1, fun K2 k2 => m_dead hx k1.1 m.1.1 (by omega) (fun w => absurd z w) (fun _ w => absurd (by omega) w) (fun _ _ => k2 _ ?_)⟩
    have f2 : Fr (pF [(118, 0), (118, 39), (118, 38), (118, 51)]) h1 (sI (sI (hG h1) 118 38 (iI x)) 118 51 (iI 0)) := (((hG_fr h1).mono (fun a j q => by simp [pF] at q ⊢; omega)).sI 118 38 _ (by simp [pF])).sI 118 51 _ (by simp [pF])
    refine land_inv k1 ⟨p.1, ⟨by omega, fun _ => by omega, fun z => by have := z.2.2.1; omega⟩, p.2.2⟩ ic cv m mv f2 (fun a j q => by simp [pLm] at q; simp [pF]; omega) (gF (by decide) rfl) (m.1.1.fr f2 (by simp [pF])) (m.1.2.2.1.fr f2 (fun a j p q => by simp [pF]; omega) (fun j p q => by simp [pF]; omega)) rfl (gF (by decide) rfl) (m.2.2.1.fr f2 (by simp [pF]))
end INVC
