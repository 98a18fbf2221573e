/-! between two calls: the book -/
def pGn : Nat → Nat → Bool := fun a j => pFree a j || ((a == 1 && (j == 1 || j == 8)) || (a == 5 || ((decide (6 ≤ a) && decide (a ≤ 33)) || (decide (35 ≤ a) && decide (a ≤ 79)))))
section INVH
variable {i n rb sp va zv va2 zv2 a0 a1 va' zv' wa k : Nat} {h h1 h2 h3 h' : XH} {P Q X : Nat → Nat → Bool} {s : Nat → Int32} {B B' : XB} {dd dd' : Int} {M M' : XM} {t np np' L L' t' r x y z e stp stp2 stp' to c b G : Int} {T T' tr tr' du du' g : Int → Int} {pl pl' : Int → XL} {v w : Nat → Int} {K : Int32 → XH → Prop} {bm : Bool}
theorem CBk.fr2 (f : Fr P h h') (hp : ∀ a j, rb ≤ a → a ≤ rb + 13 → P a j = false) (hC : CBk h rb B) : CBk h' rb B := by
  have eF : ∀ j, zF h' rb j = zF h rb j := fun j => f.F (hp _ _ (by omega) (by omega))
  have eA : ∀ d, d ≤ 13 → ∀ k, zA h' (rb + d) k = zA h (rb + d) k := fun d q k => f.A (hp _ _ (by omega) (by omega))
  have eL : ∀ d, d ≤ 13 → ∀ k, zL h' (rb + d) k = zL h (rb + d) k := fun d q k => f.L (hp _ _ (by omega) (by omega))
  unfold CBk at hC ⊢
  simp only [eF, eA 3 (by decide), eA 4 (by decide), eA 5 (by decide), eA 7 (by decide), eA 8 (by decide), eA 9 (by decide), eA 11 (by decide), eA 12 (by decide), eA 13 (by decide), eL 1 (by decide), eL 10 (by decide)]
  exact hC
theorem IC.gen (c : Ch P Q h h') (hL : Lay h) (hq : ∀ a j, ¬ a = 5 → Q a j = false) (hp : ∀ a j, pGn a j = false → P a j = false) (hN : gN h' = gN h) (hU : gU h' = gU h) (cb : CBk h' rb B) (c4' : C4 h' np' pl') (c5' : C5 h' t' T') (c1 : C1 h rb B dd M) (c2 : C2 i h B dd M) (c3 : C3 i h va zv va2 zv2 a0 stp stp2 B dd M) (c6 : C6 h L tr) (c7 : C7 h a0 B du) (c8 : C8 i h zv zv2 a0) : IC i h' B dd M t' T' np' pl' L tr du := by
  have w1 := c3.1.vb1
  have w2 := c3.2.1.vb2
  have n := hL.2.2.1
  have f := c.fr
  have pp : ∀ a j, a < 155 → P a j = false → (fun a j => P a j || (decide (gN h ≤ a) && decide (a < 1000000))) a j = false := fun a j q p => by simp [p]; omega
  have x2 : CMp (h'.1, h'.2.1, h.2.2) M := c1.2.2.1.fr f (fun a j p q r => pp a j (by omega) (hp a j (by simp [pGn, pFree]; omega)))
  have x3 : B.ok → CLr (h'.1, h'.2.1, h.2.2) B dd := fun q => (c1.2.2.2.2 q).fr f ⟨pp _ _ (by omega) (hp _ _ rfl), pp _ _ (by omega) (hp _ _ rfl)⟩ (fun j => ⟨pp _ _ (by omega) (hp _ _ (by simp [pGn, pFree])), pp _ _ (by omega) (hp _ _ (by simp [pGn, pFree]))⟩)
  have e2 : zF h' 91 2 = zF h 91 2 := by unfold zF; rw [(c.1 91 2 (by omega) (hp _ _ rfl)).1]
  refine ⟨rb, va, zv, va2, zv2, a0, stp, stp2, ⟨c1.1.ch c hL ⟨hq _ _ (by omega), hq _ _ (by omega), hq _ _ (by omega), hq _ _ (by omega)⟩, cb, x2, by rw [e2]; exact c1.2.2.2.1, x3⟩, ?_, ⟨?_, ?_, c3.2.2⟩, c4', c5', ?_, ?_, ?_⟩
  · exact c2.ch c hL ⟨fun a j p q r => hp a j (by simp [pGn, pFree]; omega), hp _ _ rfl⟩ c1.2.2.1
  · exact c3.1.ch c hL (Or.inl rfl) (hq _ _ (by omega)) (fun j => ⟨hp _ _ (by simp [pGn, pFree]), hp _ _ (by simp [pGn, pFree]; omega)⟩) ⟨hp _ _ rfl, hp _ _ rfl, hp _ _ rfl, hp _ _ rfl, hp _ _ rfl⟩
  · exact c3.2.1.ch c hL (Or.inr rfl) (hq _ _ (by omega)) (fun j => ⟨hp _ _ (by simp [pGn, pFree]), hp _ _ (by simp [pGn, pFree]; omega)⟩) ⟨hp _ _ rfl, hp _ _ rfl, hp _ _ rfl, hp _ _ rfl, hp _ _ rfl⟩
  · exact c6.ch c hL ⟨hp _ _ rfl, fun j => hp _ _ (by simp [pGn, pFree])⟩
  · exact c7.ch c hL ⟨hq _ _ (by omega), hq _ _ (by omega), hq _ _ (by omega), hq _ _ (by omega), hq _ _ (by omega)⟩ ⟨⟨hp _ _ rfl, hp _ _ rfl⟩, hp _ _ rfl, hp _ _ rfl⟩ (fun q j => ⟨⟨hp _ _ (by simp [pGn, pFree]; omega), hp _ _ (by simp [pGn, pFree]; omega), hp _ _ (by simp [pGn, pFree]; omega), hp _ _ (by simp [pGn, pFree]; omega)⟩, hp _ _ (by simp [pGn, pFree]; omega)⟩) (fun j => hp _ _ (by simp [pGn, pFree]))
  · unfold C8 at c8 ⊢; rw [hN, hU]; exact c8
theorem WIn.old2 (c : Ch P Q h h') (hL : Lay h) (hw : Wa wa) (hq : Q wa 6 = false) (hp : ∀ j, P (wa + 1) j = false) (hp2 : P wa 2 = false ∧ P wa 5 = false ∧ P wa 8 = false) (ag : zF h' 80 4 = zF h 80 4 + 1) (W : WIn h wa va zv B dd M bm stp) : WIn h' wa va zv B' dd' M' bm stp := by
  have n := hL.2.2.1
  have hw' : wa = 96 ∨ wa = 101 := hw
  obtain ⟨⟨⟨w1, w2, w3, w4, w5, w6⟩, m2, m8, s0⟩, st, a5, _⟩ := W
  have F5 : zF h' wa 5 = zF h wa 5 := by unfold zF; rw [(c.1 wa 5 (by omega) hp2.2.1).1]
  have kz := c.2.2.1 va (by omega)
  have nn := c.2.2.2
  refine ⟨⟨⟨by rw [c.2.1 wa 6 (by omega) hq]; exact w1, by rw [kz.1]; exact w2, by rw [kz.2]; exact w3, by omega, w5, w6⟩, by rw [(c.1 wa 2 (by omega) hp2.1).1]; exact m2, by rw [(c.1 wa 8 (by omega) hp2.2.2).1]; exact m8, s0⟩, fun s a b => ?_, by omega, fun q => by omega⟩
  have : zA h' (wa + 1) s = zA h (wa + 1) s := by unfold zA; rw [(c.1 (wa + 1) _ (by omega) (hp _)).1]
  rw [this]; exact st s a b
theorem o_book (hi : i ≤ 600) (hb : R32 b) (I : INV i h s n) (kk : ∀ r h1, Mid i 40 183 [.ref 118, .int (iI b), .null] s n r h1 → K r h1) : XW 40 118 0 [.ref 1, .int (iI b), .null, .null] [] h (KI K) := by
  obtain ⟨B, dd, M, t, T, np, pl, L, tr, du, v, S⟩ := I
  have S : ST i h s n B dd M t T np pl L tr du v v := S
  obtain ⟨rb, va, zv, va2, zv2, a0, stp, stp2, c1, c2, c3, c4, c5, c6, c7, c8⟩ := id S.2.2.1
  have p := S.2.1
  have h8 := p.2.2.2.2.1.1.2
  have tb := p.2.2.2.1
  have rbs := c1.1.1
  have nn := S.1.1.2.2.1
  have mt : ∀ {h1}, IM h1 B dd M t T np pl L tr du → (gI h1 118 2 = iI t ∧ 0 ≤ t ∧ t ≤ 500) ∧ ∀ j, 0 ≤ j → j < t → zA h1 119 j = T j ∧ 0 ≤ T j ∧ T j ≤ 255 := fun m => ⟨⟨m.2.2.2.1.1, tb.1⟩, fun j a c => ⟨m.2.2.2.1.2 j a c, tb.2 j a c⟩⟩
  refine c_book (sp := 26 - rb) (t := t) (T := T) hb S.1.1 S.1.2.2.1 c1.1 (by omega) ⟨c5.1, tb.1⟩ (fun j a c => ⟨c5.2 j a c, tb.2 j a c⟩) (fun q => kk _ _ ?_) (fun q e ge h' f z18 z19 z38 z11 _ => kk _ _ ?_) (fun q B' gB h' c nN nU la rB cB z80 cl z108 z1 => kk _ _ ?_)
  · have S1 := S.c18 (r := 2) (by decide)
    have m := S1.2.2.2.2.1
    exact ⟨S1.1, fun K2 k2 => m_book hb S1.1.1 S1.1.2.2.1 (mt m).1 (mt m).2 m.1.2.1 p.1 (fun _ => k2 _ (S1.ref (by decide))) (fun w => absurd w q) (fun w => absurd w q)⟩
  · have k1 := S.1.fr f (fun a j q => by simp [pCf]; omega)
    have m := S.2.2.2.2.1.cls f.ch S.1.1 (fun a j q r => by simp [pCf]; omega)
    have mv := S.2.2.2.2.2.cls f.ch S.1.1 (fun a j q r => by simp [pCf]; omega)
    have ic : IC i h' B dd M 0 T np pl L tr du := IC.gen f.ch S.1.1 (fun _ _ _ => rfl) (fun a j q => by simp [pGn, pFree] at q; simp [pCf]; omega) f.N f.U (c1.2.1.fr2 f (fun a j p q => by simp [pCf]; omega)) (c4.fr f S.1.1 ⟨by simp [pCf]; omega, fun a j p q => by simp [pCf]; omega⟩ h8) ⟨by rw [gI_F, z11], fun j a b => absurd b (by omega)⟩ c1 c2 c3 c6 c7 c8
    have cv0 := S.2.2.2.1
    have cv : CV h' (upv (upv (upv v 3 4) 4 e.1) 5 e.2) := ⟨by rw [f.F (by simp [pCf]; omega)]; exact cv0.1, by rw [f.F (by simp [pCf]; omega)]; exact cv0.2.1, by rw [f.F (by simp [pCf]; omega)]; exact cv0.2.2.1, z18, z19, fun _ => z38⟩
    refine ⟨k1, fun K2 k2 => m_book hb k1.1 k1.2.2.1 (mt m).1 (mt m).2 m.1.2.1 p.1 (fun w => absurd q w) (fun _ e' ge' h2 f2 mb y9 y10 y39 y2 => k2 _ ?_) (fun _ B' gB => by rw [ge] at gB; cases gB)⟩
    have ee : e' = e := by rw [ge] at ge'; injection ge' with x; exact x.symm
    subst ee
    obtain ⟨⟨q1, q2, q3, q4, q5⟩, qS, q7, ⟨t1, t2⟩, q6, ⟨g1, g2, g3⟩⟩ := m
    have F : ∀ j, pBf 118 j = false → zF h2 118 j = zF h' 118 j := fun j q => f2.F q
    refine inv_mk k1 ⟨p.1, p.2.1, p.2.2.1, ⟨by decide, fun j a b => absurd b (by omega)⟩, p.2.2.2.2⟩ ic.up cv f2 (fun a j q => by simp [pBf]; omega) ⟨⟨?_, mb, q3.fr f2 (fun a j p q => by simp [pBf]; omega) (fun j p q => by simp [pBf]; omega), by rw [(f2.2 118 38 (by simp [pBf])).1]; exact q4, by rw [F 12 rfl]; exact q5⟩, qS.fr f2 (fun j => by simp [pBf]) ⟨rfl, rfl, rfl⟩, q7.fr f2 ⟨rfl, fun j => by simp [pBf]⟩, ⟨by rw [gI_F, y2], fun j a b => absurd b (by omega)⟩, q6.fr f2 ⟨⟨rfl, rfl⟩, fun j => by simp [pBf]⟩, by rw [F 69 rfl]; exact g1, fun q x a b => ?_, fun k a b => by rw [f2.A (by simp [pBf])]; exact g3 k a b⟩ ⟨by rw [F 63 rfl]; exact mv.1, by rw [F 64 rfl]; exact mv.2.1, by rw [F 65 rfl]; exact mv.2.2.1, y39, y9, fun _ => y10⟩
    · have g := p.g
      have x22 := mb.1.1
      unfold MB at q1 ⊢
      rw [F 12 rfl, F 34 rfl, F 35 rfl, F 36 rfl, F 37 rfl]
      exact ⟨q1.1, q1.2.1, by omega, q1.2.2.2⟩
    · rw [F 69 rfl] at q; rw [f2.A (by simp [pBf])]; exact g2 q x a b
  · have bo : B'.ok := by
      have ok : XT.ok (T, b) := ⟨⟨q.1, by show b ≤ 500; omega⟩, fun k k0 k1 => tb.2 k k0 (by have : k < b := k1; omega)⟩
      exact gLines_ok ok 501 (bk0, false) 0 B' (by have := ok.1; omega) bk0_ok gB
    have k1 := S.1.ch c la (fun a j q => by simp [pCb]; omega)
    have m := S.2.2.2.2.1.cls c S.1.1 (fun a j q r => by simp [pCb]; omega)
    have mv := S.2.2.2.2.2.cls c S.1.1 (fun a j q r => by simp [pCb]; omega)
    have age := c2.1
    have ag : zF h' 80 4 = zF h 80 4 + 1 := gF (by omega) z80.2.2.2.2
    have F : ∀ a j, a < 155 → pCb (26 - rb) a j = false → zF h' a j = zF h a j := fun a j q p => by unfold zF; rw [(c.1 a j (by omega) p).1]
    have e12 := F 91 12 (by omega) (by simp [pCb]; omega)
    have ic : IC (i + 1) h' B' 0 (XM.lay 0 0) 0 T 0 pl L tr (fun _ => 0) := by
      refine ⟨26 - rb, va, zv, va2, zv2, a0, stp, stp2, ⟨rB, cB, ?_, cl.1, fun _ => cl⟩, ⟨by omega, by have := c2.2.1; omega, fun q => by have := c2.2.1; omega⟩, ⟨?_, ?_, by have := c3.2.2.1; omega, c3.2.2.2⟩, ⟨by rw [gI_F, z1.2.2.2], fun j a b => absurd b (by omega)⟩, ⟨by rw [gI_F, z1.2.2.1], fun j a b => absurd b (by omega)⟩, ?_, ⟨?_, z108.2.2, Or.inl z108.2.1⟩, ?_⟩
      · refine ⟨⟨z80.1, z80.2.1, z80.2.2.1, z80.2.2.2.1⟩, fun x a b => absurd b (by show ¬ x < 0 * 0; omega), fun e a b => absurd b (by show ¬ e < 0; omega), fun e a b => absurd b (by show ¬ e < 0; omega), fun x a b => ?_, fun x a b => absurd b (by show ¬ x < 0 * 0; omega), fun x _ a b => absurd b (by show ¬ x < 0 * 0; omega)⟩
        have : zA h' 84 x = zA h 84 x := by unfold zA; rw [(c.1 84 _ (by omega) (by simp [pCb]; omega)).1]
        rw [this]; exact c1.2.2.1.2.2.2.2.1 x a b
      · exact c3.1.old2 c S.1.1 (Or.inl rfl) (by simp [pF]) (fun j => by simp [pCb]; omega) ⟨by simp [pCb]; omega, by simp [pCb]; omega, by simp [pCb]; omega⟩ ag
      · exact c3.2.1.old2 c S.1.1 (Or.inr rfl) (by simp [pF]) (fun j => by simp [pCb]; omega) ⟨by simp [pCb]; omega, by simp [pCb]; omega, by simp [pCb]; omega⟩ ag
      · exact c6.ch c S.1.1 ⟨by simp [pCb]; omega, fun j => by simp [pCb]; omega⟩
      · rcases c7.1 with w | w
        · exact Or.inl ⟨w.1, z108.1, by rw [c.2.1 107 11 (by omega) (by simp [pF])]; exact w.2.2⟩
        · exact Or.inr ⟨w.1.ch c S.1.1 ⟨by simp [pF], by simp [pF], by simp [pF], by simp [pF], by simp [pF]⟩, Or.inl z108.1⟩
      · unfold C8 at c8 ⊢; rw [nN, nU]; omega
    have cv0 := S.2.2.2.1
    have cv : CV h' (upv (upv v 3 0) 4 0) := ⟨(F 106 2 (by omega) (by simp [pCb]; omega)).trans cv0.1, (F 106 3 (by omega) (by simp [pCb]; omega)).trans cv0.2.1, (F 106 4 (by omega) (by simp [pCb]; omega)).trans cv0.2.2.1, z1.1, z1.2.1, fun q => absurd (show (0 : Int) = 4 from q) (by decide)⟩
    refine ⟨k1, fun K2 k2 => m_book hb k1.1 k1.2.2.1 (mt m).1 (mt m).2 m.1.2.1 p.1 (fun w => absurd q w) (fun _ e ge => by rw [gB] at ge; cases ge) (fun _ B2 gB2 h2 f2 mb y y2 y140 => ?_)⟩
    have ee : B2 = B' := by rw [gB] at gB2; injection gB2 with x; exact x.symm
    subst ee
    obtain ⟨⟨q1, q2, q3, q4, q5⟩, qS, q7, ⟨t1, t2⟩, q6, ⟨g1, g2, g3⟩⟩ := m
    have F2 : ∀ j, pBs 118 j = false → zF h2 118 j = zF h' 118 j := fun j q => f2.F q
    have bg := bo.1
    refine k2 _ (inv_mk k1 ⟨Or.inl bo, ⟨by decide, fun _ => by omega, fun _ => rfl⟩, Or.inr ⟨rfl, rfl, rfl, rfl⟩, ⟨by decide, fun j a b => absurd b (by omega)⟩, ⟨by decide, fun j a b => absurd b (by omega)⟩, p.2.2.2.2.2.1, fun k a b => ⟨Int.le_refl _, by decide, fun _ => rfl⟩⟩ ic cv f2 (fun a j q => by simp [pBs]; omega) ⟨⟨?_, mb, ⟨⟨y.2.2.2.2.1, Or.inr ⟨y.2.2.1, rfl, rfl, rfl⟩⟩, fun x a b => absurd b (by show ¬ x < 0 * 0; omega), fun e a b => absurd b (by show ¬ e < 0; omega), fun e a b => absurd b (by show ¬ e < 0; omega)⟩, by rw [gI_F, y.2.2.2.2.2.1], Or.inl ⟨y.1, bo⟩⟩, ⟨Or.inl y.2.2.2.2.2.2, fun _ _ q => absurd q (by omega)⟩, ⟨y.2.2.2.1, fun j a b => absurd b (by omega)⟩, ⟨by rw [gI_F, y2.2.2], fun j a b => absurd b (by omega)⟩, q6.fr f2 ⟨⟨rfl, rfl⟩, fun j => by simp [pBs]⟩, Or.inl y.2.1, fun q => absurd q (by omega), y140⟩ ⟨by rw [F2 63 rfl]; exact mv.1, by rw [F2 64 rfl]; exact mv.2.1, by rw [F2 65 rfl]; exact mv.2.2.1, y2.2.1, y2.1, fun q => absurd (show (0 : Int) = 4 from q) (by decide)⟩)
    have x22 := mb.1.1
    unfold MB at q1 ⊢
    rw [F2 35 rfl, F2 36 rfl]
    exact ⟨Or.inr y.1, Or.inl y.2.2.1, by omega, q1.2.2.2.1, q1.2.2.2.2.1, by omega⟩
end INVH
