/-! calls on values, between two calls -/
def pX : Nat → Nat → Bool := fun a j => a == 116 || (a == 117 || ((a == 96 || a == 101) && j == 3))
section INV5
variable {i n rb va zv va2 zv2 a0 va' zv' wa : Nat} {h h1 h2 h' : XH} {P Q X : Nat → Nat → Bool} {s : Nat → Int32} {B : XB} {dd : Int} {M : XM} {t np L L' r x y z e stp stp2 stp' go c : Int} {T tr tr' du : Int → Int} {pl : Int → XL} {v w : Nat → Int} {K : Int32 → XH → Prop} {KL64 : Int64 → XH → Prop} {bm : Bool}
theorem ai_not {a j : Nat} (hX : ∀ a j, pX a j = false → X a j = false) (q1 : ¬ (a = 94 ∨ a = 95 ∨ a = wa + 1 ∨ a = wa + 2 ∨ a = wa + 3 ∨ a = va)) (q2 : ¬ (a = 91 ∧ 6 ≤ j)) (q3 : ¬ a = wa ∨ j = 2) (q4 : pX a j = false) : pO (PAi wa va) X a j = false := by
  show (PAi wa va a j || X a j) = false
  rw [hX a j q4, Bool.or_false]
  simp only [pO, Bool.or_eq_false_iff]
  refine ⟨?_, ?_⟩
  · simp [pA]; omega
  · simp [pF]; omega
theorem wed_parts (hw : Wa wa) (hL : Lay h) (c1 : C1 h rb B dd M) (c2 : C2 i h B dd M) (c4 : C4 h np pl) (c5 : C5 h t T) (c7 : C7 h a0 B du) (h8 : np ≤ 8) (hva : va = wa + 4 ∨ 155 ≤ va) (hap : a0 = 0 ∨ ¬ (a0 ≤ va ∧ va ≤ a0 + 4)) (hX : ∀ a j, pX a j = false → X a j = false) (W : Wed X h h' wa va zv va' zv' B dd M bm stp stp') : C1 h' rb B dd M ∧ C2 i h' B dd M ∧ C4 h' np pl ∧ C5 h' t T ∧ C7 h' a0 B du := by
  have hw' : wa = 96 ∨ wa = 101 := hw
  obtain ⟨ch, wi, gr, st, pr, cm, la, ag⟩ := W
  have nn := hL.2.2.1
  refine ⟨?_, ?_, ?_, ?_, ?_⟩
  · exact c1.ch ch hL ⟨by simp [pF] <;> omega, by simp [pF] <;> omega, by simp [pF] <;> omega, by simp [pF] <;> omega⟩ ⟨fun a j p q => ai_not hX (by omega) (by omega) (by omega) (by simp [pX]; omega), fun a j p q r => ai_not hX (by omega) (by omega) (by omega) (by simp [pX]; omega), ⟨ai_not hX (by omega) (by omega) (by omega) rfl, ai_not hX (by omega) (by omega) (by omega) rfl⟩, fun j => ⟨ai_not hX (by omega) (by omega) (by omega) (by simp [pX]), ai_not hX (by omega) (by omega) (by omega) (by simp [pX])⟩⟩
  · have e1 : zF h' 80 4 = zF h 80 4 := by unfold zF; rw [(ch.1 80 4 (by omega) (ai_not hX (by omega) (by omega) (by omega) rfl)).1]
    exact ⟨by rw [e1]; exact c2.1, by omega, fun _ => pr⟩
  · exact c4.ch ch hL ⟨ai_not hX (by omega) (by omega) (by omega) rfl, fun a j p q => ai_not hX (by omega) (by omega) (by omega) (by simp [pX]; omega)⟩ h8
  · exact c5.ch ch hL ⟨ai_not hX (by omega) (by omega) (by omega) rfl, fun j => ai_not hX (by omega) (by omega) (by omega) (by simp [pX])⟩
  · exact c7.ch ch hL ⟨by simp [pF] <;> omega, by simp [pF] <;> omega, by simp [pF] <;> omega, by simp [pF] <;> omega, by simp [pF] <;> omega⟩ ⟨⟨ai_not hX (by omega) (by omega) (by omega) rfl, ai_not hX (by omega) (by omega) (by omega) rfl⟩, ai_not hX (by omega) (by omega) (by omega) rfl, ai_not hX (by omega) (by omega) (by omega) rfl⟩ (fun q j => ⟨⟨ai_not hX (by omega) (by omega) (by omega) (by simp [pX]; omega), ai_not hX (by omega) (by omega) (by omega) (by simp [pX]; omega), ai_not hX (by omega) (by omega) (by omega) (by simp [pX]; omega), ai_not hX (by omega) (by omega) (by omega) (by simp [pX]; omega)⟩, ai_not hX (by omega) (by omega) (by omega) (by simp [pX]; omega)⟩) (fun j => ai_not hX (by omega) (by omega) (by omega) (by simp [pX]))
theorem wed_room (c8 : C8 i h zv zv2 a0) (hz : zv ≤ 102400) (hz' : zv' ≤ 102400) (g : (va' = va ∧ zv' = zv ∧ gN h' = gN h ∧ gU h' = gU h) ∨ (va' = gN h ∧ gN h' = gN h + 1 ∧ gU h' = gU h + zv' ∧ zv < zv' ∧ (2 * zv ≤ zv' ∨ zv' = 102400))) : C8 (i + 1) h' zv' zv2 a0 := by
  unfold C8 at c8 ⊢
  have key : potv zv + (gU h' - gU h) ≤ potv zv' ∧ gU h ≤ gU h' := by
    unfold potv
    rcases g with g | g
    · rw [g.2.1]; omega
    · split <;> split <;> omega
  generalize potv zv = p1 at *
  generalize potv zv' = p2 at *
  generalize potv zv2 = p3 at *
  refine ⟨by omega, ?_⟩
  split <;> split at c8 <;> omega
theorem C8.swap (c8 : C8 i h zv zv2 a0) : C8 i h zv2 zv a0 := by unfold C8 at c8 ⊢; omega
theorem IC.wed1 (hL : Lay h) (c1 : C1 h rb B dd M) (c2 : C2 i h B dd M) (c3 : C3 i h va zv va2 zv2 a0 stp stp2 B dd M) (c4 : C4 h np pl) (c5 : C5 h t T) (c7 : C7 h a0 B du) (c8 : C8 i h zv zv2 a0) (h8 : np ≤ 8) (hX : ∀ a j, pX a j = false → X a j = false) (W : Wed X h h' 96 va zv va' zv' B dd M false stp stp') (h6 : C6 h' L tr) : IC (i + 1) h' B dd M t T np pl L tr du := by
  have v1 := c3.1.vb1
  have v2 := c3.2.1.vb2
  have x1 := c3.1.1.1
  have x2 := c3.2.1.1.1
  have lim := c7.1.lim
  obtain ⟨k1, k2, k3, k4, k5⟩ := c3
  obtain ⟨d1, d2, d4, d5, d7⟩ := wed_parts (Or.inl rfl) hL c1 c2 c4 c5 c7 h8 (by omega) (by omega) hX W
  obtain ⟨ch, wi, gr, st, pr, cm, la, ag⟩ := W
  have y1 := wi.1.1
  have r8 := wed_room c8 x1.2.2.2.2.2.1 y1.2.2.2.2.2.1 gr
  refine ⟨rb, va', zv', va2, zv2, a0, stp', stp2, d1, ⟨by have := d2.1; omega, d2.2⟩, ⟨wi, ?_, by omega, ?_, ?_⟩, d4, d5, h6, d7, r8⟩
  · exact k2.ch ch hL (Or.inr rfl) (by simp [pF]) (fun j => ⟨ai_not hX (by omega) (by omega) (by omega) (by simp [pX]), ai_not hX (by omega) (by omega) (by omega) (by simp [pX]; omega)⟩) ⟨ai_not hX (by omega) (by omega) (by omega) rfl, ai_not hX (by omega) (by omega) (by omega) rfl, ai_not hX (by omega) (by omega) (by omega) rfl, ai_not hX (by omega) (by omega) (by omega) rfl, ai_not hX (by omega) (by omega) (by omega) rfl⟩
  · have := x2.2.2.2.1; omega
  · omega
theorem IC.wed2 (hL : Lay h) (c1 : C1 h rb B dd M) (c2 : C2 i h B dd M) (c3 : C3 i h va zv va2 zv2 a0 stp stp2 B dd M) (c4 : C4 h np pl) (c5 : C5 h t T) (c7 : C7 h a0 B du) (c8 : C8 i h zv zv2 a0) (h8 : np ≤ 8) (hX : ∀ a j, pX a j = false → X a j = false) (W : Wed X h h' 101 va2 zv2 va' zv' B dd M true stp2 stp') (h6 : C6 h' L tr) : IC (i + 1) h' B dd M t T np pl L tr du := by
  have v1 := c3.1.vb1
  have v2 := c3.2.1.vb2
  have x1 := c3.1.1.1
  have x2 := c3.2.1.1.1
  have lim := c7.1.lim
  obtain ⟨k1, k2, k3, k4, k5⟩ := c3
  obtain ⟨d1, d2, d4, d5, d7⟩ := wed_parts (Or.inr rfl) hL c1 c2 c4 c5 c7 h8 (by omega) (by omega) hX W
  obtain ⟨ch, wi, gr, st, pr, cm, la, ag⟩ := W
  have y1 := wi.1.1
  have r8 := (wed_room c8.swap x2.2.2.2.2.2.1 y1.2.2.2.2.2.1 gr).swap
  refine ⟨rb, va, zv, va', zv', a0, stp, stp', d1, ⟨by have := d2.1; omega, d2.2⟩, ⟨?_, wi, by omega, ?_, ?_⟩, d4, d5, h6, d7, r8⟩
  · exact k1.ch ch hL (Or.inl rfl) (by simp [pF]) (fun j => ⟨ai_not hX (by omega) (by omega) (by omega) (by simp [pX]), ai_not hX (by omega) (by omega) (by omega) (by simp [pX]; omega)⟩) ⟨ai_not hX (by omega) (by omega) (by omega) rfl, ai_not hX (by omega) (by omega) (by omega) rfl, ai_not hX (by omega) (by omega) (by omega) rfl, ai_not hX (by omega) (by omega) (by omega) rfl, ai_not hX (by omega) (by omega) (by omega) rfl⟩
  · have := x1.2.2.2.1; omega
  · omega
theorem ST.keep (S : ST i h s n B dd M t T np pl L tr du v w) (hr : R32 r ∧ ¬ r = 4) : ST i (sI h 1 18 (iI r)) s n B dd M t T np pl L tr du (upv v 3 r) w := by
  have S2 := S.c18 hr
  have f := s18_fr h r
  exact ⟨S2.1, S2.2.1, S.2.2.1.fr f S.1.1 (fun a j q => by simp [pFree] at q; simp [pF]; omega) S.2.1.2.2.2.2.1.1.2, S2.2.2.2⟩
/-- what else stands when a Ways was used -/
theorem wed_st (hw : Wa wa) (hva : va = wa + 4 ∨ 155 ≤ va) (hlt : va < gN h) (hX : ∀ a j, pX a j = false → X a j = false) (S : ST i h s n B dd M t T np pl L tr du v w) (W : Wed X h h' wa va zv va' zv' B dd M bm stp stp') : KS h' s n ∧ CV h' v ∧ IM h' B dd M t T np pl L tr du ∧ MV h' w := by
  have hw' : wa = 96 ∨ wa = 101 := hw
  have ch := W.1
  have hL := S.1.1
  have nn := hL.2.2.1
  obtain ⟨g, wi, gr, st, pr, cm, la, ag⟩ := W
  have N := S.2.2.2.2.1
  have va1M : va < 1000000 := by have := hL.2.2.2.1; omega
  have F : ∀ a j, a < 118 → ¬ (a = 94 ∨ a = 95 ∨ a = wa + 1 ∨ a = wa + 2 ∨ a = wa + 3 ∨ a = va) → ¬ (a = 91 ∧ 6 ≤ j) → (¬ a = wa ∨ j = 2) → pX a j = false → zF h' a j = zF h a j := fun a j q0 q1 q2 q3 q4 => by unfold zF; rw [(g.1 a j (by omega) (ai_not hX q1 q2 q3 q4)).1]
  refine ⟨S.1.ch g la (fun a j q => ai_not hX (by omega) (by omega) (by omega) (by simp [pX]; omega)), ?_, N.cls g hL (fun a j p q => ai_not hX (by omega) (by omega) (by omega) (by simp [pX]; omega)), S.2.2.2.2.2.cls g hL (fun a j p q => ai_not hX (by omega) (by omega) (by omega) (by simp [pX]; omega))⟩
  have cv := S.2.2.2.1
  unfold CV at cv ⊢
  rw [F 106 2 (by omega) (by omega) (by omega) (by omega) rfl, F 106 3 (by omega) (by omega) (by omega) (by omega) rfl, F 106 4 (by omega) (by omega) (by omega) (by omega) rfl, F 1 18 (by omega) (by omega) (by omega) (by omega) rfl, F 1 19 (by omega) (by omega) (by omega) (by omega) rfl, F 3 8 (by omega) (by omega) (by omega) (by omega) rfl]
  exact cv
theorem C6.wed (hw : Wa wa) (hva : va = wa + 4 ∨ 155 ≤ va) (hL : Lay h) (hX : ∀ a j, pX a j = false → X a j = false) (hx : ∀ j, X 116 j = false) (W : Wed X h h' wa va zv va' zv' B dd M bm stp stp') (c6 : C6 h L tr) : C6 h' L tr := by
  have hw' : wa = 96 ∨ wa = 101 := hw
  refine c6.ch W.1 hL ⟨ai_not hX (by omega) (by omega) (by omega) rfl, fun j => ?_⟩
  show (PAi wa va 116 j || X 116 j) = false
  rw [hx j, Bool.or_false]
  simp only [pO, Bool.or_eq_false_iff]
  exact ⟨by simp [pA]; omega, by simp [pF]; omega⟩
theorem q0X : ∀ a j, pX a j = false → q0 a j = false := fun _ _ _ => rfl
/-- the Model has solved -/
theorem ST.slv (S : ST i h1 s n B dd M t T np pl L tr du v w) (f0 : Fr P h1 h') (hp : ∀ a j, pFr2 a j = false → P a j = false) (I : SvI h' h2 B dd M go bm 0) (mv : MV h2 v) : INV i h2 s n := by
  have f : Fr (pO P PSv) h1 h2 := (f0.mono (fun a j q => by simp only [pO, Bool.or_eq_false_iff] at q; exact q.1)).trans (I.1.mono (fun a j q => by simp only [pO, Bool.or_eq_false_iff] at q ⊢; exact q.2))
  refine S.mdl f (fun a j q => ?_) (S.2.2.2.2.1.fr f (fun a j q => ?_) I.msl (S.2.2.2.2.1.2.2.2.2.1.fr f ⟨⟨?_, ?_⟩, fun j => ?_⟩)) mv
  · show (P a j || PSv a j) = false
    rw [hp a j (by simp [pFr2]; omega), Bool.false_or]
    simp [pO, pA, pF]; omega
  · show (P a j || PSv a j) = false
    rw [hp a j (by simp [pFm] at q; simp [pFr2]; omega), Bool.false_or]
    simp [pFm] at q
    simp [pO, pA, pF]; omega
  · show (P 118 55 || PSv 118 55) = false
    rw [hp _ _ rfl]; rfl
  · show (P 118 73 || PSv 118 73) = false
    rw [hp _ _ rfl]; rfl
  · show (P 143 j || PSv 143 j) = false
    rw [hp _ _ (by simp [pFr2])]; rfl
theorem MV.slv (I : SvI h1 h2 B dd M go bm 0) (h39 : zF h1 118 39 = r) (hr : ¬ r = 4) (m : MV h1 w) : MV h2 (upv w 3 r) := by
  have f := I.1
  exact ⟨(f.F (by simp [pO, pA, pF])).trans m.1, (f.F (by simp [pO, pA, pF])).trans m.2.1, (f.F (by simp [pO, pA, pF])).trans m.2.2.1, (f.F (by simp [pO, pA, pF])).trans h39, (f.F (by simp [pO, pA, pF])).trans m.2.2.2.2.1, fun q => absurd q hr⟩
theorem MV.s39 (hr : R32 r ∧ ¬ r = 4) (m : MV h1 w) : MV (sI h1 118 39 (iI r)) (upv w 3 r) := by
  have f : Fr (pF [(118, 39)]) h1 (sI h1 118 39 (iI r)) := (Fr.refl _ _).sI 118 39 _ (by simp [pF])
  exact ⟨(f.F (by simp [pF])).trans m.1, (f.F (by simp [pF])).trans m.2.1, (f.F (by simp [pF])).trans m.2.2.1, (show zF (sI h1 118 39 (iI r)) 118 39 = r from gF hr.1 (by rw [sI_here, if_pos rfl])), (f.F (by simp [pF])).trans m.2.2.2.2.1, fun q => absurd q hr.2⟩
theorem MV.g (m : MV h1 w) : MV (hG h1) (upv w 3 0) := by
  have f := hG_fr h1
  exact ⟨(f.F (by simp [pF])).trans m.1, (f.F (by simp [pF])).trans m.2.1, (f.F (by simp [pF])).trans m.2.2.1, hG_39 h1, (f.F (by simp [pF])).trans m.2.2.2.2.1, fun q => absurd (show (0 : Int) = 4 from q) (by decide)⟩
theorem upv2 (w : Nat → Int) (a b : Int) : upv (upv w 3 a) 3 b = upv w 3 b := by
  funext j
  unfold upv
  split <;> rfl
/-- solved, and answered: 0 -/
theorem ST.slv0 (S : ST i h1 s n B dd M t T np pl L tr du (upv v 3 0) v) (I : SvI (hG h1) h2 B dd M go bm 0) : INV i h2 s n := by
  refine S.slv (hG_fr h1) (fun a j q => by simp [pFr2] at q; simp [pF]; omega) I ?_
  have := MV.slv I (hG_39 h1) (by decide) S.2.2.2.2.2.g
  rw [upv2] at this; exact this
/-- a small write of the Model at the end -/
theorem INV.s39 (S : ST i h1 s n B dd M t T np pl L tr du (upv v 3 r) v) (hr : R32 r ∧ ¬ r = 4) (I : SvI (hG h1) h2 B dd M go bm 0) : INV i (sI h2 118 39 (iI r)) s n := by
  have f1 : Fr (pF [(118, 39)]) h2 (sI h2 118 39 (iI r)) := (Fr.refl _ _).sI 118 39 _ (by simp [pF])
  have f : Fr (pO (pF [(118, 0), (118, 39)]) PSv) h1 (sI h2 118 39 (iI r)) := (((hG_fr h1).mono (fun a j q => by simp only [pO, Bool.or_eq_false_iff] at q; exact q.1)).trans (I.1.mono (fun a j q => by simp only [pO, Bool.or_eq_false_iff] at q ⊢; exact q.2))).trans (f1.mono (fun a j q => by simp only [pO, Bool.or_eq_false_iff] at q; have := q.1; simp [pF] at this ⊢; omega))
  have ms := I.msl.fr f1 (fun j => by simp [pF]) (by simp [pF])
  have mv := MV.s39 hr (MV.slv I (hG_39 h1) (by decide) S.2.2.2.2.2.g)
  rw [upv2, upv2] at mv
  refine S.mdl f (fun a j q => ?_) (S.2.2.2.2.1.fr f (fun a j q => ?_) ms (S.2.2.2.2.1.2.2.2.2.1.fr f ⟨⟨rfl, rfl⟩, fun j => by simp [pO, pA, pF]⟩)) mv
  · simp [pO, pA, pF]; omega
  · simp [pFm] at q; simp [pO, pA, pF]; omega
theorem c3_wy1 (c2 : C2 i h B dd M) (c3 : C3 i h va zv va2 zv2 a0 stp stp2 B dd M) (c8 : C8 i h zv zv2 a0) (hi : i ≤ 600) : CWy h 96 va zv B dd M false stp ∧ CWy h 101 va2 zv2 B dd M true stp2 := by
  have a := c3.2.2.1
  have b := c8.1
  exact ⟨⟨c2.2.2, c3.1, by omega, by omega⟩, c2.2.2, c3.2.1, by omega, by omega⟩
theorem o_worst (hi : i ≤ 600) (hc : R32 c) (hgo : R32 go) (I : INV i h s n) (kk : ∀ r h1, Mid i 40 229 [.ref 118, .int (iI c), .int (iI go), .null, .null] s n r h1 → K r h1) : XW 40 135 0 [.ref 1, .int (iI c), .int (iI go), .null, .null] [] h (KI K) := by
  obtain ⟨B, dd, M, t, T, np, pl, L, tr, du, v, S⟩ := I
  have S : ST i h s n B dd M t T np pl L tr du v v := S
  obtain ⟨rb, va, zv, va2, zv2, a0, stp, stp2, c1, c2, c3, c4, c5, c6, c7, c8⟩ := id S.2.2.1
  have p := S.2.1
  have h8 := p.2.2.2.2.1.1.2
  have cw := c3_wy1 c2 c3 c8 hi
  have vb := c3.1.vb1
  have st : ∀ h' va' zv' stp', Wed q0 h h' 96 va zv va' zv' B dd M false stp stp' → ST (i + 1) h' s n B dd M t T np pl L tr du v v := fun h' va' zv' stp' W => by
    have x := wed_st (Or.inl rfl) vb c3.1.1.1.2.2.2.1 q0X S W
    exact ⟨x.1, p, IC.wed1 S.1.1 c1 c2 c3 c4 c5 c7 c8 h8 q0X W (c6.wed (Or.inl rfl) vb S.1.1 q0X (fun _ => rfl) W), x.2.1, x.2.2.1, x.2.2.2⟩
  refine c_worst hc hgo S.1.1 (c1.cx p) (fun _ => cw.1) (fun q => kk _ _ ?_) (fun q q1 h' va' zv' stp' W => kk _ _ ?_) (fun q q1 h' va' zv' stp' W => kk _ _ ?_)
  · have S1 := S.c18 (r := 1) (by decide)
    exact ⟨S1.1, fun K2 k2 => m_worst hc hgo S1.1.1 (S1.2.2.2.2.1.mx p) (fun _ => S1.2.2.2.2.1.2.1) (fun _ => k2 _ (S1.ref (by decide))) (fun w => absurd w q) (fun w => absurd w q)⟩
  · have S1 := (st h' va' zv' stp' W).keep (r := 6) (by decide)
    exact ⟨S1.1, fun K2 k2 => m_worst hc hgo S1.1.1 (S1.2.2.2.2.1.mx p) (fun _ => S1.2.2.2.2.1.2.1) (fun w => absurd q w) (fun _ _ h2 I2 => k2 _ (INV.s39 S1 (by decide) I2)) (fun _ w => absurd w q1)⟩
  · have S1 := (st h' va' zv' stp' W).keep (r := 0) (by decide)
    exact ⟨S1.1, fun K2 k2 => m_worst hc hgo S1.1.1 (S1.2.2.2.2.1.mx p) (fun _ => S1.2.2.2.2.1.2.1) (fun w => absurd q w) (fun _ w => absurd q1 w) (fun _ _ h2 I2 => k2 _ (S1.slv0 I2))⟩
end INV5
