/-! calls on values, between two calls: the others -/
/-- what calls that only look, or walk, may write: the Model's cells -/
def pFmm : Nat → Nat → Bool := fun a j => pFm a j && (decide (118 ≤ a) && decide (a < 154))
section INV6
variable {i n rb va zv va2 zv2 a0 va' zv' wa : Nat} {h h1 h2 h3 h' : XH} {P Q X : Nat → Nat → Bool} {s : Nat → Int32} {B : XB} {dd : Int} {M : XM} {t np L L' r x y e stp stp2 stp' go c : Int} {T tr tr' du : Int → Int} {pl : Int → XL} {v w : Nat → Int} {K : Int32 → XH → Prop} {KL64 : Int64 → XH → Prop} {bm z : Bool}
theorem fm_le {a j : Nat} (q : pFmm a j = false) (k : 118 ≤ a ∧ a < 154) : pFm a j = false := by
  unfold pFmm at q
  simp [k.1, k.2] at q
  exact q
theorem fm_G (h : XH) : Fr pFmm h (hG h) := (hG_fr h).mono (fun a j q => by
  by_cases k : 118 ≤ a ∧ a < 154
  · have := fm_le q k; simp [pFm] at this; simp [pF]; omega
  · simp [pF]; omega)
theorem fm_S (f : Fr PSv h h') : Fr pFmm h h' := f.mono (fun a j q => by
  by_cases k : 118 ≤ a ∧ a < 154
  · have := fm_le q k; simp [pFm] at this; simp [pO, pA, pF]; omega
  · simp [pO, pA, pF]; omega)
theorem fm_L (f : Fr (pA [141, 142]) h h') : Fr pFmm h h' := f.mono (fun a j q => by
  by_cases k : 118 ≤ a ∧ a < 154
  · have := fm_le q k; simp [pFm] at this; simp [pA]; omega
  · simp [pA]; omega)
theorem fm_R (f : Fr PRg h h') : Fr pFmm h h' := f.mono (fun a j q => by
  by_cases k : 118 ≤ a ∧ a < 154
  · have := fm_le q k; simp [pFm] at this; simp [pO, pA, pF]; omega
  · simp [pO, pA, pF]; omega)
theorem fm_151 (f : Fr (pA [150]) h h') : Fr pFmm h h' := f.mono (fun a j q => by
  by_cases k : 118 ≤ a ∧ a < 154
  · have := fm_le q k; simp [pFm] at this; simp [pA]; omega
  · simp [pA]; omega)
theorem fm_go (f : Fr PGo h h') : Fr pFmm h h' := fm_R (f.mono (fun a j q => by simp only [pO, Bool.or_eq_false_iff] at q ⊢; refine ⟨?_, q.2⟩; have := q.1; simp [pA] at this ⊢; omega))
theorem fm_s (h : XH) (j : Nat) (x : Int32) (q : pFm 118 j = true) : Fr pFmm h (sI h 118 j x) := (Fr.refl _ _).sI 118 j _ (by simp [pFmm, q])
theorem ST.fin (S : ST i h1 s n B dd M t T np pl L tr du v w) (f : Fr pFmm h1 h2) (ms : MSl h2 B dd M) (m6 : M6 h2 L tr) (mv : MV h2 v) : INV i h2 s n :=
  S.mdl f (fun a j q => by unfold pFmm; simp; omega) (S.2.2.2.2.1.fr f (fun a j q => by unfold pFmm; rw [q]; rfl) ms m6) mv
theorem MSd.msl (S : MSd h B dd M go bm) (q : zF h 118 51 = 1) : MSl h B dd M := ⟨Or.inr q, fun go' bm' _ q1 q2 => by
  have e1 : go' = go := by rw [← q1, S.2.2.1]
  have e2 : bm' = bm := b2i_inj (by rw [← q2, S.2.2.2])
  rw [e1, e2]
  exact ⟨S.1, S.2.1⟩⟩
theorem MV.fr (f : Fr P h h') (hp : P 118 63 = false ∧ P 118 64 = false ∧ P 118 65 = false ∧ P 118 39 = false ∧ P 118 9 = false ∧ P 118 10 = false) (m : MV h w) : MV h' w := by
  unfold MV at m ⊢
  rw [f.F hp.1, f.F hp.2.1, f.F hp.2.2.1, f.F hp.2.2.2.1, f.F hp.2.2.2.2.1, f.F hp.2.2.2.2.2]; exact m
/-- all that a call on the values needs, and its ends on the class's side -/
theorem wed_all (hi : i ≤ 600) (S : ST i h s n B dd M t T np pl L tr du v v) : ∃ rb va zv va2 zv2 stp stp2, CX h rb B dd M ∧ CWy h 96 va zv B dd M false stp ∧ CWy h 101 va2 zv2 B dd M true stp2 ∧
    (∀ X h' va' zv' stp', (∀ a j, pX a j = false → X a j = false) → (∀ j, X 116 j = false) → Wed X h h' 96 va zv va' zv' B dd M false stp stp' → ST (i + 1) h' s n B dd M t T np pl L tr du v v) ∧
    (∀ X h' va' zv' stp', (∀ a j, pX a j = false → X a j = false) → (∀ j, X 116 j = false) → Wed X h h' 101 va2 zv2 va' zv' B dd M true stp2 stp' → ST (i + 1) h' s n B dd M t T np pl L tr du v v) ∧
    (∀ X h' va' zv' stp', (∀ a j, pX a j = false → X a j = false) → (Wed X h h' 96 va zv va' zv' B dd M false stp stp' ∨ Wed X h h' 101 va2 zv2 va' zv' B dd M true stp2 stp') → (KS h' s n ∧ CV h' v ∧ IM h' B dd M t T np pl L tr du ∧ MV h' v) ∧ IC (i + 1) h' B dd M t T np pl (zF h' 1 17) (zA h' 116) du) := by
  obtain ⟨rb, va, zv, va2, zv2, a0, stp, stp2, c1, c2, c3, c4, c5, c6, c7, c8⟩ := id S.2.2.1
  have p := S.2.1
  have h8 := p.2.2.2.2.1.1.2
  have cw := c3_wy1 c2 c3 c8 hi
  have vb := c3.1.vb1
  have vb2 := c3.2.1.vb2
  refine ⟨rb, va, zv, va2, zv2, stp, stp2, c1.cx p, cw.1, cw.2, fun X h' va' zv' stp' hX hx W => ?_, fun X h' va' zv' stp' hX hx W => ?_, fun X h' va' zv' stp' hX W => ?_⟩
  · have x := wed_st (Or.inl rfl) vb c3.1.1.1.2.2.2.1 hX S W
    exact ⟨x.1, p, IC.wed1 S.1.1 c1 c2 c3 c4 c5 c7 c8 h8 hX W (c6.wed (Or.inl rfl) vb S.1.1 hX hx W), x.2.1, x.2.2.1, x.2.2.2⟩
  · have x := wed_st (Or.inr rfl) vb2 c3.2.1.1.1.2.2.2.1 hX S W
    exact ⟨x.1, p, IC.wed2 S.1.1 c1 c2 c3 c4 c5 c7 c8 h8 hX W (c6.wed (Or.inr rfl) vb2 S.1.1 hX hx W), x.2.1, x.2.2.1, x.2.2.2⟩
  · rcases W with W | W
    · exact ⟨wed_st (Or.inl rfl) vb c3.1.1.1.2.2.2.1 hX S W, IC.wed1 S.1.1 c1 c2 c3 c4 c5 c7 c8 h8 hX W ⟨rfl, fun _ _ _ => rfl⟩⟩
    · exact ⟨wed_st (Or.inr rfl) vb2 c3.2.1.1.1.2.2.2.1 hX S W, IC.wed2 S.1.1 c1 c2 c3 c4 c5 c7 c8 h8 hX W ⟨rfl, fun _ _ _ => rfl⟩⟩
theorem o_mean (hi : i ≤ 600) (hc : R32 c) (hgo : R32 go) (I : INV i h s n) (kk : ∀ r h1, MidL i 40 232 [.ref 118, .int (iI c), .int (iI go), .int (iI (b2i z)), .null, .null] s n r h1 → KL64 r h1) : XW 40 136 0 [.ref 1, .int (iI c), .int (iI go), .int (iI (b2i z)), .null, .null, .null] [] h (KL KL64) := by
  obtain ⟨B, dd, M, t, T, np, pl, L, tr, du, v, S⟩ := I
  have S : ST i h s n B dd M t T np pl L tr du v v := S
  have p := S.2.1
  obtain ⟨rb, va, zv, va2, zv2, stp, stp2, cx, w1, w2, s1, s2, s3⟩ := wed_all hi S
  refine c_mean hc hgo S.1.1 cx (fun _ => w2) (fun q => kk _ _ ?_) (fun q q1 h' va' zv' stp' W => kk _ _ ?_) (fun q q1 h' va' zv' stp' W => kk _ _ ?_)
  · have S1 := S.c18 (r := 1) (by decide)
    exact ⟨S1.1, fun K2 k2 => m_mean hc hgo S1.1.1 (S1.2.2.2.2.1.mx p) (fun _ => S1.2.2.2.2.1.2.1) (fun _ => k2 _ (S1.ref (by decide))) (fun w => absurd w q) (fun w => absurd w q)⟩
  · have S1 := (s2 _ h' va' zv' stp' q0X (fun _ => rfl) W).keep (r := 6) (by decide)
    exact ⟨S1.1, fun K2 k2 => m_mean hc hgo S1.1.1 (S1.2.2.2.2.1.mx p) (fun _ => S1.2.2.2.2.1.2.1) (fun w => absurd q w) (fun _ _ h2 I2 => k2 _ (INV.s39 S1 (by decide) I2)) (fun _ w => absurd w q1)⟩
  · have S1 := (s2 _ h' va' zv' stp' q0X (fun _ => rfl) W).keep (r := 0) (by decide)
    exact ⟨S1.1, fun K2 k2 => m_mean hc hgo S1.1.1 (S1.2.2.2.2.1.mx p) (fun _ => S1.2.2.2.2.1.2.1) (fun w => absurd q w) (fun _ w => absurd q1 w) (fun _ _ h2 I2 => k2 _ (S1.slv0 I2))⟩
theorem o_way (hi : i ≤ 600) (hc : R32 c) (hgo : R32 go) (I : INV i h s n) (kk : ∀ r h1, Mid i 40 234 [.ref 118, .int (iI c), .int (iI go), .int (iI (b2i z)), .null] s n r h1 → K r h1) : XW 40 137 0 [.ref 1, .int (iI c), .int (iI go), .int (iI (b2i z)), .null, .null] [] h (KI K) := by
  obtain ⟨B, dd, M, t, T, np, pl, L, tr, du, v, S⟩ := I
  have S : ST i h s n B dd M t T np pl L tr du v v := S
  have p := S.2.1
  obtain ⟨rb, va, zv, va2, zv2, stp, stp2, cx, w1, w2, s1, s2, s3⟩ := wed_all hi S
  have sb : ∀ h' va' zv' stp', (z = false → Wed q0 h h' 96 va zv va' zv' B dd M false stp stp') → (z = true → Wed q0 h h' 101 va2 zv2 va' zv' B dd M true stp2 stp') → ST (i + 1) h' s n B dd M t T np pl L tr du v v := fun h' va' zv' stp' a b => by
    cases z with
    | false => exact s1 _ h' va' zv' stp' q0X (fun _ => rfl) (a rfl)
    | true => exact s2 _ h' va' zv' stp' q0X (fun _ => rfl) (b rfl)
  refine c_way hc hgo S.1.1 cx (fun _ => w1) (fun _ => w2) (fun q => kk _ _ ?_) (fun q q1 => kk _ _ ?_) (fun q q1 q2 h' va' zv' stp' W1 W2 => kk _ _ ?_) (fun q q1 q2 h' va' zv' stp' W1 W2 => kk _ _ ?_)
  · have S1 := S.c18 (r := 1) (by decide)
    exact ⟨S1.1, fun K2 k2 => m_way hc hgo S1.1.1 (S1.2.2.2.2.1.mx p) (fun _ => S1.2.2.2.2.1.2.1) (fun _ => k2 _ (S1.ref (by decide))) (fun w => absurd w q) (fun w => absurd w q) (fun w => absurd w q)⟩
  · have S1 := S.c18 (r := 5) (by decide)
    exact ⟨S1.1, fun K2 k2 => m_way hc hgo S1.1.1 (S1.2.2.2.2.1.mx p) (fun _ => S1.2.2.2.2.1.2.1) (fun w => absurd q w) (fun _ _ => k2 _ (S1.ref (by decide))) (fun _ w => absurd w q1) (fun _ w => absurd w q1)⟩
  · have S1 := (sb h' va' zv' stp' W1 W2).keep (r := 6) (by decide)
    exact ⟨S1.1, fun K2 k2 => m_way hc hgo S1.1.1 (S1.2.2.2.2.1.mx p) (fun _ => S1.2.2.2.2.1.2.1) (fun w => absurd q w) (fun _ w => absurd q1 w) (fun _ _ _ h2 I2 => k2 _ (INV.s39 S1 (by decide) I2)) (fun _ _ w => absurd w q2)⟩
  · have S1 := (sb h' va' zv' stp' W1 W2).keep (r := 0) (by decide)
    refine ⟨S1.1, fun K2 k2 => m_way hc hgo S1.1.1 (S1.2.2.2.2.1.mx p) (fun _ => S1.2.2.2.2.1.2.1) (fun w => absurd q w) (fun _ w => absurd q1 w) (fun _ _ w => absurd q2 w) (fun _ _ _ h2 h3 I2 f3 => k2 _ ?_)⟩
    have mv := MV.slv I2 (hG_39 _) (by decide) S1.2.2.2.2.2.g
    rw [upv2] at mv
    refine S1.fin (((fm_G _).trans (fm_S I2.1)).trans (fm_151 f3)) (I2.msl.fr f3 (fun j => by simp [pA]) (by simp [pA])) ?_ (mv.fr f3 (by simp [pA]))
    exact ((S1.2.2.2.2.1.2.2.2.2.1.fr (hG_fr _) (by simp [pF])).fr I2.1 (by simp [pO, pA, pF])).fr f3 (by simp [pA])
end INV6
