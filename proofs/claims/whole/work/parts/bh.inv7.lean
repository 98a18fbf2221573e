/-! calls on values, between two calls: spared, worth, regret, run; steps and truths -/
section INV7
variable {i n rb va zv va2 zv2 a0 va' zv' wa : Nat} {h h1 h2 h3 h' : XH} {P Q X : Nat → Nat → Bool} {s : Nat → Int32} {B : XB} {dd : Int} {M : XM} {t np L L' r x y e stp stp2 stp' go c : Int} {T tr tr' du : Int → Int} {pl : Int → XL} {v w : Nat → Int} {K : Int32 → XH → Prop} {KL64 : Int64 → XH → Prop} {bm z : Bool}
theorem o_spared (hi : i ≤ 600) (he : R32 e) (hc : R32 c) (hgo : R32 go) (I : INV i h s n) (kk : ∀ r h1, Mid i 40 245 [.ref 118, .int (iI e), .int (iI c), .int (iI go), .null, .null, .null, .null, .null, .null, .null, .null] s n r h1 → K r h1) : XW 40 144 0 [.ref 1, .int (iI e), .int (iI c), .int (iI go), .null, .null, .null] [] h (KI K) := by
  obtain ⟨B, dd, M, t, T, np, pl, L, tr, du, v, S⟩ := I
  have S : ST i h s n B dd M t T np pl L tr du v v := S
  have p := S.2.1
  obtain ⟨rb, va, zv, va2, zv2, stp, stp2, cx, w1, w2, s1, s2, s3⟩ := wed_all hi S
  refine c_spared he hc hgo S.1.1 cx (fun _ => w1) (fun q => kk _ _ ?_) (fun q q1 => kk _ _ ?_) (fun q q1 q2 h' va' zv' stp' W => kk _ _ ?_) (fun q q1 q2 h' va' zv' stp' W => kk _ _ ?_)
  · have S1 := S.c18 (r := 1) (by decide)
    exact ⟨S1.1, fun K2 k2 => m_spared he hc hgo S1.1.1 (S1.2.2.2.2.1.mx p) (fun _ => S1.2.2.2.2.1.2.1) (fun _ => k2 _ (S1.ref (by decide))) (fun w => absurd w q) (fun w => absurd w q) (fun w => absurd w q)⟩
  · have S1 := S.c18 (r := 5) (by decide)
    exact ⟨S1.1, fun K2 k2 => m_spared he hc hgo S1.1.1 (S1.2.2.2.2.1.mx p) (fun _ => S1.2.2.2.2.1.2.1) (fun w => absurd q w) (fun _ _ => k2 _ (S1.ref (by decide))) (fun _ w => absurd w q1) (fun _ w => absurd w q1)⟩
  · have S1 := (s1 _ h' va' zv' stp' q0X (fun _ => rfl) W).keep (r := 6) (by decide)
    exact ⟨S1.1, fun K2 k2 => m_spared he hc hgo S1.1.1 (S1.2.2.2.2.1.mx p) (fun _ => S1.2.2.2.2.1.2.1) (fun w => absurd q w) (fun _ w => absurd q1 w) (fun _ _ _ h2 I2 => k2 _ (INV.s39 S1 (by decide) I2)) (fun _ _ w => absurd w q2)⟩
  · have S1 := (s1 _ h' va' zv' stp' q0X (fun _ => rfl) W).keep (r := 0) (by decide)
    exact ⟨S1.1, fun K2 k2 => m_spared he hc hgo S1.1.1 (S1.2.2.2.2.1.mx p) (fun _ => S1.2.2.2.2.1.2.1) (fun w => absurd q w) (fun _ w => absurd q1 w) (fun _ _ w => absurd q2 w) (fun _ _ _ h2 I2 => k2 _ (S1.slv0 I2))⟩
theorem o_worth (hi : i ≤ 600) (he : R32 e) (hc : R32 c) (hgo : R32 go) (I : INV i h s n) (kk : ∀ r h1, MidL i 40 244 [.ref 118, .int (iI e), .int (iI c), .int (iI go), .int (iI (b2i z)), .null, .null, .null, .null, .null, .null] s n r h1 → KL64 r h1) : XW 40 143 0 [.ref 1, .int (iI e), .int (iI c), .int (iI go), .int (iI (b2i z)), .null, .null, .null, .null, .null] [] h (KL KL64) := by
  obtain ⟨B, dd, M, t, T, np, pl, L, tr, du, v, S⟩ := I
  have S : ST i h s n B dd M t T np pl L tr du v v := S
  have p := S.2.1
  obtain ⟨rb, va, zv, va2, zv2, stp, stp2, cx, w1, w2, s1, s2, s3⟩ := wed_all hi S
  have fin : ∀ {h1 h2 r}, ST (i + 1) h1 s n B dd M t T np pl L tr du (upv v 3 r) v → SvI (sI (hG h1) 118 39 (iI 0)) h2 B dd M go true 0 → MV h2 (upv v 3 0) ∧ Fr pFmm h1 h2 ∧ M6 h2 L tr := fun {h1 h2 r} S1 I2 => by
    have mv := MV.slv I2 (r := 0) (gF (by decide) (by rw [sI_here, if_pos rfl])) (by decide) (MV.s39 (r := 0) (by decide) S1.2.2.2.2.2.g)
    rw [upv2, upv2] at mv
    exact ⟨mv, ((fm_G _).trans (fm_s _ 39 _ rfl)).trans (fm_S I2.1), ((S1.2.2.2.2.1.2.2.2.2.1.fr (hG_s h1 0) (by simp [pF])).fr I2.1 (by simp [pO, pA, pF]))⟩
  refine c_worth he hc hgo S.1.1 cx (fun _ => w2) (fun q => kk _ _ ?_) (fun q q1 => kk _ _ ?_) (fun q q1 q2 h' va' zv' stp' W => kk _ _ ?_) (fun q q1 q2 h' va' zv' stp' W => kk _ _ ?_)
  · have S1 := S.c18 (r := 1) (by decide)
    exact ⟨S1.1, fun K2 k2 => m_worth he hc hgo S1.1.1 (S1.2.2.2.2.1.mx p) (fun _ => S1.2.2.2.2.1.2.1) (fun _ => k2 _ (S1.ref (by decide))) (fun w => absurd w q) (fun w => absurd w q) (fun w => absurd w q)⟩
  · have S1 := S.c18 (r := 5) (by decide)
    exact ⟨S1.1, fun K2 k2 => m_worth he hc hgo S1.1.1 (S1.2.2.2.2.1.mx p) (fun _ => S1.2.2.2.2.1.2.1) (fun w => absurd q w) (fun _ _ => k2 _ (S1.ref (by decide))) (fun _ w => absurd w q1) (fun _ w => absurd w q1)⟩
  · have S1 := (s2 _ h' va' zv' stp' q0X (fun _ => rfl) W).keep (r := 6) (by decide)
    refine ⟨S1.1, fun K2 k2 => m_worth he hc hgo S1.1.1 (S1.2.2.2.2.1.mx p) (fun _ => S1.2.2.2.2.1.2.1) (fun w => absurd q w) (fun _ w => absurd q1 w) (fun _ _ _ h2 I2 => k2 _ ?_) (fun _ _ w => absurd w q2)⟩
    have x := fin S1 I2
    have f1 : Fr (pF [(118, 39)]) h2 (sI h2 118 39 (iI 6)) := (Fr.refl _ _).sI 118 39 _ (by simp [pF])
    have mv := MV.s39 (r := 6) (by decide) x.1
    rw [upv2] at mv
    exact S1.fin (x.2.1.trans (fm_s _ 39 _ rfl)) (I2.msl.fr f1 (fun j => by simp [pF]) (by simp [pF])) (x.2.2.fr f1 (by simp [pF])) mv
  · have S1 := (s2 _ h' va' zv' stp' q0X (fun _ => rfl) W).keep (r := 0) (by decide)
    refine ⟨S1.1, fun K2 k2 => m_worth he hc hgo S1.1.1 (S1.2.2.2.2.1.mx p) (fun _ => S1.2.2.2.2.1.2.1) (fun w => absurd q w) (fun _ w => absurd q1 w) (fun _ _ w => absurd q2 w) (fun _ _ _ h2 I2 => k2 _ ?_)⟩
    have x := fin S1 I2
    exact S1.fin x.2.1 I2.msl x.2.2 x.1
theorem o_regret (hi : i ≤ 600) (hc : R32 c) (hgo : R32 go) (I : INV i h s n) (kk : ∀ r h1, Mid i 40 243 [.ref 118, .int (iI c), .int (iI go), .null, .null, .null, .null] s n r h1 → K r h1) : XW 40 142 0 [.ref 1, .int (iI c), .int (iI go), .null, .null, .null, .null, .null, .null, .null, .null] [] h (KI K) := by
  obtain ⟨B, dd, M, t, T, np, pl, L, tr, du, v, S⟩ := I
  have S : ST i h s n B dd M t T np pl L tr du v v := S
  have p := S.2.1
  have hl : ∀ {h1 v w}, ST (i + 1) h1 s n B dd M t T np pl L tr du v w → 0 ≤ zF h1 118 55 ∧ zF h1 118 55 ≤ 601 := fun S1 => by
    rw [S1.2.2.2.2.1.2.2.2.2.1.1]; exact p.2.2.2.2.2.1
  obtain ⟨rb, va, zv, va2, zv2, stp, stp2, cx, w1, w2, s1, s2, s3⟩ := wed_all hi S
  refine c_regret hc hgo S.1.1 cx (fun _ => w1) (fun q => kk _ _ ?_) (fun q q1 h' va' zv' stp' W => kk _ _ ?_) (fun q q1 h' va' zv' stp' W => kk _ _ ?_)
  · have S1 := S.c18 (r := 1) (by decide)
    exact ⟨S1.1, fun K2 k2 => m_regret hc hgo S1.1.1 (S1.2.2.2.2.1.mx p) (fun _ => S1.2.2.2.2.1.2.1) (hl S1) (fun _ => k2 _ (S1.ref (by decide))) (fun w => absurd w q) (fun w => absurd w q)⟩
  · have S1 := (s1 _ h' va' zv' stp' q0X (fun _ => rfl) W).keep (r := 6) (by decide)
    exact ⟨S1.1, fun K2 k2 => m_regret hc hgo S1.1.1 (S1.2.2.2.2.1.mx p) (fun _ => S1.2.2.2.2.1.2.1) (hl S1) (fun w => absurd q w) (fun _ _ h2 I2 => k2 _ (INV.s39 S1 (by decide) I2)) (fun _ w => absurd w q1)⟩
  · have S1 := (s1 _ h' va' zv' stp' (fun a j q => by simp [pX] at q; simp [pO, pA, pF]; omega) (fun j => by simp [pO, pA, pF]) W).keep (r := 0) (by decide)
    refine ⟨S1.1, fun K2 k2 => m_regret hc hgo S1.1.1 (S1.2.2.2.2.1.mx p) (fun _ => S1.2.2.2.2.1.2.1) (hl S1) (fun w => absurd q w) (fun _ w => absurd q1 w) (fun _ _ h2 h3 I2 f3 sd z5 pa => k2 _ ?_)⟩
    have mv := MV.slv I2 (hG_39 _) (by decide) S1.2.2.2.2.2.g
    rw [upv2] at mv
    have m6 := S1.2.2.2.2.1.2.2.2.2.1
    refine S1.fin (((fm_G _).trans (fm_S I2.1)).trans (fm_R f3)) (sd.msl (by rw [f3.F (by simp [pO, pA, pF])]; exact I2.2.2.2.2.2)) ⟨by rw [z5]; exact m6.1, ?_, fun k a b => by rw [pa k a (by rw [m6.1]; exact b)]; exact m6.2.2 k a b⟩ (mv.fr f3 (by simp [pO, pA, pF]))
    rw [f3.F (by simp [pO, pA, pF]), I2.1.F (by simp [pO, pA, pF]), (hG_fr _).F (by simp [pF])]
    exact m6.2.1
theorem IC.re6 (f : Fr (pF [(1, 17)]) h h') (hL : Lay h) (h8 : np ≤ 8) (c6 : C6 h' L' tr') (I : IC i h B dd M t T np pl L tr du) : IC i h' B dd M t T np pl L' tr' du := by
  obtain ⟨rb, va, zv, va2, zv2, a0, stp, stp2, c1, c2, c3, c4, c5, _, c7, c8⟩ := I
  have w1 := c3.1.vb1
  have w2 := c3.2.1.vb2
  have n := hL.2.2.1
  have c := f.ch
  have hp : ∀ a j, ¬ a = 1 ∨ ¬ j = 17 → pF [(1, 17)] a j = false := fun a j q => by simp [pF]; omega
  refine ⟨rb, va, zv, va2, zv2, a0, stp, stp2, ?_, ?_, ⟨?_, ?_, c3.2.2⟩, ?_, ?_, c6, ?_, ?_⟩
  · exact c1.ch c hL ⟨rfl, rfl, rfl, rfl⟩ ⟨fun a j p q => hp a j (by omega), fun a j p q r => hp a j (by omega), ⟨rfl, rfl⟩, fun j => ⟨hp _ _ (by omega), hp _ _ (by omega)⟩⟩
  · exact c2.ch c hL ⟨fun a j p q r => hp a j (by omega), rfl⟩ c1.2.2.1
  · exact c3.1.ch c hL (Or.inl rfl) rfl (fun j => ⟨hp _ _ (by omega), hp _ _ (by omega)⟩) ⟨rfl, rfl, rfl, rfl, rfl⟩
  · exact c3.2.1.ch c hL (Or.inr rfl) rfl (fun j => ⟨hp _ _ (by omega), hp _ _ (by omega)⟩) ⟨rfl, rfl, rfl, rfl, rfl⟩
  · exact c4.ch c hL ⟨rfl, fun a j p q => hp a j (by omega)⟩ h8
  · exact c5.ch c hL ⟨rfl, fun j => hp _ _ (by omega)⟩
  · exact c7.ch c hL ⟨rfl, rfl, rfl, rfl, rfl⟩ ⟨⟨rfl, rfl⟩, rfl, rfl⟩ (fun q j => ⟨⟨hp _ _ (by omega), hp _ _ (by omega), hp _ _ (by omega), hp _ _ (by omega)⟩, hp _ _ (by omega)⟩) (fun j => hp _ _ (by omega))
  · unfold C8 at c8 ⊢; rw [f.N, f.U]; exact c8
theorem RnL.one {L1 L2 : Nat} (r : RnL B dd M go bm x c L1) (q : RnL B dd M go bm x c L2) : L1 = L2 := by
  have a : ¬ L1 < L2 := fun z => q.2.2 L1 z r.2.1
  have b : ¬ L2 < L1 := fun z => r.2.2 L2 z q.2.1
  omega
theorem o_run (hi : i ≤ 600) (hc : R32 c) (hgo : R32 go) (hx : R32 x) (I : INV i h s n) (kk : ∀ r h1, Mid i 40 241 [.ref 118, .int (iI c), .int (iI go), .int (iI (b2i z)), .int (iI x)] s n r h1 → K r h1) : XW 40 140 0 [.ref 1, .int (iI c), .int (iI go), .int (iI (b2i z)), .int (iI x), .null, .null, .null] [] h (KI K) := by
  obtain ⟨B, dd, M, t, T, np, pl, L, tr, du, v, S⟩ := I
  have S : ST i h s n B dd M t T np pl L tr du v v := S
  have p := S.2.1
  have h8 := p.2.2.2.2.1.1.2
  obtain ⟨rb, va, zv, va2, zv2, stp, stp2, cx, w1, w2, s1, s2, s3⟩ := wed_all hi S
  have sb : ∀ h' va' zv' stp', (z = false → Wed q0 h h' 96 va zv va' zv' B dd M false stp stp') → (z = true → Wed q0 h h' 101 va2 zv2 va' zv' B dd M true stp2 stp') → ST (i + 1) h' s n B dd M t T np pl L tr du v v := fun h' va' zv' stp' a b => by
    cases z with
    | false => exact s1 _ h' va' zv' stp' q0X (fun _ => rfl) (a rfl)
    | true => exact s2 _ h' va' zv' stp' q0X (fun _ => rfl) (b rfl)
  have sr : ∀ h' va' zv' stp', (z = false → Wed (XRn 96) h h' 96 va zv va' zv' B dd M false stp stp') → (z = true → Wed (XRn 101) h h' 101 va2 zv2 va' zv' B dd M true stp2 stp') → (KS h' s n ∧ CV h' v ∧ IM h' B dd M t T np pl L tr du ∧ MV h' v) ∧ IC (i + 1) h' B dd M t T np pl (zF h' 1 17) (zA h' 116) du := fun h' va' zv' stp' a b => by
    cases z with
    | false => exact s3 _ h' va' zv' stp' (fun a j q => by simp [pX] at q; simp [pO, pA, pF]; omega) (Or.inl (a rfl))
    | true => exact s3 _ h' va' zv' stp' (fun a j q => by simp [pX] at q; simp [pO, pA, pF]; omega) (Or.inr (b rfl))
  refine c_run hc hgo hx S.1.1 cx (fun _ => w1) (fun _ => w2) (fun q => kk _ _ ?_) (fun q q1 q2 h' va' zv' stp' W1 W2 => kk _ _ ?_) (fun q q1 q2 h' va' zv' stp' Lr rl W1 W2 tt => kk _ _ ?_)
  · have S1 := S.c18 (r := 1) (by decide)
    refine ⟨S1.1, fun K2 k2 => m_run hc hgo hx S1.1.1 (S1.2.2.2.2.1.mx p) (fun _ => S1.2.2.2.2.1.2.1) (fun _ => k2 _ (S1.ref (by decide))) (fun _ _ h2 f2 l2 => k2 _ ?_) (fun w w1 => absurd ⟨w, w1⟩ q) (fun w w1 => absurd ⟨w, w1⟩ q)⟩
    have f1 : Fr (pF [(118, 39)]) h2 (sI h2 118 39 (iI 1)) := (Fr.refl _ _).sI 118 39 _ (by simp [pF])
    have mv := MV.s39 (r := 1) (by decide) (S1.2.2.2.2.2.g.fr f2 (by simp [pA]))
    rw [upv2] at mv
    exact S1.fin (((fm_G _).trans (fm_L f2)).trans (fm_s _ 39 _ rfl)) (((hG_MSl S1.2.2.2.2.1.2.1).lists f2 l2).fr f1 (fun j => by simp [pF]) (by simp [pF])) (((S1.2.2.2.2.1.2.2.2.2.1.fr (hG_fr _) (by simp [pF])).fr f2 (by simp [pA])).fr f1 (by simp [pF])) mv
  · have S1 := (sb h' va' zv' stp' W1 W2).keep (r := 6) (by decide)
    refine ⟨S1.1, fun K2 k2 => m_run hc hgo hx S1.1.1 (S1.2.2.2.2.1.mx p) (fun _ => S1.2.2.2.2.1.2.1) (fun w => absurd q w) (fun _ w => absurd q1 w) (fun _ _ _ h2 h3 f2 I2 => k2 _ ?_) (fun _ _ w => absurd w q2)⟩
    have f1 : Fr (pF [(118, 39)]) h3 (sI h3 118 39 (iI 6)) := (Fr.refl _ _).sI 118 39 _ (by simp [pF])
    have z39 : zF h2 118 39 = 0 := by rw [f2.F (by simp [pA])]; exact hG_39 _
    have mv := MV.s39 (r := 6) (by decide) (MV.slv I2 z39 (by decide) (S1.2.2.2.2.2.g.fr f2 (by simp [pA])))
    rw [upv2, upv2] at mv
    exact S1.fin ((((fm_G _).trans (fm_L f2)).trans (fm_S I2.1)).trans (fm_s _ 39 _ rfl)) (I2.msl.fr f1 (fun j => by simp [pF]) (by simp [pF])) ((((S1.2.2.2.2.1.2.2.2.2.1.fr (hG_fr _) (by simp [pF])).fr f2 (by simp [pA])).fr I2.1 (by simp [pO, pA, pF])).fr f1 (by simp [pF])) mv
  · obtain ⟨⟨k1, cv, m, mv0⟩, ic⟩ := sr h' va' zv' stp' W1 W2
    have l6 := rl.1
    have f17 : Fr (pF [(1, 17)]) h' (sI h' 1 17 (iI (Lr + 1))) := (Fr.refl _ _).sI 1 17 _ (by simp [pF])
    have e17 : zF (sI h' 1 17 (iI (Lr + 1))) 1 17 = Lr + 1 := gF (by omega) (by rw [sI_here, if_pos rfl])
    have ic2 := ic.re6 f17 k1.1 h8 (L' := Lr + 1) (tr' := fun k => (pos B dd M go z (ful M x) (sta M) c k.toNat).2) ⟨e17, fun k a b => by
      rw [f17.A (by simp [pF])]
      have := tt k.toNat (by omega)
      rw [show ((k.toNat : Nat) : Int) = k by omega] at this; exact this⟩
    have k2' := k1.fr f17 (fun a j q => by simp [pF]; omega)
    have cv2 : CV (sI h' 1 17 (iI (Lr + 1))) v := by
      unfold CV at cv ⊢
      rw [f17.F (by simp [pF]), f17.F (by simp [pF]), f17.F (by simp [pF]), f17.F (by simp [pF]), f17.F (by simp [pF]), f17.F (by simp [pF])]; exact cv
    have m2 := m.cls f17.ch k1.1 (fun a j q r => by simp [pF]; omega)
    have mv2 := mv0.cls f17.ch k1.1 (fun a j q r => by simp [pF]; omega)
    generalize sI h' 1 17 (iI (Lr + 1)) = g at *
    have f18 := s18_fr g 0
    have ic3 := ic2.fr f18 k2'.1 (fun a j q => by simp [pFree] at q; simp [pF]; omega) h8
    have k3 := k2'.fr f18 (fun a j q => by simp [pF]; omega)
    have cv3 : CV (sI g 1 18 (iI 0)) (upv v 3 0) := ⟨(f18.F (by simp [pF])).trans cv2.1, (f18.F (by simp [pF])).trans cv2.2.1, (f18.F (by simp [pF])).trans cv2.2.2.1, s18_v g (by decide), (f18.F (by simp [pF])).trans cv2.2.2.2.2.1, fun q => absurd (show (0 : Int) = 4 from q) (by decide)⟩
    have m3 := m2.cls f18.ch k2'.1 (fun a j q r => by simp [pF]; omega)
    have mv3 := mv2.cls f18.ch k2'.1 (fun a j q r => by simp [pF]; omega)
    generalize sI g 1 18 (iI 0) = g1 at *
    refine ⟨k3, fun K2 k2 => m_run hc hgo hx k3.1 (m3.mx p) (fun _ => m3.2.1) (fun w => absurd q w) (fun _ w => absurd q1 w) (fun _ _ w => absurd q2 w) (fun _ _ _ h2 h3 h4 Lm f2 I2 rm f4 sd z5 pa => ?_)⟩
    have eL := rl.one rm
    subst eL
    have z39 : zF h2 118 39 = 0 := by rw [f2.F (by simp [pA])]; exact hG_39 _
    have f73 : Fr (pF [(118, 73)]) h3 (sI h3 118 73 (iI 1)) := (Fr.refl _ _).sI 118 73 _ (by simp [pF])
    have z73 : zF (sI h3 118 73 (iI 1)) 118 73 = 1 := gF (by decide) (by rw [sI_here, if_pos rfl])
    have mv4 := ((MV.slv I2 z39 (by decide) (mv3.g.fr f2 (by simp [pA]))).fr f73 (by simp [pF])).fr f4 (by simp [pO, pA, pF])
    rw [upv2] at mv4
    have F : Fr pFmm g1 h4 := ((((fm_G _).trans (fm_L f2)).trans (fm_S I2.1)).trans (fm_s _ 73 _ rfl)).trans (fm_go f4)
    have hF : ∀ a j, a < 118 ∨ 154 ≤ a → pFmm a j = false := fun a j q => by unfold pFmm; simp; omega
    refine k2 _ ⟨B, dd, M, t, T, np, pl, Lr + 1, fun k => (pos B dd M go z (ful M x) (sta M) c k.toNat).2, du, upv v 3 0, k3.fr F (fun a j q => hF a j (by omega)), ⟨p.1, p.2.1, p.2.2.1, p.2.2.2.1, p.2.2.2.2.1, by omega, p.2.2.2.2.2.2⟩, ic3.fr F k3.1 (fun a j q => hF a j (by simp [pFree] at q; omega)) h8, cv3.fr F (fun a j q => hF a j (by omega)), ?_, mv4⟩
    refine m3.fr F (fun a j q => by unfold pFmm; rw [q]; rfl) (sd.msl (by rw [f4.F (by simp [pO, pA, pF]), f73.F (by simp [pF])]; exact I2.2.2.2.2.2)) ⟨z5, Or.inl (by rw [f4.F (by simp [pO, pA, pF])]; exact z73), fun k a b => ?_⟩
    have := pa k.toNat (by omega)
    rw [show ((k.toNat : Nat) : Int) = k by omega] at this; exact this
end INV7
