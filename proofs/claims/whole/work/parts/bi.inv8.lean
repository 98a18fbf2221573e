/-! between two calls: steps, truths, the tape, the wheels -/
section INV8
variable {i n rb va zv va2 zv2 a0 va' zv' wa : Nat} {h h1 h2 h3 h' : XH} {P Q X : Nat → Nat → Bool} {s : Nat → Int32} {B : XB} {dd : Int} {M : XM} {t np L L' t' r x y e stp stp2 stp' go c way g : Int} {T T' tr tr' du du' : Int → Int} {pl : Int → XL} {v w : Nat → Int} {K : Int32 → XH → Prop} {KL64 : Int64 → XH → Prop} {bm z : Bool}
theorem IP.hz (p : IP B dd M t T np pl L du) : ¬ 0 < M.n → M.n = 0 ∧ M.nd = 0 := fun q => by
  have := p.nomap q; exact ⟨this.1, this.2.2.2.1⟩
theorem ST.lst (S : ST i h1 s n B dd M t T np pl L tr du v v) (f : Fr (pA [141, 142]) (sI h1 118 0 (iI 0)) h2) (l : MLs h2 M) : INV i h2 s n := by
  have f0 : Fr (pF [(118, 0)]) h1 (sI h1 118 0 (iI 0)) := (Fr.refl _ _).sI 118 0 _ (by simp [pF])
  have m := S.2.2.2.2.1
  exact S.fin ((fm_s _ 0 _ rfl).trans (fm_L f)) ((m.2.1.fr f0 (fun j => by simp [pF]) (by simp [pF])).lists f l) ((m.2.2.2.2.1.fr f0 (by simp [pF])).fr f (by simp [pA])) ((S.2.2.2.2.2.fr f0 (by simp [pF])).fr f (by simp [pA]))
theorem o_truths (I : INV i h s n) (kk : ∀ r h1, Mid i 40 236 [.ref 118] s n r h1 → K r h1) : XW 40 138 0 [.ref 1] [] h (KI K) := by
  obtain ⟨B, dd, M, t, T, np, pl, L, tr, du, v, S⟩ := I
  have S : ST i h s n B dd M t T np pl L tr du v v := S
  obtain ⟨rb, c1⟩ := S.c1
  have p := S.2.1
  have m := S.2.2.2.2.1
  refine c_truths S.1.1 (c1.cx p) p.hz (fun q => kk _ _ ⟨S.1, fun K2 k2 => ?_⟩) (fun q => kk _ _ ⟨S.1, fun K2 k2 => ?_⟩)
  · exact m_truths S.1.1 (m.mx p) (fun _ => k2 _ S.up.t0) (fun w => absurd w q)
  · exact m_truths S.1.1 (m.mx p) (fun w => absurd q w) (fun _ h2 f2 l2 => k2 _ (S.up.lst f2 l2))
theorem o_truth (hx : R32 x) (he : R32 e) (I : INV i h s n) (kk : ∀ r h1, Mid i 40 238 [.ref 118, .int (iI x), .int (iI e)] s n r h1 → K r h1) : XW 40 139 0 [.ref 1, .int (iI x), .int (iI e)] [] h (KI K) := by
  obtain ⟨B, dd, M, t, T, np, pl, L, tr, du, v, S⟩ := I
  have S : ST i h s n B dd M t T np pl L tr du v v := S
  obtain ⟨rb, c1⟩ := S.c1
  have p := S.2.1
  have m := S.2.2.2.2.1
  have hz : 0 < M.nd → 0 < M.n := fun q => by
    by_cases w : 0 < M.n
    · exact w
    · have := p.nomap w; omega
  refine c_truth hx he S.1.1 (c1.cx p) p.hz (fun q => kk _ _ ⟨S.1, fun K2 k2 => ?_⟩) (fun q => kk _ _ ⟨S.1, fun K2 k2 => ?_⟩)
  · exact m_truth hx he S.1.1 (m.mx p) (fun _ => k2 _ S.up.t0) (fun _ _ h2 f2 l2 => k2 _ (S.up.lst f2 l2)) (fun w => absurd w q) hz
  · exact m_truth hx he S.1.1 (m.mx p) (fun w => absurd q.2 w) (fun _ w => absurd q.1 w) (fun _ h2 f2 l2 => k2 _ (S.up.lst f2 l2)) hz
theorem o_step (hc : R32 c) (hway : R32 way) (hg : R32 g) (hx : R32 x) (I : INV i h s n) (kk : ∀ r h1, Mid i 40 211 [.ref 118, .int (iI c), .int (iI way), .int (iI g), .int (iI x), .null, .null] s n r h1 → K r h1) : XW 40 134 0 [.ref 1, .int (iI c), .int (iI way), .int (iI g), .int (iI x)] [] h (KI K) := by
  obtain ⟨B, dd, M, t, T, np, pl, L, tr, du, v, S⟩ := I
  have S : ST i h s n B dd M t T np pl L tr du v v := S
  obtain ⟨rb, c1⟩ := S.c1
  have p := S.2.1
  refine c_step hc hway hg hx S.1.1 (c1.cx p) (fun q => kk _ _ ?_) (fun q h' f => kk _ _ ?_)
  · have S1 := S.c18 (r := 1) (by decide)
    exact ⟨S1.1, fun K2 k2 => m_step hc hway hg hx S1.1.1 (S1.2.2.2.2.1.mx p) (fun _ => k2 _ (S1.ref (by decide))) (fun w => absurd w q)⟩
  · have F : Fr pFr1 h (sI h' 1 18 (iI 0)) := (f.mono (fun a j q => by simp [pFr1] at q; simp [pF]; omega)).trans ((s18_fr h' 0).mono (fun a j q => by simp [pFr1] at q; simp [pF]; omega))
    have S1 := S.cls F (fun _ _ q => q) (s18_v h' (r := 0) (by decide)) (by decide)
    exact ⟨S1.1, fun K2 k2 => m_step hc hway hg hx S1.1.1 (S1.2.2.2.2.1.mx p) (fun w => absurd q w) (fun _ => k2 _ S1.ok)⟩
/-! the tape -/
theorem byte_T (x : Int32) : (0 ≤ (x &&& 255).toInt ∧ (x &&& 255).toInt ≤ 255) ∧ x.toInt8.toInt32.toInt = sgn ((x &&& 255).toInt) := by
  have e1 : (x &&& 255).toInt = x.toInt % 256 := by
    have a : (x &&& 255).toInt = (x.toBitVec &&& 255#32).toInt := rfl
    have b : x.toInt = x.toBitVec.toInt := rfl
    have c : (x.toBitVec &&& 255#32).toNat = x.toBitVec.toNat % 256 := by
      rw [BitVec.toNat_and]
      exact Nat.and_two_pow_sub_one_eq_mod x.toBitVec.toNat 8
    have l := x.toBitVec.isLt
    rw [a, b, BitVec.toInt_eq_toNat_cond, BitVec.toInt_eq_toNat_cond, c]
    generalize x.toBitVec.toNat = m at *
    split <;> split <;> omega
  have e2 : x.toInt8.toInt32.toInt = x.toInt.bmod 256 := by
    rw [Int8.toInt_toInt32, Int32.toInt_toInt8]
  rw [e1, e2]
  refine ⟨by omega, ?_⟩
  unfold sgn
  rw [Int.bmod_def]
  split <;> split <;> omega
def pRe : Nat → Nat → Bool := fun a j => pFree a j || (a == 2 || (a == 108 || ((a == 1 && (j == 1 || j == 17)) || (a == 107 && j == 10))))
theorem IC.re (f : Fr P h h') (hL : Lay h) (hp : ∀ a j, pRe a j = false → P a j = false) (h8 : np ≤ 8) (c5 : C5 h' t' T') (c6 : C6 h' L' tr') (c7' : ∀ a0, C7 h a0 B du → CDg h' B a0 → C7 h' a0 B du') (I : IC i h B dd M t T np pl L tr du) : IC i h' B dd M t' T' np pl L' tr' du' := by
  obtain ⟨rb, va, zv, va2, zv2, a0, stp, stp2, c1, c2, c3, c4, _, _, c7, c8⟩ := I
  have w1 := c3.1.vb1
  have w2 := c3.2.1.vb2
  have n := hL.2.2.1
  have c := f.ch
  refine ⟨rb, va, zv, va2, zv2, a0, stp, stp2, ?_, ?_, ⟨?_, ?_, c3.2.2⟩, ?_, c5, c6, c7' a0 c7 ?_, ?_⟩
  · exact c1.ch c hL ⟨rfl, rfl, rfl, rfl⟩ ⟨fun a j p q => hp a j (by simp [pRe, pFree]; omega), fun a j p q r => hp a j (by simp [pRe, pFree]; omega), ⟨hp _ _ rfl, hp _ _ rfl⟩, fun j => ⟨hp _ _ (by simp [pRe, pFree]), hp _ _ (by simp [pRe, pFree])⟩⟩
  · exact c2.ch c hL ⟨fun a j p q r => hp a j (by simp [pRe, pFree]; omega), hp _ _ rfl⟩ c1.2.2.1
  · exact c3.1.ch c hL (Or.inl rfl) rfl (fun j => ⟨hp _ _ (by simp [pRe, pFree]), hp _ _ (by simp [pRe, pFree]; omega)⟩) ⟨hp _ _ rfl, hp _ _ rfl, hp _ _ rfl, hp _ _ rfl, hp _ _ rfl⟩
  · exact c3.2.1.ch c hL (Or.inr rfl) rfl (fun j => ⟨hp _ _ (by simp [pRe, pFree]), hp _ _ (by simp [pRe, pFree]; omega)⟩) ⟨hp _ _ rfl, hp _ _ rfl, hp _ _ rfl, hp _ _ rfl, hp _ _ rfl⟩
  · exact c4.ch c hL ⟨hp _ _ rfl, fun a j p q => hp a j (by simp [pRe, pFree]; omega)⟩ h8
  · exact c7.1.keep c hL ⟨rfl, rfl, rfl, rfl, rfl⟩ ⟨hp _ _ rfl, hp _ _ rfl⟩ (fun q j => ⟨hp _ _ (by simp [pRe, pFree]; omega), hp _ _ (by simp [pRe, pFree]; omega), hp _ _ (by simp [pRe, pFree]; omega), hp _ _ (by simp [pRe, pFree]; omega)⟩)
  · unfold C8 at c8 ⊢; rw [f.N, f.U]; exact c8
theorem o_feed {a b e f : Int32} {cc : Int32} (I : INV i h s n) (kk : ∀ r h1, Mid i 40 168 [.ref 118, .int a, .int b, .int cc, .int e, .int f, .null, .null] s n r h1 → K r h1) : XW 40 116 0 [.ref 1, .int a, .int b, .int cc, .int e, .int f] [] h (KI K) := by
  obtain ⟨B, dd, M, t, T, np, pl, L, tr, du, v, S⟩ := I
  have S : ST i h s n B dd M t T np pl L tr du v v := S
  obtain ⟨rb, va, zv, va2, zv2, a0, stp, stp2, c1, c2, c3, c4, c5, c6, c7, c8⟩ := id S.2.2.1
  have p := S.2.1
  have h8 := p.2.2.2.2.1.1.2
  have tb := p.2.2.2.1.1
  have m := S.2.2.2.2.1
  obtain ⟨tn, rfl⟩ : ∃ tn : Nat, t = tn := ⟨t.toNat, by omega⟩
  refine c_feed S.1.1 c5.1 (by omega) (fun q => kk _ _ ⟨S.1, fun K2 k2 => ?_⟩) (fun q h' f1 g1 by1 => kk _ _ ?_)
  · exact m_feed S.1.1 m.2.2.2.1.1 (by omega) (fun _ => k2 _ S.up.t0) (fun w => absurd w (by omega))
  · have k1 := S.1.fr f1 (fun a j q => by simp [pO, pA, pF]; omega)
    have m1 := m.cls f1.ch S.1.1 (fun a j q r => by simp [pO, pA, pF]; omega)
    have mv1 := S.2.2.2.2.2.cls f1.ch S.1.1 (fun a j q r => by simp [pO, pA, pF]; omega)
    have hT : ∀ k : Int, 0 ≤ k → k < (tn + 20 : Nat) → 0 ≤ (if (tn : Int) ≤ k then (fb a b cc e f (k - tn) &&& 255).toInt else T k) ∧ (if (tn : Int) ≤ k then (fb a b cc e f (k - tn) &&& 255).toInt else T k) ≤ 255 := fun k k0 k1 => by
      by_cases w : (tn : Int) ≤ k
      · rw [if_pos w]; exact (byte_T _).1
      · rw [if_neg w]; exact p.2.2.2.1.2 k k0 (by omega)
    have c5' : C5 h' (tn + 20 : Nat) (fun k => if (tn : Int) ≤ k then (fb a b cc e f (k - tn) &&& 255).toInt else T k) := ⟨g1, fun k k0 k1 => by
      have ey := by1 k.toNat
      show (gI h' 2 k.toNat).toInt = sgn (if (tn : Int) ≤ k then (fb a b cc e f (k - tn) &&& 255).toInt else T k)
      by_cases w : (tn : Int) ≤ k
      · rw [if_pos w, ey, if_pos (by omega), show ((k.toNat : Nat) : Int) = k by omega]; exact (byte_T _).2
      · rw [if_neg w, ey, if_neg (by omega)]; exact c5.2 k k0 (by omega)⟩
    have c6' := c6.ch f1.ch S.1.1 ⟨by simp [pO, pA, pF], fun j => by simp [pO, pA, pF]⟩
    have ic : IC i h' B dd M (tn + 20 : Nat) (fun k => if (tn : Int) ≤ k then (fb a b cc e f (k - tn) &&& 255).toInt else T k) np pl L tr du := S.2.2.1.re f1 S.1.1 (fun a j q => by simp [pRe] at q; simp [pO, pA, pF]; omega) h8 c5' c6' (fun a0 x _ => x.ch f1.ch S.1.1 ⟨rfl, rfl, rfl, rfl, rfl⟩ ⟨⟨by simp [pO, pA, pF], by simp [pO, pA, pF]⟩, by simp [pO, pA, pF], by simp [pO, pA, pF]⟩ (fun q j => ⟨⟨by simp [pO, pA, pF] <;> omega, by simp [pO, pA, pF] <;> omega, by simp [pO, pA, pF] <;> omega, by simp [pO, pA, pF] <;> omega⟩, by simp [pO, pA, pF] <;> omega⟩) (fun j => by simp [pO, pA, pF]))
    have cv : CV h' v := by
      have cv := S.2.2.2.1
      unfold CV at cv ⊢
      rw [f1.F (by simp [pO, pA, pF]), f1.F (by simp [pO, pA, pF]), f1.F (by simp [pO, pA, pF]), f1.F (by simp [pO, pA, pF]), f1.F (by simp [pO, pA, pF]), f1.F (by simp [pO, pA, pF])]; exact cv
    refine ⟨k1, fun K2 k2 => m_feed k1.1 m1.2.2.2.1.1 (by omega) (fun w => absurd w (by omega)) (fun _ h2 f2 g2 by2 => k2 _ ?_)⟩
    have hF : ∀ a j, a < 118 ∨ 154 ≤ a → pO (pA [119]) (pF [(118, 0), (118, 2)]) a j = false := fun a j q => by simp [pO, pA, pF]; omega
    refine ⟨B, dd, M, (tn + 20 : Nat), (fun k => if (tn : Int) ≤ k then (fb a b cc e f (k - tn) &&& 255).toInt else T k), np, pl, L, tr, du, v, k1.fr f2 (fun a j q => hF a j (by omega)), ⟨p.1, p.2.1, p.2.2.1, ⟨by omega, hT⟩, p.2.2.2.2⟩, (ic.fr f2 k1.1 (fun a j q => hF a j (by simp [pFree] at q; omega)) h8).up, cv.fr f2 (fun a j q => hF a j (by omega)), ?_, mv1.fr f2 (by simp [pO, pA, pF])⟩
    obtain ⟨⟨q1, q2, q3, q4, q5⟩, qS, ⟨p1, p2⟩, ⟨t1, t2⟩, q6, ⟨g3, g4, g5⟩⟩ := m1
    have F : ∀ j, ¬ j = 0 → ¬ j = 2 → zF h2 118 j = zF h' 118 j := fun j a b => f2.F (by simp [pO, pA, pF]; omega)
    refine ⟨⟨?_, q2.fr f2 (fun a j q => by simp [fpMB] at q; simp [pO, pA, pF]; omega), q3.fr f2 (fun a j p q => by simp [pO, pA, pF]; omega) (fun j p q => by simp [pO, pA, pF]; omega), by rw [(f2.2 118 38 (by simp [pO, pA, pF])).1]; exact q4, by rw [F 12 (by omega) (by omega)]; exact q5⟩, qS.fr f2 (fun j => by simp [pO, pA, pF]) (by simp [pO, pA, pF]), ⟨by rw [F 40 (by omega) (by omega)]; exact p1, fun k a b => (p2 k a b).fr f2 (fun j => by simp [pO, pA, pF])⟩, ⟨g2, fun k k0 k1 => ?_⟩, q6.fr f2 (by simp [pO, pA, pF]), by rw [F 69 (by omega) (by omega)]; exact g3, fun q x a b => ?_, fun k a b => by rw [f2.A (by simp [pO, pA, pF])]; exact g5 k a b⟩
    · unfold MB at q1 ⊢; rw [F 12 (by omega) (by omega), F 34 (by omega) (by omega), F 22 (by omega) (by omega), F 35 (by omega) (by omega), F 36 (by omega) (by omega), F 37 (by omega) (by omega)]; exact q1
    · have ey := by2 k.toNat
      show (gI h2 119 k.toNat).toInt = (if (tn : Int) ≤ k then (fb a b cc e f (k - tn) &&& 255).toInt else T k)
      by_cases w : (tn : Int) ≤ k
      · rw [if_pos w, ey, if_pos (by omega), show ((k.toNat : Nat) : Int) = k by omega]
      · rw [if_neg w, ey, if_neg (by omega)]; exact t2 k k0 (by omega)
    · rw [F 69 (by omega) (by omega)] at q; rw [f2.A (by simp [pO, pA, pF])]; exact g4 q x a b
end INV8
