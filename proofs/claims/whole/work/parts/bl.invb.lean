/-! between two calls: plans judged -/
def pPf : Nat → Nat → Bool := fun a j => (a == 1 && j == 18) || (a == 94 || (a == 95 || (a == 106 || (a == 91 && ((decide (6 ≤ j) && decide (j ≤ 9)) || j == 12)))))
def upf (v : Nat → Int) (a b c : Int) : Nat → Int := upv (upv (upv (upv v 0 a) 1 b) 2 c) 3 0
section INVB
variable {i n rb va zv va2 zv2 a0 a1 va' zv' wa : Nat} {h h1 h2 h3 h' : XH} {P Q X : Nat → Nat → Bool} {s : Nat → Int32} {B : XB} {dd : Int} {M : XM} {t np L L' t' r x y e stp stp2 stp' to c bd k : Int} {T T' tr tr' du du' : Int → Int} {pl : Int → XL} {v w : Nat → Int} {K : Int32 → XH → Prop}
theorem IC.pf (f : Fr P h h') (hL : Lay h) (hp : ∀ a j, pPf a j = false → P a j = false) (h8 : np ≤ 8) (e12 : zF h' 91 12 = zF h 80 4) (pr : Prep h' B dd M) (I : IC i h B dd M t T np pl L tr du) : IC i h' B dd M t T np pl L tr du := by
  obtain ⟨rb, va, zv, va2, zv2, a0, stp, stp2, c1, c2, c3, c4, c5, c6, c7, c8⟩ := I
  have w1 := c3.1.vb1
  have w2 := c3.2.1.vb2
  have n := hL.2.2.1
  have c := f.ch
  have e4 : zF h' 80 4 = zF h 80 4 := f.F (hp _ _ rfl)
  refine ⟨rb, va, zv, va2, zv2, a0, stp, stp2, ?_, ⟨by rw [e4]; exact c2.1, by omega, fun _ => pr⟩, ⟨?_, ?_, c3.2.2⟩, ?_, ?_, ?_, ?_, ?_⟩
  · exact c1.ch c hL ⟨rfl, rfl, rfl, rfl⟩ ⟨fun a j p q => hp a j (by simp [pPf]; omega), fun a j p q r => hp a j (by simp [pPf]; omega), ⟨hp _ _ rfl, hp _ _ rfl⟩, fun j => ⟨hp _ _ (by simp [pPf]), hp _ _ (by simp [pPf])⟩⟩
  · exact c3.1.ch c hL (Or.inl rfl) rfl (fun j => ⟨hp _ _ (by simp [pPf]), hp _ _ (by simp [pPf]; omega)⟩) ⟨hp _ _ rfl, hp _ _ rfl, hp _ _ rfl, hp _ _ rfl, hp _ _ rfl⟩
  · exact c3.2.1.ch c hL (Or.inr rfl) rfl (fun j => ⟨hp _ _ (by simp [pPf]), hp _ _ (by simp [pPf]; omega)⟩) ⟨hp _ _ rfl, hp _ _ rfl, hp _ _ rfl, hp _ _ rfl, hp _ _ rfl⟩
  · exact c4.ch c hL ⟨hp _ _ rfl, fun a j p q => hp a j (by simp [pPf]; omega)⟩ h8
  · exact c5.ch c hL ⟨hp _ _ rfl, fun j => hp _ _ (by simp [pPf])⟩
  · exact c6.ch c hL ⟨hp _ _ rfl, fun j => hp _ _ (by simp [pPf])⟩
  · exact c7.ch c hL ⟨rfl, rfl, rfl, rfl, rfl⟩ ⟨⟨hp _ _ rfl, hp _ _ rfl⟩, hp _ _ rfl, hp _ _ rfl⟩ (fun q j => ⟨⟨hp _ _ (by simp [pPf]; omega), hp _ _ (by simp [pPf]; omega), hp _ _ (by simp [pPf]; omega), hp _ _ (by simp [pPf]; omega)⟩, hp _ _ (by simp [pPf]; omega)⟩) (fun j => hp _ _ (by simp [pPf]))
  · unfold C8 at c8 ⊢; rw [f.N, f.U]; exact c8
/-- a judging has ended, on the class's side -/
theorem ST.pf (S : ST i h s n B dd M t T np pl L tr du v v) (f0 : Fr P h h') (hp : ∀ a j, pPf a j = false → P a j = false) (e12 : zF h' 91 12 = zF h 80 4) (pr : Prep h' B dd M) (hr : R32 r) : KS (sI h' 1 18 (iI r)) s n ∧ IC (i + 1) (sI h' 1 18 (iI r)) B dd M t T np pl L tr du ∧ IM (sI h' 1 18 (iI r)) B dd M t T np pl L tr du ∧ MV (sI h' 1 18 (iI r)) v ∧ zF (sI h' 1 18 (iI r)) 1 18 = r ∧ zF (sI h' 1 18 (iI r)) 1 19 = v 4 ∧ ∀ j, zF (sI h' 1 18 (iI r)) 106 j = zF h' 106 j := by
  have p := S.2.1
  have h8 := p.2.2.2.2.1.1.2
  have f18 := s18_fr h' r
  have k1 := S.1.fr f0 (fun a j q => hp a j (by simp [pPf]; omega))
  have ic := S.2.2.1.pf f0 S.1.1 hp h8 e12 pr
  have f : Fr pPf h (sI h' 1 18 (iI r)) := (f0.mono hp).trans (f18.mono (fun a j q => by simp [pPf] at q; simp [pF]; omega))
  exact ⟨k1.fr f18 (fun a j q => by simp [pF]; omega), (ic.fr f18 k1.1 (fun a j q => by simp [pFree] at q; simp [pF]; omega) h8).up, S.2.2.2.2.1.cls f.ch S.1.1 (fun a j q r => by simp [pPf]; omega), S.2.2.2.2.2.cls f.ch S.1.1 (fun a j q r => by simp [pPf]; omega), s18_v h' hr, by rw [f.F rfl]; exact S.2.2.2.1.2.2.2.2.1, fun j => f18.F (by simp [pF])⟩
theorem IM.pls (m : IM h B dd M t T np pl L tr du) (p : IP B dd M t T np pl L du) : (zF h 118 34 = 1 → B.ok ∧ M.ok B.g ∧ (0 ≤ dd ∧ dd < B.w) ∧ ∀ i, 0 ≤ i → i < np → MPl h i (pl i) ∧ (pl i).ok M.nd) ∧ zF h 118 40 = np ∧ 0 ≤ np ∧ np ≤ 8 := by
  refine ⟨fun q => ?_, m.2.2.1.1, p.2.2.2.2.1.1⟩
  have o : 0 < M.n := by
    rcases m.1.2.2.1.1.2 with z | z
    · have : 1 * 1 ≤ M.wd * M.hg := Int.mul_le_mul z.2.2.2.1 z.2.2.2.2.2.1 (by decide) (by omega)
      show 0 < M.wd * M.hg
      omega
    · omega
  have a := p.map o
  exact ⟨a.1, a.2.1, a.2.2, fun j x y => ⟨m.2.2.1.2 j x y, p.2.2.2.2.1.2 j x y⟩⟩
theorem o_failing (hk : R32 k) (hc : R32 c) (hto : R32 to) (hbd : R32 bd) (I : INV i h s n) (kk : ∀ r h1, Mid i 40 253 [.ref 118, .int (iI k), .int (iI c), .int (iI to), .int (iI bd), .null, .null, .null] s n r h1 → K r h1) : XW 40 145 0 [.ref 1, .int (iI k), .int (iI c), .int (iI to), .int (iI bd)] [] h (KI K) := by
  obtain ⟨B, dd, M, t, T, np, pl, L, tr, du, v, S⟩ := I
  have S : ST i h s n B dd M t T np pl L tr du v v := S
  obtain ⟨rb, va, zv, va2, zv2, a0, stp, stp2, c1, c2, c3, c4, c5, c6, c7, c8⟩ := id S.2.2.1
  have p := S.2.1
  have cps : CPs h M np pl := ⟨⟨c4.1, p.2.2.2.2.1.1⟩, fun j a b => ⟨c4.2 j a b, p.2.2.2.2.1.2 j a b⟩⟩
  have c34 : ∀ {h1}, IM h1 B dd M t T np pl L tr du → 0 ≤ c ∧ c < M.n → zF h1 118 34 = 1 := fun {h1} m q => (((m.cell p).1 c).2 q).1
  refine c_failing hk hc hto hbd S.1.1 (c1.cx p) (fun _ => c2.2.2) cps (fun q => kk _ _ ?_) (fun q q1 => kk _ _ ?_) (fun q q1 h' f e12 pr jf => kk _ _ ?_)
  · have S1 := S.c18 (r := 1) (by decide)
    have m := S1.2.2.2.2.1
    have ps := m.pls p
    exact ⟨S1.1, fun K2 k2 => m_failing hk hc hto hbd S1.1.1 m.1.1 m.1.2.1 m.1.2.2.1 ps.1 m.1.2.2.2.1 ps.2 (fun _ => k2 _ (S1.ref (by decide))) (fun w => absurd w.2 q) (fun w => absurd w.2 q)⟩
  · have S1 := S.c18 (r := 2) (by decide)
    have m := S1.2.2.2.2.1
    have ps := m.pls p
    exact ⟨S1.1, fun K2 k2 => m_failing hk hc hto hbd S1.1.1 m.1.1 m.1.2.1 m.1.2.2.1 ps.1 m.1.2.2.2.1 ps.2 (fun w => absurd ⟨c34 m q.2.1, q⟩ w) (fun _ _ => k2 _ (S1.ref (by decide))) (fun _ w => absurd w q1)⟩
  · obtain ⟨k1, ic, m, mv, z18, z19, z107⟩ := S.pf (r := 0) f (fun a j q => by simp [pPf] at q; simp [pO, pA, pF]; omega) e12 pr (by decide)
    have ps := m.pls p
    have cv : CV (sI h' 1 18 (iI 0)) (upf v (zF h' 106 2) (zF h' 106 3) (zF h' 106 4)) := ⟨z107 2, z107 3, z107 4, z18, z19, fun q => absurd (show (0 : Int) = 4 from q) (by decide)⟩
    generalize sI h' 1 18 (iI 0) = g at *
    refine ⟨k1, fun K2 k2 => m_failing hk hc hto hbd k1.1 m.1.1 m.1.2.1 m.1.2.2.1 ps.1 m.1.2.2.2.1 ps.2 (fun w => absurd ⟨c34 m q.2.1, q⟩ w) (fun _ w => absurd q1 w) (fun _ _ h2 f2 l2 jm => k2 _ ?_)⟩
    have fm : Fr pFmm g h2 := (fm_G g).trans (f2.mono (fun a j q => by
      by_cases kx : 118 ≤ a ∧ a < 154
      · have := fm_le q kx; simp [pFm] at this; simp [pO, pA, pF]; omega
      · simp [pO, pA, pF]; omega))
    have fl : Fr (pO (pA [141, 142]) (pF [(118, 63), (118, 64), (118, 65), (118, 66), (118, 67)])) (hG g) h2 := f2
    have hF : ∀ a j, a < 118 ∨ 154 ≤ a → pFmm a j = false := fun a j q => by unfold pFmm; simp; omega
    have mg := hG_MSl m.2.1
    have msl : MSl h2 B dd M := by
      refine ⟨by rw [f2.F (by simp [pO, pA, pF])]; exact mg.1, fun go bm q1 q2 q3 => ?_⟩
      rw [f2.F (by simp [pO, pA, pF])] at q1 q2 q3
      have o := mg.2 go bm q1 q2 q3
      refine ⟨⟨l2, o.1.2.1.fr f2 (fun j => by simp [pO, pA, pF]), o.1.2.2.fr f2 (fun j => by simp [pO, pA, pF])⟩, fun s' a b e hb c c0 c1 => ?_⟩
      have := o.2 s' a b e hb c c0 c1
      unfold vr at this ⊢
      rw [f2.L (by simp [pO, pA, pF])]; exact this
    refine inv_mk k1 p ic cv fm hF (m.fr fm (fun a j q => by unfold pFmm; rw [q]; rfl) msl ((m.2.2.2.2.1.fr (hG_fr _) (by simp [pF])).fr f2 (by simp [pO, pA, pF]))) ?_
    refine ⟨?_, ?_, ?_, ?_, ?_, fun q => absurd (show (0 : Int) = 4 from q) (by decide)⟩
    · show (gI h2 118 63).toInt = (gI h' 106 2).toInt
      rw [jm.1, jf.1]
    · show (gI h2 118 64).toInt = (gI h' 106 3).toInt
      rw [jm.2.1, jf.2.1]
    · show (gI h2 118 65).toInt = (gI h' 106 4).toInt
      rw [jm.2.2, jf.2.2]
    · show zF h2 118 39 = 0
      rw [f2.F (by simp [pO, pA, pF])]; exact hG_39 g
    · show zF h2 118 9 = v 4
      rw [f2.F (by simp [pO, pA, pF]), (hG_fr g).F (by simp [pF])]; exact mv.2.2.2.2.1
theorem o_costs (hk : R32 k) (hc : R32 c) (hto : R32 to) (I : INV i h s n) (kk : ∀ r h1, Mid i 40 255 [.ref 118, .int (iI k), .int (iI c), .int (iI to), .null, .null] s n r h1 → K r h1) : XW 40 147 0 [.ref 1, .int (iI k), .int (iI c), .int (iI to), .null] [] h (KI K) := by
  obtain ⟨B, dd, M, t, T, np, pl, L, tr, du, v, S⟩ := I
  have S : ST i h s n B dd M t T np pl L tr du v v := S
  obtain ⟨rb, va, zv, va2, zv2, a0, stp, stp2, c1, c2, c3, c4, c5, c6, c7, c8⟩ := id S.2.2.1
  have p := S.2.1
  have cps : CPs h M np pl := ⟨⟨c4.1, p.2.2.2.2.1.1⟩, fun j a b => ⟨c4.2 j a b, p.2.2.2.2.1.2 j a b⟩⟩
  have c34 : ∀ {h1}, IM h1 B dd M t T np pl L tr du → 0 ≤ c ∧ c < M.n → zF h1 118 34 = 1 := fun {h1} m q => (((m.cell p).1 c).2 q).1
  have gb : (0 ≤ k ∧ k < np) ∧ (0 ≤ c ∧ c < M.n) ∧ 0 ≤ to ∧ to < M.n → -1 ≤ gcN (fun t => (wyT B dd M (pl k) c to t).1) (fun t => (wyT B dd M (pl k) c to t).2.2.2.2) (trm M).toNat ∧ gcN (fun t => (wyT B dd M (pl k) c to t).1) (fun t => (wyT B dd M (pl k) c to t).2.2.2.2) (trm M).toNat ≤ 30000000 := fun q => by
    have a := p.map (by omega)
    exact gcN_in (by decide) (fun t0 ht => (wyT_in (to := to) a.1 a.2.1 a.2.2 (p.2.2.2.2.1.2 k q.1.1 q.1.2) q.2.1 ht).2.2.2) _
  have fin : ∀ {g h2 r}, IM g B dd M t T np pl L tr du → MV g v → Fr PMc (hG g) h2 → MLs h2 M → R32 r ∧ ¬ r = 4 → KS g s n → IC (i + 1) g B dd M t T np pl L tr du → CV g (upv v 3 r) → (r = 0 → INV (i + 1) h2 s n) ∧ INV (i + 1) (sI h2 118 39 (iI r)) s n := fun {g h2 r} m mv f2 l2 hr k1 ic cv => by
    have fm : Fr pFmm g h2 := (fm_G g).trans (f2.mono (fun a j q => by
      by_cases kx : 118 ≤ a ∧ a < 154
      · have := fm_le q kx; simp [pFm] at this; simp [pO, pA, pF]; omega
      · simp [pO, pA, pF]; omega))
    have hF : ∀ a j, a < 118 ∨ 154 ≤ a → pFmm a j = false := fun a j q => by unfold pFmm; simp; omega
    have mg := hG_MSl m.2.1
    have msl : MSl h2 B dd M := by
      refine ⟨by rw [f2.F (by simp [pO, pA, pF])]; exact mg.1, fun go bm q1 q2 q3 => ?_⟩
      rw [f2.F (by simp [pO, pA, pF])] at q1 q2 q3
      have o := mg.2 go bm q1 q2 q3
      refine ⟨⟨l2, o.1.2.1.fr f2 (fun j => by simp [pO, pA, pF]), o.1.2.2.fr f2 (fun j => by simp [pO, pA, pF])⟩, fun s' a b e hb c c0 c1 => ?_⟩
      have := o.2 s' a b e hb c c0 c1
      unfold vr at this ⊢
      rw [f2.L (by simp [pO, pA, pF])]; exact this
    have m6 := (m.2.2.2.2.1.fr (hG_fr _) (by simp [pF])).fr f2 (by simp [pO, pA, pF])
    have mv2 := mv.g.fr f2 (by simp [pO, pA, pF])
    have hle : ∀ a j, pFm a j = false → pFmm a j = false := fun a j q => by unfold pFmm; rw [q]; rfl
    refine ⟨fun e => ?_, ?_⟩
    · subst e
      exact inv_mk k1 p ic cv fm hF (m.fr fm hle msl m6) mv2
    · have f1 : Fr (pF [(118, 39)]) h2 (sI h2 118 39 (iI r)) := (Fr.refl _ _).sI 118 39 _ (by simp [pF])
      have mv3 := MV.s39 hr mv2
      rw [upv2] at mv3
      exact inv_mk k1 p ic cv (fm.trans (fm_s _ 39 _ rfl)) hF (m.fr (fm.trans (fm_s _ 39 _ rfl)) hle (msl.fr f1 (fun j => by simp [pF]) (by simp [pF])) (m6.fr f1 (by simp [pF]))) mv3
  refine c_costs hk hc hto S.1.1 (c1.cx p) (fun _ => c2.2.2) cps (fun q => kk _ _ ?_) (fun q q1 h' f e12 pr => kk _ _ ?_) (fun q q1 h' f e12 pr => kk _ _ ?_) (fun q => by have := gb q; omega)
  · have S1 := S.c18 (r := 1) (by decide)
    have m := S1.2.2.2.2.1
    have ps := m.pls p
    exact ⟨S1.1, fun K2 k2 => m_costs hk hc hto S1.1.1 m.1.1 m.1.2.1 m.1.2.2.1 ps.1 m.1.2.2.2.1 ps.2 (fun _ => k2 _ (S1.ref (by decide))) (fun w => absurd w.2 q)⟩
  · obtain ⟨k1, ic, m, mv, z18, z19, z107⟩ := S.pf (r := 6) f (fun a j q => by simp [pPf] at q; simp [pO, pA, pF]; omega) e12 pr (by decide)
    have ps := m.pls p
    have cv : CV (sI h' 1 18 (iI 6)) (upv v 3 6) := ⟨by rw [z107, f.F (by simp [pO, pA, pF])]; exact S.2.2.2.1.1, by rw [z107, f.F (by simp [pO, pA, pF])]; exact S.2.2.2.1.2.1, by rw [z107, f.F (by simp [pO, pA, pF])]; exact S.2.2.2.1.2.2.1, z18, z19, fun q => absurd (show (6 : Int) = 4 from q) (by decide)⟩
    generalize sI h' 1 18 (iI 6) = g at *
    refine ⟨k1, fun K2 k2 => m_costs hk hc hto k1.1 m.1.1 m.1.2.1 m.1.2.2.1 ps.1 m.1.2.2.2.1 ps.2 (fun w => absurd ⟨c34 m q.2.1, q⟩ w) (fun _ h2 f2 l2 => ⟨fun _ => k2 _ (fin m mv f2 l2 (by decide) k1 ic cv).2, fun w => absurd w (by omega)⟩)⟩
  · obtain ⟨k1, ic, m, mv, z18, z19, z107⟩ := S.pf (r := 0) f (fun a j q => by simp [pPf] at q; simp [pO, pA, pF]; omega) e12 pr (by decide)
    have ps := m.pls p
    have cv : CV (sI h' 1 18 (iI 0)) (upv v 3 0) := ⟨by rw [z107, f.F (by simp [pO, pA, pF])]; exact S.2.2.2.1.1, by rw [z107, f.F (by simp [pO, pA, pF])]; exact S.2.2.2.1.2.1, by rw [z107, f.F (by simp [pO, pA, pF])]; exact S.2.2.2.1.2.2.1, z18, z19, fun q => absurd (show (0 : Int) = 4 from q) (by decide)⟩
    generalize sI h' 1 18 (iI 0) = g at *
    refine ⟨k1, fun K2 k2 => m_costs hk hc hto k1.1 m.1.1 m.1.2.1 m.1.2.2.1 ps.1 m.1.2.2.2.1 ps.2 (fun w => absurd ⟨c34 m q.2.1, q⟩ w) (fun _ h2 f2 l2 => ⟨fun w => absurd w q1, fun _ => k2 _ ((fin m mv f2 l2 (by decide) k1 ic cv).1 rfl)⟩)⟩
end INVB
