/-! the Model's book -/
section MB6
variable {d : Nat} {h : XH} {K : Int32 → XH → Prop} {KU : XH → Prop} {B : XB}
def pBf : Nat → Nat → Bool := fun a j => (a == 118 && (decide (j ≤ 10) || (j == 13 || (j == 39 || (decide (22 ≤ j) && decide (j ≤ 29)))))) || (decide (120 ≤ a) && decide (a ≤ 132))
def pBs : Nat → Nat → Bool := fun a j => (a == 118 && (decide (j ≤ 13) || ((decide (22 ≤ j) && decide (j ≤ 29)) || (j == 34 || ((decide (37 ≤ j) && decide (j ≤ 40)) || (j == 51 || j == 69)))))) || ((decide (120 ≤ a) && decide (a ≤ 132)) || a == 139)
theorem MBk.back {g g' h3 : XH} (hQ : MBk h B) (hb : B.ok ∨ B.none) (A : KpA h g) (R : KpB g' h3) (same : ∀ x, zA g' 132 x = zA g 132 x) : MBk h3 B := by
  have row : ∀ (r : Nat) (i x : Int), kpr x = r ∧ kpi x = i → 0 ≤ x → x < 306 → zA h3 r i = zA h r i := fun r i x e x0 x1 => by
    have a := A.1 x x0 x1
    have b := R.1 x x0 x1
    rw [e.1, e.2] at a b
    rw [b, same, a]
  refine ⟨⟨by rw [R.2.1, same, A.2.1]; exact hQ.1.1, by rw [R.2.2.1, same, A.2.2.1]; exact hQ.1.2.1, by rw [R.2.2.2.1, same, A.2.2.2.1]; exact hQ.1.2.2.1, by rw [R.2.2.2.2.1, same, A.2.2.2.2.1]; exact hQ.1.2.2.2.1, by rw [R.2.2.2.2.2.1, same, A.2.2.2.2.2.1]; exact hQ.1.2.2.2.2.1, by rw [R.2.2.2.2.2.2.1, same, A.2.2.2.2.2.2.1]; exact hQ.1.2.2.2.2.2.1, by rw [R.2.2.2.2.2.2.2, same, A.2.2.2.2.2.2.2]; exact hQ.1.2.2.2.2.2.2⟩, ?_⟩
  rcases hb with ho | hn
  · have o := ho.1
    refine ⟨fun i a b => ?_, fun i a b j j0 j1 => ?_, fun i a b j j0 j1 => ?_, fun i a b => ?_⟩
    · have oc := hQ.2.1 i a b
      rw [row 125 i _ (kp_126 (by omega)) (by omega) (by omega), row 126 i _ (kp_127 (by omega)) (by omega) (by omega)]
      exact ⟨MNm.eq (row 122 i _ (kp_123 (by omega)) (by omega) (by omega)) (fun j j0 j1 => row 121 _ _ (kp_122 (by omega)) (by omega) (by omega)) oc.1, oc.2⟩
    · have cv := (ho.2.1 i a b).2.1
      rw [row 127 _ _ (kp_128 (by omega)) (by omega) (by omega), row 127 _ _ (kp_128 (by omega)) (by omega) (by omega)]
      exact hQ.2.2.1 i a b j j0 j1
    · have cv := (ho.2.2.1 i a b).2.1
      rw [row 128 _ _ (kp_129 (by omega)) (by omega) (by omega), row 128 _ _ (kp_129 (by omega)) (by omega) (by omega)]
      exact hQ.2.2.2.1 i a b j j0 j1
    · have oc := hQ.2.2.2.2 i a b
      rw [row 129 i _ (kp_130 (by omega)) (by omega) (by omega), row 130 i _ (kp_131 (by omega)) (by omega) (by omega), row 131 i _ (kp_132 (by omega)) (by omega) (by omega)]
      exact ⟨MNm.eq (row 124 i _ (kp_125 (by omega)) (by omega) (by omega)) (fun j j0 j1 => row 123 _ _ (kp_124 (by omega)) (by omega) (by omega)) oc.1, oc.2⟩
  · have e1 := hn.1
    have e2 := hn.2.1
    exact ⟨fun i a b => by omega, fun i a b => by omega, fun i a b => by omega, fun i a b => by omega⟩
/-- a new book's numbers -/
def bgM (h : XH) : XH := sI (sI (sI (sI (sI (sI (sI (sI h 118 22 (iI 0)) 118 23 (iI 0)) 118 24 (iI 4)) 118 25 (iI 100)) 118 26 (iI 100)) 118 27 (iI 100)) 118 28 (iI 0)) 118 29 (iI 0)
theorem bgM_fr (h : XH) : Fr (pF [(118, 22), (118, 23), (118, 24), (118, 25), (118, 26), (118, 27), (118, 28), (118, 29)]) h (bgM h) := ((((((((Fr.refl _ _).sI 118 22 _ (by simp [pF])).sI 118 23 _ (by simp [pF])).sI 118 24 _ (by simp [pF])).sI 118 25 _ (by simp [pF])).sI 118 26 _ (by simp [pF])).sI 118 27 _ (by simp [pF])).sI 118 28 _ (by simp [pF])).sI 118 29 _ (by simp [pF])
theorem bgM_at (h : XH) (j : Nat) : gI (bgM h) 118 j = if j = 29 then iI 0 else if j = 28 then iI 0 else if j = 27 then iI 100 else if j = 26 then iI 100 else if j = 25 then iI 100 else if j = 24 then iI 4 else if j = 23 then iI 0 else if j = 22 then iI 0 else gI h 118 j := by
  unfold bgM
  rw [sI_here, sI_here, sI_here, sI_here, sI_here, sI_here, sI_here, sI_here]
theorem bgM_MBk {P : Nat → Nat → Bool} {h' : XH} (f : Fr P (bgM h) h') (p : ∀ j, 22 ≤ j → j ≤ 28 → P 118 j = false) : MBk h' bk0 := by
  have z : ∀ (j : Nat) (x : Int), 22 ≤ j → j ≤ 28 → gI (bgM h) 118 j = iI x → R32 x → zF h' 118 j = x := fun j x a b e r => gF r (by rw [(f.2 118 j (p j a b)).1]; exact e)
  refine ⟨⟨z 22 0 (by decide) (by decide) (bgM_at h 22) (by decide), z 23 0 (by decide) (by decide) (bgM_at h 23) (by decide), z 24 4 (by decide) (by decide) (bgM_at h 24) (by decide), z 25 100 (by decide) (by decide) (bgM_at h 25) (by decide), z 26 100 (by decide) (by decide) (bgM_at h 26) (by decide), z 27 100 (by decide) (by decide) (bgM_at h 27) (by decide), z 28 0 (by decide) (by decide) (bgM_at h 28) (by decide)⟩, fun i a b => ?_, fun i a b => ?_, fun i a b => ?_, fun i a b => ?_⟩ <;> exact absurd b (by show ¬ i < 0; omega)
theorem m_book {n t : Int} {T : Int → Int} (hn : R32 n) (hL : Lay h) (hS : StC h) (ht : gI h 118 2 = iI t ∧ 0 ≤ t ∧ t ≤ 500) (hT : ∀ i, 0 ≤ i → i < t → zA h 119 i = T i ∧ 0 ≤ T i ∧ T i ≤ 255) (hQ : MBk h B) (hb : B.ok ∨ B.none)
    (k1 : ¬ (0 ≤ n ∧ n ≤ t) → K (iI (-1)) (sI (hG h) 118 39 (iI 2)))
    (kf : 0 ≤ n ∧ n ≤ t → ∀ e, gLines (T, n) 501 (bk0, false) 0 = .inl e → ∀ h', Fr pBf h h' → MBk h' B → zF h' 118 9 = e.1 → zF h' 118 10 = e.2 → zF h' 118 39 = 4 → zF h' 118 2 = 0 → K (iI (-1)) h')
    (kt : 0 ≤ n ∧ n ≤ t → ∀ B', gLines (T, n) 501 (bk0, false) 0 = .inr B' → ∀ h', Fr pBs h h' → MBk h' B' → (zF h' 118 12 = 1 ∧ zF h' 118 69 = 0 ∧ zF h' 118 34 = 0 ∧ zF h' 118 40 = 0 ∧ zF h' 118 37 = 0 ∧ zF h' 118 38 = 0 ∧ zF h' 118 51 = 0) → (zF h' 118 9 = 0 ∧ zF h' 118 39 = 0 ∧ zF h' 118 2 = 0) → (∀ k : Int, 0 ≤ k → k < 6 → zA h' 139 k = 0) → K (iI B'.g) h') :
    XW (d + 8) 183 0 [.ref 118, .int (iI n), .null] [] h (KI K) := by
  have v7 : gI (hG h) 118 2 = iI t := by rw [((hG_fr h).2 118 2 (by simp [pF])).1]; exact ht.1
  have go : 0 ≤ n ∧ n ≤ t → XW (d + 8) 183 22 [.ref 118, .int (iI n), .null] [] (hG h) (KI K) := by
    intro cn
    have kt := kt cn
    have kf := kf cn
    have ok : XT.ok (T, n) := ⟨⟨cn.1, by show n ≤ 500; omega⟩, fun k k0 k1 => (hT k k0 (by have : k < n := k1; omega)).2⟩
    obtain ⟨τ, hτ⟩ : ∃ τ : XT, τ = (T, n) := ⟨_, rfl⟩
    rw [← hτ] at kt kf ok
    have t1 : τ.1 = T := by rw [hτ]
    have t2 : τ.2 = n := by rw [hτ]
    have F0 : Fr (pF [(118, 0), (118, 39), (118, 2), (118, 9)]) h (sI (sI (hG h) 118 2 (iI 0)) 118 9 (iI 0)) := (((hG_fr h).mono (fun a j q => by simp [pF] at q ⊢; omega)).sI 118 2 _ (by simp [pF])).sI 118 9 _ (by simp [pF])
    have z2 : zF (sI (sI (hG h) 118 2 (iI 0)) 118 9 (iI 0)) 118 2 = 0 := by rw [zF_o (by decide), zF_s (by decide)]
    have z9 : zF (sI (sI (hG h) 118 2 (iI 0)) 118 9 (iI 0)) 118 9 = 0 := zF_s (by decide)
    have z39 : zF (sI (sI (hG h) 118 2 (iI 0)) 118 9 (iI 0)) 118 39 = 0 := by rw [zF_o (by decide), zF_o (by decide), zF_s (by decide)]
    have start : ∀ h0, Fr (pF [(118, 0), (118, 39), (118, 2), (118, 9)]) h h0 → zF h0 118 2 = 0 → zF h0 118 9 = 0 → zF h0 118 39 = 0 → XW (d + 8) 183 32 [.ref 118, .int (iI n), .null] [] h0 (KI K) := by
      intro h0 f0 z2 z9 z39
      have L0 := f0.lay hL
      have Q0 : MBk h0 B := hQ.fr f0 (fun a j q => by simp [fpMB] at q; simp [pF]; omega)
      refine w_aload0 r_183_32 ?_
      refine w_iconst (v := iI 0) r_183_33 rfl ?_
      refine k_181 r_183_34 (Lk_118 L0) (Nat.le_of_ble_eq_true rfl) ?_
      refine m_store0 (d := d + 6) L0 (fun h1 f1 A1 => ?_)
      have L1 := f1.lay L0
      have fb := bgM_fr h1
      have Lb := fb.lay L1
      have hb120 : ∀ i, 0 ≤ i → i < n → zA (bgM h1) 119 i = τ.1 i := fun i a b => by
        rw [fb.A (by simp [pF]), f1.A (by simp [pA]), f0.A (by simp [pF]), t1]; exact (hT i a (by omega)).1
      -- from the first token on
      have main : ∀ h3, Fr (pO PTm (pF [(118, 3), (118, 13)])) (bgM h1) h3 → TY h3 τ → TM h3 τ 0 → gI h3 118 13 = iI 0 → XW (d + 8) 183 85 [.ref 118, .int (iI n), .null] [] h3 (KI K) := by
        intro h3 f3 Y3 T3 e13
        have L3 := f3.lay Lb
        have S3 : StC h3 := hS.fr (((f0.mono (Q := fun a _ => decide (a < 1000000)) (fun a j q => by simp at q; simp [pF]; omega)).trans (f1.mono (fun a j q => by simp at q; simp [pA]; omega))).trans ((fb.mono (fun a j q => by simp at q; simp [pF]; omega)).trans (f3.mono (fun a j q => by simp at q; simp [pO, pA, pF]; omega)))) (fun a j q => by simp; omega)
        have Q3 : MBk h3 bk0 := bgM_MBk f3 (fun j a b => by simp [pO, pA, pF]; omega)
        have e29 : gI h3 118 29 = iI 0 := by rw [(f3.2 118 29 (by simp [pO, pA, pF])).1]; exact bgM_at h1 29
        have e9 : zF h3 118 9 = 0 := by rw [f3.F (by simp [pO, pA, pF]), fb.F (by simp [pF]), f1.F (by simp [pA])]; exact z9
        have e2 : ∀ g, Fr pM h3 g → zF g 118 2 = 0 ∧ zF g 118 39 = 0 ∧ (∀ x, zA g 132 x = zA h1 132 x) := fun g f => ⟨by rw [f.F (by simp [pM]), f3.F (by simp [pO, pA, pF]), fb.F (by simp [pF]), f1.F (by simp [pA])]; exact z2, by rw [f.F (by simp [pM]), f3.F (by simp [pO, pA, pF]), fb.F (by simp [pF]), f1.F (by simp [pA])]; exact z39, fun x => by rw [f.A (by simp [pM]), f3.A (by simp [pO, pA, pF]), fb.A (by simp [pF])]⟩
        have Fall : ∀ g, Fr pM h3 g → Fr pBf h g := fun g f => ((f0.mono (fun a j q => by simp [pBf] at q; simp [pF]; omega)).trans (f1.mono (fun a j q => by simp [pBf] at q; simp [pA]; omega))).trans ((fb.mono (fun a j q => by
          simp [pBf] at q
          by_cases c : a = 118
          · have := q.1 c; simp [pF]; omega
          · simp [pF, c])).trans ((f3.mono (fun a j q => by simp [pBf] at q; simp [pO, pA, pF]; omega)).trans (f.mono (fun a j q => by simp [pBf] at q; simp [pM]; omega))))
        -- a fault
        have dead : ∀ g e, Fr pM h3 g → MF g e → gLines τ 501 (bk0, false) 0 = .inl e → ∀ X2 : Value, XW (d + 8) 183 140 [.ref 118, .int (iI n), X2] [] g (KI K) := by
          intro g e f m ge X2
          have hL := f.lay L3
          have ee := e2 g f
          have R : ∀ g5, Fr pR g g5 → KpB g g5 → K (iI (-1)) (sI g5 118 39 (iI 4)) := fun g5 f5 b5 => kf e ge _ (((Fall g f).trans (f5.mono (fun a j q => by simp [pBf] at q; simp [pR]; omega))).sI 118 39 _ (by simp [pBf])) (by
            have M5 : MBk g5 B := Q0.back hb A1 b5 ee.2.2
            exact M5.fr ((Fr.refl (pF [(118, 39)]) g5).sI 118 39 _ (by simp [pF])) (fun a j q => by simp [fpMB] at q; simp [pF]; omega)) (by rw [zF_o (by decide), f5.F (by simp [pR])]; exact m.2.1) (by rw [zF_o (by decide), f5.F (by simp [pR])]; exact m.2.2) (zF_s (by decide)) (by rw [zF_o (by decide), f5.F (by simp [pR])]; exact ee.1)
          refine w_aload0 r_183_140 ?_
          refine v_getI r_183_141 (Lk_118 hL) m.1 ?_
          refine v_if_eq r_183_144 (by first | exact zF_in _ _ _ | exact zA_in _ _ _ | omega) (fun q => absurd q (by omega)) (fun _ => ?_)
          refine w_aload0 r_183_147 ?_
          refine w_iconst (v := iI (1)) r_183_148 rfl ?_
          refine k_181 r_183_149 (Lk_118 hL) (Nat.le_of_ble_eq_true rfl) ?_
          refine m_store1 (d := d + 6) hL (fun g5 f5 b5 => ?_)
          have hL := f5.lay hL
          refine w_aload0 r_183_152 ?_
          refine w_iconst (v := iI (4)) r_183_153 rfl ?_
          refine k_165 r_183_154 (Lk_118 hL) (Nat.le_of_ble_eq_true rfl) ?_
          refine m_no hL ?_
          refine w_iret r_183_157 ?_
          exact R g5 f5 b5
        have dead89 : ∀ g e, Fr pM h3 g → MF g e → gLines τ 501 (bk0, false) 0 = .inl e → ∀ X2 : Value, XW (d + 8) 183 89 [.ref 118, .int (iI n), X2] [] g (KI K) := by
          intro g e f m ge X2
          have hL := f.lay L3
          have D := dead g e f m ge X2
          refine w_aload0 r_183_89 ?_
          refine v_getI r_183_90 (Lk_118 hL) m.1 ?_
          refine v_if_ne r_183_93 (by first | exact zF_in _ _ _ | exact zA_in _ _ _ | omega) (fun _ => ?_) (fun q => absurd q (by omega))
          refine w_aload0 r_183_116 ?_
          refine v_getI r_183_117 (Lk_118 hL) m.1 ?_
          refine v_if_ne r_183_120 (by first | exact zF_in _ _ _ | exact zA_in _ _ _ | omega) (fun _ => ?_) (fun q => absurd q (by omega))
          exact D
        -- a book
        have good : ∀ g B', Fr pM h3 g → MBk g B' → gI g 118 13 = iI 0 → zF g 118 9 = 0 → gLines τ 501 (bk0, false) 0 = .inr B' → ∀ X2 : Value, XW (d + 8) 183 140 [.ref 118, .int (iI n), X2] [] g (KI K) := by
          intro g B' f Qg g13 g9 ge X2
          have ee := e2 g f
          have fin : ∀ (j : Nat), j ≤ 6 → ∀ g1, Fr (pO (pA [139]) (pF [(118, 12), (118, 69), (118, 34), (118, 40), (118, 37), (118, 38), (118, 51)])) g g1 → (zF g1 118 12 = 1 ∧ zF g1 118 69 = 0 ∧ zF g1 118 34 = 0 ∧ zF g1 118 40 = 0 ∧ zF g1 118 37 = 0 ∧ zF g1 118 38 = 0 ∧ zF g1 118 51 = 0) → (∀ k : Int, 0 ≤ k → k < j → zA g1 139 k = 0) → XW (d + 8) 183 195 [.ref 118, .int (iI n), .int (iI j)] [] g1 (KI K) := by
            refine upto _ ?_ ?_
            · intro g1 f1 e1 d1
              have hL := f1.lay (f.lay L3)
              have Q1 : MBk g1 B' := Qg.fr f1 (fun a j q => by simp [fpMB] at q; simp [pO, pA, pF]; omega)
              have no : ∀ j, j ≤ 11 ∨ j = 39 → pO (pA [139]) (pF [(118, 12), (118, 69), (118, 34), (118, 40), (118, 37), (118, 38), (118, 51)]) 118 j = false := fun j hj => by simp [pO, pA, pF]; omega
              have FF : Fr pBs h g1 := ((Fall g f).mono (fun a j q => by simp [pBs] at q; simp [pBf]; omega)).trans (f1.mono (fun a j q => by
                simp [pBs] at q
                by_cases c : a = 118
                · have := q.1 c; simp [pO, pA, pF]; omega
                · simp [pO, pA, pF, c]; omega))
              have R := kt B' ge g1 FF Q1 e1 ⟨by rw [f1.F (no 9 (by decide))]; exact g9, by rw [f1.F (no 39 (by decide))]; exact ee.2.1, by rw [f1.F (no 2 (by decide))]; exact ee.1⟩ (fun k a b => d1 k a (by omega))
              refine w_iload2 r_183_195 ?_
              refine w_bipush (v := iI (6)) r_183_196 rfl ?_
              refine v_ic_ge r_183_198 (by first | exact zF_in _ _ _ | exact zA_in _ _ _ | omega) (by first | exact zF_in _ _ _ | exact zA_in _ _ _ | omega) (fun _ => ?_) (fun q => absurd q (by omega))
              refine w_aload0 r_183_214 ?_
              refine v_getI r_183_215 (Lk_118 hL) (e22 Q1) ?_
              refine w_iret r_183_218 ?_
              exact R
            · intro j hj ih g1 f1 e1 d1
              have hL := f1.lay (f.lay L3)
              have J := ih (sI g1 139 (j : Int).toNat (iI 0)) (f1.sI 139 _ _ (by simp [pO, pA])) ⟨by rw [zF_o (by omega)]; exact e1.1, by rw [zF_o (by omega)]; exact e1.2.1, by rw [zF_o (by omega)]; exact e1.2.2.1, by rw [zF_o (by omega)]; exact e1.2.2.2.1, by rw [zF_o (by omega)]; exact e1.2.2.2.2.1, by rw [zF_o (by omega)]; exact e1.2.2.2.2.2.1, by rw [zF_o (by omega)]; exact e1.2.2.2.2.2.2⟩ (fun k a b => by
                rw [zA_s (by omega) a (by decide)]
                by_cases q : k = (j : Int)
                · rw [if_pos q]
                · rw [if_neg q]; exact d1 k a (by omega))
              refine w_iload2 r_183_195 ?_
              refine w_bipush (v := iI (6)) r_183_196 rfl ?_
              refine v_ic_ge r_183_198 (by first | exact zF_in _ _ _ | exact zA_in _ _ _ | omega) (by first | exact zF_in _ _ _ | exact zA_in _ _ _ | omega) (fun q => absurd q (by omega)) (fun _ => ?_)
              refine w_aload0 r_183_201 ?_
              refine w_getA (x := 139) r_183_202 (Lk_118 hL) (Lr_118_47 hL) (by decide) ?_
              refine w_iload2 r_183_205 ?_
              refine w_iconst (v := iI (0)) r_183_206 rfl ?_
              refine v_iast r_183_207 (Lk_139 hL) (Ln_139 hL) (Lz_139 hL) (by decide) (by omega) ?_
              refine w_iinc2 r_183_208 rfl (iI_add _ _) ?_
              refine w_goto r_183_211 ?_
              exact J
          have hL := f.lay L3
          have J := fin 0 (by omega) (sI (sI (sI (sI (sI (sI (sI g 118 12 (iI 1)) 118 69 (iI 0)) 118 34 (iI 0)) 118 40 (iI 0)) 118 37 (iI 0)) 118 38 (iI 0)) 118 51 (iI 0)) ((((((((Fr.refl _ _).sI 118 12 _ (by simp [pO, pF])).sI 118 69 _ (by simp [pO, pF])).sI 118 34 _ (by simp [pO, pF])).sI 118 40 _ (by simp [pO, pF])).sI 118 37 _ (by simp [pO, pF])).sI 118 38 _ (by simp [pO, pF])).sI 118 51 _ (by simp [pO, pF])) ⟨by rw [zF_o (by decide), zF_o (by decide), zF_o (by decide), zF_o (by decide), zF_o (by decide), zF_o (by decide), zF_s (by decide)], by rw [zF_o (by decide), zF_o (by decide), zF_o (by decide), zF_o (by decide), zF_o (by decide), zF_s (by decide)], by rw [zF_o (by decide), zF_o (by decide), zF_o (by decide), zF_o (by decide), zF_s (by decide)], by rw [zF_o (by decide), zF_o (by decide), zF_o (by decide), zF_s (by decide)], by rw [zF_o (by decide), zF_o (by decide), zF_s (by decide)], by rw [zF_o (by decide), zF_s (by decide)], zF_s (by decide)⟩ (fun k a b => by omega)
          refine w_aload0 r_183_140 ?_
          refine v_getI r_183_141 (Lk_118 hL) g13 ?_
          refine v_if_eq r_183_144 (by first | exact zF_in _ _ _ | exact zA_in _ _ _ | omega) (fun _ => ?_) (fun q => absurd q (by omega))
          refine w_aload0 r_183_158 ?_
          refine w_iconst (v := iI (1)) r_183_159 rfl ?_
          refine w_putZ r_183_160 (Lk_118 hL) (Ln_118 hL) (by decide) ?_
          refine w_aload0 r_183_163 ?_
          refine w_iconst (v := iI (0)) r_183_164 rfl ?_
          refine w_putZ r_183_165 (Lk_118 hL) (Ln_118 hL) (by decide) ?_
          refine w_aload0 r_183_168 ?_
          refine w_iconst (v := iI (0)) r_183_169 rfl ?_
          refine w_putZ r_183_170 (Lk_118 hL) (Ln_118 hL) (by decide) ?_
          refine w_aload0 r_183_173 ?_
          refine w_iconst (v := iI (0)) r_183_174 rfl ?_
          refine w_putI r_183_175 (Lk_118 hL) (Ln_118 hL) ?_
          refine w_aload0 r_183_178 ?_
          refine w_iconst (v := iI (0)) r_183_179 rfl ?_
          refine w_putI r_183_180 (Lk_118 hL) (Ln_118 hL) ?_
          refine w_aload0 r_183_183 ?_
          refine w_iconst (v := iI (0)) r_183_184 rfl ?_
          refine w_putI r_183_185 (Lk_118 hL) (Ln_118 hL) ?_
          refine w_aload0 r_183_188 ?_
          refine w_iconst (v := iI (0)) r_183_189 rfl ?_
          refine w_putZ r_183_190 (Lk_118 hL) (Ln_118 hL) (by decide) ?_
          refine w_iconst (v := iI (0)) r_183_193 rfl ?_
          refine w_istore2 r_183_194 rfl ?_
          exact J
        have key : ∀ (m : Nat) (s : XB × Bool) (k : Int) (g : XH), τ.2 - k < m → Fr pM h3 g → TM g τ k → MBk g s.1 → s.1.ok → gI g 118 13 = iI 0 → gI g 118 29 = iI (b2i s.2) → zF g 118 9 = 0 → gLines τ m s k = gLines τ 501 (bk0, false) 0 → ∀ KU : XH → Prop, (∀ g', XW (d + 8) 183 89 [.ref 118, .int (iI n), .null] [] g' (KI K) → KU g') → XW (d + 7) 184 0 [.ref 118] [] g (KV KU) := by
          intro m
          induction m with
          | zero => intro s k g hm _ Tg; have := Tg.1; omega
          | succ m ih =>
            intro s k g hm fg Tg Qg og g13 g29 g9 eq KU hK
            have Lg := fg.lay L3
            have Yg := pM_TY fg Y3
            have Sg := pM_StC fg S3
            have ul : gLines τ (m + 1) s k = bnd (gLine τ s k) (fun r => if τ.k r.2 = 0 then .inr r.1.1 else if τ.k r.2 = 59 then gLines τ m r.1 (τ.e r.2) else .inl (1, τ.a r.2)) := rfl
            rw [ul] at eq
            refine m_line Lg Sg Yg Tg g13 Qg og g29 (fun r gr g1 f1 T1 Q1 n13 n29 n9 => hK g1 ?_) (fun e ge g1 f1 m1 => hK g1 ?_)
            · have F1 := fg.trans f1
              have L1 := F1.lay L3
              have Y1 := pM_TY F1 Y3
              have p1 := TM.pos Y1 T1
              have mk := mK_in p1.2.2
              have ok1 := gLine_ok Yg.1 Tg.1 og gr
              have ee := XT.e_at Y1.1 T1.1.1 T1.1.2
              have ea := XT.a_at Y1.1 T1.1.1 T1.1.2
              rw [bnd_r gr] at eq
              have g91 : zF g1 118 9 = 0 := by rw [n9]; exact g9
              have hL := L1
              by_cases z : τ.k r.2 = 0
              · rw [if_pos z] at eq
                have D := good g1 r.1.1 F1 Q1 n13 g91 eq.symm .null
                refine w_aload0 r_183_89 ?_
                refine v_getI r_183_90 (Lk_118 hL) n13 ?_
                refine v_if_ne r_183_93 (by first | exact zF_in _ _ _ | exact zA_in _ _ _ | omega) (fun q => absurd q (by omega)) (fun _ => ?_)
                refine w_aload0 r_183_96 ?_
                refine v_getI r_183_97 (Lk_118 hL) T1.i.2.2 ?_
                refine w_bipush (v := iI (59)) r_183_100 rfl ?_
                refine v_ic_ne r_183_102 (by first | exact zF_in _ _ _ | exact zA_in _ _ _ | omega) (by first | exact zF_in _ _ _ | exact zA_in _ _ _ | omega) (fun _ => ?_) (fun q => absurd q (by omega))
                refine w_aload0 r_183_116 ?_
                refine v_getI r_183_117 (Lk_118 hL) n13 ?_
                refine v_if_ne r_183_120 (by first | exact zF_in _ _ _ | exact zA_in _ _ _ | omega) (fun q => absurd q (by omega)) (fun _ => ?_)
                refine w_aload0 r_183_123 ?_
                refine v_getI r_183_124 (Lk_118 hL) T1.i.2.2 ?_
                refine v_if_eq r_183_127 (by first | exact zF_in _ _ _ | exact zA_in _ _ _ | omega) (fun _ => ?_) (fun q => absurd q (by omega))
                exact D
              · rw [if_neg z] at eq
                by_cases y : τ.k r.2 = 59
                · rw [if_pos y] at eq
                  have J := fun g2 (f2 : Fr PTm g1 g2) t2 => ih r.1 (τ.e r.2) g2 (by omega) (F1.trans (pM_tm f2)) t2 (tm_MBk f2 Q1) ok1.1 (tm_13 f2 n13) (by rw [(f2.2 118 29 (by simp [pO, pA, pF])).1]; exact n29) (by rw [f2.F (by simp [pO, pA, pF])]; exact g91) eq
                  have N : ∀ g2, Fr PTm g1 g2 → TM g2 τ (τ.e r.2) → XW (d + 8) 183 109 [.ref 118, .int (iI n), .null] [] g2 (KI K) := fun g2 f2 t2 => by
                    have hL := f2.lay hL
                    refine w_aload0 r_183_109 ?_
                    refine k_184 r_183_110 (Lk_118 hL) (Nat.le_of_ble_eq_true rfl) ?_
                    exact J g2 f2 t2 _ (fun g' w => w_goto r_183_113 w)
                  refine w_aload0 r_183_89 ?_
                  refine v_getI r_183_90 (Lk_118 hL) n13 ?_
                  refine v_if_ne r_183_93 (by first | exact zF_in _ _ _ | exact zA_in _ _ _ | omega) (fun q => absurd q (by omega)) (fun _ => ?_)
                  refine w_aload0 r_183_96 ?_
                  refine v_getI r_183_97 (Lk_118 hL) T1.i.2.2 ?_
                  refine w_bipush (v := iI (59)) r_183_100 rfl ?_
                  refine v_ic_ne r_183_102 (by first | exact zF_in _ _ _ | exact zA_in _ _ _ | omega) (by first | exact zF_in _ _ _ | exact zA_in _ _ _ | omega) (fun q => absurd q (by omega)) (fun _ => ?_)
                  refine w_aload0 r_183_105 ?_
                  refine k_172 r_183_106 (Lk_118 hL) (Nat.le_of_ble_eq_true rfl) ?_
                  refine m_next (d := d + 6) hL Y1 (by omega) T1.i.2.1 (fun g2 f2 t2 => ?_)
                  exact N g2 f2 t2
                · rw [if_neg y] at eq
                  have D := dead (wrg g1 1 (τ.a r.2)) (1, τ.a r.2) (F1.trans (pM_wrg g1 1 (τ.a r.2))) (wrg_MF (by omega) (by omega)) eq.symm .null
                  refine w_aload0 r_183_89 ?_
                  refine v_getI r_183_90 (Lk_118 hL) n13 ?_
                  refine v_if_ne r_183_93 (by first | exact zF_in _ _ _ | exact zA_in _ _ _ | omega) (fun q => absurd q (by omega)) (fun _ => ?_)
                  refine w_aload0 r_183_96 ?_
                  refine v_getI r_183_97 (Lk_118 hL) T1.i.2.2 ?_
                  refine w_bipush (v := iI (59)) r_183_100 rfl ?_
                  refine v_ic_ne r_183_102 (by first | exact zF_in _ _ _ | exact zA_in _ _ _ | omega) (by first | exact zF_in _ _ _ | exact zA_in _ _ _ | omega) (fun _ => ?_) (fun q => absurd q (by omega))
                  refine w_aload0 r_183_116 ?_
                  refine v_getI r_183_117 (Lk_118 hL) n13 ?_
                  refine v_if_ne r_183_120 (by first | exact zF_in _ _ _ | exact zA_in _ _ _ | omega) (fun q => absurd q (by omega)) (fun _ => ?_)
                  refine w_aload0 r_183_123 ?_
                  refine v_getI r_183_124 (Lk_118 hL) T1.i.2.2 ?_
                  refine v_if_eq r_183_127 (by first | exact zF_in _ _ _ | exact zA_in _ _ _ | omega) (fun q => absurd q (by omega)) (fun _ => ?_)
                  refine w_aload0 r_183_130 ?_
                  refine w_iconst (v := iI (1)) r_183_131 rfl ?_
                  refine w_aload0 r_183_132 ?_
                  refine v_getI r_183_133 (Lk_118 hL) T1.i.1 ?_
                  refine k_174 r_183_136 (Lk_118 hL) (Nat.le_of_ble_eq_true rfl) ?_
                  refine m_wrong0 hL n13 ?_
                  refine w_popI r_183_139 ?_
                  exact D
            · exact dead89 g1 e (fg.trans f1) m1 (by rw [← eq, bnd_l ge]) .null
        have J := key 501 (bk0, false) 0 h3 (by have := cn; have := ok.1; omega) (Fr.refl _ _) T3 Q3 bk0_ok e13 e29 e9 rfl
        refine w_aload0 r_183_85 ?_
        refine k_184 r_183_86 (Lk_118 L3) (Nat.le_of_ble_eq_true rfl) ?_
        exact J _ (fun g' w => w)
      have hL := L1
      have B1 : XW (d + 8) 183 80 [.ref 118, .int (iI n), .null] [] (bgM h1) (KI K) := by
        refine w_aload0 r_183_80 ?_
        refine w_iload1 r_183_81 ?_
        refine k_173 r_183_82 (Lk_118 Lb) (Nat.le_of_ble_eq_true rfl) ?_
        exact m_begins (d := d + 5) Lb (by omega) ok t2 (fun i a b => hb120 i a b) (fun h3 f3 Y3 T3 e13 => main h3 f3 Y3 T3 e13)
      refine w_aload0 r_183_37 ?_
      refine w_iconst (v := iI (0)) r_183_38 rfl ?_
      refine w_putI r_183_39 (Lk_118 hL) (Ln_118 hL) ?_
      refine w_aload0 r_183_42 ?_
      refine w_iconst (v := iI (0)) r_183_43 rfl ?_
      refine w_putI r_183_44 (Lk_118 hL) (Ln_118 hL) ?_
      refine w_aload0 r_183_47 ?_
      refine w_iconst (v := iI (4)) r_183_48 rfl ?_
      refine w_putI r_183_49 (Lk_118 hL) (Ln_118 hL) ?_
      refine w_aload0 r_183_52 ?_
      refine w_bipush (v := iI (100)) r_183_53 rfl ?_
      refine w_putI r_183_55 (Lk_118 hL) (Ln_118 hL) ?_
      refine w_aload0 r_183_58 ?_
      refine w_bipush (v := iI (100)) r_183_59 rfl ?_
      refine w_putI r_183_61 (Lk_118 hL) (Ln_118 hL) ?_
      refine w_aload0 r_183_64 ?_
      refine w_bipush (v := iI (100)) r_183_65 rfl ?_
      refine w_putI r_183_67 (Lk_118 hL) (Ln_118 hL) ?_
      refine w_aload0 r_183_70 ?_
      refine w_iconst (v := iI (0)) r_183_71 rfl ?_
      refine w_putI r_183_72 (Lk_118 hL) (Ln_118 hL) ?_
      refine w_aload0 r_183_75 ?_
      refine w_iconst (v := iI (0)) r_183_76 rfl ?_
      refine w_putZ r_183_77 (Lk_118 hL) (Ln_118 hL) (by decide) ?_
      exact B1
    have S := start _ F0 z2 z9 z39
    have hL := (hG_fr h).lay hL
    refine w_aload0 r_183_22 ?_
    refine w_iconst (v := iI (0)) r_183_23 rfl ?_
    refine w_putI r_183_24 (Lk_118 hL) (Ln_118 hL) ?_
    refine w_aload0 r_183_27 ?_
    refine w_iconst (v := iI (0)) r_183_28 rfl ?_
    refine w_putI r_183_29 (Lk_118 hL) (Ln_118 hL) ?_
    exact S
  refine w_aload0 r_183_0 ?_
  refine k_164 r_183_1 (Lk_118 hL) (Nat.le_of_ble_eq_true rfl) ?_
  refine m_good hL ?_
  refine w_iload1 r_183_4 ?_
  refine w_iconst (v := iI (0)) r_183_5 rfl ?_
  refine w_aload0 r_183_6 ?_
  refine v_getI r_183_7 (Lk_118 hL) v7 ?_
  refine k_167 r_183_10 (Nat.le_of_ble_eq_true rfl) ?_
  refine m_within (by first | exact zF_in _ _ _ | exact zA_in _ _ _ | omega) (by first | exact zF_in _ _ _ | exact zA_in _ _ _ | omega) (by first | exact zF_in _ _ _ | exact zA_in _ _ _ | omega) (fun c10 => ?_) (fun c10 => ?_)
  · refine v_if_ne r_183_13 (by first | exact zF_in _ _ _ | exact zA_in _ _ _ | omega) (fun _ => ?_) (fun q => absurd q (by omega))
    exact go (by omega)
  · refine v_if_ne r_183_13 (by first | exact zF_in _ _ _ | exact zA_in _ _ _ | omega) (fun q => absurd q (by omega)) (fun _ => ?_)
    refine w_aload0 r_183_16 ?_
    refine w_iconst (v := iI (2)) r_183_17 rfl ?_
    refine k_165 r_183_18 (Lk_118 hL) (Nat.le_of_ble_eq_true rfl) ?_
    refine m_no hL ?_
    refine w_iret r_183_21 ?_
    exact k1 (by omega)
end MB6
