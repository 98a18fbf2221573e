/-! the class's steps: learn, slips, measure -/
theorem fst1_at {f : Int → Bool} {m : Nat} {s0 s : Int} (h0 : s0 ≤ s) (h1 : s < s0 + m) (ht : f s = true) (hf : ∀ i, s0 ≤ i → i < s → f i = false) : fst1 f m s0 = s := by
  rcases fst1_spec (f := f) m s0 with ⟨e, q⟩ | ⟨a, b, c, q⟩
  · have := q s h0 h1
    rw [ht] at this; exact absurd this (by decide)
  · have l1 : ¬ fst1 f m s0 < s := fun l => by
      have := hf _ a l
      rw [c] at this; exact absurd this (by decide)
    have l2 : ¬ s < fst1 f m s0 := fun l => by
      have := q s h0 l
      rw [ht] at this; exact absurd this (by decide)
    omega
theorem fst1_no {f : Int → Bool} {m : Nat} {s0 : Int} (hf : ∀ i, s0 ≤ i → i < s0 + m → f i = false) : fst1 f m s0 = -1 := by
  rcases fst1_spec (f := f) m s0 with ⟨e, q⟩ | ⟨a, b, c, q⟩
  · exact e
  · have := hf _ a b
    rw [c] at this; exact absurd this (by decide)
/-- the least slip that has a pull -/
def slf (B : XB) (g p : Int) : Int := fst1 (fun s => decide (p ≤ B.grip g s)) 91 0
theorem slf_in (B : XB) (g p : Int) : -1 ≤ slf B g p ∧ slf B g p ≤ 90 := by
  have := fst1_in (f := fun s => decide (p ≤ B.grip g s)) 91 0
  unfold slf
  omega
/-- the class's steps have learned a book -/
def CLr (h : XH) (B : XB) (dd : Int) : Prop := zF h 91 2 = dd ∧ zF h 91 3 = B.load ∧ (∀ g, 0 ≤ g → g < B.g → zA h 92 g = B.sink g B.load) ∧ ∀ g, 0 ≤ g → g < B.g → ∀ p, 0 ≤ p → p ≤ 150 → zA h 93 (g * 151 + p) = slf B g p
theorem slp_slf {B : XB} {dd n g : Int} (ho : B.ok) (hd : 0 ≤ dd ∧ dd < B.w) (hg : 0 ≤ g ∧ g < B.g) (hn : 0 ≤ n) : slp B dd n g = if n = 0 then 0 else if hld B dd ≤ 0 then -1 else if 150 < (n + hld B dd - 1) / hld B dd then -1 else slf B g ((n + hld B dd - 1) / hld B dd) := by
  have hh := hld_in ho hd
  unfold slp slf
  generalize hld B dd = H at *
  have gi : ∀ s, 0 ≤ B.grip g s ∧ B.grip g s ≤ 150 := fun s => B.grip_in ho hg (x := s)
  by_cases q0 : n = 0
  · rw [if_pos q0]
    refine fst1_at (Int.le_refl _) (by omega) ?_ (fun i a b => by omega)
    have := Int.mul_nonneg hh.1 (gi 0).1
    simp; omega
  · rw [if_neg q0]
    by_cases q1 : H ≤ 0
    · rw [if_pos q1]
      refine fst1_no (fun i a b => ?_)
      have e : H = 0 := by omega
      rw [e]; simp; omega
    · rw [if_neg q1]
      have iff : ∀ x : Int, n ≤ H * x ↔ (n + H - 1) / H ≤ x := by
        intro x
        have a1 := Int.mul_ediv_add_emod (n + H - 1) H
        have a2 := Int.emod_nonneg (n + H - 1) (b := H) (by omega)
        have a3 := Int.emod_lt_of_pos (n + H - 1) (b := H) (by omega)
        constructor
        · intro q
          apply Classical.byContradiction
          intro z
          have : H * (x + 1) ≤ H * ((n + H - 1) / H) := Int.mul_le_mul_of_nonneg_left (by omega) (by omega)
          rw [Int.mul_add, Int.mul_one] at this
          omega
        · intro q
          have : H * ((n + H - 1) / H) ≤ H * x := Int.mul_le_mul_of_nonneg_left q (by omega)
          omega
      by_cases q2 : 150 < (n + H - 1) / H
      · rw [if_pos q2]
        refine fst1_no (fun i a b => ?_)
        have := iff (B.grip g i)
        have := gi i
        simp only [decide_eq_false_iff_not]
        omega
      · rw [if_neg q2]
        refine fst1_congr 91 0 (fun i a b => ?_)
        have := iff (B.grip g i)
        simp only [decide_eq_decide]
        exact this
section S3
variable {d : Nat} {h : XH} {K : Int32 → XH → Prop} {KU : XH → Prop} {rb ca : Nat} {B : XB} {dd : Int} {M : XM}
theorem CBk.fr {P : Nat → Nat → Bool} {h' : XH} (f : Fr P h h') (hb : rb = 6 ∨ rb = 20) (hp : ∀ a j, 6 ≤ a → a ≤ 33 → P a j = false) (hC : CBk h rb B) : CBk h' rb B := by
  have eA : ∀ k, k ≤ 13 → ∀ i, zA h' (rb + k) i = zA h (rb + k) i := fun k q i => f.A (hp _ _ (by omega) (by omega))
  have eL : ∀ k, k ≤ 13 → ∀ i, zL h' (rb + k) i = zL h (rb + k) i := fun k q i => f.L (hp _ _ (by omega) (by omega))
  have eF : ∀ j, zF h' rb j = zF h rb j := fun j => f.F (hp _ _ (by omega) (by omega))
  unfold CBk at hC ⊢
  simp only [eF, eL 1 (by decide), eL 10 (by decide), eA 3 (by decide), eA 4 (by decide), eA 5 (by decide), eA 7 (by decide), eA 8 (by decide), eA 9 (by decide), eA 11 (by decide), eA 12 (by decide), eA 13 (by decide)]
  exact hC
def ISl (h h1 : XH) (B : XB) (g : Int) (s r : Nat) : Prop := Fr (pA [93]) h h1 ∧ (∀ p : Int, 0 ≤ p → p < r → zA h1 93 (g * 151 + p) = slf B g p) ∧ (∀ i : Int, 0 ≤ i → i < g * 151 ∨ g * 151 + 151 ≤ i → zA h1 93 i = zA h 93 i) ∧ ∀ s' : Int, 0 ≤ s' → s' < s → B.grip g s' < r
theorem ISl.put {h1 : XH} {g v : Int} {s r : Nat} (I : ISl h h1 B g s r) (hg : 0 ≤ g) (hr : r ≤ 150) (hv : slf B g r = v) : ISl h (sI h1 93 (g * 151 + r).toNat (iI v)) B g s (r + 1) := by
  obtain ⟨f, a, b, c⟩ := I
  have hvi := slf_in B g r
  refine ⟨f.sI 93 _ _ (by simp [pA]), fun p p0 p1 => ?_, fun i i0 i1 => ?_, fun s' a' b' => by have := c s' a' b'; omega⟩
  · rw [zA_s (by omega) (by omega) (by omega)]
    by_cases e : p = r
    · rw [if_pos (by omega), e]; exact hv.symm
    · rw [if_neg (by omega)]; exact a p p0 (by omega)
  · rw [zA_s (by omega) (by omega) (by omega), if_neg (by omega)]; exact b i i0 i1
theorem c_listSlips {g : Int} (hL : Lay h) (hb : rb = 6 ∨ rb = 20) (hr : gR h 91 1 = rb) (hC : CBk h rb B) (ho : B.ok) (hg : 0 ≤ g ∧ g < B.g) (kk : ∀ h', Fr (pA [93]) h h' → (∀ p : Int, 0 ≤ p → p ≤ 150 → zA h' 93 (g * 151 + p) = slf B g p) → (∀ i : Int, 0 ≤ i → i < g * 151 ∨ g * 151 + 151 ≤ i → zA h' 93 i = zA h 93 i) → KU h') :
    XW (d + 3) 79 0 [.ref 91, .int (iI g), .null, .null, .null, .null] [] h (KV KU) := by
  have o := ho.1
  have fin : ∀ (k r : Nat) (X : Value) (h1 : XH), r + k = 151 → ISl h h1 B g 91 r → XW (d + 3) 79 67 [.ref 91, .int (iI g), .int (iI (g * 151)), .int (iI r), .int (iI 91), X] [] h1 (KV KU) := by
    intro k
    induction k with
    | zero =>
      intro r X h1 hk I
      have hL := I.1.lay hL
      refine w_iload3 r_79_67 ?_
      refine w_sipush (v := iI (151)) r_79_68 rfl ?_
      refine v_ic_ge r_79_71 (by first | exact zF_in _ _ _ | exact zA_in _ _ _ | omega) (by first | exact zF_in _ _ _ | exact zA_in _ _ _ | omega) (fun _ => ?_) (fun q => absurd q (by omega))
      refine w_vret r_79_89 ?_
      exact kk h1 I.1 (fun p a b => I.2.1 p a (by omega)) I.2.2.1
    | succ k ih =>
      intro r X h1 hk I
      have hL := I.1.lay hL
      have e : slf B g r = -1 := fst1_no (fun i a b => by
        have := I.2.2.2 i a (by omega)
        simp only [decide_eq_false_iff_not]; omega)
      refine w_iload3 r_79_67 ?_
      refine w_sipush (v := iI (151)) r_79_68 rfl ?_
      refine v_ic_ge r_79_71 (by first | exact zF_in _ _ _ | exact zA_in _ _ _ | omega) (by first | exact zF_in _ _ _ | exact zA_in _ _ _ | omega) (fun q => absurd q (by omega)) (fun _ => ?_)
      refine w_aload0 r_79_74 ?_
      refine w_getA (x := 93) r_79_75 (Lk_91 hL) (Lr_91_5 hL) (by decide) ?_
      refine w_iload2 r_79_78 ?_
      refine w_iload3 r_79_79 ?_
      refine v_iadd r_79_80 ?_
      refine w_iconst (v := iI (-1)) r_79_81 rfl ?_
      refine v_iast r_79_82 (Lk_93 hL) (Ln_93 hL) (Lz_93 hL) (by decide) (by omega) ?_
      refine w_iinc3 r_79_83 rfl (iI_add _ _) ?_
      refine w_goto r_79_86 ?_
      have := ih (r + 1) X _ (by omega) (I.put hg.1 (by omega) e)
      exact this
  have inn : ∀ (s : Nat), s ≤ 90 → (∀ (r : Nat) (X : Value) (h1 : XH), r ≤ 151 → ISl h h1 B g (s + 1) r → XW (d + 3) 79 11 [.ref 91, .int (iI g), .int (iI (g * 151)), .int (iI r), .int (iI ((s + 1 : Nat) : Int)), X] [] h1 (KV KU)) → ∀ (k r : Nat) (h1 : XH), r ≤ 151 → (B.grip g s).toNat + 1 ≤ r + k → ISl h h1 B g s r → XW (d + 3) 79 39 [.ref 91, .int (iI g), .int (iI (g * 151)), .int (iI r), .int (iI s), .int (iI (B.grip g s))] [] h1 (KV KU) := by
    intro s hs nxt k
    have gi := B.grip_in ho hg (x := s)
    induction k with
    | zero =>
      intro r h1 hr1 hk I
      have hL := I.1.lay hL
      refine w_iload3 r_79_39 ?_
      refine w_iload5 r_79_40 ?_
      refine v_ic_gt r_79_42 (by first | exact zF_in _ _ _ | exact zA_in _ _ _ | omega) (by first | exact zF_in _ _ _ | exact zA_in _ _ _ | omega) (fun _ => ?_) (fun q => absurd q (by omega))
      refine w_iinc4 r_79_61 rfl (iI_add _ _) ?_
      refine w_goto r_79_64 ?_
      refine nxt r _ h1 hr1 ⟨I.1, I.2.1, I.2.2.1, fun s' a b => ?_⟩
      by_cases e : s' = s
      · rw [e]; omega
      · exact I.2.2.2 s' a (by omega)
    | succ k ih =>
      intro r h1 hr1 hk I
      have hL := I.1.lay hL
      by_cases q : (r : Int) ≤ B.grip g s
      · have e : slf B g r = s := fst1_at (by omega) (by omega) (by simpa using q) (fun i a b => by
          have := I.2.2.2 i a (by omega)
          simp only [decide_eq_false_iff_not]; omega)
        refine w_iload3 r_79_39 ?_
        refine w_iload5 r_79_40 ?_
        refine v_ic_gt r_79_42 (by first | exact zF_in _ _ _ | exact zA_in _ _ _ | omega) (by first | exact zF_in _ _ _ | exact zA_in _ _ _ | omega) (fun q => absurd q (by omega)) (fun _ => ?_)
        refine w_aload0 r_79_45 ?_
        refine w_getA (x := 93) r_79_46 (Lk_91 hL) (Lr_91_5 hL) (by decide) ?_
        refine w_iload2 r_79_49 ?_
        refine w_iload3 r_79_50 ?_
        refine v_iadd r_79_51 ?_
        refine w_iload4 r_79_52 ?_
        refine v_iast r_79_54 (Lk_93 hL) (Ln_93 hL) (Lz_93 hL) (by decide) (by omega) ?_
        refine w_iinc3 r_79_55 rfl (iI_add _ _) ?_
        refine w_goto r_79_58 ?_
        have := ih (r + 1) _ (by omega) (by omega) (I.put hg.1 (by omega) e)
        exact this
      · refine w_iload3 r_79_39 ?_
        refine w_iload5 r_79_40 ?_
        refine v_ic_gt r_79_42 (by first | exact zF_in _ _ _ | exact zA_in _ _ _ | omega) (by first | exact zF_in _ _ _ | exact zA_in _ _ _ | omega) (fun _ => ?_) (fun q => absurd q (by omega))
        refine w_iinc4 r_79_61 rfl (iI_add _ _) ?_
        refine w_goto r_79_64 ?_
        refine nxt r _ h1 hr1 ⟨I.1, I.2.1, I.2.2.1, fun s' a b => ?_⟩
        by_cases e : s' = s
        · rw [e]; omega
        · exact I.2.2.2 s' a (by omega)
  have key : ∀ s : Nat, s ≤ 91 → ∀ (r : Nat) (X : Value) (h1 : XH), r ≤ 151 → ISl h h1 B g s r → XW (d + 3) 79 11 [.ref 91, .int (iI g), .int (iI (g * 151)), .int (iI r), .int (iI s), X] [] h1 (KV KU) := by
    refine upto _ ?_ ?_
    · intro r X h1 hr1 I
      refine w_iload4 r_79_11 ?_
      refine w_bipush (v := iI (90)) r_79_13 rfl ?_
      refine v_ic_gt r_79_15 (by first | exact zF_in _ _ _ | exact zA_in _ _ _ | omega) (by first | exact zF_in _ _ _ | exact zA_in _ _ _ | omega) (fun _ => ?_) (fun q => absurd q (by omega))
      exact fin (151 - r) r X h1 (by omega) I
    · intro s hs ih r X h1 hr1 I
      have hL := I.1.lay hL
      have hC := hC.fr I.1 hb (fun a j p q => by simp [pA]; omega)
      have hr := (I.1.R 91 1).trans hr
      have gi := B.grip_in ho hg (x := s)
      refine w_iload4 r_79_11 ?_
      refine w_bipush (v := iI (90)) r_79_13 rfl ?_
      refine v_ic_gt r_79_15 (by first | exact zF_in _ _ _ | exact zA_in _ _ _ | omega) (by first | exact zF_in _ _ _ | exact zA_in _ _ _ | omega) (fun q => absurd q (by omega)) (fun _ => ?_)
      refine w_aload0 r_79_18 ?_
      refine w_getA (x := rb) r_79_19 (Lk_91 hL) hr (RB.nz hb) ?_
      refine w_getA (x := rb + 6) r_79_22 (Bk_ hL hb) (Br_3 hL hb) (by omega) ?_
      refine w_iload1 r_79_25 ?_
      refine w_iload4 r_79_26 ?_
      refine k_17 r_79_28 (Bk_6 hL hb) (Nat.le_of_ble_eq_true rfl) ?_
      refine c_gripAt hL hb hC ho hg (by omega) ?_
      refine w_sipush (v := iI (150)) r_79_31 rfl ?_
      refine k_270 r_79_34 (Nat.le_of_ble_eq_true rfl) ?_
      refine c_min (by unfold R32; omega) (by unfold R32; omega) ?_
      refine w_istore5 r_79_37 rfl ?_
      rw [show min (B.grip g s) 150 = B.grip g s by omega]
      exact inn s (by omega) ih ((B.grip g s).toNat + 1) r h1 hr1 (by omega) I
  refine w_iload1 r_79_0 ?_
  refine w_sipush (v := iI (151)) r_79_1 rfl ?_
  refine v_imul r_79_4 ?_
  refine w_istore2 r_79_5 rfl ?_
  refine w_iconst (v := iI (0)) r_79_6 rfl ?_
  refine w_istore3 r_79_7 rfl ?_
  refine w_iconst (v := iI (0)) r_79_8 rfl ?_
  refine w_istore4 r_79_9 rfl ?_
  exact key 0 (by omega) 0 .null h (by omega) ⟨Fr.refl _ _, fun p a b => by omega, fun i _ _ => rfl, fun s' a b => by omega⟩
end S3
