/-! digging: the class's counts -/
abbrev vld (W x : Int) : Prop := x % 7 + x / 7 % 7 + x / 49 % 7 + x / 343 % 7 ≤ W
def nuW (W : Int) : Nat → Int
  | 0 => 0
  | n + 1 => nuW W n + if vld W n then 1 else 0
theorem nuW_le {W : Int} (hW : W ≤ 6) : ∀ n : Nat, 0 ≤ nuW W n ∧ nuW W n ≤ cnV n := by
  intro n
  induction n with
  | zero => exact ⟨Int.le_refl _, Int.le_refl _⟩
  | succ n ih =>
    show 0 ≤ nuW W n + (if vld W n then 1 else 0) ∧ nuW W n + (if vld W n then 1 else 0) ≤ ((cnV n + if vlN n = true then 1 else 0 : Nat) : Int)
    by_cases q : vld W n
    · have v : vlN n = true := by
        unfold vlN
        simp only [decide_eq_true_eq]
        unfold vld at q
        have q2 : ((n % 7 + n / 7 % 7 + n / 49 % 7 + n / 343 % 7 : Nat) : Int) = (n : Int) % 7 + (n : Int) / 7 % 7 + (n : Int) / 49 % 7 + (n : Int) / 343 % 7 := by
          simp only [Int.natCast_add, Int.natCast_emod, Int.natCast_ediv]; rfl
        rw [← q2] at q
        omega
      rw [if_pos q, if_pos v]; omega
    · rw [if_neg q]; split <;> omega
theorem nuW_mono {W : Int} {m : Nat} : ∀ k : Nat, nuW W m ≤ nuW W (m + k) := by
  intro k
  induction k with
  | zero => exact Int.le_refl _
  | succ k ih =>
    show _ ≤ nuW W (m + k) + (if vld W ((m + k : Nat) : Int) then 1 else 0)
    split <;> omega
theorem nuW_lt {W : Int} {m n : Nat} (h : m < n) (hv : vld W m) : nuW W m < nuW W n := by
  have := nuW_mono (W := W) (m := m + 1) (n - (m + 1))
  rw [show m + 1 + (n - (m + 1)) = n by omega] at this
  have e : nuW W (m + 1) = nuW W m + 1 := by
    show nuW W m + (if vld W (m : Int) then 1 else 0) = _
    rw [if_pos hv]
  omega
/-- the number of a code -/
def nmb (B : XB) (x : Int) : Int := nuW B.w x.toNat
section CD
variable {d : Nat} {h : XH} {K : Int32 → XH → Prop} {KU : XH → Prop} {B : XB} {rb a0 : Nat}
def Unt (h : XH) : Prop := ∀ x : Int, 0 ≤ x → x ≤ 4 → gI h 1000001 x.toNat = iI (unt x)
theorem nmb_in {x : Int} (ho : B.ok) (hx : 0 ≤ x ∧ x < 2401) : 0 ≤ nmb B x ∧ nmb B x ≤ 210 ∧ (vld B.w x → nmb B x < 210) := by
  have o := ho.1
  have a := nuW_le (W := B.w) (by omega) x.toNat
  have b := nuW_le (W := B.w) (by omega) 2401
  have c := nuW_mono (W := B.w) (m := x.toNat) (2401 - x.toNat)
  rw [show x.toNat + (2401 - x.toNat) = 2401 by omega] at c
  rw [cnV_all] at b
  unfold nmb
  refine ⟨a.1, by omega, fun v => ?_⟩
  have l := nuW_lt (W := B.w) (m := x.toNat) (n := 2401) (by omega) (by rw [show ((x.toNat : Nat) : Int) = x by omega]; exact v)
  omega
/-- the rows that a survey fills -/
def DA (h : XH) (a0 : Nat) : Prop := (gR h 107 6 = a0 ∧ gR h 107 7 = a0 + 1 ∧ gR h 107 8 = a0 + 2 ∧ gR h 107 9 = a0 + 3 ∧ gR h 107 11 = a0 + 4) ∧ (gK h a0 = 1 ∧ gK h (a0 + 1) = 1 ∧ gK h (a0 + 2) = 1 ∧ gK h (a0 + 3) = 1 ∧ gK h (a0 + 4) = 1) ∧ (gZ h a0 = 2401 ∧ gZ h (a0 + 1) = 210 ∧ gZ h (a0 + 2) = 6300 ∧ gZ h (a0 + 3) = 210 ∧ gZ h (a0 + 4) = 210) ∧ 155 ≤ a0 ∧ a0 + 4 < gN h
theorem DA.fr {P : Nat → Nat → Bool} {h' : XH} (f : Fr P h h') (hD : DA h a0) : DA h' a0 := by
  obtain ⟨a, b, c, e, g⟩ := hD
  refine ⟨?_, ?_, ?_, e, f.n g⟩
  · simp only [f.R]; exact a
  · simp only [f.K]; exact b
  · simp only [f.Z]; exact c
theorem DA.n0 (hD : DA h a0) : a0 < gN h := by have := hD.2.2.2.2; omega
theorem DA.n1 (hD : DA h a0) : a0 + 1 < gN h := by have := hD.2.2.2.2; omega
theorem DA.n2 (hD : DA h a0) : a0 + 2 < gN h := by have := hD.2.2.2.2; omega
theorem DA.n3 (hD : DA h a0) : a0 + 3 < gN h := by have := hD.2.2.2.2; omega
theorem DA.z0 (hD : DA h a0) : a0 ≠ 0 := by have := hD.2.2.2.1; omega
theorem c_heldAt {x k : Int} (hL : Lay h) (hU : Unt h) (hx : 0 ≤ x ∧ x < 2401) (hk : 1 ≤ k ∧ k ≤ 4) (kk : K (iI (x / unt k % 7)) h) : XW d 34 0 [.int (iI x), .int (iI k), .null] [] h (KI K) := by
  have u : unt k = 1 ∨ unt k = 7 ∨ unt k = 49 ∨ unt k = 343 := by
    have : k = 1 ∨ k = 2 ∨ k = 3 ∨ k = 4 := by omega
    rcases this with rfl | rfl | rfl | rfl <;> decide
  have e := hU k (by omega) (by omega)
  have dv : 0 ≤ x / unt k ∧ x / unt k ≤ 2401 := by rcases u with q | q | q | q <;> rw [q] <;> omega
  refine w_gs1 r_34_0 ?_
  refine w_iload1 r_34_3 ?_
  refine v_iald r_34_4 hL.2.2.2.2.1.1 hL.2.2.2.2.1.2 (by decide) (by omega) e ?_
  refine w_istore2 r_34_5 rfl ?_
  refine w_iload2 r_34_6 ?_
  refine v_if_le r_34_7 (by first | exact zF_in _ _ _ | exact zA_in _ _ _ | omega) (fun q => absurd q (by omega)) (fun _ => ?_)
  refine w_iload0 r_34_10 ?_
  refine w_iload2 r_34_11 ?_
  refine v_idivN r_34_12 (by first | exact zF_in _ _ _ | exact zA_in _ _ _ | omega) (by omega) ?_
  refine w_bipush (v := iI (7)) r_34_13 rfl ?_
  refine v_iremN r_34_15 (by first | exact zF_in _ _ _ | exact zA_in _ _ _ | omega) (by omega) ?_
  refine w_goto r_34_16 ?_
  refine w_iret r_34_20 ?_
  exact kk
theorem c_priceOf {t : Int} (hL : Lay h) (hb : rb = 6 ∨ rb = 20) (hr : gR h 107 0 = rb) (hC : CBk h rb B) (ht : 0 ≤ t ∧ t < B.t) (ho : B.ok) (kk : K (iI (B.pr t * 1024 + 1)) h) : XW d 31 0 [.ref 107, .int (iI t)] [] h (KI K) := by
  have o := ho.1
  have e : gI h (rb + 13) t.toNat = iI (B.pr t) := by rw [gI_A, (hC.2.2.2.2 t ht.1 ht.2).2.2.2]
  refine w_aload0 r_31_0 ?_
  refine w_getA (x := rb) r_31_1 (Lk_107 hL) hr (RB.nz hb) ?_
  refine w_getA (x := rb + 13) r_31_4 (Bk_ hL hb) (Br_8 hL hb) (by omega) ?_
  refine w_iload1 r_31_7 ?_
  refine v_iald r_31_8 (Bk_13 hL hb).1 (Bk_13 hL hb).2 (by decide) (by omega) e ?_
  refine w_sipush (v := iI (1024)) r_31_9 rfl ?_
  refine v_imul r_31_12 ?_
  refine w_iconst (v := iI (1)) r_31_13 rfl ?_
  refine v_iadd r_31_14 ?_
  refine w_iret r_31_15 ?_
  exact kk
theorem c_codeOf {wa : Nat} (hL : Lay h) (hU : Unt h) (hb : rb = 6 ∨ rb = 20) (hr : gR h 107 0 = rb) (hC : CBk h rb B) (ho : B.ok) (hwa : wa = 108 ∨ wa = 109) (hv : ∀ k : Int, 0 ≤ k → k < B.w → 0 ≤ zA h wa k ∧ zA h wa k ≤ 4) (kk : K (iI (cde (zA h wa) B.w.toNat)) h) : XW d 28 0 [.ref 107, .ref wa, .null, .null] [] h (KI K) := by
  have o := ho.1
  have wk : gK h wa = 1 ∧ gZ h wa = 6 := by
    rcases hwa with rfl | rfl
    · exact ⟨Lk_108 hL, Lz_108 hL⟩
    · exact ⟨Lk_109 hL, Lz_109 hL⟩
  have key : ∀ k : Nat, k ≤ B.w.toNat → XW d 28 4 [.ref 107, .ref wa, .int (iI (cde (zA h wa) k)), .int (iI k)] [] h (KI K) := by
    refine upto _ ?_ ?_
    · refine w_iload3 r_28_4 ?_
      refine w_aload0 r_28_5 ?_
      refine w_getA (x := rb) r_28_6 (Lk_107 hL) hr (RB.nz hb) ?_
      refine v_getI r_28_9 (Bk_ hL hb) (hC.f10) ?_
      refine v_ic_ge r_28_12 (by first | exact zF_in _ _ _ | exact zA_in _ _ _ | omega) (by first | exact zF_in _ _ _ | exact zA_in _ _ _ | omega) (fun _ => ?_) (fun q => absurd q (by omega))
      refine w_iload2 r_28_31 ?_
      refine w_iret r_28_32 ?_
      exact kk
    · intro k hk ih
      have b := hv k (by omega) (by omega)
      refine w_iload3 r_28_4 ?_
      refine w_aload0 r_28_5 ?_
      refine w_getA (x := rb) r_28_6 (Lk_107 hL) hr (RB.nz hb) ?_
      refine v_getI r_28_9 (Bk_ hL hb) (hC.f10) ?_
      refine v_ic_ge r_28_12 (by first | exact zF_in _ _ _ | exact zA_in _ _ _ | omega) (by first | exact zF_in _ _ _ | exact zA_in _ _ _ | omega) (fun q => absurd q (by omega)) (fun _ => ?_)
      refine w_iload2 r_28_15 ?_
      refine w_gs1 r_28_16 ?_
      refine w_aload1 r_28_19 ?_
      refine w_iload3 r_28_20 ?_
      refine v_iald r_28_21 wk.1 wk.2 (by decide) (by omega) (gI_A h wa (k : Int)) ?_
      refine v_iald r_28_22 hL.2.2.2.2.1.1 hL.2.2.2.2.1.2 (by decide) (by omega) (hU _ b.1 b.2) ?_
      refine v_iadd r_28_23 ?_
      refine w_istore2 r_28_24 rfl ?_
      refine w_iinc3 r_28_25 rfl (iI_add _ _) ?_
      refine w_goto r_28_28 ?_
      exact ih
  refine w_iconst (v := iI (0)) r_28_0 rfl ?_
  refine w_istore2 r_28_1 rfl ?_
  refine w_iconst (v := iI (0)) r_28_2 rfl ?_
  refine w_istore3 r_28_3 rfl ?_
  exact key 0 (by omega)
/-- the counts are listed -/
def CLc (h : XH) (a0 : Nat) (B : XB) (n : Int) : Prop := (∀ x, 0 ≤ x → x < n → vld B.w x → zA h a0 x = nmb B x ∧ zA h (a0 + 1) (nmb B x) = x) ∧ zF h 107 5 = nmb B n
theorem c_listCounts (hL : Lay h) (hU : Unt h) (hb : rb = 6 ∨ rb = 20) (hr : gR h 107 0 = rb) (hC : CBk h rb B) (ho : B.ok) (hD : DA h a0) (kk : ∀ h', Fr (pO (pA [a0, a0 + 1]) (pF [(107, 5)])) h h' → CLc h' a0 B 2401 → KU h') : XW (d + 1) 33 0 [.ref 107, .null, .null, .null] [] h (KV KU) := by
  have o := ho.1
  have a156 := hD.2.2.2.1
  have key : ∀ n : Nat, n ≤ 2401 → ∀ (h1 : XH) (X2 X3 : Value), Fr (pO (pA [a0, a0 + 1]) (pF [(107, 5)])) h h1 → CLc h1 a0 B n → XW (d + 1) 33 7 [.ref 107, .int (iI n), X2, X3] [] h1 (KV KU) := by
    refine upto _ ?_ ?_
    · intro h1 X2 X3 f c
      refine w_iload1 r_33_7 ?_
      refine w_sipush (v := iI (2401)) r_33_8 rfl ?_
      refine v_ic_ge r_33_11 (by first | exact zF_in _ _ _ | exact zA_in _ _ _ | omega) (by first | exact zF_in _ _ _ | exact zA_in _ _ _ | omega) (fun _ => ?_) (fun q => absurd q (by omega))
      refine w_vret r_33_112 ?_
      exact kk h1 f c
    · intro n hn ih h1 X2 X3 f c
      have hL := f.lay hL
      have hD := hD.fr f
      have hC := hC.fr f hb (fun a j p q => by simp [pO, pA, pF]; omega)
      have hr := (f.R 107 0).trans hr
      have hU : Unt h1 := fun x a b => by rw [(f.2 1000001 _ (by simp [pO, pA, pF]; have := hD.2.2.2.2; have := hL.2.2.2.1; omega)).1]; exact hU x a b
      have n0 : nmb B n = nuW B.w n := rfl
      have n1 : nmb B ((n : Int) + 1) = nuW B.w (n + 1) := rfl
      have nn : nuW B.w (n + 1) = nuW B.w n + if vld B.w n then 1 else 0 := rfl
      have ni := nmb_in (x := n) ho (by omega)
      have g5 : gI h1 107 5 = iI (nmb B n) := by rw [gI_F, c.2]
      have e1 : (n : Int) / unt 1 % 7 = (n : Int) % 7 := by show (n : Int) / 1 % 7 = _; omega
      have e2 : (n : Int) / unt 2 % 7 = (n : Int) / 7 % 7 := rfl
      have e3 : (n : Int) / unt 3 % 7 = (n : Int) / 49 % 7 := rfl
      have e4 : (n : Int) / unt 4 % 7 = (n : Int) / 343 % 7 := rfl
      have sd : sumTo (fun j => (n : Int) / unt (j + 1) % 7) 4 = (n : Int) % 7 + (n : Int) / 7 % 7 + (n : Int) / 49 % 7 + (n : Int) / 343 % 7 := by
        show 0 + (n : Int) / unt 1 % 7 + (n : Int) / unt 2 % 7 + (n : Int) / unt 3 % 7 + (n : Int) / unt 4 % 7 = _
        rw [e1, e2, e3, e4]; omega
      have sb : ∀ j : Nat, j ≤ 4 → 0 ≤ sumTo (fun j => (n : Int) / unt (j + 1) % 7) j ∧ sumTo (fun j => (n : Int) / unt (j + 1) % 7) j ≤ 6 * j := fun j hj => sumTo_in (fun i a b => by omega)
      have S4 := sb 4 (by omega)
      have tail : XW (d + 1) 33 37 [.ref 107, .int (iI n), .int (iI (sumTo (fun j => (n : Int) / unt (j + 1) % 7) 4)), .int (iI 5)] [] h1 (KV KU) := by
        rw [sd] at S4 ⊢
        by_cases q : vld B.w n
        · have nlt := ni.2.2 q
          rw [if_pos q] at nn
          have F2 : Fr (pO (pA [a0, a0 + 1]) (pF [(107, 5)])) h1 (sI (sI (sI h1 a0 ((n : Int)).toNat (iI (nmb B n))) (a0 + 1) (nmb B n).toNat (iI n)) 107 5 (iI (nmb B n + 1))) := (((Fr.refl _ _).sI a0 _ _ (by simp [pO, pA])).sI (a0 + 1) _ _ (by simp [pO, pA])).sI 107 5 _ (by simp [pO, pF])
          have g5' : gI (sI h1 a0 ((n : Int)).toNat (iI (nmb B n))) 107 5 = iI (nmb B n) := by rw [sI_other _ (by omega)]; exact g5
          have g5'' : gI (sI (sI h1 a0 ((n : Int)).toNat (iI (nmb B n))) (a0 + 1) (nmb B n).toNat (iI n)) 107 5 = iI (nmb B n) := by rw [sI_other _ (by omega)]; exact g5'
          refine w_iload2 r_33_37 ?_
          refine w_aload0 r_33_38 ?_
          refine w_getA (x := rb) r_33_39 (Lk_107 hL) hr (RB.nz hb) ?_
          refine v_getI r_33_42 (Bk_ hL hb) (hC.f10) ?_
          refine v_ic_gt r_33_45 (by first | exact zF_in _ _ _ | exact zA_in _ _ _ | omega) (by first | exact zF_in _ _ _ | exact zA_in _ _ _ | omega) (fun q => absurd q (by omega)) (fun _ => ?_)
          refine w_aload0 r_33_48 ?_
          refine v_getI r_33_49 (Lk_107 hL) g5 ?_
          refine w_sipush (v := iI (210)) r_33_52 rfl ?_
          refine v_ic_ge r_33_55 (by first | exact zF_in _ _ _ | exact zA_in _ _ _ | omega) (by first | exact zF_in _ _ _ | exact zA_in _ _ _ | omega) (fun q => absurd q (by omega)) (fun _ => ?_)
          refine w_iconst (v := iI (1)) r_33_58 rfl ?_
          refine w_goto r_33_59 ?_
          refine w_istore3 r_33_63 rfl ?_
          refine w_aload0 r_33_64 ?_
          refine w_getA (x := a0) r_33_65 (Lk_107 hL) hD.1.1 hD.z0 ?_
          refine w_iload1 r_33_68 ?_
          refine w_iload3 r_33_69 ?_
          refine v_if_eq r_33_70 (by first | exact zF_in _ _ _ | exact zA_in _ _ _ | omega) (fun q => absurd q (by decide)) (fun _ => ?_)
          refine w_aload0 r_33_73 ?_
          refine v_getI r_33_74 (Lk_107 hL) g5 ?_
          refine w_goto r_33_77 ?_
          refine v_iast r_33_81 hD.2.1.1 hD.n0 hD.2.2.1.1 (by decide) (by omega) ?_
          refine w_iload3 r_33_82 ?_
          refine v_if_eq r_33_83 (by first | exact zF_in _ _ _ | exact zA_in _ _ _ | omega) (fun q => absurd q (by decide)) (fun _ => ?_)
          refine w_aload0 r_33_86 ?_
          refine w_getA (x := a0 + 1) r_33_87 (Lk_107 hL) hD.1.2.1 (by omega) ?_
          refine w_aload0 r_33_90 ?_
          refine v_getI r_33_91 (Lk_107 hL) (g5') ?_
          refine w_iload1 r_33_94 ?_
          refine v_iast r_33_95 hD.2.1.2.1 hD.n1 hD.2.2.1.2.1 (by decide) (by omega) ?_
          refine w_aload0 r_33_96 ?_
          refine w_dupA r_33_97 ?_
          refine v_getI r_33_98 (Lk_107 hL) (g5'') ?_
          refine w_iconst (v := iI (1)) r_33_101 rfl ?_
          refine v_iadd r_33_102 ?_
          refine w_putI r_33_103 (Lk_107 hL) (Ln_107 hL) ?_
          refine w_iinc1 r_33_106 rfl (iI_add _ _) ?_
          refine w_goto r_33_109 ?_
          refine ih _ _ _ (f.trans F2) ⟨fun x a b v => ?_, ?_⟩
          · have y : ∀ x, 0 ≤ x → zA (sI (sI (sI h1 a0 ((n : Int)).toNat (iI (nmb B n))) (a0 + 1) (nmb B n).toNat (iI n)) 107 5 (iI (nmb B n + 1))) a0 x = if x = (n : Int) then nmb B n else zA h1 a0 x := fun x a => by
              rw [zA_o _ (by omega), zA_o _ (by omega), zA_s (by omega) a (by omega)]
            have y2 : ∀ x, 0 ≤ x → zA (sI (sI (sI h1 a0 ((n : Int)).toNat (iI (nmb B n))) (a0 + 1) (nmb B n).toNat (iI n)) 107 5 (iI (nmb B n + 1))) (a0 + 1) x = if x = nmb B n then (n : Int) else zA h1 (a0 + 1) x := fun x a => by
              rw [zA_o _ (by omega), zA_s (by omega) a (by omega), zA_o _ (by omega)]
            have nx := nmb_in (x := x) ho (by omega)
            rw [y x a, y2 _ nx.1]
            by_cases e : x = (n : Int)
            · rw [if_pos e, e, if_pos rfl]; exact ⟨rfl, rfl⟩
            · have lt : nmb B x < nmb B n := nuW_lt (W := B.w) (m := x.toNat) (n := n) (by omega) (by rw [show ((x.toNat : Nat) : Int) = x by omega]; exact v)
              rw [if_neg e, if_neg (by omega)]
              exact c.1 x a (by omega) v
          · rw [zF_s (by omega)]
            show nmb B n + 1 = nuW B.w (n + 1)
            omega
        · rw [if_neg q] at nn
          have F2 : Fr (pO (pA [a0, a0 + 1]) (pF [(107, 5)])) h1 (sI h1 a0 ((n : Int)).toNat (iI 0)) := (Fr.refl _ _).sI a0 _ _ (by simp [pO, pA])
          refine w_iload2 r_33_37 ?_
          refine w_aload0 r_33_38 ?_
          refine w_getA (x := rb) r_33_39 (Lk_107 hL) hr (RB.nz hb) ?_
          refine v_getI r_33_42 (Bk_ hL hb) (hC.f10) ?_
          refine v_ic_gt r_33_45 (by first | exact zF_in _ _ _ | exact zA_in _ _ _ | omega) (by first | exact zF_in _ _ _ | exact zA_in _ _ _ | omega) (fun _ => ?_) (fun q => absurd q (by omega))
          refine w_iconst (v := iI (0)) r_33_62 rfl ?_
          refine w_istore3 r_33_63 rfl ?_
          refine w_aload0 r_33_64 ?_
          refine w_getA (x := a0) r_33_65 (Lk_107 hL) hD.1.1 hD.z0 ?_
          refine w_iload1 r_33_68 ?_
          refine w_iload3 r_33_69 ?_
          refine v_if_eq r_33_70 (by first | exact zF_in _ _ _ | exact zA_in _ _ _ | omega) (fun _ => ?_) (fun q => absurd q (by decide))
          refine w_iconst (v := iI (0)) r_33_80 rfl ?_
          refine v_iast r_33_81 hD.2.1.1 hD.n0 hD.2.2.1.1 (by decide) (by omega) ?_
          refine w_iload3 r_33_82 ?_
          refine v_if_eq r_33_83 (by first | exact zF_in _ _ _ | exact zA_in _ _ _ | omega) (fun _ => ?_) (fun q => absurd q (by decide))
          refine w_iinc1 r_33_106 rfl (iI_add _ _) ?_
          refine w_goto r_33_109 ?_
          refine ih _ _ _ (f.trans F2) ⟨fun x a b v => ?_, ?_⟩
          · have e : ¬ x = (n : Int) := fun y => q (by rw [← y]; exact v)
            rw [zA_s (by omega) a (by decide), if_neg e, zA_o _ (by omega)]
            exact c.1 x a (by omega) v
          · rw [zF_o (by omega), c.2]
            show nmb B n = nuW B.w (n + 1)
            omega
      have dl : ∀ j : Nat, j ≤ 4 → XW (d + 1) 33 18 [.ref 107, .int (iI n), .int (iI (sumTo (fun j => (n : Int) / unt (j + 1) % 7) j)), .int (iI ((j : Int) + 1))] [] h1 (KV KU) := by
        refine upto _ ?_ ?_
        · refine w_iload3 r_33_18 ?_
          refine w_iconst (v := iI (5)) r_33_19 rfl ?_
          refine v_ic_ge r_33_20 (by first | exact zF_in _ _ _ | exact zA_in _ _ _ | omega) (by first | exact zF_in _ _ _ | exact zA_in _ _ _ | omega) (fun _ => ?_) (fun q => absurd q (by omega))
          exact tail
        · intro j hj ih2
          have s1 := sb j (by omega)
          refine w_iload3 r_33_18 ?_
          refine w_iconst (v := iI (5)) r_33_19 rfl ?_
          refine v_ic_ge r_33_20 (by first | exact zF_in _ _ _ | exact zA_in _ _ _ | omega) (by first | exact zF_in _ _ _ | exact zA_in _ _ _ | omega) (fun q => absurd q (by omega)) (fun _ => ?_)
          refine w_iload2 r_33_23 ?_
          refine w_iload1 r_33_24 ?_
          refine w_iload3 r_33_25 ?_
          refine k_34 r_33_26 (Nat.le_of_ble_eq_true rfl) ?_
          refine c_heldAt hL hU (by omega) (by omega) ?_
          refine v_iadd r_33_29 ?_
          refine w_istore2 r_33_30 rfl ?_
          refine w_iinc3 r_33_31 rfl (iI_add _ _) ?_
          refine w_goto r_33_34 ?_
          exact ih2
      refine w_iload1 r_33_7 ?_
      refine w_sipush (v := iI (2401)) r_33_8 rfl ?_
      refine v_ic_ge r_33_11 (by first | exact zF_in _ _ _ | exact zA_in _ _ _ | omega) (by first | exact zF_in _ _ _ | exact zA_in _ _ _ | omega) (fun q => absurd q (by omega)) (fun _ => ?_)
      refine w_iconst (v := iI (0)) r_33_14 rfl ?_
      refine w_istore2 r_33_15 rfl ?_
      refine w_iconst (v := iI (1)) r_33_16 rfl ?_
      refine w_istore3 r_33_17 rfl ?_
      exact dl 0 (by omega)
  refine w_aload0 r_33_0 ?_
  refine w_iconst (v := iI (0)) r_33_1 rfl ?_
  refine w_putI r_33_2 (Lk_107 hL) (Ln_107 hL) ?_
  refine w_iconst (v := iI (0)) r_33_5 rfl ?_
  refine w_istore1 r_33_6 rfl ?_
  refine key 0 (by omega) _ _ _ ((Fr.refl _ _).sI 107 5 _ (by simp [pO, pF])) ⟨fun x a b => by omega, ?_⟩
  rw [zF_s (by decide)]; rfl
end CD
