/-! digging: the class's moves -/
section CM
variable {d : Nat} {h : XH} {K : Int32 → XH → Prop} {KU : XH → Prop} {B : XB} {rb a0 : Nat}
def cdN (e o : Int) (c : Int → Int) (x : Int) : Nat → Int
  | 0 => unt (clp (x + o))
  | n + 1 => cdN e o c x n + (if (n : Int) = x then c n - 1 else c n) * unt (clp (n + e))
theorem cdN_in {e o x : Int} {c : Int → Int} (hc : ∀ i : Int, 0 ≤ i → i < 5 → 0 ≤ c i ∧ c i ≤ 6) : ∀ n : Nat, n ≤ 5 → -343 * (n : Int) ≤ cdN e o c x n ∧ cdN e o c x n ≤ 343 + 2058 * (n : Int) := by
  intro n
  induction n with
  | zero => intro _; have := unt_in (clp (x + o)); show -343 * (0 : Int) ≤ unt (clp (x + o)) ∧ unt (clp (x + o)) ≤ 343 + 2058 * (0 : Int); omega
  | succ n ih =>
    intro hn
    have i := ih (by omega)
    have u := unt_in (clp ((n : Int) + e))
    have b := hc n (by omega) (by omega)
    show -343 * ((n + 1 : Nat) : Int) ≤ cdN e o c x n + (if (n : Int) = x then c n - 1 else c n) * unt (clp (n + e)) ∧ cdN e o c x n + (if (n : Int) = x then c n - 1 else c n) * unt (clp (n + e)) ≤ 343 + 2058 * ((n + 1 : Nat) : Int)
    have v : -1 ≤ (if (n : Int) = x then c n - 1 else c n) ∧ (if (n : Int) = x then c n - 1 else c n) ≤ 6 := by split <;> omega
    generalize (if (n : Int) = x then c n - 1 else c n) = y at v ⊢
    generalize unt (clp ((n : Int) + e)) = z at u ⊢
    have m1 : y * z ≤ 6 * z := Int.mul_le_mul_of_nonneg_right v.2 u.1
    have m2 : -1 * z ≤ y * z := Int.mul_le_mul_of_nonneg_right v.1 u.1
    omega
theorem cdN_cda (e o : Int) (c : Int → Int) (x : Int) : cdN e o c x 5 = cda e o (c 0) (c 1) (c 2) (c 3) (c 4) x := by
  have f : ∀ (n : Nat) (i : Int), i = (n : Int) → (if (n : Int) = x then c n - 1 else c n) = if x = i then c i - 1 else c i := fun n i q => by
    subst q
    by_cases w : (n : Int) = x
    · rw [if_pos w, if_pos w.symm]
    · rw [if_neg w, if_neg (fun z => w z.symm)]
  show unt (clp (x + o)) + _ * unt (clp (((0 : Nat) : Int) + e)) + _ * unt (clp (((1 : Nat) : Int) + e)) + _ * unt (clp (((2 : Nat) : Int) + e)) + _ * unt (clp (((3 : Nat) : Int) + e)) + _ * unt (clp (((4 : Nat) : Int) + e)) = _
  rw [f 0 0 rfl, f 1 1 rfl, f 2 2 rfl, f 3 3 rfl, f 4 4 rfl]
  unfold cda
  simp only [Int.add_assoc]
  rfl
theorem c_codeAfter {t x : Int} (hL : Lay h) (hU : Unt h) (hb : rb = 6 ∨ rb = 20) (hr : gR h 107 0 = rb) (hC : CBk h rb B) (ho : B.ok) (ht : 0 ≤ t ∧ t < B.t) (hx : 0 ≤ x ∧ x ≤ 4) (hc : ∀ i : Int, 0 ≤ i → i < 5 → 0 ≤ zA h 110 i ∧ zA h 110 i ≤ 6) (kk : K (iI (cda (B.ea t) (B.on t) (zA h 110 0) (zA h 110 1) (zA h 110 2) (zA h 110 3) (zA h 110 4) x)) h) : XW (d + 2) 36 0 [.ref 107, .int (iI t), .int (iI x), .null, .null, .null] [] h (KI K) := by
  have o := ho.1
  have ot := ho.2.2.2.2 t ht.1 ht.2
  have eo : gI h (rb + 12) t.toNat = iI (B.on t) := by rw [gI_A, (hC.2.2.2.2 t ht.1 ht.2).2.2.1]
  have ee : gI h (rb + 11) t.toNat = iI (B.ea t) := by rw [gI_A, (hC.2.2.2.2 t ht.1 ht.2).2.1]
  rw [← cdN_cda] at kk
  have u0 := unt_in (clp (x + B.on t))
  have key : ∀ n : Nat, n ≤ 5 → ∀ X5 : Value, XW (d + 2) 36 22 [.ref 107, .int (iI t), .int (iI x), .int (iI (cdN (B.ea t) (B.on t) (zA h 110) x n)), .int (iI n), X5] [] h (KI K) := by
    refine upto _ ?_ ?_
    · intro X5
      refine w_iload4 r_36_22 ?_
      refine w_iconst (v := iI (5)) r_36_24 rfl ?_
      refine v_ic_ge r_36_25 (by first | exact zF_in _ _ _ | exact zA_in _ _ _ | omega) (by first | exact zF_in _ _ _ | exact zA_in _ _ _ | omega) (fun _ => ?_) (fun q => absurd q (by omega))
      refine w_iload3 r_36_86 ?_
      refine w_iret r_36_87 ?_
      exact kk
    · intro n hn ih X5
      have b := hc n (by omega) (by omega)
      have s := cdN_in (e := B.ea t) (o := B.on t) (x := x) hc n (by omega)
      have u := unt_in (clp ((n : Int) + B.ea t))
      have ex : cdN (B.ea t) (B.on t) (zA h 110) x (n + 1) = cdN (B.ea t) (B.on t) (zA h 110) x n + (if (n : Int) = x then zA h 110 n - 1 else zA h 110 n) * unt (clp (n + B.ea t)) := rfl
      have tail : ∀ y : Int, -1 ≤ y ∧ y ≤ 6 → cdN (B.ea t) (B.on t) (zA h 110) x (n + 1) = cdN (B.ea t) (B.on t) (zA h 110) x n + y * unt (clp (n + B.ea t)) → XW (d + 2) 36 53 [.ref 107, .int (iI t), .int (iI x), .int (iI (cdN (B.ea t) (B.on t) (zA h 110) x n)), .int (iI n), X5] [.int (iI y)] h (KI K) := by
        intro y hy ey
        have m1 : y * unt (clp (n + B.ea t)) ≤ 6 * unt (clp (n + B.ea t)) := Int.mul_le_mul_of_nonneg_right hy.2 u.1
        have m2 : -1 * unt (clp (n + B.ea t)) ≤ y * unt (clp (n + B.ea t)) := Int.mul_le_mul_of_nonneg_right hy.1 u.1
        refine w_istore5 r_36_53 rfl ?_
        refine w_iload3 r_36_55 ?_
        refine w_iload5 r_36_56 ?_
        refine w_gs1 r_36_58 ?_
        refine w_iload4 r_36_61 ?_
        refine w_aload0 r_36_63 ?_
        refine w_getA (x := rb) r_36_64 (Lk_107 hL) hr (RB.nz hb) ?_
        refine w_getA (x := rb + 11) r_36_67 (Bk_ hL hb) (Br_6 hL hb) (by omega) ?_
        refine w_iload1 r_36_70 ?_
        refine v_iald r_36_71 (Bk_11 hL hb).1 (Bk_11 hL hb).2 (by decide) (by omega) ee ?_
        refine v_iadd r_36_72 ?_
        refine k_25 r_36_73 (Nat.le_of_ble_eq_true rfl) ?_
        refine c_within (by unfold R32; omega) ?_
        refine v_iald r_36_76 hL.2.2.2.2.1.1 hL.2.2.2.2.1.2 (by decide) (by omega) (hU _ (clp_in _).1 (clp_in _).2) ?_
        refine v_imul r_36_77 ?_
        refine v_iadd r_36_78 ?_
        refine w_istore3 r_36_79 rfl ?_
        refine w_iinc4 r_36_80 rfl (iI_add _ _) ?_
        refine w_goto r_36_83 ?_
        have i := ih (.int (iI y))
        rw [ey] at i
        exact i
      by_cases q : (n : Int) = x
      · rw [if_pos q] at ex
        refine w_iload4 r_36_22 ?_
        refine w_iconst (v := iI (5)) r_36_24 rfl ?_
        refine v_ic_ge r_36_25 (by first | exact zF_in _ _ _ | exact zA_in _ _ _ | omega) (by first | exact zF_in _ _ _ | exact zA_in _ _ _ | omega) (fun q => absurd q (by omega)) (fun _ => ?_)
        refine w_iload4 r_36_28 ?_
        refine w_iload2 r_36_30 ?_
        refine v_ic_ne r_36_31 (by first | exact zF_in _ _ _ | exact zA_in _ _ _ | omega) (by first | exact zF_in _ _ _ | exact zA_in _ _ _ | omega) (fun q => absurd q (by omega)) (fun _ => ?_)
        refine w_aload0 r_36_34 ?_
        refine w_getA (x := 110) r_36_35 (Lk_107 hL) (Lr_107_3 hL) (by decide) ?_
        refine w_iload4 r_36_38 ?_
        refine v_iald r_36_40 (Lk_110 hL) (Lz_110 hL) (by decide) (by omega) (gI_A h 110 (n : Int)) ?_
        refine w_iconst (v := iI (1)) r_36_41 rfl ?_
        refine v_isub r_36_42 ?_
        refine w_goto r_36_43 ?_
        exact tail _ (by omega) ex
      · rw [if_neg q] at ex
        refine w_iload4 r_36_22 ?_
        refine w_iconst (v := iI (5)) r_36_24 rfl ?_
        refine v_ic_ge r_36_25 (by first | exact zF_in _ _ _ | exact zA_in _ _ _ | omega) (by first | exact zF_in _ _ _ | exact zA_in _ _ _ | omega) (fun q => absurd q (by omega)) (fun _ => ?_)
        refine w_iload4 r_36_28 ?_
        refine w_iload2 r_36_30 ?_
        refine v_ic_ne r_36_31 (by first | exact zF_in _ _ _ | exact zA_in _ _ _ | omega) (by first | exact zF_in _ _ _ | exact zA_in _ _ _ | omega) (fun _ => ?_) (fun q => absurd q (by omega))
        refine w_aload0 r_36_46 ?_
        refine w_getA (x := 110) r_36_47 (Lk_107 hL) (Lr_107_3 hL) (by decide) ?_
        refine w_iload4 r_36_50 ?_
        refine v_iald r_36_52 (Lk_110 hL) (Lz_110 hL) (by decide) (by omega) (gI_A h 110 (n : Int)) ?_
        exact tail _ (by omega) ex
  refine w_gs1 r_36_0 ?_
  refine w_iload2 r_36_3 ?_
  refine w_aload0 r_36_4 ?_
  refine w_getA (x := rb) r_36_5 (Lk_107 hL) hr (RB.nz hb) ?_
  refine w_getA (x := rb + 12) r_36_8 (Bk_ hL hb) (Br_7 hL hb) (by omega) ?_
  refine w_iload1 r_36_11 ?_
  refine v_iald r_36_12 (Bk_12 hL hb).1 (Bk_12 hL hb).2 (by decide) (by omega) eo ?_
  refine v_iadd r_36_13 ?_
  refine k_25 r_36_14 (Nat.le_of_ble_eq_true rfl) ?_
  refine c_within (by unfold R32; omega) ?_
  refine v_iald r_36_17 hL.2.2.2.2.1.1 hL.2.2.2.2.1.2 (by decide) (by omega) (hU _ (clp_in _).1 (clp_in _).2) ?_
  refine w_istore3 r_36_18 rfl ?_
  refine w_iconst (v := iI (0)) r_36_19 rfl ?_
  refine w_istore4 r_36_20 rfl ?_
  exact key 0 (by omega) _
/-! every count is some state's -/
theorem cnt_congr {v u : Int → Int} {x : Int} {n : Nat} (he : ∀ k : Int, 0 ≤ k → k < n → v k = u k) : cnt v x n = cnt u x n := by
  induction n with
  | zero => rfl
  | succ n ih =>
    unfold cnt
    rw [ih (fun k a b => he k a (by omega)), he n (by omega) (by omega)]
theorem cnt_mk : ∀ (n : Nat) (c : Int → Int), (∀ i, 0 ≤ i → i ≤ 4 → 0 ≤ c i) → c 0 + c 1 + c 2 + c 3 + c 4 = n → ∃ v : Int → Int, (∀ k, 0 ≤ v k ∧ v k ≤ 4) ∧ ∀ i, 0 ≤ i → i ≤ 4 → cnt v i n = c i := by
  intro n
  induction n with
  | zero =>
    intro c hc hs
    refine ⟨fun _ => 0, fun _ => ⟨Int.le_refl _, by show (0 : Int) ≤ 4; decide⟩, fun i i0 i1 => ?_⟩
    have := hc 0 (by omega) (by omega)
    have := hc 1 (by omega) (by omega)
    have := hc 2 (by omega) (by omega)
    have := hc 3 (by omega) (by omega)
    have := hc 4 (by omega) (by omega)
    show 0 = c i
    have : i = 0 ∨ i = 1 ∨ i = 2 ∨ i = 3 ∨ i = 4 := by omega
    rcases this with rfl | rfl | rfl | rfl | rfl <;> omega
  | succ n ih =>
    intro c hc hs
    have p : ∃ x : Int, 0 ≤ x ∧ x ≤ 4 ∧ 0 < c x := by
      apply Classical.byContradiction
      intro q
      have r : ∀ x : Int, 0 ≤ x → x ≤ 4 → c x ≤ 0 := fun x a b => by
        apply Classical.byContradiction
        intro w
        exact q ⟨x, a, b, by omega⟩
      have := r 0 (by omega) (by omega)
      have := r 1 (by omega) (by omega)
      have := r 2 (by omega) (by omega)
      have := r 3 (by omega) (by omega)
      have := r 4 (by omega) (by omega)
      omega
    obtain ⟨x, x0, x1, xc⟩ := p
    obtain ⟨v, hv, he⟩ := ih (fun i => if i = x then c i - 1 else c i) (fun i a b => by
      show 0 ≤ if i = x then c i - 1 else c i
      have := hc i a b
      by_cases q : i = x
      · rw [if_pos q, q]; omega
      · rw [if_neg q]; exact this) (by
      show (if 0 = x then c 0 - 1 else c 0) + (if 1 = x then c 1 - 1 else c 1) + (if 2 = x then c 2 - 1 else c 2) + (if 3 = x then c 3 - 1 else c 3) + (if 4 = x then c 4 - 1 else c 4) = (n : Int)
      have : x = 0 ∨ x = 1 ∨ x = 2 ∨ x = 3 ∨ x = 4 := by omega
      rcases this with rfl | rfl | rfl | rfl | rfl <;> simp <;> omega)
    refine ⟨fun k => if k = n then x else v k, fun k => ?_, fun i i0 i1 => ?_⟩
    · show 0 ≤ (if k = n then x else v k) ∧ (if k = n then x else v k) ≤ 4
      split
      · omega
      · exact hv k
    · show cnt (fun k => if k = (n : Int) then x else v k) i n + (if (if (n : Int) = n then x else v n) = i then 1 else 0) = c i
      rw [cnt_congr (u := v) (fun k a b => by show (if k = (n : Int) then x else v k) = v k; rw [if_neg (by omega)]), he i i0 i1, if_pos rfl]
      show (if i = x then c i - 1 else c i) + (if x = i then 1 else 0) = c i
      by_cases q : i = x
      · rw [if_pos q, if_pos q.symm]; omega
      · rw [if_neg q, if_neg (fun w => q w.symm)]; omega
theorem dig7 {x : Int} (hx : 0 ≤ x ∧ x < 2401) : x / 1 % 7 + 7 * (x / 7 % 7) + 49 * (x / 49 % 7) + 343 * (x / 343 % 7) = x := by
  have h1 : x / 1 = x := Int.ediv_one x
  have h2 : x / 49 = x / 7 / 7 := by omega
  have h3 : x / 343 = x / 7 / 7 / 7 := by omega
  rw [h1, h2, h3]
  omega
theorem st_ex {x : Int} (ho : B.ok) (hx : 0 ≤ x ∧ x < 2401) (hv : vld B.w x) : ∃ s : Int, isS B x s := by
  have o := ho.1
  unfold vld at hv
  obtain ⟨v, v1, v2⟩ := cnt_mk B.w.toNat (fun i => if i = 0 then B.w - (x % 7 + x / 7 % 7 + x / 49 % 7 + x / 343 % 7) else x / unt i % 7) (fun i a b => by
    show 0 ≤ if i = 0 then B.w - (x % 7 + x / 7 % 7 + x / 49 % 7 + x / 343 % 7) else x / unt i % 7
    by_cases q : i = 0
    · rw [if_pos q]; omega
    · rw [if_neg q]; omega) (by
    show B.w - (x % 7 + x / 7 % 7 + x / 49 % 7 + x / 343 % 7) + x / 1 % 7 + x / 7 % 7 + x / 49 % 7 + x / 343 % 7 = (B.w.toNat : Int)
    omega)
  have si := s5_in (d := v) (n := B.w.toNat) (fun k _ _ => v1 k)
  refine ⟨s5 v B.w.toNat, si.1, si.2, ?_⟩
  have e : cds B (s5 v B.w.toNat) = cde v B.w.toNat := sumTo_congr (fun k a b => by rw [s5_dig (fun k _ _ => v1 k) k a b])
  have c := (cde_cnt (v := v) (n := B.w.toNat) (by omega) (fun k _ _ => v1 k)).1
  have c1 : cnt v 1 B.w.toNat = x / 1 % 7 := v2 1 (by omega) (by omega)
  have c2 : cnt v 2 B.w.toNat = x / 7 % 7 := v2 2 (by omega) (by omega)
  have c3 : cnt v 3 B.w.toNat = x / 49 % 7 := v2 3 (by omega) (by omega)
  have c4 : cnt v 4 B.w.toNat = x / 343 % 7 := v2 4 (by omega) (by omega)
  rw [e, c, c1, c2, c3, c4]
  exact dig7 hx
theorem vld_cds {s : Int} (ho : B.ok) : vld B.w (cds B s) := by
  have o := ho.1
  have a := cde_cnt (v := vs s) (n := B.w.toNat) (by omega) (fun k _ _ => vs_in s k)
  have sa := cnt_sum (v := vs s) (n := B.w.toNat) (fun k _ _ => vs_in s k)
  have c0 := cnt_in (vs s) 0 B.w.toNat
  unfold vld cds
  rw [a.2.2.1, a.2.2.2.1, a.2.2.2.2.1, a.2.2.2.2.2]
  omega
theorem nuW_hit {W : Int} : ∀ (n : Nat) (j : Int), 0 ≤ j → j < nuW W n → ∃ m : Nat, m < n ∧ vld W m ∧ nuW W m = j := by
  intro n
  induction n with
  | zero => intro j a b; exact absurd b (by show ¬ j < 0; omega)
  | succ n ih =>
    intro j a b
    have e : nuW W (n + 1) = nuW W n + if vld W n then 1 else 0 := rfl
    by_cases q : j < nuW W n
    · obtain ⟨m, m0, m1, m2⟩ := ih j a q
      exact ⟨m, by omega, m1, m2⟩
    · by_cases v : vld W n
      · rw [if_pos v] at e
        exact ⟨n, by omega, v, by omega⟩
      · rw [if_neg v] at e; omega
theorem nmb_inj {x y : Int} (hx : 0 ≤ x) (hy : 0 ≤ y) (vx : vld B.w x) (vy : vld B.w y) (he : nmb B x = nmb B y) : x = y := by
  apply Classical.byContradiction
  intro q
  unfold nmb at he
  by_cases l : x < y
  · have := nuW_lt (W := B.w) (m := x.toNat) (n := y.toNat) (by omega) (by rw [show ((x.toNat : Nat) : Int) = x by omega]; exact vx)
    omega
  · have := nuW_lt (W := B.w) (m := y.toNat) (n := x.toNat) (by omega) (by rw [show ((y.toNat : Nat) : Int) = y by omega]; exact vy)
    omega
end CM
