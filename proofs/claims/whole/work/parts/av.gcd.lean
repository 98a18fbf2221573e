/-! lowest terms -/
def ecl : Nat → Int → Int → Int
  | 0, a, _ => a
  | n + 1, a, b => if b = 0 then a else ecl n b (a % b)
def gcf (a b : Int) : Int := ecl (b.toNat + 1) a b
theorem ecl_eq : ∀ (n m : Nat) (a b : Int), 0 ≤ b → b.toNat < n → b.toNat < m → ecl n a b = ecl m a b := by
  intro n
  induction n with
  | zero => intro m a b _ h; omega
  | succ n ih =>
    intro m a b h0 hn hm
    cases m with
    | zero => omega
    | succ m =>
      unfold ecl
      by_cases q : b = 0
      · rw [if_pos q, if_pos q]
      · rw [if_neg q, if_neg q]
        have e0 := Int.emod_nonneg a q
        have e1 := Int.emod_lt_of_pos a (show 0 < b by omega)
        exact ih m b (a % b) e0 (by omega) (by omega)
theorem gcf_0 (a : Int) : gcf a 0 = a := rfl
theorem gcf_s {a b : Int} (h : 0 < b) : gcf a b = gcf b (a % b) := by
  have e0 := Int.emod_nonneg a (show b ≠ 0 by omega)
  have e1 := Int.emod_lt_of_pos a h
  have u : gcf a b = ecl b.toNat b (a % b) := by
    unfold gcf
    show (if b = 0 then a else ecl b.toNat b (a % b)) = _
    rw [if_neg (by omega)]
  rw [u]
  exact ecl_eq _ _ _ _ e0 (by omega) (by omega)
theorem ecl_in {X : Int} : ∀ (n : Nat) (a b : Int), 0 ≤ a ∧ a ≤ X → 0 ≤ b ∧ b ≤ X → b.toNat < n → 0 < a ∨ 0 < b → 0 < ecl n a b ∧ ecl n a b ≤ X := by
  intro n
  induction n with
  | zero => intro a b _ _ h; omega
  | succ n ih =>
    intro a b ha hb hn hp
    unfold ecl
    by_cases q : b = 0
    · rw [if_pos q]; omega
    · rw [if_neg q]
      have e0 := Int.emod_nonneg a q
      have e1 := Int.emod_lt_of_pos a (show 0 < b by omega)
      exact ih b (a % b) hb (by omega) (by omega) (Or.inl (by omega))
theorem gcf_in {a b X : Int} (ha : 0 ≤ a ∧ a ≤ X) (hb : 0 ≤ b ∧ b ≤ X) (hp : 0 < a ∨ 0 < b) : 0 < gcf a b ∧ gcf a b ≤ X := ecl_in _ a b ha hb (by omega) hp
/-- two turns halve -/
theorem mod_half {b r : Int} (hr : 0 < r) (hb : r < b) : 2 * (b % r) < b := by
  have e1 := Int.emod_lt_of_pos b hr
  by_cases q : 2 * r ≤ b
  · omega
  · have : b % r = b - r := by
      have : b % r = (b - r) % r := by rw [Int.sub_emod_right]
      rw [this]
      exact Int.emod_eq_of_lt (by omega) (by omega)
    omega
theorem iL_div {a b : Int} (ha : 0 ≤ a ∧ a ≤ 9223372036854775807) (hb : 0 < b ∧ b ≤ 9223372036854775807) : iL a / iL b = iL (a / b) := by
  have e0 : 0 ≤ a / b := Int.ediv_nonneg ha.1 (by omega)
  have e1 : a / b ≤ a := Int.ediv_le_self _ ha.1
  rw [← Int64.toInt_inj, Int64.toInt_div, iL_t (by omega), iL_t (by omega), iL_t (by omega), Int.tdiv_eq_ediv_of_nonneg ha.1]
  apply Int.bmod_eq_of_le
  all_goals omega
section GCR
variable {d m pc : Nat} {ls st : List Value} {h : XH} {Q : Option Value → XH → Prop} {len ra rb rc rw : Nat}
theorem v_ldiv {a b : Int} (r : xrow m pc = some (.ldiv, len, ra, rb, rc, rw)) (ha : 0 ≤ a ∧ a ≤ 9223372036854775807) (hb : 0 < b ∧ b ≤ 9223372036854775807) (k : XW d m (pc + 1) ls (.long (iL (a / b)) :: st) h Q) : XW d m pc ls (.long (iL b) :: .long (iL a) :: st) h Q := w_ldiv r (by rw [show (0 : Int64) = iL 0 from rfl, iL_inj (by omega) (by omega)]; omega) (by rw [iL_div ha hb]; exact k)
theorem v_lrem {a b : Int} (r : xrow m pc = some (.lrem, len, ra, rb, rc, rw)) (ha : 0 ≤ a ∧ a ≤ 9223372036854775807) (hb : 0 < b ∧ b ≤ 9223372036854775807) (k : XW d m (pc + 1) ls (.long (iL (a % b)) :: st) h Q) : XW d m pc ls (.long (iL b) :: .long (iL a) :: st) h Q := w_lrem r (by rw [show (0 : Int64) = iL 0 from rfl, iL_inj (by omega) (by omega)]; omega) (by
  rw [iL_div ha hb, iL_mul, iL_sub, show a - a / b * b = a % b by rw [Int.emod_def, Int.mul_comm]]
  exact k)
end GCR
section GC
variable {d : Nat} {h : XH} {K : Int64 → XH → Prop} {KU : XH → Prop}
theorem p2s (j : Nat) : (2 : Int) ^ (j + 1) = 2 * 2 ^ j := by rw [Int.pow_succ, Int.mul_comm]
/-- a part of a fraction in lowest terms -/
def lwt (a b : Int) (z : Bool) : Int := if z = true then b / gcf a b else a / gcf a b
theorem c_lowestTerms {a b : Int} {z : Bool} (ha : 0 ≤ a ∧ a ≤ 9223372036854775807) (hb : 0 < b ∧ b < 1125899906842624) (kk : K (iL (lwt a b z)) h) : XW d 161 0 [.long (iL a), .null, .long (iL b), .null, .int (iI (b2i z)), .null, .null, .null, .null, .null, .null, .null] [] h (KL K) := by
  have gi := gcf_in (X := 9223372036854775807) ha (by omega) (Or.inr hb.1)
  have bz := b2i_in z
  have fin : ∀ (i : Int) (X10 : Value), 0 ≤ i ∧ i ≤ 100 → XW d 161 44 [.long (iL a), .null, .long (iL b), .null, .int (iI (b2i z)), .long (iL (gcf a b)), .null, .long (iL 0), .null, .int (iI i), X10, .null] [] h (KL K) := by
    intro i X10 hi
    cases z with
    | true =>
      have kk : K (iL (b / gcf a b)) h := kk
      change XW d 161 44 [.long (iL a), .null, .long (iL b), .null, .int (iI 1), .long (iL (gcf a b)), .null, .long (iL 0), .null, .int (iI i), X10, .null] [] h (KL K)
      refine w_lload5 r_161_44 ?_
      refine w_lconst (v := iL 0) r_161_46 rfl ?_
      refine v_lcmp r_161_47 (by first | exact zF_in _ _ _ | exact zA_in _ _ _ | omega) (by first | exact zF_in _ _ _ | exact zA_in _ _ _ | omega) ?_
      refine v_if_gt r_161_48 (by split <;> (try split) <;> omega) (fun _ => ?_) (fun q => absurd q (by (split <;> (try split) <;> omega)))
      refine w_iload4 r_161_62 ?_
      refine v_if_eq r_161_64 (by first | exact zF_in _ _ _ | exact zA_in _ _ _ | omega) (fun q => absurd q (by omega)) (fun _ => ?_)
      refine w_lload2 r_161_67 ?_
      refine w_goto r_161_68 ?_
      refine w_lload5 r_161_72 ?_
      refine v_ldiv r_161_74 (by first | exact zF_in _ _ _ | exact zA_in _ _ _ | omega) (by omega) ?_
      refine w_lret r_161_75 ?_
      exact kk
    | false =>
      have kk : K (iL (a / gcf a b)) h := kk
      change XW d 161 44 [.long (iL a), .null, .long (iL b), .null, .int (iI 0), .long (iL (gcf a b)), .null, .long (iL 0), .null, .int (iI i), X10, .null] [] h (KL K)
      refine w_lload5 r_161_44 ?_
      refine w_lconst (v := iL 0) r_161_46 rfl ?_
      refine v_lcmp r_161_47 (by first | exact zF_in _ _ _ | exact zA_in _ _ _ | omega) (by first | exact zF_in _ _ _ | exact zA_in _ _ _ | omega) ?_
      refine v_if_gt r_161_48 (by split <;> (try split) <;> omega) (fun _ => ?_) (fun q => absurd q (by (split <;> (try split) <;> omega)))
      refine w_iload4 r_161_62 ?_
      refine v_if_eq r_161_64 (by first | exact zF_in _ _ _ | exact zA_in _ _ _ | omega) (fun _ => ?_) (fun q => absurd q (by omega))
      refine w_lload0 r_161_71 ?_
      refine w_lload5 r_161_72 ?_
      refine v_ldiv r_161_74 (by first | exact zF_in _ _ _ | exact zA_in _ _ _ | omega) (by omega) ?_
      refine w_lret r_161_75 ?_
      exact kk
  have one : ∀ (a' b' i : Int) (X10 : Value), (0 ≤ a' ∧ a' ≤ 9223372036854775807) → (0 < b' ∧ b' ≤ 9223372036854775807) → 0 ≤ i ∧ i < 100 → XW d 161 9 [.long (iL a), .null, .long (iL b), .null, .int (iI (b2i z)), .long (iL b'), .null, .long (iL (a' % b')), .null, .int (iI (i + 1)), .long (iL (a' % b')), .null] [] h (KL K) → XW d 161 9 [.long (iL a), .null, .long (iL b), .null, .int (iI (b2i z)), .long (iL a'), .null, .long (iL b'), .null, .int (iI i), X10, .null] [] h (KL K) := by
    intro a' b' i X10 h1 h2 hi J
    refine w_iload9 r_161_9 ?_
    refine w_bipush (v := iI (100)) r_161_11 rfl ?_
    refine v_ic_ge r_161_13 (by first | exact zF_in _ _ _ | exact zA_in _ _ _ | omega) (by first | exact zF_in _ _ _ | exact zA_in _ _ _ | omega) (fun q => absurd q (by omega)) (fun _ => ?_)
    refine w_lload7 r_161_16 ?_
    refine w_lconst (v := iL 0) r_161_18 rfl ?_
    refine v_lcmp r_161_19 (by first | exact zF_in _ _ _ | exact zA_in _ _ _ | omega) (by first | exact zF_in _ _ _ | exact zA_in _ _ _ | omega) ?_
    refine v_if_eq r_161_20 (by split <;> (try split) <;> omega) (fun q => absurd q (by (split <;> (try split) <;> omega))) (fun _ => ?_)
    refine w_lload5 r_161_23 ?_
    refine w_lload7 r_161_25 ?_
    refine v_lrem r_161_27 (by first | exact zF_in _ _ _ | exact zA_in _ _ _ | omega) (by omega) ?_
    refine w_lstore10 r_161_28 rfl ?_
    refine w_lload7 r_161_30 ?_
    refine w_lstore5 r_161_32 rfl ?_
    refine w_lload10 r_161_34 ?_
    refine w_lstore7 r_161_36 rfl ?_
    refine w_iinc9 r_161_38 rfl (iI_add _ _) ?_
    refine w_goto r_161_41 ?_
    exact J
  have nul : ∀ (a' i : Int) (X10 : Value), gcf a' 0 = gcf a b → (0 ≤ a' ∧ a' ≤ 9223372036854775807) → 0 ≤ i ∧ i ≤ 100 → XW d 161 9 [.long (iL a), .null, .long (iL b), .null, .int (iI (b2i z)), .long (iL a'), .null, .long (iL 0), .null, .int (iI i), X10, .null] [] h (KL K) := by
    intro a' i X10 e h1 hi
    rw [gcf_0] at e
    rw [e]
    have J := fin i X10 hi
    refine w_iload9 r_161_9 ?_
    refine w_bipush (v := iI (100)) r_161_11 rfl ?_
    refine v_ic_ge r_161_13 (by first | exact zF_in _ _ _ | exact zA_in _ _ _ | omega) (by first | exact zF_in _ _ _ | exact zA_in _ _ _ | omega) (fun c13 => ?_) (fun c13 => ?_)
    · exact J
    · refine w_lload7 r_161_16 ?_
      refine w_lconst (v := iL 0) r_161_18 rfl ?_
      refine v_lcmp r_161_19 (by first | exact zF_in _ _ _ | exact zA_in _ _ _ | omega) (by first | exact zF_in _ _ _ | exact zA_in _ _ _ | omega) ?_
      refine v_if_eq r_161_20 (by split <;> (try split) <;> omega) (fun _ => ?_) (fun q => absurd q (by (split <;> (try split) <;> omega)))
      exact J
  have loop : ∀ (j : Nat) (a' b' i : Int) (X10 : Value), (0 ≤ a' ∧ a' ≤ 9223372036854775807) → (0 ≤ b' ∧ b' < 2 ^ j) → b' ≤ 9223372036854775807 → 0 ≤ i ∧ i + 2 * j ≤ 100 → gcf a' b' = gcf a b → XW d 161 9 [.long (iL a), .null, .long (iL b), .null, .int (iI (b2i z)), .long (iL a'), .null, .long (iL b'), .null, .int (iI i), X10, .null] [] h (KL K) := by
    intro j
    induction j with
    | zero =>
      intro a' b' i X10 h1 h2 h3 hi e
      have : b' < 1 := h2.2
      have : b' = 0 := by omega
      subst this
      exact nul a' i X10 e h1 (by omega)
    | succ j ih =>
      intro a' b' i X10 h1 h2 h3 hi e
      rw [p2s] at h2
      have hi2 : 0 ≤ i ∧ i + 2 * (j : Int) + 2 ≤ 100 := by omega
      by_cases q : b' = 0
      · subst q
        exact nul a' i X10 e h1 (by omega)
      · have r0 := Int.emod_nonneg a' q
        have r1 := Int.emod_lt_of_pos a' (show 0 < b' by omega)
        rw [gcf_s (by omega)] at e
        refine one a' b' i X10 h1 (by omega) (by omega) ?_
        generalize a' % b' = r at r0 r1 e ⊢
        by_cases q2 : r = 0
        · subst q2
          exact nul b' (i + 1) _ e (by omega) (by omega)
        · have s0 := Int.emod_nonneg b' q2
          have s1 := mod_half (show 0 < r by omega) r1
          rw [gcf_s (by omega)] at e
          refine one b' r (i + 1) _ (by omega) (by omega) (by omega) ?_
          exact ih r (b' % r) (i + 1 + 1) _ (by omega) (by omega) (by omega) (by omega) e
  have J := loop 50 a b 0 .null ha (by show 0 ≤ b ∧ b < 1125899906842624; omega) (by omega) (by omega) rfl
  refine w_lload0 r_161_0 ?_
  refine w_lstore5 r_161_1 rfl ?_
  refine w_lload2 r_161_3 ?_
  refine w_lstore7 r_161_4 rfl ?_
  refine w_iconst (v := iI (0)) r_161_6 rfl ?_
  refine w_istore9 r_161_7 rfl ?_
  exact J
theorem m_common {a b : Int} (ha : 0 ≤ a ∧ a ≤ 9223372036854775807) (hb : 0 < b ∧ b ≤ 9223372036854775807) (kk : K (iL (gcf a b)) h) : XW d 230 0 [.long (iL a), .null, .long (iL b), .null, .null, .null, .null, .null, .null, .null] [] h (KL K) := by
  have loop : ∀ (n : Nat) (a' b' : Int) (X8 : Value), b' < n → (0 ≤ a' ∧ a' ≤ 9223372036854775807) → (0 ≤ b' ∧ b' ≤ 9223372036854775807) → gcf a' b' = gcf a b → XW d 230 17 [.long (iL a), .null, .long (iL b), .null, .long (iL a'), .null, .long (iL b'), .null, X8, .null] [] h (KL K) := by
    intro n
    induction n with
    | zero => intro a' b' X8 hn _ h2; omega
    | succ n ih =>
      intro a' b' X8 hn h1 h2 e
      by_cases q : b' = 0
      · subst q
        rw [gcf_0] at e
        rw [← e] at kk
        refine w_lload6 r_230_17 ?_
        refine w_lconst (v := iL 0) r_230_19 rfl ?_
        refine v_lcmp r_230_20 (by first | exact zF_in _ _ _ | exact zA_in _ _ _ | omega) (by first | exact zF_in _ _ _ | exact zA_in _ _ _ | omega) ?_
        refine v_if_eq r_230_21 (by split <;> (try split) <;> omega) (fun _ => ?_) (fun q => absurd q (by (split <;> (try split) <;> omega)))
        refine w_lload4 r_230_42 ?_
        refine w_lret r_230_44 ?_
        exact kk
      · have r0 := Int.emod_nonneg a' q
        have r1 := Int.emod_lt_of_pos a' (show 0 < b' by omega)
        rw [gcf_s (by omega)] at e
        have J := fun X8 => ih b' (a' % b') X8 (by omega) (by omega) (by omega) e
        refine w_lload6 r_230_17 ?_
        refine w_lconst (v := iL 0) r_230_19 rfl ?_
        refine v_lcmp r_230_20 (by first | exact zF_in _ _ _ | exact zA_in _ _ _ | omega) (by first | exact zF_in _ _ _ | exact zA_in _ _ _ | omega) ?_
        refine v_if_eq r_230_21 (by split <;> (try split) <;> omega) (fun q => absurd q (by (split <;> (try split) <;> omega))) (fun _ => ?_)
        refine w_lload4 r_230_24 ?_
        refine w_lload6 r_230_26 ?_
        refine v_lrem r_230_28 (by first | exact zF_in _ _ _ | exact zA_in _ _ _ | omega) (by omega) ?_
        refine w_lstore8 r_230_29 rfl ?_
        refine w_lload6 r_230_31 ?_
        refine w_lstore4 r_230_33 rfl ?_
        refine w_lload8 r_230_35 ?_
        refine w_lstore6 r_230_37 rfl ?_
        refine w_goto r_230_39 ?_
        exact J _
  have J := loop (b.toNat + 1) a b .null (by omega) ha (by omega) rfl
  refine w_lload0 r_230_0 ?_
  refine w_lconst (v := iL 0) r_230_1 rfl ?_
  refine v_lcmp r_230_2 (by first | exact zF_in _ _ _ | exact zA_in _ _ _ | omega) (by first | exact zF_in _ _ _ | exact zA_in _ _ _ | omega) ?_
  refine v_if_ge r_230_3 (by split <;> (try split) <;> omega) (fun _ => ?_) (fun q => absurd q (by (split <;> (try split) <;> omega)))
  refine w_lload0 r_230_11 ?_
  refine w_lstore4 r_230_12 rfl ?_
  refine w_lload2 r_230_14 ?_
  refine w_lstore6 r_230_15 rfl ?_
  exact J
theorem m_part {a b : Int} {z : Bool} (ha : 0 ≤ a ∧ a ≤ 9223372036854775807) (hb : 0 < b ∧ b ≤ 9223372036854775807) (kk : K (iL (lwt a b z)) h) : XW (d + 1) 231 0 [.long (iL a), .null, .long (iL b), .null, .int (iI (b2i z)), .null, .null] [] h (KL K) := by
  have gi := gcf_in (X := 9223372036854775807) ha (by omega) (Or.inr hb.1)
  cases z with
  | true =>
    have kk : K (iL (b / gcf a b)) h := kk
    change XW (d + 1) 231 0 [.long (iL a), .null, .long (iL b), .null, .int (iI 1), .null, .null] [] h (KL K)
    refine w_lload0 r_231_0 ?_
    refine w_lload2 r_231_1 ?_
    refine k_230 r_231_2 (Nat.le_of_ble_eq_true rfl) ?_
    refine m_common ha hb ?_
    refine w_lstore5 r_231_5 rfl ?_
    refine w_iload4 r_231_7 ?_
    refine v_if_eq r_231_9 (by first | exact zF_in _ _ _ | exact zA_in _ _ _ | omega) (fun q => absurd q (by omega)) (fun _ => ?_)
    refine w_lload2 r_231_12 ?_
    refine w_lload5 r_231_13 ?_
    refine v_ldiv r_231_15 (by first | exact zF_in _ _ _ | exact zA_in _ _ _ | omega) (by omega) ?_
    refine w_goto r_231_16 ?_
    refine w_lret r_231_23 ?_
    exact kk
  | false =>
    have kk : K (iL (a / gcf a b)) h := kk
    change XW (d + 1) 231 0 [.long (iL a), .null, .long (iL b), .null, .int (iI 0), .null, .null] [] h (KL K)
    refine w_lload0 r_231_0 ?_
    refine w_lload2 r_231_1 ?_
    refine k_230 r_231_2 (Nat.le_of_ble_eq_true rfl) ?_
    refine m_common ha hb ?_
    refine w_lstore5 r_231_5 rfl ?_
    refine w_iload4 r_231_7 ?_
    refine v_if_eq r_231_9 (by first | exact zF_in _ _ _ | exact zA_in _ _ _ | omega) (fun _ => ?_) (fun q => absurd q (by omega))
    refine w_lload0 r_231_19 ?_
    refine w_lload5 r_231_20 ?_
    refine v_ldiv r_231_22 (by first | exact zF_in _ _ _ | exact zA_in _ _ _ | omega) (by omega) ?_
    refine w_lret r_231_23 ?_
    exact kk
end GC
