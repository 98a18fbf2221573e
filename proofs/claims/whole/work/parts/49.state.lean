/-! states: digits, bits, truths -/
theorem st_ext {s t : Int} (hs : 0 ≤ s ∧ s < 1024) (ht : 0 ≤ t ∧ t < 1024) (h : ∀ e, 0 ≤ e → e < 5 → dg s e = dg t e) : s = t := by
  have h0 := h 0 (by decide) (by decide)
  have h1 := h 1 (by decide) (by decide)
  have h2 := h 2 (by decide) (by decide)
  have h3 := h 3 (by decide) (by decide)
  have h4 := h 4 (by decide) (by decide)
  unfold dg at h0 h1 h2 h3 h4
  rw [show (4 : Int) ^ (0 : Int).toNat = 1 by decide] at h0
  rw [show (4 : Int) ^ (1 : Int).toNat = 4 by decide] at h1
  rw [show (4 : Int) ^ (2 : Int).toNat = 16 by decide] at h2
  rw [show (4 : Int) ^ (3 : Int).toNat = 64 by decide] at h3
  rw [show (4 : Int) ^ (4 : Int).toNat = 256 by decide] at h4
  omega
theorem ori_fact : ∀ s, s < 1024 → ∀ d, d < 5 → s / 4 ^ d % 4 = 0 → ∀ k, k < 4 → s ||| k * 4 ^ d = s + k * 4 ^ d := by decide +kernel
theorem iI_orT {s e k : Int} (hs : 0 ≤ s ∧ s < 1024) (he : 0 ≤ e ∧ e < 5) (h0 : dg s e = 0) (hk : 0 ≤ k ∧ k ≤ 3) : iI s ||| iI (k * 4 ^ e.toNat) = iI (s + k * 4 ^ e.toNat) := by
  obtain ⟨a, rfl⟩ := nats hs.1
  obtain ⟨b, rfl⟩ := nats he.1
  obtain ⟨c, rfl⟩ := nats hk.1
  rw [dg_nat] at h0
  rw [Int.toNat_natCast, ← p4c, ← Int.natCast_mul, iI_or, ori_fact a (by omega) b (by omega) (by omega) c (by omega), ← Int.natCast_add]
/-- a state by its digits -/
def dsm (x : Int → Int) (n : Nat) : Int := sumTo (fun i => x i * 4 ^ i.toNat) n
theorem dsm_in {x : Int → Int} {n : Nat} (hx : ∀ i : Int, 0 ≤ i → i < n → 0 ≤ x i ∧ x i ≤ 3) (hn : n ≤ 5) : (0 ≤ dsm x n ∧ dsm x n < 1024) ∧ ∀ j, 0 ≤ j → j < 5 → dg (dsm x n) j = if j < n then x j else 0 := by
  induction n with
  | zero =>
    refine ⟨by show (0 : Int) ≤ 0 ∧ (0 : Int) < 1024; decide, fun j a b => ?_⟩
    rw [if_neg (by omega)]
    show (0 : Int) / 4 ^ j.toNat % 4 = 0
    simp
  | succ n ih =>
    have i := ih (fun i a b => hx i a (by omega)) (by omega)
    have xn := hx n (by omega) (by omega)
    have e : dsm x (n + 1) = dsm x n + x n * 4 ^ ((n : Int)).toNat := rfl
    have z := i.2 n (by omega) (by omega)
    rw [if_neg (by omega)] at z
    by_cases q : x n = 0
    · rw [e, q, Int.zero_mul, Int.add_zero]
      refine ⟨i.1, fun j a b => ?_⟩
      rw [i.2 j a b]
      by_cases q2 : j = n
      · rw [if_neg (by omega), if_pos (by omega), q2, q]
      · by_cases q3 : j < n
        · rw [if_pos q3, if_pos (by omega)]
        · rw [if_neg q3, if_neg (by omega)]
    · have t := tel_in (s := dsm x n) (e := n) (k := x n - 1) i.1 (by omega) z (by omega)
      have e2 : tel (dsm x n) n (x n - 1) = dsm x (n + 1) := by unfold tel; rw [e, show x n - 1 + 1 = x n by omega]
      rw [e2] at t
      refine ⟨by omega, fun j a b => ?_⟩
      rw [t.2.2 j a b]
      by_cases q2 : j = n
      · rw [if_pos q2, if_pos (by omega), q2]; omega
      · rw [if_neg q2, i.2 j a b]
        by_cases q3 : j < n
        · rw [if_pos q3, if_pos (by omega)]
        · rw [if_neg q3, if_neg (by omega)]
/-! bits of two numbers -/
def lnd (a b : Int) : Int := ((a.toNat &&& b.toNat : Nat) : Int)
def lor (a b : Int) : Int := ((a.toNat ||| b.toNat : Nat) : Int)
theorem iI_lnd {a b : Int} (ha : 0 ≤ a) (hb : 0 ≤ b) : iI a &&& iI b = iI (lnd a b) := by
  obtain ⟨x, rfl⟩ := nats ha
  obtain ⟨y, rfl⟩ := nats hb
  rw [iI_and]; rfl
theorem iI_lor {a b : Int} (ha : 0 ≤ a) (hb : 0 ≤ b) : iI a ||| iI b = iI (lor a b) := by
  obtain ⟨x, rfl⟩ := nats ha
  obtain ⟨y, rfl⟩ := nats hb
  rw [iI_or]; rfl
theorem dig_and (a b k : Nat) : (a &&& b) / 4 ^ k % 4 = (a / 4 ^ k % 4) &&& (b / 4 ^ k % 4) := by
  have e : (4 : Nat) ^ k = 2 ^ (2 * k) := by rw [Nat.pow_mul]
  rw [e, ← Nat.shiftRight_eq_div_pow, ← Nat.shiftRight_eq_div_pow, ← Nat.shiftRight_eq_div_pow, Nat.shiftRight_and_distrib]
  exact Nat.and_mod_two_pow (n := 2)
theorem dig_or (a b k : Nat) : (a ||| b) / 4 ^ k % 4 = (a / 4 ^ k % 4) ||| (b / 4 ^ k % 4) := by
  have e : (4 : Nat) ^ k = 2 ^ (2 * k) := by rw [Nat.pow_mul]
  rw [e, ← Nat.shiftRight_eq_div_pow, ← Nat.shiftRight_eq_div_pow, ← Nat.shiftRight_eq_div_pow, Nat.shiftRight_or_distrib]
  exact Nat.or_mod_two_pow (n := 2)
theorem dg_toNat {a e : Int} (ha : 0 ≤ a) (he : 0 ≤ e) : (dg a e).toNat = a.toNat / 4 ^ e.toNat % 4 := by
  obtain ⟨x, rfl⟩ := nats ha
  obtain ⟨k, rfl⟩ := nats he
  rw [dg_nat]; rfl
theorem dg_lnd {a b e : Int} (ha : 0 ≤ a) (hb : 0 ≤ b) (he : 0 ≤ e) : dg (lnd a b) e = lnd (dg a e) (dg b e) := by
  obtain ⟨k, rfl⟩ := nats he
  unfold lnd
  rw [dg_nat, dig_and, dg_toNat ha (by omega), dg_toNat hb (by omega)]; rfl
theorem dg_lor {a b e : Int} (ha : 0 ≤ a) (hb : 0 ≤ b) (he : 0 ≤ e) : dg (lor a b) e = lor (dg a e) (dg b e) := by
  obtain ⟨k, rfl⟩ := nats he
  unfold lor
  rw [dg_nat, dig_or, dg_toNat ha (by omega), dg_toNat hb (by omega)]; rfl
theorem lnd_in {a b : Int} (ha : 0 ≤ a ∧ a < 1024) : 0 ≤ lnd a b ∧ lnd a b < 1024 := by
  have : a.toNat &&& b.toNat ≤ a.toNat := Nat.and_le_left
  unfold lnd; omega
theorem lor_in {a b : Int} (ha : 0 ≤ a ∧ a < 1024) (hb : 0 ≤ b ∧ b < 1024) : 0 ≤ lor a b ∧ lor a b < 1024 := by
  have : a.toNat ||| b.toNat < 2 ^ 10 := Nat.or_lt_two_pow (by omega) (by omega)
  unfold lor; omega
theorem lnd3 {x : Int} (hx : 0 ≤ x ∧ x ≤ 3) : lnd x 3 = x ∧ lnd 3 x = x ∧ lnd x 0 = 0 ∧ lnd 0 x = 0 ∧ lor x 0 = x ∧ lor 0 x = x ∧ lor x x = x := by
  have : x = 0 ∨ x = 1 ∨ x = 2 ∨ x = 3 := by omega
  rcases this with rfl | rfl | rfl | rfl <;> decide
/-- both bits of each doubt that is open -/
def unsN (s : Nat) : Nat := (if s / 1 % 4 = 0 then 3 else 0) + (if s / 4 % 4 = 0 then 12 else 0) + (if s / 16 % 4 = 0 then 48 else 0) + (if s / 64 % 4 = 0 then 192 else 0) + (if s / 256 % 4 = 0 then 768 else 0)
theorem uns_fact : ∀ s, s < 1024 → (iI 341 &&& (((iI ((s : Nat) : Int) ||| (iI ((s : Nat) : Int) >>> (iI 1 &&& 31))) &&& iI 341) ^^^ iI (-1))) * iI 3 = iI ((unsN s : Nat) : Int) := by decide +kernel
theorem uns_dg : ∀ s, s < 1024 → unsN s < 1024 ∧ ∀ e, e < 5 → unsN s / 4 ^ e % 4 = if s / 4 ^ e % 4 = 0 then 3 else 0 := by decide +kernel
def uns (s : Int) : Int := ((unsN s.toNat : Nat) : Int)
theorem uns_in {s : Int} (hs : 0 ≤ s ∧ s < 1024) : (0 ≤ uns s ∧ uns s < 1024) ∧ ∀ e, 0 ≤ e → e < 5 → dg (uns s) e = if dg s e = 0 then 3 else 0 := by
  obtain ⟨a, rfl⟩ := nats hs.1
  have f := uns_dg a (by omega)
  unfold uns
  rw [Int.toNat_natCast]
  refine ⟨by omega, fun e e0 e1 => ?_⟩
  obtain ⟨k, rfl⟩ := nats e0
  rw [dg_nat, dg_nat, f.2 k (by omega)]
  by_cases q : a / 4 ^ k % 4 = 0
  · rw [if_pos q, if_pos (by omega)]; rfl
  · rw [if_neg q, if_neg (by omega)]; rfl
/-! the state that is known, truths -/
def kix (M : XM) (e : Int) : Int := fst1 (fun k => decide (chc M e k = M.kn e)) (mny M e).toNat 0
def sta (M : XM) : Int := dsm (fun e => kix M e + 1) M.nd.toNat
def trs (M : XM) : Nat → Int → Int → Int
  | 0, s, _ => s
  | e + 1, s, r => if M.kn e = -1 then trs M e (s + (r % mny M e + 1) * 4 ^ ((e : Int)).toNat) (r / mny M e) else trs M e s r
def ful (M : XM) (t : Int) : Int := trs M M.nd.toNat (sta M) t
def trm (M : XM) : Int := prodTo (fun e => if M.kn e = -1 then mny M e else 1) M.nd.toNat
section ST1
variable {M : XM} {G : Int}
theorem kix_in {e : Int} (hm : M.ok G) (he : 0 ≤ e ∧ e < M.nd) : -1 ≤ kix M e ∧ kix M e < mny M e ∧ (kix M e = -1 ↔ M.kn e = -1) ∧ (0 ≤ kix M e → chc M e (kix M e) = M.kn e) := by
  have om := mny_in hm he
  have ok := (hm.2.2.1 e he.1 he.2).2.2.2
  unfold kix
  rcases fst1_spec (f := fun k => decide (chc M e k = M.kn e)) (mny M e).toNat 0 with ⟨q, f⟩ | ⟨a, b, c, f⟩
  · refine ⟨by omega, by omega, ⟨fun _ => ?_, fun _ => q⟩, fun z => by omega⟩
    rcases ok with k | ⟨k0, k1, k2⟩
    · exact k
    · exfalso
      have o := hm.1
      have mem : M.kn e ∈ chs (M.wt e) 8 := by
        have gen : ∀ n : Nat, M.kn e < n → M.kn e ∈ chs (M.wt e) n := by
          intro n
          induction n with
          | zero => intro q; omega
          | succ n ih =>
            intro q
            unfold chs
            by_cases z : M.kn e = n
            · rw [← z, if_pos k2]; exact List.mem_append_right _ (List.mem_singleton.mpr rfl)
            · have := ih (by omega)
              split
              · exact List.mem_append_left _ this
              · exact this
        exact gen 8 (by omega)
      obtain ⟨i, hi, e1⟩ := List.getElem_of_mem mem
      have f1 := f i (by omega) (by unfold mny; omega)
      have e2 : chc M e i = M.kn e := by
        unfold chc
        rw [Int.toNat_natCast, List.getD_eq_getElem?_getD, List.getElem?_eq_getElem hi]
        exact e1
      simp [e2] at f1
  · simp only [decide_eq_true_eq] at c
    refine ⟨by omega, by omega, ⟨fun z => by omega, fun z => ?_⟩, fun _ => c⟩
    have := chc_in hm he (i := fst1 (fun k => decide (chc M e k = M.kn e)) (mny M e).toNat 0) (by omega)
    omega
theorem sta_in (hm : M.ok G) : (0 ≤ sta M ∧ sta M < 1024) ∧ ∀ j, 0 ≤ j → j < 5 → dg (sta M) j = if j < M.nd then kix M j + 1 else 0 := by
  have o := hm.1
  have := dsm_in (x := fun e => kix M e + 1) (n := M.nd.toNat) (fun i a b => by
    have k := kix_in hm (e := i) (by omega)
    have m := mny_in hm (e := i) (by omega)
    omega) (by omega)
  refine ⟨this.1, fun j a b => ?_⟩
  have t := this.2 j a b
  by_cases q : j < M.nd
  · rw [if_pos q]; rw [if_pos (by omega)] at t; exact t
  · rw [if_neg q]; rw [if_neg (by omega)] at t; exact t
end ST1
section SA
variable {d : Nat} {h : XH} {K : Int32 → XH → Prop} {KL64 : Int64 → XH → Prop} {KU : XH → Prop} {rb ca : Nat} {M : XM} {G : Int}
theorem v_iorT {m pc len ra rb rc rw : Nat} {ls st : List Value} {Q : Option Value → XH → Prop} {s e k : Int} (r : xrow m pc = some (.ior, len, ra, rb, rc, rw)) (hs : 0 ≤ s ∧ s < 1024) (he : 0 ≤ e ∧ e < 5) (h0 : dg s e = 0) (hk : 0 ≤ k ∧ k ≤ 3) (kk : XW d m (pc + 1) ls (.int (iI (s + k * 4 ^ e.toNat)) :: st) h Q) : XW d m pc ls (.int (iI (k * 4 ^ e.toNat)) :: .int (iI s) :: st) h Q := w_ior r (by rw [iI_orT hs he h0 hk]; exact kk)
theorem v_iandN {m pc len ra rb rc rw : Nat} {ls st : List Value} {Q : Option Value → XH → Prop} {s e : Int} (r : xrow m pc = some (.iand, len, ra, rb, rc, rw)) (hs : 0 ≤ s) (he : 0 ≤ e) (kk : XW d m (pc + 1) ls (.int (iI (lnd s e)) :: st) h Q) : XW d m pc ls (.int (iI e) :: .int (iI s) :: st) h Q := w_iand r (by rw [iI_lnd hs he]; exact kk)
theorem v_iorN {m pc len ra rb rc rw : Nat} {ls st : List Value} {Q : Option Value → XH → Prop} {s e : Int} (r : xrow m pc = some (.ior, len, ra, rb, rc, rw)) (hs : 0 ≤ s) (he : 0 ≤ e) (kk : XW d m (pc + 1) ls (.int (iI (lor s e)) :: st) h Q) : XW d m pc ls (.int (iI e) :: .int (iI s) :: st) h Q := w_ior r (by rw [iI_lor hs he]; exact kk)
theorem c_knownBits {e : Int} (hL : Lay h) (hP : CMp h M) (hm : M.ok G) (he : 0 ≤ e ∧ e < M.nd) (kk : K (iI ((kix M e + 1) * 4 ^ e.toNat)) h) : XW (d + 1) 57 0 [.ref 80, .int (iI e), .null] [] h (KI K) := by
  have o := hm.1
  have om := mny_in hm he
  have ch := hP.ch he
  have e90 : gI h 89 e.toNat = iI (mny M e) := by rw [gI_A, ch.1]
  have e89 : ∀ i, 0 ≤ i → i < mny M e → gI h 88 (e * 3 + i).toNat = iI (chc M e i) := fun i a b => by rw [gI_A, ch.2.2 i a b]
  have e87 : gI h 86 e.toNat = iI (M.kn e) := by rw [gI_A, (hP.2.2.1 e he.1 he.2).1]
  have kn := (hm.2.2.1 e he.1 he.2).2.2.2
  unfold kix at kk
  have key : ∀ i : Nat, i ≤ (mny M e).toNat → K (iI ((fst1 (fun k => decide (chc M e k = M.kn e)) ((mny M e).toNat - i) i + 1) * 4 ^ e.toNat)) h → XW (d + 1) 57 2 [.ref 80, .int (iI e), .int (iI i)] [] h (KI K) := by
    refine upto _ ?_ ?_
    · intro kk
      rw [Nat.sub_self] at kk
      refine w_iload2 r_57_2 ?_
      refine w_aload0 r_57_3 ?_
      refine w_getA (x := 89) r_57_4 (Lk_80 hL) (Lr_80_13 hL) (by decide) ?_
      refine w_iload1 r_57_7 ?_
      refine v_iald r_57_8 (Lk_89 hL) (Lz_89 hL) (by decide) (by omega) e90 ?_
      refine v_ic_ge r_57_9 (by first | exact zF_in _ _ _ | exact zA_in _ _ _ | omega) (by first | exact zF_in _ _ _ | exact zA_in _ _ _ | omega) (fun _ => ?_) (fun q => absurd q (by omega))
      refine w_iconst (v := iI (0)) r_57_44 rfl ?_
      refine w_iret r_57_45 ?_
      rw [show (fst1 (fun k => decide (chc M e k = M.kn e)) 0 ((mny M e).toNat : Int) + 1) * 4 ^ e.toNat = 0 by show (-1 + 1 : Int) * _ = 0; omega] at kk
      exact kk
    · intro i hi ih kk
      rw [show (mny M e).toNat - i = ((mny M e).toNat - (i + 1)) + 1 by omega] at kk
      unfold fst1 at kk
      have ci := chc_in hm he (i := i) (by omega)
      refine w_iload2 r_57_2 ?_
      refine w_aload0 r_57_3 ?_
      refine w_getA (x := 89) r_57_4 (Lk_80 hL) (Lr_80_13 hL) (by decide) ?_
      refine w_iload1 r_57_7 ?_
      refine v_iald r_57_8 (Lk_89 hL) (Lz_89 hL) (by decide) (by omega) e90 ?_
      refine v_ic_ge r_57_9 (by first | exact zF_in _ _ _ | exact zA_in _ _ _ | omega) (by first | exact zF_in _ _ _ | exact zA_in _ _ _ | omega) (fun q => absurd q (by omega)) (fun _ => ?_)
      refine w_aload0 r_57_12 ?_
      refine w_getA (x := 88) r_57_13 (Lk_80 hL) (Lr_80_12 hL) (by decide) ?_
      refine w_iload1 r_57_16 ?_
      refine w_iconst (v := iI (3)) r_57_17 rfl ?_
      refine v_imul r_57_18 ?_
      refine w_iload2 r_57_19 ?_
      refine v_iadd r_57_20 ?_
      refine v_iald r_57_21 (Lk_88 hL) (Lz_88 hL) (by decide) (by omega) (e89 i (by omega) (by omega)) ?_
      refine w_aload0 r_57_22 ?_
      refine w_getA (x := 86) r_57_23 (Lk_80 hL) (Lr_80_10 hL) (by decide) ?_
      refine w_iload1 r_57_26 ?_
      refine v_iald r_57_27 (Lk_86 hL) (Lz_86 hL) (by decide) (by omega) e87 ?_
      refine v_ic_ne r_57_28 (by first | exact zF_in _ _ _ | exact zA_in _ _ _ | omega) (by first | exact zF_in _ _ _ | exact zA_in _ _ _ | omega) (fun c28 => ?_) (fun c28 => ?_)
      · refine w_iinc2 r_57_38 rfl (iI_add _ _) ?_
        refine w_goto r_57_41 ?_
        rw [if_neg (by simpa using c28)] at kk
        exact ih kk
      · refine w_aload0 r_57_31 ?_
        refine w_iload1 r_57_32 ?_
        refine w_iload2 r_57_33 ?_
        refine k_58 r_57_34 (Lk_80 hL) (Nat.le_of_ble_eq_true rfl) ?_
        refine c_stateBits (by omega) (by omega) ?_
        refine w_iret r_57_37 ?_
        rw [if_pos (by simpa using c28)] at kk
        exact kk
  refine w_iconst (v := iI (0)) r_57_0 rfl ?_
  refine w_istore2 r_57_1 rfl ?_
  exact key 0 (by omega) (by rw [Nat.sub_zero]; exact kk)
theorem c_startState (hL : Lay h) (hP : CMp h M) (hm : M.ok G) (kk : K (iI (sta M)) h) : XW (d + 2) 56 0 [.ref 80, .null, .null] [] h (KI K) := by
  have o := hm.1
  have e3 : gI h 80 3 = iI M.nd := by rw [gI_F, hP.1.2.2.2]
  have key : ∀ i : Nat, i ≤ M.nd.toNat → XW (d + 2) 56 4 [.ref 80, .int (iI (dsm (fun e => kix M e + 1) i)), .int (iI i)] [] h (KI K) := by
    refine upto _ ?_ ?_
    · refine w_iload2 r_56_4 ?_
      refine w_aload0 r_56_5 ?_
      refine v_getI r_56_6 (Lk_80 hL) e3 ?_
      refine v_ic_ge r_56_9 (by first | exact zF_in _ _ _ | exact zA_in _ _ _ | omega) (by first | exact zF_in _ _ _ | exact zA_in _ _ _ | omega) (fun _ => ?_) (fun q => absurd q (by omega))
      refine w_iload1 r_56_26 ?_
      refine w_iret r_56_27 ?_
      exact kk
    · intro i hi ih
      have ki := kix_in hm (e := i) (by omega)
      have om := mny_in hm (e := i) (by omega)
      have di := dsm_in (x := fun e => kix M e + 1) (n := i) (fun j a b => by
        have k := kix_in hm (e := j) (by omega)
        have m := mny_in hm (e := j) (by omega)
        omega) (by omega)
      have z := di.2 i (by omega) (by omega)
      rw [if_neg (by omega)] at z
      refine w_iload2 r_56_4 ?_
      refine w_aload0 r_56_5 ?_
      refine v_getI r_56_6 (Lk_80 hL) e3 ?_
      refine v_ic_ge r_56_9 (by first | exact zF_in _ _ _ | exact zA_in _ _ _ | omega) (by first | exact zF_in _ _ _ | exact zA_in _ _ _ | omega) (fun q => absurd q (by omega)) (fun _ => ?_)
      refine w_iload1 r_56_12 ?_
      refine w_aload0 r_56_13 ?_
      refine w_iload2 r_56_14 ?_
      refine k_57 r_56_15 (Lk_80 hL) (Nat.le_of_ble_eq_true rfl) ?_
      refine c_knownBits hL hP hm (by omega) ?_
      refine v_iorT (hs := di.1) (he := by omega) (h0 := z) (hk := by omega) r_56_18 ?_
      refine w_istore1 r_56_19 rfl ?_
      refine w_iinc2 r_56_20 rfl (iI_add _ _) ?_
      refine w_goto r_56_23 ?_
      exact ih
  refine w_iconst (v := iI (0)) r_56_0 rfl ?_
  refine w_istore1 r_56_1 rfl ?_
  refine w_iconst (v := iI (0)) r_56_2 rfl ?_
  refine w_istore2 r_56_3 rfl ?_
  exact key 0 (by omega)
theorem c_groundIn {s e : Int} (hL : Lay h) (hP : CMp h M) (hm : M.ok G) (hs : 0 ≤ s ∧ s < 1024) (he : 0 ≤ e ∧ e < M.nd) (hd : dg s e ≤ mny M e) (kk : K (iI (if dg s e = 0 then -1 else chc M e (dg s e - 1))) h) : XW (d + 1) 61 0 [.ref 80, .int (iI s), .int (iI e), .null] [] h (KI K) := by
  have o := hm.1
  have om := mny_in hm he
  have ch := hP.ch he
  have di := dg_in s e
  have e89 : 0 < dg s e → gI h 88 (e * 3 + (dg s e - 1)).toNat = iI (chc M e (dg s e - 1)) := fun q => by rw [gI_A, ch.2.2 _ (by omega) (by omega)]
  refine w_aload0 r_61_0 ?_
  refine w_iload1 r_61_1 ?_
  refine w_iload2 r_61_2 ?_
  refine k_60 r_61_3 (Lk_80 hL) (Nat.le_of_ble_eq_true rfl) ?_
  refine c_choiceIn (by omega) (by omega) ?_
  refine w_istore3 r_61_6 rfl ?_
  refine w_iload3 r_61_7 ?_
  refine v_if_ge r_61_8 (by first | exact zF_in _ _ _ | exact zA_in _ _ _ | omega) (fun c8 => ?_) (fun c8 => ?_)
  · refine w_aload0 r_61_15 ?_
    refine w_getA (x := 88) r_61_16 (Lk_80 hL) (Lr_80_12 hL) (by decide) ?_
    refine w_iload2 r_61_19 ?_
    refine w_iconst (v := iI (3)) r_61_20 rfl ?_
    refine v_imul r_61_21 ?_
    refine w_iload3 r_61_22 ?_
    refine v_iadd r_61_23 ?_
    refine v_iald r_61_24 (Lk_88 hL) (Lz_88 hL) (by decide) (by omega) (e89 (by omega)) ?_
    refine w_iret r_61_25 ?_
    first | (rw [if_pos (by omega)] at kk; exact kk) | (rw [if_neg (by omega)] at kk; exact kk)
  · refine w_iconst (v := iI (-1)) r_61_11 rfl ?_
    refine w_goto r_61_12 ?_
    refine w_iret r_61_25 ?_
    first | (rw [if_pos (by omega)] at kk; exact kk) | (rw [if_neg (by omega)] at kk; exact kk)
theorem c_unseen {s : Int} (hs : 0 ≤ s ∧ s < 1024) (kk : K (iI (uns s)) h) : XW d 62 0 [.ref 80, .int (iI s), .null] [] h (KI K) := by
  have f := uns_fact s.toNat (by omega)
  rw [show ((s.toNat : Nat) : Int) = s by omega] at f
  have kk' : K (iI 341 &&& (((iI s ||| (iI s >>> (iI 1 &&& 31))) &&& iI 341) ^^^ iI (-1)) * iI 3) h → K (iI (uns s)) h := fun q => kk
  refine w_iload1 r_62_0 ?_
  refine w_iload1 r_62_1 ?_
  refine w_iconst (v := iI 1) r_62_2 rfl ?_
  refine w_ishr r_62_3 ?_
  refine w_ior r_62_4 ?_
  refine w_sipush (v := iI 341) r_62_5 rfl ?_
  refine w_iand r_62_8 ?_
  refine w_istore2 r_62_9 rfl ?_
  refine w_sipush (v := iI 341) r_62_10 rfl ?_
  refine w_iload2 r_62_13 ?_
  refine w_iconst (v := iI (-1)) r_62_14 rfl ?_
  refine w_ixor r_62_15 ?_
  refine w_iand r_62_16 ?_
  refine w_iconst (v := iI 3) r_62_17 rfl ?_
  refine w_imul r_62_18 ?_
  refine w_iret r_62_19 ?_
  rw [f]
  exact kk
theorem c_totalWeight {s : Int} (hL : Lay h) (hP : CMp h M) (hm : M.ok G) (hs : 0 ≤ s ∧ s < 1024) (kk : KL64 (iL (prodTo (fun e => if dg s e = 0 then sumTo (M.wt e) 8 else 1) M.nd.toNat)) h) : XW (d + 1) 63 0 [.ref 80, .int (iI s), .null, .null, .null] [] h (KL KL64) := by
  have o := hm.1
  have e3 : gI h 80 3 = iI M.nd := by rw [gI_F, hP.1.2.2.2]
  have key : ∀ i : Nat, i ≤ M.nd.toNat → XW (d + 1) 63 5 [.ref 80, .int (iI s), .long (iL (prodTo (fun e => if dg s e = 0 then sumTo (M.wt e) 8 else 1) i)), .null, .int (iI i)] [] h (KL KL64) := by
    refine upto _ ?_ ?_
    · refine w_iload4 r_63_5 ?_
      refine w_aload0 r_63_7 ?_
      refine v_getI r_63_8 (Lk_80 hL) e3 ?_
      refine v_ic_ge r_63_11 (by first | exact zF_in _ _ _ | exact zA_in _ _ _ | omega) (by first | exact zF_in _ _ _ | exact zA_in _ _ _ | omega) (fun _ => ?_) (fun q => absurd q (by omega))
      refine w_lload2 r_63_41 ?_
      refine w_lret r_63_42 ?_
      exact kk
    · intro i hi ih
      have di := dg_in s i
      have e91 : gI h 90 ((i : Int)).toNat = iI (sumTo (M.wt i) 8) := by rw [gI_A, (hP.ch (e := i) (by omega)).2.1]
      have w8 := sumTo_in (f := M.wt i) (b := 9) (n := 8) (fun g a b => by
        have := hm.2.2.2.1 i (by omega) (by omega) g a (by omega); omega)
      have e : prodTo (fun e => if dg s e = 0 then sumTo (M.wt e) 8 else 1) (i + 1) = prodTo (fun e => if dg s e = 0 then sumTo (M.wt e) 8 else 1) i * if dg s i = 0 then sumTo (M.wt i) 8 else 1 := rfl
      rw [e] at ih
      refine w_iload4 r_63_5 ?_
      refine w_aload0 r_63_7 ?_
      refine v_getI r_63_8 (Lk_80 hL) e3 ?_
      refine v_ic_ge r_63_11 (by first | exact zF_in _ _ _ | exact zA_in _ _ _ | omega) (by first | exact zF_in _ _ _ | exact zA_in _ _ _ | omega) (fun q => absurd q (by omega)) (fun _ => ?_)
      refine w_aload0 r_63_14 ?_
      refine w_iload1 r_63_15 ?_
      refine w_iload4 r_63_16 ?_
      refine k_60 r_63_18 (Lk_80 hL) (Nat.le_of_ble_eq_true rfl) ?_
      refine c_choiceIn (by omega) (by omega) ?_
      refine v_if_ge r_63_21 (by first | exact zF_in _ _ _ | exact zA_in _ _ _ | omega) (fun c21 => ?_) (fun c21 => ?_)
      · refine w_iinc4 r_63_35 rfl (iI_add _ _) ?_
        refine w_goto r_63_38 ?_
        first | (rw [if_pos (by omega)] at ih; exact ih) | (rw [if_neg (by omega), Int.mul_one] at ih; exact ih)
      · refine w_lload2 r_63_24 ?_
        refine w_aload0 r_63_25 ?_
        refine w_getA (x := 90) r_63_26 (Lk_80 hL) (Lr_80_14 hL) (by decide) ?_
        refine w_iload4 r_63_29 ?_
        refine v_iald r_63_31 (Lk_90 hL) (Lz_90 hL) (by decide) (by omega) e91 ?_
        refine v_i2l r_63_32 (by first | exact zF_in _ _ _ | exact zA_in _ _ _ | omega) ?_
        refine v_lmul r_63_33 ?_
        refine w_lstore2 r_63_34 rfl ?_
        refine w_iinc4 r_63_35 rfl (iI_add _ _) ?_
        refine w_goto r_63_38 ?_
        first | (rw [if_pos (by omega)] at ih; exact ih) | (rw [if_neg (by omega), Int.mul_one] at ih; exact ih)
  refine w_lconst (v := iL 1) r_63_0 rfl ?_
  refine w_lstore2 r_63_1 rfl ?_
  refine w_iconst (v := iI (0)) r_63_2 rfl ?_
  refine w_istore4 r_63_3 rfl ?_
  exact key 0 (by omega)
end SA
