/-! a step: what it needs, how much it slips, what it costs -/
def XB.load (B : XB) : Int := B.wt / B.w
def ned (B : XB) (dd rise g : Int) : Int := max 0 (B.wt * (rise + B.sink g B.load) / 10 + dd * B.load * B.dr)
def hld (B : XB) (dd : Int) : Int := B.load * (B.w - dd)
def fst1 (f : Int → Bool) : Nat → Int → Int
  | 0, _ => -1
  | m + 1, s => if f s then s else fst1 f m (s + 1)
def slp (B : XB) (dd n g : Int) : Int := fst1 (fun s => decide (n ≤ hld B dd * B.grip g s)) 91 0
theorem fst1_in {f : Int → Bool} : ∀ (m : Nat) (s : Int), fst1 f m s = -1 ∨ (s ≤ fst1 f m s ∧ fst1 f m s < s + m) := by
  intro m
  induction m with
  | zero => intro s; exact Or.inl rfl
  | succ m ih =>
    intro s
    unfold fst1
    split
    · right; omega
    · rcases ih (s + 1) with q | q
      · exact Or.inl q
      · right; omega
theorem fst1_congr {f f' : Int → Bool} : ∀ (m : Nat) (s : Int), (∀ i, s ≤ i → i < s + m → f i = f' i) → fst1 f m s = fst1 f' m s := by
  intro m
  induction m with
  | zero => intro s _; rfl
  | succ m ih =>
    intro s hf
    unfold fst1
    rw [hf s (by omega) (by omega), ih (s + 1) (fun i a b => hf i (by omega) (by omega))]
theorem slp_in (B : XB) (dd n g : Int) : -1 ≤ slp B dd n g ∧ slp B dd n g ≤ 90 := by
  have := fst1_in (f := fun s => decide (n ≤ hld B dd * B.grip g s)) 91 0
  unfold slp
  omega
theorem XB.load_in {B : XB} (ho : B.ok) : 0 ≤ B.load ∧ B.load ≤ 499 := by
  have o := ho.1
  unfold XB.load
  refine ⟨Int.ediv_nonneg (by omega) (by omega), ?_⟩
  have h1 : B.wt / B.w < 500 := Int.ediv_lt_of_lt_mul (by omega) (by
    have : 500 * 2 ≤ 500 * B.w := Int.mul_le_mul_of_nonneg_left (by omega) (by decide)
    omega)
  omega
theorem hld_in {B : XB} {dd : Int} (ho : B.ok) (hd : 0 ≤ dd ∧ dd < B.w) : 0 ≤ hld B dd ∧ hld B dd ≤ 2994 := by
  have o := ho.1
  have := mul_in (a := B.load) (b := B.w - dd) (A := 499) (B := 6) (B.load_in ho) (by omega)
  exact this
theorem ned_parts {B : XB} {dd rise g : Int} (ho : B.ok) (hd : 0 ≤ dd ∧ dd < B.w) (hg : 0 ≤ g ∧ g < B.g) (hr : -999 ≤ rise ∧ rise ≤ 999) :
    (-1297701 ≤ B.wt * (rise + B.sink g B.load) ∧ B.wt * (rise + B.sink g B.load) ≤ 1297701) ∧ (0 ≤ dd * B.load ∧ dd * B.load ≤ 2495) ∧ (0 ≤ dd * B.load * B.dr ∧ dd * B.load * B.dr ≤ 247005) := by
  have o := ho.1
  have s := B.sink_in ho hg (x := B.load)
  have l := B.load_in ho
  have m1 := mul_pm (a := rise + B.sink g B.load) (b := B.wt) (A := 1299) (B := 999) (by omega) (by omega)
  rw [Int.mul_comm (rise + B.sink g B.load) B.wt] at m1
  have m2 := mul_in (a := dd) (b := B.load) (A := 5) (B := 499) (by omega) (by omega)
  have m3 := mul_in (a := dd * B.load) (b := B.dr) (A := 2495) (B := 99) (by omega) (by omega)
  omega
theorem ned_in {B : XB} {dd rise g : Int} (ho : B.ok) (hd : 0 ≤ dd ∧ dd < B.w) (hg : 0 ≤ g ∧ g < B.g) (hr : -999 ≤ rise ∧ rise ≤ 999) : 0 ≤ ned B dd rise g ∧ ned B dd rise g ≤ 400000 := by
  have p := ned_parts ho hd hg hr
  unfold ned
  generalize B.wt * (rise + B.sink g B.load) = u at *
  omega
section ST
variable {d : Nat} {h : XH} {K : Int32 → XH → Prop} {KU : XH → Prop} {rb ca : Nat} {B : XB} {dd : Int}
theorem e22 (hQ : MBk h B) : gI h 118 22 = iI B.g := by rw [gI_F, hQ.1.1]
theorem e23 (hQ : MBk h B) : gI h 118 23 = iI B.t := by rw [gI_F, hQ.1.2.1]
theorem e24 (hQ : MBk h B) : gI h 118 24 = iI B.w := by rw [gI_F, hQ.1.2.2.1]
theorem e25 (hQ : MBk h B) : gI h 118 25 = iI B.wt := by rw [gI_F, hQ.1.2.2.2.1]
theorem e26 (hQ : MBk h B) : gI h 118 26 = iI B.cl := by rw [gI_F, hQ.1.2.2.2.2.1]
theorem e27 (hQ : MBk h B) : gI h 118 27 = iI B.tp := by rw [gI_F, hQ.1.2.2.2.2.2.1]
theorem e28 (hQ : MBk h B) : gI h 118 28 = iI B.dr := by rw [gI_F, hQ.1.2.2.2.2.2.2]
theorem e126 {x : Int} (hQ : MBk h B) (q : 0 ≤ x ∧ x < B.g) : gI h 125 x.toNat = iI (B.sn x) := by rw [gI_A, (hQ.2.1 x q.1 q.2).2.1]
theorem e127 {x : Int} (hQ : MBk h B) (q : 0 ≤ x ∧ x < B.g) : gI h 126 x.toNat = iI (B.gn x) := by rw [gI_A, (hQ.2.1 x q.1 q.2).2.2]
theorem m_need {rise g : Int} (hL : Lay h) (hQ : MBk h B) (ho : B.ok) (hdd : gI h 118 38 = iI dd) (hd : 0 ≤ dd ∧ dd < B.w) (hg : 0 ≤ g ∧ g < B.g) (hr : -999 ≤ rise ∧ rise ≤ 999) (kk : K (iI (ned B dd rise g)) h) : XW (d + 2) 207 0 [.ref 118, .int (iI rise), .int (iI g), .null, .null] [] h (KI K) := by
  have o := ho.1
  have p := ned_parts ho hd hg hr
  have l := B.load_in ho
  unfold ned at kk
  have e : B.wt / B.w = B.load := rfl
  refine w_aload0 r_207_0 ?_
  refine v_getI r_207_1 (Lk_118 hL) (e25 hQ) ?_
  refine w_aload0 r_207_4 ?_
  refine v_getI r_207_5 (Lk_118 hL) (e24 hQ) ?_
  refine v_idivN r_207_8 (by first | exact zF_in _ _ _ | exact zA_in _ _ _ | omega) (by omega) ?_
  refine w_istore3 r_207_9 rfl ?_
  refine w_aload0 r_207_10 ?_
  refine v_getI r_207_11 (Lk_118 hL) (e25 hQ) ?_
  refine w_iload1 r_207_14 ?_
  refine w_aload0 r_207_15 ?_
  refine w_getA (x := 127) r_207_16 (Lk_118 hL) (Lr_118_20 hL) (by decide) ?_
  refine w_iload2 r_207_19 ?_
  refine w_aload0 r_207_20 ?_
  refine w_getA (x := 125) r_207_21 (Lk_118 hL) (Lr_118_18 hL) (by decide) ?_
  refine w_iload2 r_207_24 ?_
  refine v_iald r_207_25 (Lk_125 hL) (Lz_125 hL) (by decide) (by omega) (e126 hQ hg) ?_
  refine w_iload3 r_207_26 ?_
  refine k_191 r_207_27 (Nat.le_of_ble_eq_true rfl) ?_
  refine m_sinkAt hL hQ ho hg (by rw [e]; omega) ?_
  refine v_iadd r_207_30 ?_
  refine v_imul r_207_31 ?_
  refine w_bipush (v := iI (10)) r_207_32 rfl ?_
  refine k_190 r_207_34 (Nat.le_of_ble_eq_true rfl) ?_
  refine m_down (by rw [e]; unfold R32; omega) (by omega) ?_
  refine w_aload0 r_207_37 ?_
  refine v_getI r_207_38 (Lk_118 hL) hdd ?_
  refine w_iload3 r_207_41 ?_
  refine v_imul r_207_42 ?_
  refine w_aload0 r_207_43 ?_
  refine v_getI r_207_44 (Lk_118 hL) (e28 hQ) ?_
  refine v_imul r_207_47 ?_
  refine v_iadd r_207_48 ?_
  refine w_istore4 r_207_49 rfl ?_
  refine w_iload4 r_207_51 ?_
  refine v_if_ge r_207_53 (by rw [e]; omega) (fun c53 => ?_) (fun c53 => ?_)
  · refine w_iload4 r_207_60 ?_
    refine w_iret r_207_62 ?_
    rw [e] at *
    first | (rw [show max 0 (B.wt * (rise + B.sink g B.load) / 10 + dd * B.load * B.dr) = 0 by omega] at kk; exact kk) | (rw [show max 0 (B.wt * (rise + B.sink g B.load) / 10 + dd * B.load * B.dr) = B.wt * (rise + B.sink g B.load) / 10 + dd * B.load * B.dr by omega] at kk; exact kk)
  · refine w_iconst (v := iI (0)) r_207_56 rfl ?_
    refine w_goto r_207_57 ?_
    refine w_iret r_207_62 ?_
    rw [e] at *
    first | (rw [show max 0 (B.wt * (rise + B.sink g B.load) / 10 + dd * B.load * B.dr) = 0 by omega] at kk; exact kk) | (rw [show max 0 (B.wt * (rise + B.sink g B.load) / 10 + dd * B.load * B.dr) = B.wt * (rise + B.sink g B.load) / 10 + dd * B.load * B.dr by omega] at kk; exact kk)
theorem m_slip {n g : Int} (hL : Lay h) (hQ : MBk h B) (ho : B.ok) (hdd : gI h 118 38 = iI dd) (hd : 0 ≤ dd ∧ dd < B.w) (hg : 0 ≤ g ∧ g < B.g) (hn : R32 n) (kk : K (iI (slp B dd n g)) h) : XW (d + 2) 208 0 [.ref 118, .int (iI n), .int (iI g), .null, .null] [] h (KI K) := by
  have o := ho.1
  have l := B.load_in ho
  have hh := hld_in ho hd
  have e : B.wt / B.w * (B.w - dd) = hld B dd := rfl
  have key : ∀ s : Nat, s ≤ 91 → K (iI (fst1 (fun s => decide (n ≤ hld B dd * B.grip g s)) (91 - s) s)) h → XW (d + 2) 208 23 [.ref 118, .int (iI n), .int (iI g), .int (iI (hld B dd)), .int (iI s)] [] h (KI K) := by
    refine upto _ ?_ ?_
    · intro kk
      refine w_iload4 r_208_23 ?_
      refine w_bipush (v := iI (90)) r_208_25 rfl ?_
      refine v_ic_gt r_208_27 (by first | exact zF_in _ _ _ | exact zA_in _ _ _ | omega) (by first | exact zF_in _ _ _ | exact zA_in _ _ _ | omega) (fun _ => ?_) (fun q => absurd q (by omega))
      refine w_iconst (v := iI (-1)) r_208_61 rfl ?_
      refine w_iret r_208_62 ?_
      exact kk
    · intro s hs ih kk
      rw [show 91 - s = (91 - (s + 1)) + 1 by omega] at kk
      unfold fst1 at kk
      have gi := B.grip_in ho hg (x := s)
      have m1 := mul_in (a := hld B dd) (b := B.grip g s) (A := 2994) (B := 150) (by omega) (by omega)
      refine w_iload4 r_208_23 ?_
      refine w_bipush (v := iI (90)) r_208_25 rfl ?_
      refine v_ic_gt r_208_27 (by first | exact zF_in _ _ _ | exact zA_in _ _ _ | omega) (by first | exact zF_in _ _ _ | exact zA_in _ _ _ | omega) (fun q => absurd q (by omega)) (fun _ => ?_)
      refine w_iload3 r_208_30 ?_
      refine w_aload0 r_208_31 ?_
      refine w_getA (x := 128) r_208_32 (Lk_118 hL) (Lr_118_21 hL) (by decide) ?_
      refine w_iload2 r_208_35 ?_
      refine w_aload0 r_208_36 ?_
      refine w_getA (x := 126) r_208_37 (Lk_118 hL) (Lr_118_19 hL) (by decide) ?_
      refine w_iload2 r_208_40 ?_
      refine v_iald r_208_41 (Lk_126 hL) (Lz_126 hL) (by decide) (by omega) (e127 hQ hg) ?_
      refine w_iload4 r_208_42 ?_
      refine k_191 r_208_44 (Nat.le_of_ble_eq_true rfl) ?_
      refine m_gripAt hL hQ ho hg (by omega) ?_
      refine v_imul r_208_47 ?_
      refine w_iload1 r_208_48 ?_
      refine v_ic_lt r_208_49 (by first | exact zF_in _ _ _ | exact zA_in _ _ _ | omega) (by first | exact zF_in _ _ _ | exact zA_in _ _ _ | omega) (fun c49 => ?_) (fun c49 => ?_)
      · refine w_iinc4 r_208_55 rfl (iI_add _ _) ?_
        refine w_goto r_208_58 ?_
        rw [if_neg (by simp; omega)] at kk
        exact ih kk
      · refine w_iload4 r_208_52 ?_
        refine w_iret r_208_54 ?_
        rw [if_pos (by simp; omega)] at kk
        exact kk
  refine w_aload0 r_208_0 ?_
  refine v_getI r_208_1 (Lk_118 hL) (e25 hQ) ?_
  refine w_aload0 r_208_4 ?_
  refine v_getI r_208_5 (Lk_118 hL) (e24 hQ) ?_
  refine v_idivN r_208_8 (by first | exact zF_in _ _ _ | exact zA_in _ _ _ | omega) (by omega) ?_
  refine w_aload0 r_208_9 ?_
  refine v_getI r_208_10 (Lk_118 hL) (e24 hQ) ?_
  refine w_aload0 r_208_13 ?_
  refine v_getI r_208_14 (Lk_118 hL) hdd ?_
  refine v_isub r_208_17 ?_
  refine v_imul r_208_18 ?_
  refine w_istore3 r_208_19 rfl ?_
  refine w_iconst (v := iI (0)) r_208_20 rfl ?_
  refine w_istore4 r_208_21 rfl ?_
  rw [e]
  exact key 0 (by omega) kk
end ST
