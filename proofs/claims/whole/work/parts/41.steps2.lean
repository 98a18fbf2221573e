/-! maps apart from their cells; steps on them -/
abbrev XM : Type := (Nat → Int) × (Nat → Int → Int) × (Int → Int → Int)
def XM.wd (M : XM) : Int := M.1 0
def XM.hg (M : XM) : Int := M.1 1
def XM.nd (M : XM) : Int := M.1 2
def XM.ht (M : XM) : Int → Int := M.2.1 0
def XM.gr (M : XM) : Int → Int := M.2.1 1
def XM.db (M : XM) : Int → Int := M.2.1 2
def XM.dc (M : XM) : Int → Int := M.2.1 3
def XM.kn (M : XM) : Int → Int := M.2.1 4
def XM.wt (M : XM) : Int → Int → Int := M.2.2
def XM.n (M : XM) : Int := M.wd * M.hg
def XM.nx (M : XM) (c way : Int) : Int := bs M.wd M.hg c way
def CMp (h : XH) (M : XM) : Prop := (zF h 80 0 = M.wd ∧ zF h 80 1 = M.hg ∧ zF h 80 2 = M.n ∧ zF h 80 3 = M.nd) ∧
  (∀ c, 0 ≤ c → c < M.n → zA h 81 c = M.ht c ∧ zA h 82 c = M.gr c ∧ zA h 83 c = M.db c) ∧
  (∀ e, 0 ≤ e → e < M.nd → zA h 86 e = M.kn e ∧ ChOK h e) ∧ (∀ e, 0 ≤ e → e < M.nd → ∀ g, 0 ≤ g → g < 8 → zA h 87 (e * 8 + g) = M.wt e g) ∧
  (∀ c, 0 ≤ c → c < 100 → 0 ≤ zA h 84 c ∧ zA h 84 c < 1024) ∧ (∀ c, 0 ≤ c → c < M.n → ∀ e, 0 ≤ e → e < 5 → dg (zA h 84 c) e = if e < M.nd ∧ nr M.wd M.hg (M.dc e) c = true then 3 else 0) ∧
  (∀ c way, 0 ≤ c → c < M.n → 0 ≤ way → way < 4 → zA h 85 (c * 4 + way) = M.nx c way)
def MMp (h : XH) (M : XM) : Prop := (zF h 118 37 = M.nd ∧ ((zF h 118 34 = 1 ∧ zF h 118 35 = M.wd ∧ zF h 118 36 = M.hg ∧ 1 ≤ M.wd ∧ M.wd ≤ 10 ∧ 1 ≤ M.hg ∧ M.hg ≤ 10) ∨ (zF h 118 34 = 0 ∧ M.wd = 0 ∧ M.hg = 0 ∧ M.nd = 0))) ∧
  (∀ c, 0 ≤ c → c < M.n → zA h 133 c = M.ht c ∧ zA h 134 c = M.gr c ∧ zA h 135 c = M.db c) ∧
  (∀ e, 0 ≤ e → e < M.nd → zA h 136 e = M.dc e ∧ zA h 137 e = M.kn e) ∧ (∀ e, 0 ≤ e → e < M.nd → ∀ g, 0 ≤ g → g < 8 → zA h 138 (8 * e + g) = M.wt e g)
/-- a map that is laid, of a book with G grounds -/
def XM.ok (M : XM) (G : Int) : Prop := (1 ≤ M.wd ∧ M.wd ≤ 10 ∧ 1 ≤ M.hg ∧ M.hg ≤ 10 ∧ 0 ≤ M.nd ∧ M.nd ≤ 5 ∧ 1 ≤ G ∧ G ≤ 8) ∧
  (∀ c, 0 ≤ c → c < M.n → 0 ≤ M.ht c ∧ M.ht c ≤ 999 ∧ 0 ≤ M.gr c ∧ M.gr c < G ∧ -1 ≤ M.db c ∧ M.db c < M.nd ∧ (0 ≤ M.db c → M.dc (M.db c) = c)) ∧
  (∀ e, 0 ≤ e → e < M.nd → 0 ≤ M.dc e ∧ M.dc e < M.n ∧ M.db (M.dc e) = e ∧ (M.kn e = -1 ∨ (0 ≤ M.kn e ∧ M.kn e < G ∧ 0 < M.wt e (M.kn e)))) ∧
  (∀ e, 0 ≤ e → e < M.nd → ∀ g, 0 ≤ g → g < 8 → 0 ≤ M.wt e g ∧ M.wt e g ≤ 9 ∧ (G ≤ g → M.wt e g = 0)) ∧
  (∀ e, 0 ≤ e → e < M.nd → 1 ≤ (chs (M.wt e) 8).length ∧ (chs (M.wt e) 8).length ≤ 3)
def XM.none (M : XM) : Prop := M.wd = 0 ∧ M.hg = 0 ∧ M.nd = 0
def rise (M : XM) (c way : Int) : Int := M.ht (M.nx c way) - M.ht c
/-- why a step can't be (0: it can) -/
def why (B : XB) (dd : Int) (M : XM) (c way g : Int) : Int := if M.nx c way < 0 then 1 else if B.tp < rise M c way ∨ B.tp < -rise M c way then 2 else if B.cl < B.sink g B.load then 3 else if slp B dd (ned B dd (rise M c way) g) g < 0 then 4 else 0
def cst (B : XB) (dd : Int) (M : XM) (c way g : Int) : Int := (1000 + ned B dd (rise M c way) g) / (100 - slp B dd (ned B dd (rise M c way) g) g) + 1
section S2
variable {d : Nat} {h : XH} {K : Int32 → XH → Prop} {KU : XH → Prop} {rb ca : Nat} {B : XB} {dd : Int} {M : XM}
theorem XM.n_in {G : Int} (ho : M.ok G) : 1 ≤ M.n ∧ M.n ≤ 100 := by
  have o := ho.1
  have := mul_in (a := M.wd - 1) (b := M.hg) (A := 9) (B := 10) (by omega) (by omega)
  have p := prod_in (a := M.wd) (b := M.hg) (by omega) (by omega)
  unfold XM.n
  have e : (M.wd - 1) * M.hg = M.wd * M.hg - M.hg := by rw [Int.sub_mul]; omega
  omega
theorem XM.nx_in {G c way : Int} (ho : M.ok G) (hc : 0 ≤ c ∧ c < M.n) : M.nx c way = -1 ∨ (0 ≤ M.nx c way ∧ M.nx c way < M.n) := by
  have o := ho.1
  exact bs_in (by omega) (by omega) hc
theorem rise_in {G c way : Int} (ho : M.ok G) (hc : 0 ≤ c ∧ c < M.n) (hb : 0 ≤ M.nx c way) : -999 ≤ rise M c way ∧ rise M c way ≤ 999 := by
  have := M.nx_in (way := way) ho hc
  have a := ho.2.1 c hc.1 hc.2
  have b := ho.2.1 (M.nx c way) hb (by omega)
  unfold rise
  omega
theorem why_in {c way g : Int} : 0 ≤ why B dd M c way g ∧ why B dd M c way g ≤ 4 := by
  unfold why
  repeat' split
  all_goals omega
theorem cst_in {G c way g : Int} (ho : B.ok) (hm : M.ok G) (hd : 0 ≤ dd ∧ dd < B.w) (hg : 0 ≤ g ∧ g < B.g) (hc : 0 ≤ c ∧ c < M.n) (hb : 0 ≤ M.nx c way) : 1 ≤ cst B dd M c way g ∧ cst B dd M c way g ≤ 40101 := by
  have r := rise_in hm hc hb
  have n := ned_in ho hd hg r
  have s := slp_in B dd (ned B dd (rise M c way) g) g
  unfold cst
  generalize ned B dd (rise M c way) g = u at *
  generalize slp B dd u g = v at *
  have h1 : 0 ≤ (1000 + u) / (100 - v) := Int.ediv_nonneg (by omega) (by omega)
  have h2 : (1000 + u) / (100 - v) ≤ 40100 := by
    apply Int.ediv_le_of_le_mul (by omega)
    have : 40100 * 10 ≤ 40100 * (100 - v) := Int.mul_le_mul_of_nonneg_left (by omega) (by decide)
    omega
  omega
theorem m_bs {G c way : Int} (hL : Lay h) (hP : MMp h M) (hm : M.ok G) (hc : 0 ≤ c ∧ c < M.n) (hway : 0 ≤ way ∧ way < 4) (hk : K (iI (M.nx c way)) h) : XW (d + 1) 206 0 [.ref 118, .int (iI c), .int (iI way), .null, .null] [] h (KI K) := by
  have o := hm.1
  have p := hP.1.2
  have q : zF h 118 35 = M.wd ∧ zF h 118 36 = M.hg := by omega
  refine m_beside hL (by omega) (by omega) (by rw [q.1, q.2]; exact hc) hway ?_
  rw [q.1, q.2]; exact hk
theorem e134 {x : Int} (hP : MMp h M) (q : 0 ≤ x ∧ x < M.n) : gI h 133 x.toNat = iI (M.ht x) := by rw [gI_A, (hP.2.1 x q.1 q.2).1]
theorem m_barred {G c way g : Int} (hL : Lay h) (hQ : MBk h B) (ho : B.ok) (hP : MMp h M) (hm : M.ok G) (hdd : gI h 118 38 = iI dd) (hd : 0 ≤ dd ∧ dd < B.w) (hg : 0 ≤ g ∧ g < B.g) (hc : 0 ≤ c ∧ c < M.n) (hway : 0 ≤ way ∧ way < 4) (kk : K (iI (why B dd M c way g)) h) : XW (d + 3) 209 0 [.ref 118, .int (iI c), .int (iI way), .int (iI g), .null, .null] [] h (KI K) := by
  have o := ho.1
  have hn := M.n_in hm
  have hb := M.nx_in (way := way) hm hc
  have l := B.load_in ho
  have e : B.wt / B.w = B.load := rfl
  have si := B.sink_in ho hg (x := B.load)
  have rr := fun q => rise_in (way := way) hm hc q
  have er : M.ht (M.nx c way) - M.ht c = rise M c way := rfl
  unfold why at kk
  have sn := slp_in B dd (ned B dd (rise M c way) g) g
  refine w_aload0 r_209_0 ?_
  refine w_iload1 r_209_1 ?_
  refine w_iload2 r_209_2 ?_
  refine k_206 r_209_3 (Lk_118 hL) (Nat.le_of_ble_eq_true rfl) ?_
  refine m_bs hL hP hm hc hway ?_
  refine w_istore4 r_209_6 rfl ?_
  refine w_iload4 r_209_8 ?_
  refine v_if_ge r_209_10 (by first | exact zF_in _ _ _ | exact zA_in _ _ _ | omega) (fun c10 => ?_) (fun c10 => ?_)
  · refine w_aload0 r_209_15 ?_
    refine w_getA (x := 133) r_209_16 (Lk_118 hL) (Lr_118_41 hL) (by decide) ?_
    refine w_iload4 r_209_19 ?_
    refine v_iald r_209_21 (Lk_133 hL) (Lz_133 hL) (by decide) (by omega) (e134 hP (by omega)) ?_
    refine w_aload0 r_209_22 ?_
    refine w_getA (x := 133) r_209_23 (Lk_118 hL) (Lr_118_41 hL) (by decide) ?_
    refine w_iload1 r_209_26 ?_
    refine v_iald r_209_27 (Lk_133 hL) (Lz_133 hL) (by decide) (by omega) (e134 hP hc) ?_
    refine v_isub r_209_28 ?_
    refine w_istore5 r_209_29 rfl ?_
    have rr := rr (by omega)
    rw [er] 
    refine w_iload5 r_209_31 ?_
    refine w_aload0 r_209_33 ?_
    refine v_getI r_209_34 (Lk_118 hL) (e27 hQ) ?_
    refine v_ic_gt r_209_37 (by first | exact zF_in _ _ _ | exact zA_in _ _ _ | omega) (by first | exact zF_in _ _ _ | exact zA_in _ _ _ | omega) (fun c37 => ?_) (fun c37 => ?_)
    · refine w_iconst (v := iI (2)) r_209_50 rfl ?_
      refine w_iret r_209_51 ?_
      first | (rw [if_pos (by omega)] at kk; exact kk) | (rw [if_neg (by omega), if_pos (by omega)] at kk; exact kk) | (rw [if_neg (by omega), if_neg (by omega), if_pos (by omega)] at kk; exact kk) | (rw [if_neg (by omega), if_neg (by omega), if_neg (by omega), if_pos (by omega)] at kk; exact kk) | (rw [if_neg (by omega), if_neg (by omega), if_neg (by omega), if_neg (by omega)] at kk; exact kk)
    · refine w_iload5 r_209_40 ?_
      refine v_ineg r_209_42 ?_
      refine w_aload0 r_209_43 ?_
      refine v_getI r_209_44 (Lk_118 hL) (e27 hQ) ?_
      refine v_ic_le r_209_47 (by first | exact zF_in _ _ _ | exact zA_in _ _ _ | omega) (by first | exact zF_in _ _ _ | exact zA_in _ _ _ | omega) (fun c47 => ?_) (fun c47 => ?_)
      · refine w_aload0 r_209_52 ?_
        refine w_getA (x := 127) r_209_53 (Lk_118 hL) (Lr_118_20 hL) (by decide) ?_
        refine w_iload3 r_209_56 ?_
        refine w_aload0 r_209_57 ?_
        refine w_getA (x := 125) r_209_58 (Lk_118 hL) (Lr_118_18 hL) (by decide) ?_
        refine w_iload3 r_209_61 ?_
        refine v_iald r_209_62 (Lk_125 hL) (Lz_125 hL) (by decide) (by omega) (e126 hQ hg) ?_
        refine w_aload0 r_209_63 ?_
        refine v_getI r_209_64 (Lk_118 hL) (e25 hQ) ?_
        refine w_aload0 r_209_67 ?_
        refine v_getI r_209_68 (Lk_118 hL) (e24 hQ) ?_
        refine v_idivN r_209_71 (by first | exact zF_in _ _ _ | exact zA_in _ _ _ | omega) (by omega) ?_
        refine k_191 r_209_72 (Nat.le_of_ble_eq_true rfl) ?_
        refine m_sinkAt hL hQ ho hg (by rw [e]; omega) ?_
        rw [e] 
        refine w_aload0 r_209_75 ?_
        refine v_getI r_209_76 (Lk_118 hL) (e26 hQ) ?_
        refine v_ic_le r_209_79 (by first | exact zF_in _ _ _ | exact zA_in _ _ _ | omega) (by first | exact zF_in _ _ _ | exact zA_in _ _ _ | omega) (fun c79 => ?_) (fun c79 => ?_)
        · refine w_aload0 r_209_84 ?_
          refine w_aload0 r_209_85 ?_
          refine w_iload5 r_209_86 ?_
          refine w_iload3 r_209_88 ?_
          refine k_207 r_209_89 (Lk_118 hL) (Nat.le_of_ble_eq_true rfl) ?_
          refine m_need hL hQ ho hdd hd hg rr ?_
          refine w_iload3 r_209_92 ?_
          refine k_208 r_209_93 (Lk_118 hL) (Nat.le_of_ble_eq_true rfl) ?_
          refine m_slip hL hQ ho hdd hd hg (by have := ned_in ho hd hg rr; unfold R32; omega) ?_
          refine v_if_ge r_209_96 (by first | exact zF_in _ _ _ | exact zA_in _ _ _ | omega) (fun c96 => ?_) (fun c96 => ?_)
          · refine w_iconst (v := iI (0)) r_209_103 rfl ?_
            refine w_iret r_209_104 ?_
            first | (rw [if_pos (by omega)] at kk; exact kk) | (rw [if_neg (by omega), if_pos (by omega)] at kk; exact kk) | (rw [if_neg (by omega), if_neg (by omega), if_pos (by omega)] at kk; exact kk) | (rw [if_neg (by omega), if_neg (by omega), if_neg (by omega), if_pos (by omega)] at kk; exact kk) | (rw [if_neg (by omega), if_neg (by omega), if_neg (by omega), if_neg (by omega)] at kk; exact kk)
          · refine w_iconst (v := iI (4)) r_209_99 rfl ?_
            refine w_goto r_209_100 ?_
            refine w_iret r_209_104 ?_
            first | (rw [if_pos (by omega)] at kk; exact kk) | (rw [if_neg (by omega), if_pos (by omega)] at kk; exact kk) | (rw [if_neg (by omega), if_neg (by omega), if_pos (by omega)] at kk; exact kk) | (rw [if_neg (by omega), if_neg (by omega), if_neg (by omega), if_pos (by omega)] at kk; exact kk) | (rw [if_neg (by omega), if_neg (by omega), if_neg (by omega), if_neg (by omega)] at kk; exact kk)
        · refine w_iconst (v := iI (3)) r_209_82 rfl ?_
          refine w_iret r_209_83 ?_
          first | (rw [if_pos (by omega)] at kk; exact kk) | (rw [if_neg (by omega), if_pos (by omega)] at kk; exact kk) | (rw [if_neg (by omega), if_neg (by omega), if_pos (by omega)] at kk; exact kk) | (rw [if_neg (by omega), if_neg (by omega), if_neg (by omega), if_pos (by omega)] at kk; exact kk) | (rw [if_neg (by omega), if_neg (by omega), if_neg (by omega), if_neg (by omega)] at kk; exact kk)
      · refine w_iconst (v := iI (2)) r_209_50 rfl ?_
        refine w_iret r_209_51 ?_
        first | (rw [if_pos (by omega)] at kk; exact kk) | (rw [if_neg (by omega), if_pos (by omega)] at kk; exact kk) | (rw [if_neg (by omega), if_neg (by omega), if_pos (by omega)] at kk; exact kk) | (rw [if_neg (by omega), if_neg (by omega), if_neg (by omega), if_pos (by omega)] at kk; exact kk) | (rw [if_neg (by omega), if_neg (by omega), if_neg (by omega), if_neg (by omega)] at kk; exact kk)
  · refine w_iconst (v := iI (1)) r_209_13 rfl ?_
    refine w_iret r_209_14 ?_
    first | (rw [if_pos (by omega)] at kk; exact kk) | (rw [if_neg (by omega), if_pos (by omega)] at kk; exact kk) | (rw [if_neg (by omega), if_neg (by omega), if_pos (by omega)] at kk; exact kk) | (rw [if_neg (by omega), if_neg (by omega), if_neg (by omega), if_pos (by omega)] at kk; exact kk) | (rw [if_neg (by omega), if_neg (by omega), if_neg (by omega), if_neg (by omega)] at kk; exact kk)
theorem m_cost {G c way g : Int} (hL : Lay h) (hQ : MBk h B) (ho : B.ok) (hP : MMp h M) (hm : M.ok G) (hdd : gI h 118 38 = iI dd) (hd : 0 ≤ dd ∧ dd < B.w) (hg : 0 ≤ g ∧ g < B.g) (hc : 0 ≤ c ∧ c < M.n) (hway : 0 ≤ way ∧ way < 4) (hbs : 0 ≤ M.nx c way) (kk : K (iI (cst B dd M c way g)) h) : XW (d + 3) 210 0 [.ref 118, .int (iI c), .int (iI way), .int (iI g), .null] [] h (KI K) := by
  have o := ho.1
  have hn := M.n_in hm
  have hb := M.nx_in (way := way) hm hc
  have rr := rise_in (way := way) hm hc hbs
  have er : M.ht (M.nx c way) - M.ht c = rise M c way := rfl
  have ni := ned_in ho hd hg rr
  have sn := slp_in B dd (ned B dd (rise M c way) g) g
  refine w_aload0 r_210_0 ?_
  refine w_aload0 r_210_1 ?_
  refine w_getA (x := 133) r_210_2 (Lk_118 hL) (Lr_118_41 hL) (by decide) ?_
  refine w_aload0 r_210_5 ?_
  refine w_iload1 r_210_6 ?_
  refine w_iload2 r_210_7 ?_
  refine k_206 r_210_8 (Lk_118 hL) (Nat.le_of_ble_eq_true rfl) ?_
  refine m_bs hL hP hm hc hway ?_
  refine v_iald r_210_11 (Lk_133 hL) (Lz_133 hL) (by decide) (by omega) (e134 hP (by omega)) ?_
  refine w_aload0 r_210_12 ?_
  refine w_getA (x := 133) r_210_13 (Lk_118 hL) (Lr_118_41 hL) (by decide) ?_
  refine w_iload1 r_210_16 ?_
  refine v_iald r_210_17 (Lk_133 hL) (Lz_133 hL) (by decide) (by omega) (e134 hP hc) ?_
  refine v_isub r_210_18 ?_
  rw [er] 
  refine w_iload3 r_210_19 ?_
  refine k_207 r_210_20 (Lk_118 hL) (Nat.le_of_ble_eq_true rfl) ?_
  refine m_need hL hQ ho hdd hd hg rr ?_
  refine w_istore4 r_210_23 rfl ?_
  refine w_sipush (v := iI (1000)) r_210_25 rfl ?_
  refine w_iload4 r_210_28 ?_
  refine v_iadd r_210_30 ?_
  refine w_bipush (v := iI (100)) r_210_31 rfl ?_
  refine w_aload0 r_210_33 ?_
  refine w_iload4 r_210_34 ?_
  refine w_iload3 r_210_36 ?_
  refine k_208 r_210_37 (Lk_118 hL) (Nat.le_of_ble_eq_true rfl) ?_
  refine m_slip hL hQ ho hdd hd hg (by unfold R32; omega) ?_
  refine v_isub r_210_40 ?_
  refine v_idivN r_210_41 (by first | exact zF_in _ _ _ | exact zA_in _ _ _ | omega) (by omega) ?_
  refine w_iconst (v := iI (1)) r_210_42 rfl ?_
  refine v_iadd r_210_43 ?_
  refine w_iret r_210_44 ?_
  exact kk
end S2
