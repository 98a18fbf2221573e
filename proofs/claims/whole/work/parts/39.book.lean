/-! the book, apart from its cells -/
abbrev XB : Type := (Nat → Int) × (Nat → Int → Int) × (Nat → Int → Int → Int)
def XB.g (B : XB) : Int := B.1 0
def XB.t (B : XB) : Int := B.1 1
def XB.w (B : XB) : Int := B.1 2
def XB.wt (B : XB) : Int := B.1 3
def XB.cl (B : XB) : Int := B.1 4
def XB.tp (B : XB) : Int := B.1 5
def XB.dr (B : XB) : Int := B.1 6
def XB.nm (B : XB) : Int → Int := B.2.1 0
def XB.tn (B : XB) : Int → Int := B.2.1 1
def XB.sn (B : XB) : Int → Int := B.2.1 2
def XB.gn (B : XB) : Int → Int := B.2.1 3
def XB.ea (B : XB) : Int → Int := B.2.1 4
def XB.on (B : XB) : Int → Int := B.2.1 5
def XB.pr (B : XB) : Int → Int := B.2.1 6
def XB.sk (B : XB) : Int → Int → Int := B.2.2 0
def XB.sv (B : XB) : Int → Int → Int := B.2.2 1
def XB.gk (B : XB) : Int → Int → Int := B.2.2 2
def XB.gv (B : XB) : Int → Int → Int := B.2.2 3
/-- a word's number -/
def enc (f : Int → Int) : Nat → Int
  | 0 => 0
  | n + 1 => enc f n * 27 + (f n - 96)
def CBk (h : XH) (rb : Nat) (B : XB) : Prop := (zF h rb 0 = B.g ∧ zF h rb 4 = B.t ∧ zF h rb 10 = B.w ∧ zF h rb 11 = B.wt ∧ zF h rb 12 = B.cl ∧ zF h rb 13 = B.tp ∧ zF h rb 14 = B.dr) ∧
  (∀ i, 0 ≤ i → i < B.g → zL h (rb + 1) i = B.nm i ∧ zA h (rb + 5) i = B.sn i ∧ zA h (rb + 9) i = B.gn i) ∧
  (∀ i, 0 ≤ i → i < B.g → ∀ k, 0 ≤ k → k < B.sn i → zA h (rb + 3) (i * 4 + k) = B.sk i k ∧ zA h (rb + 4) (i * 4 + k) = B.sv i k) ∧
  (∀ i, 0 ≤ i → i < B.g → ∀ k, 0 ≤ k → k < B.gn i → zA h (rb + 7) (i * 4 + k) = B.gk i k ∧ zA h (rb + 8) (i * 4 + k) = B.gv i k) ∧
  (∀ i, 0 ≤ i → i < B.t → zL h (rb + 10) i = B.tn i ∧ zA h (rb + 11) i = B.ea i ∧ zA h (rb + 12) i = B.on i ∧ zA h (rb + 13) i = B.pr i)
/-- a name in the Model's rows -/
def MNm (h : XH) (ra rs : Nat) (i z : Int) : Prop := 1 ≤ zA h rs i ∧ zA h rs i ≤ 8 ∧ (∀ k, 0 ≤ k → k < zA h rs i → 97 ≤ zA h ra (8 * i + k) ∧ zA h ra (8 * i + k) ≤ 122) ∧ enc (fun k => zA h ra (8 * i + k)) (zA h rs i).toNat = z
def MBk (h : XH) (B : XB) : Prop := (zF h 118 22 = B.g ∧ zF h 118 23 = B.t ∧ zF h 118 24 = B.w ∧ zF h 118 25 = B.wt ∧ zF h 118 26 = B.cl ∧ zF h 118 27 = B.tp ∧ zF h 118 28 = B.dr) ∧
  (∀ i, 0 ≤ i → i < B.g → MNm h 121 122 i (B.nm i) ∧ zA h 125 i = B.sn i ∧ zA h 126 i = B.gn i) ∧
  (∀ i, 0 ≤ i → i < B.g → ∀ k, 0 ≤ k → k < B.sn i → zA h 127 (8 * i + 2 * k) = B.sk i k ∧ zA h 127 (8 * i + 2 * k + 1) = B.sv i k) ∧
  (∀ i, 0 ≤ i → i < B.g → ∀ k, 0 ≤ k → k < B.gn i → zA h 128 (8 * i + 2 * k) = B.gk i k ∧ zA h 128 (8 * i + 2 * k + 1) = B.gv i k) ∧
  (∀ i, 0 ≤ i → i < B.t → MNm h 123 124 i (B.tn i) ∧ zA h 129 i = B.ea i ∧ zA h 130 i = B.on i ∧ zA h 131 i = B.pr i)
def XB.lim (B : XB) : Prop := 0 ≤ B.g ∧ B.g ≤ 8 ∧ 0 ≤ B.t ∧ B.t ≤ 6 ∧ 0 ≤ B.w ∧ B.w ≤ 6
def XB.ok (B : XB) : Prop := (0 ≤ B.g ∧ B.g ≤ 8 ∧ 0 ≤ B.t ∧ B.t ≤ 6 ∧ 2 ≤ B.w ∧ B.w ≤ 6 ∧ 1 ≤ B.wt ∧ B.wt ≤ 999 ∧ 1 ≤ B.cl ∧ B.cl ≤ 300 ∧ 0 ≤ B.tp ∧ B.tp ≤ 300 ∧ 0 ≤ B.dr ∧ B.dr ≤ 99) ∧
  (∀ i, 0 ≤ i → i < B.g → CvOK (B.sk i) (B.sv i) (B.sn i)) ∧ (∀ i, 0 ≤ i → i < B.g → CvOK (B.gk i) (B.gv i) (B.gn i)) ∧ (∀ i, 0 ≤ i → i < B.g → ∀ k, 0 ≤ k → k < B.gn i → B.gv i k ≤ 150) ∧
  (∀ i, 0 ≤ i → i < B.t → -4 ≤ B.ea i ∧ B.ea i ≤ 4 ∧ -4 ≤ B.on i ∧ B.on i ≤ 4 ∧ 1 ≤ B.pr i ∧ B.pr i ≤ 99)
def XB.none (B : XB) : Prop := B.g = 0 ∧ B.t = 0 ∧ B.w = 0 ∧ B.wt = 0 ∧ B.cl = 0 ∧ B.tp = 0 ∧ B.dr = 0
/-- the two books are one -/
def GBk (h : XH) (rb : Nat) (B : XB) : Prop := RB h rb ∧ CBk h rb B ∧ MBk h B ∧ ((zF h 118 12 = 1 ∧ B.ok) ∨ (zF h 118 12 = 0 ∧ B.none))
def XB.sink (B : XB) (i x : Int) : Int := crv (B.sk i) (B.sv i) (B.sn i) x
def XB.grip (B : XB) (i x : Int) : Int := crv (B.gk i) (B.gv i) (B.gn i) x
theorem CvOK_congr {k v k' v' : Int → Int} {n : Int} (ho : CvOK k v n) (hj : ∀ j, 0 ≤ j → j < n → k' j = k j ∧ v' j = v j) : CvOK k' v' n := by
  refine ⟨ho.1, ho.2.1, fun i a b => ?_, fun i a b => ?_⟩
  · rw [(hj i a b).1, (hj i a b).2]; exact ho.2.2.1 i a b
  · rw [(hj i a (by omega)).1, (hj (i + 1) (by omega) b).1]; exact ho.2.2.2 i a b
section BO
variable {d : Nat} {h : XH} {K : Int32 → XH → Prop} {KU : XH → Prop} {rb ca : Nat} {B : XB}
theorem CBk.sink {g : Int} (hC : CBk h rb B) (ho : B.ok) (hg : 0 ≤ g ∧ g < B.g) : zA h (rb + 5) g = B.sn g ∧ CvOK (fun i => zA h (rb + 3) (g * 4 + i)) (fun i => zA h (rb + 4) (g * 4 + i)) (B.sn g) ∧ ∀ x, crv (fun i => zA h (rb + 3) (g * 4 + i)) (fun i => zA h (rb + 4) (g * 4 + i)) (B.sn g) x = B.sink g x := by
  have o := ho.2.1 g hg.1 hg.2
  exact ⟨(hC.2.1 g hg.1 hg.2).2.1, CvOK_congr o (fun j a b => hC.2.2.1 g hg.1 hg.2 j a b), fun x => crv_congr o.1 (fun j a b => hC.2.2.1 g hg.1 hg.2 j a b)⟩
theorem CBk.grip {g : Int} (hC : CBk h rb B) (ho : B.ok) (hg : 0 ≤ g ∧ g < B.g) : zA h (rb + 9) g = B.gn g ∧ CvOK (fun i => zA h (rb + 7) (g * 4 + i)) (fun i => zA h (rb + 8) (g * 4 + i)) (B.gn g) ∧ ∀ x, crv (fun i => zA h (rb + 7) (g * 4 + i)) (fun i => zA h (rb + 8) (g * 4 + i)) (B.gn g) x = B.grip g x := by
  have o := ho.2.2.1 g hg.1 hg.2
  exact ⟨(hC.2.1 g hg.1 hg.2).2.2, CvOK_congr o (fun j a b => hC.2.2.2.1 g hg.1 hg.2 j a b), fun x => crv_congr o.1 (fun j a b => hC.2.2.2.1 g hg.1 hg.2 j a b)⟩
theorem MBk.sink {g : Int} (hC : MBk h B) (ho : B.ok) (hg : 0 ≤ g ∧ g < B.g) : zA h 125 g = B.sn g ∧ CvOK (fun i => zA h 127 (8 * g + 2 * i)) (fun i => zA h 127 (8 * g + 2 * i + 1)) (B.sn g) ∧ ∀ x, crv (fun i => zA h 127 (8 * g + 2 * i)) (fun i => zA h 127 (8 * g + 2 * i + 1)) (B.sn g) x = B.sink g x := by
  have o := ho.2.1 g hg.1 hg.2
  exact ⟨(hC.2.1 g hg.1 hg.2).2.1, CvOK_congr o (fun j a b => hC.2.2.1 g hg.1 hg.2 j a b), fun x => crv_congr o.1 (fun j a b => hC.2.2.1 g hg.1 hg.2 j a b)⟩
theorem MBk.grip {g : Int} (hC : MBk h B) (ho : B.ok) (hg : 0 ≤ g ∧ g < B.g) : zA h 126 g = B.gn g ∧ CvOK (fun i => zA h 128 (8 * g + 2 * i)) (fun i => zA h 128 (8 * g + 2 * i + 1)) (B.gn g) ∧ ∀ x, crv (fun i => zA h 128 (8 * g + 2 * i)) (fun i => zA h 128 (8 * g + 2 * i + 1)) (B.gn g) x = B.grip g x := by
  have o := ho.2.2.1 g hg.1 hg.2
  exact ⟨(hC.2.1 g hg.1 hg.2).2.2, CvOK_congr o (fun j a b => hC.2.2.2.1 g hg.1 hg.2 j a b), fun x => crv_congr o.1 (fun j a b => hC.2.2.2.1 g hg.1 hg.2 j a b)⟩
theorem RB.cs (hb : rb = 6 ∨ rb = 20) : Cv (rb + 2) := by unfold Cv; omega
theorem RB.cg (hb : rb = 6 ∨ rb = 20) : Cv (rb + 6) := by unfold Cv; omega
theorem XB.sink_in (ho : B.ok) {g x : Int} (hg : 0 ≤ g ∧ g < B.g) : 0 ≤ B.sink g x ∧ B.sink g x ≤ 300 := crv_in (ho.2.1 g hg.1 hg.2) (fun i a b => ((ho.2.1 g hg.1 hg.2).2.2.1 i a b).2.2.2)
theorem XB.grip_in (ho : B.ok) {g x : Int} (hg : 0 ≤ g ∧ g < B.g) : 0 ≤ B.grip g x ∧ B.grip g x ≤ 150 := crv_in (ho.2.2.1 g hg.1 hg.2) (fun i a b => ho.2.2.2.1 g hg.1 hg.2 i a b)
/-- the class's curves at a ground -/
theorem c_sinkAt {g x : Int} (hL : Lay h) (hb : rb = 6 ∨ rb = 20) (hC : CBk h rb B) (ho : B.ok) (hg : 0 ≤ g ∧ g < B.g) (hx : 0 ≤ x ∧ x ≤ 999) (kk : K (iI (B.sink g x)) h) : XW (d + 2) 17 0 [.ref (rb + 2), .int (iI g), .int (iI x), .null, .null, .null] [] h (KI K) := by
  have s := hC.sink ho hg
  have o := ho.1
  refine c_valueAt hL (RB.cs hb) (by omega) hx (fun i => rfl) (fun i => rfl) ?_ ?_
  · show CvOK _ _ (zA h (rb + 5) g); rw [s.1]; exact s.2.1
  · show K (iI (crv _ _ (zA h (rb + 5) g) x)) h; rw [s.1, s.2.2]; exact kk
theorem c_gripAt {g x : Int} (hL : Lay h) (hb : rb = 6 ∨ rb = 20) (hC : CBk h rb B) (ho : B.ok) (hg : 0 ≤ g ∧ g < B.g) (hx : 0 ≤ x ∧ x ≤ 999) (kk : K (iI (B.grip g x)) h) : XW (d + 2) 17 0 [.ref (rb + 6), .int (iI g), .int (iI x), .null, .null, .null] [] h (KI K) := by
  have s := hC.grip ho hg
  have o := ho.1
  refine c_valueAt hL (RB.cg hb) (by omega) hx (fun i => rfl) (fun i => rfl) ?_ ?_
  · show CvOK _ _ (zA h (rb + 9) g); rw [s.1]; exact s.2.1
  · show K (iI (crv _ _ (zA h (rb + 9) g) x)) h; rw [s.1, s.2.2]; exact kk
theorem m_sinkAt {g x : Int} (hL : Lay h) (hC : MBk h B) (ho : B.ok) (hg : 0 ≤ g ∧ g < B.g) (hx : 0 ≤ x ∧ x ≤ 999) (kk : K (iI (B.sink g x)) h) : XW (d + 1) 191 0 [.ref 127, .int (iI g), .int (iI (B.sn g)), .int (iI x), .null, .null, .null, .null, .null, .null] [] h (KI K) := by
  have s := hC.sink ho hg
  have o := ho.1
  exact m_between (Lk_127 hL) (Lz_127 hL) (by omega) hx (fun i => rfl) (fun i => rfl) s.2.1 (by rw [s.2.2]; exact kk)
theorem m_gripAt {g x : Int} (hL : Lay h) (hC : MBk h B) (ho : B.ok) (hg : 0 ≤ g ∧ g < B.g) (hx : 0 ≤ x ∧ x ≤ 999) (kk : K (iI (B.grip g x)) h) : XW (d + 1) 191 0 [.ref 128, .int (iI g), .int (iI (B.gn g)), .int (iI x), .null, .null, .null, .null, .null, .null] [] h (KI K) := by
  have s := hC.grip ho hg
  have o := ho.1
  exact m_between (Lk_128 hL) (Lz_128 hL) (by omega) hx (fun i => rfl) (fun i => rfl) s.2.1 (by rw [s.2.2]; exact kk)
theorem c_sink {x y : Int} (hx : R32 x) (hy : R32 y) (hL : Lay h) (hG : GBk h rb B) (k1 : ¬ (0 ≤ x ∧ x < B.g) → K (iI (-1)) (sI h 1 18 (iI 1))) (k2 : (0 ≤ x ∧ x < B.g) → ¬ (0 ≤ y ∧ y ≤ 999) → K (iI (-1)) (sI h 1 18 (iI 2))) (k3 : (0 ≤ x ∧ x < B.g) → (0 ≤ y ∧ y ≤ 999) → K (iI (B.sink x y)) (sI h 1 18 (iI 0))) :
    XW (d + 3) 122 0 [.ref 1, .int (iI x), .int (iI y)] [] h (KI K) := by
  obtain ⟨hB, hC, hM, hN⟩ := hG
  have hb := hB.1
  have e0 := hC.1.1
  have ok : 0 ≤ x ∧ x < B.g → B.ok := fun q => by
    rcases hN with q1 | q1
    · exact q1.2
    · have := q1.2.1; omega
  refine w_aload0 r_122_0 ?_
  refine w_getA (x := rb) r_122_1 (Lk_1 hL) hB.2.1 (RB.nz hb) ?_
  refine w_iload1 r_122_4 ?_
  refine k_3 r_122_5 (Bk_ hL hb) (Nat.le_of_ble_eq_true rfl) ?_
  refine c_hasGround (by omega) hL hb (fun c5 => ?_) (fun c5 => ?_)
  · refine v_if_ne r_122_8 (by first | exact zF_in _ _ _ | exact zA_in _ _ _ | omega) (fun _ => ?_) (fun q => absurd q (by omega))
    refine w_iload2 r_122_17 ?_
    refine v_if_lt r_122_18 (by first | exact zF_in _ _ _ | exact zA_in _ _ _ | omega) (fun c18 => ?_) (fun c18 => ?_)
    · refine w_aload0 r_122_28 ?_
      refine w_iconst (v := iI (2)) r_122_29 rfl ?_
      refine k_157 r_122_30 (Lk_1 hL) (Nat.le_of_ble_eq_true rfl) ?_
      refine c_refuse hL ?_
      refine w_iret r_122_33 ?_
      first | exact k1 (by omega) | exact k2 (by omega) (by omega) | exact k3 (by omega) (by omega)
    · refine w_iload2 r_122_21 ?_
      refine w_sipush (v := iI (999)) r_122_22 rfl ?_
      refine v_ic_le r_122_25 (by first | exact zF_in _ _ _ | exact zA_in _ _ _ | omega) (by first | exact zF_in _ _ _ | exact zA_in _ _ _ | omega) (fun c25 => ?_) (fun c25 => ?_)
      · refine w_aload0 r_122_34 ?_
        refine w_aload0 r_122_35 ?_
        refine w_getA (x := rb) r_122_36 (Lk_1 hL) hB.2.1 (RB.nz hb) ?_
        refine w_getA (x := rb + 2) r_122_39 (Bk_ hL hb) (Br_2 hL hb) (by omega) ?_
        refine w_iload1 r_122_42 ?_
        refine w_iload2 r_122_43 ?_
        refine k_17 r_122_44 (Bk_2 hL hb) (Nat.le_of_ble_eq_true rfl) ?_
        refine c_sinkAt hL hb hC (ok (by omega)) (by omega) (by omega) ?_
        refine k_156 r_122_47 (Lk_1 hL) (Nat.le_of_ble_eq_true rfl) ?_
        refine c_answer hL ?_
        refine w_iret r_122_50 ?_
        first | exact k1 (by omega) | exact k2 (by omega) (by omega) | exact k3 (by omega) (by omega)
      · refine w_aload0 r_122_28 ?_
        refine w_iconst (v := iI (2)) r_122_29 rfl ?_
        refine k_157 r_122_30 (Lk_1 hL) (Nat.le_of_ble_eq_true rfl) ?_
        refine c_refuse hL ?_
        refine w_iret r_122_33 ?_
        first | exact k1 (by omega) | exact k2 (by omega) (by omega) | exact k3 (by omega) (by omega)
  · refine v_if_ne r_122_8 (by first | exact zF_in _ _ _ | exact zA_in _ _ _ | omega) (fun q => absurd q (by omega)) (fun _ => ?_)
    refine w_aload0 r_122_11 ?_
    refine w_iconst (v := iI (1)) r_122_12 rfl ?_
    refine k_157 r_122_13 (Lk_1 hL) (Nat.le_of_ble_eq_true rfl) ?_
    refine c_refuse hL ?_
    refine w_iret r_122_16 ?_
    first | exact k1 (by omega) | exact k2 (by omega) (by omega) | exact k3 (by omega) (by omega)
theorem c_grip {x y : Int} (hx : R32 x) (hy : R32 y) (hL : Lay h) (hG : GBk h rb B) (k1 : ¬ (0 ≤ x ∧ x < B.g) → K (iI (-1)) (sI h 1 18 (iI 1))) (k2 : (0 ≤ x ∧ x < B.g) → ¬ (0 ≤ y ∧ y ≤ 90) → K (iI (-1)) (sI h 1 18 (iI 2))) (k3 : (0 ≤ x ∧ x < B.g) → (0 ≤ y ∧ y ≤ 90) → K (iI (B.grip x y)) (sI h 1 18 (iI 0))) :
    XW (d + 3) 123 0 [.ref 1, .int (iI x), .int (iI y)] [] h (KI K) := by
  obtain ⟨hB, hC, hM, hN⟩ := hG
  have hb := hB.1
  have e0 := hC.1.1
  have ok : 0 ≤ x ∧ x < B.g → B.ok := fun q => by
    rcases hN with q1 | q1
    · exact q1.2
    · have := q1.2.1; omega
  refine w_aload0 r_123_0 ?_
  refine w_getA (x := rb) r_123_1 (Lk_1 hL) hB.2.1 (RB.nz hb) ?_
  refine w_iload1 r_123_4 ?_
  refine k_3 r_123_5 (Bk_ hL hb) (Nat.le_of_ble_eq_true rfl) ?_
  refine c_hasGround (by omega) hL hb (fun c5 => ?_) (fun c5 => ?_)
  · refine v_if_ne r_123_8 (by first | exact zF_in _ _ _ | exact zA_in _ _ _ | omega) (fun _ => ?_) (fun q => absurd q (by omega))
    refine w_iload2 r_123_17 ?_
    refine v_if_lt r_123_18 (by first | exact zF_in _ _ _ | exact zA_in _ _ _ | omega) (fun c18 => ?_) (fun c18 => ?_)
    · refine w_aload0 r_123_27 ?_
      refine w_iconst (v := iI (2)) r_123_28 rfl ?_
      refine k_157 r_123_29 (Lk_1 hL) (Nat.le_of_ble_eq_true rfl) ?_
      refine c_refuse hL ?_
      refine w_iret r_123_32 ?_
      first | exact k1 (by omega) | exact k2 (by omega) (by omega) | exact k3 (by omega) (by omega)
    · refine w_iload2 r_123_21 ?_
      refine w_bipush (v := iI (90)) r_123_22 rfl ?_
      refine v_ic_le r_123_24 (by first | exact zF_in _ _ _ | exact zA_in _ _ _ | omega) (by first | exact zF_in _ _ _ | exact zA_in _ _ _ | omega) (fun c24 => ?_) (fun c24 => ?_)
      · refine w_aload0 r_123_33 ?_
        refine w_aload0 r_123_34 ?_
        refine w_getA (x := rb) r_123_35 (Lk_1 hL) hB.2.1 (RB.nz hb) ?_
        refine w_getA (x := rb + 6) r_123_38 (Bk_ hL hb) (Br_3 hL hb) (by omega) ?_
        refine w_iload1 r_123_41 ?_
        refine w_iload2 r_123_42 ?_
        refine k_17 r_123_43 (Bk_6 hL hb) (Nat.le_of_ble_eq_true rfl) ?_
        refine c_gripAt hL hb hC (ok (by omega)) (by omega) (by omega) ?_
        refine k_156 r_123_46 (Lk_1 hL) (Nat.le_of_ble_eq_true rfl) ?_
        refine c_answer hL ?_
        refine w_iret r_123_49 ?_
        first | exact k1 (by omega) | exact k2 (by omega) (by omega) | exact k3 (by omega) (by omega)
      · refine w_aload0 r_123_27 ?_
        refine w_iconst (v := iI (2)) r_123_28 rfl ?_
        refine k_157 r_123_29 (Lk_1 hL) (Nat.le_of_ble_eq_true rfl) ?_
        refine c_refuse hL ?_
        refine w_iret r_123_32 ?_
        first | exact k1 (by omega) | exact k2 (by omega) (by omega) | exact k3 (by omega) (by omega)
  · refine v_if_ne r_123_8 (by first | exact zF_in _ _ _ | exact zA_in _ _ _ | omega) (fun q => absurd q (by omega)) (fun _ => ?_)
    refine w_aload0 r_123_11 ?_
    refine w_iconst (v := iI (1)) r_123_12 rfl ?_
    refine k_157 r_123_13 (Lk_1 hL) (Nat.le_of_ble_eq_true rfl) ?_
    refine c_refuse hL ?_
    refine w_iret r_123_16 ?_
    first | exact k1 (by omega) | exact k2 (by omega) (by omega) | exact k3 (by omega) (by omega)
/-- no cell of a book is touched -/
def fpMB (a j : Nat) : Bool := (121 ≤ a && a ≤ 131) || (a == 118 && 22 ≤ j && j ≤ 28)
theorem MBk.fr {P : Nat → Nat → Bool} {h' : XH} (f : Fr P h h') (hp : ∀ a j, fpMB a j = true → P a j = false) (hM : MBk h B) : MBk h' B := by
  have eA : ∀ a i, 121 ≤ a → a ≤ 131 → zA h' a i = zA h a i := fun a i p q => f.A (hp _ _ (by simp [fpMB]; omega))
  have eF : ∀ j, 22 ≤ j → j ≤ 28 → zF h' 118 j = zF h 118 j := fun j p q => f.F (hp _ _ (by simp [fpMB]; omega))
  unfold MBk MNm at hM ⊢
  simp only [eA 121 _ (by decide) (by decide), eA 122 _ (by decide) (by decide), eA 123 _ (by decide) (by decide), eA 124 _ (by decide) (by decide), eA 125 _ (by decide) (by decide), eA 126 _ (by decide) (by decide), eA 127 _ (by decide) (by decide), eA 128 _ (by decide) (by decide), eA 129 _ (by decide) (by decide), eA 130 _ (by decide) (by decide), eA 131 _ (by decide) (by decide), eF 22 (by decide) (by decide), eF 23 (by decide) (by decide), eF 24 (by decide) (by decide), eF 25 (by decide) (by decide), eF 26 (by decide) (by decide), eF 27 (by decide) (by decide), eF 28 (by decide) (by decide)]
  exact hM
theorem hG_fr (h : XH) : Fr (pF [(118, 0), (118, 39)]) h (hG h) := ((Fr.refl _ _).sI 118 0 _ rfl).sI 118 39 _ rfl
theorem fp_MB0 : ∀ a j, fpMB a j = true → pF [(118, 0), (118, 39)] a j = false := by
  intro a j q
  simp [fpMB] at q
  simp [pF]; omega
theorem m_sink {x y : Int} (hx : R32 x) (hy : R32 y) (hL : Lay h) (hM : MB h) (hB : GBk h rb B) (k1 : ¬ (0 ≤ x ∧ x < B.g) → K (iI (-1)) (sI (hG h) 118 39 (iI 1))) (k2 : (0 ≤ x ∧ x < B.g) → ¬ (0 ≤ y ∧ y ≤ 999) → K (iI (-1)) (sI (hG h) 118 39 (iI 2))) (k3 : (0 ≤ x ∧ x < B.g) → (0 ≤ y ∧ y ≤ 999) → K (iI (B.sink x y)) (hG h)) :
    XW (d + 2) 193 0 [.ref 118, .int (iI x), .int (iI y)] [] h (KI K) := by
  obtain ⟨hR, hC, hQ, hN⟩ := hB
  have e0 := hQ.1.1
  have ok : 0 ≤ x ∧ x < B.g → B.ok := fun q => by
    rcases hN with q1 | q1
    · exact q1.2
    · have := q1.2.1; omega
  have hb1 : 0 ≤ x ∧ x < B.g → zF h 118 12 = 1 := fun q => by
    rcases hN with q1 | q1
    · exact q1.1
    · have := q1.2.1; omega
  obtain ⟨m1, m2, m3, m4, m5, m6⟩ := id hM
  have hQ' := hQ.fr (hG_fr h) fp_MB0
  have e126 : 0 ≤ x ∧ x < B.g → gI h 125 x.toNat = iI (B.sn x) := fun q => by rw [gI_A, (hQ.2.1 x q.1 q.2).2.1]
  refine w_aload0 r_193_0 ?_
  refine k_164 r_193_1 (Lk_118 hL) (Nat.le_of_ble_eq_true rfl) ?_
  refine m_good hL ?_
  refine w_aload0 r_193_4 ?_
  refine w_iload1 r_193_5 ?_
  refine k_192 r_193_6 (Lk_118 hL) (Nat.le_of_ble_eq_true rfl) ?_
  refine m_isGround (h0 := h) (by first | exact zF_in _ _ _ | exact zA_in _ _ _ | omega) hL ⟨rfl, rfl, rfl, rfl, rfl, rfl⟩ hM (fun c6 => ?_) (fun c6 => ?_)
  · refine v_if_ne r_193_9 (by first | exact zF_in _ _ _ | exact zA_in _ _ _ | omega) (fun _ => ?_) (fun q => absurd q (by omega))
    refine w_iload2 r_193_18 ?_
    refine w_iconst (v := iI (0)) r_193_19 rfl ?_
    refine w_sipush (v := iI (999)) r_193_20 rfl ?_
    refine k_167 r_193_23 (Nat.le_of_ble_eq_true rfl) ?_
    refine m_within (by first | exact zF_in _ _ _ | exact zA_in _ _ _ | omega) (by first | exact zF_in _ _ _ | exact zA_in _ _ _ | omega) (by first | exact zF_in _ _ _ | exact zA_in _ _ _ | omega) (fun c23 => ?_) (fun c23 => ?_)
    · refine v_if_eq r_193_26 (by first | exact zF_in _ _ _ | exact zA_in _ _ _ | omega) (fun q => absurd q (by omega)) (fun _ => ?_)
      refine w_aload0 r_193_29 ?_
      refine w_getA (x := 127) r_193_30 (Lk_118 hL) (Lr_118_20 hL) (by decide) ?_
      refine w_iload1 r_193_33 ?_
      refine w_aload0 r_193_34 ?_
      refine w_getA (x := 125) r_193_35 (Lk_118 hL) (Lr_118_18 hL) (by decide) ?_
      refine w_iload1 r_193_38 ?_
      refine v_iald r_193_39 (Lk_125 hL) (Lz_125 hL) (by decide) (by omega) (e126 (by omega)) ?_
      refine w_iload2 r_193_40 ?_
      refine k_191 r_193_41 (Nat.le_of_ble_eq_true rfl) ?_
      refine m_sinkAt (h := hG h) hL hQ' (ok (by omega)) (by omega) (by omega) ?_
      refine w_goto r_193_44 ?_
      refine w_iret r_193_52 ?_
      first | exact k1 (by omega) | exact k2 (by omega) (by omega) | exact k3 (by omega) (by omega)
    · refine v_if_eq r_193_26 (by first | exact zF_in _ _ _ | exact zA_in _ _ _ | omega) (fun _ => ?_) (fun q => absurd q (by omega))
      refine w_aload0 r_193_47 ?_
      refine w_iconst (v := iI (2)) r_193_48 rfl ?_
      refine k_165 r_193_49 (Lk_118 hL) (Nat.le_of_ble_eq_true rfl) ?_
      refine m_no hL ?_
      refine w_iret r_193_52 ?_
      first | exact k1 (by omega) | exact k2 (by omega) (by omega) | exact k3 (by omega) (by omega)
  · refine v_if_ne r_193_9 (by first | exact zF_in _ _ _ | exact zA_in _ _ _ | omega) (fun q => absurd q (by omega)) (fun _ => ?_)
    refine w_aload0 r_193_12 ?_
    refine w_iconst (v := iI (1)) r_193_13 rfl ?_
    refine k_165 r_193_14 (Lk_118 hL) (Nat.le_of_ble_eq_true rfl) ?_
    refine m_no hL ?_
    refine w_iret r_193_17 ?_
    first | exact k1 (by omega) | exact k2 (by omega) (by omega) | exact k3 (by omega) (by omega)
theorem m_grip {x y : Int} (hx : R32 x) (hy : R32 y) (hL : Lay h) (hM : MB h) (hB : GBk h rb B) (k1 : ¬ (0 ≤ x ∧ x < B.g) → K (iI (-1)) (sI (hG h) 118 39 (iI 1))) (k2 : (0 ≤ x ∧ x < B.g) → ¬ (0 ≤ y ∧ y ≤ 90) → K (iI (-1)) (sI (hG h) 118 39 (iI 2))) (k3 : (0 ≤ x ∧ x < B.g) → (0 ≤ y ∧ y ≤ 90) → K (iI (B.grip x y)) (hG h)) :
    XW (d + 2) 194 0 [.ref 118, .int (iI x), .int (iI y)] [] h (KI K) := by
  obtain ⟨hR, hC, hQ, hN⟩ := hB
  have e0 := hQ.1.1
  have ok : 0 ≤ x ∧ x < B.g → B.ok := fun q => by
    rcases hN with q1 | q1
    · exact q1.2
    · have := q1.2.1; omega
  have hb1 : 0 ≤ x ∧ x < B.g → zF h 118 12 = 1 := fun q => by
    rcases hN with q1 | q1
    · exact q1.1
    · have := q1.2.1; omega
  obtain ⟨m1, m2, m3, m4, m5, m6⟩ := id hM
  have hQ' := hQ.fr (hG_fr h) fp_MB0
  have e127 : 0 ≤ x ∧ x < B.g → gI h 126 x.toNat = iI (B.gn x) := fun q => by rw [gI_A, (hQ.2.1 x q.1 q.2).2.2]
  refine w_aload0 r_194_0 ?_
  refine k_164 r_194_1 (Lk_118 hL) (Nat.le_of_ble_eq_true rfl) ?_
  refine m_good hL ?_
  refine w_aload0 r_194_4 ?_
  refine w_iload1 r_194_5 ?_
  refine k_192 r_194_6 (Lk_118 hL) (Nat.le_of_ble_eq_true rfl) ?_
  refine m_isGround (h0 := h) (by first | exact zF_in _ _ _ | exact zA_in _ _ _ | omega) hL ⟨rfl, rfl, rfl, rfl, rfl, rfl⟩ hM (fun c6 => ?_) (fun c6 => ?_)
  · refine v_if_ne r_194_9 (by first | exact zF_in _ _ _ | exact zA_in _ _ _ | omega) (fun _ => ?_) (fun q => absurd q (by omega))
    refine w_iload2 r_194_18 ?_
    refine w_iconst (v := iI (0)) r_194_19 rfl ?_
    refine w_bipush (v := iI (90)) r_194_20 rfl ?_
    refine k_167 r_194_22 (Nat.le_of_ble_eq_true rfl) ?_
    refine m_within (by first | exact zF_in _ _ _ | exact zA_in _ _ _ | omega) (by first | exact zF_in _ _ _ | exact zA_in _ _ _ | omega) (by first | exact zF_in _ _ _ | exact zA_in _ _ _ | omega) (fun c22 => ?_) (fun c22 => ?_)
    · refine v_if_eq r_194_25 (by first | exact zF_in _ _ _ | exact zA_in _ _ _ | omega) (fun q => absurd q (by omega)) (fun _ => ?_)
      refine w_aload0 r_194_28 ?_
      refine w_getA (x := 128) r_194_29 (Lk_118 hL) (Lr_118_21 hL) (by decide) ?_
      refine w_iload1 r_194_32 ?_
      refine w_aload0 r_194_33 ?_
      refine w_getA (x := 126) r_194_34 (Lk_118 hL) (Lr_118_19 hL) (by decide) ?_
      refine w_iload1 r_194_37 ?_
      refine v_iald r_194_38 (Lk_126 hL) (Lz_126 hL) (by decide) (by omega) (e127 (by omega)) ?_
      refine w_iload2 r_194_39 ?_
      refine k_191 r_194_40 (Nat.le_of_ble_eq_true rfl) ?_
      refine m_gripAt (h := hG h) hL hQ' (ok (by omega)) (by omega) (by omega) ?_
      refine w_goto r_194_43 ?_
      refine w_iret r_194_51 ?_
      first | exact k1 (by omega) | exact k2 (by omega) (by omega) | exact k3 (by omega) (by omega)
    · refine v_if_eq r_194_25 (by first | exact zF_in _ _ _ | exact zA_in _ _ _ | omega) (fun _ => ?_) (fun q => absurd q (by omega))
      refine w_aload0 r_194_46 ?_
      refine w_iconst (v := iI (2)) r_194_47 rfl ?_
      refine k_165 r_194_48 (Lk_118 hL) (Nat.le_of_ble_eq_true rfl) ?_
      refine m_no hL ?_
      refine w_iret r_194_51 ?_
      first | exact k1 (by omega) | exact k2 (by omega) (by omega) | exact k3 (by omega) (by omega)
  · refine v_if_ne r_194_9 (by first | exact zF_in _ _ _ | exact zA_in _ _ _ | omega) (fun q => absurd q (by omega)) (fun _ => ?_)
    refine w_aload0 r_194_12 ?_
    refine w_iconst (v := iI (1)) r_194_13 rfl ?_
    refine k_165 r_194_14 (Lk_118 hL) (Nat.le_of_ble_eq_true rfl) ?_
    refine m_no hL ?_
    refine w_iret r_194_17 ?_
    first | exact k1 (by omega) | exact k2 (by omega) (by omega) | exact k3 (by omega) (by omega)
end BO
