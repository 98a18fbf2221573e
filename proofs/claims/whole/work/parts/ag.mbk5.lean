/-! the Model keeps a book and gives it back -/
/-- which row, and which place of it, lies at a place of what is kept -/
def kpr (x : Int) : Nat := if x < 256 then (if x % 4 = 0 then 121 else if x % 4 = 1 then 123 else if x % 4 = 2 then 127 else 128) else if x < 288 then (if x % 4 = 0 then 122 else if x % 4 = 1 then 124 else if x % 4 = 2 then 125 else 126) else (if x % 3 = 0 then 129 else if x % 3 = 1 then 130 else 131)
def kpi (x : Int) : Int := if x < 256 then x / 4 else if x < 288 then (x - 256) / 4 else (x - 288) / 3
def kpv (r : Nat) (i : Int) : Int := if r = 121 then 4 * i else if r = 123 then 4 * i + 1 else if r = 127 then 4 * i + 2 else if r = 128 then 4 * i + 3 else if r = 122 then 256 + 4 * i else if r = 124 then 257 + 4 * i else if r = 125 then 258 + 4 * i else if r = 126 then 259 + 4 * i else if r = 129 then 288 + 3 * i else if r = 130 then 289 + 3 * i else 290 + 3 * i
section MB5
variable {d : Nat} {h : XH} {K : Int32 → XH → Prop} {KU : XH → Prop} {B : XB}
theorem kpv_at {x : Int} (h0 : 0 ≤ x) (h1 : x < 306) : kpv (kpr x) (kpi x) = x ∧ (121 ≤ kpr x ∧ kpr x ≤ 131) ∧ 0 ≤ kpi x := by
  unfold kpr kpi
  by_cases a : x < 256
  · rw [if_pos a, if_pos a]
    have : x % 4 = 0 ∨ x % 4 = 1 ∨ x % 4 = 2 ∨ x % 4 = 3 := by omega
    rcases this with q | q | q | q <;> rw [q] <;> simp [kpv] <;> omega
  · rw [if_neg a, if_neg a]
    by_cases b : x < 288
    · rw [if_pos b, if_pos b]
      have : x % 4 = 0 ∨ x % 4 = 1 ∨ x % 4 = 2 ∨ x % 4 = 3 := by omega
      rcases this with q | q | q | q <;> rw [q] <;> simp [kpv] <;> omega
    · rw [if_neg b, if_neg b]
      have : x % 3 = 0 ∨ x % 3 = 1 ∨ x % 3 = 2 := by omega
      rcases this with q | q | q <;> rw [q] <;> simp [kpv] <;> omega
theorem kp_inj {x y : Int} (hx : 0 ≤ x ∧ x < 306) (hy : 0 ≤ y ∧ y < 306) (hr : kpr x = kpr y) (hi : kpi x = kpi y) : x = y := by
  have a := (kpv_at hx.1 hx.2).1
  rw [hr, hi, (kpv_at hy.1 hy.2).1] at a
  exact a.symm
theorem kp_122 {k : Int} (hk : 0 ≤ k ∧ k < 64) : kpr (0 + 4 * k) = 121 ∧ kpi (0 + 4 * k) = k := ⟨by unfold kpr; rw [if_pos (by omega), if_pos (by omega)], by unfold kpi; rw [if_pos (by omega)]; omega⟩
theorem kp_124 {k : Int} (hk : 0 ≤ k ∧ k < 64) : kpr (1 + 4 * k) = 123 ∧ kpi (1 + 4 * k) = k := ⟨by unfold kpr; rw [if_pos (by omega), if_neg (by omega), if_pos (by omega)], by unfold kpi; rw [if_pos (by omega)]; omega⟩
theorem kp_128 {k : Int} (hk : 0 ≤ k ∧ k < 64) : kpr (2 + 4 * k) = 127 ∧ kpi (2 + 4 * k) = k := ⟨by unfold kpr; rw [if_pos (by omega), if_neg (by omega), if_neg (by omega), if_pos (by omega)], by unfold kpi; rw [if_pos (by omega)]; omega⟩
theorem kp_129 {k : Int} (hk : 0 ≤ k ∧ k < 64) : kpr (3 + 4 * k) = 128 ∧ kpi (3 + 4 * k) = k := ⟨by unfold kpr; rw [if_pos (by omega), if_neg (by omega), if_neg (by omega), if_neg (by omega)], by unfold kpi; rw [if_pos (by omega)]; omega⟩
theorem kp_123 {k : Int} (hk : 0 ≤ k ∧ k < 8) : kpr (256 + 4 * k) = 122 ∧ kpi (256 + 4 * k) = k := ⟨by unfold kpr; rw [if_neg (by omega), if_pos (by omega), if_pos (by omega)], by unfold kpi; rw [if_neg (by omega), if_pos (by omega)]; omega⟩
theorem kp_125 {k : Int} (hk : 0 ≤ k ∧ k < 8) : kpr (257 + 4 * k) = 124 ∧ kpi (257 + 4 * k) = k := ⟨by unfold kpr; rw [if_neg (by omega), if_pos (by omega), if_neg (by omega), if_pos (by omega)], by unfold kpi; rw [if_neg (by omega), if_pos (by omega)]; omega⟩
theorem kp_126 {k : Int} (hk : 0 ≤ k ∧ k < 8) : kpr (258 + 4 * k) = 125 ∧ kpi (258 + 4 * k) = k := ⟨by unfold kpr; rw [if_neg (by omega), if_pos (by omega), if_neg (by omega), if_neg (by omega), if_pos (by omega)], by unfold kpi; rw [if_neg (by omega), if_pos (by omega)]; omega⟩
theorem kp_127 {k : Int} (hk : 0 ≤ k ∧ k < 8) : kpr (259 + 4 * k) = 126 ∧ kpi (259 + 4 * k) = k := ⟨by unfold kpr; rw [if_neg (by omega), if_pos (by omega), if_neg (by omega), if_neg (by omega), if_neg (by omega)], by unfold kpi; rw [if_neg (by omega), if_pos (by omega)]; omega⟩
theorem kp_130 {k : Int} (hk : 0 ≤ k ∧ k < 6) : kpr (288 + 3 * k) = 129 ∧ kpi (288 + 3 * k) = k := ⟨by unfold kpr; rw [if_neg (by omega), if_neg (by omega), if_pos (by omega)], by unfold kpi; rw [if_neg (by omega), if_neg (by omega)]; omega⟩
theorem kp_131 {k : Int} (hk : 0 ≤ k ∧ k < 6) : kpr (289 + 3 * k) = 130 ∧ kpi (289 + 3 * k) = k := ⟨by unfold kpr; rw [if_neg (by omega), if_neg (by omega), if_neg (by omega), if_pos (by omega)], by unfold kpi; rw [if_neg (by omega), if_neg (by omega)]; omega⟩
theorem kp_132 {k : Int} (hk : 0 ≤ k ∧ k < 6) : kpr (290 + 3 * k) = 131 ∧ kpi (290 + 3 * k) = k := ⟨by unfold kpr; rw [if_neg (by omega), if_neg (by omega), if_neg (by omega), if_neg (by omega)], by unfold kpi; rw [if_neg (by omega), if_neg (by omega)]; omega⟩
/-- the first n places are kept -/
def KpI (h h1 : XH) (n : Int) : Prop := Fr (pA [132]) h h1 ∧ ∀ x, 0 ≤ x → x < n → zA h1 132 x = zA h (kpr x) (kpi x)
def pR : Nat → Nat → Bool := fun a j => (a == 118 && (decide (22 ≤ j) && decide (j ≤ 28))) || (decide (121 ≤ a) && decide (a ≤ 131))
/-- the first n places are given back -/
def KpJ (h h1 : XH) (n : Int) : Prop := Fr pR h h1 ∧ ∀ x, 0 ≤ x → x < n → zA h1 (kpr x) (kpi x) = zA h 132 x
theorem m_cell0 {ra z : Nat} {k n : Int} {h0 : XH} (hL : Lay h) (I : KpI h0 h n) (hn : 0 ≤ n ∧ n < 306) (hr : kpr n = ra ∧ kpi n = k) (rk : ∀ {g : XH}, Lay g → gK g ra = 1 ∧ gZ g ra = z ∧ ra < gN g) (hz : z ≤ 64) (hk : 0 ≤ k ∧ k < z) (hra : 121 ≤ ra ∧ ra ≤ 131) (kk : ∀ h', KpI h0 h' (n + 1) → K (iI (n + 1)) h') : XW d 182 0 [.ref 118, .ref ra, .int (iI k), .int (iI n), .int (iI 0)] [] h (KI K) := by
  have v24 : gI h ra k.toNat = iI (zA h ra k) := gI_A _ _ _
  have zi := zA_in h ra k
  have J := kk (sI h 132 n.toNat (iI (zA h ra k))) ⟨I.1.sI 132 _ _ (by simp [pA]), fun x x0 x1 => by
    rw [zA_s hn.1 x0 zi]
    by_cases q : x = n
    · rw [if_pos q, q, hr.1, hr.2, I.1.A (by simp [pA]; omega)]
    · rw [if_neg q]; exact I.2 x x0 (by omega)⟩
  refine w_iload4 r_182_0 ?_
  refine v_if_eq r_182_2 (by first | exact zF_in _ _ _ | exact zA_in _ _ _ | omega) (fun _ => ?_) (fun q => absurd q (by omega))
  refine w_aload0 r_182_17 ?_
  refine w_getA (x := 132) r_182_18 (Lk_118 hL) (Lr_118_33 hL) (by decide) ?_
  refine w_iload3 r_182_21 ?_
  refine w_aload1 r_182_22 ?_
  refine w_iload2 r_182_23 ?_
  refine v_iald r_182_24 (rk hL).1 (rk hL).2.1 (by omega) (by omega) v24 ?_
  refine v_iast r_182_25 (Lk_132 hL) (Ln_132 hL) (Lz_132 hL) (by decide) (by omega) ?_
  refine w_iload3 r_182_26 ?_
  refine w_iconst (v := iI (1)) r_182_27 rfl ?_
  refine v_iadd r_182_28 ?_
  refine w_iret r_182_29 ?_
  exact J
theorem m_cell1 {ra z : Nat} {k n : Int} {h0 : XH} (hL : Lay h) (I : KpJ h0 h n) (hn : 0 ≤ n ∧ n < 306) (hr : kpr n = ra ∧ kpi n = k) (rk : ∀ {g : XH}, Lay g → gK g ra = 1 ∧ gZ g ra = z ∧ ra < gN g) (hz : z ≤ 64) (hk : 0 ≤ k ∧ k < z) (hra : 121 ≤ ra ∧ ra ≤ 131) (kk : ∀ h', KpJ h0 h' (n + 1) → K (iI (n + 1)) h') : XW d 182 0 [.ref 118, .ref ra, .int (iI k), .int (iI n), .int (iI 1)] [] h (KI K) := by
  have v12 : gI h 132 n.toNat = iI (zA h 132 n) := gI_A _ _ _
  have zi := zA_in h 132 n
  have J := kk (sI h ra k.toNat (iI (zA h 132 n))) ⟨I.1.sI ra _ _ (by simp [pR]; omega), fun x x0 x1 => by
    have kx := kpv_at x0 (by omega : x < 306)
    by_cases c : kpr x = ra
    · rw [c, zA_s hk.1 kx.2.2 zi]
      by_cases q : kpi x = k
      · have e : x = n := kp_inj ⟨x0, by omega⟩ hn (c.trans hr.1.symm) (q.trans hr.2.symm)
        rw [if_pos q, e, I.1.A (by simp [pR])]
      · rw [if_neg q, ← c]
        refine I.2 x x0 ?_
        by_cases e : x = n
        · rw [e] at q; exact absurd hr.2 q
        · omega
    · rw [zA_o _ c]
      refine I.2 x x0 ?_
      by_cases e : x = n
      · rw [e] at c; exact absurd hr.1 c
      · omega⟩
  refine w_iload4 r_182_0 ?_
  refine v_if_eq r_182_2 (by first | exact zF_in _ _ _ | exact zA_in _ _ _ | omega) (fun q => absurd q (by omega)) (fun _ => ?_)
  refine w_aload1 r_182_5 ?_
  refine w_iload2 r_182_6 ?_
  refine w_aload0 r_182_7 ?_
  refine w_getA (x := 132) r_182_8 (Lk_118 hL) (Lr_118_33 hL) (by decide) ?_
  refine w_iload3 r_182_11 ?_
  refine v_iald r_182_12 (Lk_132 hL) (Lz_132 hL) (by decide) (by omega) v12 ?_
  refine v_iast r_182_13 (rk hL).1 (rk hL).2.2 (rk hL).2.1 (by omega) (by omega) ?_
  refine w_goto r_182_14 ?_
  refine w_iload3 r_182_26 ?_
  refine w_iconst (v := iI (1)) r_182_27 rfl ?_
  refine v_iadd r_182_28 ?_
  refine w_iret r_182_29 ?_
  exact J
theorem zA_sN {h : XH} {a j : Nat} {k z : Int} (hj : j ≤ 1000000) (hk : 0 ≤ k) (hz : -2147483648 ≤ z ∧ z ≤ 2147483647) : zA (sI h a j (iI z)) a k = if k = (j : Int) then z else zA h a k := zA_s (i := (j : Int)) (by omega) hk hz
/-- all is kept -/
def KpA (h h' : XH) : Prop := (∀ x, 0 ≤ x → x < 306 → zA h' 132 x = zA h (kpr x) (kpi x)) ∧ zA h' 132 306 = zF h 118 22 ∧ zA h' 132 307 = zF h 118 23 ∧ zA h' 132 308 = zF h 118 24 ∧ zA h' 132 309 = zF h 118 25 ∧ zA h' 132 310 = zF h 118 26 ∧ zA h' 132 311 = zF h 118 27 ∧ zA h' 132 312 = zF h 118 28
theorem m_store0 (hL : Lay h) (kk : ∀ h', Fr (pA [132]) h h' → KpA h h' → KU h') : XW (d + 1) 181 0 [.ref 118, .int (iI 0), .null, .null] [] h (KV KU) := by
  have hL0 := hL
  have l4 : ∀ (h1 : XH) (X3 : Value), KpI h h1 306 → XW (d + 1) 181 176 [.ref 118, .int (iI 0), .int (iI 306), X3] [] h1 (KV KU) := by
    intro h1 X3 I1
    have hL := I1.1.lay hL0
    have f0 : gI (h1) 118 22 = iI (zF h 118 22) := by rw [(I1.1.2 118 22 (by simp [pA])).1, gI_F]
    have f1 : gI (sI (h1) 132 306 (iI (zF h 118 22))) 118 23 = iI (zF h 118 23) := by rw [sI_other _ (by decide)]; rw [(I1.1.2 118 23 (by simp [pA])).1, gI_F]
    have f2 : gI (sI (sI (h1) 132 306 (iI (zF h 118 22))) 132 307 (iI (zF h 118 23))) 118 24 = iI (zF h 118 24) := by rw [sI_other _ (by decide)]; rw [sI_other _ (by decide)]; rw [(I1.1.2 118 24 (by simp [pA])).1, gI_F]
    have f3 : gI (sI (sI (sI (h1) 132 306 (iI (zF h 118 22))) 132 307 (iI (zF h 118 23))) 132 308 (iI (zF h 118 24))) 118 25 = iI (zF h 118 25) := by rw [sI_other _ (by decide)]; rw [sI_other _ (by decide)]; rw [sI_other _ (by decide)]; rw [(I1.1.2 118 25 (by simp [pA])).1, gI_F]
    have f4 : gI (sI (sI (sI (sI (h1) 132 306 (iI (zF h 118 22))) 132 307 (iI (zF h 118 23))) 132 308 (iI (zF h 118 24))) 132 309 (iI (zF h 118 25))) 118 26 = iI (zF h 118 26) := by rw [sI_other _ (by decide)]; rw [sI_other _ (by decide)]; rw [sI_other _ (by decide)]; rw [sI_other _ (by decide)]; rw [(I1.1.2 118 26 (by simp [pA])).1, gI_F]
    have f5 : gI (sI (sI (sI (sI (sI (h1) 132 306 (iI (zF h 118 22))) 132 307 (iI (zF h 118 23))) 132 308 (iI (zF h 118 24))) 132 309 (iI (zF h 118 25))) 132 310 (iI (zF h 118 26))) 118 27 = iI (zF h 118 27) := by rw [sI_other _ (by decide)]; rw [sI_other _ (by decide)]; rw [sI_other _ (by decide)]; rw [sI_other _ (by decide)]; rw [sI_other _ (by decide)]; rw [(I1.1.2 118 27 (by simp [pA])).1, gI_F]
    have f6 : gI (sI (sI (sI (sI (sI (sI (h1) 132 306 (iI (zF h 118 22))) 132 307 (iI (zF h 118 23))) 132 308 (iI (zF h 118 24))) 132 309 (iI (zF h 118 25))) 132 310 (iI (zF h 118 26))) 132 311 (iI (zF h 118 27))) 118 28 = iI (zF h 118 28) := by rw [sI_other _ (by decide)]; rw [sI_other _ (by decide)]; rw [sI_other _ (by decide)]; rw [sI_other _ (by decide)]; rw [sI_other _ (by decide)]; rw [sI_other _ (by decide)]; rw [(I1.1.2 118 28 (by simp [pA])).1, gI_F]
    have zz : ∀ x, 0 ≤ x → zA (sI (sI (sI (sI (sI (sI (sI (h1) 132 306 (iI (zF h 118 22))) 132 307 (iI (zF h 118 23))) 132 308 (iI (zF h 118 24))) 132 309 (iI (zF h 118 25))) 132 310 (iI (zF h 118 26))) 132 311 (iI (zF h 118 27))) 132 312 (iI (zF h 118 28))) 132 x = if x = 312 then zF h 118 28 else if x = 311 then zF h 118 27 else if x = 310 then zF h 118 26 else if x = 309 then zF h 118 25 else if x = 308 then zF h 118 24 else if x = 307 then zF h 118 23 else if x = 306 then zF h 118 22 else zA h1 132 x := fun x x0 => by
      rw [zA_sN (by decide) x0 (zF_in _ _ _), zA_sN (by decide) x0 (zF_in _ _ _), zA_sN (by decide) x0 (zF_in _ _ _), zA_sN (by decide) x0 (zF_in _ _ _), zA_sN (by decide) x0 (zF_in _ _ _), zA_sN (by decide) x0 (zF_in _ _ _), zA_sN (by decide) x0 (zF_in _ _ _)]
      rfl
    have R := kk (sI (sI (sI (sI (sI (sI (sI (h1) 132 306 (iI (zF h 118 22))) 132 307 (iI (zF h 118 23))) 132 308 (iI (zF h 118 24))) 132 309 (iI (zF h 118 25))) 132 310 (iI (zF h 118 26))) 132 311 (iI (zF h 118 27))) 132 312 (iI (zF h 118 28))) ((((((((I1.1.sI 132 306 _ (by simp [pA])).sI 132 307 _ (by simp [pA])).sI 132 308 _ (by simp [pA])).sI 132 309 _ (by simp [pA])).sI 132 310 _ (by simp [pA])).sI 132 311 _ (by simp [pA])).sI 132 312 _ (by simp [pA]))) ⟨fun x x0 x1 => by rw [zz x x0, if_neg (by omega), if_neg (by omega), if_neg (by omega), if_neg (by omega), if_neg (by omega), if_neg (by omega), if_neg (by omega)]; exact I1.2 x x0 (by omega), by rw [zz 306 (by decide)]; rfl, by rw [zz 307 (by decide)]; rfl, by rw [zz 308 (by decide)]; rfl, by rw [zz 309 (by decide)]; rfl, by rw [zz 310 (by decide)]; rfl, by rw [zz 311 (by decide)]; rfl, by rw [zz 312 (by decide)]; rfl⟩
    refine w_iload1 r_181_176 ?_
    refine v_if_eq r_181_177 (by first | exact zF_in _ _ _ | exact zA_in _ _ _ | omega) (fun _ => ?_) (fun q => absurd q (by omega))
    refine w_aload0 r_181_266 ?_
    refine w_getA (x := 132) r_181_267 (Lk_118 hL) (Lr_118_33 hL) (by decide) ?_
    refine w_iload2 r_181_270 ?_
    refine w_aload0 r_181_271 ?_
    refine v_getI r_181_272 (Lk_118 hL) f0 ?_
    refine v_iast r_181_275 (Lk_132 hL) (Ln_132 hL) (Lz_132 hL) (by decide) (by omega) ?_
    refine w_aload0 r_181_276 ?_
    refine w_getA (x := 132) r_181_277 (Lk_118 hL) (Lr_118_33 hL) (by decide) ?_
    refine w_iload2 r_181_280 ?_
    refine w_iconst (v := iI (1)) r_181_281 rfl ?_
    refine v_iadd r_181_282 ?_
    refine w_aload0 r_181_283 ?_
    refine v_getI r_181_284 (Lk_118 hL) f1 ?_
    refine v_iast r_181_287 (Lk_132 hL) (Ln_132 hL) (Lz_132 hL) (by decide) (by omega) ?_
    refine w_aload0 r_181_288 ?_
    refine w_getA (x := 132) r_181_289 (Lk_118 hL) (Lr_118_33 hL) (by decide) ?_
    refine w_iload2 r_181_292 ?_
    refine w_iconst (v := iI (2)) r_181_293 rfl ?_
    refine v_iadd r_181_294 ?_
    refine w_aload0 r_181_295 ?_
    refine v_getI r_181_296 (Lk_118 hL) f2 ?_
    refine v_iast r_181_299 (Lk_132 hL) (Ln_132 hL) (Lz_132 hL) (by decide) (by omega) ?_
    refine w_aload0 r_181_300 ?_
    refine w_getA (x := 132) r_181_301 (Lk_118 hL) (Lr_118_33 hL) (by decide) ?_
    refine w_iload2 r_181_304 ?_
    refine w_iconst (v := iI (3)) r_181_305 rfl ?_
    refine v_iadd r_181_306 ?_
    refine w_aload0 r_181_307 ?_
    refine v_getI r_181_308 (Lk_118 hL) f3 ?_
    refine v_iast r_181_311 (Lk_132 hL) (Ln_132 hL) (Lz_132 hL) (by decide) (by omega) ?_
    refine w_aload0 r_181_312 ?_
    refine w_getA (x := 132) r_181_313 (Lk_118 hL) (Lr_118_33 hL) (by decide) ?_
    refine w_iload2 r_181_316 ?_
    refine w_iconst (v := iI (4)) r_181_317 rfl ?_
    refine v_iadd r_181_318 ?_
    refine w_aload0 r_181_319 ?_
    refine v_getI r_181_320 (Lk_118 hL) f4 ?_
    refine v_iast r_181_323 (Lk_132 hL) (Ln_132 hL) (Lz_132 hL) (by decide) (by omega) ?_
    refine w_aload0 r_181_324 ?_
    refine w_getA (x := 132) r_181_325 (Lk_118 hL) (Lr_118_33 hL) (by decide) ?_
    refine w_iload2 r_181_328 ?_
    refine w_iconst (v := iI (5)) r_181_329 rfl ?_
    refine v_iadd r_181_330 ?_
    refine w_aload0 r_181_331 ?_
    refine v_getI r_181_332 (Lk_118 hL) f5 ?_
    refine v_iast r_181_335 (Lk_132 hL) (Ln_132 hL) (Lz_132 hL) (by decide) (by omega) ?_
    refine w_aload0 r_181_336 ?_
    refine w_getA (x := 132) r_181_337 (Lk_118 hL) (Lr_118_33 hL) (by decide) ?_
    refine w_iload2 r_181_340 ?_
    refine w_bipush (v := iI (6)) r_181_341 rfl ?_
    refine v_iadd r_181_343 ?_
    refine w_aload0 r_181_344 ?_
    refine v_getI r_181_345 (Lk_118 hL) f6 ?_
    refine v_iast r_181_348 (Lk_132 hL) (Ln_132 hL) (Lz_132 hL) (by decide) (by omega) ?_
    refine w_vret r_181_349 ?_
    exact R
  have l3 : ∀ k : Nat, k ≤ 6 → ∀ h1 : XH, KpI h h1 (288 + 3 * (k : Int)) → XW (d + 1) 181 128 [.ref 118, .int (iI 0), .int (iI (288 + 3 * (k : Int))), .int (iI k)] [] h1 (KV KU) := by
    refine upto _ ?_ ?_
    · intro h1 I1
      have hL := I1.1.lay hL0
      have J := l4 h1 (.int (iI (6 : Nat))) I1
      refine w_iload3 r_181_128 ?_
      refine w_bipush (v := iI (6)) r_181_129 rfl ?_
      refine v_ic_ge r_181_131 (by first | exact zF_in _ _ _ | exact zA_in _ _ _ | omega) (by first | exact zF_in _ _ _ | exact zA_in _ _ _ | omega) (fun _ => ?_) (fun q => absurd q (by omega))
      exact J
    · intro k hk ih h1 I1
      have hL := I1.1.lay hL0
      have J := fun g (I9 : KpI h g (288 + 3 * (k : Int) + 1 + 1 + 1)) => ih g (by rw [show 288 + 3 * ((k + 1 : Nat) : Int) = 288 + 3 * (k : Int) + 1 + 1 + 1 by omega]; exact I9)
      rw [show 288 + 3 * ((k + 1 : Nat) : Int) = 288 + 3 * (k : Int) + 1 + 1 + 1 by omega] at J
      refine w_iload3 r_181_128 ?_
      refine w_bipush (v := iI (6)) r_181_129 rfl ?_
      refine v_ic_ge r_181_131 (by first | exact zF_in _ _ _ | exact zA_in _ _ _ | omega) (by first | exact zF_in _ _ _ | exact zA_in _ _ _ | omega) (fun q => absurd q (by omega)) (fun _ => ?_)
      refine w_aload0 r_181_134 ?_
      refine w_aload0 r_181_135 ?_
      refine w_getA (x := 129) r_181_136 (Lk_118 hL) (Lr_118_30 hL) (by decide) ?_
      refine w_iload3 r_181_139 ?_
      refine w_iload2 r_181_140 ?_
      refine w_iload1 r_181_141 ?_
      refine k_182 r_181_142 (Lk_118 hL) (Nat.le_of_ble_eq_true rfl) ?_
      refine m_cell0 (k := (k : Int)) (n := 288 + 3 * (k : Int)) hL I1 (by omega) (by rw [show 288 + 3 * (k : Int) = 288 + 3 * (k : Int) by omega]; exact kp_130 (by omega)) (fun {g} hg => ⟨Lk_129 hg, Lz_129 hg, hg.n (by decide)⟩) (by decide) (by omega) (by decide) (fun h2 I2 => ?_)
      have hL := I2.1.lay hL0
      refine w_istore2 r_181_145 rfl ?_
      refine w_aload0 r_181_146 ?_
      refine w_aload0 r_181_147 ?_
      refine w_getA (x := 130) r_181_148 (Lk_118 hL) (Lr_118_31 hL) (by decide) ?_
      refine w_iload3 r_181_151 ?_
      refine w_iload2 r_181_152 ?_
      refine w_iload1 r_181_153 ?_
      refine k_182 r_181_154 (Lk_118 hL) (Nat.le_of_ble_eq_true rfl) ?_
      refine m_cell0 (k := (k : Int)) (n := 288 + 3 * (k : Int) + 1) hL I2 (by omega) (by rw [show 288 + 3 * (k : Int) + 1 = 289 + 3 * (k : Int) by omega]; exact kp_131 (by omega)) (fun {g} hg => ⟨Lk_130 hg, Lz_130 hg, hg.n (by decide)⟩) (by decide) (by omega) (by decide) (fun h3 I3 => ?_)
      have hL := I3.1.lay hL0
      refine w_istore2 r_181_157 rfl ?_
      refine w_aload0 r_181_158 ?_
      refine w_aload0 r_181_159 ?_
      refine w_getA (x := 131) r_181_160 (Lk_118 hL) (Lr_118_32 hL) (by decide) ?_
      refine w_iload3 r_181_163 ?_
      refine w_iload2 r_181_164 ?_
      refine w_iload1 r_181_165 ?_
      refine k_182 r_181_166 (Lk_118 hL) (Nat.le_of_ble_eq_true rfl) ?_
      refine m_cell0 (k := (k : Int)) (n := 288 + 3 * (k : Int) + 1 + 1) hL I3 (by omega) (by rw [show 288 + 3 * (k : Int) + 1 + 1 = 290 + 3 * (k : Int) by omega]; exact kp_132 (by omega)) (fun {g} hg => ⟨Lk_131 hg, Lz_131 hg, hg.n (by decide)⟩) (by decide) (by omega) (by decide) (fun h4 I4 => ?_)
      have hL := I4.1.lay hL0
      refine w_istore2 r_181_169 rfl ?_
      refine w_iinc3 r_181_170 rfl (iI_add _ _) ?_
      refine w_goto r_181_173 ?_
      exact J _ I4
  have l2 : ∀ k : Nat, k ≤ 8 → ∀ h1 : XH, KpI h h1 (256 + 4 * (k : Int)) → XW (d + 1) 181 66 [.ref 118, .int (iI 0), .int (iI (256 + 4 * (k : Int))), .int (iI k)] [] h1 (KV KU) := by
    refine upto _ ?_ ?_
    · intro h1 I1
      have hL := I1.1.lay hL0
      have J := l3 0 (by omega) h1 I1
      refine w_iload3 r_181_66 ?_
      refine w_bipush (v := iI (8)) r_181_67 rfl ?_
      refine v_ic_ge r_181_69 (by first | exact zF_in _ _ _ | exact zA_in _ _ _ | omega) (by first | exact zF_in _ _ _ | exact zA_in _ _ _ | omega) (fun _ => ?_) (fun q => absurd q (by omega))
      refine w_iconst (v := iI (0)) r_181_126 rfl ?_
      refine w_istore3 r_181_127 rfl ?_
      exact J
    · intro k hk ih h1 I1
      have hL := I1.1.lay hL0
      have J := fun g (I9 : KpI h g (256 + 4 * (k : Int) + 1 + 1 + 1 + 1)) => ih g (by rw [show 256 + 4 * ((k + 1 : Nat) : Int) = 256 + 4 * (k : Int) + 1 + 1 + 1 + 1 by omega]; exact I9)
      rw [show 256 + 4 * ((k + 1 : Nat) : Int) = 256 + 4 * (k : Int) + 1 + 1 + 1 + 1 by omega] at J
      refine w_iload3 r_181_66 ?_
      refine w_bipush (v := iI (8)) r_181_67 rfl ?_
      refine v_ic_ge r_181_69 (by first | exact zF_in _ _ _ | exact zA_in _ _ _ | omega) (by first | exact zF_in _ _ _ | exact zA_in _ _ _ | omega) (fun q => absurd q (by omega)) (fun _ => ?_)
      refine w_aload0 r_181_72 ?_
      refine w_aload0 r_181_73 ?_
      refine w_getA (x := 122) r_181_74 (Lk_118 hL) (Lr_118_15 hL) (by decide) ?_
      refine w_iload3 r_181_77 ?_
      refine w_iload2 r_181_78 ?_
      refine w_iload1 r_181_79 ?_
      refine k_182 r_181_80 (Lk_118 hL) (Nat.le_of_ble_eq_true rfl) ?_
      refine m_cell0 (k := (k : Int)) (n := 256 + 4 * (k : Int)) hL I1 (by omega) (by rw [show 256 + 4 * (k : Int) = 256 + 4 * (k : Int) by omega]; exact kp_123 (by omega)) (fun {g} hg => ⟨Lk_122 hg, Lz_122 hg, hg.n (by decide)⟩) (by decide) (by omega) (by decide) (fun h2 I2 => ?_)
      have hL := I2.1.lay hL0
      refine w_istore2 r_181_83 rfl ?_
      refine w_aload0 r_181_84 ?_
      refine w_aload0 r_181_85 ?_
      refine w_getA (x := 124) r_181_86 (Lk_118 hL) (Lr_118_17 hL) (by decide) ?_
      refine w_iload3 r_181_89 ?_
      refine w_iload2 r_181_90 ?_
      refine w_iload1 r_181_91 ?_
      refine k_182 r_181_92 (Lk_118 hL) (Nat.le_of_ble_eq_true rfl) ?_
      refine m_cell0 (k := (k : Int)) (n := 256 + 4 * (k : Int) + 1) hL I2 (by omega) (by rw [show 256 + 4 * (k : Int) + 1 = 257 + 4 * (k : Int) by omega]; exact kp_125 (by omega)) (fun {g} hg => ⟨Lk_124 hg, Lz_124 hg, hg.n (by decide)⟩) (by decide) (by omega) (by decide) (fun h3 I3 => ?_)
      have hL := I3.1.lay hL0
      refine w_istore2 r_181_95 rfl ?_
      refine w_aload0 r_181_96 ?_
      refine w_aload0 r_181_97 ?_
      refine w_getA (x := 125) r_181_98 (Lk_118 hL) (Lr_118_18 hL) (by decide) ?_
      refine w_iload3 r_181_101 ?_
      refine w_iload2 r_181_102 ?_
      refine w_iload1 r_181_103 ?_
      refine k_182 r_181_104 (Lk_118 hL) (Nat.le_of_ble_eq_true rfl) ?_
      refine m_cell0 (k := (k : Int)) (n := 256 + 4 * (k : Int) + 1 + 1) hL I3 (by omega) (by rw [show 256 + 4 * (k : Int) + 1 + 1 = 258 + 4 * (k : Int) by omega]; exact kp_126 (by omega)) (fun {g} hg => ⟨Lk_125 hg, Lz_125 hg, hg.n (by decide)⟩) (by decide) (by omega) (by decide) (fun h4 I4 => ?_)
      have hL := I4.1.lay hL0
      refine w_istore2 r_181_107 rfl ?_
      refine w_aload0 r_181_108 ?_
      refine w_aload0 r_181_109 ?_
      refine w_getA (x := 126) r_181_110 (Lk_118 hL) (Lr_118_19 hL) (by decide) ?_
      refine w_iload3 r_181_113 ?_
      refine w_iload2 r_181_114 ?_
      refine w_iload1 r_181_115 ?_
      refine k_182 r_181_116 (Lk_118 hL) (Nat.le_of_ble_eq_true rfl) ?_
      refine m_cell0 (k := (k : Int)) (n := 256 + 4 * (k : Int) + 1 + 1 + 1) hL I4 (by omega) (by rw [show 256 + 4 * (k : Int) + 1 + 1 + 1 = 259 + 4 * (k : Int) by omega]; exact kp_127 (by omega)) (fun {g} hg => ⟨Lk_126 hg, Lz_126 hg, hg.n (by decide)⟩) (by decide) (by omega) (by decide) (fun h5 I5 => ?_)
      have hL := I5.1.lay hL0
      refine w_istore2 r_181_119 rfl ?_
      refine w_iinc3 r_181_120 rfl (iI_add _ _) ?_
      refine w_goto r_181_123 ?_
      exact J _ I5
  have l1 : ∀ k : Nat, k ≤ 64 → ∀ h1 : XH, KpI h h1 (0 + 4 * (k : Int)) → XW (d + 1) 181 4 [.ref 118, .int (iI 0), .int (iI (0 + 4 * (k : Int))), .int (iI k)] [] h1 (KV KU) := by
    refine upto _ ?_ ?_
    · intro h1 I1
      have hL := I1.1.lay hL0
      have J := l2 0 (by omega) h1 I1
      refine w_iload3 r_181_4 ?_
      refine w_bipush (v := iI (64)) r_181_5 rfl ?_
      refine v_ic_ge r_181_7 (by first | exact zF_in _ _ _ | exact zA_in _ _ _ | omega) (by first | exact zF_in _ _ _ | exact zA_in _ _ _ | omega) (fun _ => ?_) (fun q => absurd q (by omega))
      refine w_iconst (v := iI (0)) r_181_64 rfl ?_
      refine w_istore3 r_181_65 rfl ?_
      exact J
    · intro k hk ih h1 I1
      have hL := I1.1.lay hL0
      have J := fun g (I9 : KpI h g (0 + 4 * (k : Int) + 1 + 1 + 1 + 1)) => ih g (by rw [show 0 + 4 * ((k + 1 : Nat) : Int) = 0 + 4 * (k : Int) + 1 + 1 + 1 + 1 by omega]; exact I9)
      rw [show 0 + 4 * ((k + 1 : Nat) : Int) = 0 + 4 * (k : Int) + 1 + 1 + 1 + 1 by omega] at J
      refine w_iload3 r_181_4 ?_
      refine w_bipush (v := iI (64)) r_181_5 rfl ?_
      refine v_ic_ge r_181_7 (by first | exact zF_in _ _ _ | exact zA_in _ _ _ | omega) (by first | exact zF_in _ _ _ | exact zA_in _ _ _ | omega) (fun q => absurd q (by omega)) (fun _ => ?_)
      refine w_aload0 r_181_10 ?_
      refine w_aload0 r_181_11 ?_
      refine w_getA (x := 121) r_181_12 (Lk_118 hL) (Lr_118_14 hL) (by decide) ?_
      refine w_iload3 r_181_15 ?_
      refine w_iload2 r_181_16 ?_
      refine w_iload1 r_181_17 ?_
      refine k_182 r_181_18 (Lk_118 hL) (Nat.le_of_ble_eq_true rfl) ?_
      refine m_cell0 (k := (k : Int)) (n := 0 + 4 * (k : Int)) hL I1 (by omega) (by rw [show 0 + 4 * (k : Int) = 0 + 4 * (k : Int) by omega]; exact kp_122 (by omega)) (fun {g} hg => ⟨Lk_121 hg, Lz_121 hg, hg.n (by decide)⟩) (by decide) (by omega) (by decide) (fun h2 I2 => ?_)
      have hL := I2.1.lay hL0
      refine w_istore2 r_181_21 rfl ?_
      refine w_aload0 r_181_22 ?_
      refine w_aload0 r_181_23 ?_
      refine w_getA (x := 123) r_181_24 (Lk_118 hL) (Lr_118_16 hL) (by decide) ?_
      refine w_iload3 r_181_27 ?_
      refine w_iload2 r_181_28 ?_
      refine w_iload1 r_181_29 ?_
      refine k_182 r_181_30 (Lk_118 hL) (Nat.le_of_ble_eq_true rfl) ?_
      refine m_cell0 (k := (k : Int)) (n := 0 + 4 * (k : Int) + 1) hL I2 (by omega) (by rw [show 0 + 4 * (k : Int) + 1 = 1 + 4 * (k : Int) by omega]; exact kp_124 (by omega)) (fun {g} hg => ⟨Lk_123 hg, Lz_123 hg, hg.n (by decide)⟩) (by decide) (by omega) (by decide) (fun h3 I3 => ?_)
      have hL := I3.1.lay hL0
      refine w_istore2 r_181_33 rfl ?_
      refine w_aload0 r_181_34 ?_
      refine w_aload0 r_181_35 ?_
      refine w_getA (x := 127) r_181_36 (Lk_118 hL) (Lr_118_20 hL) (by decide) ?_
      refine w_iload3 r_181_39 ?_
      refine w_iload2 r_181_40 ?_
      refine w_iload1 r_181_41 ?_
      refine k_182 r_181_42 (Lk_118 hL) (Nat.le_of_ble_eq_true rfl) ?_
      refine m_cell0 (k := (k : Int)) (n := 0 + 4 * (k : Int) + 1 + 1) hL I3 (by omega) (by rw [show 0 + 4 * (k : Int) + 1 + 1 = 2 + 4 * (k : Int) by omega]; exact kp_128 (by omega)) (fun {g} hg => ⟨Lk_127 hg, Lz_127 hg, hg.n (by decide)⟩) (by decide) (by omega) (by decide) (fun h4 I4 => ?_)
      have hL := I4.1.lay hL0
      refine w_istore2 r_181_45 rfl ?_
      refine w_aload0 r_181_46 ?_
      refine w_aload0 r_181_47 ?_
      refine w_getA (x := 128) r_181_48 (Lk_118 hL) (Lr_118_21 hL) (by decide) ?_
      refine w_iload3 r_181_51 ?_
      refine w_iload2 r_181_52 ?_
      refine w_iload1 r_181_53 ?_
      refine k_182 r_181_54 (Lk_118 hL) (Nat.le_of_ble_eq_true rfl) ?_
      refine m_cell0 (k := (k : Int)) (n := 0 + 4 * (k : Int) + 1 + 1 + 1) hL I4 (by omega) (by rw [show 0 + 4 * (k : Int) + 1 + 1 + 1 = 3 + 4 * (k : Int) by omega]; exact kp_129 (by omega)) (fun {g} hg => ⟨Lk_128 hg, Lz_128 hg, hg.n (by decide)⟩) (by decide) (by omega) (by decide) (fun h5 I5 => ?_)
      have hL := I5.1.lay hL0
      refine w_istore2 r_181_57 rfl ?_
      refine w_iinc3 r_181_58 rfl (iI_add _ _) ?_
      refine w_goto r_181_61 ?_
      exact J _ I5
  have J := l1 0 (by omega) h ⟨Fr.refl _ _, fun x x0 x1 => by omega⟩
  refine w_iconst (v := iI (0)) r_181_0 rfl ?_
  refine w_istore2 r_181_1 rfl ?_
  refine w_iconst (v := iI (0)) r_181_2 rfl ?_
  refine w_istore3 r_181_3 rfl ?_
  exact J
/-- all is given back -/
def KpB (h h' : XH) : Prop := (∀ x, 0 ≤ x → x < 306 → zA h' (kpr x) (kpi x) = zA h 132 x) ∧ zF h' 118 22 = zA h 132 306 ∧ zF h' 118 23 = zA h 132 307 ∧ zF h' 118 24 = zA h 132 308 ∧ zF h' 118 25 = zA h 132 309 ∧ zF h' 118 26 = zA h 132 310 ∧ zF h' 118 27 = zA h 132 311 ∧ zF h' 118 28 = zA h 132 312
theorem m_store1 (hL : Lay h) (kk : ∀ h', Fr pR h h' → KpB h h' → KU h') : XW (d + 1) 181 0 [.ref 118, .int (iI 1), .null, .null] [] h (KV KU) := by
  have hL0 := hL
  have l4 : ∀ (h1 : XH) (X3 : Value), KpJ h h1 306 → XW (d + 1) 181 176 [.ref 118, .int (iI 1), .int (iI 306), X3] [] h1 (KV KU) := by
    intro h1 X3 I1
    have hL := I1.1.lay hL0
    have f0 : gI (h1) 132 (306 : Int).toNat = iI (zA h 132 306) := by rw [gI_A, I1.1.A (by simp [pR])]
    have f1 : gI (sI (h1) 118 22 (iI (zA h 132 306))) 132 (307 : Int).toNat = iI (zA h 132 307) := by rw [sI_other _ (by decide)]; rw [gI_A, I1.1.A (by simp [pR])]
    have f2 : gI (sI (sI (h1) 118 22 (iI (zA h 132 306))) 118 23 (iI (zA h 132 307))) 132 (308 : Int).toNat = iI (zA h 132 308) := by rw [sI_other _ (by decide)]; rw [sI_other _ (by decide)]; rw [gI_A, I1.1.A (by simp [pR])]
    have f3 : gI (sI (sI (sI (h1) 118 22 (iI (zA h 132 306))) 118 23 (iI (zA h 132 307))) 118 24 (iI (zA h 132 308))) 132 (309 : Int).toNat = iI (zA h 132 309) := by rw [sI_other _ (by decide)]; rw [sI_other _ (by decide)]; rw [sI_other _ (by decide)]; rw [gI_A, I1.1.A (by simp [pR])]
    have f4 : gI (sI (sI (sI (sI (h1) 118 22 (iI (zA h 132 306))) 118 23 (iI (zA h 132 307))) 118 24 (iI (zA h 132 308))) 118 25 (iI (zA h 132 309))) 132 (310 : Int).toNat = iI (zA h 132 310) := by rw [sI_other _ (by decide)]; rw [sI_other _ (by decide)]; rw [sI_other _ (by decide)]; rw [sI_other _ (by decide)]; rw [gI_A, I1.1.A (by simp [pR])]
    have f5 : gI (sI (sI (sI (sI (sI (h1) 118 22 (iI (zA h 132 306))) 118 23 (iI (zA h 132 307))) 118 24 (iI (zA h 132 308))) 118 25 (iI (zA h 132 309))) 118 26 (iI (zA h 132 310))) 132 (311 : Int).toNat = iI (zA h 132 311) := by rw [sI_other _ (by decide)]; rw [sI_other _ (by decide)]; rw [sI_other _ (by decide)]; rw [sI_other _ (by decide)]; rw [sI_other _ (by decide)]; rw [gI_A, I1.1.A (by simp [pR])]
    have f6 : gI (sI (sI (sI (sI (sI (sI (h1) 118 22 (iI (zA h 132 306))) 118 23 (iI (zA h 132 307))) 118 24 (iI (zA h 132 308))) 118 25 (iI (zA h 132 309))) 118 26 (iI (zA h 132 310))) 118 27 (iI (zA h 132 311))) 132 (312 : Int).toNat = iI (zA h 132 312) := by rw [sI_other _ (by decide)]; rw [sI_other _ (by decide)]; rw [sI_other _ (by decide)]; rw [sI_other _ (by decide)]; rw [sI_other _ (by decide)]; rw [sI_other _ (by decide)]; rw [gI_A, I1.1.A (by simp [pR])]
    have R := kk (sI (sI (sI (sI (sI (sI (sI (h1) 118 22 (iI (zA h 132 306))) 118 23 (iI (zA h 132 307))) 118 24 (iI (zA h 132 308))) 118 25 (iI (zA h 132 309))) 118 26 (iI (zA h 132 310))) 118 27 (iI (zA h 132 311))) 118 28 (iI (zA h 132 312))) ((((((((I1.1.sI 118 22 _ (by simp [pR])).sI 118 23 _ (by simp [pR])).sI 118 24 _ (by simp [pR])).sI 118 25 _ (by simp [pR])).sI 118 26 _ (by simp [pR])).sI 118 27 _ (by simp [pR])).sI 118 28 _ (by simp [pR]))) ⟨fun x x0 x1 => by have kx := kpv_at x0 x1; rw [zA_o _ (by omega), zA_o _ (by omega), zA_o _ (by omega), zA_o _ (by omega), zA_o _ (by omega), zA_o _ (by omega), zA_o _ (by omega)]; exact I1.2 x x0 (by omega), by rw [zF_o (by decide), zF_o (by decide), zF_o (by decide), zF_o (by decide), zF_o (by decide), zF_o (by decide)]; exact zF_s (zA_in _ _ _), by rw [zF_o (by decide), zF_o (by decide), zF_o (by decide), zF_o (by decide), zF_o (by decide)]; exact zF_s (zA_in _ _ _), by rw [zF_o (by decide), zF_o (by decide), zF_o (by decide), zF_o (by decide)]; exact zF_s (zA_in _ _ _), by rw [zF_o (by decide), zF_o (by decide), zF_o (by decide)]; exact zF_s (zA_in _ _ _), by rw [zF_o (by decide), zF_o (by decide)]; exact zF_s (zA_in _ _ _), by rw [zF_o (by decide)]; exact zF_s (zA_in _ _ _), by exact zF_s (zA_in _ _ _)⟩
    refine w_iload1 r_181_176 ?_
    refine v_if_eq r_181_177 (by first | exact zF_in _ _ _ | exact zA_in _ _ _ | omega) (fun q => absurd q (by omega)) (fun _ => ?_)
    refine w_aload0 r_181_180 ?_
    refine w_aload0 r_181_181 ?_
    refine w_getA (x := 132) r_181_182 (Lk_118 hL) (Lr_118_33 hL) (by decide) ?_
    refine w_iload2 r_181_185 ?_
    refine v_iald r_181_186 (Lk_132 hL) (Lz_132 hL) (by decide) (by omega) f0 ?_
    refine w_putI r_181_187 (Lk_118 hL) (Ln_118 hL) ?_
    refine w_aload0 r_181_190 ?_
    refine w_aload0 r_181_191 ?_
    refine w_getA (x := 132) r_181_192 (Lk_118 hL) (Lr_118_33 hL) (by decide) ?_
    refine w_iload2 r_181_195 ?_
    refine w_iconst (v := iI (1)) r_181_196 rfl ?_
    refine v_iadd r_181_197 ?_
    refine v_iald r_181_198 (Lk_132 hL) (Lz_132 hL) (by decide) (by omega) f1 ?_
    refine w_putI r_181_199 (Lk_118 hL) (Ln_118 hL) ?_
    refine w_aload0 r_181_202 ?_
    refine w_aload0 r_181_203 ?_
    refine w_getA (x := 132) r_181_204 (Lk_118 hL) (Lr_118_33 hL) (by decide) ?_
    refine w_iload2 r_181_207 ?_
    refine w_iconst (v := iI (2)) r_181_208 rfl ?_
    refine v_iadd r_181_209 ?_
    refine v_iald r_181_210 (Lk_132 hL) (Lz_132 hL) (by decide) (by omega) f2 ?_
    refine w_putI r_181_211 (Lk_118 hL) (Ln_118 hL) ?_
    refine w_aload0 r_181_214 ?_
    refine w_aload0 r_181_215 ?_
    refine w_getA (x := 132) r_181_216 (Lk_118 hL) (Lr_118_33 hL) (by decide) ?_
    refine w_iload2 r_181_219 ?_
    refine w_iconst (v := iI (3)) r_181_220 rfl ?_
    refine v_iadd r_181_221 ?_
    refine v_iald r_181_222 (Lk_132 hL) (Lz_132 hL) (by decide) (by omega) f3 ?_
    refine w_putI r_181_223 (Lk_118 hL) (Ln_118 hL) ?_
    refine w_aload0 r_181_226 ?_
    refine w_aload0 r_181_227 ?_
    refine w_getA (x := 132) r_181_228 (Lk_118 hL) (Lr_118_33 hL) (by decide) ?_
    refine w_iload2 r_181_231 ?_
    refine w_iconst (v := iI (4)) r_181_232 rfl ?_
    refine v_iadd r_181_233 ?_
    refine v_iald r_181_234 (Lk_132 hL) (Lz_132 hL) (by decide) (by omega) f4 ?_
    refine w_putI r_181_235 (Lk_118 hL) (Ln_118 hL) ?_
    refine w_aload0 r_181_238 ?_
    refine w_aload0 r_181_239 ?_
    refine w_getA (x := 132) r_181_240 (Lk_118 hL) (Lr_118_33 hL) (by decide) ?_
    refine w_iload2 r_181_243 ?_
    refine w_iconst (v := iI (5)) r_181_244 rfl ?_
    refine v_iadd r_181_245 ?_
    refine v_iald r_181_246 (Lk_132 hL) (Lz_132 hL) (by decide) (by omega) f5 ?_
    refine w_putI r_181_247 (Lk_118 hL) (Ln_118 hL) ?_
    refine w_aload0 r_181_250 ?_
    refine w_aload0 r_181_251 ?_
    refine w_getA (x := 132) r_181_252 (Lk_118 hL) (Lr_118_33 hL) (by decide) ?_
    refine w_iload2 r_181_255 ?_
    refine w_bipush (v := iI (6)) r_181_256 rfl ?_
    refine v_iadd r_181_258 ?_
    refine v_iald r_181_259 (Lk_132 hL) (Lz_132 hL) (by decide) (by omega) f6 ?_
    refine w_putI r_181_260 (Lk_118 hL) (Ln_118 hL) ?_
    refine w_goto r_181_263 ?_
    refine w_vret r_181_349 ?_
    exact R
  have l3 : ∀ k : Nat, k ≤ 6 → ∀ h1 : XH, KpJ h h1 (288 + 3 * (k : Int)) → XW (d + 1) 181 128 [.ref 118, .int (iI 1), .int (iI (288 + 3 * (k : Int))), .int (iI k)] [] h1 (KV KU) := by
    refine upto _ ?_ ?_
    · intro h1 I1
      have hL := I1.1.lay hL0
      have J := l4 h1 (.int (iI (6 : Nat))) I1
      refine w_iload3 r_181_128 ?_
      refine w_bipush (v := iI (6)) r_181_129 rfl ?_
      refine v_ic_ge r_181_131 (by first | exact zF_in _ _ _ | exact zA_in _ _ _ | omega) (by first | exact zF_in _ _ _ | exact zA_in _ _ _ | omega) (fun _ => ?_) (fun q => absurd q (by omega))
      exact J
    · intro k hk ih h1 I1
      have hL := I1.1.lay hL0
      have J := fun g (I9 : KpJ h g (288 + 3 * (k : Int) + 1 + 1 + 1)) => ih g (by rw [show 288 + 3 * ((k + 1 : Nat) : Int) = 288 + 3 * (k : Int) + 1 + 1 + 1 by omega]; exact I9)
      rw [show 288 + 3 * ((k + 1 : Nat) : Int) = 288 + 3 * (k : Int) + 1 + 1 + 1 by omega] at J
      refine w_iload3 r_181_128 ?_
      refine w_bipush (v := iI (6)) r_181_129 rfl ?_
      refine v_ic_ge r_181_131 (by first | exact zF_in _ _ _ | exact zA_in _ _ _ | omega) (by first | exact zF_in _ _ _ | exact zA_in _ _ _ | omega) (fun q => absurd q (by omega)) (fun _ => ?_)
      refine w_aload0 r_181_134 ?_
      refine w_aload0 r_181_135 ?_
      refine w_getA (x := 129) r_181_136 (Lk_118 hL) (Lr_118_30 hL) (by decide) ?_
      refine w_iload3 r_181_139 ?_
      refine w_iload2 r_181_140 ?_
      refine w_iload1 r_181_141 ?_
      refine k_182 r_181_142 (Lk_118 hL) (Nat.le_of_ble_eq_true rfl) ?_
      refine m_cell1 (k := (k : Int)) (n := 288 + 3 * (k : Int)) hL I1 (by omega) (by rw [show 288 + 3 * (k : Int) = 288 + 3 * (k : Int) by omega]; exact kp_130 (by omega)) (fun {g} hg => ⟨Lk_129 hg, Lz_129 hg, hg.n (by decide)⟩) (by decide) (by omega) (by decide) (fun h2 I2 => ?_)
      have hL := I2.1.lay hL0
      refine w_istore2 r_181_145 rfl ?_
      refine w_aload0 r_181_146 ?_
      refine w_aload0 r_181_147 ?_
      refine w_getA (x := 130) r_181_148 (Lk_118 hL) (Lr_118_31 hL) (by decide) ?_
      refine w_iload3 r_181_151 ?_
      refine w_iload2 r_181_152 ?_
      refine w_iload1 r_181_153 ?_
      refine k_182 r_181_154 (Lk_118 hL) (Nat.le_of_ble_eq_true rfl) ?_
      refine m_cell1 (k := (k : Int)) (n := 288 + 3 * (k : Int) + 1) hL I2 (by omega) (by rw [show 288 + 3 * (k : Int) + 1 = 289 + 3 * (k : Int) by omega]; exact kp_131 (by omega)) (fun {g} hg => ⟨Lk_130 hg, Lz_130 hg, hg.n (by decide)⟩) (by decide) (by omega) (by decide) (fun h3 I3 => ?_)
      have hL := I3.1.lay hL0
      refine w_istore2 r_181_157 rfl ?_
      refine w_aload0 r_181_158 ?_
      refine w_aload0 r_181_159 ?_
      refine w_getA (x := 131) r_181_160 (Lk_118 hL) (Lr_118_32 hL) (by decide) ?_
      refine w_iload3 r_181_163 ?_
      refine w_iload2 r_181_164 ?_
      refine w_iload1 r_181_165 ?_
      refine k_182 r_181_166 (Lk_118 hL) (Nat.le_of_ble_eq_true rfl) ?_
      refine m_cell1 (k := (k : Int)) (n := 288 + 3 * (k : Int) + 1 + 1) hL I3 (by omega) (by rw [show 288 + 3 * (k : Int) + 1 + 1 = 290 + 3 * (k : Int) by omega]; exact kp_132 (by omega)) (fun {g} hg => ⟨Lk_131 hg, Lz_131 hg, hg.n (by decide)⟩) (by decide) (by omega) (by decide) (fun h4 I4 => ?_)
      have hL := I4.1.lay hL0
      refine w_istore2 r_181_169 rfl ?_
      refine w_iinc3 r_181_170 rfl (iI_add _ _) ?_
      refine w_goto r_181_173 ?_
      exact J _ I4
  have l2 : ∀ k : Nat, k ≤ 8 → ∀ h1 : XH, KpJ h h1 (256 + 4 * (k : Int)) → XW (d + 1) 181 66 [.ref 118, .int (iI 1), .int (iI (256 + 4 * (k : Int))), .int (iI k)] [] h1 (KV KU) := by
    refine upto _ ?_ ?_
    · intro h1 I1
      have hL := I1.1.lay hL0
      have J := l3 0 (by omega) h1 I1
      refine w_iload3 r_181_66 ?_
      refine w_bipush (v := iI (8)) r_181_67 rfl ?_
      refine v_ic_ge r_181_69 (by first | exact zF_in _ _ _ | exact zA_in _ _ _ | omega) (by first | exact zF_in _ _ _ | exact zA_in _ _ _ | omega) (fun _ => ?_) (fun q => absurd q (by omega))
      refine w_iconst (v := iI (0)) r_181_126 rfl ?_
      refine w_istore3 r_181_127 rfl ?_
      exact J
    · intro k hk ih h1 I1
      have hL := I1.1.lay hL0
      have J := fun g (I9 : KpJ h g (256 + 4 * (k : Int) + 1 + 1 + 1 + 1)) => ih g (by rw [show 256 + 4 * ((k + 1 : Nat) : Int) = 256 + 4 * (k : Int) + 1 + 1 + 1 + 1 by omega]; exact I9)
      rw [show 256 + 4 * ((k + 1 : Nat) : Int) = 256 + 4 * (k : Int) + 1 + 1 + 1 + 1 by omega] at J
      refine w_iload3 r_181_66 ?_
      refine w_bipush (v := iI (8)) r_181_67 rfl ?_
      refine v_ic_ge r_181_69 (by first | exact zF_in _ _ _ | exact zA_in _ _ _ | omega) (by first | exact zF_in _ _ _ | exact zA_in _ _ _ | omega) (fun q => absurd q (by omega)) (fun _ => ?_)
      refine w_aload0 r_181_72 ?_
      refine w_aload0 r_181_73 ?_
      refine w_getA (x := 122) r_181_74 (Lk_118 hL) (Lr_118_15 hL) (by decide) ?_
      refine w_iload3 r_181_77 ?_
      refine w_iload2 r_181_78 ?_
      refine w_iload1 r_181_79 ?_
      refine k_182 r_181_80 (Lk_118 hL) (Nat.le_of_ble_eq_true rfl) ?_
      refine m_cell1 (k := (k : Int)) (n := 256 + 4 * (k : Int)) hL I1 (by omega) (by rw [show 256 + 4 * (k : Int) = 256 + 4 * (k : Int) by omega]; exact kp_123 (by omega)) (fun {g} hg => ⟨Lk_122 hg, Lz_122 hg, hg.n (by decide)⟩) (by decide) (by omega) (by decide) (fun h2 I2 => ?_)
      have hL := I2.1.lay hL0
      refine w_istore2 r_181_83 rfl ?_
      refine w_aload0 r_181_84 ?_
      refine w_aload0 r_181_85 ?_
      refine w_getA (x := 124) r_181_86 (Lk_118 hL) (Lr_118_17 hL) (by decide) ?_
      refine w_iload3 r_181_89 ?_
      refine w_iload2 r_181_90 ?_
      refine w_iload1 r_181_91 ?_
      refine k_182 r_181_92 (Lk_118 hL) (Nat.le_of_ble_eq_true rfl) ?_
      refine m_cell1 (k := (k : Int)) (n := 256 + 4 * (k : Int) + 1) hL I2 (by omega) (by rw [show 256 + 4 * (k : Int) + 1 = 257 + 4 * (k : Int) by omega]; exact kp_125 (by omega)) (fun {g} hg => ⟨Lk_124 hg, Lz_124 hg, hg.n (by decide)⟩) (by decide) (by omega) (by decide) (fun h3 I3 => ?_)
      have hL := I3.1.lay hL0
      refine w_istore2 r_181_95 rfl ?_
      refine w_aload0 r_181_96 ?_
      refine w_aload0 r_181_97 ?_
      refine w_getA (x := 125) r_181_98 (Lk_118 hL) (Lr_118_18 hL) (by decide) ?_
      refine w_iload3 r_181_101 ?_
      refine w_iload2 r_181_102 ?_
      refine w_iload1 r_181_103 ?_
      refine k_182 r_181_104 (Lk_118 hL) (Nat.le_of_ble_eq_true rfl) ?_
      refine m_cell1 (k := (k : Int)) (n := 256 + 4 * (k : Int) + 1 + 1) hL I3 (by omega) (by rw [show 256 + 4 * (k : Int) + 1 + 1 = 258 + 4 * (k : Int) by omega]; exact kp_126 (by omega)) (fun {g} hg => ⟨Lk_125 hg, Lz_125 hg, hg.n (by decide)⟩) (by decide) (by omega) (by decide) (fun h4 I4 => ?_)
      have hL := I4.1.lay hL0
      refine w_istore2 r_181_107 rfl ?_
      refine w_aload0 r_181_108 ?_
      refine w_aload0 r_181_109 ?_
      refine w_getA (x := 126) r_181_110 (Lk_118 hL) (Lr_118_19 hL) (by decide) ?_
      refine w_iload3 r_181_113 ?_
      refine w_iload2 r_181_114 ?_
      refine w_iload1 r_181_115 ?_
      refine k_182 r_181_116 (Lk_118 hL) (Nat.le_of_ble_eq_true rfl) ?_
      refine m_cell1 (k := (k : Int)) (n := 256 + 4 * (k : Int) + 1 + 1 + 1) hL I4 (by omega) (by rw [show 256 + 4 * (k : Int) + 1 + 1 + 1 = 259 + 4 * (k : Int) by omega]; exact kp_127 (by omega)) (fun {g} hg => ⟨Lk_126 hg, Lz_126 hg, hg.n (by decide)⟩) (by decide) (by omega) (by decide) (fun h5 I5 => ?_)
      have hL := I5.1.lay hL0
      refine w_istore2 r_181_119 rfl ?_
      refine w_iinc3 r_181_120 rfl (iI_add _ _) ?_
      refine w_goto r_181_123 ?_
      exact J _ I5
  have l1 : ∀ k : Nat, k ≤ 64 → ∀ h1 : XH, KpJ h h1 (0 + 4 * (k : Int)) → XW (d + 1) 181 4 [.ref 118, .int (iI 1), .int (iI (0 + 4 * (k : Int))), .int (iI k)] [] h1 (KV KU) := by
    refine upto _ ?_ ?_
    · intro h1 I1
      have hL := I1.1.lay hL0
      have J := l2 0 (by omega) h1 I1
      refine w_iload3 r_181_4 ?_
      refine w_bipush (v := iI (64)) r_181_5 rfl ?_
      refine v_ic_ge r_181_7 (by first | exact zF_in _ _ _ | exact zA_in _ _ _ | omega) (by first | exact zF_in _ _ _ | exact zA_in _ _ _ | omega) (fun _ => ?_) (fun q => absurd q (by omega))
      refine w_iconst (v := iI (0)) r_181_64 rfl ?_
      refine w_istore3 r_181_65 rfl ?_
      exact J
    · intro k hk ih h1 I1
      have hL := I1.1.lay hL0
      have J := fun g (I9 : KpJ h g (0 + 4 * (k : Int) + 1 + 1 + 1 + 1)) => ih g (by rw [show 0 + 4 * ((k + 1 : Nat) : Int) = 0 + 4 * (k : Int) + 1 + 1 + 1 + 1 by omega]; exact I9)
      rw [show 0 + 4 * ((k + 1 : Nat) : Int) = 0 + 4 * (k : Int) + 1 + 1 + 1 + 1 by omega] at J
      refine w_iload3 r_181_4 ?_
      refine w_bipush (v := iI (64)) r_181_5 rfl ?_
      refine v_ic_ge r_181_7 (by first | exact zF_in _ _ _ | exact zA_in _ _ _ | omega) (by first | exact zF_in _ _ _ | exact zA_in _ _ _ | omega) (fun q => absurd q (by omega)) (fun _ => ?_)
      refine w_aload0 r_181_10 ?_
      refine w_aload0 r_181_11 ?_
      refine w_getA (x := 121) r_181_12 (Lk_118 hL) (Lr_118_14 hL) (by decide) ?_
      refine w_iload3 r_181_15 ?_
      refine w_iload2 r_181_16 ?_
      refine w_iload1 r_181_17 ?_
      refine k_182 r_181_18 (Lk_118 hL) (Nat.le_of_ble_eq_true rfl) ?_
      refine m_cell1 (k := (k : Int)) (n := 0 + 4 * (k : Int)) hL I1 (by omega) (by rw [show 0 + 4 * (k : Int) = 0 + 4 * (k : Int) by omega]; exact kp_122 (by omega)) (fun {g} hg => ⟨Lk_121 hg, Lz_121 hg, hg.n (by decide)⟩) (by decide) (by omega) (by decide) (fun h2 I2 => ?_)
      have hL := I2.1.lay hL0
      refine w_istore2 r_181_21 rfl ?_
      refine w_aload0 r_181_22 ?_
      refine w_aload0 r_181_23 ?_
      refine w_getA (x := 123) r_181_24 (Lk_118 hL) (Lr_118_16 hL) (by decide) ?_
      refine w_iload3 r_181_27 ?_
      refine w_iload2 r_181_28 ?_
      refine w_iload1 r_181_29 ?_
      refine k_182 r_181_30 (Lk_118 hL) (Nat.le_of_ble_eq_true rfl) ?_
      refine m_cell1 (k := (k : Int)) (n := 0 + 4 * (k : Int) + 1) hL I2 (by omega) (by rw [show 0 + 4 * (k : Int) + 1 = 1 + 4 * (k : Int) by omega]; exact kp_124 (by omega)) (fun {g} hg => ⟨Lk_123 hg, Lz_123 hg, hg.n (by decide)⟩) (by decide) (by omega) (by decide) (fun h3 I3 => ?_)
      have hL := I3.1.lay hL0
      refine w_istore2 r_181_33 rfl ?_
      refine w_aload0 r_181_34 ?_
      refine w_aload0 r_181_35 ?_
      refine w_getA (x := 127) r_181_36 (Lk_118 hL) (Lr_118_20 hL) (by decide) ?_
      refine w_iload3 r_181_39 ?_
      refine w_iload2 r_181_40 ?_
      refine w_iload1 r_181_41 ?_
      refine k_182 r_181_42 (Lk_118 hL) (Nat.le_of_ble_eq_true rfl) ?_
      refine m_cell1 (k := (k : Int)) (n := 0 + 4 * (k : Int) + 1 + 1) hL I3 (by omega) (by rw [show 0 + 4 * (k : Int) + 1 + 1 = 2 + 4 * (k : Int) by omega]; exact kp_128 (by omega)) (fun {g} hg => ⟨Lk_127 hg, Lz_127 hg, hg.n (by decide)⟩) (by decide) (by omega) (by decide) (fun h4 I4 => ?_)
      have hL := I4.1.lay hL0
      refine w_istore2 r_181_45 rfl ?_
      refine w_aload0 r_181_46 ?_
      refine w_aload0 r_181_47 ?_
      refine w_getA (x := 128) r_181_48 (Lk_118 hL) (Lr_118_21 hL) (by decide) ?_
      refine w_iload3 r_181_51 ?_
      refine w_iload2 r_181_52 ?_
      refine w_iload1 r_181_53 ?_
      refine k_182 r_181_54 (Lk_118 hL) (Nat.le_of_ble_eq_true rfl) ?_
      refine m_cell1 (k := (k : Int)) (n := 0 + 4 * (k : Int) + 1 + 1 + 1) hL I4 (by omega) (by rw [show 0 + 4 * (k : Int) + 1 + 1 + 1 = 3 + 4 * (k : Int) by omega]; exact kp_129 (by omega)) (fun {g} hg => ⟨Lk_128 hg, Lz_128 hg, hg.n (by decide)⟩) (by decide) (by omega) (by decide) (fun h5 I5 => ?_)
      have hL := I5.1.lay hL0
      refine w_istore2 r_181_57 rfl ?_
      refine w_iinc3 r_181_58 rfl (iI_add _ _) ?_
      refine w_goto r_181_61 ?_
      exact J _ I5
  have J := l1 0 (by omega) h ⟨Fr.refl _ _, fun x x0 x1 => by omega⟩
  refine w_iconst (v := iI (0)) r_181_0 rfl ?_
  refine w_istore2 r_181_1 rfl ?_
  refine w_iconst (v := iI (0)) r_181_2 rfl ?_
  refine w_istore3 r_181_3 rfl ?_
  exact J
end MB5
