/-! the class reads a plan: orders -/
def pP (pa : Nat) : Nat → Nat → Bool := fun a j => (a == 3 && (decide (2 ≤ j) && decide (j ≤ 8))) || (decide (pa ≤ a) && decide (a ≤ pa + 4))
/-- the class's plan, as far as it was read -/
def PlC (h : XH) (pa : Nat) (st : Int) (p : XL) (l : List (Bool × Int)) : Prop := zF h pa 4 = p.z ∧ zF h pa 5 = st ∧ ∀ i, 0 ≤ i → i < p.z → zA h (pa + 1) i = p.kd i ∧ zA h (pa + 2) i = p.nm i ∧ (p.kd i = 4 → zA h (pa + 3) i = p.gd i) ∧ (4 ≤ p.kd i → (∀ e, (e, i) ∉ l) → zA h (pa + 4) i = p.tg i)
section CPR
variable {d : Nat} {h : XH} {K : Int32 → XH → Prop} {KU : XH → Prop} {τ : XT} {k st nd : Int} {pa rb : Nat} {B : XB} {p : XL} {l : List (Bool × Int)}
def PCx (τ : XT) (B : XB) (nd : Int) (pa rb : Nat) (h : XH) : Prop := Lay h ∧ StC h ∧ TX h τ ∧ (gR h 5 1 = pa ∧ gR h 5 2 = rb ∧ gI h 5 3 = iI nd) ∧ CBk h rb B
theorem pP_no {a j : Nat} (h3 : ¬ a = 3) (hp : a < pa ∨ pa + 4 < a) : pP pa a j = false := by simp [pP]; omega
theorem pP_tk {h' : XH} (f : Fr PTk h h') : Fr (pP pa) h h' := f.mono (fun a j q => by simp [pP] at q; simp [pF]; omega)
theorem pP_blm (h : XH) (f p : Int) : Fr (pP pa) h (blm h f p) := (blm_fr h f p).mono (fun a j q => by simp [pP] at q; simp [pF]; omega)
theorem pP_pl {h' : XH} (f : Fr (fun a _ => decide (pa ≤ a) && decide (a ≤ pa + 4)) h h') : Fr (pP pa) h h' := f.mono (fun a j q => by simp [pP] at q; simp; omega)
theorem PCx.fr {h' : XH} (hp : Pl pa) (hb : rb = 6 ∨ rb = 20) (f : Fr (pP pa) h h') (c : PCx τ B nd pa rb h) : PCx τ B nd pa rb h' := by
  have n := hp.ne
  refine ⟨f.lay c.1, c.2.1.fr f (fun a j q => pP_no (by omega) (by omega)), c.2.2.1.fr f (by simp [pP]; omega) (fun j => pP_no (by omega) (by omega)), ⟨(f.R 5 1).trans c.2.2.2.1.1, (f.R 5 2).trans c.2.2.2.1.2.1, by rw [(f.2 5 3 (pP_no (by omega) (by omega))).1]; exact c.2.2.2.1.2.2⟩, c.2.2.2.2.fr f hb (fun a j x y => ?_)⟩
  by_cases q : a = 3
  · omega
  · exact pP_no q (by omega)
theorem PlC.tk {h' : XH} (hp : Pl pa) (f : Fr PTk h h') (c : PlC h pa st p l) : PlC h' pa st p l := by
  have n := hp.ne
  have q : ∀ a j, pa ≤ a → PTk a j = false := fun a j z => tk_p (by omega)
  refine ⟨by rw [f.F (q _ _ (by omega))]; exact c.1, by rw [f.F (q _ _ (by omega))]; exact c.2.1, fun i a b => ?_⟩
  rw [f.A (q _ _ (by omega)), f.A (q _ _ (by omega)), f.A (q _ _ (by omega)), f.A (q _ _ (by omega))]
  exact c.2.2 i a b
theorem c_add {kd nm gd : Int} {l' : List (Bool × Int)} (hL : Lay h) (hp : Pl pa) (hz : 0 ≤ p.z ∧ p.z < 80) (hC : PlC h pa st p l) (hkd : 0 ≤ kd ∧ kd ≤ 5) (hnm : R32 nm) (hgd : R32 gd) (h1 : 4 ≤ kd → ∃ e, (e, p.z) ∈ l') (h2 : ∀ i e, (e, i) ∈ l → ∃ e', (e', i) ∈ l')
    (kk : ∀ h', Fr (fun a _ => decide (pa ≤ a) && decide (a ≤ pa + 4)) h h' → PlC h' pa st (pAdd p kd nm gd) l' → K (iI p.z) h') : XW d 67 0 [.ref pa, .int (iI kd), .int (iI nm), .int (iI gd)] [] h (KI K) := by
  have n := hp.ne
  have e4 : gI h pa 4 = iI p.z := by rw [gI_F, hC.1]
  have F : Fr (fun a _ => decide (pa ≤ a) && decide (a ≤ pa + 4)) h (sI (sI (sI (sI (sI h (pa + 1) p.z.toNat (iI kd)) (pa + 2) p.z.toNat (iI nm)) (pa + 3) p.z.toNat (iI gd)) (pa + 4) p.z.toNat (iI (p.z + 1))) pa 4 (iI (p.z + 1))) := (((((Fr.refl _ _).sI (pa + 1) _ _ (by simp)).sI (pa + 2) _ _ (by simp)).sI (pa + 3) _ _ (by simp)).sI (pa + 4) _ _ (by simp)).sI pa 4 _ (by simp)
  have r1 : ∀ i, 0 ≤ i → zA (sI (sI (sI (sI (sI h (pa + 1) p.z.toNat (iI kd)) (pa + 2) p.z.toNat (iI nm)) (pa + 3) p.z.toNat (iI gd)) (pa + 4) p.z.toNat (iI (p.z + 1))) pa 4 (iI (p.z + 1))) (pa + 1) i = if i = p.z then kd else zA h (pa + 1) i := fun i i0 => by rw [zA_o _ (by omega), zA_o _ (by omega), zA_o _ (by omega), zA_o _ (by omega), zA_s hz.1 i0 (by omega)]
  have r2 : ∀ i, 0 ≤ i → zA (sI (sI (sI (sI (sI h (pa + 1) p.z.toNat (iI kd)) (pa + 2) p.z.toNat (iI nm)) (pa + 3) p.z.toNat (iI gd)) (pa + 4) p.z.toNat (iI (p.z + 1))) pa 4 (iI (p.z + 1))) (pa + 2) i = if i = p.z then nm else zA h (pa + 2) i := fun i i0 => by rw [zA_o _ (by omega), zA_o _ (by omega), zA_o _ (by omega), zA_s hz.1 i0 hnm, zA_o _ (by omega)]
  have r3 : ∀ i, 0 ≤ i → zA (sI (sI (sI (sI (sI h (pa + 1) p.z.toNat (iI kd)) (pa + 2) p.z.toNat (iI nm)) (pa + 3) p.z.toNat (iI gd)) (pa + 4) p.z.toNat (iI (p.z + 1))) pa 4 (iI (p.z + 1))) (pa + 3) i = if i = p.z then gd else zA h (pa + 3) i := fun i i0 => by rw [zA_o _ (by omega), zA_o _ (by omega), zA_s hz.1 i0 hgd, zA_o _ (by omega), zA_o _ (by omega)]
  have r4 : ∀ i, 0 ≤ i → zA (sI (sI (sI (sI (sI h (pa + 1) p.z.toNat (iI kd)) (pa + 2) p.z.toNat (iI nm)) (pa + 3) p.z.toNat (iI gd)) (pa + 4) p.z.toNat (iI (p.z + 1))) pa 4 (iI (p.z + 1))) (pa + 4) i = if i = p.z then p.z + 1 else zA h (pa + 4) i := fun i i0 => by rw [zA_o _ (by omega), zA_s hz.1 i0 (by omega), zA_o _ (by omega), zA_o _ (by omega), zA_o _ (by omega)]
  have R := kk _ F ⟨zF_s (by omega), by rw [zF_o (by omega), zF_o (by omega), zF_o (by omega), zF_o (by omega), zF_o (by omega)]; exact hC.2.1, fun i i0 i1 => by
    have i1' : i < p.z + 1 := i1
    rw [r1 i i0, r2 i i0, r3 i i0, r4 i i0]
    by_cases q : i = p.z
    · rw [if_pos q, if_pos q, if_pos q, if_pos q, q]
      refine ⟨(up1_at _ _ _).symm, (up1_at _ _ _).symm, fun _ => (up1_at _ _ _).symm, fun z no => ?_⟩
      have z : 4 ≤ up1 p.kd p.z kd p.z := z
      rw [up1_at] at z
      obtain ⟨e, m⟩ := h1 z
      exact absurd m (no e)
    · have o := hC.2.2 i i0 (by omega)
      have ek : (pAdd p kd nm gd).kd i = p.kd i := up1_ne q
      have en : (pAdd p kd nm gd).nm i = p.nm i := up1_ne q
      have eg : (pAdd p kd nm gd).gd i = p.gd i := up1_ne q
      rw [if_neg q, if_neg q, if_neg q, if_neg q, ek, en, eg]
      exact ⟨o.1, o.2.1, o.2.2.1, fun z no => o.2.2.2 z (fun e m => by
        obtain ⟨e', m'⟩ := h2 i e m
        exact no e' m')⟩⟩
  have w1 : gI (sI (h) (pa + 1) p.z.toNat (iI kd)) pa 4 = iI p.z := by rw [sI_other _ (by omega)]; exact e4
  have w2 : gI (sI (sI (h) (pa + 1) p.z.toNat (iI kd)) (pa + 2) p.z.toNat (iI nm)) pa 4 = iI p.z := by rw [sI_other _ (by omega), sI_other _ (by omega)]; exact e4
  have w3 : gI (sI (sI (sI (h) (pa + 1) p.z.toNat (iI kd)) (pa + 2) p.z.toNat (iI nm)) (pa + 3) p.z.toNat (iI gd)) pa 4 = iI p.z := by rw [sI_other _ (by omega), sI_other _ (by omega), sI_other _ (by omega)]; exact e4
  have w4 : gI (sI (sI (sI (sI (h) (pa + 1) p.z.toNat (iI kd)) (pa + 2) p.z.toNat (iI nm)) (pa + 3) p.z.toNat (iI gd)) (pa + 4) p.z.toNat (iI (p.z + 1))) pa 4 = iI p.z := by rw [sI_other _ (by omega), sI_other _ (by omega), sI_other _ (by omega), sI_other _ (by omega)]; exact e4
  have w5 : gI (sI (sI (sI (sI (sI (h) (pa + 1) p.z.toNat (iI kd)) (pa + 2) p.z.toNat (iI nm)) (pa + 3) p.z.toNat (iI gd)) (pa + 4) p.z.toNat (iI (p.z + 1))) pa 4 (iI (p.z + 1))) pa 4 = iI (p.z + 1) := by rw [sI_here, if_pos rfl]
  refine w_aload0 r_67_0 ?_
  refine v_getI r_67_1 (Plk hL hp).1 e4 ?_
  refine w_bipush (v := iI (80)) r_67_4 rfl ?_
  refine v_ic_lt r_67_6 (by first | exact zF_in _ _ _ | exact zA_in _ _ _ | omega) (by first | exact zF_in _ _ _ | exact zA_in _ _ _ | omega) (fun _ => ?_) (fun q => absurd q (by omega))
  refine w_aload0 r_67_11 ?_
  refine w_getA (x := pa + 1) r_67_12 (Plk hL hp).1 (Plk1 hL hp).2.2.2.1 (Plk1 hL hp).2.2.2.2 ?_
  refine w_aload0 r_67_15 ?_
  refine v_getI r_67_16 (Plk hL hp).1 e4 ?_
  refine w_iload1 r_67_19 ?_
  refine v_iast r_67_20 (Plk1 hL hp).1 (Plk1 hL hp).2.2.1 (Plk1 hL hp).2.1 (by decide) (by omega) ?_
  refine w_aload0 r_67_21 ?_
  refine w_getA (x := pa + 2) r_67_22 (Plk hL hp).1 (Plk2 hL hp).2.2.2.1 (Plk2 hL hp).2.2.2.2 ?_
  refine w_aload0 r_67_25 ?_
  refine v_getI r_67_26 (Plk hL hp).1 w1 ?_
  refine w_iload2 r_67_29 ?_
  refine v_iast r_67_30 (Plk2 hL hp).1 (Plk2 hL hp).2.2.1 (Plk2 hL hp).2.1 (by decide) (by omega) ?_
  refine w_aload0 r_67_31 ?_
  refine w_getA (x := pa + 3) r_67_32 (Plk hL hp).1 (Plk3 hL hp).2.2.2.1 (Plk3 hL hp).2.2.2.2 ?_
  refine w_aload0 r_67_35 ?_
  refine v_getI r_67_36 (Plk hL hp).1 w2 ?_
  refine w_iload3 r_67_39 ?_
  refine v_iast r_67_40 (Plk3 hL hp).1 (Plk3 hL hp).2.2.1 (Plk3 hL hp).2.1 (by decide) (by omega) ?_
  refine w_aload0 r_67_41 ?_
  refine w_getA (x := pa + 4) r_67_42 (Plk hL hp).1 (Plk4 hL hp).2.2.2.1 (Plk4 hL hp).2.2.2.2 ?_
  refine w_aload0 r_67_45 ?_
  refine v_getI r_67_46 (Plk hL hp).1 w3 ?_
  refine w_aload0 r_67_49 ?_
  refine v_getI r_67_50 (Plk hL hp).1 w3 ?_
  refine w_iconst (v := iI (1)) r_67_53 rfl ?_
  refine v_iadd r_67_54 ?_
  refine v_iast r_67_55 (Plk4 hL hp).1 (Plk4 hL hp).2.2.1 (Plk4 hL hp).2.1 (by decide) (by omega) ?_
  refine w_aload0 r_67_56 ?_
  refine w_dupA r_67_57 ?_
  refine v_getI r_67_58 (Plk hL hp).1 w4 ?_
  refine w_iconst (v := iI (1)) r_67_61 rfl ?_
  refine v_iadd r_67_62 ?_
  refine w_putI r_67_63 (Plk hL hp).1 (Plk hL hp).2.1 ?_
  refine w_aload0 r_67_66 ?_
  refine v_getI r_67_67 (Plk hL hp).1 w5 ?_
  refine w_iconst (v := iI (1)) r_67_70 rfl ?_
  refine v_isub r_67_71 ?_
  refine w_iret r_67_72 ?_
  rw [show p.z + 1 - 1 = p.z by omega]
  exact R
theorem c_lead {i : Int} {e0 : Bool} (hL : Lay h) (hp : Pl pa) (hi : 0 ≤ i ∧ i < 80) (hz : 0 ≤ p.z ∧ p.z ≤ 80) (hC : PlC h pa st p ((e0, i) :: l)) (kk : ∀ h', Fr (fun a _ => decide (pa ≤ a) && decide (a ≤ pa + 4)) h h' → PlC h' pa st (pLand p i) l → KU h') : XW d 68 0 [.ref pa, .int (iI i)] [] h (KV KU) := by
  have n := hp.ne
  have e4 : gI h pa 4 = iI p.z := by rw [gI_F, hC.1]
  have R := kk (sI h (pa + 4) i.toNat (iI p.z)) ((Fr.refl _ _).sI (pa + 4) _ _ (by simp)) ⟨by rw [zF_o (by omega)]; exact hC.1, by rw [zF_o (by omega)]; exact hC.2.1, fun j j0 j1 => by
    have o := hC.2.2 j j0 j1
    rw [zA_o _ (by omega), zA_o _ (by omega), zA_o _ (by omega), zA_s hi.1 j0 (by omega)]
    refine ⟨o.1, o.2.1, o.2.2.1, fun z no => ?_⟩
    show _ = up1 p.tg i p.z j
    by_cases q : j = i
    · rw [if_pos q, q, up1_at]
    · rw [if_neg q, up1_ne q]
      refine o.2.2.2 z (fun e m => ?_)
      rcases List.mem_cons.1 m with w | w
      · cases w; exact q rfl
      · exact no e w⟩
  refine w_iload1 r_68_0 ?_
  refine v_if_lt r_68_1 (by first | exact zF_in _ _ _ | exact zA_in _ _ _ | omega) (fun q => absurd q (by omega)) (fun _ => ?_)
  refine w_iload1 r_68_4 ?_
  refine w_bipush (v := iI (80)) r_68_5 rfl ?_
  refine v_ic_ge r_68_7 (by first | exact zF_in _ _ _ | exact zA_in _ _ _ | omega) (by first | exact zF_in _ _ _ | exact zA_in _ _ _ | omega) (fun q => absurd q (by omega)) (fun _ => ?_)
  refine w_aload0 r_68_10 ?_
  refine w_getA (x := pa + 4) r_68_11 (Plk hL hp).1 (Plk4 hL hp).2.2.2.1 (Plk4 hL hp).2.2.2.2 ?_
  refine w_iload1 r_68_14 ?_
  refine w_aload0 r_68_15 ?_
  refine v_getI r_68_16 (Plk hL hp).1 e4 ?_
  refine v_iast r_68_19 (Plk4 hL hp).1 (Plk4 hL hp).2.2.1 (Plk4 hL hp).2.1 (by decide) (by omega) ?_
  refine w_vret r_68_20 ?_
  exact R
end CPR
