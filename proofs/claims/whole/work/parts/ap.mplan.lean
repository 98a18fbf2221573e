/-! the Model reads a plan: orders -/
section MP1
variable {d : Nat} {h h' : XH} {K : Int32 → XH → Prop} {KU : XH → Prop} {τ : XT} {k st nd np : Int} {B : XB} {p : XL} {l l' : List (Bool × Int)}
/-- the orders of the plan under way -/
def MO (h : XH) (np : Int) (p : XL) (l : List (Bool × Int)) : Prop := ∀ k, 0 ≤ k → k < p.z → (p.kd k ≤ 3 → zA h 144 (512 * np + 4 * k) = 0 ∧ zA h 144 (512 * np + 4 * k + 1) = p.kd k ∧ zA h 144 (512 * np + 4 * k + 2) = p.nm k) ∧ (p.kd k = 4 → (zA h 144 (512 * np + 4 * k) = 1 ∧ zA h 144 (512 * np + 4 * k + 1) = p.nm k ∧ zA h 144 (512 * np + 4 * k + 2) = p.gd k) ∧ ((∀ e, ¬ (e, k) ∈ l) → zA h 144 (512 * np + 4 * k + 3) = p.tg k)) ∧ (p.kd k = 5 → zA h 144 (512 * np + 4 * k) = 2 ∧ ((∀ e, ¬ (e, k) ∈ l) → zA h 144 (512 * np + 4 * k + 3) = p.tg k))
theorem MO.same (same : ∀ x, 0 ≤ x → zA h' 144 x = zA h 144 x) (hnp : 0 ≤ np) (m : MO h np p l) : MO h' np p l := by
  intro k k0 k1
  have o := m k k0 k1
  rw [same _ (by omega), same _ (by omega), same _ (by omega), same _ (by omega)]
  exact o
theorem MO.mpl (m : MO h np p []) (e : zA h 145 np = p.z) : MPl h np p := ⟨e, fun k k0 k1 => by
  have o := m k k0 k1
  exact ⟨o.1, fun q => ⟨(o.2.1 q).1.1, (o.2.1 q).1.2.1, (o.2.1 q).1.2.2, (o.2.1 q).2 (fun e m => by cases m)⟩, fun q => ⟨(o.2.2 q).1, (o.2.2 q).2 (fun e m => by cases m)⟩⟩⟩
theorem MO.add {a b c kd nm gd : Int} (m : MO h np p l) (hnp : 0 ≤ np) (hz : 0 ≤ p.z)
    (new : zA h' 144 (512 * np + 4 * p.z) = a ∧ zA h' 144 (512 * np + 4 * p.z + 1) = b ∧ zA h' 144 (512 * np + 4 * p.z + 2) = c)
    (same : ∀ x, 0 ≤ x → ¬ (512 * np + 4 * p.z ≤ x ∧ x < 512 * np + 4 * p.z + 4) → zA h' 144 x = zA h 144 x)
    (hk : (kd ≤ 3 → a = 0 ∧ b = kd ∧ c = nm) ∧ (kd = 4 → a = 1 ∧ b = nm ∧ c = gd) ∧ (kd = 5 → a = 2))
    (hl : 4 ≤ kd → ∃ e, (e, p.z) ∈ l') (hs : ∀ e i, (e, i) ∈ l → ∃ e', (e', i) ∈ l') : MO h' np (pAdd p kd nm gd) l' := by
  intro k k0 k1
  have k1 : k < p.z + 1 := k1
  by_cases q : k = p.z
  · subst q
    have ek : (pAdd p kd nm gd).kd p.z = kd := up1_at _ _ _
    have en : (pAdd p kd nm gd).nm p.z = nm := up1_at _ _ _
    have eg : (pAdd p kd nm gd).gd p.z = gd := up1_at _ _ _
    rw [ek, en, eg, new.1, new.2.1, new.2.2]
    refine ⟨fun x => hk.1 x, fun x => ⟨hk.2.1 x, fun n => ?_⟩, fun x => ⟨hk.2.2 x, fun n => ?_⟩⟩
    · obtain ⟨e, w⟩ := hl (by omega)
      exact absurd w (n e)
    · obtain ⟨e, w⟩ := hl (by omega)
      exact absurd w (n e)
  · have o := m k k0 (by omega)
    have ek : (pAdd p kd nm gd).kd k = p.kd k := up1_ne q
    have en : (pAdd p kd nm gd).nm k = p.nm k := up1_ne q
    have eg : (pAdd p kd nm gd).gd k = p.gd k := up1_ne q
    have et : (pAdd p kd nm gd).tg k = p.tg k := rfl
    have nl : (∀ e, ¬ (e, k) ∈ l') → ∀ e, ¬ (e, k) ∈ l := fun n e w => by
      obtain ⟨e', w'⟩ := hs e k w
      exact n e' w'
    rw [ek, en, eg, et, same _ (by omega) (by omega), same _ (by omega) (by omega), same _ (by omega) (by omega), same _ (by omega) (by omega)]
    exact ⟨o.1, fun x => ⟨(o.2.1 x).1, fun n => (o.2.1 x).2 (nl n)⟩, fun x => ⟨(o.2.2 x).1, fun n => (o.2.2 x).2 (nl n)⟩⟩
theorem MO.land {i0 : Int} (m : MO h np p l) (hnp : 0 ≤ np) (h0 : 0 ≤ i0) (new : zA h' 144 (512 * np + 4 * i0 + 3) = p.z) (same : ∀ x, 0 ≤ x → ¬ x = 512 * np + 4 * i0 + 3 → zA h' 144 x = zA h 144 x) (hs : ∀ e i, (e, i) ∈ l → i = i0 ∨ ∃ e', (e', i) ∈ l') : MO h' np (pLand p i0) l' := by
  intro k k0 k1
  have k1 : k < p.z := k1
  have o := m k k0 k1
  have ek : (pLand p i0).kd k = p.kd k := rfl
  have en : (pLand p i0).nm k = p.nm k := rfl
  have eg : (pLand p i0).gd k = p.gd k := rfl
  rw [ek, en, eg, same _ (by omega) (by omega), same _ (by omega) (by omega), same _ (by omega) (by omega)]
  by_cases q : k = i0
  · subst q
    have et : (pLand p k).tg k = p.z := up1_at _ _ _
    rw [et]
    exact ⟨o.1, fun x => ⟨(o.2.1 x).1, fun _ => new⟩, fun x => ⟨(o.2.2 x).1, fun _ => new⟩⟩
  · have et : (pLand p i0).tg k = p.tg k := up1_ne q
    have nl : (∀ e, ¬ (e, k) ∈ l') → ∀ e, ¬ (e, k) ∈ l := fun n e w => by
      rcases hs e k w with z | ⟨e', w'⟩
      · exact q z
      · exact n e' w'
    rw [et, same _ (by omega) (by omega)]
    exact ⟨o.1, fun x => ⟨(o.2.1 x).1, fun n => (o.2.1 x).2 (nl n)⟩, fun x => ⟨(o.2.2 x).1, fun n => (o.2.2 x).2 (nl n)⟩⟩
/-- the blocks that are open -/
def MStk (h : XH) : List (Bool × Int) → Prop
  | [] => True
  | (e, i) :: t => zA h 148 t.length = b2i e ∧ zA h (if e = true then 147 else 146) t.length = i ∧ MStk h t
theorem MStk.up : ∀ l : List (Bool × Int), (∀ a (j : Int), 146 ≤ a → a ≤ 148 → 0 ≤ j → j < l.length → zA h' a j = zA h a j) → MStk h l → MStk h' l := by
  intro l
  induction l with
  | nil => intro _ _; trivial
  | cons x t ih =>
    obtain ⟨e, i⟩ := x
    intro s m
    have s : ∀ a (j : Int), 146 ≤ a → a ≤ 148 → 0 ≤ j → j < (t.length + 1 : Nat) → zA h' a j = zA h a j := s
    refine ⟨by rw [s _ _ (by decide) (by decide) (by omega) (by omega)]; exact m.1, by rw [s _ _ (by split <;> decide) (by split <;> decide) (by omega) (by omega)]; exact m.2.1, ih (fun a j a0 a1 j0 j1 => s a j a0 a1 j0 (by omega)) m.2.2⟩
/-- what reading a plan may change in the Model -/
def pPm : Nat → Nat → Bool := fun a j => (a == 118 && ((decide (4 ≤ j) && decide (j ≤ 10)) || (j == 13 || (j == 58 || j == 59)))) || (a == 120 || (a == 144 || (decide (146 ≤ a) && decide (a ≤ 148))))
def RM (np : Int) (h h' : XH) : Prop := Fr pPm h h' ∧ (∀ x, 0 ≤ x → x < 512 * np → zA h' 144 x = zA h 144 x) ∧ (gI h' 118 13 = iI 0 → gI h 118 13 = iI 0 ∧ zF h' 118 9 = zF h 118 9)
theorem RM.refl (np : Int) (h : XH) : RM np h h := ⟨Fr.refl _ _, fun _ _ _ => rfl, fun q => ⟨q, rfl⟩⟩
theorem RM.trans {h2 : XH} (a : RM np h h') (b : RM np h' h2) : RM np h h2 := ⟨a.1.trans b.1, fun x x0 x1 => by rw [b.2.1 x x0 x1, a.2.1 x x0 x1], fun q => ⟨(a.2.2 (b.2.2 q).1).1, by rw [(b.2.2 q).2, (a.2.2 (b.2.2 q).1).2]⟩⟩
theorem RM.of {P : Nat → Nat → Bool} (f : Fr P h h') (hp : ∀ a j, pPm a j = false → P a j = false) (h5 : ∀ j, P 144 j = false) (h9 : P 118 13 = false ∧ P 118 9 = false := by simp [pO, pA, pF]) : RM np h h' := ⟨f.mono hp, fun x _ _ => f.A (h5 _), fun q => ⟨by rw [← (f.2 118 13 h9.1).1]; exact q, f.F h9.2⟩⟩
theorem RM.tm (f : Fr PTm h h') : RM np h h' := RM.of f (fun a j q => by simp [pPm] at q; simp [pO, pA, pF]; omega) (fun j => by simp [pO, pA, pF])
theorem RM.wrg (h : XH) (f p : Int) : RM np h (wrg h f p) := ⟨(wrg_fr h f p).mono (fun a j q => by simp [pPm] at q; simp [pF]; omega), fun x _ _ => (wrg_fr h f p).A (by simp [pF]), fun q => by rw [wrg_13] at q; exact absurd q (by decide)⟩
/-- what stays while a plan is read -/
def MCx (τ : XT) (B : XB) (nd np : Int) (h : XH) : Prop := Lay h ∧ StC h ∧ TY h τ ∧ MBk h B ∧ gI h 118 37 = iI nd ∧ gI h 118 40 = iI np
theorem MCx.fr (f : Fr pPm h h') (hC : MCx τ B nd np h) : MCx τ B nd np h' := ⟨f.lay hC.1, hC.2.1.fr f (fun a j q => by simp [pPm]; omega), hC.2.2.1.fr f (by simp [pPm]) (fun j => by simp [pPm]), hC.2.2.2.1.fr f (fun a j q => by simp [fpMB] at q; simp [pPm]; omega), by rw [(f.2 118 37 (by simp [pPm])).1]; exact hC.2.2.2.2.1, by rw [(f.2 118 40 (by simp [pPm])).1]; exact hC.2.2.2.2.2⟩
theorem MCx.rm (f : RM np h h') (hC : MCx τ B nd np h) : MCx τ B nd np h' := hC.fr f.1
/-- what the Model keeps of a plan under way -/
def MRs (np : Int) (h : XH) (st : Int) (p : XL) (l : List (Bool × Int)) : Prop := gI h 118 58 = iI p.z ∧ gI h 118 59 = iI st ∧ (np < 8 → MO h np p l) ∧ MStk h l ∧ gI h 118 13 = iI 0
theorem MRs.tm (f : Fr PTm h h') (hnp : 0 ≤ np) (m : MRs np h st p l) : MRs np h' st p l := ⟨by rw [(f.2 118 58 (by simp [pO, pA, pF])).1]; exact m.1, by rw [(f.2 118 59 (by simp [pO, pA, pF])).1]; exact m.2.1, fun q => (m.2.2.1 q).same (fun x x0 => f.A (by simp [pO, pA, pF])) hnp, MStk.up l (fun a j a0 a1 j0 j1 => f.A (by simp [pO, pA, pF]; omega)) m.2.2.2.1, tm_13 f m.2.2.2.2⟩
theorem m_order {z a b c e : Int} (hL : Lay h) (hv : R32 a ∧ R32 b ∧ R32 c ∧ R32 e) (hnp : gI h 118 40 = iI np ∧ 0 ≤ np ∧ np ≤ 8) (hz : gI h 118 58 = iI z ∧ 0 ≤ z ∧ z < 80)
    (kk : ∀ h', Fr (pO (pA [144]) (pF [(118, 58)])) h h' → gI h' 118 58 = iI (z + 1) → (np < 8 → zA h' 144 (512 * np + 4 * z) = a ∧ zA h' 144 (512 * np + 4 * z + 1) = b ∧ zA h' 144 (512 * np + 4 * z + 2) = c) → (∀ x, 0 ≤ x → ¬ (512 * np + 4 * z ≤ x ∧ x < 512 * np + 4 * z + 4) → zA h' 144 x = zA h 144 x) → K (iI z) h') :
    XW d 246 0 [.ref 118, .int (iI a), .int (iI b), .int (iI c), .int (iI e), .null] [] h (KI K) := by
  have x8 : z + 1 - 1 = z := by omega
  by_cases q : np < 8
  · have F : Fr (pO (pA [144]) (pF [(118, 58)])) h (sI (sI (sI (sI (sI h 144 (512 * np + 4 * z).toNat (iI a)) 144 (512 * np + 4 * z + 1).toNat (iI b)) 144 (512 * np + 4 * z + 2).toNat (iI c)) 144 (512 * np + 4 * z + 3).toNat (iI e)) 118 58 (iI (z + 1))) := (((((Fr.refl _ _).sI 144 _ _ (by simp [pO, pA])).sI 144 _ _ (by simp [pO, pA])).sI 144 _ _ (by simp [pO, pA])).sI 144 _ _ (by simp [pO, pA])).sI 118 58 _ (by simp [pO, pF])
    have row : ∀ x, 0 ≤ x → zA (sI (sI (sI (sI (sI h 144 (512 * np + 4 * z).toNat (iI a)) 144 (512 * np + 4 * z + 1).toNat (iI b)) 144 (512 * np + 4 * z + 2).toNat (iI c)) 144 (512 * np + 4 * z + 3).toNat (iI e)) 118 58 (iI (z + 1))) 144 x = if x = 512 * np + 4 * z + 3 then e else if x = 512 * np + 4 * z + 2 then c else if x = 512 * np + 4 * z + 1 then b else if x = 512 * np + 4 * z then a else zA h 144 x := fun x x0 => by
      rw [zA_o _ (by decide), zA_s (by omega) x0 hv.2.2.2, zA_s (by omega) x0 hv.2.2.1, zA_s (by omega) x0 hv.2.1, zA_s (by omega) x0 hv.1]
    have R := kk _ F (by rw [sI_here, if_pos rfl]) (fun _ => ⟨by rw [row _ (by omega), if_neg (by omega), if_neg (by omega), if_neg (by omega), if_pos rfl], by rw [row _ (by omega), if_neg (by omega), if_neg (by omega), if_pos rfl], by rw [row _ (by omega), if_neg (by omega), if_pos rfl]⟩) (fun x x0 n => by rw [row x x0, if_neg (by omega), if_neg (by omega), if_neg (by omega), if_neg (by omega)])
    have e77 : gI (sI (sI (sI (sI h 144 (512 * np + 4 * z).toNat (iI a)) 144 (512 * np + 4 * z + 1).toNat (iI b)) 144 (512 * np + 4 * z + 2).toNat (iI c)) 144 (512 * np + 4 * z + 3).toNat (iI e)) 118 58 = iI z := by rw [sI_other _ (by omega), sI_other _ (by omega), sI_other _ (by omega), sI_other _ (by omega)]; exact hz.1
    have e86 : gI (sI (sI (sI (sI (sI h 144 (512 * np + 4 * z).toNat (iI a)) 144 (512 * np + 4 * z + 1).toNat (iI b)) 144 (512 * np + 4 * z + 2).toNat (iI c)) 144 (512 * np + 4 * z + 3).toNat (iI e)) 118 58 (iI (z + 1))) 118 58 = iI (z + 1) := by rw [sI_here, if_pos rfl]
    refine w_sipush (v := iI (512)) r_246_0 rfl ?_
    refine w_aload0 r_246_3 ?_
    refine v_getI r_246_4 (Lk_118 hL) hnp.1 ?_
    refine v_imul r_246_7 ?_
    refine w_iconst (v := iI (4)) r_246_8 rfl ?_
    refine w_aload0 r_246_9 ?_
    refine v_getI r_246_10 (Lk_118 hL) hz.1 ?_
    refine v_imul r_246_13 ?_
    refine v_iadd r_246_14 ?_
    refine w_istore5 r_246_15 rfl ?_
    refine w_aload0 r_246_17 ?_
    refine v_getI r_246_18 (Lk_118 hL) hnp.1 ?_
    refine w_bipush (v := iI (8)) r_246_21 rfl ?_
    refine v_ic_ge r_246_23 (by first | exact zF_in _ _ _ | exact zA_in _ _ _ | omega) (by first | exact zF_in _ _ _ | exact zA_in _ _ _ | omega) (fun q => absurd q (by omega)) (fun _ => ?_)
    refine w_aload0 r_246_26 ?_
    refine v_getI r_246_27 (Lk_118 hL) hz.1 ?_
    refine w_sipush (v := iI (128)) r_246_30 rfl ?_
    refine v_ic_ge r_246_33 (by first | exact zF_in _ _ _ | exact zA_in _ _ _ | omega) (by first | exact zF_in _ _ _ | exact zA_in _ _ _ | omega) (fun q => absurd q (by omega)) (fun _ => ?_)
    refine w_aload0 r_246_36 ?_
    refine w_getA (x := 144) r_246_37 (Lk_118 hL) (Lr_118_56 hL) (by decide) ?_
    refine w_iload5 r_246_40 ?_
    refine w_iload1 r_246_42 ?_
    refine v_iast r_246_43 (Lk_144 hL) (Ln_144 hL) (Lz_144 hL) (by decide) (by omega) ?_
    refine w_aload0 r_246_44 ?_
    refine w_getA (x := 144) r_246_45 (Lk_118 hL) (Lr_118_56 hL) (by decide) ?_
    refine w_iload5 r_246_48 ?_
    refine w_iconst (v := iI (1)) r_246_50 rfl ?_
    refine v_iadd r_246_51 ?_
    refine w_iload2 r_246_52 ?_
    refine v_iast r_246_53 (Lk_144 hL) (Ln_144 hL) (Lz_144 hL) (by decide) (by omega) ?_
    refine w_aload0 r_246_54 ?_
    refine w_getA (x := 144) r_246_55 (Lk_118 hL) (Lr_118_56 hL) (by decide) ?_
    refine w_iload5 r_246_58 ?_
    refine w_iconst (v := iI (2)) r_246_60 rfl ?_
    refine v_iadd r_246_61 ?_
    refine w_iload3 r_246_62 ?_
    refine v_iast r_246_63 (Lk_144 hL) (Ln_144 hL) (Lz_144 hL) (by decide) (by omega) ?_
    refine w_aload0 r_246_64 ?_
    refine w_getA (x := 144) r_246_65 (Lk_118 hL) (Lr_118_56 hL) (by decide) ?_
    refine w_iload5 r_246_68 ?_
    refine w_iconst (v := iI (3)) r_246_70 rfl ?_
    refine v_iadd r_246_71 ?_
    refine w_iload4 r_246_72 ?_
    refine v_iast r_246_74 (Lk_144 hL) (Ln_144 hL) (Lz_144 hL) (by decide) (by omega) ?_
    refine w_aload0 r_246_75 ?_
    refine w_dupA r_246_76 ?_
    refine v_getI r_246_77 (Lk_118 hL) e77 ?_
    refine w_iconst (v := iI (1)) r_246_80 rfl ?_
    refine v_iadd r_246_81 ?_
    refine w_putI r_246_82 (Lk_118 hL) (Ln_118 hL) ?_
    refine w_aload0 r_246_85 ?_
    refine v_getI r_246_86 (Lk_118 hL) e86 ?_
    refine w_iconst (v := iI (1)) r_246_89 rfl ?_
    refine v_isub r_246_90 ?_
    refine w_iret r_246_91 ?_
    rw [x8]
    exact R
  · have F : Fr (pO (pA [144]) (pF [(118, 58)])) h (sI h 118 58 (iI (z + 1))) := (Fr.refl _ _).sI 118 58 _ (by simp [pO, pF])
    have e86 : gI (sI h 118 58 (iI (z + 1))) 118 58 = iI (z + 1) := by rw [sI_here, if_pos rfl]
    have R := kk _ F e86 (fun w => absurd w q) (fun x x0 n => zA_o _ (by decide))
    refine w_sipush (v := iI (512)) r_246_0 rfl ?_
    refine w_aload0 r_246_3 ?_
    refine v_getI r_246_4 (Lk_118 hL) hnp.1 ?_
    refine v_imul r_246_7 ?_
    refine w_iconst (v := iI (4)) r_246_8 rfl ?_
    refine w_aload0 r_246_9 ?_
    refine v_getI r_246_10 (Lk_118 hL) hz.1 ?_
    refine v_imul r_246_13 ?_
    refine v_iadd r_246_14 ?_
    refine w_istore5 r_246_15 rfl ?_
    refine w_aload0 r_246_17 ?_
    refine v_getI r_246_18 (Lk_118 hL) hnp.1 ?_
    refine w_bipush (v := iI (8)) r_246_21 rfl ?_
    refine v_ic_ge r_246_23 (by first | exact zF_in _ _ _ | exact zA_in _ _ _ | omega) (by first | exact zF_in _ _ _ | exact zA_in _ _ _ | omega) (fun _ => ?_) (fun q => absurd q (by omega))
    refine w_aload0 r_246_75 ?_
    refine w_dupA r_246_76 ?_
    refine v_getI r_246_77 (Lk_118 hL) hz.1 ?_
    refine w_iconst (v := iI (1)) r_246_80 rfl ?_
    refine v_iadd r_246_81 ?_
    refine w_putI r_246_82 (Lk_118 hL) (Ln_118 hL) ?_
    refine w_aload0 r_246_85 ?_
    refine v_getI r_246_86 (Lk_118 hL) e86 ?_
    refine w_iconst (v := iI (1)) r_246_89 rfl ?_
    refine v_isub r_246_90 ?_
    refine w_iret r_246_91 ?_
    rw [x8]
    exact R
theorem m_lands {z i : Int} (hL : Lay h) (hi : 0 ≤ i ∧ i < 80) (hnp : gI h 118 40 = iI np ∧ 0 ≤ np ∧ np ≤ 8) (hz : gI h 118 58 = iI z ∧ 0 ≤ z ∧ z ≤ 80)
    (kk : ∀ h', Fr (pA [144]) h h' → (np < 8 → zA h' 144 (512 * np + 4 * i + 3) = z) → (∀ x, 0 ≤ x → ¬ x = 512 * np + 4 * i + 3 → zA h' 144 x = zA h 144 x) → (∀ x, 0 ≤ x → x < 512 * np → zA h' 144 x = zA h 144 x) → KU h') :
    XW d 247 0 [.ref 118, .int (iI i)] [] h (KV KU) := by
  by_cases q : np < 8
  · have row : ∀ x, 0 ≤ x → zA (sI h 144 (512 * np + 4 * i + 3).toNat (iI z)) 144 x = if x = 512 * np + 4 * i + 3 then z else zA h 144 x := fun x x0 => zA_s (by omega) x0 (by omega)
    have R := kk _ ((Fr.refl _ _).sI 144 _ _ (by simp [pA])) (fun _ => by rw [row _ (by omega), if_pos rfl]) (fun x x0 n => by rw [row x x0, if_neg n]) (fun x x0 n => by rw [row x x0, if_neg (by omega)])
    refine w_aload0 r_247_0 ?_
    refine v_getI r_247_1 (Lk_118 hL) hnp.1 ?_
    refine w_bipush (v := iI (8)) r_247_4 rfl ?_
    refine v_ic_ge r_247_6 (by first | exact zF_in _ _ _ | exact zA_in _ _ _ | omega) (by first | exact zF_in _ _ _ | exact zA_in _ _ _ | omega) (fun q => absurd q (by omega)) (fun _ => ?_)
    refine w_aload0 r_247_9 ?_
    refine w_getA (x := 144) r_247_10 (Lk_118 hL) (Lr_118_56 hL) (by decide) ?_
    refine w_sipush (v := iI (512)) r_247_13 rfl ?_
    refine w_aload0 r_247_16 ?_
    refine v_getI r_247_17 (Lk_118 hL) hnp.1 ?_
    refine v_imul r_247_20 ?_
    refine w_iconst (v := iI (4)) r_247_21 rfl ?_
    refine w_iload1 r_247_22 ?_
    refine v_imul r_247_23 ?_
    refine v_iadd r_247_24 ?_
    refine w_iconst (v := iI (3)) r_247_25 rfl ?_
    refine v_iadd r_247_26 ?_
    refine w_aload0 r_247_27 ?_
    refine v_getI r_247_28 (Lk_118 hL) hz.1 ?_
    refine v_iast r_247_31 (Lk_144 hL) (Ln_144 hL) (Lz_144 hL) (by decide) (by omega) ?_
    refine w_vret r_247_32 ?_
    exact R
  · have R := kk h (Fr.refl _ _) (fun w => absurd w q) (fun x x0 n => rfl) (fun x x0 n => rfl)
    refine w_aload0 r_247_0 ?_
    refine v_getI r_247_1 (Lk_118 hL) hnp.1 ?_
    refine w_bipush (v := iI (8)) r_247_4 rfl ?_
    refine v_ic_ge r_247_6 (by first | exact zF_in _ _ _ | exact zA_in _ _ _ | omega) (by first | exact zF_in _ _ _ | exact zA_in _ _ _ | omega) (fun _ => ?_) (fun q => absurd q (by omega))
    refine w_vret r_247_32 ?_
    exact R
theorem m_wayWord (hL : Lay h) (hS : StC h) (hY : TY h τ) (hT : TM h τ k) (h13 : gI h 118 13 = iI 0) (kk : K (iI (τ.way k)) h) : XW (d + 5) 248 0 [.ref 118] [] h (KI K) := by
  unfold XT.way at kk
  refine w_aload0 r_248_0 ?_
  refine w_ldcS (a := 1000076) r_248_1 rfl ?_
  refine k_175 r_248_3 (Lk_118 hL) (Nat.le_of_ble_eq_true rfl) ?_
  refine m_word0 hL hY hT h13 (sS_33 hL hS) (fun q1 => ?_) (fun q1 => ?_)
  · refine v_if_eq r_248_6 (by first | exact zF_in _ _ _ | exact zA_in _ _ _ | omega) (fun q => absurd q (by omega)) (fun _ => ?_)
    refine w_iconst (v := iI (0)) r_248_9 rfl ?_
    refine w_goto r_248_10 ?_
    refine w_iret r_248_53 ?_
    simp [*] at kk
    exact kk
  · refine v_if_eq r_248_6 (by first | exact zF_in _ _ _ | exact zA_in _ _ _ | omega) (fun _ => ?_) (fun q => absurd q (by omega))
    refine w_aload0 r_248_13 ?_
    refine w_ldcS (a := 1000078) r_248_14 rfl ?_
    refine k_175 r_248_16 (Lk_118 hL) (Nat.le_of_ble_eq_true rfl) ?_
    refine m_word0 hL hY hT h13 (sS_34 hL hS) (fun q2 => ?_) (fun q2 => ?_)
    · refine v_if_eq r_248_19 (by first | exact zF_in _ _ _ | exact zA_in _ _ _ | omega) (fun q => absurd q (by omega)) (fun _ => ?_)
      refine w_iconst (v := iI (1)) r_248_22 rfl ?_
      refine w_goto r_248_23 ?_
      refine w_iret r_248_53 ?_
      simp [*] at kk
      exact kk
    · refine v_if_eq r_248_19 (by first | exact zF_in _ _ _ | exact zA_in _ _ _ | omega) (fun _ => ?_) (fun q => absurd q (by omega))
      refine w_aload0 r_248_26 ?_
      refine w_ldcS (a := 1000080) r_248_27 rfl ?_
      refine k_175 r_248_29 (Lk_118 hL) (Nat.le_of_ble_eq_true rfl) ?_
      refine m_word0 hL hY hT h13 (sS_35 hL hS) (fun q3 => ?_) (fun q3 => ?_)
      · refine v_if_eq r_248_32 (by first | exact zF_in _ _ _ | exact zA_in _ _ _ | omega) (fun q => absurd q (by omega)) (fun _ => ?_)
        refine w_iconst (v := iI (2)) r_248_35 rfl ?_
        refine w_goto r_248_36 ?_
        refine w_iret r_248_53 ?_
        simp [*] at kk
        exact kk
      · refine v_if_eq r_248_32 (by first | exact zF_in _ _ _ | exact zA_in _ _ _ | omega) (fun _ => ?_) (fun q => absurd q (by omega))
        refine w_aload0 r_248_39 ?_
        refine w_ldcS (a := 1000082) r_248_40 rfl ?_
        refine k_175 r_248_42 (Lk_118 hL) (Nat.le_of_ble_eq_true rfl) ?_
        refine m_word0 hL hY hT h13 (sS_36 hL hS) (fun q4 => ?_) (fun q4 => ?_)
        · refine v_if_eq r_248_45 (by first | exact zF_in _ _ _ | exact zA_in _ _ _ | omega) (fun q => absurd q (by omega)) (fun _ => ?_)
          refine w_iconst (v := iI (3)) r_248_48 rfl ?_
          refine w_goto r_248_49 ?_
          refine w_iret r_248_53 ?_
          simp [*] at kk
          exact kk
        · refine v_if_eq r_248_45 (by first | exact zF_in _ _ _ | exact zA_in _ _ _ | omega) (fun _ => ?_) (fun q => absurd q (by omega))
          refine w_iconst (v := iI (-1)) r_248_52 rfl ?_
          refine w_iret r_248_53 ?_
          simp [*] at kk
          exact kk
end MP1
