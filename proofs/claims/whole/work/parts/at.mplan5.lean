/-! the Model reads a plan: all steps; the call -/
section MP5
variable {d : Nat} {h h' : XH} {K : Int32 → XH → Prop} {KU : XH → Prop} {τ : XT} {k st nd np : Int} {B : XB} {p : XL} {l l' t : List (Bool × Int)}
def RdF (τ : XT) (B : XB) (nd np : Int) (h : XH) (x : Bool × XS) (KU : XH → Prop) : Prop := ∀ e, Ends τ B nd x (.inl e) → ∀ h', RM np h h' → MF h' e → KU h'
def RdT (τ : XT) (B : XB) (nd np : Int) (h : XH) (x : Bool × XS) (KU : XH → Prop) : Prop := ∀ p', Ends τ B nd x (.inr p') → p'.ok nd → ∀ h', RM np h h' → gI h' 118 58 = iI p'.z → gI h' 118 13 = iI 0 → (np < 8 → MO h' np p' []) → KU h'
theorem RdF.to {x y : Bool × XS} {h1 : XH} (R : RdF τ B nd np h x KU) (r : RM np h h1) (s : ∀ r, Ends τ B nd y r → Ends τ B nd x r) : RdF τ B nd np h1 y KU := fun e ee h' r' m => R e (s _ ee) h' (r.trans r') m
theorem RdT.to {x y : Bool × XS} {h1 : XH} (R : RdT τ B nd np h x KU) (r : RM np h h1) (s : ∀ r, Ends τ B nd y r → Ends τ B nd x r) : RdT τ B nd np h1 y KU := fun p' ee ok h' r' a b c => R p' (s _ ee) ok h' (r.trans r') a b c
theorem SOk.at {k' : Int} (h : SOk nd (k, st, p, l)) : SOk nd (k', st, p, l) := h
def RdA (τ : XT) (B : XB) (nd np : Int) (d m : Nat) : Prop := ∀ (h : XH) (KU : XH → Prop) (k st : Int) (p : XL) (l : List (Bool × Int)) (X3 X4 X5 : Value), τ.2 - k < m → MCx τ B nd np h → TM h τ k → MRs np h st p l → SOk nd (k, st, p, l) → RdF τ B nd np h (false, (k, st, p, l)) KU → RdT τ B nd np h (false, (k, st, p, l)) KU → XW (d + 7) 250 4 [.ref 118, .int (iI l.length), .int (iI 1), X3, X4, X5] [] h (KV KU)
def RdB (τ : XT) (B : XB) (nd np : Int) (d m : Nat) : Prop := ∀ (h : XH) (KU : XH → Prop) (k st : Int) (p : XL) (l : List (Bool × Int)) (X5 : Value), τ.2 - k < m → MCx τ B nd np h → TM h τ k → MRs np h st p l → SOk nd (k, st, p, l) → RdF τ B nd np h (true, (k, st, p, l)) KU → RdT τ B nd np h (true, (k, st, p, l)) KU → XW (d + 7) 250 35 [.ref 118, .int (iI l.length), .int (iI 1), .int (iI 0), .int (iI 1), X5] [] h (KV KU)
theorem m_rdA {m : Nat} (hg : 0 ≤ B.g ∧ B.g ≤ 8) (hnd : 0 ≤ nd ∧ nd ≤ 5) (hnp : 0 ≤ np ∧ np ≤ 8) (IA : RdA τ B nd np d m) (IB : RdB τ B nd np d m) : RdA τ B nd np d (m + 1) := by
  intro h KU k st p l X3 X4 X5 hm hC hT hM hS kf kt
  have hL := hC.1
  refine w_iload2 r_250_4 ?_
  refine v_if_eq r_250_5 (by first | exact zF_in _ _ _ | exact zA_in _ _ _ | omega) (fun q => absurd q (by omega)) (fun _ => ?_)
  refine w_aload0 r_250_8 ?_
  refine w_iload1 r_250_9 ?_
  refine k_249 r_250_10 (Lk_118 hL) (Nat.le_of_ble_eq_true rfl) ?_
  refine m_opens (d := d) hC hg hnd hnp hT hM hS (fun e ee g rg mg => ?_) (fun k' st' p' l' ee so lt ll g rg tg mg => ?_) (fun k' st' p' ee so lt g rg tg mg => ?_)
  skip
  · have R := kf e (open_f ee) g rg mg
    have hL := (hC.rm rg).1
    refine w_istore3 r_250_13 rfl ?_
    refine w_aload0 r_250_14 ?_
    refine v_getI r_250_15 (Lk_118 hL) mg.1 ?_
    refine v_if_eq r_250_18 (by first | exact zF_in _ _ _ | exact zA_in _ _ _ | omega) (fun q => absurd q (by omega)) (fun _ => ?_)
    refine w_vret r_250_21 ?_
    exact R
  · have J := fun X3 X4 X5 => IA g KU k' st' p' l' X3 X4 X5 (by omega) (hC.rm rg) tg mg so (kf.to rg (fun r x => open_t ee x)) (kt.to rg (fun r x => open_t ee x))
    have hl : (l'.length : Int) = l.length + 1 := by omega
    rw [hl] at J
    have hL := (hC.rm rg).1
    have g13 := mg.2.2.2.2
    refine w_istore3 r_250_13 rfl ?_
    refine w_aload0 r_250_14 ?_
    refine v_getI r_250_15 (Lk_118 hL) g13 ?_
    refine v_if_eq r_250_18 (by first | exact zF_in _ _ _ | exact zA_in _ _ _ | omega) (fun _ => ?_) (fun q => absurd q (by omega))
    refine w_iload3 r_250_22 ?_
    refine v_if_eq r_250_23 (by first | exact zF_in _ _ _ | exact zA_in _ _ _ | omega) (fun q => absurd q (by omega)) (fun _ => ?_)
    refine w_iinc1 r_250_26 rfl (iI_add _ _) ?_
    refine w_goto r_250_29 ?_
    exact J _ _ _
  · have J := fun X5 => IB g KU k' st' p' l X5 (by omega) (hC.rm rg) tg mg so (kf.to rg (fun r x => open_m ee x)) (kt.to rg (fun r x => open_m ee x))
    have hL := (hC.rm rg).1
    have g13 := mg.2.2.2.2
    refine w_istore3 r_250_13 rfl ?_
    refine w_aload0 r_250_14 ?_
    refine v_getI r_250_15 (Lk_118 hL) g13 ?_
    refine v_if_eq r_250_18 (by first | exact zF_in _ _ _ | exact zA_in _ _ _ | omega) (fun _ => ?_) (fun q => absurd q (by omega))
    refine w_iload3 r_250_22 ?_
    refine v_if_eq r_250_23 (by first | exact zF_in _ _ _ | exact zA_in _ _ _ | omega) (fun _ => ?_) (fun q => absurd q (by omega))
    refine w_iconst (v := iI (1)) r_250_32 rfl ?_
    refine w_istore4 r_250_33 rfl ?_
    exact J _
theorem m_rdB {m : Nat} (hg : 0 ≤ B.g ∧ B.g ≤ 8) (hnd : 0 ≤ nd ∧ nd ≤ 5) (hnp : 0 ≤ np ∧ np ≤ 8) (IA : RdA τ B nd np d m) (IB : RdB τ B nd np d m) : RdB τ B nd np d (m + 1) := by
  intro h KU k st p l X5 hm hC hT hM hS kf kt
  have hL := hC.1
  have hY := hC.2.2.1
  have q := TM.pos hY hT
  have mk := mK_in q.2.2
  have ea := XT.e_at hY.1 hT.1.1 hT.1.2
  have aa := XT.a_at hY.1 hT.1.1 hT.1.2
  have h13 := hM.2.2.2.2
  have s3 : l.length ≤ 6 := hS.2.2.1
  have semi : τ.k k = 59 → sClose τ (k, st, p, l) = .inr (0, (τ.e k, st, p, l)) → XW (d + 7) 250 197 [.ref 118, .int (iI l.length), .int (iI 1), .int (iI 0), .int (iI 1), X5] [] h (KV KU) := by
    intro z u
    have z59 : mK (τ.k k) = 59 := by rw [z]; rfl
    have J := fun g (f : Fr PTm h g) t X3 X4 X5 => IA g KU (τ.e k) st p l X3 X4 X5 (by omega) (hC.rm (RM.tm f)) t (hM.tm f hnp.1) hS.at (kf.to (RM.tm f) (fun r x => close_0 u x)) (kt.to (RM.tm f) (fun r x => close_0 u x))
    refine w_aload0 r_250_197 ?_
    refine v_getI r_250_198 (Lk_118 hL) hT.i.2.2 ?_
    refine w_bipush (v := iI (59)) r_250_201 rfl ?_
    refine v_ic_ne r_250_203 (by first | exact zF_in _ _ _ | exact zA_in _ _ _ | omega) (by first | exact zF_in _ _ _ | exact zA_in _ _ _ | omega) (fun q => absurd q (by omega)) (fun _ => ?_)
    refine w_iconst (v := iI (1)) r_250_206 rfl ?_
    refine w_goto r_250_207 ?_
    refine w_istore2 r_250_211 rfl ?_
    refine w_iload2 r_250_212 ?_
    refine v_if_eq r_250_213 (by first | exact zF_in _ _ _ | exact zA_in _ _ _ | omega) (fun q => absurd q (by omega)) (fun _ => ?_)
    refine w_aload0 r_250_216 ?_
    refine k_172 r_250_217 (Lk_118 hL) (Nat.le_of_ble_eq_true rfl) ?_
    refine m_next (d := d + 5) hL hY (by omega) hT.i.2.1 (fun g f t => ?_)
    refine w_goto r_250_220 ?_
    exact J g f t _ _ _
  have bad : ¬ τ.k k = 59 → sClose τ (k, st, p, l) = .inl (1, τ.a k) → ¬ (l.length = 0 ∧ τ.k k = 0) → XW (d + 7) 250 197 [.ref 118, .int (iI l.length), .int (iI 1), .int (iI 0), .int (iI 1), X5] [] h (KV KU) := by
    intro z u nn
    have z59 : ¬ mK (τ.k k) = 59 := fun x => z (by rw [← mk.2.2.2.2.2 (by omega)]; exact x)
    have R := kf _ (close_f u) _ (RM.wrg h 1 (τ.a k)) (wrg_MF (by omega) (by omega))
    have J : XW (d + 7) 250 4 [.ref 118, .int (iI l.length), .int (iI 0), .int (iI 0), .int (iI 1), X5] [] h (KV KU) := by
      by_cases c : l.length = 0
      · have z0 : ¬ mK (τ.k k) = 0 := fun x => nn ⟨c, mk.2.2.2.1.1 x⟩
        refine w_iload2 r_250_4 ?_
        refine v_if_eq r_250_5 (by first | exact zF_in _ _ _ | exact zA_in _ _ _ | omega) (fun _ => ?_) (fun q => absurd q (by omega))
        refine w_iload1 r_250_223 ?_
        refine v_if_gt r_250_224 (by first | exact zF_in _ _ _ | exact zA_in _ _ _ | omega) (fun q => absurd q (by omega)) (fun _ => ?_)
        refine w_aload0 r_250_227 ?_
        refine v_getI r_250_228 (Lk_118 hL) hT.i.2.2 ?_
        refine v_if_eq r_250_231 (by first | exact zF_in _ _ _ | exact zA_in _ _ _ | omega) (fun q => absurd q (by omega)) (fun _ => ?_)
        refine w_aload0 r_250_234 ?_
        refine w_iconst (v := iI (1)) r_250_235 rfl ?_
        refine w_aload0 r_250_236 ?_
        refine v_getI r_250_237 (Lk_118 hL) hT.i.1 ?_
        refine k_174 r_250_240 (Lk_118 hL) (Nat.le_of_ble_eq_true rfl) ?_
        refine m_wrong0 hL h13 ?_
        refine w_popI r_250_243 ?_
        refine w_vret r_250_244 ?_
        exact R
      · refine w_iload2 r_250_4 ?_
        refine v_if_eq r_250_5 (by first | exact zF_in _ _ _ | exact zA_in _ _ _ | omega) (fun _ => ?_) (fun q => absurd q (by omega))
        refine w_iload1 r_250_223 ?_
        refine v_if_gt r_250_224 (by first | exact zF_in _ _ _ | exact zA_in _ _ _ | omega) (fun _ => ?_) (fun q => absurd q (by omega))
        refine w_aload0 r_250_234 ?_
        refine w_iconst (v := iI (1)) r_250_235 rfl ?_
        refine w_aload0 r_250_236 ?_
        refine v_getI r_250_237 (Lk_118 hL) hT.i.1 ?_
        refine k_174 r_250_240 (Lk_118 hL) (Nat.le_of_ble_eq_true rfl) ?_
        refine m_wrong0 hL h13 ?_
        refine w_popI r_250_243 ?_
        refine w_vret r_250_244 ?_
        exact R
    refine w_aload0 r_250_197 ?_
    refine v_getI r_250_198 (Lk_118 hL) hT.i.2.2 ?_
    refine w_bipush (v := iI (59)) r_250_201 rfl ?_
    refine v_ic_ne r_250_203 (by first | exact zF_in _ _ _ | exact zA_in _ _ _ | omega) (by first | exact zF_in _ _ _ | exact zA_in _ _ _ | omega) (fun _ => ?_) (fun q => absurd q (by omega))
    refine w_iconst (v := iI (0)) r_250_210 rfl ?_
    refine w_istore2 r_250_211 rfl ?_
    refine w_iload2 r_250_212 ?_
    refine v_if_eq r_250_213 (by first | exact zF_in _ _ _ | exact zA_in _ _ _ | omega) (fun _ => ?_) (fun q => absurd q (by omega))
    refine w_goto r_250_220 ?_
    exact J
  cases l with
  | nil =>
    by_cases z : τ.k k = 59
    · have J := semi z (by unfold sClose; dsimp only; rw [if_pos z])
      have J : XW (d + 7) 250 197 [.ref 118, .int (iI 0), .int (iI 1), .int (iI 0), .int (iI 1), X5] [] h (KV KU) := J
      change XW (d + 7) 250 35 [.ref 118, .int (iI 0), .int (iI 1), .int (iI 0), .int (iI 1), X5] [] h (KV KU)
      refine w_iload4 r_250_35 ?_
      refine v_if_eq r_250_37 (by first | exact zF_in _ _ _ | exact zA_in _ _ _ | omega) (fun q => absurd q (by omega)) (fun _ => ?_)
      refine w_iload1 r_250_40 ?_
      refine v_if_le r_250_41 (by first | exact zF_in _ _ _ | exact zA_in _ _ _ | omega) (fun _ => ?_) (fun q => absurd q (by omega))
      refine w_iload4 r_250_189 ?_
      refine v_if_ne r_250_191 (by first | exact zF_in _ _ _ | exact zA_in _ _ _ | omega) (fun _ => ?_) (fun q => absurd q (by omega))
      exact J
    · by_cases y : τ.k k = 0
      · have z59 : ¬ mK (τ.k k) = 59 := fun x => z (by rw [← mk.2.2.2.2.2 (by omega)]; exact x)
        have z0 : mK (τ.k k) = 0 := mk.2.2.2.1.2 y
        have u : sClose τ (k, st, p, []) = .inr (2, (k, st, p, [])) := by unfold sClose; dsimp only; rw [if_neg z, if_pos y]
        have R := kt p (close_2 u) hS.ok h (RM.refl np h) hM.1 h13 hM.2.2.1
        have J : XW (d + 7) 250 4 [.ref 118, .int (iI 0), .int (iI 0), .int (iI 0), .int (iI 1), X5] [] h (KV KU) := by
          refine w_iload2 r_250_4 ?_
          refine v_if_eq r_250_5 (by first | exact zF_in _ _ _ | exact zA_in _ _ _ | omega) (fun _ => ?_) (fun q => absurd q (by omega))
          refine w_iload1 r_250_223 ?_
          refine v_if_gt r_250_224 (by first | exact zF_in _ _ _ | exact zA_in _ _ _ | omega) (fun q => absurd q (by omega)) (fun _ => ?_)
          refine w_aload0 r_250_227 ?_
          refine v_getI r_250_228 (Lk_118 hL) hT.i.2.2 ?_
          refine v_if_eq r_250_231 (by first | exact zF_in _ _ _ | exact zA_in _ _ _ | omega) (fun _ => ?_) (fun q => absurd q (by omega))
          refine w_vret r_250_244 ?_
          exact R
        change XW (d + 7) 250 35 [.ref 118, .int (iI 0), .int (iI 1), .int (iI 0), .int (iI 1), X5] [] h (KV KU)
        refine w_iload4 r_250_35 ?_
        refine v_if_eq r_250_37 (by first | exact zF_in _ _ _ | exact zA_in _ _ _ | omega) (fun q => absurd q (by omega)) (fun _ => ?_)
        refine w_iload1 r_250_40 ?_
        refine v_if_le r_250_41 (by first | exact zF_in _ _ _ | exact zA_in _ _ _ | omega) (fun _ => ?_) (fun q => absurd q (by omega))
        refine w_iload4 r_250_189 ?_
        refine v_if_ne r_250_191 (by first | exact zF_in _ _ _ | exact zA_in _ _ _ | omega) (fun _ => ?_) (fun q => absurd q (by omega))
        refine w_aload0 r_250_197 ?_
        refine v_getI r_250_198 (Lk_118 hL) hT.i.2.2 ?_
        refine w_bipush (v := iI (59)) r_250_201 rfl ?_
        refine v_ic_ne r_250_203 (by first | exact zF_in _ _ _ | exact zA_in _ _ _ | omega) (by first | exact zF_in _ _ _ | exact zA_in _ _ _ | omega) (fun _ => ?_) (fun q => absurd q (by omega))
        refine w_iconst (v := iI (0)) r_250_210 rfl ?_
        refine w_istore2 r_250_211 rfl ?_
        refine w_iload2 r_250_212 ?_
        refine v_if_eq r_250_213 (by first | exact zF_in _ _ _ | exact zA_in _ _ _ | omega) (fun _ => ?_) (fun q => absurd q (by omega))
        refine w_goto r_250_220 ?_
        exact J
      · have J := bad z (by unfold sClose; dsimp only; rw [if_neg z, if_neg y]) (fun x => y x.2)
        have J : XW (d + 7) 250 197 [.ref 118, .int (iI 0), .int (iI 1), .int (iI 0), .int (iI 1), X5] [] h (KV KU) := J
        change XW (d + 7) 250 35 [.ref 118, .int (iI 0), .int (iI 1), .int (iI 0), .int (iI 1), X5] [] h (KV KU)
        refine w_iload4 r_250_35 ?_
        refine v_if_eq r_250_37 (by first | exact zF_in _ _ _ | exact zA_in _ _ _ | omega) (fun q => absurd q (by omega)) (fun _ => ?_)
        refine w_iload1 r_250_40 ?_
        refine v_if_le r_250_41 (by first | exact zF_in _ _ _ | exact zA_in _ _ _ | omega) (fun _ => ?_) (fun q => absurd q (by omega))
        refine w_iload4 r_250_189 ?_
        refine v_if_ne r_250_191 (by first | exact zF_in _ _ _ | exact zA_in _ _ _ | omega) (fun _ => ?_) (fun q => absurd q (by omega))
        exact J
  | cons x t =>
    obtain ⟨e0, i0⟩ := x
    have el : (((e0, i0) :: t).length : Int) = t.length + 1 := by rw [List.length_cons]; omega
    rw [el] at semi bad ⊢
    by_cases c : τ.k k = 41
    · have z41 : mK (τ.k k) = 41 := by rw [c]; rfl
      have go : ∀ g, Fr PTm h g → TM g τ (τ.e k) → XW (d + 7) 250 57 [.ref 118, .int (iI (t.length + 1)), .int (iI 1), .int (iI 0), .int (iI 1), X5] [] g (KV KU) := by
        intro g fg Tg
        have rg : RM np h g := RM.tm fg
        have e2 := XT.e_at hY.1 Tg.1.1 Tg.1.2
        have a2 := XT.a_at hY.1 Tg.1.1 Tg.1.2
        have kf := kf.to (y := (true, (k, st, p, (e0, i0) :: t))) rg (fun r x => x)
        have kt := kt.to (y := (true, (k, st, p, (e0, i0) :: t))) rg (fun r x => x)
        refine m_close (hC.rm rg) hnp Tg (hM.tm fg hnp.1) hS (fun a b n h' r m => ?_) (fun a b n h' r T' m => ?_) (fun n h' r T' m => ?_)
        · exact kf _ (close_f (by unfold sClose; dsimp only; rw [if_pos c, if_pos ⟨a, b⟩, if_neg n])) h' r m
        · subst a
          have u : sClose τ (k, st, p, (false, i0) :: t) = .inr (0, (τ.e (τ.e (τ.e k)), st, pLand (pAdd p 5 0 (-1)) i0, (true, p.z) :: t)) := by unfold sClose; dsimp only; rw [if_pos c, if_pos ⟨rfl, b⟩, if_pos n]
          have e3 := XT.e_at hY.1 T'.1.1 T'.1.2
          have e4 := XT.e_at hY.1 (k := τ.e (τ.e k)) (by omega) (by omega)
          have a4 := XT.a_at hY.1 (k := τ.e (τ.e k)) (by omega) (by omega)
          have J := IA h' KU (τ.e (τ.e (τ.e k))) st (pLand (pAdd p 5 0 (-1)) i0) ((true, p.z) :: t) (.int (iI 0)) (.int (iI 0)) (.int (iI 1)) (by omega) ((hC.rm rg).rm r) T' m hS.els (kf.to r (fun r x => close_0 u x)) (kt.to r (fun r x => close_0 u x))
          have el : (((true, p.z) :: t).length : Int) = t.length + 1 := by rw [List.length_cons]; omega
          rw [el] at J
          exact J
        · have u : sClose τ (k, st, p, (e0, i0) :: t) = .inr (1, (τ.e k, st, pLand p i0, t)) := by unfold sClose; dsimp only; rw [if_pos c, if_neg n]
          exact IB h' KU (τ.e k) st (pLand p i0) t (.int (iI 0)) (by omega) ((hC.rm rg).rm r) T' m hS.land (kf.to r (fun r x => close_1 u x)) (kt.to r (fun r x => close_1 u x))
      refine w_iload4 r_250_35 ?_
      refine v_if_eq r_250_37 (by first | exact zF_in _ _ _ | exact zA_in _ _ _ | omega) (fun q => absurd q (by omega)) (fun _ => ?_)
      refine w_iload1 r_250_40 ?_
      refine v_if_le r_250_41 (by first | exact zF_in _ _ _ | exact zA_in _ _ _ | omega) (fun q => absurd q (by omega)) (fun _ => ?_)
      refine w_aload0 r_250_44 ?_
      refine v_getI r_250_45 (Lk_118 hL) hT.i.2.2 ?_
      refine w_bipush (v := iI (41)) r_250_48 rfl ?_
      refine v_ic_ne r_250_50 (by first | exact zF_in _ _ _ | exact zA_in _ _ _ | omega) (by first | exact zF_in _ _ _ | exact zA_in _ _ _ | omega) (fun q => absurd q (by omega)) (fun _ => ?_)
      refine w_aload0 r_250_53 ?_
      refine k_172 r_250_54 (Lk_118 hL) (Nat.le_of_ble_eq_true rfl) ?_
      refine m_next (d := d + 5) hL hY (by omega) hT.i.2.1 (fun g f t => ?_)
      exact go g f t
    · have z41 : ¬ mK (τ.k k) = 41 := fun x => c (by rw [← mk.2.2.2.2.2 (by omega)]; exact x)
      by_cases z : τ.k k = 59
      · have J := semi z (by unfold sClose; dsimp only; rw [if_neg c, if_pos z])
        refine w_iload4 r_250_35 ?_
        refine v_if_eq r_250_37 (by first | exact zF_in _ _ _ | exact zA_in _ _ _ | omega) (fun q => absurd q (by omega)) (fun _ => ?_)
        refine w_iload1 r_250_40 ?_
        refine v_if_le r_250_41 (by first | exact zF_in _ _ _ | exact zA_in _ _ _ | omega) (fun q => absurd q (by omega)) (fun _ => ?_)
        refine w_aload0 r_250_44 ?_
        refine v_getI r_250_45 (Lk_118 hL) hT.i.2.2 ?_
        refine w_bipush (v := iI (41)) r_250_48 rfl ?_
        refine v_ic_ne r_250_50 (by first | exact zF_in _ _ _ | exact zA_in _ _ _ | omega) (by first | exact zF_in _ _ _ | exact zA_in _ _ _ | omega) (fun _ => ?_) (fun q => absurd q (by omega))
        refine w_iload4 r_250_189 ?_
        refine v_if_ne r_250_191 (by first | exact zF_in _ _ _ | exact zA_in _ _ _ | omega) (fun _ => ?_) (fun q => absurd q (by omega))
        exact J
      · have J := bad z (by unfold sClose; dsimp only; rw [if_neg c, if_neg z]) (fun x => by have := x.1; rw [List.length_cons] at this; omega)
        refine w_iload4 r_250_35 ?_
        refine v_if_eq r_250_37 (by first | exact zF_in _ _ _ | exact zA_in _ _ _ | omega) (fun q => absurd q (by omega)) (fun _ => ?_)
        refine w_iload1 r_250_40 ?_
        refine v_if_le r_250_41 (by first | exact zF_in _ _ _ | exact zA_in _ _ _ | omega) (fun q => absurd q (by omega)) (fun _ => ?_)
        refine w_aload0 r_250_44 ?_
        refine v_getI r_250_45 (Lk_118 hL) hT.i.2.2 ?_
        refine w_bipush (v := iI (41)) r_250_48 rfl ?_
        refine v_ic_ne r_250_50 (by first | exact zF_in _ _ _ | exact zA_in _ _ _ | omega) (by first | exact zF_in _ _ _ | exact zA_in _ _ _ | omega) (fun _ => ?_) (fun q => absurd q (by omega))
        refine w_iload4 r_250_189 ?_
        refine v_if_ne r_250_191 (by first | exact zF_in _ _ _ | exact zA_in _ _ _ | omega) (fun _ => ?_) (fun q => absurd q (by omega))
        exact J
theorem m_rd (hg : 0 ≤ B.g ∧ B.g ≤ 8) (hnd : 0 ≤ nd ∧ nd ≤ 5) (hnp : 0 ≤ np ∧ np ≤ 8) : ∀ m : Nat, RdA τ B nd np d m ∧ RdB τ B nd np d m := by
  intro m
  induction m with
  | zero =>
    refine ⟨?_, ?_⟩
    · intro h KU k st p l X3 X4 X5 hm _ hT
      have := hT.1; omega
    · intro h KU k st p l X5 hm _ hT
      have := hT.1; omega
  | succ m ih => exact ⟨m_rdA hg hnd hnp ih.1 ih.2, m_rdB hg hnd hnp ih.1 ih.2⟩
theorem m_reads (hC : MCx τ B nd np h) (hg : 0 ≤ B.g ∧ B.g ≤ 8) (hnd : 0 ≤ nd ∧ nd ≤ 5) (hnp : 0 ≤ np ∧ np ≤ 8) (hT : TM h τ 0) (h58 : gI h 118 58 = iI 0) (h59 : gI h 118 59 = iI 0) (h13 : gI h 118 13 = iI 0) (kf : RdF τ B nd np h x0 KU) (kt : RdT τ B nd np h x0 KU) : XW (d + 7) 250 0 [.ref 118, .null, .null, .null, .null, .null] [] h (KV KU) := by
  have hL := hC.1
  have o := hC.2.2.1.1.1
  have M : MRs np h 0 pl0 [] := ⟨h58, h59, fun _ k a b => by have : k < 0 := b; omega, trivial, h13⟩
  have J := (m_rd (τ := τ) (d := d) hg hnd hnp 501).1 h KU 0 0 pl0 [] .null .null .null (by omega) hC hT M (s0_ok nd 0) kf kt
  change XW (d + 7) 250 4 [.ref 118, .int (iI 0), .int (iI 1), .null, .null, .null] [] h (KV KU) at J
  refine w_iconst (v := iI (0)) r_250_0 rfl ?_
  refine w_istore1 r_250_1 rfl ?_
  refine w_iconst (v := iI (1)) r_250_2 rfl ?_
  refine w_istore2 r_250_3 rfl ?_
  exact J
end MP5
