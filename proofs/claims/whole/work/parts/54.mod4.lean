/-! the Model: over a doubt; solve -/
section OV
variable {P : XP} {V : Int → Int → Int} {s c e : Int}
theorem ovK_far {bm : Bool} {w f : Int → Int} {n : Nat} {k : Int} (h0 : 0 ≤ k) (h1 : k < n) (hk : 1000000000000000 ≤ f k) : ovK bm w f n = 1000000000000000 := by
  induction n with
  | zero => omega
  | succ n ih =>
    unfold ovK
    by_cases q : k = n
    · subst q; rw [if_pos (Or.inr hk)]
    · rw [if_pos (Or.inl (by rw [ih (by omega)]; omega))]
/-- what the loops over a doubt's choices come to -/
def OvR (P : XP) (f : Int → Int) (e r : Int) : Prop := ((∃ k, 0 ≤ k ∧ k < P.mn e ∧ 1000000000000000 ≤ f k) ∧ r = 1000000000000000) ∨ ((∀ k, 0 ≤ k → k < P.mn e → f k < 1000000000000000) ∧ r = if P.bm = true then sumTo (fun k => P.we e k * f k) (P.mn e).toNat else maxTo f (P.mn e).toNat)
theorem OvR.ov {r : Int} (hP : P.ok) (hV : Sol P V) (hs : St P s) (he : 0 ≤ e ∧ e < P.nd) (h0 : dg s e = 0) (a : 0 ≤ c) (b : c < P.n) (h : OvR P (fun k => V (tel s e k) c) e r) : r = P.ov V s c e := by
  have mn := hP.2.1 e he.1 he.2
  unfold XP.ov
  rcases h with ⟨⟨k, k0, k1, k2⟩, h⟩ | ⟨hf, h⟩
  · rw [h, ovK_far k0 (by omega) k2]
  · have ov := Sol.over hP hV hs he h0 a b hf
    by_cases hb : P.bm = true
    · rw [if_pos hb] at h
      rcases ov.1 (P.mn e).toNat (by omega) with q | q
      · rw [h, hb, q.1]
      · rw [q] at hb; exact absurd hb (by decide)
    · rw [if_neg hb] at h
      rw [h, show P.bm = false by simpa using hb, (ov.2 (P.mn e).toNat (by omega)).1]
end OV
def b2i (b : Bool) : Int := if b = true then 1 else 0
theorem b2i_in (b : Bool) : 0 ≤ b2i b ∧ b2i b ≤ 1 := by cases b <;> decide
section MO4
variable {d : Nat} {h : XH} {K : Int32 → XH → Prop} {KL64 : Int64 → XH → Prop} {KU : XH → Prop} {M : XM} {G : Int} {B : XB} {dd go : Int} {bm : Bool}
theorem m_over {s c e : Int} {f : Int → Int} (hL : Lay h) (hP : MMp h M) (hm : M.ok B.g) (hK : MLs h M) (hs : 0 ≤ s ∧ s < 1024) (hc : 0 ≤ c ∧ c < M.n) (he : 0 ≤ e ∧ e < M.nd) (h0 : dg s e = 0) (hf : ∀ k, 0 ≤ k → k < mny M e → vr h (tel s e k) c = f k ∧ 0 ≤ f k ∧ f k ≤ 1000000000000000) (kk : ∀ r, 0 ≤ r ∧ r ≤ 9000000000000000000 → OvR (xp B dd M go bm) f e r → KL64 (iL r) h) :
    XW (d + 2) 225 0 [.ref 118, .int (iI s), .int (iI c), .int (iI e), .int (iI (b2i bm)), .null, .null, .null, .null, .null] [] h (KL KL64) := by
  have o := hm.1
  have hn := M.n_in hm
  have om := mny_in hm he
  have ev : ∀ k, 0 ≤ k → k < mny M e → gL h 140 (100 * (s + (k + 1) * 4 ^ e.toNat) + c).toNat = iL (f k) := fun k a b => by
    have := (hf k a b).1
    unfold vr tel at this
    rw [gL_A, this]
  have bi := b2i_in bm
  have key : ∀ k : Nat, k ≤ (mny M e).toNat → ∀ X Y : Value, (∀ i : Int, 0 ≤ i → i < k → f i < 1000000000000000) → XW (d + 2) 225 6 [.ref 118, .int (iI s), .int (iI c), .int (iI e), .int (iI (b2i bm)), .long (iL (if bm = true then sumTo (fun k => M.wt e (chc M e k) * f k) k else maxTo f k)), .null, .int (iI k), X, Y] [] h (KL KL64) := by
    have sb : ∀ k : Nat, k ≤ (mny M e).toNat → 0 ≤ (if bm = true then sumTo (fun k => M.wt e (chc M e k) * f k) k else maxTo f k) ∧ (if bm = true then sumTo (fun k => M.wt e (chc M e k) * f k) k else maxTo f k) ≤ 27000000000000000 := by
      intro k hk
      split
      · have := sumTo_in (f := fun k => M.wt e (chc M e k) * f k) (b := 9000000000000000) (n := k) (fun i a b => by
          have ci := chc_in hm he (i := i) (by omega)
          have fi := hf i a (by omega)
          have := mul_in (a := M.wt e (chc M e i)) (b := f i) (A := 9) (B := 1000000000000000) (by omega) (by omega)
          exact this)
        omega
      · have := maxTo_in (f := f) (b := 1000000000000000) (n := k) (by decide) (fun i a b => (hf i a (by omega)).2.2)
        omega
    refine upto _ ?_ ?_
    · intro X Y hfi
      have s1 := sb (mny M e).toNat (by omega)
      refine w_iload7 r_225_6 ?_
      refine w_aload0 r_225_8 ?_
      refine w_getA (x := 142) r_225_9 (Lk_118 hL) (Lr_118_53 hL) (by decide) ?_
      refine w_iload3 r_225_12 ?_
      refine v_iald r_225_13 (Lk_142 hL) (Lz_142 hL) (by decide) (by omega) (e143 hK he) ?_
      refine v_ic_ge r_225_14 (by first | exact zF_in _ _ _ | exact zA_in _ _ _ | omega) (by first | exact zF_in _ _ _ | exact zA_in _ _ _ | omega) (fun _ => ?_) (fun q => absurd q (by omega))
      refine w_lload5 r_225_98 ?_
      refine w_lret r_225_100 ?_
      exact kk _ (by omega) (Or.inr ⟨fun k a b => hfi k a (by have : (xp B dd M go bm).mn e = mny M e := rfl; omega), rfl⟩)
    · intro k hk ih X Y hfi
      have ti := tel_in (s := s) (e := e) (k := k) hs (by omega) h0 (by omega)
      unfold tel at ti
      have s1 := sb k (by omega)
      have s2 := sb (k + 1) (by omega)
      have fk := hf k (by omega) (by omega)
      have ci := chc_in hm he (i := k) (by omega)
      by_cases q : f k < 1000000000000000
      · have ih := ih (.long (iL (f k))) .null (fun i a b => if z : i = (k : Int) then (by rw [z]; exact q) else hfi i a (by omega))
        by_cases hb : bm = true
        · subst hb
          rw [if_pos rfl] at ih s1 ⊢
          have mm := mul_in (a := M.wt e (chc M e k)) (b := f k) (A := 9) (B := 1000000000000000) (by omega) (by omega)
          refine w_iload7 r_225_6 ?_
          refine w_aload0 r_225_8 ?_
          refine w_getA (x := 142) r_225_9 (Lk_118 hL) (Lr_118_53 hL) (by decide) ?_
          refine w_iload3 r_225_12 ?_
          refine v_iald r_225_13 (Lk_142 hL) (Lz_142 hL) (by decide) (by omega) (e143 hK he) ?_
          refine v_ic_ge r_225_14 (by first | exact zF_in _ _ _ | exact zA_in _ _ _ | omega) (by first | exact zF_in _ _ _ | exact zA_in _ _ _ | omega) (fun q => absurd q (by omega)) (fun _ => ?_)
          refine w_aload0 r_225_17 ?_
          refine w_getA (x := 140) r_225_18 (Lk_118 hL) (Lr_118_48 hL) (by decide) ?_
          refine w_bipush (v := iI (100)) r_225_21 rfl ?_
          refine w_iload1 r_225_23 ?_
          refine w_iload7 r_225_24 ?_
          refine w_iconst (v := iI (1)) r_225_26 rfl ?_
          refine v_iadd r_225_27 ?_
          refine w_iload3 r_225_28 ?_
          refine k_212 r_225_29 (Nat.le_of_ble_eq_true rfl) ?_
          refine m_power (by omega) ?_
          refine v_imul r_225_32 ?_
          refine v_iadd r_225_33 ?_
          refine v_imul r_225_34 ?_
          refine w_iload2 r_225_35 ?_
          refine v_iadd r_225_36 ?_
          refine v_lald r_225_37 (Lk_140 hL) (Lz_140 hL) (by decide) (by omega) (ev k (by omega) (by omega)) ?_
          refine w_lstore8 r_225_38 rfl ?_
          refine w_lload8 r_225_40 ?_
          refine w_ldc2 (v := iL (1000000000000000)) r_225_42 rfl ?_
          refine v_lcmp r_225_45 (by first | exact zF_in _ _ _ | exact zA_in _ _ _ | omega) (by first | exact zF_in _ _ _ | exact zA_in _ _ _ | omega) ?_
          rw [if_neg (by omega), if_neg (by omega)] 
          refine v_if_lt r_225_46 (by first | exact zF_in _ _ _ | exact zA_in _ _ _ | omega) (fun _ => ?_) (fun q => absurd q (by decide))
          refine w_iload4 r_225_53 ?_
          refine v_if_eq r_225_55 (by first | exact zF_in _ _ _ | exact zA_in _ _ _ | omega) (fun q => absurd q (by decide)) (fun _ => ?_)
          refine w_lload5 r_225_58 ?_
          refine w_aload0 r_225_60 ?_
          refine w_iload3 r_225_61 ?_
          refine w_iload7 r_225_62 ?_
          refine k_216 r_225_64 (Lk_118 hL) (Nat.le_of_ble_eq_true rfl) ?_
          refine m_weightOf hL hP hm hK he (by omega) ?_
          refine v_i2l r_225_67 (by first | exact zF_in _ _ _ | exact zA_in _ _ _ | omega) ?_
          refine w_lload8 r_225_68 ?_
          refine v_lmul r_225_70 ?_
          refine v_ladd r_225_71 ?_
          refine w_goto r_225_72 ?_
          refine w_lstore5 r_225_90 rfl ?_
          refine w_iinc7 r_225_92 rfl (iI_add _ _) ?_
          refine w_goto r_225_95 ?_
          exact ih
        · have hb' : bm = false := by simpa using hb
          subst hb'
          rw [if_neg (by decide)] at ih s1 ⊢
          have em : maxTo f (k + 1) = max (maxTo f k) (f k) := rfl
          rw [em] at ih
          by_cases q2 : maxTo f k < f k
          · rw [show max (maxTo f k) (f k) = f k by omega] at ih
            refine w_iload7 r_225_6 ?_
            refine w_aload0 r_225_8 ?_
            refine w_getA (x := 142) r_225_9 (Lk_118 hL) (Lr_118_53 hL) (by decide) ?_
            refine w_iload3 r_225_12 ?_
            refine v_iald r_225_13 (Lk_142 hL) (Lz_142 hL) (by decide) (by omega) (e143 hK he) ?_
            refine v_ic_ge r_225_14 (by first | exact zF_in _ _ _ | exact zA_in _ _ _ | omega) (by first | exact zF_in _ _ _ | exact zA_in _ _ _ | omega) (fun q => absurd q (by omega)) (fun _ => ?_)
            refine w_aload0 r_225_17 ?_
            refine w_getA (x := 140) r_225_18 (Lk_118 hL) (Lr_118_48 hL) (by decide) ?_
            refine w_bipush (v := iI (100)) r_225_21 rfl ?_
            refine w_iload1 r_225_23 ?_
            refine w_iload7 r_225_24 ?_
            refine w_iconst (v := iI (1)) r_225_26 rfl ?_
            refine v_iadd r_225_27 ?_
            refine w_iload3 r_225_28 ?_
            refine k_212 r_225_29 (Nat.le_of_ble_eq_true rfl) ?_
            refine m_power (by omega) ?_
            refine v_imul r_225_32 ?_
            refine v_iadd r_225_33 ?_
            refine v_imul r_225_34 ?_
            refine w_iload2 r_225_35 ?_
            refine v_iadd r_225_36 ?_
            refine v_lald r_225_37 (Lk_140 hL) (Lz_140 hL) (by decide) (by omega) (ev k (by omega) (by omega)) ?_
            refine w_lstore8 r_225_38 rfl ?_
            refine w_lload8 r_225_40 ?_
            refine w_ldc2 (v := iL (1000000000000000)) r_225_42 rfl ?_
            refine v_lcmp r_225_45 (by first | exact zF_in _ _ _ | exact zA_in _ _ _ | omega) (by first | exact zF_in _ _ _ | exact zA_in _ _ _ | omega) ?_
            rw [if_neg (by omega), if_neg (by omega)] 
            refine v_if_lt r_225_46 (by first | exact zF_in _ _ _ | exact zA_in _ _ _ | omega) (fun _ => ?_) (fun q => absurd q (by decide))
            refine w_iload4 r_225_53 ?_
            refine v_if_eq r_225_55 (by first | exact zF_in _ _ _ | exact zA_in _ _ _ | omega) (fun _ => ?_) (fun q => absurd q (by decide))
            refine w_lload8 r_225_75 ?_
            refine w_lload5 r_225_77 ?_
            refine v_lcmp r_225_79 (by first | exact zF_in _ _ _ | exact zA_in _ _ _ | omega) (by first | exact zF_in _ _ _ | exact zA_in _ _ _ | omega) ?_
            rw [if_pos (by omega)] 
            refine v_if_le r_225_80 (by first | exact zF_in _ _ _ | exact zA_in _ _ _ | omega) (fun q => absurd q (by decide)) (fun _ => ?_)
            refine w_lload8 r_225_83 ?_
            refine w_goto r_225_85 ?_
            refine w_lstore5 r_225_90 rfl ?_
            refine w_iinc7 r_225_92 rfl (iI_add _ _) ?_
            refine w_goto r_225_95 ?_
            exact ih
          · rw [show max (maxTo f k) (f k) = maxTo f k by omega] at ih
            refine w_iload7 r_225_6 ?_
            refine w_aload0 r_225_8 ?_
            refine w_getA (x := 142) r_225_9 (Lk_118 hL) (Lr_118_53 hL) (by decide) ?_
            refine w_iload3 r_225_12 ?_
            refine v_iald r_225_13 (Lk_142 hL) (Lz_142 hL) (by decide) (by omega) (e143 hK he) ?_
            refine v_ic_ge r_225_14 (by first | exact zF_in _ _ _ | exact zA_in _ _ _ | omega) (by first | exact zF_in _ _ _ | exact zA_in _ _ _ | omega) (fun q => absurd q (by omega)) (fun _ => ?_)
            refine w_aload0 r_225_17 ?_
            refine w_getA (x := 140) r_225_18 (Lk_118 hL) (Lr_118_48 hL) (by decide) ?_
            refine w_bipush (v := iI (100)) r_225_21 rfl ?_
            refine w_iload1 r_225_23 ?_
            refine w_iload7 r_225_24 ?_
            refine w_iconst (v := iI (1)) r_225_26 rfl ?_
            refine v_iadd r_225_27 ?_
            refine w_iload3 r_225_28 ?_
            refine k_212 r_225_29 (Nat.le_of_ble_eq_true rfl) ?_
            refine m_power (by omega) ?_
            refine v_imul r_225_32 ?_
            refine v_iadd r_225_33 ?_
            refine v_imul r_225_34 ?_
            refine w_iload2 r_225_35 ?_
            refine v_iadd r_225_36 ?_
            refine v_lald r_225_37 (Lk_140 hL) (Lz_140 hL) (by decide) (by omega) (ev k (by omega) (by omega)) ?_
            refine w_lstore8 r_225_38 rfl ?_
            refine w_lload8 r_225_40 ?_
            refine w_ldc2 (v := iL (1000000000000000)) r_225_42 rfl ?_
            refine v_lcmp r_225_45 (by first | exact zF_in _ _ _ | exact zA_in _ _ _ | omega) (by first | exact zF_in _ _ _ | exact zA_in _ _ _ | omega) ?_
            rw [if_neg (by omega), if_neg (by omega)] 
            refine v_if_lt r_225_46 (by first | exact zF_in _ _ _ | exact zA_in _ _ _ | omega) (fun _ => ?_) (fun q => absurd q (by decide))
            refine w_iload4 r_225_53 ?_
            refine v_if_eq r_225_55 (by first | exact zF_in _ _ _ | exact zA_in _ _ _ | omega) (fun _ => ?_) (fun q => absurd q (by decide))
            refine w_lload8 r_225_75 ?_
            refine w_lload5 r_225_77 ?_
            refine v_lcmp r_225_79 (by first | exact zF_in _ _ _ | exact zA_in _ _ _ | omega) (by first | exact zF_in _ _ _ | exact zA_in _ _ _ | omega) ?_
            rw [if_neg (by omega)] 
            refine v_if_le r_225_80 (by split <;> omega) (fun _ => ?_) (fun q => absurd q (by split <;> omega))
            refine w_lload5 r_225_88 ?_
            refine w_lstore5 r_225_90 rfl ?_
            refine w_iinc7 r_225_92 rfl (iI_add _ _) ?_
            refine w_goto r_225_95 ?_
            exact ih
      · generalize (if bm = true then sumTo (fun k => M.wt e (chc M e k) * f k) k else maxTo f k) = acc at *
        refine w_iload7 r_225_6 ?_
        refine w_aload0 r_225_8 ?_
        refine w_getA (x := 142) r_225_9 (Lk_118 hL) (Lr_118_53 hL) (by decide) ?_
        refine w_iload3 r_225_12 ?_
        refine v_iald r_225_13 (Lk_142 hL) (Lz_142 hL) (by decide) (by omega) (e143 hK he) ?_
        refine v_ic_ge r_225_14 (by first | exact zF_in _ _ _ | exact zA_in _ _ _ | omega) (by first | exact zF_in _ _ _ | exact zA_in _ _ _ | omega) (fun q => absurd q (by omega)) (fun _ => ?_)
        refine w_aload0 r_225_17 ?_
        refine w_getA (x := 140) r_225_18 (Lk_118 hL) (Lr_118_48 hL) (by decide) ?_
        refine w_bipush (v := iI (100)) r_225_21 rfl ?_
        refine w_iload1 r_225_23 ?_
        refine w_iload7 r_225_24 ?_
        refine w_iconst (v := iI (1)) r_225_26 rfl ?_
        refine v_iadd r_225_27 ?_
        refine w_iload3 r_225_28 ?_
        refine k_212 r_225_29 (Nat.le_of_ble_eq_true rfl) ?_
        refine m_power (by omega) ?_
        refine v_imul r_225_32 ?_
        refine v_iadd r_225_33 ?_
        refine v_imul r_225_34 ?_
        refine w_iload2 r_225_35 ?_
        refine v_iadd r_225_36 ?_
        refine v_lald r_225_37 (Lk_140 hL) (Lz_140 hL) (by decide) (by omega) (ev k (by omega) (by omega)) ?_
        refine w_lstore8 r_225_38 rfl ?_
        refine w_lload8 r_225_40 ?_
        refine w_ldc2 (v := iL (1000000000000000)) r_225_42 rfl ?_
        refine v_lcmp r_225_45 (by first | exact zF_in _ _ _ | exact zA_in _ _ _ | omega) (by first | exact zF_in _ _ _ | exact zA_in _ _ _ | omega) ?_
        rw [if_neg (by omega), if_pos (by omega)] 
        refine v_if_lt r_225_46 (by first | exact zF_in _ _ _ | exact zA_in _ _ _ | omega) (fun q => absurd q (by decide)) (fun _ => ?_)
        refine w_ldc2 (v := iL (1000000000000000)) r_225_49 rfl ?_
        refine w_lret r_225_52 ?_
        exact kk _ (by omega) (Or.inl ⟨⟨k, by omega, by have : (xp B dd M go bm).mn e = mny M e := rfl; omega, by omega⟩, rfl⟩)
  have k0 := key 0 (by omega) .null .null (fun i a b => by omega)
  rw [show (if bm = true then sumTo (fun k => M.wt e (chc M e k) * f k) 0 else maxTo f 0) = 0 by split <;> rfl] at k0
  refine w_lconst (v := iL 0) r_225_0 rfl ?_
  refine w_lstore5 r_225_1 rfl ?_
  refine w_iconst (v := iI (0)) r_225_3 rfl ?_
  refine w_istore7 r_225_4 rfl ?_
  exact k0
end MO4
