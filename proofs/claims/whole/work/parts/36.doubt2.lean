/-! a doubt is added -/
/-- what is listed of a doubt's choices -/
def ChOK (h : XH) (x : Int) : Prop := zA h 89 x = (chs (fun g => zA h 87 (x * 8 + g)) 8).length ∧ zA h 90 x = sumTo (fun g => zA h 87 (x * 8 + g)) 8 ∧
  ∀ i : Nat, i < (chs (fun g => zA h 87 (x * 8 + g)) 8).length → zA h 88 (x * 3 + i) = (chs (fun g => zA h 87 (x * 8 + g)) 8).getD i 0
theorem chs_one {g : Int} (hg : 0 ≤ g ∧ g < 8) : chs (fun i => if i = g then 1 else 0) 8 = [g] := by
  have : g = 0 ∨ g = 1 ∨ g = 2 ∨ g = 3 ∨ g = 4 ∨ g = 5 ∨ g = 6 ∨ g = 7 := by omega
  rcases this with rfl | rfl | rfl | rfl | rfl | rfl | rfl | rfl <;> decide
section DT
variable {d : Nat} {h : XH} {K : Int32 → XH → Prop} {KU : XH → Prop} {rb : Nat}
theorem c_addDoubt_A {c D : Int} {X Y Z : Value} (hL : Lay h) (hD : 0 ≤ D ∧ D < 5) (hc : 0 ≤ c ∧ c < 100)
    (hk : ∀ h', Fr (pA [87]) h h' → (∀ i, 0 ≤ i → zA h' 87 i = if D * 8 ≤ i ∧ i < D * 8 + 8 then (if i - D * 8 = zA h 82 c then 1 else 0) else zA h 87 i) → XW (d + 2) 49 69 [.ref 80, .int (iI c), .int (iI D), .int (iI 8), X, Y] [] h' (KI K)) :
    XW (d + 2) 49 31 [.ref 80, .int (iI c), .int (iI D), .int (iI 0), X, Y] [] h (KI K) := by
  have key : ∀ g : Nat, g ≤ 8 → ∀ h1, Fr (pA [87]) h h1 → (∀ i, 0 ≤ i → zA h1 87 i = if D * 8 ≤ i ∧ i < D * 8 + g then (if i - D * 8 = zA h 82 c then 1 else 0) else zA h 87 i) → XW (d + 2) 49 31 [.ref 80, .int (iI c), .int (iI D), .int (iI g), X, Y] [] h1 (KI K) := by
    refine upto _ ?_ ?_
    · intro h1 hf hw
      refine w_iload3 r_49_31 ?_
      refine w_bipush (v := iI (8)) r_49_32 rfl ?_
      refine v_ic_ge r_49_34 (by first | exact zF_in _ _ _ | exact zA_in _ _ _ | omega) (by first | exact zF_in _ _ _ | exact zA_in _ _ _ | omega) (fun _ => ?_) (fun q => absurd q (by omega))
      exact hk h1 hf hw
    · intro g hg ih h1 hf hw
      have hL := hf.lay hL
      have e : gI h1 82 c.toNat = iI (zA h 82 c) := by rw [gI_A, hf.A rfl]
      refine w_iload3 r_49_31 ?_
      refine w_bipush (v := iI (8)) r_49_32 rfl ?_
      refine v_ic_ge r_49_34 (by first | exact zF_in _ _ _ | exact zA_in _ _ _ | omega) (by first | exact zF_in _ _ _ | exact zA_in _ _ _ | omega) (fun q => absurd q (by omega)) (fun _ => ?_)
      refine w_aload0 r_49_37 ?_
      refine w_getA (x := 87) r_49_38 (Lk_80 hL) (Lr_80_11 hL) (by decide) ?_
      refine w_iload2 r_49_41 ?_
      refine w_bipush (v := iI (8)) r_49_42 rfl ?_
      refine v_imul r_49_44 ?_
      refine w_iload3 r_49_45 ?_
      refine v_iadd r_49_46 ?_
      refine w_iload3 r_49_47 ?_
      refine w_aload0 r_49_48 ?_
      refine w_getA (x := 82) r_49_49 (Lk_80 hL) (Lr_80_6 hL) (by decide) ?_
      refine w_iload1 r_49_52 ?_
      refine v_iald r_49_53 (Lk_82 hL) (Lz_82 hL) (by decide) (by omega) e ?_
      refine v_ic_ne r_49_54 (by first | exact zF_in _ _ _ | exact zA_in _ _ _ | omega) (by first | exact zF_in _ _ _ | exact zA_in _ _ _ | omega) (fun c54 => ?_) (fun c54 => ?_)
      · refine w_iconst (v := iI (0)) r_49_61 rfl ?_
        refine v_iast r_49_62 (Lk_87 hL) (Ln_87 hL) (Lz_87 hL) (by decide) (by omega) ?_
        refine w_iinc3 r_49_63 rfl (iI_add _ _) ?_
        refine w_goto r_49_66 ?_
        refine ih _ (hf.sI 87 _ _ rfl) (fun i hi => ?_)
        rw [zA_s (by omega) (by omega) (by omega), hw i hi]
        by_cases q : i = D * 8 + g
        · rw [if_pos q, if_pos (show D * 8 ≤ i ∧ i < D * 8 + ((g + 1 : Nat) : Int) by omega)]; first | rw [if_pos (by omega)] | rw [if_neg (by omega)]
        · rw [if_neg q]; by_cases q2 : D * 8 ≤ i ∧ i < D * 8 + g
          · rw [if_pos q2, if_pos (show D * 8 ≤ i ∧ i < D * 8 + ((g + 1 : Nat) : Int) by omega)]
          · rw [if_neg q2, if_neg (show ¬ (D * 8 ≤ i ∧ i < D * 8 + ((g + 1 : Nat) : Int)) by omega)]
      · refine w_iconst (v := iI (1)) r_49_57 rfl ?_
        refine w_goto r_49_58 ?_
        refine v_iast r_49_62 (Lk_87 hL) (Ln_87 hL) (Lz_87 hL) (by decide) (by omega) ?_
        refine w_iinc3 r_49_63 rfl (iI_add _ _) ?_
        refine w_goto r_49_66 ?_
        refine ih _ (hf.sI 87 _ _ rfl) (fun i hi => ?_)
        rw [zA_s (by omega) (by omega) (by omega), hw i hi]
        by_cases q : i = D * 8 + g
        · rw [if_pos q, if_pos (show D * 8 ≤ i ∧ i < D * 8 + ((g + 1 : Nat) : Int) by omega)]; first | rw [if_pos (by omega)] | rw [if_neg (by omega)]
        · rw [if_neg q]; by_cases q2 : D * 8 ≤ i ∧ i < D * 8 + g
          · rw [if_pos q2, if_pos (show D * 8 ≤ i ∧ i < D * 8 + ((g + 1 : Nat) : Int) by omega)]
          · rw [if_neg q2, if_neg (show ¬ (D * 8 ≤ i ∧ i < D * 8 + ((g + 1 : Nat) : Int)) by omega)]
  exact key 0 (by omega) h (Fr.refl _ _) (fun i hi => by rw [if_neg (by omega)])
theorem c_addDoubt_B {c D wd hg : Int} {Y : Value} {S : Int → Int} (hL : Lay h) (hD : 0 ≤ D ∧ D < 5) (hw : 1 ≤ wd ∧ wd ≤ 10) (hh : 1 ≤ hg ∧ hg ≤ 10) (hc : 0 ≤ c ∧ c < wd * hg) (hb : ∀ way, 0 ≤ way → way < 4 → zA h 85 (c * 4 + way) = bs wd hg c way)
    (hS : ∀ i, 0 ≤ i → i < 100 → 0 ≤ S i ∧ S i < 1024) (h0 : ∀ i, 0 ≤ i → i < 100 → zA h 84 i = if nrK wd hg c i 0 then orD (S i) D else S i)
    (hk : ∀ h' Y, Fr (pA [84]) h h' → (∀ i, 0 ≤ i → i < 100 → zA h' 84 i = if nr wd hg c i then orD (S i) D else S i) → XW (d + 2) 49 129 [.ref 80, .int (iI c), .int (iI D), .int (iI (3 * 4 ^ D.toNat)), .int (iI 4), Y] [] h' (KI K)) :
    XW (d + 2) 49 88 [.ref 80, .int (iI c), .int (iI D), .int (iI (3 * 4 ^ D.toNat)), .int (iI 0), Y] [] h (KI K) := by
  have hp := prod_in (a := wd) (b := hg) (by omega) (by omega)
  have key : ∀ k : Nat, k ≤ 4 → ∀ h1 Y, Fr (pA [84]) h h1 → (∀ i, 0 ≤ i → i < 100 → zA h1 84 i = if nrK wd hg c i k then orD (S i) D else S i) → XW (d + 2) 49 88 [.ref 80, .int (iI c), .int (iI D), .int (iI (3 * 4 ^ D.toNat)), .int (iI k), Y] [] h1 (KI K) := by
    refine upto _ ?_ ?_
    · intro h1 Y hf hs
      refine w_iload4 r_49_88 ?_
      refine w_iconst (v := iI (4)) r_49_90 rfl ?_
      refine v_ic_ge r_49_91 (by first | exact zF_in _ _ _ | exact zA_in _ _ _ | omega) (by first | exact zF_in _ _ _ | exact zA_in _ _ _ | omega) (fun _ => ?_) (fun q => absurd q (by omega))
      exact hk h1 Y hf hs
    · intro k hkk ih h1 Y hf hs
      have hL := hf.lay hL
      have hbs := bs_in (way := k) hw hh hc
      have e : gI h1 85 (c * 4 + (k : Int)).toNat = iI (bs wd hg c k) := by rw [gI_A, hf.A rfl, hb k (by omega) (by omega)]
      have hr : ∀ i, 0 ≤ i → i < 100 → 0 ≤ zA h1 84 i ∧ zA h1 84 i < 1024 := by
        intro i a b
        rw [hs i a b]
        split
        · exact orD_in (hS i a b) hD
        · exact hS i a b
      refine w_iload4 r_49_88 ?_
      refine w_iconst (v := iI (4)) r_49_90 rfl ?_
      refine v_ic_ge r_49_91 (by first | exact zF_in _ _ _ | exact zA_in _ _ _ | omega) (by first | exact zF_in _ _ _ | exact zA_in _ _ _ | omega) (fun q => absurd q (by omega)) (fun _ => ?_)
      refine w_aload0 r_49_94 ?_
      refine w_getA (x := 85) r_49_95 (Lk_80 hL) (Lr_80_9 hL) (by decide) ?_
      refine w_iload1 r_49_98 ?_
      refine w_iconst (v := iI (4)) r_49_99 rfl ?_
      refine v_imul r_49_100 ?_
      refine w_iload4 r_49_101 ?_
      refine v_iadd r_49_103 ?_
      refine v_iald r_49_104 (Lk_85 hL) (Lz_85 hL) (by decide) (by omega) e ?_
      refine w_istore5 r_49_105 rfl ?_
      refine w_iload5 r_49_107 ?_
      refine v_if_lt r_49_109 (by first | exact zF_in _ _ _ | exact zA_in _ _ _ | omega) (fun c109 => ?_) (fun c109 => ?_)
      · refine w_iinc4 r_49_123 rfl (iI_add _ _) ?_
        refine w_goto r_49_126 ?_
        first | (refine ih h1 _ hf (fun i a b => ?_); rw [hs i a b]; have : nrK wd hg c i (k + 1) = nrK wd hg c i k := (by show (nrK wd hg c i k || bs wd hg c k == i) = _; rw [show (bs wd hg c k == i) = false by simp; omega, Bool.or_false]); rw [this]) | (refine ih _ _ (hf.sI 84 _ _ rfl) (fun i a b => ?_); have hh2 := orD_in (hr (bs wd hg c k) (by omega) (by omega)) hD; rw [zA_s (by omega) (by omega) (by omega), hs i a b]; show _ = if (nrK wd hg c i k || bs wd hg c k == i) = true then _ else _; by_cases q : i = bs wd hg c k; (rw [if_pos q, show (bs wd hg c k == i) = true by simp; omega, Bool.or_true, if_pos rfl, ← q, hs i a b]; split; exact orD_2 (hS i a b) hD; rfl); (rw [if_neg q, show (bs wd hg c k == i) = false by simp; omega, Bool.or_false]))
      · refine w_aload0 r_49_112 ?_
        refine w_getA (x := 84) r_49_113 (Lk_80 hL) (Lr_80_8 hL) (by decide) ?_
        refine w_iload5 r_49_116 ?_
        refine w_dup2IA r_49_118 ?_
        refine v_iald r_49_119 (Lk_84 hL) (Lz_84 hL) (by decide) (by omega) (gI_A h1 84 _) ?_
        refine w_iload3 r_49_120 ?_
        refine v_iorD (hx := hr _ (by omega) (by omega)) (hd := hD) r_49_121 ?_
        refine v_iast r_49_122 (Lk_84 hL) (Ln_84 hL) (Lz_84 hL) (by decide) (by omega) ?_
        refine w_iinc4 r_49_123 rfl (iI_add _ _) ?_
        refine w_goto r_49_126 ?_
        first | (refine ih h1 _ hf (fun i a b => ?_); rw [hs i a b]; have : nrK wd hg c i (k + 1) = nrK wd hg c i k := (by show (nrK wd hg c i k || bs wd hg c k == i) = _; rw [show (bs wd hg c k == i) = false by simp; omega, Bool.or_false]); rw [this]) | (refine ih _ _ (hf.sI 84 _ _ rfl) (fun i a b => ?_); have hh2 := orD_in (hr (bs wd hg c k) (by omega) (by omega)) hD; rw [zA_s (by omega) (by omega) (by omega), hs i a b]; show _ = if (nrK wd hg c i k || bs wd hg c k == i) = true then _ else _; by_cases q : i = bs wd hg c k; (rw [if_pos q, show (bs wd hg c k == i) = true by simp; omega, Bool.or_true, if_pos rfl, ← q, hs i a b]; split; exact orD_2 (hS i a b) hD; rfl); (rw [if_neg q, show (bs wd hg c k == i) = false by simp; omega, Bool.or_false]))
  exact key 0 (by omega) h Y (Fr.refl _ _) h0
end DT
