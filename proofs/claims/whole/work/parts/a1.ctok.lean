/-! the class's tokens -/
def sgn (b : Int) : Int := if b < 128 then b else b - 256
/-- the class holds the text -/
def TX (h : XH) (τ : XT) : Prop := τ.ok ∧ zF h 3 1 = τ.2 ∧ ∀ i, 0 ≤ i → i < τ.2 → zA h 2 i = sgn (τ.1 i)
/-- the class stands at the token from k on -/
def TC (h : XH) (τ : XT) (k : Int) : Prop := (0 ≤ k ∧ k ≤ τ.2) ∧ zF h 3 2 = τ.a k ∧ zF h 3 3 = τ.e k ∧ zF h 3 4 = τ.k k ∧ (τ.k k = 2 → zF h 3 5 = τ.v k) ∧ (τ.k k = 1 → gL h 3 6 = iL (τ.w k))
abbrev PTk : Nat → Nat → Bool := pF [(3, 2), (3, 3), (3, 4), (3, 5), (3, 6)]
section CT
variable {d : Nat} {h : XH} {K : Int32 → XH → Prop} {KU : XH → Prop} {τ : XT} {k : Int} {w : List Int}
theorem TX.fr {P : Nat → Nat → Bool} {h' : XH} (f : Fr P h h') (p1 : P 3 1 = false) (p2 : ∀ j, P 2 j = false) (hX : TX h τ) : TX h' τ := ⟨hX.1, by rw [f.F p1]; exact hX.2.1, fun i a b => by rw [f.A (p2 _)]; exact hX.2.2 i a b⟩
theorem TC.fr {P : Nat → Nat → Bool} {h' : XH} (f : Fr P h h') (p : ∀ j, P 3 (j + 2) = false ∨ 4 < j) (hT : TC h τ k) : TC h' τ k := by
  have q := fun j (hj : j ≤ 4) => (p j).resolve_right (by omega)
  refine ⟨hT.1, by rw [f.F (q 0 (by decide))]; exact hT.2.1, by rw [f.F (q 1 (by decide))]; exact hT.2.2.1, by rw [f.F (q 2 (by decide))]; exact hT.2.2.2.1, fun z => by rw [f.F (q 3 (by decide))]; exact hT.2.2.2.2.1 z, fun z => by rw [(f.2 3 6 (q 4 (by decide))).2]; exact hT.2.2.2.2.2 z⟩
theorem TX.at (hX : TX h τ) {i : Int} (a : 0 ≤ i) (b : i < τ.2) : gI h 2 i.toNat = iI (sgn (τ.c i)) := by
  rw [gI_A, hX.2.2 i a b, ((XT.c_in hX.1 a).1 b).2.2]
theorem sgn_in {b : Int} (h : 0 ≤ b ∧ b ≤ 255) : -128 ≤ sgn b ∧ sgn b ≤ 127 ∧ (sgn b = b ∨ (128 ≤ b ∧ sgn b < 0)) := by unfold sgn; split <;> omega
theorem gL_here {h : XH} {a j : Nat} {v : Int64} : gL (sL h a j v) a j = v := by
  show (if a = a ∧ j = j then v else h.2.1 a j) = v
  rw [if_pos ⟨rfl, rfl⟩]
/-- the letters that were read -/
theorem enc_next (τ : XT) (a : Int) (n : Nat) : enc (fun i => τ.1 (a + i)) (n + 1) = enc (fun i => τ.1 (a + i)) n * 27 + (τ.1 (a + n) - 96) := rfl
theorem dec_next (τ : XT) (a : Int) (n : Nat) : dec (fun i => τ.1 (a + i)) (n + 1) = dec (fun i => τ.1 (a + i)) n * 10 + (τ.1 (a + n) - 48) := rfl
theorem c_readWord {a : Int} (hL : Lay h) (hX : TX h τ) (ha : 0 ≤ a ∧ a < τ.2) (e2 : gI h 3 2 = iI a) (e3 : gI h 3 3 = iI a) (kk : ∀ h', Fr (pF [(3, 3), (3, 4), (3, 6)]) h h' → gI h' 3 3 = iI (τ.ew a) → gI h' 3 4 = iI (if τ.ew a - a ≤ 8 then 1 else 3) → gL h' 3 6 = iL (enc (fun i => τ.1 (a + i)) (τ.ew a - a).toNat) → KU h') : XW d 91 0 [.ref 3] [] h (KV KU) := by
  have o := hX.1.1
  have r := run_at (f := smC) (k := a) hX.1 (by decide) ha.1 (by omega)
  have key : ∀ n : Nat, n ≤ (τ.ew a - a).toNat → ∀ g : XH, Fr (pF [(3, 3), (3, 4), (3, 6)]) h g → gI g 3 3 = iI (a + n) → gL g 3 6 = iL (enc (fun i => τ.1 (a + i)) n) → XW d 91 5 [.ref 3] [] g (KV KU) := by
    have r' : (a ≤ τ.ew a ∧ τ.ew a ≤ τ.2) ∧ smC (τ.c (τ.ew a)) = false ∧ ∀ i, a ≤ i → i < τ.ew a → smC (τ.c i) = true := r
    refine upto _ ?_ ?_
    · intro g fg g3 g6
      have hL := fg.lay hL
      have Xg := hX.fr fg (by simp [pF]) (fun j => by simp [pF])
      have v10 : gI g 3 1 = iI τ.2 := by rw [gI_F, Xg.2.1]
      have v2 : gI g 3 2 = iI a := by rw [(fg.2 3 2 (by simp [pF])).1]; exact e2
      rw [show a + ((τ.ew a - a).toNat : Int) = τ.ew a by omega] at g3
      have fin : ∀ x : Int, x = (if τ.ew a - a ≤ 8 then 1 else 3) → KU (sI g 3 4 (iI x)) := fun x ex => kk _ (fg.sI 3 4 _ (by simp [pF])) (by rw [sI_here, if_neg (by decide)]; exact g3) (by rw [sI_here, if_pos rfl, ex]) g6
      have exit : XW d 91 85 [.ref 3] [] g (KV KU) := by
        by_cases q : τ.ew a - a ≤ 8
        · have F := fin 1 (by rw [if_pos q])
          refine w_aload0 r_91_85 ?_
          refine w_aload0 r_91_86 ?_
          refine v_getI r_91_87 (Lk_3 hL) g3 ?_
          refine w_aload0 r_91_90 ?_
          refine v_getI r_91_91 (Lk_3 hL) v2 ?_
          refine v_isub r_91_94 ?_
          refine w_bipush (v := iI (8)) r_91_95 rfl ?_
          refine v_ic_gt r_91_97 (by first | exact zF_in _ _ _ | exact zA_in _ _ _ | omega) (by first | exact zF_in _ _ _ | exact zA_in _ _ _ | omega) (fun q => absurd q (by omega)) (fun _ => ?_)
          refine w_iconst (v := iI (1)) r_91_100 rfl ?_
          refine w_goto r_91_101 ?_
          refine w_putI r_91_105 (Lk_3 hL) (Ln_3 hL) ?_
          refine w_vret r_91_108 ?_
          exact F
        · have F := fin 3 (by rw [if_neg q])
          refine w_aload0 r_91_85 ?_
          refine w_aload0 r_91_86 ?_
          refine v_getI r_91_87 (Lk_3 hL) g3 ?_
          refine w_aload0 r_91_90 ?_
          refine v_getI r_91_91 (Lk_3 hL) v2 ?_
          refine v_isub r_91_94 ?_
          refine w_bipush (v := iI (8)) r_91_95 rfl ?_
          refine v_ic_gt r_91_97 (by first | exact zF_in _ _ _ | exact zA_in _ _ _ | omega) (by first | exact zF_in _ _ _ | exact zA_in _ _ _ | omega) (fun _ => ?_) (fun q => absurd q (by omega))
          refine w_iconst (v := iI (3)) r_91_104 rfl ?_
          refine w_putI r_91_105 (Lk_3 hL) (Ln_3 hL) ?_
          refine w_vret r_91_108 ?_
          exact F
      by_cases z : τ.ew a = τ.2
      · refine w_aload0 r_91_5 ?_
        refine v_getI r_91_6 (Lk_3 hL) g3 ?_
        refine w_aload0 r_91_9 ?_
        refine v_getI r_91_10 (Lk_3 hL) v10 ?_
        refine v_ic_ge r_91_13 (by first | exact zF_in _ _ _ | exact zA_in _ _ _ | omega) (by first | exact zF_in _ _ _ | exact zA_in _ _ _ | omega) (fun _ => ?_) (fun q => absurd q (by omega))
        exact exit
      · have ci := (XT.c_in hX.1 (k := τ.ew a) (by omega)).1 (by omega)
        have ct := Xg.at (i := τ.ew a) (by omega) (by omega)
        have sg := sgn_in ⟨ci.1, ci.2.1⟩
        have nb : ¬ (97 ≤ τ.c (τ.ew a) ∧ τ.c (τ.ew a) ≤ 122) := by simpa [smC] using r'.2.1
        refine w_aload0 r_91_5 ?_
        refine v_getI r_91_6 (Lk_3 hL) g3 ?_
        refine w_aload0 r_91_9 ?_
        refine v_getI r_91_10 (Lk_3 hL) v10 ?_
        refine v_ic_ge r_91_13 (by first | exact zF_in _ _ _ | exact zA_in _ _ _ | omega) (by first | exact zF_in _ _ _ | exact zA_in _ _ _ | omega) (fun q => absurd q (by omega)) (fun _ => ?_)
        refine w_aload0 r_91_16 ?_
        refine w_getA (x := 2) r_91_17 (Lk_3 hL) (Lr_3_0 hL) (by decide) ?_
        refine w_aload0 r_91_20 ?_
        refine v_getI r_91_21 (Lk_3 hL) g3 ?_
        refine v_bald r_91_24 (Or.inl (Lk_2 hL)) (Lz_2 hL) (by decide) (by omega) ct ?_
        refine w_bipush (v := iI (97)) r_91_25 rfl ?_
        refine v_ic_lt r_91_27 (by first | exact zF_in _ _ _ | exact zA_in _ _ _ | omega) (by first | exact zF_in _ _ _ | exact zA_in _ _ _ | omega) (fun c27 => ?_) (fun c27 => ?_)
        · exact exit
        · refine w_aload0 r_91_30 ?_
          refine w_getA (x := 2) r_91_31 (Lk_3 hL) (Lr_3_0 hL) (by decide) ?_
          refine w_aload0 r_91_34 ?_
          refine v_getI r_91_35 (Lk_3 hL) g3 ?_
          refine v_bald r_91_38 (Or.inl (Lk_2 hL)) (Lz_2 hL) (by decide) (by omega) ct ?_
          refine w_bipush (v := iI (122)) r_91_39 rfl ?_
          refine v_ic_gt r_91_41 (by first | exact zF_in _ _ _ | exact zA_in _ _ _ | omega) (by first | exact zF_in _ _ _ | exact zA_in _ _ _ | omega) (fun c41 => ?_) (fun c41 => ?_)
          · exact exit
          · exfalso
            omega
    · intro n hn ih g fg g3 g6
      have hL := fg.lay hL
      have Xg := hX.fr fg (by simp [pF]) (fun j => by simp [pF])
      have v10 : gI g 3 1 = iI τ.2 := by rw [gI_F, Xg.2.1]
      have ci := (XT.c_in hX.1 (k := a + n) (by omega)).1 (by omega)
      have ct := Xg.at (i := a + n) (by omega) (by omega)
      have sm : 97 ≤ τ.c (a + n) ∧ τ.c (a + n) ≤ 122 := by simpa [smC] using r'.2.2 (a + n) (by omega) (by omega)
      rw [show sgn (τ.c (a + n)) = τ.c (a + n) by unfold sgn; rw [if_pos (by omega)]] at ct
      have v74 : gI (sL g 3 6 (iL (enc (fun i => τ.1 (a + i)) n * 27 + (τ.c (a + n) - 97 + 1)))) 3 3 = iI (a + n) := g3
      have J := ih (sI (sL g 3 6 (iL (enc (fun i => τ.1 (a + i)) n * 27 + (τ.c (a + n) - 97 + 1)))) 3 3 (iI (a + n + 1))) ((fg.sL 3 6 _ (by simp [pF])).sI 3 3 _ (by simp [pF])) (by rw [sI_here, if_pos rfl, show a + (n : Int) + 1 = a + ((n + 1 : Nat) : Int) by omega]) (by
        rw [enc_next, ← ci.2.2, show τ.c (a + n) - 96 = τ.c (a + n) - 97 + 1 by omega]
        exact gL_here (h := g) (a := 3) (j := 6))
      refine w_aload0 r_91_5 ?_
      refine v_getI r_91_6 (Lk_3 hL) g3 ?_
      refine w_aload0 r_91_9 ?_
      refine v_getI r_91_10 (Lk_3 hL) v10 ?_
      refine v_ic_ge r_91_13 (by first | exact zF_in _ _ _ | exact zA_in _ _ _ | omega) (by first | exact zF_in _ _ _ | exact zA_in _ _ _ | omega) (fun q => absurd q (by omega)) (fun _ => ?_)
      refine w_aload0 r_91_16 ?_
      refine w_getA (x := 2) r_91_17 (Lk_3 hL) (Lr_3_0 hL) (by decide) ?_
      refine w_aload0 r_91_20 ?_
      refine v_getI r_91_21 (Lk_3 hL) g3 ?_
      refine v_bald r_91_24 (Or.inl (Lk_2 hL)) (Lz_2 hL) (by decide) (by omega) ct ?_
      refine w_bipush (v := iI (97)) r_91_25 rfl ?_
      refine v_ic_lt r_91_27 (by first | exact zF_in _ _ _ | exact zA_in _ _ _ | omega) (by first | exact zF_in _ _ _ | exact zA_in _ _ _ | omega) (fun q => absurd q (by omega)) (fun _ => ?_)
      refine w_aload0 r_91_30 ?_
      refine w_getA (x := 2) r_91_31 (Lk_3 hL) (Lr_3_0 hL) (by decide) ?_
      refine w_aload0 r_91_34 ?_
      refine v_getI r_91_35 (Lk_3 hL) g3 ?_
      refine v_bald r_91_38 (Or.inl (Lk_2 hL)) (Lz_2 hL) (by decide) (by omega) ct ?_
      refine w_bipush (v := iI (122)) r_91_39 rfl ?_
      refine v_ic_gt r_91_41 (by first | exact zF_in _ _ _ | exact zA_in _ _ _ | omega) (by first | exact zF_in _ _ _ | exact zA_in _ _ _ | omega) (fun q => absurd q (by omega)) (fun _ => ?_)
      refine w_aload0 r_91_44 ?_
      refine w_aload0 r_91_45 ?_
      refine v_getL r_91_46 (Lk_3 hL) g6 ?_
      refine w_ldc2 (v := iL (27)) r_91_49 rfl ?_
      refine v_lmul r_91_52 ?_
      refine w_aload0 r_91_53 ?_
      refine w_getA (x := 2) r_91_54 (Lk_3 hL) (Lr_3_0 hL) (by decide) ?_
      refine w_aload0 r_91_57 ?_
      refine v_getI r_91_58 (Lk_3 hL) g3 ?_
      refine v_bald r_91_61 (Or.inl (Lk_2 hL)) (Lz_2 hL) (by decide) (by omega) ct ?_
      refine w_bipush (v := iI (97)) r_91_62 rfl ?_
      refine v_isub r_91_64 ?_
      refine w_iconst (v := iI (1)) r_91_65 rfl ?_
      refine v_iadd r_91_66 ?_
      refine v_i2l r_91_67 (by first | exact zF_in _ _ _ | exact zA_in _ _ _ | omega) ?_
      refine v_ladd r_91_68 ?_
      refine w_putL r_91_69 (Lk_3 hL) (Ln_3 hL) ?_
      refine w_aload0 r_91_72 ?_
      refine w_dupA r_91_73 ?_
      refine v_getI r_91_74 (Lk_3 hL) v74 ?_
      refine w_iconst (v := iI (1)) r_91_77 rfl ?_
      refine v_iadd r_91_78 ?_
      refine w_putI r_91_79 (Lk_3 hL) (Ln_3 hL) ?_
      refine w_goto r_91_82 ?_
      exact J
  have J := key 0 (by omega) (sL h 3 6 (iL 0)) ((Fr.refl _ _).sL 3 6 _ (by simp [pF])) (by rw [show a + ((0 : Nat) : Int) = a by omega]; exact e3) (gL_here (h := h) (a := 3) (j := 6) (v := iL 0))
  refine w_aload0 r_91_0 ?_
  refine w_lconst (v := iL 0) r_91_1 rfl ?_
  refine w_putL r_91_2 (Lk_3 hL) (Ln_3 hL) ?_
  exact J
theorem c_readWhole {a : Int} (hL : Lay h) (hX : TX h τ) (ha : 0 ≤ a ∧ a < τ.2) (e2 : gI h 3 2 = iI a) (e3 : gI h 3 3 = iI a) (kk : ∀ h', Fr (pF [(3, 3), (3, 4), (3, 5)]) h h' → gI h' 3 3 = iI (τ.ed a) → gI h' 3 4 = iI (if τ.ed a - a ≤ 4 then 2 else 3) → gI h' 3 5 = iI (dec (fun i => τ.1 (a + i)) (τ.ed a - a).toNat) → KU h') : XW d 92 0 [.ref 3] [] h (KV KU) := by
  have o := hX.1.1
  have r := run_at (f := dgC) (k := a) hX.1 (by decide) ha.1 (by omega)
  have key : ∀ n : Nat, n ≤ (τ.ed a - a).toNat → ∀ g : XH, Fr (pF [(3, 3), (3, 4), (3, 5)]) h g → gI g 3 3 = iI (a + n) → gI g 3 5 = iI (dec (fun i => τ.1 (a + i)) n) → XW d 92 5 [.ref 3] [] g (KV KU) := by
    have r' : (a ≤ τ.ed a ∧ τ.ed a ≤ τ.2) ∧ dgC (τ.c (τ.ed a)) = false ∧ ∀ i, a ≤ i → i < τ.ed a → dgC (τ.c i) = true := r
    refine upto _ ?_ ?_
    · intro g fg g3 g5
      have hL := fg.lay hL
      have Xg := hX.fr fg (by simp [pF]) (fun j => by simp [pF])
      have v10 : gI g 3 1 = iI τ.2 := by rw [gI_F, Xg.2.1]
      have v2 : gI g 3 2 = iI a := by rw [(fg.2 3 2 (by simp [pF])).1]; exact e2
      rw [show a + ((τ.ed a - a).toNat : Int) = τ.ed a by omega] at g3
      have fin : ∀ x : Int, x = (if τ.ed a - a ≤ 4 then 2 else 3) → KU (sI g 3 4 (iI x)) := fun x ex => kk _ (fg.sI 3 4 _ (by simp [pF])) (by rw [sI_here, if_neg (by decide)]; exact g3) (by rw [sI_here, if_pos rfl, ex]) (by rw [sI_here, if_neg (by decide)]; exact g5)
      have exit : XW d 92 81 [.ref 3] [] g (KV KU) := by
        by_cases q : τ.ed a - a ≤ 4
        · have F := fin 2 (by rw [if_pos q])
          refine w_aload0 r_92_81 ?_
          refine w_aload0 r_92_82 ?_
          refine v_getI r_92_83 (Lk_3 hL) g3 ?_
          refine w_aload0 r_92_86 ?_
          refine v_getI r_92_87 (Lk_3 hL) v2 ?_
          refine v_isub r_92_90 ?_
          refine w_iconst (v := iI (4)) r_92_91 rfl ?_
          refine v_ic_gt r_92_92 (by first | exact zF_in _ _ _ | exact zA_in _ _ _ | omega) (by first | exact zF_in _ _ _ | exact zA_in _ _ _ | omega) (fun q => absurd q (by omega)) (fun _ => ?_)
          refine w_iconst (v := iI (2)) r_92_95 rfl ?_
          refine w_goto r_92_96 ?_
          refine w_putI r_92_100 (Lk_3 hL) (Ln_3 hL) ?_
          refine w_vret r_92_103 ?_
          exact F
        · have F := fin 3 (by rw [if_neg q])
          refine w_aload0 r_92_81 ?_
          refine w_aload0 r_92_82 ?_
          refine v_getI r_92_83 (Lk_3 hL) g3 ?_
          refine w_aload0 r_92_86 ?_
          refine v_getI r_92_87 (Lk_3 hL) v2 ?_
          refine v_isub r_92_90 ?_
          refine w_iconst (v := iI (4)) r_92_91 rfl ?_
          refine v_ic_gt r_92_92 (by first | exact zF_in _ _ _ | exact zA_in _ _ _ | omega) (by first | exact zF_in _ _ _ | exact zA_in _ _ _ | omega) (fun _ => ?_) (fun q => absurd q (by omega))
          refine w_iconst (v := iI (3)) r_92_99 rfl ?_
          refine w_putI r_92_100 (Lk_3 hL) (Ln_3 hL) ?_
          refine w_vret r_92_103 ?_
          exact F
      by_cases z : τ.ed a = τ.2
      · refine w_aload0 r_92_5 ?_
        refine v_getI r_92_6 (Lk_3 hL) g3 ?_
        refine w_aload0 r_92_9 ?_
        refine v_getI r_92_10 (Lk_3 hL) v10 ?_
        refine v_ic_ge r_92_13 (by first | exact zF_in _ _ _ | exact zA_in _ _ _ | omega) (by first | exact zF_in _ _ _ | exact zA_in _ _ _ | omega) (fun _ => ?_) (fun q => absurd q (by omega))
        exact exit
      · have ci := (XT.c_in hX.1 (k := τ.ed a) (by omega)).1 (by omega)
        have ct := Xg.at (i := τ.ed a) (by omega) (by omega)
        have sg := sgn_in ⟨ci.1, ci.2.1⟩
        have nb : ¬ (48 ≤ τ.c (τ.ed a) ∧ τ.c (τ.ed a) ≤ 57) := by simpa [dgC] using r'.2.1
        refine w_aload0 r_92_5 ?_
        refine v_getI r_92_6 (Lk_3 hL) g3 ?_
        refine w_aload0 r_92_9 ?_
        refine v_getI r_92_10 (Lk_3 hL) v10 ?_
        refine v_ic_ge r_92_13 (by first | exact zF_in _ _ _ | exact zA_in _ _ _ | omega) (by first | exact zF_in _ _ _ | exact zA_in _ _ _ | omega) (fun q => absurd q (by omega)) (fun _ => ?_)
        refine w_aload0 r_92_16 ?_
        refine w_getA (x := 2) r_92_17 (Lk_3 hL) (Lr_3_0 hL) (by decide) ?_
        refine w_aload0 r_92_20 ?_
        refine v_getI r_92_21 (Lk_3 hL) g3 ?_
        refine v_bald r_92_24 (Or.inl (Lk_2 hL)) (Lz_2 hL) (by decide) (by omega) ct ?_
        refine w_bipush (v := iI (48)) r_92_25 rfl ?_
        refine v_ic_lt r_92_27 (by first | exact zF_in _ _ _ | exact zA_in _ _ _ | omega) (by first | exact zF_in _ _ _ | exact zA_in _ _ _ | omega) (fun c27 => ?_) (fun c27 => ?_)
        · exact exit
        · refine w_aload0 r_92_30 ?_
          refine w_getA (x := 2) r_92_31 (Lk_3 hL) (Lr_3_0 hL) (by decide) ?_
          refine w_aload0 r_92_34 ?_
          refine v_getI r_92_35 (Lk_3 hL) g3 ?_
          refine v_bald r_92_38 (Or.inl (Lk_2 hL)) (Lz_2 hL) (by decide) (by omega) ct ?_
          refine w_bipush (v := iI (57)) r_92_39 rfl ?_
          refine v_ic_gt r_92_41 (by first | exact zF_in _ _ _ | exact zA_in _ _ _ | omega) (by first | exact zF_in _ _ _ | exact zA_in _ _ _ | omega) (fun c41 => ?_) (fun c41 => ?_)
          · exact exit
          · exfalso
            omega
    · intro n hn ih g fg g3 g5
      have hL := fg.lay hL
      have Xg := hX.fr fg (by simp [pF]) (fun j => by simp [pF])
      have v10 : gI g 3 1 = iI τ.2 := by rw [gI_F, Xg.2.1]
      have ci := (XT.c_in hX.1 (k := a + n) (by omega)).1 (by omega)
      have ct := Xg.at (i := a + n) (by omega) (by omega)
      have sm : 48 ≤ τ.c (a + n) ∧ τ.c (a + n) ≤ 57 := by simpa [dgC] using r'.2.2 (a + n) (by omega) (by omega)
      rw [show sgn (τ.c (a + n)) = τ.c (a + n) by unfold sgn; rw [if_pos (by omega)]] at ct
      have v70 : gI (sI g 3 5 (iI (dec (fun i => τ.1 (a + i)) n * 10 + (τ.c (a + n) - 48)))) 3 3 = iI (a + n) := by rw [sI_here, if_neg (by decide)]; exact g3
      have J := ih (sI (sI g 3 5 (iI (dec (fun i => τ.1 (a + i)) n * 10 + (τ.c (a + n) - 48)))) 3 3 (iI (a + n + 1))) ((fg.sI 3 5 _ (by simp [pF])).sI 3 3 _ (by simp [pF])) (by rw [sI_here, if_pos rfl, show a + (n : Int) + 1 = a + ((n + 1 : Nat) : Int) by omega]) (by
        rw [dec_next, ← ci.2.2, sI_here, if_neg (by decide), sI_here, if_pos rfl])
      refine w_aload0 r_92_5 ?_
      refine v_getI r_92_6 (Lk_3 hL) g3 ?_
      refine w_aload0 r_92_9 ?_
      refine v_getI r_92_10 (Lk_3 hL) v10 ?_
      refine v_ic_ge r_92_13 (by first | exact zF_in _ _ _ | exact zA_in _ _ _ | omega) (by first | exact zF_in _ _ _ | exact zA_in _ _ _ | omega) (fun q => absurd q (by omega)) (fun _ => ?_)
      refine w_aload0 r_92_16 ?_
      refine w_getA (x := 2) r_92_17 (Lk_3 hL) (Lr_3_0 hL) (by decide) ?_
      refine w_aload0 r_92_20 ?_
      refine v_getI r_92_21 (Lk_3 hL) g3 ?_
      refine v_bald r_92_24 (Or.inl (Lk_2 hL)) (Lz_2 hL) (by decide) (by omega) ct ?_
      refine w_bipush (v := iI (48)) r_92_25 rfl ?_
      refine v_ic_lt r_92_27 (by first | exact zF_in _ _ _ | exact zA_in _ _ _ | omega) (by first | exact zF_in _ _ _ | exact zA_in _ _ _ | omega) (fun q => absurd q (by omega)) (fun _ => ?_)
      refine w_aload0 r_92_30 ?_
      refine w_getA (x := 2) r_92_31 (Lk_3 hL) (Lr_3_0 hL) (by decide) ?_
      refine w_aload0 r_92_34 ?_
      refine v_getI r_92_35 (Lk_3 hL) g3 ?_
      refine v_bald r_92_38 (Or.inl (Lk_2 hL)) (Lz_2 hL) (by decide) (by omega) ct ?_
      refine w_bipush (v := iI (57)) r_92_39 rfl ?_
      refine v_ic_gt r_92_41 (by first | exact zF_in _ _ _ | exact zA_in _ _ _ | omega) (by first | exact zF_in _ _ _ | exact zA_in _ _ _ | omega) (fun q => absurd q (by omega)) (fun _ => ?_)
      refine w_aload0 r_92_44 ?_
      refine w_aload0 r_92_45 ?_
      refine v_getI r_92_46 (Lk_3 hL) g5 ?_
      refine w_bipush (v := iI (10)) r_92_49 rfl ?_
      refine v_imul r_92_51 ?_
      refine w_aload0 r_92_52 ?_
      refine w_getA (x := 2) r_92_53 (Lk_3 hL) (Lr_3_0 hL) (by decide) ?_
      refine w_aload0 r_92_56 ?_
      refine v_getI r_92_57 (Lk_3 hL) g3 ?_
      refine v_bald r_92_60 (Or.inl (Lk_2 hL)) (Lz_2 hL) (by decide) (by omega) ct ?_
      refine w_bipush (v := iI (48)) r_92_61 rfl ?_
      refine v_isub r_92_63 ?_
      refine v_iadd r_92_64 ?_
      refine w_putI r_92_65 (Lk_3 hL) (Ln_3 hL) ?_
      refine w_aload0 r_92_68 ?_
      refine w_dupA r_92_69 ?_
      refine v_getI r_92_70 (Lk_3 hL) v70 ?_
      refine w_iconst (v := iI (1)) r_92_73 rfl ?_
      refine v_iadd r_92_74 ?_
      refine w_putI r_92_75 (Lk_3 hL) (Ln_3 hL) ?_
      refine w_goto r_92_78 ?_
      exact J
  have J := key 0 (by omega) (sI h 3 5 (iI 0)) ((Fr.refl _ _).sI 3 5 _ (by simp [pF])) (by rw [show a + ((0 : Nat) : Int) = a by omega, sI_here, if_neg (by decide)]; exact e3) (by rw [sI_here, if_pos rfl]; rfl)
  refine w_aload0 r_92_0 ?_
  refine w_iconst (v := iI (0)) r_92_1 rfl ?_
  refine w_putI r_92_2 (Lk_3 hL) (Ln_3 hL) ?_
  exact J
theorem c_isSign {x : Int} (hx : -128 ≤ x ∧ x ≤ 127) (kt : sgC x = true → K (iI 1) h) (kf : sgC x = false → K (iI 0) h) : XW d 90 0 [.int (iI x)] [] h (KI K) := by
  refine w_iload0 r_90_0 ?_
  refine w_bipush (v := iI (40)) r_90_1 rfl ?_
  refine v_ic_eq r_90_3 (by first | exact zF_in _ _ _ | exact zA_in _ _ _ | omega) (by first | exact zF_in _ _ _ | exact zA_in _ _ _ | omega) (fun c3 => ?_) (fun c3 => ?_)
  · refine w_iconst (v := iI (1)) r_90_30 rfl ?_
    refine w_goto r_90_31 ?_
    refine w_zret r_90_35 (by decide) ?_
    first | exact kt (by simp [sgC]; omega) | exact kf (by simp [sgC]; omega)
  · refine w_iload0 r_90_6 ?_
    refine w_bipush (v := iI (41)) r_90_7 rfl ?_
    refine v_ic_eq r_90_9 (by first | exact zF_in _ _ _ | exact zA_in _ _ _ | omega) (by first | exact zF_in _ _ _ | exact zA_in _ _ _ | omega) (fun c9 => ?_) (fun c9 => ?_)
    · refine w_iconst (v := iI (1)) r_90_30 rfl ?_
      refine w_goto r_90_31 ?_
      refine w_zret r_90_35 (by decide) ?_
      first | exact kt (by simp [sgC]; omega) | exact kf (by simp [sgC]; omega)
    · refine w_iload0 r_90_12 ?_
      refine w_bipush (v := iI (44)) r_90_13 rfl ?_
      refine v_ic_eq r_90_15 (by first | exact zF_in _ _ _ | exact zA_in _ _ _ | omega) (by first | exact zF_in _ _ _ | exact zA_in _ _ _ | omega) (fun c15 => ?_) (fun c15 => ?_)
      · refine w_iconst (v := iI (1)) r_90_30 rfl ?_
        refine w_goto r_90_31 ?_
        refine w_zret r_90_35 (by decide) ?_
        first | exact kt (by simp [sgC]; omega) | exact kf (by simp [sgC]; omega)
      · refine w_iload0 r_90_18 ?_
        refine w_bipush (v := iI (45)) r_90_19 rfl ?_
        refine v_ic_eq r_90_21 (by first | exact zF_in _ _ _ | exact zA_in _ _ _ | omega) (by first | exact zF_in _ _ _ | exact zA_in _ _ _ | omega) (fun c21 => ?_) (fun c21 => ?_)
        · refine w_iconst (v := iI (1)) r_90_30 rfl ?_
          refine w_goto r_90_31 ?_
          refine w_zret r_90_35 (by decide) ?_
          first | exact kt (by simp [sgC]; omega) | exact kf (by simp [sgC]; omega)
        · refine w_iload0 r_90_24 ?_
          refine w_bipush (v := iI (59)) r_90_25 rfl ?_
          refine v_ic_ne r_90_27 (by first | exact zF_in _ _ _ | exact zA_in _ _ _ | omega) (by first | exact zF_in _ _ _ | exact zA_in _ _ _ | omega) (fun c27 => ?_) (fun c27 => ?_)
          · refine w_iconst (v := iI (0)) r_90_34 rfl ?_
            refine w_zret r_90_35 (by decide) ?_
            first | exact kt (by simp [sgC]; omega) | exact kf (by simp [sgC]; omega)
          · refine w_iconst (v := iI (1)) r_90_30 rfl ?_
            refine w_goto r_90_31 ?_
            refine w_zret r_90_35 (by decide) ?_
            first | exact kt (by simp [sgC]; omega) | exact kf (by simp [sgC]; omega)
theorem gF {h : XH} {a j : Nat} {x : Int} (hx : -2147483648 ≤ x ∧ x ≤ 2147483647) (e : gI h a j = iI x) : zF h a j = x := by unfold zF; rw [e, iI_t hx]
theorem c_advance (hL : Lay h) (hX : TX h τ) (hk : 0 ≤ k ∧ k ≤ τ.2) (e3 : gI h 3 3 = iI k) (kk : ∀ h', Fr PTk h h' → TC h' τ k → KU h') : XW (d + 1) 89 0 [.ref 3, .null] [] h (KV KU) := by
  have o := hX.1.1
  have hL0 := hL
  have r := XT.a_at hX.1 hk.1 hk.2
  have ea := XT.e_at hX.1 hk.1 hk.2
  have key : ∀ n : Nat, n ≤ (τ.a k - k).toNat → ∀ g : XH, Fr PTk h g → gI g 3 2 = iI (k + n) → gI g 3 3 = iI k → XW (d + 1) 89 8 [.ref 3, .null] [] g (KV KU) := by
    refine upto _ ?_ ?_
    · intro g fg g2 g3
      have hL := fg.lay hL
      have Xg := hX.fr fg (by simp [pF]) (fun j => by simp [pF])
      have v13 : gI g 3 1 = iI τ.2 := by rw [gI_F, Xg.2.1]
      rw [show k + ((τ.a k - k).toNat : Int) = τ.a k by omega] at g2
      have F1 : Fr PTk g (sI g 3 3 (iI (τ.a k))) := (Fr.refl _ _).sI 3 3 _ (by simp [pF])
      have w2 : gI (sI g 3 3 (iI (τ.a k))) 3 2 = iI (τ.a k) := by rw [sI_here, if_neg (by decide)]; exact g2
      have w1 : gI (sI g 3 3 (iI (τ.a k))) 3 1 = iI τ.2 := by rw [sI_here, if_neg (by decide)]; exact v13
      have w3 : gI (sI g 3 3 (iI (τ.a k))) 3 3 = iI (τ.a k) := by rw [sI_here, if_pos rfl]
      have X1 := Xg.fr F1 (by simp [pF]) (fun j => by simp [pF])
      have f1 := fg.trans F1
      have rest : ∀ g1 : XH, Fr PTk h g1 → TX g1 τ → gI g1 3 2 = iI (τ.a k) → gI g1 3 1 = iI τ.2 → gI g1 3 3 = iI (τ.a k) → XW (d + 1) 89 54 [.ref 3, .null] [] g1 (KV KU) := by
        intro g1 f1 X1 w2 w1 w3
        have hL := f1.lay hL0
        by_cases z : τ.a k = τ.2
        · have c1 := (XT.c_in hX.1 (k := τ.a k) (by omega)).2 (by omega)
          have ee : τ.e k = τ.a k := by unfold XT.e; rw [if_pos c1]
          have ek : τ.k k = 0 := ea.2.1.2 z
          have R := kk (sI g1 3 4 (iI 0)) (f1.sI 3 4 _ (by simp [pF])) ⟨hk, gF (by omega) (by rw [sI_here, if_neg (by decide)]; exact w2), gF (by omega) (by rw [sI_here, if_neg (by decide), ee]; exact w3), by rw [ek]; exact zF_s (by decide), fun q => by omega, fun q => by omega⟩
          refine w_aload0 r_89_54 ?_
          refine v_getI r_89_55 (Lk_3 hL) w2 ?_
          refine w_aload0 r_89_58 ?_
          refine v_getI r_89_59 (Lk_3 hL) w1 ?_
          refine v_ic_lt r_89_62 (by first | exact zF_in _ _ _ | exact zA_in _ _ _ | omega) (by first | exact zF_in _ _ _ | exact zA_in _ _ _ | omega) (fun q => absurd q (by omega)) (fun _ => ?_)
          refine w_aload0 r_89_65 ?_
          refine w_iconst (v := iI (0)) r_89_66 rfl ?_
          refine w_putI r_89_67 (Lk_3 hL) (Ln_3 hL) ?_
          refine w_vret r_89_70 ?_
          exact R
        · have ci := (XT.c_in hX.1 (k := τ.a k) (by omega)).1 (by omega)
          have ct := X1.at (i := τ.a k) (by omega) (by omega)
          have sg := sgn_in ⟨ci.1, ci.2.1⟩
          have nm : ¬ τ.c (τ.a k) = -1 := by omega
          by_cases s : smC (τ.c (τ.a k)) = true
          · have s' : 97 ≤ τ.c (τ.a k) ∧ τ.c (τ.a k) ≤ 122 := by simpa [smC] using s
            have ee : τ.e k = τ.ew (τ.a k) := by unfold XT.e; rw [if_neg nm, if_pos s]
            have ek : τ.k k = if τ.ew (τ.a k) - τ.a k ≤ 8 then 1 else 3 := by unfold XT.k; rw [if_neg nm, if_pos s, ee]
            have R : ∀ h', Fr (pF [(3, 3), (3, 4), (3, 6)]) g1 h' → gI h' 3 3 = iI (τ.ew (τ.a k)) → gI h' 3 4 = iI (if τ.ew (τ.a k) - τ.a k ≤ 8 then 1 else 3) → gL h' 3 6 = iL (enc (fun i => τ.1 (τ.a k + i)) (τ.ew (τ.a k) - τ.a k).toNat) → KU h' := fun h' f' a1 a2 a3 => kk h' (f1.trans (f'.mono (fun a j q => by simp [pF] at q ⊢; omega))) ⟨hk, gF (by omega) (by rw [(f'.2 3 2 (by simp [pF])).1]; exact w2), gF (by omega) (by rw [ee]; exact a1), gF (by omega) (by rw [ek]; exact a2), fun q => by rw [ek] at q; split at q <;> omega, fun _ => by unfold XT.w; rw [ee]; exact a3⟩
            refine w_aload0 r_89_54 ?_
            refine v_getI r_89_55 (Lk_3 hL) w2 ?_
            refine w_aload0 r_89_58 ?_
            refine v_getI r_89_59 (Lk_3 hL) w1 ?_
            refine v_ic_lt r_89_62 (by first | exact zF_in _ _ _ | exact zA_in _ _ _ | omega) (by first | exact zF_in _ _ _ | exact zA_in _ _ _ | omega) (fun _ => ?_) (fun q => absurd q (by omega))
            refine w_aload0 r_89_71 ?_
            refine w_getA (x := 2) r_89_72 (Lk_3 hL) (Lr_3_0 hL) (by decide) ?_
            refine w_aload0 r_89_75 ?_
            refine v_getI r_89_76 (Lk_3 hL) w2 ?_
            refine v_bald r_89_79 (Or.inl (Lk_2 hL)) (Lz_2 hL) (by decide) (by omega) ct ?_
            refine w_istore1 r_89_80 rfl ?_
            refine w_iload1 r_89_81 ?_
            refine w_bipush (v := iI (97)) r_89_82 rfl ?_
            refine v_ic_lt r_89_84 (by first | exact zF_in _ _ _ | exact zA_in _ _ _ | omega) (by first | exact zF_in _ _ _ | exact zA_in _ _ _ | omega) (fun q => absurd q (by omega)) (fun _ => ?_)
            refine w_iload1 r_89_87 ?_
            refine w_bipush (v := iI (122)) r_89_88 rfl ?_
            refine v_ic_gt r_89_90 (by first | exact zF_in _ _ _ | exact zA_in _ _ _ | omega) (by first | exact zF_in _ _ _ | exact zA_in _ _ _ | omega) (fun q => absurd q (by omega)) (fun _ => ?_)
            refine w_aload0 r_89_93 ?_
            refine k_91 r_89_94 (Lk_3 hL) (Nat.le_of_ble_eq_true rfl) ?_
            refine c_readWord hL X1 (by omega) w2 w3 (fun h' f' a1 a2 a3 => ?_)
            refine w_goto r_89_97 ?_
            refine w_vret r_89_145 ?_
            exact R h' f' a1 a2 a3
          · have s' : ¬ (97 ≤ τ.c (τ.a k) ∧ τ.c (τ.a k) ≤ 122) := by simpa [smC] using s
            by_cases dd : dgC (τ.c (τ.a k)) = true
            · have d' : 48 ≤ τ.c (τ.a k) ∧ τ.c (τ.a k) ≤ 57 := by simpa [dgC] using dd
              have ee : τ.e k = τ.ed (τ.a k) := by unfold XT.e; rw [if_neg nm, if_neg s, if_pos dd]
              have ek : τ.k k = if τ.ed (τ.a k) - τ.a k ≤ 4 then 2 else 3 := by unfold XT.k; rw [if_neg nm, if_neg s, if_pos dd, ee]
              have R : ∀ h', Fr (pF [(3, 3), (3, 4), (3, 5)]) g1 h' → gI h' 3 3 = iI (τ.ed (τ.a k)) → gI h' 3 4 = iI (if τ.ed (τ.a k) - τ.a k ≤ 4 then 2 else 3) → gI h' 3 5 = iI (dec (fun i => τ.1 (τ.a k + i)) (τ.ed (τ.a k) - τ.a k).toNat) → KU h' := fun h' f' a1 a2 a3 => kk h' (f1.trans (f'.mono (fun a j q => by simp [pF] at q ⊢; omega))) ⟨hk, gF (by omega) (by rw [(f'.2 3 2 (by simp [pF])).1]; exact w2), gF (by omega) (by rw [ee]; exact a1), gF (by omega) (by rw [ek]; exact a2), fun q => gF (by have := (XT.v_at hX.1 hk.1 hk.2 q).2.2; omega) (by unfold XT.v; rw [ee]; exact a3), fun q => by rw [ek] at q; split at q <;> omega⟩
              refine w_aload0 r_89_54 ?_
              refine v_getI r_89_55 (Lk_3 hL) w2 ?_
              refine w_aload0 r_89_58 ?_
              refine v_getI r_89_59 (Lk_3 hL) w1 ?_
              refine v_ic_lt r_89_62 (by first | exact zF_in _ _ _ | exact zA_in _ _ _ | omega) (by first | exact zF_in _ _ _ | exact zA_in _ _ _ | omega) (fun _ => ?_) (fun q => absurd q (by omega))
              refine w_aload0 r_89_71 ?_
              refine w_getA (x := 2) r_89_72 (Lk_3 hL) (Lr_3_0 hL) (by decide) ?_
              refine w_aload0 r_89_75 ?_
              refine v_getI r_89_76 (Lk_3 hL) w2 ?_
              refine v_bald r_89_79 (Or.inl (Lk_2 hL)) (Lz_2 hL) (by decide) (by omega) ct ?_
              refine w_istore1 r_89_80 rfl ?_
              refine w_iload1 r_89_81 ?_
              refine w_bipush (v := iI (97)) r_89_82 rfl ?_
              refine v_ic_lt r_89_84 (by first | exact zF_in _ _ _ | exact zA_in _ _ _ | omega) (by first | exact zF_in _ _ _ | exact zA_in _ _ _ | omega) (fun _ => ?_) (fun q => absurd q (by omega))
              refine w_iload1 r_89_100 ?_
              refine w_bipush (v := iI (48)) r_89_101 rfl ?_
              refine v_ic_lt r_89_103 (by first | exact zF_in _ _ _ | exact zA_in _ _ _ | omega) (by first | exact zF_in _ _ _ | exact zA_in _ _ _ | omega) (fun q => absurd q (by omega)) (fun _ => ?_)
              refine w_iload1 r_89_106 ?_
              refine w_bipush (v := iI (57)) r_89_107 rfl ?_
              refine v_ic_gt r_89_109 (by first | exact zF_in _ _ _ | exact zA_in _ _ _ | omega) (by first | exact zF_in _ _ _ | exact zA_in _ _ _ | omega) (fun q => absurd q (by omega)) (fun _ => ?_)
              refine w_aload0 r_89_112 ?_
              refine k_92 r_89_113 (Lk_3 hL) (Nat.le_of_ble_eq_true rfl) ?_
              refine c_readWhole hL X1 (by omega) w2 w3 (fun h' f' a1 a2 a3 => ?_)
              refine w_goto r_89_116 ?_
              refine w_vret r_89_145 ?_
              exact R h' f' a1 a2 a3
            · have d' : ¬ (48 ≤ τ.c (τ.a k) ∧ τ.c (τ.a k) ≤ 57) := by simpa [dgC] using dd
              have ee : τ.e k = τ.a k + 1 := by unfold XT.e; rw [if_neg nm, if_neg s, if_neg dd]
              have ek : τ.k k = if sgC (τ.c (τ.a k)) = true then τ.c (τ.a k) else 3 := by unfold XT.k; rw [if_neg nm, if_neg s, if_neg dd]
              have s12 : ¬ τ.k k = 2 ∧ ¬ τ.k k = 1 := by
                rw [ek]
                split
                · rename_i q; simp [sgC] at q; omega
                · decide
              have R : ∀ x : Int, x = τ.k k → KU (sI (sI g1 3 4 (iI x)) 3 3 (iI (τ.a k + 1))) := fun x ex => kk _ ((f1.sI 3 4 _ (by simp [pF])).sI 3 3 _ (by simp [pF])) ⟨hk, gF (by omega) (by rw [sI_here, if_neg (by decide), sI_here, if_neg (by decide)]; exact w2), gF (by omega) (by rw [ee, sI_here, if_pos rfl]), gF (by omega) (by rw [sI_here, if_neg (by decide), sI_here, if_pos rfl, ex]), fun q => absurd q s12.1, fun q => absurd q s12.2⟩
              have v137 : ∀ x : Int, gI (sI g1 3 4 (iI x)) 3 2 = iI (τ.a k) := fun x => by rw [sI_here, if_neg (by decide)]; exact w2
              by_cases sc : sgC (τ.c (τ.a k)) = true
              · have es : sgn (τ.c (τ.a k)) = τ.c (τ.a k) := by simp [sgC] at sc; unfold sgn; rw [if_pos (by omega)]
                rw [es] at ct sg
                have R' := R (τ.c (τ.a k)) (by rw [ek, if_pos sc])
                have tail : XW (d + 1) 89 100 [.ref 3, .int (iI (τ.c (τ.a k)))] [] g1 (KV KU) := by
                  have V := v137 (τ.c (τ.a k))
                  have out : XW (d + 1) 89 119 [.ref 3, .int (iI (τ.c (τ.a k)))] [] g1 (KV KU) := by
                    refine w_aload0 r_89_119 ?_
                    refine w_iload1 r_89_120 ?_
                    refine k_90 r_89_121 (Nat.le_of_ble_eq_true rfl) ?_
                    refine c_isSign (by omega) (fun _ => ?_) (fun q => absurd sc (by rw [q]; decide))
                    refine v_if_eq r_89_124 (by first | exact zF_in _ _ _ | exact zA_in _ _ _ | omega) (fun q => absurd q (by omega)) (fun _ => ?_)
                    refine w_iload1 r_89_127 ?_
                    refine w_goto r_89_128 ?_
                    refine w_putI r_89_132 (Lk_3 hL) (Ln_3 hL) ?_
                    refine w_aload0 r_89_135 ?_
                    refine w_aload0 r_89_136 ?_
                    refine v_getI r_89_137 (Lk_3 hL) V ?_
                    refine w_iconst (v := iI (1)) r_89_140 rfl ?_
                    refine v_iadd r_89_141 ?_
                    refine w_putI r_89_142 (Lk_3 hL) (Ln_3 hL) ?_
                    refine w_vret r_89_145 ?_
                    exact R'
                  refine w_iload1 r_89_100 ?_
                  refine w_bipush (v := iI (48)) r_89_101 rfl ?_
                  refine v_ic_lt r_89_103 (by first | exact zF_in _ _ _ | exact zA_in _ _ _ | omega) (by first | exact zF_in _ _ _ | exact zA_in _ _ _ | omega) (fun c103 => ?_) (fun c103 => ?_)
                  · exact out
                  · refine w_iload1 r_89_106 ?_
                    refine w_bipush (v := iI (57)) r_89_107 rfl ?_
                    refine v_ic_gt r_89_109 (by first | exact zF_in _ _ _ | exact zA_in _ _ _ | omega) (by first | exact zF_in _ _ _ | exact zA_in _ _ _ | omega) (fun c109 => ?_) (fun c109 => ?_)
                    · exact out
                    · exfalso
                      omega
                refine w_aload0 r_89_54 ?_
                refine v_getI r_89_55 (Lk_3 hL) w2 ?_
                refine w_aload0 r_89_58 ?_
                refine v_getI r_89_59 (Lk_3 hL) w1 ?_
                refine v_ic_lt r_89_62 (by first | exact zF_in _ _ _ | exact zA_in _ _ _ | omega) (by first | exact zF_in _ _ _ | exact zA_in _ _ _ | omega) (fun _ => ?_) (fun q => absurd q (by omega))
                refine w_aload0 r_89_71 ?_
                refine w_getA (x := 2) r_89_72 (Lk_3 hL) (Lr_3_0 hL) (by decide) ?_
                refine w_aload0 r_89_75 ?_
                refine v_getI r_89_76 (Lk_3 hL) w2 ?_
                refine v_bald r_89_79 (Or.inl (Lk_2 hL)) (Lz_2 hL) (by decide) (by omega) ct ?_
                refine w_istore1 r_89_80 rfl ?_
                refine w_iload1 r_89_81 ?_
                refine w_bipush (v := iI (97)) r_89_82 rfl ?_
                refine v_ic_lt r_89_84 (by first | exact zF_in _ _ _ | exact zA_in _ _ _ | omega) (by first | exact zF_in _ _ _ | exact zA_in _ _ _ | omega) (fun c84 => ?_) (fun c84 => ?_)
                · exact tail
                · refine w_iload1 r_89_87 ?_
                  refine w_bipush (v := iI (122)) r_89_88 rfl ?_
                  refine v_ic_gt r_89_90 (by first | exact zF_in _ _ _ | exact zA_in _ _ _ | omega) (by first | exact zF_in _ _ _ | exact zA_in _ _ _ | omega) (fun c90 => ?_) (fun c90 => ?_)
                  · exact tail
                  · exfalso
                    omega
              · have es : sgC (sgn (τ.c (τ.a k))) = false := by
                  rcases sg.2.2 with q | q
                  · rw [q]; simpa using sc
                  · simp [sgC]; omega
                have R' := R 3 (by rw [ek, if_neg sc])
                have tail : XW (d + 1) 89 100 [.ref 3, .int (iI (sgn (τ.c (τ.a k))))] [] g1 (KV KU) := by
                  have V := v137 3
                  have out : XW (d + 1) 89 119 [.ref 3, .int (iI (sgn (τ.c (τ.a k))))] [] g1 (KV KU) := by
                    refine w_aload0 r_89_119 ?_
                    refine w_iload1 r_89_120 ?_
                    refine k_90 r_89_121 (Nat.le_of_ble_eq_true rfl) ?_
                    refine c_isSign (by omega) (fun q => absurd es (by rw [q]; decide)) (fun _ => ?_)
                    refine v_if_eq r_89_124 (by first | exact zF_in _ _ _ | exact zA_in _ _ _ | omega) (fun _ => ?_) (fun q => absurd q (by omega))
                    refine w_iconst (v := iI (3)) r_89_131 rfl ?_
                    refine w_putI r_89_132 (Lk_3 hL) (Ln_3 hL) ?_
                    refine w_aload0 r_89_135 ?_
                    refine w_aload0 r_89_136 ?_
                    refine v_getI r_89_137 (Lk_3 hL) V ?_
                    refine w_iconst (v := iI (1)) r_89_140 rfl ?_
                    refine v_iadd r_89_141 ?_
                    refine w_putI r_89_142 (Lk_3 hL) (Ln_3 hL) ?_
                    refine w_vret r_89_145 ?_
                    exact R'
                  refine w_iload1 r_89_100 ?_
                  refine w_bipush (v := iI (48)) r_89_101 rfl ?_
                  refine v_ic_lt r_89_103 (by first | exact zF_in _ _ _ | exact zA_in _ _ _ | omega) (by first | exact zF_in _ _ _ | exact zA_in _ _ _ | omega) (fun c103 => ?_) (fun c103 => ?_)
                  · exact out
                  · refine w_iload1 r_89_106 ?_
                    refine w_bipush (v := iI (57)) r_89_107 rfl ?_
                    refine v_ic_gt r_89_109 (by first | exact zF_in _ _ _ | exact zA_in _ _ _ | omega) (by first | exact zF_in _ _ _ | exact zA_in _ _ _ | omega) (fun c109 => ?_) (fun c109 => ?_)
                    · exact out
                    · exfalso
                      omega
                refine w_aload0 r_89_54 ?_
                refine v_getI r_89_55 (Lk_3 hL) w2 ?_
                refine w_aload0 r_89_58 ?_
                refine v_getI r_89_59 (Lk_3 hL) w1 ?_
                refine v_ic_lt r_89_62 (by first | exact zF_in _ _ _ | exact zA_in _ _ _ | omega) (by first | exact zF_in _ _ _ | exact zA_in _ _ _ | omega) (fun _ => ?_) (fun q => absurd q (by omega))
                refine w_aload0 r_89_71 ?_
                refine w_getA (x := 2) r_89_72 (Lk_3 hL) (Lr_3_0 hL) (by decide) ?_
                refine w_aload0 r_89_75 ?_
                refine v_getI r_89_76 (Lk_3 hL) w2 ?_
                refine v_bald r_89_79 (Or.inl (Lk_2 hL)) (Lz_2 hL) (by decide) (by omega) ct ?_
                refine w_istore1 r_89_80 rfl ?_
                refine w_iload1 r_89_81 ?_
                refine w_bipush (v := iI (97)) r_89_82 rfl ?_
                refine v_ic_lt r_89_84 (by first | exact zF_in _ _ _ | exact zA_in _ _ _ | omega) (by first | exact zF_in _ _ _ | exact zA_in _ _ _ | omega) (fun c84 => ?_) (fun c84 => ?_)
                · exact tail
                · refine w_iload1 r_89_87 ?_
                  refine w_bipush (v := iI (122)) r_89_88 rfl ?_
                  refine v_ic_gt r_89_90 (by first | exact zF_in _ _ _ | exact zA_in _ _ _ | omega) (by first | exact zF_in _ _ _ | exact zA_in _ _ _ | omega) (fun c90 => ?_) (fun c90 => ?_)
                  · exact tail
                  · exfalso
                    omega
      have R1 := rest _ f1 X1 w2 w1 w3
      by_cases z : τ.a k = τ.2
      · refine w_aload0 r_89_8 ?_
        refine v_getI r_89_9 (Lk_3 hL) g2 ?_
        refine w_aload0 r_89_12 ?_
        refine v_getI r_89_13 (Lk_3 hL) v13 ?_
        refine v_ic_ge r_89_16 (by first | exact zF_in _ _ _ | exact zA_in _ _ _ | omega) (by first | exact zF_in _ _ _ | exact zA_in _ _ _ | omega) (fun _ => ?_) (fun q => absurd q (by omega))
        refine w_aload0 r_89_46 ?_
        refine w_aload0 r_89_47 ?_
        refine v_getI r_89_48 (Lk_3 hL) g2 ?_
        refine w_putI r_89_51 (Lk_3 hL) (Ln_3 hL) ?_
        exact R1
      · have ci := (XT.c_in hX.1 (k := τ.a k) (by omega)).1 (by omega)
        have ct := Xg.at (i := τ.a k) (by omega) (by omega)
        have sg := sgn_in ⟨ci.1, ci.2.1⟩
        have n32 := r.2.1
        refine w_aload0 r_89_8 ?_
        refine v_getI r_89_9 (Lk_3 hL) g2 ?_
        refine w_aload0 r_89_12 ?_
        refine v_getI r_89_13 (Lk_3 hL) v13 ?_
        refine v_ic_ge r_89_16 (by first | exact zF_in _ _ _ | exact zA_in _ _ _ | omega) (by first | exact zF_in _ _ _ | exact zA_in _ _ _ | omega) (fun q => absurd q (by omega)) (fun _ => ?_)
        refine w_aload0 r_89_19 ?_
        refine w_getA (x := 2) r_89_20 (Lk_3 hL) (Lr_3_0 hL) (by decide) ?_
        refine w_aload0 r_89_23 ?_
        refine v_getI r_89_24 (Lk_3 hL) g2 ?_
        refine v_bald r_89_27 (Or.inl (Lk_2 hL)) (Lz_2 hL) (by decide) (by omega) ct ?_
        refine w_bipush (v := iI (32)) r_89_28 rfl ?_
        refine v_ic_ne r_89_30 (by first | exact zF_in _ _ _ | exact zA_in _ _ _ | omega) (by first | exact zF_in _ _ _ | exact zA_in _ _ _ | omega) (fun _ => ?_) (fun q => absurd q (by omega))
        refine w_aload0 r_89_46 ?_
        refine w_aload0 r_89_47 ?_
        refine v_getI r_89_48 (Lk_3 hL) g2 ?_
        refine w_putI r_89_51 (Lk_3 hL) (Ln_3 hL) ?_
        exact R1
    · intro n hn ih g fg g2 g3
      have hL := fg.lay hL
      have Xg := hX.fr fg (by simp [pF]) (fun j => by simp [pF])
      have v13 : gI g 3 1 = iI τ.2 := by rw [gI_F, Xg.2.1]
      have ci := (XT.c_in hX.1 (k := k + n) (by omega)).1 (by omega)
      have ct := Xg.at (i := k + n) (by omega) (by omega)
      have sp := r.2.2 (k + n) (by omega) (by omega)
      rw [sp] at ct
      have ct : gI g 2 (k + n).toNat = iI 32 := ct
      have J := ih (sI g 3 2 (iI (k + n + 1))) (fg.sI 3 2 _ (by simp [pF])) (by rw [sI_here, if_pos rfl, show k + (n : Int) + 1 = k + ((n + 1 : Nat) : Int) by omega]) (by rw [sI_here, if_neg (by decide)]; exact g3)
      refine w_aload0 r_89_8 ?_
      refine v_getI r_89_9 (Lk_3 hL) g2 ?_
      refine w_aload0 r_89_12 ?_
      refine v_getI r_89_13 (Lk_3 hL) v13 ?_
      refine v_ic_ge r_89_16 (by first | exact zF_in _ _ _ | exact zA_in _ _ _ | omega) (by first | exact zF_in _ _ _ | exact zA_in _ _ _ | omega) (fun q => absurd q (by omega)) (fun _ => ?_)
      refine w_aload0 r_89_19 ?_
      refine w_getA (x := 2) r_89_20 (Lk_3 hL) (Lr_3_0 hL) (by decide) ?_
      refine w_aload0 r_89_23 ?_
      refine v_getI r_89_24 (Lk_3 hL) g2 ?_
      refine v_bald r_89_27 (Or.inl (Lk_2 hL)) (Lz_2 hL) (by decide) (by omega) ct ?_
      refine w_bipush (v := iI (32)) r_89_28 rfl ?_
      refine v_ic_ne r_89_30 (by first | exact zF_in _ _ _ | exact zA_in _ _ _ | omega) (by first | exact zF_in _ _ _ | exact zA_in _ _ _ | omega) (fun q => absurd q (by omega)) (fun _ => ?_)
      refine w_aload0 r_89_33 ?_
      refine w_dupA r_89_34 ?_
      refine v_getI r_89_35 (Lk_3 hL) g2 ?_
      refine w_iconst (v := iI (1)) r_89_38 rfl ?_
      refine v_iadd r_89_39 ?_
      refine w_putI r_89_40 (Lk_3 hL) (Ln_3 hL) ?_
      refine w_goto r_89_43 ?_
      exact J
  have J := key 0 (by omega) (sI h 3 2 (iI k)) ((Fr.refl _ _).sI 3 2 _ (by simp [pF])) (by rw [sI_here, if_pos rfl, show k + ((0 : Nat) : Int) = k by omega]) (by rw [sI_here, if_neg (by decide)]; exact e3)
  refine w_aload0 r_89_0 ?_
  refine w_aload0 r_89_1 ?_
  refine v_getI r_89_2 (Lk_3 hL) e3 ?_
  refine w_putI r_89_5 (Lk_3 hL) (Ln_3 hL) ?_
  exact J
end CT
