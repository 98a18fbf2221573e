/-! the Model: costs in a state, over a doubt, lower -/
def lwK (nx tl : Int → Int → Int) (w : Int) (v : Int → Int) (c : Int) : Nat → Int
  | 0 => v c
  | k + 1 => if 0 < tl c k ∧ v (nx c k) < 1000000000000000 ∧ v (nx c k) + w * tl c k < lwK nx tl w v c k then v (nx c k) + w * tl c k else lwK nx tl w v c k
section LW
variable {nx tl : Int → Int → Int} {v : Int → Int} {w : Int}
theorem lwK_le (c : Int) (k : Nat) : lwK nx tl w v c k ≤ v c := by
  induction k with
  | zero => exact Int.le_refl _
  | succ k ih =>
    unfold lwK
    split
    · omega
    · exact ih
theorem lwK_way (c : Int) (k : Nat) : lwK nx tl w v c k = v c ∨ ∃ i : Int, 0 ≤ i ∧ i < k ∧ 0 < tl c i ∧ v (nx c i) < 1000000000000000 ∧ lwK nx tl w v c k = v (nx c i) + w * tl c i := by
  induction k with
  | zero => exact Or.inl rfl
  | succ k ih =>
    unfold lwK
    split
    · rename_i q
      exact Or.inr ⟨k, by omega, by omega, q.1, q.2.1, rfl⟩
    · rcases ih with e | ⟨i, a, b, c1, c2, c3⟩
      · exact Or.inl e
      · exact Or.inr ⟨i, a, by omega, c1, c2, c3⟩
theorem lwK_all (c : Int) (k : Nat) : ∀ i : Int, 0 ≤ i → i < k → 0 < tl c i → v (nx c i) < 1000000000000000 → lwK nx tl w v c k ≤ v (nx c i) + w * tl c i := by
  induction k with
  | zero => intro i a b; omega
  | succ k ih =>
    intro i a b h1 h2
    unfold lwK
    by_cases e : i = k
    · subst e
      split
      · exact Int.le_refl _
      · rename_i q
        have : ¬ v (nx c k) + w * tl c k < lwK nx tl w v c k := fun z => q ⟨h1, h2, z⟩
        omega
    · have := ih i a (by omega) h1 h2
      split
      · omega
      · exact this
end LW
section MO3
variable {d : Nat} {h : XH} {K : Int32 → XH → Prop} {KL64 : Int64 → XH → Prop} {KU : XH → Prop} {M : XM} {G : Int} {B : XB} {dd : Int}
/-- what steps cost in a state (0: they can't be) -/
def MLy (h : XH) (B : XB) (dd : Int) (M : XM) (s : Int) : Prop := ∀ c w, 0 ≤ c → c < M.n → 0 ≤ w → w < 4 → zA h 150 (4 * c + w) = max 0 (tlB B dd M s c w)
theorem MBg.fr {P : Nat → Nat → Bool} {h' : XH} (f : Fr P h h') (hp : ∀ j, P 151 j = false) (hK : MBg h B dd M) : MBg h' B dd M := fun c w g a b a2 b2 a3 b3 => by
  rw [f.A (hp _)]; exact hK c w g a b a2 b2 a3 b3
theorem MNr.fr {P : Nat → Nat → Bool} {h' : XH} (f : Fr P h h') (hp : ∀ j, P 152 j = false) (hK : MNr h M) : MNr h' M := fun c a b => by
  rw [f.A (hp _)]; exact hK c a b
theorem tg_max {c way g : Int} (ho : B.ok) (hm : M.ok G) (hd : 0 ≤ dd ∧ dd < B.w) (hg : 0 ≤ g ∧ g < B.g) (hc : 0 ≤ c ∧ c < M.n) : (if why B dd M c way g = 0 then cst B dd M c way g else 0) = max 0 (tg B dd M c way g) := by
  have wi := why_in (B := B) (dd := dd) (M := M) (c := c) (way := way) (g := g)
  unfold tg
  by_cases q : why B dd M c way g = 0
  · rw [if_pos q, if_pos q]
    have hb : 0 ≤ M.nx c way := by
      unfold why at q
      by_cases z : M.nx c way < 0
      · rw [if_pos z] at q; omega
      · omega
    have := cst_in (way := way) ho hm hd hg hc hb
    omega
  · rw [if_neg q, if_neg q]; omega
theorem m_lays {s : Int} (hL : Lay h) (ho : B.ok) (hP : MMp h M) (hm : M.ok B.g) (hd : 0 ≤ dd ∧ dd < B.w) (hK : MLs h M) (hT : MBg h B dd M) (hs : StM M s) (kk : ∀ h', Fr (pA [150]) h h' → MLy h' B dd M s → KU h') : XW (d + 2) 224 0 [.ref 118, .int (iI s), .null, .null, .null] [] h (KV KU) := by
  have o := hm.1
  have hn := M.n_in hm
  have en : M.wd * M.hg = M.n := rfl
  have ob := ho.1
  have hs1 := hs.1
  have inn : ∀ c : Nat, (c : Int) < M.n → (∀ (X Y : Value) (h1 : XH), Fr (pA [150]) h h1 → (∀ c' w : Int, 0 ≤ c' → c' < ((c + 1 : Nat) : Int) → 0 ≤ w → w < 4 → zA h1 150 (4 * c' + w) = max 0 (tlB B dd M s c' w)) → XW (d + 2) 224 2 [.ref 118, .int (iI s), .int (iI ((c + 1 : Nat) : Int)), X, Y] [] h1 (KV KU)) →
      ∀ w : Nat, w ≤ 4 → ∀ (Y : Value) (h1 : XH), Fr (pA [150]) h h1 → (∀ c' w' : Int, 0 ≤ c' → 0 ≤ w' → w' < 4 → c' < c ∨ (c' = c ∧ w' < w) → zA h1 150 (4 * c' + w') = max 0 (tlB B dd M s c' w')) → XW (d + 2) 224 17 [.ref 118, .int (iI s), .int (iI c), .int (iI w), Y] [] h1 (KV KU) := by
    intro c hc nxt
    refine upto _ ?_ ?_
    · intro Y h1 f g
      refine w_iload3 r_224_17 ?_
      refine w_iconst (v := iI (4)) r_224_18 rfl ?_
      refine v_ic_ge r_224_19 (by first | exact zF_in _ _ _ | exact zA_in _ _ _ | omega) (by first | exact zF_in _ _ _ | exact zA_in _ _ _ | omega) (fun _ => ?_) (fun q => absurd q (by omega))
      refine w_iinc2 r_224_112 rfl (iI_add _ _) ?_
      refine w_goto r_224_115 ?_
      exact nxt _ _ h1 f (fun c' w' a b a2 b2 => g c' w' a a2 b2 (by omega))
    · intro w hw ih Y h1 f g
      have hL := f.lay hL
      have hP := hP.fr f (fun a j p q => by simp [pA]; omega) (fun j p q => by simp [pA])
      have hK := hK.fr f (fun j => by simp [pA])
      have hT := hT.fr f (fun j => by simp [pA])
      have hb1 := M.nx_in (way := w) hm ⟨by omega, hc⟩
      have F1 : Fr (pA [150]) h1 (sI h1 150 (4 * (c : Int) + w).toNat (iI 0)) := (Fr.refl _ _).sI 150 _ _ (by simp [pA])
      have done0 : max 0 (tlB B dd M s c w) = 0 → XW (d + 2) 224 17 [.ref 118, .int (iI s), .int (iI c), .int (iI ((w : Int) + 1)), .int (iI (M.nx c w))] [] (sI h1 150 (4 * (c : Int) + w).toNat (iI 0)) (KV KU) := fun z => by
        refine ih _ _ (f.trans F1) (fun c' w' a a2 b2 q => ?_)
        rw [zA_s (by omega) (by omega) (by decide)]
        by_cases z2 : c' = c ∧ w' = w
        · rw [if_pos (by omega), z2.1, z2.2, z]
        · rw [if_neg (by omega)]; exact g c' w' a a2 b2 (by omega)
      by_cases q : M.nx c w < 0
      · have z : max 0 (tlB B dd M s c w) = 0 := by unfold tlB; rw [if_pos q]; decide
        refine w_iload3 r_224_17 ?_
        refine w_iconst (v := iI (4)) r_224_18 rfl ?_
        refine v_ic_ge r_224_19 (by first | exact zF_in _ _ _ | exact zA_in _ _ _ | omega) (by first | exact zF_in _ _ _ | exact zA_in _ _ _ | omega) (fun q => absurd q (by omega)) (fun _ => ?_)
        refine w_aload0 r_224_22 ?_
        refine w_iload2 r_224_23 ?_
        refine w_iload3 r_224_24 ?_
        refine k_206 r_224_25 (Lk_118 hL) (Nat.le_of_ble_eq_true rfl) ?_
        refine m_bs hL hP hm ⟨by omega, hc⟩ (by omega) ?_
        refine w_istore4 r_224_28 rfl ?_
        refine w_aload0 r_224_30 ?_
        refine w_getA (x := 150) r_224_31 (Lk_118 hL) (Lr_118_70 hL) (by decide) ?_
        refine w_iconst (v := iI (4)) r_224_34 rfl ?_
        refine w_iload2 r_224_35 ?_
        refine v_imul r_224_36 ?_
        refine w_iload3 r_224_37 ?_
        refine v_iadd r_224_38 ?_
        refine w_iconst (v := iI (0)) r_224_39 rfl ?_
        refine v_iast r_224_40 (Lk_150 hL) (Ln_150 hL) (Lz_150 hL) (by decide) (by omega) ?_
        refine w_iload4 r_224_41 ?_
        refine v_if_lt r_224_43 (by first | exact zF_in _ _ _ | exact zA_in _ _ _ | omega) (fun _ => ?_) (fun q => absurd q (by omega))
        refine w_iinc3 r_224_106 rfl (iI_add _ _) ?_
        refine w_goto r_224_109 ?_
        exact done0 z
      · have oc := hm.2.1 (M.nx c w) (by omega) (by omega)
        have e136' : gI (sI h1 150 (4 * (c : Int) + w).toNat (iI 0)) 135 (M.nx c w).toNat = iI (M.db (M.nx c w)) := by rw [sI_other _ (by decide)]; exact e136 hP (by omega)
        have hP' := hP.fr F1 (fun a j p q => by simp [pA]; omega) (fun j p q => by simp [pA])
        have hK' := hK.fr F1 (fun j => by simp [pA])
        have fin : ∀ g' : Int, 0 ≤ g' ∧ g' < B.g → tlB B dd M s c w = tg B dd M c w g' → XW (d + 2) 224 17 [.ref 118, .int (iI s), .int (iI c), .int (iI ((w : Int) + 1)), .int (iI (M.nx c w))] [] (sI (sI h1 150 (4 * (c : Int) + w).toNat (iI 0)) 150 (4 * (c : Int) + w).toNat (iI (zA h1 151 (32 * (c : Int) + 8 * w + g')))) (KV KU) := by
          intro g' hg' z
          refine ih _ _ ((f.trans F1).sI 150 _ _ (by simp [pA])) (fun c' w' a a2 b2 q => ?_)
          rw [zA_s (by omega) (by omega) (zA_in _ _ _), zA_s (by omega) (by omega) (by decide)]
          by_cases z2 : c' = c ∧ w' = w
          · rw [if_pos (by omega), z2.1, z2.2, hT c w g' (by omega) hc (by omega) (by omega) hg'.1 hg'.2, tg_max ho hm hd hg' ⟨by omega, hc⟩, z]
          · rw [if_neg (by omega), if_neg (by omega)]; exact g c' w' a a2 b2 (by omega)
        by_cases q2 : M.db (M.nx c w) = -1
        · have z : tlB B dd M s c w = tg B dd M c w (M.gr (M.nx c w)) := by unfold tlB; rw [if_neg q, if_pos q2]
          refine w_iload3 r_224_17 ?_
          refine w_iconst (v := iI (4)) r_224_18 rfl ?_
          refine v_ic_ge r_224_19 (by first | exact zF_in _ _ _ | exact zA_in _ _ _ | omega) (by first | exact zF_in _ _ _ | exact zA_in _ _ _ | omega) (fun q => absurd q (by omega)) (fun _ => ?_)
          refine w_aload0 r_224_22 ?_
          refine w_iload2 r_224_23 ?_
          refine w_iload3 r_224_24 ?_
          refine k_206 r_224_25 (Lk_118 hL) (Nat.le_of_ble_eq_true rfl) ?_
          refine m_bs hL hP hm ⟨by omega, hc⟩ (by omega) ?_
          refine w_istore4 r_224_28 rfl ?_
          refine w_aload0 r_224_30 ?_
          refine w_getA (x := 150) r_224_31 (Lk_118 hL) (Lr_118_70 hL) (by decide) ?_
          refine w_iconst (v := iI (4)) r_224_34 rfl ?_
          refine w_iload2 r_224_35 ?_
          refine v_imul r_224_36 ?_
          refine w_iload3 r_224_37 ?_
          refine v_iadd r_224_38 ?_
          refine w_iconst (v := iI (0)) r_224_39 rfl ?_
          refine v_iast r_224_40 (Lk_150 hL) (Ln_150 hL) (Lz_150 hL) (by decide) (by omega) ?_
          refine w_iload4 r_224_41 ?_
          refine v_if_lt r_224_43 (by first | exact zF_in _ _ _ | exact zA_in _ _ _ | omega) (fun q => absurd q (by omega)) (fun _ => ?_)
          refine w_aload0 r_224_46 ?_
          refine w_getA (x := 135) r_224_47 (Lk_118 hL) (Lr_118_43 hL) (by decide) ?_
          refine w_iload4 r_224_50 ?_
          refine v_iald r_224_52 (Lk_135 hL) (Lz_135 hL) (by decide) (by omega) (e136') ?_
          refine w_iconst (v := iI (-1)) r_224_53 rfl ?_
          refine v_ic_eq r_224_54 (by first | exact zF_in _ _ _ | exact zA_in _ _ _ | omega) (by first | exact zF_in _ _ _ | exact zA_in _ _ _ | omega) (fun _ => ?_) (fun q => absurd q (by omega))
          refine w_aload0 r_224_74 ?_
          refine w_getA (x := 150) r_224_75 (Lk_118 hL) (Lr_118_70 hL) (by decide) ?_
          refine w_iconst (v := iI (4)) r_224_78 rfl ?_
          refine w_iload2 r_224_79 ?_
          refine v_imul r_224_80 ?_
          refine w_iload3 r_224_81 ?_
          refine v_iadd r_224_82 ?_
          refine w_aload0 r_224_83 ?_
          refine w_getA (x := 151) r_224_84 (Lk_118 hL) (Lr_118_71 hL) (by decide) ?_
          refine w_bipush (v := iI (32)) r_224_87 rfl ?_
          refine w_iload2 r_224_89 ?_
          refine v_imul r_224_90 ?_
          refine w_bipush (v := iI (8)) r_224_91 rfl ?_
          refine w_iload3 r_224_93 ?_
          refine v_imul r_224_94 ?_
          refine v_iadd r_224_95 ?_
          refine w_aload0 r_224_96 ?_
          refine w_iload4 r_224_97 ?_
          refine w_iload1 r_224_99 ?_
          refine k_222 r_224_100 (Lk_118 hL) (Nat.le_of_ble_eq_true rfl) ?_
          refine m_floorOf hL hP' hm hK' (by omega) hs1 (fun z => by omega) ?_
          rw [if_pos q2] 
          refine v_iadd r_224_103 ?_
          refine v_iald r_224_104 (Lk_151 hL) (Lz_151 hL) (by decide) (by omega) (show gI _ 151 (32 * (c : Int) + 8 * w + M.gr (M.nx c w)).toNat = iI (zA h1 151 (32 * (c : Int) + 8 * w + M.gr (M.nx c w))) from by rw [sI_other _ (by decide)]; exact gI_A _ _ _) ?_
          refine v_iast r_224_105 (Lk_150 hL) (Ln_150 hL) (Lz_150 hL) (by decide) (by omega) ?_
          refine w_iinc3 r_224_106 rfl (iI_add _ _) ?_
          refine w_goto r_224_109 ?_
          exact fin _ ⟨oc.2.2.1, oc.2.2.2.1⟩ z
        · have di := dg_in s (M.db (M.nx c w))
          have dm := (hs.2 (M.db (M.nx c w)) (by omega) (by omega)).1 (by omega)
          by_cases q3 : dg s (M.db (M.nx c w)) = 0
          · have z : max 0 (tlB B dd M s c w) = 0 := by unfold tlB; rw [if_neg q, if_neg q2, if_pos q3]; decide
            refine w_iload3 r_224_17 ?_
            refine w_iconst (v := iI (4)) r_224_18 rfl ?_
            refine v_ic_ge r_224_19 (by first | exact zF_in _ _ _ | exact zA_in _ _ _ | omega) (by first | exact zF_in _ _ _ | exact zA_in _ _ _ | omega) (fun q => absurd q (by omega)) (fun _ => ?_)
            refine w_aload0 r_224_22 ?_
            refine w_iload2 r_224_23 ?_
            refine w_iload3 r_224_24 ?_
            refine k_206 r_224_25 (Lk_118 hL) (Nat.le_of_ble_eq_true rfl) ?_
            refine m_bs hL hP hm ⟨by omega, hc⟩ (by omega) ?_
            refine w_istore4 r_224_28 rfl ?_
            refine w_aload0 r_224_30 ?_
            refine w_getA (x := 150) r_224_31 (Lk_118 hL) (Lr_118_70 hL) (by decide) ?_
            refine w_iconst (v := iI (4)) r_224_34 rfl ?_
            refine w_iload2 r_224_35 ?_
            refine v_imul r_224_36 ?_
            refine w_iload3 r_224_37 ?_
            refine v_iadd r_224_38 ?_
            refine w_iconst (v := iI (0)) r_224_39 rfl ?_
            refine v_iast r_224_40 (Lk_150 hL) (Ln_150 hL) (Lz_150 hL) (by decide) (by omega) ?_
            refine w_iload4 r_224_41 ?_
            refine v_if_lt r_224_43 (by first | exact zF_in _ _ _ | exact zA_in _ _ _ | omega) (fun q => absurd q (by omega)) (fun _ => ?_)
            refine w_aload0 r_224_46 ?_
            refine w_getA (x := 135) r_224_47 (Lk_118 hL) (Lr_118_43 hL) (by decide) ?_
            refine w_iload4 r_224_50 ?_
            refine v_iald r_224_52 (Lk_135 hL) (Lz_135 hL) (by decide) (by omega) (e136') ?_
            refine w_iconst (v := iI (-1)) r_224_53 rfl ?_
            refine v_ic_eq r_224_54 (by first | exact zF_in _ _ _ | exact zA_in _ _ _ | omega) (by first | exact zF_in _ _ _ | exact zA_in _ _ _ | omega) (fun q => absurd q (by omega)) (fun _ => ?_)
            refine w_iload1 r_224_57 ?_
            refine w_aload0 r_224_58 ?_
            refine w_getA (x := 135) r_224_59 (Lk_118 hL) (Lr_118_43 hL) (by decide) ?_
            refine w_iload4 r_224_62 ?_
            refine v_iald r_224_64 (Lk_135 hL) (Lz_135 hL) (by decide) (by omega) (e136') ?_
            refine k_213 r_224_65 (Nat.le_of_ble_eq_true rfl) ?_
            refine m_digit (by omega) (by omega) ?_
            refine v_if_ne r_224_68 (by first | exact zF_in _ _ _ | exact zA_in _ _ _ | omega) (fun q => absurd q (by omega)) (fun _ => ?_)
            refine w_goto r_224_71 ?_
            refine w_iinc3 r_224_106 rfl (iI_add _ _) ?_
            refine w_goto r_224_109 ?_
            exact done0 z
          · have z : tlB B dd M s c w = tg B dd M c w (chc M (M.db (M.nx c w)) (dg s (M.db (M.nx c w)) - 1)) := by unfold tlB; rw [if_neg q, if_neg q2, if_neg q3]
            have ci := chc_any (i := dg s (M.db (M.nx c w)) - 1) hm (e := M.db (M.nx c w)) (by omega)
            refine w_iload3 r_224_17 ?_
            refine w_iconst (v := iI (4)) r_224_18 rfl ?_
            refine v_ic_ge r_224_19 (by first | exact zF_in _ _ _ | exact zA_in _ _ _ | omega) (by first | exact zF_in _ _ _ | exact zA_in _ _ _ | omega) (fun q => absurd q (by omega)) (fun _ => ?_)
            refine w_aload0 r_224_22 ?_
            refine w_iload2 r_224_23 ?_
            refine w_iload3 r_224_24 ?_
            refine k_206 r_224_25 (Lk_118 hL) (Nat.le_of_ble_eq_true rfl) ?_
            refine m_bs hL hP hm ⟨by omega, hc⟩ (by omega) ?_
            refine w_istore4 r_224_28 rfl ?_
            refine w_aload0 r_224_30 ?_
            refine w_getA (x := 150) r_224_31 (Lk_118 hL) (Lr_118_70 hL) (by decide) ?_
            refine w_iconst (v := iI (4)) r_224_34 rfl ?_
            refine w_iload2 r_224_35 ?_
            refine v_imul r_224_36 ?_
            refine w_iload3 r_224_37 ?_
            refine v_iadd r_224_38 ?_
            refine w_iconst (v := iI (0)) r_224_39 rfl ?_
            refine v_iast r_224_40 (Lk_150 hL) (Ln_150 hL) (Lz_150 hL) (by decide) (by omega) ?_
            refine w_iload4 r_224_41 ?_
            refine v_if_lt r_224_43 (by first | exact zF_in _ _ _ | exact zA_in _ _ _ | omega) (fun q => absurd q (by omega)) (fun _ => ?_)
            refine w_aload0 r_224_46 ?_
            refine w_getA (x := 135) r_224_47 (Lk_118 hL) (Lr_118_43 hL) (by decide) ?_
            refine w_iload4 r_224_50 ?_
            refine v_iald r_224_52 (Lk_135 hL) (Lz_135 hL) (by decide) (by omega) (e136') ?_
            refine w_iconst (v := iI (-1)) r_224_53 rfl ?_
            refine v_ic_eq r_224_54 (by first | exact zF_in _ _ _ | exact zA_in _ _ _ | omega) (by first | exact zF_in _ _ _ | exact zA_in _ _ _ | omega) (fun q => absurd q (by omega)) (fun _ => ?_)
            refine w_iload1 r_224_57 ?_
            refine w_aload0 r_224_58 ?_
            refine w_getA (x := 135) r_224_59 (Lk_118 hL) (Lr_118_43 hL) (by decide) ?_
            refine w_iload4 r_224_62 ?_
            refine v_iald r_224_64 (Lk_135 hL) (Lz_135 hL) (by decide) (by omega) (e136') ?_
            refine k_213 r_224_65 (Nat.le_of_ble_eq_true rfl) ?_
            refine m_digit (by omega) (by omega) ?_
            refine v_if_ne r_224_68 (by first | exact zF_in _ _ _ | exact zA_in _ _ _ | omega) (fun _ => ?_) (fun q => absurd q (by omega))
            refine w_aload0 r_224_74 ?_
            refine w_getA (x := 150) r_224_75 (Lk_118 hL) (Lr_118_70 hL) (by decide) ?_
            refine w_iconst (v := iI (4)) r_224_78 rfl ?_
            refine w_iload2 r_224_79 ?_
            refine v_imul r_224_80 ?_
            refine w_iload3 r_224_81 ?_
            refine v_iadd r_224_82 ?_
            refine w_aload0 r_224_83 ?_
            refine w_getA (x := 151) r_224_84 (Lk_118 hL) (Lr_118_71 hL) (by decide) ?_
            refine w_bipush (v := iI (32)) r_224_87 rfl ?_
            refine w_iload2 r_224_89 ?_
            refine v_imul r_224_90 ?_
            refine w_bipush (v := iI (8)) r_224_91 rfl ?_
            refine w_iload3 r_224_93 ?_
            refine v_imul r_224_94 ?_
            refine v_iadd r_224_95 ?_
            refine w_aload0 r_224_96 ?_
            refine w_iload4 r_224_97 ?_
            refine w_iload1 r_224_99 ?_
            refine k_222 r_224_100 (Lk_118 hL) (Nat.le_of_ble_eq_true rfl) ?_
            refine m_floorOf hL hP' hm hK' (by omega) hs1 (fun z => by omega) ?_
            rw [if_neg q2] 
            refine v_iadd r_224_103 ?_
            refine v_iald r_224_104 (Lk_151 hL) (Lz_151 hL) (by decide) (by omega) (show gI _ 151 (32 * (c : Int) + 8 * w + chc M (M.db (M.nx c w)) (dg s (M.db (M.nx c w)) - 1)).toNat = iI (zA h1 151 (32 * (c : Int) + 8 * w + chc M (M.db (M.nx c w)) (dg s (M.db (M.nx c w)) - 1))) from by rw [sI_other _ (by decide)]; exact gI_A _ _ _) ?_
            refine v_iast r_224_105 (Lk_150 hL) (Ln_150 hL) (Lz_150 hL) (by decide) (by omega) ?_
            refine w_iinc3 r_224_106 rfl (iI_add _ _) ?_
            refine w_goto r_224_109 ?_
            exact fin _ ci z
  have key : ∀ c : Nat, c ≤ M.n.toNat → ∀ (X Y : Value) (h1 : XH), Fr (pA [150]) h h1 → (∀ c' w : Int, 0 ≤ c' → c' < c → 0 ≤ w → w < 4 → zA h1 150 (4 * c' + w) = max 0 (tlB B dd M s c' w)) → XW (d + 2) 224 2 [.ref 118, .int (iI s), .int (iI c), X, Y] [] h1 (KV KU) := by
    refine upto _ ?_ ?_
    · intro X Y h1 f g
      have hL := f.lay hL
      have hP := hP.fr f (fun a j p q => by simp [pA]; omega) (fun j p q => by simp [pA])
      refine w_iload2 r_224_2 ?_
      refine w_aload0 r_224_3 ?_
      refine v_getI r_224_4 (Lk_118 hL) (hP.f35 hm) ?_
      refine w_aload0 r_224_7 ?_
      refine v_getI r_224_8 (Lk_118 hL) (hP.f36 hm) ?_
      refine v_imul r_224_11 ?_
      rw [en] 
      refine v_ic_ge r_224_12 (by first | exact zF_in _ _ _ | exact zA_in _ _ _ | omega) (by first | exact zF_in _ _ _ | exact zA_in _ _ _ | omega) (fun _ => ?_) (fun q => absurd q (by omega))
      refine w_vret r_224_118 ?_
      exact kk h1 f (fun c w a b a2 b2 => g c w a (by omega) a2 b2)
    · intro c hc ih X Y h1 f g
      have hL := f.lay hL
      have hP := hP.fr f (fun a j p q => by simp [pA]; omega) (fun j p q => by simp [pA])
      refine w_iload2 r_224_2 ?_
      refine w_aload0 r_224_3 ?_
      refine v_getI r_224_4 (Lk_118 hL) (hP.f35 hm) ?_
      refine w_aload0 r_224_7 ?_
      refine v_getI r_224_8 (Lk_118 hL) (hP.f36 hm) ?_
      refine v_imul r_224_11 ?_
      rw [en] 
      refine v_ic_ge r_224_12 (by first | exact zF_in _ _ _ | exact zA_in _ _ _ | omega) (by first | exact zF_in _ _ _ | exact zA_in _ _ _ | omega) (fun q => absurd q (by omega)) (fun _ => ?_)
      refine w_iconst (v := iI (0)) r_224_15 rfl ?_
      refine w_istore3 r_224_16 rfl ?_
      exact inn c (by omega) ih 0 (by omega) Y h1 f (fun c' w' a a2 b2 q => g c' w' a (by omega) a2 b2)
  refine w_iconst (v := iI (0)) r_224_0 rfl ?_
  refine w_istore2 r_224_1 rfl ?_
  exact key 0 (by omega) .null .null h (Fr.refl _ _) (fun c' w' a b => by omega)
/-- a row of the Model's values -/
def vr (h : XH) (s c : Int) : Int := zL h 140 (100 * s + c)
theorem m_lower {s c w : Int} {v : Int → Int} (hL : Lay h) (hP : MMp h M) (hm : M.ok G) (hY : MLy h B dd M s) (hs : 0 ≤ s ∧ s < 1024) (hc : 0 ≤ c ∧ c < M.n) (hw : 1 ≤ w ∧ w ≤ 14348907) (ht : ∀ i, 0 ≤ i → i < 4 → 0 < tlB B dd M s c i → tlB B dd M s c i ≤ 40101 ∧ 0 ≤ M.nx c i ∧ M.nx c i < M.n) (hv : ∀ c', 0 ≤ c' → c' < M.n → vr h s c' = v c' ∧ 0 ≤ v c' ∧ v c' ≤ 1000000000000000) (kk : KL64 (iL (lwK M.nx (tlB B dd M s) w v c 4)) h) :
    XW (d + 2) 227 0 [.ref 118, .int (iI s), .int (iI c), .long (iL w), .null, .null, .null, .null, .null, .null] [] h (KL KL64) := by
  have o := hm.1
  have hn := M.n_in hm
  have ev : ∀ c', 0 ≤ c' → c' < M.n → gL h 140 (100 * s + c').toNat = iL (v c') := fun c' a b => by rw [gL_A]; rw [show zL h 140 (100 * s + c') = v c' from (hv c' a b).1]
  have key : ∀ k : Nat, k ≤ 4 → ∀ X Y : Value, KL64 (iL (lwK M.nx (tlB B dd M s) w v c 4)) h → XW (d + 2) 227 16 [.ref 118, .int (iI s), .int (iI c), .long (iL w), .null, .long (iL (lwK M.nx (tlB B dd M s) w v c k)), .null, .int (iI k), X, Y] [] h (KL KL64) := by
    refine upto _ ?_ ?_
    · intro X Y kk
      refine w_iload7 r_227_16 ?_
      refine w_iconst (v := iI (4)) r_227_18 rfl ?_
      refine v_ic_ge r_227_19 (by first | exact zF_in _ _ _ | exact zA_in _ _ _ | omega) (by first | exact zF_in _ _ _ | exact zA_in _ _ _ | omega) (fun _ => ?_) (fun q => absurd q (by omega))
      refine w_lload5 r_227_115 ?_
      refine w_lret r_227_117 ?_
      exact kk
    · intro k hk ih X Y kk
      have e151 : gI h 150 (4 * c + (k : Int)).toNat = iI (max 0 (tlB B dd M s c k)) := by rw [gI_A, hY c k hc.1 hc.2 (by omega) (by omega)]
      have vc := hv c hc.1 hc.2
      have lb := lwK_le (nx := M.nx) (tl := tlB B dd M s) (w := w) (v := v) c k
      have ln : 0 ≤ lwK M.nx (tlB B dd M s) w v c k := by
        rcases lwK_way (nx := M.nx) (tl := tlB B dd M s) (w := w) (v := v) c k with e | ⟨i, a, b, c1, c2, c3⟩
        · omega
        · have t := ht i a (by omega) c1
          have := hv _ t.2.1 t.2.2
          have := Int.mul_nonneg (show 0 ≤ w by omega) (show 0 ≤ tlB B dd M s c i by omega)
          omega
      have ek : lwK M.nx (tlB B dd M s) w v c (k + 1) = if 0 < tlB B dd M s c k ∧ v (M.nx c k) < 1000000000000000 ∧ v (M.nx c k) + w * tlB B dd M s c k < lwK M.nx (tlB B dd M s) w v c k then v (M.nx c k) + w * tlB B dd M s c k else lwK M.nx (tlB B dd M s) w v c k := rfl
      rw [ek] at ih
      generalize hb : lwK M.nx (tlB B dd M s) w v c k = b at *
      by_cases q : 0 < tlB B dd M s c k
      · have t := ht k (by omega) (by omega) q
        have vn := hv _ t.2.1 t.2.2
        have mt : max 0 (tlB B dd M s c k) = tlB B dd M s c k := by omega
        rw [mt] at e151
        have mm := mul_in (a := w) (b := tlB B dd M s c k) (A := 14348907) (B := 40101) (by omega) (by omega)
        by_cases q2 : v (M.nx c k) < 1000000000000000
        · by_cases q3 : v (M.nx c k) + w * tlB B dd M s c k < b
          · rw [if_pos ⟨q, q2, q3⟩] at ih
            refine w_iload7 r_227_16 ?_
            refine w_iconst (v := iI (4)) r_227_18 rfl ?_
            refine v_ic_ge r_227_19 (by first | exact zF_in _ _ _ | exact zA_in _ _ _ | omega) (by first | exact zF_in _ _ _ | exact zA_in _ _ _ | omega) (fun q => absurd q (by omega)) (fun _ => ?_)
            refine w_aload0 r_227_22 ?_
            refine w_getA (x := 150) r_227_23 (Lk_118 hL) (Lr_118_70 hL) (by decide) ?_
            refine w_iconst (v := iI (4)) r_227_26 rfl ?_
            refine w_iload2 r_227_27 ?_
            refine v_imul r_227_28 ?_
            refine w_iload7 r_227_29 ?_
            refine v_iadd r_227_31 ?_
            refine v_iald r_227_32 (Lk_150 hL) (Lz_150 hL) (by decide) (by omega) e151 ?_
            refine v_if_ne r_227_33 (by first | exact zF_in _ _ _ | exact zA_in _ _ _ | omega) (fun _ => ?_) (fun q => absurd q (by omega))
            refine w_aload0 r_227_39 ?_
            refine w_getA (x := 140) r_227_40 (Lk_118 hL) (Lr_118_48 hL) (by decide) ?_
            refine w_bipush (v := iI (100)) r_227_43 rfl ?_
            refine w_iload1 r_227_45 ?_
            refine v_imul r_227_46 ?_
            refine w_aload0 r_227_47 ?_
            refine w_iload2 r_227_48 ?_
            refine w_iload7 r_227_49 ?_
            refine k_206 r_227_51 (Lk_118 hL) (Nat.le_of_ble_eq_true rfl) ?_
            refine m_bs hL hP hm hc (by omega) ?_
            refine v_iadd r_227_54 ?_
            refine v_lald r_227_55 (Lk_140 hL) (Lz_140 hL) (by decide) (by omega) (ev _ t.2.1 t.2.2) ?_
            refine w_lstore8 r_227_56 rfl ?_
            refine w_lload8 r_227_58 ?_
            refine w_ldc2 (v := iL (1000000000000000)) r_227_60 rfl ?_
            refine v_lcmp r_227_63 (by first | exact zF_in _ _ _ | exact zA_in _ _ _ | omega) (by first | exact zF_in _ _ _ | exact zA_in _ _ _ | omega) ?_
            rw [if_neg (by omega), if_neg (by omega)] 
            refine v_if_ge r_227_64 (by first | exact zF_in _ _ _ | exact zA_in _ _ _ | omega) (fun q => absurd q (by decide)) (fun _ => ?_)
            refine w_lload8 r_227_67 ?_
            refine w_lload3 r_227_69 ?_
            refine w_aload0 r_227_70 ?_
            refine w_getA (x := 150) r_227_71 (Lk_118 hL) (Lr_118_70 hL) (by decide) ?_
            refine w_iconst (v := iI (4)) r_227_74 rfl ?_
            refine w_iload2 r_227_75 ?_
            refine v_imul r_227_76 ?_
            refine w_iload7 r_227_77 ?_
            refine v_iadd r_227_79 ?_
            refine v_iald r_227_80 (Lk_150 hL) (Lz_150 hL) (by decide) (by omega) e151 ?_
            refine v_i2l r_227_81 (by first | exact zF_in _ _ _ | exact zA_in _ _ _ | omega) ?_
            refine v_lmul r_227_82 ?_
            refine v_ladd r_227_83 ?_
            refine w_lload5 r_227_84 ?_
            refine v_lcmp r_227_86 (by first | exact zF_in _ _ _ | exact zA_in _ _ _ | omega) (by first | exact zF_in _ _ _ | exact zA_in _ _ _ | omega) ?_
            rw [if_neg (by omega), if_neg (by omega)] 
            refine v_if_ge r_227_87 (by first | exact zF_in _ _ _ | exact zA_in _ _ _ | omega) (fun q => absurd q (by decide)) (fun _ => ?_)
            refine w_lload8 r_227_90 ?_
            refine w_lload3 r_227_92 ?_
            refine w_aload0 r_227_93 ?_
            refine w_getA (x := 150) r_227_94 (Lk_118 hL) (Lr_118_70 hL) (by decide) ?_
            refine w_iconst (v := iI (4)) r_227_97 rfl ?_
            refine w_iload2 r_227_98 ?_
            refine v_imul r_227_99 ?_
            refine w_iload7 r_227_100 ?_
            refine v_iadd r_227_102 ?_
            refine v_iald r_227_103 (Lk_150 hL) (Lz_150 hL) (by decide) (by omega) e151 ?_
            refine v_i2l r_227_104 (by first | exact zF_in _ _ _ | exact zA_in _ _ _ | omega) ?_
            refine v_lmul r_227_105 ?_
            refine v_ladd r_227_106 ?_
            refine w_lstore5 r_227_107 rfl ?_
            refine w_iinc7 r_227_109 rfl (iI_add _ _) ?_
            refine w_goto r_227_112 ?_
            exact ih _ _ kk
          · rw [if_neg (fun z => q3 z.2.2)] at ih
            refine w_iload7 r_227_16 ?_
            refine w_iconst (v := iI (4)) r_227_18 rfl ?_
            refine v_ic_ge r_227_19 (by first | exact zF_in _ _ _ | exact zA_in _ _ _ | omega) (by first | exact zF_in _ _ _ | exact zA_in _ _ _ | omega) (fun q => absurd q (by omega)) (fun _ => ?_)
            refine w_aload0 r_227_22 ?_
            refine w_getA (x := 150) r_227_23 (Lk_118 hL) (Lr_118_70 hL) (by decide) ?_
            refine w_iconst (v := iI (4)) r_227_26 rfl ?_
            refine w_iload2 r_227_27 ?_
            refine v_imul r_227_28 ?_
            refine w_iload7 r_227_29 ?_
            refine v_iadd r_227_31 ?_
            refine v_iald r_227_32 (Lk_150 hL) (Lz_150 hL) (by decide) (by omega) e151 ?_
            refine v_if_ne r_227_33 (by first | exact zF_in _ _ _ | exact zA_in _ _ _ | omega) (fun _ => ?_) (fun q => absurd q (by omega))
            refine w_aload0 r_227_39 ?_
            refine w_getA (x := 140) r_227_40 (Lk_118 hL) (Lr_118_48 hL) (by decide) ?_
            refine w_bipush (v := iI (100)) r_227_43 rfl ?_
            refine w_iload1 r_227_45 ?_
            refine v_imul r_227_46 ?_
            refine w_aload0 r_227_47 ?_
            refine w_iload2 r_227_48 ?_
            refine w_iload7 r_227_49 ?_
            refine k_206 r_227_51 (Lk_118 hL) (Nat.le_of_ble_eq_true rfl) ?_
            refine m_bs hL hP hm hc (by omega) ?_
            refine v_iadd r_227_54 ?_
            refine v_lald r_227_55 (Lk_140 hL) (Lz_140 hL) (by decide) (by omega) (ev _ t.2.1 t.2.2) ?_
            refine w_lstore8 r_227_56 rfl ?_
            refine w_lload8 r_227_58 ?_
            refine w_ldc2 (v := iL (1000000000000000)) r_227_60 rfl ?_
            refine v_lcmp r_227_63 (by first | exact zF_in _ _ _ | exact zA_in _ _ _ | omega) (by first | exact zF_in _ _ _ | exact zA_in _ _ _ | omega) ?_
            rw [if_neg (by omega), if_neg (by omega)] 
            refine v_if_ge r_227_64 (by first | exact zF_in _ _ _ | exact zA_in _ _ _ | omega) (fun q => absurd q (by decide)) (fun _ => ?_)
            refine w_lload8 r_227_67 ?_
            refine w_lload3 r_227_69 ?_
            refine w_aload0 r_227_70 ?_
            refine w_getA (x := 150) r_227_71 (Lk_118 hL) (Lr_118_70 hL) (by decide) ?_
            refine w_iconst (v := iI (4)) r_227_74 rfl ?_
            refine w_iload2 r_227_75 ?_
            refine v_imul r_227_76 ?_
            refine w_iload7 r_227_77 ?_
            refine v_iadd r_227_79 ?_
            refine v_iald r_227_80 (Lk_150 hL) (Lz_150 hL) (by decide) (by omega) e151 ?_
            refine v_i2l r_227_81 (by first | exact zF_in _ _ _ | exact zA_in _ _ _ | omega) ?_
            refine v_lmul r_227_82 ?_
            refine v_ladd r_227_83 ?_
            refine w_lload5 r_227_84 ?_
            refine v_lcmp r_227_86 (by first | exact zF_in _ _ _ | exact zA_in _ _ _ | omega) (by first | exact zF_in _ _ _ | exact zA_in _ _ _ | omega) ?_
            refine v_if_ge r_227_87 (by repeat' split; all_goals omega) (fun _ => ?_) (fun q => absurd q (by repeat' split; all_goals omega))
            refine w_iinc7 r_227_109 rfl (iI_add _ _) ?_
            refine w_goto r_227_112 ?_
            exact ih _ _ kk
        · rw [if_neg (fun z => q2 z.2.1)] at ih
          refine w_iload7 r_227_16 ?_
          refine w_iconst (v := iI (4)) r_227_18 rfl ?_
          refine v_ic_ge r_227_19 (by first | exact zF_in _ _ _ | exact zA_in _ _ _ | omega) (by first | exact zF_in _ _ _ | exact zA_in _ _ _ | omega) (fun q => absurd q (by omega)) (fun _ => ?_)
          refine w_aload0 r_227_22 ?_
          refine w_getA (x := 150) r_227_23 (Lk_118 hL) (Lr_118_70 hL) (by decide) ?_
          refine w_iconst (v := iI (4)) r_227_26 rfl ?_
          refine w_iload2 r_227_27 ?_
          refine v_imul r_227_28 ?_
          refine w_iload7 r_227_29 ?_
          refine v_iadd r_227_31 ?_
          refine v_iald r_227_32 (Lk_150 hL) (Lz_150 hL) (by decide) (by omega) e151 ?_
          refine v_if_ne r_227_33 (by first | exact zF_in _ _ _ | exact zA_in _ _ _ | omega) (fun _ => ?_) (fun q => absurd q (by omega))
          refine w_aload0 r_227_39 ?_
          refine w_getA (x := 140) r_227_40 (Lk_118 hL) (Lr_118_48 hL) (by decide) ?_
          refine w_bipush (v := iI (100)) r_227_43 rfl ?_
          refine w_iload1 r_227_45 ?_
          refine v_imul r_227_46 ?_
          refine w_aload0 r_227_47 ?_
          refine w_iload2 r_227_48 ?_
          refine w_iload7 r_227_49 ?_
          refine k_206 r_227_51 (Lk_118 hL) (Nat.le_of_ble_eq_true rfl) ?_
          refine m_bs hL hP hm hc (by omega) ?_
          refine v_iadd r_227_54 ?_
          refine v_lald r_227_55 (Lk_140 hL) (Lz_140 hL) (by decide) (by omega) (ev _ t.2.1 t.2.2) ?_
          refine w_lstore8 r_227_56 rfl ?_
          refine w_lload8 r_227_58 ?_
          refine w_ldc2 (v := iL (1000000000000000)) r_227_60 rfl ?_
          refine v_lcmp r_227_63 (by first | exact zF_in _ _ _ | exact zA_in _ _ _ | omega) (by first | exact zF_in _ _ _ | exact zA_in _ _ _ | omega) ?_
          rw [if_neg (by omega), if_pos (by omega)] 
          refine v_if_ge r_227_64 (by first | exact zF_in _ _ _ | exact zA_in _ _ _ | omega) (fun _ => ?_) (fun q => absurd q (by decide))
          refine w_iinc7 r_227_109 rfl (iI_add _ _) ?_
          refine w_goto r_227_112 ?_
          exact ih _ _ kk
      · rw [if_neg (fun z => q z.1)] at ih
        have mt : max 0 (tlB B dd M s c k) = 0 := by omega
        rw [mt] at e151
        refine w_iload7 r_227_16 ?_
        refine w_iconst (v := iI (4)) r_227_18 rfl ?_
        refine v_ic_ge r_227_19 (by first | exact zF_in _ _ _ | exact zA_in _ _ _ | omega) (by first | exact zF_in _ _ _ | exact zA_in _ _ _ | omega) (fun q => absurd q (by omega)) (fun _ => ?_)
        refine w_aload0 r_227_22 ?_
        refine w_getA (x := 150) r_227_23 (Lk_118 hL) (Lr_118_70 hL) (by decide) ?_
        refine w_iconst (v := iI (4)) r_227_26 rfl ?_
        refine w_iload2 r_227_27 ?_
        refine v_imul r_227_28 ?_
        refine w_iload7 r_227_29 ?_
        refine v_iadd r_227_31 ?_
        refine v_iald r_227_32 (Lk_150 hL) (Lz_150 hL) (by decide) (by omega) e151 ?_
        refine v_if_ne r_227_33 (by first | exact zF_in _ _ _ | exact zA_in _ _ _ | omega) (fun q => absurd q (by omega)) (fun _ => ?_)
        refine w_goto r_227_36 ?_
        refine w_iinc7 r_227_109 rfl (iI_add _ _) ?_
        refine w_goto r_227_112 ?_
        exact ih _ _ kk
  refine w_aload0 r_227_0 ?_
  refine w_getA (x := 140) r_227_1 (Lk_118 hL) (Lr_118_48 hL) (by decide) ?_
  refine w_bipush (v := iI (100)) r_227_4 rfl ?_
  refine w_iload1 r_227_6 ?_
  refine v_imul r_227_7 ?_
  refine w_iload2 r_227_8 ?_
  refine v_iadd r_227_9 ?_
  refine v_lald r_227_10 (Lk_140 hL) (Lz_140 hL) (by decide) (by omega) (ev c hc.1 hc.2) ?_
  refine w_lstore5 r_227_11 rfl ?_
  refine w_iconst (v := iI (0)) r_227_13 rfl ?_
  refine w_istore7 r_227_14 rfl ?_
  exact key 0 (by omega) .null .null kk
end MO3
