/-! the class reads a plan: steps, ifs, blocks -/
section CPS
variable {d : Nat} {h : XH} {K : Int32 → XH → Prop} {KU : XH → Prop} {τ : XT} {k st nd : Int} {pa rb : Nat} {B : XB} {p : XL} {l : List (Bool × Int)}
/-- what a reading may come to: a fault -/
def OkF (τ : XT) (B : XB) (nd : Int) (pa : Nat) (h : XH) (x : Bool × XS) (K : Int32 → XH → Prop) : Prop := ∀ e, Ends τ B nd x (.inl e) → ∀ h', Fr (pP pa) h h' → BL h' e → K (iI 0) h'
/-- or a step's end, with the same blocks open -/
def OkT (τ : XT) (B : XB) (nd : Int) (pa : Nat) (h : XH) (x : Bool × XS) (l : List (Bool × Int)) (Q : Int → Prop) (K : Int32 → XH → Prop) : Prop := ∀ k' st' p', x.2.2.1 < st' → (∀ r, Ends τ B nd (true, (k', st', p', l)) r → Ends τ B nd x r) → SOk nd (k', st', p', l) → Q k' → ∀ h', Fr (pP pa) h h' → TC h' τ k' → PlC h' pa st' p' l → zF h' 3 7 = zF h 3 7 → K (iI 1) h'
theorem PCx.pos (c : PCx τ B nd pa rb h) (hT : TC h τ k) : (0 ≤ τ.a k ∧ τ.a k ≤ 500) ∧ (0 ≤ τ.e k ∧ τ.e k ≤ τ.2) ∧ (0 ≤ τ.k k ∧ τ.k k ≤ 59) := TC.pos c.2.2.1 hT
theorem fr37 {h' : XH} (f : Fr PTk h h') : zF h' 3 7 = zF h 3 7 := f.F (by simp [pF])
theorem pl37 {h' : XH} (hp : Pl pa) (f : Fr (fun a _ => decide (pa ≤ a) && decide (a ≤ pa + 4)) h h') : zF h' 3 7 = zF h 3 7 := f.F (by have := hp.ne; simp; omega)
theorem plTC {h' : XH} (hp : Pl pa) (f : Fr (fun a _ => decide (pa ≤ a) && decide (a ≤ pa + 4)) h h') (T : TC h τ k) : TC h' τ k := T.fr f (fun j => by left; have := hp.ne; simp; omega)
theorem c_readMove (hp : Pl pa) (hb : rb = 6 ∨ rb = 20) (hC : PCx τ B nd pa rb h) (hk : 0 ≤ k ∧ k ≤ τ.2) (hT : TC h τ (τ.e k)) (hP : PlC h pa (st + 1) p l) (hS : SOk nd (k, st, p, l)) (hw : ¬ τ.way k = -1) (h40 : st < 40)
    (kf : OkF τ B nd pa h (false, (k, st, p, l)) K) (kt : OkT τ B nd pa h (false, (k, st, p, l)) l (fun _ => True) K) : XW (d + 3) 73 0 [.ref 5, .int (iI (τ.way k)), .null] [] h (KI K) := by
  have n := hp.ne
  have hL := hC.1
  have q := hC.pos hT
  have wi := way_in τ k
  have b2 : p.z + opF l ≤ 2 * st := hS.2.1.2
  have b1 : 0 ≤ p.z := hS.2.1.1
  have o0 := opF_nn l
  have ni := way_if hw
  have ad : ∀ (t k' : Int) (g : XH), 1 ≤ t ∧ t ≤ 9 → sOpen τ B nd (k, st, p, l) = .inr (false, (k', st + 1, pAdd p (τ.way k) t (-1), l)) → Fr (pP pa) h g → PCx τ B nd pa rb g → TC g τ k' → PlC g pa (st + 1) p l → zF g 3 7 = zF h 3 7 → XW (d + 3) 73 31 [.ref 5, .int (iI (τ.way k)), .int (iI t)] [] g (KI K) := by
    intro t k' g ht so fg hC Tg Pg z7
    have hL := hC.1
    have R := fun g2 (f2 : Fr (fun a _ => decide (pa ≤ a) && decide (a ≤ pa + 4)) g g2) p2 => kt k' (st + 1) (pAdd p (τ.way k) t (-1)) (by show st < st + 1; omega) (fun r e => open_m so e) (hS.add h40 (by omega) ht) trivial g2 (fg.trans (pP_pl f2)) (plTC hp f2 Tg) p2 (by rw [pl37 hp f2]; exact z7)
    refine w_aload0 r_73_31 ?_
    refine w_getA (x := pa) r_73_32 (Lk_5 hL) hC.2.2.2.1.1 (Plk hL hp).2.2 ?_
    refine w_iload1 r_73_35 ?_
    refine w_iload2 r_73_36 ?_
    refine w_iconst (v := iI (-1)) r_73_37 rfl ?_
    refine k_67 r_73_38 (Plk hL hp).1 (Nat.le_of_ble_eq_true rfl) ?_
    refine c_add (d := d + 2) (l' := l) hL hp (by omega) Pg (by omega) (by omega) (by decide) (fun z => by omega) (fun i e m => ⟨e, m⟩) (fun g2 f2 p2 => ?_)
    refine w_iconst (v := iI (-1)) r_73_41 rfl ?_
    refine v_ic_ne r_73_42 (by first | exact zF_in _ _ _ | exact zA_in _ _ _ | omega) (by first | exact zF_in _ _ _ | exact zA_in _ _ _ | omega) (fun _ => ?_) (fun q => absurd q (by omega))
    refine w_iconst (v := iI (1)) r_73_56 rfl ?_
    refine w_goto r_73_57 ?_
    refine w_zret r_73_61 (by decide) ?_
    exact R g2 f2 p2
  have s0 : ¬ (τ.way k = -1 ∧ τ.is k sW_if = false) := fun z => hw z.1
  have s1 : ¬ (40 : Int) ≤ st := by omega
  by_cases z : τ.k (τ.e k) = 2
  · have vi := XT.v_at hC.2.2.1.1 hT.1.1 hT.1.2 z
    have so : sOpen τ B nd (k, st, p, l) = (if 1 ≤ τ.v (τ.e k) ∧ τ.v (τ.e k) ≤ 9 then .inr (false, (τ.e (τ.e k), st + 1, pAdd p (τ.way k) (τ.v (τ.e k)) (-1), l)) else .inl (4, τ.a (τ.e k))) := by
      unfold sOpen; dsimp only; rw [if_neg s0, if_neg s1, if_neg hw, if_pos z]
    by_cases y : 1 ≤ τ.v (τ.e k) ∧ τ.v (τ.e k) ≤ 9
    · rw [if_pos y] at so
      have A := fun g (f : Fr PTk h g) t => ad (τ.v (τ.e k)) (τ.e (τ.e k)) g y so (pP_tk f) (hC.fr hp hb (pP_tk f)) t (hP.tk hp f) (fr37 f)
      refine w_iconst (v := iI (1)) r_73_0 rfl ?_
      refine w_istore2 r_73_1 rfl ?_
      refine w_aload0 r_73_2 ?_
      refine w_getA (x := 3) r_73_3 (Lk_5 hL) (Lr_5_0 hL) (by decide) ?_
      refine v_getI r_73_6 (Lk_3 hL) hT.i.2.2 ?_
      refine w_iconst (v := iI (2)) r_73_9 rfl ?_
      refine v_ic_ne r_73_10 (by first | exact zF_in _ _ _ | exact zA_in _ _ _ | omega) (by first | exact zF_in _ _ _ | exact zA_in _ _ _ | omega) (fun q => absurd q (by omega)) (fun _ => ?_)
      refine w_aload0 r_73_13 ?_
      refine w_getA (x := 3) r_73_14 (Lk_5 hL) (Lr_5_0 hL) (by decide) ?_
      refine w_iconst (v := iI (1)) r_73_17 rfl ?_
      refine w_bipush (v := iI (9)) r_73_18 rfl ?_
      refine k_98 r_73_20 (Lk_3 hL) (Nat.le_of_ble_eq_true rfl) ?_
      refine c_takeWhole (d := d) (by decide) (by decide) hL hC.2.2.1 hT (fun _ _ g f t => ?_) (fun z' => absurd z z') (fun _ y' => absurd y y')
      refine w_istore2 r_73_23 rfl ?_
      refine w_iload2 r_73_24 ?_
      refine w_iconst (v := iI (-1)) r_73_25 rfl ?_
      refine v_ic_ne r_73_26 (by first | exact zF_in _ _ _ | exact zA_in _ _ _ | omega) (by first | exact zF_in _ _ _ | exact zA_in _ _ _ | omega) (fun _ => ?_) (fun q => absurd q (by omega))
      exact A g f t
    · rw [if_neg y] at so
      have R := kf (4, τ.a (τ.e k)) (open_f so) _ (pP_blm h 4 (τ.a (τ.e k))) (blm_BL (by omega) (by omega))
      refine w_iconst (v := iI (1)) r_73_0 rfl ?_
      refine w_istore2 r_73_1 rfl ?_
      refine w_aload0 r_73_2 ?_
      refine w_getA (x := 3) r_73_3 (Lk_5 hL) (Lr_5_0 hL) (by decide) ?_
      refine v_getI r_73_6 (Lk_3 hL) hT.i.2.2 ?_
      refine w_iconst (v := iI (2)) r_73_9 rfl ?_
      refine v_ic_ne r_73_10 (by first | exact zF_in _ _ _ | exact zA_in _ _ _ | omega) (by first | exact zF_in _ _ _ | exact zA_in _ _ _ | omega) (fun q => absurd q (by omega)) (fun _ => ?_)
      refine w_aload0 r_73_13 ?_
      refine w_getA (x := 3) r_73_14 (Lk_5 hL) (Lr_5_0 hL) (by decide) ?_
      refine w_iconst (v := iI (1)) r_73_17 rfl ?_
      refine w_bipush (v := iI (9)) r_73_18 rfl ?_
      refine k_98 r_73_20 (Lk_3 hL) (Nat.le_of_ble_eq_true rfl) ?_
      refine c_takeWhole (d := d) (by decide) (by decide) hL hC.2.2.1 hT (fun _ y' => absurd y' y) (fun z' => absurd z z') (fun _ _ => ?_)
      refine w_istore2 r_73_23 rfl ?_
      refine w_iload2 r_73_24 ?_
      refine w_iconst (v := iI (-1)) r_73_25 rfl ?_
      refine v_ic_ne r_73_26 (by first | exact zF_in _ _ _ | exact zA_in _ _ _ | omega) (by first | exact zF_in _ _ _ | exact zA_in _ _ _ | omega) (fun q => absurd q (by omega)) (fun _ => ?_)
      refine w_iconst (v := iI (0)) r_73_29 rfl ?_
      refine w_zret r_73_30 (by decide) ?_
      exact R
  · have so : sOpen τ B nd (k, st, p, l) = .inr (false, (τ.e k, st + 1, pAdd p (τ.way k) 1 (-1), l)) := by
      unfold sOpen; dsimp only; rw [if_neg s0, if_neg s1, if_neg hw, if_neg z]
    have A := ad 1 (τ.e k) h (by decide) so (Fr.refl _ _) hC hT hP rfl
    refine w_iconst (v := iI (1)) r_73_0 rfl ?_
    refine w_istore2 r_73_1 rfl ?_
    refine w_aload0 r_73_2 ?_
    refine w_getA (x := 3) r_73_3 (Lk_5 hL) (Lr_5_0 hL) (by decide) ?_
    refine v_getI r_73_6 (Lk_3 hL) hT.i.2.2 ?_
    refine w_iconst (v := iI (2)) r_73_9 rfl ?_
    refine v_ic_ne r_73_10 (by first | exact zF_in _ _ _ | exact zA_in _ _ _ | omega) (by first | exact zF_in _ _ _ | exact zA_in _ _ _ | omega) (fun _ => ?_) (fun q => absurd q (by omega))
    exact A
theorem gQ_ok {q : Int × Int × Int} (hX : τ.ok) (hk : 0 ≤ k ∧ k ≤ τ.2) (hg : 0 ≤ B.g ∧ B.g ≤ 8) (h : gQ τ B nd k = .inr q) : (0 ≤ q.1 ∧ q.1 < nd) ∧ (0 ≤ q.2.1 ∧ q.2.1 < 8) ∧ k ≤ q.2.2 ∧ q.2.2 ≤ τ.2 := by
  have a := XT.a_at hX hk.1 hk.2
  have e := XT.e_at hX hk.1 hk.2
  unfold gQ at h
  split at h
  · rename_i z
    have vi := XT.v_at hX hk.1 hk.2 z
    split at h
    · cases h
    · obtain ⟨j, w, h⟩ := bnd_ok h
      have wp := gWord_ok hX (by omega) w
      have a2 := XT.a_at hX (k := j) (by omega) (by omega)
      have e2 := XT.e_at hX (k := j) (by omega) (by omega)
      split at h
      · split at h
        · cases h
        · rename_i y
          cases h
          rcases nmI_in B.nm B.g (τ.w j) hg.1 with u | u
          · exact absurd u y
          · refine ⟨?_, ?_, ?_, ?_⟩
            · show 0 ≤ τ.v k ∧ τ.v k < nd; omega
            · show 0 ≤ nmI B.nm B.g (τ.w j) ∧ nmI B.nm B.g (τ.w j) < 8; omega
            · show k ≤ τ.e j; omega
            · show τ.e j ≤ τ.2; omega
      · cases h
  · cases h
theorem c_readQuestion (hp : Pl pa) (hb : rb = 6 ∨ rb = 20) (hC : PCx τ B nd pa rb h) (hg : 0 ≤ B.g ∧ B.g ≤ 8) (hnd : 0 ≤ nd ∧ nd ≤ 5) (hT : TC h τ k) (hP : PlC h pa st p l) (hz : 0 ≤ p.z ∧ p.z < 80)
    (kt : ∀ q, gQ τ B nd k = .inr q → ∀ h', Fr (pP pa) h h' → TC h' τ q.2.2 → PlC h' pa st (pAdd p 4 q.1 q.2.1) ((false, p.z) :: l) → zF h' 3 7 = zF h 3 7 → K (iI p.z) h')
    (kf : ∀ e, gQ τ B nd k = .inl e → ∀ h', Fr (pP pa) h h' → BL h' e → K (iI (-1)) h') : XW (d + 7) 75 0 [.ref 5, .null, .null] [] h (KI K) := by
  have n := hp.ne
  have hL := hC.1
  have q := hC.pos hT
  have hX := hC.2.2.1
  have v32 : gI h 5 3 = iI nd := hC.2.2.2.1.2.2
  have hC0 := hC
  unfold gQ at kt kf
  by_cases z : τ.k k = 2
  · have vi := XT.v_at hX.1 hT.1.1 hT.1.2 z
    have v26 : gI h 3 5 = iI (τ.v k) := by rw [gI_F, hT.2.2.2.2.1 z]
    rw [if_pos z] at kt kf
    by_cases y : nd ≤ τ.v k
    · have R := kf (2, τ.a k) (by rw [if_pos y]) _ (pP_blm h 2 (τ.a k)) (blm_BL (by omega) (by omega))
      refine w_aload0 r_75_0 ?_
      refine w_getA (x := 3) r_75_1 (Lk_5 hL) (Lr_5_0 hL) (by decide) ?_
      refine v_getI r_75_4 (Lk_3 hL) hT.i.2.2 ?_
      refine w_iconst (v := iI (2)) r_75_7 rfl ?_
      refine v_ic_eq r_75_8 (by first | exact zF_in _ _ _ | exact zA_in _ _ _ | omega) (by first | exact zF_in _ _ _ | exact zA_in _ _ _ | omega) (fun _ => ?_) (fun q => absurd q (by omega))
      refine w_aload0 r_75_22 ?_
      refine w_getA (x := 3) r_75_23 (Lk_5 hL) (Lr_5_0 hL) (by decide) ?_
      refine v_getI r_75_26 (Lk_3 hL) v26 ?_
      refine w_istore1 r_75_29 rfl ?_
      refine w_iload1 r_75_30 ?_
      refine w_aload0 r_75_31 ?_
      refine v_getI r_75_32 (Lk_5 hL) v32 ?_
      refine v_ic_lt r_75_35 (by first | exact zF_in _ _ _ | exact zA_in _ _ _ | omega) (by first | exact zF_in _ _ _ | exact zA_in _ _ _ | omega) (fun q => absurd q (by omega)) (fun _ => ?_)
      refine w_aload0 r_75_38 ?_
      refine w_getA (x := 3) r_75_39 (Lk_5 hL) (Lr_5_0 hL) (by decide) ?_
      refine w_iconst (v := iI (2)) r_75_42 rfl ?_
      refine k_99 r_75_43 (Lk_3 hL) (Nat.le_of_ble_eq_true rfl) ?_
      refine c_blame (d := d + 5) hL hT ?_
      refine w_popI r_75_46 ?_
      refine w_iconst (v := iI (-1)) r_75_47 rfl ?_
      refine w_iret r_75_48 ?_
      exact R
    · rw [if_neg y] at kt kf
      have mid : ∀ g, Fr PTk h g → TC g τ (τ.e k) → XW (d + 7) 75 56 [.ref 5, .int (iI (τ.v k)), .null] [] g (KI K) := by
        intro g fg Tg
        have hC := hC0.fr hp hb (pP_tk fg)
        have hL := hC.1
        have qg := hC.pos Tg
        refine w_aload0 r_75_56 ?_
        refine w_getA (x := 3) r_75_57 (Lk_5 hL) (Lr_5_0 hL) (by decide) ?_
        refine w_ldcS (a := 1000058) r_75_60 rfl ?_
        refine k_97 r_75_62 (Lk_3 hL) (Nat.le_of_ble_eq_true rfl) ?_
        refine c_takeWord (d := d + 1) hL hC.2.2.1 Tg (sS_24 hL hC.2.1) (fun u g2 f2 T2 => ?_) (fun u => ?_)
        skip
        rotate_left
        · have R := kf _ (bnd_l (by unfold gWord; rw [if_neg (by rw [u]; decide)])) _ ((pP_tk fg).trans (pP_blm g 1 (τ.a (τ.e k)))) (blm_BL (by omega) (by omega))
          refine v_if_ne r_75_65 (by first | exact zF_in _ _ _ | exact zA_in _ _ _ | omega) (fun q => absurd q (by omega)) (fun _ => ?_)
          refine w_iconst (v := iI (-1)) r_75_68 rfl ?_
          refine w_iret r_75_69 ?_
          exact R
        have gW : gWord τ sW_is (τ.e k) = .inr (τ.e (τ.e k)) := by unfold gWord; rw [if_pos u]
        rw [bnd_r gW] at kt kf
        generalize τ.e (τ.e k) = j at kt kf T2
        have F2 := (pP_tk (pa := pa) fg).trans (pP_tk f2)
        have hC := hC0.fr hp hb F2
        have hL := hC.1
        have q2 := hC.pos T2
        by_cases w : τ.nm j = true
        · rw [if_pos w] at kt kf
          have w1 := nm_word w
          have vw := T2.2.2.2.2.2 w1
          have wr := w_rng hC.2.2.1.1 T2.1 w1
          have ni := nmI_in B.nm B.g (τ.w j) hg.1
          have isn : ∀ (KK : Int32 → XH → Prop), KK (iI 1) g2 → XW (d + 6) 94 0 [.ref 3] [] g2 (KI KK) := fun KK kk => c_isName hL hC.2.1 hC.2.2.1 T2 (fun _ => kk) (fun z => absurd w (by rw [z]; decide))
          by_cases v : nmI B.nm B.g (τ.w j) = -1
          · have R := kf (2, τ.a j) (by rw [if_pos v]) _ (F2.trans (pP_blm g2 2 (τ.a j))) (blm_BL (by omega) (by omega))
            refine v_if_ne r_75_65 (by first | exact zF_in _ _ _ | exact zA_in _ _ _ | omega) (fun _ => ?_) (fun q => absurd q (by omega))
            refine w_aload0 r_75_70 ?_
            refine w_getA (x := 3) r_75_71 (Lk_5 hL) (Lr_5_0 hL) (by decide) ?_
            refine k_94 r_75_74 (Lk_3 hL) (Nat.le_of_ble_eq_true rfl) ?_
            refine isn _ ?_
            refine v_if_ne r_75_77 (by first | exact zF_in _ _ _ | exact zA_in _ _ _ | omega) (fun _ => ?_) (fun q => absurd q (by omega))
            refine w_aload0 r_75_91 ?_
            refine w_getA (x := rb) r_75_92 (Lk_5 hL) hC.2.2.2.1.2.1 (RB.nz hb) ?_
            refine w_aload0 r_75_95 ?_
            refine w_getA (x := 3) r_75_96 (Lk_5 hL) (Lr_5_0 hL) (by decide) ?_
            refine v_getL r_75_99 (Lk_3 hL) vw ?_
            refine k_4 r_75_102 (Bk_ hL hb) (Nat.le_of_ble_eq_true rfl) ?_
            refine c_groundNamed (d := d + 5) hL hb hC.2.2.2.2 hg wr ?_
            refine w_istore2 r_75_105 rfl ?_
            refine w_iload2 r_75_106 ?_
            refine w_iconst (v := iI (-1)) r_75_107 rfl ?_
            refine v_ic_ne r_75_108 (by first | exact zF_in _ _ _ | exact zA_in _ _ _ | omega) (by first | exact zF_in _ _ _ | exact zA_in _ _ _ | omega) (fun q => absurd q (by omega)) (fun _ => ?_)
            refine w_aload0 r_75_111 ?_
            refine w_getA (x := 3) r_75_112 (Lk_5 hL) (Lr_5_0 hL) (by decide) ?_
            refine w_iconst (v := iI (2)) r_75_115 rfl ?_
            refine k_99 r_75_116 (Lk_3 hL) (Nat.le_of_ble_eq_true rfl) ?_
            refine c_blame (d := d + 5) hL T2 ?_
            refine w_popI r_75_119 ?_
            refine w_iconst (v := iI (-1)) r_75_120 rfl ?_
            refine w_iret r_75_121 ?_
            exact R
          · rw [if_neg v] at kt
            have A := fun g3 (f3 : Fr PTk g2 g3) t3 g4 (f4 : Fr (fun a _ => decide (pa ≤ a) && decide (a ≤ pa + 4)) g3 g4) p4 => kt _ rfl g4 ((F2.trans (pP_tk f3)).trans (pP_pl f4)) (plTC hp f4 t3) p4 (by rw [pl37 hp f4, fr37 f3, fr37 f2, fr37 fg])
            have lst : ∀ g3, Fr PTk g2 g3 → TC g3 τ (τ.e j) → XW (d + 7) 75 129 [.ref 5, .int (iI (τ.v k)), .int (iI (nmI B.nm B.g (τ.w j)))] [] g3 (KI K) := by
              intro g3 f3 t3
              have hC := hC0.fr hp hb (F2.trans (pP_tk f3))
              have hL := hC.1
              have P3 := ((hP.tk hp fg).tk hp f2).tk hp f3
              refine w_aload0 r_75_129 ?_
              refine w_getA (x := pa) r_75_130 (Lk_5 hL) hC.2.2.2.1.1 (Plk hL hp).2.2 ?_
              refine w_iconst (v := iI (4)) r_75_133 rfl ?_
              refine w_iload1 r_75_134 ?_
              refine w_iload2 r_75_135 ?_
              refine k_67 r_75_136 (Plk hL hp).1 (Nat.le_of_ble_eq_true rfl) ?_
              refine c_add (d := d + 6) (l' := (false, p.z) :: l) hL hp hz P3 (by decide) (by omega) (by omega) (fun _ => ⟨false, List.mem_cons_self⟩) (fun i e m => ⟨e, List.mem_cons_of_mem _ m⟩) (fun g4 f4 p4 => ?_)
              refine w_iret r_75_139 ?_
              exact A g3 f3 t3 g4 f4 p4
            refine v_if_ne r_75_65 (by first | exact zF_in _ _ _ | exact zA_in _ _ _ | omega) (fun _ => ?_) (fun q => absurd q (by omega))
            refine w_aload0 r_75_70 ?_
            refine w_getA (x := 3) r_75_71 (Lk_5 hL) (Lr_5_0 hL) (by decide) ?_
            refine k_94 r_75_74 (Lk_3 hL) (Nat.le_of_ble_eq_true rfl) ?_
            refine isn _ ?_
            refine v_if_ne r_75_77 (by first | exact zF_in _ _ _ | exact zA_in _ _ _ | omega) (fun _ => ?_) (fun q => absurd q (by omega))
            refine w_aload0 r_75_91 ?_
            refine w_getA (x := rb) r_75_92 (Lk_5 hL) hC.2.2.2.1.2.1 (RB.nz hb) ?_
            refine w_aload0 r_75_95 ?_
            refine w_getA (x := 3) r_75_96 (Lk_5 hL) (Lr_5_0 hL) (by decide) ?_
            refine v_getL r_75_99 (Lk_3 hL) vw ?_
            refine k_4 r_75_102 (Bk_ hL hb) (Nat.le_of_ble_eq_true rfl) ?_
            refine c_groundNamed (d := d + 5) hL hb hC.2.2.2.2 hg wr ?_
            refine w_istore2 r_75_105 rfl ?_
            refine w_iload2 r_75_106 ?_
            refine w_iconst (v := iI (-1)) r_75_107 rfl ?_
            refine v_ic_ne r_75_108 (by first | exact zF_in _ _ _ | exact zA_in _ _ _ | omega) (by first | exact zF_in _ _ _ | exact zA_in _ _ _ | omega) (fun _ => ?_) (fun q => absurd q (by omega))
            refine w_aload0 r_75_122 ?_
            refine w_getA (x := 3) r_75_123 (Lk_5 hL) (Lr_5_0 hL) (by decide) ?_
            refine k_89 r_75_126 (Lk_3 hL) (Nat.le_of_ble_eq_true rfl) ?_
            refine c_advance (d := d + 5) hL hC.2.2.1 (by omega) T2.i.2.1 (fun g3 f3 t3 => ?_)
            exact lst g3 f3 t3
        · rw [if_neg w] at kf
          have isn : ∀ (KK : Int32 → XH → Prop), KK (iI 0) g2 → XW (d + 6) 94 0 [.ref 3] [] g2 (KI KK) := fun KK kk => c_isName hL hC.2.1 hC.2.2.1 T2 (fun z => absurd z w) (fun _ => kk)
          have R := kf (1, τ.a j) rfl _ (F2.trans (pP_blm g2 1 (τ.a j))) (blm_BL (by omega) (by omega))
          refine v_if_ne r_75_65 (by first | exact zF_in _ _ _ | exact zA_in _ _ _ | omega) (fun _ => ?_) (fun q => absurd q (by omega))
          refine w_aload0 r_75_70 ?_
          refine w_getA (x := 3) r_75_71 (Lk_5 hL) (Lr_5_0 hL) (by decide) ?_
          refine k_94 r_75_74 (Lk_3 hL) (Nat.le_of_ble_eq_true rfl) ?_
          refine isn _ ?_
          refine v_if_ne r_75_77 (by first | exact zF_in _ _ _ | exact zA_in _ _ _ | omega) (fun q => absurd q (by omega)) (fun _ => ?_)
          refine w_aload0 r_75_80 ?_
          refine w_getA (x := 3) r_75_81 (Lk_5 hL) (Lr_5_0 hL) (by decide) ?_
          refine w_iconst (v := iI (1)) r_75_84 rfl ?_
          refine k_99 r_75_85 (Lk_3 hL) (Nat.le_of_ble_eq_true rfl) ?_
          refine c_blame (d := d + 5) hL T2 ?_
          refine w_popI r_75_88 ?_
          refine w_iconst (v := iI (-1)) r_75_89 rfl ?_
          refine w_iret r_75_90 ?_
          exact R
      refine w_aload0 r_75_0 ?_
      refine w_getA (x := 3) r_75_1 (Lk_5 hL) (Lr_5_0 hL) (by decide) ?_
      refine v_getI r_75_4 (Lk_3 hL) hT.i.2.2 ?_
      refine w_iconst (v := iI (2)) r_75_7 rfl ?_
      refine v_ic_eq r_75_8 (by first | exact zF_in _ _ _ | exact zA_in _ _ _ | omega) (by first | exact zF_in _ _ _ | exact zA_in _ _ _ | omega) (fun _ => ?_) (fun q => absurd q (by omega))
      refine w_aload0 r_75_22 ?_
      refine w_getA (x := 3) r_75_23 (Lk_5 hL) (Lr_5_0 hL) (by decide) ?_
      refine v_getI r_75_26 (Lk_3 hL) v26 ?_
      refine w_istore1 r_75_29 rfl ?_
      refine w_iload1 r_75_30 ?_
      refine w_aload0 r_75_31 ?_
      refine v_getI r_75_32 (Lk_5 hL) v32 ?_
      refine v_ic_lt r_75_35 (by first | exact zF_in _ _ _ | exact zA_in _ _ _ | omega) (by first | exact zF_in _ _ _ | exact zA_in _ _ _ | omega) (fun _ => ?_) (fun q => absurd q (by omega))
      refine w_aload0 r_75_49 ?_
      refine w_getA (x := 3) r_75_50 (Lk_5 hL) (Lr_5_0 hL) (by decide) ?_
      refine k_89 r_75_53 (Lk_3 hL) (Nat.le_of_ble_eq_true rfl) ?_
      refine c_advance (d := d + 5) hL hX (by omega) hT.i.2.1 (fun g f t => ?_)
      exact mid g f t
  · rw [if_neg z] at kf
    have R := kf (1, τ.a k) rfl _ (pP_blm h 1 (τ.a k)) (blm_BL (by omega) (by omega))
    refine w_aload0 r_75_0 ?_
    refine w_getA (x := 3) r_75_1 (Lk_5 hL) (Lr_5_0 hL) (by decide) ?_
    refine v_getI r_75_4 (Lk_3 hL) hT.i.2.2 ?_
    refine w_iconst (v := iI (2)) r_75_7 rfl ?_
    refine v_ic_eq r_75_8 (by first | exact zF_in _ _ _ | exact zA_in _ _ _ | omega) (by first | exact zF_in _ _ _ | exact zA_in _ _ _ | omega) (fun q => absurd q (by omega)) (fun _ => ?_)
    refine w_aload0 r_75_11 ?_
    refine w_getA (x := 3) r_75_12 (Lk_5 hL) (Lr_5_0 hL) (by decide) ?_
    refine w_iconst (v := iI (1)) r_75_15 rfl ?_
    refine k_99 r_75_16 (Lk_3 hL) (Nat.le_of_ble_eq_true rfl) ?_
    refine c_blame (d := d + 5) hL hT ?_
    refine w_popI r_75_19 ?_
    refine w_iconst (v := iI (-1)) r_75_20 rfl ?_
    refine w_iret r_75_21 ?_
    exact R
end CPS
