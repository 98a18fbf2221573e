/-! the class reads a plan: all steps -/
section CPU
variable {d : Nat} {h : XH} {K : Int32 → XH → Prop} {KU : XH → Prop} {τ : XT} {k st nd : Int} {pa rb : Nat} {B : XB} {p : XL} {l : List (Bool × Int)}
theorem c_readOne {D dep : Nat} (hp : Pl pa) (hb : rb = 6 ∨ rb = 20) (hC : PCx τ B nd pa rb h) (hg : 0 ≤ B.g ∧ B.g ≤ 8) (hnd : 0 ≤ nd ∧ nd ≤ 5) (hT : TC h τ k) (hP : PlC h pa st p l) (hS : SOk nd (k, st, p, l)) (hdep : l.length = dep) (IH : dep < 6 → RSt τ B nd pa rb (D + 6) (dep + 1))
    (kf : OkF τ B nd pa h (false, (k, st, p, l)) K) (kt : OkT τ B nd pa h (false, (k, st, p, l)) l (fun _ => True) K) : XW (D + 9) 72 0 [.ref 5, .int (iI dep), .null] [] h (KI K) := by
  have n := hp.ne
  have hL := hC.1
  have q := hC.pos hT
  have hC0 := hC
  have wi := way_in τ k
  have s40 : 0 ≤ st ∧ st ≤ 40 := hS.1
  have v38 : gI h pa 5 = iI st := by rw [gI_F, hP.2.1]
  have rest : (¬ τ.way k = -1 ∨ τ.is k sW_if = true) → XW (D + 9) 72 34 [.ref 5, .int (iI dep), .int (iI (τ.way k))] [] h (KI K) := by
    intro c
    have s0 : ¬ (τ.way k = -1 ∧ τ.is k sW_if = false) := fun z => by
      rcases c with c | c
      · exact c z.1
      · rw [c] at z; exact absurd z.2 (by decide)
    by_cases y : 40 ≤ st
    · have R := kf (5, τ.a k) (open_f (by unfold sOpen; dsimp only; rw [if_neg s0, if_pos y])) _ (pP_blm h 5 (τ.a k)) (blm_BL (by omega) (by omega))
      refine w_aload0 r_72_34 ?_
      refine w_getA (x := pa) r_72_35 (Lk_5 hL) hC.2.2.2.1.1 (Plk hL hp).2.2 ?_
      refine v_getI r_72_38 (Plk hL hp).1 v38 ?_
      refine w_bipush (v := iI (40)) r_72_41 rfl ?_
      refine v_ic_lt r_72_43 (by first | exact zF_in _ _ _ | exact zA_in _ _ _ | omega) (by first | exact zF_in _ _ _ | exact zA_in _ _ _ | omega) (fun q => absurd q (by omega)) (fun _ => ?_)
      refine w_aload0 r_72_46 ?_
      refine w_getA (x := 3) r_72_47 (Lk_5 hL) (Lr_5_0 hL) (by decide) ?_
      refine w_iconst (v := iI (5)) r_72_50 rfl ?_
      refine k_99 r_72_51 (Lk_3 hL) (Nat.le_of_ble_eq_true rfl) ?_
      refine c_blame (d := D + 7) hL hT ?_
      refine w_zret r_72_54 (by decide) ?_
      exact R
    · have F1 : Fr (fun a _ => decide (pa ≤ a) && decide (a ≤ pa + 4)) h (sI h pa 5 (iI (st + 1))) := (Fr.refl _ _).sI pa 5 _ (by simp)
      have P1 : PlC (sI h pa 5 (iI (st + 1))) pa (st + 1) p l := ⟨by rw [zF_o (by omega)]; exact hP.1, zF_s (by omega), fun i i0 i1 => by rw [zA_o _ (by omega), zA_o _ (by omega), zA_o _ (by omega), zA_o _ (by omega)]; exact hP.2.2 i i0 i1⟩
      have C1 := hC0.fr hp hb (pP_pl F1)
      have T1 := plTC hp F1 hT
      have tail : ∀ g, Fr PTk (sI h pa 5 (iI (st + 1))) g → TC g τ (τ.e k) → XW (D + 9) 72 75 [.ref 5, .int (iI dep), .int (iI (τ.way k))] [] g (KI K) := by
        intro g fg Tg
        have FF := (pP_pl (pa := pa) F1).trans (pP_tk fg)
        have hC := hC0.fr hp hb FF
        have hL := hC.1
        have e7 : zF g 3 7 = zF h 3 7 := by rw [fr37 fg, pl37 hp F1]
        have kf' : OkF τ B nd pa g (false, (k, st, p, l)) K := fun e ee h' f' b' => kf e ee h' (FF.trans f') b'
        have kt' : OkT τ B nd pa g (false, (k, st, p, l)) l (fun _ => True) K := fun k' st' p' ls en so u h' f' t' pc z7 => kt k' st' p' ls en so u h' (FF.trans f') t' pc (by rw [z7, e7])
        by_cases w : τ.way k = -1
        · have hi : τ.is k sW_if = true := c.resolve_left (fun z => z w)
          have J := fun KK (kf : OkF τ B nd pa g (false, (k, st, p, l)) KK) kt => c_readIf (D := D) (K := KK) hp hb hC hg hnd hT.1 Tg (P1.tk hp fg) hS w hi (by omega) hdep IH kf kt
          refine w_iload2 r_72_75 ?_
          refine w_iconst (v := iI (-1)) r_72_76 rfl ?_
          refine v_ic_ne r_72_77 (by omega) (by omega) (fun q => absurd w q) (fun _ => ?_)
          refine w_aload0 r_72_80 ?_
          refine w_iload1 r_72_81 ?_
          refine k_74 r_72_82 (Lk_5 hL) (Nat.le_of_ble_eq_true rfl) ?_
          refine J _ (fun e ee h' f' b' => ?_) (fun k' st' p' ls en so u h' f' t' pc z7 => ?_)
          · refine w_goto r_72_85 ?_
            refine w_zret r_72_93 (by decide) ?_
            exact kf' e ee h' f' b'
          · refine w_goto r_72_85 ?_
            refine w_zret r_72_93 (by decide) ?_
            exact kt' k' st' p' ls en so u h' f' t' pc z7
        · have J := fun KK (kf : OkF τ B nd pa g (false, (k, st, p, l)) KK) kt => c_readMove (d := D + 5) (K := KK) hp hb hC hT.1 Tg (P1.tk hp fg) hS w (by omega) kf kt
          refine w_iload2 r_72_75 ?_
          refine w_iconst (v := iI (-1)) r_72_76 rfl ?_
          refine v_ic_ne r_72_77 (by omega) (by omega) (fun _ => ?_) (fun q => absurd q w)
          refine w_aload0 r_72_88 ?_
          refine w_iload2 r_72_89 ?_
          refine k_73 r_72_90 (Lk_5 hL) (Nat.le_of_ble_eq_true rfl) ?_
          refine J _ (fun e ee h' f' b' => ?_) (fun k' st' p' ls en so u h' f' t' pc z7 => ?_)
          · refine w_zret r_72_93 (by decide) ?_
            exact kf' e ee h' f' b'
          · refine w_zret r_72_93 (by decide) ?_
            exact kt' k' st' p' ls en so u h' f' t' pc z7
      refine w_aload0 r_72_34 ?_
      refine w_getA (x := pa) r_72_35 (Lk_5 hL) hC.2.2.2.1.1 (Plk hL hp).2.2 ?_
      refine v_getI r_72_38 (Plk hL hp).1 v38 ?_
      refine w_bipush (v := iI (40)) r_72_41 rfl ?_
      refine v_ic_lt r_72_43 (by first | exact zF_in _ _ _ | exact zA_in _ _ _ | omega) (by first | exact zF_in _ _ _ | exact zA_in _ _ _ | omega) (fun _ => ?_) (fun q => absurd q (by omega))
      refine w_aload0 r_72_55 ?_
      refine w_getA (x := pa) r_72_56 (Lk_5 hL) hC.2.2.2.1.1 (Plk hL hp).2.2 ?_
      refine w_dupA r_72_59 ?_
      refine v_getI r_72_60 (Plk hL hp).1 v38 ?_
      refine w_iconst (v := iI (1)) r_72_63 rfl ?_
      refine v_iadd r_72_64 ?_
      refine w_putI r_72_65 (Plk hL hp).1 (Plk hL hp).2.1 ?_
      refine w_aload0 r_72_68 ?_
      refine w_getA (x := 3) r_72_69 (Lk_5 hL) (Lr_5_0 hL) (by decide) ?_
      refine k_89 r_72_72 (Lk_3 hL) (Nat.le_of_ble_eq_true rfl) ?_
      refine c_advance (d := D + 7) C1.1 C1.2.2.1 (by omega) T1.i.2.1 (fun g f t => ?_)
      exact tail g f t
  by_cases w : τ.way k = -1
  · by_cases u : τ.is k sW_if = true
    · have R := rest (Or.inr u)
      refine w_aload0 r_72_0 ?_
      refine w_getA (x := 3) r_72_1 (Lk_5 hL) (Lr_5_0 hL) (by decide) ?_
      refine k_95 r_72_4 (Lk_3 hL) (Nat.le_of_ble_eq_true rfl) ?_
      refine c_wayTold (d := D + 3) hL hC.2.1 hC.2.2.1 hT ?_
      refine w_istore2 r_72_7 rfl ?_
      refine w_iload2 r_72_8 ?_
      refine w_iconst (v := iI (-1)) r_72_9 rfl ?_
      refine v_ic_ne r_72_10 (by first | exact zF_in _ _ _ | exact zA_in _ _ _ | omega) (by first | exact zF_in _ _ _ | exact zA_in _ _ _ | omega) (fun q => absurd q (by omega)) (fun _ => ?_)
      refine w_aload0 r_72_13 ?_
      refine w_getA (x := 3) r_72_14 (Lk_5 hL) (Lr_5_0 hL) (by decide) ?_
      refine w_ldcS (a := 1000056) r_72_17 rfl ?_
      refine k_93 r_72_19 (Lk_3 hL) (Nat.le_of_ble_eq_true rfl) ?_
      refine c_spells (d := D + 4) hL hC.2.2.1 hT (sS_23 hL hC.2.1) (fun _ => ?_) (fun z => absurd u (by rw [z]; decide))
      refine v_if_ne r_72_22 (by first | exact zF_in _ _ _ | exact zA_in _ _ _ | omega) (fun _ => ?_) (fun q => absurd q (by omega))
      exact R
    · have R := kf (1, τ.a k) (open_f (by unfold sOpen; dsimp only; rw [if_pos ⟨w, by simpa using u⟩])) _ (pP_blm h 1 (τ.a k)) (blm_BL (by omega) (by omega))
      refine w_aload0 r_72_0 ?_
      refine w_getA (x := 3) r_72_1 (Lk_5 hL) (Lr_5_0 hL) (by decide) ?_
      refine k_95 r_72_4 (Lk_3 hL) (Nat.le_of_ble_eq_true rfl) ?_
      refine c_wayTold (d := D + 3) hL hC.2.1 hC.2.2.1 hT ?_
      refine w_istore2 r_72_7 rfl ?_
      refine w_iload2 r_72_8 ?_
      refine w_iconst (v := iI (-1)) r_72_9 rfl ?_
      refine v_ic_ne r_72_10 (by first | exact zF_in _ _ _ | exact zA_in _ _ _ | omega) (by first | exact zF_in _ _ _ | exact zA_in _ _ _ | omega) (fun q => absurd q (by omega)) (fun _ => ?_)
      refine w_aload0 r_72_13 ?_
      refine w_getA (x := 3) r_72_14 (Lk_5 hL) (Lr_5_0 hL) (by decide) ?_
      refine w_ldcS (a := 1000056) r_72_17 rfl ?_
      refine k_93 r_72_19 (Lk_3 hL) (Nat.le_of_ble_eq_true rfl) ?_
      refine c_spells (d := D + 4) hL hC.2.2.1 hT (sS_23 hL hC.2.1) (fun z => absurd z u) (fun _ => ?_)
      refine v_if_ne r_72_22 (by first | exact zF_in _ _ _ | exact zA_in _ _ _ | omega) (fun q => absurd q (by omega)) (fun _ => ?_)
      refine w_aload0 r_72_25 ?_
      refine w_getA (x := 3) r_72_26 (Lk_5 hL) (Lr_5_0 hL) (by decide) ?_
      refine w_iconst (v := iI (1)) r_72_29 rfl ?_
      refine k_99 r_72_30 (Lk_3 hL) (Nat.le_of_ble_eq_true rfl) ?_
      refine c_blame (d := D + 7) hL hT ?_
      refine w_zret r_72_33 (by decide) ?_
      exact R
  · have R := rest (Or.inl w)
    refine w_aload0 r_72_0 ?_
    refine w_getA (x := 3) r_72_1 (Lk_5 hL) (Lr_5_0 hL) (by decide) ?_
    refine k_95 r_72_4 (Lk_3 hL) (Nat.le_of_ble_eq_true rfl) ?_
    refine c_wayTold (d := D + 3) hL hC.2.1 hC.2.2.1 hT ?_
    refine w_istore2 r_72_7 rfl ?_
    refine w_iload2 r_72_8 ?_
    refine w_iconst (v := iI (-1)) r_72_9 rfl ?_
    refine v_ic_ne r_72_10 (by first | exact zF_in _ _ _ | exact zA_in _ _ _ | omega) (by first | exact zF_in _ _ _ | exact zA_in _ _ _ | omega) (fun _ => ?_) (fun q => absurd q (by omega))
    exact R
theorem c_readSteps {D dep : Nat} (hp : Pl pa) (hb : rb = 6 ∨ rb = 20) (hg : 0 ≤ B.g ∧ B.g ≤ 8) (hnd : 0 ≤ nd ∧ nd ≤ 5) (IH : dep < 6 → RSt τ B nd pa rb (D + 6) (dep + 1)) : RSt τ B nd pa rb (D + 10) dep := by
  intro h K k st p l hC hT hP hS hdep kf kt
  have hL := hC.1
  have hC0 := hC
  have key : ∀ (m : Nat) (i k1 st1 : Int) (p1 : XL) (g : XH), (m : Int) = 41 - i → (0 ≤ i ∧ i ≤ st1) → (i = 0 → st1 = st) → st ≤ st1 → (0 < i → st < st1) → Fr (pP pa) h g → TC g τ k1 → PlC g pa st1 p1 l → SOk nd (k1, st1, p1, l) → zF g 3 7 = zF h 3 7 → (∀ r, Ends τ B nd (false, (k1, st1, p1, l)) r → Ends τ B nd (false, (k, st, p, l)) r) → XW (D + 10) 71 2 [.ref 5, .int (iI dep), .int (iI i)] [] g (KI K) := by
    intro m
    induction m with
    | zero =>
      intro i k1 st1 p1 g hm hi _ _ _ _ _ _ so
      have : st1 ≤ 40 := so.1.2
      omega
    | succ m ih =>
      intro i k1 st1 p1 g hm hi hi0 hst hst2 fg Tg Pg so z7 en
      have st40 : st1 ≤ 40 := so.1.2
      have hC := hC0.fr hp hb fg
      have hL := hC.1
      have kf' : OkF τ B nd pa g (false, (k1, st1, p1, l)) K := fun e ee h' f' b' => kf e (en _ ee) h' (fg.trans f') b'
      have J := fun KK (kf : OkF τ B nd pa g (false, (k1, st1, p1, l)) KK) kt => c_readOne (D := D) (K := KK) hp hb hC hg hnd Tg Pg so hdep IH kf kt
      refine w_iload2 r_71_2 ?_
      refine w_bipush (v := iI 40) r_71_3 rfl ?_
      refine v_ic_gt r_71_5 (by omega) (by omega) (fun q => absurd q (by omega)) (fun _ => ?_)
      refine w_aload0 r_71_8 ?_
      refine w_iload1 r_71_9 ?_
      refine k_72 r_71_10 (Lk_5 hL) (Nat.le_of_ble_eq_true rfl) ?_
      refine J _ (fun e ee h' f' b' => ?_) (fun k' st' p' ls en2 so2 _ h' f' t' pc z7' => ?_)
      · have R := kf' e ee h' f' b'
        have hL := f'.lay hL
        refine v_if_ne r_71_13 (by first | exact zF_in _ _ _ | exact zA_in _ _ _ | omega) (fun q => absurd q (by omega)) (fun _ => ?_)
        refine w_iconst (v := iI (0)) r_71_16 rfl ?_
        refine w_zret r_71_17 (by decide) ?_
        exact R
      · have ls' : st1 < st' := ls
        have F2 := fg.trans f'
        have hC := hC0.fr hp hb F2
        have hL := hC.1
        have q2 := hC.pos t'
        by_cases y : τ.k k' = 59
        · have cl : sClose τ (k', st', p', l) = .inr (0, (τ.e k', st', p', l)) := by
            unfold sClose
            cases l with
            | nil => dsimp only; rw [if_pos y]
            | cons a t => obtain ⟨e, i⟩ := a; dsimp only; rw [if_neg (by omega), if_pos y]
          have N := fun g3 (f3 : Fr PTk h' g3) t3 => ih (i + 1) (τ.e k') st' p' g3 (by omega) (by omega) (fun z => by omega) (by omega) (fun _ => by omega) (F2.trans (pP_tk f3)) t3 (pc.tk hp f3) (by
            obtain ⟨a1, a2, a3, a4, a5⟩ := so2
            exact ⟨a1, a2, a3, a4, a5⟩) (by rw [fr37 f3, z7', z7]) (fun r e => en r (en2 r (close_0 cl e)))
          refine v_if_ne r_71_13 (by first | exact zF_in _ _ _ | exact zA_in _ _ _ | omega) (fun _ => ?_) (fun q => absurd q (by omega))
          refine w_aload0 r_71_18 ?_
          refine w_getA (x := 3) r_71_19 (Lk_5 hL) (Lr_5_0 hL) (by decide) ?_
          refine v_getI r_71_22 (Lk_3 hL) (t'.i.2.2) ?_
          refine w_bipush (v := iI (59)) r_71_25 rfl ?_
          refine v_ic_eq r_71_27 (by first | exact zF_in _ _ _ | exact zA_in _ _ _ | omega) (by first | exact zF_in _ _ _ | exact zA_in _ _ _ | omega) (fun _ => ?_) (fun q => absurd q (by omega))
          refine w_aload0 r_71_32 ?_
          refine w_getA (x := 3) r_71_33 (Lk_5 hL) (Lr_5_0 hL) (by decide) ?_
          refine k_89 r_71_36 (Lk_3 hL) (Nat.le_of_ble_eq_true rfl) ?_
          refine c_advance (d := D + 8) hL hC.2.2.1 (by omega) t'.i.2.1 (fun g3 f3 t3 => ?_)
          refine w_iinc2 r_71_39 rfl (iI_add _ _) ?_
          refine w_goto r_71_42 ?_
          exact N g3 f3 t3
        · have R := kt k' st' p' (by show st < st'; omega) (fun r e => en r (en2 r e)) so2 y h' F2 t' pc (by rw [z7', z7])
          refine v_if_ne r_71_13 (by first | exact zF_in _ _ _ | exact zA_in _ _ _ | omega) (fun _ => ?_) (fun q => absurd q (by omega))
          refine w_aload0 r_71_18 ?_
          refine w_getA (x := 3) r_71_19 (Lk_5 hL) (Lr_5_0 hL) (by decide) ?_
          refine v_getI r_71_22 (Lk_3 hL) (t'.i.2.2) ?_
          refine w_bipush (v := iI (59)) r_71_25 rfl ?_
          refine v_ic_eq r_71_27 (by first | exact zF_in _ _ _ | exact zA_in _ _ _ | omega) (by first | exact zF_in _ _ _ | exact zA_in _ _ _ | omega) (fun q => absurd q (by omega)) (fun _ => ?_)
          refine w_iconst (v := iI (1)) r_71_30 rfl ?_
          refine w_zret r_71_31 (by decide) ?_
          exact R
  have s40 : 0 ≤ st := hS.1.1
  have J := key 41 0 k st p h (by omega) (by omega) (fun _ => rfl) (by omega) (fun z => by omega) (Fr.refl _ _) hT hP hS rfl (fun r e => e)
  refine w_iconst (v := iI (0)) r_71_0 rfl ?_
  refine w_istore2 r_71_1 rfl ?_
  exact J
theorem c_allSteps (hp : Pl pa) (hb : rb = 6 ∨ rb = 20) (hg : 0 ≤ B.g ∧ B.g ≤ 8) (hnd : 0 ≤ nd ∧ nd ≤ 5) : ∀ m dep : Nat, dep + m = 6 → RSt τ B nd pa rb (d + 4 * m + 10) dep := by
  intro m
  induction m with
  | zero => intro dep e; exact c_readSteps (D := d + 4 * 0) hp hb hg hnd (fun q => by omega)
  | succ m ih =>
    intro dep e
    have j := ih (dep + 1) (by omega)
    rw [show d + 4 * (m + 1) + 10 = (d + 4 * m + 4) + 10 by omega]
    refine c_readSteps (D := d + 4 * m + 4) hp hb hg hnd (fun _ => ?_)
    rw [show d + 4 * m + 4 + 6 = d + 4 * m + 10 by omega]
    exact j
end CPU
