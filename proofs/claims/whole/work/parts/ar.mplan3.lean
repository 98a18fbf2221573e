/-! the Model reads a plan: the steps -/
section MP3
variable {d : Nat} {h h' : XH} {K : Int32 → XH → Prop} {KU : XH → Prop} {τ : XT} {k st nd np : Int} {B : XB} {p : XL} {l l' t : List (Bool × Int)}
theorem is_word {w : List Int} (z : τ.is k w = true) : τ.k k = 1 := by
  unfold XT.is at z
  exact (of_decide_eq_true z).1
theorem way_word (z : ¬ τ.way k = -1) : τ.k k = 1 := by
  by_cases c : τ.k k = 1
  · exact c
  · exfalso
    apply z
    have n : ∀ w : List Int, τ.is k w = false := fun w => by
      cases e : τ.is k w with
      | false => rfl
      | true => exact absurd (is_word e) c
    unfold XT.way
    rw [n, n, n, n]
    rfl
theorem m_opens (hC : MCx τ B nd np h) (hg : 0 ≤ B.g ∧ B.g ≤ 8) (hnd : 0 ≤ nd ∧ nd ≤ 5) (hnp : 0 ≤ np ∧ np ≤ 8) (hT : TM h τ k) (hM : MRs np h st p l) (hS : SOk nd (k, st, p, l))
    (kf : ∀ e, sOpen τ B nd (k, st, p, l) = .inl e → ∀ h', RM np h h' → MF h' e → K (iI 0) h')
    (kt : ∀ k' st' p' l', sOpen τ B nd (k, st, p, l) = .inr (true, (k', st', p', l')) → SOk nd (k', st', p', l') → k < k' → l'.length = l.length + 1 → ∀ h', RM np h h' → TM h' τ k' → MRs np h' st' p' l' → K (iI 1) h')
    (km : ∀ k' st' p', sOpen τ B nd (k, st, p, l) = .inr (false, (k', st', p', l)) → SOk nd (k', st', p', l) → k < k' → ∀ h', RM np h h' → TM h' τ k' → MRs np h' st' p' l → K (iI 0) h') :
    XW (d + 6) 249 0 [.ref 118, .int (iI l.length), .null, .null, .null, .null] [] h (KI K) := by
  have hL := hC.1
  have hY := hC.2.2.1
  have q := TM.pos hY hT
  have ea := XT.e_at hY.1 hT.1.1 hT.1.2
  have aa := XT.a_at hY.1 hT.1.1 hT.1.2
  have h13 := hM.2.2.2.2
  have wi := way_in τ k
  have s1 : 0 ≤ st ∧ st ≤ 40 := hS.1
  have s2 : 0 ≤ p.z ∧ p.z + opF l ≤ 2 * st := hS.2.1
  have s3 : l.length ≤ 6 := hS.2.2.1
  have on := opF_nn l
  have F1 : Fr (pF [(118, 59)]) h (sI h 118 59 (iI (st + 1))) := (Fr.refl _ _).sI 118 59 _ (by simp [pF])
  have R1 : RM np h (sI h 118 59 (iI (st + 1))) := RM.of F1 (fun a j q => by simp [pPm] at q; simp [pF]; omega) (fun j => by simp [pF])
  have M1 : MRs np (sI h 118 59 (iI (st + 1))) (st + 1) p l := ⟨by rw [sI_here, if_neg (by decide)]; exact hM.1, by rw [sI_here, if_pos rfl], fun q => (hM.2.2.1 q).rows (by decide) hnp.1, MStk.up l (fun a j a0 a1 j0 j1 => zA_o _ (by omega)) hM.2.2.2.1, by rw [sI_here, if_neg (by decide)]; exact h13⟩
  have T1 : TM (sI h 118 59 (iI (st + 1))) τ k := hT.fld (by decide)
  have C1 := hC.rm R1
  have c1 : ∀ (KK : Int32 → XH → Prop), KK (iI (τ.way k)) h → XW (d + 5) 248 0 [.ref 118] [] h (KI KK) := fun KK kk => m_wayWord hL hC.2.1 hY hT h13 kk
  have v31 := hM.2.1
  by_cases w : τ.way k = -1
  · cases qi : τ.is k sW_if with
    | false =>
      have u : sOpen τ B nd (k, st, p, l) = .inl (1, τ.a k) := by unfold sOpen; dsimp only; rw [if_pos ⟨w, qi⟩]
      have R := kf _ u _ (RM.wrg h 1 (τ.a k)) (wrg_MF (by omega) (by omega))
      refine w_aload0 r_249_0 ?_
      refine k_248 r_249_1 (Lk_118 hL) (Nat.le_of_ble_eq_true rfl) ?_
      refine c1 _ ?_
      refine w_istore2 r_249_4 rfl ?_
      refine w_aload0 r_249_5 ?_
      refine w_ldcS (a := 1000070) r_249_6 rfl ?_
      refine k_175 r_249_8 (Lk_118 hL) (Nat.le_of_ble_eq_true rfl) ?_
      refine m_word0 (d := d + 1) hL hY hT h13 (sS_30 hL hC.2.1) (fun z => absurd z (by rw [qi]; decide)) (fun _ => ?_)
      refine w_istore3 r_249_11 rfl ?_
      refine w_iload2 r_249_12 ?_
      refine v_if_ge r_249_13 (by first | exact zF_in _ _ _ | exact zA_in _ _ _ | omega) (fun q => absurd q (by omega)) (fun _ => ?_)
      refine w_iload3 r_249_16 ?_
      refine v_if_ne r_249_17 (by first | exact zF_in _ _ _ | exact zA_in _ _ _ | omega) (fun q => absurd q (by omega)) (fun _ => ?_)
      refine w_aload0 r_249_20 ?_
      refine w_iconst (v := iI (1)) r_249_21 rfl ?_
      refine w_aload0 r_249_22 ?_
      refine v_getI r_249_23 (Lk_118 hL) hT.i.1 ?_
      refine k_174 r_249_26 (Lk_118 hL) (Nat.le_of_ble_eq_true rfl) ?_
      refine m_wrong0 hL h13 ?_
      refine w_zret r_249_29 (by decide) ?_
      exact R
    | true =>
      have n1 : ¬ (τ.way k = -1 ∧ τ.is k sW_if = false) := fun x => by rw [x.2] at qi; cases qi
      have wd := is_word qi
      by_cases y : 40 ≤ st
      · have u : sOpen τ B nd (k, st, p, l) = .inl (5, τ.a k) := by unfold sOpen; dsimp only; rw [if_neg n1, if_pos y]
        have R := kf _ u _ (RM.wrg h 5 (τ.a k)) (wrg_MF (by omega) (by omega))
        refine w_aload0 r_249_0 ?_
        refine k_248 r_249_1 (Lk_118 hL) (Nat.le_of_ble_eq_true rfl) ?_
        refine c1 _ ?_
        refine w_istore2 r_249_4 rfl ?_
        refine w_aload0 r_249_5 ?_
        refine w_ldcS (a := 1000070) r_249_6 rfl ?_
        refine k_175 r_249_8 (Lk_118 hL) (Nat.le_of_ble_eq_true rfl) ?_
        refine m_word0 (d := d + 1) hL hY hT h13 (sS_30 hL hC.2.1) (fun _ => ?_) (fun z => absurd qi (by rw [z]; decide))
        refine w_istore3 r_249_11 rfl ?_
        refine w_iload2 r_249_12 ?_
        refine v_if_ge r_249_13 (by first | exact zF_in _ _ _ | exact zA_in _ _ _ | omega) (fun q => absurd q (by omega)) (fun _ => ?_)
        refine w_iload3 r_249_16 ?_
        refine v_if_ne r_249_17 (by first | exact zF_in _ _ _ | exact zA_in _ _ _ | omega) (fun _ => ?_) (fun q => absurd q (by omega))
        refine w_aload0 r_249_30 ?_
        refine v_getI r_249_31 (Lk_118 hL) v31 ?_
        refine w_bipush (v := iI (40)) r_249_34 rfl ?_
        refine v_ic_ne r_249_36 (by first | exact zF_in _ _ _ | exact zA_in _ _ _ | omega) (by first | exact zF_in _ _ _ | exact zA_in _ _ _ | omega) (fun q => absurd q (by omega)) (fun _ => ?_)
        refine w_aload0 r_249_39 ?_
        refine w_iconst (v := iI (5)) r_249_40 rfl ?_
        refine w_aload0 r_249_41 ?_
        refine v_getI r_249_42 (Lk_118 hL) hT.i.1 ?_
        refine k_174 r_249_45 (Lk_118 hL) (Nat.le_of_ble_eq_true rfl) ?_
        refine m_wrong0 hL h13 ?_
        refine w_zret r_249_48 (by decide) ?_
        exact R
      · have u : sOpen τ B nd (k, st, p, l) = bnd (gQ τ B nd (τ.e k)) (fun q => if τ.k q.2.2 = 40 then (if 6 ≤ l.length then .inl (5, τ.a q.2.2) else .inr (true, (τ.e q.2.2, st + 1, pAdd p 4 q.1 q.2.1, (false, p.z) :: l))) else .inl (1, τ.a q.2.2)) := by unfold sOpen; dsimp only; rw [if_neg n1, if_neg y, if_pos w]
        rw [u] at kf kt
        have go : ∀ g, Fr PTm (sI h 118 59 (iI (st + 1))) g → TM g τ (τ.e k) → XW (d + 6) 249 63 [.ref 118, .int (iI l.length), .int (iI (τ.way k)), .int (iI 1), .null, .null] [] g (KI K) := by
          intro g fg Tg
          have rg : RM np h g := R1.trans (RM.tm fg)
          refine m_openIf (hC.rm rg) hg hnd hnp Tg (M1.tm fg hnp.1) (by omega) s3 (fun e ee h2 r2 m2 => ?_) (fun q ee n h2 r2 m2 => ?_) (fun q ee n n6 h2 r2 m2 => ?_) (fun q ee o lt n n6 h2 r2 t2 m2 => ?_)
          · exact kf e (bnd_l ee) h2 (rg.trans r2) m2
          · exact kf _ (by rw [bnd_r ee, if_neg n]) h2 (rg.trans r2) m2
          · exact kf _ (by rw [bnd_r ee, if_pos n, if_pos n6]) h2 (rg.trans r2) m2
          · exact kt _ _ _ _ (by rw [bnd_r ee, if_pos n, if_neg (by omega)]) (hS.opn (by omega) n6 o.1 o.2) (by omega) rfl h2 (rg.trans r2) t2 m2
        have v50 := hM.2.1
        refine w_aload0 r_249_0 ?_
        refine k_248 r_249_1 (Lk_118 hL) (Nat.le_of_ble_eq_true rfl) ?_
        refine c1 _ ?_
        refine w_istore2 r_249_4 rfl ?_
        refine w_aload0 r_249_5 ?_
        refine w_ldcS (a := 1000070) r_249_6 rfl ?_
        refine k_175 r_249_8 (Lk_118 hL) (Nat.le_of_ble_eq_true rfl) ?_
        refine m_word0 (d := d + 1) hL hY hT h13 (sS_30 hL hC.2.1) (fun _ => ?_) (fun z => absurd qi (by rw [z]; decide))
        refine w_istore3 r_249_11 rfl ?_
        refine w_iload2 r_249_12 ?_
        refine v_if_ge r_249_13 (by first | exact zF_in _ _ _ | exact zA_in _ _ _ | omega) (fun q => absurd q (by omega)) (fun _ => ?_)
        refine w_iload3 r_249_16 ?_
        refine v_if_ne r_249_17 (by first | exact zF_in _ _ _ | exact zA_in _ _ _ | omega) (fun _ => ?_) (fun q => absurd q (by omega))
        refine w_aload0 r_249_30 ?_
        refine v_getI r_249_31 (Lk_118 hL) v31 ?_
        refine w_bipush (v := iI (40)) r_249_34 rfl ?_
        refine v_ic_ne r_249_36 (by first | exact zF_in _ _ _ | exact zA_in _ _ _ | omega) (by first | exact zF_in _ _ _ | exact zA_in _ _ _ | omega) (fun _ => ?_) (fun q => absurd q (by omega))
        refine w_aload0 r_249_49 ?_
        refine w_dupA r_249_50 ?_
        refine v_getI r_249_51 (Lk_118 hL) v50 ?_
        refine w_iconst (v := iI (1)) r_249_54 rfl ?_
        refine v_iadd r_249_55 ?_
        refine w_putI r_249_56 (Lk_118 hL) (Ln_118 hL) ?_
        refine w_aload0 r_249_59 ?_
        refine k_172 r_249_60 (Lk_118 hL) (Nat.le_of_ble_eq_true rfl) ?_
        refine m_next (d := d + 4) C1.1 C1.2.2.1 (by omega) T1.i.2.1 (fun g f t => ?_)
        exact go g f t
  · have qi := way_if w
    have n1 : ¬ (τ.way k = -1 ∧ τ.is k sW_if = false) := fun x => w x.1
    have wd := way_word w
    by_cases y : 40 ≤ st
    · have u : sOpen τ B nd (k, st, p, l) = .inl (5, τ.a k) := by unfold sOpen; dsimp only; rw [if_neg n1, if_pos y]
      have R := kf _ u _ (RM.wrg h 5 (τ.a k)) (wrg_MF (by omega) (by omega))
      refine w_aload0 r_249_0 ?_
      refine k_248 r_249_1 (Lk_118 hL) (Nat.le_of_ble_eq_true rfl) ?_
      refine c1 _ ?_
      refine w_istore2 r_249_4 rfl ?_
      refine w_aload0 r_249_5 ?_
      refine w_ldcS (a := 1000070) r_249_6 rfl ?_
      refine k_175 r_249_8 (Lk_118 hL) (Nat.le_of_ble_eq_true rfl) ?_
      refine m_word0 (d := d + 1) hL hY hT h13 (sS_30 hL hC.2.1) (fun z => absurd z (by rw [qi]; decide)) (fun _ => ?_)
      refine w_istore3 r_249_11 rfl ?_
      refine w_iload2 r_249_12 ?_
      refine v_if_ge r_249_13 (by first | exact zF_in _ _ _ | exact zA_in _ _ _ | omega) (fun _ => ?_) (fun q => absurd q (by omega))
      refine w_aload0 r_249_30 ?_
      refine v_getI r_249_31 (Lk_118 hL) v31 ?_
      refine w_bipush (v := iI (40)) r_249_34 rfl ?_
      refine v_ic_ne r_249_36 (by first | exact zF_in _ _ _ | exact zA_in _ _ _ | omega) (by first | exact zF_in _ _ _ | exact zA_in _ _ _ | omega) (fun q => absurd q (by omega)) (fun _ => ?_)
      refine w_aload0 r_249_39 ?_
      refine w_iconst (v := iI (5)) r_249_40 rfl ?_
      refine w_aload0 r_249_41 ?_
      refine v_getI r_249_42 (Lk_118 hL) hT.i.1 ?_
      refine k_174 r_249_45 (Lk_118 hL) (Nat.le_of_ble_eq_true rfl) ?_
      refine m_wrong0 hL h13 ?_
      refine w_zret r_249_48 (by decide) ?_
      exact R
    · have u : sOpen τ B nd (k, st, p, l) = if τ.k (τ.e k) = 2 then (if 1 ≤ τ.v (τ.e k) ∧ τ.v (τ.e k) ≤ 9 then .inr (false, (τ.e (τ.e k), st + 1, pAdd p (τ.way k) (τ.v (τ.e k)) (-1), l)) else .inl (4, τ.a (τ.e k))) else .inr (false, (τ.e k, st + 1, pAdd p (τ.way k) 1 (-1), l)) := by unfold sOpen; dsimp only; rw [if_neg n1, if_neg y, if_neg w]
      rw [u] at kf km
      have go : ∀ g, Fr PTm (sI h 118 59 (iI (st + 1))) g → TM g τ (τ.e k) → XW (d + 6) 249 63 [.ref 118, .int (iI l.length), .int (iI (τ.way k)), .int (iI 0), .null, .null] [] g (KI K) := by
        intro g fg Tg
        have rg : RM np h g := R1.trans (RM.tm fg)
        have e2 := XT.e_at hY.1 Tg.1.1 Tg.1.2
        have a2 := XT.a_at hY.1 Tg.1.1 Tg.1.2
        refine m_openMove (hC.rm rg) hnp Tg (M1.tm fg hnp.1) (by omega) (by omega) (fun n nn h2 r2 m2 => ?_) (fun n k' o h2 r2 t2 m2 => ?_)
        · exact kf _ (by rw [if_pos n, if_neg nn]) h2 (rg.trans r2) m2
        · rcases o with o | o
          · obtain ⟨o1, rfl, rfl, o4⟩ := o
            exact km _ _ _ (by rw [if_pos o1, if_pos o4]) (hS.add (by omega) (by omega) o4) (by omega) h2 (rg.trans r2) t2 m2
          · obtain ⟨o1, rfl, rfl⟩ := o
            exact km _ _ _ (by rw [if_neg o1]) (hS.add (by omega) (by omega) (by omega)) (by omega) h2 (rg.trans r2) t2 m2
      have v50 := hM.2.1
      refine w_aload0 r_249_0 ?_
      refine k_248 r_249_1 (Lk_118 hL) (Nat.le_of_ble_eq_true rfl) ?_
      refine c1 _ ?_
      refine w_istore2 r_249_4 rfl ?_
      refine w_aload0 r_249_5 ?_
      refine w_ldcS (a := 1000070) r_249_6 rfl ?_
      refine k_175 r_249_8 (Lk_118 hL) (Nat.le_of_ble_eq_true rfl) ?_
      refine m_word0 (d := d + 1) hL hY hT h13 (sS_30 hL hC.2.1) (fun z => absurd z (by rw [qi]; decide)) (fun _ => ?_)
      refine w_istore3 r_249_11 rfl ?_
      refine w_iload2 r_249_12 ?_
      refine v_if_ge r_249_13 (by first | exact zF_in _ _ _ | exact zA_in _ _ _ | omega) (fun _ => ?_) (fun q => absurd q (by omega))
      refine w_aload0 r_249_30 ?_
      refine v_getI r_249_31 (Lk_118 hL) v31 ?_
      refine w_bipush (v := iI (40)) r_249_34 rfl ?_
      refine v_ic_ne r_249_36 (by first | exact zF_in _ _ _ | exact zA_in _ _ _ | omega) (by first | exact zF_in _ _ _ | exact zA_in _ _ _ | omega) (fun _ => ?_) (fun q => absurd q (by omega))
      refine w_aload0 r_249_49 ?_
      refine w_dupA r_249_50 ?_
      refine v_getI r_249_51 (Lk_118 hL) v50 ?_
      refine w_iconst (v := iI (1)) r_249_54 rfl ?_
      refine v_iadd r_249_55 ?_
      refine w_putI r_249_56 (Lk_118 hL) (Ln_118 hL) ?_
      refine w_aload0 r_249_59 ?_
      refine k_172 r_249_60 (Lk_118 hL) (Nat.le_of_ble_eq_true rfl) ?_
      refine m_next (d := d + 4) C1.1 C1.2.2.1 (by omega) T1.i.2.1 (fun g f t => ?_)
      exact go g f t
theorem MRs.lnd {e0 : Bool} {i0 : Int} (f : Fr (pA [144]) h h') (new : np < 8 → zA h' 144 (512 * np + 4 * i0 + 3) = p.z) (same : ∀ x, 0 ≤ x → ¬ x = 512 * np + 4 * i0 + 3 → zA h' 144 x = zA h 144 x) (hnp : 0 ≤ np) (h0 : 0 ≤ i0) (m : MRs np h st p ((e0, i0) :: t)) : MRs np h' st (pLand p i0) t := by
  refine ⟨by rw [(f.2 118 58 (by simp [pA])).1]; exact m.1, by rw [(f.2 118 59 (by simp [pA])).1]; exact m.2.1, fun q => ?_, MStk.up t (fun a j a0 a1 j0 j1 => f.A (by simp [pA]; omega)) m.2.2.2.1.2.2, by rw [(f.2 118 13 (by simp [pA])).1]; exact m.2.2.2.2⟩
  refine (m.2.2.1 q).land hnp h0 (new q) same (fun e i w => ?_)
  rcases List.mem_cons.1 w with v | v
  · cases v; exact Or.inl rfl
  · exact Or.inr ⟨e, v⟩
theorem MRs.els {i0 : Int} {g g5 : XH} (f : Fr pOr h g) (e58 : gI g 118 58 = iI (p.z + 1)) (new : np < 8 → zA g 144 (512 * np + 4 * p.z) = 2 ∧ zA g 144 (512 * np + 4 * p.z + 1) = 0 ∧ zA g 144 (512 * np + 4 * p.z + 2) = 0)
    (same : ∀ x, 0 ≤ x → ¬ (512 * np + 4 * p.z ≤ x ∧ x < 512 * np + 4 * p.z + 4) → zA g 144 x = zA h 144 x) (hnp : 0 ≤ np) (hz : 0 ≤ p.z ∧ p.z < 80) (h0 : 0 ≤ i0)
    (f5 : Fr (pA [144]) (sI g 147 (t.length : Int).toNat (iI p.z)) g5) (new5 : np < 8 → zA g5 144 (512 * np + 4 * i0 + 3) = p.z + 1) (same5 : ∀ x, 0 ≤ x → ¬ x = 512 * np + 4 * i0 + 3 → zA g5 144 x = zA (sI g 147 (t.length : Int).toNat (iI p.z)) 144 x)
    (m : MRs np h st p ((false, i0) :: t)) : MRs np (sI g5 148 (t.length : Int).toNat (iI 1)) st (pLand (pAdd p 5 0 (-1)) i0) ((true, p.z) :: t) := by
  have r := MRs.ord (kd := 5) (nm := 0) (gd := -1) f e58 new same hnp hz.1 ⟨fun x => by omega, fun x => by omega, fun _ => rfl⟩ m
  refine ⟨?_, ?_, fun q => ?_, ⟨?_, ?_, ?_⟩, ?_⟩
  · rw [sI_other _ (by decide), (f5.2 118 58 (by simp [pA])).1, sI_other _ (by decide)]; exact r.1
  · rw [sI_other _ (by decide), (f5.2 118 59 (by simp [pA])).1, sI_other _ (by decide)]; exact r.2.1
  · have M1 := (r.2.2.1 ((true, p.z) :: (false, i0) :: t) (fun _ => ⟨true, List.mem_cons_self⟩) (fun e i m => ⟨e, List.mem_cons_of_mem _ m⟩) q).rows (x := 147) (j := (t.length : Int).toNat) (v := iI p.z) (by decide) hnp
    refine (M1.land (l' := (true, p.z) :: t) hnp h0 (new5 q) same5 (fun e i w => ?_)).rows (by decide) hnp
    rcases List.mem_cons.1 w with v | v
    · cases v; exact Or.inr ⟨true, List.mem_cons_self⟩
    · rcases List.mem_cons.1 v with v | v
      · cases v; exact Or.inl rfl
      · exact Or.inr ⟨e, List.mem_cons_of_mem _ v⟩
  · rw [zA_s (by omega) (by omega) (by decide), if_pos rfl]; rfl
  · rw [if_pos rfl, zA_o _ (by decide), f5.A (by simp [pA]), zA_s (by omega) (by omega) (by omega), if_pos rfl]
  · refine MStk.up t (fun a j a0 a1 j0 j1 => ?_) r.2.2.2.1.2.2
    by_cases x : a = 148
    · rw [x, zA_s (by omega) j0 (by decide), if_neg (by omega), f5.A (by simp [pA]), zA_o _ (by decide)]
    · rw [zA_o _ x, f5.A (by simp [pA]; omega)]
      by_cases y : a = 147
      · rw [y, zA_s (by omega) j0 (by omega), if_neg (by omega)]
      · rw [zA_o _ y]
  · rw [sI_other _ (by decide), (f5.2 118 13 (by simp [pA])).1, sI_other _ (by decide)]; exact r.2.2.2.2
end MP3
