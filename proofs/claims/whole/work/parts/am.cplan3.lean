/-! the class reads a plan -/
section CPT
variable {d : Nat} {h : XH} {K : Int32 → XH → Prop} {KU : XH → Prop} {τ : XT} {k st nd : Int} {pa rb : Nat} {B : XB} {p : XL} {l : List (Bool × Int)}
/-- readSteps keeps its contract at a depth -/
def RSt (τ : XT) (B : XB) (nd : Int) (pa rb : Nat) (D dep : Nat) : Prop := ∀ (h : XH) (K : Int32 → XH → Prop) (k st : Int) (p : XL) (l : List (Bool × Int)), PCx τ B nd pa rb h → TC h τ k → PlC h pa st p l → SOk nd (k, st, p, l) → l.length = dep → OkF τ B nd pa h (false, (k, st, p, l)) K → OkT τ B nd pa h (false, (k, st, p, l)) l (fun k' => ¬ τ.k k' = 59) K → XW D 71 0 [.ref 5, .int (iI dep), .null] [] h (KI K)
/-- a block: from its sign on -/
theorem c_readBlock {D dep : Nat} {e0 : Bool} {i0 : Int} (hp : Pl pa) (hb : rb = 6 ∨ rb = 20) (hC : PCx τ B nd pa rb h) (hT : TC h τ k) (hP : PlC h pa st p ((e0, i0) :: l)) (hdep : l.length = dep) (hS : dep < 6 → SOk nd (τ.e k, st, p, (e0, i0) :: l)) (IH : dep < 6 → RSt τ B nd pa rb (D + 2) (dep + 1)) (hd6 : dep ≤ 6)
    (k1 : ¬ τ.k k = 40 → K (iI 0) (blm h 1 (τ.a k))) (k5 : τ.k k = 40 → 6 ≤ dep → K (iI 0) (blm h 5 (τ.a k)))
    (kf : τ.k k = 40 → dep < 6 → OkF τ B nd pa h (false, (τ.e k, st, p, (e0, i0) :: l)) K)
    (kt : τ.k k = 40 → dep < 6 → ∀ k' st' p', st < st' → (∀ r, Ends τ B nd (true, (k', st', p', (e0, i0) :: l)) r → Ends τ B nd (false, (τ.e k, st, p, (e0, i0) :: l)) r) → SOk nd (k', st', p', (e0, i0) :: l) → τ.k k' = 41 → ∀ h', Fr (pP pa) h h' → TC h' τ (τ.e k') → PlC h' pa st' p' ((e0, i0) :: l) → zF h' 3 7 = zF h 3 7 → K (iI 1) h') : XW (D + 3) 76 0 [.ref 5, .int (iI dep)] [] h (KI K) := by
  have hL := hC.1
  have q := hC.pos hT
  have hC0 := hC
  by_cases z : τ.k k = 40
  · by_cases y : dep < 6
    · have IH := IH y
      have S := hS y
      have go : ∀ g, Fr PTk h g → TC g τ (τ.e k) → XW (D + 3) 76 43 [.ref 5, .int (iI dep)] [] g (KI K) := by
        intro g fg Tg
        have hC := hC0.fr hp hb (pP_tk fg)
        have hL := hC.1
        refine w_aload0 r_76_43 ?_
        refine w_iload1 r_76_44 ?_
        refine w_iconst (v := iI 1) r_76_45 rfl ?_
        refine v_iadd r_76_46 ?_
        refine k_71 r_76_47 (Lk_5 hL) (Nat.le_of_ble_eq_true rfl) ?_
        refine IH g _ (τ.e k) st p ((e0, i0) :: l) hC Tg (hP.tk hp fg) S (by show l.length + 1 = dep + 1; omega) (fun e ee h' f' b' => ?_) (fun k' st' p' ls en so nk h' f' t' pc z7 => ?_)
        · have R := kf z y e ee h' ((pP_tk fg).trans f') b'
          have hL := f'.lay hL
          refine v_if_eq r_76_50 (by first | exact zF_in _ _ _ | exact zA_in _ _ _ | omega) (fun _ => ?_) (fun q => absurd q (by omega))
          refine w_iconst (v := iI (0)) r_76_69 rfl ?_
          refine w_zret r_76_70 (by decide) ?_
          exact R
        · have F2 := (pP_tk (pa := pa) fg).trans f'
          have hC := hC0.fr hp hb F2
          have hL := hC.1
          have q2 := hC.pos t'
          by_cases w : τ.k k' = 41
          · have R := fun g3 (f3 : Fr PTk h' g3) t3 => kt z y k' st' p' ls en so w g3 (F2.trans (pP_tk f3)) t3 (pc.tk hp f3) (by rw [fr37 f3, z7, fr37 fg])
            refine v_if_eq r_76_50 (by first | exact zF_in _ _ _ | exact zA_in _ _ _ | omega) (fun q => absurd q (by omega)) (fun _ => ?_)
            refine w_aload0 r_76_53 ?_
            refine w_getA (x := 3) r_76_54 (Lk_5 hL) (Lr_5_0 hL) (by decide) ?_
            refine w_bipush (v := iI (41)) r_76_57 rfl ?_
            refine k_96 r_76_59 (Lk_3 hL) (Nat.le_of_ble_eq_true rfl) ?_
            refine c_take (d := D) (by decide) hL hC.2.2.1 t' (fun _ g3 f3 t3 => ?_) (fun w' => absurd w w')
            refine v_if_eq r_76_62 (by first | exact zF_in _ _ _ | exact zA_in _ _ _ | omega) (fun q => absurd q (by omega)) (fun _ => ?_)
            refine w_iconst (v := iI (1)) r_76_65 rfl ?_
            refine w_goto r_76_66 ?_
            refine w_zret r_76_70 (by decide) ?_
            exact R g3 f3 t3
          · have R := kf z y (1, τ.a k') (en _ (close_f (by unfold sClose; dsimp only; rw [if_neg w, if_neg nk]))) _ (F2.trans (pP_blm h' 1 (τ.a k'))) (blm_BL (by omega) (by omega))
            refine v_if_eq r_76_50 (by first | exact zF_in _ _ _ | exact zA_in _ _ _ | omega) (fun q => absurd q (by omega)) (fun _ => ?_)
            refine w_aload0 r_76_53 ?_
            refine w_getA (x := 3) r_76_54 (Lk_5 hL) (Lr_5_0 hL) (by decide) ?_
            refine w_bipush (v := iI (41)) r_76_57 rfl ?_
            refine k_96 r_76_59 (Lk_3 hL) (Nat.le_of_ble_eq_true rfl) ?_
            refine c_take (d := D) (by decide) hL hC.2.2.1 t' (fun w' => absurd w' w) (fun _ => ?_)
            refine v_if_eq r_76_62 (by first | exact zF_in _ _ _ | exact zA_in _ _ _ | omega) (fun _ => ?_) (fun q => absurd q (by omega))
            refine w_iconst (v := iI (0)) r_76_69 rfl ?_
            refine w_zret r_76_70 (by decide) ?_
            exact R
      refine w_aload0 r_76_0 ?_
      refine w_getA (x := 3) r_76_1 (Lk_5 hL) (Lr_5_0 hL) (by decide) ?_
      refine v_getI r_76_4 (Lk_3 hL) hT.i.2.2 ?_
      refine w_bipush (v := iI (40)) r_76_7 rfl ?_
      refine v_ic_eq r_76_9 (by first | exact zF_in _ _ _ | exact zA_in _ _ _ | omega) (by first | exact zF_in _ _ _ | exact zA_in _ _ _ | omega) (fun _ => ?_) (fun q => absurd q (by omega))
      refine w_iload1 r_76_21 ?_
      refine w_bipush (v := iI (6)) r_76_22 rfl ?_
      refine v_ic_lt r_76_24 (by first | exact zF_in _ _ _ | exact zA_in _ _ _ | omega) (by first | exact zF_in _ _ _ | exact zA_in _ _ _ | omega) (fun _ => ?_) (fun q => absurd q (by omega))
      refine w_aload0 r_76_36 ?_
      refine w_getA (x := 3) r_76_37 (Lk_5 hL) (Lr_5_0 hL) (by decide) ?_
      refine k_89 r_76_40 (Lk_3 hL) (Nat.le_of_ble_eq_true rfl) ?_
      refine c_advance (d := D + 1) hL hC.2.2.1 (by omega) hT.i.2.1 (fun g f t => ?_)
      exact go g f t
    · have R := k5 z (by omega)
      refine w_aload0 r_76_0 ?_
      refine w_getA (x := 3) r_76_1 (Lk_5 hL) (Lr_5_0 hL) (by decide) ?_
      refine v_getI r_76_4 (Lk_3 hL) hT.i.2.2 ?_
      refine w_bipush (v := iI (40)) r_76_7 rfl ?_
      refine v_ic_eq r_76_9 (by first | exact zF_in _ _ _ | exact zA_in _ _ _ | omega) (by first | exact zF_in _ _ _ | exact zA_in _ _ _ | omega) (fun _ => ?_) (fun q => absurd q (by omega))
      refine w_iload1 r_76_21 ?_
      refine w_bipush (v := iI (6)) r_76_22 rfl ?_
      refine v_ic_lt r_76_24 (by first | exact zF_in _ _ _ | exact zA_in _ _ _ | omega) (by first | exact zF_in _ _ _ | exact zA_in _ _ _ | omega) (fun q => absurd q (by omega)) (fun _ => ?_)
      refine w_aload0 r_76_27 ?_
      refine w_getA (x := 3) r_76_28 (Lk_5 hL) (Lr_5_0 hL) (by decide) ?_
      refine w_iconst (v := iI (5)) r_76_31 rfl ?_
      refine k_99 r_76_32 (Lk_3 hL) (Nat.le_of_ble_eq_true rfl) ?_
      refine c_blame (d := D + 1) hL hT ?_
      refine w_zret r_76_35 (by decide) ?_
      exact R
  · have R := k1 z
    refine w_aload0 r_76_0 ?_
    refine w_getA (x := 3) r_76_1 (Lk_5 hL) (Lr_5_0 hL) (by decide) ?_
    refine v_getI r_76_4 (Lk_3 hL) hT.i.2.2 ?_
    refine w_bipush (v := iI (40)) r_76_7 rfl ?_
    refine v_ic_eq r_76_9 (by first | exact zF_in _ _ _ | exact zA_in _ _ _ | omega) (by first | exact zF_in _ _ _ | exact zA_in _ _ _ | omega) (fun q => absurd q (by omega)) (fun _ => ?_)
    refine w_aload0 r_76_12 ?_
    refine w_getA (x := 3) r_76_13 (Lk_5 hL) (Lr_5_0 hL) (by decide) ?_
    refine w_iconst (v := iI (1)) r_76_16 rfl ?_
    refine k_99 r_76_17 (Lk_3 hL) (Nat.le_of_ble_eq_true rfl) ?_
    refine c_blame (d := D + 1) hL hT ?_
    refine w_zret r_76_20 (by decide) ?_
    exact R
theorem c_readIf {D dep : Nat} (hp : Pl pa) (hb : rb = 6 ∨ rb = 20) (hC : PCx τ B nd pa rb h) (hg : 0 ≤ B.g ∧ B.g ≤ 8) (hnd : 0 ≤ nd ∧ nd ≤ 5) (hk : 0 ≤ k ∧ k ≤ τ.2) (hT : TC h τ (τ.e k)) (hP : PlC h pa (st + 1) p l) (hS : SOk nd (k, st, p, l)) (hw : τ.way k = -1) (hi : τ.is k sW_if = true) (h40 : st < 40) (hdep : l.length = dep) (IH : dep < 6 → RSt τ B nd pa rb (D + 6) (dep + 1))
    (kf : OkF τ B nd pa h (false, (k, st, p, l)) K) (kt : OkT τ B nd pa h (false, (k, st, p, l)) l (fun _ => True) K) : XW (D + 8) 74 0 [.ref 5, .int (iI dep), .null, .null] [] h (KI K) := by
  have n := hp.ne
  have hL := hC.1
  have q := hC.pos hT
  have hC0 := hC
  have b2 : p.z + opF l ≤ 2 * st := hS.2.1.2
  have b1 : 0 ≤ p.z := hS.2.1.1
  have o0 := opF_nn l
  have d6 : dep ≤ 6 := by have : l.length ≤ 6 := hS.2.2.1; omega
  have s0 : ¬ (τ.way k = -1 ∧ τ.is k sW_if = false) := fun z => by rw [hi] at z; exact absurd z.2 (by decide)
  have s1 : ¬ (40 : Int) ≤ st := by omega
  have so : sOpen τ B nd (k, st, p, l) = bnd (gQ τ B nd (τ.e k)) (fun q => if τ.k q.2.2 = 40 then (if 6 ≤ l.length then .inl (5, τ.a q.2.2) else .inr (true, (τ.e q.2.2, st + 1, pAdd p 4 q.1 q.2.1, (false, p.z) :: l))) else .inl (1, τ.a q.2.2)) := by
    unfold sOpen; dsimp only; rw [if_neg s0, if_neg s1, if_pos hw]
  refine w_aload0 r_74_0 ?_
  refine k_75 r_74_1 (Lk_5 hL) (Nat.le_of_ble_eq_true rfl) ?_
  refine c_readQuestion (d := D) hp hb hC hg hnd hT hP (by omega) (fun qq gq h1 f1 T1 P1 z1 => ?_) (fun e ge h1 f1 b1' => ?_)
  rotate_left
  · have R := kf e (open_f (by rw [so, bnd_l ge])) h1 f1 b1'
    have hL := f1.lay hL
    refine w_istore2 r_74_4 rfl ?_
    refine w_iload2 r_74_5 ?_
    refine w_iconst (v := iI (-1)) r_74_6 rfl ?_
    refine v_ic_eq r_74_7 (by first | exact zF_in _ _ _ | exact zA_in _ _ _ | omega) (by first | exact zF_in _ _ _ | exact zA_in _ _ _ | omega) (fun _ => ?_) (fun q => absurd q (by omega))
    refine w_iconst (v := iI (0)) r_74_18 rfl ?_
    refine w_zret r_74_19 (by decide) ?_
    exact R
  rw [bnd_r gq] at so
  have ok := gQ_ok hC.2.2.1.1 hT.1 hg gq
  have hC := hC0.fr hp hb f1
  have hL := hC.1
  have q1 := hC.pos T1
  have S1 : dep < 6 → SOk nd (τ.e qq.2.2, st + 1, pAdd p 4 qq.1 qq.2.1, (false, p.z) :: l) := fun y => hS.opn h40 (by omega) ok.1 ok.2.1
  -- behind the first block
  have second : ∀ (k' st' : Int) (p' : XL) (g : XH), st < st' → (∀ r, Ends τ B nd (true, (k', st', p', (false, p.z) :: l)) r → Ends τ B nd (false, (k, st, p, l)) r) → SOk nd (k', st', p', (false, p.z) :: l) → τ.k k' = 41 → dep < 6 → Fr (pP pa) h g → TC g τ (τ.e k') → PlC g pa st' p' ((false, p.z) :: l) → zF g 3 7 = zF h 3 7 → XW (D + 8) 74 20 [.ref 5, .int (iI dep), .int (iI p.z), .null] [] g (KI K) := by
    intro k' st' p' g ls en so' w y fg Tg Pg z7
    have hC := hC0.fr hp hb fg
    have hL := hC.1
    have qg := hC.pos Tg
    have b2' : p'.z + ((if false = true then 0 else 1) + opF l) ≤ 2 * st' := so'.2.1.2
    rw [if_neg (by decide)] at b2'
    have b1' : 0 ≤ p'.z := so'.2.1.1
    have st40 : st' ≤ 40 := so'.1.2
    have m0 := so'.2.2.2.2 false p.z List.mem_cons_self
    have m1 : p.z < p'.z := m0.2.1
    refine w_aload0 r_74_20 ?_
    refine w_getA (x := 3) r_74_21 (Lk_5 hL) (Lr_5_0 hL) (by decide) ?_
    refine w_ldcS (a := 1000060) r_74_24 rfl ?_
    refine k_93 r_74_26 (Lk_3 hL) (Nat.le_of_ble_eq_true rfl) ?_
    refine c_spells (d := D + 3) hL hC.2.2.1 Tg (sS_25 hL hC.2.1) (fun u => ?_) (fun u => ?_)
    skip
    rotate_left
    · have sc : sClose τ (k', st', p', (false, p.z) :: l) = .inr (1, (τ.e k', st', pLand p' p.z, l)) := by
        unfold sClose; dsimp only; rw [if_pos w, if_neg (by rw [u]; decide)]
      have R := fun g2 (f2 : Fr (fun a _ => decide (pa ≤ a) && decide (a ≤ pa + 4)) g g2) p2 => kt (τ.e k') st' (pLand p' p.z) ls (fun r e => en r (close_1 sc e)) so'.land trivial g2 (fg.trans (pP_pl f2)) (plTC hp f2 Tg) p2 (by rw [pl37 hp f2, z7])
      refine v_if_ne r_74_29 (by first | exact zF_in _ _ _ | exact zA_in _ _ _ | omega) (fun q => absurd q (by omega)) (fun _ => ?_)
      refine w_aload0 r_74_32 ?_
      refine w_getA (x := pa) r_74_33 (Lk_5 hL) hC.2.2.2.1.1 (Plk hL hp).2.2 ?_
      refine w_iload2 r_74_36 ?_
      refine k_68 r_74_37 (Plk hL hp).1 (Nat.le_of_ble_eq_true rfl) ?_
      refine c_lead (d := D + 7) hL hp (by omega) (by omega) Pg (fun g2 f2 p2 => ?_)
      refine w_iconst (v := iI (1)) r_74_40 rfl ?_
      refine w_zret r_74_41 (by decide) ?_
      exact R g2 f2 p2
    -- an else
    have els : ∀ g1, Fr PTk g g1 → TC g1 τ (τ.e (τ.e k')) → XW (D + 8) 74 49 [.ref 5, .int (iI dep), .int (iI p.z), .null] [] g1 (KI K) := by
      intro g1 f1 T1
      have F1 := fg.trans (pP_tk f1)
      have hC := hC0.fr hp hb F1
      have hL := hC.1
      have P1 := Pg.tk hp f1
      have q1 := hC.pos T1
      have blk : ∀ g3, Fr (pP pa) h g3 → TC g3 τ (τ.e (τ.e k')) → PlC g3 pa st' (pLand (pAdd p' 5 0 (-1)) p.z) ((true, p'.z) :: l) → zF g3 3 7 = zF h 3 7 → XW (D + 8) 74 68 [.ref 5, .int (iI dep), .int (iI p.z), .int (iI p'.z)] [] g3 (KI K) := by
        intro g3 f3 T3 P3 z3
        have hC := hC0.fr hp hb f3
        have hL := hC.1
        have scE : ¬ τ.k (τ.e (τ.e k')) = 40 → sClose τ (k', st', p', (false, p.z) :: l) = .inl (1, τ.a (τ.e (τ.e k'))) := fun v => by
          unfold sClose; dsimp only; rw [if_pos w, if_pos ⟨rfl, u⟩, if_neg v]
        have scO : τ.k (τ.e (τ.e k')) = 40 → sClose τ (k', st', p', (false, p.z) :: l) = .inr (0, (τ.e (τ.e (τ.e k')), st', pLand (pAdd p' 5 0 (-1)) p.z, (true, p'.z) :: l)) := fun v => by
          unfold sClose; dsimp only; rw [if_pos w, if_pos ⟨rfl, u⟩, if_pos v]
        refine w_aload0 r_74_68 ?_
        refine w_iload1 r_74_69 ?_
        refine k_76 r_74_70 (Lk_5 hL) (Nat.le_of_ble_eq_true rfl) ?_
        refine c_readBlock (D := D + 4) hp hb hC T3 P3 hdep (fun _ => so'.els) IH d6 (fun v => ?_) (fun _ v => absurd y (by omega)) (fun v _ e ee h' f' b' => ?_) (fun v _ k2 st2 p2 ls2 en2 so2 w2 h' f' t' pc z7' => ?_)
        · have R := kf (1, τ.a (τ.e (τ.e k'))) (en _ (close_f (scE v))) _ (f3.trans (pP_blm g3 1 (τ.a (τ.e (τ.e k'))))) (blm_BL (by omega) (by omega))
          have hL := (pP_blm (pa := pa) g3 1 (τ.a (τ.e (τ.e k')))).lay hL
          refine v_if_ne r_74_73 (by first | exact zF_in _ _ _ | exact zA_in _ _ _ | omega) (fun q => absurd q (by omega)) (fun _ => ?_)
          refine w_iconst (v := iI (0)) r_74_76 rfl ?_
          refine w_zret r_74_77 (by decide) ?_
          exact R
        · have R := kf e (en _ (close_0 (scO v) ee)) h' (f3.trans f') b'
          have hL := f'.lay hL
          refine v_if_ne r_74_73 (by first | exact zF_in _ _ _ | exact zA_in _ _ _ | omega) (fun q => absurd q (by omega)) (fun _ => ?_)
          refine w_iconst (v := iI (0)) r_74_76 rfl ?_
          refine w_zret r_74_77 (by decide) ?_
          exact R
        · have F4 := f3.trans f'
          have hC := hC0.fr hp hb F4
          have hL := hC.1
          have sc2 : sClose τ (k2, st2, p2, (true, p'.z) :: l) = .inr (1, (τ.e k2, st2, pLand p2 p'.z, l)) := by
            unfold sClose; dsimp only; rw [if_pos w2, if_neg (by intro z; exact absurd z.1 (by decide))]
          have mm := so2.2.2.2.2 true p'.z List.mem_cons_self
          have mz : p'.z < p2.z := mm.2.1
          have b3 : p2.z + ((if true = true then 0 else 1) + opF l) ≤ 2 * st2 := so2.2.1.2
          rw [if_pos rfl] at b3
          have st40' : st2 ≤ 40 := so2.1.2
          have R := fun g5 (f5 : Fr (fun a _ => decide (pa ≤ a) && decide (a ≤ pa + 4)) h' g5) p5 => kt (τ.e k2) st2 (pLand p2 p'.z) (by show st < st2; omega) (fun r e => en r (close_0 (scO v) (en2 r (close_1 sc2 e)))) so2.land trivial g5 (F4.trans (pP_pl f5)) (plTC hp f5 t') p5 (by rw [pl37 hp f5, z7', z3])
          refine v_if_ne r_74_73 (by first | exact zF_in _ _ _ | exact zA_in _ _ _ | omega) (fun _ => ?_) (fun q => absurd q (by omega))
          refine w_aload0 r_74_78 ?_
          refine w_getA (x := pa) r_74_79 (Lk_5 hL) hC.2.2.2.1.1 (Plk hL hp).2.2 ?_
          refine w_iload3 r_74_82 ?_
          refine k_68 r_74_83 (Plk hL hp).1 (Nat.le_of_ble_eq_true rfl) ?_
          refine c_lead (d := D + 7) hL hp (by omega) (by omega) pc (fun g5 f5 p5 => ?_)
          refine w_iconst (v := iI (1)) r_74_86 rfl ?_
          refine w_zret r_74_87 (by decide) ?_
          exact R g5 f5 p5
      have ld : ∀ g2, Fr (fun a _ => decide (pa ≤ a) && decide (a ≤ pa + 4)) g1 g2 → PlC g2 pa st' (pAdd p' 5 0 (-1)) ((false, p.z) :: (true, p'.z) :: l) → XW (D + 8) 74 59 [.ref 5, .int (iI dep), .int (iI p.z), .null] [.int (iI p'.z)] g2 (KI K) := by
        intro g2 f2 P2
        have F2 := F1.trans (pP_pl f2)
        have hC := hC0.fr hp hb F2
        have hL := hC.1
        have J := fun g3 (f3 : Fr (fun a _ => decide (pa ≤ a) && decide (a ≤ pa + 4)) g2 g3) p3 => blk g3 (F2.trans (pP_pl f3)) (plTC hp f3 (plTC hp f2 T1)) p3 (by rw [pl37 hp f3, pl37 hp f2, fr37 f1, z7])
        refine w_istore3 r_74_59 rfl ?_
        refine w_aload0 r_74_60 ?_
        refine w_getA (x := pa) r_74_61 (Lk_5 hL) hC.2.2.2.1.1 (Plk hL hp).2.2 ?_
        refine w_iload2 r_74_64 ?_
        refine k_68 r_74_65 (Plk hL hp).1 (Nat.le_of_ble_eq_true rfl) ?_
        refine c_lead (d := D + 7) hL hp (by omega) (by show 0 ≤ p'.z + 1 ∧ p'.z + 1 ≤ 80; omega) P2 (fun g3 f3 p3 => ?_)
        exact J g3 f3 p3
      have hsub : ∀ (i : Int) (e : Bool), (e, i) ∈ (false, p.z) :: l → ∃ e', (e', i) ∈ (false, p.z) :: (true, p'.z) :: l := fun i e m => by
        rcases List.mem_cons.1 m with v | v
        · cases v; exact ⟨false, List.mem_cons_self⟩
        · exact ⟨e, List.mem_cons_of_mem _ (List.mem_cons_of_mem _ v)⟩
      refine w_aload0 r_74_49 ?_
      refine w_getA (x := pa) r_74_50 (Lk_5 hL) hC.2.2.2.1.1 (Plk hL hp).2.2 ?_
      refine w_iconst (v := iI (5)) r_74_53 rfl ?_
      refine w_iconst (v := iI (0)) r_74_54 rfl ?_
      refine w_iconst (v := iI (-1)) r_74_55 rfl ?_
      refine k_67 r_74_56 (Plk hL hp).1 (Nat.le_of_ble_eq_true rfl) ?_
      refine c_add (d := D + 7) (l' := (false, p.z) :: (true, p'.z) :: l) hL hp (by omega) P1 (by decide) (by decide) (by decide) (fun _ => ⟨true, List.mem_cons_of_mem _ List.mem_cons_self⟩) hsub (fun g2 f2 p2 => ?_)
      exact ld g2 f2 p2
    refine v_if_ne r_74_29 (by first | exact zF_in _ _ _ | exact zA_in _ _ _ | omega) (fun _ => ?_) (fun q => absurd q (by omega))
    refine w_aload0 r_74_42 ?_
    refine w_getA (x := 3) r_74_43 (Lk_5 hL) (Lr_5_0 hL) (by decide) ?_
    refine k_89 r_74_46 (Lk_3 hL) (Nat.le_of_ble_eq_true rfl) ?_
    refine c_advance (d := D + 6) hL hC.2.2.1 (by omega) Tg.i.2.1 (fun g1 f1 t1 => ?_)
    exact els g1 f1 t1
  have first : XW (D + 8) 74 10 [.ref 5, .int (iI dep), .int (iI p.z), .null] [] h1 (KI K) := by
    refine w_aload0 r_74_10 ?_
    refine w_iload1 r_74_11 ?_
    refine k_76 r_74_12 (Lk_5 hL) (Nat.le_of_ble_eq_true rfl) ?_
    refine c_readBlock (D := D + 4) hp hb hC T1 P1 hdep S1 IH d6 (fun v => ?_) (fun v y => ?_) (fun v y e ee h' f' b' => ?_) (fun v y k2 st2 p2 ls2 en2 so2 w2 h' f' t' pc z7' => ?_)
    · have R := kf (1, τ.a qq.2.2) (open_f (by rw [so, if_neg v])) _ (f1.trans (pP_blm h1 1 (τ.a qq.2.2))) (blm_BL (by omega) (by omega))
      have hL := (pP_blm (pa := pa) h1 1 (τ.a qq.2.2)).lay hL
      refine v_if_ne r_74_15 (by first | exact zF_in _ _ _ | exact zA_in _ _ _ | omega) (fun q => absurd q (by omega)) (fun _ => ?_)
      refine w_iconst (v := iI (0)) r_74_18 rfl ?_
      refine w_zret r_74_19 (by decide) ?_
      exact R
    · have R := kf (5, τ.a qq.2.2) (open_f (by rw [so, if_pos v, if_pos (by omega)])) _ (f1.trans (pP_blm h1 5 (τ.a qq.2.2))) (blm_BL (by omega) (by omega))
      have hL := (pP_blm (pa := pa) h1 5 (τ.a qq.2.2)).lay hL
      refine v_if_ne r_74_15 (by first | exact zF_in _ _ _ | exact zA_in _ _ _ | omega) (fun q => absurd q (by omega)) (fun _ => ?_)
      refine w_iconst (v := iI (0)) r_74_18 rfl ?_
      refine w_zret r_74_19 (by decide) ?_
      exact R
    · have so1 := so
      rw [if_pos v, if_neg (by omega)] at so1
      have R := kf e (open_t so1 ee) h' (f1.trans f') b'
      have hL := f'.lay hL
      refine v_if_ne r_74_15 (by first | exact zF_in _ _ _ | exact zA_in _ _ _ | omega) (fun q => absurd q (by omega)) (fun _ => ?_)
      refine w_iconst (v := iI (0)) r_74_18 rfl ?_
      refine w_zret r_74_19 (by decide) ?_
      exact R
    · have so1 := so
      rw [if_pos v, if_neg (by omega)] at so1
      have hL := f'.lay hL
      have tp := t'.1
      have S := second k2 st2 p2 h' (by omega) (fun r e => open_t so1 (en2 r e)) so2 w2 y (f1.trans f') t' pc (by rw [z7', z1])
      refine v_if_ne r_74_15 (by omega) (fun _ => ?_) (fun q => absurd q (by omega))
      exact S
  refine w_istore2 r_74_4 rfl ?_
  refine w_iload2 r_74_5 ?_
  refine w_iconst (v := iI (-1)) r_74_6 rfl ?_
  refine v_ic_eq r_74_7 (by first | exact zF_in _ _ _ | exact zA_in _ _ _ | omega) (by first | exact zF_in _ _ _ | exact zA_in _ _ _ | omega) (fun q => absurd q (by omega)) (fun _ => ?_)
  exact first
end CPT
