/-! plans judged by all truths: the greatest cost; the Model -/
section FB
variable {d : Nat} {h : XH} {K : Int32 → XH → Prop} {KU : XH → Prop} {M : XM} {B : XB} {dd f : Int} {p : XL} {rb pa : Nat} {c to t : Int}
theorem gcN_in {w m : Int → Int} {b : Int} (hb : 0 ≤ b) (hm : ∀ t : Int, 0 ≤ t → m t ≤ b) : ∀ n : Nat, -1 ≤ gcN w m n ∧ gcN w m n ≤ b := by
  intro n
  induction n with
  | zero => exact ⟨by show (-1 : Int) ≤ 0; decide, hb⟩
  | succ n ih =>
    have := hm n (by omega)
    unfold gcN
    split <;> omega
theorem gcN_bad {w m : Int → Int} {j : Nat} (hj : ¬ w j = 0) : ∀ k : Nat, gcN w m (j + 1 + k) = -1 := by
  intro k
  induction k with
  | zero => show (if gcN w m j = -1 ∨ ¬ w j = 0 then _ else _) = _; rw [if_pos (Or.inr hj)]
  | succ k ih => show (if gcN w m (j + 1 + k) = -1 ∨ _ then _ else _) = _; rw [if_pos (Or.inl ih)]
abbrev PGc : Nat → Nat → Bool := pO PTs (pF [(106, 5), (106, 6), (106, 7), (106, 8), (106, 9)])
theorem c_greatestCost (hL : Lay h) (hb : rb = 6 ∨ rb = 20) (hr : gR h 91 1 = rb) (hC : CBk h rb B) (ho : B.ok) (hS : CLr h B dd) (hP : CMp h M) (hm : M.ok B.g) (hd : 0 ≤ dd ∧ dd < B.w) (h0 : zF h 91 12 = zF h 80 4 → Prep h B dd M) (hp : Pl pa) (hQ : CPl h pa p) (hk : p.ok M.nd) (hc : 0 ≤ c ∧ c < M.n) (hto : 0 ≤ to ∧ to < M.n)
    (kk : ∀ h', Fr PGc h h' → zF h' 91 12 = zF h 80 4 → Prep h' B dd M → K (iI (gcN (fun t => (wyT B dd M p c to t).1) (fun t => (wyT B dd M p c to t).2.2.2.2) (trm M).toNat)) h') :
    XW (d + 6) 40 0 [.ref 106, .ref pa, .int (iI c), .int (iI to), .null, .null, .null] [] h (KI K) := by
  have tr := trm_in hm
  refine w_aload0 r_40_0 ?_
  refine w_getA (x := 91) r_40_1 (Lk_106 hL) (Lr_106_1 hL) (by decide) ?_
  refine k_83 r_40_4 (Lk_91 hL) (Nat.le_of_ble_eq_true rfl) ?_
  refine c_prepare hL hb hr hC ho hS hP hm rfl hd h0 (fun h2 f2 e2 E2 => ?_)
  have F2 : Fr PGc h h2 := f2.mono (fun a j q => by simp only [pO, Bool.or_eq_false_iff] at q ⊢; exact q.1)
  have P2 : CMp h2 M := hP.fr f2 (fun a j p q r => by simp [pO, pA, pF]; omega)
  have key : ∀ n : Nat, n ≤ (trm M).toNat → ∀ g : XH, Fr PGc h g → zF g 91 12 = zF h 80 4 → CMp g M → Prep g B dd M → 0 ≤ gcN (fun t => (wyT B dd M p c to t).1) (fun t => (wyT B dd M p c to t).2.2.2.2) n → XW (d + 6) 40 22 [.ref 106, .ref pa, .int (iI c), .int (iI to), .int (iI (gcN (fun t => (wyT B dd M p c to t).1) (fun t => (wyT B dd M p c to t).2.2.2.2) n)), .int (iI (trm M)), .int (iI n)] [] g (KI K) := by
    refine upto _ ?_ ?_
    · intro g fg eg _ Eg _
      have hL := fg.lay hL
      refine w_iload6 r_40_22 ?_
      refine w_iload5 r_40_24 ?_
      refine v_ic_ge r_40_26 (by first | exact zF_in _ _ _ | exact zA_in _ _ _ | omega) (by first | exact zF_in _ _ _ | exact zA_in _ _ _ | omega) (fun _ => ?_) (fun q => absurd q (by omega))
      refine w_iload4 r_40_60 ?_
      refine w_iret r_40_62 ?_
      exact kk g fg eg Eg
    · intro n hn ih g fg eg Pg Eg g0
      have hL := fg.lay hL
      have wt := wyT_in (to := to) ho hm hd hk hc (t := (n : Int)) (by omega)
      have gi := gcN_in (w := fun t => (wyT B dd M p c to t).1) (m := fun t => (wyT B dd M p c to t).2.2.2.2) (b := 30000000) (by decide) (fun t a => (wyT_in (to := to) ho hm hd hk hc a).2.2.2) n
      have Cg : CPl g pa p := hQ.fr fg hp (fun a j q r => by simp [pO, pA, pF]; omega)
      have go : ∀ g1, Fr PJw g g1 → gI g1 106 9 = iI (wyT B dd M p c to n).2.2.2.2 → XW (d + 6) 40 38 [.ref 106, .ref pa, .int (iI c), .int (iI to), .int (iI (gcN (fun t => (wyT B dd M p c to t).1) (fun t => (wyT B dd M p c to t).2.2.2.2) n)), .int (iI (trm M)), .int (iI n)] [.int (iI (wyT B dd M p c to n).1)] g1 (KI K) := by
        intro g1 f1 c1
        have F1 : Fr PGc g g1 := f1.mono (fun a j q => by simp [pO, pA, pF] at q ⊢; omega)
        have PE1 := CP_fr f1 (fun a j p q r => by simp [pF]; omega) Pg Eg
        have hL := F1.lay hL
        have e1 : zF g1 91 12 = zF h 80 4 := by rw [f1.F (by simp [pF])]; exact eg
        by_cases z : (wyT B dd M p c to n).1 = 0
        · have u : gcN (fun t => (wyT B dd M p c to t).1) (fun t => (wyT B dd M p c to t).2.2.2.2) (n + 1) = max (gcN (fun t => (wyT B dd M p c to t).1) (fun t => (wyT B dd M p c to t).2.2.2.2) n) (wyT B dd M p c to n).2.2.2.2 := by
            show (if _ ∨ ¬ (wyT B dd M p c to n).1 = 0 then _ else _) = _
            rw [if_neg (by omega)]
          have J := ih g1 (fg.trans F1) e1 PE1.1 PE1.2 (by rw [u]; omega)
          rw [u, Int.natCast_add, Int.natCast_one] at J
          refine v_if_eq r_40_38 (by first | exact zF_in _ _ _ | exact zA_in _ _ _ | omega) (fun _ => ?_) (fun q => absurd q (by omega))
          refine w_iload4 r_40_43 ?_
          refine w_aload0 r_40_45 ?_
          refine v_getI r_40_46 (Lk_106 hL) c1 ?_
          refine k_268 r_40_49 (Nat.le_of_ble_eq_true rfl) ?_
          refine c_max (by first | exact zF_in _ _ _ | exact zA_in _ _ _ | omega) (by first | exact zF_in _ _ _ | exact zA_in _ _ _ | omega) ?_
          refine w_istore4 r_40_52 rfl ?_
          refine w_iinc6 r_40_54 rfl (iI_add _ _) ?_
          refine w_goto r_40_57 ?_
          exact J
        · have R := kk g1 (fg.trans F1) e1 PE1.2
          have u := gcN_bad (w := fun t => (wyT B dd M p c to t).1) (m := fun t => (wyT B dd M p c to t).2.2.2.2) (j := n) z ((trm M).toNat - (n + 1))
          rw [show n + 1 + ((trm M).toNat - (n + 1)) = (trm M).toNat by omega] at u
          rw [u] at R
          refine v_if_eq r_40_38 (by first | exact zF_in _ _ _ | exact zA_in _ _ _ | omega) (fun q => absurd q (by omega)) (fun _ => ?_)
          refine w_iconst (v := iI (-1)) r_40_41 rfl ?_
          refine w_iret r_40_42 ?_
          exact R
      refine w_iload6 r_40_22 ?_
      refine w_iload5 r_40_24 ?_
      refine v_ic_ge r_40_26 (by first | exact zF_in _ _ _ | exact zA_in _ _ _ | omega) (by first | exact zF_in _ _ _ | exact zA_in _ _ _ | omega) (fun q => absurd q (by omega)) (fun _ => ?_)
      refine w_aload0 r_40_29 ?_
      refine w_aload1 r_40_30 ?_
      refine w_iload2 r_40_31 ?_
      refine w_iload3 r_40_32 ?_
      refine w_iload6 r_40_33 ?_
      refine k_41 r_40_35 (Lk_106 hL) (Nat.le_of_ble_eq_true rfl) ?_
      refine c_whyNot hL hp ho hd hm Pg Eg Cg hk (by omega) hc hto (fun g1 f1 m1 c1 => ?_)
      exact go g1 f1 c1
  have J := key 0 (by omega) h2 F2 e2 P2 E2 (by show (0 : Int) ≤ 0; decide)
  have hL := f2.lay hL
  refine w_iconst (v := iI (0)) r_40_7 rfl ?_
  refine w_istore4 r_40_8 rfl ?_
  refine w_aload0 r_40_10 ?_
  refine w_getA (x := 80) r_40_11 (Lk_106 hL) (Lr_106_0 hL) (by decide) ?_
  refine k_55 r_40_14 (Lk_80 hL) (Nat.le_of_ble_eq_true rfl) ?_
  refine c_truthM hL P2 hm ?_
  refine w_istore5 r_40_17 rfl ?_
  refine w_iconst (v := iI (0)) r_40_19 rfl ?_
  refine w_istore6 r_40_20 rfl ?_
  exact J
/-- the Model's failing -/
abbrev PMf : Nat → Nat → Bool := pO (pA [141, 142]) (pF [(118, 63), (118, 64), (118, 65), (118, 66), (118, 67)])
theorem hG_MMp (hP : MMp h M) : MMp (hG h) M := hP.fr (hG_fr h) (fun a j p q => by simp [pF]; omega) (fun j p q => by simp [pF]; omega)
theorem MPl.fr {P : Nat → Nat → Bool} {h' : XH} {i : Int} (g : Fr P h h') (p0 : ∀ j, P 144 j = false ∧ P 145 j = false) (hC : MPl h i p) : MPl h' i p := by
  refine ⟨by rw [g.A (p0 _).2]; exact hC.1, fun k a b => ?_⟩
  rw [g.A (p0 _).1, g.A (p0 _).1, g.A (p0 _).1, g.A (p0 _).1]
  exact hC.2 k a b
theorem PMf_fr {h1 : XH} (g : Fr PMf h h1) (hQ : MBk h B) (hP : MMp h M) : MBk h1 B ∧ MMp h1 M := ⟨hQ.fr g (fun a j q => by simp [fpMB] at q; simp [pO, pA, pF]; omega), hP.fr g (fun a j p q => by simp [pO, pA, pF]; omega) (fun j p q => by simp [pO, pA, pF]; omega)⟩
theorem m_failing {i bd np : Int} {pl : Int → XL} (hi : R32 i) (hc : R32 c) (hto : R32 to) (hbd : R32 bd) (hL : Lay h) (hM : MB h) (hQ : MBk h B) (hP : MMp h M) (hv : zF h 118 34 = 1 → B.ok ∧ M.ok B.g ∧ (0 ≤ dd ∧ dd < B.w) ∧ ∀ i, 0 ≤ i → i < np → MPl h i (pl i) ∧ (pl i).ok M.nd) (hdd : gI h 118 38 = iI dd) (hnp : zF h 118 40 = np ∧ 0 ≤ np ∧ np ≤ 8)
    (k1 : ¬ (zF h 118 34 = 1 ∧ (0 ≤ i ∧ i < np) ∧ (0 ≤ c ∧ c < M.n) ∧ 0 ≤ to ∧ to < M.n) → K (iI (-1)) (sI (hG h) 118 39 (iI 1)))
    (k2 : zF h 118 34 = 1 ∧ (0 ≤ i ∧ i < np) ∧ (0 ≤ c ∧ c < M.n) ∧ 0 ≤ to ∧ to < M.n → ¬ (0 ≤ bd ∧ bd ≤ 9999999) → K (iI (-1)) (sI (hG h) 118 39 (iI 2)))
    (k3 : zF h 118 34 = 1 ∧ (0 ≤ i ∧ i < np) ∧ (0 ≤ c ∧ c < M.n) ∧ 0 ≤ to ∧ to < M.n → 0 ≤ bd ∧ bd ≤ 9999999 → ∀ h', Fr PMf (hG h) h' → MLs h' M → (gI h' 118 63 = iI (fsN (wyB B dd M (pl i) c to bd) (fun t => (wyT B dd M (pl i) c to t).2.2.2.1) (trm M).toNat).2.1 ∧ gI h' 118 64 = iI (fsN (wyB B dd M (pl i) c to bd) (fun t => (wyT B dd M (pl i) c to t).2.2.2.1) (trm M).toNat).2.2.1 ∧ gI h' 118 65 = iI (fsN (wyB B dd M (pl i) c to bd) (fun t => (wyT B dd M (pl i) c to t).2.2.2.1) (trm M).toNat).2.2.2) → K (iI (fsN (wyB B dd M (pl i) c to bd) (fun t => (wyT B dd M (pl i) c to t).2.2.2.1) (trm M).toNat).1) h') :
    XW (d + 6) 253 0 [.ref 118, .int (iI i), .int (iI c), .int (iI to), .int (iI bd), .null, .null, .null] [] h (KI K) := by
  have ew : zF h 118 34 = 1 → zF h 118 35 * zF h 118 36 = M.n := fun q => by
    rcases hP.1.2 with z | z
    · rw [z.2.1, z.2.2.1]; rfl
    · omega
  have v14 : gI (hG h) 118 40 = iI np := by rw [gI_F, (hG_fr h).F (by simp [pF]), hnp.1]
  have h34 := hM.2.1
  have hL0 := hL
  have main : zF h 118 34 = 1 ∧ (0 ≤ i ∧ i < np) ∧ (0 ≤ c ∧ c < M.n) ∧ 0 ≤ to ∧ to < M.n → 0 ≤ bd ∧ bd ≤ 9999999 → XW (d + 6) 253 65 [.ref 118, .int (iI i), .int (iI c), .int (iI to), .int (iI bd), .null, .null, .null] [] (hG h) (KI K) := by
    intro cd hb
    obtain ⟨ho, hm, hd, hpl⟩ := hv cd.1
    have pp := hpl i cd.2.1.1 cd.2.1.2
    have hk := pp.2
    have KK := k3 cd hb
    generalize hp : pl i = p at pp hk KK
    have tr := trm_in hm
    have Q1 := hG_MBk hQ
    have P1 := hG_MMp hP
    have d1 : gI (hG h) 118 38 = iI dd := by rw [((hG_fr h).2 118 38 (by simp [pF])).1]; exact hdd
    have key : ∀ n : Nat, n ≤ (trm M).toNat → ∀ (g : XH) (X7 : Value), Fr PMf (hG h) g → MLs g M → gI g 118 63 = iI (fsN (wyB B dd M p c to bd) (fun t => (wyT B dd M p c to t).2.2.2.1) n).2.1 ∧ gI g 118 64 = iI (fsN (wyB B dd M p c to bd) (fun t => (wyT B dd M p c to t).2.2.2.1) n).2.2.1 ∧ gI g 118 65 = iI (fsN (wyB B dd M p c to bd) (fun t => (wyT B dd M p c to t).2.2.2.1) n).2.2.2 → XW (d + 6) 253 93 [.ref 118, .int (iI i), .int (iI c), .int (iI to), .int (iI bd), .int (iI (fsN (wyB B dd M p c to bd) (fun t => (wyT B dd M p c to t).2.2.2.1) n).1), .int (iI n), X7] [] g (KI K) := by
      refine upto _ ?_ ?_
      · intro g X7 fg Kg I
        have hL := fg.lay ((hG_fr h).lay hL)
        have Pg := (PMf_fr fg Q1 P1).2
        refine w_iload6 r_253_93 ?_
        refine w_aload0 r_253_95 ?_
        refine k_235 r_253_96 (Lk_118 hL) (Nat.le_of_ble_eq_true rfl) ?_
        refine m_truthM hL Pg hm Kg ?_
        refine v_ic_ge r_253_99 (by first | exact zF_in _ _ _ | exact zA_in _ _ _ | omega) (by first | exact zF_in _ _ _ | exact zA_in _ _ _ | omega) (fun _ => ?_) (fun q => absurd q (by omega))
        refine w_iload5 r_253_178 ?_
        refine w_iret r_253_180 ?_
        exact KK g fg Kg I
      · intro n hn ih g X7 fg Kg I
        have hL := fg.lay ((hG_fr h).lay hL)
        have QP := PMf_fr fg Q1 P1
        have wt := wyT_in (to := to) ho hm hd hk cd.2.2.1 (t := (n : Int)) (by omega)
        have fi := fsN_in (w := wyB B dd M p c to bd) (m := fun t => (wyT B dd M p c to t).2.2.2.1) n
        have wi := wyB_in (bd := bd) (to := to) ho hm hd hk cd.2.2.1 (t := (n : Int)) (by omega)
        have Cg : MPl g i p := (pp.1.fr (hG_fr h) (fun j => by simp [pF])).fr fg (fun j => by simp [pO, pA, pF])
        have dg : gI g 118 38 = iI dd := by rw [(fg.2 118 38 (by simp [pO, pA, pF])).1]; exact d1
        have step : ∀ (g1 : XH), Fr PMf (hG h) g1 → MLs g1 M → (gI g1 118 63 = iI (fsN (wyB B dd M p c to bd) (fun t => (wyT B dd M p c to t).2.2.2.1) n).2.1 ∧ gI g1 118 64 = iI (fsN (wyB B dd M p c to bd) (fun t => (wyT B dd M p c to t).2.2.2.1) n).2.2.1 ∧ gI g1 118 65 = iI (fsN (wyB B dd M p c to bd) (fun t => (wyT B dd M p c to t).2.2.2.1) n).2.2.2) → gI g1 118 66 = iI (wyT B dd M p c to n).2.2.2.1 → XW (d + 6) 253 136 [.ref 118, .int (iI i), .int (iI c), .int (iI to), .int (iI bd), .int (iI (fsN (wyB B dd M p c to bd) (fun t => (wyT B dd M p c to t).2.2.2.1) n).1), .int (iI n), .int (iI (wyB B dd M p c to bd n))] [] g1 (KI K) := by
          intro g1 f1 K1 I1 m1
          have hL := f1.lay ((hG_fr h).lay hL0)
          have ih' := ih
          unfold fsN at ih'
          generalize fsN (wyB B dd M p c to bd) (fun t => (wyT B dd M p c to t).2.2.2.1) n = r at *
          generalize wyB B dd M p c to bd n = w at *
          by_cases z : w = 0
          · simp only [z, if_true] at ih'
            have J := ih' g1 (.int (iI w)) f1 K1 I1
            rw [Int.natCast_add, Int.natCast_one] at J
            rw [z] at J ⊢
            refine w_iload7 r_253_136 ?_
            refine v_if_ne r_253_138 (by first | exact zF_in _ _ _ | exact zA_in _ _ _ | omega) (fun q => absurd q (by omega)) (fun _ => ?_)
            refine w_goto r_253_141 ?_
            refine w_iinc6 r_253_172 rfl (iI_add _ _) ?_
            refine w_goto r_253_175 ?_
            exact J
          · simp only [z, if_false] at ih'
            by_cases z2 : r.1 = 0
            · simp only [z2, if_true] at ih'
              have F4 : Fr PMf g1 (sI (sI (sI g1 118 63 (iI n)) 118 64 (iI w)) 118 65 (iI (wyT B dd M p c to n).2.2.2.1)) := (((Fr.refl _ _).sI 118 63 _ (by simp [pO, pF])).sI 118 64 _ (by simp [pO, pF])).sI 118 65 _ (by simp [pO, pF])
              have J := ih' _ (.int (iI w)) (f1.trans F4) (K1.fr ((((Fr.refl (pF [(118, 63), (118, 64), (118, 65)]) _).sI 118 63 _ (by simp [pF])).sI 118 64 _ (by simp [pF])).sI 118 65 _ (by simp [pF])) (fun j => by simp [pF])) ⟨rfl, rfl, rfl⟩
              rw [Int.natCast_add, Int.natCast_one] at J
              rw [z2]
              refine w_iload7 r_253_136 ?_
              refine v_if_ne r_253_138 (by first | exact zF_in _ _ _ | exact zA_in _ _ _ | omega) (fun _ => ?_) (fun q => absurd q (by omega))
              refine w_iload5 r_253_144 ?_
              refine v_if_ne r_253_146 (by first | exact zF_in _ _ _ | exact zA_in _ _ _ | omega) (fun q => absurd q (by omega)) (fun _ => ?_)
              refine w_aload0 r_253_149 ?_
              refine w_iload6 r_253_150 ?_
              refine w_putI r_253_152 (Lk_118 hL) (Ln_118 hL) ?_
              refine w_aload0 r_253_155 ?_
              refine w_iload7 r_253_156 ?_
              refine w_putI r_253_158 (Lk_118 hL) (Ln_118 hL) ?_
              refine w_aload0 r_253_161 ?_
              refine w_aload0 r_253_162 ?_
              refine v_getI r_253_163 (Lk_118 hL) m1 ?_
              refine w_putI r_253_166 (Lk_118 hL) (Ln_118 hL) ?_
              refine w_iinc5 r_253_169 rfl (iI_add _ _) ?_
              refine w_iinc6 r_253_172 rfl (iI_add _ _) ?_
              refine w_goto r_253_175 ?_
              exact J
            · simp only [z2, if_false] at ih'
              have J := ih' g1 (.int (iI w)) f1 K1 I1
              rw [Int.natCast_add, Int.natCast_one] at J
              refine w_iload7 r_253_136 ?_
              refine v_if_ne r_253_138 (by first | exact zF_in _ _ _ | exact zA_in _ _ _ | omega) (fun _ => ?_) (fun q => absurd q (by omega))
              refine w_iload5 r_253_144 ?_
              refine v_if_ne r_253_146 (by first | exact zF_in _ _ _ | exact zA_in _ _ _ | omega) (fun _ => ?_) (fun q => absurd q (by omega))
              refine w_iinc5 r_253_169 rfl (iI_add _ _) ?_
              refine w_iinc6 r_253_172 rfl (iI_add _ _) ?_
              refine w_goto r_253_175 ?_
              exact J
        have go : ∀ g1, Fr PAc g g1 → gI g1 118 66 = iI (wyT B dd M p c to n).2.2.2.1 → gI g1 118 67 = iI (wyT B dd M p c to n).2.2.2.2 → XW (d + 6) 253 111 [.ref 118, .int (iI i), .int (iI c), .int (iI to), .int (iI bd), .int (iI (fsN (wyB B dd M p c to bd) (fun t => (wyT B dd M p c to t).2.2.2.1) n).1), .int (iI n), X7] [.int (iI (wyT B dd M p c to n).1)] g1 (KI K) := by
          intro g1 f1 m1 c1
          have F1 : Fr PMf g g1 := f1.mono (fun a j q => by simp [pO, pA, pF] at q ⊢; omega)
          have hL := F1.lay hL
          have S := step g1 (fg.trans F1) (Kg.fr f1 (fun j => by simp [pF])) ⟨by rw [(f1.2 118 63 (by simp [pF])).1]; exact I.1, by rw [(f1.2 118 64 (by simp [pF])).1]; exact I.2.1, by rw [(f1.2 118 65 (by simp [pF])).1]; exact I.2.2⟩ m1
          by_cases z : (wyT B dd M p c to n).1 = 0
          · by_cases z2 : bd < (wyT B dd M p c to n).2.2.2.2
            · rw [show wyB B dd M p c to bd n = 7 by unfold wyB; rw [if_pos ⟨z, z2⟩]] at S
              refine w_istore7 r_253_111 rfl ?_
              refine w_iload7 r_253_113 ?_
              refine v_if_ne r_253_115 (by first | exact zF_in _ _ _ | exact zA_in _ _ _ | omega) (fun q => absurd q (by omega)) (fun _ => ?_)
              refine w_aload0 r_253_118 ?_
              refine v_getI r_253_119 (Lk_118 hL) c1 ?_
              refine w_iload4 r_253_122 ?_
              refine v_ic_le r_253_124 (by first | exact zF_in _ _ _ | exact zA_in _ _ _ | omega) (by first | exact zF_in _ _ _ | exact zA_in _ _ _ | omega) (fun q => absurd q (by omega)) (fun _ => ?_)
              refine w_bipush (v := iI (7)) r_253_127 rfl ?_
              refine w_goto r_253_129 ?_
              refine w_istore7 r_253_134 rfl ?_
              exact S
            · rw [show wyB B dd M p c to bd n = (wyT B dd M p c to n).1 by unfold wyB; rw [if_neg (fun q => z2 q.2)]] at S
              refine w_istore7 r_253_111 rfl ?_
              refine w_iload7 r_253_113 ?_
              refine v_if_ne r_253_115 (by first | exact zF_in _ _ _ | exact zA_in _ _ _ | omega) (fun q => absurd q (by omega)) (fun _ => ?_)
              refine w_aload0 r_253_118 ?_
              refine v_getI r_253_119 (Lk_118 hL) c1 ?_
              refine w_iload4 r_253_122 ?_
              refine v_ic_le r_253_124 (by first | exact zF_in _ _ _ | exact zA_in _ _ _ | omega) (by first | exact zF_in _ _ _ | exact zA_in _ _ _ | omega) (fun _ => ?_) (fun q => absurd q (by omega))
              refine w_iload7 r_253_132 ?_
              refine w_istore7 r_253_134 rfl ?_
              exact S
          · rw [show wyB B dd M p c to bd n = (wyT B dd M p c to n).1 by unfold wyB; rw [if_neg (fun q => z q.1)]] at S
            refine w_istore7 r_253_111 rfl ?_
            refine w_iload7 r_253_113 ?_
            refine v_if_ne r_253_115 (by first | exact zF_in _ _ _ | exact zA_in _ _ _ | omega) (fun _ => ?_) (fun q => absurd q (by omega))
            refine w_iload7 r_253_132 ?_
            refine w_istore7 r_253_134 rfl ?_
            exact S
        refine w_iload6 r_253_93 ?_
        refine w_aload0 r_253_95 ?_
        refine k_235 r_253_96 (Lk_118 hL) (Nat.le_of_ble_eq_true rfl) ?_
        refine m_truthM hL QP.2 hm Kg ?_
        refine v_ic_ge r_253_99 (by first | exact zF_in _ _ _ | exact zA_in _ _ _ | omega) (by first | exact zF_in _ _ _ | exact zA_in _ _ _ | omega) (fun q => absurd q (by omega)) (fun _ => ?_)
        refine w_aload0 r_253_102 ?_
        refine w_iload1 r_253_103 ?_
        refine w_iload2 r_253_104 ?_
        refine w_iload3 r_253_105 ?_
        refine w_iload6 r_253_106 ?_
        refine k_252 r_253_108 (Lk_118 hL) (Nat.le_of_ble_eq_true rfl) ?_
        refine m_acts hL QP.1 ho hd hm QP.2 Kg dg (by omega) Cg hk (by omega) cd.2.2.1 cd.2.2.2 (fun g1 f1 a1 => ?_)
        exact go g1 f1 a1.1 a1.2
    have hL := (hG_fr h).lay hL
    have start : ∀ h2, Fr (pA [141, 142]) (hG h) h2 → MLs h2 M → XW (d + 6) 253 69 [.ref 118, .int (iI i), .int (iI c), .int (iI to), .int (iI bd), .null, .null, .null] [] h2 (KI K) := by
      intro h2 f2 K2
      have F3 : Fr (pF [(118, 63), (118, 64), (118, 65)]) h2 (sI (sI (sI h2 118 63 (iI (-2))) 118 64 (iI (-2))) 118 65 (iI (-2))) := (((Fr.refl _ _).sI 118 63 _ (by simp [pF])).sI 118 64 _ (by simp [pF])).sI 118 65 _ (by simp [pF])
      have J := key 0 (by omega) _ .null ((f2.mono (fun a j q => by simp [pO, pA, pF] at q ⊢; omega)).trans (F3.mono (fun a j q => by simp [pO, pA, pF] at q ⊢; omega))) (K2.fr F3 (fun j => by simp [pF])) ⟨rfl, rfl, rfl⟩
      have hL := f2.lay hL
      refine w_iconst (v := iI (0)) r_253_69 rfl ?_
      refine w_istore5 r_253_70 rfl ?_
      refine w_aload0 r_253_72 ?_
      refine w_bipush (v := iI (-2)) r_253_73 rfl ?_
      refine w_putI r_253_75 (Lk_118 hL) (Ln_118 hL) ?_
      refine w_aload0 r_253_78 ?_
      refine w_bipush (v := iI (-2)) r_253_79 rfl ?_
      refine w_putI r_253_81 (Lk_118 hL) (Ln_118 hL) ?_
      refine w_aload0 r_253_84 ?_
      refine w_bipush (v := iI (-2)) r_253_85 rfl ?_
      refine w_putI r_253_87 (Lk_118 hL) (Ln_118 hL) ?_
      refine w_iconst (v := iI (0)) r_253_90 rfl ?_
      refine w_istore6 r_253_91 rfl ?_
      exact J
    refine w_aload0 r_253_65 ?_
    refine k_214 r_253_66 (Lk_118 hL) (Nat.le_of_ble_eq_true rfl) ?_
    refine m_lists hL P1 hm (fun h2 f2 K2 => ?_)
    exact start h2 f2 K2
  refine w_aload0 r_253_0 ?_
  refine k_164 r_253_1 (Lk_118 hL) (Nat.le_of_ble_eq_true rfl) ?_
  refine m_good hL ?_
  refine w_aload0 r_253_4 ?_
  refine v_getI r_253_5 (Lk_118 hL) (gI_F h 118 34) ?_
  refine v_if_eq r_253_8 (by first | exact zF_in _ _ _ | exact zA_in _ _ _ | omega) (fun c8 => ?_) (fun c8 => ?_)
  · refine w_aload0 r_253_41 ?_
    refine w_iconst (v := iI (1)) r_253_42 rfl ?_
    refine k_165 r_253_43 (Lk_118 hL) (Nat.le_of_ble_eq_true rfl) ?_
    refine m_no hL ?_
    refine w_iret r_253_46 ?_
    exact k1 (by rintro ⟨q1, q2, q3, q4⟩; have := ew q1; omega)
  · refine w_iload1 r_253_11 ?_
    refine w_iconst (v := iI (0)) r_253_12 rfl ?_
    refine w_aload0 r_253_13 ?_
    refine v_getI r_253_14 (Lk_118 hL) v14 ?_
    refine w_iconst (v := iI (1)) r_253_17 rfl ?_
    refine v_isub r_253_18 ?_
    refine k_167 r_253_19 (Nat.le_of_ble_eq_true rfl) ?_
    refine m_within (by first | exact zF_in _ _ _ | exact zA_in _ _ _ | omega) (by first | exact zF_in _ _ _ | exact zA_in _ _ _ | omega) (by first | exact zF_in _ _ _ | exact zA_in _ _ _ | omega) (fun c19 => ?_) (fun c19 => ?_)
    · refine v_if_eq r_253_22 (by first | exact zF_in _ _ _ | exact zA_in _ _ _ | omega) (fun q => absurd q (by omega)) (fun _ => ?_)
      refine w_aload0 r_253_25 ?_
      refine w_iload2 r_253_26 ?_
      refine k_197 r_253_27 (Lk_118 hL) (Nat.le_of_ble_eq_true rfl) ?_
      refine m_isCell (h0 := h) (by first | exact zF_in _ _ _ | exact zA_in _ _ _ | omega) hL ⟨rfl, rfl, rfl, rfl, rfl, rfl⟩ hM (fun c27 => ?_) (fun c27 => ?_)
      · refine v_if_eq r_253_30 (by first | exact zF_in _ _ _ | exact zA_in _ _ _ | omega) (fun q => absurd q (by omega)) (fun _ => ?_)
        refine w_aload0 r_253_33 ?_
        refine w_iload3 r_253_34 ?_
        refine k_197 r_253_35 (Lk_118 hL) (Nat.le_of_ble_eq_true rfl) ?_
        refine m_isCell (h0 := h) (by first | exact zF_in _ _ _ | exact zA_in _ _ _ | omega) hL ⟨rfl, rfl, rfl, rfl, rfl, rfl⟩ hM (fun c35 => ?_) (fun c35 => ?_)
        · refine v_if_ne r_253_38 (by first | exact zF_in _ _ _ | exact zA_in _ _ _ | omega) (fun _ => ?_) (fun q => absurd q (by omega))
          have cd : zF h 118 34 = 1 ∧ (0 ≤ i ∧ i < np) ∧ (0 ≤ c ∧ c < M.n) ∧ 0 ≤ to ∧ to < M.n := by have := ew (by omega); omega
          refine w_iload4 r_253_47 ?_
          refine w_iconst (v := iI (0)) r_253_49 rfl ?_
          refine w_ldcwI (v := iI 9999999) r_253_50 rfl ?_
          refine k_167 r_253_53 (Nat.le_of_ble_eq_true rfl) ?_
          refine m_within (by first | exact zF_in _ _ _ | exact zA_in _ _ _ | omega) (by first | exact zF_in _ _ _ | exact zA_in _ _ _ | omega) (by first | exact zF_in _ _ _ | exact zA_in _ _ _ | omega) (fun c53 => ?_) (fun c53 => ?_)
          · refine v_if_ne r_253_56 (by first | exact zF_in _ _ _ | exact zA_in _ _ _ | omega) (fun _ => ?_) (fun q => absurd q (by omega))
            exact main cd (by omega)
          · refine v_if_ne r_253_56 (by first | exact zF_in _ _ _ | exact zA_in _ _ _ | omega) (fun q => absurd q (by omega)) (fun _ => ?_)
            refine w_aload0 r_253_59 ?_
            refine w_iconst (v := iI (2)) r_253_60 rfl ?_
            refine k_165 r_253_61 (Lk_118 hL) (Nat.le_of_ble_eq_true rfl) ?_
            refine m_no hL ?_
            refine w_iret r_253_64 ?_
            exact k2 cd (by omega)
        · refine v_if_ne r_253_38 (by first | exact zF_in _ _ _ | exact zA_in _ _ _ | omega) (fun q => absurd q (by omega)) (fun _ => ?_)
          refine w_aload0 r_253_41 ?_
          refine w_iconst (v := iI (1)) r_253_42 rfl ?_
          refine k_165 r_253_43 (Lk_118 hL) (Nat.le_of_ble_eq_true rfl) ?_
          refine m_no hL ?_
          refine w_iret r_253_46 ?_
          exact k1 (by rintro ⟨q1, q2, q3, q4⟩; have := ew q1; omega)
      · refine v_if_eq r_253_30 (by first | exact zF_in _ _ _ | exact zA_in _ _ _ | omega) (fun _ => ?_) (fun q => absurd q (by omega))
        refine w_aload0 r_253_41 ?_
        refine w_iconst (v := iI (1)) r_253_42 rfl ?_
        refine k_165 r_253_43 (Lk_118 hL) (Nat.le_of_ble_eq_true rfl) ?_
        refine m_no hL ?_
        refine w_iret r_253_46 ?_
        exact k1 (by rintro ⟨q1, q2, q3, q4⟩; have := ew q1; omega)
    · refine v_if_eq r_253_22 (by first | exact zF_in _ _ _ | exact zA_in _ _ _ | omega) (fun _ => ?_) (fun q => absurd q (by omega))
      refine w_aload0 r_253_41 ?_
      refine w_iconst (v := iI (1)) r_253_42 rfl ?_
      refine k_165 r_253_43 (Lk_118 hL) (Nat.le_of_ble_eq_true rfl) ?_
      refine m_no hL ?_
      refine w_iret r_253_46 ?_
      exact k1 (by rintro ⟨q1, q2, q3, q4⟩; have := ew q1; omega)
end FB
