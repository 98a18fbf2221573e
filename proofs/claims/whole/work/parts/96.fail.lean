/-! plans judged by all truths -/
/-- why a plan fails in a truth, if a bound is set -/
def wyT (B : XB) (dd : Int) (M : XM) (p : XL) (c to t : Int) : Int × XQ := acN B dd M (ful M t) p to 81 0 (q1 M (ful M t) c)
def wyB (B : XB) (dd : Int) (M : XM) (p : XL) (c to bd t : Int) : Int := if (wyT B dd M p c to t).1 = 0 ∧ bd < (wyT B dd M p c to t).2.2.2.2 then 7 else (wyT B dd M p c to t).1
/-- how many fail, and the first one, why, how many steps it made -/
def fsN (w m : Int → Int) : Nat → Int × Int × Int × Int
  | 0 => (0, -2, -2, -2)
  | n + 1 => if w n = 0 then fsN w m n else if (fsN w m n).1 = 0 then (1, n, w n, m n) else ((fsN w m n).1 + 1, (fsN w m n).2)
/-- the greatest cost of the first n truths, -1 if one fails -/
def gcN (w c : Int → Int) : Nat → Int
  | 0 => 0
  | n + 1 => if gcN w c n = -1 ∨ ¬ w n = 0 then -1 else max (gcN w c n) (c n)
section FA
variable {d : Nat} {h : XH} {K : Int32 → XH → Prop} {KU : XH → Prop} {M : XM} {B : XB} {dd f : Int} {p : XL} {rb pa : Nat} {c to t : Int}
theorem fsN_in {w m : Int → Int} : ∀ n : Nat, 0 ≤ (fsN w m n).1 ∧ (fsN w m n).1 ≤ n := by
  intro n
  induction n with
  | zero => exact ⟨Int.le_refl _, Int.le_refl _⟩
  | succ n ih =>
    unfold fsN
    split
    · omega
    · split
      · exact ⟨by show (0 : Int) ≤ 1; decide, by show (1 : Int) ≤ _; omega⟩
      · show 0 ≤ (fsN w m n).1 + 1 ∧ (fsN w m n).1 + 1 ≤ _; omega
theorem acN_in (ho : B.ok) (hm : M.ok B.g) (hd : 0 ≤ dd ∧ dd < B.w) (hf : Tru M f) (hk : p.ok M.nd) : ∀ (n : Nat) (k : Int) (q : XQ), 0 ≤ k → OnJ B dd M f q → OnJ B dd M f (acN B dd M f p to n k q).2 ∧ (0 ≤ (acN B dd M f p to n k q).1 ∧ (acN B dd M f p to n k q).1 ≤ 6) ∧ (q.2.2.1 ≤ (acN B dd M f p to n k q).2.2.2.1 ∧ (acN B dd M f p to n k q).2.2.2.1 ≤ q.2.2.1 + 9 * n) := by
  intro n
  induction n with
  | zero => intro k q _ hq; exact ⟨hq, by show (0 : Int) ≤ 0 ∧ (0 : Int) ≤ 6; decide, by show q.2.2.1 ≤ q.2.2.1 ∧ q.2.2.1 ≤ q.2.2.1 + 9 * ((0 : Nat) : Int); omega⟩
  | succ n ih =>
    intro k q k0 hq
    unfold acN
    by_cases z1 : p.z ≤ k
    · rw [if_pos z1]
      exact ⟨hq, by dsimp only; split <;> decide, by dsimp only; omega⟩
    · rw [if_neg z1]
      have o := hk.2 k k0 (by omega)
      by_cases z2 : p.kd k = 5
      · rw [if_pos z2]
        have i := ih (p.tg k) q (by have := o.2.1 (by omega); omega) hq
        exact ⟨i.1, i.2.1, by omega⟩
      · rw [if_neg z2]
        by_cases z3 : p.kd k = 4
        · rw [if_pos z3]
          by_cases z4 : dg q.2.1 (p.nm k) = 0
          · rw [if_pos z4]; exact ⟨hq, by show (0 : Int) ≤ 5 ∧ (5 : Int) ≤ 6; decide, by dsimp only; omega⟩
          · rw [if_neg z4]
            have i := ih (if chc M (p.nm k) (dg q.2.1 (p.nm k) - 1) = p.gd k then k + 1 else p.tg k) q (by have := o.2.1 (by omega); split <;> omega) hq
            exact ⟨i.1, i.2.1, by omega⟩
        · rw [if_neg z3]
          have nb := o.2.2.1 (by omega)
          have g := goN_on (w := p.kd k) ho hm hd hf (p.nm k).toNat q hq
          by_cases z5 : (goN B dd M f (p.kd k) (p.nm k).toNat q).1 = 0
          · rw [if_pos z5]
            have i := ih (k + 1) _ (by omega) g.1
            exact ⟨i.1, i.2.1, by omega⟩
          · rw [if_neg z5]
            exact ⟨g.1, by omega, by omega⟩
theorem wyT_in (ho : B.ok) (hm : M.ok B.g) (hd : 0 ≤ dd ∧ dd < B.w) (hk : p.ok M.nd) (hc : 0 ≤ c ∧ c < M.n) (ht : 0 ≤ t) : (0 ≤ (wyT B dd M p c to t).1 ∧ (wyT B dd M p c to t).1 ≤ 6) ∧ (0 ≤ (wyT B dd M p c to t).2.2.2.1 ∧ (wyT B dd M p c to t).2.2.2.1 ≤ 729) ∧ (0 ≤ (wyT B dd M p c to t).2.2.2.2 ∧ (wyT B dd M p c to t).2.2.2.2 ≤ 30000000) := by
  have i := acN_in (to := to) ho hm hd (con_ful hm ht).1 hk 81 0 (q1 M (ful M t) c) (by decide) (q1_on hm ht hc)
  have e : (q1 M (ful M t) c).2.2.1 = 0 := rfl
  have b := i.1.2.2.2.2
  have m := i.2.2
  rw [e] at m
  unfold wyT
  refine ⟨i.2.1, by omega, by omega⟩
theorem wyB_in {bd : Int} (ho : B.ok) (hm : M.ok B.g) (hd : 0 ≤ dd ∧ dd < B.w) (hk : p.ok M.nd) (hc : 0 ≤ c ∧ c < M.n) (ht : 0 ≤ t) : 0 ≤ wyB B dd M p c to bd t ∧ wyB B dd M p c to bd t ≤ 7 := by
  have i := wyT_in (to := to) ho hm hd hk hc ht
  unfold wyB
  split <;> omega
theorem trm_in {G : Int} (hm : M.ok G) : 1 ≤ trm M ∧ trm M ≤ 14348907 := by
  have o := hm.1
  have i := prodTo_in (f := fun e => if M.kn e = -1 then mny M e else 1) (n := M.nd.toNat) (fun e a b => by
    have := mny_in hm (e := e) (by omega)
    split <;> omega)
  have e : (27 : Int) ^ M.nd.toNat ≤ 14348907 := by
    have : M.nd.toNat = 0 ∨ M.nd.toNat = 1 ∨ M.nd.toNat = 2 ∨ M.nd.toNat = 3 ∨ M.nd.toNat = 4 ∨ M.nd.toNat = 5 := by omega
    rcases this with q | q | q | q | q | q <;> rw [q] <;> decide
  unfold trm
  omega
theorem c_truthM {G : Int} (hL : Lay h) (hP : CMp h M) (hm : M.ok G) (kk : K (iI (trm M)) h) : XW d 55 0 [.ref 80, .null, .null] [] h (KI K) := by
  have o := hm.1
  have n1 := M.n_in hm
  refine c_truthCount hL (by rw [hP.1.2.2.2]; omega) (fun q => absurd q (by rw [hP.1.2.2.1]; omega)) (fun _ => ?_)
  rw [hP.1.2.2.2, prodTo_congr (g := fun e => if M.kn e = -1 then mny M e else 1) (fun e a b => by
    rw [(hP.2.2.1 e a (by omega)).1, (hP.ch (e := e) (by omega)).1])]
  exact kk
theorem m_truthM {G : Int} (hL : Lay h) (hP : MMp h M) (hm : M.ok G) (hK : MLs h M) (kk : K (iI (trm M)) h) : XW d 235 0 [.ref 118, .null, .null] [] h (KI K) := by
  have o := hm.1
  refine m_truthMany hL (by rw [hP.1.1]; omega) ?_
  rw [hP.1.1, prodTo_congr (g := fun e => if M.kn e = -1 then mny M e else 1) (fun e a b => by
    rw [(hP.2.2.1 e a (by omega)).2, (hK e a (by omega)).1])]
  exact kk
abbrev PFa : Nat → Nat → Bool := pO PTs (pF [(106, 2), (106, 3), (106, 4), (106, 5), (106, 6), (106, 7), (106, 8), (106, 9)])
theorem PJw_fr {h1 : XH} (g : Fr PFa h h1) (hp : Pl pa) (hC : CPl h pa p) : CPl h1 pa p := hC.fr g hp (fun a j q r => by simp [pO, pA, pF]; omega)
theorem c_countFailing {bd : Int} (hL : Lay h) (hb : rb = 6 ∨ rb = 20) (hr : gR h 91 1 = rb) (hC : CBk h rb B) (ho : B.ok) (hS : CLr h B dd) (hP : CMp h M) (hm : M.ok B.g) (hd : 0 ≤ dd ∧ dd < B.w) (h0 : zF h 91 12 = zF h 80 4 → Prep h B dd M) (hp : Pl pa) (hQ : CPl h pa p) (hk : p.ok M.nd) (hc : 0 ≤ c ∧ c < M.n) (hto : 0 ≤ to ∧ to < M.n) (hbd : 0 ≤ bd ∧ bd ≤ 9999999)
    (kk : ∀ h', Fr PFa h h' → zF h' 91 12 = zF h 80 4 → Prep h' B dd M → (gI h' 106 2 = iI (fsN (wyB B dd M p c to bd) (fun t => (wyT B dd M p c to t).2.2.2.1) (trm M).toNat).2.1 ∧ gI h' 106 3 = iI (fsN (wyB B dd M p c to bd) (fun t => (wyT B dd M p c to t).2.2.2.1) (trm M).toNat).2.2.1 ∧ gI h' 106 4 = iI (fsN (wyB B dd M p c to bd) (fun t => (wyT B dd M p c to t).2.2.2.1) (trm M).toNat).2.2.2) → K (iI (fsN (wyB B dd M p c to bd) (fun t => (wyT B dd M p c to t).2.2.2.1) (trm M).toNat).1) h') :
    XW (d + 6) 39 0 [.ref 106, .ref pa, .int (iI c), .int (iI to), .int (iI bd), .null, .null, .null, .null] [] h (KI K) := by
  have tr := trm_in hm
  have hL0 := hL
  refine w_aload0 r_39_0 ?_
  refine w_getA (x := 91) r_39_1 (Lk_106 hL) (Lr_106_1 hL) (by decide) ?_
  refine k_83 r_39_4 (Lk_91 hL) (Nat.le_of_ble_eq_true rfl) ?_
  refine c_prepare hL hb hr hC ho hS hP hm rfl hd h0 (fun h2 f2 e2 E2 => ?_)
  have F2 : Fr PFa h h2 := f2.mono (fun a j q => by simp only [pO, Bool.or_eq_false_iff] at q ⊢; exact q.1)
  have key : ∀ n : Nat, n ≤ (trm M).toNat → ∀ (g : XH) (X8 : Value), Fr PFa h g → zF g 91 12 = zF h 80 4 → CMp g M → Prep g B dd M → gI g 106 2 = iI (fsN (wyB B dd M p c to bd) (fun t => (wyT B dd M p c to t).2.2.2.1) n).2.1 ∧ gI g 106 3 = iI (fsN (wyB B dd M p c to bd) (fun t => (wyT B dd M p c to t).2.2.2.1) n).2.2.1 ∧ gI g 106 4 = iI (fsN (wyB B dd M p c to bd) (fun t => (wyT B dd M p c to t).2.2.2.1) n).2.2.2 → XW (d + 6) 39 40 [.ref 106, .ref pa, .int (iI c), .int (iI to), .int (iI bd), .int (iI (fsN (wyB B dd M p c to bd) (fun t => (wyT B dd M p c to t).2.2.2.1) n).1), .int (iI (trm M)), .int (iI n), X8] [] g (KI K) := by
    refine upto _ ?_ ?_
    · intro g X8 fg eg _ Eg I
      have hL := fg.lay hL
      refine w_iload7 r_39_40 ?_
      refine w_iload6 r_39_42 ?_
      refine v_ic_ge r_39_44 (by first | exact zF_in _ _ _ | exact zA_in _ _ _ | omega) (by first | exact zF_in _ _ _ | exact zA_in _ _ _ | omega) (fun _ => ?_) (fun q => absurd q (by omega))
      refine w_iload5 r_39_121 ?_
      refine w_iret r_39_123 ?_
      exact kk g fg eg Eg I
    · intro n hn ih g X8 fg eg Pg Eg I
      have hL := fg.lay hL
      have wt := wyT_in (to := to) ho hm hd hk hc (t := (n : Int)) (by omega)
      have fi := fsN_in (w := wyB B dd M p c to bd) (m := fun t => (wyT B dd M p c to t).2.2.2.1) n
      have Cg := PJw_fr fg hp hQ
      have step : ∀ (g1 : XH) (w : Int), Fr PFa h g1 → zF g1 91 12 = zF h 80 4 → CMp g1 M → Prep g1 B dd M → (gI g1 106 2 = iI (fsN (wyB B dd M p c to bd) (fun t => (wyT B dd M p c to t).2.2.2.1) n).2.1 ∧ gI g1 106 3 = iI (fsN (wyB B dd M p c to bd) (fun t => (wyT B dd M p c to t).2.2.2.1) n).2.2.1 ∧ gI g1 106 4 = iI (fsN (wyB B dd M p c to bd) (fun t => (wyT B dd M p c to t).2.2.2.1) n).2.2.2) → gI g1 106 8 = iI (wyT B dd M p c to n).2.2.2.1 → w = wyB B dd M p c to bd n → XW (d + 6) 39 76 [.ref 106, .ref pa, .int (iI c), .int (iI to), .int (iI bd), .int (iI (fsN (wyB B dd M p c to bd) (fun t => (wyT B dd M p c to t).2.2.2.1) n).1), .int (iI (trm M)), .int (iI n), .int (iI w)] [] g1 (KI K) := by
        intro g1 w f1 e1 P1 E1 I1 m1 ew
        have hL := f1.lay hL0
        have wi := wyB_in (bd := bd) (to := to) ho hm hd hk hc (t := (n : Int)) (by omega)
        rw [← ew] at wi
        have ih' := ih
        unfold fsN at ih'
        rw [← ew] at ih'
        generalize fsN (wyB B dd M p c to bd) (fun t => (wyT B dd M p c to t).2.2.2.1) n = r at *
        by_cases z : w = 0
        · simp only [z, if_true] at ih'
          have J := ih' g1 (.int (iI w)) f1 e1 P1 E1 I1
          rw [Int.natCast_add, Int.natCast_one] at J
          rw [z] at J ⊢
          refine w_iload8 r_39_76 ?_
          refine v_if_eq r_39_78 (by first | exact zF_in _ _ _ | exact zA_in _ _ _ | omega) (fun _ => ?_) (fun q => absurd q (by omega))
          refine w_iload8 r_39_84 ?_
          refine v_if_eq r_39_86 (by first | exact zF_in _ _ _ | exact zA_in _ _ _ | omega) (fun _ => ?_) (fun q => absurd q (by omega))
          refine w_iinc7 r_39_115 rfl (iI_add _ _) ?_
          refine w_goto r_39_118 ?_
          exact J
        · simp only [z, if_false] at ih'
          by_cases z2 : r.1 = 0
          · simp only [z2, if_true] at ih'
            have F4 : Fr (pF [(106, 2), (106, 3), (106, 4)]) g1 (sI (sI (sI g1 106 2 (iI n)) 106 3 (iI w)) 106 4 (iI (wyT B dd M p c to n).2.2.2.1)) := (((Fr.refl _ _).sI 106 2 _ (by simp [pF])).sI 106 3 _ (by simp [pF])).sI 106 4 _ (by simp [pF])
            have J := ih' _ (.int (iI w)) (f1.trans (F4.mono (fun a j q => by simp [pO, pA, pF] at q ⊢; omega))) (by rw [F4.F (by simp [pF])]; exact e1) (CP_fr F4 (fun a j p q r => by simp [pF]; omega) P1 E1).1 (CP_fr F4 (fun a j p q r => by simp [pF]; omega) P1 E1).2 ⟨rfl, rfl, rfl⟩
            rw [Int.natCast_add, Int.natCast_one] at J
            rw [z2]
            refine w_iload8 r_39_76 ?_
            refine v_if_eq r_39_78 (by first | exact zF_in _ _ _ | exact zA_in _ _ _ | omega) (fun q => absurd q (by omega)) (fun _ => ?_)
            refine w_iinc5 r_39_81 rfl (iI_add _ _) ?_
            refine w_iload8 r_39_84 ?_
            refine v_if_eq r_39_86 (by first | exact zF_in _ _ _ | exact zA_in _ _ _ | omega) (fun q => absurd q (by omega)) (fun _ => ?_)
            refine w_iload5 r_39_89 ?_
            refine w_iconst (v := iI (1)) r_39_91 rfl ?_
            refine v_ic_ne r_39_92 (by first | exact zF_in _ _ _ | exact zA_in _ _ _ | omega) (by first | exact zF_in _ _ _ | exact zA_in _ _ _ | omega) (fun q => absurd q (by omega)) (fun _ => ?_)
            refine w_aload0 r_39_95 ?_
            refine w_iload7 r_39_96 ?_
            refine w_putI r_39_98 (Lk_106 hL) (Ln_106 hL) ?_
            refine w_aload0 r_39_101 ?_
            refine w_iload8 r_39_102 ?_
            refine w_putI r_39_104 (Lk_106 hL) (Ln_106 hL) ?_
            refine w_aload0 r_39_107 ?_
            refine w_aload0 r_39_108 ?_
            refine v_getI r_39_109 (Lk_106 hL) m1 ?_
            refine w_putI r_39_112 (Lk_106 hL) (Ln_106 hL) ?_
            refine w_iinc7 r_39_115 rfl (iI_add _ _) ?_
            refine w_goto r_39_118 ?_
            exact J
          · simp only [z2, if_false] at ih'
            have J := ih' g1 (.int (iI w)) f1 e1 P1 E1 I1
            rw [Int.natCast_add, Int.natCast_one] at J
            refine w_iload8 r_39_76 ?_
            refine v_if_eq r_39_78 (by first | exact zF_in _ _ _ | exact zA_in _ _ _ | omega) (fun q => absurd q (by omega)) (fun _ => ?_)
            refine w_iinc5 r_39_81 rfl (iI_add _ _) ?_
            refine w_iload8 r_39_84 ?_
            refine v_if_eq r_39_86 (by first | exact zF_in _ _ _ | exact zA_in _ _ _ | omega) (fun q => absurd q (by omega)) (fun _ => ?_)
            refine w_iload5 r_39_89 ?_
            refine w_iconst (v := iI (1)) r_39_91 rfl ?_
            refine v_ic_ne r_39_92 (by first | exact zF_in _ _ _ | exact zA_in _ _ _ | omega) (by first | exact zF_in _ _ _ | exact zA_in _ _ _ | omega) (fun _ => ?_) (fun q => absurd q (by omega))
            refine w_iinc7 r_39_115 rfl (iI_add _ _) ?_
            refine w_goto r_39_118 ?_
            exact J
      have go : ∀ g1, Fr PJw g g1 → gI g1 106 8 = iI (wyT B dd M p c to n).2.2.2.1 → gI g1 106 9 = iI (wyT B dd M p c to n).2.2.2.2 → XW (d + 6) 39 56 [.ref 106, .ref pa, .int (iI c), .int (iI to), .int (iI bd), .int (iI (fsN (wyB B dd M p c to bd) (fun t => (wyT B dd M p c to t).2.2.2.1) n).1), .int (iI (trm M)), .int (iI n), X8] [.int (iI (wyT B dd M p c to n).1)] g1 (KI K) := by
        intro g1 f1 m1 c1
        have F1 : Fr PFa g g1 := f1.mono (fun a j q => by simp [pO, pA, pF] at q ⊢; omega)
        have PE1 := CP_fr f1 (fun a j p q r => by simp [pF]; omega) Pg Eg
        have hL := F1.lay hL
        have S := fun w => step g1 w (fg.trans F1) (by rw [f1.F (by simp [pF])]; exact eg) PE1.1 PE1.2 ⟨by rw [(f1.2 106 2 (by simp [pF])).1]; exact I.1, by rw [(f1.2 106 3 (by simp [pF])).1]; exact I.2.1, by rw [(f1.2 106 4 (by simp [pF])).1]; exact I.2.2⟩ m1
        by_cases z : (wyT B dd M p c to n).1 = 0
        · by_cases z2 : bd < (wyT B dd M p c to n).2.2.2.2
          · have S7 := S 7 (by unfold wyB; rw [if_pos ⟨z, z2⟩])
            refine w_istore8 r_39_56 rfl ?_
            refine w_iload8 r_39_58 ?_
            refine v_if_ne r_39_60 (by first | exact zF_in _ _ _ | exact zA_in _ _ _ | omega) (fun q => absurd q (by omega)) (fun _ => ?_)
            refine w_aload0 r_39_63 ?_
            refine v_getI r_39_64 (Lk_106 hL) c1 ?_
            refine w_iload4 r_39_67 ?_
            refine v_ic_le r_39_69 (by first | exact zF_in _ _ _ | exact zA_in _ _ _ | omega) (by first | exact zF_in _ _ _ | exact zA_in _ _ _ | omega) (fun q => absurd q (by omega)) (fun _ => ?_)
            refine w_bipush (v := iI (7)) r_39_72 rfl ?_
            refine w_istore8 r_39_74 rfl ?_
            exact S7
          · have S7 := S _ (show (wyT B dd M p c to n).1 = _ by unfold wyB; rw [if_neg (fun q => z2 q.2)])
            refine w_istore8 r_39_56 rfl ?_
            refine w_iload8 r_39_58 ?_
            refine v_if_ne r_39_60 (by first | exact zF_in _ _ _ | exact zA_in _ _ _ | omega) (fun q => absurd q (by omega)) (fun _ => ?_)
            refine w_aload0 r_39_63 ?_
            refine v_getI r_39_64 (Lk_106 hL) c1 ?_
            refine w_iload4 r_39_67 ?_
            refine v_ic_le r_39_69 (by first | exact zF_in _ _ _ | exact zA_in _ _ _ | omega) (by first | exact zF_in _ _ _ | exact zA_in _ _ _ | omega) (fun _ => ?_) (fun q => absurd q (by omega))
            exact S7
        · have S7 := S _ (show (wyT B dd M p c to n).1 = _ by unfold wyB; rw [if_neg (fun q => z q.1)])
          refine w_istore8 r_39_56 rfl ?_
          refine w_iload8 r_39_58 ?_
          refine v_if_ne r_39_60 (by first | exact zF_in _ _ _ | exact zA_in _ _ _ | omega) (fun _ => ?_) (fun q => absurd q (by omega))
          exact S7
      refine w_iload7 r_39_40 ?_
      refine w_iload6 r_39_42 ?_
      refine v_ic_ge r_39_44 (by first | exact zF_in _ _ _ | exact zA_in _ _ _ | omega) (by first | exact zF_in _ _ _ | exact zA_in _ _ _ | omega) (fun q => absurd q (by omega)) (fun _ => ?_)
      refine w_aload0 r_39_47 ?_
      refine w_aload1 r_39_48 ?_
      refine w_iload2 r_39_49 ?_
      refine w_iload3 r_39_50 ?_
      refine w_iload7 r_39_51 ?_
      refine k_41 r_39_53 (Lk_106 hL) (Nat.le_of_ble_eq_true rfl) ?_
      refine c_whyNot hL hp ho hd hm Pg Eg Cg hk (by omega) hc hto (fun g1 f1 m1 c1 => ?_)
      exact go g1 f1 m1 c1
  have P2 : CMp h2 M := hP.fr f2 (fun a j p q r => by simp [pO, pA, pF]; omega)
  have F3 : Fr (pF [(106, 2), (106, 3), (106, 4)]) h2 (sI (sI (sI h2 106 2 (iI (-2))) 106 3 (iI (-2))) 106 4 (iI (-2))) := (((Fr.refl _ _).sI 106 2 _ (by simp [pF])).sI 106 3 _ (by simp [pF])).sI 106 4 _ (by simp [pF])
  have PE3 := CP_fr F3 (fun a j p q r => by simp [pF]; omega) P2 E2
  have J := key 0 (by omega) _ .null (F2.trans (F3.mono (fun a j q => by simp [pO, pA, pF] at q ⊢; omega))) (by rw [F3.F (by simp [pF])]; exact e2) PE3.1 PE3.2 ⟨rfl, rfl, rfl⟩
  have hL := f2.lay hL
  refine w_aload0 r_39_7 ?_
  refine w_bipush (v := iI (-2)) r_39_8 rfl ?_
  refine w_putI r_39_10 (Lk_106 hL) (Ln_106 hL) ?_
  refine w_aload0 r_39_13 ?_
  refine w_bipush (v := iI (-2)) r_39_14 rfl ?_
  refine w_putI r_39_16 (Lk_106 hL) (Ln_106 hL) ?_
  refine w_aload0 r_39_19 ?_
  refine w_bipush (v := iI (-2)) r_39_20 rfl ?_
  refine w_putI r_39_22 (Lk_106 hL) (Ln_106 hL) ?_
  refine w_iconst (v := iI (0)) r_39_25 rfl ?_
  refine w_istore5 r_39_26 rfl ?_
  refine w_aload0 r_39_28 ?_
  refine w_getA (x := 80) r_39_29 (Lk_106 hL) (Lr_106_0 hL) (by decide) ?_
  refine k_55 r_39_32 (Lk_80 hL) (Nat.le_of_ble_eq_true rfl) ?_
  refine c_truthM hL PE3.1 hm ?_
  refine w_istore6 r_39_35 rfl ?_
  refine w_iconst (v := iI (0)) r_39_37 rfl ?_
  refine w_istore7 r_39_38 rfl ?_
  exact J
end FA
