/-! a plan is judged: the class -/
def Pl (pa : Nat) : Prop := pa = 35 ∨ pa = 40 ∨ pa = 45 ∨ pa = 50 ∨ pa = 55 ∨ pa = 60 ∨ pa = 65 ∨ pa = 70 ∨ pa = 75
section WN
variable {d : Nat} {h : XH} {K : Int32 → XH → Prop} {KU : XH → Prop} {M : XM} {B : XB} {dd f : Int} {p : XL} {pa : Nat}
theorem Plk (hL : Lay h) (hp : Pl pa) : gK h pa = 16 ∧ pa < gN h ∧ pa ≠ 0 := by
  rcases hp with rfl | rfl | rfl | rfl | rfl | rfl | rfl | rfl | rfl
  · exact ⟨Lk_35 hL, Ln_35 hL, by decide⟩
  · exact ⟨Lk_40 hL, Ln_40 hL, by decide⟩
  · exact ⟨Lk_45 hL, Ln_45 hL, by decide⟩
  · exact ⟨Lk_50 hL, Ln_50 hL, by decide⟩
  · exact ⟨Lk_55 hL, Ln_55 hL, by decide⟩
  · exact ⟨Lk_60 hL, Ln_60 hL, by decide⟩
  · exact ⟨Lk_65 hL, Ln_65 hL, by decide⟩
  · exact ⟨Lk_70 hL, Ln_70 hL, by decide⟩
  · exact ⟨Lk_75 hL, Ln_75 hL, by decide⟩
theorem Plk1 (hL : Lay h) (hp : Pl pa) : gK h (pa + 1) = 1 ∧ gZ h (pa + 1) = 80 ∧ pa + 1 < gN h ∧ gR h pa 0 = pa + 1 ∧ pa + 1 ≠ 0 := by
  rcases hp with rfl | rfl | rfl | rfl | rfl | rfl | rfl | rfl | rfl
  · exact ⟨Lk_36 hL, Lz_36 hL, Ln_36 hL, Lr_35_0 hL, by decide⟩
  · exact ⟨Lk_41 hL, Lz_41 hL, Ln_41 hL, Lr_40_0 hL, by decide⟩
  · exact ⟨Lk_46 hL, Lz_46 hL, Ln_46 hL, Lr_45_0 hL, by decide⟩
  · exact ⟨Lk_51 hL, Lz_51 hL, Ln_51 hL, Lr_50_0 hL, by decide⟩
  · exact ⟨Lk_56 hL, Lz_56 hL, Ln_56 hL, Lr_55_0 hL, by decide⟩
  · exact ⟨Lk_61 hL, Lz_61 hL, Ln_61 hL, Lr_60_0 hL, by decide⟩
  · exact ⟨Lk_66 hL, Lz_66 hL, Ln_66 hL, Lr_65_0 hL, by decide⟩
  · exact ⟨Lk_71 hL, Lz_71 hL, Ln_71 hL, Lr_70_0 hL, by decide⟩
  · exact ⟨Lk_76 hL, Lz_76 hL, Ln_76 hL, Lr_75_0 hL, by decide⟩
theorem Plk2 (hL : Lay h) (hp : Pl pa) : gK h (pa + 2) = 1 ∧ gZ h (pa + 2) = 80 ∧ pa + 2 < gN h ∧ gR h pa 1 = pa + 2 ∧ pa + 2 ≠ 0 := by
  rcases hp with rfl | rfl | rfl | rfl | rfl | rfl | rfl | rfl | rfl
  · exact ⟨Lk_37 hL, Lz_37 hL, Ln_37 hL, Lr_35_1 hL, by decide⟩
  · exact ⟨Lk_42 hL, Lz_42 hL, Ln_42 hL, Lr_40_1 hL, by decide⟩
  · exact ⟨Lk_47 hL, Lz_47 hL, Ln_47 hL, Lr_45_1 hL, by decide⟩
  · exact ⟨Lk_52 hL, Lz_52 hL, Ln_52 hL, Lr_50_1 hL, by decide⟩
  · exact ⟨Lk_57 hL, Lz_57 hL, Ln_57 hL, Lr_55_1 hL, by decide⟩
  · exact ⟨Lk_62 hL, Lz_62 hL, Ln_62 hL, Lr_60_1 hL, by decide⟩
  · exact ⟨Lk_67 hL, Lz_67 hL, Ln_67 hL, Lr_65_1 hL, by decide⟩
  · exact ⟨Lk_72 hL, Lz_72 hL, Ln_72 hL, Lr_70_1 hL, by decide⟩
  · exact ⟨Lk_77 hL, Lz_77 hL, Ln_77 hL, Lr_75_1 hL, by decide⟩
theorem Plk3 (hL : Lay h) (hp : Pl pa) : gK h (pa + 3) = 1 ∧ gZ h (pa + 3) = 80 ∧ pa + 3 < gN h ∧ gR h pa 2 = pa + 3 ∧ pa + 3 ≠ 0 := by
  rcases hp with rfl | rfl | rfl | rfl | rfl | rfl | rfl | rfl | rfl
  · exact ⟨Lk_38 hL, Lz_38 hL, Ln_38 hL, Lr_35_2 hL, by decide⟩
  · exact ⟨Lk_43 hL, Lz_43 hL, Ln_43 hL, Lr_40_2 hL, by decide⟩
  · exact ⟨Lk_48 hL, Lz_48 hL, Ln_48 hL, Lr_45_2 hL, by decide⟩
  · exact ⟨Lk_53 hL, Lz_53 hL, Ln_53 hL, Lr_50_2 hL, by decide⟩
  · exact ⟨Lk_58 hL, Lz_58 hL, Ln_58 hL, Lr_55_2 hL, by decide⟩
  · exact ⟨Lk_63 hL, Lz_63 hL, Ln_63 hL, Lr_60_2 hL, by decide⟩
  · exact ⟨Lk_68 hL, Lz_68 hL, Ln_68 hL, Lr_65_2 hL, by decide⟩
  · exact ⟨Lk_73 hL, Lz_73 hL, Ln_73 hL, Lr_70_2 hL, by decide⟩
  · exact ⟨Lk_78 hL, Lz_78 hL, Ln_78 hL, Lr_75_2 hL, by decide⟩
theorem Plk4 (hL : Lay h) (hp : Pl pa) : gK h (pa + 4) = 1 ∧ gZ h (pa + 4) = 80 ∧ pa + 4 < gN h ∧ gR h pa 3 = pa + 4 ∧ pa + 4 ≠ 0 := by
  rcases hp with rfl | rfl | rfl | rfl | rfl | rfl | rfl | rfl | rfl
  · exact ⟨Lk_39 hL, Lz_39 hL, Ln_39 hL, Lr_35_3 hL, by decide⟩
  · exact ⟨Lk_44 hL, Lz_44 hL, Ln_44 hL, Lr_40_3 hL, by decide⟩
  · exact ⟨Lk_49 hL, Lz_49 hL, Ln_49 hL, Lr_45_3 hL, by decide⟩
  · exact ⟨Lk_54 hL, Lz_54 hL, Ln_54 hL, Lr_50_3 hL, by decide⟩
  · exact ⟨Lk_59 hL, Lz_59 hL, Ln_59 hL, Lr_55_3 hL, by decide⟩
  · exact ⟨Lk_64 hL, Lz_64 hL, Ln_64 hL, Lr_60_3 hL, by decide⟩
  · exact ⟨Lk_69 hL, Lz_69 hL, Ln_69 hL, Lr_65_3 hL, by decide⟩
  · exact ⟨Lk_74 hL, Lz_74 hL, Ln_74 hL, Lr_70_3 hL, by decide⟩
  · exact ⟨Lk_79 hL, Lz_79 hL, Ln_79 hL, Lr_75_3 hL, by decide⟩
theorem Pl.ne (hp : Pl pa) : 35 ≤ pa ∧ pa ≤ 75 := by unfold Pl at hp; omega
def CPl (h : XH) (pa : Nat) (p : XL) : Prop := zF h pa 4 = p.z ∧ ∀ i, 0 ≤ i → i < p.z → zA h (pa + 1) i = p.kd i ∧ zA h (pa + 2) i = p.nm i ∧ (p.kd i = 4 → zA h (pa + 3) i = p.gd i) ∧ (4 ≤ p.kd i → zA h (pa + 4) i = p.tg i)
theorem CPl.fr {P : Nat → Nat → Bool} {h' : XH} (g : Fr P h h') (hp : Pl pa) (p0 : ∀ a j, 35 ≤ a → a ≤ 79 → P a j = false) (hC : CPl h pa p) : CPl h' pa p := by
  have n := hp.ne
  refine ⟨by rw [g.F (p0 _ _ (by omega) (by omega))]; exact hC.1, fun i a b => ?_⟩
  rw [g.A (p0 _ _ (by omega) (by omega)), g.A (p0 _ _ (by omega) (by omega)), g.A (p0 _ _ (by omega) (by omega)), g.A (p0 _ _ (by omega) (by omega))]
  exact hC.2 i a b
abbrev PJw : Nat → Nat → Bool := pF [(106, 5), (106, 6), (106, 7), (106, 8), (106, 9)]
/-- the place where a plan begins -/
def q1 (M : XM) (f c : Int) : XQ := (c, seeS M (sta M) c f, 0, 0)
theorem con_ful {G t : Int} (hm : M.ok G) (ht : 0 ≤ t) : Tru M (ful M t) ∧ Con M (sta M) (ful M t) := by
  have o := hm.1
  have fi := ful_in hm ht
  have ts := sta_in hm
  refine ⟨⟨fi.1, fi.2.1⟩, fun e a b => ?_⟩
  by_cases q : M.kn e = -1
  · left
    rw [ts.2 e a (by omega), if_pos b]
    have := (kix_in hm (e := e) ⟨a, b⟩).2.2.1.mpr q; omega
  · right; exact (fi.2.2 e a b q).symm
theorem q1_on {G t c : Int} (hm : M.ok G) (ht : 0 ≤ t) (hc : 0 ≤ c ∧ c < M.n) : OnJ B dd M (ful M t) (q1 M (ful M t) c) := by
  have cf := con_ful hm ht
  have hs := sta_st hm
  exact ⟨(seeS_in (c := c) hm hs cf.1).1, seeS_con hm hs cf.1 cf.2, hc, seeS_nw hm hs cf.1, by show (0 : Int) ≤ 0 ∧ (0 : Int) ≤ 40101 * 0; decide⟩
theorem c_whyNot {c to t : Int} (hL : Lay h) (hp : Pl pa) (ho : B.ok) (hd : 0 ≤ dd ∧ dd < B.w) (hm : M.ok B.g) (hP : CMp h M) (hE : Prep h B dd M) (hC : CPl h pa p) (hk : p.ok M.nd) (ht : 0 ≤ t ∧ t ≤ 2147483647) (hc : 0 ≤ c ∧ c < M.n) (hto : 0 ≤ to ∧ to < M.n)
    (kk : ∀ h', Fr PJw h h' → gI h' 106 8 = iI (acN B dd M (ful M t) p to 81 0 (q1 M (ful M t) c)).2.2.2.1 → gI h' 106 9 = iI (acN B dd M (ful M t) p to 81 0 (q1 M (ful M t) c)).2.2.2.2 → K (iI (acN B dd M (ful M t) p to 81 0 (q1 M (ful M t) c)).1) h') :
    XW (d + 4) 41 0 [.ref 106, .ref pa, .int (iI c), .int (iI to), .int (iI t), .null, .null, .null, .null, .null] [] h (KI K) := by
  have o := hm.1
  have nn := M.n_in hm
  have cf := con_ful hm ht.1
  have hs := sta_st hm
  have on1 := q1_on (B := B) (dd := dd) hm ht.1 hc
  have fs := cf.1.1.1
  have pn := hp.ne
  generalize hF : ful M t = f at *
  have key : ∀ (n : Nat) (k tu : Int) (q : XQ) (h1 : XH) (X7 X8 X9 : Value), p.z - k < n → 0 ≤ tu → tu ≤ k → k ≤ p.z → OnJ B dd M f q → JF h1 f q → Fr PJw h h1 → (∀ h', Fr PJw h h' → gI h' 106 8 = iI (acN B dd M f p to n k q).2.2.2.1 → gI h' 106 9 = iI (acN B dd M f p to n k q).2.2.2.2 → K (iI (acN B dd M f p to n k q).1) h') → XW (d + 4) 41 60 [.ref 106, .ref pa, .int (iI c), .int (iI to), .int (iI t), .int (iI k), .int (iI tu), X7, X8, X9] [] h1 (KI K) := by
    intro n
    induction n with
    | zero => intro k tu q h1 X7 X8 X9 a b c e; omega
    | succ n ih =>
      intro k tu q h1 X7 X8 X9 hn t0 t1 kz hq hJ g kk
      have hL := g.lay hL
      obtain ⟨hP, hE⟩ := CP_fr g (fun a j p q n => by simp [pF]; omega) hP hE
      have hC := hC.fr g hp (fun a j x y => by simp [pF]; omega)
      have gz : gI h1 pa 4 = iI p.z := by rw [gI_F, hC.1]
      have pz := hk.1
      obtain ⟨f5, f6, f7, f8, f9⟩ := id hJ
      obtain ⟨b1, b2, b3, b4, b5⟩ := id hq
      unfold acN at kk
      by_cases z1 : p.z ≤ k
      · rw [if_pos z1] at kk
        have kk := kk h1 g f8 f9
        by_cases z2 : q.1 = to
        · rw [if_pos z2] at kk
          by_cases z3 : tu < 80
          · refine w_iload6 r_41_60 ?_
            refine w_bipush (v := iI (80)) r_41_62 rfl ?_
            refine v_ic_ge r_41_64 (by first | exact zF_in _ _ _ | exact zA_in _ _ _ | omega) (by first | exact zF_in _ _ _ | exact zA_in _ _ _ | omega) (fun q => absurd q (by omega)) (fun _ => ?_)
            refine w_iload5 r_41_67 ?_
            refine w_aload1 r_41_69 ?_
            refine v_getI r_41_70 (Plk hL hp).1 gz ?_
            refine v_ic_ge r_41_73 (by first | exact zF_in _ _ _ | exact zA_in _ _ _ | omega) (by first | exact zF_in _ _ _ | exact zA_in _ _ _ | omega) (fun _ => ?_) (fun q => absurd q (by omega))
            refine w_aload0 r_41_205 ?_
            refine v_getI r_41_206 (Lk_106 hL) f5 ?_
            refine w_iload3 r_41_209 ?_
            refine v_ic_ne r_41_210 (by first | exact zF_in _ _ _ | exact zA_in _ _ _ | omega) (by first | exact zF_in _ _ _ | exact zA_in _ _ _ | omega) (fun q => absurd q (by omega)) (fun _ => ?_)
            refine w_iconst (v := iI (0)) r_41_213 rfl ?_
            refine w_goto r_41_214 ?_
            refine w_iret r_41_219 ?_
            exact kk
          · refine w_iload6 r_41_60 ?_
            refine w_bipush (v := iI (80)) r_41_62 rfl ?_
            refine v_ic_ge r_41_64 (by first | exact zF_in _ _ _ | exact zA_in _ _ _ | omega) (by first | exact zF_in _ _ _ | exact zA_in _ _ _ | omega) (fun _ => ?_) (fun q => absurd q (by omega))
            refine w_aload0 r_41_205 ?_
            refine v_getI r_41_206 (Lk_106 hL) f5 ?_
            refine w_iload3 r_41_209 ?_
            refine v_ic_ne r_41_210 (by first | exact zF_in _ _ _ | exact zA_in _ _ _ | omega) (by first | exact zF_in _ _ _ | exact zA_in _ _ _ | omega) (fun q => absurd q (by omega)) (fun _ => ?_)
            refine w_iconst (v := iI (0)) r_41_213 rfl ?_
            refine w_goto r_41_214 ?_
            refine w_iret r_41_219 ?_
            exact kk
        · rw [if_neg z2] at kk
          by_cases z3 : tu < 80
          · refine w_iload6 r_41_60 ?_
            refine w_bipush (v := iI (80)) r_41_62 rfl ?_
            refine v_ic_ge r_41_64 (by first | exact zF_in _ _ _ | exact zA_in _ _ _ | omega) (by first | exact zF_in _ _ _ | exact zA_in _ _ _ | omega) (fun q => absurd q (by omega)) (fun _ => ?_)
            refine w_iload5 r_41_67 ?_
            refine w_aload1 r_41_69 ?_
            refine v_getI r_41_70 (Plk hL hp).1 gz ?_
            refine v_ic_ge r_41_73 (by first | exact zF_in _ _ _ | exact zA_in _ _ _ | omega) (by first | exact zF_in _ _ _ | exact zA_in _ _ _ | omega) (fun _ => ?_) (fun q => absurd q (by omega))
            refine w_aload0 r_41_205 ?_
            refine v_getI r_41_206 (Lk_106 hL) f5 ?_
            refine w_iload3 r_41_209 ?_
            refine v_ic_ne r_41_210 (by first | exact zF_in _ _ _ | exact zA_in _ _ _ | omega) (by first | exact zF_in _ _ _ | exact zA_in _ _ _ | omega) (fun _ => ?_) (fun q => absurd q (by omega))
            refine w_bipush (v := iI (6)) r_41_217 rfl ?_
            refine w_iret r_41_219 ?_
            exact kk
          · refine w_iload6 r_41_60 ?_
            refine w_bipush (v := iI (80)) r_41_62 rfl ?_
            refine v_ic_ge r_41_64 (by first | exact zF_in _ _ _ | exact zA_in _ _ _ | omega) (by first | exact zF_in _ _ _ | exact zA_in _ _ _ | omega) (fun _ => ?_) (fun q => absurd q (by omega))
            refine w_aload0 r_41_205 ?_
            refine v_getI r_41_206 (Lk_106 hL) f5 ?_
            refine w_iload3 r_41_209 ?_
            refine v_ic_ne r_41_210 (by first | exact zF_in _ _ _ | exact zA_in _ _ _ | omega) (by first | exact zF_in _ _ _ | exact zA_in _ _ _ | omega) (fun _ => ?_) (fun q => absurd q (by omega))
            refine w_bipush (v := iI (6)) r_41_217 rfl ?_
            refine w_iret r_41_219 ?_
            exact kk
      · rw [if_neg z1] at kk
        have ok := hk.2 k (by omega) (by omega)
        have cp := hC.2 k (by omega) (by omega)
        have gk : gI h1 (pa + 1) k.toNat = iI (p.kd k) := by rw [gI_A, cp.1]
        have gn : gI h1 (pa + 2) k.toNat = iI (p.nm k) := by rw [gI_A, cp.2.1]
        by_cases y5 : p.kd k = 5
        · rw [if_pos y5] at kk
          have gt : gI h1 (pa + 4) k.toNat = iI (p.tg k) := by rw [gI_A, cp.2.2.2 (by omega)]
          refine w_iload6 r_41_60 ?_
          refine w_bipush (v := iI (80)) r_41_62 rfl ?_
          refine v_ic_ge r_41_64 (by first | exact zF_in _ _ _ | exact zA_in _ _ _ | omega) (by first | exact zF_in _ _ _ | exact zA_in _ _ _ | omega) (fun q => absurd q (by omega)) (fun _ => ?_)
          refine w_iload5 r_41_67 ?_
          refine w_aload1 r_41_69 ?_
          refine v_getI r_41_70 (Plk hL hp).1 gz ?_
          refine v_ic_ge r_41_73 (by first | exact zF_in _ _ _ | exact zA_in _ _ _ | omega) (by first | exact zF_in _ _ _ | exact zA_in _ _ _ | omega) (fun q => absurd q (by omega)) (fun _ => ?_)
          refine w_aload1 r_41_76 ?_
          refine w_getA (x := pa + 1) r_41_77 (Plk hL hp).1 (Plk1 hL hp).2.2.2.1 (Plk1 hL hp).2.2.2.2 ?_
          refine w_iload5 r_41_80 ?_
          refine v_iald r_41_82 (Plk1 hL hp).1 (Plk1 hL hp).2.1 (by decide) (by omega) gk ?_
          refine w_istore7 r_41_83 rfl ?_
          refine w_iload5 r_41_85 ?_
          refine w_iconst (v := iI (1)) r_41_87 rfl ?_
          refine v_iadd r_41_88 ?_
          refine w_istore8 r_41_89 rfl ?_
          refine w_iload7 r_41_91 ?_
          refine w_iconst (v := iI (5)) r_41_93 rfl ?_
          refine v_ic_ne r_41_94 (by first | exact zF_in _ _ _ | exact zA_in _ _ _ | omega) (by first | exact zF_in _ _ _ | exact zA_in _ _ _ | omega) (fun q => absurd q (by omega)) (fun _ => ?_)
          refine w_aload1 r_41_97 ?_
          refine w_getA (x := pa + 4) r_41_98 (Plk hL hp).1 (Plk4 hL hp).2.2.2.1 (Plk4 hL hp).2.2.2.2 ?_
          refine w_iload5 r_41_101 ?_
          refine v_iald r_41_103 (Plk4 hL hp).1 (Plk4 hL hp).2.1 (by decide) (by omega) gt ?_
          refine w_istore8 r_41_104 rfl ?_
          refine w_goto r_41_106 ?_
          refine w_iload8 r_41_195 ?_
          refine w_istore5 r_41_197 rfl ?_
          refine w_iinc6 r_41_199 rfl (iI_add _ _) ?_
          refine w_goto r_41_202 ?_
          exact ih _ _ q h1 _ _ _ (by omega) (by omega) (by omega) (by omega) hq hJ g kk
        · rw [if_neg y5] at kk
          by_cases y4 : p.kd k = 4
          · rw [if_pos y4] at kk
            have gt : gI h1 (pa + 4) k.toNat = iI (p.tg k) := by rw [gI_A, cp.2.2.2 (by omega)]
            have gg : gI h1 (pa + 3) k.toNat = iI (p.gd k) := by rw [gI_A, cp.2.2.1 y4]
            have o4 := ok.2.2.2 y4
            have om := mny_in hm o4.1
            have dm := (b1.2 (p.nm k) (by omega) (by omega)).1 (by omega)
            have di := dg_in q.2.1 (p.nm k)
            by_cases x0 : dg q.2.1 (p.nm k) = 0
            · rw [if_pos x0] at kk
              refine w_iload6 r_41_60 ?_
              refine w_bipush (v := iI (80)) r_41_62 rfl ?_
              refine v_ic_ge r_41_64 (by first | exact zF_in _ _ _ | exact zA_in _ _ _ | omega) (by first | exact zF_in _ _ _ | exact zA_in _ _ _ | omega) (fun q => absurd q (by omega)) (fun _ => ?_)
              refine w_iload5 r_41_67 ?_
              refine w_aload1 r_41_69 ?_
              refine v_getI r_41_70 (Plk hL hp).1 gz ?_
              refine v_ic_ge r_41_73 (by first | exact zF_in _ _ _ | exact zA_in _ _ _ | omega) (by first | exact zF_in _ _ _ | exact zA_in _ _ _ | omega) (fun q => absurd q (by omega)) (fun _ => ?_)
              refine w_aload1 r_41_76 ?_
              refine w_getA (x := pa + 1) r_41_77 (Plk hL hp).1 (Plk1 hL hp).2.2.2.1 (Plk1 hL hp).2.2.2.2 ?_
              refine w_iload5 r_41_80 ?_
              refine v_iald r_41_82 (Plk1 hL hp).1 (Plk1 hL hp).2.1 (by decide) (by omega) gk ?_
              refine w_istore7 r_41_83 rfl ?_
              refine w_iload5 r_41_85 ?_
              refine w_iconst (v := iI (1)) r_41_87 rfl ?_
              refine v_iadd r_41_88 ?_
              refine w_istore8 r_41_89 rfl ?_
              refine w_iload7 r_41_91 ?_
              refine w_iconst (v := iI (5)) r_41_93 rfl ?_
              refine v_ic_ne r_41_94 (by first | exact zF_in _ _ _ | exact zA_in _ _ _ | omega) (by first | exact zF_in _ _ _ | exact zA_in _ _ _ | omega) (fun _ => ?_) (fun q => absurd q (by omega))
              refine w_iload7 r_41_109 ?_
              refine w_iconst (v := iI (4)) r_41_111 rfl ?_
              refine v_ic_ne r_41_112 (by first | exact zF_in _ _ _ | exact zA_in _ _ _ | omega) (by first | exact zF_in _ _ _ | exact zA_in _ _ _ | omega) (fun q => absurd q (by omega)) (fun _ => ?_)
              refine w_aload0 r_41_115 ?_
              refine w_getA (x := 80) r_41_116 (Lk_106 hL) (Lr_106_0 hL) (by decide) ?_
              refine w_aload0 r_41_119 ?_
              refine v_getI r_41_120 (Lk_106 hL) f6 ?_
              refine w_aload1 r_41_123 ?_
              refine w_getA (x := pa + 2) r_41_124 (Plk hL hp).1 (Plk2 hL hp).2.2.2.1 (Plk2 hL hp).2.2.2.2 ?_
              refine w_iload5 r_41_127 ?_
              refine v_iald r_41_129 (Plk2 hL hp).1 (Plk2 hL hp).2.1 (by decide) (by omega) gn ?_
              refine k_61 r_41_130 (Lk_80 hL) (Nat.le_of_ble_eq_true rfl) ?_
              refine c_groundIn hL hP hm b1.1 o4.1 dm ?_
              rw [if_pos x0] 
              refine w_istore9 r_41_133 rfl ?_
              refine w_iload9 r_41_135 ?_
              refine w_iconst (v := iI (-1)) r_41_137 rfl ?_
              refine v_ic_ne r_41_138 (by first | exact zF_in _ _ _ | exact zA_in _ _ _ | omega) (by first | exact zF_in _ _ _ | exact zA_in _ _ _ | omega) (fun q => absurd q (by decide)) (fun _ => ?_)
              refine w_iconst (v := iI (5)) r_41_141 rfl ?_
              refine w_iret r_41_142 ?_
              exact kk h1 g f8 f9
            · rw [if_neg x0] at kk
              have ci := chc_in hm o4.1 (i := dg q.2.1 (p.nm k) - 1) (by omega)
              by_cases x1 : chc M (p.nm k) (dg q.2.1 (p.nm k) - 1) = p.gd k
              · rw [if_pos x1] at kk
                refine w_iload6 r_41_60 ?_
                refine w_bipush (v := iI (80)) r_41_62 rfl ?_
                refine v_ic_ge r_41_64 (by first | exact zF_in _ _ _ | exact zA_in _ _ _ | omega) (by first | exact zF_in _ _ _ | exact zA_in _ _ _ | omega) (fun q => absurd q (by omega)) (fun _ => ?_)
                refine w_iload5 r_41_67 ?_
                refine w_aload1 r_41_69 ?_
                refine v_getI r_41_70 (Plk hL hp).1 gz ?_
                refine v_ic_ge r_41_73 (by first | exact zF_in _ _ _ | exact zA_in _ _ _ | omega) (by first | exact zF_in _ _ _ | exact zA_in _ _ _ | omega) (fun q => absurd q (by omega)) (fun _ => ?_)
                refine w_aload1 r_41_76 ?_
                refine w_getA (x := pa + 1) r_41_77 (Plk hL hp).1 (Plk1 hL hp).2.2.2.1 (Plk1 hL hp).2.2.2.2 ?_
                refine w_iload5 r_41_80 ?_
                refine v_iald r_41_82 (Plk1 hL hp).1 (Plk1 hL hp).2.1 (by decide) (by omega) gk ?_
                refine w_istore7 r_41_83 rfl ?_
                refine w_iload5 r_41_85 ?_
                refine w_iconst (v := iI (1)) r_41_87 rfl ?_
                refine v_iadd r_41_88 ?_
                refine w_istore8 r_41_89 rfl ?_
                refine w_iload7 r_41_91 ?_
                refine w_iconst (v := iI (5)) r_41_93 rfl ?_
                refine v_ic_ne r_41_94 (by first | exact zF_in _ _ _ | exact zA_in _ _ _ | omega) (by first | exact zF_in _ _ _ | exact zA_in _ _ _ | omega) (fun _ => ?_) (fun q => absurd q (by omega))
                refine w_iload7 r_41_109 ?_
                refine w_iconst (v := iI (4)) r_41_111 rfl ?_
                refine v_ic_ne r_41_112 (by first | exact zF_in _ _ _ | exact zA_in _ _ _ | omega) (by first | exact zF_in _ _ _ | exact zA_in _ _ _ | omega) (fun q => absurd q (by omega)) (fun _ => ?_)
                refine w_aload0 r_41_115 ?_
                refine w_getA (x := 80) r_41_116 (Lk_106 hL) (Lr_106_0 hL) (by decide) ?_
                refine w_aload0 r_41_119 ?_
                refine v_getI r_41_120 (Lk_106 hL) f6 ?_
                refine w_aload1 r_41_123 ?_
                refine w_getA (x := pa + 2) r_41_124 (Plk hL hp).1 (Plk2 hL hp).2.2.2.1 (Plk2 hL hp).2.2.2.2 ?_
                refine w_iload5 r_41_127 ?_
                refine v_iald r_41_129 (Plk2 hL hp).1 (Plk2 hL hp).2.1 (by decide) (by omega) gn ?_
                refine k_61 r_41_130 (Lk_80 hL) (Nat.le_of_ble_eq_true rfl) ?_
                refine c_groundIn hL hP hm b1.1 o4.1 dm ?_
                rw [if_neg x0] 
                refine w_istore9 r_41_133 rfl ?_
                refine w_iload9 r_41_135 ?_
                refine w_iconst (v := iI (-1)) r_41_137 rfl ?_
                refine v_ic_ne r_41_138 (by first | exact zF_in _ _ _ | exact zA_in _ _ _ | omega) (by first | exact zF_in _ _ _ | exact zA_in _ _ _ | omega) (fun _ => ?_) (fun q => absurd q (by omega))
                refine w_iload9 r_41_143 ?_
                refine w_aload1 r_41_145 ?_
                refine w_getA (x := pa + 3) r_41_146 (Plk hL hp).1 (Plk3 hL hp).2.2.2.1 (Plk3 hL hp).2.2.2.2 ?_
                refine w_iload5 r_41_149 ?_
                refine v_iald r_41_151 (Plk3 hL hp).1 (Plk3 hL hp).2.1 (by decide) (by omega) gg ?_
                refine v_ic_ne r_41_152 (by first | exact zF_in _ _ _ | exact zA_in _ _ _ | omega) (by first | exact zF_in _ _ _ | exact zA_in _ _ _ | omega) (fun q => absurd q (by omega)) (fun _ => ?_)
                refine w_iload8 r_41_155 ?_
                refine w_goto r_41_157 ?_
                refine w_istore8 r_41_167 rfl ?_
                refine w_goto r_41_169 ?_
                refine w_iload8 r_41_195 ?_
                refine w_istore5 r_41_197 rfl ?_
                refine w_iinc6 r_41_199 rfl (iI_add _ _) ?_
                refine w_goto r_41_202 ?_
                exact ih _ _ q h1 _ _ _ (by omega) (by omega) (by omega) (by omega) hq hJ g kk
              · rw [if_neg x1] at kk
                refine w_iload6 r_41_60 ?_
                refine w_bipush (v := iI (80)) r_41_62 rfl ?_
                refine v_ic_ge r_41_64 (by first | exact zF_in _ _ _ | exact zA_in _ _ _ | omega) (by first | exact zF_in _ _ _ | exact zA_in _ _ _ | omega) (fun q => absurd q (by omega)) (fun _ => ?_)
                refine w_iload5 r_41_67 ?_
                refine w_aload1 r_41_69 ?_
                refine v_getI r_41_70 (Plk hL hp).1 gz ?_
                refine v_ic_ge r_41_73 (by first | exact zF_in _ _ _ | exact zA_in _ _ _ | omega) (by first | exact zF_in _ _ _ | exact zA_in _ _ _ | omega) (fun q => absurd q (by omega)) (fun _ => ?_)
                refine w_aload1 r_41_76 ?_
                refine w_getA (x := pa + 1) r_41_77 (Plk hL hp).1 (Plk1 hL hp).2.2.2.1 (Plk1 hL hp).2.2.2.2 ?_
                refine w_iload5 r_41_80 ?_
                refine v_iald r_41_82 (Plk1 hL hp).1 (Plk1 hL hp).2.1 (by decide) (by omega) gk ?_
                refine w_istore7 r_41_83 rfl ?_
                refine w_iload5 r_41_85 ?_
                refine w_iconst (v := iI (1)) r_41_87 rfl ?_
                refine v_iadd r_41_88 ?_
                refine w_istore8 r_41_89 rfl ?_
                refine w_iload7 r_41_91 ?_
                refine w_iconst (v := iI (5)) r_41_93 rfl ?_
                refine v_ic_ne r_41_94 (by first | exact zF_in _ _ _ | exact zA_in _ _ _ | omega) (by first | exact zF_in _ _ _ | exact zA_in _ _ _ | omega) (fun _ => ?_) (fun q => absurd q (by omega))
                refine w_iload7 r_41_109 ?_
                refine w_iconst (v := iI (4)) r_41_111 rfl ?_
                refine v_ic_ne r_41_112 (by first | exact zF_in _ _ _ | exact zA_in _ _ _ | omega) (by first | exact zF_in _ _ _ | exact zA_in _ _ _ | omega) (fun q => absurd q (by omega)) (fun _ => ?_)
                refine w_aload0 r_41_115 ?_
                refine w_getA (x := 80) r_41_116 (Lk_106 hL) (Lr_106_0 hL) (by decide) ?_
                refine w_aload0 r_41_119 ?_
                refine v_getI r_41_120 (Lk_106 hL) f6 ?_
                refine w_aload1 r_41_123 ?_
                refine w_getA (x := pa + 2) r_41_124 (Plk hL hp).1 (Plk2 hL hp).2.2.2.1 (Plk2 hL hp).2.2.2.2 ?_
                refine w_iload5 r_41_127 ?_
                refine v_iald r_41_129 (Plk2 hL hp).1 (Plk2 hL hp).2.1 (by decide) (by omega) gn ?_
                refine k_61 r_41_130 (Lk_80 hL) (Nat.le_of_ble_eq_true rfl) ?_
                refine c_groundIn hL hP hm b1.1 o4.1 dm ?_
                rw [if_neg x0] 
                refine w_istore9 r_41_133 rfl ?_
                refine w_iload9 r_41_135 ?_
                refine w_iconst (v := iI (-1)) r_41_137 rfl ?_
                refine v_ic_ne r_41_138 (by first | exact zF_in _ _ _ | exact zA_in _ _ _ | omega) (by first | exact zF_in _ _ _ | exact zA_in _ _ _ | omega) (fun _ => ?_) (fun q => absurd q (by omega))
                refine w_iload9 r_41_143 ?_
                refine w_aload1 r_41_145 ?_
                refine w_getA (x := pa + 3) r_41_146 (Plk hL hp).1 (Plk3 hL hp).2.2.2.1 (Plk3 hL hp).2.2.2.2 ?_
                refine w_iload5 r_41_149 ?_
                refine v_iald r_41_151 (Plk3 hL hp).1 (Plk3 hL hp).2.1 (by decide) (by omega) gg ?_
                refine v_ic_ne r_41_152 (by first | exact zF_in _ _ _ | exact zA_in _ _ _ | omega) (by first | exact zF_in _ _ _ | exact zA_in _ _ _ | omega) (fun _ => ?_) (fun q => absurd q (by omega))
                refine w_aload1 r_41_160 ?_
                refine w_getA (x := pa + 4) r_41_161 (Plk hL hp).1 (Plk4 hL hp).2.2.2.1 (Plk4 hL hp).2.2.2.2 ?_
                refine w_iload5 r_41_164 ?_
                refine v_iald r_41_166 (Plk4 hL hp).1 (Plk4 hL hp).2.1 (by decide) (by omega) gt ?_
                refine w_istore8 r_41_167 rfl ?_
                refine w_goto r_41_169 ?_
                refine w_iload8 r_41_195 ?_
                refine w_istore5 r_41_197 rfl ?_
                refine w_iinc6 r_41_199 rfl (iI_add _ _) ?_
                refine w_goto r_41_202 ?_
                exact ih _ _ q h1 _ _ _ (by omega) (by omega) (by omega) (by omega) hq hJ g kk
          · rw [if_neg y4] at kk
            have o3 := ok.2.2.1 (by omega)
            have go1 := goN_on (w := p.kd k) ho hm hd cf.1 (p.nm k).toNat q hq
            by_cases x0 : (goN B dd M f (p.kd k) (p.nm k).toNat q).1 = 0
            · rw [if_pos x0] at kk
              refine w_iload6 r_41_60 ?_
              refine w_bipush (v := iI (80)) r_41_62 rfl ?_
              refine v_ic_ge r_41_64 (by first | exact zF_in _ _ _ | exact zA_in _ _ _ | omega) (by first | exact zF_in _ _ _ | exact zA_in _ _ _ | omega) (fun q => absurd q (by omega)) (fun _ => ?_)
              refine w_iload5 r_41_67 ?_
              refine w_aload1 r_41_69 ?_
              refine v_getI r_41_70 (Plk hL hp).1 gz ?_
              refine v_ic_ge r_41_73 (by first | exact zF_in _ _ _ | exact zA_in _ _ _ | omega) (by first | exact zF_in _ _ _ | exact zA_in _ _ _ | omega) (fun q => absurd q (by omega)) (fun _ => ?_)
              refine w_aload1 r_41_76 ?_
              refine w_getA (x := pa + 1) r_41_77 (Plk hL hp).1 (Plk1 hL hp).2.2.2.1 (Plk1 hL hp).2.2.2.2 ?_
              refine w_iload5 r_41_80 ?_
              refine v_iald r_41_82 (Plk1 hL hp).1 (Plk1 hL hp).2.1 (by decide) (by omega) gk ?_
              refine w_istore7 r_41_83 rfl ?_
              refine w_iload5 r_41_85 ?_
              refine w_iconst (v := iI (1)) r_41_87 rfl ?_
              refine v_iadd r_41_88 ?_
              refine w_istore8 r_41_89 rfl ?_
              refine w_iload7 r_41_91 ?_
              refine w_iconst (v := iI (5)) r_41_93 rfl ?_
              refine v_ic_ne r_41_94 (by first | exact zF_in _ _ _ | exact zA_in _ _ _ | omega) (by first | exact zF_in _ _ _ | exact zA_in _ _ _ | omega) (fun _ => ?_) (fun q => absurd q (by omega))
              refine w_iload7 r_41_109 ?_
              refine w_iconst (v := iI (4)) r_41_111 rfl ?_
              refine v_ic_ne r_41_112 (by first | exact zF_in _ _ _ | exact zA_in _ _ _ | omega) (by first | exact zF_in _ _ _ | exact zA_in _ _ _ | omega) (fun _ => ?_) (fun q => absurd q (by omega))
              refine w_aload0 r_41_172 ?_
              refine w_iload7 r_41_173 ?_
              refine w_aload1 r_41_175 ?_
              refine w_getA (x := pa + 2) r_41_176 (Plk hL hp).1 (Plk2 hL hp).2.2.2.1 (Plk2 hL hp).2.2.2.2 ?_
              refine w_iload5 r_41_179 ?_
              refine v_iald r_41_181 (Plk2 hL hp).1 (Plk2 hL hp).2.1 (by decide) (by omega) gn ?_
              refine k_42 r_41_182 (Lk_106 hL) (Nat.le_of_ble_eq_true rfl) ?_
              refine c_moveBy (q := q) hL ho hd hm hP hE cf.1 (by omega) (by omega) hq hJ (fun h2 g2 hJ2 => ?_)
              refine w_istore9 r_41_185 rfl ?_
              refine w_iload9 r_41_187 ?_
              refine v_if_eq r_41_189 (by first | exact zF_in _ _ _ | exact zA_in _ _ _ | omega) (fun _ => ?_) (fun q => absurd q (by omega))
              refine w_iload8 r_41_195 ?_
              refine w_istore5 r_41_197 rfl ?_
              refine w_iinc6 r_41_199 rfl (iI_add _ _) ?_
              refine w_goto r_41_202 ?_
              exact ih _ _ _ h2 _ _ _ (by omega) (by omega) (by omega) (by omega) go1.1 hJ2 (g.trans (g2.mono (fun a j x => by simp [pF] at x ⊢; omega))) kk
            · rw [if_neg x0] at kk
              refine w_iload6 r_41_60 ?_
              refine w_bipush (v := iI (80)) r_41_62 rfl ?_
              refine v_ic_ge r_41_64 (by first | exact zF_in _ _ _ | exact zA_in _ _ _ | omega) (by first | exact zF_in _ _ _ | exact zA_in _ _ _ | omega) (fun q => absurd q (by omega)) (fun _ => ?_)
              refine w_iload5 r_41_67 ?_
              refine w_aload1 r_41_69 ?_
              refine v_getI r_41_70 (Plk hL hp).1 gz ?_
              refine v_ic_ge r_41_73 (by first | exact zF_in _ _ _ | exact zA_in _ _ _ | omega) (by first | exact zF_in _ _ _ | exact zA_in _ _ _ | omega) (fun q => absurd q (by omega)) (fun _ => ?_)
              refine w_aload1 r_41_76 ?_
              refine w_getA (x := pa + 1) r_41_77 (Plk hL hp).1 (Plk1 hL hp).2.2.2.1 (Plk1 hL hp).2.2.2.2 ?_
              refine w_iload5 r_41_80 ?_
              refine v_iald r_41_82 (Plk1 hL hp).1 (Plk1 hL hp).2.1 (by decide) (by omega) gk ?_
              refine w_istore7 r_41_83 rfl ?_
              refine w_iload5 r_41_85 ?_
              refine w_iconst (v := iI (1)) r_41_87 rfl ?_
              refine v_iadd r_41_88 ?_
              refine w_istore8 r_41_89 rfl ?_
              refine w_iload7 r_41_91 ?_
              refine w_iconst (v := iI (5)) r_41_93 rfl ?_
              refine v_ic_ne r_41_94 (by first | exact zF_in _ _ _ | exact zA_in _ _ _ | omega) (by first | exact zF_in _ _ _ | exact zA_in _ _ _ | omega) (fun _ => ?_) (fun q => absurd q (by omega))
              refine w_iload7 r_41_109 ?_
              refine w_iconst (v := iI (4)) r_41_111 rfl ?_
              refine v_ic_ne r_41_112 (by first | exact zF_in _ _ _ | exact zA_in _ _ _ | omega) (by first | exact zF_in _ _ _ | exact zA_in _ _ _ | omega) (fun _ => ?_) (fun q => absurd q (by omega))
              refine w_aload0 r_41_172 ?_
              refine w_iload7 r_41_173 ?_
              refine w_aload1 r_41_175 ?_
              refine w_getA (x := pa + 2) r_41_176 (Plk hL hp).1 (Plk2 hL hp).2.2.2.1 (Plk2 hL hp).2.2.2.2 ?_
              refine w_iload5 r_41_179 ?_
              refine v_iald r_41_181 (Plk2 hL hp).1 (Plk2 hL hp).2.1 (by decide) (by omega) gn ?_
              refine k_42 r_41_182 (Lk_106 hL) (Nat.le_of_ble_eq_true rfl) ?_
              refine c_moveBy (q := q) hL ho hd hm hP hE cf.1 (by omega) (by omega) hq hJ (fun h2 g2 hJ2 => ?_)
              refine w_istore9 r_41_185 rfl ?_
              refine w_iload9 r_41_187 ?_
              refine v_if_eq r_41_189 (by first | exact zF_in _ _ _ | exact zA_in _ _ _ | omega) (fun q => absurd q (by omega)) (fun _ => ?_)
              refine w_iload9 r_41_192 ?_
              refine w_iret r_41_194 ?_
              exact kk h2 (g.trans (g2.mono (fun a j x => by simp [pF] at x ⊢; omega))) hJ2.2.2.2.1 hJ2.2.2.2.2
  have sg := hP.2.2.2.2.1 c hc.1 (by omega)
  have os := or_see (c := c) hP hm hs cf.1 cf.2 hc
  have l1 := lnd_in (b := zA h 84 c) fs
  have F5 : Fr PJw h (sI (sI (sI (sI (sI h 106 7 (iI f)) 106 5 (iI c)) 106 6 (iI (seeS M (sta M) c f))) 106 8 (iI 0)) 106 9 (iI 0)) := (((((Fr.refl _ _).sI 106 7 _ (by decide)).sI 106 5 _ (by decide)).sI 106 6 _ (by decide)).sI 106 8 _ (by decide)).sI 106 9 _ (by decide)
  have k0 := key 81 0 0 (q1 M f c) _ .null .null .null (by have := hk.1; omega) (by decide) (by decide) hk.1.1 on1 ⟨rfl, rfl, rfl, rfl, rfl⟩ F5 kk
  have F7 : Fr PJw h (sI (sI h 106 7 (iI f)) 106 5 (iI c)) := ((Fr.refl _ _).sI 106 7 _ (by decide)).sI 106 5 _ (by decide)
  have hP7 := (CP_fr F7 (fun a j p q n => by simp [pF]; omega) hP hE).1
  refine w_aload0 r_41_0 ?_
  refine w_aload0 r_41_1 ?_
  refine w_getA (x := 80) r_41_2 (Lk_106 hL) (Lr_106_0 hL) (by decide) ?_
  refine w_iload4 r_41_5 ?_
  refine k_59 r_41_7 (Lk_80 hL) (Nat.le_of_ble_eq_true rfl) ?_
  refine c_stateOfTruth hL hP hm ht ?_
  rw [hF] 
  refine w_putI r_41_10 (Lk_106 hL) (Ln_106 hL) ?_
  refine w_aload0 r_41_13 ?_
  refine w_iload2 r_41_14 ?_
  refine w_putI r_41_15 (Lk_106 hL) (Ln_106 hL) ?_
  refine w_aload0 r_41_18 ?_
  refine w_aload0 r_41_19 ?_
  refine w_getA (x := 80) r_41_20 (Lk_106 hL) (Lr_106_0 hL) (by decide) ?_
  refine k_56 r_41_23 (Lk_80 hL) (Nat.le_of_ble_eq_true rfl) ?_
  refine c_startState hL hP7 hm ?_
  refine w_aload0 r_41_26 ?_
  refine v_getI r_41_27 (Lk_106 hL) (show _ = iI f from rfl) ?_
  refine w_aload0 r_41_30 ?_
  refine w_getA (x := 80) r_41_31 (Lk_106 hL) (Lr_106_0 hL) (by decide) ?_
  refine w_getA (x := 84) r_41_34 (Lk_80 hL) (Lr_80_8 hL) (by decide) ?_
  refine w_iload2 r_41_37 ?_
  refine v_iald r_41_38 (Lk_84 hL) (Lz_84 hL) (by decide) (by omega) (gI_A h 84 _) ?_
  refine v_iandN (hs := fs.1) (he := sg.1) r_41_39 ?_
  refine v_iorN (hs := hs.1.1) (he := l1.1) r_41_40 ?_
  rw [os] 
  refine w_putI r_41_41 (Lk_106 hL) (Ln_106 hL) ?_
  refine w_aload0 r_41_44 ?_
  refine w_iconst (v := iI (0)) r_41_45 rfl ?_
  refine w_putI r_41_46 (Lk_106 hL) (Ln_106 hL) ?_
  refine w_aload0 r_41_49 ?_
  refine w_iconst (v := iI (0)) r_41_50 rfl ?_
  refine w_putI r_41_51 (Lk_106 hL) (Ln_106 hL) ?_
  refine w_iconst (v := iI (0)) r_41_54 rfl ?_
  refine w_istore5 r_41_55 rfl ?_
  refine w_iconst (v := iI (0)) r_41_57 rfl ?_
  refine w_istore6 r_41_58 rfl ?_
  exact k0
end WN
