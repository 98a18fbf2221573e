/-! a plan is judged: the Model -/
section AC
variable {d : Nat} {h : XH} {K : Int32 → XH → Prop} {KU : XH → Prop} {M : XM} {B : XB} {dd f : Int} {p : XL}
def MPl (h : XH) (i : Int) (p : XL) : Prop := zA h 145 i = p.z ∧ ∀ k, 0 ≤ k → k < p.z → (p.kd k ≤ 3 → zA h 144 (512 * i + 4 * k) = 0 ∧ zA h 144 (512 * i + 4 * k + 1) = p.kd k ∧ zA h 144 (512 * i + 4 * k + 2) = p.nm k) ∧ (p.kd k = 4 → zA h 144 (512 * i + 4 * k) = 1 ∧ zA h 144 (512 * i + 4 * k + 1) = p.nm k ∧ zA h 144 (512 * i + 4 * k + 2) = p.gd k ∧ zA h 144 (512 * i + 4 * k + 3) = p.tg k) ∧ (p.kd k = 5 → zA h 144 (512 * i + 4 * k) = 2 ∧ zA h 144 (512 * i + 4 * k + 3) = p.tg k)
def flr (M : XM) (f c : Int) : Int := if M.db c = -1 then M.gr c else chc M (M.db c) (dg f (M.db c) - 1)
theorem tl_flr {c w : Int} (hm : M.ok B.g) (hf : Tru M f) (hc : 0 ≤ c ∧ c < M.n) (h0 : 0 ≤ M.nx c w) : tlB B dd M f c w = tg B dd M c w (flr M f (M.nx c w)) ∧ (0 ≤ flr M f (M.nx c w) ∧ flr M f (M.nx c w) < B.g) := by
  have o := hm.1
  have hb1 := M.nx_in (way := w) hm hc
  have oc := hm.2.1 (M.nx c w) h0 (by omega)
  unfold tlB flr
  rw [if_neg (by omega)]
  by_cases q : M.db (M.nx c w) = -1
  · rw [if_pos q, if_pos q]; exact ⟨rfl, oc.2.2.1, oc.2.2.2.1⟩
  · have f1 := hf.2 (M.db (M.nx c w)) (by omega) (by omega)
    rw [if_neg q, if_neg q, if_neg (by omega)]
    exact ⟨rfl, chc_any hm (by omega)⟩
abbrev PAc : Nat → Nat → Bool := pF [(118, 66), (118, 67)]
def AF (h : XH) (q : XQ) : Prop := gI h 118 66 = iI q.2.2.1 ∧ gI h 118 67 = iI q.2.2.2
theorem AC_fr {h1 : XH} (g : Fr PAc h h1) (hQ : MBk h B) (hP : MMp h M) (hK : MLs h M) : MBk h1 B ∧ MMp h1 M ∧ MLs h1 M := ⟨hQ.fr g (fun a j q => by simp [fpMB] at q; simp [pF]; omega), hP.fr g (fun a j p q => by simp [pF]; omega) (fun j p q => by simp [pF]; omega), hK.fr g (fun j => by simp [pF])⟩
theorem m_acts {i c to t : Int} (hL : Lay h) (hQ : MBk h B) (ho : B.ok) (hd : 0 ≤ dd ∧ dd < B.w) (hm : M.ok B.g) (hP : MMp h M) (hK : MLs h M) (hdd : gI h 118 38 = iI dd) (hi : 0 ≤ i ∧ i < 8) (hC : MPl h i p) (hk : p.ok M.nd) (ht : 0 ≤ t ∧ t ≤ 2147483647) (hc : 0 ≤ c ∧ c < M.n) (hto : 0 ≤ to ∧ to < M.n)
    (kk : ∀ h', Fr PAc h h' → AF h' (acN B dd M (ful M t) p to 81 0 (q1 M (ful M t) c)).2 → K (iI (acN B dd M (ful M t) p to 81 0 (q1 M (ful M t) c)).1) h') :
    XW (d + 5) 252 0 [.ref 118, .int (iI i), .int (iI c), .int (iI to), .int (iI t), .null, .null, .null, .null, .null, .null, .null, .null, .null, .null] [] h (KI K) := by
  have o := hm.1
  have nn := M.n_in hm
  have cf := con_ful hm ht.1
  have hs := sta_st hm
  have on1 := q1_on (B := B) (dd := dd) hm ht.1 hc
  have fs := cf.1.1.1
  generalize hF : ful M t = f at *
  have pz := hk.1
  -- steps in a row
  have mv : ∀ (w k0 : Int), (0 ≤ w ∧ w < 4) → ∀ (n : Nat) (j b : Int), 0 ≤ j → j + n = b → b ≤ 9 → ∀ (h1 : XH) (q : XQ) (X9 X13 X14 : Value), OnJ B dd M f q → AF h1 q → Fr PAc h h1 → (∀ (h2 : XH) (X9 X12 X13 X14 : Value), Fr PAc h h2 → OnJ B dd M f (goN B dd M f w n q).2 → AF h2 (goN B dd M f w n q).2 → ((goN B dd M f w n q).1 = 0 → XW (d + 5) 252 284 [.ref 118, .int (iI i), .int (iI c), .int (iI to), .int (iI t), .int (iI f), .int (iI (goN B dd M f w n q).2.1), .int (iI (goN B dd M f w n q).2.2.1), .int (iI k0), X9, .int (iI w), .int (iI b), X12, X13, X14] [] h2 (KI K)) ∧ (¬ (goN B dd M f w n q).1 = 0 → K (iI (goN B dd M f w n q).1) h2)) → XW (d + 5) 252 175 [.ref 118, .int (iI i), .int (iI c), .int (iI to), .int (iI t), .int (iI f), .int (iI q.1), .int (iI q.2.1), .int (iI k0), X9, .int (iI w), .int (iI b), .int (iI j), X13, X14] [] h1 (KI K) := by
    intro w k0 hw n
    induction n with
    | zero =>
      intro j b j0 je jb h1 q X9 X13 X14 hq hA g kk
      have kk := (kk h1 X9 (.int (iI j)) X13 X14 g hq hA).1 rfl
      refine w_iload12 r_252_175 ?_
      refine w_iload11 r_252_177 ?_
      refine v_ic_ge r_252_179 (by first | exact zF_in _ _ _ | exact zA_in _ _ _ | omega) (by first | exact zF_in _ _ _ | exact zA_in _ _ _ | omega) (fun _ => ?_) (fun q => absurd q (by omega))
      exact kk
    | succ n ih =>
      intro j b j0 je jb h1 q X9 X13 X14 hq hA g kk
      have hL := g.lay hL
      obtain ⟨hQ, hP, hK⟩ := AC_fr g hQ hP hK
      have hdd : gI h1 118 38 = iI dd := ((g.2 118 38 (by decide)).1).trans hdd
      obtain ⟨b1, b2, b3, b4, b5⟩ := id hq
      have hb1 := M.nx_in (way := w) hm b3
      unfold goN at kk
      by_cases z1 : M.nx q.1 w < 0
      · rw [if_pos z1] at kk
        have kk := (kk h1 X9 (.int (iI j)) X13 X14 g hq hA).2 (by show ¬ (1 : Int) = 0; decide)
        refine w_iload12 r_252_175 ?_
        refine w_iload11 r_252_177 ?_
        refine v_ic_ge r_252_179 (by first | exact zF_in _ _ _ | exact zA_in _ _ _ | omega) (by first | exact zF_in _ _ _ | exact zA_in _ _ _ | omega) (fun q => absurd q (by omega)) (fun _ => ?_)
        refine w_aload0 r_252_182 ?_
        refine w_iload6 r_252_183 ?_
        refine w_iload10 r_252_185 ?_
        refine k_206 r_252_187 (Lk_118 hL) (Nat.le_of_ble_eq_true rfl) ?_
        refine m_bs hL hP hm b3 hw ?_
        refine w_istore13 r_252_190 rfl ?_
        refine w_iload13 r_252_192 ?_
        refine v_if_ge r_252_194 (by first | exact zF_in _ _ _ | exact zA_in _ _ _ | omega) (fun q => absurd q (by omega)) (fun _ => ?_)
        refine w_iconst (v := iI (1)) r_252_197 rfl ?_
        refine w_goto r_252_198 ?_
        refine w_istore14 r_252_217 rfl ?_
        refine w_iload14 r_252_219 ?_
        refine v_if_le r_252_221 (by first | exact zF_in _ _ _ | exact zA_in _ _ _ | omega) (fun q => absurd q (by decide)) (fun _ => ?_)
        refine w_iload14 r_252_224 ?_
        refine w_iret r_252_226 ?_
        exact kk
      · rw [if_neg z1] at kk
        have tf := tl_flr (B := B) (dd := dd) (w := w) hm cf.1 b3 (by omega)
        have tu := tl_ful (w := w) ho hm hd b1 b2 b3 b4 hw
        rw [tf.1] at tu
        have fl := fun KK kq => m_floorOf (d := d + 3) (K := KK) (h := h1) (s := f) (c := M.nx q.1 w) hL hP hm hK (by omega) fs (fun z => by
          have oc := hm.2.1 (M.nx q.1 w) (by omega) (by omega)
          exact ⟨cf.1.2 _ z (by omega), (cf.1.1.2 _ z (by omega)).1 (by omega)⟩) kq
        have efl : (if M.db (M.nx q.1 w) = -1 then M.gr (M.nx q.1 w) else chc M (M.db (M.nx q.1 w)) (dg f (M.db (M.nx q.1 w)) - 1)) = flr M f (M.nx q.1 w) := rfl
        rw [efl] at fl
        generalize flr M f (M.nx q.1 w) = gg at *
        have wi := why_in (B := B) (dd := dd) (M := M) (c := q.1) (way := w) (g := gg)
        have tge : tg B dd M q.1 w gg = if why B dd M q.1 w gg = 0 then cst B dd M q.1 w gg else -why B dd M q.1 w gg := rfl
        by_cases z2 : tlB B dd M q.2.1 q.1 w ≤ 0
        · rw [if_pos z2] at kk
          have w0 : ¬ why B dd M q.1 w gg = 0 := fun z => by
            rw [if_pos z] at tge
            have := cst_in (way := w) (g := gg) ho hm hd tf.2 b3 (by omega)
            omega
          rw [if_neg w0] at tge
          have kk := (kk h1 X9 (.int (iI j)) X13 X14 g hq hA).2 (by show ¬ -tlB B dd M q.2.1 q.1 w = 0; omega)
          have ek : -tlB B dd M q.2.1 q.1 w = why B dd M q.1 w gg := by omega
          have kk : K (iI (why B dd M q.1 w gg)) h1 := by rw [← ek]; exact kk
          refine w_iload12 r_252_175 ?_
          refine w_iload11 r_252_177 ?_
          refine v_ic_ge r_252_179 (by first | exact zF_in _ _ _ | exact zA_in _ _ _ | omega) (by first | exact zF_in _ _ _ | exact zA_in _ _ _ | omega) (fun q => absurd q (by omega)) (fun _ => ?_)
          refine w_aload0 r_252_182 ?_
          refine w_iload6 r_252_183 ?_
          refine w_iload10 r_252_185 ?_
          refine k_206 r_252_187 (Lk_118 hL) (Nat.le_of_ble_eq_true rfl) ?_
          refine m_bs hL hP hm b3 hw ?_
          refine w_istore13 r_252_190 rfl ?_
          refine w_iload13 r_252_192 ?_
          refine v_if_ge r_252_194 (by first | exact zF_in _ _ _ | exact zA_in _ _ _ | omega) (fun _ => ?_) (fun q => absurd q (by omega))
          refine w_aload0 r_252_201 ?_
          refine w_iload6 r_252_202 ?_
          refine w_iload10 r_252_204 ?_
          refine w_aload0 r_252_206 ?_
          refine w_iload13 r_252_207 ?_
          refine w_iload5 r_252_209 ?_
          refine k_222 r_252_211 (Lk_118 hL) (Nat.le_of_ble_eq_true rfl) ?_
          refine fl _ ?_
          refine k_209 r_252_214 (Lk_118 hL) (Nat.le_of_ble_eq_true rfl) ?_
          refine m_barred hL hQ ho hP hm hdd hd tf.2 b3 hw ?_
          refine w_istore14 r_252_217 rfl ?_
          refine w_iload14 r_252_219 ?_
          refine v_if_le r_252_221 (by first | exact zF_in _ _ _ | exact zA_in _ _ _ | omega) (fun q => absurd q (by omega)) (fun _ => ?_)
          refine w_iload14 r_252_224 ?_
          refine w_iret r_252_226 ?_
          exact kk
        · rw [if_neg z2] at kk
          have st := hq.step (w := w) ho hm hd cf.1 (by omega)
          have w0 : why B dd M q.1 w gg = 0 := by
            apply Classical.byContradiction
            intro z
            rw [if_neg z] at tge; omega
          rw [if_pos w0] at tge
          have ec : tlB B dd M q.2.1 q.1 w = cst B dd M q.1 w gg := by omega
          have F2 : Fr PAc h1 (sI (sI h1 118 67 (iI (q.2.2.2 + cst B dd M q.1 w gg))) 118 66 (iI (q.2.2.1 + 1))) := ((Fr.refl _ _).sI 118 67 _ (by decide)).sI 118 66 _ (by decide)
          obtain ⟨hQ2, hP2, hK2⟩ := AC_fr F2 hQ hP hK
          rw [ec] at st kk
          refine w_iload12 r_252_175 ?_
          refine w_iload11 r_252_177 ?_
          refine v_ic_ge r_252_179 (by first | exact zF_in _ _ _ | exact zA_in _ _ _ | omega) (by first | exact zF_in _ _ _ | exact zA_in _ _ _ | omega) (fun q => absurd q (by omega)) (fun _ => ?_)
          refine w_aload0 r_252_182 ?_
          refine w_iload6 r_252_183 ?_
          refine w_iload10 r_252_185 ?_
          refine k_206 r_252_187 (Lk_118 hL) (Nat.le_of_ble_eq_true rfl) ?_
          refine m_bs hL hP hm b3 hw ?_
          refine w_istore13 r_252_190 rfl ?_
          refine w_iload13 r_252_192 ?_
          refine v_if_ge r_252_194 (by first | exact zF_in _ _ _ | exact zA_in _ _ _ | omega) (fun _ => ?_) (fun q => absurd q (by omega))
          refine w_aload0 r_252_201 ?_
          refine w_iload6 r_252_202 ?_
          refine w_iload10 r_252_204 ?_
          refine w_aload0 r_252_206 ?_
          refine w_iload13 r_252_207 ?_
          refine w_iload5 r_252_209 ?_
          refine k_222 r_252_211 (Lk_118 hL) (Nat.le_of_ble_eq_true rfl) ?_
          refine fl _ ?_
          refine k_209 r_252_214 (Lk_118 hL) (Nat.le_of_ble_eq_true rfl) ?_
          refine m_barred hL hQ ho hP hm hdd hd tf.2 b3 hw ?_
          refine w_istore14 r_252_217 rfl ?_
          refine w_iload14 r_252_219 ?_
          refine v_if_le r_252_221 (by first | exact zF_in _ _ _ | exact zA_in _ _ _ | omega) (fun _ => ?_) (fun q => absurd q (by omega))
          refine w_aload0 r_252_227 ?_
          refine w_dupA r_252_228 ?_
          refine v_getI r_252_229 (Lk_118 hL) (hA.2) ?_
          refine w_aload0 r_252_232 ?_
          refine w_iload6 r_252_233 ?_
          refine w_iload10 r_252_235 ?_
          refine w_aload0 r_252_237 ?_
          refine w_iload13 r_252_238 ?_
          refine w_iload5 r_252_240 ?_
          refine k_222 r_252_242 (Lk_118 hL) (Nat.le_of_ble_eq_true rfl) ?_
          refine fl _ ?_
          refine k_210 r_252_245 (Lk_118 hL) (Nat.le_of_ble_eq_true rfl) ?_
          refine m_cost hL hQ ho hP hm hdd hd tf.2 b3 hw (by omega) ?_
          refine v_iadd r_252_248 ?_
          refine w_putI r_252_249 (Lk_118 hL) (Ln_118 hL) ?_
          refine w_aload0 r_252_252 ?_
          refine w_dupA r_252_253 ?_
          refine v_getI r_252_254 (Lk_118 hL) (show _ = iI q.2.2.1 from hA.1) ?_
          refine w_iconst (v := iI (1)) r_252_257 rfl ?_
          refine v_iadd r_252_258 ?_
          refine w_putI r_252_259 (Lk_118 hL) (Ln_118 hL) ?_
          refine w_iload13 r_252_262 ?_
          refine w_istore6 r_252_264 rfl ?_
          refine w_aload0 r_252_266 ?_
          refine w_iload7 r_252_267 ?_
          refine w_iload6 r_252_269 ?_
          refine w_iload5 r_252_271 ?_
          refine k_239 r_252_273 (Lk_118 hL) (Nat.le_of_ble_eq_true rfl) ?_
          refine m_sees hL hP2 hm b1 cf.1 (by omega) ?_
          refine w_istore7 r_252_276 rfl ?_
          refine w_iinc12 r_252_278 rfl (iI_add _ _) ?_
          refine w_goto r_252_281 ?_
          exact ih (j + 1) b (by omega) (by omega) jb _ _ _ _ _ st ⟨rfl, rfl⟩ (g.trans F2) kk
  have key : ∀ (n : Nat) (k : Int) (q : XQ) (h1 : XH) (X9 X10 X11 X12 X13 X14 : Value), p.z - k < n → 0 ≤ k → k ≤ p.z → OnJ B dd M f q → AF h1 q → Fr PAc h h1 → (∀ h', Fr PAc h h' → AF h' (acN B dd M f p to n k q).2 → K (iI (acN B dd M f p to n k q).1) h') → XW (d + 5) 252 38 [.ref 118, .int (iI i), .int (iI c), .int (iI to), .int (iI t), .int (iI f), .int (iI q.1), .int (iI q.2.1), .int (iI k), X9, X10, X11, X12, X13, X14] [] h1 (KI K) := by
    intro n
    induction n with
    | zero => intro k q h1 X9 X10 X11 X12 X13 X14 a b c; omega
    | succ n ih =>
      intro k q h1 X9 X10 X11 X12 X13 X14 hn t0 kz hq hA g kk
      have hL := g.lay hL
      obtain ⟨hQ, hP, hK⟩ := AC_fr g hQ hP hK
      have e145 : ∀ x, zA h1 144 x = zA h 144 x := fun x => g.A (by simp [pF])
      have gz : gI h1 145 i.toNat = iI p.z := by rw [gI_A, g.A (by simp [pF]), hC.1]
      obtain ⟨b1, b2, b3, b4, b5⟩ := id hq
      unfold acN at kk
      by_cases z1 : p.z ≤ k
      · rw [if_pos z1] at kk
        have kk := kk h1 g hA
        by_cases z2 : q.1 = to
        · rw [if_pos z2] at kk
          refine w_iload8 r_252_38 ?_
          refine w_aload0 r_252_40 ?_
          refine w_getA (x := 145) r_252_41 (Lk_118 hL) (Lr_118_57 hL) (by decide) ?_
          refine w_iload1 r_252_44 ?_
          refine v_iald r_252_45 (Lk_145 hL) (Lz_145 hL) (by decide) (by omega) gz ?_
          refine v_ic_ge r_252_46 (by first | exact zF_in _ _ _ | exact zA_in _ _ _ | omega) (by first | exact zF_in _ _ _ | exact zA_in _ _ _ | omega) (fun _ => ?_) (fun q => absurd q (by omega))
          refine w_iload6 r_252_287 ?_
          refine w_iload3 r_252_289 ?_
          refine v_ic_ne r_252_290 (by first | exact zF_in _ _ _ | exact zA_in _ _ _ | omega) (by first | exact zF_in _ _ _ | exact zA_in _ _ _ | omega) (fun q => absurd q (by omega)) (fun _ => ?_)
          refine w_iconst (v := iI (0)) r_252_293 rfl ?_
          refine w_goto r_252_294 ?_
          refine w_iret r_252_299 ?_
          exact kk
        · rw [if_neg z2] at kk
          refine w_iload8 r_252_38 ?_
          refine w_aload0 r_252_40 ?_
          refine w_getA (x := 145) r_252_41 (Lk_118 hL) (Lr_118_57 hL) (by decide) ?_
          refine w_iload1 r_252_44 ?_
          refine v_iald r_252_45 (Lk_145 hL) (Lz_145 hL) (by decide) (by omega) gz ?_
          refine v_ic_ge r_252_46 (by first | exact zF_in _ _ _ | exact zA_in _ _ _ | omega) (by first | exact zF_in _ _ _ | exact zA_in _ _ _ | omega) (fun _ => ?_) (fun q => absurd q (by omega))
          refine w_iload6 r_252_287 ?_
          refine w_iload3 r_252_289 ?_
          refine v_ic_ne r_252_290 (by first | exact zF_in _ _ _ | exact zA_in _ _ _ | omega) (by first | exact zF_in _ _ _ | exact zA_in _ _ _ | omega) (fun _ => ?_) (fun q => absurd q (by omega))
          refine w_bipush (v := iI (6)) r_252_297 rfl ?_
          refine w_iret r_252_299 ?_
          exact kk
      · rw [if_neg z1] at kk
        have ok := hk.2 k (by omega) (by omega)
        have cp := hC.2 k (by omega) (by omega)
        have ga : gI h1 144 (512 * i + 4 * k + 1).toNat = iI (zA h 144 (512 * i + 4 * k + 1)) := by rw [gI_A, e145]
        have gb : gI h1 144 (512 * i + 4 * k + 2).toNat = iI (zA h 144 (512 * i + 4 * k + 2)) := by rw [gI_A, e145]
        have gc : gI h1 144 (512 * i + 4 * k + 3).toNat = iI (zA h 144 (512 * i + 4 * k + 3)) := by rw [gI_A, e145]
        have go : gI h1 144 (512 * i + 4 * k).toNat = iI (zA h 144 (512 * i + 4 * k)) := by rw [gI_A, e145]
        by_cases y5 : p.kd k = 5
        · rw [if_pos y5] at kk
          have c5 := cp.2.2 y5
          rw [c5.1] at go
          rw [c5.2] at gc
          have o5 := ok.2.1 (by omega)
          refine w_iload8 r_252_38 ?_
          refine w_aload0 r_252_40 ?_
          refine w_getA (x := 145) r_252_41 (Lk_118 hL) (Lr_118_57 hL) (by decide) ?_
          refine w_iload1 r_252_44 ?_
          refine v_iald r_252_45 (Lk_145 hL) (Lz_145 hL) (by decide) (by omega) gz ?_
          refine v_ic_ge r_252_46 (by first | exact zF_in _ _ _ | exact zA_in _ _ _ | omega) (by first | exact zF_in _ _ _ | exact zA_in _ _ _ | omega) (fun q => absurd q (by omega)) (fun _ => ?_)
          refine w_sipush (v := iI (512)) r_252_49 rfl ?_
          refine w_iload1 r_252_52 ?_
          refine v_imul r_252_53 ?_
          refine w_iconst (v := iI (4)) r_252_54 rfl ?_
          refine w_iload8 r_252_55 ?_
          refine v_imul r_252_57 ?_
          refine v_iadd r_252_58 ?_
          refine w_istore9 r_252_59 rfl ?_
          refine w_aload0 r_252_61 ?_
          refine w_getA (x := 144) r_252_62 (Lk_118 hL) (Lr_118_56 hL) (by decide) ?_
          refine w_iload9 r_252_65 ?_
          refine w_iconst (v := iI (1)) r_252_67 rfl ?_
          refine v_iadd r_252_68 ?_
          refine v_iald r_252_69 (Lk_144 hL) (Lz_144 hL) (by decide) (by omega) ga ?_
          refine w_istore10 r_252_70 rfl ?_
          refine w_aload0 r_252_72 ?_
          refine w_getA (x := 144) r_252_73 (Lk_118 hL) (Lr_118_56 hL) (by decide) ?_
          refine w_iload9 r_252_76 ?_
          refine w_iconst (v := iI (2)) r_252_78 rfl ?_
          refine v_iadd r_252_79 ?_
          refine v_iald r_252_80 (Lk_144 hL) (Lz_144 hL) (by decide) (by omega) gb ?_
          refine w_istore11 r_252_81 rfl ?_
          refine w_iinc8 r_252_83 rfl (iI_add _ _) ?_
          refine w_aload0 r_252_86 ?_
          refine w_getA (x := 144) r_252_87 (Lk_118 hL) (Lr_118_56 hL) (by decide) ?_
          refine w_iload9 r_252_90 ?_
          refine v_iald r_252_92 (Lk_144 hL) (Lz_144 hL) (by decide) (by omega) go ?_
          refine w_iconst (v := iI (2)) r_252_93 rfl ?_
          refine v_ic_ne r_252_94 (by first | exact zF_in _ _ _ | exact zA_in _ _ _ | omega) (by first | exact zF_in _ _ _ | exact zA_in _ _ _ | omega) (fun q => absurd q (by decide)) (fun _ => ?_)
          refine w_aload0 r_252_97 ?_
          refine w_getA (x := 144) r_252_98 (Lk_118 hL) (Lr_118_56 hL) (by decide) ?_
          refine w_iload9 r_252_101 ?_
          refine w_iconst (v := iI (3)) r_252_103 rfl ?_
          refine v_iadd r_252_104 ?_
          refine v_iald r_252_105 (Lk_144 hL) (Lz_144 hL) (by decide) (by omega) gc ?_
          refine w_istore8 r_252_106 rfl ?_
          refine w_goto r_252_108 ?_
          refine w_goto r_252_284 ?_
          exact ih _ q h1 _ _ _ _ _ _ (by omega) (by omega) (by omega) hq hA g kk
        · rw [if_neg y5] at kk
          by_cases y4 : p.kd k = 4
          · rw [if_pos y4] at kk
            have c4 := cp.2.1 y4
            rw [c4.1] at go
            rw [c4.2.1] at ga
            rw [c4.2.2.1] at gb
            rw [c4.2.2.2] at gc
            have o5 := ok.2.1 (by omega)
            have o4 := ok.2.2.2 y4
            have om := mny_in hm o4.1
            have dm := (b1.2 (p.nm k) (by omega) (by omega)).1 (by omega)
            have di := dg_in q.2.1 (p.nm k)
            by_cases x0 : dg q.2.1 (p.nm k) = 0
            · rw [if_pos x0] at kk
              refine w_iload8 r_252_38 ?_
              refine w_aload0 r_252_40 ?_
              refine w_getA (x := 145) r_252_41 (Lk_118 hL) (Lr_118_57 hL) (by decide) ?_
              refine w_iload1 r_252_44 ?_
              refine v_iald r_252_45 (Lk_145 hL) (Lz_145 hL) (by decide) (by omega) gz ?_
              refine v_ic_ge r_252_46 (by first | exact zF_in _ _ _ | exact zA_in _ _ _ | omega) (by first | exact zF_in _ _ _ | exact zA_in _ _ _ | omega) (fun q => absurd q (by omega)) (fun _ => ?_)
              refine w_sipush (v := iI (512)) r_252_49 rfl ?_
              refine w_iload1 r_252_52 ?_
              refine v_imul r_252_53 ?_
              refine w_iconst (v := iI (4)) r_252_54 rfl ?_
              refine w_iload8 r_252_55 ?_
              refine v_imul r_252_57 ?_
              refine v_iadd r_252_58 ?_
              refine w_istore9 r_252_59 rfl ?_
              refine w_aload0 r_252_61 ?_
              refine w_getA (x := 144) r_252_62 (Lk_118 hL) (Lr_118_56 hL) (by decide) ?_
              refine w_iload9 r_252_65 ?_
              refine w_iconst (v := iI (1)) r_252_67 rfl ?_
              refine v_iadd r_252_68 ?_
              refine v_iald r_252_69 (Lk_144 hL) (Lz_144 hL) (by decide) (by omega) ga ?_
              refine w_istore10 r_252_70 rfl ?_
              refine w_aload0 r_252_72 ?_
              refine w_getA (x := 144) r_252_73 (Lk_118 hL) (Lr_118_56 hL) (by decide) ?_
              refine w_iload9 r_252_76 ?_
              refine w_iconst (v := iI (2)) r_252_78 rfl ?_
              refine v_iadd r_252_79 ?_
              refine v_iald r_252_80 (Lk_144 hL) (Lz_144 hL) (by decide) (by omega) gb ?_
              refine w_istore11 r_252_81 rfl ?_
              refine w_iinc8 r_252_83 rfl (iI_add _ _) ?_
              refine w_aload0 r_252_86 ?_
              refine w_getA (x := 144) r_252_87 (Lk_118 hL) (Lr_118_56 hL) (by decide) ?_
              refine w_iload9 r_252_90 ?_
              refine v_iald r_252_92 (Lk_144 hL) (Lz_144 hL) (by decide) (by omega) go ?_
              refine w_iconst (v := iI (2)) r_252_93 rfl ?_
              refine v_ic_ne r_252_94 (by first | exact zF_in _ _ _ | exact zA_in _ _ _ | omega) (by first | exact zF_in _ _ _ | exact zA_in _ _ _ | omega) (fun _ => ?_) (fun q => absurd q (by decide))
              refine w_aload0 r_252_111 ?_
              refine w_getA (x := 144) r_252_112 (Lk_118 hL) (Lr_118_56 hL) (by decide) ?_
              refine w_iload9 r_252_115 ?_
              refine v_iald r_252_117 (Lk_144 hL) (Lz_144 hL) (by decide) (by omega) go ?_
              refine w_iconst (v := iI (1)) r_252_118 rfl ?_
              refine v_ic_ne r_252_119 (by first | exact zF_in _ _ _ | exact zA_in _ _ _ | omega) (by first | exact zF_in _ _ _ | exact zA_in _ _ _ | omega) (fun q => absurd q (by decide)) (fun _ => ?_)
              refine w_iload7 r_252_122 ?_
              refine w_iload10 r_252_124 ?_
              refine k_213 r_252_126 (Nat.le_of_ble_eq_true rfl) ?_
              refine m_digit (by have := b1.1; omega) (by omega) ?_
              refine v_if_ne r_252_129 (by first | exact zF_in _ _ _ | exact zA_in _ _ _ | omega) (fun q => absurd q (by omega)) (fun _ => ?_)
              refine w_iconst (v := iI (5)) r_252_132 rfl ?_
              refine w_iret r_252_133 ?_
              exact kk h1 g hA
            · rw [if_neg x0] at kk
              have cn := (b2 (p.nm k) o4.1.1 o4.1.2).resolve_left x0
              have ci := chc_in hm o4.1 (i := dg q.2.1 (p.nm k) - 1) (by omega)
              have e142' : gI h1 141 (4 * p.nm k + dg f (p.nm k) - 1).toNat = iI (chc M (p.nm k) (dg q.2.1 (p.nm k) - 1)) := by
                rw [← cn, show 4 * p.nm k + dg q.2.1 (p.nm k) - 1 = 4 * p.nm k + (dg q.2.1 (p.nm k) - 1) by omega]; exact e142 hK o4.1 (by omega)
              by_cases x1 : chc M (p.nm k) (dg q.2.1 (p.nm k) - 1) = p.gd k
              · rw [if_pos x1] at kk
                refine w_iload8 r_252_38 ?_
                refine w_aload0 r_252_40 ?_
                refine w_getA (x := 145) r_252_41 (Lk_118 hL) (Lr_118_57 hL) (by decide) ?_
                refine w_iload1 r_252_44 ?_
                refine v_iald r_252_45 (Lk_145 hL) (Lz_145 hL) (by decide) (by omega) gz ?_
                refine v_ic_ge r_252_46 (by first | exact zF_in _ _ _ | exact zA_in _ _ _ | omega) (by first | exact zF_in _ _ _ | exact zA_in _ _ _ | omega) (fun q => absurd q (by omega)) (fun _ => ?_)
                refine w_sipush (v := iI (512)) r_252_49 rfl ?_
                refine w_iload1 r_252_52 ?_
                refine v_imul r_252_53 ?_
                refine w_iconst (v := iI (4)) r_252_54 rfl ?_
                refine w_iload8 r_252_55 ?_
                refine v_imul r_252_57 ?_
                refine v_iadd r_252_58 ?_
                refine w_istore9 r_252_59 rfl ?_
                refine w_aload0 r_252_61 ?_
                refine w_getA (x := 144) r_252_62 (Lk_118 hL) (Lr_118_56 hL) (by decide) ?_
                refine w_iload9 r_252_65 ?_
                refine w_iconst (v := iI (1)) r_252_67 rfl ?_
                refine v_iadd r_252_68 ?_
                refine v_iald r_252_69 (Lk_144 hL) (Lz_144 hL) (by decide) (by omega) ga ?_
                refine w_istore10 r_252_70 rfl ?_
                refine w_aload0 r_252_72 ?_
                refine w_getA (x := 144) r_252_73 (Lk_118 hL) (Lr_118_56 hL) (by decide) ?_
                refine w_iload9 r_252_76 ?_
                refine w_iconst (v := iI (2)) r_252_78 rfl ?_
                refine v_iadd r_252_79 ?_
                refine v_iald r_252_80 (Lk_144 hL) (Lz_144 hL) (by decide) (by omega) gb ?_
                refine w_istore11 r_252_81 rfl ?_
                refine w_iinc8 r_252_83 rfl (iI_add _ _) ?_
                refine w_aload0 r_252_86 ?_
                refine w_getA (x := 144) r_252_87 (Lk_118 hL) (Lr_118_56 hL) (by decide) ?_
                refine w_iload9 r_252_90 ?_
                refine v_iald r_252_92 (Lk_144 hL) (Lz_144 hL) (by decide) (by omega) go ?_
                refine w_iconst (v := iI (2)) r_252_93 rfl ?_
                refine v_ic_ne r_252_94 (by first | exact zF_in _ _ _ | exact zA_in _ _ _ | omega) (by first | exact zF_in _ _ _ | exact zA_in _ _ _ | omega) (fun _ => ?_) (fun q => absurd q (by decide))
                refine w_aload0 r_252_111 ?_
                refine w_getA (x := 144) r_252_112 (Lk_118 hL) (Lr_118_56 hL) (by decide) ?_
                refine w_iload9 r_252_115 ?_
                refine v_iald r_252_117 (Lk_144 hL) (Lz_144 hL) (by decide) (by omega) go ?_
                refine w_iconst (v := iI (1)) r_252_118 rfl ?_
                refine v_ic_ne r_252_119 (by first | exact zF_in _ _ _ | exact zA_in _ _ _ | omega) (by first | exact zF_in _ _ _ | exact zA_in _ _ _ | omega) (fun q => absurd q (by decide)) (fun _ => ?_)
                refine w_iload7 r_252_122 ?_
                refine w_iload10 r_252_124 ?_
                refine k_213 r_252_126 (Nat.le_of_ble_eq_true rfl) ?_
                refine m_digit (by have := b1.1; omega) (by omega) ?_
                refine v_if_ne r_252_129 (by first | exact zF_in _ _ _ | exact zA_in _ _ _ | omega) (fun _ => ?_) (fun q => absurd q (by omega))
                refine w_aload0 r_252_134 ?_
                refine w_getA (x := 141) r_252_135 (Lk_118 hL) (Lr_118_52 hL) (by decide) ?_
                refine w_iconst (v := iI (4)) r_252_138 rfl ?_
                refine w_iload10 r_252_139 ?_
                refine v_imul r_252_141 ?_
                refine w_iload5 r_252_142 ?_
                refine w_iload10 r_252_144 ?_
                refine k_213 r_252_146 (Nat.le_of_ble_eq_true rfl) ?_
                refine m_digit (by omega) (by omega) ?_
                refine v_iadd r_252_149 ?_
                refine w_iconst (v := iI (1)) r_252_150 rfl ?_
                refine v_isub r_252_151 ?_
                refine v_iald r_252_152 (Lk_141 hL) (Lz_141 hL) (by decide) (by omega) (e142') ?_
                refine w_iload11 r_252_153 ?_
                refine v_ic_eq r_252_155 (by first | exact zF_in _ _ _ | exact zA_in _ _ _ | omega) (by first | exact zF_in _ _ _ | exact zA_in _ _ _ | omega) (fun _ => ?_) (fun q => absurd q (by omega))
                refine w_goto r_252_284 ?_
                exact ih _ q h1 _ _ _ _ _ _ (by omega) (by omega) (by omega) hq hA g kk
              · rw [if_neg x1] at kk
                refine w_iload8 r_252_38 ?_
                refine w_aload0 r_252_40 ?_
                refine w_getA (x := 145) r_252_41 (Lk_118 hL) (Lr_118_57 hL) (by decide) ?_
                refine w_iload1 r_252_44 ?_
                refine v_iald r_252_45 (Lk_145 hL) (Lz_145 hL) (by decide) (by omega) gz ?_
                refine v_ic_ge r_252_46 (by first | exact zF_in _ _ _ | exact zA_in _ _ _ | omega) (by first | exact zF_in _ _ _ | exact zA_in _ _ _ | omega) (fun q => absurd q (by omega)) (fun _ => ?_)
                refine w_sipush (v := iI (512)) r_252_49 rfl ?_
                refine w_iload1 r_252_52 ?_
                refine v_imul r_252_53 ?_
                refine w_iconst (v := iI (4)) r_252_54 rfl ?_
                refine w_iload8 r_252_55 ?_
                refine v_imul r_252_57 ?_
                refine v_iadd r_252_58 ?_
                refine w_istore9 r_252_59 rfl ?_
                refine w_aload0 r_252_61 ?_
                refine w_getA (x := 144) r_252_62 (Lk_118 hL) (Lr_118_56 hL) (by decide) ?_
                refine w_iload9 r_252_65 ?_
                refine w_iconst (v := iI (1)) r_252_67 rfl ?_
                refine v_iadd r_252_68 ?_
                refine v_iald r_252_69 (Lk_144 hL) (Lz_144 hL) (by decide) (by omega) ga ?_
                refine w_istore10 r_252_70 rfl ?_
                refine w_aload0 r_252_72 ?_
                refine w_getA (x := 144) r_252_73 (Lk_118 hL) (Lr_118_56 hL) (by decide) ?_
                refine w_iload9 r_252_76 ?_
                refine w_iconst (v := iI (2)) r_252_78 rfl ?_
                refine v_iadd r_252_79 ?_
                refine v_iald r_252_80 (Lk_144 hL) (Lz_144 hL) (by decide) (by omega) gb ?_
                refine w_istore11 r_252_81 rfl ?_
                refine w_iinc8 r_252_83 rfl (iI_add _ _) ?_
                refine w_aload0 r_252_86 ?_
                refine w_getA (x := 144) r_252_87 (Lk_118 hL) (Lr_118_56 hL) (by decide) ?_
                refine w_iload9 r_252_90 ?_
                refine v_iald r_252_92 (Lk_144 hL) (Lz_144 hL) (by decide) (by omega) go ?_
                refine w_iconst (v := iI (2)) r_252_93 rfl ?_
                refine v_ic_ne r_252_94 (by first | exact zF_in _ _ _ | exact zA_in _ _ _ | omega) (by first | exact zF_in _ _ _ | exact zA_in _ _ _ | omega) (fun _ => ?_) (fun q => absurd q (by decide))
                refine w_aload0 r_252_111 ?_
                refine w_getA (x := 144) r_252_112 (Lk_118 hL) (Lr_118_56 hL) (by decide) ?_
                refine w_iload9 r_252_115 ?_
                refine v_iald r_252_117 (Lk_144 hL) (Lz_144 hL) (by decide) (by omega) go ?_
                refine w_iconst (v := iI (1)) r_252_118 rfl ?_
                refine v_ic_ne r_252_119 (by first | exact zF_in _ _ _ | exact zA_in _ _ _ | omega) (by first | exact zF_in _ _ _ | exact zA_in _ _ _ | omega) (fun q => absurd q (by decide)) (fun _ => ?_)
                refine w_iload7 r_252_122 ?_
                refine w_iload10 r_252_124 ?_
                refine k_213 r_252_126 (Nat.le_of_ble_eq_true rfl) ?_
                refine m_digit (by have := b1.1; omega) (by omega) ?_
                refine v_if_ne r_252_129 (by first | exact zF_in _ _ _ | exact zA_in _ _ _ | omega) (fun _ => ?_) (fun q => absurd q (by omega))
                refine w_aload0 r_252_134 ?_
                refine w_getA (x := 141) r_252_135 (Lk_118 hL) (Lr_118_52 hL) (by decide) ?_
                refine w_iconst (v := iI (4)) r_252_138 rfl ?_
                refine w_iload10 r_252_139 ?_
                refine v_imul r_252_141 ?_
                refine w_iload5 r_252_142 ?_
                refine w_iload10 r_252_144 ?_
                refine k_213 r_252_146 (Nat.le_of_ble_eq_true rfl) ?_
                refine m_digit (by omega) (by omega) ?_
                refine v_iadd r_252_149 ?_
                refine w_iconst (v := iI (1)) r_252_150 rfl ?_
                refine v_isub r_252_151 ?_
                refine v_iald r_252_152 (Lk_141 hL) (Lz_141 hL) (by decide) (by omega) (e142') ?_
                refine w_iload11 r_252_153 ?_
                refine v_ic_eq r_252_155 (by first | exact zF_in _ _ _ | exact zA_in _ _ _ | omega) (by first | exact zF_in _ _ _ | exact zA_in _ _ _ | omega) (fun q => absurd q (by omega)) (fun _ => ?_)
                refine w_aload0 r_252_158 ?_
                refine w_getA (x := 144) r_252_159 (Lk_118 hL) (Lr_118_56 hL) (by decide) ?_
                refine w_iload9 r_252_162 ?_
                refine w_iconst (v := iI (3)) r_252_164 rfl ?_
                refine v_iadd r_252_165 ?_
                refine v_iald r_252_166 (Lk_144 hL) (Lz_144 hL) (by decide) (by omega) gc ?_
                refine w_istore8 r_252_167 rfl ?_
                refine w_goto r_252_169 ?_
                refine w_goto r_252_284 ?_
                exact ih _ q h1 _ _ _ _ _ _ (by omega) (by omega) (by omega) hq hA g kk
          · rw [if_neg y4] at kk
            have o3 := ok.2.2.1 (by omega)
            have c3 := cp.1 (by omega)
            rw [c3.1] at go
            rw [c3.2.1] at ga
            rw [c3.2.2] at gb
            refine w_iload8 r_252_38 ?_
            refine w_aload0 r_252_40 ?_
            refine w_getA (x := 145) r_252_41 (Lk_118 hL) (Lr_118_57 hL) (by decide) ?_
            refine w_iload1 r_252_44 ?_
            refine v_iald r_252_45 (Lk_145 hL) (Lz_145 hL) (by decide) (by omega) gz ?_
            refine v_ic_ge r_252_46 (by first | exact zF_in _ _ _ | exact zA_in _ _ _ | omega) (by first | exact zF_in _ _ _ | exact zA_in _ _ _ | omega) (fun q => absurd q (by omega)) (fun _ => ?_)
            refine w_sipush (v := iI (512)) r_252_49 rfl ?_
            refine w_iload1 r_252_52 ?_
            refine v_imul r_252_53 ?_
            refine w_iconst (v := iI (4)) r_252_54 rfl ?_
            refine w_iload8 r_252_55 ?_
            refine v_imul r_252_57 ?_
            refine v_iadd r_252_58 ?_
            refine w_istore9 r_252_59 rfl ?_
            refine w_aload0 r_252_61 ?_
            refine w_getA (x := 144) r_252_62 (Lk_118 hL) (Lr_118_56 hL) (by decide) ?_
            refine w_iload9 r_252_65 ?_
            refine w_iconst (v := iI (1)) r_252_67 rfl ?_
            refine v_iadd r_252_68 ?_
            refine v_iald r_252_69 (Lk_144 hL) (Lz_144 hL) (by decide) (by omega) ga ?_
            refine w_istore10 r_252_70 rfl ?_
            refine w_aload0 r_252_72 ?_
            refine w_getA (x := 144) r_252_73 (Lk_118 hL) (Lr_118_56 hL) (by decide) ?_
            refine w_iload9 r_252_76 ?_
            refine w_iconst (v := iI (2)) r_252_78 rfl ?_
            refine v_iadd r_252_79 ?_
            refine v_iald r_252_80 (Lk_144 hL) (Lz_144 hL) (by decide) (by omega) gb ?_
            refine w_istore11 r_252_81 rfl ?_
            refine w_iinc8 r_252_83 rfl (iI_add _ _) ?_
            refine w_aload0 r_252_86 ?_
            refine w_getA (x := 144) r_252_87 (Lk_118 hL) (Lr_118_56 hL) (by decide) ?_
            refine w_iload9 r_252_90 ?_
            refine v_iald r_252_92 (Lk_144 hL) (Lz_144 hL) (by decide) (by omega) go ?_
            refine w_iconst (v := iI (2)) r_252_93 rfl ?_
            refine v_ic_ne r_252_94 (by first | exact zF_in _ _ _ | exact zA_in _ _ _ | omega) (by first | exact zF_in _ _ _ | exact zA_in _ _ _ | omega) (fun _ => ?_) (fun q => absurd q (by decide))
            refine w_aload0 r_252_111 ?_
            refine w_getA (x := 144) r_252_112 (Lk_118 hL) (Lr_118_56 hL) (by decide) ?_
            refine w_iload9 r_252_115 ?_
            refine v_iald r_252_117 (Lk_144 hL) (Lz_144 hL) (by decide) (by omega) go ?_
            refine w_iconst (v := iI (1)) r_252_118 rfl ?_
            refine v_ic_ne r_252_119 (by first | exact zF_in _ _ _ | exact zA_in _ _ _ | omega) (by first | exact zF_in _ _ _ | exact zA_in _ _ _ | omega) (fun _ => ?_) (fun q => absurd q (by decide))
            refine w_iconst (v := iI (0)) r_252_172 rfl ?_
            refine w_istore12 r_252_173 rfl ?_
            refine mv (p.kd k) (k + 1) (by omega) (p.nm k).toNat 0 (p.nm k) (by decide) (by omega) (by omega) h1 q _ _ _ hq hA g (fun h2 Y9 Y12 Y13 Y14 g2 on2 A2 => ⟨fun x0 => ?_, fun x0 => ?_⟩)
            · rw [if_pos x0] at kk
              refine w_goto r_252_284 ?_
              exact ih _ _ h2 _ _ _ _ _ _ (by omega) (by omega) (by omega) on2 A2 g2 kk
            · rw [if_neg x0] at kk
              exact kk h2 g2 A2
  have F2 : Fr PAc h (sI (sI h 118 66 (iI 0)) 118 67 (iI 0)) := ((Fr.refl _ _).sI 118 66 _ (by decide)).sI 118 67 _ (by decide)
  have k0 := key 81 0 (q1 M f c) _ .null .null .null .null .null .null (by omega) (by decide) hk.1.1 on1 ⟨rfl, rfl⟩ F2 kk
  refine w_aload0 r_252_0 ?_
  refine w_iload4 r_252_1 ?_
  refine k_237 r_252_3 (Lk_118 hL) (Nat.le_of_ble_eq_true rfl) ?_
  refine m_all hL hP hm hK ht ?_
  rw [hF] 
  refine w_istore5 r_252_6 rfl ?_
  refine w_iload2 r_252_8 ?_
  refine w_istore6 r_252_9 rfl ?_
  refine w_aload0 r_252_11 ?_
  refine w_aload0 r_252_12 ?_
  refine k_215 r_252_13 (Lk_118 hL) (Nat.le_of_ble_eq_true rfl) ?_
  refine m_base hL hP hm hK ?_
  refine w_iload6 r_252_16 ?_
  refine w_iload5 r_252_18 ?_
  refine k_239 r_252_20 (Lk_118 hL) (Nat.le_of_ble_eq_true rfl) ?_
  refine m_sees hL hP hm hs cf.1 hc ?_
  refine w_istore7 r_252_23 rfl ?_
  refine w_aload0 r_252_25 ?_
  refine w_iconst (v := iI (0)) r_252_26 rfl ?_
  refine w_putI r_252_27 (Lk_118 hL) (Ln_118 hL) ?_
  refine w_aload0 r_252_30 ?_
  refine w_iconst (v := iI (0)) r_252_31 rfl ?_
  refine w_putI r_252_32 (Lk_118 hL) (Ln_118 hL) ?_
  refine w_iconst (v := iI (0)) r_252_35 rfl ?_
  refine w_istore8 r_252_36 rfl ?_
  exact k0
end AC
