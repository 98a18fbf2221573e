/-! digging: the class's survey in all cases, costOut, plot, moveAt -/
/-- the diggings between calls; a0: where the survey's rows lie, 0 if they aren't made -/
def CDg (h : XH) (B : XB) (a0 : Nat) : Prop := (a0 = 0 ∧ zF h 107 4 = 0 ∧ gR h 107 11 = 115) ∨ (DA h a0 ∧ (zF h 107 4 = 0 ∨ (zF h 107 4 = 1 ∧ SvD B (cV B) h a0)))
/-- what was made by a survey -/
def Gw (h h' : XH) (a0 a1 : Nat) : Prop := (a1 = a0 ∧ gN h' = gN h ∧ gU h' = gU h) ∨ (a0 = 0 ∧ a1 = gN h ∧ gN h' = gN h + 5 ∧ gU h' = gU h + 9331)
/-- a path that was plotted -/
def Pth (h : XH) (B : XB) (a0 : Nat) (s : Int) : Prop := zF h 107 12 = (if dS B s < 1000000000000000 then dS B s % 10000 else 0) ∧ ∀ i : Nat, (i : Int) < zF h 107 12 → zA h (a0 + 4) i = bst B (dpo B s i)
abbrev PDc (a : Nat) : Nat → Nat → Bool := pO (pA [110, a, a + 1, a + 2, a + 3]) (pF [(107, 4), (107, 5)])
abbrev PPl (a : Nat) : Nat → Nat → Bool := pO (pA [109, 110, a, a + 1, a + 2, a + 3, a + 4]) (pF [(107, 4), (107, 5), (107, 10), (107, 12)])
section CP
variable {d : Nat} {h : XH} {K : Int32 → XH → Prop} {KU : XH → Prop} {B : XB} {rb a0 : Nat}
theorem c_survey (hL : Lay h) (hU : Unt h) (hb : rb = 6 ∨ rb = 20) (hr : gR h 107 0 = rb) (hC : CBk h rb B) (ho : B.ok) (hG : CDg h B a0) (hN : gN h < 899000) (kk : ∀ h' a1, Ch (PDc a1) qV h h' → Lay h' → zF h' 107 4 = 1 → SvD B (cV B) h' a1 → Gw h h' a0 a1 → KU h') : XW (d + 5) 32 0 [.ref 107, .null] [] h (KV KU) := by
  rcases hG with ⟨z, h4, h11⟩ | ⟨hD, h4 | ⟨h4, hS⟩⟩
  · exact c_survey3 (d := d + 1) hL hU hb hr hC ho h11 (cV_sol ho) h4 ⟨hN, hL.2.2.1⟩ (fun h' c n u z4 l s => kk h' (gN h) (c.mono (fun a j q => by simp [pO, pA, pF] at q ⊢; omega) (fun _ _ q => q)) l z4 s (Or.inr ⟨z, rfl, n, u⟩))
  · exact c_survey2 (d := d + 1) hL hU hb hr hC ho hD (cV_sol ho) h4 (fun h' f z4 s => kk h' a0 (f.ch.mono (fun a j q => by simp [pO, pA, pF] at q ⊢; omega) (fun _ _ _ => rfl)) (f.lay hL) z4 s (Or.inl ⟨rfl, f.N, f.U⟩))
  · exact c_survey1 hL h4 (kk h a0 (Ch.refl _ _ _) hL h4 hS (Or.inl ⟨rfl, rfl, rfl⟩))
theorem SvD.at {s : Int} {V : Int → Int} (hS : SvD B V h a0) (ho : B.ok) (a : 0 ≤ s) (b : s < 5 ^ B.w.toNat) : zA h a0 (cds B s) = nmb B (cds B s) ∧ zA h (a0 + 3) (nmb B (cds B s)) = tgt V s := ⟨(hS.2.1.1 (cds B s) (cds_in ho).1 (cds_in ho).2 (vld_cds ho)).1, hS.2.2.2 s a b⟩
theorem Ch.unt {P Q : Nat → Nat → Bool} {h' : XH} (c : Ch P Q h h') (hU : Unt h) (hp : ∀ j, P 1000001 j = false) : Unt h' := fun x a b => by rw [(c.1 1000001 _ (Or.inr (by omega)) (hp _)).1]; exact hU x a b
theorem c_costOut (hL : Lay h) (hU : Unt h) (hb : rb = 6 ∨ rb = 20) (hr : gR h 107 0 = rb) (hC : CBk h rb B) (ho : B.ok) (hG : CDg h B a0) (hN : gN h < 899000) (hv : ∀ k : Int, 0 ≤ k → k < B.w → 0 ≤ zA h 108 k ∧ zA h 108 k ≤ 4) (kk : ∀ h' a1, Ch (PDc a1) qV h h' → Lay h' → zF h' 107 4 = 1 → SvD B (cV B) h' a1 → Gw h h' a0 a1 → K (iI (if dS B (s5 (zA h 108) B.w.toNat) < 1000000000000000 then dS B (s5 (zA h 108) B.w.toNat) / 10000 else -1)) h') : XW (d + 6) 26 0 [.ref 107, .null] [] h (KI K) := by
  have o := ho.1
  have h156 := hL.2.2.1
  refine w_aload0 r_26_0 ?_
  refine k_32 r_26_1 (Lk_107 hL) (Nat.le_of_ble_eq_true rfl) ?_
  refine c_survey hL hU hb hr hC ho hG hN (fun h2 a1 c2 L2 z4 S2 g2 => ?_)
  have hL := L2
  have hD := S2.1
  have a156 := hD.2.2.2.1
  have U2 : Unt h2 := c2.unt hU (fun j => by simp [pO, pA, pF]; have := hD.2.2.2.2; have := L2.2.2.2.1; omega)
  have r2 : gR h2 107 0 = rb := (c2.2.1 107 0 (Or.inl (by omega)) (by decide)).trans hr
  have C2' := hC.fr c2.fr hb (fun a j p q => by simp [pO, pA, pF]; omega)
  have C2 : CBk h2 rb B := C2'
  have e109 : zA h2 108 = zA h 108 := by
    funext k
    unfold zA
    rw [(c2.1 108 _ (Or.inl (by omega)) (by simp [pO, pA, pF]; omega)).1]
  have hs := s5_ok ho hv
  have hcd := cds_s5 hv
  have at2 := S2.at ho hs.1 hs.2
  have ci := cds_in (B := B) (s := s5 (zA h 108) B.w.toNat) ho
  have nj := nmb_in (x := cds B (s5 (zA h 108) B.w.toNat)) ho ci
  have nj2 := nj.2.2 (vld_cds ho)
  have ts := tgt_in (cV_sol ho) ho hs.1 hs.2
  have tc := tgt_cV ho hs.1 hs.2
  have K2 := kk h2 a1 c2 L2 z4 S2 g2
  generalize s5 (zA h 108) B.w.toNat = s at hs hcd at2 ci nj nj2 ts tc K2
  have v20 : gI h2 a1 (cds B s).toNat = iI (nmb B (cds B s)) := by rw [gI_A, at2.1]
  have v21 : gI h2 (a1 + 3) (nmb B (cds B s)).toNat = iI (tgt (cV B) s) := by rw [gI_A, at2.2]
  have hv2 : ∀ k : Int, 0 ≤ k → k < B.w → 0 ≤ zA h2 108 k ∧ zA h2 108 k ≤ 4 := by rw [e109]; exact hv
  by_cases f : dS B s < 1000000000000000
  · have sm := dS_small ho hs.1 hs.2 f
    have i := dS_in (B := B) hs.1 hs.2
    rw [if_pos f] at tc K2
    refine w_aload0 r_26_4 ?_
    refine w_getA (x := a1 + 3) r_26_5 (Lk_107 hL) hD.1.2.2.2.1 (by omega) ?_
    refine w_aload0 r_26_8 ?_
    refine w_getA (x := a1) r_26_9 (Lk_107 hL) hD.1.1 hD.z0 ?_
    refine w_aload0 r_26_12 ?_
    refine w_aload0 r_26_13 ?_
    refine w_getA (x := 108) r_26_14 (Lk_107 hL) (Lr_107_1 hL) (by decide) ?_
    refine k_28 r_26_17 (Lk_107 hL) (Nat.le_of_ble_eq_true rfl) ?_
    refine c_codeOf hL U2 hb r2 C2 ho (Or.inl rfl) hv2 ?_
    rw [e109, ← hcd]
    refine v_iald r_26_20 hD.2.1.1 hD.2.2.1.1 (by decide) (by omega) v20 ?_
    refine v_iald r_26_21 hD.2.1.2.2.2.1 hD.2.2.1.2.2.2.1 (by decide) (by omega) v21 ?_
    refine w_istore1 r_26_22 rfl ?_
    refine w_iload1 r_26_23 ?_
    refine w_ldcI (v := iI 536870912) r_26_24 rfl ?_
    refine v_ic_lt r_26_26 (by first | exact zF_in _ _ _ | exact zA_in _ _ _ | omega) (by first | exact zF_in _ _ _ | exact zA_in _ _ _ | omega) (fun _ => ?_) (fun q => absurd q (by omega))
    refine w_iload1 r_26_33 ?_
    refine w_sipush (v := iI (1024)) r_26_34 rfl ?_
    refine v_idiv r_26_37 (by first | exact zF_in _ _ _ | exact zA_in _ _ _ | omega) (by omega) ?_
    refine w_iret r_26_38 ?_
    rw [Int.tdiv_eq_ediv_of_nonneg (by omega), show tgt (cV B) s / 1024 = dS B s / 10000 by omega]
    exact K2
  · rw [if_neg f] at tc K2
    refine w_aload0 r_26_4 ?_
    refine w_getA (x := a1 + 3) r_26_5 (Lk_107 hL) hD.1.2.2.2.1 (by omega) ?_
    refine w_aload0 r_26_8 ?_
    refine w_getA (x := a1) r_26_9 (Lk_107 hL) hD.1.1 hD.z0 ?_
    refine w_aload0 r_26_12 ?_
    refine w_aload0 r_26_13 ?_
    refine w_getA (x := 108) r_26_14 (Lk_107 hL) (Lr_107_1 hL) (by decide) ?_
    refine k_28 r_26_17 (Lk_107 hL) (Nat.le_of_ble_eq_true rfl) ?_
    refine c_codeOf hL U2 hb r2 C2 ho (Or.inl rfl) hv2 ?_
    rw [e109, ← hcd]
    refine v_iald r_26_20 hD.2.1.1 hD.2.2.1.1 (by decide) (by omega) v20 ?_
    refine v_iald r_26_21 hD.2.1.2.2.2.1 hD.2.2.1.2.2.2.1 (by decide) (by omega) v21 ?_
    refine w_istore1 r_26_22 rfl ?_
    refine w_iload1 r_26_23 ?_
    refine w_ldcI (v := iI 536870912) r_26_24 rfl ?_
    refine v_ic_lt r_26_26 (by first | exact zF_in _ _ _ | exact zA_in _ _ _ | omega) (by first | exact zF_in _ _ _ | exact zA_in _ _ _ | omega) (fun q => absurd q (by omega)) (fun _ => ?_)
    refine w_iconst (v := iI (-1)) r_26_29 rfl ?_
    refine w_goto r_26_30 ?_
    refine w_iret r_26_38 ?_
    exact K2
end CP
