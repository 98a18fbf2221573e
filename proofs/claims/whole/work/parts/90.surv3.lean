/-! digging: the class's first survey -/
section S4
variable {d : Nat} {h : XH} {KU : XH → Prop} {B : XB} {rb : Nat} {V : Int → Int}
abbrev pV : Nat → Nat → Bool := pO (pA [110]) (pF [(107, 4), (107, 5)])
abbrev qV : Nat → Nat → Bool := pF [(107, 6), (107, 7), (107, 8), (107, 9), (107, 11)]
theorem c_survey3 (hL : Lay h) (hU : Unt h) (hb : rb = 6 ∨ rb = 20) (hr : gR h 107 0 = rb) (hC : CBk h rb B) (ho : B.ok) (h11 : gR h 107 11 = 115) (hV : DSl B 1024 V) (h4 : zF h 107 4 = 0) (hN : gN h < 899000 ∧ 155 ≤ gN h) (kk : ∀ h', Ch pV qV h h' → gN h' = gN h + 5 → gU h' = gU h + 9331 → zF h' 107 4 = 1 → Lay h' → SvD B V h' (gN h) → KU h') : XW (d + 4) 32 0 [.ref 107, .null] [] h (KV KU) := by
  have g4 : gI h 107 4 = iI 0 := by rw [gI_F, h4]
  have F1 : Fr (pF [(107, 4)]) h (sI h 107 4 (iI 1)) := (Fr.refl _ _).sI _ _ _ (by simp [pF])
  have L1 := F1.lay hL
  have C1 := hC.fr F1 hb (fun a j p q => by simp [pF]; omega)
  have r1 := (F1.R 107 0).trans hr
  have U1 := hU.fr F1 (fun j => by simp [pF])
  have z1 : zF (sI h 107 4 (iI 1)) 107 4 = 1 := by rw [zF_s (by decide)]
  have go : XW (d + 4) 32 21 [.ref 107, .null] [] (sI h 107 4 (iI 1)) (KV KU) := by
    generalize sI h 107 4 (iI 1) = g0 at *
    refine c_rows L1 (by rw [F1.N]; exact hN.1) (fun g1 g2 g3 g4 g5 m1 m2 m3 m4 m5 => ?_)
    obtain ⟨D, n5, u5, C5⟩ := mkD (by rw [F1.N]; exact hN.2) m1 m2 m3 m4 m5
    have eN := F1.N
    have eU := F1.U
    rw [eN] at D n5
    rw [eU] at u5
    have CB5' := C1.fr C5.fr hb (fun a j p q => by simp [q0]; omega)
    have CB5 : CBk g5 rb B := CB5'
    have hr5 : gR g5 107 0 = rb := (C5.2.1 107 0 (Or.inl (by omega)) (by decide)).trans r1
    have hU5 : Unt g5 := fun x a b => by rw [(C5.1 1000001 _ (Or.inr (by omega)) rfl).1]; exact U1 x a b
    have c15 : Ch pV qV h g5 := (F1.ch.mono (fun a j q => by simp [pO, pA, pF] at q ⊢; omega) (fun _ _ _ => rfl)).trans (C5.mono (fun _ _ _ => rfl) (fun _ _ q => q))
    have z5 : zF g5 107 4 = 1 := by unfold zF at z1 ⊢; rw [(C5.1 107 4 (Or.inl (by omega)) rfl).1]; exact z1
    refine c_surveyOn m5.1 hU5 hb hr5 CB5 ho D hV (fun h' f c a l => kk h' ⟨fun x j w q => ?_, fun x j w q => (f.R x j).trans (c15.2.1 x j w q), fun x w => ⟨(f.K x).trans (c15.2.2.1 x w).1, (f.Z x).trans (c15.2.2.1 x w).2⟩, by rw [f.N]; exact c15.2.2.2⟩ (by rw [f.N]; exact n5) (by rw [f.U]; exact u5) (by rw [f.F (by simp [pO, pA, pF]; omega)]; exact z5) (f.lay m5.1) ⟨D.fr f, c, a, l⟩)
    have e1 := c15.1 x j w q
    have e2 := f.2 x j (by simp [pO, pA, pF] at q ⊢; omega)
    exact ⟨e2.1.trans e1.1, e2.2.trans e1.2⟩
  refine w_aload0 r_32_0 ?_
  refine v_getI r_32_1 (Lk_107 hL) g4 ?_
  refine v_if_eq r_32_4 (by first | exact zF_in _ _ _ | exact zA_in _ _ _ | omega) (fun _ => ?_) (fun q => absurd q (by decide))
  refine w_aload0 r_32_8 ?_
  refine w_iconst (v := iI (1)) r_32_9 rfl ?_
  refine w_putZ r_32_10 (Lk_107 hL) (Ln_107 hL) (by decide) ?_
  refine w_aload0 r_32_13 ?_
  refine w_getA (x := 115) r_32_14 (Lk_107 hL) h11 (by decide) ?_
  have hL := L1
  refine v_len r_32_17 (by rw [(Lk_115 hL)]; decide) (Lz_115 hL) ?_
  refine v_if_ne r_32_18 (by first | exact zF_in _ _ _ | exact zA_in _ _ _ | omega) (fun q => absurd q (by decide)) (fun _ => ?_)
  exact go
end S4
