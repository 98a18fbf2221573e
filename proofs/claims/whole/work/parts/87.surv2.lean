/-! digging: the class's survey, again -/
section S2
variable {d : Nat} {h : XH} {K : Int32 → XH → Prop} {KU : XH → Prop} {B : XB} {rb a0 : Nat} {V : Int → Int}
/-- a survey stands -/
def SvD (B : XB) (V : Int → Int) (h : XH) (a0 : Nat) : Prop := DA h a0 ∧ CLc h a0 B 2401 ∧ CAf h a0 B ∧ CLf B V h a0
theorem c_survey1 (hL : Lay h) (h4 : zF h 107 4 = 1) (kk : KU h) : XW (d + 5) 32 0 [.ref 107, .null] [] h (KV KU) := by
  have g4 : gI h 107 4 = iI 1 := by rw [gI_F, h4]
  refine w_aload0 r_32_0 ?_
  refine v_getI r_32_1 (Lk_107 hL) g4 ?_
  refine v_if_eq r_32_4 (by first | exact zF_in _ _ _ | exact zA_in _ _ _ | omega) (fun q => absurd q (by decide)) (fun _ => ?_)
  refine w_vret r_32_7 ?_
  exact kk
theorem c_survey2 (hL : Lay h) (hU : Unt h) (hb : rb = 6 ∨ rb = 20) (hr : gR h 107 0 = rb) (hC : CBk h rb B) (ho : B.ok) (hD : DA h a0) (hV : DSl B 1024 V) (h4 : zF h 107 4 = 0) (kk : ∀ h', Fr (pO (pS a0) (pF [(107, 4)])) h h' → zF h' 107 4 = 1 → SvD B V h' a0 → KU h') : XW (d + 4) 32 0 [.ref 107, .null] [] h (KV KU) := by
  have a156 := hD.2.2.2.1
  have g4 : gI h 107 4 = iI 0 := by rw [gI_F, h4]
  have F1 : Fr (pF [(107, 4)]) h (sI h 107 4 (iI 1)) := (Fr.refl _ _).sI _ _ _ (by simp [pF])
  have L1 := F1.lay hL
  have D1 := hD.fr F1
  have C1 := hC.fr F1 hb (fun a j p q => by simp [pF]; omega)
  have r1 := (F1.R 107 0).trans hr
  have U1 := hU.fr F1 (fun j => by simp [pF])
  have z1 : zF (sI h 107 4 (iI 1)) 107 4 = 1 := by rw [zF_s (by decide)]
  have go : ∀ g : XH, g = sI h 107 4 (iI 1) → XW (d + 4) 32 66 [.ref 107, .null] [] g (KV KU) := by
    intro g eg
    subst eg
    exact c_surveyOn L1 U1 hb r1 C1 ho D1 hV (fun h' f c a l => kk h' ((F1.mono (fun a j q => by simp [pO, pA, pF] at q ⊢; omega)).trans (f.mono (fun a j q => by simp [pO, pA, pF] at q ⊢; omega))) (by rw [f.F (by simp [pO, pA, pF]; omega)]; exact z1) ⟨D1.fr f, c, a, l⟩)
  refine w_aload0 r_32_0 ?_
  refine v_getI r_32_1 (Lk_107 hL) g4 ?_
  refine v_if_eq r_32_4 (by first | exact zF_in _ _ _ | exact zA_in _ _ _ | omega) (fun _ => ?_) (fun q => absurd q (by decide))
  refine w_aload0 r_32_8 ?_
  refine w_iconst (v := iI (1)) r_32_9 rfl ?_
  refine w_putZ r_32_10 (Lk_107 hL) (Ln_107 hL) (by decide) ?_
  refine w_aload0 r_32_13 ?_
  refine w_getA (x := a0 + 4) r_32_14 (Lk_107 hL) hD.1.2.2.2.2 (by omega) ?_
  have hD := D1
  refine v_len r_32_17 (by rw [hD.2.1.2.2.2.2]; decide) hD.2.2.1.2.2.2.2 ?_
  refine v_if_ne r_32_18 (by first | exact zF_in _ _ _ | exact zA_in _ _ _ | omega) (fun _ => ?_) (fun q => absurd q (by decide))
  exact go _ rfl
end S2
