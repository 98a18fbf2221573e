/-! digging: the class's first survey: rows 21..66 -/
section S3
variable {d : Nat} {g0 : XH} {KU : XH → Prop}
theorem c_rows {X1 : Value} (L0 : Lay g0) (hN : gN g0 < 899000) (kk : ∀ g1 g2 g3 g4 g5, Mk g0 g1 6 2401 → Mk g1 g2 7 210 → Mk g2 g3 8 6300 → Mk g3 g4 9 210 → Mk g4 g5 11 210 → XW d 32 66 [.ref 107, X1] [] g5 (KV KU)) : XW d 32 21 [.ref 107, X1] [] g0 (KV KU) := by
  refine w_aload0 r_32_21 ?_
  refine w_sipush (v := iI (2401)) r_32_22 rfl ?_
  refine w_newa r_32_25 ⟨by decide, by rw [iI_nat (by decide) (by decide)]; decide⟩ (by omega) ?_
  refine w_putA r_32_27 (by show gK (xnew g0 _ _) 107 = 13; rw [xnew_K, if_neg (by have := Ln_107 L0; omega)]; exact Lk_107 L0) (by have := Ln_107 L0; show 107 < gN g0 + 1; omega) (by have := Ln_107 L0; omega) ?_
  rw [iI_nat (by decide) (by decide)]
  have M1 : Mk g0 (sR (xnew g0 1 2401) 107 6 (gN g0)) 6 2401 := mkA L0 6 2401 (fun q hq => (xRT_d q hq).1) (by omega)
  change XW d 32 30 [.ref 107, X1] [] (sR (xnew g0 1 2401) 107 6 (gN g0)) (KV KU)
  generalize sR (xnew g0 1 2401) 107 6 (gN g0) = g1 at M1 ⊢
  have L1 := M1.1
  have N1 := M1.2.1
  refine w_aload0 r_32_30 ?_
  refine w_sipush (v := iI (210)) r_32_31 rfl ?_
  refine w_newa r_32_34 ⟨by decide, by rw [iI_nat (by decide) (by decide)]; decide⟩ (by omega) ?_
  refine w_putA r_32_36 (by show gK (xnew g1 _ _) 107 = 13; rw [xnew_K, if_neg (by have := Ln_107 L1; omega)]; exact Lk_107 L1) (by have := Ln_107 L1; show 107 < gN g1 + 1; omega) (by have := Ln_107 L1; omega) ?_
  rw [iI_nat (by decide) (by decide)]
  have M2 : Mk g1 (sR (xnew g1 1 210) 107 7 (gN g1)) 7 210 := mkA L1 7 210 (fun q hq => (xRT_d q hq).2.1) (by omega)
  change XW d 32 39 [.ref 107, X1] [] (sR (xnew g1 1 210) 107 7 (gN g1)) (KV KU)
  generalize sR (xnew g1 1 210) 107 7 (gN g1) = g2 at M2 ⊢
  have L2 := M2.1
  have N2 := M2.2.1
  refine w_aload0 r_32_39 ?_
  refine w_sipush (v := iI (6300)) r_32_40 rfl ?_
  refine w_newa r_32_43 ⟨by decide, by rw [iI_nat (by decide) (by decide)]; decide⟩ (by omega) ?_
  refine w_putA r_32_45 (by show gK (xnew g2 _ _) 107 = 13; rw [xnew_K, if_neg (by have := Ln_107 L2; omega)]; exact Lk_107 L2) (by have := Ln_107 L2; show 107 < gN g2 + 1; omega) (by have := Ln_107 L2; omega) ?_
  rw [iI_nat (by decide) (by decide)]
  have M3 : Mk g2 (sR (xnew g2 1 6300) 107 8 (gN g2)) 8 6300 := mkA L2 8 6300 (fun q hq => (xRT_d q hq).2.2.1) (by omega)
  change XW d 32 48 [.ref 107, X1] [] (sR (xnew g2 1 6300) 107 8 (gN g2)) (KV KU)
  generalize sR (xnew g2 1 6300) 107 8 (gN g2) = g3 at M3 ⊢
  have L3 := M3.1
  have N3 := M3.2.1
  refine w_aload0 r_32_48 ?_
  refine w_sipush (v := iI (210)) r_32_49 rfl ?_
  refine w_newa r_32_52 ⟨by decide, by rw [iI_nat (by decide) (by decide)]; decide⟩ (by omega) ?_
  refine w_putA r_32_54 (by show gK (xnew g3 _ _) 107 = 13; rw [xnew_K, if_neg (by have := Ln_107 L3; omega)]; exact Lk_107 L3) (by have := Ln_107 L3; show 107 < gN g3 + 1; omega) (by have := Ln_107 L3; omega) ?_
  rw [iI_nat (by decide) (by decide)]
  have M4 : Mk g3 (sR (xnew g3 1 210) 107 9 (gN g3)) 9 210 := mkA L3 9 210 (fun q hq => (xRT_d q hq).2.2.2.1) (by omega)
  change XW d 32 57 [.ref 107, X1] [] (sR (xnew g3 1 210) 107 9 (gN g3)) (KV KU)
  generalize sR (xnew g3 1 210) 107 9 (gN g3) = g4 at M4 ⊢
  have L4 := M4.1
  have N4 := M4.2.1
  refine w_aload0 r_32_57 ?_
  refine w_sipush (v := iI (210)) r_32_58 rfl ?_
  refine w_newa r_32_61 ⟨by decide, by rw [iI_nat (by decide) (by decide)]; decide⟩ (by omega) ?_
  refine w_putA r_32_63 (by show gK (xnew g4 _ _) 107 = 13; rw [xnew_K, if_neg (by have := Ln_107 L4; omega)]; exact Lk_107 L4) (by have := Ln_107 L4; show 107 < gN g4 + 1; omega) (by have := Ln_107 L4; omega) ?_
  rw [iI_nat (by decide) (by decide)]
  have M5 : Mk g4 (sR (xnew g4 1 210) 107 11 (gN g4)) 11 210 := mkA L4 11 210 (fun q hq => (xRT_d q hq).2.2.2.2) (by omega)
  change XW d 32 66 [.ref 107, X1] [] (sR (xnew g4 1 210) 107 11 (gN g4)) (KV KU)
  generalize sR (xnew g4 1 210) 107 11 (gN g4) = g5 at M5 ⊢
  have L5 := M5.1
  have N5 := M5.2.1
  exact kk _ _ _ _ _ M1 M2 M3 M4 M5
end S3
