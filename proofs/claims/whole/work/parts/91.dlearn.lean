/-! digging: the class's learn -/
section DL
variable {d : Nat} {h : XH} {KU : XH → Prop} {rb : Nat}
theorem xRT_d0 : ∀ q ∈ xRT, pF [(107, 0)] q.1 q.2.1 = false := by decide +kernel
theorem c_digLearn (hL : Lay h) (hb : rb = 6 ∨ rb = 20) (kk : ∀ h', Ch (pO (pA [108]) (pF [(107, 4), (107, 10)])) (pF [(107, 0)]) h h' → gN h' = gN h → gU h' = gU h → Lay h' → gR h' 107 0 = rb → (∀ k : Int, 0 ≤ k → k < 6 → zA h' 108 k = 0) → zF h' 107 4 = 0 → zF h' 107 10 = 0 → KU h') : XW (d + 1) 20 0 [.ref 107, .ref rb] [] h (KV KU) := by
  have C1 := Ch.sR h 107 0 rb
  have L1 : Lay (sR h 107 0 rb) := C1.lay hL xRT_d0 (fun j => by simp [pF]; omega) xRT_lt hL.2.2.2.1
  have R1 : gR (sR h 107 0 rb) 107 0 = rb := by rw [sR_here, if_pos rfl]
  have N1 : gN (sR h 107 0 rb) = gN h := rfl
  have U1 : gU (sR h 107 0 rb) = gU h := rfl
  have go : XW (d + 1) 20 5 [.ref 107, .ref rb] [] (sR h 107 0 rb) (KV KU) := by
    generalize sR h 107 0 rb = g at *
    have hL := L1
    refine w_aload0 r_20_5 ?_
    refine w_getA (x := 108) r_20_6 (Lk_107 hL) (Lr_107_1 hL) (by decide) ?_
    refine w_iconst (v := iI (0)) r_20_9 rfl ?_
    refine k_281 r_20_10 (Nat.le_of_ble_eq_true rfl) ?_
    refine c_fill (n := 6) (Lk_108 L1) (Lz_108 L1) (by decide) (hL.n (by decide)) (fun h2 f2 e2 => ?_)
    have hL := f2.lay hL
    refine w_aload0 r_20_13 ?_
    refine w_iconst (v := iI (0)) r_20_14 rfl ?_
    refine w_putZ r_20_15 (Lk_107 hL) (Ln_107 hL) (by decide) ?_
    refine w_aload0 r_20_18 ?_
    refine w_iconst (v := iI (0)) r_20_19 rfl ?_
    refine w_putZ r_20_20 (Lk_107 hL) (Ln_107 hL) (by decide) ?_
    refine w_vret r_20_23 ?_
    have F3 : Fr (pO (pA [108]) (pF [(107, 4), (107, 10)])) g (sI (sI h2 107 4 (iI 0)) 107 10 (iI 0)) := ((f2.mono (fun a j q => by simp [pO, pA, pF] at q ⊢; omega)).sI _ _ _ (by simp [pO, pF])).sI _ _ _ (by simp [pO, pF])
    refine kk _ ((C1.mono (fun _ _ _ => rfl) (fun _ _ q => q)).trans (F3.ch.mono (fun _ _ q => q) (fun _ _ _ => rfl))) (by rw [F3.N]; exact N1) (by rw [F3.U]; exact U1) (F3.lay L1) ((F3.R 107 0).trans R1) (fun k a b => ?_) ?_ ?_
    · rw [zA_o _ (by decide), zA_o _ (by decide)]
      exact zA_of (by rw [e2, if_pos (by omega)]) (by decide)
    · rw [zF_o (by decide), zF_s (by decide)]
    · rw [zF_s (by decide)]
  refine w_aload0 r_20_0 ?_
  refine w_aload1 r_20_1 ?_
  refine w_putA r_20_2 (Lk_107 hL) (Ln_107 hL) (by omega) ?_
  exact go
end DL
