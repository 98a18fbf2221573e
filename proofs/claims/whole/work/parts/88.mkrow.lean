/-! digging: a row is made -/
section MK
variable {h : XH}
theorem xRT_d : ∀ q ∈ xRT, pF [(107, 6)] q.1 q.2.1 = false ∧ pF [(107, 7)] q.1 q.2.1 = false ∧ pF [(107, 8)] q.1 q.2.1 = false ∧ pF [(107, 9)] q.1 q.2.1 = false ∧ pF [(107, 11)] q.1 q.2.1 = false := by decide +kernel
/-- a row of n ints is made, and kept in a field of the Digs -/
def Mk (h g : XH) (j n : Nat) : Prop := Lay g ∧ gN g = gN h + 1 ∧ gU g = gU h + n ∧ gK g (gN h) = 1 ∧ gZ g (gN h) = n ∧ gR g 107 j = gN h ∧ Ch q0 (pF [(107, j)]) h g
theorem mkA (hL : Lay h) (j n : Nat) (hj : ∀ q ∈ xRT, pF [(107, j)] q.1 q.2.1 = false) (hN : gN h < 899990) : Mk h (sR (xnew h 1 n) 107 j (gN h)) j n := by
  have C2 := Ch.new h 1 n (by omega)
  have hL2 : Lay (xnew h 1 n) := C2.lay hL (fun _ _ => rfl) (fun _ => rfl) xRT_lt (by rw [xnew_N]; omega)
  have C3 := Ch.sR (xnew h 1 n) 107 j (gN h)
  have hL3 : Lay (sR (xnew h 1 n) 107 j (gN h)) := C3.lay hL2 hj (fun j => by simp [pF]; omega) xRT_lt (by show gN h + 1 < 900000; omega)
  refine ⟨hL3, rfl, rfl, ?_, ?_, by rw [sR_here, if_pos rfl], (C2.mono (fun _ _ _ => rfl) (fun _ _ _ => rfl)).trans (C3.mono (fun _ _ _ => rfl) (fun _ _ q => q))⟩
  · show gK (xnew h 1 n) (gN h) = 1; rw [xnew_K, if_pos rfl]
  · show gZ (xnew h 1 n) (gN h) = n; rw [xnew_Z, if_pos rfl]
theorem mkD {g1 g2 g3 g4 g5 : XH} (h156 : 155 ≤ gN h) (m1 : Mk h g1 6 2401) (m2 : Mk g1 g2 7 210) (m3 : Mk g2 g3 8 6300) (m4 : Mk g3 g4 9 210) (m5 : Mk g4 g5 11 210) : DA g5 (gN h) ∧ gN g5 = gN h + 5 ∧ gU g5 = gU h + 9331 ∧ Ch q0 (pF [(107, 6), (107, 7), (107, 8), (107, 9), (107, 11)]) h g5 := by
  obtain ⟨_, n1, u1, k1, z1, r1, c1⟩ := m1
  obtain ⟨_, n2, u2, k2, z2, r2, c2⟩ := m2
  obtain ⟨_, n3, u3, k3, z3, r3, c3⟩ := m3
  obtain ⟨_, n4, u4, k4, z4, r4, c4⟩ := m4
  obtain ⟨_, n5, u5, k5, z5, r5, c5⟩ := m5
  have e1 : gN g1 = gN h + 1 := n1
  have e2 : gN g2 = gN h + 2 := by omega
  have e3 : gN g3 = gN h + 3 := by omega
  have e4 : gN g4 = gN h + 4 := by omega
  rw [e1] at k2 z2 r2
  rw [e2] at k3 z3 r3
  rw [e3] at k4 z4 r4
  rw [e4] at k5 z5 r5
  have K2 := c2.2.2.1
  have K3 := c3.2.2.1
  have K4 := c4.2.2.1
  have K5 := c5.2.2.1
  have R2 := fun j => c2.2.1 107 j (Or.inl (by omega))
  have R3 := fun j => c3.2.1 107 j (Or.inl (by omega))
  have R4 := fun j => c4.2.1 107 j (Or.inl (by omega))
  have R5 := fun j => c5.2.1 107 j (Or.inl (by omega))
  refine ⟨⟨⟨?_, ?_, ?_, ?_, r5⟩, ⟨?_, ?_, ?_, ?_, k5⟩, ⟨?_, ?_, ?_, ?_, z5⟩, h156, by omega⟩, by omega, by omega, ?_⟩
  · rw [R5 6 (by decide), R4 6 (by decide), R3 6 (by decide), R2 6 (by decide)]; exact r1
  · rw [R5 7 (by decide), R4 7 (by decide), R3 7 (by decide)]; exact r2
  · rw [R5 8 (by decide), R4 8 (by decide)]; exact r3
  · rw [R5 9 (by decide)]; exact r4
  · rw [(K5 _ (Or.inl (by omega))).1, (K4 _ (Or.inl (by omega))).1, (K3 _ (Or.inl (by omega))).1, (K2 _ (Or.inl (by omega))).1]; exact k1
  · rw [(K5 _ (Or.inl (by omega))).1, (K4 _ (Or.inl (by omega))).1, (K3 _ (Or.inl (by omega))).1]; exact k2
  · rw [(K5 _ (Or.inl (by omega))).1, (K4 _ (Or.inl (by omega))).1]; exact k3
  · rw [(K5 _ (Or.inl (by omega))).1]; exact k4
  · rw [(K5 _ (Or.inl (by omega))).2, (K4 _ (Or.inl (by omega))).2, (K3 _ (Or.inl (by omega))).2, (K2 _ (Or.inl (by omega))).2]; exact z1
  · rw [(K5 _ (Or.inl (by omega))).2, (K4 _ (Or.inl (by omega))).2, (K3 _ (Or.inl (by omega))).2]; exact z2
  · rw [(K5 _ (Or.inl (by omega))).2, (K4 _ (Or.inl (by omega))).2]; exact z3
  · rw [(K5 _ (Or.inl (by omega))).2]; exact z4
  · have w : ∀ j, j = 6 ∨ j = 7 ∨ j = 8 ∨ j = 9 ∨ j = 11 → ∀ a i, pF [(107, 6), (107, 7), (107, 8), (107, 9), (107, 11)] a i = false → pF [(107, j)] a i = false := fun j hj a i q => by
      simp [pF] at q ⊢
      intro ha
      have := q.1 ha
      have := q.2.1 ha
      have := q.2.2.1 ha
      have := q.2.2.2.1 ha
      have := q.2.2.2.2 ha
      omega
    exact ((((c1.mono (fun _ _ x => x) (w 6 (by omega))).trans (c2.mono (fun _ _ x => x) (w 7 (by omega)))).trans (c3.mono (fun _ _ x => x) (w 8 (by omega)))).trans (c4.mono (fun _ _ x => x) (w 9 (by omega)))).trans (c5.mono (fun _ _ x => x) (w 11 (by omega)))
end MK
