/-! the cells of the two systems: kinds, sizes, references that stay -/
def xKT : List (Nat × Nat) := [(0, 0), (21, 20), (2, 500), (19, 9), (11, 1), (17, 4), (10, 15), (4, 8), (12, 3), (1, 32), (1, 32), (1, 8), (12, 3), (1, 32), (1, 32), (1, 8), (4, 6), (1, 6), (1, 6), (1, 6), (10, 15), (4, 8), (12, 3), (1, 32), (1, 32), (1, 8), (12, 3), (1, 32), (1, 32), (1, 8), (4, 6), (1, 6), (1, 6), (1, 6), (5, 9), (16, 6), (1, 80), (1, 80), (1, 80), (1, 80), (16, 6), (1, 80), (1, 80), (1, 80), (1, 80), (16, 6), (1, 80), (1, 80), (1, 80), (1, 80), (16, 6), (1, 80), (1, 80), (1, 80), (1, 80), (16, 6), (1, 80), (1, 80), (1, 80), (1, 80), (16, 6), (1, 80), (1, 80), (1, 80), (1, 80), (16, 6), (1, 80), (1, 80), (1, 80), (1, 80), (16, 6), (1, 80), (1, 80), (1, 80), (1, 80), (16, 6), (1, 80), (1, 80), (1, 80), (1, 80), (15, 15), (1, 100), (1, 100), (1, 100), (1, 100), (1, 400), (1, 5), (1, 40), (1, 15), (1, 5), (1, 5), (18, 13), (1, 8), (1, 1208), (1, 400), (1, 60), (20, 13), (1, 1024), (1, 100), (1, 100), (4, 0), (20, 13), (1, 1024), (1, 100), (1, 100), (4, 0), (14, 10), (13, 13), (1, 6), (1, 6), (1, 5), (1, 0), (1, 0), (1, 0), (1, 0), (1, 0), (1, 601), (1, 0), (22, 75), (1, 500), (1, 8), (1, 64), (1, 8), (1, 64), (1, 8), (1, 8), (1, 8), (1, 64), (1, 64), (1, 6), (1, 6), (1, 6), (1, 400), (1, 100), (1, 100), (1, 100), (1, 5), (1, 5), (1, 40), (1, 6), (4, 102400), (1, 20), (1, 5), (1, 2000), (1, 4096), (1, 8), (1, 8), (1, 8), (3, 8), (1, 15625), (1, 400), (1, 3200), (1, 100), (1, 2000), (4, 1)]
def xRT : List (Nat × Nat × Nat) := [(1, 0, 2), (1, 2, 3), (1, 3, 4), (1, 4, 5), (1, 7, 34), (1, 9, 80), (1, 10, 91), (1, 11, 96), (1, 12, 101), (1, 13, 106), (1, 14, 107), (1, 15, 116), (1, 16, 117), (3, 0, 2), (4, 0, 3), (5, 0, 3), (6, 1, 7), (6, 2, 8), (6, 3, 12), (6, 5, 16), (6, 6, 17), (6, 7, 18), (6, 8, 19), (8, 0, 9), (8, 1, 10), (8, 2, 11), (12, 0, 13), (12, 1, 14), (12, 2, 15), (20, 1, 21), (20, 2, 22), (20, 3, 26), (20, 5, 30), (20, 6, 31), (20, 7, 32), (20, 8, 33), (22, 0, 23), (22, 1, 24), (22, 2, 25), (26, 0, 27), (26, 1, 28), (26, 2, 29), (34, 0, 35), (34, 1, 40), (34, 2, 45), (34, 3, 50), (34, 4, 55), (34, 5, 60), (34, 6, 65), (34, 7, 70), (34, 8, 75), (35, 0, 36), (35, 1, 37), (35, 2, 38), (35, 3, 39), (40, 0, 41), (40, 1, 42), (40, 2, 43), (40, 3, 44), (45, 0, 46), (45, 1, 47), (45, 2, 48), (45, 3, 49), (50, 0, 51), (50, 1, 52), (50, 2, 53), (50, 3, 54), (55, 0, 56), (55, 1, 57), (55, 2, 58), (55, 3, 59), (60, 0, 61), (60, 1, 62), (60, 2, 63), (60, 3, 64), (65, 0, 66), (65, 1, 67), (65, 2, 68), (65, 3, 69), (70, 0, 71), (70, 1, 72), (70, 2, 73), (70, 3, 74), (75, 0, 76), (75, 1, 77), (75, 2, 78), (75, 3, 79), (80, 5, 81), (80, 6, 82), (80, 7, 83), (80, 8, 84), (80, 9, 85), (80, 10, 86), (80, 11, 87), (80, 12, 88), (80, 13, 89), (80, 14, 90), (91, 0, 80), (91, 4, 92), (91, 5, 93), (91, 10, 94), (91, 11, 95), (96, 0, 80), (96, 1, 91), (96, 7, 97), (96, 9, 98), (96, 10, 99), (101, 0, 80), (101, 1, 91), (101, 7, 102), (101, 9, 103), (101, 10, 104), (106, 0, 80), (106, 1, 91), (107, 1, 108), (107, 2, 109), (107, 3, 110), (118, 1, 119), (118, 11, 120), (118, 14, 121), (118, 15, 122), (118, 16, 123), (118, 17, 124), (118, 18, 125), (118, 19, 126), (118, 20, 127), (118, 21, 128), (118, 30, 129), (118, 31, 130), (118, 32, 131), (118, 33, 132), (118, 41, 133), (118, 42, 134), (118, 43, 135), (118, 44, 136), (118, 45, 137), (118, 46, 138), (118, 47, 139), (118, 48, 140), (118, 52, 141), (118, 53, 142), (118, 54, 143), (118, 56, 144), (118, 57, 145), (118, 60, 146), (118, 61, 147), (118, 62, 148), (118, 68, 149), (118, 70, 150), (118, 71, 151), (118, 72, 152), (118, 74, 153)]
def xCT : List (Nat × Nat) := [(60, 0), (2, 6), (60, 0), (2, 6), (60, 0), (2, 5), (60, 0), (2, 3), (60, 0), (2, 2), (60, 0), (2, 2), (60, 0), (2, 4), (60, 0), (2, 5), (60, 0), (2, 4), (60, 0), (2, 2), (60, 0), (2, 4), (60, 0), (2, 5), (60, 0), (2, 5), (60, 0), (2, 5), (60, 0), (2, 6), (60, 0), (2, 6), (60, 0), (2, 5), (60, 0), (2, 3), (60, 0), (2, 4), (60, 0), (2, 3), (60, 0), (2, 4), (60, 0), (2, 3), (60, 0), (2, 4), (60, 0), (2, 2), (60, 0), (2, 2), (60, 0), (2, 4), (60, 0), (2, 21), (60, 0), (2, 6), (60, 0), (2, 5), (60, 0), (2, 3), (60, 0), (2, 2), (60, 0), (2, 2), (60, 0), (2, 4), (60, 0), (2, 5), (60, 0), (2, 4), (60, 0), (2, 2), (60, 0), (2, 4), (60, 0), (2, 5), (60, 0), (2, 5), (60, 0), (2, 6), (60, 0), (2, 6), (60, 0), (2, 5), (60, 0), (2, 3), (60, 0), (2, 4), (60, 0), (2, 4), (60, 0), (2, 3), (60, 0), (2, 4)]
/-- kinds, sizes and references of the cells below 155, and of the constants: no write of an int or a long changes it -/
def Lay (h : XH) : Prop := (∀ a, a < 155 → (gK h a, gZ h a) = xKT.getD a (0, 0)) ∧ (∀ q ∈ xRT, gR h q.1 q.2.1 = q.2.2) ∧ 155 ≤ gN h ∧ gN h < 900000 ∧
  (gK h 1000001 = 1 ∧ gZ h 1000001 = 5) ∧ (∀ j, j < 94 → (gK h (1000010 + j), gZ h (1000010 + j)) = xCT.getD j (0, 0)) ∧ (∀ j, j < 47 → gR h (1000010 + 2 * j) 0 = 1000011 + 2 * j)
theorem Lay.k {h : XH} (hL : Lay h) (a k z : Nat) (ha : a < 155) (he : xKT.getD a (0, 0) = (k, z)) : gK h a = k ∧ gZ h a = z := by
  have := hL.1 a ha
  rw [he] at this
  exact ⟨congrArg Prod.fst this, congrArg Prod.snd this⟩
theorem Lay.n {h : XH} (hL : Lay h) {a : Nat} (ha : a < 155) : a < gN h := Nat.lt_of_lt_of_le ha hL.2.2.1
theorem Lay.r {h : XH} (hL : Lay h) (i a j v : Nat) (he : xRT[i]? = some (a, j, v)) : gR h a j = v := hL.2.1 _ (List.mem_of_getElem? he)
theorem Lay.c {h : XH} (hL : Lay h) (j k z : Nat) (ha : j < 94) (he : xCT.getD j (0, 0) = (k, z)) : gK h (1000010 + j) = k ∧ gZ h (1000010 + j) = z := by
  have := hL.2.2.2.2.2.1 j ha
  rw [he] at this
  exact ⟨congrArg Prod.fst this, congrArg Prod.snd this⟩
section LAY
variable {h : XH}
theorem Lk_1 (hL : Lay h) : gK h 1 = 21 := (hL.k 1 21 20 (by decide) rfl).1
theorem Ln_1 (hL : Lay h) : 1 < gN h := hL.n (by decide)
theorem Lk_2 (hL : Lay h) : gK h 2 = 2 := (hL.k 2 2 500 (by decide) rfl).1
theorem Lz_2 (hL : Lay h) : gZ h 2 = 500 := (hL.k 2 2 500 (by decide) rfl).2
theorem Ln_2 (hL : Lay h) : 2 < gN h := hL.n (by decide)
theorem Lk_3 (hL : Lay h) : gK h 3 = 19 := (hL.k 3 19 9 (by decide) rfl).1
theorem Ln_3 (hL : Lay h) : 3 < gN h := hL.n (by decide)
theorem Lk_4 (hL : Lay h) : gK h 4 = 11 := (hL.k 4 11 1 (by decide) rfl).1
theorem Ln_4 (hL : Lay h) : 4 < gN h := hL.n (by decide)
theorem Lk_5 (hL : Lay h) : gK h 5 = 17 := (hL.k 5 17 4 (by decide) rfl).1
theorem Ln_5 (hL : Lay h) : 5 < gN h := hL.n (by decide)
theorem Lk_6 (hL : Lay h) : gK h 6 = 10 := (hL.k 6 10 15 (by decide) rfl).1
theorem Ln_6 (hL : Lay h) : 6 < gN h := hL.n (by decide)
theorem Lk_7 (hL : Lay h) : gK h 7 = 4 := (hL.k 7 4 8 (by decide) rfl).1
theorem Lz_7 (hL : Lay h) : gZ h 7 = 8 := (hL.k 7 4 8 (by decide) rfl).2
theorem Ln_7 (hL : Lay h) : 7 < gN h := hL.n (by decide)
theorem Lk_8 (hL : Lay h) : gK h 8 = 12 := (hL.k 8 12 3 (by decide) rfl).1
theorem Ln_8 (hL : Lay h) : 8 < gN h := hL.n (by decide)
theorem Lk_9 (hL : Lay h) : gK h 9 = 1 := (hL.k 9 1 32 (by decide) rfl).1
theorem Lz_9 (hL : Lay h) : gZ h 9 = 32 := (hL.k 9 1 32 (by decide) rfl).2
theorem Ln_9 (hL : Lay h) : 9 < gN h := hL.n (by decide)
theorem Lk_10 (hL : Lay h) : gK h 10 = 1 := (hL.k 10 1 32 (by decide) rfl).1
theorem Lz_10 (hL : Lay h) : gZ h 10 = 32 := (hL.k 10 1 32 (by decide) rfl).2
theorem Ln_10 (hL : Lay h) : 10 < gN h := hL.n (by decide)
theorem Lk_11 (hL : Lay h) : gK h 11 = 1 := (hL.k 11 1 8 (by decide) rfl).1
theorem Lz_11 (hL : Lay h) : gZ h 11 = 8 := (hL.k 11 1 8 (by decide) rfl).2
theorem Ln_11 (hL : Lay h) : 11 < gN h := hL.n (by decide)
theorem Lk_12 (hL : Lay h) : gK h 12 = 12 := (hL.k 12 12 3 (by decide) rfl).1
theorem Ln_12 (hL : Lay h) : 12 < gN h := hL.n (by decide)
theorem Lk_13 (hL : Lay h) : gK h 13 = 1 := (hL.k 13 1 32 (by decide) rfl).1
theorem Lz_13 (hL : Lay h) : gZ h 13 = 32 := (hL.k 13 1 32 (by decide) rfl).2
theorem Ln_13 (hL : Lay h) : 13 < gN h := hL.n (by decide)
theorem Lk_14 (hL : Lay h) : gK h 14 = 1 := (hL.k 14 1 32 (by decide) rfl).1
theorem Lz_14 (hL : Lay h) : gZ h 14 = 32 := (hL.k 14 1 32 (by decide) rfl).2
theorem Ln_14 (hL : Lay h) : 14 < gN h := hL.n (by decide)
theorem Lk_15 (hL : Lay h) : gK h 15 = 1 := (hL.k 15 1 8 (by decide) rfl).1
theorem Lz_15 (hL : Lay h) : gZ h 15 = 8 := (hL.k 15 1 8 (by decide) rfl).2
theorem Ln_15 (hL : Lay h) : 15 < gN h := hL.n (by decide)
theorem Lk_16 (hL : Lay h) : gK h 16 = 4 := (hL.k 16 4 6 (by decide) rfl).1
theorem Lz_16 (hL : Lay h) : gZ h 16 = 6 := (hL.k 16 4 6 (by decide) rfl).2
theorem Ln_16 (hL : Lay h) : 16 < gN h := hL.n (by decide)
theorem Lk_17 (hL : Lay h) : gK h 17 = 1 := (hL.k 17 1 6 (by decide) rfl).1
theorem Lz_17 (hL : Lay h) : gZ h 17 = 6 := (hL.k 17 1 6 (by decide) rfl).2
theorem Ln_17 (hL : Lay h) : 17 < gN h := hL.n (by decide)
theorem Lk_18 (hL : Lay h) : gK h 18 = 1 := (hL.k 18 1 6 (by decide) rfl).1
theorem Lz_18 (hL : Lay h) : gZ h 18 = 6 := (hL.k 18 1 6 (by decide) rfl).2
theorem Ln_18 (hL : Lay h) : 18 < gN h := hL.n (by decide)
theorem Lk_19 (hL : Lay h) : gK h 19 = 1 := (hL.k 19 1 6 (by decide) rfl).1
theorem Lz_19 (hL : Lay h) : gZ h 19 = 6 := (hL.k 19 1 6 (by decide) rfl).2
theorem Ln_19 (hL : Lay h) : 19 < gN h := hL.n (by decide)
theorem Lk_20 (hL : Lay h) : gK h 20 = 10 := (hL.k 20 10 15 (by decide) rfl).1
theorem Ln_20 (hL : Lay h) : 20 < gN h := hL.n (by decide)
theorem Lk_21 (hL : Lay h) : gK h 21 = 4 := (hL.k 21 4 8 (by decide) rfl).1
theorem Lz_21 (hL : Lay h) : gZ h 21 = 8 := (hL.k 21 4 8 (by decide) rfl).2
theorem Ln_21 (hL : Lay h) : 21 < gN h := hL.n (by decide)
theorem Lk_22 (hL : Lay h) : gK h 22 = 12 := (hL.k 22 12 3 (by decide) rfl).1
theorem Ln_22 (hL : Lay h) : 22 < gN h := hL.n (by decide)
theorem Lk_23 (hL : Lay h) : gK h 23 = 1 := (hL.k 23 1 32 (by decide) rfl).1
theorem Lz_23 (hL : Lay h) : gZ h 23 = 32 := (hL.k 23 1 32 (by decide) rfl).2
theorem Ln_23 (hL : Lay h) : 23 < gN h := hL.n (by decide)
theorem Lk_24 (hL : Lay h) : gK h 24 = 1 := (hL.k 24 1 32 (by decide) rfl).1
theorem Lz_24 (hL : Lay h) : gZ h 24 = 32 := (hL.k 24 1 32 (by decide) rfl).2
theorem Ln_24 (hL : Lay h) : 24 < gN h := hL.n (by decide)
theorem Lk_25 (hL : Lay h) : gK h 25 = 1 := (hL.k 25 1 8 (by decide) rfl).1
theorem Lz_25 (hL : Lay h) : gZ h 25 = 8 := (hL.k 25 1 8 (by decide) rfl).2
theorem Ln_25 (hL : Lay h) : 25 < gN h := hL.n (by decide)
theorem Lk_26 (hL : Lay h) : gK h 26 = 12 := (hL.k 26 12 3 (by decide) rfl).1
theorem Ln_26 (hL : Lay h) : 26 < gN h := hL.n (by decide)
theorem Lk_27 (hL : Lay h) : gK h 27 = 1 := (hL.k 27 1 32 (by decide) rfl).1
theorem Lz_27 (hL : Lay h) : gZ h 27 = 32 := (hL.k 27 1 32 (by decide) rfl).2
theorem Ln_27 (hL : Lay h) : 27 < gN h := hL.n (by decide)
theorem Lk_28 (hL : Lay h) : gK h 28 = 1 := (hL.k 28 1 32 (by decide) rfl).1
theorem Lz_28 (hL : Lay h) : gZ h 28 = 32 := (hL.k 28 1 32 (by decide) rfl).2
theorem Ln_28 (hL : Lay h) : 28 < gN h := hL.n (by decide)
theorem Lk_29 (hL : Lay h) : gK h 29 = 1 := (hL.k 29 1 8 (by decide) rfl).1
theorem Lz_29 (hL : Lay h) : gZ h 29 = 8 := (hL.k 29 1 8 (by decide) rfl).2
theorem Ln_29 (hL : Lay h) : 29 < gN h := hL.n (by decide)
theorem Lk_30 (hL : Lay h) : gK h 30 = 4 := (hL.k 30 4 6 (by decide) rfl).1
theorem Lz_30 (hL : Lay h) : gZ h 30 = 6 := (hL.k 30 4 6 (by decide) rfl).2
theorem Ln_30 (hL : Lay h) : 30 < gN h := hL.n (by decide)
theorem Lk_31 (hL : Lay h) : gK h 31 = 1 := (hL.k 31 1 6 (by decide) rfl).1
theorem Lz_31 (hL : Lay h) : gZ h 31 = 6 := (hL.k 31 1 6 (by decide) rfl).2
theorem Ln_31 (hL : Lay h) : 31 < gN h := hL.n (by decide)
theorem Lk_32 (hL : Lay h) : gK h 32 = 1 := (hL.k 32 1 6 (by decide) rfl).1
theorem Lz_32 (hL : Lay h) : gZ h 32 = 6 := (hL.k 32 1 6 (by decide) rfl).2
theorem Ln_32 (hL : Lay h) : 32 < gN h := hL.n (by decide)
theorem Lk_33 (hL : Lay h) : gK h 33 = 1 := (hL.k 33 1 6 (by decide) rfl).1
theorem Lz_33 (hL : Lay h) : gZ h 33 = 6 := (hL.k 33 1 6 (by decide) rfl).2
theorem Ln_33 (hL : Lay h) : 33 < gN h := hL.n (by decide)
theorem Lk_34 (hL : Lay h) : gK h 34 = 5 := (hL.k 34 5 9 (by decide) rfl).1
theorem Lz_34 (hL : Lay h) : gZ h 34 = 9 := (hL.k 34 5 9 (by decide) rfl).2
theorem Ln_34 (hL : Lay h) : 34 < gN h := hL.n (by decide)
theorem Lk_35 (hL : Lay h) : gK h 35 = 16 := (hL.k 35 16 6 (by decide) rfl).1
theorem Ln_35 (hL : Lay h) : 35 < gN h := hL.n (by decide)
theorem Lk_36 (hL : Lay h) : gK h 36 = 1 := (hL.k 36 1 80 (by decide) rfl).1
theorem Lz_36 (hL : Lay h) : gZ h 36 = 80 := (hL.k 36 1 80 (by decide) rfl).2
theorem Ln_36 (hL : Lay h) : 36 < gN h := hL.n (by decide)
theorem Lk_37 (hL : Lay h) : gK h 37 = 1 := (hL.k 37 1 80 (by decide) rfl).1
theorem Lz_37 (hL : Lay h) : gZ h 37 = 80 := (hL.k 37 1 80 (by decide) rfl).2
theorem Ln_37 (hL : Lay h) : 37 < gN h := hL.n (by decide)
theorem Lk_38 (hL : Lay h) : gK h 38 = 1 := (hL.k 38 1 80 (by decide) rfl).1
theorem Lz_38 (hL : Lay h) : gZ h 38 = 80 := (hL.k 38 1 80 (by decide) rfl).2
theorem Ln_38 (hL : Lay h) : 38 < gN h := hL.n (by decide)
theorem Lk_39 (hL : Lay h) : gK h 39 = 1 := (hL.k 39 1 80 (by decide) rfl).1
theorem Lz_39 (hL : Lay h) : gZ h 39 = 80 := (hL.k 39 1 80 (by decide) rfl).2
theorem Ln_39 (hL : Lay h) : 39 < gN h := hL.n (by decide)
theorem Lk_40 (hL : Lay h) : gK h 40 = 16 := (hL.k 40 16 6 (by decide) rfl).1
theorem Ln_40 (hL : Lay h) : 40 < gN h := hL.n (by decide)
theorem Lk_41 (hL : Lay h) : gK h 41 = 1 := (hL.k 41 1 80 (by decide) rfl).1
theorem Lz_41 (hL : Lay h) : gZ h 41 = 80 := (hL.k 41 1 80 (by decide) rfl).2
theorem Ln_41 (hL : Lay h) : 41 < gN h := hL.n (by decide)
theorem Lk_42 (hL : Lay h) : gK h 42 = 1 := (hL.k 42 1 80 (by decide) rfl).1
theorem Lz_42 (hL : Lay h) : gZ h 42 = 80 := (hL.k 42 1 80 (by decide) rfl).2
theorem Ln_42 (hL : Lay h) : 42 < gN h := hL.n (by decide)
theorem Lk_43 (hL : Lay h) : gK h 43 = 1 := (hL.k 43 1 80 (by decide) rfl).1
theorem Lz_43 (hL : Lay h) : gZ h 43 = 80 := (hL.k 43 1 80 (by decide) rfl).2
theorem Ln_43 (hL : Lay h) : 43 < gN h := hL.n (by decide)
theorem Lk_44 (hL : Lay h) : gK h 44 = 1 := (hL.k 44 1 80 (by decide) rfl).1
theorem Lz_44 (hL : Lay h) : gZ h 44 = 80 := (hL.k 44 1 80 (by decide) rfl).2
theorem Ln_44 (hL : Lay h) : 44 < gN h := hL.n (by decide)
theorem Lk_45 (hL : Lay h) : gK h 45 = 16 := (hL.k 45 16 6 (by decide) rfl).1
theorem Ln_45 (hL : Lay h) : 45 < gN h := hL.n (by decide)
theorem Lk_46 (hL : Lay h) : gK h 46 = 1 := (hL.k 46 1 80 (by decide) rfl).1
theorem Lz_46 (hL : Lay h) : gZ h 46 = 80 := (hL.k 46 1 80 (by decide) rfl).2
theorem Ln_46 (hL : Lay h) : 46 < gN h := hL.n (by decide)
theorem Lk_47 (hL : Lay h) : gK h 47 = 1 := (hL.k 47 1 80 (by decide) rfl).1
theorem Lz_47 (hL : Lay h) : gZ h 47 = 80 := (hL.k 47 1 80 (by decide) rfl).2
theorem Ln_47 (hL : Lay h) : 47 < gN h := hL.n (by decide)
theorem Lk_48 (hL : Lay h) : gK h 48 = 1 := (hL.k 48 1 80 (by decide) rfl).1
theorem Lz_48 (hL : Lay h) : gZ h 48 = 80 := (hL.k 48 1 80 (by decide) rfl).2
theorem Ln_48 (hL : Lay h) : 48 < gN h := hL.n (by decide)
theorem Lk_49 (hL : Lay h) : gK h 49 = 1 := (hL.k 49 1 80 (by decide) rfl).1
theorem Lz_49 (hL : Lay h) : gZ h 49 = 80 := (hL.k 49 1 80 (by decide) rfl).2
theorem Ln_49 (hL : Lay h) : 49 < gN h := hL.n (by decide)
theorem Lk_50 (hL : Lay h) : gK h 50 = 16 := (hL.k 50 16 6 (by decide) rfl).1
theorem Ln_50 (hL : Lay h) : 50 < gN h := hL.n (by decide)
theorem Lk_51 (hL : Lay h) : gK h 51 = 1 := (hL.k 51 1 80 (by decide) rfl).1
theorem Lz_51 (hL : Lay h) : gZ h 51 = 80 := (hL.k 51 1 80 (by decide) rfl).2
theorem Ln_51 (hL : Lay h) : 51 < gN h := hL.n (by decide)
theorem Lk_52 (hL : Lay h) : gK h 52 = 1 := (hL.k 52 1 80 (by decide) rfl).1
theorem Lz_52 (hL : Lay h) : gZ h 52 = 80 := (hL.k 52 1 80 (by decide) rfl).2
theorem Ln_52 (hL : Lay h) : 52 < gN h := hL.n (by decide)
theorem Lk_53 (hL : Lay h) : gK h 53 = 1 := (hL.k 53 1 80 (by decide) rfl).1
theorem Lz_53 (hL : Lay h) : gZ h 53 = 80 := (hL.k 53 1 80 (by decide) rfl).2
theorem Ln_53 (hL : Lay h) : 53 < gN h := hL.n (by decide)
theorem Lk_54 (hL : Lay h) : gK h 54 = 1 := (hL.k 54 1 80 (by decide) rfl).1
theorem Lz_54 (hL : Lay h) : gZ h 54 = 80 := (hL.k 54 1 80 (by decide) rfl).2
theorem Ln_54 (hL : Lay h) : 54 < gN h := hL.n (by decide)
theorem Lk_55 (hL : Lay h) : gK h 55 = 16 := (hL.k 55 16 6 (by decide) rfl).1
theorem Ln_55 (hL : Lay h) : 55 < gN h := hL.n (by decide)
theorem Lk_56 (hL : Lay h) : gK h 56 = 1 := (hL.k 56 1 80 (by decide) rfl).1
theorem Lz_56 (hL : Lay h) : gZ h 56 = 80 := (hL.k 56 1 80 (by decide) rfl).2
theorem Ln_56 (hL : Lay h) : 56 < gN h := hL.n (by decide)
theorem Lk_57 (hL : Lay h) : gK h 57 = 1 := (hL.k 57 1 80 (by decide) rfl).1
theorem Lz_57 (hL : Lay h) : gZ h 57 = 80 := (hL.k 57 1 80 (by decide) rfl).2
theorem Ln_57 (hL : Lay h) : 57 < gN h := hL.n (by decide)
theorem Lk_58 (hL : Lay h) : gK h 58 = 1 := (hL.k 58 1 80 (by decide) rfl).1
theorem Lz_58 (hL : Lay h) : gZ h 58 = 80 := (hL.k 58 1 80 (by decide) rfl).2
theorem Ln_58 (hL : Lay h) : 58 < gN h := hL.n (by decide)
theorem Lk_59 (hL : Lay h) : gK h 59 = 1 := (hL.k 59 1 80 (by decide) rfl).1
theorem Lz_59 (hL : Lay h) : gZ h 59 = 80 := (hL.k 59 1 80 (by decide) rfl).2
theorem Ln_59 (hL : Lay h) : 59 < gN h := hL.n (by decide)
theorem Lk_60 (hL : Lay h) : gK h 60 = 16 := (hL.k 60 16 6 (by decide) rfl).1
theorem Ln_60 (hL : Lay h) : 60 < gN h := hL.n (by decide)
theorem Lk_61 (hL : Lay h) : gK h 61 = 1 := (hL.k 61 1 80 (by decide) rfl).1
theorem Lz_61 (hL : Lay h) : gZ h 61 = 80 := (hL.k 61 1 80 (by decide) rfl).2
theorem Ln_61 (hL : Lay h) : 61 < gN h := hL.n (by decide)
theorem Lk_62 (hL : Lay h) : gK h 62 = 1 := (hL.k 62 1 80 (by decide) rfl).1
theorem Lz_62 (hL : Lay h) : gZ h 62 = 80 := (hL.k 62 1 80 (by decide) rfl).2
theorem Ln_62 (hL : Lay h) : 62 < gN h := hL.n (by decide)
theorem Lk_63 (hL : Lay h) : gK h 63 = 1 := (hL.k 63 1 80 (by decide) rfl).1
theorem Lz_63 (hL : Lay h) : gZ h 63 = 80 := (hL.k 63 1 80 (by decide) rfl).2
theorem Ln_63 (hL : Lay h) : 63 < gN h := hL.n (by decide)
theorem Lk_64 (hL : Lay h) : gK h 64 = 1 := (hL.k 64 1 80 (by decide) rfl).1
theorem Lz_64 (hL : Lay h) : gZ h 64 = 80 := (hL.k 64 1 80 (by decide) rfl).2
theorem Ln_64 (hL : Lay h) : 64 < gN h := hL.n (by decide)
theorem Lk_65 (hL : Lay h) : gK h 65 = 16 := (hL.k 65 16 6 (by decide) rfl).1
theorem Ln_65 (hL : Lay h) : 65 < gN h := hL.n (by decide)
theorem Lk_66 (hL : Lay h) : gK h 66 = 1 := (hL.k 66 1 80 (by decide) rfl).1
theorem Lz_66 (hL : Lay h) : gZ h 66 = 80 := (hL.k 66 1 80 (by decide) rfl).2
theorem Ln_66 (hL : Lay h) : 66 < gN h := hL.n (by decide)
theorem Lk_67 (hL : Lay h) : gK h 67 = 1 := (hL.k 67 1 80 (by decide) rfl).1
theorem Lz_67 (hL : Lay h) : gZ h 67 = 80 := (hL.k 67 1 80 (by decide) rfl).2
theorem Ln_67 (hL : Lay h) : 67 < gN h := hL.n (by decide)
theorem Lk_68 (hL : Lay h) : gK h 68 = 1 := (hL.k 68 1 80 (by decide) rfl).1
theorem Lz_68 (hL : Lay h) : gZ h 68 = 80 := (hL.k 68 1 80 (by decide) rfl).2
theorem Ln_68 (hL : Lay h) : 68 < gN h := hL.n (by decide)
theorem Lk_69 (hL : Lay h) : gK h 69 = 1 := (hL.k 69 1 80 (by decide) rfl).1
theorem Lz_69 (hL : Lay h) : gZ h 69 = 80 := (hL.k 69 1 80 (by decide) rfl).2
theorem Ln_69 (hL : Lay h) : 69 < gN h := hL.n (by decide)
theorem Lk_70 (hL : Lay h) : gK h 70 = 16 := (hL.k 70 16 6 (by decide) rfl).1
theorem Ln_70 (hL : Lay h) : 70 < gN h := hL.n (by decide)
theorem Lk_71 (hL : Lay h) : gK h 71 = 1 := (hL.k 71 1 80 (by decide) rfl).1
theorem Lz_71 (hL : Lay h) : gZ h 71 = 80 := (hL.k 71 1 80 (by decide) rfl).2
theorem Ln_71 (hL : Lay h) : 71 < gN h := hL.n (by decide)
theorem Lk_72 (hL : Lay h) : gK h 72 = 1 := (hL.k 72 1 80 (by decide) rfl).1
theorem Lz_72 (hL : Lay h) : gZ h 72 = 80 := (hL.k 72 1 80 (by decide) rfl).2
theorem Ln_72 (hL : Lay h) : 72 < gN h := hL.n (by decide)
theorem Lk_73 (hL : Lay h) : gK h 73 = 1 := (hL.k 73 1 80 (by decide) rfl).1
theorem Lz_73 (hL : Lay h) : gZ h 73 = 80 := (hL.k 73 1 80 (by decide) rfl).2
theorem Ln_73 (hL : Lay h) : 73 < gN h := hL.n (by decide)
theorem Lk_74 (hL : Lay h) : gK h 74 = 1 := (hL.k 74 1 80 (by decide) rfl).1
theorem Lz_74 (hL : Lay h) : gZ h 74 = 80 := (hL.k 74 1 80 (by decide) rfl).2
theorem Ln_74 (hL : Lay h) : 74 < gN h := hL.n (by decide)
theorem Lk_75 (hL : Lay h) : gK h 75 = 16 := (hL.k 75 16 6 (by decide) rfl).1
theorem Ln_75 (hL : Lay h) : 75 < gN h := hL.n (by decide)
theorem Lk_76 (hL : Lay h) : gK h 76 = 1 := (hL.k 76 1 80 (by decide) rfl).1
theorem Lz_76 (hL : Lay h) : gZ h 76 = 80 := (hL.k 76 1 80 (by decide) rfl).2
theorem Ln_76 (hL : Lay h) : 76 < gN h := hL.n (by decide)
theorem Lk_77 (hL : Lay h) : gK h 77 = 1 := (hL.k 77 1 80 (by decide) rfl).1
theorem Lz_77 (hL : Lay h) : gZ h 77 = 80 := (hL.k 77 1 80 (by decide) rfl).2
theorem Ln_77 (hL : Lay h) : 77 < gN h := hL.n (by decide)
theorem Lk_78 (hL : Lay h) : gK h 78 = 1 := (hL.k 78 1 80 (by decide) rfl).1
theorem Lz_78 (hL : Lay h) : gZ h 78 = 80 := (hL.k 78 1 80 (by decide) rfl).2
theorem Ln_78 (hL : Lay h) : 78 < gN h := hL.n (by decide)
theorem Lk_79 (hL : Lay h) : gK h 79 = 1 := (hL.k 79 1 80 (by decide) rfl).1
theorem Lz_79 (hL : Lay h) : gZ h 79 = 80 := (hL.k 79 1 80 (by decide) rfl).2
theorem Ln_79 (hL : Lay h) : 79 < gN h := hL.n (by decide)
theorem Lk_80 (hL : Lay h) : gK h 80 = 15 := (hL.k 80 15 15 (by decide) rfl).1
theorem Ln_80 (hL : Lay h) : 80 < gN h := hL.n (by decide)
theorem Lk_81 (hL : Lay h) : gK h 81 = 1 := (hL.k 81 1 100 (by decide) rfl).1
theorem Lz_81 (hL : Lay h) : gZ h 81 = 100 := (hL.k 81 1 100 (by decide) rfl).2
theorem Ln_81 (hL : Lay h) : 81 < gN h := hL.n (by decide)
theorem Lk_82 (hL : Lay h) : gK h 82 = 1 := (hL.k 82 1 100 (by decide) rfl).1
theorem Lz_82 (hL : Lay h) : gZ h 82 = 100 := (hL.k 82 1 100 (by decide) rfl).2
theorem Ln_82 (hL : Lay h) : 82 < gN h := hL.n (by decide)
theorem Lk_83 (hL : Lay h) : gK h 83 = 1 := (hL.k 83 1 100 (by decide) rfl).1
theorem Lz_83 (hL : Lay h) : gZ h 83 = 100 := (hL.k 83 1 100 (by decide) rfl).2
theorem Ln_83 (hL : Lay h) : 83 < gN h := hL.n (by decide)
theorem Lk_84 (hL : Lay h) : gK h 84 = 1 := (hL.k 84 1 100 (by decide) rfl).1
theorem Lz_84 (hL : Lay h) : gZ h 84 = 100 := (hL.k 84 1 100 (by decide) rfl).2
theorem Ln_84 (hL : Lay h) : 84 < gN h := hL.n (by decide)
theorem Lk_85 (hL : Lay h) : gK h 85 = 1 := (hL.k 85 1 400 (by decide) rfl).1
theorem Lz_85 (hL : Lay h) : gZ h 85 = 400 := (hL.k 85 1 400 (by decide) rfl).2
theorem Ln_85 (hL : Lay h) : 85 < gN h := hL.n (by decide)
theorem Lk_86 (hL : Lay h) : gK h 86 = 1 := (hL.k 86 1 5 (by decide) rfl).1
theorem Lz_86 (hL : Lay h) : gZ h 86 = 5 := (hL.k 86 1 5 (by decide) rfl).2
theorem Ln_86 (hL : Lay h) : 86 < gN h := hL.n (by decide)
theorem Lk_87 (hL : Lay h) : gK h 87 = 1 := (hL.k 87 1 40 (by decide) rfl).1
theorem Lz_87 (hL : Lay h) : gZ h 87 = 40 := (hL.k 87 1 40 (by decide) rfl).2
theorem Ln_87 (hL : Lay h) : 87 < gN h := hL.n (by decide)
theorem Lk_88 (hL : Lay h) : gK h 88 = 1 := (hL.k 88 1 15 (by decide) rfl).1
theorem Lz_88 (hL : Lay h) : gZ h 88 = 15 := (hL.k 88 1 15 (by decide) rfl).2
theorem Ln_88 (hL : Lay h) : 88 < gN h := hL.n (by decide)
theorem Lk_89 (hL : Lay h) : gK h 89 = 1 := (hL.k 89 1 5 (by decide) rfl).1
theorem Lz_89 (hL : Lay h) : gZ h 89 = 5 := (hL.k 89 1 5 (by decide) rfl).2
theorem Ln_89 (hL : Lay h) : 89 < gN h := hL.n (by decide)
theorem Lk_90 (hL : Lay h) : gK h 90 = 1 := (hL.k 90 1 5 (by decide) rfl).1
theorem Lz_90 (hL : Lay h) : gZ h 90 = 5 := (hL.k 90 1 5 (by decide) rfl).2
theorem Ln_90 (hL : Lay h) : 90 < gN h := hL.n (by decide)
theorem Lk_91 (hL : Lay h) : gK h 91 = 18 := (hL.k 91 18 13 (by decide) rfl).1
theorem Ln_91 (hL : Lay h) : 91 < gN h := hL.n (by decide)
theorem Lk_92 (hL : Lay h) : gK h 92 = 1 := (hL.k 92 1 8 (by decide) rfl).1
theorem Lz_92 (hL : Lay h) : gZ h 92 = 8 := (hL.k 92 1 8 (by decide) rfl).2
theorem Ln_92 (hL : Lay h) : 92 < gN h := hL.n (by decide)
theorem Lk_93 (hL : Lay h) : gK h 93 = 1 := (hL.k 93 1 1208 (by decide) rfl).1
theorem Lz_93 (hL : Lay h) : gZ h 93 = 1208 := (hL.k 93 1 1208 (by decide) rfl).2
theorem Ln_93 (hL : Lay h) : 93 < gN h := hL.n (by decide)
theorem Lk_94 (hL : Lay h) : gK h 94 = 1 := (hL.k 94 1 400 (by decide) rfl).1
theorem Lz_94 (hL : Lay h) : gZ h 94 = 400 := (hL.k 94 1 400 (by decide) rfl).2
theorem Ln_94 (hL : Lay h) : 94 < gN h := hL.n (by decide)
theorem Lk_95 (hL : Lay h) : gK h 95 = 1 := (hL.k 95 1 60 (by decide) rfl).1
theorem Lz_95 (hL : Lay h) : gZ h 95 = 60 := (hL.k 95 1 60 (by decide) rfl).2
theorem Ln_95 (hL : Lay h) : 95 < gN h := hL.n (by decide)
theorem Lk_96 (hL : Lay h) : gK h 96 = 20 := (hL.k 96 20 13 (by decide) rfl).1
theorem Ln_96 (hL : Lay h) : 96 < gN h := hL.n (by decide)
theorem Lk_97 (hL : Lay h) : gK h 97 = 1 := (hL.k 97 1 1024 (by decide) rfl).1
theorem Lz_97 (hL : Lay h) : gZ h 97 = 1024 := (hL.k 97 1 1024 (by decide) rfl).2
theorem Ln_97 (hL : Lay h) : 97 < gN h := hL.n (by decide)
theorem Lk_98 (hL : Lay h) : gK h 98 = 1 := (hL.k 98 1 100 (by decide) rfl).1
theorem Lz_98 (hL : Lay h) : gZ h 98 = 100 := (hL.k 98 1 100 (by decide) rfl).2
theorem Ln_98 (hL : Lay h) : 98 < gN h := hL.n (by decide)
theorem Lk_99 (hL : Lay h) : gK h 99 = 1 := (hL.k 99 1 100 (by decide) rfl).1
theorem Lz_99 (hL : Lay h) : gZ h 99 = 100 := (hL.k 99 1 100 (by decide) rfl).2
theorem Ln_99 (hL : Lay h) : 99 < gN h := hL.n (by decide)
theorem Lk_100 (hL : Lay h) : gK h 100 = 4 := (hL.k 100 4 0 (by decide) rfl).1
theorem Lz_100 (hL : Lay h) : gZ h 100 = 0 := (hL.k 100 4 0 (by decide) rfl).2
theorem Ln_100 (hL : Lay h) : 100 < gN h := hL.n (by decide)
theorem Lk_101 (hL : Lay h) : gK h 101 = 20 := (hL.k 101 20 13 (by decide) rfl).1
theorem Ln_101 (hL : Lay h) : 101 < gN h := hL.n (by decide)
theorem Lk_102 (hL : Lay h) : gK h 102 = 1 := (hL.k 102 1 1024 (by decide) rfl).1
theorem Lz_102 (hL : Lay h) : gZ h 102 = 1024 := (hL.k 102 1 1024 (by decide) rfl).2
theorem Ln_102 (hL : Lay h) : 102 < gN h := hL.n (by decide)
theorem Lk_103 (hL : Lay h) : gK h 103 = 1 := (hL.k 103 1 100 (by decide) rfl).1
theorem Lz_103 (hL : Lay h) : gZ h 103 = 100 := (hL.k 103 1 100 (by decide) rfl).2
theorem Ln_103 (hL : Lay h) : 103 < gN h := hL.n (by decide)
theorem Lk_104 (hL : Lay h) : gK h 104 = 1 := (hL.k 104 1 100 (by decide) rfl).1
theorem Lz_104 (hL : Lay h) : gZ h 104 = 100 := (hL.k 104 1 100 (by decide) rfl).2
theorem Ln_104 (hL : Lay h) : 104 < gN h := hL.n (by decide)
theorem Lk_105 (hL : Lay h) : gK h 105 = 4 := (hL.k 105 4 0 (by decide) rfl).1
theorem Lz_105 (hL : Lay h) : gZ h 105 = 0 := (hL.k 105 4 0 (by decide) rfl).2
theorem Ln_105 (hL : Lay h) : 105 < gN h := hL.n (by decide)
theorem Lk_106 (hL : Lay h) : gK h 106 = 14 := (hL.k 106 14 10 (by decide) rfl).1
theorem Ln_106 (hL : Lay h) : 106 < gN h := hL.n (by decide)
theorem Lk_107 (hL : Lay h) : gK h 107 = 13 := (hL.k 107 13 13 (by decide) rfl).1
theorem Ln_107 (hL : Lay h) : 107 < gN h := hL.n (by decide)
theorem Lk_108 (hL : Lay h) : gK h 108 = 1 := (hL.k 108 1 6 (by decide) rfl).1
theorem Lz_108 (hL : Lay h) : gZ h 108 = 6 := (hL.k 108 1 6 (by decide) rfl).2
theorem Ln_108 (hL : Lay h) : 108 < gN h := hL.n (by decide)
theorem Lk_109 (hL : Lay h) : gK h 109 = 1 := (hL.k 109 1 6 (by decide) rfl).1
theorem Lz_109 (hL : Lay h) : gZ h 109 = 6 := (hL.k 109 1 6 (by decide) rfl).2
theorem Ln_109 (hL : Lay h) : 109 < gN h := hL.n (by decide)
theorem Lk_110 (hL : Lay h) : gK h 110 = 1 := (hL.k 110 1 5 (by decide) rfl).1
theorem Lz_110 (hL : Lay h) : gZ h 110 = 5 := (hL.k 110 1 5 (by decide) rfl).2
theorem Ln_110 (hL : Lay h) : 110 < gN h := hL.n (by decide)
theorem Lk_111 (hL : Lay h) : gK h 111 = 1 := (hL.k 111 1 0 (by decide) rfl).1
theorem Lz_111 (hL : Lay h) : gZ h 111 = 0 := (hL.k 111 1 0 (by decide) rfl).2
theorem Ln_111 (hL : Lay h) : 111 < gN h := hL.n (by decide)
theorem Lk_112 (hL : Lay h) : gK h 112 = 1 := (hL.k 112 1 0 (by decide) rfl).1
theorem Lz_112 (hL : Lay h) : gZ h 112 = 0 := (hL.k 112 1 0 (by decide) rfl).2
theorem Ln_112 (hL : Lay h) : 112 < gN h := hL.n (by decide)
theorem Lk_113 (hL : Lay h) : gK h 113 = 1 := (hL.k 113 1 0 (by decide) rfl).1
theorem Lz_113 (hL : Lay h) : gZ h 113 = 0 := (hL.k 113 1 0 (by decide) rfl).2
theorem Ln_113 (hL : Lay h) : 113 < gN h := hL.n (by decide)
theorem Lk_114 (hL : Lay h) : gK h 114 = 1 := (hL.k 114 1 0 (by decide) rfl).1
theorem Lz_114 (hL : Lay h) : gZ h 114 = 0 := (hL.k 114 1 0 (by decide) rfl).2
theorem Ln_114 (hL : Lay h) : 114 < gN h := hL.n (by decide)
theorem Lk_115 (hL : Lay h) : gK h 115 = 1 := (hL.k 115 1 0 (by decide) rfl).1
theorem Lz_115 (hL : Lay h) : gZ h 115 = 0 := (hL.k 115 1 0 (by decide) rfl).2
theorem Ln_115 (hL : Lay h) : 115 < gN h := hL.n (by decide)
theorem Lk_116 (hL : Lay h) : gK h 116 = 1 := (hL.k 116 1 601 (by decide) rfl).1
theorem Lz_116 (hL : Lay h) : gZ h 116 = 601 := (hL.k 116 1 601 (by decide) rfl).2
theorem Ln_116 (hL : Lay h) : 116 < gN h := hL.n (by decide)
theorem Lk_117 (hL : Lay h) : gK h 117 = 1 := (hL.k 117 1 0 (by decide) rfl).1
theorem Lz_117 (hL : Lay h) : gZ h 117 = 0 := (hL.k 117 1 0 (by decide) rfl).2
theorem Ln_117 (hL : Lay h) : 117 < gN h := hL.n (by decide)
theorem Lk_118 (hL : Lay h) : gK h 118 = 22 := (hL.k 118 22 75 (by decide) rfl).1
theorem Ln_118 (hL : Lay h) : 118 < gN h := hL.n (by decide)
theorem Lk_119 (hL : Lay h) : gK h 119 = 1 := (hL.k 119 1 500 (by decide) rfl).1
theorem Lz_119 (hL : Lay h) : gZ h 119 = 500 := (hL.k 119 1 500 (by decide) rfl).2
theorem Ln_119 (hL : Lay h) : 119 < gN h := hL.n (by decide)
theorem Lk_120 (hL : Lay h) : gK h 120 = 1 := (hL.k 120 1 8 (by decide) rfl).1
theorem Lz_120 (hL : Lay h) : gZ h 120 = 8 := (hL.k 120 1 8 (by decide) rfl).2
theorem Ln_120 (hL : Lay h) : 120 < gN h := hL.n (by decide)
theorem Lk_121 (hL : Lay h) : gK h 121 = 1 := (hL.k 121 1 64 (by decide) rfl).1
theorem Lz_121 (hL : Lay h) : gZ h 121 = 64 := (hL.k 121 1 64 (by decide) rfl).2
theorem Ln_121 (hL : Lay h) : 121 < gN h := hL.n (by decide)
theorem Lk_122 (hL : Lay h) : gK h 122 = 1 := (hL.k 122 1 8 (by decide) rfl).1
theorem Lz_122 (hL : Lay h) : gZ h 122 = 8 := (hL.k 122 1 8 (by decide) rfl).2
theorem Ln_122 (hL : Lay h) : 122 < gN h := hL.n (by decide)
theorem Lk_123 (hL : Lay h) : gK h 123 = 1 := (hL.k 123 1 64 (by decide) rfl).1
theorem Lz_123 (hL : Lay h) : gZ h 123 = 64 := (hL.k 123 1 64 (by decide) rfl).2
theorem Ln_123 (hL : Lay h) : 123 < gN h := hL.n (by decide)
theorem Lk_124 (hL : Lay h) : gK h 124 = 1 := (hL.k 124 1 8 (by decide) rfl).1
theorem Lz_124 (hL : Lay h) : gZ h 124 = 8 := (hL.k 124 1 8 (by decide) rfl).2
theorem Ln_124 (hL : Lay h) : 124 < gN h := hL.n (by decide)
theorem Lk_125 (hL : Lay h) : gK h 125 = 1 := (hL.k 125 1 8 (by decide) rfl).1
theorem Lz_125 (hL : Lay h) : gZ h 125 = 8 := (hL.k 125 1 8 (by decide) rfl).2
theorem Ln_125 (hL : Lay h) : 125 < gN h := hL.n (by decide)
theorem Lk_126 (hL : Lay h) : gK h 126 = 1 := (hL.k 126 1 8 (by decide) rfl).1
theorem Lz_126 (hL : Lay h) : gZ h 126 = 8 := (hL.k 126 1 8 (by decide) rfl).2
theorem Ln_126 (hL : Lay h) : 126 < gN h := hL.n (by decide)
theorem Lk_127 (hL : Lay h) : gK h 127 = 1 := (hL.k 127 1 64 (by decide) rfl).1
theorem Lz_127 (hL : Lay h) : gZ h 127 = 64 := (hL.k 127 1 64 (by decide) rfl).2
theorem Ln_127 (hL : Lay h) : 127 < gN h := hL.n (by decide)
theorem Lk_128 (hL : Lay h) : gK h 128 = 1 := (hL.k 128 1 64 (by decide) rfl).1
theorem Lz_128 (hL : Lay h) : gZ h 128 = 64 := (hL.k 128 1 64 (by decide) rfl).2
theorem Ln_128 (hL : Lay h) : 128 < gN h := hL.n (by decide)
theorem Lk_129 (hL : Lay h) : gK h 129 = 1 := (hL.k 129 1 6 (by decide) rfl).1
theorem Lz_129 (hL : Lay h) : gZ h 129 = 6 := (hL.k 129 1 6 (by decide) rfl).2
theorem Ln_129 (hL : Lay h) : 129 < gN h := hL.n (by decide)
theorem Lk_130 (hL : Lay h) : gK h 130 = 1 := (hL.k 130 1 6 (by decide) rfl).1
theorem Lz_130 (hL : Lay h) : gZ h 130 = 6 := (hL.k 130 1 6 (by decide) rfl).2
theorem Ln_130 (hL : Lay h) : 130 < gN h := hL.n (by decide)
theorem Lk_131 (hL : Lay h) : gK h 131 = 1 := (hL.k 131 1 6 (by decide) rfl).1
theorem Lz_131 (hL : Lay h) : gZ h 131 = 6 := (hL.k 131 1 6 (by decide) rfl).2
theorem Ln_131 (hL : Lay h) : 131 < gN h := hL.n (by decide)
theorem Lk_132 (hL : Lay h) : gK h 132 = 1 := (hL.k 132 1 400 (by decide) rfl).1
theorem Lz_132 (hL : Lay h) : gZ h 132 = 400 := (hL.k 132 1 400 (by decide) rfl).2
theorem Ln_132 (hL : Lay h) : 132 < gN h := hL.n (by decide)
theorem Lk_133 (hL : Lay h) : gK h 133 = 1 := (hL.k 133 1 100 (by decide) rfl).1
theorem Lz_133 (hL : Lay h) : gZ h 133 = 100 := (hL.k 133 1 100 (by decide) rfl).2
theorem Ln_133 (hL : Lay h) : 133 < gN h := hL.n (by decide)
theorem Lk_134 (hL : Lay h) : gK h 134 = 1 := (hL.k 134 1 100 (by decide) rfl).1
theorem Lz_134 (hL : Lay h) : gZ h 134 = 100 := (hL.k 134 1 100 (by decide) rfl).2
theorem Ln_134 (hL : Lay h) : 134 < gN h := hL.n (by decide)
theorem Lk_135 (hL : Lay h) : gK h 135 = 1 := (hL.k 135 1 100 (by decide) rfl).1
theorem Lz_135 (hL : Lay h) : gZ h 135 = 100 := (hL.k 135 1 100 (by decide) rfl).2
theorem Ln_135 (hL : Lay h) : 135 < gN h := hL.n (by decide)
theorem Lk_136 (hL : Lay h) : gK h 136 = 1 := (hL.k 136 1 5 (by decide) rfl).1
theorem Lz_136 (hL : Lay h) : gZ h 136 = 5 := (hL.k 136 1 5 (by decide) rfl).2
theorem Ln_136 (hL : Lay h) : 136 < gN h := hL.n (by decide)
theorem Lk_137 (hL : Lay h) : gK h 137 = 1 := (hL.k 137 1 5 (by decide) rfl).1
theorem Lz_137 (hL : Lay h) : gZ h 137 = 5 := (hL.k 137 1 5 (by decide) rfl).2
theorem Ln_137 (hL : Lay h) : 137 < gN h := hL.n (by decide)
theorem Lk_138 (hL : Lay h) : gK h 138 = 1 := (hL.k 138 1 40 (by decide) rfl).1
theorem Lz_138 (hL : Lay h) : gZ h 138 = 40 := (hL.k 138 1 40 (by decide) rfl).2
theorem Ln_138 (hL : Lay h) : 138 < gN h := hL.n (by decide)
theorem Lk_139 (hL : Lay h) : gK h 139 = 1 := (hL.k 139 1 6 (by decide) rfl).1
theorem Lz_139 (hL : Lay h) : gZ h 139 = 6 := (hL.k 139 1 6 (by decide) rfl).2
theorem Ln_139 (hL : Lay h) : 139 < gN h := hL.n (by decide)
theorem Lk_140 (hL : Lay h) : gK h 140 = 4 := (hL.k 140 4 102400 (by decide) rfl).1
theorem Lz_140 (hL : Lay h) : gZ h 140 = 102400 := (hL.k 140 4 102400 (by decide) rfl).2
theorem Ln_140 (hL : Lay h) : 140 < gN h := hL.n (by decide)
theorem Lk_141 (hL : Lay h) : gK h 141 = 1 := (hL.k 141 1 20 (by decide) rfl).1
theorem Lz_141 (hL : Lay h) : gZ h 141 = 20 := (hL.k 141 1 20 (by decide) rfl).2
theorem Ln_141 (hL : Lay h) : 141 < gN h := hL.n (by decide)
theorem Lk_142 (hL : Lay h) : gK h 142 = 1 := (hL.k 142 1 5 (by decide) rfl).1
theorem Lz_142 (hL : Lay h) : gZ h 142 = 5 := (hL.k 142 1 5 (by decide) rfl).2
theorem Ln_142 (hL : Lay h) : 142 < gN h := hL.n (by decide)
theorem Lk_143 (hL : Lay h) : gK h 143 = 1 := (hL.k 143 1 2000 (by decide) rfl).1
theorem Lz_143 (hL : Lay h) : gZ h 143 = 2000 := (hL.k 143 1 2000 (by decide) rfl).2
theorem Ln_143 (hL : Lay h) : 143 < gN h := hL.n (by decide)
theorem Lk_144 (hL : Lay h) : gK h 144 = 1 := (hL.k 144 1 4096 (by decide) rfl).1
theorem Lz_144 (hL : Lay h) : gZ h 144 = 4096 := (hL.k 144 1 4096 (by decide) rfl).2
theorem Ln_144 (hL : Lay h) : 144 < gN h := hL.n (by decide)
theorem Lk_145 (hL : Lay h) : gK h 145 = 1 := (hL.k 145 1 8 (by decide) rfl).1
theorem Lz_145 (hL : Lay h) : gZ h 145 = 8 := (hL.k 145 1 8 (by decide) rfl).2
theorem Ln_145 (hL : Lay h) : 145 < gN h := hL.n (by decide)
theorem Lk_146 (hL : Lay h) : gK h 146 = 1 := (hL.k 146 1 8 (by decide) rfl).1
theorem Lz_146 (hL : Lay h) : gZ h 146 = 8 := (hL.k 146 1 8 (by decide) rfl).2
theorem Ln_146 (hL : Lay h) : 146 < gN h := hL.n (by decide)
theorem Lk_147 (hL : Lay h) : gK h 147 = 1 := (hL.k 147 1 8 (by decide) rfl).1
theorem Lz_147 (hL : Lay h) : gZ h 147 = 8 := (hL.k 147 1 8 (by decide) rfl).2
theorem Ln_147 (hL : Lay h) : 147 < gN h := hL.n (by decide)
theorem Lk_148 (hL : Lay h) : gK h 148 = 3 := (hL.k 148 3 8 (by decide) rfl).1
theorem Lz_148 (hL : Lay h) : gZ h 148 = 8 := (hL.k 148 3 8 (by decide) rfl).2
theorem Ln_148 (hL : Lay h) : 148 < gN h := hL.n (by decide)
theorem Lk_149 (hL : Lay h) : gK h 149 = 1 := (hL.k 149 1 15625 (by decide) rfl).1
theorem Lz_149 (hL : Lay h) : gZ h 149 = 15625 := (hL.k 149 1 15625 (by decide) rfl).2
theorem Ln_149 (hL : Lay h) : 149 < gN h := hL.n (by decide)
theorem Lk_150 (hL : Lay h) : gK h 150 = 1 := (hL.k 150 1 400 (by decide) rfl).1
theorem Lz_150 (hL : Lay h) : gZ h 150 = 400 := (hL.k 150 1 400 (by decide) rfl).2
theorem Ln_150 (hL : Lay h) : 150 < gN h := hL.n (by decide)
theorem Lk_151 (hL : Lay h) : gK h 151 = 1 := (hL.k 151 1 3200 (by decide) rfl).1
theorem Lz_151 (hL : Lay h) : gZ h 151 = 3200 := (hL.k 151 1 3200 (by decide) rfl).2
theorem Ln_151 (hL : Lay h) : 151 < gN h := hL.n (by decide)
theorem Lk_152 (hL : Lay h) : gK h 152 = 1 := (hL.k 152 1 100 (by decide) rfl).1
theorem Lz_152 (hL : Lay h) : gZ h 152 = 100 := (hL.k 152 1 100 (by decide) rfl).2
theorem Ln_152 (hL : Lay h) : 152 < gN h := hL.n (by decide)
theorem Lk_153 (hL : Lay h) : gK h 153 = 1 := (hL.k 153 1 2000 (by decide) rfl).1
theorem Lz_153 (hL : Lay h) : gZ h 153 = 2000 := (hL.k 153 1 2000 (by decide) rfl).2
theorem Ln_153 (hL : Lay h) : 153 < gN h := hL.n (by decide)
theorem Lk_154 (hL : Lay h) : gK h 154 = 4 := (hL.k 154 4 1 (by decide) rfl).1
theorem Lz_154 (hL : Lay h) : gZ h 154 = 1 := (hL.k 154 4 1 (by decide) rfl).2
theorem Ln_154 (hL : Lay h) : 154 < gN h := hL.n (by decide)
theorem Lr_1_0 (hL : Lay h) : gR h 1 0 = 2 := hL.r 0 1 0 2 rfl
theorem Lr_1_2 (hL : Lay h) : gR h 1 2 = 3 := hL.r 1 1 2 3 rfl
theorem Lr_1_3 (hL : Lay h) : gR h 1 3 = 4 := hL.r 2 1 3 4 rfl
theorem Lr_1_4 (hL : Lay h) : gR h 1 4 = 5 := hL.r 3 1 4 5 rfl
theorem Lr_1_7 (hL : Lay h) : gR h 1 7 = 34 := hL.r 4 1 7 34 rfl
theorem Lr_1_9 (hL : Lay h) : gR h 1 9 = 80 := hL.r 5 1 9 80 rfl
theorem Lr_1_10 (hL : Lay h) : gR h 1 10 = 91 := hL.r 6 1 10 91 rfl
theorem Lr_1_11 (hL : Lay h) : gR h 1 11 = 96 := hL.r 7 1 11 96 rfl
theorem Lr_1_12 (hL : Lay h) : gR h 1 12 = 101 := hL.r 8 1 12 101 rfl
theorem Lr_1_13 (hL : Lay h) : gR h 1 13 = 106 := hL.r 9 1 13 106 rfl
theorem Lr_1_14 (hL : Lay h) : gR h 1 14 = 107 := hL.r 10 1 14 107 rfl
theorem Lr_1_15 (hL : Lay h) : gR h 1 15 = 116 := hL.r 11 1 15 116 rfl
theorem Lr_1_16 (hL : Lay h) : gR h 1 16 = 117 := hL.r 12 1 16 117 rfl
theorem Lr_3_0 (hL : Lay h) : gR h 3 0 = 2 := hL.r 13 3 0 2 rfl
theorem Lr_4_0 (hL : Lay h) : gR h 4 0 = 3 := hL.r 14 4 0 3 rfl
theorem Lr_5_0 (hL : Lay h) : gR h 5 0 = 3 := hL.r 15 5 0 3 rfl
theorem Lr_6_1 (hL : Lay h) : gR h 6 1 = 7 := hL.r 16 6 1 7 rfl
theorem Lr_6_2 (hL : Lay h) : gR h 6 2 = 8 := hL.r 17 6 2 8 rfl
theorem Lr_6_3 (hL : Lay h) : gR h 6 3 = 12 := hL.r 18 6 3 12 rfl
theorem Lr_6_5 (hL : Lay h) : gR h 6 5 = 16 := hL.r 19 6 5 16 rfl
theorem Lr_6_6 (hL : Lay h) : gR h 6 6 = 17 := hL.r 20 6 6 17 rfl
theorem Lr_6_7 (hL : Lay h) : gR h 6 7 = 18 := hL.r 21 6 7 18 rfl
theorem Lr_6_8 (hL : Lay h) : gR h 6 8 = 19 := hL.r 22 6 8 19 rfl
theorem Lr_8_0 (hL : Lay h) : gR h 8 0 = 9 := hL.r 23 8 0 9 rfl
theorem Lr_8_1 (hL : Lay h) : gR h 8 1 = 10 := hL.r 24 8 1 10 rfl
theorem Lr_8_2 (hL : Lay h) : gR h 8 2 = 11 := hL.r 25 8 2 11 rfl
theorem Lr_12_0 (hL : Lay h) : gR h 12 0 = 13 := hL.r 26 12 0 13 rfl
theorem Lr_12_1 (hL : Lay h) : gR h 12 1 = 14 := hL.r 27 12 1 14 rfl
theorem Lr_12_2 (hL : Lay h) : gR h 12 2 = 15 := hL.r 28 12 2 15 rfl
theorem Lr_20_1 (hL : Lay h) : gR h 20 1 = 21 := hL.r 29 20 1 21 rfl
theorem Lr_20_2 (hL : Lay h) : gR h 20 2 = 22 := hL.r 30 20 2 22 rfl
theorem Lr_20_3 (hL : Lay h) : gR h 20 3 = 26 := hL.r 31 20 3 26 rfl
theorem Lr_20_5 (hL : Lay h) : gR h 20 5 = 30 := hL.r 32 20 5 30 rfl
theorem Lr_20_6 (hL : Lay h) : gR h 20 6 = 31 := hL.r 33 20 6 31 rfl
theorem Lr_20_7 (hL : Lay h) : gR h 20 7 = 32 := hL.r 34 20 7 32 rfl
theorem Lr_20_8 (hL : Lay h) : gR h 20 8 = 33 := hL.r 35 20 8 33 rfl
theorem Lr_22_0 (hL : Lay h) : gR h 22 0 = 23 := hL.r 36 22 0 23 rfl
theorem Lr_22_1 (hL : Lay h) : gR h 22 1 = 24 := hL.r 37 22 1 24 rfl
theorem Lr_22_2 (hL : Lay h) : gR h 22 2 = 25 := hL.r 38 22 2 25 rfl
theorem Lr_26_0 (hL : Lay h) : gR h 26 0 = 27 := hL.r 39 26 0 27 rfl
theorem Lr_26_1 (hL : Lay h) : gR h 26 1 = 28 := hL.r 40 26 1 28 rfl
theorem Lr_26_2 (hL : Lay h) : gR h 26 2 = 29 := hL.r 41 26 2 29 rfl
theorem Lr_34_0 (hL : Lay h) : gR h 34 0 = 35 := hL.r 42 34 0 35 rfl
theorem Lr_34_1 (hL : Lay h) : gR h 34 1 = 40 := hL.r 43 34 1 40 rfl
theorem Lr_34_2 (hL : Lay h) : gR h 34 2 = 45 := hL.r 44 34 2 45 rfl
theorem Lr_34_3 (hL : Lay h) : gR h 34 3 = 50 := hL.r 45 34 3 50 rfl
theorem Lr_34_4 (hL : Lay h) : gR h 34 4 = 55 := hL.r 46 34 4 55 rfl
theorem Lr_34_5 (hL : Lay h) : gR h 34 5 = 60 := hL.r 47 34 5 60 rfl
theorem Lr_34_6 (hL : Lay h) : gR h 34 6 = 65 := hL.r 48 34 6 65 rfl
theorem Lr_34_7 (hL : Lay h) : gR h 34 7 = 70 := hL.r 49 34 7 70 rfl
theorem Lr_34_8 (hL : Lay h) : gR h 34 8 = 75 := hL.r 50 34 8 75 rfl
theorem Lr_35_0 (hL : Lay h) : gR h 35 0 = 36 := hL.r 51 35 0 36 rfl
theorem Lr_35_1 (hL : Lay h) : gR h 35 1 = 37 := hL.r 52 35 1 37 rfl
theorem Lr_35_2 (hL : Lay h) : gR h 35 2 = 38 := hL.r 53 35 2 38 rfl
theorem Lr_35_3 (hL : Lay h) : gR h 35 3 = 39 := hL.r 54 35 3 39 rfl
theorem Lr_40_0 (hL : Lay h) : gR h 40 0 = 41 := hL.r 55 40 0 41 rfl
theorem Lr_40_1 (hL : Lay h) : gR h 40 1 = 42 := hL.r 56 40 1 42 rfl
theorem Lr_40_2 (hL : Lay h) : gR h 40 2 = 43 := hL.r 57 40 2 43 rfl
theorem Lr_40_3 (hL : Lay h) : gR h 40 3 = 44 := hL.r 58 40 3 44 rfl
theorem Lr_45_0 (hL : Lay h) : gR h 45 0 = 46 := hL.r 59 45 0 46 rfl
theorem Lr_45_1 (hL : Lay h) : gR h 45 1 = 47 := hL.r 60 45 1 47 rfl
theorem Lr_45_2 (hL : Lay h) : gR h 45 2 = 48 := hL.r 61 45 2 48 rfl
theorem Lr_45_3 (hL : Lay h) : gR h 45 3 = 49 := hL.r 62 45 3 49 rfl
theorem Lr_50_0 (hL : Lay h) : gR h 50 0 = 51 := hL.r 63 50 0 51 rfl
theorem Lr_50_1 (hL : Lay h) : gR h 50 1 = 52 := hL.r 64 50 1 52 rfl
theorem Lr_50_2 (hL : Lay h) : gR h 50 2 = 53 := hL.r 65 50 2 53 rfl
theorem Lr_50_3 (hL : Lay h) : gR h 50 3 = 54 := hL.r 66 50 3 54 rfl
theorem Lr_55_0 (hL : Lay h) : gR h 55 0 = 56 := hL.r 67 55 0 56 rfl
theorem Lr_55_1 (hL : Lay h) : gR h 55 1 = 57 := hL.r 68 55 1 57 rfl
theorem Lr_55_2 (hL : Lay h) : gR h 55 2 = 58 := hL.r 69 55 2 58 rfl
theorem Lr_55_3 (hL : Lay h) : gR h 55 3 = 59 := hL.r 70 55 3 59 rfl
theorem Lr_60_0 (hL : Lay h) : gR h 60 0 = 61 := hL.r 71 60 0 61 rfl
theorem Lr_60_1 (hL : Lay h) : gR h 60 1 = 62 := hL.r 72 60 1 62 rfl
theorem Lr_60_2 (hL : Lay h) : gR h 60 2 = 63 := hL.r 73 60 2 63 rfl
theorem Lr_60_3 (hL : Lay h) : gR h 60 3 = 64 := hL.r 74 60 3 64 rfl
theorem Lr_65_0 (hL : Lay h) : gR h 65 0 = 66 := hL.r 75 65 0 66 rfl
theorem Lr_65_1 (hL : Lay h) : gR h 65 1 = 67 := hL.r 76 65 1 67 rfl
theorem Lr_65_2 (hL : Lay h) : gR h 65 2 = 68 := hL.r 77 65 2 68 rfl
theorem Lr_65_3 (hL : Lay h) : gR h 65 3 = 69 := hL.r 78 65 3 69 rfl
theorem Lr_70_0 (hL : Lay h) : gR h 70 0 = 71 := hL.r 79 70 0 71 rfl
theorem Lr_70_1 (hL : Lay h) : gR h 70 1 = 72 := hL.r 80 70 1 72 rfl
theorem Lr_70_2 (hL : Lay h) : gR h 70 2 = 73 := hL.r 81 70 2 73 rfl
theorem Lr_70_3 (hL : Lay h) : gR h 70 3 = 74 := hL.r 82 70 3 74 rfl
theorem Lr_75_0 (hL : Lay h) : gR h 75 0 = 76 := hL.r 83 75 0 76 rfl
theorem Lr_75_1 (hL : Lay h) : gR h 75 1 = 77 := hL.r 84 75 1 77 rfl
theorem Lr_75_2 (hL : Lay h) : gR h 75 2 = 78 := hL.r 85 75 2 78 rfl
theorem Lr_75_3 (hL : Lay h) : gR h 75 3 = 79 := hL.r 86 75 3 79 rfl
theorem Lr_80_5 (hL : Lay h) : gR h 80 5 = 81 := hL.r 87 80 5 81 rfl
theorem Lr_80_6 (hL : Lay h) : gR h 80 6 = 82 := hL.r 88 80 6 82 rfl
theorem Lr_80_7 (hL : Lay h) : gR h 80 7 = 83 := hL.r 89 80 7 83 rfl
theorem Lr_80_8 (hL : Lay h) : gR h 80 8 = 84 := hL.r 90 80 8 84 rfl
theorem Lr_80_9 (hL : Lay h) : gR h 80 9 = 85 := hL.r 91 80 9 85 rfl
theorem Lr_80_10 (hL : Lay h) : gR h 80 10 = 86 := hL.r 92 80 10 86 rfl
theorem Lr_80_11 (hL : Lay h) : gR h 80 11 = 87 := hL.r 93 80 11 87 rfl
theorem Lr_80_12 (hL : Lay h) : gR h 80 12 = 88 := hL.r 94 80 12 88 rfl
theorem Lr_80_13 (hL : Lay h) : gR h 80 13 = 89 := hL.r 95 80 13 89 rfl
theorem Lr_80_14 (hL : Lay h) : gR h 80 14 = 90 := hL.r 96 80 14 90 rfl
theorem Lr_91_0 (hL : Lay h) : gR h 91 0 = 80 := hL.r 97 91 0 80 rfl
theorem Lr_91_4 (hL : Lay h) : gR h 91 4 = 92 := hL.r 98 91 4 92 rfl
theorem Lr_91_5 (hL : Lay h) : gR h 91 5 = 93 := hL.r 99 91 5 93 rfl
theorem Lr_91_10 (hL : Lay h) : gR h 91 10 = 94 := hL.r 100 91 10 94 rfl
theorem Lr_91_11 (hL : Lay h) : gR h 91 11 = 95 := hL.r 101 91 11 95 rfl
theorem Lr_96_0 (hL : Lay h) : gR h 96 0 = 80 := hL.r 102 96 0 80 rfl
theorem Lr_96_1 (hL : Lay h) : gR h 96 1 = 91 := hL.r 103 96 1 91 rfl
theorem Lr_96_7 (hL : Lay h) : gR h 96 7 = 97 := hL.r 104 96 7 97 rfl
theorem Lr_96_9 (hL : Lay h) : gR h 96 9 = 98 := hL.r 105 96 9 98 rfl
theorem Lr_96_10 (hL : Lay h) : gR h 96 10 = 99 := hL.r 106 96 10 99 rfl
theorem Lr_101_0 (hL : Lay h) : gR h 101 0 = 80 := hL.r 107 101 0 80 rfl
theorem Lr_101_1 (hL : Lay h) : gR h 101 1 = 91 := hL.r 108 101 1 91 rfl
theorem Lr_101_7 (hL : Lay h) : gR h 101 7 = 102 := hL.r 109 101 7 102 rfl
theorem Lr_101_9 (hL : Lay h) : gR h 101 9 = 103 := hL.r 110 101 9 103 rfl
theorem Lr_101_10 (hL : Lay h) : gR h 101 10 = 104 := hL.r 111 101 10 104 rfl
theorem Lr_106_0 (hL : Lay h) : gR h 106 0 = 80 := hL.r 112 106 0 80 rfl
theorem Lr_106_1 (hL : Lay h) : gR h 106 1 = 91 := hL.r 113 106 1 91 rfl
theorem Lr_107_1 (hL : Lay h) : gR h 107 1 = 108 := hL.r 114 107 1 108 rfl
theorem Lr_107_2 (hL : Lay h) : gR h 107 2 = 109 := hL.r 115 107 2 109 rfl
theorem Lr_107_3 (hL : Lay h) : gR h 107 3 = 110 := hL.r 116 107 3 110 rfl
theorem Lr_118_1 (hL : Lay h) : gR h 118 1 = 119 := hL.r 117 118 1 119 rfl
theorem Lr_118_11 (hL : Lay h) : gR h 118 11 = 120 := hL.r 118 118 11 120 rfl
theorem Lr_118_14 (hL : Lay h) : gR h 118 14 = 121 := hL.r 119 118 14 121 rfl
theorem Lr_118_15 (hL : Lay h) : gR h 118 15 = 122 := hL.r 120 118 15 122 rfl
theorem Lr_118_16 (hL : Lay h) : gR h 118 16 = 123 := hL.r 121 118 16 123 rfl
theorem Lr_118_17 (hL : Lay h) : gR h 118 17 = 124 := hL.r 122 118 17 124 rfl
theorem Lr_118_18 (hL : Lay h) : gR h 118 18 = 125 := hL.r 123 118 18 125 rfl
theorem Lr_118_19 (hL : Lay h) : gR h 118 19 = 126 := hL.r 124 118 19 126 rfl
theorem Lr_118_20 (hL : Lay h) : gR h 118 20 = 127 := hL.r 125 118 20 127 rfl
theorem Lr_118_21 (hL : Lay h) : gR h 118 21 = 128 := hL.r 126 118 21 128 rfl
theorem Lr_118_30 (hL : Lay h) : gR h 118 30 = 129 := hL.r 127 118 30 129 rfl
theorem Lr_118_31 (hL : Lay h) : gR h 118 31 = 130 := hL.r 128 118 31 130 rfl
theorem Lr_118_32 (hL : Lay h) : gR h 118 32 = 131 := hL.r 129 118 32 131 rfl
theorem Lr_118_33 (hL : Lay h) : gR h 118 33 = 132 := hL.r 130 118 33 132 rfl
theorem Lr_118_41 (hL : Lay h) : gR h 118 41 = 133 := hL.r 131 118 41 133 rfl
theorem Lr_118_42 (hL : Lay h) : gR h 118 42 = 134 := hL.r 132 118 42 134 rfl
theorem Lr_118_43 (hL : Lay h) : gR h 118 43 = 135 := hL.r 133 118 43 135 rfl
theorem Lr_118_44 (hL : Lay h) : gR h 118 44 = 136 := hL.r 134 118 44 136 rfl
theorem Lr_118_45 (hL : Lay h) : gR h 118 45 = 137 := hL.r 135 118 45 137 rfl
theorem Lr_118_46 (hL : Lay h) : gR h 118 46 = 138 := hL.r 136 118 46 138 rfl
theorem Lr_118_47 (hL : Lay h) : gR h 118 47 = 139 := hL.r 137 118 47 139 rfl
theorem Lr_118_48 (hL : Lay h) : gR h 118 48 = 140 := hL.r 138 118 48 140 rfl
theorem Lr_118_52 (hL : Lay h) : gR h 118 52 = 141 := hL.r 139 118 52 141 rfl
theorem Lr_118_53 (hL : Lay h) : gR h 118 53 = 142 := hL.r 140 118 53 142 rfl
theorem Lr_118_54 (hL : Lay h) : gR h 118 54 = 143 := hL.r 141 118 54 143 rfl
theorem Lr_118_56 (hL : Lay h) : gR h 118 56 = 144 := hL.r 142 118 56 144 rfl
theorem Lr_118_57 (hL : Lay h) : gR h 118 57 = 145 := hL.r 143 118 57 145 rfl
theorem Lr_118_60 (hL : Lay h) : gR h 118 60 = 146 := hL.r 144 118 60 146 rfl
theorem Lr_118_61 (hL : Lay h) : gR h 118 61 = 147 := hL.r 145 118 61 147 rfl
theorem Lr_118_62 (hL : Lay h) : gR h 118 62 = 148 := hL.r 146 118 62 148 rfl
theorem Lr_118_68 (hL : Lay h) : gR h 118 68 = 149 := hL.r 147 118 68 149 rfl
theorem Lr_118_70 (hL : Lay h) : gR h 118 70 = 150 := hL.r 148 118 70 150 rfl
theorem Lr_118_71 (hL : Lay h) : gR h 118 71 = 151 := hL.r 149 118 71 151 rfl
theorem Lr_118_72 (hL : Lay h) : gR h 118 72 = 152 := hL.r 150 118 72 152 rfl
theorem Lr_118_74 (hL : Lay h) : gR h 118 74 = 153 := hL.r 151 118 74 153 rfl
theorem Ck_1000010 (hL : Lay h) : gK h 1000010 = 60 := (hL.c 0 60 0 (by decide) rfl).1
theorem Ck_1000011 (hL : Lay h) : gK h 1000011 = 2 := (hL.c 1 2 6 (by decide) rfl).1
theorem Cz_1000011 (hL : Lay h) : gZ h 1000011 = 6 := (hL.c 1 2 6 (by decide) rfl).2
theorem Cr_1000010 (hL : Lay h) : gR h 1000010 0 = 1000011 := hL.2.2.2.2.2.2 0 (by decide)
theorem Ck_1000012 (hL : Lay h) : gK h 1000012 = 60 := (hL.c 2 60 0 (by decide) rfl).1
theorem Ck_1000013 (hL : Lay h) : gK h 1000013 = 2 := (hL.c 3 2 6 (by decide) rfl).1
theorem Cz_1000013 (hL : Lay h) : gZ h 1000013 = 6 := (hL.c 3 2 6 (by decide) rfl).2
theorem Cr_1000012 (hL : Lay h) : gR h 1000012 0 = 1000013 := hL.2.2.2.2.2.2 1 (by decide)
theorem Ck_1000014 (hL : Lay h) : gK h 1000014 = 60 := (hL.c 4 60 0 (by decide) rfl).1
theorem Ck_1000015 (hL : Lay h) : gK h 1000015 = 2 := (hL.c 5 2 5 (by decide) rfl).1
theorem Cz_1000015 (hL : Lay h) : gZ h 1000015 = 5 := (hL.c 5 2 5 (by decide) rfl).2
theorem Cr_1000014 (hL : Lay h) : gR h 1000014 0 = 1000015 := hL.2.2.2.2.2.2 2 (by decide)
theorem Ck_1000016 (hL : Lay h) : gK h 1000016 = 60 := (hL.c 6 60 0 (by decide) rfl).1
theorem Ck_1000017 (hL : Lay h) : gK h 1000017 = 2 := (hL.c 7 2 3 (by decide) rfl).1
theorem Cz_1000017 (hL : Lay h) : gZ h 1000017 = 3 := (hL.c 7 2 3 (by decide) rfl).2
theorem Cr_1000016 (hL : Lay h) : gR h 1000016 0 = 1000017 := hL.2.2.2.2.2.2 3 (by decide)
theorem Ck_1000018 (hL : Lay h) : gK h 1000018 = 60 := (hL.c 8 60 0 (by decide) rfl).1
theorem Ck_1000019 (hL : Lay h) : gK h 1000019 = 2 := (hL.c 9 2 2 (by decide) rfl).1
theorem Cz_1000019 (hL : Lay h) : gZ h 1000019 = 2 := (hL.c 9 2 2 (by decide) rfl).2
theorem Cr_1000018 (hL : Lay h) : gR h 1000018 0 = 1000019 := hL.2.2.2.2.2.2 4 (by decide)
theorem Ck_1000020 (hL : Lay h) : gK h 1000020 = 60 := (hL.c 10 60 0 (by decide) rfl).1
theorem Ck_1000021 (hL : Lay h) : gK h 1000021 = 2 := (hL.c 11 2 2 (by decide) rfl).1
theorem Cz_1000021 (hL : Lay h) : gZ h 1000021 = 2 := (hL.c 11 2 2 (by decide) rfl).2
theorem Cr_1000020 (hL : Lay h) : gR h 1000020 0 = 1000021 := hL.2.2.2.2.2.2 5 (by decide)
theorem Ck_1000022 (hL : Lay h) : gK h 1000022 = 60 := (hL.c 12 60 0 (by decide) rfl).1
theorem Ck_1000023 (hL : Lay h) : gK h 1000023 = 2 := (hL.c 13 2 4 (by decide) rfl).1
theorem Cz_1000023 (hL : Lay h) : gZ h 1000023 = 4 := (hL.c 13 2 4 (by decide) rfl).2
theorem Cr_1000022 (hL : Lay h) : gR h 1000022 0 = 1000023 := hL.2.2.2.2.2.2 6 (by decide)
theorem Ck_1000024 (hL : Lay h) : gK h 1000024 = 60 := (hL.c 14 60 0 (by decide) rfl).1
theorem Ck_1000025 (hL : Lay h) : gK h 1000025 = 2 := (hL.c 15 2 5 (by decide) rfl).1
theorem Cz_1000025 (hL : Lay h) : gZ h 1000025 = 5 := (hL.c 15 2 5 (by decide) rfl).2
theorem Cr_1000024 (hL : Lay h) : gR h 1000024 0 = 1000025 := hL.2.2.2.2.2.2 7 (by decide)
theorem Ck_1000026 (hL : Lay h) : gK h 1000026 = 60 := (hL.c 16 60 0 (by decide) rfl).1
theorem Ck_1000027 (hL : Lay h) : gK h 1000027 = 2 := (hL.c 17 2 4 (by decide) rfl).1
theorem Cz_1000027 (hL : Lay h) : gZ h 1000027 = 4 := (hL.c 17 2 4 (by decide) rfl).2
theorem Cr_1000026 (hL : Lay h) : gR h 1000026 0 = 1000027 := hL.2.2.2.2.2.2 8 (by decide)
theorem Ck_1000028 (hL : Lay h) : gK h 1000028 = 60 := (hL.c 18 60 0 (by decide) rfl).1
theorem Ck_1000029 (hL : Lay h) : gK h 1000029 = 2 := (hL.c 19 2 2 (by decide) rfl).1
theorem Cz_1000029 (hL : Lay h) : gZ h 1000029 = 2 := (hL.c 19 2 2 (by decide) rfl).2
theorem Cr_1000028 (hL : Lay h) : gR h 1000028 0 = 1000029 := hL.2.2.2.2.2.2 9 (by decide)
theorem Ck_1000030 (hL : Lay h) : gK h 1000030 = 60 := (hL.c 20 60 0 (by decide) rfl).1
theorem Ck_1000031 (hL : Lay h) : gK h 1000031 = 2 := (hL.c 21 2 4 (by decide) rfl).1
theorem Cz_1000031 (hL : Lay h) : gZ h 1000031 = 4 := (hL.c 21 2 4 (by decide) rfl).2
theorem Cr_1000030 (hL : Lay h) : gR h 1000030 0 = 1000031 := hL.2.2.2.2.2.2 10 (by decide)
theorem Ck_1000032 (hL : Lay h) : gK h 1000032 = 60 := (hL.c 22 60 0 (by decide) rfl).1
theorem Ck_1000033 (hL : Lay h) : gK h 1000033 = 2 := (hL.c 23 2 5 (by decide) rfl).1
theorem Cz_1000033 (hL : Lay h) : gZ h 1000033 = 5 := (hL.c 23 2 5 (by decide) rfl).2
theorem Cr_1000032 (hL : Lay h) : gR h 1000032 0 = 1000033 := hL.2.2.2.2.2.2 11 (by decide)
theorem Ck_1000034 (hL : Lay h) : gK h 1000034 = 60 := (hL.c 24 60 0 (by decide) rfl).1
theorem Ck_1000035 (hL : Lay h) : gK h 1000035 = 2 := (hL.c 25 2 5 (by decide) rfl).1
theorem Cz_1000035 (hL : Lay h) : gZ h 1000035 = 5 := (hL.c 25 2 5 (by decide) rfl).2
theorem Cr_1000034 (hL : Lay h) : gR h 1000034 0 = 1000035 := hL.2.2.2.2.2.2 12 (by decide)
theorem Ck_1000036 (hL : Lay h) : gK h 1000036 = 60 := (hL.c 26 60 0 (by decide) rfl).1
theorem Ck_1000037 (hL : Lay h) : gK h 1000037 = 2 := (hL.c 27 2 5 (by decide) rfl).1
theorem Cz_1000037 (hL : Lay h) : gZ h 1000037 = 5 := (hL.c 27 2 5 (by decide) rfl).2
theorem Cr_1000036 (hL : Lay h) : gR h 1000036 0 = 1000037 := hL.2.2.2.2.2.2 13 (by decide)
theorem Ck_1000038 (hL : Lay h) : gK h 1000038 = 60 := (hL.c 28 60 0 (by decide) rfl).1
theorem Ck_1000039 (hL : Lay h) : gK h 1000039 = 2 := (hL.c 29 2 6 (by decide) rfl).1
theorem Cz_1000039 (hL : Lay h) : gZ h 1000039 = 6 := (hL.c 29 2 6 (by decide) rfl).2
theorem Cr_1000038 (hL : Lay h) : gR h 1000038 0 = 1000039 := hL.2.2.2.2.2.2 14 (by decide)
theorem Ck_1000040 (hL : Lay h) : gK h 1000040 = 60 := (hL.c 30 60 0 (by decide) rfl).1
theorem Ck_1000041 (hL : Lay h) : gK h 1000041 = 2 := (hL.c 31 2 6 (by decide) rfl).1
theorem Cz_1000041 (hL : Lay h) : gZ h 1000041 = 6 := (hL.c 31 2 6 (by decide) rfl).2
theorem Cr_1000040 (hL : Lay h) : gR h 1000040 0 = 1000041 := hL.2.2.2.2.2.2 15 (by decide)
theorem Ck_1000042 (hL : Lay h) : gK h 1000042 = 60 := (hL.c 32 60 0 (by decide) rfl).1
theorem Ck_1000043 (hL : Lay h) : gK h 1000043 = 2 := (hL.c 33 2 5 (by decide) rfl).1
theorem Cz_1000043 (hL : Lay h) : gZ h 1000043 = 5 := (hL.c 33 2 5 (by decide) rfl).2
theorem Cr_1000042 (hL : Lay h) : gR h 1000042 0 = 1000043 := hL.2.2.2.2.2.2 16 (by decide)
theorem Ck_1000044 (hL : Lay h) : gK h 1000044 = 60 := (hL.c 34 60 0 (by decide) rfl).1
theorem Ck_1000045 (hL : Lay h) : gK h 1000045 = 2 := (hL.c 35 2 3 (by decide) rfl).1
theorem Cz_1000045 (hL : Lay h) : gZ h 1000045 = 3 := (hL.c 35 2 3 (by decide) rfl).2
theorem Cr_1000044 (hL : Lay h) : gR h 1000044 0 = 1000045 := hL.2.2.2.2.2.2 17 (by decide)
theorem Ck_1000046 (hL : Lay h) : gK h 1000046 = 60 := (hL.c 36 60 0 (by decide) rfl).1
theorem Ck_1000047 (hL : Lay h) : gK h 1000047 = 2 := (hL.c 37 2 4 (by decide) rfl).1
theorem Cz_1000047 (hL : Lay h) : gZ h 1000047 = 4 := (hL.c 37 2 4 (by decide) rfl).2
theorem Cr_1000046 (hL : Lay h) : gR h 1000046 0 = 1000047 := hL.2.2.2.2.2.2 18 (by decide)
theorem Ck_1000048 (hL : Lay h) : gK h 1000048 = 60 := (hL.c 38 60 0 (by decide) rfl).1
theorem Ck_1000049 (hL : Lay h) : gK h 1000049 = 2 := (hL.c 39 2 3 (by decide) rfl).1
theorem Cz_1000049 (hL : Lay h) : gZ h 1000049 = 3 := (hL.c 39 2 3 (by decide) rfl).2
theorem Cr_1000048 (hL : Lay h) : gR h 1000048 0 = 1000049 := hL.2.2.2.2.2.2 19 (by decide)
theorem Ck_1000050 (hL : Lay h) : gK h 1000050 = 60 := (hL.c 40 60 0 (by decide) rfl).1
theorem Ck_1000051 (hL : Lay h) : gK h 1000051 = 2 := (hL.c 41 2 4 (by decide) rfl).1
theorem Cz_1000051 (hL : Lay h) : gZ h 1000051 = 4 := (hL.c 41 2 4 (by decide) rfl).2
theorem Cr_1000050 (hL : Lay h) : gR h 1000050 0 = 1000051 := hL.2.2.2.2.2.2 20 (by decide)
theorem Ck_1000052 (hL : Lay h) : gK h 1000052 = 60 := (hL.c 42 60 0 (by decide) rfl).1
theorem Ck_1000053 (hL : Lay h) : gK h 1000053 = 2 := (hL.c 43 2 3 (by decide) rfl).1
theorem Cz_1000053 (hL : Lay h) : gZ h 1000053 = 3 := (hL.c 43 2 3 (by decide) rfl).2
theorem Cr_1000052 (hL : Lay h) : gR h 1000052 0 = 1000053 := hL.2.2.2.2.2.2 21 (by decide)
theorem Ck_1000054 (hL : Lay h) : gK h 1000054 = 60 := (hL.c 44 60 0 (by decide) rfl).1
theorem Ck_1000055 (hL : Lay h) : gK h 1000055 = 2 := (hL.c 45 2 4 (by decide) rfl).1
theorem Cz_1000055 (hL : Lay h) : gZ h 1000055 = 4 := (hL.c 45 2 4 (by decide) rfl).2
theorem Cr_1000054 (hL : Lay h) : gR h 1000054 0 = 1000055 := hL.2.2.2.2.2.2 22 (by decide)
theorem Ck_1000056 (hL : Lay h) : gK h 1000056 = 60 := (hL.c 46 60 0 (by decide) rfl).1
theorem Ck_1000057 (hL : Lay h) : gK h 1000057 = 2 := (hL.c 47 2 2 (by decide) rfl).1
theorem Cz_1000057 (hL : Lay h) : gZ h 1000057 = 2 := (hL.c 47 2 2 (by decide) rfl).2
theorem Cr_1000056 (hL : Lay h) : gR h 1000056 0 = 1000057 := hL.2.2.2.2.2.2 23 (by decide)
theorem Ck_1000058 (hL : Lay h) : gK h 1000058 = 60 := (hL.c 48 60 0 (by decide) rfl).1
theorem Ck_1000059 (hL : Lay h) : gK h 1000059 = 2 := (hL.c 49 2 2 (by decide) rfl).1
theorem Cz_1000059 (hL : Lay h) : gZ h 1000059 = 2 := (hL.c 49 2 2 (by decide) rfl).2
theorem Cr_1000058 (hL : Lay h) : gR h 1000058 0 = 1000059 := hL.2.2.2.2.2.2 24 (by decide)
theorem Ck_1000060 (hL : Lay h) : gK h 1000060 = 60 := (hL.c 50 60 0 (by decide) rfl).1
theorem Ck_1000061 (hL : Lay h) : gK h 1000061 = 2 := (hL.c 51 2 4 (by decide) rfl).1
theorem Cz_1000061 (hL : Lay h) : gZ h 1000061 = 4 := (hL.c 51 2 4 (by decide) rfl).2
theorem Cr_1000060 (hL : Lay h) : gR h 1000060 0 = 1000061 := hL.2.2.2.2.2.2 25 (by decide)
theorem Ck_1000062 (hL : Lay h) : gK h 1000062 = 60 := (hL.c 52 60 0 (by decide) rfl).1
theorem Ck_1000063 (hL : Lay h) : gK h 1000063 = 2 := (hL.c 53 2 21 (by decide) rfl).1
theorem Cz_1000063 (hL : Lay h) : gZ h 1000063 = 21 := (hL.c 53 2 21 (by decide) rfl).2
theorem Cr_1000062 (hL : Lay h) : gR h 1000062 0 = 1000063 := hL.2.2.2.2.2.2 26 (by decide)
theorem Ck_1000064 (hL : Lay h) : gK h 1000064 = 60 := (hL.c 54 60 0 (by decide) rfl).1
theorem Ck_1000065 (hL : Lay h) : gK h 1000065 = 2 := (hL.c 55 2 6 (by decide) rfl).1
theorem Cz_1000065 (hL : Lay h) : gZ h 1000065 = 6 := (hL.c 55 2 6 (by decide) rfl).2
theorem Cr_1000064 (hL : Lay h) : gR h 1000064 0 = 1000065 := hL.2.2.2.2.2.2 27 (by decide)
theorem Ck_1000066 (hL : Lay h) : gK h 1000066 = 60 := (hL.c 56 60 0 (by decide) rfl).1
theorem Ck_1000067 (hL : Lay h) : gK h 1000067 = 2 := (hL.c 57 2 5 (by decide) rfl).1
theorem Cz_1000067 (hL : Lay h) : gZ h 1000067 = 5 := (hL.c 57 2 5 (by decide) rfl).2
theorem Cr_1000066 (hL : Lay h) : gR h 1000066 0 = 1000067 := hL.2.2.2.2.2.2 28 (by decide)
theorem Ck_1000068 (hL : Lay h) : gK h 1000068 = 60 := (hL.c 58 60 0 (by decide) rfl).1
theorem Ck_1000069 (hL : Lay h) : gK h 1000069 = 2 := (hL.c 59 2 3 (by decide) rfl).1
theorem Cz_1000069 (hL : Lay h) : gZ h 1000069 = 3 := (hL.c 59 2 3 (by decide) rfl).2
theorem Cr_1000068 (hL : Lay h) : gR h 1000068 0 = 1000069 := hL.2.2.2.2.2.2 29 (by decide)
theorem Ck_1000070 (hL : Lay h) : gK h 1000070 = 60 := (hL.c 60 60 0 (by decide) rfl).1
theorem Ck_1000071 (hL : Lay h) : gK h 1000071 = 2 := (hL.c 61 2 2 (by decide) rfl).1
theorem Cz_1000071 (hL : Lay h) : gZ h 1000071 = 2 := (hL.c 61 2 2 (by decide) rfl).2
theorem Cr_1000070 (hL : Lay h) : gR h 1000070 0 = 1000071 := hL.2.2.2.2.2.2 30 (by decide)
theorem Ck_1000072 (hL : Lay h) : gK h 1000072 = 60 := (hL.c 62 60 0 (by decide) rfl).1
theorem Ck_1000073 (hL : Lay h) : gK h 1000073 = 2 := (hL.c 63 2 2 (by decide) rfl).1
theorem Cz_1000073 (hL : Lay h) : gZ h 1000073 = 2 := (hL.c 63 2 2 (by decide) rfl).2
theorem Cr_1000072 (hL : Lay h) : gR h 1000072 0 = 1000073 := hL.2.2.2.2.2.2 31 (by decide)
theorem Ck_1000074 (hL : Lay h) : gK h 1000074 = 60 := (hL.c 64 60 0 (by decide) rfl).1
theorem Ck_1000075 (hL : Lay h) : gK h 1000075 = 2 := (hL.c 65 2 4 (by decide) rfl).1
theorem Cz_1000075 (hL : Lay h) : gZ h 1000075 = 4 := (hL.c 65 2 4 (by decide) rfl).2
theorem Cr_1000074 (hL : Lay h) : gR h 1000074 0 = 1000075 := hL.2.2.2.2.2.2 32 (by decide)
theorem Ck_1000076 (hL : Lay h) : gK h 1000076 = 60 := (hL.c 66 60 0 (by decide) rfl).1
theorem Ck_1000077 (hL : Lay h) : gK h 1000077 = 2 := (hL.c 67 2 5 (by decide) rfl).1
theorem Cz_1000077 (hL : Lay h) : gZ h 1000077 = 5 := (hL.c 67 2 5 (by decide) rfl).2
theorem Cr_1000076 (hL : Lay h) : gR h 1000076 0 = 1000077 := hL.2.2.2.2.2.2 33 (by decide)
theorem Ck_1000078 (hL : Lay h) : gK h 1000078 = 60 := (hL.c 68 60 0 (by decide) rfl).1
theorem Ck_1000079 (hL : Lay h) : gK h 1000079 = 2 := (hL.c 69 2 4 (by decide) rfl).1
theorem Cz_1000079 (hL : Lay h) : gZ h 1000079 = 4 := (hL.c 69 2 4 (by decide) rfl).2
theorem Cr_1000078 (hL : Lay h) : gR h 1000078 0 = 1000079 := hL.2.2.2.2.2.2 34 (by decide)
theorem Ck_1000080 (hL : Lay h) : gK h 1000080 = 60 := (hL.c 70 60 0 (by decide) rfl).1
theorem Ck_1000081 (hL : Lay h) : gK h 1000081 = 2 := (hL.c 71 2 2 (by decide) rfl).1
theorem Cz_1000081 (hL : Lay h) : gZ h 1000081 = 2 := (hL.c 71 2 2 (by decide) rfl).2
theorem Cr_1000080 (hL : Lay h) : gR h 1000080 0 = 1000081 := hL.2.2.2.2.2.2 35 (by decide)
theorem Ck_1000082 (hL : Lay h) : gK h 1000082 = 60 := (hL.c 72 60 0 (by decide) rfl).1
theorem Ck_1000083 (hL : Lay h) : gK h 1000083 = 2 := (hL.c 73 2 4 (by decide) rfl).1
theorem Cz_1000083 (hL : Lay h) : gZ h 1000083 = 4 := (hL.c 73 2 4 (by decide) rfl).2
theorem Cr_1000082 (hL : Lay h) : gR h 1000082 0 = 1000083 := hL.2.2.2.2.2.2 36 (by decide)
theorem Ck_1000084 (hL : Lay h) : gK h 1000084 = 60 := (hL.c 74 60 0 (by decide) rfl).1
theorem Ck_1000085 (hL : Lay h) : gK h 1000085 = 2 := (hL.c 75 2 5 (by decide) rfl).1
theorem Cz_1000085 (hL : Lay h) : gZ h 1000085 = 5 := (hL.c 75 2 5 (by decide) rfl).2
theorem Cr_1000084 (hL : Lay h) : gR h 1000084 0 = 1000085 := hL.2.2.2.2.2.2 37 (by decide)
theorem Ck_1000086 (hL : Lay h) : gK h 1000086 = 60 := (hL.c 76 60 0 (by decide) rfl).1
theorem Ck_1000087 (hL : Lay h) : gK h 1000087 = 2 := (hL.c 77 2 5 (by decide) rfl).1
theorem Cz_1000087 (hL : Lay h) : gZ h 1000087 = 5 := (hL.c 77 2 5 (by decide) rfl).2
theorem Cr_1000086 (hL : Lay h) : gR h 1000086 0 = 1000087 := hL.2.2.2.2.2.2 38 (by decide)
theorem Ck_1000088 (hL : Lay h) : gK h 1000088 = 60 := (hL.c 78 60 0 (by decide) rfl).1
theorem Ck_1000089 (hL : Lay h) : gK h 1000089 = 2 := (hL.c 79 2 6 (by decide) rfl).1
theorem Cz_1000089 (hL : Lay h) : gZ h 1000089 = 6 := (hL.c 79 2 6 (by decide) rfl).2
theorem Cr_1000088 (hL : Lay h) : gR h 1000088 0 = 1000089 := hL.2.2.2.2.2.2 39 (by decide)
theorem Ck_1000090 (hL : Lay h) : gK h 1000090 = 60 := (hL.c 80 60 0 (by decide) rfl).1
theorem Ck_1000091 (hL : Lay h) : gK h 1000091 = 2 := (hL.c 81 2 6 (by decide) rfl).1
theorem Cz_1000091 (hL : Lay h) : gZ h 1000091 = 6 := (hL.c 81 2 6 (by decide) rfl).2
theorem Cr_1000090 (hL : Lay h) : gR h 1000090 0 = 1000091 := hL.2.2.2.2.2.2 40 (by decide)
theorem Ck_1000092 (hL : Lay h) : gK h 1000092 = 60 := (hL.c 82 60 0 (by decide) rfl).1
theorem Ck_1000093 (hL : Lay h) : gK h 1000093 = 2 := (hL.c 83 2 5 (by decide) rfl).1
theorem Cz_1000093 (hL : Lay h) : gZ h 1000093 = 5 := (hL.c 83 2 5 (by decide) rfl).2
theorem Cr_1000092 (hL : Lay h) : gR h 1000092 0 = 1000093 := hL.2.2.2.2.2.2 41 (by decide)
theorem Ck_1000094 (hL : Lay h) : gK h 1000094 = 60 := (hL.c 84 60 0 (by decide) rfl).1
theorem Ck_1000095 (hL : Lay h) : gK h 1000095 = 2 := (hL.c 85 2 3 (by decide) rfl).1
theorem Cz_1000095 (hL : Lay h) : gZ h 1000095 = 3 := (hL.c 85 2 3 (by decide) rfl).2
theorem Cr_1000094 (hL : Lay h) : gR h 1000094 0 = 1000095 := hL.2.2.2.2.2.2 42 (by decide)
theorem Ck_1000096 (hL : Lay h) : gK h 1000096 = 60 := (hL.c 86 60 0 (by decide) rfl).1
theorem Ck_1000097 (hL : Lay h) : gK h 1000097 = 2 := (hL.c 87 2 4 (by decide) rfl).1
theorem Cz_1000097 (hL : Lay h) : gZ h 1000097 = 4 := (hL.c 87 2 4 (by decide) rfl).2
theorem Cr_1000096 (hL : Lay h) : gR h 1000096 0 = 1000097 := hL.2.2.2.2.2.2 43 (by decide)
theorem Ck_1000098 (hL : Lay h) : gK h 1000098 = 60 := (hL.c 88 60 0 (by decide) rfl).1
theorem Ck_1000099 (hL : Lay h) : gK h 1000099 = 2 := (hL.c 89 2 4 (by decide) rfl).1
theorem Cz_1000099 (hL : Lay h) : gZ h 1000099 = 4 := (hL.c 89 2 4 (by decide) rfl).2
theorem Cr_1000098 (hL : Lay h) : gR h 1000098 0 = 1000099 := hL.2.2.2.2.2.2 44 (by decide)
theorem Ck_1000100 (hL : Lay h) : gK h 1000100 = 60 := (hL.c 90 60 0 (by decide) rfl).1
theorem Ck_1000101 (hL : Lay h) : gK h 1000101 = 2 := (hL.c 91 2 3 (by decide) rfl).1
theorem Cz_1000101 (hL : Lay h) : gZ h 1000101 = 3 := (hL.c 91 2 3 (by decide) rfl).2
theorem Cr_1000100 (hL : Lay h) : gR h 1000100 0 = 1000101 := hL.2.2.2.2.2.2 45 (by decide)
theorem Ck_1000102 (hL : Lay h) : gK h 1000102 = 60 := (hL.c 92 60 0 (by decide) rfl).1
theorem Ck_1000103 (hL : Lay h) : gK h 1000103 = 2 := (hL.c 93 2 4 (by decide) rfl).1
theorem Cz_1000103 (hL : Lay h) : gZ h 1000103 = 4 := (hL.c 93 2 4 (by decide) rfl).2
theorem Cr_1000102 (hL : Lay h) : gR h 1000102 0 = 1000103 := hL.2.2.2.2.2.2 46 (by decide)
theorem Ck_1000001 (hL : Lay h) : gK h 1000001 = 1 := hL.2.2.2.2.1.1
theorem Cz_1000001 (hL : Lay h) : gZ h 1000001 = 5 := hL.2.2.2.2.1.2
end LAY
/-- the int of a field; of a row's place -/
def zF (h : XH) (a j : Nat) : Int := (gI h a j).toInt
def zA (h : XH) (a : Nat) (i : Int) : Int := (gI h a i.toNat).toInt
theorem gI_F (h : XH) (a j : Nat) : gI h a j = iI (zF h a j) := (iI_of _).1
theorem gI_A (h : XH) (a : Nat) (i : Int) : gI h a i.toNat = iI (zA h a i) := (iI_of _).1
theorem zF_in (h : XH) (a j : Nat) : -2147483648 ≤ zF h a j ∧ zF h a j ≤ 2147483647 := (iI_of _).2
theorem zA_in (h : XH) (a : Nat) (i : Int) : -2147483648 ≤ zA h a i ∧ zA h a i ≤ 2147483647 := (iI_of _).2
theorem zF_s {h : XH} {a j : Nat} {z : Int} (hz : -2147483648 ≤ z ∧ z ≤ 2147483647) : zF (sI h a j (iI z)) a j = z := by
  unfold zF; rw [sI_here, if_pos rfl, iI_t hz]
theorem zF_o {h : XH} {a j : Nat} {v : Int32} {a' j' : Nat} (hne : ¬ (a' = a ∧ j' = j)) : zF (sI h a j v) a' j' = zF h a' j' := by
  unfold zF
  show (if a' = a ∧ j' = j then v else h.1 a' j').toInt = _
  rw [if_neg hne]; rfl
theorem zA_o {h : XH} {a j : Nat} {v : Int32} {a' : Nat} (i : Int) (hne : ¬ a' = a) : zA (sI h a j v) a' i = zA h a' i := by
  unfold zA; rw [sI_other _ hne]
theorem zA_s {h : XH} {a : Nat} {i k z : Int} (hi : 0 ≤ i) (hk : 0 ≤ k) (hz : -2147483648 ≤ z ∧ z ≤ 2147483647) : zA (sI h a i.toNat (iI z)) a k = if k = i then z else zA h a k := by
  unfold zA
  rw [sI_here]
  by_cases e : k = i
  · rw [if_pos (by rw [e]), if_pos e, iI_t hz]
  · rw [if_neg (by omega), if_neg e]
theorem Lay.sI {h : XH} (hL : Lay h) (a j : Nat) (v : Int32) : Lay (sI h a j v) := hL
theorem Lay.sL {h : XH} (hL : Lay h) (a j : Nat) (v : Int64) : Lay (sL h a j v) := hL
