/-! the constructors' runs; the law's start -/
def zcA : List ZC := [(0, 0, [], []), (21, 20, [(19, 0), (18, 0), (17, 0), (8, 0), (1, 0)], [(16, 117), (15, 116), (14, 107), (13, 106), (12, 101), (11, 96), (10, 91), (9, 80), (7, 34), (6, 20), (5, 6), (4, 5), (3, 4), (2, 3), (0, 2)]), (2, 500, [], []), (19, 9, [(8, (-1))], [(0, 2)]), (11, 1, [], [(0, 3)]), (17, 4, [], [(0, 3)]), (10, 15, [], [(8, 19), (7, 18), (6, 17), (5, 16), (3, 12), (2, 8), (1, 7)]), (4, 8, [], []), (12, 3, [], [(2, 11), (1, 10), (0, 9)]), (1, 32, [], []), (1, 32, [], []), (1, 8, [], []), (12, 3, [], [(2, 15), (1, 14), (0, 13)]), (1, 32, [], []), (1, 32, [], []), (1, 8, [], []), (4, 6, [], []), (1, 6, [], []), (1, 6, [], []), (1, 6, [], []), (10, 15, [], [(8, 33), (7, 32), (6, 31), (5, 30), (3, 26), (2, 22), (1, 21)]), (4, 8, [], []), (12, 3, [], [(2, 25), (1, 24), (0, 23)]), (1, 32, [], []), (1, 32, [], []), (1, 8, [], []), (12, 3, [], [(2, 29), (1, 28), (0, 27)]), (1, 32, [], []), (1, 32, [], []), (1, 8, [], []), (4, 6, [], []), (1, 6, [], []), (1, 6, [], []), (1, 6, [], []), (5, 9, [], [(8, 75), (7, 70), (6, 65), (5, 60), (4, 55), (3, 50), (2, 45), (1, 40), (0, 35)]), (16, 6, [], [(3, 39), (2, 38), (1, 37), (0, 36)]), (1, 80, [], []), (1, 80, [], []), (1, 80, [], []), (1, 80, [], []), (16, 6, [], [(3, 44), (2, 43), (1, 42), (0, 41)]), (1, 80, [], []), (1, 80, [], []), (1, 80, [], []), (1, 80, [], []), (16, 6, [], [(3, 49), (2, 48), (1, 47), (0, 46)]), (1, 80, [], []), (1, 80, [], []), (1, 80, [], []), (1, 80, [], []), (16, 6, [], [(3, 54), (2, 53), (1, 52), (0, 51)]), (1, 80, [], []), (1, 80, [], []), (1, 80, [], []), (1, 80, [], []), (16, 6, [], [(3, 59), (2, 58), (1, 57), (0, 56)]), (1, 80, [], []), (1, 80, [], []), (1, 80, [], []), (1, 80, [], []), (16, 6, [], [(3, 64), (2, 63), (1, 62), (0, 61)]), (1, 80, [], []), (1, 80, [], []), (1, 80, [], []), (1, 80, [], []), (16, 6, [], [(3, 69), (2, 68), (1, 67), (0, 66)]), (1, 80, [], []), (1, 80, [], []), (1, 80, [], []), (1, 80, [], []), (16, 6, [], [(3, 74), (2, 73), (1, 72), (0, 71)]), (1, 80, [], []), (1, 80, [], []), (1, 80, [], []), (1, 80, [], []), (16, 6, [], [(3, 79), (2, 78), (1, 77), (0, 76)]), (1, 80, [], []), (1, 80, [], []), (1, 80, [], []), (1, 80, [], []), (15, 15, [], [(14, 90), (13, 89), (12, 88), (11, 87), (10, 86), (9, 85), (8, 84), (7, 83), (6, 82), (5, 81)]), (1, 100, [], []), (1, 100, [], []), (1, 100, [], []), (1, 100, [], []), (1, 400, [], []), (1, 5, [], []), (1, 40, [], []), (1, 15, [], []), (1, 5, [], []), (1, 5, [], []), (18, 13, [(12, (-1))], [(1, 6), (0, 80), (11, 95), (10, 94), (5, 93), (4, 92)]), (1, 8, [], []), (1, 1208, [], []), (1, 400, [], []), (1, 60, [], []), (20, 13, [(5, (-1)), (4, (-1)), (2, 0)], [(6, 100), (1, 91), (0, 80), (10, 99), (9, 98), (7, 97)]), (1, 1024, [], []), (1, 100, [], []), (1, 100, [], []), (4, 0, [], []), (20, 13, [(5, (-1)), (4, (-1)), (2, 1)], [(6, 105), (1, 91), (0, 80), (10, 104), (9, 103), (7, 102)]), (1, 1024, [], []), (1, 100, [], []), (1, 100, [], []), (4, 0, [], []), (14, 10, [(4, (-1)), (3, (-1)), (2, (-1))], [(1, 91), (0, 80)]), (13, 13, [], [(11, 115), (9, 114), (8, 113), (7, 112), (6, 111), (0, 6), (3, 110), (2, 109), (1, 108)]), (1, 6, [], []), (1, 6, [], []), (1, 5, [], []), (1, 0, [], []), (1, 0, [], []), (1, 0, [], []), (1, 0, [], []), (1, 0, [], []), (1, 601, [], []), (1, 0, [], [])]
def zcB : List ZC := [(22, 75, [(65, (-1)), (64, (-1)), (63, (-1)), (49, (-1))], [(74, 153), (72, 152), (71, 151), (70, 150), (68, 149), (62, 148), (61, 147), (60, 146), (57, 145), (56, 144), (54, 143), (53, 142), (52, 141), (48, 140), (47, 139), (46, 138), (45, 137), (44, 136), (43, 135), (42, 134), (41, 133), (33, 132), (32, 131), (31, 130), (30, 129), (21, 128), (20, 127), (19, 126), (18, 125), (17, 124), (16, 123), (15, 122), (14, 121), (11, 120), (1, 119)]), (1, 500, [], []), (1, 8, [], []), (1, 64, [], []), (1, 8, [], []), (1, 64, [], []), (1, 8, [], []), (1, 8, [], []), (1, 8, [], []), (1, 64, [], []), (1, 64, [], []), (1, 6, [], []), (1, 6, [], []), (1, 6, [], []), (1, 400, [], []), (1, 100, [], []), (1, 100, [], []), (1, 100, [], []), (1, 5, [], []), (1, 5, [], []), (1, 40, [], []), (1, 6, [], []), (4, 102400, [], []), (1, 20, [], []), (1, 5, [], []), (1, 2000, [], []), (1, 4096, [], []), (1, 8, [], []), (1, 8, [], []), (1, 8, [], []), (3, 8, [], []), (1, 15625, [], []), (1, 400, [], []), (1, 3200, [], []), (1, 100, [], []), (1, 2000, [], [])]
def zcD : List ZC := zcA ++ zcB
def zcC : List ZC := zcD ++ [(4, 1, [], [])]
def zcEq : List ZC → List ZC → Bool
  | [], [] => true
  | a :: s, b :: t => decide (a.1 = b.1) && decide (a.2.1 = b.2.1) && decide (a.2.2.1 = b.2.2.1) && decide (a.2.2.2 = b.2.2.2) && zcEq s t
  | _, _ => false
theorem zcEq_eq : ∀ a b : List ZC, zcEq a b = true → a = b := by
  intro a
  induction a with
  | nil => intro b h; cases b with
    | nil => rfl
    | cons x t => cases h
  | cons x s ih => intro b h; cases b with
    | nil => cases h
    | cons y t =>
      simp only [zcEq, Bool.and_eq_true, decide_eq_true_eq] at h
      obtain ⟨⟨⟨⟨h1, h2⟩, h3⟩, h4⟩, h5⟩ := h
      rw [ih t h5]
      obtain ⟨x1, x2, x3, x4⟩ := x
      obtain ⟨y1, y2, y3, y4⟩ := y
      dsimp only at h1 h2 h3 h4
      rw [h1, h2, h3, h4]
def zchk (o : Option (List ZC)) (r : List ZC) : Bool := match o with
  | some c => zcEq c r
  | none => false
theorem zchk_eq {o : Option (List ZC)} {r : List ZC} (h : zchk o r = true) : o = some r := by
  cases o with
  | none => cases h
  | some c => rw [zcEq_eq c r h]
theorem zA_run : zrun 400 40 115 0 [.ref 1, .null] [] [(0, 0, [], []), (21, 20, [], [])] = some zcA := zchk_eq (by decide +kernel)
theorem zB_run : zrun 400 40 162 0 [.ref 118] [] (zcA ++ [(22, 75, [], [])]) = some zcD := zchk_eq (by decide +kernel)
theorem zl_k : ∀ a, a < 155 → zlk zcC[a]? = xKT.getD a (0, 0) := by decide +kernel
theorem zl_r : ∀ q ∈ xRT, q.1 < 1000000 ∧ zlr zcC[q.1]? q.2.1 = q.2.2 := by decide +kernel
theorem zl_i : ∀ a, a < 155 → ∀ j, j < 66 → (zli zcC[a]? j).toInt = ini a j := by decide +kernel
theorem zl_h : ∀ q ∈ zcC, ∀ z ∈ q.2.2.1, z.1 < 66 := by decide +kernel
theorem zl_A : zcA.length = 118 := by decide +kernel
theorem zl_D : zcD.length = 154 := by decide +kernel
theorem zl_C : zcC.length = 155 := by decide +kernel
theorem zl_U : zls zcC = 141084 := by decide +kernel
theorem zl_s : zlr zcC[1]? 5 = 6 ∧ zlr zcC[1]? 6 = 20 ∧ zlr zcC[91]? 1 = 6 ∧ zlr zcC[107]? 0 = 6 ∧ zlr zcC[96]? 6 = 100 ∧ zlr zcC[101]? 6 = 105 ∧ zlr zcC[107]? 11 = 115 := by decide +kernel
/-- what the constants are -/
def BsK (b : XH) (s : Nat → Int32) (n : Nat) : Prop := (gK b 1000000 = 1 ∧ gZ b 1000000 = n ∧ ∀ j, gI b 1000000 j = s j) ∧ (gK b 1000001 = 1 ∧ gZ b 1000001 = 5 ∧ ∀ x : Int, 0 ≤ x → x ≤ 4 → gI b 1000001 x.toNat = iI (unt x)) ∧ (∀ j, j < 94 → (gK b (1000010 + j), gZ b (1000010 + j)) = xCT.getD j (0, 0)) ∧ (∀ j, j < 47 → gR b (1000010 + 2 * j) 0 = 1000011 + 2 * j) ∧ StC b
section STRT
variable {b : XH} {s : Nat → Int32} {n : Nat} {K : Int32 → XH → Prop}
theorem start_ks (B : BsK b s n) : KS (zH b zcC) s n := by
  obtain ⟨⟨k1, k2, k3⟩, ⟨u1, u2, u3⟩, k4, k5, k6⟩ := B
  have hi : ∀ a, 1000000 ≤ a → gK (zH b zcC) a = gK b a ∧ gZ (zH b zcC) a = gZ b a := fun a ha => by
    have e := zH_kh (b := b) (cs := zcC) (a := a) (by omega)
    exact ⟨congrArg Prod.fst e, congrArg Prod.snd e⟩
  refine ⟨⟨fun a ha => ?_, fun q hq => ?_, ?_, ?_, ⟨?_, ?_⟩, fun j hj => ?_, fun j hj => ?_⟩, fun x h0 h4 => ?_, fun j hj => ⟨?_, fun k hk => ?_⟩, ?_, ?_, fun j => ?_⟩
  · rw [zH_k (by omega)]; exact zl_k a ha
  · have := zl_r q hq
    rw [zH_R this.1]; exact this.2
  · rw [zH_N, zl_C]; decide
  · rw [zH_N, zl_C]; decide
  · rw [(hi _ (by omega)).1]; exact u1
  · rw [(hi _ (by omega)).2]; exact u2
  · rw [(hi _ (by omega)).1, (hi _ (by omega)).2]; exact k4 j hj
  · rw [zH_Rh (by omega)]; exact k5 j hj
  · rw [zH_Ih (by omega)]; exact u3 x h0 h4
  · rw [zH_Ih (by omega)]; exact (k6 j hj).1
  · rw [zH_Ih (by omega)]; exact (k6 j hj).2 k hk
  · rw [(hi _ (by omega)).1]; exact k1
  · rw [(hi _ (by omega)).2]; exact k2
  · rw [zH_Ih (by omega)]; exact k3 j
theorem start_ini : Ini (zH b zcC) := by
  obtain ⟨s1, s2, s3, s4, s5, s6, s7⟩ := zl_s
  refine ⟨fun a j ha => ?_, zl_C, zl_U, ⟨Or.inl rfl, ?_, ?_, ?_, ?_⟩, ?_, ?_, ?_⟩
  · unfold zF
    rw [zH_I (by omega)]
    by_cases hj : j < 66
    · exact zl_i a ha j hj
    · have e0 : ini a j = 0 := by
        unfold ini
        rw [if_neg (by omega), if_neg (by omega)]
      rw [e0]
      cases hq : zcC[a]? with
      | none => rfl
      | some q =>
        have hm := zl_h q (List.mem_of_getElem? hq)
        have hf : q.2.2.1.find? (fun z : Nat × Int32 => z.1 == j) = none := List.find?_eq_none.mpr fun z hz => by
          have := hm z hz
          simp
          omega
        show (match q.2.2.1.find? (fun z : Nat × Int32 => z.1 == j) with | none => (0 : Int32) | some z => z.2).toInt = 0
        rw [hf]; rfl
  · rw [zH_R (by omega)]; exact s1
  · rw [zH_R (by omega)]; exact s2
  · rw [zH_R (by omega)]; exact s3
  · rw [zH_R (by omega)]; exact s4
  · rw [zH_R (by omega)]; exact s5
  · rw [zH_R (by omega)]; exact s6
  · rw [zH_R (by omega)]; exact s7
theorem zl_1 : ([(0, 0, [], [])] ++ [(21, 20, [], [])] : List ZC)[1]? = some (21, 20, [], []) := rfl
theorem zl_118 : (zcA ++ [(22, 75, [], [])] : List ZC)[118]? = some (22, 75, [], []) := by
  have := zapp_s (cs := zcA) (c := (22, 75, [], []))
  rw [zl_A] at this
  exact this
theorem law_start (hn : n ≤ 3072) (B : BsK b s n) (kk : ∀ i h, i ≤ 600 → INV i h s n → K (iI 1) h) : XW 41 284 0 [.ref 1000000, .null, .null, .null, .null, .null, .null] [] (zH b [(0, 0, [], [])]) (KI K) := by
  refine w_newo r_284_0 (show 1 < 999999 by decide) ?_
  rw [zH_new (cs := [(0, 0, [], [])]) _ _ (show 1 < 1000000 by decide)]
  show XW 41 284 3 _ [.ref 1] _ _
  refine w_dupA r_284_3 ?_
  refine k_115 r_284_4 (zH_K zl_1 (show 2 < 1000000 by decide)) (show 1 < 2 by decide) (Nat.le_of_ble_eq_true rfl) ?_
  refine zXW (show 2 < 1000000 by decide) zA_run ?_
  refine w_astore1 r_284_7 rfl ?_
  refine w_newo r_284_8 (by rw [zH_N, zl_A]; decide) ?_
  rw [zH_new _ _ (by rw [zl_A]; decide), zH_N, zl_A]
  refine w_dupA r_284_11 ?_
  have l2 : (zcA ++ [(22, 75, [], [])] : List ZC).length = 119 := by rw [List.length_append, zl_A]; rfl
  refine k_162 r_284_12 (zH_K zl_118 (by rw [l2]; decide)) (by rw [zH_N, l2]; decide) (Nat.le_of_ble_eq_true rfl) ?_
  refine zXW (by rw [l2]; decide) zB_run ?_
  refine w_astore2 r_284_15 rfl ?_
  refine w_iconst (v := 1) r_284_16 rfl ?_
  refine w_newa r_284_17 ⟨by decide, by decide⟩ (by rw [zH_N, zl_D]; decide) ?_
  rw [zH_new _ _ (by rw [zl_D]; decide), zH_N, zl_D]
  refine w_astore3 r_284_19 rfl ?_
  refine w_iconst (v := iI (6 * ((0 : Nat) : Int))) r_284_20 rfl ?_
  refine w_istore4 r_284_21 rfl ?_
  exact law_loop hn kk 513 0 (zH b zcC) .null .null (by omega) (by omega) (inv_start (start_ks B) start_ini)
end STRT
