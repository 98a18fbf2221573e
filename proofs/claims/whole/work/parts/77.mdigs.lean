/-! digging: the Model's least costs -/
section MG
variable {d : Nat} {h : XH} {K : Int32 → XH → Prop} {KU : XH → Prop} {B : XB} {U : Int}
abbrev PDg : Nat → Nat → Bool := pO (pA [149]) (pF [(118, 69)])
/-- the Model's table of costs -/
def MDg (h : XH) (B : XB) : Prop := ∀ x, 0 ≤ x → x < 5 ^ B.w.toNat → zA h 149 x = if 1000000000000000 ≤ dS B x then 2000000000 else dS B x
theorem PDg_fr {h1 : XH} (g : Fr PDg h h1) (hQ : MBk h B) : MBk h1 B := hQ.fr g (fun a j q => by simp [fpMB] at q; simp [pO, pA, pF]; omega)
/-- what stands in a round -/
def DgP (B : XB) (z : Int → Int) (fst : Bool) (N f s : Int) : Prop := DgI B z fst s ∧ sumTo z (5 ^ B.w.toNat) ≤ N ∧ ((f = 1 ∧ sumTo z (5 ^ B.w.toNat) < N) ∨ (f = 0 ∧ ∀ x, 0 < x → x < s → x < 5 ^ B.w.toNat → ClA B z x))
theorem m_digs (hL : Lay h) (hQ : MBk h B) (ho : B.ok) (hz : zF h 118 69 = 0 ∨ zF h 118 69 = 1) (h0 : zF h 118 69 = 1 → MDg h B) (kk : ∀ h', Fr PDg h h' → zF h' 118 69 = 1 → MDg h' B → KU h') : XW (d + 1) 259 0 [.ref 118, .null, .null, .null, .null, .null, .null] [] h (KV KU) := by
  have o := ho.1
  have pw := p5W ho
  have nat5 : ((5 ^ B.w.toNat : Nat) : Int) = 5 ^ B.w.toNat := p5c _
  generalize hA : (5 : Int) ^ B.w.toNat = A at *
  -- one state
  have wl : ∀ (N : Int) (fst : Bool) (s t : Int), (0 < s ∧ s < A) → (0 ≤ t ∧ t < B.t) →
      (∀ (h1 : XH) (f : Int) (X5 X6 : Value), Fr PDg h h1 → zF h1 118 69 = 1 → DgP B (zA h1 149) fst N f s → (∀ t' w', 0 ≤ t' → t' < t + 1 → 0 ≤ w' → w' < B.w → ClD B (zA h1 149) s t' w') → XW (d + 1) 259 83 [.ref 118, .int (iI A), .int (iI f), .int (iI s), .int (iI (t + 1)), X5, X6] [] h1 (KV KU)) →
      ∀ w : Nat, w ≤ B.w.toNat → ∀ (h1 : XH) (f : Int) (X6 : Value), Fr PDg h h1 → zF h1 118 69 = 1 → DgP B (zA h1 149) fst N f s → (∀ t' w', 0 ≤ t' → t' < B.t → 0 ≤ w' → w' < B.w → t' < t ∨ (t' = t ∧ w' < (w : Int)) → ClD B (zA h1 149) s t' w') → XW (d + 1) 259 95 [.ref 118, .int (iI A), .int (iI f), .int (iI s), .int (iI t), .int (iI w), X6] [] h1 (KV KU) := by
    intro N fst s t hs ht nxt
    refine upto _ ?_ ?_
    · intro h1 f X6 g g1 P C
      have hL := g.lay hL
      have hQ := PDg_fr g hQ
      refine w_iload5 r_259_95 ?_
      refine w_aload0 r_259_97 ?_
      refine v_getI r_259_98 (Lk_118 hL) (e24 hQ) ?_
      refine v_ic_ge r_259_101 (by first | exact zF_in _ _ _ | exact zA_in _ _ _ | omega) (by first | exact zF_in _ _ _ | exact zA_in _ _ _ | omega) (fun _ => ?_) (fun q => absurd q (by omega))
      refine w_iinc4 r_259_186 rfl (iI_add _ _) ?_
      refine w_goto r_259_189 ?_
      exact nxt h1 f _ _ g g1 P (fun t' w' a b a2 b2 => C t' w' a (by omega) a2 b2 (by omega))
    · intro w hw ih h1 f X6 g g1 P C
      have hL := g.lay hL
      have hQ := PDg_fr g hQ
      have op := ho.2.2.2.2 t ht.1 ht.2
      have hs' : 0 ≤ s ∧ s < 5 ^ B.w.toNat := by omega
      have hww : 0 ≤ (w : Int) ∧ (w : Int) < B.w := by omega
      have n1 := dnx_in B s (6 * t + w)
      rw [hA] at n1
      obtain ⟨I, P1, P2⟩ := id P
      have fb : f = 0 ∨ f = 1 := by rcases P2 with q | q <;> omega
      generalize hn : dnx B s (6 * t + (w : Int)) = n at *
      have en : gI h1 149 n.toNat = iI (zA h1 149 n) := gI_A _ _ _
      have es : gI h1 149 s.toNat = iI (zA h1 149 s) := gI_A _ _ _
      have beh := fun KK kq => m_behind (d := d) (K := KK) (h := h1) (s := s) (t := t) (w := w) hL hQ ho hs' ht hww kq
      rw [hn] at beh
      have same : (ClD B (zA h1 149) s t w) → XW (d + 1) 259 95 [.ref 118, .int (iI A), .int (iI f), .int (iI s), .int (iI t), .int (iI ((w : Int) + 1)), .int (iI (zA h1 149 n))] [] h1 (KV KU) := fun cl =>
        ih h1 f _ g g1 P (fun t' w' a b a2 b2 q => by
          by_cases y : t' = t ∧ w' = (w : Int)
          · rw [y.1, y.2]; exact cl
          · exact C t' w' a b a2 b2 (by omega))
      by_cases q1 : zA h1 149 n = 2000000000
      · refine w_iload5 r_259_95 ?_
        refine w_aload0 r_259_97 ?_
        refine v_getI r_259_98 (Lk_118 hL) (e24 hQ) ?_
        refine v_ic_ge r_259_101 (by first | exact zF_in _ _ _ | exact zA_in _ _ _ | omega) (by first | exact zF_in _ _ _ | exact zA_in _ _ _ | omega) (fun q => absurd q (by omega)) (fun _ => ?_)
        refine w_aload0 r_259_104 ?_
        refine w_getA (x := 149) r_259_105 (Lk_118 hL) (Lr_118_68 hL) (by decide) ?_
        refine w_aload0 r_259_108 ?_
        refine w_iload3 r_259_109 ?_
        refine w_iload4 r_259_110 ?_
        refine w_iload5 r_259_112 ?_
        refine k_258 r_259_114 (Lk_118 hL) (Nat.le_of_ble_eq_true rfl) ?_
        refine beh _ ?_
        refine v_iald r_259_117 (Lk_149 hL) (Lz_149 hL) (by decide) (by omega) en ?_
        refine w_istore6 r_259_118 rfl ?_
        refine w_iload6 r_259_120 ?_
        refine w_ldcwI (v := iI 2000000000) r_259_122 rfl ?_
        refine v_ic_eq r_259_125 (by first | exact zF_in _ _ _ | exact zA_in _ _ _ | omega) (by first | exact zF_in _ _ _ | exact zA_in _ _ _ | omega) (fun _ => ?_) (fun q => absurd q (by omega))
        refine w_iinc5 r_259_180 rfl (iI_add _ _) ?_
        refine w_goto r_259_183 ?_
        exact same (fun y => absurd (by rw [hn]; exact q1) y)
      · have zs := I.2.1 s hs.1 (by omega)
        have zn : 0 ≤ zA h1 149 n ∧ zA h1 149 n ≤ 24750025 := by
          by_cases y : n = 0
          · rw [y, I.1]; decide
          · exact ((I.2.1 n (by omega) (by omega)).resolve_left q1).1
        by_cases q2 : zA h1 149 n + (10000 * B.pr t + 1) < zA h1 149 s
        · have stp := I.step (z' := zA (sI h1 149 s.toNat (iI (zA h1 149 n + 10000 * B.pr t + 1))) 149) (c := zA h1 149 n + 10000 * B.pr t + 1) ho hs.1 (by omega) ht hww (by rw [hn]; exact q1) (by rw [hn]; omega) (by omega) (fun x a => by
            rw [zA_s (by omega) a (by omega)])
          have F2 : Fr PDg h1 (sI h1 149 s.toNat (iI (zA h1 149 n + 10000 * B.pr t + 1))) := (Fr.refl _ _).sI 149 _ _ (by simp [pO, pA])
          have zz : ∀ x, 0 ≤ x → zA (sI h1 149 s.toNat (iI (zA h1 149 n + 10000 * B.pr t + 1))) 149 x = if x = s then zA h1 149 n + 10000 * B.pr t + 1 else zA h1 149 x := fun x a => by rw [zA_s (by omega) a (by omega)]
          have slt : sumTo (zA (sI h1 149 s.toNat (iI (zA h1 149 n + 10000 * B.pr t + 1))) 149) (5 ^ B.w.toNat) < sumTo (zA h1 149) (5 ^ B.w.toNat) := sumTo_lt (c0 := s) (fun x a b => by
              rw [zz x a]
              split
              · rename_i y; rw [y]; omega
              · omega) (by omega) (by rw [nat5]; omega) (by rw [zz s (by omega), if_pos rfl]; omega)
          have ns : ¬ n = s := fun y => by rw [y] at q2; omega
          refine w_iload5 r_259_95 ?_
          refine w_aload0 r_259_97 ?_
          refine v_getI r_259_98 (Lk_118 hL) (e24 hQ) ?_
          refine v_ic_ge r_259_101 (by first | exact zF_in _ _ _ | exact zA_in _ _ _ | omega) (by first | exact zF_in _ _ _ | exact zA_in _ _ _ | omega) (fun q => absurd q (by omega)) (fun _ => ?_)
          refine w_aload0 r_259_104 ?_
          refine w_getA (x := 149) r_259_105 (Lk_118 hL) (Lr_118_68 hL) (by decide) ?_
          refine w_aload0 r_259_108 ?_
          refine w_iload3 r_259_109 ?_
          refine w_iload4 r_259_110 ?_
          refine w_iload5 r_259_112 ?_
          refine k_258 r_259_114 (Lk_118 hL) (Nat.le_of_ble_eq_true rfl) ?_
          refine beh _ ?_
          refine v_iald r_259_117 (Lk_149 hL) (Lz_149 hL) (by decide) (by omega) en ?_
          refine w_istore6 r_259_118 rfl ?_
          refine w_iload6 r_259_120 ?_
          refine w_ldcwI (v := iI 2000000000) r_259_122 rfl ?_
          refine v_ic_eq r_259_125 (by first | exact zF_in _ _ _ | exact zA_in _ _ _ | omega) (by first | exact zF_in _ _ _ | exact zA_in _ _ _ | omega) (fun q => absurd q (by omega)) (fun _ => ?_)
          refine w_iload6 r_259_128 ?_
          refine w_sipush (v := iI (10000)) r_259_130 rfl ?_
          refine w_aload0 r_259_133 ?_
          refine w_getA (x := 131) r_259_134 (Lk_118 hL) (Lr_118_32 hL) (by decide) ?_
          refine w_iload4 r_259_137 ?_
          refine v_iald r_259_139 (Lk_131 hL) (Lz_131 hL) (by decide) (by omega) (e132 hQ ht) ?_
          refine v_imul r_259_140 ?_
          refine v_iadd r_259_141 ?_
          refine w_iconst (v := iI (1)) r_259_142 rfl ?_
          refine v_iadd r_259_143 ?_
          refine w_aload0 r_259_144 ?_
          refine w_getA (x := 149) r_259_145 (Lk_118 hL) (Lr_118_68 hL) (by decide) ?_
          refine w_iload3 r_259_148 ?_
          refine v_iald r_259_149 (Lk_149 hL) (Lz_149 hL) (by decide) (by omega) es ?_
          refine v_ic_lt r_259_150 (by first | exact zF_in _ _ _ | exact zA_in _ _ _ | omega) (by first | exact zF_in _ _ _ | exact zA_in _ _ _ | omega) (fun _ => ?_) (fun q => absurd q (by omega))
          refine w_aload0 r_259_156 ?_
          refine w_getA (x := 149) r_259_157 (Lk_118 hL) (Lr_118_68 hL) (by decide) ?_
          refine w_iload3 r_259_160 ?_
          refine w_iload6 r_259_161 ?_
          refine w_sipush (v := iI (10000)) r_259_163 rfl ?_
          refine w_aload0 r_259_166 ?_
          refine w_getA (x := 131) r_259_167 (Lk_118 hL) (Lr_118_32 hL) (by decide) ?_
          refine w_iload4 r_259_170 ?_
          refine v_iald r_259_172 (Lk_131 hL) (Lz_131 hL) (by decide) (by omega) (e132 hQ ht) ?_
          refine v_imul r_259_173 ?_
          refine v_iadd r_259_174 ?_
          refine w_iconst (v := iI (1)) r_259_175 rfl ?_
          refine v_iadd r_259_176 ?_
          refine v_iast r_259_177 (Lk_149 hL) (Ln_149 hL) (Lz_149 hL) (by decide) (by omega) ?_
          refine w_iconst (v := iI (1)) r_259_178 rfl ?_
          refine w_istore2 r_259_179 rfl ?_
          refine w_iinc5 r_259_180 rfl (iI_add _ _) ?_
          refine w_goto r_259_183 ?_
          refine ih _ 1 _ (g.trans F2) (by rw [zF_o (by omega)]; exact g1) ⟨stp.1, by omega, Or.inl ⟨rfl, by omega⟩⟩ (fun t' w' a b a2 b2 q => ?_)
          have n2 := dnx_in B s (6 * t' + w')
          by_cases y : t' = t ∧ w' = (w : Int)
          · rw [y.1, y.2]
            intro _
            rw [hn, zz s (by omega), if_pos rfl, zz n (by omega), if_neg ns]
            omega
          · have old := C t' w' a b a2 b2 (by omega)
            unfold ClD at old ⊢
            rw [zz s (by omega), if_pos rfl, zz _ n2.1]
            have op2 := ho.2.2.2.2 t' a b
            by_cases y2 : dnx B s (6 * t' + w') = s
            · rw [if_pos y2]; intro _; omega
            · rw [if_neg y2]; intro y3; have := old y3; omega
        · refine w_iload5 r_259_95 ?_
          refine w_aload0 r_259_97 ?_
          refine v_getI r_259_98 (Lk_118 hL) (e24 hQ) ?_
          refine v_ic_ge r_259_101 (by first | exact zF_in _ _ _ | exact zA_in _ _ _ | omega) (by first | exact zF_in _ _ _ | exact zA_in _ _ _ | omega) (fun q => absurd q (by omega)) (fun _ => ?_)
          refine w_aload0 r_259_104 ?_
          refine w_getA (x := 149) r_259_105 (Lk_118 hL) (Lr_118_68 hL) (by decide) ?_
          refine w_aload0 r_259_108 ?_
          refine w_iload3 r_259_109 ?_
          refine w_iload4 r_259_110 ?_
          refine w_iload5 r_259_112 ?_
          refine k_258 r_259_114 (Lk_118 hL) (Nat.le_of_ble_eq_true rfl) ?_
          refine beh _ ?_
          refine v_iald r_259_117 (Lk_149 hL) (Lz_149 hL) (by decide) (by omega) en ?_
          refine w_istore6 r_259_118 rfl ?_
          refine w_iload6 r_259_120 ?_
          refine w_ldcwI (v := iI 2000000000) r_259_122 rfl ?_
          refine v_ic_eq r_259_125 (by first | exact zF_in _ _ _ | exact zA_in _ _ _ | omega) (by first | exact zF_in _ _ _ | exact zA_in _ _ _ | omega) (fun q => absurd q (by omega)) (fun _ => ?_)
          refine w_iload6 r_259_128 ?_
          refine w_sipush (v := iI (10000)) r_259_130 rfl ?_
          refine w_aload0 r_259_133 ?_
          refine w_getA (x := 131) r_259_134 (Lk_118 hL) (Lr_118_32 hL) (by decide) ?_
          refine w_iload4 r_259_137 ?_
          refine v_iald r_259_139 (Lk_131 hL) (Lz_131 hL) (by decide) (by omega) (e132 hQ ht) ?_
          refine v_imul r_259_140 ?_
          refine v_iadd r_259_141 ?_
          refine w_iconst (v := iI (1)) r_259_142 rfl ?_
          refine v_iadd r_259_143 ?_
          refine w_aload0 r_259_144 ?_
          refine w_getA (x := 149) r_259_145 (Lk_118 hL) (Lr_118_68 hL) (by decide) ?_
          refine w_iload3 r_259_148 ?_
          refine v_iald r_259_149 (Lk_149 hL) (Lz_149 hL) (by decide) (by omega) es ?_
          refine v_ic_lt r_259_150 (by first | exact zF_in _ _ _ | exact zA_in _ _ _ | omega) (by first | exact zF_in _ _ _ | exact zA_in _ _ _ | omega) (fun q => absurd q (by omega)) (fun _ => ?_)
          refine w_goto r_259_153 ?_
          refine w_iinc5 r_259_180 rfl (iI_add _ _) ?_
          refine w_goto r_259_183 ?_
          exact same (fun y => by rw [hn]; omega)
  have tl : ∀ (N : Int) (fst : Bool) (s : Int), (0 < s ∧ s < A) →
      (∀ (h1 : XH) (f : Int) (X4 X5 X6 : Value), Fr PDg h h1 → zF h1 118 69 = 1 → DgP B (zA h1 149) fst N f (s + 1) → XW (d + 1) 259 75 [.ref 118, .int (iI A), .int (iI f), .int (iI (s + 1)), X4, X5, X6] [] h1 (KV KU)) →
      ∀ t : Nat, t ≤ B.t.toNat → ∀ (h1 : XH) (f : Int) (X5 X6 : Value), Fr PDg h h1 → zF h1 118 69 = 1 → DgP B (zA h1 149) fst N f s → (∀ t' w', 0 ≤ t' → t' < (t : Int) → 0 ≤ w' → w' < B.w → ClD B (zA h1 149) s t' w') → XW (d + 1) 259 83 [.ref 118, .int (iI A), .int (iI f), .int (iI s), .int (iI t), X5, X6] [] h1 (KV KU) := by
    intro N fst s hs nxt
    refine upto _ ?_ ?_
    · intro h1 f X5 X6 g g1 P C
      have hL := g.lay hL
      have hQ := PDg_fr g hQ
      have cl : ClA B (zA h1 149) s := fun t' w' a b a2 b2 => C t' w' a (by omega) a2 b2
      refine w_iload4 r_259_83 ?_
      refine w_aload0 r_259_85 ?_
      refine v_getI r_259_86 (Lk_118 hL) (e23 hQ) ?_
      refine v_ic_ge r_259_89 (by first | exact zF_in _ _ _ | exact zA_in _ _ _ | omega) (by first | exact zF_in _ _ _ | exact zA_in _ _ _ | omega) (fun _ => ?_) (fun q => absurd q (by omega))
      refine w_iinc3 r_259_192 rfl (iI_add _ _) ?_
      refine w_goto r_259_195 ?_
      refine nxt h1 f _ _ _ g g1 ⟨P.1.next ho hs.1 (by omega) cl, P.2.1, ?_⟩
      rcases P.2.2 with y | ⟨y1, y2⟩
      · exact Or.inl y
      · refine Or.inr ⟨y1, fun x a b c => ?_⟩
        by_cases e : x = s
        · rw [e]; exact cl
        · exact y2 x a (by omega) c
    · intro t ht ih h1 f X5 X6 g g1 P C
      have hL := g.lay hL
      have hQ := PDg_fr g hQ
      refine w_iload4 r_259_83 ?_
      refine w_aload0 r_259_85 ?_
      refine v_getI r_259_86 (Lk_118 hL) (e23 hQ) ?_
      refine v_ic_ge r_259_89 (by first | exact zF_in _ _ _ | exact zA_in _ _ _ | omega) (by first | exact zF_in _ _ _ | exact zA_in _ _ _ | omega) (fun q => absurd q (by omega)) (fun _ => ?_)
      refine w_iconst (v := iI (0)) r_259_92 rfl ?_
      refine w_istore5 r_259_93 rfl ?_
      exact wl N fst s t hs (by omega) (fun h1 f X5 X6 g g1 P C => ih h1 f X5 X6 g g1 P (fun t' w' a b a2 b2 => C t' w' a (by omega) a2 b2)) 0 (by omega) h1 f X6 g g1 P (fun t' w' a b a2 b2 q => C t' w' a (by omega) a2 b2)
  have sl : ∀ (N : Int) (fst : Bool),
      (∀ (h1 : XH) (f : Int) (X3 X4 X5 X6 : Value), Fr PDg h h1 → zF h1 118 69 = 1 → DgP B (zA h1 149) fst N f A → XW (d + 1) 259 67 [.ref 118, .int (iI A), .int (iI f), X3, X4, X5, X6] [] h1 (KV KU)) →
      ∀ (k : Nat) (s : Int), 0 < s → s + k = A → ∀ (h1 : XH) (f : Int) (X4 X5 X6 : Value), Fr PDg h h1 → zF h1 118 69 = 1 → DgP B (zA h1 149) fst N f s → XW (d + 1) 259 75 [.ref 118, .int (iI A), .int (iI f), .int (iI s), X4, X5, X6] [] h1 (KV KU) := by
    intro N fst nxt k
    induction k with
    | zero =>
      intro s s0 e h1 f X4 X5 X6 g g1 P
      have sA : s = A := by omega
      subst sA
      refine w_iload3 r_259_75 ?_
      refine w_iload1 r_259_76 ?_
      refine v_ic_ge r_259_77 (by first | exact zF_in _ _ _ | exact zA_in _ _ _ | omega) (by first | exact zF_in _ _ _ | exact zA_in _ _ _ | omega) (fun _ => ?_) (fun q => absurd q (by omega))
      refine w_goto r_259_198 ?_
      exact nxt h1 f _ _ _ _ g g1 P
    | succ k ih =>
      intro s s0 e h1 f X4 X5 X6 g g1 P
      refine w_iload3 r_259_75 ?_
      refine w_iload1 r_259_76 ?_
      refine v_ic_ge r_259_77 (by first | exact zF_in _ _ _ | exact zA_in _ _ _ | omega) (by first | exact zF_in _ _ _ | exact zA_in _ _ _ | omega) (fun q => absurd q (by omega)) (fun _ => ?_)
      refine w_iconst (v := iI (0)) r_259_80 rfl ?_
      refine w_istore4 r_259_81 rfl ?_
      exact tl N fst s (by omega) (fun h1 f X4 X5 X6 g g1 P => ih (s + 1) (by omega) (by omega) h1 f X4 X5 X6 g g1 P) 0 (by omega) h1 f _ _ g g1 P (fun t' w' a b => by omega)
  have rnd : ∀ (N : Nat) (fst : Bool) (h1 : XH) (X3 X4 X5 X6 : Value), Fr PDg h h1 → zF h1 118 69 = 1 → DgI B (zA h1 149) fst 1 → sumTo (zA h1 149) (5 ^ B.w.toNat) < N → XW (d + 1) 259 67 [.ref 118, .int (iI A), .int (iI 1), X3, X4, X5, X6] [] h1 (KV KU) := by
    intro N
    induction N with
    | zero =>
      intro fst h1 X3 X4 X5 X6 g g1 I hN
      have y : sumTo (fun _ => (0 : Int)) (5 ^ B.w.toNat) ≤ sumTo (zA h1 149) (5 ^ B.w.toNat) := sumTo_le (fun x a b => by
        rw [nat5] at b
        by_cases e : x = 0
        · rw [e, I.1]; exact Int.le_refl _
        · rcases I.2.1 x (by omega) (by omega) with q | q
          · omega
          · exact q.1.1)
      rw [sumTo_z] at y
      omega
    | succ N ih =>
      intro fst h1 X3 X4 X5 X6 g g1 I hN
      refine w_iload2 r_259_67 ?_
      refine v_if_eq r_259_68 (by first | exact zF_in _ _ _ | exact zA_in _ _ _ | omega) (fun q => absurd q (by decide)) (fun _ => ?_)
      refine w_iconst (v := iI (0)) r_259_71 rfl ?_
      refine w_istore2 r_259_72 rfl ?_
      refine w_iconst (v := iI (1)) r_259_73 rfl ?_
      refine w_istore3 r_259_74 rfl ?_
      refine sl N fst (fun h2 f X3 X4 X5 X6 g g1 P => ?_) (A - 1).toNat 1 (by decide) (by omega) h1 0 _ _ _ g g1 ⟨I, by omega, Or.inr ⟨rfl, fun x a b => by omega⟩⟩
      rcases P.2.2 with ⟨y1, y2⟩ | ⟨y1, y2⟩
      · rw [y1]
        have I2 : DgI B (zA h2 149) false 1 := DgI.round ho (fst := fst) (by rw [hA]; exact P.1)
        exact ih false h2 _ _ _ _ g g1 I2 y2
      · rw [y1]
        refine w_iload2 r_259_67 ?_
        refine v_if_eq r_259_68 (by decide) (fun _ => ?_) (fun q => absurd rfl q)
        refine w_vret r_259_201 ?_
        refine kk h2 g g1 (fun x a b => ?_)
        exact DgI.done ho P.1 (fun x a b => (P.1.2.1 x a b).imp id (fun q => q.1.2)) (fun x a b => y2 x a (by omega) b) x a b
  -- at first nothing but the state without depth is known
  have ini : ∀ (k : Nat) (s : Int), 0 ≤ s → s + k = A → ∀ (h1 : XH) (X3 X4 X5 X6 : Value), Fr PDg h h1 → zF h1 118 69 = 1 → (∀ x, 0 ≤ x → x < s → zA h1 149 x = if x = 0 then 0 else 2000000000) → XW (d + 1) 259 37 [.ref 118, .int (iI A), .int (iI s), X3, X4, X5, X6] [] h1 (KV KU) := by
    intro k
    induction k with
    | zero =>
      intro s s0 e h1 X3 X4 X5 X6 g g1 hx
      have sA : s = A := by omega
      subst sA
      have I : DgI B (zA h1 149) true 1 := by
        refine ⟨by rw [hx 0 (by decide) (by omega), if_pos rfl], fun x a b => Or.inl ?_, fun x a b _ => Or.inl ?_, fun _ x a b => ?_, fun gt x a b => ?_, fun _ x a b => ?_⟩
        · rw [hx x (by omega) (by omega), if_neg (by omega)]
        · rw [hx x (by omega) (by omega), if_neg (by omega)]
        · rw [hx x (by omega) (by omega), if_neg (by omega)]
        · rw [if_pos rfl] at b
          rw [hx x a (by omega), if_pos (by omega)]
          have := sgm_in (s := x) ho
          omega
        · rw [hx x (by omega) (by omega), if_neg (by omega)]
      refine w_iload2 r_259_37 ?_
      refine w_iload1 r_259_38 ?_
      refine v_ic_ge r_259_39 (by first | exact zF_in _ _ _ | exact zA_in _ _ _ | omega) (by first | exact zF_in _ _ _ | exact zA_in _ _ _ | omega) (fun _ => ?_) (fun q => absurd q (by omega))
      refine w_iconst (v := iI (1)) r_259_65 rfl ?_
      refine w_istore2 r_259_66 rfl ?_
      exact rnd ((sumTo (zA h1 149) (5 ^ B.w.toNat)).toNat + 1) true h1 _ _ _ _ g g1 I (by omega)
    | succ k ih =>
      intro s s0 e h1 X3 X4 X5 X6 g g1 hx
      have hL := g.lay hL
      have nx : ∀ v : Int, (v = if s = 0 then 0 else 2000000000) → XW (d + 1) 259 37 [.ref 118, .int (iI A), .int (iI (s + 1)), X3, X4, X5, X6] [] (sI h1 149 s.toNat (iI v)) (KV KU) := fun v hv => by
        have vb : 0 ≤ v ∧ v ≤ 2000000000 := by rw [hv]; split <;> omega
        refine ih (s + 1) (by omega) (by omega) _ _ _ _ _ (g.sI 149 _ _ (by simp [pO, pA])) (by rw [zF_o (by omega)]; exact g1) (fun x a b => ?_)
        rw [zA_s s0 a (by omega)]
        by_cases y : x = s
        · rw [if_pos y, hv, y]
        · rw [if_neg y]; exact hx x a (by omega)
      by_cases q : s = 0
      · refine w_iload2 r_259_37 ?_
        refine w_iload1 r_259_38 ?_
        refine v_ic_ge r_259_39 (by first | exact zF_in _ _ _ | exact zA_in _ _ _ | omega) (by first | exact zF_in _ _ _ | exact zA_in _ _ _ | omega) (fun q => absurd q (by omega)) (fun _ => ?_)
        refine w_aload0 r_259_42 ?_
        refine w_getA (x := 149) r_259_43 (Lk_118 hL) (Lr_118_68 hL) (by decide) ?_
        refine w_iload2 r_259_46 ?_
        refine w_iload2 r_259_47 ?_
        refine v_if_ne r_259_48 (by first | exact zF_in _ _ _ | exact zA_in _ _ _ | omega) (fun q => absurd q (by omega)) (fun _ => ?_)
        refine w_iconst (v := iI (0)) r_259_51 rfl ?_
        refine w_goto r_259_52 ?_
        refine v_iast r_259_58 (Lk_149 hL) (Ln_149 hL) (Lz_149 hL) (by decide) (by omega) ?_
        refine w_iinc2 r_259_59 rfl (iI_add _ _) ?_
        refine w_goto r_259_62 ?_
        exact nx 0 (by rw [if_pos q])
      · refine w_iload2 r_259_37 ?_
        refine w_iload1 r_259_38 ?_
        refine v_ic_ge r_259_39 (by first | exact zF_in _ _ _ | exact zA_in _ _ _ | omega) (by first | exact zF_in _ _ _ | exact zA_in _ _ _ | omega) (fun q => absurd q (by omega)) (fun _ => ?_)
        refine w_aload0 r_259_42 ?_
        refine w_getA (x := 149) r_259_43 (Lk_118 hL) (Lr_118_68 hL) (by decide) ?_
        refine w_iload2 r_259_46 ?_
        refine w_iload2 r_259_47 ?_
        refine v_if_ne r_259_48 (by first | exact zF_in _ _ _ | exact zA_in _ _ _ | omega) (fun _ => ?_) (fun q => absurd q (by omega))
        refine w_ldcwI (v := iI 2000000000) r_259_55 rfl ?_
        refine v_iast r_259_58 (Lk_149 hL) (Ln_149 hL) (Lz_149 hL) (by decide) (by omega) ?_
        refine w_iinc2 r_259_59 rfl (iI_add _ _) ?_
        refine w_goto r_259_62 ?_
        exact nx 2000000000 (by rw [if_neg q])
  have mul : ∀ k : Nat, k ≤ B.w.toNat → ∀ X3 X4 X5 X6 : Value, XW (d + 1) 259 17 [.ref 118, .int (iI (5 ^ k)), .int (iI k), X3, X4, X5, X6] [] (sI h 118 69 (iI 1)) (KV KU) := by
    have F1 : Fr PDg h (sI h 118 69 (iI 1)) := (Fr.refl _ _).sI 118 69 _ (by decide)
    have hQ := PDg_fr F1 hQ
    refine upto _ ?_ ?_
    · intro X3 X4 X5 X6
      refine w_iload2 r_259_17 ?_
      refine w_aload0 r_259_18 ?_
      refine v_getI r_259_19 (Lk_118 hL) (e24 hQ) ?_
      refine v_ic_ge r_259_22 (by first | exact zF_in _ _ _ | exact zA_in _ _ _ | omega) (by first | exact zF_in _ _ _ | exact zA_in _ _ _ | omega) (fun _ => ?_) (fun q => absurd q (by omega))
      refine w_iconst (v := iI (0)) r_259_35 rfl ?_
      refine w_istore2 r_259_36 rfl ?_
      rw [hA]
      exact ini A.toNat 0 (by decide) (by omega) _ _ _ _ _ F1 (zF_of rfl (by decide)) (fun x a b => by omega)
    · intro k hk ih X3 X4 X5 X6
      rw [Int.pow_succ] at ih
      refine w_iload2 r_259_17 ?_
      refine w_aload0 r_259_18 ?_
      refine v_getI r_259_19 (Lk_118 hL) (e24 hQ) ?_
      refine v_ic_ge r_259_22 (by first | exact zF_in _ _ _ | exact zA_in _ _ _ | omega) (by first | exact zF_in _ _ _ | exact zA_in _ _ _ | omega) (fun q => absurd q (by omega)) (fun _ => ?_)
      refine w_iload1 r_259_25 ?_
      refine w_iconst (v := iI (5)) r_259_26 rfl ?_
      refine v_imul r_259_27 ?_
      refine w_istore1 r_259_28 rfl ?_
      refine w_iinc2 r_259_29 rfl (iI_add _ _) ?_
      refine w_goto r_259_32 ?_
      exact ih _ _ _ _
  have m0 := mul 0 (by omega) .null .null .null .null
  refine w_aload0 r_259_0 ?_
  refine v_getI r_259_1 (Lk_118 hL) (gI_F h 118 69) ?_
  refine v_if_eq r_259_4 (by first | exact zF_in _ _ _ | exact zA_in _ _ _ | omega) (fun c4 => ?_) (fun c4 => ?_)
  · refine w_aload0 r_259_8 ?_
    refine w_iconst (v := iI (1)) r_259_9 rfl ?_
    refine w_putZ r_259_10 (Lk_118 hL) (Ln_118 hL) (by decide) ?_
    refine w_iconst (v := iI (1)) r_259_13 rfl ?_
    refine w_istore1 r_259_14 rfl ?_
    refine w_iconst (v := iI (0)) r_259_15 rfl ?_
    refine w_istore2 r_259_16 rfl ?_
    exact m0
  · refine w_vret r_259_7 ?_
    exact kk h (Fr.refl _ _) (by omega) (h0 (by omega))
end MG
