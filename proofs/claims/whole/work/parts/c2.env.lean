/-! what the law's start gives: the constants, the classes, the statics -/
def stPs : List Nat := [32, 42, 53, 62, 69, 75, 81, 89, 98, 106, 112, 120, 129, 138, 148, 158, 168, 177, 184, 192, 200, 208, 215, 223, 230, 237, 246, 271, 283, 294, 303, 311, 319, 329, 339, 348, 355, 364, 374, 384, 395, 406, 416, 424, 433, 442, 450]
def flE : List Cond := flatC (Jvm.Cond.and given_1 narrow_1)
def tmS (i : Nat) : Term := .string (xstr.getD i ("", 0, "")).1 (xstr.getD i ("", 0, "")).2.1
def lnS (i : Nat) : Nat := (xsb.getD i []).length
def byS (i j : Nat) : Int32 := iI ((xsb.getD i []).getD j 0)
set_option maxRecDepth 100000 in
theorem fl_s : ∀ i, i < 47 → flE[stPs.getD i 0]? = some (.exactly (tmS i) "java/lang/String") ∧ flE[stPs.getD i 0 + 1]? = some (.eq (.field (tmS i) "java/lang/String" "coder" "B") (.int 0)) ∧ flE[stPs.getD i 0 + 2]? = some (.arrayOf (.field (tmS i) "java/lang/String" "value" "[B") .byte) ∧
    flE[stPs.getD i 0 + 3]? = some (.eq (.length (.field (tmS i) "java/lang/String" "value" "[B")) (.int (Int32.ofNat (lnS i)))) ∧ ∀ j, j < lnS i → flE[stPs.getD i 0 + 4 + j]? = some (.eq (.elem (.field (tmS i) "java/lang/String" "value" "[B") (.int (Int32.ofNat j))) (.int (byS i j))) := by decide +kernel
theorem fl_n : ∀ i, i < 47 → lnS i < 2 ^ 31 := by decide +kernel
theorem fl_c : ∀ i, i < 47 → xCT.getD (2 * i) (0, 0) = (60, 0) ∧ xCT.getD (2 * i + 1) (0, 0) = (2, lnS i) := by decide +kernel
theorem fl_l : xCT.length = 94 := by decide +kernel
theorem fl_x : xstr.length = 47 := by decide +kernel
theorem fl_4 : flE[4]? = some (.eq (.static "java/lang/String" "COMPACT_STRINGS" "Z") (.int 1)) := by decide +kernel
theorem fl_5 : flE[5]? = some (.isRef (.static "jdk/internal/util/Preconditions" "SIOOBE_FORMATTER" "Ljava/util/function/BiFunction;")) := by decide +kernel
theorem fl_10 : flE[10]? = some (.arrayOf (.static "SoftWheels$Digs" "UNITS" "[I") .int) := by decide +kernel
theorem fl_11 : flE[11]? = some (.eq (.length (.static "SoftWheels$Digs" "UNITS" "[I")) (.int (Int32.ofNat 5))) := by decide +kernel
def unL : List Int32 := [0, 1, 7, 49, 343]
theorem fl_12 : ∀ j, j < 5 → flE[12 + j]? = some (.eq (.elem (.static "SoftWheels$Digs" "UNITS" "[I") (.int (Int32.ofNat j))) (.int (unL.getD j 0))) := by decide +kernel
theorem fl_17 : flE[17]? = some (.isRef (.static Bundle.tN "UNASSIGNED_STACK" Bundle.steD)) := by decide +kernel
theorem fl_18 : flE[18]? = some (.isRef (.static Bundle.tN "SUPPRESSED_SENTINEL" Bundle.listD)) := by decide +kernel
theorem tb_1 : Cond.laysStatic "java/lang/String" "COMPACT_STRINGS" "Z" ∈ lw_tbl := by decide +kernel
theorem tb_2 : Cond.initialized "java/lang/String" ∈ lw_tbl := by decide +kernel
theorem tb_3 : Cond.laysStatic "SoftWheels$Digs" "UNITS" "[I" ∈ lw_tbl := by decide +kernel
theorem tb_4 : Cond.initialized "SoftWheels$Digs" ∈ lw_tbl := by decide +kernel
theorem tb_5 : Cond.laysStatic "jdk/internal/util/Preconditions" "SIOOBE_FORMATTER" "Ljava/util/function/BiFunction;" ∈ lw_tbl := by decide +kernel
theorem tb_6 : Cond.initialized "jdk/internal/util/Preconditions" ∈ lw_tbl := by decide +kernel
theorem tb_7 : Cond.laysStatic Bundle.tN "UNASSIGNED_STACK" Bundle.steD ∈ lw_tbl := by decide +kernel
theorem tb_8 : Cond.laysStatic Bundle.tN "SUPPRESSED_SENTINEL" Bundle.listD ∈ lw_tbl := by decide +kernel
theorem tb_9 : Cond.initialized Bundle.tN ∈ lw_tbl := by decide +kernel
theorem tb_10 : Cond.castable nse nse ∈ lw_tbl := by decide +kernel
theorem tb_11 : Cond.declares (dcl "java/lang/RuntimeException") ∈ lw_tbl := by decide +kernel
theorem tb_12 : Cond.declares (dcl "java/lang/Exception") ∈ lw_tbl := by decide +kernel
theorem tb_13 : Cond.declares (dcl "java/lang/Throwable") ∈ lw_tbl := by decide +kernel
theorem tb_14 : Cond.arrayOver (.object "SoftWheels$Plan") ∈ lw_tbl := by decide +kernel
theorem tb_n : ∀ q ∈ xnest, Cond.methodLinkNest q.1 q.2.1 q.2.2.1 q.2.2.2 ∈ lw_tbl := by decide +kernel
theorem tb_s : ∀ q ∈ xstr, Cond.stringRef q.1 q.2.1 q.2.2 ∈ lw_tbl := by decide +kernel
section ENV
variable {args : Array Value} {s : State} {A : Nat → Prop}
theorem str_at (hs : ∀ c ∈ flE, c.before args s = true) (hA : ∀ a : Nat, a < s.heap.size → ¬ A a) : ∃ adK adV : Nat → Nat, ∀ i : Nat, i < 47 → (tmS i).eval args s none [] s = some (.ref (adK i)) ∧ va_O "java/lang/String" (adK i) A s s.heap ∧ va_OF "java/lang/String" "coder" "B" (.int 0) (adK i) A s s.heap ∧ va_OF "java/lang/String" "value" "[B" (.ref (adV i)) (adK i) A s s.heap ∧ va_T .byte (adV i) (lnS i) (fun j => .int (byS i j)) A s s.heap := by
  have h0 : ∀ i : Nat, ∃ q : Nat × Nat, i < 47 → (tmS i).eval args s none [] s = some (.ref q.1) ∧ va_O "java/lang/String" q.1 A s s.heap ∧ va_OF "java/lang/String" "coder" "B" (.int 0) q.1 A s s.heap ∧ va_OF "java/lang/String" "value" "[B" (.ref q.2) q.1 A s s.heap ∧ va_T .byte q.2 (lnS i) (fun j => .int (byS i j)) A s s.heap := by
    intro i
    by_cases hi : i < 47
    · obtain ⟨f1, f2, f3, f4, f5⟩ := fl_s i hi
      have g1 := hs _ (List.mem_of_getElem? f1)
      have g2 := hs _ (List.mem_of_getElem? f2)
      have g3 := hs _ (List.mem_of_getElem? f3)
      have g4 := hs _ (List.mem_of_getElem? f4)
      obtain ⟨a, c, cA, kA, q1, q2, q3, q4, q5, q6, -⟩ := Cond.exactly_spec (args := args) (first := s) (o := none) (s := s) (idx := []) (t := tmS i) (cls := "java/lang/String") g1
      obtain ⟨t, ht, hT⟩ := va_Tof (f := fun j => .int (byS i j)) (A := A) (fl_n i hi) g3 (va_eqt g4) (fun j hj => va_eqt (hs _ (List.mem_of_getElem? (f5 j hj)))) hA
      exact ⟨(a, t), fun _ => ⟨q1, va_Oof g1 q1 hA, vk_OFof q1 (va_eqt g2) hA, vk_OFof q1 ht hA, hT⟩⟩
    · exact ⟨(0, 0), fun h => absurd h hi⟩
  obtain ⟨ad, had⟩ := Classical.axiomOfChoice h0
  exact ⟨fun i => (ad i).1, fun i => (ad i).2, had⟩
theorem cls_at (hts : ∀ w ∈ xTG, w.before args s = true) : ∃ D : va_G, ∀ (ci : Nat) (q : vw_C), vwCl[ci]? = some q → u_Kn s q.1 q.2.1 q.2.2 (D.1 ci) (D.2 ci) := by
  have h0 : ∀ ci : Nat, ∃ z : ClassId × (Nat → Nat), ∀ q : vw_C, vwCl[ci]? = some q → u_Kn s q.1 q.2.1 q.2.2 z.1 z.2 := by
    intro ci
    cases hq : vwCl[ci]? with
    | none => exact ⟨(0, fun _ => 0), fun q h => by cases h⟩
    | some q =>
      obtain ⟨x1, x2, x3, -⟩ := xhyp.2.2.1 ci q hq
      obtain ⟨cC, iS, hk⟩ := u_known hts x1 (hts _ x3)
      exact ⟨(cC, iS), fun q' h => by cases h; exact hk⟩
  obtain ⟨D, hD⟩ := Classical.axiomOfChoice h0
  exact ⟨(fun ci => (D ci).1, fun ci => (D ci).2), fun ci q hq => hD ci q hq⟩
theorem arr_at {ty : FieldType} (h : (Cond.arrayClass ty).before args s = true) : ∃ cA : ClassId, ArrOfT s cA ty ∧ s.vm.findClass ("[" ++ ty.toString) = some cA := by
  obtain ⟨cA, kA, comp, h1, h2, h3⟩ := Cond.arrayClass_spec h
  exact ⟨cA, fun N z => ⟨(fun k h => by cases h), kA, h2, comp, h3⟩, h1⟩
theorem plan_at (h : (Cond.arrayOver (.object "SoftWheels$Plan")).before args s = true) : ∃ cA : ClassId, ArrOfT s cA (.object "SoftWheels$Plan") ∧ va_RA s cA (.object "SoftWheels$Plan") := by
  obtain ⟨comp, cA, kA, h1, -, h2, h3, h4⟩ := Cond.arrayOver_spec h
  exact ⟨cA, fun N z => ⟨(fun k h => by cases h), kA, h2, comp, h3⟩, kA, comp, h2, h3, h1, h4⟩
end ENV
/-- where all lies -/
def wsE (b L : Nat) (xs : Nat → Int32) (u : Nat) (aK aV : Nat → Nat) (F : Value) (D : va_G) (cA : Nat → ClassId) (H : Heap) : XE :=
  (H.size - 1, fun k => if k = 0 then b else if k = 1 then u else if k % 2 = 0 then aK ((k - 10) / 2) else aV ((k - 11) / 2), F, D, cA, H,
   fun a => if a = 1000000 then (1, L) else if a = 1000001 then (1, 5) else if 1000010 ≤ a then xCT.getD (a - 1000010) (0, 0) else (0, 0),
   fun a j => if a = 1000000 then xs j else if a = 1000001 then unL.getD j 0 else if a % 2 = 0 then 0 else byS ((a - 1000011) / 2) j)
section WSE
variable {b L u : Nat} {xs : Nat → Int32} {aK aV : Nat → Nat} {F : Value} {D : va_G} {cA : Nat → ClassId} {H : Heap} {s : State}
theorem wsE_c0 : eC (wsE b L xs u aK aV F D cA H) 0 = b := rfl
theorem wsE_c1 : eC (wsE b L xs u aK aV F D cA H) 1 = u := rfl
theorem wsE_cK (i : Nat) : eC (wsE b L xs u aK aV F D cA H) (10 + 2 * i) = aK i := by
  show (if 10 + 2 * i = 0 then b else if 10 + 2 * i = 1 then u else if (10 + 2 * i) % 2 = 0 then aK ((10 + 2 * i - 10) / 2) else aV ((10 + 2 * i - 11) / 2)) = aK i
  rw [if_neg (by omega), if_neg (by omega), if_pos (by omega), show (10 + 2 * i - 10) / 2 = i by omega]
theorem wsE_cV (i : Nat) : eC (wsE b L xs u aK aV F D cA H) (11 + 2 * i) = aV i := by
  show (if 11 + 2 * i = 0 then b else if 11 + 2 * i = 1 then u else if (11 + 2 * i) % 2 = 0 then aK ((11 + 2 * i - 10) / 2) else aV ((11 + 2 * i - 11) / 2)) = aV i
  rw [if_neg (by omega), if_neg (by omega), if_neg (by omega), show (11 + 2 * i - 11) / 2 = i by omega]
theorem wsE_k (a : Nat) : eK (wsE b L xs u aK aV F D cA H) a = if a = 1000000 then (1, L) else if a = 1000001 then (1, 5) else if 1000010 ≤ a then xCT.getD (a - 1000010) (0, 0) else (0, 0) := rfl
theorem wsE_i (a j : Nat) : eI (wsE b L xs u aK aV F D cA H) a j = if a = 1000000 then xs j else if a = 1000001 then unL.getD j 0 else if a % 2 = 0 then 0 else byS ((a - 1000011) / 2) j := rfl
theorem wsE_kK {i : Nat} (hi : i < 47) : eK (wsE b L xs u aK aV F D cA H) (1000010 + 2 * i) = (60, 0) := by
  rw [wsE_k, if_neg (by omega), if_neg (by omega), if_pos (by omega), show 1000010 + 2 * i - 1000010 = 2 * i by omega]
  exact (fl_c i hi).1
theorem wsE_kV {i : Nat} (hi : i < 47) : eK (wsE b L xs u aK aV F D cA H) (1000011 + 2 * i) = (2, lnS i) := by
  rw [wsE_k, if_neg (by omega), if_neg (by omega), if_pos (by omega), show 1000011 + 2 * i - 1000010 = 2 * i + 1 by omega]
  exact (fl_c i hi).2
theorem wsE_iK (i j : Nat) : eI (wsE b L xs u aK aV F D cA H) (1000010 + 2 * i) j = 0 := by
  rw [wsE_i, if_neg (by omega), if_neg (by omega), if_pos (by omega)]
theorem wsE_iV (i j : Nat) : eI (wsE b L xs u aK aV F D cA H) (1000011 + 2 * i) j = byS i j := by
  rw [wsE_i, if_neg (by omega), if_neg (by omega), if_neg (by omega), show (1000011 + 2 * i - 1000011) / 2 = i by omega]
theorem XK.of {E : XE} {a k n : Nat} (hk : eK E a = (k, n)) (h1 : k = 1 → va_T .int (eC E (a - 1000000)) n (fun j => .int (eI E a j)) (xnA E) s (eH E)) (h2 : k = 2 → va_T .byte (eC E (a - 1000000)) n (fun j => .int (eI E a j)) (xnA E) s (eH E))
    (h3 : k = 60 → va_O "java/lang/String" (eC E (a - 1000000)) (xnA E) s (eH E) ∧ va_OF "java/lang/String" "value" "[B" (mvA E (eR a 0)) (eC E (a - 1000000)) (xnA E) s (eH E) ∧ va_OF "java/lang/String" "coder" "B" (.int (eI E a 1)) (eC E (a - 1000000)) (xnA E) s (eH E)) (h4 : k = 0 ∨ k = 1 ∨ k = 2 ∨ k = 60) : XK E s a := by
  unfold XK
  rw [hk]
  exact ⟨h1, h2, h3, h4⟩
theorem wsE_K (h0 : va_T .int b L (fun j => .int (xs j)) (xnA (wsE b L xs u aK aV F D cA H)) s H) (h1 : va_T .int u 5 (fun j => .int (unL.getD j 0)) (xnA (wsE b L xs u aK aV F D cA H)) s H)
    (h2 : ∀ i : Nat, i < 47 → va_O "java/lang/String" (aK i) (xnA (wsE b L xs u aK aV F D cA H)) s H ∧ va_OF "java/lang/String" "coder" "B" (.int 0) (aK i) (xnA (wsE b L xs u aK aV F D cA H)) s H ∧ va_OF "java/lang/String" "value" "[B" (.ref (aV i)) (aK i) (xnA (wsE b L xs u aK aV F D cA H)) s H ∧ va_T .byte (aV i) (lnS i) (fun j => .int (byS i j)) (xnA (wsE b L xs u aK aV F D cA H)) s H) :
    ∀ a, 1000000 ≤ a → XK (wsE b L xs u aK aV F D cA H) s a := by
  intro a ha
  by_cases e0 : a = 1000000
  · subst e0
    exact XK.of (k := 1) (n := L) rfl (fun _ => h0) (fun q => absurd q (by decide)) (fun q => absurd q (by decide)) (by decide)
  by_cases e1 : a = 1000001
  · subst e1
    exact XK.of (k := 1) (n := 5) rfl (fun _ => h1) (fun q => absurd q (by decide)) (fun q => absurd q (by decide)) (by decide)
  by_cases e2 : 1000010 ≤ a ∧ a < 1000104
  · by_cases ev : a % 2 = 0
    · obtain ⟨i, hi, rfl⟩ : ∃ i, i < 47 ∧ a = 1000010 + 2 * i := ⟨(a - 1000010) / 2, by omega, by omega⟩
      obtain ⟨s1, s2, s3, -⟩ := h2 i hi
      refine XK.of (k := 60) (n := 0) (wsE_kK hi) (fun q => absurd q (by decide)) (fun q => absurd q (by decide)) (fun _ => ?_) (by decide)
      have ec : eC (wsE b L xs u aK aV F D cA H) (1000010 + 2 * i - 1000000) = aK i := by
        rw [show 1000010 + 2 * i - 1000000 = 10 + 2 * i by omega]; exact wsE_cK i
      have ev : mvA (wsE b L xs u aK aV F D cA H) (eR (1000010 + 2 * i) 0) = .ref (aV i) := by
        show mvA (wsE b L xs u aK aV F D cA H) (1000010 + 2 * i + 1) = _
        unfold mvA
        rw [if_neg (by omega), mvN_ge (by omega), show 1000010 + 2 * i + 1 - 1000000 = 11 + 2 * i by omega, wsE_cV]
      rw [ec, ev, wsE_iK]
      exact ⟨s1, s3, s2⟩
    · obtain ⟨i, hi, rfl⟩ : ∃ i, i < 47 ∧ a = 1000011 + 2 * i := ⟨(a - 1000011) / 2, by omega, by omega⟩
      obtain ⟨-, -, -, s4⟩ := h2 i hi
      refine XK.of (k := 2) (n := lnS i) (wsE_kV hi) (fun q => absurd q (by decide)) (fun _ => ?_) (fun q => absurd q (by decide)) (by decide)
      have ec : eC (wsE b L xs u aK aV F D cA H) (1000011 + 2 * i - 1000000) = aV i := by
        rw [show 1000011 + 2 * i - 1000000 = 11 + 2 * i by omega]; exact wsE_cV i
      have ef : (fun j => Value.int (eI (wsE b L xs u aK aV F D cA H) (1000011 + 2 * i) j)) = fun j => Value.int (byS i j) := funext fun j => by rw [wsE_iV]
      rw [ec, ef]
      exact s4
  · refine XK.of (k := 0) (n := 0) ?_ (fun q => absurd q (by decide)) (fun q => absurd q (by decide)) (fun q => absurd q (by decide)) (by decide)
    rw [wsE_k, if_neg e0, if_neg e1]
    by_cases e3 : 1000010 ≤ a
    · rw [if_pos e3, List.getD_eq_getElem?_getD, List.getElem?_eq_none (by rw [fl_l]; omega)]; rfl
    · rw [if_neg e3]
/-- the heap at the law's start -/
def wsB (E : XE) : XH := (eI E, fun _ _ => 0, eR, eK E, 0, 0)
theorem wsB_rel {E : XE} (hH : (eH E).size = eB E + 1) : XRel E (zH (wsB E) [(0, 0, [], [])]) (eH E) := by
  refine ⟨hH, ⟨(by decide : 1 < 1000000), rfl, (by decide : 1 ≤ 1)⟩, fun q _ => rfl, fun a ha => ?_, fun a h1 h2 => ?_, fun a ha => ⟨?_, fun j => ⟨?_, ?_⟩⟩⟩
  · have ha : a < 1 := ha
    obtain rfl : a = 0 := by omega
    exact XA.nil rfl
  · have h1 : 1 ≤ a := h1
    have e := zH_k (b := wsB E) (cs := [(0, 0, [], [])]) (a := a) h2
    rw [List.getElem?_eq_none (by simp; omega)] at e
    exact congrArg Prod.fst e
  · have e := zH_kh (b := wsB E) (cs := [(0, 0, [], [])]) (a := a) (by omega)
    exact ⟨congrArg Prod.fst e, congrArg Prod.snd e⟩
  · rw [zH_Ih (by omega)]; rfl
  · rw [zH_Rh (by omega)]; rfl
theorem un_at : ∀ j, j < 5 → unL.getD j 0 = iI (unt (j : Int)) := by decide +kernel
theorem wsB_k : BsK (wsB (wsE b L xs u aK aV F D cA H)) xs L := by
  refine ⟨⟨rfl, rfl, fun j => rfl⟩, ⟨rfl, rfl, fun x h0 h4 => ?_⟩, fun j hj => ?_, fun j hj => (show 1000010 + 2 * j + 1 = 1000011 + 2 * j by omega), fun j hj => ⟨?_, fun k hk => ?_⟩⟩
  · have e := un_at x.toNat (by omega)
    rw [Int.toNat_of_nonneg h0] at e
    exact e
  · show eK (wsE b L xs u aK aV F D cA H) (1000010 + j) = _
    rw [wsE_k, if_neg (by omega), if_neg (by omega), if_pos (by omega), show 1000010 + j - 1000010 = j by omega]
  · show eI (wsE b L xs u aK aV F D cA H) (1000010 + 2 * j) 1 = iI 0
    rw [wsE_iK]; rfl
  · show eI (wsE b L xs u aK aV F D cA H) (1000011 + 2 * j) k = _
    rw [wsE_iV]; rfl
end WSE
