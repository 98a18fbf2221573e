/-! every instruction that is neither a call nor an end -/
section XM
variable {E : XE} {y : YM} {pc : Nat} {ls st : List Value} {h : XH}
variable {p : Program} {l : Launch} {e : Env} {R : Room} {s : State} {m : MethodId} {args : Array Value} {below : List Frame} {meth : Method} {c : Code} {H : Heap} {locs : List Loc} {cells slots : Nat} {Q : State → Prop} {lR : Array Slot} {N0 U0 : Nat}
theorem xs_storeI {n : Nat} {i k : Nat} {z : XC} (G : XG E s) (hop : xstoreI ls i k st h = some z) (hL : XLoc E ls lR n) (hR : XRel E h H) (hlo : ∀ q ∈ locs, eB E < q.base) (hce : cells + N0 = gN h) (hsl : slots + U0 = gU h)
    (kk : XKont E n p l e R s m args below meth c Q N0 U0 z) (hw : ∀ (x : Int32) (t : List Value) (lv' : List (Nat × Value)), i < n → (i, Value.int x) :: (xas E ls).filter (fun q => !(q.1 == i) && !(q.1 + 1 == i && q.2.category == 2)) = lv' → (∀ l' : Array Slot, lv_has l' n lv' → W p l e R s m args below meth c H locs cells slots Q (F0 m k l' t)) → W p l e R s m args below meth c H locs cells slots Q (F0 m pc lR (.int x :: t))) :
    W p l e R s m args below meth c H locs cells slots Q (F0 m pc lR (st.map (mv E))) := by
  unfold xstoreI at hop
  split at hop
  · rename_i x t
    split at hop
    · rename_i hi
      cases hop
      rw [hL.1] at hi
      exact hw x _ _ hi rfl fun l' hl' => kk l' H locs cells slots (XLoc.set1 G.fc hl' hL.1 hi) hR hlo hce hsl
    · cases hop
  · cases hop
theorem xs_storeL {n : Nat} {i k : Nat} {z : XC} (G : XG E s) (hop : xstoreL ls i k st h = some z) (hL : XLoc E ls lR n) (hR : XRel E h H) (hlo : ∀ q ∈ locs, eB E < q.base) (hce : cells + N0 = gN h) (hsl : slots + U0 = gU h)
    (kk : XKont E n p l e R s m args below meth c Q N0 U0 z) (hw : ∀ (x : Int64) (t : List Value) (lv' : List (Nat × Value)), i + 1 < n → (i, Value.long x) :: (xas E ls).filter (fun q => !(q.1 == i) && (!(q.1 == i + 1) && !(q.1 + 1 == i && q.2.category == 2))) = lv' → (∀ l' : Array Slot, lv_has l' n lv' → W p l e R s m args below meth c H locs cells slots Q (F0 m k l' t)) → W p l e R s m args below meth c H locs cells slots Q (F0 m pc lR (.long x :: t))) :
    W p l e R s m args below meth c H locs cells slots Q (F0 m pc lR (st.map (mv E))) := by
  unfold xstoreL at hop
  split at hop
  · rename_i x t
    split at hop
    · rename_i hi
      cases hop
      rw [hL.1] at hi
      exact hw x _ _ hi rfl fun l' hl' => kk l' H locs cells slots (XLoc.set2 G.fc hl' hL.1 hi) hR hlo hce hsl
    · cases hop
  · cases hop
theorem xs_storeA {n : Nat} {i k : Nat} {z : XC} (G : XG E s) (hop : xstoreA ls i k st h = some z) (hL : XLoc E ls lR n) (hR : XRel E h H) (hlo : ∀ q ∈ locs, eB E < q.base) (hce : cells + N0 = gN h) (hsl : slots + U0 = gU h)
    (kk : XKont E n p l e R s m args below meth c Q N0 U0 z) (hw : ∀ (v : Value) (t : List Value) (lv' : List (Nat × Value)), (v = .null ∨ ∃ x, v = .ref x) → i < n → (i, v) :: (xas E ls).filter (fun q => !(q.1 == i) && !(q.1 + 1 == i && q.2.category == 2)) = lv' → (∀ l' : Array Slot, lv_has l' n lv' → W p l e R s m args below meth c H locs cells slots Q (F0 m k l' t)) → W p l e R s m args below meth c H locs cells slots Q (F0 m pc lR (v :: t))) :
    W p l e R s m args below meth c H locs cells slots Q (F0 m pc lR (st.map (mv E))) := by
  unfold xstoreA at hop
  split at hop
  · rename_i x t
    split at hop
    · rename_i hi
      cases hop
      rw [hL.1] at hi
      exact hw (mvA E x) _ _ (mvA_or G x) hi rfl fun l' hl' => kk l' H locs cells slots (XLoc.set1 (v := .ref x) G.fc hl' hL.1 hi) hR hlo hce hsl
    · cases hop
  · cases hop
set_option maxHeartbeats 4000000 in
theorem xop_snd (X : XHyp) {r : XRow} {z : XC} (hok : xok y (pc, r) = true) (hop : xop r pc ls st h = some z) (hled : ¬ (∃ i, r.1 = .invokestatic i ∧ r.2.2.2.1 = 3)) (C : XCtx E y p s m args meth c) (hrf : 1 ≤ R.frames) (hrl : 40 ≤ R.locals)
    (hcN : gN z.2.2.2 ≤ R.cells + N0) (hcU : gU z.2.2.2 ≤ R.slots + U0) (hL : XLoc E ls lR y.2.2.1) (hR : XRel E h H) (hlo : ∀ q ∈ locs, eB E < q.base) (hce : cells + N0 = gN h) (hsl : slots + U0 = gU h)
    (kk : XKont E y.2.2.1 p l e R s m args below meth c Q N0 U0 z) : W p l e R s m args below meth c H locs cells slots Q (F0 m pc lR (st.map (mv E))) := by
  obtain ⟨hd, hln⟩ := xok_dec hok
  unfold xok at hok
  rw [Bool.and_eq_true] at hok
  replace hok := hok.2
  obtain ⟨hx, hb, hml, hown, hts, hnm, G⟩ := id C
  obtain ⟨ins, len, a, b, cd, w⟩ := r
  dsimp only at hd hln hok hop
  cases ins
  case iconst k => obtain rfl : len = 1 := hln.resolve_left (by intro q; cases q); cases hop; exact lv_iconst hx hb hd rfl (kk lR H locs cells slots hL hR hlo hce hsl)
  case bipush k => obtain rfl : len = 2 := hln.resolve_left (by intro q; cases q); cases hop; exact lv_bipush hx hb hd rfl (kk lR H locs cells slots hL hR hlo hce hsl)
  case sipush k => obtain rfl : len = 3 := hln.resolve_left (by intro q; cases q); cases hop; exact lv_sipush hx hb hd rfl (kk lR H locs cells slots hL hR hlo hce hsl)
  case lconst k => obtain rfl : len = 1 := hln.resolve_left (by intro q; cases q); cases hop; exact lv_lconst hx hb hd rfl (kk lR H locs cells slots hL hR hlo hce hsl)
  case ldc k =>
    obtain rfl : len = 2 := hln.resolve_left (by intro q; cases q)
    simp only [xop] at hop
    split at hop
    · rename_i hb0
      cases hop
      have hb0 : b = 0 := hb0
      simp only [hb0, if_true] at hok
      exact lv_ldc hx hb hown (hts _ (xisW_in X hok)) hd (kk lR H locs cells slots hL hR hlo hce hsl)
    · rename_i hb0
      cases hop
      have hb0 : ¬ b = 0 := hb0
      simp only [hb0, if_false, Bool.and_eq_true, decide_eq_true_eq] at hok
      cases hs : xstr[a]? with
      | none => rw [hs] at hok; cases hok.2
      | some q =>
        rw [hs] at hok
        have h2 := hok.2
        simp only [Bool.and_eq_true, decide_eq_true_eq] at h2
        have hZ := G.2.2.1 a q hs
        rw [h2.1, h2.2] at hZ
        refine va_ldcS hx hb hown hZ hd ?_
        have kk := kk lR H locs cells slots hL hR hlo hce hsl
        have eq9 : mvA E (1000010 + 2 * a) = .ref (eC E (10 + 2 * a)) := by
          unfold mvA
          rw [if_neg (by omega), mvN_ge (by omega), show 1000010 + 2 * a - 1000000 = 10 + 2 * a by omega]
        have kk : W p l e R s m args below meth c H locs cells slots Q (F0 m (pc + 2) lR (mvA E (1000010 + 2 * a) :: st.map (mv E))) := kk
        rw [eq9] at kk
        exact kk
  case ldc_w k =>
    obtain rfl : len = 3 := hln.resolve_left (by intro q; cases q)
    simp only [xop] at hop
    split at hop
    · rename_i hb0
      cases hop
      have hb0 : b = 0 := hb0
      simp only [hb0, if_true] at hok
      exact lv_ldcw hx hb hown (hts _ (xisW_in X hok)) hd (kk lR H locs cells slots hL hR hlo hce hsl)
    · rename_i hb0
      cases hop
      have hb0 : ¬ b = 0 := hb0
      simp only [hb0, if_false, Bool.and_eq_true, decide_eq_true_eq] at hok
      cases hs : xstr[a]? with
      | none => rw [hs] at hok; cases hok.2
      | some q =>
        rw [hs] at hok
        have h2 := hok.2
        simp only [Bool.and_eq_true, decide_eq_true_eq] at h2
        have hZ := G.2.2.1 a q hs
        rw [h2.1, h2.2] at hZ
        refine xW_ldcwS hx hb hown hZ hd ?_
        have kk := kk lR H locs cells slots hL hR hlo hce hsl
        have eq9 : mvA E (1000010 + 2 * a) = .ref (eC E (10 + 2 * a)) := by
          unfold mvA
          rw [if_neg (by omega), mvN_ge (by omega), show 1000010 + 2 * a - 1000000 = 10 + 2 * a by omega]
        have kk : W p l e R s m args below meth c H locs cells slots Q (F0 m (pc + 3) lR (mvA E (1000010 + 2 * a) :: st.map (mv E))) := kk
        rw [eq9] at kk
        exact kk
  case ldc2_w k => obtain rfl : len = 3 := hln.resolve_left (by intro q; cases q); cases hop; exact lv_ldc2 hx hb hown (hts _ (xisW_in X hok)) hd (kk lR H locs cells slots hL hR hlo hce hsl)
  case iload k => obtain rfl : len = 2 := hln.resolve_left (by intro q; cases q); exact xs_loadI hop hL hR hlo hce hsl kk fun x h1 k => lv_iload hx hb hd h1 k
  case iload_n k => obtain rfl : len = 1 := hln.resolve_left (by intro q; cases q); exact xs_loadI hop hL hR hlo hce hsl kk fun x h1 k => lv_iload_n hx hb hd rfl h1 k
  case lload k => obtain rfl : len = 2 := hln.resolve_left (by intro q; cases q); exact xs_loadL hop hL hR hlo hce hsl kk fun x h1 k => lv_lload hx hb hd h1 k
  case lload_n k => obtain rfl : len = 1 := hln.resolve_left (by intro q; cases q); exact xs_loadL hop hL hR hlo hce hsl kk fun x h1 k => lv_lload_n hx hb hd rfl h1 k
  case aload k =>
    obtain rfl : len = 2 := hln.resolve_left (by intro q; cases q)
    refine xs_loadA hop hL hR hlo hce hsl kk fun x h1 k => ?_
    rcases mvA_or G x with q | ⟨t, q⟩ <;> rw [q] at h1 k
    · exact lv_aloadN hx hb hd h1 k
    · exact lv_aload hx hb hd h1 k
  case aload_n k =>
    obtain rfl : len = 1 := hln.resolve_left (by intro q; cases q)
    refine xs_loadA hop hL hR hlo hce hsl kk fun x h1 k => ?_
    rcases mvA_or G x with q | ⟨t, q⟩ <;> rw [q] at h1 k
    · exact lv_aload_nN hx hb hd rfl h1 k
    · exact lv_aload_n hx hb hd rfl h1 k
  case istore k => obtain rfl : len = 2 := hln.resolve_left (by intro q; cases q); exact xs_storeI G hop hL hR hlo hce hsl kk fun x t lv hi hl k => lv_istore hx hb hd hL.has hi hl k
  case istore_n k => obtain rfl : len = 1 := hln.resolve_left (by intro q; cases q); exact xs_storeI G hop hL hR hlo hce hsl kk fun x t lv hi hl k => lv_istore_n hx hb hd rfl hL.has hi hl k
  case lstore k => obtain rfl : len = 2 := hln.resolve_left (by intro q; cases q); exact xs_storeL G hop hL hR hlo hce hsl kk fun x t lv hi hl k => lv_lstore hx hb hd hL.has hi hl k
  case lstore_n k => obtain rfl : len = 1 := hln.resolve_left (by intro q; cases q); exact xs_storeL G hop hL hR hlo hce hsl kk fun x t lv hi hl k => lv_lstore_n hx hb hd rfl hL.has hi hl k
  case astore k =>
    obtain rfl : len = 2 := hln.resolve_left (by intro q; cases q)
    refine xs_storeA G hop hL hR hlo hce hsl kk fun v t lv hv hi hl k => ?_
    rcases hv with rfl | ⟨x, rfl⟩
    · exact lv_astoreN hx hb hd hL.has hi hl k
    · exact lv_astore hx hb hd hL.has hi hl k
  case astore_n k =>
    obtain rfl : len = 1 := hln.resolve_left (by intro q; cases q)
    refine xs_storeA G hop hL hR hlo hce hsl kk fun v t lv hv hi hl k => ?_
    rcases hv with rfl | ⟨x, rfl⟩
    · exact lv_astore_nN hx hb hd rfl hL.has hi hl k
    · exact lv_astore_n hx hb hd rfl hL.has hi hl k
  case iinc k v =>
    obtain rfl : len = 3 := hln.resolve_left (by intro q; cases q)
    simp only [xop] at hop
    unfold xinc at hop
    split at hop
    · rename_i x hx2
      cases hop
      have hi : k < y.2.2.1 := by rw [← hL.1]; exact (List.getElem?_eq_some_iff.mp hx2).1
      obtain ⟨j, hj⟩ := List.getElem?_of_mem (xas_mem.mpr ⟨_, hx2, (by intro q; cases q), rfl⟩ : (k, mv E (.int x)) ∈ xas E ls)
      exact lv_iinc hx hb hd hL.has hj rfl hi rfl fun l' hl' => kk l' H locs cells slots (XLoc.set1 (v := .int (x + Int32.ofInt v)) G.fc hl' hL.1 hi) hR hlo hce hsl
    · cases hop
  case iadd =>
    obtain rfl : len = 1 := hln.resolve_left (by intro q; cases q)
    simp only [xop, xii] at hop
    split at hop
    · cases hop
      exact lv_iadd hx hb hd (kk lR H locs cells slots hL hR hlo hce hsl)
    · cases hop
  case isub =>
    obtain rfl : len = 1 := hln.resolve_left (by intro q; cases q)
    simp only [xop, xii] at hop
    split at hop
    · cases hop
      exact lv_isub hx hb hd (kk lR H locs cells slots hL hR hlo hce hsl)
    · cases hop
  case imul =>
    obtain rfl : len = 1 := hln.resolve_left (by intro q; cases q)
    simp only [xop, xii] at hop
    split at hop
    · cases hop
      exact lv_imul hx hb hd (kk lR H locs cells slots hL hR hlo hce hsl)
    · cases hop
  case iand =>
    obtain rfl : len = 1 := hln.resolve_left (by intro q; cases q)
    simp only [xop, xii] at hop
    split at hop
    · cases hop
      exact lv_iand hx hb hd (kk lR H locs cells slots hL hR hlo hce hsl)
    · cases hop
  case ior =>
    obtain rfl : len = 1 := hln.resolve_left (by intro q; cases q)
    simp only [xop, xii] at hop
    split at hop
    · cases hop
      exact lv_ior hx hb hd (kk lR H locs cells slots hL hR hlo hce hsl)
    · cases hop
  case ixor =>
    obtain rfl : len = 1 := hln.resolve_left (by intro q; cases q)
    simp only [xop, xii] at hop
    split at hop
    · cases hop
      exact lv_ixor hx hb hd (kk lR H locs cells slots hL hR hlo hce hsl)
    · cases hop
  case ishl =>
    obtain rfl : len = 1 := hln.resolve_left (by intro q; cases q)
    simp only [xop, xii] at hop
    split at hop
    · cases hop
      exact lv_ishl hx hb hd (kk lR H locs cells slots hL hR hlo hce hsl)
    · cases hop
  case ishr =>
    obtain rfl : len = 1 := hln.resolve_left (by intro q; cases q)
    simp only [xop, xii] at hop
    split at hop
    · cases hop
      exact lv_ishr hx hb hd (kk lR H locs cells slots hL hR hlo hce hsl)
    · cases hop
  case ladd =>
    obtain rfl : len = 1 := hln.resolve_left (by intro q; cases q)
    simp only [xop, xll] at hop
    split at hop
    · cases hop
      exact lv_ladd hx hb hd (kk lR H locs cells slots hL hR hlo hce hsl)
    · cases hop
  case lsub =>
    obtain rfl : len = 1 := hln.resolve_left (by intro q; cases q)
    simp only [xop, xll] at hop
    split at hop
    · cases hop
      exact lv_lsub hx hb hd (kk lR H locs cells slots hL hR hlo hce hsl)
    · cases hop
  case lmul =>
    obtain rfl : len = 1 := hln.resolve_left (by intro q; cases q)
    simp only [xop, xll] at hop
    split at hop
    · cases hop
      exact lv_lmul hx hb hd (kk lR H locs cells slots hL hR hlo hce hsl)
    · cases hop
  case ineg =>
    obtain rfl : len = 1 := hln.resolve_left (by intro q; cases q)
    simp only [xop, xi] at hop
    split at hop
    · cases hop
      exact lv_ineg hx hb hd (kk lR H locs cells slots hL hR hlo hce hsl)
    · cases hop
  case i2l =>
    obtain rfl : len = 1 := hln.resolve_left (by intro q; cases q)
    simp only [xop, xi] at hop
    split at hop
    · cases hop
      exact lv_i2l hx hb hd rfl (kk lR H locs cells slots hL hR hlo hce hsl)
    · cases hop
  case i2b =>
    obtain rfl : len = 1 := hln.resolve_left (by intro q; cases q)
    simp only [xop, xi] at hop
    split at hop
    · cases hop
      exact lv_i2b hx hb hd rfl (kk lR H locs cells slots hL hR hlo hce hsl)
    · cases hop
  case i2c =>
    obtain rfl : len = 1 := hln.resolve_left (by intro q; cases q)
    simp only [xop, xi] at hop
    split at hop
    · cases hop
      exact lv_i2c hx hb hd rfl (kk lR H locs cells slots hL hR hlo hce hsl)
    · cases hop
  case l2i =>
    obtain rfl : len = 1 := hln.resolve_left (by intro q; cases q)
    simp only [xop, xl] at hop
    split at hop
    · cases hop
      exact lv_l2i hx hb hd rfl (kk lR H locs cells slots hL hR hlo hce hsl)
    · cases hop
  case lneg =>
    obtain rfl : len = 1 := hln.resolve_left (by intro q; cases q)
    simp only [xop, xl] at hop
    split at hop
    · cases hop
      exact lv_lneg hx hb hd (kk lR H locs cells slots hL hR hlo hce hsl)
    · cases hop
  case lcmp =>
    obtain rfl : len = 1 := hln.resolve_left (by intro q; cases q)
    simp only [xop] at hop
    split at hop
    · cases hop
      exact W.lcmp hx hb hd (kk lR H locs cells slots hL hR hlo hce hsl)
    · cases hop
  case idiv =>
    obtain rfl : len = 1 := hln.resolve_left (by intro q; cases q)
    simp only [xop, xiiD] at hop
    split at hop
    · split at hop
      · cases hop
      · rename_i h0
        cases hop
        exact lv_idiv hx hb hd h0 (kk lR H locs cells slots hL hR hlo hce hsl)
    · cases hop
  case irem =>
    obtain rfl : len = 1 := hln.resolve_left (by intro q; cases q)
    simp only [xop, xiiD] at hop
    split at hop
    · split at hop
      · cases hop
      · rename_i h0
        cases hop
        exact lv_irem hx hb hd h0 (kk lR H locs cells slots hL hR hlo hce hsl)
    · cases hop
  case ldiv =>
    obtain rfl : len = 1 := hln.resolve_left (by intro q; cases q)
    simp only [xop, xllD] at hop
    split at hop
    · split at hop
      · cases hop
      · rename_i h0
        cases hop
        exact lv_ldiv hx hb hd h0 (kk lR H locs cells slots hL hR hlo hce hsl)
    · cases hop
  case lrem =>
    obtain rfl : len = 1 := hln.resolve_left (by intro q; cases q)
    simp only [xop, xllD] at hop
    split at hop
    · split at hop
      · cases hop
      · rename_i h0
        cases hop
        exact lv_lrem hx hb hd h0 (kk lR H locs cells slots hL hR hlo hce hsl)
    · cases hop
  case ifCond k o =>
    obtain rfl : len = 3 := hln.resolve_left (by intro q; cases q)
    have ht : (pc : Int) + o = (a : Int) := of_decide_eq_true hok
    simp only [xop] at hop
    split at hop
    · unfold xjmp at hop
      cases k
      case eq =>
        refine lv_if_eq hx hb hd ht (fun q => ?_) (fun q => ?_)
        · rw [if_pos (by simp [xcond, q])] at hop
          cases hop
          exact kk lR H locs cells slots hL hR hlo hce hsl
        · rw [if_neg (by simp [xcond, q])] at hop
          cases hop
          exact kk lR H locs cells slots hL hR hlo hce hsl
      case ne =>
        refine lv_if_ne hx hb hd ht (fun q => ?_) (fun q => ?_)
        · rw [if_pos (by simp [xcond, q])] at hop
          cases hop
          exact kk lR H locs cells slots hL hR hlo hce hsl
        · rw [if_neg (by simp [xcond, q])] at hop
          cases hop
          exact kk lR H locs cells slots hL hR hlo hce hsl
      case lt =>
        refine lv_if_lt hx hb hd ht (fun q => ?_) (fun q => ?_)
        · rw [if_pos (by simp [xcond, q])] at hop
          cases hop
          exact kk lR H locs cells slots hL hR hlo hce hsl
        · rw [if_neg (by simp [xcond, q])] at hop
          cases hop
          exact kk lR H locs cells slots hL hR hlo hce hsl
      case ge =>
        refine lv_if_ge hx hb hd ht (fun q => ?_) (fun q => ?_)
        · rw [if_pos (by simp [xcond, q])] at hop
          cases hop
          exact kk lR H locs cells slots hL hR hlo hce hsl
        · rw [if_neg (by simp [xcond, q])] at hop
          cases hop
          exact kk lR H locs cells slots hL hR hlo hce hsl
      case gt =>
        refine lv_if_gt hx hb hd ht (fun q => ?_) (fun q => ?_)
        · rw [if_pos (by simp [xcond, q])] at hop
          cases hop
          exact kk lR H locs cells slots hL hR hlo hce hsl
        · rw [if_neg (by simp [xcond, q])] at hop
          cases hop
          exact kk lR H locs cells slots hL hR hlo hce hsl
      case le =>
        refine lv_if_le hx hb hd ht (fun q => ?_) (fun q => ?_)
        · rw [if_pos (by simp [xcond, q])] at hop
          cases hop
          exact kk lR H locs cells slots hL hR hlo hce hsl
        · rw [if_neg (by simp [xcond, q])] at hop
          cases hop
          exact kk lR H locs cells slots hL hR hlo hce hsl
    · cases hop
  case if_icmp k o =>
    obtain rfl : len = 3 := hln.resolve_left (by intro q; cases q)
    have ht : (pc : Int) + o = (a : Int) := of_decide_eq_true hok
    simp only [xop] at hop
    split at hop
    · unfold xjmp at hop
      cases k
      case eq =>
        refine lv_icmp_eq hx hb hd ht (fun q => ?_) (fun q => ?_)
        · rw [if_pos (by simp [xcond, q])] at hop
          cases hop
          exact kk lR H locs cells slots hL hR hlo hce hsl
        · rw [if_neg (by simp [xcond, q])] at hop
          cases hop
          exact kk lR H locs cells slots hL hR hlo hce hsl
      case ne =>
        refine lv_icmp_ne hx hb hd ht (fun q => ?_) (fun q => ?_)
        · rw [if_pos (by simp [xcond, q])] at hop
          cases hop
          exact kk lR H locs cells slots hL hR hlo hce hsl
        · rw [if_neg (by simp [xcond, q])] at hop
          cases hop
          exact kk lR H locs cells slots hL hR hlo hce hsl
      case lt =>
        refine lv_icmp_lt hx hb hd ht (fun q => ?_) (fun q => ?_)
        · rw [if_pos (by simp [xcond, q])] at hop
          cases hop
          exact kk lR H locs cells slots hL hR hlo hce hsl
        · rw [if_neg (by simp [xcond, q])] at hop
          cases hop
          exact kk lR H locs cells slots hL hR hlo hce hsl
      case ge =>
        refine lv_icmp_ge hx hb hd ht (fun q => ?_) (fun q => ?_)
        · rw [if_pos (by simp [xcond, q])] at hop
          cases hop
          exact kk lR H locs cells slots hL hR hlo hce hsl
        · rw [if_neg (by simp [xcond, q])] at hop
          cases hop
          exact kk lR H locs cells slots hL hR hlo hce hsl
      case gt =>
        refine lv_icmp_gt hx hb hd ht (fun q => ?_) (fun q => ?_)
        · rw [if_pos (by simp [xcond, q])] at hop
          cases hop
          exact kk lR H locs cells slots hL hR hlo hce hsl
        · rw [if_neg (by simp [xcond, q])] at hop
          cases hop
          exact kk lR H locs cells slots hL hR hlo hce hsl
      case le =>
        refine lv_icmp_le hx hb hd ht (fun q => ?_) (fun q => ?_)
        · rw [if_pos (by simp [xcond, q])] at hop
          cases hop
          exact kk lR H locs cells slots hL hR hlo hce hsl
        · rw [if_neg (by simp [xcond, q])] at hop
          cases hop
          exact kk lR H locs cells slots hL hR hlo hce hsl
    · cases hop
  case goto o =>
    obtain rfl : len = 3 := hln.resolve_left (by intro q; cases q)
    have ht : (pc : Int) + o = (a : Int) := of_decide_eq_true hok
    cases hop
    exact lv_goto hx hb hd ht (kk lR H locs cells slots hL hR hlo hce hsl)
  case tableswitch d lo hi os =>
    simp only [Bool.and_eq_true, decide_eq_true_eq, Array.all_eq_true] at hok
    simp only [xop] at hop
    unfold xswi at hop
    split at hop
    · rename_i x t
      split at hop
      · rename_i hc
        cases hop
        exact lv_tableOut hx hb hd hc (by have := hok.1; omega) (kk lR H locs cells slots hL hR hlo hce hsl)
      · rename_i hc
        split at hop
        · rename_i o ho
          cases hop
          have hge : 0 ≤ (pc : Int) + o := by
            obtain ⟨hlt, he⟩ := Array.getElem?_eq_some_iff.mp ho
            have := hok.2 _ hlt
            rw [he] at this
            exact this
          exact lv_tableIn hx hb hd (fun q => hc (Or.inl q)) (fun q => hc (Or.inr q)) ho (by omega) (kk lR H locs cells slots hL hR hlo hce hsl)
        · cases hop
    · cases hop
  case dup =>
    obtain rfl : len = 1 := hln.resolve_left (by intro q; cases q)
    simp only [xop, xdup] at hop
    split at hop
    · cases hop
      exact lv_dup hx hb hd rfl (kk lR H locs cells slots hL hR hlo hce hsl)
    · rename_i x t
      cases hop
      exact lv_dup hx hb hd (mv_cat G.fc (.ref x)) (kk lR H locs cells slots hL hR hlo hce hsl)
    · cases hop
  case pop =>
    obtain rfl : len = 1 := hln.resolve_left (by intro q; cases q)
    simp only [xop, xpop] at hop
    split at hop
    · cases hop
      exact lv_pop hx hb hd rfl (kk lR H locs cells slots hL hR hlo hce hsl)
    · rename_i x t
      cases hop
      exact lv_pop hx hb hd (mv_cat G.fc (.ref x)) (kk lR H locs cells slots hL hR hlo hce hsl)
    · cases hop
  case dup2 =>
    obtain rfl : len = 1 := hln.resolve_left (by intro q; cases q)
    simp only [xop, xdup2] at hop
    split at hop
    · cases hop
      exact lv_dup2_11 hx hb hd rfl rfl (kk lR H locs cells slots hL hR hlo hce hsl)
    · rename_i z x t
      cases hop
      exact lv_dup2_11 hx hb hd rfl (mv_cat G.fc (.ref x)) (kk lR H locs cells slots hL hR hlo hce hsl)
    · cases hop
  case iaload =>
    obtain rfl : len = 1 := hln.resolve_left (by intro q; cases q)
    exact xs_aldI C hop hd hL hR hlo hce hsl kk
  case baload =>
    obtain rfl : len = 1 := hln.resolve_left (by intro q; cases q)
    exact xs_aldB C hop hd hL hR hlo hce hsl kk
  case laload =>
    obtain rfl : len = 1 := hln.resolve_left (by intro q; cases q)
    exact xs_aldL C hop hd hL hR hlo hce hsl kk
  case aaload =>
    obtain rfl : len = 1 := hln.resolve_left (by intro q; cases q)
    exact xs_aldA C hop hd hL hR hlo hce hsl kk
  case iastore =>
    obtain rfl : len = 1 := hln.resolve_left (by intro q; cases q)
    exact xs_astI C hop hd hL hR hlo hce hsl kk
  case bastore =>
    obtain rfl : len = 1 := hln.resolve_left (by intro q; cases q)
    exact xs_astB C hop hd hL hR hlo hce hsl kk
  case lastore =>
    obtain rfl : len = 1 := hln.resolve_left (by intro q; cases q)
    exact xs_astL C hop hd hL hR hlo hce hsl kk
  case arraylength =>
    obtain rfl : len = 1 := hln.resolve_left (by intro q; cases q)
    exact xs_len C hop hd hL hR hlo hce hsl kk
  case aastore =>
    obtain rfl : len = 1 := hln.resolve_left (by intro q; cases q)
    have ha : a = 16 := of_decide_eq_true hok
    subst ha
    exact xs_astA C hop hd hL hR hlo hce hsl kk
  case newarray t =>
    obtain rfl : len = 2 := hln.resolve_left (by intro q; cases q)
    exact xs_newa X C (of_decide_eq_true hok) hop hd hL hR hlo hce hsl hcN hcU kk
  case anewarray i =>
    obtain rfl : len = 3 := hln.resolve_left (by intro q; cases q)
    exact xs_newq C (xisW_in X hok) hop hd hL hR hlo hce hsl hcN hcU kk
  case new i =>
    obtain rfl : len = 3 := hln.resolve_left (by intro q; cases q)
    cases hs : vwCl[a - 10]? with
    | none => simp only [hs] at hok; cases hok
    | some q =>
      simp only [hs, Bool.and_eq_true, decide_eq_true_eq] at hok
      obtain ⟨⟨h1, h2⟩, h3⟩ := hok
      obtain ⟨ci, rfl⟩ : ∃ ci, a = 10 + ci := ⟨a - 10, by omega⟩
      rw [show 10 + ci - 10 = ci by omega] at hs
      subst h2
      exact xs_newo X C hs (xisW_in X h3) hop hd hL hR hlo hce hsl hcN hcU kk
  case getfield i =>
    obtain rfl : len = 3 := hln.resolve_left (by intro q; cases q)
    by_cases h60 : a = 60
    · subst h60
      simp only [if_true] at hok
      by_cases hb0 : b = 0
      · simp only [hb0, if_true, Bool.and_eq_true, decide_eq_true_eq] at hok
        exact xs_getS C (Or.inl ⟨hb0, hok.1, xisW_in X hok.2⟩) hop hd hL hR hlo hce hsl kk
      · simp only [hb0, if_false, Bool.and_eq_true, decide_eq_true_eq] at hok
        exact xs_getS C (Or.inr ⟨hok.1.1, hok.1.2, xisW_in X hok.2⟩) hop hd hL hR hlo hce hsl kk
    · simp only [h60, if_false] at hok
      unfold xokF at hok
      cases hs : vwCl[a - 10]? with
      | none => simp only [hs] at hok; cases hok
      | some q =>
        simp only [hs, Bool.and_eq_true, decide_eq_true_eq, if_true] at hok
        obtain ⟨⟨⟨h1, h2⟩, h3⟩, h4⟩ := hok
        obtain ⟨ci, rfl⟩ : ∃ ci, a = 10 + ci := ⟨a - 10, by omega⟩
        rw [show 10 + ci - 10 = ci by omega] at hs
        exact xs_get X C hs h2 h4 (xisW_in X h3) hop hd hL hR hlo hce hsl kk
  case putfield i =>
    obtain rfl : len = 3 := hln.resolve_left (by intro q; cases q)
    unfold xokF at hok
    cases hs : vwCl[a - 10]? with
    | none => simp only [hs] at hok; cases hok
    | some q =>
      simp only [hs, Bool.and_eq_true, decide_eq_true_eq, Bool.false_eq_true, if_false] at hok
      obtain ⟨⟨⟨h1, h2⟩, h3⟩, h4, h5⟩ := hok
      obtain ⟨ci, rfl⟩ : ∃ ci, a = 10 + ci := ⟨a - 10, by omega⟩
      rw [show 10 + ci - 10 = ci by omega] at hs
      exact xs_put X C hs h2 h4 h5 (xisW_in X h3) hop hd hL hR hlo hce hsl kk
  case getstatic i =>
    obtain rfl : len = 3 := hln.resolve_left (by intro q; cases q)
    simp only [xop, xstat] at hop
    by_cases h0 : a = 0
    · subst h0
      rw [if_pos rfl] at hop
      cases hop
      simp only [if_true] at hok
      exact xs_gets C G.2.2.2.2.1 hR (xisW_in X hok) hd (kk lR H locs cells slots hL hR hlo hce hsl)
    · rw [if_neg h0] at hop
      cases hop
      simp only [h0, if_false] at hok
      by_cases h1 : a = 1
      · subst h1
        simp only [if_true] at hok
        exact xs_gets C G.2.2.2.2.2.1 hR (xisW_in X hok) hd (kk lR H locs cells slots hL hR hlo hce hsl)
      · simp only [h1, if_false, Bool.and_eq_true, decide_eq_true_eq] at hok
        obtain ⟨rfl, hok⟩ := hok
        exact xs_gets C G.2.2.2.2.2.2.1 hR (xisW_in X hok) hd (kk lR H locs cells slots hL hR hlo hce hsl)
  case invokespecial i =>
    obtain rfl : len = 3 := hln.resolve_left (by intro q; cases q)
    simp only [xop] at hop
    split at hop
    · rename_i h1
      have h1 : b = 1 := h1
      subst h1
      simp only [Nat.one_ne_zero, if_false, decide_true, Bool.true_and] at hok
      exact xs_obj (n := 0) X C hrf hrl (xisW_in X hok) hop hd hL hR hlo hce hsl kk
    · cases hop
  case invokestatic i =>
    obtain rfl : len = 3 := hln.resolve_left (by intro q; cases q)
    simp only [xop] at hop
    split at hop
    · rename_i h1
      have h1 : b = 2 := h1
      subst h1
      simp only [if_true] at hok
      exact xs_copy X C hrf hrl (xisW_in X hok) hop hd hL hR hlo hce hsl kk
    · split at hop
      · rename_i h3
        exact absurd ⟨i, rfl, h3⟩ hled
      · cases hop
  all_goals (simp only [xop] at hop; cases hop)
end XM
