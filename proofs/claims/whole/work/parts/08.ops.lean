/-! rows that leave heap and locals alone, and rows that write locals -/
theorem xok_dec {y : YM} {pc : Nat} {r : XRow} (h : xok y (pc, r) = true) : decode y.2.1 pc = .ok (r.1, r.2.1) ∧ (xln r.1 = 0 ∨ r.2.1 = xln r.1) := by
  unfold xok at h
  simp only [Bool.and_eq_true, decide_eq_true_eq, Bool.or_eq_true] at h
  exact h.1
/-- ldc_w of a String constant -/
theorem xW_ldcwS {p : Program} {l : Launch} {e : Env} {R : Room} {s : State} {m : MethodId} {args : Array Value} {below : List Frame} {meth : Method} {c : Code} {H : Heap} {locs : List Loc} {cells slots : Nat} {Q : State → Prop} {cc : ByteArray} {pc : Nat} {ls : Array Slot} {rest : List Value}
    (hexec : p.tables.exec = Jvm.exec) (hb : c.code = cc) {own tx : String} {index q : Nat} (hown : s.vm.findClass own = some m.cls) (hZ : vk_R own index tx q s) (hdg : decode cc pc = .ok (.ldc_w index, 3))
    (k : W p l e R s m args below meth c H locs cells slots Q (F0 m (pc + 3) ls (.ref q :: rest))) : W p l e R s m args below meth c H locs cells slots Q (F0 m pc ls rest) := by
  intro T hT X
  obtain ⟨t, a1, b1⟩ := k T hT X
  refine ⟨t, ?_, b1⟩
  have hconst : (Cond.stringRef own index tx).before args s = true := hZ.1
  obtain ⟨k, cf, i, a', hk, hcf, hcp, -, hr, hev'⟩ := Cond.stringRef_spec hown hconst
  have hev : (Term.string own index).eval args s none [] s = some (.ref q) := hZ.2
  cases hev.symm.trans hev'
  obtain ⟨k', hk', he⟩ := X.warmed.alike.2.2 _ _ hk
  have hr' : k'.resolved[index]? = some (some (.string q)) := by
    rcases X.warmed.entry hk hk' index with h | ⟨h, -⟩
    · rw [h]; exact hr
    · rw [hr] at h; cases h
  have hdg' : decode c.code pc = .ok (.ldc_w index, 3) := by rw [hb]; exact hdg
  jvm_step X.here [hexec, hdg', ldc_w.wp_string (e := e) (s := T) (f := F0 m pc ls rest) X.here.top hk' (by rw [he]; exact hcf) hcp hr']
  exact a1

section XO
variable {E : XE} {y : YM} {pc : Nat} {ls st : List Value} {h : XH} {pc' : Nat} {ls' st' : List Value} {h' : XH}
variable {p : Program} {l : Launch} {e : Env} {R : Room} {s : State} {m : MethodId} {args : Array Value} {below : List Frame} {meth : Method} {c : Code} {H : Heap} {locs : List Loc} {cells slots : Nat} {Q : State → Prop} {lR : Array Slot} {N0 U0 : Nat}
/-- how a row's walk goes on -/
abbrev XKont (E : XE) (n : Nat) (p : Program) (l : Launch) (e : Env) (R : Room) (s : State) (m : MethodId) (args : Array Value) (below : List Frame) (meth : Method) (c : Code) (Q : State → Prop) (N0 U0 : Nat) (z : XC) : Prop :=
  ∀ (lR : Array Slot) (H : Heap) (locs : List Loc) (cells slots : Nat), XLoc E z.2.1 lR n → XRel E z.2.2.2 H → (∀ q ∈ locs, eB E < q.base) → cells + N0 = gN z.2.2.2 → slots + U0 = gU z.2.2.2 → W p l e R s m args below meth c H locs cells slots Q (F0 m z.1 lR (z.2.2.1.map (mv E)))
/-- an instruction that changes the stack alone -/
theorem xs_loadI {n : Nat} {i k : Nat} {z : XC} (hop : xloadI ls i k st h = some z) (hL : XLoc E ls lR n) (hR : XRel E h H) (hlo : ∀ q ∈ locs, eB E < q.base) (hce : cells + N0 = gN h) (hsl : slots + U0 = gU h)
    (kk : XKont E n p l e R s m args below meth c Q N0 U0 z) (hw : ∀ x : Int32, lR[i]? = some (.val (.int x)) → W p l e R s m args below meth c H locs cells slots Q (F0 m k lR (.int x :: st.map (mv E))) → W p l e R s m args below meth c H locs cells slots Q (F0 m pc lR (st.map (mv E)))) :
    W p l e R s m args below meth c H locs cells slots Q (F0 m pc lR (st.map (mv E))) := by
  unfold xloadI at hop
  split at hop
  · rename_i x hx
    cases hop
    exact hw x (hL.2.2.2 i _ hx (by intro q; cases q)) (kk lR H locs cells slots hL hR hlo hce hsl)
  · cases hop
theorem xs_loadL {n : Nat} {i k : Nat} {z : XC} (hop : xloadL ls i k st h = some z) (hL : XLoc E ls lR n) (hR : XRel E h H) (hlo : ∀ q ∈ locs, eB E < q.base) (hce : cells + N0 = gN h) (hsl : slots + U0 = gU h)
    (kk : XKont E n p l e R s m args below meth c Q N0 U0 z) (hw : ∀ x : Int64, lR[i]? = some (.val (.long x)) → W p l e R s m args below meth c H locs cells slots Q (F0 m k lR (.long x :: st.map (mv E))) → W p l e R s m args below meth c H locs cells slots Q (F0 m pc lR (st.map (mv E)))) :
    W p l e R s m args below meth c H locs cells slots Q (F0 m pc lR (st.map (mv E))) := by
  unfold xloadL at hop
  split at hop
  · rename_i x hx
    cases hop
    exact hw x (hL.2.2.2 i _ hx (by intro q; cases q)) (kk lR H locs cells slots hL hR hlo hce hsl)
  · cases hop
/-- a reference is loaded: the machine's may be null where it is the formatter -/
theorem xs_loadA {n : Nat} {i k : Nat} {z : XC} (hop : xloadA ls i k st h = some z) (hL : XLoc E ls lR n) (hR : XRel E h H) (hlo : ∀ q ∈ locs, eB E < q.base) (hce : cells + N0 = gN h) (hsl : slots + U0 = gU h)
    (kk : XKont E n p l e R s m args below meth c Q N0 U0 z) (hw : ∀ x : Nat, lR[i]? = some (.val (mvA E x)) → W p l e R s m args below meth c H locs cells slots Q (F0 m k lR (mvA E x :: st.map (mv E))) → W p l e R s m args below meth c H locs cells slots Q (F0 m pc lR (st.map (mv E)))) :
    W p l e R s m args below meth c H locs cells slots Q (F0 m pc lR (st.map (mv E))) := by
  unfold xloadA at hop
  split at hop
  · rename_i x hx
    cases hop
    exact hw x (hL.2.2.2 i _ hx (by intro q; cases q)) (kk lR H locs cells slots hL hR hlo hce hsl)
  · cases hop
end XO
