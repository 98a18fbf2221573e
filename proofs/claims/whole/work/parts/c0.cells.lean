/-! the heap as a list of cells, for the constructors: kind, size, ints, references -/
abbrev ZC : Type := Nat × Nat × List (Nat × Int32) × List (Nat × Nat)
def zli (c : Option ZC) (j : Nat) : Int32 := match c with
  | none => 0
  | some q => match q.2.2.1.find? (fun z => z.1 == j) with
    | none => 0
    | some z => z.2
def zlr (c : Option ZC) (j : Nat) : Nat := match c with
  | none => 0
  | some q => match q.2.2.2.find? (fun z => z.1 == j) with
    | none => 0
    | some z => z.2
def zlk (c : Option ZC) : Nat × Nat := match c with
  | none => (0, 0)
  | some q => (q.1, q.2.1)
def zls (cs : List ZC) : Nat := (cs.map fun c => c.2.1).sum
/-- the cells below 1000000 are the list's, those above are b's -/
def zH (b : XH) (cs : List ZC) : XH :=
  (fun a j => if a < 1000000 then zli cs[a]? j else gI b a j, fun a j => if a < 1000000 then 0 else gL b a j, fun a j => if a < 1000000 then zlr cs[a]? j else gR b a j, fun a => if a < 1000000 then zlk cs[a]? else (gK b a, gZ b a), cs.length, zls cs)
section ZH
variable {b : XH} {cs : List ZC} {q : ZC} {a : Nat}
theorem zH_N : gN (zH b cs) = cs.length := rfl
theorem zH_U : gU (zH b cs) = zls cs := rfl
theorem zH_I (ha : a < 1000000) (j : Nat) : gI (zH b cs) a j = zli cs[a]? j := by
  show (if a < 1000000 then _ else _) = _
  rw [if_pos ha]
theorem zH_R (ha : a < 1000000) (j : Nat) : gR (zH b cs) a j = zlr cs[a]? j := by
  show (if a < 1000000 then _ else _) = _
  rw [if_pos ha]
theorem zH_k (ha : a < 1000000) : (gK (zH b cs) a, gZ (zH b cs) a) = zlk cs[a]? := by
  show (((if a < 1000000 then zlk cs[a]? else (gK b a, gZ b a)) : Nat × Nat).1, ((if a < 1000000 then zlk cs[a]? else (gK b a, gZ b a)) : Nat × Nat).2) = _
  rw [if_pos ha]
theorem zH_Ih (ha : ¬ a < 1000000) (j : Nat) : gI (zH b cs) a j = gI b a j := by
  show (if a < 1000000 then _ else _) = _
  rw [if_neg ha]
theorem zH_Rh (ha : ¬ a < 1000000) (j : Nat) : gR (zH b cs) a j = gR b a j := by
  show (if a < 1000000 then _ else _) = _
  rw [if_neg ha]
theorem zH_kh (ha : ¬ a < 1000000) : (gK (zH b cs) a, gZ (zH b cs) a) = (gK b a, gZ b a) := by
  show (((if a < 1000000 then zlk cs[a]? else (gK b a, gZ b a)) : Nat × Nat).1, ((if a < 1000000 then zlk cs[a]? else (gK b a, gZ b a)) : Nat × Nat).2) = _
  rw [if_neg ha]
theorem zlt (hq : cs[a]? = some q) : a < cs.length := (List.getElem?_eq_some_iff.mp hq).1
theorem zH_K (hq : cs[a]? = some q) (hl : cs.length < 1000000) : gK (zH b cs) a = q.1 := by
  have h := zH_k (b := b) (cs := cs) (a := a) (Nat.lt_trans (zlt hq) hl)
  rw [hq] at h
  exact congrArg Prod.fst h
theorem zH_Z (hq : cs[a]? = some q) (hl : cs.length < 1000000) : gZ (zH b cs) a = q.2.1 := by
  have h := zH_k (b := b) (cs := cs) (a := a) (Nat.lt_trans (zlt hq) hl)
  rw [hq] at h
  exact congrArg Prod.snd h
theorem zapp {c : ZC} (h : ¬ a = cs.length) : (cs ++ [c])[a]? = cs[a]? := by
  by_cases g : a < cs.length
  · exact List.getElem?_append_left g
  · rw [List.getElem?_append_right (by omega), List.getElem?_eq_none (by simp; omega), List.getElem?_eq_none (by omega)]
theorem zapp_s {c : ZC} : (cs ++ [c])[cs.length]? = some c := by simp
theorem zls_app {c : ZC} : zls (cs ++ [c]) = zls cs + c.2.1 := by simp [zls]
theorem zH_new (k n : Nat) (hl : cs.length < 1000000) : xnew (zH b cs) k n = zH b (cs ++ [(k, n, [], [])]) := by
  have e1 : (fun a' j' => if a' = cs.length then (0 : Int32) else (zH b cs).1 a' j') = (zH b (cs ++ [(k, n, [], [])])).1 := by
    funext a' j'
    show (if a' = cs.length then (0 : Int32) else (if a' < 1000000 then zli cs[a']? j' else gI b a' j')) = (if a' < 1000000 then zli (cs ++ [(k, n, [], [])])[a']? j' else gI b a' j')
    by_cases e : a' = cs.length
    · rw [if_pos e, if_pos (by omega), e, zapp_s]; rfl
    · rw [if_neg e, zapp e]
  have e2 : (fun a' j' => if a' = cs.length then (0 : Int64) else (zH b cs).2.1 a' j') = (zH b (cs ++ [(k, n, [], [])])).2.1 := by
    funext a' j'
    show (if a' = cs.length then (0 : Int64) else (if a' < 1000000 then 0 else gL b a' j')) = (if a' < 1000000 then 0 else gL b a' j')
    by_cases e : a' = cs.length
    · rw [if_pos e, if_pos (by omega)]
    · rw [if_neg e]
  have e3 : (fun a' j' => if a' = cs.length then (0 : Nat) else (zH b cs).2.2.1 a' j') = (zH b (cs ++ [(k, n, [], [])])).2.2.1 := by
    funext a' j'
    show (if a' = cs.length then (0 : Nat) else (if a' < 1000000 then zlr cs[a']? j' else gR b a' j')) = (if a' < 1000000 then zlr (cs ++ [(k, n, [], [])])[a']? j' else gR b a' j')
    by_cases e : a' = cs.length
    · rw [if_pos e, if_pos (by omega), e, zapp_s]; rfl
    · rw [if_neg e, zapp e]
  have e4 : (fun a' => if a' = cs.length then (k, n) else (zH b cs).2.2.2.1 a') = (zH b (cs ++ [(k, n, [], [])])).2.2.2.1 := by
    funext a'
    show (if a' = cs.length then (k, n) else (if a' < 1000000 then zlk cs[a']? else (gK b a', gZ b a'))) = (if a' < 1000000 then zlk (cs ++ [(k, n, [], [])])[a']? else (gK b a', gZ b a'))
    by_cases e : a' = cs.length
    · rw [if_pos e, if_pos (by omega), e, zapp_s]; rfl
    · rw [if_neg e, zapp e]
  show ((fun a' j' => if a' = cs.length then (0 : Int32) else (zH b cs).1 a' j'), (fun a' j' => if a' = cs.length then (0 : Int64) else (zH b cs).2.1 a' j'), (fun a' j' => if a' = cs.length then (0 : Nat) else (zH b cs).2.2.1 a' j'), (fun a' => if a' = cs.length then (k, n) else (zH b cs).2.2.2.1 a'), cs.length + 1, zls cs + n) = zH b (cs ++ [(k, n, [], [])])
  rw [e1, e2, e3, e4]
  have e5 : (cs ++ [(k, n, [], [])]).length = cs.length + 1 := by simp
  have e6 : zls (cs ++ [(k, n, [], [])]) = zls cs + n := zls_app
  rw [← e5, ← e6]
  rfl
theorem zset (hq : cs[a]? = some q) (q' : ZC) (a' : Nat) : (cs.set a q')[a']? = if a' = a then some q' else cs[a']? := by
  by_cases e : a' = a
  · subst e
    rw [if_pos rfl, List.getElem?_set_self (zlt hq)]
  · rw [if_neg e, List.getElem?_set_ne (Ne.symm e)]
theorem zls_set (hq : cs[a]? = some q) (q' : ZC) (hz : q'.2.1 = q.2.1) : zls (cs.set a q') = zls cs := by
  have e : (cs.set a q').map (fun c => c.2.1) = cs.map (fun c => c.2.1) := by
    apply List.ext_getElem?
    intro i
    rw [List.getElem?_map, List.getElem?_map, zset hq]
    by_cases e : i = a
    · rw [if_pos e, e, hq]
      show some q'.2.1 = some q.2.1
      rw [hz]
    · rw [if_neg e]
  unfold zls
  rw [e]
theorem zH_sI (hq : cs[a]? = some q) (hl : cs.length < 1000000) (j : Nat) (v : Int32) : sI (zH b cs) a j v = zH b (cs.set a (q.1, q.2.1, (j, v) :: q.2.2.1, q.2.2.2)) := by
  have ha := zlt hq
  generalize hq' : ((q.1, q.2.1, (j, v) :: q.2.2.1, q.2.2.2) : ZC) = q'
  have e1 : (fun a' j' => if a' = a ∧ j' = j then v else (zH b cs).1 a' j') = (zH b (cs.set a q')).1 := by
    funext a' j'
    show (if a' = a ∧ j' = j then v else (if a' < 1000000 then zli cs[a']? j' else gI b a' j')) = (if a' < 1000000 then zli (cs.set a q')[a']? j' else gI b a' j')
    rw [zset hq]
    by_cases e : a' = a
    · subst e
      rw [if_pos (show a' < 1000000 by omega), if_pos (show a' < 1000000 by omega), if_pos rfl, hq, ← hq']
      show _ = (match ((j, v) :: q.2.2.1).find? (fun z => z.1 == j') with | none => (0 : Int32) | some z => z.2)
      by_cases f : j' = j
      · rw [if_pos ⟨rfl, f⟩, f, List.find?_cons_of_pos (by simp)]
      · rw [if_neg (fun w => f w.2), List.find?_cons_of_neg (by simp; exact fun w => f w.symm)]
        rfl
    · rw [if_neg (fun w => e w.1), if_neg e]
  have e3 : (zH b cs).2.2.1 = (zH b (cs.set a q')).2.2.1 := by
    funext a' j'
    show (if a' < 1000000 then zlr cs[a']? j' else gR b a' j') = (if a' < 1000000 then zlr (cs.set a q')[a']? j' else gR b a' j')
    rw [zset hq]
    by_cases e : a' = a
    · subst e
      rw [if_pos rfl, hq, ← hq']; rfl
    · rw [if_neg e]
  have e4 : (zH b cs).2.2.2.1 = (zH b (cs.set a q')).2.2.2.1 := by
    funext a'
    show (if a' < 1000000 then zlk cs[a']? else (gK b a', gZ b a')) = (if a' < 1000000 then zlk (cs.set a q')[a']? else (gK b a', gZ b a'))
    rw [zset hq]
    by_cases e : a' = a
    · subst e
      rw [if_pos rfl, hq, ← hq']; rfl
    · rw [if_neg e]
  show ((fun a' j' => if a' = a ∧ j' = j then v else (zH b cs).1 a' j'), (zH b cs).2.1, (zH b cs).2.2.1, (zH b cs).2.2.2.1, cs.length, zls cs) = zH b (cs.set a q')
  rw [e1, e3, e4]
  have e5 : (cs.set a q').length = cs.length := List.length_set
  have e6 : zls (cs.set a q') = zls cs := zls_set hq q' (by rw [← hq'])
  rw [← e5, ← e6]
  rfl
theorem zH_sR (hq : cs[a]? = some q) (hl : cs.length < 1000000) (j : Nat) (v : Nat) : sR (zH b cs) a j v = zH b (cs.set a (q.1, q.2.1, q.2.2.1, (j, v) :: q.2.2.2)) := by
  have ha := zlt hq
  generalize hq' : ((q.1, q.2.1, q.2.2.1, (j, v) :: q.2.2.2) : ZC) = q'
  have e1 : (zH b cs).1 = (zH b (cs.set a q')).1 := by
    funext a' j'
    show (if a' < 1000000 then zli cs[a']? j' else gI b a' j') = (if a' < 1000000 then zli (cs.set a q')[a']? j' else gI b a' j')
    rw [zset hq]
    by_cases e : a' = a
    · subst e
      rw [if_pos rfl, hq, ← hq']; rfl
    · rw [if_neg e]
  have e3 : (fun a' j' => if a' = a ∧ j' = j then v else (zH b cs).2.2.1 a' j') = (zH b (cs.set a q')).2.2.1 := by
    funext a' j'
    show (if a' = a ∧ j' = j then v else (if a' < 1000000 then zlr cs[a']? j' else gR b a' j')) = (if a' < 1000000 then zlr (cs.set a q')[a']? j' else gR b a' j')
    rw [zset hq]
    by_cases e : a' = a
    · subst e
      rw [if_pos (show a' < 1000000 by omega), if_pos (show a' < 1000000 by omega), if_pos rfl, hq, ← hq']
      show _ = (match ((j, v) :: q.2.2.2).find? (fun z => z.1 == j') with | none => (0 : Nat) | some z => z.2)
      by_cases f : j' = j
      · rw [if_pos ⟨rfl, f⟩, f, List.find?_cons_of_pos (by simp)]
      · rw [if_neg (fun w => f w.2), List.find?_cons_of_neg (by simp; exact fun w => f w.symm)]
        rfl
    · rw [if_neg (fun w => e w.1), if_neg e]
  have e4 : (zH b cs).2.2.2.1 = (zH b (cs.set a q')).2.2.2.1 := by
    funext a'
    show (if a' < 1000000 then zlk cs[a']? else (gK b a', gZ b a')) = (if a' < 1000000 then zlk (cs.set a q')[a']? else (gK b a', gZ b a'))
    rw [zset hq]
    by_cases e : a' = a
    · subst e
      rw [if_pos rfl, hq, ← hq']; rfl
    · rw [if_neg e]
  show ((zH b cs).1, (zH b cs).2.1, (fun a' j' => if a' = a ∧ j' = j then v else (zH b cs).2.2.1 a' j'), (zH b cs).2.2.2.1, cs.length, zls cs) = zH b (cs.set a q')
  rw [e1, e3, e4]
  have e5 : (cs.set a q').length = cs.length := List.length_set
  have e6 : zls (cs.set a q') = zls cs := zls_set hq q' (by rw [← hq'])
  rw [← e5, ← e6]
  rfl
end ZH
/-! a small interpreter over such heaps -/
abbrev ZX : Type := Nat × List Value × List Value × List ZC
def zpure (r : XRow) (pc : Nat) (ls st : List Value) : Option (Nat × List Value × List Value) := match r.1 with
  | .iconst n => some (pc + 1, ls, .int (Int32.ofInt n) :: st)
  | .bipush n => some (pc + 2, ls, .int (Int8.ofInt n).toInt32 :: st)
  | .sipush n => some (pc + 3, ls, .int (Int16.ofInt n).toInt32 :: st)
  | .ldc _ => if r.2.2.2.1 = 0 then some (pc + 2, ls, .int (Int32.ofNat r.2.2.1) :: st) else none
  | .aload_n i => (match ls[(i : Nat)]? with
    | some (.ref x) => some (pc + 1, ls, .ref x :: st)
    | _ => none)
  | .iload_n i => (match ls[(i : Nat)]? with
    | some (.int x) => some (pc + 1, ls, .int x :: st)
    | _ => none)
  | .istore_n i => (match st with
    | .int x :: t => if (i : Nat) < ls.length then some (pc + 1, xset1 ls (i : Nat) (.int x), t) else none
    | _ => none)
  | .iinc i n => (match ls[i]? with
    | some (.int x) => some (pc + 3, xset1 ls i (.int (x + Int32.ofInt n)), st)
    | _ => none)
  | .dup => (match st with
    | .ref x :: t => some (pc + 1, ls, .ref x :: .ref x :: t)
    | _ => none)
  | .goto _ => some (r.2.2.1, ls, st)
  | .if_icmp c _ => (match st with
    | .int y :: .int x :: t => if xcond c x y = true then some (r.2.2.1, ls, t) else some (pc + 3, ls, t)
    | _ => none)
  | _ => none
def zheap (r : XRow) (pc : Nat) (ls st : List Value) (cs : List ZC) : Option ZX := match r.1 with
  | .new _ => if cs.length < 999999 then some (pc + 3, ls, .ref cs.length :: st, cs ++ [(r.2.2.1, r.2.2.2.1, [], [])]) else none
  | .newarray t => (match st with
    | .int n :: t' => if ¬ n < 0 ∧ n.toNatClampNeg ≤ 1000000 ∧ cs.length < 999999 then some (pc + 2, ls, .ref cs.length :: t', cs ++ [(xatK t, n.toNatClampNeg, [], [])]) else none
    | _ => none)
  | .anewarray _ => (match st with
    | .int n :: t' => if ¬ n < 0 ∧ n.toNatClampNeg ≤ 1000000 ∧ cs.length < 999999 then some (pc + 3, ls, .ref cs.length :: t', cs ++ [(5, n.toNatClampNeg, [], [])]) else none
    | _ => none)
  | .getfield _ => (match st with
    | .ref o :: t => (match cs[o]? with
      | some q => if q.1 = r.2.2.1 ∧ r.2.2.2.2.1 = 2 ∧ ¬ zlr (some q) r.2.2.2.1 = 0 then some (pc + 3, ls, .ref (zlr (some q) r.2.2.2.1) :: t, cs) else none
      | none => none)
    | _ => none)
  | .putfield _ => (match st with
    | .int v :: .ref o :: t => (match cs[o]? with
      | some q => if q.1 = r.2.2.1 ∧ (r.2.2.2.2.1 = 0 ∨ r.2.2.2.2.1 = 3 ∧ (v = 0 ∨ v = 1)) then some (pc + 3, ls, t, cs.set o (q.1, q.2.1, (r.2.2.2.1, v) :: q.2.2.1, q.2.2.2)) else none
      | none => none)
    | .ref v :: .ref o :: t => (match cs[o]? with
      | some q => if q.1 = r.2.2.1 ∧ r.2.2.2.2.1 = 2 ∧ v ≠ 0 then some (pc + 3, ls, t, cs.set o (q.1, q.2.1, q.2.2.1, (r.2.2.2.1, v) :: q.2.2.2)) else none
      | none => none)
    | _ => none)
  | .aastore => (match st with
    | .ref x :: .int i :: .ref a :: t => (match cs[a]?, cs[x]? with
      | some q, some p => if q.1 = 5 ∧ xin i q.2.1 = true ∧ p.1 = r.2.2.1 ∧ x ≠ 0 then some (pc + 1, ls, t, cs.set a (q.1, q.2.1, q.2.2.1, (i.toNatClampNeg, x) :: q.2.2.2)) else none
      | _, _ => none)
    | _ => none)
  | .invokespecial _ => if r.2.2.2.1 = 1 then (match st with
    | .ref o :: t => (match cs[o]? with
      | some q => if q.1 ≠ 0 ∧ xcat t ≤ 8 then some (pc + 3, ls, t, cs) else none
      | none => none)
    | _ => none) else none
  | _ => none
def zrcv (k : Nat) (as : List Value) (cs : List ZC) : Bool := match as with
  | .ref x :: _ => (match cs[x]? with
    | some q => decide (q.1 = k)
    | none => false)
  | _ => false
def zcal (r : XRow) (st : List Value) (cs : List ZC) : Option (Nat × List Value × List Value) := match xtm[r.2.2.1]? with
  | none => none
  | some q => if q.1.2.2.2.2.1 ≤ st.length ∧ xcat (st.drop q.1.2.2.2.2.1) ≤ 8 ∧ (xflat (st.take q.1.2.2.2.2.1).reverse).length ≤ q.1.2.2.1 ∧ zrcv q.1.2.2.2.2.2.1 (st.take q.1.2.2.2.2.1).reverse cs = true then some (r.2.2.1, (st.take q.1.2.2.2.2.1).reverse, st.drop q.1.2.2.2.2.1) else none
def zrun : Nat → Nat → Nat → Nat → List Value → List Value → List ZC → Option (List ZC)
  | 0, _, _, _, _, _, _ => none
  | n + 1, d, m, pc, ls, st, cs => match xrow m pc with
    | none => none
    | some r =>
      if xisE r = true then (match xend r st with
        | some none => some cs
        | _ => none)
      else if xisC r = true then (match d with
        | 0 => none
        | d' + 1 => match zcal r st cs with
          | none => none
          | some (y, as, rest) => match zrun n d' y 0 (xent (xmL y) as) [] cs with
            | none => none
            | some cs' => zrun n (d' + 1) m (pc + 3) ls rest cs')
      else (match zpure r pc ls st with
        | some (pc', ls', st') => zrun n d m pc' ls' st' cs
        | none => match zheap r pc ls st cs with
          | none => none
          | some (pc', ls', st', cs') => zrun n d m pc' ls' st' cs')
section ZRUN
variable {b : XH}
theorem zpure_snd {r : XRow} {pc : Nat} {ls st : List Value} {h : XH} {pc' : Nat} {ls' st' : List Value} (hz : zpure r pc ls st = some (pc', ls', st')) : xop r pc ls st h = some (pc', ls', st', h) := by
  obtain ⟨ins, len, ra, rb, rc, rw⟩ := r
  unfold zpure at hz
  cases ins <;> dsimp only at hz <;> try (cases hz; done)
  all_goals (try (cases hz; rfl))
  case ldc i =>
    split at hz
    · rename_i q
      cases hz
      show (if rb = 0 then _ else _) = _
      rw [if_pos q]
    · cases hz
  case aload_n i =>
    show xloadA ls (i : Nat) (pc + 1) st h = _
    unfold xloadA
    split at hz
    · rename_i x q
      cases hz
      rw [q]
    · cases hz
  case iload_n i =>
    show xloadI ls (i : Nat) (pc + 1) st h = _
    unfold xloadI
    split at hz
    · rename_i x q
      cases hz
      rw [q]
    · cases hz
  case istore_n i =>
    show xstoreI ls (i : Nat) (pc + 1) st h = _
    unfold xstoreI
    split at hz
    · split at hz
      · rename_i q
        cases hz
        dsimp only
        rw [if_pos q]
      · cases hz
    · cases hz
  case iinc i n =>
    show xinc ls i n (pc + 3) st h = _
    unfold xinc
    split at hz
    · rename_i x q
      cases hz
      rw [q]
    · cases hz
  case dup =>
    show xdup (pc + 1) ls st h = _
    unfold xdup
    split at hz
    · cases hz; rfl
    · cases hz
  case if_icmp c o =>
    split at hz
    · rename_i y x t
      split at hz
      · rename_i q
        injection hz with e0
        injection e0 with e1 e2
        injection e2 with e2 e3
        rw [← e1, ← e2, ← e3]
        show xjmp (xcond c x y) ra (pc + 3) ls t h = some (ra, ls, t, h)
        rw [q]; rfl
      · rename_i q
        injection hz with e0
        injection e0 with e1 e2
        injection e2 with e2 e3
        rw [← e1, ← e2, ← e3]
        show xjmp (xcond c x y) ra (pc + 3) ls t h = some (pc + 3, ls, t, h)
        rw [Bool.eq_false_iff.mpr q]; rfl
    · cases hz
theorem zheap_snd {r : XRow} {pc : Nat} {ls st : List Value} {cs : List ZC} {pc' : Nat} {ls' st' : List Value} {cs' : List ZC} (hl : cs.length < 1000000) (hz : zheap r pc ls st cs = some (pc', ls', st', cs')) : xop r pc ls st (zH b cs) = some (pc', ls', st', zH b cs') ∧ cs'.length < 1000000 := by
  obtain ⟨ins, len, ra, rb, rc, rw⟩ := r
  unfold zheap at hz
  cases ins <;> dsimp only at hz <;> try (cases hz; done)
  case new i =>
    split at hz
    · rename_i q
      cases hz
      refine ⟨?_, by simp; omega⟩
      show xnewo ra rb (pc + 3) ls st (zH b cs) = _
      unfold xnewo
      rw [if_pos (show gN (zH b cs) < 999999 from q), zH_new _ _ hl]; rfl
    · cases hz
  case newarray t =>
    split at hz
    · split at hz
      · rename_i n t' q
        cases hz
        refine ⟨?_, by simp; omega⟩
        show xnewa (xatK t) (pc + 2) ls (.int n :: t') (zH b cs) = _
        unfold xnewa
        dsimp only
        rw [if_pos (show ¬ n < 0 ∧ n.toNatClampNeg ≤ 1000000 ∧ gN (zH b cs) < 999999 from q), zH_new _ _ hl]; rfl
      · cases hz
    · cases hz
  case anewarray t =>
    split at hz
    · split at hz
      · rename_i n t' q
        cases hz
        refine ⟨?_, by simp; omega⟩
        show xnewa 5 (pc + 3) ls (.int n :: t') (zH b cs) = _
        unfold xnewa
        dsimp only
        rw [if_pos (show ¬ n < 0 ∧ n.toNatClampNeg ≤ 1000000 ∧ gN (zH b cs) < 999999 from q), zH_new _ _ hl]; rfl
      · cases hz
    · cases hz
  case getfield i =>
    split at hz
    · rename_i o t
      split at hz
      · rename_i q hq
        split at hz
        · rename_i g
          cases hz
          refine ⟨?_, hl⟩
          show xget ra rb rc (pc + 3) ls (.ref o :: t) (zH b cs) = _
          unfold xget
          dsimp only
          have e : gR (zH b cs) o rb = zlr (some q) rb := by rw [zH_R (Nat.lt_trans (zlt hq) hl), hq]
          rw [if_pos ((zH_K hq hl).trans g.1), e]
          have g2 : rc = 2 := g.2.1
          subst g2
          rw [if_neg (by decide), if_neg (by decide), if_neg g.2.2]
        · cases hz
      · cases hz
    · cases hz
  case putfield i =>
    split at hz
    · rename_i v o t
      split at hz
      · rename_i q hq
        split at hz
        · rename_i g
          cases hz
          refine ⟨?_, by rw [List.length_set]; exact hl⟩
          show xput ra rb rc (pc + 3) ls (.int v :: .ref o :: st') (zH b cs) = _
          unfold xput
          dsimp only
          rw [if_pos ⟨(zH_K hq hl).trans g.1, zlt hq, g.2⟩, zH_sI hq hl]
        · cases hz
      · cases hz
    · rename_i v o t
      split at hz
      · rename_i q hq
        split at hz
        · rename_i g
          cases hz
          refine ⟨?_, by rw [List.length_set]; exact hl⟩
          show xput ra rb rc (pc + 3) ls (.ref v :: .ref o :: st') (zH b cs) = _
          unfold xput
          dsimp only
          rw [if_pos ⟨(zH_K hq hl).trans g.1, zlt hq, g.2.1, g.2.2⟩, zH_sR hq hl]
        · cases hz
      · cases hz
    · cases hz
  case aastore =>
    split at hz
    · rename_i x i a t
      split at hz
      · rename_i q p hq hp
        split at hz
        · rename_i g
          cases hz
          refine ⟨?_, by rw [List.length_set]; exact hl⟩
          show xastA ra (pc + 1) ls (.ref x :: .int i :: .ref a :: st') (zH b cs) = _
          unfold xastA
          dsimp only
          rw [if_pos ⟨(zH_K hq hl).trans g.1, zlt hq, by rw [zH_Z hq hl]; exact g.2.1, (zH_K hp hl).trans g.2.2.1, zlt hp, g.2.2.2⟩, zH_sR hq hl]
        · cases hz
      · cases hz
    · cases hz
  case invokespecial i =>
    split at hz
    · rename_i e
      split at hz
      · rename_i o t
        split at hz
        · rename_i q hq
          split at hz
          · rename_i g
            cases hz
            refine ⟨?_, hl⟩
            show (if rb = 1 then xobj (pc + 3) ls _ (zH b cs) else none) = _
            rw [if_pos e]
            unfold xobj
            dsimp only
            rw [if_pos ⟨by rw [zH_K hq hl]; exact g.1, g.2⟩]
          · cases hz
        · cases hz
      · cases hz
    · cases hz
theorem zcal_snd {r : XRow} {st : List Value} {cs : List ZC} {z : Nat × List Value × List Value} (hl : cs.length < 1000000) (hz : zcal r st cs = some z) : xcal r st (zH b cs) = some z := by
  unfold zcal at hz
  unfold xcal
  split at hz
  · cases hz
  · rename_i q hq
    rw [hq]
    dsimp only
    split at hz
    · rename_i g
      cases hz
      rw [if_pos]
      refine ⟨g.1, g.2.1, g.2.2.1, Or.inr ?_⟩
      have k := g.2.2.2
      unfold zrcv at k
      unfold xrcv
      split at k
      · rename_i x t hx
        rw [hx]
        dsimp only
        split at k
        · rename_i c hc
          rw [decide_eq_true ((zH_K hc hl).trans (of_decide_eq_true k)), decide_eq_true (show x < gN (zH b cs) from zlt hc)]
          simp
        · cases k
      · cases k
    · cases hz
theorem zrun_snd : ∀ (n d m pc : Nat) (ls st : List Value) (cs cs' : List ZC), cs.length < 1000000 → zrun n d m pc ls st cs = some cs' → xrun n d m pc ls st (zH b cs) = some (none, zH b cs') ∧ cs'.length < 1000000 := by
  intro n
  induction n with
  | zero => intro d m pc ls st cs cs' hl hz; cases hz
  | succ n ih =>
    intro d m pc ls st cs cs' hl hz
    rw [zrun] at hz
    rw [xrun]
    split at hz
    · cases hz
    · rename_i r hrow
      rw [hrow]
      dsimp only
      by_cases hE : xisE r = true
      · rw [if_pos hE] at hz ⊢
        split at hz
        · rename_i he
          cases hz
          rw [he]
          exact ⟨rfl, hl⟩
        · cases hz
      · rw [if_neg hE] at hz ⊢
        by_cases hC : xisC r = true
        · rw [if_pos hC] at hz ⊢
          cases d with
          | zero => cases hz
          | succ d =>
            dsimp only at hz ⊢
            split at hz
            · cases hz
            · rename_i y as rest hc
              rw [zcal_snd hl hc]
              dsimp only
              split at hz
              · cases hz
              · rename_i cs1 h1
                obtain ⟨e1, l1⟩ := ih _ _ _ _ _ _ _ hl h1
                rw [e1]
                exact ih _ _ _ _ _ _ _ l1 hz
        · rw [if_neg hC] at hz ⊢
          split at hz
          · rename_i pc' ls' st' hp
            rw [zpure_snd hp]
            exact ih _ _ _ _ _ _ _ hl hz
          · split at hz
            · cases hz
            · rename_i pc' ls' st' cs1 hp
              obtain ⟨e1, l1⟩ := zheap_snd (b := b) hl hp
              rw [e1]
              exact ih _ _ _ _ _ _ _ l1 hz
theorem zXW {n d m pc : Nat} {ls st : List Value} {cs cs' : List ZC} {K : XH → Prop} (hl : cs.length < 1000000) (hz : zrun n d m pc ls st cs = some cs') (k : K (zH b cs')) : XW d m pc ls st (zH b cs) (KV K) := ⟨n, none, _, (zrun_snd n d m pc ls st cs cs' hl hz).1, k⟩
end ZRUN
