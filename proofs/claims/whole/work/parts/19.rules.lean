/-! runs as a calculus -/
def XW (d m pc : Nat) (ls st : List Value) (h : XH) (Q : Option Value → XH → Prop) : Prop := ∃ n v h', xrun n d m pc ls st h = some (v, h') ∧ Q v h'
theorem xrun_mono : ∀ (n d m pc : Nat) (ls st : List Value) (h : XH) (r : Option Value × XH), xrun n d m pc ls st h = some r → xrun (n + 1) d m pc ls st h = some r := by
  intro n
  induction n with
  | zero => intro d m pc ls st h r hr; cases hr
  | succ n ih =>
    intro d m pc ls st h r hr
    rw [xrun] at hr ⊢
    cases hrow : xrow m pc with
    | none => rw [hrow] at hr; cases hr
    | some R =>
      rw [hrow] at hr
      dsimp only at hr ⊢
      by_cases hE : xisE R = true
      · rw [if_pos hE] at hr ⊢; exact hr
      · rw [if_neg hE] at hr ⊢
        by_cases hC : xisC R = true
        · rw [if_pos hC] at hr ⊢
          cases d with
          | zero => exact hr
          | succ d =>
            dsimp only at hr ⊢
            cases hcal : xcal R st h with
            | none => rw [hcal] at hr; cases hr
            | some z =>
              obtain ⟨y, as, rest⟩ := z
              rw [hcal] at hr
              dsimp only at hr ⊢
              cases hy : xrun n d y 0 (xent (xmL y) as) [] h with
              | none => rw [hy] at hr; cases hr
              | some w =>
                obtain ⟨v, h'⟩ := w
                rw [hy] at hr
                rw [ih _ _ _ _ _ _ _ hy]
                exact ih _ _ _ _ _ _ _ hr
        · rw [if_neg hC] at hr ⊢
          cases hop : xop R pc ls st h with
          | none => rw [hop] at hr; cases hr
          | some z =>
            obtain ⟨pc', ls', st', h'⟩ := z
            rw [hop] at hr
            exact ih _ _ _ _ _ _ _ hr
theorem xrun_le {n n' d m pc : Nat} {ls st : List Value} {h : XH} {r : Option Value × XH} (hr : xrun n d m pc ls st h = some r) (hn : n ≤ n') : xrun n' d m pc ls st h = some r := by
  induction hn with
  | refl => exact hr
  | step _ ih => exact xrun_mono _ _ _ _ _ _ _ _ ih
section XWL
variable {d m pc : Nat} {ls st : List Value} {h : XH} {Q : Option Value → XH → Prop}
theorem XW.op {R : XRow} {pc' : Nat} {ls' st' : List Value} {h' : XH} (r : xrow m pc = some R) (hE : xisE R = false) (hC : xisC R = false) (hop : xop R pc ls st h = some (pc', ls', st', h')) (k : XW d m pc' ls' st' h' Q) : XW d m pc ls st h Q := by
  obtain ⟨n, v, h9, hr, hq⟩ := k
  refine ⟨n + 1, v, h9, ?_, hq⟩
  rw [xrun, r]
  dsimp only
  rw [hE, hC, hop]
  exact hr
theorem XW.ret {R : XRow} {v : Option Value} (r : xrow m pc = some R) (hE : xisE R = true) (he : xend R st = some v) (hq : Q v h) : XW d m pc ls st h Q := by
  refine ⟨1, v, h, ?_, hq⟩
  rw [xrun, r]
  dsimp only
  rw [if_pos hE, he]
theorem XW.call {R : XRow} {y : Nat} {as rest : List Value} (r : xrow m pc = some R) (hE : xisE R = false) (hC : xisC R = true) (hcal : xcal R st h = some (y, as, rest)) (k : XW d y 0 (xent (xmL y) as) [] h (fun v h' => XW (d + 1) m (pc + 3) ls (v.toList ++ rest) h' Q)) : XW (d + 1) m pc ls st h Q := by
  obtain ⟨n1, v, h1, hr1, n2, v2, h2, hr2, hq⟩ := k
  refine ⟨max n1 n2 + 1, v2, h2, ?_, hq⟩
  rw [xrun, r]
  dsimp only
  rw [if_neg (by rw [hE]; decide), if_pos hC, hcal]
  dsimp only
  rw [xrun_le hr1 (Nat.le_max_left n1 n2)]
  exact xrun_le hr2 (Nat.le_max_right n1 n2)
theorem XW.mono {Q' : Option Value → XH → Prop} (k : XW d m pc ls st h Q) (hq : ∀ v h', Q v h' → Q' v h') : XW d m pc ls st h Q' := by
  obtain ⟨n, v, h9, hr, hQ⟩ := k
  exact ⟨n, v, h9, hr, hq _ _ hQ⟩
theorem XW.eq {pc' : Nat} {ls' st' : List Value} {h' : XH} (k : XW d m pc' ls' st' h' Q) (e1 : pc' = pc) (e2 : ls' = ls) (e3 : st' = st) (e4 : h' = h) : XW d m pc ls st h Q := by
  subst e1; subst e2; subst e3; subst e4; exact k
end XWL
/-- what an int method's end is asked -/
def KI (K : Int32 → XH → Prop) : Option Value → XH → Prop := fun v h => match v with
  | some (.int x) => K x h
  | _ => False
def KL (K : Int64 → XH → Prop) : Option Value → XH → Prop := fun v h => match v with
  | some (.long x) => K x h
  | _ => False
def KV (K : XH → Prop) : Option Value → XH → Prop := fun v h => match v with
  | none => K h
  | _ => False
section XR
variable {d m pc : Nat} {ls st : List Value} {h : XH} {Q : Option Value → XH → Prop} {len ra rb rc rw : Nat}
theorem w_iconst {n : Int} {v : Int32} (r : xrow m pc = some (.iconst n, len, ra, rb, rc, rw)) (hv : Int32.ofInt n = v) (k : XW d m (pc + 1) ls (.int v :: st) h Q) : XW d m pc ls st h Q := by subst hv; exact XW.op r rfl rfl rfl k
theorem w_bipush {n : Int} {v : Int32} (r : xrow m pc = some (.bipush n, len, ra, rb, rc, rw)) (hv : (Int8.ofInt n).toInt32 = v) (k : XW d m (pc + 2) ls (.int v :: st) h Q) : XW d m pc ls st h Q := by subst hv; exact XW.op r rfl rfl rfl k
theorem w_sipush {n : Int} {v : Int32} (r : xrow m pc = some (.sipush n, len, ra, rb, rc, rw)) (hv : (Int16.ofInt n).toInt32 = v) (k : XW d m (pc + 3) ls (.int v :: st) h Q) : XW d m pc ls st h Q := by subst hv; exact XW.op r rfl rfl rfl k
theorem w_lconst {n : Fin 2} {v : Int64} (r : xrow m pc = some (.lconst n, len, ra, rb, rc, rw)) (hv : Int64.ofNat (n : Nat) = v) (k : XW d m (pc + 1) ls (.long v :: st) h Q) : XW d m pc ls st h Q := by subst hv; exact XW.op r rfl rfl rfl k
theorem w_ldcI {i : Nat} {v : Int32} (r : xrow m pc = some (.ldc i, len, ra, 0, rc, rw)) (hv : Int32.ofNat ra = v) (k : XW d m (pc + 2) ls (.int v :: st) h Q) : XW d m pc ls st h Q := by subst hv; exact XW.op r rfl rfl rfl k
theorem w_ldcwI {i : Nat} {v : Int32} (r : xrow m pc = some (.ldc_w i, len, ra, 0, rc, rw)) (hv : Int32.ofNat ra = v) (k : XW d m (pc + 3) ls (.int v :: st) h Q) : XW d m pc ls st h Q := by subst hv; exact XW.op r rfl rfl rfl k
theorem w_ldcS {i a : Nat} (r : xrow m pc = some (.ldc i, len, ra, 1, rc, rw)) (hv : 1000010 + 2 * ra = a) (k : XW d m (pc + 2) ls (.ref a :: st) h Q) : XW d m pc ls st h Q := by subst hv; exact XW.op r rfl rfl rfl k
theorem w_ldcwS {i a : Nat} (r : xrow m pc = some (.ldc_w i, len, ra, 1, rc, rw)) (hv : 1000010 + 2 * ra = a) (k : XW d m (pc + 3) ls (.ref a :: st) h Q) : XW d m pc ls st h Q := by subst hv; exact XW.op r rfl rfl rfl k
theorem w_ldc2 {i : Nat} {v : Int64} (r : xrow m pc = some (.ldc2_w i, len, ra, rb, rc, rw)) (hv : xlongs.getD ra 0 = v) (k : XW d m (pc + 3) ls (.long v :: st) h Q) : XW d m pc ls st h Q := by subst hv; exact XW.op r rfl rfl rfl k
theorem w_iload0 {x : Int32} {t : List Value} (r : xrow m pc = some (.iload_n 0, len, ra, rb, rc, rw)) (k : XW d m (pc + 1) (.int x :: t) (.int x :: st) h Q) : XW d m pc (.int x :: t) st h Q := XW.op r rfl rfl rfl k
theorem w_lload0 {x : Int64} {t : List Value} (r : xrow m pc = some (.lload_n 0, len, ra, rb, rc, rw)) (k : XW d m (pc + 1) (.long x :: t) (.long x :: st) h Q) : XW d m pc (.long x :: t) st h Q := XW.op r rfl rfl rfl k
theorem w_aload0 {x : Nat} {t : List Value} (r : xrow m pc = some (.aload_n 0, len, ra, rb, rc, rw)) (k : XW d m (pc + 1) (.ref x :: t) (.ref x :: st) h Q) : XW d m pc (.ref x :: t) st h Q := XW.op r rfl rfl rfl k
theorem w_istore0 {y : Value} {x : Int32} {t : List Value} (r : xrow m pc = some (.istore_n 0, len, ra, rb, rc, rw)) (k : XW d m (pc + 1) (.int x :: t) st h Q) : XW d m pc (y :: t) (.int x :: st) h Q := XW.op r rfl rfl rfl k
theorem w_astore0 {y : Value} {x : Nat} {t : List Value} (r : xrow m pc = some (.astore_n 0, len, ra, rb, rc, rw)) (k : XW d m (pc + 1) (.ref x :: t) st h Q) : XW d m pc (y :: t) (.ref x :: st) h Q := XW.op r rfl rfl rfl k
theorem w_lstore0 {y z : Value} {x : Int64} {t : List Value} (r : xrow m pc = some (.lstore_n 0, len, ra, rb, rc, rw)) (k : XW d m (pc + 1) (.long x :: .null :: t) st h Q) : XW d m pc (y :: z :: t) (.long x :: st) h Q := XW.op r rfl rfl rfl k
theorem w_iinc0 {x v : Int32} {n : Int} {t : List Value} (r : xrow m pc = some (.iinc 0 n, len, ra, rb, rc, rw)) (hv : x + Int32.ofInt n = v) (k : XW d m (pc + 3) (.int v :: t) st h Q) : XW d m pc (.int x :: t) st h Q := by subst hv; exact XW.op r rfl rfl rfl k
theorem w_iload1 {v0 : Value} {x : Int32} {t : List Value} (r : xrow m pc = some (.iload_n 1, len, ra, rb, rc, rw)) (k : XW d m (pc + 1) (v0 :: .int x :: t) (.int x :: st) h Q) : XW d m pc (v0 :: .int x :: t) st h Q := XW.op r rfl rfl rfl k
theorem w_lload1 {v0 : Value} {x : Int64} {t : List Value} (r : xrow m pc = some (.lload_n 1, len, ra, rb, rc, rw)) (k : XW d m (pc + 1) (v0 :: .long x :: t) (.long x :: st) h Q) : XW d m pc (v0 :: .long x :: t) st h Q := XW.op r rfl rfl rfl k
theorem w_aload1 {v0 : Value} {x : Nat} {t : List Value} (r : xrow m pc = some (.aload_n 1, len, ra, rb, rc, rw)) (k : XW d m (pc + 1) (v0 :: .ref x :: t) (.ref x :: st) h Q) : XW d m pc (v0 :: .ref x :: t) st h Q := XW.op r rfl rfl rfl k
theorem w_istore1 {v0 : Value} {y : Value} {x : Int32} {t : List Value} (r : xrow m pc = some (.istore_n 1, len, ra, rb, rc, rw)) (hc : v0.category = 1) (k : XW d m (pc + 1) (v0 :: .int x :: t) st h Q) : XW d m pc (v0 :: y :: t) (.int x :: st) h Q := by
  refine XW.op r rfl rfl ?_ k
  have e : xset1 (v0 :: y :: t) 1 (.int x) = (v0 :: .int x :: t) := by
    unfold xset1 xkill
    show List.set (if v0.category = 2 then _ else _) _ _ = _
    rw [hc]; rfl
  show (if 1 < List.length (v0 :: y :: t) then some (_, xset1 (v0 :: y :: t) 1 (.int x), st, h) else none) = _
  rw [e]; rfl
theorem w_astore1 {v0 : Value} {y : Value} {x : Nat} {t : List Value} (r : xrow m pc = some (.astore_n 1, len, ra, rb, rc, rw)) (hc : v0.category = 1) (k : XW d m (pc + 1) (v0 :: .ref x :: t) st h Q) : XW d m pc (v0 :: y :: t) (.ref x :: st) h Q := by
  refine XW.op r rfl rfl ?_ k
  have e : xset1 (v0 :: y :: t) 1 (.ref x) = (v0 :: .ref x :: t) := by
    unfold xset1 xkill
    show List.set (if v0.category = 2 then _ else _) _ _ = _
    rw [hc]; rfl
  show (if 1 < List.length (v0 :: y :: t) then some (_, xset1 (v0 :: y :: t) 1 (.ref x), st, h) else none) = _
  rw [e]; rfl
theorem w_lstore1 {v0 : Value} {y z : Value} {x : Int64} {t : List Value} (r : xrow m pc = some (.lstore_n 1, len, ra, rb, rc, rw)) (hc : v0.category = 1) (k : XW d m (pc + 1) (v0 :: .long x :: .null :: t) st h Q) : XW d m pc (v0 :: y :: z :: t) (.long x :: st) h Q := by
  refine XW.op r rfl rfl ?_ k
  have e : xset2 (v0 :: y :: z :: t) 1 (.long x) = (v0 :: .long x :: .null :: t) := by
    unfold xset2 xkill
    show List.set (List.set (if v0.category = 2 then _ else _) _ _) _ _ = _
    rw [hc]; rfl
  show (if 1 + 1 < List.length (v0 :: y :: z :: t) then some (_, xset2 (v0 :: y :: z :: t) 1 (.long x), st, h) else none) = _
  rw [e]; rfl
theorem w_iinc1 {v0 : Value} {x v : Int32} {n : Int} {t : List Value} (r : xrow m pc = some (.iinc 1 n, len, ra, rb, rc, rw)) (hc : v0.category = 1) (hv : x + Int32.ofInt n = v) (k : XW d m (pc + 3) (v0 :: .int v :: t) st h Q) : XW d m pc (v0 :: .int x :: t) st h Q := by
  subst hv
  refine XW.op r rfl rfl ?_ k
  have e : xset1 (v0 :: .int x :: t) 1 (.int (x + Int32.ofInt n)) = (v0 :: .int (x + Int32.ofInt n) :: t) := by
    unfold xset1 xkill
    show List.set (if v0.category = 2 then _ else _) _ _ = _
    rw [hc]; rfl
  show some (_, xset1 (v0 :: .int x :: t) 1 (.int (x + Int32.ofInt n)), _, _) = _
  rw [e]
theorem w_iload2 {v0 v1 : Value} {x : Int32} {t : List Value} (r : xrow m pc = some (.iload_n 2, len, ra, rb, rc, rw)) (k : XW d m (pc + 1) (v0 :: v1 :: .int x :: t) (.int x :: st) h Q) : XW d m pc (v0 :: v1 :: .int x :: t) st h Q := XW.op r rfl rfl rfl k
theorem w_lload2 {v0 v1 : Value} {x : Int64} {t : List Value} (r : xrow m pc = some (.lload_n 2, len, ra, rb, rc, rw)) (k : XW d m (pc + 1) (v0 :: v1 :: .long x :: t) (.long x :: st) h Q) : XW d m pc (v0 :: v1 :: .long x :: t) st h Q := XW.op r rfl rfl rfl k
theorem w_aload2 {v0 v1 : Value} {x : Nat} {t : List Value} (r : xrow m pc = some (.aload_n 2, len, ra, rb, rc, rw)) (k : XW d m (pc + 1) (v0 :: v1 :: .ref x :: t) (.ref x :: st) h Q) : XW d m pc (v0 :: v1 :: .ref x :: t) st h Q := XW.op r rfl rfl rfl k
theorem w_istore2 {v0 v1 : Value} {y : Value} {x : Int32} {t : List Value} (r : xrow m pc = some (.istore_n 2, len, ra, rb, rc, rw)) (hc : v1.category = 1) (k : XW d m (pc + 1) (v0 :: v1 :: .int x :: t) st h Q) : XW d m pc (v0 :: v1 :: y :: t) (.int x :: st) h Q := by
  refine XW.op r rfl rfl ?_ k
  have e : xset1 (v0 :: v1 :: y :: t) 2 (.int x) = (v0 :: v1 :: .int x :: t) := by
    unfold xset1 xkill
    show List.set (if v1.category = 2 then _ else _) _ _ = _
    rw [hc]; rfl
  show (if 2 < List.length (v0 :: v1 :: y :: t) then some (_, xset1 (v0 :: v1 :: y :: t) 2 (.int x), st, h) else none) = _
  rw [e]; rfl
theorem w_astore2 {v0 v1 : Value} {y : Value} {x : Nat} {t : List Value} (r : xrow m pc = some (.astore_n 2, len, ra, rb, rc, rw)) (hc : v1.category = 1) (k : XW d m (pc + 1) (v0 :: v1 :: .ref x :: t) st h Q) : XW d m pc (v0 :: v1 :: y :: t) (.ref x :: st) h Q := by
  refine XW.op r rfl rfl ?_ k
  have e : xset1 (v0 :: v1 :: y :: t) 2 (.ref x) = (v0 :: v1 :: .ref x :: t) := by
    unfold xset1 xkill
    show List.set (if v1.category = 2 then _ else _) _ _ = _
    rw [hc]; rfl
  show (if 2 < List.length (v0 :: v1 :: y :: t) then some (_, xset1 (v0 :: v1 :: y :: t) 2 (.ref x), st, h) else none) = _
  rw [e]; rfl
theorem w_lstore2 {v0 v1 : Value} {y z : Value} {x : Int64} {t : List Value} (r : xrow m pc = some (.lstore_n 2, len, ra, rb, rc, rw)) (hc : v1.category = 1) (k : XW d m (pc + 1) (v0 :: v1 :: .long x :: .null :: t) st h Q) : XW d m pc (v0 :: v1 :: y :: z :: t) (.long x :: st) h Q := by
  refine XW.op r rfl rfl ?_ k
  have e : xset2 (v0 :: v1 :: y :: z :: t) 2 (.long x) = (v0 :: v1 :: .long x :: .null :: t) := by
    unfold xset2 xkill
    show List.set (List.set (if v1.category = 2 then _ else _) _ _) _ _ = _
    rw [hc]; rfl
  show (if 2 + 1 < List.length (v0 :: v1 :: y :: z :: t) then some (_, xset2 (v0 :: v1 :: y :: z :: t) 2 (.long x), st, h) else none) = _
  rw [e]; rfl
theorem w_iinc2 {v0 v1 : Value} {x v : Int32} {n : Int} {t : List Value} (r : xrow m pc = some (.iinc 2 n, len, ra, rb, rc, rw)) (hc : v1.category = 1) (hv : x + Int32.ofInt n = v) (k : XW d m (pc + 3) (v0 :: v1 :: .int v :: t) st h Q) : XW d m pc (v0 :: v1 :: .int x :: t) st h Q := by
  subst hv
  refine XW.op r rfl rfl ?_ k
  have e : xset1 (v0 :: v1 :: .int x :: t) 2 (.int (x + Int32.ofInt n)) = (v0 :: v1 :: .int (x + Int32.ofInt n) :: t) := by
    unfold xset1 xkill
    show List.set (if v1.category = 2 then _ else _) _ _ = _
    rw [hc]; rfl
  show some (_, xset1 (v0 :: v1 :: .int x :: t) 2 (.int (x + Int32.ofInt n)), _, _) = _
  rw [e]
theorem w_iload3 {v0 v1 v2 : Value} {x : Int32} {t : List Value} (r : xrow m pc = some (.iload_n 3, len, ra, rb, rc, rw)) (k : XW d m (pc + 1) (v0 :: v1 :: v2 :: .int x :: t) (.int x :: st) h Q) : XW d m pc (v0 :: v1 :: v2 :: .int x :: t) st h Q := XW.op r rfl rfl rfl k
theorem w_lload3 {v0 v1 v2 : Value} {x : Int64} {t : List Value} (r : xrow m pc = some (.lload_n 3, len, ra, rb, rc, rw)) (k : XW d m (pc + 1) (v0 :: v1 :: v2 :: .long x :: t) (.long x :: st) h Q) : XW d m pc (v0 :: v1 :: v2 :: .long x :: t) st h Q := XW.op r rfl rfl rfl k
theorem w_aload3 {v0 v1 v2 : Value} {x : Nat} {t : List Value} (r : xrow m pc = some (.aload_n 3, len, ra, rb, rc, rw)) (k : XW d m (pc + 1) (v0 :: v1 :: v2 :: .ref x :: t) (.ref x :: st) h Q) : XW d m pc (v0 :: v1 :: v2 :: .ref x :: t) st h Q := XW.op r rfl rfl rfl k
theorem w_istore3 {v0 v1 v2 : Value} {y : Value} {x : Int32} {t : List Value} (r : xrow m pc = some (.istore_n 3, len, ra, rb, rc, rw)) (hc : v2.category = 1) (k : XW d m (pc + 1) (v0 :: v1 :: v2 :: .int x :: t) st h Q) : XW d m pc (v0 :: v1 :: v2 :: y :: t) (.int x :: st) h Q := by
  refine XW.op r rfl rfl ?_ k
  have e : xset1 (v0 :: v1 :: v2 :: y :: t) 3 (.int x) = (v0 :: v1 :: v2 :: .int x :: t) := by
    unfold xset1 xkill
    show List.set (if v2.category = 2 then _ else _) _ _ = _
    rw [hc]; rfl
  show (if 3 < List.length (v0 :: v1 :: v2 :: y :: t) then some (_, xset1 (v0 :: v1 :: v2 :: y :: t) 3 (.int x), st, h) else none) = _
  rw [e]; rfl
theorem w_astore3 {v0 v1 v2 : Value} {y : Value} {x : Nat} {t : List Value} (r : xrow m pc = some (.astore_n 3, len, ra, rb, rc, rw)) (hc : v2.category = 1) (k : XW d m (pc + 1) (v0 :: v1 :: v2 :: .ref x :: t) st h Q) : XW d m pc (v0 :: v1 :: v2 :: y :: t) (.ref x :: st) h Q := by
  refine XW.op r rfl rfl ?_ k
  have e : xset1 (v0 :: v1 :: v2 :: y :: t) 3 (.ref x) = (v0 :: v1 :: v2 :: .ref x :: t) := by
    unfold xset1 xkill
    show List.set (if v2.category = 2 then _ else _) _ _ = _
    rw [hc]; rfl
  show (if 3 < List.length (v0 :: v1 :: v2 :: y :: t) then some (_, xset1 (v0 :: v1 :: v2 :: y :: t) 3 (.ref x), st, h) else none) = _
  rw [e]; rfl
theorem w_lstore3 {v0 v1 v2 : Value} {y z : Value} {x : Int64} {t : List Value} (r : xrow m pc = some (.lstore_n 3, len, ra, rb, rc, rw)) (hc : v2.category = 1) (k : XW d m (pc + 1) (v0 :: v1 :: v2 :: .long x :: .null :: t) st h Q) : XW d m pc (v0 :: v1 :: v2 :: y :: z :: t) (.long x :: st) h Q := by
  refine XW.op r rfl rfl ?_ k
  have e : xset2 (v0 :: v1 :: v2 :: y :: z :: t) 3 (.long x) = (v0 :: v1 :: v2 :: .long x :: .null :: t) := by
    unfold xset2 xkill
    show List.set (List.set (if v2.category = 2 then _ else _) _ _) _ _ = _
    rw [hc]; rfl
  show (if 3 + 1 < List.length (v0 :: v1 :: v2 :: y :: z :: t) then some (_, xset2 (v0 :: v1 :: v2 :: y :: z :: t) 3 (.long x), st, h) else none) = _
  rw [e]; rfl
theorem w_iinc3 {v0 v1 v2 : Value} {x v : Int32} {n : Int} {t : List Value} (r : xrow m pc = some (.iinc 3 n, len, ra, rb, rc, rw)) (hc : v2.category = 1) (hv : x + Int32.ofInt n = v) (k : XW d m (pc + 3) (v0 :: v1 :: v2 :: .int v :: t) st h Q) : XW d m pc (v0 :: v1 :: v2 :: .int x :: t) st h Q := by
  subst hv
  refine XW.op r rfl rfl ?_ k
  have e : xset1 (v0 :: v1 :: v2 :: .int x :: t) 3 (.int (x + Int32.ofInt n)) = (v0 :: v1 :: v2 :: .int (x + Int32.ofInt n) :: t) := by
    unfold xset1 xkill
    show List.set (if v2.category = 2 then _ else _) _ _ = _
    rw [hc]; rfl
  show some (_, xset1 (v0 :: v1 :: v2 :: .int x :: t) 3 (.int (x + Int32.ofInt n)), _, _) = _
  rw [e]
theorem w_iload4 {v0 v1 v2 v3 : Value} {x : Int32} {t : List Value} (r : xrow m pc = some (.iload 4, len, ra, rb, rc, rw)) (k : XW d m (pc + 2) (v0 :: v1 :: v2 :: v3 :: .int x :: t) (.int x :: st) h Q) : XW d m pc (v0 :: v1 :: v2 :: v3 :: .int x :: t) st h Q := XW.op r rfl rfl rfl k
theorem w_lload4 {v0 v1 v2 v3 : Value} {x : Int64} {t : List Value} (r : xrow m pc = some (.lload 4, len, ra, rb, rc, rw)) (k : XW d m (pc + 2) (v0 :: v1 :: v2 :: v3 :: .long x :: t) (.long x :: st) h Q) : XW d m pc (v0 :: v1 :: v2 :: v3 :: .long x :: t) st h Q := XW.op r rfl rfl rfl k
theorem w_aload4 {v0 v1 v2 v3 : Value} {x : Nat} {t : List Value} (r : xrow m pc = some (.aload 4, len, ra, rb, rc, rw)) (k : XW d m (pc + 2) (v0 :: v1 :: v2 :: v3 :: .ref x :: t) (.ref x :: st) h Q) : XW d m pc (v0 :: v1 :: v2 :: v3 :: .ref x :: t) st h Q := XW.op r rfl rfl rfl k
theorem w_istore4 {v0 v1 v2 v3 : Value} {y : Value} {x : Int32} {t : List Value} (r : xrow m pc = some (.istore 4, len, ra, rb, rc, rw)) (hc : v3.category = 1) (k : XW d m (pc + 2) (v0 :: v1 :: v2 :: v3 :: .int x :: t) st h Q) : XW d m pc (v0 :: v1 :: v2 :: v3 :: y :: t) (.int x :: st) h Q := by
  refine XW.op r rfl rfl ?_ k
  have e : xset1 (v0 :: v1 :: v2 :: v3 :: y :: t) 4 (.int x) = (v0 :: v1 :: v2 :: v3 :: .int x :: t) := by
    unfold xset1 xkill
    show List.set (if v3.category = 2 then _ else _) _ _ = _
    rw [hc]; rfl
  show (if 4 < List.length (v0 :: v1 :: v2 :: v3 :: y :: t) then some (_, xset1 (v0 :: v1 :: v2 :: v3 :: y :: t) 4 (.int x), st, h) else none) = _
  rw [e]; rfl
theorem w_astore4 {v0 v1 v2 v3 : Value} {y : Value} {x : Nat} {t : List Value} (r : xrow m pc = some (.astore 4, len, ra, rb, rc, rw)) (hc : v3.category = 1) (k : XW d m (pc + 2) (v0 :: v1 :: v2 :: v3 :: .ref x :: t) st h Q) : XW d m pc (v0 :: v1 :: v2 :: v3 :: y :: t) (.ref x :: st) h Q := by
  refine XW.op r rfl rfl ?_ k
  have e : xset1 (v0 :: v1 :: v2 :: v3 :: y :: t) 4 (.ref x) = (v0 :: v1 :: v2 :: v3 :: .ref x :: t) := by
    unfold xset1 xkill
    show List.set (if v3.category = 2 then _ else _) _ _ = _
    rw [hc]; rfl
  show (if 4 < List.length (v0 :: v1 :: v2 :: v3 :: y :: t) then some (_, xset1 (v0 :: v1 :: v2 :: v3 :: y :: t) 4 (.ref x), st, h) else none) = _
  rw [e]; rfl
theorem w_lstore4 {v0 v1 v2 v3 : Value} {y z : Value} {x : Int64} {t : List Value} (r : xrow m pc = some (.lstore 4, len, ra, rb, rc, rw)) (hc : v3.category = 1) (k : XW d m (pc + 2) (v0 :: v1 :: v2 :: v3 :: .long x :: .null :: t) st h Q) : XW d m pc (v0 :: v1 :: v2 :: v3 :: y :: z :: t) (.long x :: st) h Q := by
  refine XW.op r rfl rfl ?_ k
  have e : xset2 (v0 :: v1 :: v2 :: v3 :: y :: z :: t) 4 (.long x) = (v0 :: v1 :: v2 :: v3 :: .long x :: .null :: t) := by
    unfold xset2 xkill
    show List.set (List.set (if v3.category = 2 then _ else _) _ _) _ _ = _
    rw [hc]; rfl
  show (if 4 + 1 < List.length (v0 :: v1 :: v2 :: v3 :: y :: z :: t) then some (_, xset2 (v0 :: v1 :: v2 :: v3 :: y :: z :: t) 4 (.long x), st, h) else none) = _
  rw [e]; rfl
theorem w_iinc4 {v0 v1 v2 v3 : Value} {x v : Int32} {n : Int} {t : List Value} (r : xrow m pc = some (.iinc 4 n, len, ra, rb, rc, rw)) (hc : v3.category = 1) (hv : x + Int32.ofInt n = v) (k : XW d m (pc + 3) (v0 :: v1 :: v2 :: v3 :: .int v :: t) st h Q) : XW d m pc (v0 :: v1 :: v2 :: v3 :: .int x :: t) st h Q := by
  subst hv
  refine XW.op r rfl rfl ?_ k
  have e : xset1 (v0 :: v1 :: v2 :: v3 :: .int x :: t) 4 (.int (x + Int32.ofInt n)) = (v0 :: v1 :: v2 :: v3 :: .int (x + Int32.ofInt n) :: t) := by
    unfold xset1 xkill
    show List.set (if v3.category = 2 then _ else _) _ _ = _
    rw [hc]; rfl
  show some (_, xset1 (v0 :: v1 :: v2 :: v3 :: .int x :: t) 4 (.int (x + Int32.ofInt n)), _, _) = _
  rw [e]
theorem w_iload5 {v0 v1 v2 v3 v4 : Value} {x : Int32} {t : List Value} (r : xrow m pc = some (.iload 5, len, ra, rb, rc, rw)) (k : XW d m (pc + 2) (v0 :: v1 :: v2 :: v3 :: v4 :: .int x :: t) (.int x :: st) h Q) : XW d m pc (v0 :: v1 :: v2 :: v3 :: v4 :: .int x :: t) st h Q := XW.op r rfl rfl rfl k
theorem w_lload5 {v0 v1 v2 v3 v4 : Value} {x : Int64} {t : List Value} (r : xrow m pc = some (.lload 5, len, ra, rb, rc, rw)) (k : XW d m (pc + 2) (v0 :: v1 :: v2 :: v3 :: v4 :: .long x :: t) (.long x :: st) h Q) : XW d m pc (v0 :: v1 :: v2 :: v3 :: v4 :: .long x :: t) st h Q := XW.op r rfl rfl rfl k
theorem w_aload5 {v0 v1 v2 v3 v4 : Value} {x : Nat} {t : List Value} (r : xrow m pc = some (.aload 5, len, ra, rb, rc, rw)) (k : XW d m (pc + 2) (v0 :: v1 :: v2 :: v3 :: v4 :: .ref x :: t) (.ref x :: st) h Q) : XW d m pc (v0 :: v1 :: v2 :: v3 :: v4 :: .ref x :: t) st h Q := XW.op r rfl rfl rfl k
theorem w_istore5 {v0 v1 v2 v3 v4 : Value} {y : Value} {x : Int32} {t : List Value} (r : xrow m pc = some (.istore 5, len, ra, rb, rc, rw)) (hc : v4.category = 1) (k : XW d m (pc + 2) (v0 :: v1 :: v2 :: v3 :: v4 :: .int x :: t) st h Q) : XW d m pc (v0 :: v1 :: v2 :: v3 :: v4 :: y :: t) (.int x :: st) h Q := by
  refine XW.op r rfl rfl ?_ k
  have e : xset1 (v0 :: v1 :: v2 :: v3 :: v4 :: y :: t) 5 (.int x) = (v0 :: v1 :: v2 :: v3 :: v4 :: .int x :: t) := by
    unfold xset1 xkill
    show List.set (if v4.category = 2 then _ else _) _ _ = _
    rw [hc]; rfl
  show (if 5 < List.length (v0 :: v1 :: v2 :: v3 :: v4 :: y :: t) then some (_, xset1 (v0 :: v1 :: v2 :: v3 :: v4 :: y :: t) 5 (.int x), st, h) else none) = _
  rw [e]; rfl
theorem w_astore5 {v0 v1 v2 v3 v4 : Value} {y : Value} {x : Nat} {t : List Value} (r : xrow m pc = some (.astore 5, len, ra, rb, rc, rw)) (hc : v4.category = 1) (k : XW d m (pc + 2) (v0 :: v1 :: v2 :: v3 :: v4 :: .ref x :: t) st h Q) : XW d m pc (v0 :: v1 :: v2 :: v3 :: v4 :: y :: t) (.ref x :: st) h Q := by
  refine XW.op r rfl rfl ?_ k
  have e : xset1 (v0 :: v1 :: v2 :: v3 :: v4 :: y :: t) 5 (.ref x) = (v0 :: v1 :: v2 :: v3 :: v4 :: .ref x :: t) := by
    unfold xset1 xkill
    show List.set (if v4.category = 2 then _ else _) _ _ = _
    rw [hc]; rfl
  show (if 5 < List.length (v0 :: v1 :: v2 :: v3 :: v4 :: y :: t) then some (_, xset1 (v0 :: v1 :: v2 :: v3 :: v4 :: y :: t) 5 (.ref x), st, h) else none) = _
  rw [e]; rfl
theorem w_lstore5 {v0 v1 v2 v3 v4 : Value} {y z : Value} {x : Int64} {t : List Value} (r : xrow m pc = some (.lstore 5, len, ra, rb, rc, rw)) (hc : v4.category = 1) (k : XW d m (pc + 2) (v0 :: v1 :: v2 :: v3 :: v4 :: .long x :: .null :: t) st h Q) : XW d m pc (v0 :: v1 :: v2 :: v3 :: v4 :: y :: z :: t) (.long x :: st) h Q := by
  refine XW.op r rfl rfl ?_ k
  have e : xset2 (v0 :: v1 :: v2 :: v3 :: v4 :: y :: z :: t) 5 (.long x) = (v0 :: v1 :: v2 :: v3 :: v4 :: .long x :: .null :: t) := by
    unfold xset2 xkill
    show List.set (List.set (if v4.category = 2 then _ else _) _ _) _ _ = _
    rw [hc]; rfl
  show (if 5 + 1 < List.length (v0 :: v1 :: v2 :: v3 :: v4 :: y :: z :: t) then some (_, xset2 (v0 :: v1 :: v2 :: v3 :: v4 :: y :: z :: t) 5 (.long x), st, h) else none) = _
  rw [e]; rfl
theorem w_iinc5 {v0 v1 v2 v3 v4 : Value} {x v : Int32} {n : Int} {t : List Value} (r : xrow m pc = some (.iinc 5 n, len, ra, rb, rc, rw)) (hc : v4.category = 1) (hv : x + Int32.ofInt n = v) (k : XW d m (pc + 3) (v0 :: v1 :: v2 :: v3 :: v4 :: .int v :: t) st h Q) : XW d m pc (v0 :: v1 :: v2 :: v3 :: v4 :: .int x :: t) st h Q := by
  subst hv
  refine XW.op r rfl rfl ?_ k
  have e : xset1 (v0 :: v1 :: v2 :: v3 :: v4 :: .int x :: t) 5 (.int (x + Int32.ofInt n)) = (v0 :: v1 :: v2 :: v3 :: v4 :: .int (x + Int32.ofInt n) :: t) := by
    unfold xset1 xkill
    show List.set (if v4.category = 2 then _ else _) _ _ = _
    rw [hc]; rfl
  show some (_, xset1 (v0 :: v1 :: v2 :: v3 :: v4 :: .int x :: t) 5 (.int (x + Int32.ofInt n)), _, _) = _
  rw [e]
theorem w_iload6 {v0 v1 v2 v3 v4 v5 : Value} {x : Int32} {t : List Value} (r : xrow m pc = some (.iload 6, len, ra, rb, rc, rw)) (k : XW d m (pc + 2) (v0 :: v1 :: v2 :: v3 :: v4 :: v5 :: .int x :: t) (.int x :: st) h Q) : XW d m pc (v0 :: v1 :: v2 :: v3 :: v4 :: v5 :: .int x :: t) st h Q := XW.op r rfl rfl rfl k
theorem w_lload6 {v0 v1 v2 v3 v4 v5 : Value} {x : Int64} {t : List Value} (r : xrow m pc = some (.lload 6, len, ra, rb, rc, rw)) (k : XW d m (pc + 2) (v0 :: v1 :: v2 :: v3 :: v4 :: v5 :: .long x :: t) (.long x :: st) h Q) : XW d m pc (v0 :: v1 :: v2 :: v3 :: v4 :: v5 :: .long x :: t) st h Q := XW.op r rfl rfl rfl k
theorem w_aload6 {v0 v1 v2 v3 v4 v5 : Value} {x : Nat} {t : List Value} (r : xrow m pc = some (.aload 6, len, ra, rb, rc, rw)) (k : XW d m (pc + 2) (v0 :: v1 :: v2 :: v3 :: v4 :: v5 :: .ref x :: t) (.ref x :: st) h Q) : XW d m pc (v0 :: v1 :: v2 :: v3 :: v4 :: v5 :: .ref x :: t) st h Q := XW.op r rfl rfl rfl k
theorem w_istore6 {v0 v1 v2 v3 v4 v5 : Value} {y : Value} {x : Int32} {t : List Value} (r : xrow m pc = some (.istore 6, len, ra, rb, rc, rw)) (hc : v5.category = 1) (k : XW d m (pc + 2) (v0 :: v1 :: v2 :: v3 :: v4 :: v5 :: .int x :: t) st h Q) : XW d m pc (v0 :: v1 :: v2 :: v3 :: v4 :: v5 :: y :: t) (.int x :: st) h Q := by
  refine XW.op r rfl rfl ?_ k
  have e : xset1 (v0 :: v1 :: v2 :: v3 :: v4 :: v5 :: y :: t) 6 (.int x) = (v0 :: v1 :: v2 :: v3 :: v4 :: v5 :: .int x :: t) := by
    unfold xset1 xkill
    show List.set (if v5.category = 2 then _ else _) _ _ = _
    rw [hc]; rfl
  show (if 6 < List.length (v0 :: v1 :: v2 :: v3 :: v4 :: v5 :: y :: t) then some (_, xset1 (v0 :: v1 :: v2 :: v3 :: v4 :: v5 :: y :: t) 6 (.int x), st, h) else none) = _
  rw [e]; rfl
theorem w_astore6 {v0 v1 v2 v3 v4 v5 : Value} {y : Value} {x : Nat} {t : List Value} (r : xrow m pc = some (.astore 6, len, ra, rb, rc, rw)) (hc : v5.category = 1) (k : XW d m (pc + 2) (v0 :: v1 :: v2 :: v3 :: v4 :: v5 :: .ref x :: t) st h Q) : XW d m pc (v0 :: v1 :: v2 :: v3 :: v4 :: v5 :: y :: t) (.ref x :: st) h Q := by
  refine XW.op r rfl rfl ?_ k
  have e : xset1 (v0 :: v1 :: v2 :: v3 :: v4 :: v5 :: y :: t) 6 (.ref x) = (v0 :: v1 :: v2 :: v3 :: v4 :: v5 :: .ref x :: t) := by
    unfold xset1 xkill
    show List.set (if v5.category = 2 then _ else _) _ _ = _
    rw [hc]; rfl
  show (if 6 < List.length (v0 :: v1 :: v2 :: v3 :: v4 :: v5 :: y :: t) then some (_, xset1 (v0 :: v1 :: v2 :: v3 :: v4 :: v5 :: y :: t) 6 (.ref x), st, h) else none) = _
  rw [e]; rfl
theorem w_lstore6 {v0 v1 v2 v3 v4 v5 : Value} {y z : Value} {x : Int64} {t : List Value} (r : xrow m pc = some (.lstore 6, len, ra, rb, rc, rw)) (hc : v5.category = 1) (k : XW d m (pc + 2) (v0 :: v1 :: v2 :: v3 :: v4 :: v5 :: .long x :: .null :: t) st h Q) : XW d m pc (v0 :: v1 :: v2 :: v3 :: v4 :: v5 :: y :: z :: t) (.long x :: st) h Q := by
  refine XW.op r rfl rfl ?_ k
  have e : xset2 (v0 :: v1 :: v2 :: v3 :: v4 :: v5 :: y :: z :: t) 6 (.long x) = (v0 :: v1 :: v2 :: v3 :: v4 :: v5 :: .long x :: .null :: t) := by
    unfold xset2 xkill
    show List.set (List.set (if v5.category = 2 then _ else _) _ _) _ _ = _
    rw [hc]; rfl
  show (if 6 + 1 < List.length (v0 :: v1 :: v2 :: v3 :: v4 :: v5 :: y :: z :: t) then some (_, xset2 (v0 :: v1 :: v2 :: v3 :: v4 :: v5 :: y :: z :: t) 6 (.long x), st, h) else none) = _
  rw [e]; rfl
theorem w_iinc6 {v0 v1 v2 v3 v4 v5 : Value} {x v : Int32} {n : Int} {t : List Value} (r : xrow m pc = some (.iinc 6 n, len, ra, rb, rc, rw)) (hc : v5.category = 1) (hv : x + Int32.ofInt n = v) (k : XW d m (pc + 3) (v0 :: v1 :: v2 :: v3 :: v4 :: v5 :: .int v :: t) st h Q) : XW d m pc (v0 :: v1 :: v2 :: v3 :: v4 :: v5 :: .int x :: t) st h Q := by
  subst hv
  refine XW.op r rfl rfl ?_ k
  have e : xset1 (v0 :: v1 :: v2 :: v3 :: v4 :: v5 :: .int x :: t) 6 (.int (x + Int32.ofInt n)) = (v0 :: v1 :: v2 :: v3 :: v4 :: v5 :: .int (x + Int32.ofInt n) :: t) := by
    unfold xset1 xkill
    show List.set (if v5.category = 2 then _ else _) _ _ = _
    rw [hc]; rfl
  show some (_, xset1 (v0 :: v1 :: v2 :: v3 :: v4 :: v5 :: .int x :: t) 6 (.int (x + Int32.ofInt n)), _, _) = _
  rw [e]
theorem w_iload7 {v0 v1 v2 v3 v4 v5 v6 : Value} {x : Int32} {t : List Value} (r : xrow m pc = some (.iload 7, len, ra, rb, rc, rw)) (k : XW d m (pc + 2) (v0 :: v1 :: v2 :: v3 :: v4 :: v5 :: v6 :: .int x :: t) (.int x :: st) h Q) : XW d m pc (v0 :: v1 :: v2 :: v3 :: v4 :: v5 :: v6 :: .int x :: t) st h Q := XW.op r rfl rfl rfl k
theorem w_lload7 {v0 v1 v2 v3 v4 v5 v6 : Value} {x : Int64} {t : List Value} (r : xrow m pc = some (.lload 7, len, ra, rb, rc, rw)) (k : XW d m (pc + 2) (v0 :: v1 :: v2 :: v3 :: v4 :: v5 :: v6 :: .long x :: t) (.long x :: st) h Q) : XW d m pc (v0 :: v1 :: v2 :: v3 :: v4 :: v5 :: v6 :: .long x :: t) st h Q := XW.op r rfl rfl rfl k
theorem w_aload7 {v0 v1 v2 v3 v4 v5 v6 : Value} {x : Nat} {t : List Value} (r : xrow m pc = some (.aload 7, len, ra, rb, rc, rw)) (k : XW d m (pc + 2) (v0 :: v1 :: v2 :: v3 :: v4 :: v5 :: v6 :: .ref x :: t) (.ref x :: st) h Q) : XW d m pc (v0 :: v1 :: v2 :: v3 :: v4 :: v5 :: v6 :: .ref x :: t) st h Q := XW.op r rfl rfl rfl k
theorem w_istore7 {v0 v1 v2 v3 v4 v5 v6 : Value} {y : Value} {x : Int32} {t : List Value} (r : xrow m pc = some (.istore 7, len, ra, rb, rc, rw)) (hc : v6.category = 1) (k : XW d m (pc + 2) (v0 :: v1 :: v2 :: v3 :: v4 :: v5 :: v6 :: .int x :: t) st h Q) : XW d m pc (v0 :: v1 :: v2 :: v3 :: v4 :: v5 :: v6 :: y :: t) (.int x :: st) h Q := by
  refine XW.op r rfl rfl ?_ k
  have e : xset1 (v0 :: v1 :: v2 :: v3 :: v4 :: v5 :: v6 :: y :: t) 7 (.int x) = (v0 :: v1 :: v2 :: v3 :: v4 :: v5 :: v6 :: .int x :: t) := by
    unfold xset1 xkill
    show List.set (if v6.category = 2 then _ else _) _ _ = _
    rw [hc]; rfl
  show (if 7 < List.length (v0 :: v1 :: v2 :: v3 :: v4 :: v5 :: v6 :: y :: t) then some (_, xset1 (v0 :: v1 :: v2 :: v3 :: v4 :: v5 :: v6 :: y :: t) 7 (.int x), st, h) else none) = _
  rw [e]; rfl
theorem w_astore7 {v0 v1 v2 v3 v4 v5 v6 : Value} {y : Value} {x : Nat} {t : List Value} (r : xrow m pc = some (.astore 7, len, ra, rb, rc, rw)) (hc : v6.category = 1) (k : XW d m (pc + 2) (v0 :: v1 :: v2 :: v3 :: v4 :: v5 :: v6 :: .ref x :: t) st h Q) : XW d m pc (v0 :: v1 :: v2 :: v3 :: v4 :: v5 :: v6 :: y :: t) (.ref x :: st) h Q := by
  refine XW.op r rfl rfl ?_ k
  have e : xset1 (v0 :: v1 :: v2 :: v3 :: v4 :: v5 :: v6 :: y :: t) 7 (.ref x) = (v0 :: v1 :: v2 :: v3 :: v4 :: v5 :: v6 :: .ref x :: t) := by
    unfold xset1 xkill
    show List.set (if v6.category = 2 then _ else _) _ _ = _
    rw [hc]; rfl
  show (if 7 < List.length (v0 :: v1 :: v2 :: v3 :: v4 :: v5 :: v6 :: y :: t) then some (_, xset1 (v0 :: v1 :: v2 :: v3 :: v4 :: v5 :: v6 :: y :: t) 7 (.ref x), st, h) else none) = _
  rw [e]; rfl
theorem w_lstore7 {v0 v1 v2 v3 v4 v5 v6 : Value} {y z : Value} {x : Int64} {t : List Value} (r : xrow m pc = some (.lstore 7, len, ra, rb, rc, rw)) (hc : v6.category = 1) (k : XW d m (pc + 2) (v0 :: v1 :: v2 :: v3 :: v4 :: v5 :: v6 :: .long x :: .null :: t) st h Q) : XW d m pc (v0 :: v1 :: v2 :: v3 :: v4 :: v5 :: v6 :: y :: z :: t) (.long x :: st) h Q := by
  refine XW.op r rfl rfl ?_ k
  have e : xset2 (v0 :: v1 :: v2 :: v3 :: v4 :: v5 :: v6 :: y :: z :: t) 7 (.long x) = (v0 :: v1 :: v2 :: v3 :: v4 :: v5 :: v6 :: .long x :: .null :: t) := by
    unfold xset2 xkill
    show List.set (List.set (if v6.category = 2 then _ else _) _ _) _ _ = _
    rw [hc]; rfl
  show (if 7 + 1 < List.length (v0 :: v1 :: v2 :: v3 :: v4 :: v5 :: v6 :: y :: z :: t) then some (_, xset2 (v0 :: v1 :: v2 :: v3 :: v4 :: v5 :: v6 :: y :: z :: t) 7 (.long x), st, h) else none) = _
  rw [e]; rfl
theorem w_iinc7 {v0 v1 v2 v3 v4 v5 v6 : Value} {x v : Int32} {n : Int} {t : List Value} (r : xrow m pc = some (.iinc 7 n, len, ra, rb, rc, rw)) (hc : v6.category = 1) (hv : x + Int32.ofInt n = v) (k : XW d m (pc + 3) (v0 :: v1 :: v2 :: v3 :: v4 :: v5 :: v6 :: .int v :: t) st h Q) : XW d m pc (v0 :: v1 :: v2 :: v3 :: v4 :: v5 :: v6 :: .int x :: t) st h Q := by
  subst hv
  refine XW.op r rfl rfl ?_ k
  have e : xset1 (v0 :: v1 :: v2 :: v3 :: v4 :: v5 :: v6 :: .int x :: t) 7 (.int (x + Int32.ofInt n)) = (v0 :: v1 :: v2 :: v3 :: v4 :: v5 :: v6 :: .int (x + Int32.ofInt n) :: t) := by
    unfold xset1 xkill
    show List.set (if v6.category = 2 then _ else _) _ _ = _
    rw [hc]; rfl
  show some (_, xset1 (v0 :: v1 :: v2 :: v3 :: v4 :: v5 :: v6 :: .int x :: t) 7 (.int (x + Int32.ofInt n)), _, _) = _
  rw [e]
theorem w_iload8 {v0 v1 v2 v3 v4 v5 v6 v7 : Value} {x : Int32} {t : List Value} (r : xrow m pc = some (.iload 8, len, ra, rb, rc, rw)) (k : XW d m (pc + 2) (v0 :: v1 :: v2 :: v3 :: v4 :: v5 :: v6 :: v7 :: .int x :: t) (.int x :: st) h Q) : XW d m pc (v0 :: v1 :: v2 :: v3 :: v4 :: v5 :: v6 :: v7 :: .int x :: t) st h Q := XW.op r rfl rfl rfl k
theorem w_lload8 {v0 v1 v2 v3 v4 v5 v6 v7 : Value} {x : Int64} {t : List Value} (r : xrow m pc = some (.lload 8, len, ra, rb, rc, rw)) (k : XW d m (pc + 2) (v0 :: v1 :: v2 :: v3 :: v4 :: v5 :: v6 :: v7 :: .long x :: t) (.long x :: st) h Q) : XW d m pc (v0 :: v1 :: v2 :: v3 :: v4 :: v5 :: v6 :: v7 :: .long x :: t) st h Q := XW.op r rfl rfl rfl k
theorem w_aload8 {v0 v1 v2 v3 v4 v5 v6 v7 : Value} {x : Nat} {t : List Value} (r : xrow m pc = some (.aload 8, len, ra, rb, rc, rw)) (k : XW d m (pc + 2) (v0 :: v1 :: v2 :: v3 :: v4 :: v5 :: v6 :: v7 :: .ref x :: t) (.ref x :: st) h Q) : XW d m pc (v0 :: v1 :: v2 :: v3 :: v4 :: v5 :: v6 :: v7 :: .ref x :: t) st h Q := XW.op r rfl rfl rfl k
theorem w_istore8 {v0 v1 v2 v3 v4 v5 v6 v7 : Value} {y : Value} {x : Int32} {t : List Value} (r : xrow m pc = some (.istore 8, len, ra, rb, rc, rw)) (hc : v7.category = 1) (k : XW d m (pc + 2) (v0 :: v1 :: v2 :: v3 :: v4 :: v5 :: v6 :: v7 :: .int x :: t) st h Q) : XW d m pc (v0 :: v1 :: v2 :: v3 :: v4 :: v5 :: v6 :: v7 :: y :: t) (.int x :: st) h Q := by
  refine XW.op r rfl rfl ?_ k
  have e : xset1 (v0 :: v1 :: v2 :: v3 :: v4 :: v5 :: v6 :: v7 :: y :: t) 8 (.int x) = (v0 :: v1 :: v2 :: v3 :: v4 :: v5 :: v6 :: v7 :: .int x :: t) := by
    unfold xset1 xkill
    show List.set (if v7.category = 2 then _ else _) _ _ = _
    rw [hc]; rfl
  show (if 8 < List.length (v0 :: v1 :: v2 :: v3 :: v4 :: v5 :: v6 :: v7 :: y :: t) then some (_, xset1 (v0 :: v1 :: v2 :: v3 :: v4 :: v5 :: v6 :: v7 :: y :: t) 8 (.int x), st, h) else none) = _
  rw [e]; rfl
theorem w_astore8 {v0 v1 v2 v3 v4 v5 v6 v7 : Value} {y : Value} {x : Nat} {t : List Value} (r : xrow m pc = some (.astore 8, len, ra, rb, rc, rw)) (hc : v7.category = 1) (k : XW d m (pc + 2) (v0 :: v1 :: v2 :: v3 :: v4 :: v5 :: v6 :: v7 :: .ref x :: t) st h Q) : XW d m pc (v0 :: v1 :: v2 :: v3 :: v4 :: v5 :: v6 :: v7 :: y :: t) (.ref x :: st) h Q := by
  refine XW.op r rfl rfl ?_ k
  have e : xset1 (v0 :: v1 :: v2 :: v3 :: v4 :: v5 :: v6 :: v7 :: y :: t) 8 (.ref x) = (v0 :: v1 :: v2 :: v3 :: v4 :: v5 :: v6 :: v7 :: .ref x :: t) := by
    unfold xset1 xkill
    show List.set (if v7.category = 2 then _ else _) _ _ = _
    rw [hc]; rfl
  show (if 8 < List.length (v0 :: v1 :: v2 :: v3 :: v4 :: v5 :: v6 :: v7 :: y :: t) then some (_, xset1 (v0 :: v1 :: v2 :: v3 :: v4 :: v5 :: v6 :: v7 :: y :: t) 8 (.ref x), st, h) else none) = _
  rw [e]; rfl
theorem w_lstore8 {v0 v1 v2 v3 v4 v5 v6 v7 : Value} {y z : Value} {x : Int64} {t : List Value} (r : xrow m pc = some (.lstore 8, len, ra, rb, rc, rw)) (hc : v7.category = 1) (k : XW d m (pc + 2) (v0 :: v1 :: v2 :: v3 :: v4 :: v5 :: v6 :: v7 :: .long x :: .null :: t) st h Q) : XW d m pc (v0 :: v1 :: v2 :: v3 :: v4 :: v5 :: v6 :: v7 :: y :: z :: t) (.long x :: st) h Q := by
  refine XW.op r rfl rfl ?_ k
  have e : xset2 (v0 :: v1 :: v2 :: v3 :: v4 :: v5 :: v6 :: v7 :: y :: z :: t) 8 (.long x) = (v0 :: v1 :: v2 :: v3 :: v4 :: v5 :: v6 :: v7 :: .long x :: .null :: t) := by
    unfold xset2 xkill
    show List.set (List.set (if v7.category = 2 then _ else _) _ _) _ _ = _
    rw [hc]; rfl
  show (if 8 + 1 < List.length (v0 :: v1 :: v2 :: v3 :: v4 :: v5 :: v6 :: v7 :: y :: z :: t) then some (_, xset2 (v0 :: v1 :: v2 :: v3 :: v4 :: v5 :: v6 :: v7 :: y :: z :: t) 8 (.long x), st, h) else none) = _
  rw [e]; rfl
theorem w_iinc8 {v0 v1 v2 v3 v4 v5 v6 v7 : Value} {x v : Int32} {n : Int} {t : List Value} (r : xrow m pc = some (.iinc 8 n, len, ra, rb, rc, rw)) (hc : v7.category = 1) (hv : x + Int32.ofInt n = v) (k : XW d m (pc + 3) (v0 :: v1 :: v2 :: v3 :: v4 :: v5 :: v6 :: v7 :: .int v :: t) st h Q) : XW d m pc (v0 :: v1 :: v2 :: v3 :: v4 :: v5 :: v6 :: v7 :: .int x :: t) st h Q := by
  subst hv
  refine XW.op r rfl rfl ?_ k
  have e : xset1 (v0 :: v1 :: v2 :: v3 :: v4 :: v5 :: v6 :: v7 :: .int x :: t) 8 (.int (x + Int32.ofInt n)) = (v0 :: v1 :: v2 :: v3 :: v4 :: v5 :: v6 :: v7 :: .int (x + Int32.ofInt n) :: t) := by
    unfold xset1 xkill
    show List.set (if v7.category = 2 then _ else _) _ _ = _
    rw [hc]; rfl
  show some (_, xset1 (v0 :: v1 :: v2 :: v3 :: v4 :: v5 :: v6 :: v7 :: .int x :: t) 8 (.int (x + Int32.ofInt n)), _, _) = _
  rw [e]
theorem w_iload9 {v0 v1 v2 v3 v4 v5 v6 v7 v8 : Value} {x : Int32} {t : List Value} (r : xrow m pc = some (.iload 9, len, ra, rb, rc, rw)) (k : XW d m (pc + 2) (v0 :: v1 :: v2 :: v3 :: v4 :: v5 :: v6 :: v7 :: v8 :: .int x :: t) (.int x :: st) h Q) : XW d m pc (v0 :: v1 :: v2 :: v3 :: v4 :: v5 :: v6 :: v7 :: v8 :: .int x :: t) st h Q := XW.op r rfl rfl rfl k
theorem w_lload9 {v0 v1 v2 v3 v4 v5 v6 v7 v8 : Value} {x : Int64} {t : List Value} (r : xrow m pc = some (.lload 9, len, ra, rb, rc, rw)) (k : XW d m (pc + 2) (v0 :: v1 :: v2 :: v3 :: v4 :: v5 :: v6 :: v7 :: v8 :: .long x :: t) (.long x :: st) h Q) : XW d m pc (v0 :: v1 :: v2 :: v3 :: v4 :: v5 :: v6 :: v7 :: v8 :: .long x :: t) st h Q := XW.op r rfl rfl rfl k
theorem w_aload9 {v0 v1 v2 v3 v4 v5 v6 v7 v8 : Value} {x : Nat} {t : List Value} (r : xrow m pc = some (.aload 9, len, ra, rb, rc, rw)) (k : XW d m (pc + 2) (v0 :: v1 :: v2 :: v3 :: v4 :: v5 :: v6 :: v7 :: v8 :: .ref x :: t) (.ref x :: st) h Q) : XW d m pc (v0 :: v1 :: v2 :: v3 :: v4 :: v5 :: v6 :: v7 :: v8 :: .ref x :: t) st h Q := XW.op r rfl rfl rfl k
theorem w_istore9 {v0 v1 v2 v3 v4 v5 v6 v7 v8 : Value} {y : Value} {x : Int32} {t : List Value} (r : xrow m pc = some (.istore 9, len, ra, rb, rc, rw)) (hc : v8.category = 1) (k : XW d m (pc + 2) (v0 :: v1 :: v2 :: v3 :: v4 :: v5 :: v6 :: v7 :: v8 :: .int x :: t) st h Q) : XW d m pc (v0 :: v1 :: v2 :: v3 :: v4 :: v5 :: v6 :: v7 :: v8 :: y :: t) (.int x :: st) h Q := by
  refine XW.op r rfl rfl ?_ k
  have e : xset1 (v0 :: v1 :: v2 :: v3 :: v4 :: v5 :: v6 :: v7 :: v8 :: y :: t) 9 (.int x) = (v0 :: v1 :: v2 :: v3 :: v4 :: v5 :: v6 :: v7 :: v8 :: .int x :: t) := by
    unfold xset1 xkill
    show List.set (if v8.category = 2 then _ else _) _ _ = _
    rw [hc]; rfl
  show (if 9 < List.length (v0 :: v1 :: v2 :: v3 :: v4 :: v5 :: v6 :: v7 :: v8 :: y :: t) then some (_, xset1 (v0 :: v1 :: v2 :: v3 :: v4 :: v5 :: v6 :: v7 :: v8 :: y :: t) 9 (.int x), st, h) else none) = _
  rw [e]; rfl
theorem w_astore9 {v0 v1 v2 v3 v4 v5 v6 v7 v8 : Value} {y : Value} {x : Nat} {t : List Value} (r : xrow m pc = some (.astore 9, len, ra, rb, rc, rw)) (hc : v8.category = 1) (k : XW d m (pc + 2) (v0 :: v1 :: v2 :: v3 :: v4 :: v5 :: v6 :: v7 :: v8 :: .ref x :: t) st h Q) : XW d m pc (v0 :: v1 :: v2 :: v3 :: v4 :: v5 :: v6 :: v7 :: v8 :: y :: t) (.ref x :: st) h Q := by
  refine XW.op r rfl rfl ?_ k
  have e : xset1 (v0 :: v1 :: v2 :: v3 :: v4 :: v5 :: v6 :: v7 :: v8 :: y :: t) 9 (.ref x) = (v0 :: v1 :: v2 :: v3 :: v4 :: v5 :: v6 :: v7 :: v8 :: .ref x :: t) := by
    unfold xset1 xkill
    show List.set (if v8.category = 2 then _ else _) _ _ = _
    rw [hc]; rfl
  show (if 9 < List.length (v0 :: v1 :: v2 :: v3 :: v4 :: v5 :: v6 :: v7 :: v8 :: y :: t) then some (_, xset1 (v0 :: v1 :: v2 :: v3 :: v4 :: v5 :: v6 :: v7 :: v8 :: y :: t) 9 (.ref x), st, h) else none) = _
  rw [e]; rfl
theorem w_lstore9 {v0 v1 v2 v3 v4 v5 v6 v7 v8 : Value} {y z : Value} {x : Int64} {t : List Value} (r : xrow m pc = some (.lstore 9, len, ra, rb, rc, rw)) (hc : v8.category = 1) (k : XW d m (pc + 2) (v0 :: v1 :: v2 :: v3 :: v4 :: v5 :: v6 :: v7 :: v8 :: .long x :: .null :: t) st h Q) : XW d m pc (v0 :: v1 :: v2 :: v3 :: v4 :: v5 :: v6 :: v7 :: v8 :: y :: z :: t) (.long x :: st) h Q := by
  refine XW.op r rfl rfl ?_ k
  have e : xset2 (v0 :: v1 :: v2 :: v3 :: v4 :: v5 :: v6 :: v7 :: v8 :: y :: z :: t) 9 (.long x) = (v0 :: v1 :: v2 :: v3 :: v4 :: v5 :: v6 :: v7 :: v8 :: .long x :: .null :: t) := by
    unfold xset2 xkill
    show List.set (List.set (if v8.category = 2 then _ else _) _ _) _ _ = _
    rw [hc]; rfl
  show (if 9 + 1 < List.length (v0 :: v1 :: v2 :: v3 :: v4 :: v5 :: v6 :: v7 :: v8 :: y :: z :: t) then some (_, xset2 (v0 :: v1 :: v2 :: v3 :: v4 :: v5 :: v6 :: v7 :: v8 :: y :: z :: t) 9 (.long x), st, h) else none) = _
  rw [e]; rfl
theorem w_iinc9 {v0 v1 v2 v3 v4 v5 v6 v7 v8 : Value} {x v : Int32} {n : Int} {t : List Value} (r : xrow m pc = some (.iinc 9 n, len, ra, rb, rc, rw)) (hc : v8.category = 1) (hv : x + Int32.ofInt n = v) (k : XW d m (pc + 3) (v0 :: v1 :: v2 :: v3 :: v4 :: v5 :: v6 :: v7 :: v8 :: .int v :: t) st h Q) : XW d m pc (v0 :: v1 :: v2 :: v3 :: v4 :: v5 :: v6 :: v7 :: v8 :: .int x :: t) st h Q := by
  subst hv
  refine XW.op r rfl rfl ?_ k
  have e : xset1 (v0 :: v1 :: v2 :: v3 :: v4 :: v5 :: v6 :: v7 :: v8 :: .int x :: t) 9 (.int (x + Int32.ofInt n)) = (v0 :: v1 :: v2 :: v3 :: v4 :: v5 :: v6 :: v7 :: v8 :: .int (x + Int32.ofInt n) :: t) := by
    unfold xset1 xkill
    show List.set (if v8.category = 2 then _ else _) _ _ = _
    rw [hc]; rfl
  show some (_, xset1 (v0 :: v1 :: v2 :: v3 :: v4 :: v5 :: v6 :: v7 :: v8 :: .int x :: t) 9 (.int (x + Int32.ofInt n)), _, _) = _
  rw [e]
theorem w_iload10 {v0 v1 v2 v3 v4 v5 v6 v7 v8 v9 : Value} {x : Int32} {t : List Value} (r : xrow m pc = some (.iload 10, len, ra, rb, rc, rw)) (k : XW d m (pc + 2) (v0 :: v1 :: v2 :: v3 :: v4 :: v5 :: v6 :: v7 :: v8 :: v9 :: .int x :: t) (.int x :: st) h Q) : XW d m pc (v0 :: v1 :: v2 :: v3 :: v4 :: v5 :: v6 :: v7 :: v8 :: v9 :: .int x :: t) st h Q := XW.op r rfl rfl rfl k
theorem w_lload10 {v0 v1 v2 v3 v4 v5 v6 v7 v8 v9 : Value} {x : Int64} {t : List Value} (r : xrow m pc = some (.lload 10, len, ra, rb, rc, rw)) (k : XW d m (pc + 2) (v0 :: v1 :: v2 :: v3 :: v4 :: v5 :: v6 :: v7 :: v8 :: v9 :: .long x :: t) (.long x :: st) h Q) : XW d m pc (v0 :: v1 :: v2 :: v3 :: v4 :: v5 :: v6 :: v7 :: v8 :: v9 :: .long x :: t) st h Q := XW.op r rfl rfl rfl k
theorem w_aload10 {v0 v1 v2 v3 v4 v5 v6 v7 v8 v9 : Value} {x : Nat} {t : List Value} (r : xrow m pc = some (.aload 10, len, ra, rb, rc, rw)) (k : XW d m (pc + 2) (v0 :: v1 :: v2 :: v3 :: v4 :: v5 :: v6 :: v7 :: v8 :: v9 :: .ref x :: t) (.ref x :: st) h Q) : XW d m pc (v0 :: v1 :: v2 :: v3 :: v4 :: v5 :: v6 :: v7 :: v8 :: v9 :: .ref x :: t) st h Q := XW.op r rfl rfl rfl k
theorem w_istore10 {v0 v1 v2 v3 v4 v5 v6 v7 v8 v9 : Value} {y : Value} {x : Int32} {t : List Value} (r : xrow m pc = some (.istore 10, len, ra, rb, rc, rw)) (hc : v9.category = 1) (k : XW d m (pc + 2) (v0 :: v1 :: v2 :: v3 :: v4 :: v5 :: v6 :: v7 :: v8 :: v9 :: .int x :: t) st h Q) : XW d m pc (v0 :: v1 :: v2 :: v3 :: v4 :: v5 :: v6 :: v7 :: v8 :: v9 :: y :: t) (.int x :: st) h Q := by
  refine XW.op r rfl rfl ?_ k
  have e : xset1 (v0 :: v1 :: v2 :: v3 :: v4 :: v5 :: v6 :: v7 :: v8 :: v9 :: y :: t) 10 (.int x) = (v0 :: v1 :: v2 :: v3 :: v4 :: v5 :: v6 :: v7 :: v8 :: v9 :: .int x :: t) := by
    unfold xset1 xkill
    show List.set (if v9.category = 2 then _ else _) _ _ = _
    rw [hc]; rfl
  show (if 10 < List.length (v0 :: v1 :: v2 :: v3 :: v4 :: v5 :: v6 :: v7 :: v8 :: v9 :: y :: t) then some (_, xset1 (v0 :: v1 :: v2 :: v3 :: v4 :: v5 :: v6 :: v7 :: v8 :: v9 :: y :: t) 10 (.int x), st, h) else none) = _
  rw [e]; rfl
theorem w_astore10 {v0 v1 v2 v3 v4 v5 v6 v7 v8 v9 : Value} {y : Value} {x : Nat} {t : List Value} (r : xrow m pc = some (.astore 10, len, ra, rb, rc, rw)) (hc : v9.category = 1) (k : XW d m (pc + 2) (v0 :: v1 :: v2 :: v3 :: v4 :: v5 :: v6 :: v7 :: v8 :: v9 :: .ref x :: t) st h Q) : XW d m pc (v0 :: v1 :: v2 :: v3 :: v4 :: v5 :: v6 :: v7 :: v8 :: v9 :: y :: t) (.ref x :: st) h Q := by
  refine XW.op r rfl rfl ?_ k
  have e : xset1 (v0 :: v1 :: v2 :: v3 :: v4 :: v5 :: v6 :: v7 :: v8 :: v9 :: y :: t) 10 (.ref x) = (v0 :: v1 :: v2 :: v3 :: v4 :: v5 :: v6 :: v7 :: v8 :: v9 :: .ref x :: t) := by
    unfold xset1 xkill
    show List.set (if v9.category = 2 then _ else _) _ _ = _
    rw [hc]; rfl
  show (if 10 < List.length (v0 :: v1 :: v2 :: v3 :: v4 :: v5 :: v6 :: v7 :: v8 :: v9 :: y :: t) then some (_, xset1 (v0 :: v1 :: v2 :: v3 :: v4 :: v5 :: v6 :: v7 :: v8 :: v9 :: y :: t) 10 (.ref x), st, h) else none) = _
  rw [e]; rfl
theorem w_lstore10 {v0 v1 v2 v3 v4 v5 v6 v7 v8 v9 : Value} {y z : Value} {x : Int64} {t : List Value} (r : xrow m pc = some (.lstore 10, len, ra, rb, rc, rw)) (hc : v9.category = 1) (k : XW d m (pc + 2) (v0 :: v1 :: v2 :: v3 :: v4 :: v5 :: v6 :: v7 :: v8 :: v9 :: .long x :: .null :: t) st h Q) : XW d m pc (v0 :: v1 :: v2 :: v3 :: v4 :: v5 :: v6 :: v7 :: v8 :: v9 :: y :: z :: t) (.long x :: st) h Q := by
  refine XW.op r rfl rfl ?_ k
  have e : xset2 (v0 :: v1 :: v2 :: v3 :: v4 :: v5 :: v6 :: v7 :: v8 :: v9 :: y :: z :: t) 10 (.long x) = (v0 :: v1 :: v2 :: v3 :: v4 :: v5 :: v6 :: v7 :: v8 :: v9 :: .long x :: .null :: t) := by
    unfold xset2 xkill
    show List.set (List.set (if v9.category = 2 then _ else _) _ _) _ _ = _
    rw [hc]; rfl
  show (if 10 + 1 < List.length (v0 :: v1 :: v2 :: v3 :: v4 :: v5 :: v6 :: v7 :: v8 :: v9 :: y :: z :: t) then some (_, xset2 (v0 :: v1 :: v2 :: v3 :: v4 :: v5 :: v6 :: v7 :: v8 :: v9 :: y :: z :: t) 10 (.long x), st, h) else none) = _
  rw [e]; rfl
theorem w_iinc10 {v0 v1 v2 v3 v4 v5 v6 v7 v8 v9 : Value} {x v : Int32} {n : Int} {t : List Value} (r : xrow m pc = some (.iinc 10 n, len, ra, rb, rc, rw)) (hc : v9.category = 1) (hv : x + Int32.ofInt n = v) (k : XW d m (pc + 3) (v0 :: v1 :: v2 :: v3 :: v4 :: v5 :: v6 :: v7 :: v8 :: v9 :: .int v :: t) st h Q) : XW d m pc (v0 :: v1 :: v2 :: v3 :: v4 :: v5 :: v6 :: v7 :: v8 :: v9 :: .int x :: t) st h Q := by
  subst hv
  refine XW.op r rfl rfl ?_ k
  have e : xset1 (v0 :: v1 :: v2 :: v3 :: v4 :: v5 :: v6 :: v7 :: v8 :: v9 :: .int x :: t) 10 (.int (x + Int32.ofInt n)) = (v0 :: v1 :: v2 :: v3 :: v4 :: v5 :: v6 :: v7 :: v8 :: v9 :: .int (x + Int32.ofInt n) :: t) := by
    unfold xset1 xkill
    show List.set (if v9.category = 2 then _ else _) _ _ = _
    rw [hc]; rfl
  show some (_, xset1 (v0 :: v1 :: v2 :: v3 :: v4 :: v5 :: v6 :: v7 :: v8 :: v9 :: .int x :: t) 10 (.int (x + Int32.ofInt n)), _, _) = _
  rw [e]
theorem w_iload11 {v0 v1 v2 v3 v4 v5 v6 v7 v8 v9 v10 : Value} {x : Int32} {t : List Value} (r : xrow m pc = some (.iload 11, len, ra, rb, rc, rw)) (k : XW d m (pc + 2) (v0 :: v1 :: v2 :: v3 :: v4 :: v5 :: v6 :: v7 :: v8 :: v9 :: v10 :: .int x :: t) (.int x :: st) h Q) : XW d m pc (v0 :: v1 :: v2 :: v3 :: v4 :: v5 :: v6 :: v7 :: v8 :: v9 :: v10 :: .int x :: t) st h Q := XW.op r rfl rfl rfl k
theorem w_lload11 {v0 v1 v2 v3 v4 v5 v6 v7 v8 v9 v10 : Value} {x : Int64} {t : List Value} (r : xrow m pc = some (.lload 11, len, ra, rb, rc, rw)) (k : XW d m (pc + 2) (v0 :: v1 :: v2 :: v3 :: v4 :: v5 :: v6 :: v7 :: v8 :: v9 :: v10 :: .long x :: t) (.long x :: st) h Q) : XW d m pc (v0 :: v1 :: v2 :: v3 :: v4 :: v5 :: v6 :: v7 :: v8 :: v9 :: v10 :: .long x :: t) st h Q := XW.op r rfl rfl rfl k
theorem w_aload11 {v0 v1 v2 v3 v4 v5 v6 v7 v8 v9 v10 : Value} {x : Nat} {t : List Value} (r : xrow m pc = some (.aload 11, len, ra, rb, rc, rw)) (k : XW d m (pc + 2) (v0 :: v1 :: v2 :: v3 :: v4 :: v5 :: v6 :: v7 :: v8 :: v9 :: v10 :: .ref x :: t) (.ref x :: st) h Q) : XW d m pc (v0 :: v1 :: v2 :: v3 :: v4 :: v5 :: v6 :: v7 :: v8 :: v9 :: v10 :: .ref x :: t) st h Q := XW.op r rfl rfl rfl k
theorem w_istore11 {v0 v1 v2 v3 v4 v5 v6 v7 v8 v9 v10 : Value} {y : Value} {x : Int32} {t : List Value} (r : xrow m pc = some (.istore 11, len, ra, rb, rc, rw)) (hc : v10.category = 1) (k : XW d m (pc + 2) (v0 :: v1 :: v2 :: v3 :: v4 :: v5 :: v6 :: v7 :: v8 :: v9 :: v10 :: .int x :: t) st h Q) : XW d m pc (v0 :: v1 :: v2 :: v3 :: v4 :: v5 :: v6 :: v7 :: v8 :: v9 :: v10 :: y :: t) (.int x :: st) h Q := by
  refine XW.op r rfl rfl ?_ k
  have e : xset1 (v0 :: v1 :: v2 :: v3 :: v4 :: v5 :: v6 :: v7 :: v8 :: v9 :: v10 :: y :: t) 11 (.int x) = (v0 :: v1 :: v2 :: v3 :: v4 :: v5 :: v6 :: v7 :: v8 :: v9 :: v10 :: .int x :: t) := by
    unfold xset1 xkill
    show List.set (if v10.category = 2 then _ else _) _ _ = _
    rw [hc]; rfl
  show (if 11 < List.length (v0 :: v1 :: v2 :: v3 :: v4 :: v5 :: v6 :: v7 :: v8 :: v9 :: v10 :: y :: t) then some (_, xset1 (v0 :: v1 :: v2 :: v3 :: v4 :: v5 :: v6 :: v7 :: v8 :: v9 :: v10 :: y :: t) 11 (.int x), st, h) else none) = _
  rw [e]; rfl
theorem w_astore11 {v0 v1 v2 v3 v4 v5 v6 v7 v8 v9 v10 : Value} {y : Value} {x : Nat} {t : List Value} (r : xrow m pc = some (.astore 11, len, ra, rb, rc, rw)) (hc : v10.category = 1) (k : XW d m (pc + 2) (v0 :: v1 :: v2 :: v3 :: v4 :: v5 :: v6 :: v7 :: v8 :: v9 :: v10 :: .ref x :: t) st h Q) : XW d m pc (v0 :: v1 :: v2 :: v3 :: v4 :: v5 :: v6 :: v7 :: v8 :: v9 :: v10 :: y :: t) (.ref x :: st) h Q := by
  refine XW.op r rfl rfl ?_ k
  have e : xset1 (v0 :: v1 :: v2 :: v3 :: v4 :: v5 :: v6 :: v7 :: v8 :: v9 :: v10 :: y :: t) 11 (.ref x) = (v0 :: v1 :: v2 :: v3 :: v4 :: v5 :: v6 :: v7 :: v8 :: v9 :: v10 :: .ref x :: t) := by
    unfold xset1 xkill
    show List.set (if v10.category = 2 then _ else _) _ _ = _
    rw [hc]; rfl
  show (if 11 < List.length (v0 :: v1 :: v2 :: v3 :: v4 :: v5 :: v6 :: v7 :: v8 :: v9 :: v10 :: y :: t) then some (_, xset1 (v0 :: v1 :: v2 :: v3 :: v4 :: v5 :: v6 :: v7 :: v8 :: v9 :: v10 :: y :: t) 11 (.ref x), st, h) else none) = _
  rw [e]; rfl
theorem w_lstore11 {v0 v1 v2 v3 v4 v5 v6 v7 v8 v9 v10 : Value} {y z : Value} {x : Int64} {t : List Value} (r : xrow m pc = some (.lstore 11, len, ra, rb, rc, rw)) (hc : v10.category = 1) (k : XW d m (pc + 2) (v0 :: v1 :: v2 :: v3 :: v4 :: v5 :: v6 :: v7 :: v8 :: v9 :: v10 :: .long x :: .null :: t) st h Q) : XW d m pc (v0 :: v1 :: v2 :: v3 :: v4 :: v5 :: v6 :: v7 :: v8 :: v9 :: v10 :: y :: z :: t) (.long x :: st) h Q := by
  refine XW.op r rfl rfl ?_ k
  have e : xset2 (v0 :: v1 :: v2 :: v3 :: v4 :: v5 :: v6 :: v7 :: v8 :: v9 :: v10 :: y :: z :: t) 11 (.long x) = (v0 :: v1 :: v2 :: v3 :: v4 :: v5 :: v6 :: v7 :: v8 :: v9 :: v10 :: .long x :: .null :: t) := by
    unfold xset2 xkill
    show List.set (List.set (if v10.category = 2 then _ else _) _ _) _ _ = _
    rw [hc]; rfl
  show (if 11 + 1 < List.length (v0 :: v1 :: v2 :: v3 :: v4 :: v5 :: v6 :: v7 :: v8 :: v9 :: v10 :: y :: z :: t) then some (_, xset2 (v0 :: v1 :: v2 :: v3 :: v4 :: v5 :: v6 :: v7 :: v8 :: v9 :: v10 :: y :: z :: t) 11 (.long x), st, h) else none) = _
  rw [e]; rfl
theorem w_iinc11 {v0 v1 v2 v3 v4 v5 v6 v7 v8 v9 v10 : Value} {x v : Int32} {n : Int} {t : List Value} (r : xrow m pc = some (.iinc 11 n, len, ra, rb, rc, rw)) (hc : v10.category = 1) (hv : x + Int32.ofInt n = v) (k : XW d m (pc + 3) (v0 :: v1 :: v2 :: v3 :: v4 :: v5 :: v6 :: v7 :: v8 :: v9 :: v10 :: .int v :: t) st h Q) : XW d m pc (v0 :: v1 :: v2 :: v3 :: v4 :: v5 :: v6 :: v7 :: v8 :: v9 :: v10 :: .int x :: t) st h Q := by
  subst hv
  refine XW.op r rfl rfl ?_ k
  have e : xset1 (v0 :: v1 :: v2 :: v3 :: v4 :: v5 :: v6 :: v7 :: v8 :: v9 :: v10 :: .int x :: t) 11 (.int (x + Int32.ofInt n)) = (v0 :: v1 :: v2 :: v3 :: v4 :: v5 :: v6 :: v7 :: v8 :: v9 :: v10 :: .int (x + Int32.ofInt n) :: t) := by
    unfold xset1 xkill
    show List.set (if v10.category = 2 then _ else _) _ _ = _
    rw [hc]; rfl
  show some (_, xset1 (v0 :: v1 :: v2 :: v3 :: v4 :: v5 :: v6 :: v7 :: v8 :: v9 :: v10 :: .int x :: t) 11 (.int (x + Int32.ofInt n)), _, _) = _
  rw [e]
theorem w_iload12 {v0 v1 v2 v3 v4 v5 v6 v7 v8 v9 v10 v11 : Value} {x : Int32} {t : List Value} (r : xrow m pc = some (.iload 12, len, ra, rb, rc, rw)) (k : XW d m (pc + 2) (v0 :: v1 :: v2 :: v3 :: v4 :: v5 :: v6 :: v7 :: v8 :: v9 :: v10 :: v11 :: .int x :: t) (.int x :: st) h Q) : XW d m pc (v0 :: v1 :: v2 :: v3 :: v4 :: v5 :: v6 :: v7 :: v8 :: v9 :: v10 :: v11 :: .int x :: t) st h Q := XW.op r rfl rfl rfl k
theorem w_lload12 {v0 v1 v2 v3 v4 v5 v6 v7 v8 v9 v10 v11 : Value} {x : Int64} {t : List Value} (r : xrow m pc = some (.lload 12, len, ra, rb, rc, rw)) (k : XW d m (pc + 2) (v0 :: v1 :: v2 :: v3 :: v4 :: v5 :: v6 :: v7 :: v8 :: v9 :: v10 :: v11 :: .long x :: t) (.long x :: st) h Q) : XW d m pc (v0 :: v1 :: v2 :: v3 :: v4 :: v5 :: v6 :: v7 :: v8 :: v9 :: v10 :: v11 :: .long x :: t) st h Q := XW.op r rfl rfl rfl k
theorem w_aload12 {v0 v1 v2 v3 v4 v5 v6 v7 v8 v9 v10 v11 : Value} {x : Nat} {t : List Value} (r : xrow m pc = some (.aload 12, len, ra, rb, rc, rw)) (k : XW d m (pc + 2) (v0 :: v1 :: v2 :: v3 :: v4 :: v5 :: v6 :: v7 :: v8 :: v9 :: v10 :: v11 :: .ref x :: t) (.ref x :: st) h Q) : XW d m pc (v0 :: v1 :: v2 :: v3 :: v4 :: v5 :: v6 :: v7 :: v8 :: v9 :: v10 :: v11 :: .ref x :: t) st h Q := XW.op r rfl rfl rfl k
theorem w_istore12 {v0 v1 v2 v3 v4 v5 v6 v7 v8 v9 v10 v11 : Value} {y : Value} {x : Int32} {t : List Value} (r : xrow m pc = some (.istore 12, len, ra, rb, rc, rw)) (hc : v11.category = 1) (k : XW d m (pc + 2) (v0 :: v1 :: v2 :: v3 :: v4 :: v5 :: v6 :: v7 :: v8 :: v9 :: v10 :: v11 :: .int x :: t) st h Q) : XW d m pc (v0 :: v1 :: v2 :: v3 :: v4 :: v5 :: v6 :: v7 :: v8 :: v9 :: v10 :: v11 :: y :: t) (.int x :: st) h Q := by
  refine XW.op r rfl rfl ?_ k
  have e : xset1 (v0 :: v1 :: v2 :: v3 :: v4 :: v5 :: v6 :: v7 :: v8 :: v9 :: v10 :: v11 :: y :: t) 12 (.int x) = (v0 :: v1 :: v2 :: v3 :: v4 :: v5 :: v6 :: v7 :: v8 :: v9 :: v10 :: v11 :: .int x :: t) := by
    unfold xset1 xkill
    show List.set (if v11.category = 2 then _ else _) _ _ = _
    rw [hc]; rfl
  show (if 12 < List.length (v0 :: v1 :: v2 :: v3 :: v4 :: v5 :: v6 :: v7 :: v8 :: v9 :: v10 :: v11 :: y :: t) then some (_, xset1 (v0 :: v1 :: v2 :: v3 :: v4 :: v5 :: v6 :: v7 :: v8 :: v9 :: v10 :: v11 :: y :: t) 12 (.int x), st, h) else none) = _
  rw [e]; rfl
theorem w_astore12 {v0 v1 v2 v3 v4 v5 v6 v7 v8 v9 v10 v11 : Value} {y : Value} {x : Nat} {t : List Value} (r : xrow m pc = some (.astore 12, len, ra, rb, rc, rw)) (hc : v11.category = 1) (k : XW d m (pc + 2) (v0 :: v1 :: v2 :: v3 :: v4 :: v5 :: v6 :: v7 :: v8 :: v9 :: v10 :: v11 :: .ref x :: t) st h Q) : XW d m pc (v0 :: v1 :: v2 :: v3 :: v4 :: v5 :: v6 :: v7 :: v8 :: v9 :: v10 :: v11 :: y :: t) (.ref x :: st) h Q := by
  refine XW.op r rfl rfl ?_ k
  have e : xset1 (v0 :: v1 :: v2 :: v3 :: v4 :: v5 :: v6 :: v7 :: v8 :: v9 :: v10 :: v11 :: y :: t) 12 (.ref x) = (v0 :: v1 :: v2 :: v3 :: v4 :: v5 :: v6 :: v7 :: v8 :: v9 :: v10 :: v11 :: .ref x :: t) := by
    unfold xset1 xkill
    show List.set (if v11.category = 2 then _ else _) _ _ = _
    rw [hc]; rfl
  show (if 12 < List.length (v0 :: v1 :: v2 :: v3 :: v4 :: v5 :: v6 :: v7 :: v8 :: v9 :: v10 :: v11 :: y :: t) then some (_, xset1 (v0 :: v1 :: v2 :: v3 :: v4 :: v5 :: v6 :: v7 :: v8 :: v9 :: v10 :: v11 :: y :: t) 12 (.ref x), st, h) else none) = _
  rw [e]; rfl
theorem w_lstore12 {v0 v1 v2 v3 v4 v5 v6 v7 v8 v9 v10 v11 : Value} {y z : Value} {x : Int64} {t : List Value} (r : xrow m pc = some (.lstore 12, len, ra, rb, rc, rw)) (hc : v11.category = 1) (k : XW d m (pc + 2) (v0 :: v1 :: v2 :: v3 :: v4 :: v5 :: v6 :: v7 :: v8 :: v9 :: v10 :: v11 :: .long x :: .null :: t) st h Q) : XW d m pc (v0 :: v1 :: v2 :: v3 :: v4 :: v5 :: v6 :: v7 :: v8 :: v9 :: v10 :: v11 :: y :: z :: t) (.long x :: st) h Q := by
  refine XW.op r rfl rfl ?_ k
  have e : xset2 (v0 :: v1 :: v2 :: v3 :: v4 :: v5 :: v6 :: v7 :: v8 :: v9 :: v10 :: v11 :: y :: z :: t) 12 (.long x) = (v0 :: v1 :: v2 :: v3 :: v4 :: v5 :: v6 :: v7 :: v8 :: v9 :: v10 :: v11 :: .long x :: .null :: t) := by
    unfold xset2 xkill
    show List.set (List.set (if v11.category = 2 then _ else _) _ _) _ _ = _
    rw [hc]; rfl
  show (if 12 + 1 < List.length (v0 :: v1 :: v2 :: v3 :: v4 :: v5 :: v6 :: v7 :: v8 :: v9 :: v10 :: v11 :: y :: z :: t) then some (_, xset2 (v0 :: v1 :: v2 :: v3 :: v4 :: v5 :: v6 :: v7 :: v8 :: v9 :: v10 :: v11 :: y :: z :: t) 12 (.long x), st, h) else none) = _
  rw [e]; rfl
theorem w_iinc12 {v0 v1 v2 v3 v4 v5 v6 v7 v8 v9 v10 v11 : Value} {x v : Int32} {n : Int} {t : List Value} (r : xrow m pc = some (.iinc 12 n, len, ra, rb, rc, rw)) (hc : v11.category = 1) (hv : x + Int32.ofInt n = v) (k : XW d m (pc + 3) (v0 :: v1 :: v2 :: v3 :: v4 :: v5 :: v6 :: v7 :: v8 :: v9 :: v10 :: v11 :: .int v :: t) st h Q) : XW d m pc (v0 :: v1 :: v2 :: v3 :: v4 :: v5 :: v6 :: v7 :: v8 :: v9 :: v10 :: v11 :: .int x :: t) st h Q := by
  subst hv
  refine XW.op r rfl rfl ?_ k
  have e : xset1 (v0 :: v1 :: v2 :: v3 :: v4 :: v5 :: v6 :: v7 :: v8 :: v9 :: v10 :: v11 :: .int x :: t) 12 (.int (x + Int32.ofInt n)) = (v0 :: v1 :: v2 :: v3 :: v4 :: v5 :: v6 :: v7 :: v8 :: v9 :: v10 :: v11 :: .int (x + Int32.ofInt n) :: t) := by
    unfold xset1 xkill
    show List.set (if v11.category = 2 then _ else _) _ _ = _
    rw [hc]; rfl
  show some (_, xset1 (v0 :: v1 :: v2 :: v3 :: v4 :: v5 :: v6 :: v7 :: v8 :: v9 :: v10 :: v11 :: .int x :: t) 12 (.int (x + Int32.ofInt n)), _, _) = _
  rw [e]
theorem w_iload13 {v0 v1 v2 v3 v4 v5 v6 v7 v8 v9 v10 v11 v12 : Value} {x : Int32} {t : List Value} (r : xrow m pc = some (.iload 13, len, ra, rb, rc, rw)) (k : XW d m (pc + 2) (v0 :: v1 :: v2 :: v3 :: v4 :: v5 :: v6 :: v7 :: v8 :: v9 :: v10 :: v11 :: v12 :: .int x :: t) (.int x :: st) h Q) : XW d m pc (v0 :: v1 :: v2 :: v3 :: v4 :: v5 :: v6 :: v7 :: v8 :: v9 :: v10 :: v11 :: v12 :: .int x :: t) st h Q := XW.op r rfl rfl rfl k
theorem w_lload13 {v0 v1 v2 v3 v4 v5 v6 v7 v8 v9 v10 v11 v12 : Value} {x : Int64} {t : List Value} (r : xrow m pc = some (.lload 13, len, ra, rb, rc, rw)) (k : XW d m (pc + 2) (v0 :: v1 :: v2 :: v3 :: v4 :: v5 :: v6 :: v7 :: v8 :: v9 :: v10 :: v11 :: v12 :: .long x :: t) (.long x :: st) h Q) : XW d m pc (v0 :: v1 :: v2 :: v3 :: v4 :: v5 :: v6 :: v7 :: v8 :: v9 :: v10 :: v11 :: v12 :: .long x :: t) st h Q := XW.op r rfl rfl rfl k
theorem w_aload13 {v0 v1 v2 v3 v4 v5 v6 v7 v8 v9 v10 v11 v12 : Value} {x : Nat} {t : List Value} (r : xrow m pc = some (.aload 13, len, ra, rb, rc, rw)) (k : XW d m (pc + 2) (v0 :: v1 :: v2 :: v3 :: v4 :: v5 :: v6 :: v7 :: v8 :: v9 :: v10 :: v11 :: v12 :: .ref x :: t) (.ref x :: st) h Q) : XW d m pc (v0 :: v1 :: v2 :: v3 :: v4 :: v5 :: v6 :: v7 :: v8 :: v9 :: v10 :: v11 :: v12 :: .ref x :: t) st h Q := XW.op r rfl rfl rfl k
theorem w_istore13 {v0 v1 v2 v3 v4 v5 v6 v7 v8 v9 v10 v11 v12 : Value} {y : Value} {x : Int32} {t : List Value} (r : xrow m pc = some (.istore 13, len, ra, rb, rc, rw)) (hc : v12.category = 1) (k : XW d m (pc + 2) (v0 :: v1 :: v2 :: v3 :: v4 :: v5 :: v6 :: v7 :: v8 :: v9 :: v10 :: v11 :: v12 :: .int x :: t) st h Q) : XW d m pc (v0 :: v1 :: v2 :: v3 :: v4 :: v5 :: v6 :: v7 :: v8 :: v9 :: v10 :: v11 :: v12 :: y :: t) (.int x :: st) h Q := by
  refine XW.op r rfl rfl ?_ k
  have e : xset1 (v0 :: v1 :: v2 :: v3 :: v4 :: v5 :: v6 :: v7 :: v8 :: v9 :: v10 :: v11 :: v12 :: y :: t) 13 (.int x) = (v0 :: v1 :: v2 :: v3 :: v4 :: v5 :: v6 :: v7 :: v8 :: v9 :: v10 :: v11 :: v12 :: .int x :: t) := by
    unfold xset1 xkill
    show List.set (if v12.category = 2 then _ else _) _ _ = _
    rw [hc]; rfl
  show (if 13 < List.length (v0 :: v1 :: v2 :: v3 :: v4 :: v5 :: v6 :: v7 :: v8 :: v9 :: v10 :: v11 :: v12 :: y :: t) then some (_, xset1 (v0 :: v1 :: v2 :: v3 :: v4 :: v5 :: v6 :: v7 :: v8 :: v9 :: v10 :: v11 :: v12 :: y :: t) 13 (.int x), st, h) else none) = _
  rw [e]; rfl
theorem w_astore13 {v0 v1 v2 v3 v4 v5 v6 v7 v8 v9 v10 v11 v12 : Value} {y : Value} {x : Nat} {t : List Value} (r : xrow m pc = some (.astore 13, len, ra, rb, rc, rw)) (hc : v12.category = 1) (k : XW d m (pc + 2) (v0 :: v1 :: v2 :: v3 :: v4 :: v5 :: v6 :: v7 :: v8 :: v9 :: v10 :: v11 :: v12 :: .ref x :: t) st h Q) : XW d m pc (v0 :: v1 :: v2 :: v3 :: v4 :: v5 :: v6 :: v7 :: v8 :: v9 :: v10 :: v11 :: v12 :: y :: t) (.ref x :: st) h Q := by
  refine XW.op r rfl rfl ?_ k
  have e : xset1 (v0 :: v1 :: v2 :: v3 :: v4 :: v5 :: v6 :: v7 :: v8 :: v9 :: v10 :: v11 :: v12 :: y :: t) 13 (.ref x) = (v0 :: v1 :: v2 :: v3 :: v4 :: v5 :: v6 :: v7 :: v8 :: v9 :: v10 :: v11 :: v12 :: .ref x :: t) := by
    unfold xset1 xkill
    show List.set (if v12.category = 2 then _ else _) _ _ = _
    rw [hc]; rfl
  show (if 13 < List.length (v0 :: v1 :: v2 :: v3 :: v4 :: v5 :: v6 :: v7 :: v8 :: v9 :: v10 :: v11 :: v12 :: y :: t) then some (_, xset1 (v0 :: v1 :: v2 :: v3 :: v4 :: v5 :: v6 :: v7 :: v8 :: v9 :: v10 :: v11 :: v12 :: y :: t) 13 (.ref x), st, h) else none) = _
  rw [e]; rfl
theorem w_lstore13 {v0 v1 v2 v3 v4 v5 v6 v7 v8 v9 v10 v11 v12 : Value} {y z : Value} {x : Int64} {t : List Value} (r : xrow m pc = some (.lstore 13, len, ra, rb, rc, rw)) (hc : v12.category = 1) (k : XW d m (pc + 2) (v0 :: v1 :: v2 :: v3 :: v4 :: v5 :: v6 :: v7 :: v8 :: v9 :: v10 :: v11 :: v12 :: .long x :: .null :: t) st h Q) : XW d m pc (v0 :: v1 :: v2 :: v3 :: v4 :: v5 :: v6 :: v7 :: v8 :: v9 :: v10 :: v11 :: v12 :: y :: z :: t) (.long x :: st) h Q := by
  refine XW.op r rfl rfl ?_ k
  have e : xset2 (v0 :: v1 :: v2 :: v3 :: v4 :: v5 :: v6 :: v7 :: v8 :: v9 :: v10 :: v11 :: v12 :: y :: z :: t) 13 (.long x) = (v0 :: v1 :: v2 :: v3 :: v4 :: v5 :: v6 :: v7 :: v8 :: v9 :: v10 :: v11 :: v12 :: .long x :: .null :: t) := by
    unfold xset2 xkill
    show List.set (List.set (if v12.category = 2 then _ else _) _ _) _ _ = _
    rw [hc]; rfl
  show (if 13 + 1 < List.length (v0 :: v1 :: v2 :: v3 :: v4 :: v5 :: v6 :: v7 :: v8 :: v9 :: v10 :: v11 :: v12 :: y :: z :: t) then some (_, xset2 (v0 :: v1 :: v2 :: v3 :: v4 :: v5 :: v6 :: v7 :: v8 :: v9 :: v10 :: v11 :: v12 :: y :: z :: t) 13 (.long x), st, h) else none) = _
  rw [e]; rfl
theorem w_iinc13 {v0 v1 v2 v3 v4 v5 v6 v7 v8 v9 v10 v11 v12 : Value} {x v : Int32} {n : Int} {t : List Value} (r : xrow m pc = some (.iinc 13 n, len, ra, rb, rc, rw)) (hc : v12.category = 1) (hv : x + Int32.ofInt n = v) (k : XW d m (pc + 3) (v0 :: v1 :: v2 :: v3 :: v4 :: v5 :: v6 :: v7 :: v8 :: v9 :: v10 :: v11 :: v12 :: .int v :: t) st h Q) : XW d m pc (v0 :: v1 :: v2 :: v3 :: v4 :: v5 :: v6 :: v7 :: v8 :: v9 :: v10 :: v11 :: v12 :: .int x :: t) st h Q := by
  subst hv
  refine XW.op r rfl rfl ?_ k
  have e : xset1 (v0 :: v1 :: v2 :: v3 :: v4 :: v5 :: v6 :: v7 :: v8 :: v9 :: v10 :: v11 :: v12 :: .int x :: t) 13 (.int (x + Int32.ofInt n)) = (v0 :: v1 :: v2 :: v3 :: v4 :: v5 :: v6 :: v7 :: v8 :: v9 :: v10 :: v11 :: v12 :: .int (x + Int32.ofInt n) :: t) := by
    unfold xset1 xkill
    show List.set (if v12.category = 2 then _ else _) _ _ = _
    rw [hc]; rfl
  show some (_, xset1 (v0 :: v1 :: v2 :: v3 :: v4 :: v5 :: v6 :: v7 :: v8 :: v9 :: v10 :: v11 :: v12 :: .int x :: t) 13 (.int (x + Int32.ofInt n)), _, _) = _
  rw [e]
theorem w_iload14 {v0 v1 v2 v3 v4 v5 v6 v7 v8 v9 v10 v11 v12 v13 : Value} {x : Int32} {t : List Value} (r : xrow m pc = some (.iload 14, len, ra, rb, rc, rw)) (k : XW d m (pc + 2) (v0 :: v1 :: v2 :: v3 :: v4 :: v5 :: v6 :: v7 :: v8 :: v9 :: v10 :: v11 :: v12 :: v13 :: .int x :: t) (.int x :: st) h Q) : XW d m pc (v0 :: v1 :: v2 :: v3 :: v4 :: v5 :: v6 :: v7 :: v8 :: v9 :: v10 :: v11 :: v12 :: v13 :: .int x :: t) st h Q := XW.op r rfl rfl rfl k
theorem w_lload14 {v0 v1 v2 v3 v4 v5 v6 v7 v8 v9 v10 v11 v12 v13 : Value} {x : Int64} {t : List Value} (r : xrow m pc = some (.lload 14, len, ra, rb, rc, rw)) (k : XW d m (pc + 2) (v0 :: v1 :: v2 :: v3 :: v4 :: v5 :: v6 :: v7 :: v8 :: v9 :: v10 :: v11 :: v12 :: v13 :: .long x :: t) (.long x :: st) h Q) : XW d m pc (v0 :: v1 :: v2 :: v3 :: v4 :: v5 :: v6 :: v7 :: v8 :: v9 :: v10 :: v11 :: v12 :: v13 :: .long x :: t) st h Q := XW.op r rfl rfl rfl k
theorem w_aload14 {v0 v1 v2 v3 v4 v5 v6 v7 v8 v9 v10 v11 v12 v13 : Value} {x : Nat} {t : List Value} (r : xrow m pc = some (.aload 14, len, ra, rb, rc, rw)) (k : XW d m (pc + 2) (v0 :: v1 :: v2 :: v3 :: v4 :: v5 :: v6 :: v7 :: v8 :: v9 :: v10 :: v11 :: v12 :: v13 :: .ref x :: t) (.ref x :: st) h Q) : XW d m pc (v0 :: v1 :: v2 :: v3 :: v4 :: v5 :: v6 :: v7 :: v8 :: v9 :: v10 :: v11 :: v12 :: v13 :: .ref x :: t) st h Q := XW.op r rfl rfl rfl k
theorem w_istore14 {v0 v1 v2 v3 v4 v5 v6 v7 v8 v9 v10 v11 v12 v13 : Value} {y : Value} {x : Int32} {t : List Value} (r : xrow m pc = some (.istore 14, len, ra, rb, rc, rw)) (hc : v13.category = 1) (k : XW d m (pc + 2) (v0 :: v1 :: v2 :: v3 :: v4 :: v5 :: v6 :: v7 :: v8 :: v9 :: v10 :: v11 :: v12 :: v13 :: .int x :: t) st h Q) : XW d m pc (v0 :: v1 :: v2 :: v3 :: v4 :: v5 :: v6 :: v7 :: v8 :: v9 :: v10 :: v11 :: v12 :: v13 :: y :: t) (.int x :: st) h Q := by
  refine XW.op r rfl rfl ?_ k
  have e : xset1 (v0 :: v1 :: v2 :: v3 :: v4 :: v5 :: v6 :: v7 :: v8 :: v9 :: v10 :: v11 :: v12 :: v13 :: y :: t) 14 (.int x) = (v0 :: v1 :: v2 :: v3 :: v4 :: v5 :: v6 :: v7 :: v8 :: v9 :: v10 :: v11 :: v12 :: v13 :: .int x :: t) := by
    unfold xset1 xkill
    show List.set (if v13.category = 2 then _ else _) _ _ = _
    rw [hc]; rfl
  show (if 14 < List.length (v0 :: v1 :: v2 :: v3 :: v4 :: v5 :: v6 :: v7 :: v8 :: v9 :: v10 :: v11 :: v12 :: v13 :: y :: t) then some (_, xset1 (v0 :: v1 :: v2 :: v3 :: v4 :: v5 :: v6 :: v7 :: v8 :: v9 :: v10 :: v11 :: v12 :: v13 :: y :: t) 14 (.int x), st, h) else none) = _
  rw [e]; rfl
theorem w_astore14 {v0 v1 v2 v3 v4 v5 v6 v7 v8 v9 v10 v11 v12 v13 : Value} {y : Value} {x : Nat} {t : List Value} (r : xrow m pc = some (.astore 14, len, ra, rb, rc, rw)) (hc : v13.category = 1) (k : XW d m (pc + 2) (v0 :: v1 :: v2 :: v3 :: v4 :: v5 :: v6 :: v7 :: v8 :: v9 :: v10 :: v11 :: v12 :: v13 :: .ref x :: t) st h Q) : XW d m pc (v0 :: v1 :: v2 :: v3 :: v4 :: v5 :: v6 :: v7 :: v8 :: v9 :: v10 :: v11 :: v12 :: v13 :: y :: t) (.ref x :: st) h Q := by
  refine XW.op r rfl rfl ?_ k
  have e : xset1 (v0 :: v1 :: v2 :: v3 :: v4 :: v5 :: v6 :: v7 :: v8 :: v9 :: v10 :: v11 :: v12 :: v13 :: y :: t) 14 (.ref x) = (v0 :: v1 :: v2 :: v3 :: v4 :: v5 :: v6 :: v7 :: v8 :: v9 :: v10 :: v11 :: v12 :: v13 :: .ref x :: t) := by
    unfold xset1 xkill
    show List.set (if v13.category = 2 then _ else _) _ _ = _
    rw [hc]; rfl
  show (if 14 < List.length (v0 :: v1 :: v2 :: v3 :: v4 :: v5 :: v6 :: v7 :: v8 :: v9 :: v10 :: v11 :: v12 :: v13 :: y :: t) then some (_, xset1 (v0 :: v1 :: v2 :: v3 :: v4 :: v5 :: v6 :: v7 :: v8 :: v9 :: v10 :: v11 :: v12 :: v13 :: y :: t) 14 (.ref x), st, h) else none) = _
  rw [e]; rfl
theorem w_lstore14 {v0 v1 v2 v3 v4 v5 v6 v7 v8 v9 v10 v11 v12 v13 : Value} {y z : Value} {x : Int64} {t : List Value} (r : xrow m pc = some (.lstore 14, len, ra, rb, rc, rw)) (hc : v13.category = 1) (k : XW d m (pc + 2) (v0 :: v1 :: v2 :: v3 :: v4 :: v5 :: v6 :: v7 :: v8 :: v9 :: v10 :: v11 :: v12 :: v13 :: .long x :: .null :: t) st h Q) : XW d m pc (v0 :: v1 :: v2 :: v3 :: v4 :: v5 :: v6 :: v7 :: v8 :: v9 :: v10 :: v11 :: v12 :: v13 :: y :: z :: t) (.long x :: st) h Q := by
  refine XW.op r rfl rfl ?_ k
  have e : xset2 (v0 :: v1 :: v2 :: v3 :: v4 :: v5 :: v6 :: v7 :: v8 :: v9 :: v10 :: v11 :: v12 :: v13 :: y :: z :: t) 14 (.long x) = (v0 :: v1 :: v2 :: v3 :: v4 :: v5 :: v6 :: v7 :: v8 :: v9 :: v10 :: v11 :: v12 :: v13 :: .long x :: .null :: t) := by
    unfold xset2 xkill
    show List.set (List.set (if v13.category = 2 then _ else _) _ _) _ _ = _
    rw [hc]; rfl
  show (if 14 + 1 < List.length (v0 :: v1 :: v2 :: v3 :: v4 :: v5 :: v6 :: v7 :: v8 :: v9 :: v10 :: v11 :: v12 :: v13 :: y :: z :: t) then some (_, xset2 (v0 :: v1 :: v2 :: v3 :: v4 :: v5 :: v6 :: v7 :: v8 :: v9 :: v10 :: v11 :: v12 :: v13 :: y :: z :: t) 14 (.long x), st, h) else none) = _
  rw [e]; rfl
theorem w_iinc14 {v0 v1 v2 v3 v4 v5 v6 v7 v8 v9 v10 v11 v12 v13 : Value} {x v : Int32} {n : Int} {t : List Value} (r : xrow m pc = some (.iinc 14 n, len, ra, rb, rc, rw)) (hc : v13.category = 1) (hv : x + Int32.ofInt n = v) (k : XW d m (pc + 3) (v0 :: v1 :: v2 :: v3 :: v4 :: v5 :: v6 :: v7 :: v8 :: v9 :: v10 :: v11 :: v12 :: v13 :: .int v :: t) st h Q) : XW d m pc (v0 :: v1 :: v2 :: v3 :: v4 :: v5 :: v6 :: v7 :: v8 :: v9 :: v10 :: v11 :: v12 :: v13 :: .int x :: t) st h Q := by
  subst hv
  refine XW.op r rfl rfl ?_ k
  have e : xset1 (v0 :: v1 :: v2 :: v3 :: v4 :: v5 :: v6 :: v7 :: v8 :: v9 :: v10 :: v11 :: v12 :: v13 :: .int x :: t) 14 (.int (x + Int32.ofInt n)) = (v0 :: v1 :: v2 :: v3 :: v4 :: v5 :: v6 :: v7 :: v8 :: v9 :: v10 :: v11 :: v12 :: v13 :: .int (x + Int32.ofInt n) :: t) := by
    unfold xset1 xkill
    show List.set (if v13.category = 2 then _ else _) _ _ = _
    rw [hc]; rfl
  show some (_, xset1 (v0 :: v1 :: v2 :: v3 :: v4 :: v5 :: v6 :: v7 :: v8 :: v9 :: v10 :: v11 :: v12 :: v13 :: .int x :: t) 14 (.int (x + Int32.ofInt n)), _, _) = _
  rw [e]
theorem w_iadd {x y : Int32} (r : xrow m pc = some (.iadd, len, ra, rb, rc, rw)) (k : XW d m (pc + 1) ls (.int (x + y) :: st) h Q) : XW d m pc ls (.int y :: .int x :: st) h Q := XW.op r rfl rfl rfl k
theorem w_isub {x y : Int32} (r : xrow m pc = some (.isub, len, ra, rb, rc, rw)) (k : XW d m (pc + 1) ls (.int (x - y) :: st) h Q) : XW d m pc ls (.int y :: .int x :: st) h Q := XW.op r rfl rfl rfl k
theorem w_imul {x y : Int32} (r : xrow m pc = some (.imul, len, ra, rb, rc, rw)) (k : XW d m (pc + 1) ls (.int (x * y) :: st) h Q) : XW d m pc ls (.int y :: .int x :: st) h Q := XW.op r rfl rfl rfl k
theorem w_iand {x y : Int32} (r : xrow m pc = some (.iand, len, ra, rb, rc, rw)) (k : XW d m (pc + 1) ls (.int (x &&& y) :: st) h Q) : XW d m pc ls (.int y :: .int x :: st) h Q := XW.op r rfl rfl rfl k
theorem w_ior {x y : Int32} (r : xrow m pc = some (.ior, len, ra, rb, rc, rw)) (k : XW d m (pc + 1) ls (.int (x ||| y) :: st) h Q) : XW d m pc ls (.int y :: .int x :: st) h Q := XW.op r rfl rfl rfl k
theorem w_ixor {x y : Int32} (r : xrow m pc = some (.ixor, len, ra, rb, rc, rw)) (k : XW d m (pc + 1) ls (.int (x ^^^ y) :: st) h Q) : XW d m pc ls (.int y :: .int x :: st) h Q := XW.op r rfl rfl rfl k
theorem w_ishl {x y : Int32} (r : xrow m pc = some (.ishl, len, ra, rb, rc, rw)) (k : XW d m (pc + 1) ls (.int (x <<< (y &&& 31)) :: st) h Q) : XW d m pc ls (.int y :: .int x :: st) h Q := XW.op r rfl rfl rfl k
theorem w_ishr {x y : Int32} (r : xrow m pc = some (.ishr, len, ra, rb, rc, rw)) (k : XW d m (pc + 1) ls (.int (x >>> (y &&& 31)) :: st) h Q) : XW d m pc ls (.int y :: .int x :: st) h Q := XW.op r rfl rfl rfl k
theorem w_ladd {x y : Int64} (r : xrow m pc = some (.ladd, len, ra, rb, rc, rw)) (k : XW d m (pc + 1) ls (.long (x + y) :: st) h Q) : XW d m pc ls (.long y :: .long x :: st) h Q := XW.op r rfl rfl rfl k
theorem w_lsub {x y : Int64} (r : xrow m pc = some (.lsub, len, ra, rb, rc, rw)) (k : XW d m (pc + 1) ls (.long (x - y) :: st) h Q) : XW d m pc ls (.long y :: .long x :: st) h Q := XW.op r rfl rfl rfl k
theorem w_lmul {x y : Int64} (r : xrow m pc = some (.lmul, len, ra, rb, rc, rw)) (k : XW d m (pc + 1) ls (.long (x * y) :: st) h Q) : XW d m pc ls (.long y :: .long x :: st) h Q := XW.op r rfl rfl rfl k
theorem w_idiv {x y : Int32} (r : xrow m pc = some (.idiv, len, ra, rb, rc, rw)) (h0 : ¬ y = 0) (k : XW d m (pc + 1) ls (.int (x / y) :: st) h Q) : XW d m pc ls (.int y :: .int x :: st) h Q := XW.op r rfl rfl (by show (if y = 0 then none else _) = _; rw [if_neg h0]) k
theorem w_irem {x y : Int32} (r : xrow m pc = some (.irem, len, ra, rb, rc, rw)) (h0 : ¬ y = 0) (k : XW d m (pc + 1) ls (.int (x - x / y * y) :: st) h Q) : XW d m pc ls (.int y :: .int x :: st) h Q := XW.op r rfl rfl (by show (if y = 0 then none else _) = _; rw [if_neg h0]) k
theorem w_ldiv {x y : Int64} (r : xrow m pc = some (.ldiv, len, ra, rb, rc, rw)) (h0 : ¬ y = 0) (k : XW d m (pc + 1) ls (.long (x / y) :: st) h Q) : XW d m pc ls (.long y :: .long x :: st) h Q := XW.op r rfl rfl (by show (if y = 0 then none else _) = _; rw [if_neg h0]) k
theorem w_lrem {x y : Int64} (r : xrow m pc = some (.lrem, len, ra, rb, rc, rw)) (h0 : ¬ y = 0) (k : XW d m (pc + 1) ls (.long (x - x / y * y) :: st) h Q) : XW d m pc ls (.long y :: .long x :: st) h Q := XW.op r rfl rfl (by show (if y = 0 then none else _) = _; rw [if_neg h0]) k
theorem w_ineg {x : Int32} (r : xrow m pc = some (.ineg, len, ra, rb, rc, rw)) (k : XW d m (pc + 1) ls (.int (-x) :: st) h Q) : XW d m pc ls (.int x :: st) h Q := XW.op r rfl rfl rfl k
theorem w_i2l {x : Int32} (r : xrow m pc = some (.i2l, len, ra, rb, rc, rw)) (k : XW d m (pc + 1) ls (.long x.toInt64 :: st) h Q) : XW d m pc ls (.int x :: st) h Q := XW.op r rfl rfl rfl k
theorem w_i2b {x : Int32} (r : xrow m pc = some (.i2b, len, ra, rb, rc, rw)) (k : XW d m (pc + 1) ls (.int x.toInt8.toInt32 :: st) h Q) : XW d m pc ls (.int x :: st) h Q := XW.op r rfl rfl rfl k
theorem w_i2c {x : Int32} (r : xrow m pc = some (.i2c, len, ra, rb, rc, rw)) (k : XW d m (pc + 1) ls (.int (x.toUInt32 % 65536).toInt32 :: st) h Q) : XW d m pc ls (.int x :: st) h Q := XW.op r rfl rfl rfl k
theorem w_l2i {x : Int64} (r : xrow m pc = some (.l2i, len, ra, rb, rc, rw)) (k : XW d m (pc + 1) ls (.int x.toInt32 :: st) h Q) : XW d m pc ls (.long x :: st) h Q := XW.op r rfl rfl rfl k
theorem w_lneg {x : Int64} (r : xrow m pc = some (.lneg, len, ra, rb, rc, rw)) (k : XW d m (pc + 1) ls (.long (-x) :: st) h Q) : XW d m pc ls (.long x :: st) h Q := XW.op r rfl rfl rfl k
theorem w_lcmp {x y : Int64} (r : xrow m pc = some (.lcmp, len, ra, rb, rc, rw)) (k : XW d m (pc + 1) ls (.int (lg_cmp x y) :: st) h Q) : XW d m pc ls (.long y :: .long x :: st) h Q := XW.op r rfl rfl rfl k
theorem w_dupI {x : Int32} (r : xrow m pc = some (.dup, len, ra, rb, rc, rw)) (k : XW d m (pc + 1) ls (.int x :: .int x :: st) h Q) : XW d m pc ls (.int x :: st) h Q := XW.op r rfl rfl rfl k
theorem w_dupA {x : Nat} (r : xrow m pc = some (.dup, len, ra, rb, rc, rw)) (k : XW d m (pc + 1) ls (.ref x :: .ref x :: st) h Q) : XW d m pc ls (.ref x :: st) h Q := XW.op r rfl rfl rfl k
theorem w_popI {x : Int32} (r : xrow m pc = some (.pop, len, ra, rb, rc, rw)) (k : XW d m (pc + 1) ls st h Q) : XW d m pc ls (.int x :: st) h Q := XW.op r rfl rfl rfl k
theorem w_popA {x : Nat} (r : xrow m pc = some (.pop, len, ra, rb, rc, rw)) (k : XW d m (pc + 1) ls st h Q) : XW d m pc ls (.ref x :: st) h Q := XW.op r rfl rfl rfl k
theorem w_dup2IA {y : Int32} {x : Nat} (r : xrow m pc = some (.dup2, len, ra, rb, rc, rw)) (k : XW d m (pc + 1) ls (.int y :: .ref x :: .int y :: .ref x :: st) h Q) : XW d m pc ls (.int y :: .ref x :: st) h Q := XW.op r rfl rfl rfl k
theorem w_dup2II {y x : Int32} (r : xrow m pc = some (.dup2, len, ra, rb, rc, rw)) (k : XW d m (pc + 1) ls (.int y :: .int x :: .int y :: .int x :: st) h Q) : XW d m pc ls (.int y :: .int x :: st) h Q := XW.op r rfl rfl rfl k
theorem w_goto {o : Int} (r : xrow m pc = some (.goto o, len, ra, rb, rc, rw)) (k : XW d m ra ls st h Q) : XW d m pc ls st h Q := XW.op r rfl rfl rfl k
theorem w_if_eq {x : Int32} {o : Int} (r : xrow m pc = some (.ifCond .eq o, len, ra, rb, rc, rw)) (kt : x = 0 → XW d m ra ls st h Q) (kf : ¬ x = 0 → XW d m (pc + 3) ls st h Q) : XW d m pc ls (.int x :: st) h Q := by
  by_cases q : x = 0
  · exact XW.op r rfl rfl (by show xjmp _ _ _ _ _ _ = _; unfold xjmp; rw [if_pos (by simp [xcond, q])]) (kt q)
  · exact XW.op r rfl rfl (by show xjmp _ _ _ _ _ _ = _; unfold xjmp; rw [if_neg (by simp [xcond, q])]) (kf (by simpa using q))
theorem w_if_ne {x : Int32} {o : Int} (r : xrow m pc = some (.ifCond .ne o, len, ra, rb, rc, rw)) (kt : ¬ x = 0 → XW d m ra ls st h Q) (kf : x = 0 → XW d m (pc + 3) ls st h Q) : XW d m pc ls (.int x :: st) h Q := by
  by_cases q : ¬ x = 0
  · exact XW.op r rfl rfl (by show xjmp _ _ _ _ _ _ = _; unfold xjmp; rw [if_pos (by simp [xcond, q])]) (kt q)
  · exact XW.op r rfl rfl (by show xjmp _ _ _ _ _ _ = _; unfold xjmp; rw [if_neg (by simp [xcond, q])]) (kf (by simpa using q))
theorem w_if_lt {x : Int32} {o : Int} (r : xrow m pc = some (.ifCond .lt o, len, ra, rb, rc, rw)) (kt : x < 0 → XW d m ra ls st h Q) (kf : ¬ x < 0 → XW d m (pc + 3) ls st h Q) : XW d m pc ls (.int x :: st) h Q := by
  by_cases q : x < 0
  · exact XW.op r rfl rfl (by show xjmp _ _ _ _ _ _ = _; unfold xjmp; rw [if_pos (by simp [xcond, q])]) (kt q)
  · exact XW.op r rfl rfl (by show xjmp _ _ _ _ _ _ = _; unfold xjmp; rw [if_neg (by simp [xcond, q])]) (kf (by simpa using q))
theorem w_if_ge {x : Int32} {o : Int} (r : xrow m pc = some (.ifCond .ge o, len, ra, rb, rc, rw)) (kt : 0 ≤ x → XW d m ra ls st h Q) (kf : ¬ 0 ≤ x → XW d m (pc + 3) ls st h Q) : XW d m pc ls (.int x :: st) h Q := by
  by_cases q : 0 ≤ x
  · exact XW.op r rfl rfl (by show xjmp _ _ _ _ _ _ = _; unfold xjmp; rw [if_pos (by simp [xcond, q])]) (kt q)
  · exact XW.op r rfl rfl (by show xjmp _ _ _ _ _ _ = _; unfold xjmp; rw [if_neg (by simp [xcond, q])]) (kf (by simpa using q))
theorem w_if_gt {x : Int32} {o : Int} (r : xrow m pc = some (.ifCond .gt o, len, ra, rb, rc, rw)) (kt : 0 < x → XW d m ra ls st h Q) (kf : ¬ 0 < x → XW d m (pc + 3) ls st h Q) : XW d m pc ls (.int x :: st) h Q := by
  by_cases q : 0 < x
  · exact XW.op r rfl rfl (by show xjmp _ _ _ _ _ _ = _; unfold xjmp; rw [if_pos (by simp [xcond, q])]) (kt q)
  · exact XW.op r rfl rfl (by show xjmp _ _ _ _ _ _ = _; unfold xjmp; rw [if_neg (by simp [xcond, q])]) (kf (by simpa using q))
theorem w_if_le {x : Int32} {o : Int} (r : xrow m pc = some (.ifCond .le o, len, ra, rb, rc, rw)) (kt : x ≤ 0 → XW d m ra ls st h Q) (kf : ¬ x ≤ 0 → XW d m (pc + 3) ls st h Q) : XW d m pc ls (.int x :: st) h Q := by
  by_cases q : x ≤ 0
  · exact XW.op r rfl rfl (by show xjmp _ _ _ _ _ _ = _; unfold xjmp; rw [if_pos (by simp [xcond, q])]) (kt q)
  · exact XW.op r rfl rfl (by show xjmp _ _ _ _ _ _ = _; unfold xjmp; rw [if_neg (by simp [xcond, q])]) (kf (by simpa using q))
theorem w_ic_eq {x y : Int32} {o : Int} (r : xrow m pc = some (.if_icmp .eq o, len, ra, rb, rc, rw)) (kt : x = y → XW d m ra ls st h Q) (kf : ¬ x = y → XW d m (pc + 3) ls st h Q) : XW d m pc ls (.int y :: .int x :: st) h Q := by
  by_cases q : x = y
  · exact XW.op r rfl rfl (by show xjmp _ _ _ _ _ _ = _; unfold xjmp; rw [if_pos (by simp [xcond, q])]) (kt q)
  · exact XW.op r rfl rfl (by show xjmp _ _ _ _ _ _ = _; unfold xjmp; rw [if_neg (by simp [xcond, q])]) (kf (by simpa using q))
theorem w_ic_ne {x y : Int32} {o : Int} (r : xrow m pc = some (.if_icmp .ne o, len, ra, rb, rc, rw)) (kt : ¬ x = y → XW d m ra ls st h Q) (kf : x = y → XW d m (pc + 3) ls st h Q) : XW d m pc ls (.int y :: .int x :: st) h Q := by
  by_cases q : ¬ x = y
  · exact XW.op r rfl rfl (by show xjmp _ _ _ _ _ _ = _; unfold xjmp; rw [if_pos (by simp [xcond, q])]) (kt q)
  · exact XW.op r rfl rfl (by show xjmp _ _ _ _ _ _ = _; unfold xjmp; rw [if_neg (by simp [xcond, q])]) (kf (by simpa using q))
theorem w_ic_lt {x y : Int32} {o : Int} (r : xrow m pc = some (.if_icmp .lt o, len, ra, rb, rc, rw)) (kt : x < y → XW d m ra ls st h Q) (kf : ¬ x < y → XW d m (pc + 3) ls st h Q) : XW d m pc ls (.int y :: .int x :: st) h Q := by
  by_cases q : x < y
  · exact XW.op r rfl rfl (by show xjmp _ _ _ _ _ _ = _; unfold xjmp; rw [if_pos (by simp [xcond, q])]) (kt q)
  · exact XW.op r rfl rfl (by show xjmp _ _ _ _ _ _ = _; unfold xjmp; rw [if_neg (by simp [xcond, q])]) (kf (by simpa using q))
theorem w_ic_ge {x y : Int32} {o : Int} (r : xrow m pc = some (.if_icmp .ge o, len, ra, rb, rc, rw)) (kt : y ≤ x → XW d m ra ls st h Q) (kf : ¬ y ≤ x → XW d m (pc + 3) ls st h Q) : XW d m pc ls (.int y :: .int x :: st) h Q := by
  by_cases q : y ≤ x
  · exact XW.op r rfl rfl (by show xjmp _ _ _ _ _ _ = _; unfold xjmp; rw [if_pos (by simp [xcond, q])]) (kt q)
  · exact XW.op r rfl rfl (by show xjmp _ _ _ _ _ _ = _; unfold xjmp; rw [if_neg (by simp [xcond, q])]) (kf (by simpa using q))
theorem w_ic_gt {x y : Int32} {o : Int} (r : xrow m pc = some (.if_icmp .gt o, len, ra, rb, rc, rw)) (kt : y < x → XW d m ra ls st h Q) (kf : ¬ y < x → XW d m (pc + 3) ls st h Q) : XW d m pc ls (.int y :: .int x :: st) h Q := by
  by_cases q : y < x
  · exact XW.op r rfl rfl (by show xjmp _ _ _ _ _ _ = _; unfold xjmp; rw [if_pos (by simp [xcond, q])]) (kt q)
  · exact XW.op r rfl rfl (by show xjmp _ _ _ _ _ _ = _; unfold xjmp; rw [if_neg (by simp [xcond, q])]) (kf (by simpa using q))
theorem w_ic_le {x y : Int32} {o : Int} (r : xrow m pc = some (.if_icmp .le o, len, ra, rb, rc, rw)) (kt : x ≤ y → XW d m ra ls st h Q) (kf : ¬ x ≤ y → XW d m (pc + 3) ls st h Q) : XW d m pc ls (.int y :: .int x :: st) h Q := by
  by_cases q : x ≤ y
  · exact XW.op r rfl rfl (by show xjmp _ _ _ _ _ _ = _; unfold xjmp; rw [if_pos (by simp [xcond, q])]) (kt q)
  · exact XW.op r rfl rfl (by show xjmp _ _ _ _ _ _ = _; unfold xjmp; rw [if_neg (by simp [xcond, q])]) (kf (by simpa using q))
theorem w_getI {i a : Nat} (r : xrow m pc = some (.getfield i, len, ra, rb, 0, rw)) (hk : gK h a = ra) (k : XW d m (pc + 3) ls (.int (gI h a rb) :: st) h Q) : XW d m pc ls (.ref a :: st) h Q :=
  XW.op r rfl rfl (by show (if gK h a = ra then _ else _) = _; rw [if_pos hk]; rfl) k
theorem w_getL {i a : Nat} (r : xrow m pc = some (.getfield i, len, ra, rb, 1, rw)) (hk : gK h a = ra) (k : XW d m (pc + 3) ls (.long (gL h a rb) :: st) h Q) : XW d m pc ls (.ref a :: st) h Q :=
  XW.op r rfl rfl (by show (if gK h a = ra then _ else _) = _; rw [if_pos hk]; rfl) k
theorem w_getA {i a x : Nat} (r : xrow m pc = some (.getfield i, len, ra, rb, 2, rw)) (hk : gK h a = ra) (hr : gR h a rb = x) (h0 : x ≠ 0) (k : XW d m (pc + 3) ls (.ref x :: st) h Q) : XW d m pc ls (.ref a :: st) h Q := by
  subst hr
  exact XW.op r rfl rfl (by show (if gK h a = ra then (if gR h a rb = 0 then none else _) else _) = _; rw [if_pos hk, if_neg h0]) k
theorem w_putI {i a : Nat} {v : Int32} (r : xrow m pc = some (.putfield i, len, ra, rb, 0, rw)) (hk : gK h a = ra) (ha : a < gN h) (k : XW d m (pc + 3) ls st (sI h a rb v) Q) : XW d m pc ls (.int v :: .ref a :: st) h Q :=
  XW.op r rfl rfl (by show (if gK h a = ra ∧ a < gN h ∧ _ then _ else _) = _; rw [if_pos ⟨hk, ha, Or.inl rfl⟩]) k
theorem w_putZ {i a : Nat} {v : Int32} (r : xrow m pc = some (.putfield i, len, ra, rb, 3, rw)) (hk : gK h a = ra) (ha : a < gN h) (hv : v = 0 ∨ v = 1) (k : XW d m (pc + 3) ls st (sI h a rb v) Q) : XW d m pc ls (.int v :: .ref a :: st) h Q :=
  XW.op r rfl rfl (by show (if gK h a = ra ∧ a < gN h ∧ _ then _ else _) = _; rw [if_pos ⟨hk, ha, Or.inr ⟨rfl, hv⟩⟩]) k
theorem w_putL {i a : Nat} {v : Int64} (r : xrow m pc = some (.putfield i, len, ra, rb, 1, rw)) (hk : gK h a = ra) (ha : a < gN h) (k : XW d m (pc + 3) ls st (sL h a rb v) Q) : XW d m pc ls (.long v :: .ref a :: st) h Q :=
  XW.op r rfl rfl (by show (if gK h a = ra ∧ a < gN h ∧ _ then _ else _) = _; rw [if_pos ⟨hk, ha, rfl⟩]) k
theorem w_putA {i a v : Nat} (r : xrow m pc = some (.putfield i, len, ra, rb, 2, rw)) (hk : gK h a = ra) (ha : a < gN h) (hv : v ≠ 0) (k : XW d m (pc + 3) ls st (sR h a rb v) Q) : XW d m pc ls (.ref v :: .ref a :: st) h Q :=
  XW.op r rfl rfl (by show (if gK h a = ra ∧ a < gN h ∧ _ then _ else _) = _; rw [if_pos ⟨hk, ha, rfl, hv⟩]) k
theorem w_gs0 {i : Nat} (r : xrow m pc = some (.getstatic i, len, 0, rb, rc, rw)) (k : XW d m (pc + 3) ls (.int 1 :: st) h Q) : XW d m pc ls st h Q := XW.op r rfl rfl rfl k
theorem w_gs1 {i : Nat} (r : xrow m pc = some (.getstatic i, len, 1, rb, rc, rw)) (k : XW d m (pc + 3) ls (.ref 1000001 :: st) h Q) : XW d m pc ls st h Q := XW.op r rfl rfl rfl k
theorem w_gs2 {i : Nat} (r : xrow m pc = some (.getstatic i, len, 2, rb, rc, rw)) (k : XW d m (pc + 3) ls (.ref 1000002 :: st) h Q) : XW d m pc ls st h Q := XW.op r rfl rfl rfl k
theorem xin_of {i : Int32} {n : Nat} (h0 : 0 ≤ i.toInt) (h1 : i.toInt < n) : xin i n = true := by
  have e0 : ¬ i < 0 := fun q => by
    have := Int32.lt_iff_toInt_lt.mp q
    have e : (0 : Int32).toInt = 0 := rfl
    omega
  have e1 : i.toNatClampNeg < n := by
    show i.toInt.toNat < n
    omega
  unfold xin
  simp [e0, e1]
theorem w_iald {i : Int32} {a : Nat} (r : xrow m pc = some (.iaload, len, ra, rb, rc, rw)) (hk : gK h a = 1) (hi : xin i (gZ h a) = true) (k : XW d m (pc + 1) ls (.int (gI h a i.toNatClampNeg) :: st) h Q) : XW d m pc ls (.int i :: .ref a :: st) h Q :=
  XW.op r rfl rfl (by show (if gK h a = 1 ∧ _ then _ else _) = _; rw [if_pos ⟨hk, hi⟩]) k
theorem w_bald {i : Int32} {a : Nat} (r : xrow m pc = some (.baload, len, ra, rb, rc, rw)) (hk : gK h a = 2 ∨ gK h a = 3) (hi : xin i (gZ h a) = true) (k : XW d m (pc + 1) ls (.int (gI h a i.toNatClampNeg) :: st) h Q) : XW d m pc ls (.int i :: .ref a :: st) h Q :=
  XW.op r rfl rfl (by show (if (gK h a = 2 ∨ gK h a = 3) ∧ _ then _ else _) = _; rw [if_pos ⟨hk, hi⟩]) k
theorem w_lald {i : Int32} {a : Nat} (r : xrow m pc = some (.laload, len, ra, rb, rc, rw)) (hk : gK h a = 4) (hi : xin i (gZ h a) = true) (k : XW d m (pc + 1) ls (.long (gL h a i.toNatClampNeg) :: st) h Q) : XW d m pc ls (.int i :: .ref a :: st) h Q :=
  XW.op r rfl rfl (by show (if gK h a = 4 ∧ _ then _ else _) = _; rw [if_pos ⟨hk, hi⟩]) k
theorem w_aald {i : Int32} {a x : Nat} (r : xrow m pc = some (.aaload, len, ra, rb, rc, rw)) (hk : gK h a = 5) (hi : xin i (gZ h a) = true) (hr : gR h a i.toNatClampNeg = x) (h0 : x ≠ 0) (k : XW d m (pc + 1) ls (.ref x :: st) h Q) : XW d m pc ls (.int i :: .ref a :: st) h Q := by
  subst hr
  exact XW.op r rfl rfl (by show (if gK h a = 5 ∧ _ then _ else _) = _; rw [if_pos ⟨hk, hi, h0⟩]) k
theorem w_iast {i x : Int32} {a : Nat} (r : xrow m pc = some (.iastore, len, ra, rb, rc, rw)) (hk : gK h a = 1) (ha : a < gN h) (hi : xin i (gZ h a) = true) (k : XW d m (pc + 1) ls st (sI h a i.toNatClampNeg x) Q) : XW d m pc ls (.int x :: .int i :: .ref a :: st) h Q :=
  XW.op r rfl rfl (by show (if gK h a = 1 ∧ _ then _ else _) = _; rw [if_pos ⟨hk, ha, hi⟩]) k
theorem w_bast {i x : Int32} {a : Nat} (r : xrow m pc = some (.bastore, len, ra, rb, rc, rw)) (hk : gK h a = 2) (ha : a < gN h) (hi : xin i (gZ h a) = true) (k : XW d m (pc + 1) ls st (sI h a i.toNatClampNeg x.toInt8.toInt32) Q) : XW d m pc ls (.int x :: .int i :: .ref a :: st) h Q :=
  XW.op r rfl rfl (by show (if gK h a = 2 ∧ _ then _ else _) = _; rw [if_pos ⟨hk, ha, hi⟩]) k
theorem w_zast {i x : Int32} {a : Nat} (r : xrow m pc = some (.bastore, len, ra, rb, rc, rw)) (hk : gK h a = 3) (ha : a < gN h) (hi : xin i (gZ h a) = true) (hx : x = 0 ∨ x = 1) (k : XW d m (pc + 1) ls st (sI h a i.toNatClampNeg x) Q) : XW d m pc ls (.int x :: .int i :: .ref a :: st) h Q :=
  XW.op r rfl rfl (by show (if gK h a = 2 ∧ _ then _ else if gK h a = 3 ∧ _ then _ else _) = _; rw [if_neg (by rw [hk]; simp), if_pos ⟨hk, ha, hi, hx⟩]) k
theorem w_last {i : Int32} {x : Int64} {a : Nat} (r : xrow m pc = some (.lastore, len, ra, rb, rc, rw)) (hk : gK h a = 4) (ha : a < gN h) (hi : xin i (gZ h a) = true) (k : XW d m (pc + 1) ls st (sL h a i.toNatClampNeg x) Q) : XW d m pc ls (.long x :: .int i :: .ref a :: st) h Q :=
  XW.op r rfl rfl (by show (if gK h a = 4 ∧ _ then _ else _) = _; rw [if_pos ⟨hk, ha, hi⟩]) k
theorem w_aast {i : Int32} {x a : Nat} (r : xrow m pc = some (.aastore, len, ra, rb, rc, rw)) (hk : gK h a = 5) (ha : a < gN h) (hi : xin i (gZ h a) = true) (hx : gK h x = ra) (hxn : x < gN h) (h0 : x ≠ 0) (k : XW d m (pc + 1) ls st (sR h a i.toNatClampNeg x) Q) : XW d m pc ls (.ref x :: .int i :: .ref a :: st) h Q :=
  XW.op r rfl rfl (by show (if gK h a = 5 ∧ _ then _ else _) = _; rw [if_pos ⟨hk, ha, hi, hx, hxn, h0⟩]) k
theorem w_len {a : Nat} (r : xrow m pc = some (.arraylength, len, ra, rb, rc, rw)) (hk : 1 ≤ gK h a ∧ gK h a ≤ 5) (k : XW d m (pc + 1) ls (.int (gZ h a).toInt32 :: st) h Q) : XW d m pc ls (.ref a :: st) h Q :=
  XW.op r rfl rfl (by show (if 1 ≤ gK h a ∧ _ then _ else _) = _; rw [if_pos hk]) k
theorem w_newa {t : ArrayType} {n : Int32} (r : xrow m pc = some (.newarray t, len, ra, rb, rc, rw)) (hn : ¬ n < 0 ∧ n.toNatClampNeg ≤ 1000000) (hg : gN h < 999999) (k : XW d m (pc + 2) ls (.ref (gN h) :: st) (xnew h (xatK t) n.toNatClampNeg) Q) : XW d m pc ls (.int n :: st) h Q :=
  XW.op r rfl rfl (by show (if ¬ n < 0 ∧ _ then _ else _) = _; rw [if_pos ⟨hn.1, hn.2, hg⟩]) k
theorem w_newq {i : Nat} {n : Int32} (r : xrow m pc = some (.anewarray i, len, ra, rb, rc, rw)) (hn : ¬ n < 0 ∧ n.toNatClampNeg ≤ 1000000) (hg : gN h < 999999) (k : XW d m (pc + 3) ls (.ref (gN h) :: st) (xnew h 5 n.toNatClampNeg) Q) : XW d m pc ls (.int n :: st) h Q :=
  XW.op r rfl rfl (by show (if ¬ n < 0 ∧ _ then _ else _) = _; rw [if_pos ⟨hn.1, hn.2, hg⟩]) k
theorem w_newo {i : Nat} (r : xrow m pc = some (.new i, len, ra, rb, rc, rw)) (hg : gN h < 999999) (k : XW d m (pc + 3) ls (.ref (gN h) :: st) (xnew h ra rb) Q) : XW d m pc ls st h Q :=
  XW.op r rfl rfl (by show (if gN h < 999999 then _ else _) = _; rw [if_pos hg]) k
theorem w_obj {i a : Nat} (r : xrow m pc = some (.invokespecial i, len, ra, 1, rc, rw)) (hk : gK h a ≠ 0) (hc : xcat st ≤ 8) (k : XW d m (pc + 3) ls st h Q) : XW d m pc ls (.ref a :: st) h Q :=
  XW.op r rfl rfl (by show (if gK h a ≠ 0 ∧ _ then _ else _) = _; rw [if_pos ⟨hk, hc⟩]) k
theorem w_iret {x : Int32} {K : Int32 → XH → Prop} (r : xrow m pc = some (.ireturn, len, 0, rb, rc, rw)) (k : K x h) : XW d m pc ls [.int x] h (KI K) := XW.ret r rfl rfl k
theorem w_zret {x : Int32} {K : Int32 → XH → Prop} (r : xrow m pc = some (.ireturn, len, 1, rb, rc, rw)) (hx : x = 0 ∨ x = 1) (k : K x h) : XW d m pc ls [.int x] h (KI K) :=
  XW.ret (v := some (.int x)) r rfl (by show (if x = 0 ∨ x = 1 then _ else _) = _; rw [if_pos hx]) k
theorem w_cret {x : Int32} {K : Int32 → XH → Prop} (r : xrow m pc = some (.ireturn, len, 2, rb, rc, rw)) (hx : narrow .char (.int x) = .int x) (k : K x h) : XW d m pc ls [.int x] h (KI K) :=
  XW.ret (v := some (.int x)) r rfl (by show (if narrow .char (.int x) = .int x then _ else _) = _; rw [if_pos hx]) k
theorem w_bret {x : Int32} {K : Int32 → XH → Prop} (r : xrow m pc = some (.ireturn, len, 3, rb, rc, rw)) (hx : narrow .byte (.int x) = .int x) (k : K x h) : XW d m pc ls [.int x] h (KI K) :=
  XW.ret (v := some (.int x)) r rfl (by show (if narrow .byte (.int x) = .int x then _ else _) = _; rw [if_pos hx]) k
theorem w_lret {x : Int64} {K : Int64 → XH → Prop} (r : xrow m pc = some (.lreturn, len, ra, rb, rc, rw)) (k : K x h) : XW d m pc ls [.long x] h (KL K) := XW.ret r rfl rfl k
theorem w_vret {K : XH → Prop} (r : xrow m pc = some (.return_, len, ra, rb, rc, rw)) (k : K h) : XW d m pc ls [] h (KV K) := XW.ret r rfl rfl k
theorem w_call {R : XRow} {q : YM × List (Nat × XRow)} {as rest : List Value} (r : xrow m pc = some R) (hE : xisE R = false) (hC : xisC R = true) (hq : xtm[R.2.2.1]? = some q) (hst : as.reverse ++ rest = st) (hlen : as.length = q.1.2.2.2.2.1) (hcat : xcat rest ≤ 8) (hfl : (xflat as).length ≤ q.1.2.2.1) (hrv : q.1.2.2.2.2.2.2.1 = 0 ∨ xrcv q.1.2.2.2.2.2.1 q.1.2.2.2.2.2.2.1 as h = true)
    (k : XW d R.2.2.1 0 (xent q.1.2.2.1 as) [] h (fun v h' => XW (d + 1) m (pc + 3) ls (v.toList ++ rest) h' Q)) : XW (d + 1) m pc ls st h Q := by
  have e1 : st.take q.1.2.2.2.2.1 = as.reverse := by rw [← hst, ← hlen, ← List.length_reverse]; exact List.take_left
  have e2 : st.drop q.1.2.2.2.2.1 = rest := by rw [← hst, ← hlen, ← List.length_reverse]; exact List.drop_left
  refine XW.call (y := R.2.2.1) (as := as) (rest := rest) r hE hC ?_ ?_
  · unfold xcal
    rw [hq]
    dsimp only
    rw [e1, e2, List.reverse_reverse, if_pos]
    refine ⟨?_, hcat, hfl, hrv⟩
    rw [← hst, ← hlen]; simp
  · have e3 : xmL R.2.2.1 = q.1.2.2.1 := by unfold xmL; rw [hq]
    rw [e3]; exact k
theorem kI_out {d m pc : Nat} {ls rest : List Value} {Q : Option Value → XH → Prop} (v : Option Value) (h' : XH) (hk : KI (fun x h' => XW d m pc ls (.int x :: rest) h' Q) v h') : XW d m pc ls (v.toList ++ rest) h' Q := by
  unfold KI at hk
  split at hk
  · exact hk
  · exact hk.elim
theorem kL_out {d m pc : Nat} {ls rest : List Value} {Q : Option Value → XH → Prop} (v : Option Value) (h' : XH) (hk : KL (fun x h' => XW d m pc ls (.long x :: rest) h' Q) v h') : XW d m pc ls (v.toList ++ rest) h' Q := by
  unfold KL at hk
  split at hk
  · exact hk
  · exact hk.elim
theorem kV_out {d m pc : Nat} {ls rest : List Value} {Q : Option Value → XH → Prop} (v : Option Value) (h' : XH) (hk : KV (fun h' => XW d m pc ls rest h' Q) v h') : XW d m pc ls (v.toList ++ rest) h' Q := by
  unfold KV at hk
  split at hk
  · exact hk
  · exact hk.elim
end XR
