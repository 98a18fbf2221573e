/-! THE SMALL MACHINE: a heap of four functions, rows of resolved instructions, runs. -/
/-- ints by address and place, longs, references (0: null), kind and size of a cell, the next free address, how many slots were made -/
abbrev XH : Type := (Nat → Nat → Int32) × (Nat → Nat → Int64) × (Nat → Nat → Nat) × (Nat → Nat × Nat) × Nat × Nat
def gI (h : XH) (a j : Nat) : Int32 := h.1 a j
def gL (h : XH) (a j : Nat) : Int64 := h.2.1 a j
def gR (h : XH) (a j : Nat) : Nat := h.2.2.1 a j
def gK (h : XH) (a : Nat) : Nat := (h.2.2.2.1 a).1
def gZ (h : XH) (a : Nat) : Nat := (h.2.2.2.1 a).2
def gN (h : XH) : Nat := h.2.2.2.2.1
def gU (h : XH) : Nat := h.2.2.2.2.2
def sI (h : XH) (a j : Nat) (v : Int32) : XH := (fun a' j' => if a' = a ∧ j' = j then v else h.1 a' j', h.2)
def sL (h : XH) (a j : Nat) (v : Int64) : XH := (h.1, fun a' j' => if a' = a ∧ j' = j then v else h.2.1 a' j', h.2.2)
def sR (h : XH) (a j : Nat) (v : Nat) : XH := (h.1, h.2.1, fun a' j' => if a' = a ∧ j' = j then v else h.2.2.1 a' j', h.2.2.2)
def xnew (h : XH) (k n : Nat) : XH :=
  (fun a' j' => if a' = gN h then 0 else h.1 a' j', fun a' j' => if a' = gN h then 0 else h.2.1 a' j', fun a' j' => if a' = gN h then 0 else h.2.2.1 a' j', fun a' => if a' = gN h then (k, n) else h.2.2.2.1 a', gN h + 1, gU h + n)
/-- a stretch of one row of ints comes to another -/
def xcpy (h : XH) (a0 a sp dp n : Nat) : XH := (fun a' j' => if a' = a then (if dp ≤ j' ∧ j' < dp + n then h.1 a0 (sp + (j' - dp)) else h.1 a' j') else h.1 a' j', h.2)
/-- instruction, its length, and what it is resolved to: a, b, c, and the place of its word -/
abbrev XRow : Type := Instr × Nat × Nat × Nat × Nat × Nat
abbrev XC : Type := Nat × List Value × List Value × XH
def xkill (ls : List Value) (i : Nat) : List Value := match i with
  | 0 => ls
  | j + 1 => match ls[j]? with
    | some v => if v.category = 2 then ls.set j .null else ls
    | none => ls
def xset1 (ls : List Value) (i : Nat) (v : Value) : List Value := (xkill ls i).set i v
def xset2 (ls : List Value) (i : Nat) (v : Value) : List Value := ((xkill ls i).set i v).set (i + 1) .null
def xflat : List Value → List Value
  | [] => []
  | v :: t => if v.category = 2 then v :: .null :: xflat t else v :: xflat t
def xent (n : Nat) (as : List Value) : List Value := xflat as ++ List.replicate (n - (xflat as).length) .null
def xcat (st : List Value) : Nat := (st.map fun v => v.category).sum
def xlongs : List Int64 := [27, 1152921504606846976, -9223372036854775808, 1000000000000000, -1]
def xload (ls : List Value) (i pc : Nat) (st : List Value) (h : XH) : Option XC := match ls[i]? with
  | some (.int x) => some (pc, ls, .int x :: st, h)
  | some (.long x) => some (pc, ls, .long x :: st, h)
  | some (.ref x) => some (pc, ls, .ref x :: st, h)
  | _ => none
def xloadI (ls : List Value) (i pc : Nat) (st : List Value) (h : XH) : Option XC := match ls[i]? with
  | some (.int x) => some (pc, ls, .int x :: st, h)
  | _ => none
def xloadL (ls : List Value) (i pc : Nat) (st : List Value) (h : XH) : Option XC := match ls[i]? with
  | some (.long x) => some (pc, ls, .long x :: st, h)
  | _ => none
def xloadA (ls : List Value) (i pc : Nat) (st : List Value) (h : XH) : Option XC := match ls[i]? with
  | some (.ref x) => some (pc, ls, .ref x :: st, h)
  | _ => none
def xstoreI (ls : List Value) (i pc : Nat) (st : List Value) (h : XH) : Option XC := match st with
  | .int x :: t => if i < ls.length then some (pc, xset1 ls i (.int x), t, h) else none
  | _ => none
def xstoreA (ls : List Value) (i pc : Nat) (st : List Value) (h : XH) : Option XC := match st with
  | .ref x :: t => if i < ls.length then some (pc, xset1 ls i (.ref x), t, h) else none
  | _ => none
def xstoreL (ls : List Value) (i pc : Nat) (st : List Value) (h : XH) : Option XC := match st with
  | .long x :: t => if i + 1 < ls.length then some (pc, xset2 ls i (.long x), t, h) else none
  | _ => none
def xinc (ls : List Value) (i : Nat) (n : Int) (pc : Nat) (st : List Value) (h : XH) : Option XC := match ls[i]? with
  | some (.int x) => some (pc, xset1 ls i (.int (x + Int32.ofInt n)), st, h)
  | _ => none
def xii (f : Int32 → Int32 → Int32) (pc : Nat) (ls st : List Value) (h : XH) : Option XC := match st with
  | .int y :: .int x :: t => some (pc, ls, .int (f x y) :: t, h)
  | _ => none
def xll (f : Int64 → Int64 → Int64) (pc : Nat) (ls st : List Value) (h : XH) : Option XC := match st with
  | .long y :: .long x :: t => some (pc, ls, .long (f x y) :: t, h)
  | _ => none
/-- a quotient or a rest: not by 0 -/
def xiiD (f : Int32 → Int32 → Int32) (pc : Nat) (ls st : List Value) (h : XH) : Option XC := match st with
  | .int y :: .int x :: t => if y = 0 then none else some (pc, ls, .int (f x y) :: t, h)
  | _ => none
def xllD (f : Int64 → Int64 → Int64) (pc : Nat) (ls st : List Value) (h : XH) : Option XC := match st with
  | .long y :: .long x :: t => if y = 0 then none else some (pc, ls, .long (f x y) :: t, h)
  | _ => none
def xi (f : Int32 → Value) (pc : Nat) (ls st : List Value) (h : XH) : Option XC := match st with
  | .int x :: t => some (pc, ls, f x :: t, h)
  | _ => none
def xl (f : Int64 → Value) (pc : Nat) (ls st : List Value) (h : XH) : Option XC := match st with
  | .long x :: t => some (pc, ls, f x :: t, h)
  | _ => none
def xcond (c : Jvm.ClassFile.Cond) (x y : Int32) : Bool := match c with
  | .eq => decide (x = y)
  | .ne => !decide (x = y)
  | .lt => decide (x < y)
  | .ge => decide (y ≤ x)
  | .gt => decide (y < x)
  | .le => decide (x ≤ y)
def xjmp (b : Bool) (tgt nxt : Nat) (ls st : List Value) (h : XH) : Option XC := if b then some (tgt, ls, st, h) else some (nxt, ls, st, h)
def xget (k b c pc : Nat) (ls st : List Value) (h : XH) : Option XC := match st with
  | .ref o :: t => if gK h o = k then (if c = 0 then some (pc, ls, .int (gI h o b) :: t, h) else if c = 1 then some (pc, ls, .long (gL h o b) :: t, h) else if gR h o b = 0 then none else some (pc, ls, .ref (gR h o b) :: t, h)) else none
  | _ => none
/-- c: 0 an int, 1 a long, 2 a reference, 3 a truth value -/
def xput (k b c pc : Nat) (ls st : List Value) (h : XH) : Option XC := match st with
  | .int v :: .ref o :: t => if gK h o = k ∧ o < gN h ∧ (c = 0 ∨ c = 3 ∧ (v = 0 ∨ v = 1)) then some (pc, ls, t, sI h o b v) else none
  | .long v :: .ref o :: t => if gK h o = k ∧ o < gN h ∧ c = 1 then some (pc, ls, t, sL h o b v) else none
  | .ref v :: .ref o :: t => if gK h o = k ∧ o < gN h ∧ c = 2 ∧ v ≠ 0 then some (pc, ls, t, sR h o b v) else none
  | _ => none
def xin (i : Int32) (n : Nat) : Bool := !decide (i < 0) && decide (i.toNatClampNeg < n)
def xaldI (pc : Nat) (ls st : List Value) (h : XH) : Option XC := match st with
  | .int i :: .ref a :: t => if gK h a = 1 ∧ xin i (gZ h a) then some (pc, ls, .int (gI h a i.toNatClampNeg) :: t, h) else none
  | _ => none
/-- of bytes (2) or truth values (3) -/
def xaldB (pc : Nat) (ls st : List Value) (h : XH) : Option XC := match st with
  | .int i :: .ref a :: t => if (gK h a = 2 ∨ gK h a = 3) ∧ xin i (gZ h a) then some (pc, ls, .int (gI h a i.toNatClampNeg) :: t, h) else none
  | _ => none
def xaldL (pc : Nat) (ls st : List Value) (h : XH) : Option XC := match st with
  | .int i :: .ref a :: t => if gK h a = 4 ∧ xin i (gZ h a) then some (pc, ls, .long (gL h a i.toNatClampNeg) :: t, h) else none
  | _ => none
def xaldA (pc : Nat) (ls st : List Value) (h : XH) : Option XC := match st with
  | .int i :: .ref a :: t => if gK h a = 5 ∧ xin i (gZ h a) ∧ gR h a i.toNatClampNeg ≠ 0 then some (pc, ls, .ref (gR h a i.toNatClampNeg) :: t, h) else none
  | _ => none
def xastI (pc : Nat) (ls st : List Value) (h : XH) : Option XC := match st with
  | .int x :: .int i :: .ref a :: t => if gK h a = 1 ∧ a < gN h ∧ xin i (gZ h a) then some (pc, ls, t, sI h a i.toNatClampNeg x) else none
  | _ => none
def xastB (pc : Nat) (ls st : List Value) (h : XH) : Option XC := match st with
  | .int x :: .int i :: .ref a :: t => if gK h a = 2 ∧ a < gN h ∧ xin i (gZ h a) then some (pc, ls, t, sI h a i.toNatClampNeg x.toInt8.toInt32)
    else if gK h a = 3 ∧ a < gN h ∧ xin i (gZ h a) ∧ (x = 0 ∨ x = 1) then some (pc, ls, t, sI h a i.toNatClampNeg x) else none
  | _ => none
def xastL (pc : Nat) (ls st : List Value) (h : XH) : Option XC := match st with
  | .long x :: .int i :: .ref a :: t => if gK h a = 4 ∧ a < gN h ∧ xin i (gZ h a) then some (pc, ls, t, sL h a i.toNatClampNeg x) else none
  | _ => none
def xastA (k pc : Nat) (ls st : List Value) (h : XH) : Option XC := match st with
  | .ref x :: .int i :: .ref a :: t => if gK h a = 5 ∧ a < gN h ∧ xin i (gZ h a) ∧ gK h x = k ∧ x < gN h ∧ x ≠ 0 then some (pc, ls, t, sR h a i.toNatClampNeg x) else none
  | _ => none
def xlen (pc : Nat) (ls st : List Value) (h : XH) : Option XC := match st with
  | .ref a :: t => if 1 ≤ gK h a ∧ gK h a ≤ 5 then some (pc, ls, .int (gZ h a).toInt32 :: t, h) else none
  | _ => none
def xnewa (k pc : Nat) (ls st : List Value) (h : XH) : Option XC := match st with
  | .int n :: t => if ¬ n < 0 ∧ n.toNatClampNeg ≤ 1000000 ∧ gN h < 999999 then some (pc, ls, .ref (gN h) :: t, xnew h k n.toNatClampNeg) else none
  | _ => none
def xnewo (k n pc : Nat) (ls st : List Value) (h : XH) : Option XC := if gN h < 999999 then some (pc, ls, .ref (gN h) :: st, xnew h k n) else none
def xstat (a pc : Nat) (ls st : List Value) (h : XH) : Option XC := if a = 0 then some (pc, ls, .int 1 :: st, h) else some (pc, ls, .ref (1000000 + a) :: st, h)
def xdup (pc : Nat) (ls st : List Value) (h : XH) : Option XC := match st with
  | .int x :: t => some (pc, ls, .int x :: .int x :: t, h)
  | .ref x :: t => some (pc, ls, .ref x :: .ref x :: t, h)
  | _ => none
def xpop (pc : Nat) (ls st : List Value) (h : XH) : Option XC := match st with
  | .int _ :: t => some (pc, ls, t, h)
  | .ref _ :: t => some (pc, ls, t, h)
  | _ => none
def xdup2 (pc : Nat) (ls st : List Value) (h : XH) : Option XC := match st with
  | .int y :: .int x :: t => some (pc, ls, .int y :: .int x :: .int y :: .int x :: t, h)
  | .int y :: .ref x :: t => some (pc, ls, .int y :: .ref x :: .int y :: .ref x :: t, h)
  | _ => none
def xobj (pc : Nat) (ls st : List Value) (h : XH) : Option XC := match st with
  | .ref o :: t => if gK h o ≠ 0 ∧ xcat t ≤ 8 then some (pc, ls, t, h) else none
  | _ => none
def xcopy (pc : Nat) (ls st : List Value) (h : XH) : Option XC := match st with
  | .int n :: .int dp :: .ref a :: .int sp :: .ref a0 :: t => if a0 ≠ a ∧ gK h a0 = 1 ∧ a0 < gN h ∧ gK h a = 1 ∧ a < gN h ∧ ¬ n < 0 ∧ ¬ dp < 0 ∧ ¬ sp < 0 ∧ sp.toNatClampNeg + n.toNatClampNeg ≤ gZ h a0 ∧ dp.toNatClampNeg + n.toNatClampNeg ≤ gZ h a ∧ xcat t ≤ 8 then some (pc, ls, t, xcpy h a0 a sp.toNatClampNeg dp.toNatClampNeg n.toNatClampNeg) else none
  | _ => none
/-- the law's own led: the i-th cell of the trail, or an exception caught -/
def xled (pc : Nat) (ls st : List Value) (h : XH) : Option XC := match st with
  | .ref out :: .int i :: .ref x :: t => if gK h x = 21 ∧ x < gN h ∧ gK h out = 4 ∧ out < gN h ∧ 1 ≤ gZ h out ∧ gK h (gR h x 15) = 1 ∧ gZ h (gR h x 15) = 601 ∧ gR h x 15 < gN h ∧ gR h x 15 ≠ 0 ∧ xcat t ≤ 8 ∧ gN h < 999999 then
      (if i < 0 ∨ gI h x 17 ≤ i ∨ 601 ≤ i then some (pc, ls, .int 1 :: t, xnew h 0 6) else some (pc, ls, .int 0 :: t, sL h out 0 (gI h (gR h x 15) i.toNatClampNeg).toInt64)) else none
  | _ => none
def xswi (dflt lo hi : Int) (offs : Array Int) (pc : Nat) (ls st : List Value) (h : XH) : Option XC := match st with
  | .int x :: t => if x.toInt < lo ∨ hi < x.toInt then some (((pc : Int) + dflt).toNat, ls, t, h) else match offs[(x.toInt - lo).toNat]? with
    | some o => some (((pc : Int) + o).toNat, ls, t, h)
    | none => none
  | _ => none
def xatK : ArrayType → Nat
  | .int => 1
  | .byte => 2
  | .boolean => 3
  | .long => 4
  | _ => 0
/-- an instruction that is neither a call nor an end -/
def xop (r : XRow) (pc : Nat) (ls st : List Value) (h : XH) : Option XC := match r.1 with
  | .iconst n => some (pc + 1, ls, .int (Int32.ofInt n) :: st, h)
  | .bipush n => some (pc + 2, ls, .int (Int8.ofInt n).toInt32 :: st, h)
  | .sipush n => some (pc + 3, ls, .int (Int16.ofInt n).toInt32 :: st, h)
  | .lconst n => some (pc + 1, ls, .long (Int64.ofNat (n : Nat)) :: st, h)
  | .ldc _ => if r.2.2.2.1 = 0 then some (pc + 2, ls, .int (Int32.ofNat r.2.2.1) :: st, h) else some (pc + 2, ls, .ref (1000010 + 2 * r.2.2.1) :: st, h)
  | .ldc_w _ => if r.2.2.2.1 = 0 then some (pc + 3, ls, .int (Int32.ofNat r.2.2.1) :: st, h) else some (pc + 3, ls, .ref (1000010 + 2 * r.2.2.1) :: st, h)
  | .ldc2_w _ => some (pc + 3, ls, .long (xlongs.getD r.2.2.1 0) :: st, h)
  | .iload i => xloadI ls i (pc + 2) st h
  | .iload_n i => xloadI ls (i : Nat) (pc + 1) st h
  | .lload i => xloadL ls i (pc + 2) st h
  | .lload_n i => xloadL ls (i : Nat) (pc + 1) st h
  | .aload i => xloadA ls i (pc + 2) st h
  | .aload_n i => xloadA ls (i : Nat) (pc + 1) st h
  | .istore i => xstoreI ls i (pc + 2) st h
  | .istore_n i => xstoreI ls (i : Nat) (pc + 1) st h
  | .lstore i => xstoreL ls i (pc + 2) st h
  | .lstore_n i => xstoreL ls (i : Nat) (pc + 1) st h
  | .astore i => xstoreA ls i (pc + 2) st h
  | .astore_n i => xstoreA ls (i : Nat) (pc + 1) st h
  | .iinc i n => xinc ls i n (pc + 3) st h
  | .iadd => xii (fun x y => x + y) (pc + 1) ls st h
  | .isub => xii (fun x y => x - y) (pc + 1) ls st h
  | .imul => xii (fun x y => x * y) (pc + 1) ls st h
  | .iand => xii (fun x y => x &&& y) (pc + 1) ls st h
  | .ior => xii (fun x y => x ||| y) (pc + 1) ls st h
  | .ixor => xii (fun x y => x ^^^ y) (pc + 1) ls st h
  | .ishl => xii (fun x y => x <<< (y &&& 31)) (pc + 1) ls st h
  | .ishr => xii (fun x y => x >>> (y &&& 31)) (pc + 1) ls st h
  | .idiv => xiiD (fun x y => x / y) (pc + 1) ls st h
  | .irem => xiiD (fun x y => x - x / y * y) (pc + 1) ls st h
  | .ladd => xll (fun x y => x + y) (pc + 1) ls st h
  | .lsub => xll (fun x y => x - y) (pc + 1) ls st h
  | .lmul => xll (fun x y => x * y) (pc + 1) ls st h
  | .ldiv => xllD (fun x y => x / y) (pc + 1) ls st h
  | .lrem => xllD (fun x y => x - x / y * y) (pc + 1) ls st h
  | .ineg => xi (fun x => .int (-x)) (pc + 1) ls st h
  | .i2l => xi (fun x => .long x.toInt64) (pc + 1) ls st h
  | .i2b => xi (fun x => .int x.toInt8.toInt32) (pc + 1) ls st h
  | .i2c => xi (fun x => .int (x.toUInt32 % 65536).toInt32) (pc + 1) ls st h
  | .l2i => xl (fun x => .int x.toInt32) (pc + 1) ls st h
  | .lneg => xl (fun x => .long (-x)) (pc + 1) ls st h
  | .lcmp => (match st with
    | .long y :: .long x :: t => some (pc + 1, ls, .int (lg_cmp x y) :: t, h)
    | _ => none)
  | .ifCond c _ => (match st with
    | .int x :: t => xjmp (xcond c x 0) r.2.2.1 (pc + 3) ls t h
    | _ => none)
  | .if_icmp c _ => (match st with
    | .int y :: .int x :: t => xjmp (xcond c x y) r.2.2.1 (pc + 3) ls t h
    | _ => none)
  | .goto _ => some (r.2.2.1, ls, st, h)
  | .tableswitch d lo hi offs => xswi d lo hi offs pc ls st h
  | .dup => xdup (pc + 1) ls st h
  | .dup2 => xdup2 (pc + 1) ls st h
  | .pop => xpop (pc + 1) ls st h
  | .getfield _ => xget r.2.2.1 r.2.2.2.1 r.2.2.2.2.1 (pc + 3) ls st h
  | .putfield _ => xput r.2.2.1 r.2.2.2.1 r.2.2.2.2.1 (pc + 3) ls st h
  | .getstatic _ => xstat r.2.2.1 (pc + 3) ls st h
  | .iaload => xaldI (pc + 1) ls st h
  | .baload => xaldB (pc + 1) ls st h
  | .laload => xaldL (pc + 1) ls st h
  | .aaload => xaldA (pc + 1) ls st h
  | .iastore => xastI (pc + 1) ls st h
  | .bastore => xastB (pc + 1) ls st h
  | .lastore => xastL (pc + 1) ls st h
  | .aastore => xastA r.2.2.1 (pc + 1) ls st h
  | .arraylength => xlen (pc + 1) ls st h
  | .newarray t => xnewa (xatK t) (pc + 2) ls st h
  | .anewarray _ => xnewa 5 (pc + 3) ls st h
  | .new _ => xnewo r.2.2.1 r.2.2.2.1 (pc + 3) ls st h
  | .invokespecial _ => if r.2.2.2.1 = 1 then xobj (pc + 3) ls st h else none
  | .invokestatic _ => if r.2.2.2.1 = 2 then xcopy (pc + 3) ls st h else if r.2.2.2.1 = 3 then xled (pc + 3) ls st h else none
  | _ => none
/-- the ends; b: 0 an int, 1 a truth value, 2 a char, 3 a byte -/
def xend (r : XRow) (st : List Value) : Option (Option Value) := match r.1, st with
  | .ireturn, [.int v] => if r.2.2.1 = 0 then some (some (.int v)) else if r.2.2.1 = 1 then (if v = 0 ∨ v = 1 then some (some (.int v)) else none) else if r.2.2.1 = 2 then (if narrow .char (.int v) = .int v then some (some (.int v)) else none) else if narrow .byte (.int v) = .int v then some (some (.int v)) else none
  | .lreturn, [.long v] => some (some (.long v))
  | .return_, [] => some none
  | _, _ => none
/-- is it a call of a method that has rows? b: 0 -/
def xisC (r : XRow) : Bool := match r.1 with
  | .invokevirtual _ => decide (r.2.2.2.1 = 0)
  | .invokestatic _ => decide (r.2.2.2.1 = 0)
  | .invokespecial _ => decide (r.2.2.2.1 = 0)
  | _ => false
def xisE (r : XRow) : Bool := match r.1 with
  | .ireturn => true
  | .lreturn => true
  | .return_ => true
  | _ => false
