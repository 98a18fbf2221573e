/-! runs, and what a row must be -/
def xmL (m : Nat) : Nat := match xtm[m]? with
  | none => 0
  | some q => q.1.2.2.1
def xrcv (k sty : Nat) (as : List Value) (h : XH) : Bool := match as with
  | .ref x :: _ => decide (gK h x = k) && (decide (sty = 1) || decide (x < gN h))
  | _ => false
/-- a call: the callee, its arguments, what stays on the stack -/
def xcal (r : XRow) (st : List Value) (h : XH) : Option (Nat × List Value × List Value) := match xtm[r.2.2.1]? with
  | none => none
  | some q => if q.1.2.2.2.2.1 ≤ st.length ∧ xcat (st.drop q.1.2.2.2.2.1) ≤ 8 ∧ (xflat (st.take q.1.2.2.2.2.1).reverse).length ≤ q.1.2.2.1 ∧ (q.1.2.2.2.2.2.2.1 = 0 ∨ xrcv q.1.2.2.2.2.2.1 q.1.2.2.2.2.2.2.1 (st.take q.1.2.2.2.2.1).reverse h = true) then some (r.2.2.1, (st.take q.1.2.2.2.2.1).reverse, st.drop q.1.2.2.2.2.1) else none
def xrun : Nat → Nat → Nat → Nat → List Value → List Value → XH → Option (Option Value × XH)
  | 0, _, _, _, _, _, _ => none
  | n + 1, d, m, pc, ls, st, h => match xrow m pc with
    | none => none
    | some r =>
      if xisE r = true then (match xend r st with
        | none => none
        | some v => some (v, h))
      else if xisC r = true then (match d with
        | 0 => none
        | d' + 1 => match xcal r st h with
          | none => none
          | some (y, as, rest) => match xrun n d' y 0 (xent (xmL y) as) [] h with
            | none => none
            | some (v, h') => xrun n (d' + 1) m (pc + 3) ls (v.toList ++ rest) h')
      else (match xop r pc ls st h with
        | none => none
        | some (pc', ls', st', h') => xrun n d m pc' ls' st' h')
def xisW (i : Nat) (w : Cond) : Bool := decide (xpl[i]? = some w)
def xtc (d : String) : Nat := if d = "I" then 0 else if d = "Z" then 3 else if d = "J" then 1 else if d = "B" then 0 else 2
def xokF (own : String) (get : Bool) (init : Bool) (idx a b c w : Nat) : Bool := match vwCl[a - 10]? with
  | none => false
  | some q => decide (10 ≤ a) && decide (b < q.2.2) && xisW w (.fieldLink own idx (q.2.1 b).1 (q.2.1 b).2.1 (q.2.1 b).2.2.1) && (if get then decide (c = (if xtc (q.2.1 b).2.2.1 = 3 then 0 else xtc (q.2.1 b).2.2.1)) else decide (c = xtc (q.2.1 b).2.2.1) && decide ((q.2.1 b).2.2.2 = false ∨ init = true ∧ (q.2.1 b).1 = own))
def xokN (own : String) (idx : Nat) (y : MethodName) (w : Nat) : Bool := match xnest[w]? with
  | none => false
  | some q => decide (q.1 = own) && decide (q.2.1 = idx) && decide (q.2.2.1 = y)
def xokC (own : String) (idx a sty c w : Nat) : Bool := match xtm[a]? with
  | none => false
  | some q => decide (q.1.2.2.2.2.2.2.1 = sty) && decide (q.1.1.cls ≠ "SoftWheelsLaw") && (if c = 1 then decide (sty = 2) && xokN own idx q.1.1 w else xisW w (.methodLink own idx q.1.1))
/-- how long an instruction is (0: as the row says) -/
def xln : Instr → Nat
  | .bipush _ => 2
  | .sipush _ => 3
  | .ldc _ => 2
  | .ldc_w _ => 3
  | .ldc2_w _ => 3
  | .iload _ => 2
  | .lload _ => 2
  | .aload _ => 2
  | .istore _ => 2
  | .lstore _ => 2
  | .astore _ => 2
  | .iinc _ _ => 3
  | .ifCond _ _ => 3
  | .if_icmp _ _ => 3
  | .goto _ => 3
  | .tableswitch _ _ _ _ => 0
  | .getfield _ => 3
  | .putfield _ => 3
  | .getstatic _ => 3
  | .newarray _ => 2
  | .anewarray _ => 3
  | .new _ => 3
  | .invokevirtual _ => 3
  | .invokestatic _ => 3
  | .invokespecial _ => 3
  | _ => 1
/-- what stands in a row is so: its bytes, and what its numbers name -/
def xok (y : YM) (q : Nat × XRow) : Bool := decide (decode y.2.1 q.1 = .ok (q.2.1, q.2.2.1)) && (decide (xln q.2.1 = 0) || decide (q.2.2.1 = xln q.2.1)) && (match q.2.1 with
  | .ldc i => if q.2.2.2.2.1 = 0 then xisW q.2.2.2.2.2.2 (.constant y.1.cls i (Int32.ofNat q.2.2.2.1)) else decide (q.2.2.2.2.1 = 1) && (match xstr[q.2.2.2.1]? with
    | none => false
    | some z => decide (z.1 = y.1.cls) && decide (z.2.1 = i))
  | .ldc_w i => if q.2.2.2.2.1 = 0 then xisW q.2.2.2.2.2.2 (.constant y.1.cls i (Int32.ofNat q.2.2.2.1)) else decide (q.2.2.2.2.1 = 1) && (match xstr[q.2.2.2.1]? with
    | none => false
    | some z => decide (z.1 = y.1.cls) && decide (z.2.1 = i))
  | .ldc2_w i => xisW q.2.2.2.2.2.2 (.constantLong y.1.cls i (xlongs.getD q.2.2.2.1 0))
  | .ifCond _ o => decide ((q.1 : Int) + o = (q.2.2.2.1 : Int))
  | .if_icmp _ o => decide ((q.1 : Int) + o = (q.2.2.2.1 : Int))
  | .goto o => decide ((q.1 : Int) + o = (q.2.2.2.1 : Int))
  | .tableswitch d _ _ os => decide (0 ≤ (q.1 : Int) + d) && os.all (fun o => decide (0 ≤ (q.1 : Int) + o))
  | .getfield i => if q.2.2.2.1 = 60 then (if q.2.2.2.2.1 = 0 then decide (q.2.2.2.2.2.1 = 2) && xisW q.2.2.2.2.2.2 (.fieldLink y.1.cls i "java/lang/String" "value" "[B") else decide (q.2.2.2.2.1 = 1) && decide (q.2.2.2.2.2.1 = 0) && xisW q.2.2.2.2.2.2 (.fieldLink y.1.cls i "java/lang/String" "coder" "B")) else xokF y.1.cls true (decide (y.1.name = "<init>")) i q.2.2.2.1 q.2.2.2.2.1 q.2.2.2.2.2.1 q.2.2.2.2.2.2
  | .putfield i => xokF y.1.cls false (decide (y.1.name = "<init>")) i q.2.2.2.1 q.2.2.2.2.1 q.2.2.2.2.2.1 q.2.2.2.2.2.2
  | .getstatic i => if q.2.2.2.1 = 0 then xisW q.2.2.2.2.2.2 (.fieldLink y.1.cls i "java/lang/String" "COMPACT_STRINGS" "Z") else if q.2.2.2.1 = 1 then xisW q.2.2.2.2.2.2 (.fieldLink y.1.cls i "SoftWheels$Digs" "UNITS" "[I") else decide (q.2.2.2.1 = 2) && xisW q.2.2.2.2.2.2 (.fieldLink y.1.cls i "jdk/internal/util/Preconditions" "SIOOBE_FORMATTER" "Ljava/util/function/BiFunction;")
  | .newarray t => decide (xatK t ≠ 0)
  | .anewarray i => xisW q.2.2.2.2.2.2 (.classLink y.1.cls i "SoftWheels$Plan")
  | .aastore => decide (q.2.2.2.1 = 16)
  | .new i => (match vwCl[q.2.2.2.1 - 10]? with
    | none => false
    | some z => decide (10 ≤ q.2.2.2.1) && decide (q.2.2.2.2.1 = z.2.2) && xisW q.2.2.2.2.2.2 (.classLink y.1.cls i z.1))
  | .invokevirtual i => decide (q.2.2.2.2.1 = 0) && xokC y.1.cls i q.2.2.2.1 1 q.2.2.2.2.2.1 q.2.2.2.2.2.2
  | .invokestatic i => if q.2.2.2.2.1 = 0 then xokC y.1.cls i q.2.2.2.1 0 q.2.2.2.2.2.1 q.2.2.2.2.2.2 else if q.2.2.2.2.1 = 2 then xisW q.2.2.2.2.2.2 (.methodLink y.1.cls i arraycopyName) else decide (q.2.2.2.2.1 = 3) && decide (y.1 = ⟨"SoftWheelsLaw", "law", "([I)Z"⟩) && xisW q.2.2.2.2.2.2 (.methodLink y.1.cls i ⟨"SoftWheelsLaw", "led", "(LSoftWheels;I[J)I"⟩)
  | .invokespecial i => if q.2.2.2.2.1 = 0 then xokC y.1.cls i q.2.2.2.1 2 q.2.2.2.2.2.1 q.2.2.2.2.2.2 else decide (q.2.2.2.2.1 = 1) && xisW q.2.2.2.2.2.2 (.methodLink y.1.cls i objectInit)
  | .ireturn => decide (y.2.2.2.1 = some (if q.2.2.2.1 = 0 then .int else if q.2.2.2.1 = 1 then .boolean else if q.2.2.2.1 = 2 then .char else .byte))
  | .lreturn => decide (y.2.2.2.1 = some .long)
  | .return_ => decide (y.2.2.2.1 = none)
  | _ => true)
/-- the class of a kind of receivers -/
def xkcls (k : Nat) : String := if k = 60 then "java/lang/String" else match vwCl[k - 10]? with
  | some q => q.1
  | none => ""
/-- what a method's row must be -/
def xmok (y : YM) : Bool := plainFor y.1 && decide (y.2.2.1 ≤ 40) && xisW y.2.2.2.2.2.2.2.2.2 (.initialized y.1.cls) && decide (y.1.cls ≠ "java/lang/invoke/MethodHandle") && decide (y.1.cls ≠ "java/lang/invoke/VarHandle") &&
  (if y.2.2.2.2.2.2.1 = 0 then xisW y.2.2.2.2.2.2.2.1 (.static y.1) && decide ((parseMethodDescriptor y.1.desc).map (fun d => d.parameters.length) = some y.2.2.2.2.1)
   else decide (1 ≤ y.2.2.2.2.1) && decide ((parseMethodDescriptor y.1.desc).map (fun d => d.parameters.length) = some (y.2.2.2.2.1 - 1)) && xisW y.2.2.2.2.2.2.2.1 (.instanceMethod y.1) && decide (10 ≤ y.2.2.2.2.2.1) && decide (xkcls y.2.2.2.2.2.1 = y.1.cls) && (decide (y.2.2.2.2.2.1 = 60) || decide (y.2.2.2.2.2.1 < 23)) &&
     (if y.2.2.2.2.2.2.1 = 1 then xisW y.2.2.2.2.2.2.2.2.1 (.selects y.1.cls y.1 y.1) else decide (y.2.2.2.2.2.2.1 = 2) && decide (y.1.name = "<init>") && decide (y.2.2.2.1 = none)))
