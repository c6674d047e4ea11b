/-! THE CHECKS of the code tables, for the kernel. Words of the tables by their places: 1000 * (part of the tables) + (place there); part 0: the private methods' selects. -/
def bprog : Nat → List Jvm.Cond := fun k => match k with
  | 0 => k2_sels lw_privs
  | 1 => tables_1_1
  | 2 => tables_1_2
  | 3 => tables_1_3
  | 4 => tables_1_4
  | 5 => tables_1_5
  | 6 => tables_1_6
  | 7 => tables_1_7
  | 8 => tables_1_8
  | 9 => tables_1_9
  | 10 => tables_1_10
  | 11 => tables_1_11
  | _ => []
def bwk (j : Nat) (w : Jvm.Cond) : Bool := decide ((bprog (j / 1000))[j % 1000]? = some w) && goodWord w
theorem bprog_in (k : Nat) : ∀ w ∈ bprog k, w ∈ lw_tbl := sorry
theorem bwk_in {j : Nat} {w : Jvm.Cond} (h : bwk j w = true) : w ∈ bw_G := sorry
/-- of a class: the words that it can be made, that it stands ready -/
abbrev bcj : Type := Nat → Nat × Nat
/-- of a method: its code's word, what it is (of an object, static), how it is selected, its class's start; how many it takes -/
abbrev bmj : Type := Nat → Nat × Nat × Nat × Nat × Nat
def bchkX (cj : bcj) (own nm : String) (pc : Nat) (o : bO) : Bool := match o.1 with
  | .ldc ix => bwk o.2.1 (.constant own ix (Int32.ofInt o.2.2.2.2))
  | .ldc2_w ix => bwk o.2.1 (.constantLong own ix (Int64.ofInt o.2.2.2.2))
  | .goto off => decide ((pc : Int) + off = (o.2.2.1 : Int))
  | .ifCond _ off => decide ((pc : Int) + off = (o.2.2.1 : Int))
  | .if_icmp _ off => decide ((pc : Int) + off = (o.2.2.1 : Int))
  | .getfield ix => decide (2 ≤ o.2.2.1) && (match vwCl[o.2.2.1]? with
    | some q => decide (o.2.2.2.1 < q.2.2) && bwk o.2.1 (.fieldLink own ix (q.2.1 o.2.2.2.1).1 (q.2.1 o.2.2.2.1).2.1 (q.2.1 o.2.2.2.1).2.2.1)
    | none => false)
  | .putfield ix => decide (2 ≤ o.2.2.1) && (match vwCl[o.2.2.1]? with
    | some q => decide (o.2.2.2.1 < q.2.2) && bwk o.2.1 (.fieldLink own ix (q.2.1 o.2.2.2.1).1 (q.2.1 o.2.2.2.1).2.1 (q.2.1 o.2.2.2.1).2.2.1) && (!(q.2.1 o.2.2.2.1).2.2.2 || (decide (nm = "<init>") && decide ((q.2.1 o.2.2.2.1).1 = own)))
    | none => false)
  | .getstatic ix => (match bsf o.2.2.1 with
    | some f => bwk o.2.1 (.fieldLink own ix f.1 f.2.1 f.2.2) || decide ((own, ix, f.1, f.2.1, f.2.2, "Boxedvalue") ∈ bwN)
    | none => false)
  | .new ix => if o.2.2.2.2 = 0 then decide (2 ≤ o.2.2.1) && (match vwCl[o.2.2.1]? with
    | some q => decide (q.2.2 = (bty o.2.2.1).length) && bwk o.2.1 (.classLink own ix q.1) && bwk (cj o.2.2.1).1 (.instantiable q.1 q.2.2) && bwk (cj o.2.2.1).2 (.initialized q.1)
    | none => false) else true
  | .newarray t => bwk o.2.1 (.arrayClass (newarray.typeOf t)) && (match t with
    | .char => decide (o.2.2.1 = 0)
    | .int => decide (o.2.2.1 = 1)
    | .long => decide (o.2.2.1 = 2)
    | .boolean => decide (o.2.2.1 = 3)
    | _ => false)
  | .anewarray ix => if o.2.2.1 = 4 then bwk o.2.1 (.classLink own ix "Boxedvalue$Box") else decide (o.2.2.1 = 5) && bwk o.2.1 (.classLink own ix "Boxedvalue$Formula")
  | .invokespecial ix => if o.2.2.2.2 = 1 then bwk o.2.1 (.methodLink own ix Lib.objectInit) else true
  | _ => true
def bchkD (cc : ByteArray) (pc : Nat) (o : bO) : Bool := match o.1 with
  | .lookupswitch _ ps => decide (decode cc pc = .ok (o.1, o.2.1)) && (ps.toList.zip (ps.toList.drop 1)).all (fun (a, next) => a.1 < next.1)
  | .tableswitch _ _ _ _ => decide (decode cc pc = .ok (o.1, o.2.1))
  | _ => decide (decode cc pc = .ok (o.1, bln o.1))
/-- of a method that is called: its class, how many it takes, its words -/
def bchkM (M : Nat → bM) (mj : bmj) (mi : Nat) : Bool := decide ((M mi).1.cls ≠ "java/lang/invoke/MethodHandle") && decide ((M mi).1.cls ≠ "java/lang/invoke/VarHandle") && decide ((parseMethodDescriptor (M mi).1.desc).map (fun d => d.parameters.length) = some (mj mi).2.2.2.2) && bwk (mj mi).2.2.2.1 (.initialized (M mi).1.cls)
def bchkV (M : Nat → bM) (mj : bmj) (own : String) (ix j a b : Nat) (v : Int) : Bool := decide ((mj a).1 ≠ 0) && decide ((mj a).2.2.2.2 = b) && (match vwCl[v.toNat]? with
    | some q => decide (q.1 = (M a).1.cls)
    | none => false) && bwk j (.methodLink own ix (M a).1) && bwk (mj a).2.1 (.instanceMethod (M a).1) && bwk (mj a).2.2.1 (.selects (M a).1.cls (M a).1 (M a).1) && (M a).2.2.2.2.isEmpty
def bchkS (M : Nat → bM) (mj : bmj) (own : String) (ix j a b : Nat) (v : Int) : Bool := decide ((mj a).1 ≠ 0) && decide ((mj a).2.2.2.2 = b) && ((bwk j (.methodLink own ix (M a).1) && decide (v = 0)) || (decide ((own, ix, (M a).1, "Boxedvalue") ∈ bwM) && decide (v ≠ 0) && (M a).2.2.2.2.isEmpty)) && bwk (mj a).2.1 (.static (M a).1)
def bchkI (M : Nat → bM) (mj : bmj) (own : String) (ix j a b : Nat) : Bool := decide ((mj a).1 ≠ 0) && decide ((mj a).2.2.2.2 = b) && decide ((M a).1.name = "<init>") && decide ((M a).2.2.2.1 = none) && bwk j (.methodLink own ix (M a).1) && bwk (mj a).2.1 (.instanceMethod (M a).1) && (M a).2.2.2.2.isEmpty
def bchkC (M : Nat → bM) (mj : bmj) (own : String) (o : bO) : Bool := match o.1 with
  | .invokevirtual ix => bchkV M mj own ix o.2.1 o.2.2.1 o.2.2.2.1 o.2.2.2.2
  | .invokestatic ix => bchkS M mj own ix o.2.1 o.2.2.1 o.2.2.2.1 o.2.2.2.2
  | .invokespecial ix => if o.2.2.2.2 = 0 then bchkI M mj own ix o.2.1 o.2.2.1 o.2.2.2.1 else true
  | _ => true
theorem bchkD_ok {cc : ByteArray} {pc : Nat} {o : bO} (h : bchkD cc pc o = true) : bOkD cc pc o := sorry
theorem bchkX_ok {cj : bcj} {own nm : String} {pc : Nat} {o : bO} (hobj : Jvm.Cond.instanceMethod Lib.objectInit ∈ bw_G ∧ Jvm.Cond.code Lib.objectInit ⟨#[0xb1]⟩ 1 none ∈ bw_G) (h : bchkX cj own nm pc o = true) : bOkX own nm pc o := sorry
theorem bchkM_ok {M : Nat → bM} {mj : bmj} {mi : Nat} (h : bchkM M mj mi = true) : (M mi).1.cls ≠ "java/lang/invoke/MethodHandle" ∧ (M mi).1.cls ≠ "java/lang/invoke/VarHandle" ∧ (parseMethodDescriptor (M mi).1.desc).map (fun d => d.parameters.length) = some (mj mi).2.2.2.2 ∧ Jvm.Cond.initialized (M mi).1.cls ∈ bw_G := sorry
theorem bchkC_ok {P : bP} {mj : bmj} {own : String} {o : bO} (hM : ∀ a, (mj a).1 ≠ 0 → bchkM P.2.1 mj a = true) (hH : ∀ a, (mj a).1 ≠ 0 → bHead (P.2.1 a) ∈ bw_G) (h : bchkC P.2.1 mj own o = true) : bOkC P own o := sorry
/-- a throw: the five instructions, the message, the exception's links -/
def bchkT (xx : Nat → String × List String × Nat × Nat) (strs : List (String × Nat × String)) (own : String) (cc : ByteArray) (pc : Nat) (o : bO) : Bool := match o.1 with
  | .new ik => if o.2.2.2.2 = 1 then decide (own = "Boxedvalue") && decide (o.2.2.1 < 6) && decide (ik = (xx o.2.2.1).2.2.1) && decide (o.2.1 = (xx o.2.2.1).2.2.2) && strs.any (fun q => decide (q.1 = own) && decide (q.2.1 = o.2.2.2.1)) && decide (decode cc (pc + 3) = .ok (.dup, 1)) &&
    ((decide (decode cc (pc + 4) = .ok (.ldc o.2.2.2.1, 2)) && decide (decode cc (pc + 6) = .ok (.invokespecial o.2.1, 3)) && decide (decode cc (pc + 9) = .ok (.athrow, 1))) || (decide (decode cc (pc + 4) = .ok (.ldc_w o.2.2.2.1, 3)) && decide (decode cc (pc + 7) = .ok (.invokespecial o.2.1, 3)) && decide (decode cc (pc + 10) = .ok (.athrow, 1)))) else true
  | _ => true
theorem bchkT_ok {K : KE} {P : bP} {xx : Nat → String × List String × Nat × Nat} {strs : List (String × Nat × String)} {own : String} {cc : ByteArray} {pc : Nat} {o : bO} (hP : ∀ a, P.2.2.2.2 a = ((xx a).1, (xx a).2.1)) (hs : K.str = strs)
    (hx : ∀ a, a < 6 → ∃ (ix : Nat) (rx : ByteArray), bRx ix rx ∧ Bundle.fit (xx a).1 = true ∧ (∀ n ∈ (xx a).2.1, Bundle.fit n = true) ∧ (xx a).2.1.length ≤ 8 ∧ ∀ w ∈ Jvm.Cond.classLink "Boxedvalue" (xx a).2.2.1 (xx a).1 :: Jvm.Cond.initialized (xx a).1 :: bAt "Boxedvalue" (xx a).2.2.2 (xx a).1 ix rx (xx a).2.1, w ∈ bw_G ∨ (∃ x ∈ bwD, w = .declares x) ∨ ∃ x ∈ bwC, w = .castable x x)
    (h : bchkT xx strs own cc pc o = true) : bOkT K P own cc pc o := sorry
