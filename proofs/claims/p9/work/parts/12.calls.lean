/-! WHAT IS READ, THE MACHINE DOES: whole methods. -/
def bHead (M : bM) : Jvm.Cond := match M.2.2.2.2 with
  | [] => .code M.1 M.2.1 M.2.2.1 M.2.2.2.1
  | q :: t => .codeWith M.1 M.2.1 M.2.2.1 M.2.2.2.1 ((q :: t).map (fun x => x.1))
def bOkC (P : bP) (own : String) (o : bO) : Prop := match o.1 with
  | .invokevirtual ix => (P.2.1 o.2.2.1).1.cls ≠ "java/lang/invoke/MethodHandle" ∧ (P.2.1 o.2.2.1).1.cls ≠ "java/lang/invoke/VarHandle" ∧ (parseMethodDescriptor (P.2.1 o.2.2.1).1.desc).map (fun d => d.parameters.length) = some o.2.2.2.1 ∧ (∃ (T : u_T) (N : Nat), vwCl[o.2.2.2.2.toNat]? = some ((P.2.1 o.2.2.1).1.cls, T, N)) ∧
    Jvm.Cond.methodLink own ix (P.2.1 o.2.2.1).1 ∈ bw_G ∧ Jvm.Cond.instanceMethod (P.2.1 o.2.2.1).1 ∈ bw_G ∧ Jvm.Cond.selects (P.2.1 o.2.2.1).1.cls (P.2.1 o.2.2.1).1 (P.2.1 o.2.2.1).1 ∈ bw_G ∧ Jvm.Cond.initialized (P.2.1 o.2.2.1).1.cls ∈ bw_G ∧ (P.2.1 o.2.2.1).2.2.2.2 = [] ∧ bHead (P.2.1 o.2.2.1) ∈ bw_G
  | .invokestatic ix => (P.2.1 o.2.2.1).1.cls ≠ "java/lang/invoke/MethodHandle" ∧ (P.2.1 o.2.2.1).1.cls ≠ "java/lang/invoke/VarHandle" ∧ (parseMethodDescriptor (P.2.1 o.2.2.1).1.desc).map (fun d => d.parameters.length) = some o.2.2.2.1 ∧
    ((Jvm.Cond.methodLink own ix (P.2.1 o.2.2.1).1 ∈ bw_G ∧ o.2.2.2.2 = 0) ∨ ((∃ host : String, (own, ix, (P.2.1 o.2.2.1).1, host) ∈ bwM) ∧ o.2.2.2.2 ≠ 0 ∧ (P.2.1 o.2.2.1).2.2.2.2 = [])) ∧ Jvm.Cond.static (P.2.1 o.2.2.1).1 ∈ bw_G ∧ Jvm.Cond.initialized (P.2.1 o.2.2.1).1.cls ∈ bw_G ∧ bHead (P.2.1 o.2.2.1) ∈ bw_G
  | .invokespecial ix => o.2.2.2.2 = 0 → (P.2.1 o.2.2.1).1.name = "<init>" ∧ (P.2.1 o.2.2.1).2.2.2.1 = none ∧ (P.2.1 o.2.2.1).1.cls ≠ "java/lang/invoke/MethodHandle" ∧ (P.2.1 o.2.2.1).1.cls ≠ "java/lang/invoke/VarHandle" ∧ (parseMethodDescriptor (P.2.1 o.2.2.1).1.desc).map (fun d => d.parameters.length) = some o.2.2.2.1 ∧
    Jvm.Cond.methodLink own ix (P.2.1 o.2.2.1).1 ∈ bw_G ∧ Jvm.Cond.instanceMethod (P.2.1 o.2.2.1).1 ∈ bw_G ∧ Jvm.Cond.initialized (P.2.1 o.2.2.1).1.cls ∈ bw_G ∧ (P.2.1 o.2.2.1).2.2.2.2 = [] ∧ bHead (P.2.1 o.2.2.1) ∈ bw_G
  | _ => True
def bOkT (K : KE) (P : bP) (own : String) (cc : ByteArray) (pc : Nat) (o : bO) : Prop := match o.1 with
  | .new ik => o.2.2.2.2 = 1 → ∃ (is ic ix : Nat) (rx : ByteArray) (text : String), bRx ix rx ∧ Bundle.fit (P.2.2.2.2 o.2.2.1).1 = true ∧ (∀ n ∈ (P.2.2.2.2 o.2.2.1).2, Bundle.fit n = true) ∧ (P.2.2.2.2 o.2.2.1).2.length ≤ 8 ∧ (own, is, text) ∈ K.str ∧
    (∀ w ∈ Jvm.Cond.classLink own ik (P.2.2.2.2 o.2.2.1).1 :: Jvm.Cond.initialized (P.2.2.2.2 o.2.2.1).1 :: bAt own ic (P.2.2.2.2 o.2.2.1).1 ix rx (P.2.2.2.2 o.2.2.1).2, w ∈ bw_G ∨ (∃ x ∈ bwD, w = .declares x) ∨ ∃ x ∈ bwC, w = .castable x x) ∧
    decode cc (pc + 3) = .ok (.dup, 1) ∧ ((decode cc (pc + 4) = .ok (.ldc is, 2) ∧ decode cc (pc + 6) = .ok (.invokespecial ic, 3) ∧ decode cc (pc + 9) = .ok (.athrow, 1)) ∨ (decode cc (pc + 4) = .ok (.ldc_w is, 3) ∧ decode cc (pc + 7) = .ok (.invokespecial ic, 3) ∧ decode cc (pc + 10) = .ok (.athrow, 1)))
  | _ => True
/-- all that is owed of the code that is read -/
def bAll (K : KE) (P : bP) : Prop := bClsOk ∧ bEok K P.2.2.1 ∧
  (∀ (mi pc : Nat) (o : bO), P.1 mi pc = some o → bOkD (P.2.1 mi).2.1 pc o ∧ bOkX (P.2.1 mi).1.cls (P.2.1 mi).1.name pc o ∧ bOkC P (P.2.1 mi).1.cls o ∧ bOkT K P (P.2.1 mi).1.cls (P.2.1 mi).2.1 pc o ∧ (P.2.1 mi).2.2.1 ≤ 80 ∧ plainFor (P.2.1 mi).1 = true) ∧
  (∀ (mi : Nat) (q : (Nat × Nat × Nat × Nat) × String), q ∈ (P.2.1 mi).2.2.2.2 → q.1.2.2.2 ≠ 0 ∧ Jvm.Cond.classLink (P.2.1 mi).1.cls q.1.2.2.2 q.2 ∈ bw_G) ∧
  (∀ x n : String, P.2.2.2.1 x n = some true → x = n ∧ x ∈ bwC) ∧ (∀ x n : String, P.2.2.2.1 x n = some false → (x, n) ∈ K.nc)
def bTop (K : KE) (w : bW) (t : State) : Prop := bw K.D K.B w.1.length (bct K w.1) t.heap ∧ (w.2 = 0 → t.heap.size = K.B + w.1.length)
def bQc (K : KE) (r : bR) (w : bW) : Array Value → State → Outcome → State → Prop := fun _ st oc t => (∃ v : Option bV, r = .inl v ∧ oc = .returned (v.map (bvv K))) ∧ bTop K w t ∧ va_F (bA K.B) st t
def bXC (K : KE) (r : bR) (w : bW) : String → State → State → Prop := fun x st t => r = .inr x ∧ bTop K w t ∧ va_F (bA K.B) st t
/-- what is read from here on, the machine does -/
def bSnd (l : Launch) (K : KE) (P : bP) : bEx := fun d mi pc lv st w r w2 =>
  w.1.length ≤ w2.1.length ∧ w.2 ≤ w2.2 ∧ bsz w.1 ≤ bsz w2.1 ∧ (∃ o, P.1 mi pc = some o) ∧
  ∀ (p : Program) (e : Env) (R : Room) (s : State) (m : MethodId) (args : Array Value) (below : List Frame) (meth : Method) (c : Code) (H : Heap) (locs : List Loc) (cells slots : Nat) (ls : Array Slot) (w0 : bW) (mc ms : Nat),
    CallFix p m c (P.2.1 mi).2.1 (P.2.1 mi).2.2.1 s args bw_G (P.2.1 mi).1.cls → bK K s → bS K.D K.B w.1.length (bct K w.1) s H locs → (w.2 = 0 → H.size = K.B + w.1.length) →
    meth.sig.returnType = (P.2.1 mi).2.2.2.1 → meth.name = (P.2.1 mi).1.name → meth.locks = false → c.exceptionTable.toList = tableOf ((P.2.1 mi).2.2.2.2.map (fun x => x.1)) →
    d + 16 ≤ R.frames → 400 + 100 * d ≤ R.locals → mc ≤ R.cells → ms ≤ R.slots →
    cells + w0.1.length + w0.2 = w.1.length + w.2 → slots + bsz w0.1 + 6 * w0.2 = bsz w.1 + 6 * w.2 →
    mc + w0.1.length + w0.2 = w2.1.length + w2.2 → ms + bsz w0.1 + 6 * w0.2 = bsz w2.1 + 6 * w2.2 →
    lv_has ls (P.2.1 mi).2.2.1 (bvl K lv) →
    W p l e R s m args below meth c H locs cells slots (vx_MQ below (bQc K r w2) (bXC K r w2) args s mc ms (bA K.B)) (F0 m pc ls (st.map (bvv K)))
section BSOUND
variable {l : Launch} {K : KE} {P : bP}
theorem bsnd_step (A : bAll K P) (d mi pc : Nat) (lv : List (Nat × bV)) (st : List bV) (w : bW) (o : bO) (q : bF) (r : bR) (w2 : bW) (ho : P.1 mi pc = some o) (hs : bstep P.2.2.1 (P.2.1 mi).2.2.1 o pc lv st w = some q) (ih : bSnd l K P d mi q.1 q.2.1 q.2.2.1 q.2.2.2 r w2) : bSnd l K P d mi pc lv st w r w2 := sorry
theorem bret_inv {o : bO} {ret : Option FieldType} {st : List bV} {v : Option bV} (h : bret o ret st = some v) : (∃ (t : FieldType) (x : Int32), o.1 = .ireturn ∧ ret = some t ∧ st = [.inl x] ∧ bokf t (.inl x) = true ∧ v = some (.inl x)) ∨ (∃ x : Int64, o.1 = .lreturn ∧ ret = some .long ∧ st = [.inr (.inl x)] ∧ v = some (.inr (.inl x))) ∨ (∃ (t : FieldType) (x : Nat ⊕ Option Nat), o.1 = .areturn ∧ ret = some t ∧ ((∃ n, t = .object n) ∨ ∃ u, t = .array u) ∧ st = [.inr (.inr x)] ∧ v = some (.inr (.inr x))) ∨ (o.1 = .return_ ∧ ret = none ∧ st = [] ∧ v = none) := sorry
theorem bsnd_ret (A : bAll K P) (d mi pc : Nat) (lv : List (Nat × bV)) (st : List bV) (w : bW) (o : bO) (v : Option bV) (ho : P.1 mi pc = some o) (hs : bret o (P.2.1 mi).2.2.2.1 st = some v) : bSnd l K P d mi pc lv st w (.inl v) w := sorry
theorem bsnd_thr (hst : l.stackTraces = false) (A : bAll K P) (d mi pc : Nat) (lv : List (Nat × bV)) (w : bW) (o : bO) (ix : Nat) (ho : P.1 mi pc = some o) (h1 : o.1 = .new ix) (h2 : o.2.2.2.2 = 1) (h3 : (P.2.1 mi).2.2.2.2 = []) : bSnd l K P d mi pc lv [] w (.inr (P.2.2.2.2 o.2.2.1).1) (w.1, w.2 + 1) := sorry
end BSOUND
