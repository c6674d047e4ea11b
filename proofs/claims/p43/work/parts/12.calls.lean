/-! WHAT IS READ, THE MACHINE DOES: whole methods. -/
def bHead (M : bM) : Jvm.Cond := match M.2.2.2.2 with
  | [] => .code M.1 M.2.1 M.2.2.1 M.2.2.2.1
  | q :: t => .codeWith M.1 M.2.1 M.2.2.1 M.2.2.2.1 ((q :: t).map (fun x => x.1))
def bOkC (P : bP) (own : String) (o : bO) : Prop := match o.1 with
  | .invokevirtual ix => (P.2.1 o.2.2.1).1.cls ≠ "java/lang/invoke/MethodHandle" ∧ (P.2.1 o.2.2.1).1.cls ≠ "java/lang/invoke/VarHandle" ∧ (parseMethodDescriptor (P.2.1 o.2.2.1).1.desc).map (fun d => d.parameters.length) = some o.2.2.2.1 ∧ (∃ (T : u_T) (N : Nat), vwCl[o.2.2.2.2.toNat]? = some ((P.2.1 o.2.2.1).1.cls, T, N)) ∧
    Jvm.Cond.methodLink own ix (P.2.1 o.2.2.1).1 ∈ bw_G ∧ Jvm.Cond.instanceMethod (P.2.1 o.2.2.1).1 ∈ bw_G ∧ Jvm.Cond.selects (P.2.1 o.2.2.1).1.cls (P.2.1 o.2.2.1).1 (P.2.1 o.2.2.1).1 ∈ bw_G ∧ Jvm.Cond.initialized (P.2.1 o.2.2.1).1.cls ∈ bw_G ∧ (P.2.1 o.2.2.1).2.2.2.2 = [] ∧ bHead (P.2.1 o.2.2.1) ∈ bw_G
  | .invokestatic ix => (P.2.1 o.2.2.1).1.cls ≠ "java/lang/invoke/MethodHandle" ∧ (P.2.1 o.2.2.1).1.cls ≠ "java/lang/invoke/VarHandle" ∧ (parseMethodDescriptor (P.2.1 o.2.2.1).1.desc).map (fun d => d.parameters.length) = some o.2.2.2.1 ∧
    ((Jvm.Cond.methodLink own ix (P.2.1 o.2.2.1).1 ∈ bw_G ∧ o.2.2.2.2 = 0) ∨ ((∃ host : String, (own, ix, (P.2.1 o.2.2.1).1, host) ∈ bwM) ∧ o.2.2.2.2 ≠ 0 ∧ (P.2.1 o.2.2.1).2.2.2.2 = [])) ∧ Jvm.Cond.static (P.2.1 o.2.2.1).1 ∈ bw_G ∧ Jvm.Cond.initialized (P.2.1 o.2.2.1).1.cls ∈ bw_G ∧ bHead (P.2.1 o.2.2.1) ∈ bw_G
  | .invokespecial ix => o.2.2.2.2 = 0 → (P.2.1 o.2.2.1).1.name = "<init>" ∧ (P.2.1 o.2.2.1).2.2.2.1 = none ∧ (P.2.1 o.2.2.1).1.cls ≠ "java/lang/invoke/MethodHandle" ∧ (P.2.1 o.2.2.1).1.cls ≠ "java/lang/invoke/VarHandle" ∧ (parseMethodDescriptor (P.2.1 o.2.2.1).1.desc).map (fun d => d.parameters.length) = some o.2.2.2.1 ∧
    Jvm.Cond.methodLink own ix (P.2.1 o.2.2.1).1 ∈ bw_G ∧ Jvm.Cond.instanceMethod (P.2.1 o.2.2.1).1 ∈ bw_G ∧ Jvm.Cond.initialized (P.2.1 o.2.2.1).1.cls ∈ bw_G ∧ (P.2.1 o.2.2.1).2.2.2.2 = [] ∧ bHead (P.2.1 o.2.2.1) ∈ bw_G
  | _ => True
def bOkT (K : KE) (P : bP) (own : String) (cc : ByteArray) (pc : Nat) (o : bO) : Prop := match o.1 with
  | .new ik => o.2.2.2.2 = 1 → ∃ (is ic ix : Nat) (rx : ByteArray) (text : String), bRx ix rx ∧ Bundle.fit (P.2.2.2.2 o.2.2.1).1 = true ∧ (∀ n ∈ (P.2.2.2.2 o.2.2.1).2, Bundle.fit n = true) ∧ (P.2.2.2.2 o.2.2.1).2.length ≤ 8 ∧ (own, is, text) ∈ K.str ∧
    (∀ w ∈ Jvm.Cond.classLink own ik (P.2.2.2.2 o.2.2.1).1 :: Jvm.Cond.initialized (P.2.2.2.2 o.2.2.1).1 :: bAt own ic (P.2.2.2.2 o.2.2.1).1 ix rx (P.2.2.2.2 o.2.2.1).2, w ∈ bw_G ∨ (∃ x ∈ bwD, w = .declares x) ∨ ∃ x ∈ bwC, w = .castable x x) ∧
    decode cc (pc + 3) = .ok (.dup, 1) ∧ ((decode cc (pc + 4) = .ok (.ldc is, 2) ∧ decode cc (pc + 6) = .ok (.invokespecial ic, 3) ∧ decode cc (pc + 9) = .ok (.athrow, 1)) ∨ (decode cc (pc + 4) = .ok (.ldc_w is, 3) ∧ decode cc (pc + 7) = .ok (.invokespecial ic, 3) ∧ decode cc (pc + 10) = .ok (.athrow, 1)))
  | _ => True
/-- all that is owed of the code that is read -/
def bAll (K : KE) (P : bP) : Prop := bClsOk ∧ bEok K P.2.2.1 ∧
  (∀ (mi pc : Nat) (o : bO), P.1 mi pc = some o → bOkD (P.2.1 mi).2.1 pc o ∧ bOkX (P.2.1 mi).1.cls (P.2.1 mi).1.name pc o ∧ bOkC P (P.2.1 mi).1.cls o ∧ bOkT K P (P.2.1 mi).1.cls (P.2.1 mi).2.1 pc o ∧ (P.2.1 mi).2.2.1 ≤ 80 ∧ plainFor (P.2.1 mi).1 = true) ∧
  (∀ (mi : Nat) (q : (Nat × Nat × Nat × Nat) × String), q ∈ (P.2.1 mi).2.2.2.2 → q.1.2.2.2 ≠ 0 ∧ Jvm.Cond.classLink (P.2.1 mi).1.cls q.1.2.2.2 q.2 ∈ bw_G) ∧
  (∀ x n : String, P.2.2.2.1 x n = some true → x = n ∧ x ∈ bwC) ∧ (∀ x n : String, P.2.2.2.1 x n = some false → (x, n) ∈ K.nc)
def bTop (K : KE) (w : bW) (t : State) : Prop := bw K.D K.B w.1.length (bct K w.1) t.heap ∧ (w.2 = 0 → t.heap.size = K.B + w.1.length)
def bQc (K : KE) (r : bR) (w : bW) : Array Value → State → Outcome → State → Prop := fun _ st oc t => (∃ v : Option bV, r = .inl v ∧ oc = .returned (v.map (bvv K))) ∧ bTop K w t ∧ va_F (bA K.B) st t
def bXC (K : KE) (r : bR) (w : bW) : String → State → State → Prop := fun x st t => r = .inr x ∧ bTop K w t ∧ va_F (bA K.B) st t
/-- what is read from here on, the machine does -/
def bSnd (l : Launch) (K : KE) (P : bP) : bEx := fun d mi pc lv st w r w2 =>
  w.1.length ≤ w2.1.length ∧ w.2 ≤ w2.2 ∧ bsz w.1 ≤ bsz w2.1 ∧ (∃ o, P.1 mi pc = some o) ∧
  ∀ (p : Program) (e : Env) (R : Room) (s : State) (m : MethodId) (args : Array Value) (below : List Frame) (meth : Method) (c : Code) (H : Heap) (locs : List Loc) (cells slots : Nat) (ls : Array Slot) (w0 : bW) (mc ms : Nat),
    CallFix p m c (P.2.1 mi).2.1 (P.2.1 mi).2.2.1 s args bw_G (P.2.1 mi).1.cls → bK K s → bS K.D K.B w.1.length (bct K w.1) s H locs → (w.2 = 0 → H.size = K.B + w.1.length) →
    meth.sig.returnType = (P.2.1 mi).2.2.2.1 → meth.name = (P.2.1 mi).1.name → meth.locks = false → c.exceptionTable.toList = tableOf ((P.2.1 mi).2.2.2.2.map (fun x => x.1)) →
    d + 16 ≤ R.frames → 400 + 100 * d ≤ R.locals → mc ≤ R.cells → ms ≤ R.slots →
    cells + w0.1.length + w0.2 = w.1.length + w.2 → slots + bsz w0.1 + 6 * w0.2 = bsz w.1 + 6 * w.2 →
    mc + w0.1.length + w0.2 = w2.1.length + w2.2 → ms + bsz w0.1 + 6 * w0.2 = bsz w2.1 + 6 * w2.2 →
    lv_has ls (P.2.1 mi).2.2.1 (bvl K lv) →
    W p l e R s m args below meth c H locs cells slots (vx_MQ below (bQc K r w2) (bXC K r w2) args s mc ms (bA K.B)) (F0 m pc ls (st.map (bvv K)))
section BSOUND
variable {l : Launch} {K : KE} {P : bP}
theorem bsnd_step (A : bAll K P) (d mi pc : Nat) (lv : List (Nat × bV)) (st : List bV) (w : bW) (o : bO) (q : bF) (r : bR) (w2 : bW) (ho : P.1 mi pc = some o) (hs : bstep P.2.2.1 (P.2.1 mi).2.2.1 o pc lv st w = some q) (ih : bSnd l K P d mi q.1 q.2.1 q.2.2.1 q.2.2.2 r w2) : bSnd l K P d mi pc lv st w r w2 := by
  obtain ⟨i1, i2, i3, i4, ih⟩ := ih
  obtain ⟨m1, m2, m3⟩ := bstep_mo hs
  obtain ⟨a1, a2, a3, a4, a5, a6⟩ := A
  obtain ⟨b1, b2, b3, b4, b5, b6⟩ := a3 mi pc o ho
  refine ⟨Nat.le_trans m2 i1, by omega, Nat.le_trans m3 i3, ⟨o, ho⟩, ?_⟩
  intro p e R s m args below meth c H locs cells slots ls w0 mc ms C0 hb hw hz hret hnm hlk htab hRf hRl hRc hRs hc hsl hmc hms hl
  refine bstep_snd a1 a2 C0 hb hw hz hl (by omega) (by omega) hnm b1 b2 hs (by omega) (by omega) ?_
  intro H1 locs1 ls1 cells1 slots1 hw1 hz1 hl1 hc1 hs1
  exact ih p e R s m args below meth c H1 locs1 cells1 slots1 ls1 w0 mc ms C0 hb hw1 hz1 hret hnm hlk htab hRf hRl hRc hRs (by omega) (by omega) hmc hms hl1
theorem bret_inv {o : bO} {ret : Option FieldType} {st : List bV} {v : Option bV} (h : bret o ret st = some v) : (∃ (t : FieldType) (x : Int32), o.1 = .ireturn ∧ ret = some t ∧ st = [.inl x] ∧ bokf t (.inl x) = true ∧ v = some (.inl x)) ∨ (∃ x : Int64, o.1 = .lreturn ∧ ret = some .long ∧ st = [.inr (.inl x)] ∧ v = some (.inr (.inl x))) ∨ (∃ (t : FieldType) (x : Nat ⊕ Option Nat), o.1 = .areturn ∧ ret = some t ∧ ((∃ n, t = .object n) ∨ ∃ u, t = .array u) ∧ st = [.inr (.inr x)] ∧ v = some (.inr (.inr x))) ∨ (o.1 = .return_ ∧ ret = none ∧ st = [] ∧ v = none) := by
  unfold bret at h
  split at h
  · split at h
    · rename_i h2
      exact Or.inl ⟨_, _, by assumption, rfl, rfl, h2, (Option.some.inj h).symm⟩
    · cases h
  · exact Or.inr (Or.inl ⟨_, by assumption, rfl, rfl, (Option.some.inj h).symm⟩)
  · exact Or.inr (Or.inr (Or.inl ⟨_, _, by assumption, rfl, Or.inl ⟨_, rfl⟩, rfl, (Option.some.inj h).symm⟩))
  · exact Or.inr (Or.inr (Or.inl ⟨_, _, by assumption, rfl, Or.inr ⟨_, rfl⟩, rfl, (Option.some.inj h).symm⟩))
  · exact Or.inr (Or.inr (Or.inr ⟨by assumption, rfl, rfl, (Option.some.inj h).symm⟩))
  · cases h
theorem bsnd_ret (A : bAll K P) (d mi pc : Nat) (lv : List (Nat × bV)) (st : List bV) (w : bW) (o : bO) (v : Option bV) (ho : P.1 mi pc = some o) (hs : bret o (P.2.1 mi).2.2.2.1 st = some v) : bSnd l K P d mi pc lv st w (.inl v) w := by
  obtain ⟨a1, a2, a3, a4, a5, a6⟩ := A
  obtain ⟨b1, b2, b3, b4, b5, b6⟩ := a3 mi pc o ho
  refine ⟨Nat.le_refl _, Nat.le_refl _, Nat.le_refl _, ⟨o, ho⟩, ?_⟩
  intro p e R s m args below meth c H locs cells slots ls w0 mc ms C0 hb hw hz hret hnm hlk htab hRf hRl hRc hRs hc hsl hmc hms hl
  have e1 : mc = cells := by omega
  have e2 : ms = slots := by omega
  subst e1
  subst e2
  have fin : ∀ t : State, t.heap = H → bTop K w t ∧ va_F (bA K.B) s t := fun t ht => ⟨⟨by rw [ht]; exact hw.1, fun h => by rw [ht]; exact hz h⟩, hw.2.F ht⟩
  obtain ⟨ins, ln, a, b, vv⟩ := o
  rcases bret_inv hs with ⟨t, x, h1, h2, rfl, h3, rfl⟩ | ⟨x, h1, h2, rfl, rfl⟩ | ⟨t, x, h1, h2, h3, rfl, rfl⟩ | ⟨h1, h2, rfl, rfl⟩
  · have h1 : ins = .ireturn := h1
    subst h1
    exact vx_ret (W.zret (v := x) C0.1 C0.2.1 (hret.trans h2) (bokf_v (K := K) h3).1 (fun t ht hW => ⟨⟨_, rfl, rfl⟩, fin t ht⟩) hw.2.2.2 b1)
  · have h1 : ins = .lreturn := h1
    subst h1
    exact vx_ret (W.lret (v := x) C0.1 C0.2.1 (hret.trans h2) (fun t ht hW => ⟨⟨_, rfl, rfl⟩, fin t ht⟩) hw.2.2.2 b1)
  · have h1 : ins = .areturn := h1
    subst h1
    exact vx_ret (W.aret (v := bvv K (.inr (.inr x))) C0.1 C0.2.1 (hret.trans h2) h3 (by rcases x with k | _ | j <;> first | exact Or.inl rfl | exact Or.inr ⟨_, rfl⟩) (fun t ht hW => ⟨⟨_, rfl, rfl⟩, fin t ht⟩) hw.2.2.2 b1)
  · have h1 : ins = .return_ := h1
    subst h1
    exact vx_ret (W.vret C0.1 C0.2.1 (hret.trans h2) (fun t ht hW => ⟨⟨_, rfl, rfl⟩, fin t ht⟩) hw.2.2.2 b1)
theorem bsnd_thr (hst : l.stackTraces = false) (A : bAll K P) (d mi pc : Nat) (lv : List (Nat × bV)) (w : bW) (o : bO) (ix : Nat) (ho : P.1 mi pc = some o) (h1 : o.1 = .new ix) (h2 : o.2.2.2.2 = 1) (h3 : (P.2.1 mi).2.2.2.2 = []) : bSnd l K P d mi pc lv [] w (.inr (P.2.2.2.2 o.2.2.1).1) (w.1, w.2 + 1) := by
  obtain ⟨a1, a2, a3, a4, a5, a6⟩ := A
  obtain ⟨b1, b2, b3, b4, b5, b6⟩ := a3 mi pc o ho
  refine ⟨Nat.le_refl _, Nat.le_succ _, Nat.le_refl _, ⟨o, ho⟩, ?_⟩
  intro p e R s m args below meth c H locs cells slots ls w0 mc ms C0 hb hw hz hret hnm hlk htab hRf hRl hRc hRs hc hsl hmc hms hl
  obtain ⟨ins, ln, a, b, vv⟩ := o
  have h1 : ins = .new ix := h1
  subst h1
  have hd : decode (P.2.1 mi).2.1 pc = .ok (.new ix, 3) := b1
  obtain ⟨is, ic, ix9, rx9, text, c0, c1, c2, c3, c4, c5, c6, c7⟩ := b4 h2
  have c3 : (P.2.2.2.2 a).2.length ≤ 8 := c3
  obtain ⟨sa, hsa⟩ := hb.2.2.2.2.1.1 _ c4
  have hout : ∀ x ∈ c.exceptionTable.toList, ∀ z : Nat, covers x z = false := by
    intro x hx z
    rw [htab, h3] at hx
    cases hx
  have hgood : ∀ w' ∈ Jvm.Cond.classLink (P.2.1 mi).1.cls ix (P.2.2.2.2 a).1 :: Jvm.Cond.initialized (P.2.2.2.2 a).1 :: bAt (P.2.1 mi).1.cls ic (P.2.2.2.2 a).1 ix9 rx9 (P.2.2.2.2 a).2, vx_ot w' = true := fun w' hw' => by
    rcases c5 w' hw' with h9 | ⟨x, -, rfl⟩ | ⟨x, -, rfl⟩
    · unfold vx_ot
      rw [bw_Gok _ h9]
      exact Bool.or_true _
    · rfl
    · rfl
  have c5 : ∀ w' ∈ Jvm.Cond.classLink (P.2.1 mi).1.cls ix (P.2.2.2.2 a).1 :: Jvm.Cond.initialized (P.2.2.2.2 a).1 :: bAt (P.2.1 mi).1.cls ic (P.2.2.2.2 a).1 ix9 rx9 (P.2.2.2.2 a).2, w'.before args s = true := fun w' hw' => by
    rcases c5 w' hw' with h9 | ⟨x, hx, rfl⟩ | ⟨x, hx, rfl⟩
    · exact C0.2.2.2.2 _ h9
    · exact (hb.2.2.2.2.2.2.2.2.2.1 x hx).use rfl
    · exact (hb.2.2.2.2.2.2.2.2.2.2.2.2 x hx).use rfl
  have hfin : ∀ t : State, s.vm.Alike t.vm → H.size ≤ t.heap.size → (∀ q : Nat, q < H.size → t.heap[q]? = H[q]?) → bXC K (.inr (P.2.2.2.2 a).1) (w.1, w.2 + 1) (P.2.2.2.2 a).1 s t := fun t _ f1 f2 =>
    ⟨rfl, ⟨hw.1.kept f1 f2, fun h => absurd h (Nat.succ_ne_zero _)⟩, ⟨Nat.le_trans hw.2.1 f1, fun q g1 g2 => (f2 q (Nat.lt_of_lt_of_le g1 hw.2.1)).trans (hw.2.2.1 q g1 g2)⟩⟩
  simp only [] at hmc hms
  rcases c7 with ⟨c7, c8, c9⟩ | ⟨c7, c8, c9⟩
  · exact bt_throw (n := 2) C0.1 C0.2.1 hst c0 C0.2.2.2.1 c1 c2 (c5 _ List.mem_cons_self) (c5 _ (List.mem_cons_of_mem _ List.mem_cons_self)) hsa (fun w' hw' => c5 _ (List.mem_cons_of_mem _ (List.mem_cons_of_mem _ hw'))) hgood hb.2.2.1 hb.2.2.2.1 hw.2 (by rw [C0.2.2.1]; exact hl.1) hd c6 (Or.inl ⟨rfl, c7⟩) c8 c9 (fun x hx => hout x hx _) (by omega) (by simp only [List.map_nil, List.sum_nil]; omega) (by omega) (by omega) hlk hfin hw.2.2.2 (by omega) (by omega)
  · exact bt_throw (n := 3) C0.1 C0.2.1 hst c0 C0.2.2.2.1 c1 c2 (c5 _ List.mem_cons_self) (c5 _ (List.mem_cons_of_mem _ List.mem_cons_self)) hsa (fun w' hw' => c5 _ (List.mem_cons_of_mem _ (List.mem_cons_of_mem _ hw'))) hgood hb.2.2.1 hb.2.2.2.1 hw.2 (by rw [C0.2.2.1]; exact hl.1) hd c6 (Or.inr ⟨rfl, c7⟩) c8 c9 (fun x hx => hout x hx _) (by omega) (by simp only [List.map_nil, List.sum_nil]; omega) (by omega) (by omega) hlk hfin hw.2.2.2 (by omega) (by omega)
end BSOUND
