/-! THE CHECKS of the code tables, for the kernel. Words of the tables by their places: 1000 * (part of the tables) + (place there); part 0: the private methods' selects. -/
def bprog : Nat → List Jvm.Cond := fun k => match k with
  | 0 => k2_sels lw_privs
  | 1 => tables_1_1
  | 2 => tables_1_2
  | 3 => tables_1_3
  | 4 => tables_1_4
  | 5 => tables_1_5
  | 6 => tables_1_6
  | 7 => tables_1_7
  | 8 => tables_1_8
  | 9 => tables_1_9
  | 10 => tables_1_10
  | 11 => tables_1_11
  | _ => []
def bwk (j : Nat) (w : Jvm.Cond) : Bool := decide ((bprog (j / 1000))[j % 1000]? = some w) && goodWord w
theorem bprog_in (k : Nat) : ∀ w ∈ bprog k, w ∈ lw_tbl := by
  intro w hw
  unfold bprog at hw
  unfold lw_tbl tables_1
  split at hw <;> first | (simp only [List.mem_append]; simp only [hw, true_or, or_true]; done) | cases hw
theorem bwk_in {j : Nat} {w : Jvm.Cond} (h : bwk j w = true) : w ∈ bw_G := by
  unfold bwk at h
  simp only [Bool.and_eq_true, decide_eq_true_eq] at h
  exact bw_in (bprog_in _ w (List.mem_of_getElem? h.1)) h.2
/-- of a class: the words that it can be made, that it stands ready -/
abbrev bcj : Type := Nat → Nat × Nat
/-- of a method: its code's word, what it is (of an object, static), how it is selected, its class's start; how many it takes -/
abbrev bmj : Type := Nat → Nat × Nat × Nat × Nat × Nat
def bchkX (cj : bcj) (own nm : String) (pc : Nat) (o : bO) : Bool := match o.1 with
  | .ldc ix => bwk o.2.1 (.constant own ix (Int32.ofInt o.2.2.2.2))
  | .ldc2_w ix => bwk o.2.1 (.constantLong own ix (Int64.ofInt o.2.2.2.2))
  | .goto off => decide ((pc : Int) + off = (o.2.2.1 : Int))
  | .ifCond _ off => decide ((pc : Int) + off = (o.2.2.1 : Int))
  | .if_icmp _ off => decide ((pc : Int) + off = (o.2.2.1 : Int))
  | .getfield ix => decide (2 ≤ o.2.2.1) && (match vwCl[o.2.2.1]? with
    | some q => decide (o.2.2.2.1 < q.2.2) && bwk o.2.1 (.fieldLink own ix (q.2.1 o.2.2.2.1).1 (q.2.1 o.2.2.2.1).2.1 (q.2.1 o.2.2.2.1).2.2.1)
    | none => false)
  | .putfield ix => decide (2 ≤ o.2.2.1) && (match vwCl[o.2.2.1]? with
    | some q => decide (o.2.2.2.1 < q.2.2) && bwk o.2.1 (.fieldLink own ix (q.2.1 o.2.2.2.1).1 (q.2.1 o.2.2.2.1).2.1 (q.2.1 o.2.2.2.1).2.2.1) && (!(q.2.1 o.2.2.2.1).2.2.2 || (decide (nm = "<init>") && decide ((q.2.1 o.2.2.2.1).1 = own)))
    | none => false)
  | .getstatic ix => (match bsf o.2.2.1 with
    | some f => bwk o.2.1 (.fieldLink own ix f.1 f.2.1 f.2.2) || decide ((own, ix, f.1, f.2.1, f.2.2, "Boxedvalue") ∈ bwN)
    | none => false)
  | .new ix => if o.2.2.2.2 = 0 then decide (2 ≤ o.2.2.1) && (match vwCl[o.2.2.1]? with
    | some q => decide (q.2.2 = (bty o.2.2.1).length) && bwk o.2.1 (.classLink own ix q.1) && bwk (cj o.2.2.1).1 (.instantiable q.1 q.2.2) && bwk (cj o.2.2.1).2 (.initialized q.1)
    | none => false) else true
  | .newarray t => bwk o.2.1 (.arrayClass (newarray.typeOf t)) && (match t with
    | .char => decide (o.2.2.1 = 0)
    | .int => decide (o.2.2.1 = 1)
    | .long => decide (o.2.2.1 = 2)
    | .boolean => decide (o.2.2.1 = 3)
    | _ => false)
  | .anewarray ix => if o.2.2.1 = 4 then bwk o.2.1 (.classLink own ix "Boxedvalue$Box") else decide (o.2.2.1 = 5) && bwk o.2.1 (.classLink own ix "Boxedvalue$Formula")
  | .invokespecial ix => if o.2.2.2.2 = 1 then bwk o.2.1 (.methodLink own ix Lib.objectInit) else true
  | _ => true
def bchkD (cc : ByteArray) (pc : Nat) (o : bO) : Bool := match o.1 with
  | .lookupswitch _ ps => decide (decode cc pc = .ok (o.1, o.2.1)) && (ps.toList.zip (ps.toList.drop 1)).all (fun (a, next) => a.1 < next.1)
  | .tableswitch _ _ _ _ => decide (decode cc pc = .ok (o.1, o.2.1))
  | _ => decide (decode cc pc = .ok (o.1, bln o.1))
/-- of a method that is called: its class, how many it takes, its words -/
def bchkM (M : Nat → bM) (mj : bmj) (mi : Nat) : Bool := decide ((M mi).1.cls ≠ "java/lang/invoke/MethodHandle") && decide ((M mi).1.cls ≠ "java/lang/invoke/VarHandle") && decide ((parseMethodDescriptor (M mi).1.desc).map (fun d => d.parameters.length) = some (mj mi).2.2.2.2) && bwk (mj mi).2.2.2.1 (.initialized (M mi).1.cls)
def bchkV (M : Nat → bM) (mj : bmj) (own : String) (ix j a b : Nat) (v : Int) : Bool := decide ((mj a).1 ≠ 0) && decide ((mj a).2.2.2.2 = b) && (match vwCl[v.toNat]? with
    | some q => decide (q.1 = (M a).1.cls)
    | none => false) && bwk j (.methodLink own ix (M a).1) && bwk (mj a).2.1 (.instanceMethod (M a).1) && bwk (mj a).2.2.1 (.selects (M a).1.cls (M a).1 (M a).1) && (M a).2.2.2.2.isEmpty
def bchkS (M : Nat → bM) (mj : bmj) (own : String) (ix j a b : Nat) (v : Int) : Bool := decide ((mj a).1 ≠ 0) && decide ((mj a).2.2.2.2 = b) && ((bwk j (.methodLink own ix (M a).1) && decide (v = 0)) || (decide ((own, ix, (M a).1, "Boxedvalue") ∈ bwM) && decide (v ≠ 0) && (M a).2.2.2.2.isEmpty)) && bwk (mj a).2.1 (.static (M a).1)
def bchkI (M : Nat → bM) (mj : bmj) (own : String) (ix j a b : Nat) : Bool := decide ((mj a).1 ≠ 0) && decide ((mj a).2.2.2.2 = b) && decide ((M a).1.name = "<init>") && decide ((M a).2.2.2.1 = none) && bwk j (.methodLink own ix (M a).1) && bwk (mj a).2.1 (.instanceMethod (M a).1) && (M a).2.2.2.2.isEmpty
def bchkC (M : Nat → bM) (mj : bmj) (own : String) (o : bO) : Bool := match o.1 with
  | .invokevirtual ix => bchkV M mj own ix o.2.1 o.2.2.1 o.2.2.2.1 o.2.2.2.2
  | .invokestatic ix => bchkS M mj own ix o.2.1 o.2.2.1 o.2.2.2.1 o.2.2.2.2
  | .invokespecial ix => if o.2.2.2.2 = 0 then bchkI M mj own ix o.2.1 o.2.2.1 o.2.2.2.1 else true
  | _ => true
theorem bchkD_ok {cc : ByteArray} {pc : Nat} {o : bO} (h : bchkD cc pc o = true) : bOkD cc pc o := by
  unfold bchkD at h
  unfold bOkD
  split at h
  · rename_i d ps hi
    rw [hi] at h ⊢
    simp only [Bool.and_eq_true, decide_eq_true_eq] at h
    exact h
  · rename_i a b c d hi
    rw [hi] at h ⊢
    exact of_decide_eq_true h
  · rename_i h1 h2
    split
    · rename_i d ps hi
      exact absurd hi (h1 d ps)
    · rename_i a b c d hi
      exact absurd hi (h2 a b c d)
    · exact of_decide_eq_true h
theorem bchkX_ok {cj : bcj} {own nm : String} {pc : Nat} {o : bO} (hobj : Jvm.Cond.instanceMethod Lib.objectInit ∈ bw_G ∧ Jvm.Cond.code Lib.objectInit ⟨#[0xb1]⟩ 1 none ∈ bw_G) (h : bchkX cj own nm pc o = true) : bOkX own nm pc o := by
  obtain ⟨ins, ln, a, b, v⟩ := o
  cases ins with
  | ldc ix => exact bwk_in h
  | ldc2_w ix => exact bwk_in h
  | goto off =>
    show (pc : Int) + off = (a : Int)
    exact of_decide_eq_true h
  | ifCond cd off =>
    show (pc : Int) + off = (a : Int)
    exact of_decide_eq_true h
  | if_icmp cd off =>
    show (pc : Int) + off = (a : Int)
    exact of_decide_eq_true h
  | getfield ix =>
    obtain ⟨h1, h2⟩ := Bool.and_eq_true_iff.mp h
    refine ⟨of_decide_eq_true h1, ?_⟩
    simp only [] at h2 ⊢
    split at h2
    · rename_i q hq
      obtain ⟨C, T, N⟩ := q
      obtain ⟨h3, h4⟩ := Bool.and_eq_true_iff.mp h2
      exact ⟨C, T, N, hq, of_decide_eq_true h3, bwk_in h4⟩
    · cases h2
  | putfield ix =>
    obtain ⟨h1, h2⟩ := Bool.and_eq_true_iff.mp h
    refine ⟨of_decide_eq_true h1, ?_⟩
    simp only [] at h2 ⊢
    split at h2
    · rename_i q hq
      obtain ⟨C, T, N⟩ := q
      obtain ⟨h3, h4⟩ := Bool.and_eq_true_iff.mp h2
      obtain ⟨h5, h6⟩ := Bool.and_eq_true_iff.mp h3
      refine ⟨C, T, N, hq, of_decide_eq_true h5, bwk_in h6, ?_⟩
      simp only [] at h4
      cases hf : (T b).2.2.2 with
      | false => exact Or.inl rfl
      | true =>
        rw [hf] at h4
        obtain ⟨h7, h8⟩ := Bool.and_eq_true_iff.mp h4
        exact Or.inr ⟨rfl, of_decide_eq_true h7, of_decide_eq_true h8⟩
    · cases h2
  | getstatic ix =>
    have h : (match bsf a with
      | some f => bwk ln (.fieldLink own ix f.1 f.2.1 f.2.2) || decide ((own, ix, f.1, f.2.1, f.2.2, "Boxedvalue") ∈ bwN)
      | none => false) = true := h
    split at h
    · rename_i f hf
      refine ⟨f, hf, ?_⟩
      rcases Bool.or_eq_true_iff.mp h with h1 | h1
      · exact Or.inl (bwk_in h1)
      · exact Or.inr ⟨_, of_decide_eq_true h1⟩
    · cases h
  | new ix =>
    intro hv
    have hv : v = 0 := hv
    subst hv
    have h : (decide (2 ≤ a) && (match vwCl[a]? with
      | some q => decide (q.2.2 = (bty a).length) && bwk ln (.classLink own ix q.1) && bwk (cj a).1 (.instantiable q.1 q.2.2) && bwk (cj a).2 (.initialized q.1)
      | none => false)) = true := h
    obtain ⟨h1, h2⟩ := Bool.and_eq_true_iff.mp h
    refine ⟨of_decide_eq_true h1, ?_⟩
    split at h2
    · rename_i q hq
      obtain ⟨C, T, N⟩ := q
      simp only [Bool.and_eq_true, decide_eq_true_eq] at h2
      exact ⟨C, T, N, hq, h2.1.1.1, bwk_in h2.1.1.2, bwk_in h2.1.2, bwk_in h2.2⟩
    · cases h2
  | newarray t =>
    obtain ⟨h1, h2⟩ := Bool.and_eq_true_iff.mp h
    refine ⟨bwk_in h1, ?_⟩
    cases t <;> first | cases h2 | (have h3 := of_decide_eq_true h2; simp [h3]; done) | (simp at h2; simp [h2]; done)
  | anewarray ix =>
    have h : (if a = 4 then bwk ln (.classLink own ix "Boxedvalue$Box") else decide (a = 5) && bwk ln (.classLink own ix "Boxedvalue$Formula")) = true := h
    split at h
    · rename_i ha
      exact Or.inl ⟨bwk_in h, ha⟩
    · obtain ⟨h1, h2⟩ := Bool.and_eq_true_iff.mp h
      exact Or.inr ⟨bwk_in h2, of_decide_eq_true h1⟩
  | invokespecial ix =>
    intro hv
    have hv : v = 1 := hv
    subst hv
    exact ⟨bwk_in h, hobj.1, hobj.2⟩
  | _ => trivial
theorem bchkM_ok {M : Nat → bM} {mj : bmj} {mi : Nat} (h : bchkM M mj mi = true) : (M mi).1.cls ≠ "java/lang/invoke/MethodHandle" ∧ (M mi).1.cls ≠ "java/lang/invoke/VarHandle" ∧ (parseMethodDescriptor (M mi).1.desc).map (fun d => d.parameters.length) = some (mj mi).2.2.2.2 ∧ Jvm.Cond.initialized (M mi).1.cls ∈ bw_G := by
  unfold bchkM at h
  simp only [Bool.and_eq_true, decide_eq_true_eq] at h
  exact ⟨h.1.1.1, h.1.1.2, h.1.2, bwk_in h.2⟩
theorem bchkC_ok {P : bP} {mj : bmj} {own : String} {o : bO} (hM : ∀ a, (mj a).1 ≠ 0 → bchkM P.2.1 mj a = true) (hH : ∀ a, (mj a).1 ≠ 0 → bHead (P.2.1 a) ∈ bw_G) (h : bchkC P.2.1 mj own o = true) : bOkC P own o := by
  obtain ⟨ins, ln, a, b, v⟩ := o
  cases ins with
  | invokevirtual ix =>
    have h : bchkV P.2.1 mj own ix ln a b v = true := h
    unfold bchkV at h
    simp only [Bool.and_eq_true, decide_eq_true_eq] at h
    obtain ⟨⟨⟨⟨⟨⟨h1, h2⟩, h3⟩, h4⟩, h5⟩, h6⟩, h7⟩ := h
    obtain ⟨m1, m2, m3, m5⟩ := bchkM_ok (hM _ h1)
    have m4 := hH _ h1
    refine ⟨m1, m2, by rw [m3, h2], ?_, bwk_in h4, bwk_in h5, bwk_in h6, m5, List.isEmpty_iff.mp h7, m4⟩
    split at h3
    · rename_i q hq
      obtain ⟨C, T, N⟩ := q
      have h3 : C = (P.2.1 a).1.cls := of_decide_eq_true h3
      subst h3
      exact ⟨T, N, hq⟩
    · cases h3
  | invokestatic ix =>
    have h : bchkS P.2.1 mj own ix ln a b v = true := h
    unfold bchkS at h
    simp only [Bool.and_eq_true, Bool.or_eq_true, decide_eq_true_eq] at h
    obtain ⟨⟨⟨h1, h2⟩, h3⟩, h4⟩ := h
    obtain ⟨m1, m2, m3, m5⟩ := bchkM_ok (hM _ h1)
    have m4 := hH _ h1
    refine ⟨m1, m2, by rw [m3, h2], ?_, bwk_in h4, m5, m4⟩
    rcases h3 with ⟨h5, h6⟩ | ⟨⟨h5, h6⟩, h7⟩
    · exact Or.inl ⟨bwk_in h5, h6⟩
    · exact Or.inr ⟨⟨_, h5⟩, h6, List.isEmpty_iff.mp h7⟩
  | invokespecial ix =>
    intro hv
    have hv : v = 0 := hv
    subst hv
    have h : bchkI P.2.1 mj own ix ln a b = true := h
    unfold bchkI at h
    simp only [Bool.and_eq_true, decide_eq_true_eq] at h
    obtain ⟨⟨⟨⟨⟨⟨h1, h2⟩, h3⟩, h4⟩, h5⟩, h6⟩, h7⟩ := h
    obtain ⟨m1, m2, m3, m5⟩ := bchkM_ok (hM _ h1)
    have m4 := hH _ h1
    exact ⟨h3, h4, m1, m2, by rw [m3, h2], bwk_in h5, bwk_in h6, m5, List.isEmpty_iff.mp h7, m4⟩
  | _ => trivial
/-- a throw: the five instructions, the message, the exception's links -/
def bchkT (xx : Nat → String × List String × Nat × Nat) (strs : List (String × Nat × String)) (own : String) (cc : ByteArray) (pc : Nat) (o : bO) : Bool := match o.1 with
  | .new ik => if o.2.2.2.2 = 1 then decide (own = "Boxedvalue") && decide (o.2.2.1 < 6) && decide (ik = (xx o.2.2.1).2.2.1) && decide (o.2.1 = (xx o.2.2.1).2.2.2) && strs.any (fun q => decide (q.1 = own) && decide (q.2.1 = o.2.2.2.1)) && decide (decode cc (pc + 3) = .ok (.dup, 1)) &&
    ((decide (decode cc (pc + 4) = .ok (.ldc o.2.2.2.1, 2)) && decide (decode cc (pc + 6) = .ok (.invokespecial o.2.1, 3)) && decide (decode cc (pc + 9) = .ok (.athrow, 1))) || (decide (decode cc (pc + 4) = .ok (.ldc_w o.2.2.2.1, 3)) && decide (decode cc (pc + 7) = .ok (.invokespecial o.2.1, 3)) && decide (decode cc (pc + 10) = .ok (.athrow, 1)))) else true
  | _ => true
theorem bchkT_ok {K : KE} {P : bP} {xx : Nat → String × List String × Nat × Nat} {strs : List (String × Nat × String)} {own : String} {cc : ByteArray} {pc : Nat} {o : bO} (hP : ∀ a, P.2.2.2.2 a = ((xx a).1, (xx a).2.1)) (hs : K.str = strs)
    (hx : ∀ a, a < 6 → ∃ (ix : Nat) (rx : ByteArray), bRx ix rx ∧ Bundle.fit (xx a).1 = true ∧ (∀ n ∈ (xx a).2.1, Bundle.fit n = true) ∧ (xx a).2.1.length ≤ 8 ∧ ∀ w ∈ Jvm.Cond.classLink "Boxedvalue" (xx a).2.2.1 (xx a).1 :: Jvm.Cond.initialized (xx a).1 :: bAt "Boxedvalue" (xx a).2.2.2 (xx a).1 ix rx (xx a).2.1, w ∈ bw_G ∨ (∃ x ∈ bwD, w = .declares x) ∨ ∃ x ∈ bwC, w = .castable x x)
    (h : bchkT xx strs own cc pc o = true) : bOkT K P own cc pc o := by
  obtain ⟨ins, ln, a, b, v⟩ := o
  cases ins with
  | new ik =>
    intro hv
    have hv : v = 1 := hv
    subst hv
    have h : (decide (own = "Boxedvalue") && decide (a < 6) && decide (ik = (xx a).2.2.1) && decide (ln = (xx a).2.2.2) && strs.any (fun q => decide (q.1 = own) && decide (q.2.1 = b)) && decide (decode cc (pc + 3) = .ok (.dup, 1)) &&
      ((decide (decode cc (pc + 4) = .ok (.ldc b, 2)) && decide (decode cc (pc + 6) = .ok (.invokespecial ln, 3)) && decide (decode cc (pc + 9) = .ok (.athrow, 1))) || (decide (decode cc (pc + 4) = .ok (.ldc_w b, 3)) && decide (decode cc (pc + 7) = .ok (.invokespecial ln, 3)) && decide (decode cc (pc + 10) = .ok (.athrow, 1))))) = true := h
    simp only [Bool.and_eq_true, Bool.or_eq_true, decide_eq_true_eq, List.any_eq_true] at h
    obtain ⟨⟨⟨⟨⟨⟨h1, h2⟩, h3⟩, h4⟩, ⟨q, hq, hq1, hq2⟩⟩, h6⟩, h7⟩ := h
    obtain ⟨ix9, rx9, x0, x1, x2, x3, x4⟩ := hx a h2
    subst h1
    subst h3
    obtain ⟨q1, q2, q3⟩ := q
    have hq1 : q1 = "Boxedvalue" := hq1
    have hq2 : q2 = b := hq2
    subst hq1
    subst hq2
    have e : P.2.2.2.2 a = ((xx a).1, (xx a).2.1) := hP a
    refine ⟨q2, ln, ix9, rx9, q3, x0, by rw [e]; exact x1, by rw [e]; exact x2, by rw [e]; exact x3, by rw [hs]; exact hq, ?_, h6, ?_⟩
    · rw [e, h4]; exact x4
    · rcases h7 with ⟨⟨g1, g2⟩, g3⟩ | ⟨⟨g1, g2⟩, g3⟩
      · exact Or.inl ⟨g1, g2, g3⟩
      · exact Or.inr ⟨g1, g2, g3⟩
  | _ => trivial
