/-! WHAT IS READ, THE MACHINE DOES: a step. -/
def bln (i : Instr) : Nat := match i with
  | .bipush _ => 2
  | .ldc _ => 2
  | .iload _ => 2
  | .lload _ => 2
  | .aload _ => 2
  | .istore _ => 2
  | .lstore _ => 2
  | .astore _ => 2
  | .newarray _ => 2
  | .sipush _ => 3
  | .ldc2_w _ => 3
  | .ldc_w _ => 3
  | .iinc _ _ => 3
  | .goto _ => 3
  | .ifCond _ _ => 3
  | .if_icmp _ _ => 3
  | .getfield _ => 3
  | .putfield _ => 3
  | .getstatic _ => 3
  | .new _ => 3
  | .anewarray _ => 3
  | .invokevirtual _ => 3
  | .invokestatic _ => 3
  | .invokespecial _ => 3
  | _ => 1
/-- the static fields of arrays, by their numbers -/
def bsf (j : Nat) : Option (String × String × String) := match j with
  | 0 => some ("Boxedvalue", "TENS", "[J")
  | 2 => some ("Boxedvalue$Curves", "LOGS", "[I")
  | 3 => some ("Boxedvalue$Curves", "ARCS", "[I")
  | _ => none
/-- what is owed of an instruction: it stands in the code, and the tables say what it links to -/
def bOkX (own nm : String) (pc : Nat) (o : bO) : Prop := match o.1 with
  | .ldc ix => Jvm.Cond.constant own ix (Int32.ofInt o.2.2.2.2) ∈ bw_G
  | .ldc2_w ix => Jvm.Cond.constantLong own ix (Int64.ofInt o.2.2.2.2) ∈ bw_G
  | .goto off => (pc : Int) + off = (o.2.2.1 : Int)
  | .ifCond _ off => (pc : Int) + off = (o.2.2.1 : Int)
  | .if_icmp _ off => (pc : Int) + off = (o.2.2.1 : Int)
  | .getfield ix => 2 ≤ o.2.2.1 ∧ ∃ (C : String) (T : u_T) (N : Nat), vwCl[o.2.2.1]? = some (C, T, N) ∧ o.2.2.2.1 < N ∧ Jvm.Cond.fieldLink own ix (T o.2.2.2.1).1 (T o.2.2.2.1).2.1 (T o.2.2.2.1).2.2.1 ∈ bw_G
  | .putfield ix => 2 ≤ o.2.2.1 ∧ ∃ (C : String) (T : u_T) (N : Nat), vwCl[o.2.2.1]? = some (C, T, N) ∧ o.2.2.2.1 < N ∧ Jvm.Cond.fieldLink own ix (T o.2.2.2.1).1 (T o.2.2.2.1).2.1 (T o.2.2.2.1).2.2.1 ∈ bw_G ∧ ((T o.2.2.2.1).2.2.2 = false ∨ ((T o.2.2.2.1).2.2.2 = true ∧ nm = "<init>" ∧ (T o.2.2.2.1).1 = own))
  | .getstatic ix => ∃ f : String × String × String, bsf o.2.2.1 = some f ∧ (Jvm.Cond.fieldLink own ix f.1 f.2.1 f.2.2 ∈ bw_G ∨ ∃ host : String, (own, ix, f.1, f.2.1, f.2.2, host) ∈ bwN)
  | .new ix => o.2.2.2.2 = 0 → 2 ≤ o.2.2.1 ∧ ∃ (C : String) (T : u_T) (N : Nat), vwCl[o.2.2.1]? = some (C, T, N) ∧ N = (bty o.2.2.1).length ∧ Jvm.Cond.classLink own ix C ∈ bw_G ∧ Jvm.Cond.instantiable C N ∈ bw_G ∧ Jvm.Cond.initialized C ∈ bw_G
  | .newarray t => Jvm.Cond.arrayClass (newarray.typeOf t) ∈ bw_G ∧ ((t = .char ∧ o.2.2.1 = 0) ∨ (t = .int ∧ o.2.2.1 = 1) ∨ (t = .long ∧ o.2.2.1 = 2) ∨ (t = .boolean ∧ o.2.2.1 = 3))
  | .anewarray ix => (Jvm.Cond.classLink own ix "Boxedvalue$Box" ∈ bw_G ∧ o.2.2.1 = 4) ∨ (Jvm.Cond.classLink own ix "Boxedvalue$Formula" ∈ bw_G ∧ o.2.2.1 = 5)
  | .invokespecial ix => o.2.2.2.2 = 1 → Jvm.Cond.methodLink own ix Lib.objectInit ∈ bw_G ∧ Jvm.Cond.instanceMethod Lib.objectInit ∈ bw_G ∧ Jvm.Cond.code Lib.objectInit ⟨#[0xb1]⟩ 1 none ∈ bw_G
  | _ => True
def bOkD (cc : ByteArray) (pc : Nat) (o : bO) : Prop := match o.1 with
  | .lookupswitch _ ps => decode cc pc = .ok (o.1, o.2.1) ∧ (ps.toList.zip (ps.toList.drop 1)).all (fun (a, next) => a.1 < next.1) = true
  | .tableswitch _ _ _ _ => decode cc pc = .ok (o.1, o.2.1)
  | _ => decode cc pc = .ok (o.1, bln o.1)
/-- the classes' fields -/
def bdok (t : FieldType) : Bool := match t with
  | .int => true
  | .long => true
  | .boolean => true
  | .char => true
  | .object _ => true
  | .array _ => true
  | _ => false
def bClsOk : Prop := ∀ (ci : Nat) (C : String) (T : u_T) (N : Nat), vwCl[ci]? = some (C, T, N) → 2 ≤ ci → N = (bty ci).length ∧ (∀ k, k < N → parseFieldDescriptor (T k).2.2.1 = some ((bty ci).getD k .byte)) ∧ (∀ w ∈ u_ws C T N, w ∈ bw_G) ∧ (∀ a, a < N → ∀ b, b < N → a ≠ b → (T a).2.1 ≠ (T b).2.1) ∧ (∀ k, k < N → bdok ((bty ci).getD k .byte) = true)
/-- the arrays outside are as the reader has them -/
def bEok (K : KE) (E : Nat → bC) : Prop := ∀ j : Nat, (∀ (t : Nat) (xs : List Int32), E j = .inr (.inl (t, xs)) → t = 1 ∧ ∃ (f : Nat → Value) (nm : Option (String × String × String)), K.arr[j]? = some (.int, xs.length, f, nm) ∧ (∀ i, i < xs.length → f i = .int (xs.getD i 0))) ∧
  (∀ xs : List Int64, E j = .inr (.inr (.inl xs)) → ∃ (f : Nat → Value) (nm : Option (String × String × String)), K.arr[j]? = some (.long, xs.length, f, nm) ∧ (∀ i, i < xs.length → f i = .long (xs.getD i 0))) ∧
  (∀ f : String × String × String, bsf j = some f → ∃ q, K.arr[j]? = some q ∧ q.2.2.2 = some f) ∧ (∀ (t : Nat) (xs : List (Option Nat)), E j ≠ .inr (.inr (.inr (t, xs))))
theorem bokf_v {K : KE} {t : FieldType} {v : bV} (h : bokf t v = true) : narrow t (bvv K v) = bvv K v ∧ fits t (bvv K v) = true := by
  cases t <;> rcases v with x | x | k | _ | j <;> first | exact ⟨rfl, rfl⟩ | cases h | exact ⟨of_decide_eq_true (Bool.and_eq_true_iff.mp h).1, (Bool.and_eq_true_iff.mp h).2⟩
theorem bdf_v {K : KE} {t : FieldType} (h : bdok t = true) : defaultValue t = bvv K (bdf t) := by
  cases t <;> first | rfl | cases h
theorem bin_of {i : Int32} {n : Nat} (h : bin i n = true) : vp_in i n ∧ i.toNatClampNeg < n := by
  simp only [bin, Bool.and_eq_true, decide_eq_true_eq] at h
  exact ⟨fun q => q.elim h.1 (fun q => by omega), h.2⟩
theorem b_getD_set {α : Type} {xs : List α} {i j : Nat} {x d : α} (h : i < xs.length) : (xs.set i x).getD j d = if j = i then x else xs.getD j d := by
  simp only [List.getD_eq_getElem?_getD]
  by_cases hj : j = i
  · subst hj; simp [h]
  · rw [if_neg hj, List.getElem?_set_ne (fun q => hj q.symm)]
theorem bat {K : KE} {cs : List bC} {H : Heap} {r : Nat} {c : bC} (h : bw K.D K.B cs.length (bct K cs) H) (hr : cs[r]? = some c) : va_at K.D vwCl (K.B + r, bce K c) H := by
  have h1 := h.2 r (List.getElem?_eq_some_iff.mp hr).1
  rw [bct_at hr] at h1
  exact h1
theorem bS.set {K : KE} {cs : List bC} {s : State} {H H1 : Heap} {locs : List Loc} (hw : bS K.D K.B cs.length (bct K cs) s H locs) {r i : Nat} {c : bC} (hr : r < cs.length) (h1 : va_at K.D vwCl (K.B + r, bce K c) H1) (hz : H1.size = H.size) (hq : ∀ q : Nat, q ≠ K.B + r → H1[q]? = H[q]?) : bS K.D K.B (cs.set r c).length (bct K (cs.set r c)) s H1 (locs ++ [⟨K.B + r, i⟩]) := by
  rw [List.length_set, bct_set hr]
  exact hw.put _ h1 hz hq
abbrev bvl (K : KE) (lv : List (Nat × bV)) : List (Nat × Value) := lv.map (fun q => (q.1, bvv K q.2))
theorem blk_in {lv : List (Nat × bV)} {i : Nat} {v : bV} (h : blk lv i = some v) : (i, v) ∈ lv := by
  induction lv with
  | nil => cases h
  | cons q t ih =>
    unfold blk at h
    by_cases hq : q.1 = i
    · rw [if_pos hq] at h
      cases h
      exact List.mem_cons.mpr (Or.inl (by rw [← hq]))
    · rw [if_neg hq] at h
      exact List.mem_cons_of_mem _ (ih h)
theorem blk_has {K : KE} {ls : Array Slot} {nL : Nat} {lv : List (Nat × bV)} {i : Nat} {v : bV} (hl : lv_has ls nL (bvl K lv)) (h : blk lv i = some v) : ls[i]? = some (.val (bvv K v)) :=
  hl.2.2 (i, bvv K v) (List.mem_map.mpr ⟨_, blk_in h, rfl⟩)
theorem bst1_v (K : KE) (lv : List (Nat × bV)) (i : Nat) (v : bV) : (i, bvv K v) :: (bvl K lv).filter (fun q => !(q.1 == i) && !(q.1 + 1 == i && q.2.category == 2)) = bvl K (bst1 lv i v) := by
  simp only [bst1, bvl, List.map_cons, List.filter_map, Function.comp_def, bvc_v]
theorem bst2_v (K : KE) (lv : List (Nat × bV)) (i : Nat) (v : bV) : (i, bvv K v) :: (bvl K lv).filter (fun q => !(q.1 == i) && (!(q.1 == i + 1) && !(q.1 + 1 == i && q.2.category == 2))) = bvl K (bst2 lv i v) := by
  simp only [bst2, bvl, List.map_cons, List.filter_map, Function.comp_def, bvc_v]
section BSTEP
variable {p : Program} {l : Launch} {e : Env} {R : Room} {s : State} {m : MethodId} {args : Array Value} {below : List Frame} {meth : Method} {c : Code} {H : Heap} {locs : List Loc} {cells slots : Nat} {Q : State → Prop}
variable {cc : ByteArray} {pc nL : Nat} {own : String} {ls : Array Slot} {K : KE} {E : Nat → bC} {lv lv' : List (Nat × bV)} {st st' : List bV} {w w' : bW} {pc' : Nat}
def bCont (p : Program) (l : Launch) (e : Env) (R : Room) (s : State) (m : MethodId) (args : Array Value) (below : List Frame) (meth : Method) (c : Code) (cells slots : Nat) (Q : State → Prop) (K : KE) (nL : Nat) (w : bW) (q : bF) : Prop :=
  ∀ (H1 : Heap) (locs1 : List Loc) (ls1 : Array Slot) (cells1 slots1 : Nat), bS K.D K.B q.2.2.2.1.length (bct K q.2.2.2.1) s H1 locs1 → (q.2.2.2.2 = 0 → H1.size = K.B + q.2.2.2.1.length) → lv_has ls1 nL (bvl K q.2.1) → cells1 + w.1.length = cells + q.2.2.2.1.length → slots1 + bsz w.1 = slots + bsz q.2.2.2.1 → W p l e R s m args below meth c H1 locs1 cells1 slots1 Q (F0 m q.1 ls1 (q.2.2.1.map (bvv K)))
theorem bp (hw : bS K.D K.B w.1.length (bct K w.1) s H locs) (hz : w.2 = 0 → H.size = K.B + w.1.length) (hl : lv_has ls nL (bvl K lv)) (k : bCont p l e R s m args below meth c cells slots Q K nL w (pc', lv, st', w)) : W p l e R s m args below meth c H locs cells slots Q (F0 m pc' ls (st'.map (bvv K))) :=
  k H locs ls cells slots hw hz hl rfl rfl
theorem bi2_inv {f : Int32 → Int32 → Option Int32} {q : bF} (h : bi2 pc lv st w f = some q) : ∃ (x y v : Int32) (r : List bV), st = .inl y :: .inl x :: r ∧ f x y = some v ∧ (pc + 1, lv, .inl v :: r, w) = q := by
  unfold bi2 at h
  split at h
  · split at h
    · rename_i v hv
      exact ⟨_, _, v, _, rfl, hv, Option.some.inj h⟩
    · cases h
  · cases h
theorem bl2_inv {f : Int64 → Int64 → Option bV} {q : bF} (h : bl2 pc lv st w f = some q) : ∃ (x y : Int64) (v : bV) (r : List bV), st = .inr (.inl y) :: .inr (.inl x) :: r ∧ f x y = some v ∧ (pc + 1, lv, v :: r, w) = q := by
  unfold bl2 at h
  split at h
  · split at h
    · rename_i v hv
      exact ⟨_, _, v, _, rfl, hv, Option.some.inj h⟩
    · cases h
  · cases h
theorem bi1_inv {f : Int32 → bV} {q : bF} (h : bi1 pc lv st w f = some q) : ∃ (x : Int32) (r : List bV), st = .inl x :: r ∧ (pc + 1, lv, f x :: r, w) = q := by
  unfold bi1 at h
  split at h
  · exact ⟨_, _, rfl, Option.some.inj h⟩
  · cases h
theorem bl1_inv {f : Int64 → bV} {q : bF} (h : bl1 pc lv st w f = some q) : ∃ (x : Int64) (r : List bV), st = .inr (.inl x) :: r ∧ (pc + 1, lv, f x :: r, w) = q := by
  unfold bl1 at h
  split at h
  · exact ⟨_, _, rfl, Option.some.inj h⟩
  · cases h
theorem bls_inv {f : Int64 → Int32 → Int64} {q : bF} (h : bls pc lv st w f = some q) : ∃ (x : Int64) (y : Int32) (r : List bV), st = .inl y :: .inr (.inl x) :: r ∧ (pc + 1, lv, .inr (.inl (f x y)) :: r, w) = q := by
  unfold bls at h
  split at h
  · exact ⟨_, _, _, rfl, Option.some.inj h⟩
  · cases h
theorem bldl0_inv {n i : Nat} {q : bF} (h : bldl 0 pc n i lv st w = some q) : ∃ x : Int32, blk lv i = some (.inl x) ∧ (pc + n, lv, .inl x :: st, w) = q := by
  unfold bldl at h
  split at h <;> first | exact ⟨_, by assumption, Option.some.inj h⟩ | (exfalso; omega) | cases h
theorem bldl1_inv {n i : Nat} {q : bF} (h : bldl 1 pc n i lv st w = some q) : ∃ x : Int64, blk lv i = some (.inr (.inl x)) ∧ (pc + n, lv, .inr (.inl x) :: st, w) = q := by
  unfold bldl at h
  split at h <;> first | exact ⟨_, by assumption, Option.some.inj h⟩ | (exfalso; omega) | cases h
theorem bldl2_inv {n i : Nat} {q : bF} (h : bldl 2 pc n i lv st w = some q) : (∃ x : Nat, blk lv i = some (.inr (.inr (.inl x))) ∧ (pc + n, lv, .inr (.inr (.inl x)) :: st, w) = q) ∨ ∃ x : Nat, blk lv i = some (.inr (.inr (.inr (some x)))) ∧ (pc + n, lv, .inr (.inr (.inr (some x))) :: st, w) = q := by
  unfold bldl at h
  split at h <;> first | exact Or.inl ⟨_, by assumption, Option.some.inj h⟩ | exact Or.inr ⟨_, by assumption, Option.some.inj h⟩ | (exfalso; omega) | cases h
theorem bstl0_inv {n i : Nat} {q : bF} (h : bstl 0 nL pc n i lv st w = some q) : ∃ (x : Int32) (r : List bV), st = .inl x :: r ∧ i < nL ∧ (pc + n, bst1 lv i (.inl x), r, w) = q := by
  unfold bstl at h
  split at h <;> first | (split at h <;> first | exact ⟨_, _, rfl, by assumption, Option.some.inj h⟩ | (exfalso; omega) | cases h) | (exfalso; omega) | cases h
theorem bstl1_inv {n i : Nat} {q : bF} (h : bstl 1 nL pc n i lv st w = some q) : ∃ (x : Int64) (r : List bV), st = .inr (.inl x) :: r ∧ i + 1 < nL ∧ (pc + n, bst2 lv i (.inr (.inl x)), r, w) = q := by
  unfold bstl at h
  split at h <;> first | (split at h <;> first | exact ⟨_, _, rfl, by assumption, Option.some.inj h⟩ | (exfalso; omega) | cases h) | (exfalso; omega) | cases h
theorem bstl2_inv {n i : Nat} {q : bF} (h : bstl 2 nL pc n i lv st w = some q) : ∃ (x : Nat) (r : List bV), st = .inr (.inr (.inl x)) :: r ∧ i < nL ∧ (pc + n, bst1 lv i (.inr (.inr (.inl x))), r, w) = q := by
  unfold bstl at h
  split at h <;> first | (split at h <;> first | exact ⟨_, _, rfl, by assumption, Option.some.inj h⟩ | (exfalso; omega) | cases h) | (exfalso; omega) | cases h
end BSTEP
