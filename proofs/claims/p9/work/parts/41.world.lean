/-! A LOGIC over worlds of one shape: values are whole numbers, the memory is a function of cell and place. -/
abbrev tV : Type := Int ⊕ Int ⊕ Nat ⊕ Nat
abbrev tM : Type := Nat → Int → Int
abbrev tL : Type := List (Option tV)
abbrev tR : Type := Option tV ⊕ String
def tdn (v : tV) : bV := match v with
  | .inl x => .inl (Int32.ofInt x)
  | .inr (.inl x) => .inr (.inl (Int64.ofInt x))
  | .inr (.inr (.inl k)) => .inr (.inr (.inl k))
  | .inr (.inr (.inr j)) => .inr (.inr (.inr (some j)))
def tdr (r : tR) : bR := match r with
  | .inl v => .inl (v.map tdn)
  | .inr x => .inr x
def tcat (v : tV) : Nat := match v with
  | .inr (.inl _) => 2
  | _ => 1
theorem tcat_dn (v : tV) : bvc (tdn v) = tcat v := sorry
/-- the number of a value, as memory keeps it -/
def tnm (v : tV) : Int := match v with
  | .inl x => x
  | .inr (.inl x) => x
  | .inr (.inr (.inl k)) => (k : Int)
  | .inr (.inr (.inr j)) => (j : Int)
theorem tsh_ex : ∃ f : Nat → Nat, f = fun k => tshl.getD k 0 := sorry
noncomputable def tsh : Nat → Nat := Classical.choose tsh_ex
theorem tsh_def (k : Nat) : tsh k = tshl.getD k 0 := sorry
/-- a field's value -/
def tcv (ci f k : Nat) (x : Int) : Nat := match tcn ci f with
  | true => tcf ci f k
  | false => x.toNat
def tfv (kd r : Nat) (x : Int) : tV := match kd with
  | 1 => .inr (.inl x)
  | 2 => .inr (.inr (.inl r))
  | _ => .inl x
def tfd (k ci f : Nat) (x : Int) : tV := tfv (tfk ci f) (tcv ci f k x) x
/-- an element of an array of references -/
def tel (t k : Nat) (i x : Int) : Nat := if t = 4 then k + tqo k + 3 * i.toNat else x.toNat
def tcell (k t : Nat) (m : Int → Int) : bC := match tyk t with
  | (0, ci, len) => .inl (ci, (List.range len).map (fun f => tdn (tfd k ci f (m (f : Nat)))))
  | (1, ty, len) => .inr (.inl (ty, (List.range len).map (fun i => Int32.ofInt (m (i : Nat)))))
  | (2, _, len) => .inr (.inr (.inl ((List.range len).map (fun i => Int64.ofInt (m (i : Nat))))))
  | (_, ty, len) => .inr (.inr (.inr (ty, (List.range len).map (fun i => some (tel ty k (i : Nat) (m (i : Nat)))))))
noncomputable def tw0 (M : tM) : List bC := (List.range 691).map (fun k => tcell k (tsh k) (M k))
theorem two_ex : ∃ f : tM → Nat → bW, f = fun M n => (tw0 M, n) := sorry
noncomputable def two : tM → Nat → bW := Classical.choose two_ex
theorem two_def (M : tM) (n : Nat) : two M n = (tw0 M, n) := sorry
theorem two_2 (M : tM) (n : Nat) : (two M n).2 = n := sorry
theorem two_1 (M : tM) (n : Nat) : (two M n).1 = tw0 M := sorry
def tU (M : tM) (k : Nat) (i v : Int) : tM := fun k' i' => if k' = k ∧ i' = i then v else M k' i'
theorem tU_eq (M : tM) (k : Nat) (i v : Int) : tU M k i v k i = v := sorry
theorem tU_nk {M : tM} {k k' : Nat} {i i' v : Int} (h : k' ≠ k) : tU M k i v k' i' = M k' i' := sorry
theorem tU_ni {M : tM} {k k' : Nat} {i i' v : Int} (h : i' ≠ i) : tU M k i v k' i' = M k' i' := sorry
theorem tU_if (M : tM) (k : Nat) (i i' v : Int) : tU M k i v k i' = if i' = i then v else M k i' := sorry
theorem tU_k {M : tM} {k k' : Nat} {i v : Int} (h : k' ≠ k) : tU M k i v k' = M k' := sorry
theorem tsh_lt {k t : Nat} (h : tsh k = t) (h0 : t ≠ 0) : k < 691 := sorry
theorem two_get {M : tM} {n k t : Nat} (h : tsh k = t) (h0 : t ≠ 0) : (two M n).1[k]? = some (tcell k t (M k)) := sorry
theorem two_len (M : tM) (n : Nat) : (two M n).1.length = 691 := sorry
theorem two_set {M : tM} {n k t : Nat} {i v : Int} (h : tsh k = t) (h0 : t ≠ 0) : (two M n).1.set k (tcell k t (tU M k i v k)) = (two (tU M k i v) n).1 := sorry
theorem map_set_range {α : Type} {len b : Nat} {F G : Nat → α} (h : ∀ j, j ≠ b → F j = G j) : ((List.range len).map F).set b (G b) = (List.range len).map G := sorry
theorem getD_range {α : Type} {len b : Nat} {F : Nat → α} (h : b < len) : ((List.range len).map F)[b]? = some (F b) := sorry
/-! Locals -/
def tOk (L : tL) (lv : List (Nat × bV)) : Prop := ∀ i v, L[i]? = some (some v) → blk lv i = some (tdn v)
def tkl (a : Option tV) : Option tV := match a with
  | some (.inr (.inl _)) => none
  | a => a
def tst1 (L : tL) (i : Nat) (v : tV) : tL := match L, i with
  | [], _ => []
  | _ :: t, 0 => some v :: t
  | a :: t, 1 => tkl a :: tst1 t 0 v
  | a :: t, i + 2 => a :: tst1 t (i + 1) v
def tst2 (L : tL) (i : Nat) (v : tV) : tL := match L, i with
  | [], _ => []
  | [_], 0 => [some v]
  | _ :: _ :: t, 0 => some v :: none :: t
  | a :: t, 1 => tkl a :: tst2 t 0 v
  | a :: t, i + 2 => a :: tst2 t (i + 1) v
theorem tkl_some {a : Option tV} {u : tV} (h : tkl a = some u) : a = some u ∧ tcat u ≠ 2 := sorry
theorem tst1_get {v u : tV} : ∀ {L : tL} {i j : Nat}, (tst1 L i v)[j]? = some (some u) → (j = i ∧ u = v) ∨ (j ≠ i ∧ L[j]? = some (some u) ∧ ¬ (j + 1 = i ∧ tcat u = 2)) := sorry
theorem tst2_0 (a : Option tV) (t : tL) (v : tV) : tst2 (a :: t) 0 v = some v :: (match t with | [] => [] | _ :: t => none :: t) := sorry
theorem tst2_1 (a : Option tV) (t : tL) (v : tV) : tst2 (a :: t) 1 v = tkl a :: tst2 t 0 v := sorry
theorem tst2_s (a : Option tV) (t : tL) (i : Nat) (v : tV) : tst2 (a :: t) (i + 2) v = a :: tst2 t (i + 1) v := sorry
theorem tst2_get {v u : tV} : ∀ {L : tL} {i j : Nat}, (tst2 L i v)[j]? = some (some u) → (j = i ∧ u = v) ∨ (j ≠ i ∧ j ≠ i + 1 ∧ L[j]? = some (some u) ∧ ¬ (j + 1 = i ∧ tcat u = 2)) := sorry
theorem blk_fil {f : Nat × bV → Bool} {lv : List (Nat × bV)} {j : Nat} {v : bV} (h : blk lv j = some v) (hf : f (j, v) = true) (hn : ∀ q : Nat × bV, q.1 = j → q.2 = v → f q = true) : blk (lv.filter f) j = some v := sorry
theorem tOk_1 {L : tL} {lv : List (Nat × bV)} {i : Nat} {v : tV} (h : tOk L lv) : tOk (tst1 L i v) (bst1 lv i (tdn v)) := sorry
theorem tOk_2 {L : tL} {lv : List (Nat × bV)} {i : Nat} {v : tV} (h : tOk L lv) : tOk (tst2 L i v) (bst2 lv i (tdn v)) := sorry
/-- a callee's locals -/
def tla (vs : List tV) : tL := match vs with
  | [] => []
  | .inr (.inl x) :: t => some (.inr (.inl x)) :: none :: tla t
  | v :: t => some v :: tla t
theorem tla_ok (vs : List tV) : ∀ k j u, (tla vs)[j]? = some (some u) → blk (blva k (vs.map tdn)) (k + j) = some (tdn u) := sorry
