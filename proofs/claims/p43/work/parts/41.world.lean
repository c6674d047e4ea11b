/-! A LOGIC over worlds of one shape: values are whole numbers, the memory is a function of cell and place. -/
abbrev tV : Type := Int ⊕ Int ⊕ Nat ⊕ Nat
abbrev tM : Type := Nat → Int → Int
abbrev tL : Type := List (Option tV)
abbrev tR : Type := Option tV ⊕ String
def tdn (v : tV) : bV := match v with
  | .inl x => .inl (Int32.ofInt x)
  | .inr (.inl x) => .inr (.inl (Int64.ofInt x))
  | .inr (.inr (.inl k)) => .inr (.inr (.inl k))
  | .inr (.inr (.inr j)) => .inr (.inr (.inr (some j)))
def tdr (r : tR) : bR := match r with
  | .inl v => .inl (v.map tdn)
  | .inr x => .inr x
def tcat (v : tV) : Nat := match v with
  | .inr (.inl _) => 2
  | _ => 1
theorem tcat_dn (v : tV) : bvc (tdn v) = tcat v := by rcases v with x | x | k | j <;> rfl
/-- the number of a value, as memory keeps it -/
def tnm (v : tV) : Int := match v with
  | .inl x => x
  | .inr (.inl x) => x
  | .inr (.inr (.inl k)) => (k : Int)
  | .inr (.inr (.inr j)) => (j : Int)
theorem tsh_ex : ∃ f : Nat → Nat, f = fun k => tshl.getD k 0 := ⟨_, rfl⟩
noncomputable def tsh : Nat → Nat := Classical.choose tsh_ex
theorem tsh_def (k : Nat) : tsh k = tshl.getD k 0 := congrFun (Classical.choose_spec tsh_ex) k
/-- a field's value -/
def tcv (ci f k : Nat) (x : Int) : Nat := match tcn ci f with
  | true => tcf ci f k
  | false => x.toNat
def tfv (kd r : Nat) (x : Int) : tV := match kd with
  | 1 => .inr (.inl x)
  | 2 => .inr (.inr (.inl r))
  | _ => .inl x
def tfd (k ci f : Nat) (x : Int) : tV := tfv (tfk ci f) (tcv ci f k x) x
/-- an element of an array of references -/
def tel (t k : Nat) (i x : Int) : Nat := if t = 4 then k + tqo k + 3 * i.toNat else x.toNat
def tcell (k t : Nat) (m : Int → Int) : bC := match tyk t with
  | (0, ci, len) => .inl (ci, (List.range len).map (fun f => tdn (tfd k ci f (m (f : Nat)))))
  | (1, ty, len) => .inr (.inl (ty, (List.range len).map (fun i => Int32.ofInt (m (i : Nat)))))
  | (2, _, len) => .inr (.inr (.inl ((List.range len).map (fun i => Int64.ofInt (m (i : Nat))))))
  | (_, ty, len) => .inr (.inr (.inr (ty, (List.range len).map (fun i => some (tel ty k (i : Nat) (m (i : Nat)))))))
noncomputable def tw0 (M : tM) : List bC := (List.range 691).map (fun k => tcell k (tsh k) (M k))
theorem two_ex : ∃ f : tM → Nat → bW, f = fun M n => (tw0 M, n) := ⟨_, rfl⟩
noncomputable def two : tM → Nat → bW := Classical.choose two_ex
theorem two_def (M : tM) (n : Nat) : two M n = (tw0 M, n) := congrFun (congrFun (Classical.choose_spec two_ex) M) n
theorem two_2 (M : tM) (n : Nat) : (two M n).2 = n := by rw [two_def]
theorem two_1 (M : tM) (n : Nat) : (two M n).1 = tw0 M := by rw [two_def]
def tU (M : tM) (k : Nat) (i v : Int) : tM := fun k' i' => if k' = k ∧ i' = i then v else M k' i'
theorem tU_eq (M : tM) (k : Nat) (i v : Int) : tU M k i v k i = v := if_pos ⟨rfl, rfl⟩
theorem tU_nk {M : tM} {k k' : Nat} {i i' v : Int} (h : k' ≠ k) : tU M k i v k' i' = M k' i' := if_neg (fun q => h q.1)
theorem tU_ni {M : tM} {k k' : Nat} {i i' v : Int} (h : i' ≠ i) : tU M k i v k' i' = M k' i' := if_neg (fun q => h q.2)
theorem tU_if (M : tM) (k : Nat) (i i' v : Int) : tU M k i v k i' = if i' = i then v else M k i' := by
  unfold tU
  by_cases h : i' = i
  · rw [if_pos ⟨rfl, h⟩, if_pos h]
  · rw [if_neg (fun q => h q.2), if_neg h]
theorem tU_k {M : tM} {k k' : Nat} {i v : Int} (h : k' ≠ k) : tU M k i v k' = M k' := funext (fun i' => tU_nk h)
theorem tsh_lt {k t : Nat} (h : tsh k = t) (h0 : t ≠ 0) : k < 691 := by
  rcases Nat.lt_or_ge k 691 with hk | hk
  · exact hk
  · have e : tsh k = 0 := by
      rw [tsh_def]
      have hl : tshl.length = 691 := by decide +kernel
      rw [List.getD_eq_getElem?_getD, List.getElem?_eq_none (by omega)]
      rfl
    omega
theorem two_get {M : tM} {n k t : Nat} (h : tsh k = t) (h0 : t ≠ 0) : (two M n).1[k]? = some (tcell k t (M k)) := by
  have hk := tsh_lt h h0
  subst h
  rw [two_1]
  unfold tw0
  simp [hk]
theorem two_len (M : tM) (n : Nat) : (two M n).1.length = 691 := by
  rw [two_1]
  unfold tw0
  simp
theorem two_set {M : tM} {n k t : Nat} {i v : Int} (h : tsh k = t) (h0 : t ≠ 0) : (two M n).1.set k (tcell k t (tU M k i v k)) = (two (tU M k i v) n).1 := by
  have hk := tsh_lt h h0
  refine List.ext_getElem? (fun j => ?_)
  by_cases hj : k = j
  · subst hj
    rw [List.getElem?_set_self (by rw [two_len]; exact hk), two_get h h0]
  · rw [List.getElem?_set_ne hj]
    rw [two_1, two_1]
    unfold tw0
    rw [List.getElem?_map, List.getElem?_map]
    rcases Nat.lt_or_ge j 691 with hl | hl
    · rw [List.getElem?_range hl, Option.map_some, Option.map_some, tU_k (fun q => hj q.symm)]
    · rw [List.getElem?_eq_none (by rw [List.length_range]; exact hl)]
      rfl
theorem map_set_range {α : Type} {len b : Nat} {F G : Nat → α} (h : ∀ j, j ≠ b → F j = G j) : ((List.range len).map F).set b (G b) = (List.range len).map G := by
  refine List.ext_getElem? (fun j => ?_)
  by_cases hj : b = j
  · subst hj
    rcases Nat.lt_or_ge b len with hl | hl
    · rw [List.getElem?_set_self (by simp [hl])]
      simp [hl]
    · rw [List.getElem?_eq_none (by simp [hl]), List.getElem?_eq_none (by simp [hl])]
  · rw [List.getElem?_set_ne hj]
    rw [List.getElem?_map, List.getElem?_map]
    rcases Nat.lt_or_ge j len with hl | hl
    · rw [List.getElem?_range hl]
      show some (F j) = some (G j)
      rw [h j (fun q => hj q.symm)]
    · rw [List.getElem?_eq_none (by rw [List.length_range]; exact hl)]
      rfl
theorem getD_range {α : Type} {len b : Nat} {F : Nat → α} (h : b < len) : ((List.range len).map F)[b]? = some (F b) := by simp [h]
/-! Locals -/
def tOk (L : tL) (lv : List (Nat × bV)) : Prop := ∀ i v, L[i]? = some (some v) → blk lv i = some (tdn v)
def tkl (a : Option tV) : Option tV := match a with
  | some (.inr (.inl _)) => none
  | a => a
def tst1 (L : tL) (i : Nat) (v : tV) : tL := match L, i with
  | [], _ => []
  | _ :: t, 0 => some v :: t
  | a :: t, 1 => tkl a :: tst1 t 0 v
  | a :: t, i + 2 => a :: tst1 t (i + 1) v
def tst2 (L : tL) (i : Nat) (v : tV) : tL := match L, i with
  | [], _ => []
  | [_], 0 => [some v]
  | _ :: _ :: t, 0 => some v :: none :: t
  | a :: t, 1 => tkl a :: tst2 t 0 v
  | a :: t, i + 2 => a :: tst2 t (i + 1) v
theorem tkl_some {a : Option tV} {u : tV} (h : tkl a = some u) : a = some u ∧ tcat u ≠ 2 := by
  rcases a with _ | (x | x | k | j)
  · cases h
  · cases h; exact ⟨rfl, by show (1 : Nat) ≠ 2; decide⟩
  · cases h
  · cases h; exact ⟨rfl, by show (1 : Nat) ≠ 2; decide⟩
  · cases h; exact ⟨rfl, by show (1 : Nat) ≠ 2; decide⟩
theorem tst1_get {v u : tV} : ∀ {L : tL} {i j : Nat}, (tst1 L i v)[j]? = some (some u) → (j = i ∧ u = v) ∨ (j ≠ i ∧ L[j]? = some (some u) ∧ ¬ (j + 1 = i ∧ tcat u = 2)) := by
  intro L
  induction L with
  | nil => intro i j h; unfold tst1 at h; cases h
  | cons a t ih =>
    intro i j h
    match i, j with
    | 0, 0 => cases h; exact Or.inl ⟨rfl, rfl⟩
    | 0, j + 1 => exact Or.inr ⟨Nat.succ_ne_zero _, h, fun q => absurd q.1 (Nat.succ_ne_zero _)⟩
    | 1, 0 =>
      have h : some (tkl a) = some (some u) := h
      obtain ⟨h1, h2⟩ := tkl_some (Option.some.inj h)
      subst h1
      exact Or.inr ⟨by decide, rfl, fun q => h2 q.2⟩
    | 1, j + 1 =>
      have h : (tst1 t 0 v)[j]? = some (some u) := h
      rcases ih h with ⟨h1, h2⟩ | ⟨h1, h2, h3⟩
      · exact Or.inl ⟨by omega, h2⟩
      · exact Or.inr ⟨by omega, h2, fun q => by have := q.1; omega⟩
    | i + 2, 0 =>
      have h : some a = some (some u) := h
      exact Or.inr ⟨by omega, h, fun q => by have := q.1; omega⟩
    | i + 2, j + 1 =>
      have h : (tst1 t (i + 1) v)[j]? = some (some u) := h
      rcases ih h with ⟨h1, h2⟩ | ⟨h1, h2, h3⟩
      · exact Or.inl ⟨by omega, h2⟩
      · exact Or.inr ⟨by omega, h2, fun q => h3 ⟨by have := q.1; omega, q.2⟩⟩
theorem tst2_0 (a : Option tV) (t : tL) (v : tV) : tst2 (a :: t) 0 v = some v :: (match t with | [] => [] | _ :: t => none :: t) := by
  cases t <;> rfl
theorem tst2_1 (a : Option tV) (t : tL) (v : tV) : tst2 (a :: t) 1 v = tkl a :: tst2 t 0 v := by
  cases t <;> rfl
theorem tst2_s (a : Option tV) (t : tL) (i : Nat) (v : tV) : tst2 (a :: t) (i + 2) v = a :: tst2 t (i + 1) v := by
  cases t <;> rfl
theorem tst2_get {v u : tV} : ∀ {L : tL} {i j : Nat}, (tst2 L i v)[j]? = some (some u) → (j = i ∧ u = v) ∨ (j ≠ i ∧ j ≠ i + 1 ∧ L[j]? = some (some u) ∧ ¬ (j + 1 = i ∧ tcat u = 2)) := by
  intro L
  induction L with
  | nil => intro i j h; unfold tst2 at h; cases h
  | cons a t ih =>
    intro i j h
    match i, j with
    | 0, 0 => rw [tst2_0] at h; cases h; exact Or.inl ⟨rfl, rfl⟩
    | 0, j + 1 =>
      rw [tst2_0] at h
      cases t with
      | nil => cases h
      | cons b t =>
        cases j with
        | zero => cases h
        | succ j => exact Or.inr ⟨by omega, by omega, h, fun q => absurd q.1 (Nat.succ_ne_zero _)⟩
    | 1, 0 =>
      rw [tst2_1] at h
      have h : some (tkl a) = some (some u) := h
      obtain ⟨h1, h2⟩ := tkl_some (Option.some.inj h)
      subst h1
      exact Or.inr ⟨by decide, by decide, rfl, fun q => h2 q.2⟩
    | 1, j + 1 =>
      rw [tst2_1] at h
      have h : (tst2 t 0 v)[j]? = some (some u) := h
      rcases ih h with ⟨h1, h2⟩ | ⟨h1, h2, h3, h4⟩
      · exact Or.inl ⟨by omega, h2⟩
      · exact Or.inr ⟨by omega, by omega, h3, fun q => by have := q.1; omega⟩
    | i + 2, 0 =>
      rw [tst2_s] at h
      have h : some a = some (some u) := h
      exact Or.inr ⟨by omega, by omega, h, fun q => by have := q.1; omega⟩
    | i + 2, j + 1 =>
      rw [tst2_s] at h
      have h : (tst2 t (i + 1) v)[j]? = some (some u) := h
      rcases ih h with ⟨h1, h2⟩ | ⟨h1, h2, h3, h4⟩
      · exact Or.inl ⟨by omega, h2⟩
      · exact Or.inr ⟨by omega, by omega, h3, fun q => h4 ⟨by have := q.1; omega, q.2⟩⟩
theorem blk_fil {f : Nat × bV → Bool} {lv : List (Nat × bV)} {j : Nat} {v : bV} (h : blk lv j = some v) (hf : f (j, v) = true) (hn : ∀ q : Nat × bV, q.1 = j → q.2 = v → f q = true) : blk (lv.filter f) j = some v := by
  induction lv with
  | nil => cases h
  | cons q t ih =>
    unfold blk at h
    split at h
    · rename_i hq
      cases h
      have hfq := hn q hq rfl
      rw [List.filter_cons_of_pos hfq]
      unfold blk
      rw [if_pos hq]
    · rename_i hq
      rw [List.filter_cons]
      split
      · unfold blk
        rw [if_neg hq]
        exact ih h
      · exact ih h
theorem tOk_1 {L : tL} {lv : List (Nat × bV)} {i : Nat} {v : tV} (h : tOk L lv) : tOk (tst1 L i v) (bst1 lv i (tdn v)) := by
  intro j u hu
  rcases tst1_get hu with ⟨rfl, rfl⟩ | ⟨h1, h2, h3⟩
  · unfold bst1 blk
    rw [if_pos rfl]
  · have h4 := h j u h2
    unfold bst1 blk
    rw [if_neg (fun q => h1 q.symm)]
    have key : ∀ q : Nat × bV, q.1 = j → q.2 = tdn u → (!(q.1 == i) && !(q.1 + 1 == i && bvc q.2 == 2)) = true := by
      intro q e1 e2
      rw [e1, e2, tcat_dn]
      simp only [Bool.and_eq_true, Bool.not_eq_true', beq_eq_false_iff_ne, Bool.and_eq_false_iff]
      refine ⟨h1, ?_⟩
      by_cases h5 : j + 1 = i
      · exact Or.inr (fun q => h3 ⟨h5, q⟩)
      · exact Or.inl h5
    exact blk_fil h4 (key (j, tdn u) rfl rfl) key
theorem tOk_2 {L : tL} {lv : List (Nat × bV)} {i : Nat} {v : tV} (h : tOk L lv) : tOk (tst2 L i v) (bst2 lv i (tdn v)) := by
  intro j u hu
  rcases tst2_get hu with ⟨rfl, rfl⟩ | ⟨h1, h1b, h2, h3⟩
  · unfold bst2 blk
    rw [if_pos rfl]
  · have h4 := h j u h2
    unfold bst2 blk
    rw [if_neg (fun q => h1 q.symm)]
    have key : ∀ q : Nat × bV, q.1 = j → q.2 = tdn u → (!(q.1 == i) && (!(q.1 == i + 1) && !(q.1 + 1 == i && bvc q.2 == 2))) = true := by
      intro q e1 e2
      rw [e1, e2, tcat_dn]
      simp only [Bool.and_eq_true, Bool.not_eq_true', beq_eq_false_iff_ne, Bool.and_eq_false_iff]
      refine ⟨h1, h1b, ?_⟩
      by_cases h5 : j + 1 = i
      · exact Or.inr (fun q => h3 ⟨h5, q⟩)
      · exact Or.inl h5
    exact blk_fil h4 (key (j, tdn u) rfl rfl) key
/-- a callee's locals -/
def tla (vs : List tV) : tL := match vs with
  | [] => []
  | .inr (.inl x) :: t => some (.inr (.inl x)) :: none :: tla t
  | v :: t => some v :: tla t
theorem tla_ok (vs : List tV) : ∀ k j u, (tla vs)[j]? = some (some u) → blk (blva k (vs.map tdn)) (k + j) = some (tdn u) := by
  induction vs with
  | nil => intro k j u h; cases h
  | cons v t ih =>
    intro k j u h
    rcases v with x | x | q | q
    · match j, h with
      | 0, h => cases h; exact if_pos rfl
      | j + 1, h =>
        show (if k = k + (j + 1) then _ else blk (blva (k + 1) (t.map tdn)) (k + (j + 1))) = _
        rw [if_neg (by omega), show k + (j + 1) = k + 1 + j by omega]
        exact ih (k + 1) j u h
    · match j, h with
      | 0, h => cases h; exact if_pos rfl
      | 1, h => cases h
      | j + 2, h =>
        show (if k = k + (j + 2) then _ else blk (blva (k + 2) (t.map tdn)) (k + (j + 2))) = _
        rw [if_neg (by omega), show k + (j + 2) = k + 2 + j by omega]
        exact ih (k + 2) j u h
    · match j, h with
      | 0, h => cases h; exact if_pos rfl
      | j + 1, h =>
        show (if k = k + (j + 1) then _ else blk (blva (k + 1) (t.map tdn)) (k + (j + 1))) = _
        rw [if_neg (by omega), show k + (j + 1) = k + 1 + j by omega]
        exact ih (k + 1) j u h
    · match j, h with
      | 0, h => cases h; exact if_pos rfl
      | j + 1, h =>
        show (if k = k + (j + 1) then _ else blk (blva (k + 1) (t.map tdn)) (k + (j + 1))) = _
        rw [if_neg (by omega), show k + (j + 1) = k + 1 + j by omega]
        exact ih (k + 1) j u h
