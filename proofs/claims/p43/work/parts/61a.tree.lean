/-! TREES of a known depth, for the kernel: cells are found by the bits of their number. -/
def Tr (α : Type) (d : Nat) : Type := Nat.rec (motive := fun _ => Type) α (fun _ T => T × T) d
noncomputable def tget {α : Type} (d : Nat) : Tr α d → Nat → α :=
  Nat.rec (motive := fun d => Tr α d → Nat → α) (fun t _ => t) (fun _ ih t i => Nat.rec (motive := fun _ => α) (ih t.1 (i / 2)) (fun _ _ => ih t.2 (i / 2)) (i % 2)) d
noncomputable def tset {α : Type} (d : Nat) : Tr α d → Nat → α → Tr α d :=
  Nat.rec (motive := fun d => Tr α d → Nat → α → Tr α d) (fun _ _ v => v)
    (fun d ih t i v => Prod.rec (motive := fun _ => Tr α (d + 1)) (fun a b => Nat.rec (motive := fun _ => Tr α (d + 1)) (ih a (i / 2) v, b) (fun _ _ => (a, ih b (i / 2) v)) (i % 2)) t) d
noncomputable def trep {α : Type} (v : α) (d : Nat) : Tr α d := Nat.rec (motive := fun d => Tr α d) v (fun _ t => (t, t)) d
theorem tget_rep {α : Type} (v : α) (d : Nat) : ∀ i : Nat, tget d (trep v d) i = v := by
  induction d with
  | zero => intro i; rfl
  | succ d ih =>
    intro i
    show Nat.rec (motive := fun _ => α) (tget d (trep v d) (i / 2)) (fun _ _ => tget d (trep v d) (i / 2)) (i % 2) = v
    cases i % 2 with
    | zero => exact ih _
    | succ _ => exact ih _
def tpr {α : Type} {d : Nat} (a b : Tr α d) : Tr α (d + 1) := Prod.mk a b
theorem tpr_all {α : Type} {d : Nat} (t : Tr α (d + 1)) : ∃ a b : Tr α d, t = tpr a b := by
  have h : ∀ u : Tr α d × Tr α d, ∃ a b : Tr α d, u = (a, b) := fun u => ⟨u.1, u.2, rfl⟩
  exact h t
theorem tpr_inj {α : Type} {d : Nat} {a b a' b' : Tr α d} (h1 : a = a') (h2 : b = b') : tpr a b = tpr a' b' := by rw [h1, h2]
theorem tget_p {α : Type} {d : Nat} (x y : Tr α d) (k : Nat) : tget (d + 1) (tpr x y) k = if k % 2 = 0 then tget d x (k / 2) else tget d y (k / 2) := by
  show Nat.rec (motive := fun _ => α) (tget d x (k / 2)) (fun _ _ => tget d y (k / 2)) (k % 2) = _
  cases h : k % 2 with
  | zero => rfl
  | succ n => rfl
theorem tset_p {α : Type} {d : Nat} (a b : Tr α d) (i : Nat) (v : α) : tset (d + 1) (tpr a b) i v = if i % 2 = 0 then tpr (tset d a (i / 2) v) b else tpr a (tset d b (i / 2) v) := by
  show Nat.rec (motive := fun _ => Tr α (d + 1)) (tpr (tset d a (i / 2) v) b) (fun _ _ => tpr a (tset d b (i / 2) v)) (i % 2) = _
  cases h : i % 2 with
  | zero => rfl
  | succ n => rfl
theorem tget_set {α : Type} (d : Nat) : ∀ (t : Tr α d) (i j : Nat) (v : α), i < 2 ^ d → j < 2 ^ d → tget d (tset d t i v) j = if j = i then v else tget d t j := by
  induction d with
  | zero =>
    intro t i j v hi hj
    have e : j = i := by simp at hi hj; omega
    rw [if_pos e]
    rfl
  | succ d ih =>
    intro t i j v hi hj
    obtain ⟨a, b, rfl⟩ := tpr_all t
    have hp : 2 ^ (d + 1) = 2 * 2 ^ d := by rw [Nat.pow_succ]; omega
    have hi2 : i / 2 < 2 ^ d := by omega
    have hj2 : j / 2 < 2 ^ d := by omega
    rw [tset_p]
    rcases Nat.mod_two_eq_zero_or_one i with h1 | h1 <;> rcases Nat.mod_two_eq_zero_or_one j with h2 | h2
    · rw [if_pos h1, tget_p, tget_p, if_pos h2, if_pos h2, ih _ _ _ _ hi2 hj2]
      by_cases h : j = i
      · rw [if_pos h, if_pos (by rw [h])]
      · rw [if_neg h, if_neg (by omega)]
    · rw [if_pos h1, tget_p, tget_p, if_neg (show ¬ j % 2 = 0 by omega), if_neg (show ¬ j % 2 = 0 by omega), if_neg (show ¬ j = i by omega)]
    · rw [if_neg (show ¬ i % 2 = 0 by omega), tget_p, tget_p, if_pos h2, if_pos h2, if_neg (show ¬ j = i by omega)]
    · rw [if_neg (show ¬ i % 2 = 0 by omega), tget_p, tget_p, if_neg (show ¬ j % 2 = 0 by omega), if_neg (show ¬ j % 2 = 0 by omega), ih _ _ _ _ hi2 hj2]
      by_cases h : j = i
      · rw [if_pos h, if_pos (by rw [h])]
      · rw [if_neg h, if_neg (by omega)]
/-- a tree out of a list, by its even and odd places -/
noncomputable def tevn {α : Type} (l : List α) : List α × List α := List.rec (motive := fun _ => List α × List α) ([], []) (fun a _ ih => (a :: ih.2, ih.1)) l
noncomputable def tof {α : Type} (z : α) (d : Nat) : List α → Tr α d :=
  Nat.rec (motive := fun d => List α → Tr α d) (fun l => l.headD z) (fun d ih l => Prod.rec (motive := fun _ => Tr α (d + 1)) (fun a b => (ih a, ih b)) (tevn l)) d
/-- the first n of a tree, as a list -/
noncomputable def tlst {α β : Type} (f : α → β) (d n : Nat) (t : Tr α d) : List β := (List.range n).map (fun k => f (tget d t k))
theorem tlst_len {α β : Type} {f : α → β} {d n : Nat} {t : Tr α d} : (tlst f d n t).length = n := by simp [tlst]
theorem tlst_get {α β : Type} {f : α → β} {d n r : Nat} {t : Tr α d} (h : r < n) : (tlst f d n t)[r]? = some (f (tget d t r)) := by simp [tlst, h]
theorem tlst_getD {α β : Type} {f : α → β} {d n r : Nat} {t : Tr α d} {z : β} (h : r < n) : (tlst f d n t).getD r z = f (tget d t r) := by
  rw [List.getD_eq_getElem?_getD, tlst_get h]; rfl
theorem tlst_set {α β : Type} {f : α → β} {d n r : Nat} {t : Tr α d} {v : α} (h : r < n) (hn : n ≤ 2 ^ d) : tlst f d n (tset d t r v) = (tlst f d n t).set r (f v) := by
  apply List.ext_getElem?
  intro k
  by_cases hk : k < n
  · rw [tlst_get hk, tget_set d t r k v (by omega) (by omega)]
    by_cases e : k = r
    · subst e
      rw [if_pos rfl, List.getElem?_set_self (by rw [tlst_len]; exact hk)]
    · rw [if_neg e, List.getElem?_set_ne (fun q => e q.symm), tlst_get hk]
  · rw [List.getElem?_eq_none (by rw [tlst_len]; omega), List.getElem?_eq_none (by rw [List.length_set, tlst_len]; omega)]
theorem tlst_push {α β : Type} {f : α → β} {d n : Nat} {t : Tr α d} {v : α} (hn : n < 2 ^ d) : tlst f d (n + 1) (tset d t n v) = tlst f d n t ++ [f v] := by
  apply List.ext_getElem?
  intro k
  by_cases hk : k < n
  · rw [tlst_get (by omega), tget_set d t n k v hn (by omega), if_neg (by omega), List.getElem?_append_left (by rw [tlst_len]; exact hk), tlst_get hk]
  · by_cases e : k = n
    · subst e
      rw [tlst_get (by omega), tget_set d t k k v hn hn, if_pos rfl, List.getElem?_append_right (by rw [tlst_len]; omega), tlst_len]
      simp
    · rw [List.getElem?_eq_none (by rw [tlst_len]; omega), List.getElem?_eq_none (by rw [List.length_append, tlst_len]; simp; omega)]
theorem tlst_rep {α β : Type} {f : α → β} {d n : Nat} {v : α} : tlst f d n (trep v d) = List.replicate n (f v) := by
  apply List.ext_getElem?
  intro k
  by_cases hk : k < n
  · rw [tlst_get hk, tget_rep, List.getElem?_replicate, if_pos hk]
  · rw [List.getElem?_eq_none (by rw [tlst_len]; omega), List.getElem?_eq_none (by simp; omega)]
/-- a tree's test, cell by cell, up to a number of cells -/
noncomputable def tall2 {α : Type} (f : α → α → Bool) (d : Nat) : Tr α d → Tr α d → Bool :=
  Nat.rec (motive := fun d => Tr α d → Tr α d → Bool) (fun a b => f a b) (fun d ih t u => Prod.rec (motive := fun _ => Bool) (fun a b => Prod.rec (motive := fun _ => Bool) (fun a' b' => cond (ih a a') (ih b b') false) u) t) d
theorem tall2_p {α : Type} {f : α → α → Bool} {d : Nat} (a b a' b' : Tr α d) : tall2 f (d + 1) (tpr a b) (tpr a' b') = cond (tall2 f d a a') (tall2 f d b b') false := rfl
theorem tall2_eq {α : Type} {f : α → α → Bool} (hf : ∀ a b : α, f a b = true → a = b) (d : Nat) : ∀ t u : Tr α d, tall2 f d t u = true → t = u := by
  induction d with
  | zero => intro t u h; exact hf _ _ h
  | succ d ih =>
    intro t u h
    obtain ⟨a, b, rfl⟩ := tpr_all t
    obtain ⟨a', b', rfl⟩ := tpr_all u
    rw [tall2_p] at h
    cases h1 : tall2 f d a a' with
    | false => rw [h1] at h; cases h
    | true =>
      rw [h1] at h
      exact tpr_inj (ih _ _ h1) (ih _ _ h)
