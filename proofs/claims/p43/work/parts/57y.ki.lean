/-! SLOPES: the recipes, by what they leave on the stack. -/
/-- which recipe an act has -/
def rcK (c x : Int32) : Nat := if c = 42 then 7 else if c = 43 then 5 else if c = 45 then 6 else if c = 47 then 8 else if c = 94 then (if x = 0 then 9 else 10) else if c = 97 then 15 else if c = 101 then 13 else if c = 108 then 14 else if c = 114 then 12 else if c = 120 then 4 else if c = 126 then 11 else 9
def sgC (j : Nat) : List Int32 := (brec.getD (j - 4) (0, 0, "", [])).2.2.2
def sgK (j : Nat) (x : Int32) : Int32 := if x < Int32.ofNat (sgC j).length then (sgC j).getD x.toNatClampNeg 0 else 0
/-- what the table says of recipes -/
def ESL (e : tE) : Prop := (∀ (lv : List (Nat × bV)) (w : bW) (c x : Int32), blk lv 0 = some (.inl c) → blk lv 1 = some (.inl x) → e.2 2062 0 lv [] w = some (.inr (.inr (.inr (some (rcK c x)))))) ∧ (∀ (lv : List (Nat × bV)) (w : bW) (j : Nat) (x : Int32), blk lv 1 = some (.inr (.inr (.inr (some j)))) → (4 ≤ j ∧ j < 16) → blk lv 2 = some (.inl x) → 0 ≤ x.toInt → e.2 2059 27 lv [] w = some (.inl (sgK j x)))
/-- a recipe's sign -/
def sgV (j p : Nat) : Int := (sgK j (Int32.ofNat p)).toInt
def rl (j : Nat) : Nat := (sgC j).length
def efS (s : Int) : Int := if s = 43 ∨ s = 45 ∨ s = 42 ∨ s = 47 then -1 else if s = 126 ∨ s = 114 ∨ s = 94 ∨ s = 113 ∨ s = 101 ∨ s = 0 then 0 else 1
/-- how high the stack is after so many signs -/
def rh (j : Nat) : Nat → Int
  | 0 => 0
  | p + 1 => rh j p + efS (sgV j p)
theorem rh_s (j p : Nat) : rh j (p + 1) = rh j p + efS (sgV j p) := rfl
def okS (j p : Nat) : Bool := decide (p < rl j) && (decide (sgV j p = 85 ∨ sgV j p = 117) || (decide (sgV j p = 86 ∨ sgV j p = 118) && decide (1 ≤ rh j p)) || decide (sgV j p = 110 ∨ sgV j p = 48 ∨ sgV j p = 49 ∨ sgV j p = 50) || (decide (sgV j p = 43 ∨ sgV j p = 45 ∨ sgV j p = 42 ∨ sgV j p = 47) && decide (2 ≤ rh j p)) || (decide (sgV j p = 126 ∨ sgV j p = 114 ∨ sgV j p = 94 ∨ sgV j p = 113 ∨ sgV j p = 101) && decide (1 ≤ rh j p)))
theorem okS_all : ∀ j : Fin 16, 4 ≤ j.val → ∀ p : Fin 11, (p.val < rl j.val → okS j.val p.val = true) ∧ (rl j.val ≤ p.val → sgV j.val p.val = 0) ∧ (p.val ≤ rl j.val → 0 < p.val → 1 ≤ rh j.val p.val) ∧ (p.val ≤ rl j.val → 0 ≤ rh j.val p.val ∧ rh j.val p.val ≤ 3) ∧ (rl j.val ≤ 9 ∧ 1 ≤ rl j.val ∧ rh j.val (rl j.val) = 1) := by decide +kernel
theorem sgV_at {j p : Nat} (hj : 4 ≤ j ∧ j < 16) (hp : p < rl j) : (sgV j p = 85 ∨ sgV j p = 117) ∨ ((sgV j p = 86 ∨ sgV j p = 118) ∧ 1 ≤ rh j p) ∨ (sgV j p = 110 ∨ sgV j p = 48 ∨ sgV j p = 49 ∨ sgV j p = 50) ∨ ((sgV j p = 43 ∨ sgV j p = 45 ∨ sgV j p = 42 ∨ sgV j p = 47) ∧ 2 ≤ rh j p) ∨ ((sgV j p = 126 ∨ sgV j p = 114 ∨ sgV j p = 94 ∨ sgV j p = 113 ∨ sgV j p = 101) ∧ 1 ≤ rh j p) := by
  have h := okS_all ⟨j, hj.2⟩ hj.1 ⟨0, by decide⟩
  have hl : rl j ≤ 9 := h.2.2.2.2.1
  have g := (okS_all ⟨j, hj.2⟩ hj.1 ⟨p, by omega⟩).1 hp
  have g : okS j p = true := g
  unfold okS at g
  simp only [Bool.and_eq_true, Bool.or_eq_true, decide_eq_true_eq] at g
  obtain ⟨_, g⟩ := g
  rcases g with (((g | g) | g) | g) | g
  · exact Or.inl g
  · exact Or.inr (Or.inl g)
  · exact Or.inr (Or.inr (Or.inl g))
  · exact Or.inr (Or.inr (Or.inr (Or.inl g)))
  · exact Or.inr (Or.inr (Or.inr (Or.inr g)))
theorem rl_r {j : Nat} (hj : 4 ≤ j ∧ j < 16) : 1 ≤ rl j ∧ rl j ≤ 9 ∧ rh j (rl j) = 1 := by
  have h := (okS_all ⟨j, hj.2⟩ hj.1 ⟨0, by decide⟩).2.2.2.2
  exact ⟨h.2.1, h.1, h.2.2⟩
theorem rh_1 {j p : Nat} (hj : 4 ≤ j ∧ j < 16) (hp : 0 < p ∧ p ≤ rl j) : 1 ≤ rh j p := (okS_all ⟨j, hj.2⟩ hj.1 ⟨p, by have := (rl_r hj).2.1; omega⟩).2.2.1 hp.2 hp.1
theorem rh_r {j p : Nat} (hj : 4 ≤ j ∧ j < 16) (hp : p ≤ rl j) : 0 ≤ rh j p ∧ rh j p ≤ 3 := (okS_all ⟨j, hj.2⟩ hj.1 ⟨p, by have := (rl_r hj).2.1; omega⟩).2.2.2.1 hp
theorem sgV_end {j p : Nat} (hj : 4 ≤ j ∧ j < 16) (hp : rl j ≤ p ∧ p ≤ 10) : sgV j p = 0 := (okS_all ⟨j, hj.2⟩ hj.1 ⟨p, by omega⟩).2.1 hp.1
theorem rcK_r (c x : Int32) : 4 ≤ rcK c x ∧ rcK c x < 16 := by
  unfold rcK
  repeat' split
  all_goals omega
/-- a formula's acts, beginning at a part's start -/
theorem stf_ar {M : tM} {r c s i j m : Nat} (hw : WFF M r c) (hs : hA (fun k => M (r + 1) (k : Int)) s + 1 = hA (fun k => M (r + 1) (k : Int)) (i + 1) ∧ ∀ j, s < j → j ≤ i → hA (fun k => M (r + 1) (k : Int)) s + 1 ≤ hA (fun k => M (r + 1) (k : Int)) j) (hi : i < c) (hj : s ≤ j ∧ j ≤ i) (hm : hA (fun k => M (r + 1) (k : Int)) j ≤ hA (fun k => M (r + 1) (k : Int)) s + m) : AOK (M (r + 1) (j : Int)) (M (r + 2) (j : Int)) (M (r + 3) (j : Int)).toNat m := by
  obtain ⟨_, h2, _⟩ := hw
  obtain ⟨_, a⟩ := h2 j (by omega)
  have e := hA_s (fun k => M (r + 1) (k : Int)) j
  have n1 : hA (fun k => M (r + 1) (k : Int)) s + 1 ≤ hA (fun k => M (r + 1) (k : Int)) (j + 1) := by
    rcases Nat.lt_or_ge j i with g | g
    · exact hs.2 (j + 1) (by omega) (by omega)
    · rw [show j = i by omega]
      exact Nat.le_of_eq hs.1
  generalize hA (fun k => M (r + 1) (k : Int)) (j + 1) = h1 at *
  generalize hA (fun k => M (r + 1) (k : Int)) j = h0 at *
  generalize hA (fun k => M (r + 1) (k : Int)) s = hs0 at *
  generalize M (r + 1) (j : Int) = act at *
  have e : h1 = if act = 35 ∨ act = 112 ∨ act = 69 ∨ act = 120 ∨ act = 121 then h0 + 1 else if act = 43 ∨ act = 45 ∨ act = 42 ∨ act = 47 then h0 - 1 else h0 := e
  unfold AOK at a ⊢
  rcases a with a | a | a | a | a | ⟨a, b⟩ | ⟨a, b⟩
  · exact Or.inl a
  · exact Or.inr (Or.inl a)
  · exact Or.inr (Or.inr (Or.inl a))
  · exact Or.inr (Or.inr (Or.inr (Or.inl a)))
  · exact Or.inr (Or.inr (Or.inr (Or.inr (Or.inl a))))
  · refine Or.inr (Or.inr (Or.inr (Or.inr (Or.inr (Or.inl ⟨a, ?_⟩)))))
    rw [if_neg (by omega), if_pos (by omega)] at e
    omega
  · refine Or.inr (Or.inr (Or.inr (Or.inr (Or.inr (Or.inr ⟨a, ?_⟩)))))
    have a2 : act = 126 ∨ act = 98 ∨ act = 94 ∨ act = 114 ∨ act = 101 ∨ act = 108 ∨ act = 97 := by
      rcases a with q | q | q
      · omega
      · omega
      · unfold OOK at q
        omega
    rw [if_neg (by omega), if_neg (by omega)] at e
    omega
