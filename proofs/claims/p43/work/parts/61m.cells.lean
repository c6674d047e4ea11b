/-! THE START'S WORLD is the world of the memory M0; the class's cells are in their bounds. -/
section START1
theorem M0_chk : (List.range 691).all (fun k => cck k (tshl.getD k 0) (tget 10 sW1.2.2 k)) = true := by decide +kernel
theorem M0_two {e : sE} : cw e sW1 = two M0 0 := by
  rw [two_def]
  refine congrArg (fun l => ((l, 0) : bW)) (List.map_congr_left (fun k hk => ?_))
  have h := List.all_eq_true.mp M0_chk k hk
  rw [tsh_def]
  exact cck_ok h
theorem fsp_big {s j : Nat} (h : 64 ≤ j) : fsp s j = (9, 0, 0) ∨ ∃ lo hi, fsp s j = (0, lo, hi) ∧ lo ≤ 0 ∧ 0 ≤ hi := by
  unfold fsp
  split <;> first | omega | exact Or.inl rfl | exact Or.inr ⟨_, _, rfl, by decide, by decide⟩
theorem fsp_25 (j : Nat) : fsp 25 j = (9, 0, 0) := by
  unfold fsp
  split <;> first | rfl | omega | contradiction
def cokb (s j v : Nat) : Bool := match fsp s j with
  | (0, lo, hi) => decide (lo ≤ (v : Int)) && decide ((v : Int) ≤ hi)
  | (2, s', _) => Nat.beq (tshl.getD v 0) s'.toNat && Nat.blt v 664
  | _ => true
theorem cokb_ok {s j v : Nat} (h : cokb s j v = true) : cok s j (v : Int) := by
  unfold cokb at h
  unfold cok
  split at h
  · rename_i lo hi q
    rw [Bool.and_eq_true, decide_eq_true_eq, decide_eq_true_eq] at h
    rw [q]
    exact h
  · rename_i s' z q
    rw [Bool.and_eq_true] at h
    rw [q]
    exact ⟨by rw [tsh_def]; exact Nat.eq_of_beq_eq_true h.1, Nat.le_of_ble_eq_true h.2⟩
  · split
    · rename_i n1 n2 _ _ _ q
      exact absurd q (n1 _ _)
    · rename_i n1 n2 _ _ _ q
      exact absurd q (n2 _ _)
    · trivial
noncomputable def ca0 (k : Nat) : Bool := (fun (s : Nat) (c : sC_s) => cond (Nat.beq c.2.2.1 (tyk s).2.2) (cond (Nat.beq s 25) true (cond (Nat.ble c.2.2.1 64) ((List.range c.2.2.1).all (fun j => cokb s j (mzv c j))) false)) false) (tshl.getD k 0) (tget 10 sW1.2.2 k)
theorem ca0_all : (List.range 664).all ca0 = true := by decide +kernel
theorem ca1_all : (List.range 64).all (fun s => (List.range 64).all (fun j => Nat.blt j (tyk s).2.2 || cokb s j 0)) = true := by decide +kernel
theorem tshl_lt : (List.range 691).all (fun k => Nat.blt (tshl.getD k 0) 64) = true := by decide +kernel
end START1
