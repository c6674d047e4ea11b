/-! NUMBERS in rows of nine digits: pure facts. -/
theorem pw_ex : ∃ f : Nat → Nat, f = fun k => 1000000000 ^ k := ⟨_, rfl⟩
noncomputable def pw : Nat → Nat := Classical.choose pw_ex
theorem pw_def (k : Nat) : pw k = 1000000000 ^ k := congrFun (Classical.choose_spec pw_ex) k
theorem dg_ex : ∃ f : Nat → Nat → Nat, f = fun x k => x / pw k % 1000000000 := ⟨_, rfl⟩
noncomputable def dg : Nat → Nat → Nat := Classical.choose dg_ex
theorem dg_def (x k : Nat) : dg x k = x / pw k % 1000000000 := congrFun (congrFun (Classical.choose_spec dg_ex) x) k
theorem tn_ex : ∃ f : Nat → Nat, f = fun k => 10 ^ k := ⟨_, rfl⟩
noncomputable def tn : Nat → Nat := Classical.choose tn_ex
theorem tn_def (k : Nat) : tn k = 10 ^ k := congrFun (Classical.choose_spec tn_ex) k
theorem pw_0 : pw 0 = 1 := pw_def 0
theorem pw_1 : pw 1 = 1000000000 := (pw_def 1).trans (by decide)
theorem pw_2 : pw 2 = 1000000000000000000 := (pw_def 2).trans (by decide)
theorem pw_3 : pw 3 = 1000000000000000000000000000 := (pw_def 3).trans (by decide)
theorem pw_4 : pw 4 = 1000000000000000000000000000000000000 := (pw_def 4).trans (by decide)
theorem pw_s (k : Nat) : pw (k + 1) = pw k * 1000000000 := by rw [pw_def, pw_def, Nat.pow_succ]
theorem pw_pos (k : Nat) : 0 < pw k := by rw [pw_def]; exact Nat.pow_pos (show 0 < 1000000000 by decide)
theorem pw_mono {a b : Nat} (h : a ≤ b) : pw a ≤ pw b := by rw [pw_def, pw_def]; exact Nat.pow_le_pow_right (show 0 < 1000000000 by decide) h
theorem pw_lt {a b : Nat} (h : a < b) : pw a < pw b := by rw [pw_def, pw_def]; exact Nat.pow_lt_pow_right (show 1 < 1000000000 by decide) h
theorem pw_add (a b : Nat) : pw (a + b) = pw a * pw b := by rw [pw_def, pw_def, pw_def, Nat.pow_add]
theorem tn_0 : tn 0 = 1 := tn_def 0
theorem tn_9 : tn 9 = 1000000000 := (tn_def 9).trans (by decide)
theorem tn_18 : tn 18 = 1000000000000000000 := (tn_def 18).trans (by decide)
theorem tn_s (k : Nat) : tn (k + 1) = tn k * 10 := by rw [tn_def, tn_def, Nat.pow_succ]
theorem tn_pos (k : Nat) : 0 < tn k := by rw [tn_def]; exact Nat.pow_pos (show 0 < 10 by decide)
theorem tn_add (a b : Nat) : tn (a + b) = tn a * tn b := by rw [tn_def, tn_def, tn_def, Nat.pow_add]
theorem tn_mono {a b : Nat} (h : a ≤ b) : tn a ≤ tn b := by rw [tn_def, tn_def]; exact Nat.pow_le_pow_right (show 0 < 10 by decide) h
theorem pw_tn (k : Nat) : pw k = tn (9 * k) := by rw [pw_def, tn_def, Nat.pow_mul]
theorem dg_lt (x k : Nat) : dg x k < 1000000000 := by rw [dg_def]; exact Nat.mod_lt _ (by decide)
theorem mod_pw (x k : Nat) : x % pw (k + 1) = x % pw k + pw k * dg x k := by
  rw [pw_s, Nat.mod_mul, dg_def]
theorem div_pw (x k : Nat) : x / pw k = x / pw (k + 1) * 1000000000 + dg x k := by
  rw [pw_s, ← Nat.div_div_eq_div_mul]
  simp only [dg_def]
  omega
theorem dg_big {x k : Nat} (h : x < pw k) : dg x k = 0 := by
  simp only [dg_def]
  rw [Nat.div_eq_of_lt h]
theorem dg_ge {x m k : Nat} (h : x < pw m) (hk : m ≤ k) : dg x k = 0 := dg_big (Nat.lt_of_lt_of_le h (pw_mono hk))
theorem pw_le_iff {x m k : Nat} (h : x < pw m) (h2 : pw k ≤ x) : k < m := by
  rcases Nat.lt_or_ge k m with h3 | h3
  · exact h3
  · exact absurd (Nat.lt_of_lt_of_le h (pw_mono h3)) (Nat.not_lt.mpr h2)
/-- the carry -/
noncomputable def cy (A b y k : Nat) : Nat := (A % pw k + b * (y % pw k)) / pw k
theorem cy_0 (A b y : Nat) : cy A b y 0 = 0 := by
  unfold cy
  rw [pw_0, Nat.mod_one, Nat.mod_one, Nat.mul_zero]
theorem fma_div (A b y k : Nat) : (A + b * y) / pw k = A / pw k + b * (y / pw k) + cy A b y k := by
  have hp := pw_pos k
  have h1 := Nat.div_add_mod A (pw k)
  have h2 := Nat.div_add_mod y (pw k)
  have e : A + b * y = (A % pw k + b * (y % pw k)) + pw k * (A / pw k + b * (y / pw k)) := by
    calc A + b * y = (pw k * (A / pw k) + A % pw k) + b * (pw k * (y / pw k) + y % pw k) := by rw [h1, h2]
      _ = _ := by
        rw [Nat.mul_add, Nat.mul_add, Nat.mul_left_comm b (pw k)]
        omega
  rw [e, Nat.add_mul_div_left _ _ hp]
  unfold cy
  omega
theorem fma_dg (A b y k : Nat) : (dg A k + b * dg y k + cy A b y k) % 1000000000 = dg (A + b * y) k := by
  simp only [dg_def]
  rw [fma_div]
  generalize A / pw k = a
  generalize y / pw k = z
  generalize cy A b y k = c
  have h1 := Nat.div_add_mod a 1000000000
  have h2 := Nat.div_add_mod z 1000000000
  have e : a + b * z + c = (a % 1000000000 + b * (z % 1000000000) + c) + 1000000000 * (a / 1000000000 + b * (z / 1000000000)) := by
    have h3 : b * z = b * (1000000000 * (z / 1000000000) + z % 1000000000) := by rw [h2]
    rw [h3, Nat.mul_add, Nat.mul_add, Nat.mul_left_comm b 1000000000]
    omega
  rw [e, Nat.add_mul_mod_self_left]
theorem fma_cy (A b y k : Nat) : (dg A k + b * dg y k + cy A b y k) / 1000000000 = cy A b y (k + 1) := by
  have hp := pw_pos k
  have e : cy A b y (k + 1) = (A % pw (k + 1) + b * (y % pw (k + 1))) / pw k / 1000000000 := by
    rw [Nat.div_div_eq_div_mul, ← pw_s]
    rfl
  rw [e, mod_pw, mod_pw]
  have e2 : A % pw k + pw k * dg A k + b * (y % pw k + pw k * dg y k) = (A % pw k + b * (y % pw k)) + pw k * (dg A k + b * dg y k) := by
    rw [Nat.mul_add, Nat.mul_add, Nat.mul_left_comm b (pw k)]
    omega
  rw [e2, Nat.add_mul_div_left _ _ hp]
  unfold cy
  congr 1
  omega
theorem cy_le (A b y k : Nat) : cy A b y k ≤ b := by
  unfold cy
  have hp := pw_pos k
  have h1 := Nat.mod_lt A hp
  have h2 : y % pw k ≤ pw k - 1 := by have := Nat.mod_lt y hp; omega
  have h3 : b * (y % pw k) ≤ b * (pw k - 1) := Nat.mul_le_mul_left _ h2
  apply Nat.le_of_lt_succ
  rw [Nat.div_lt_iff_lt_mul hp]
  have h4 : b * (pw k - 1) + b = b * pw k := by
    rw [Nat.mul_sub, Nat.mul_one]
    have : b * 1 ≤ b * pw k := Nat.mul_le_mul_left _ hp
    omega
  rw [Nat.succ_mul]
  omega
/-- no carry behind the digits -/
theorem cy_end {A b y k m : Nat} (hA : A < pw k) (hy : y < pw k) : cy A b y k = (A + b * y) / pw k := by
  unfold cy
  rw [Nat.mod_eq_of_lt hA, Nat.mod_eq_of_lt hy]
theorem add_cy_le (A y k : Nat) : cy A 1 y k ≤ 1 := cy_le A 1 y k
theorem sub_dg {x y k : Nat} (h : y ≤ x) : (dg y k + dg (x - y) k + cy y 1 (x - y) k) % 1000000000 = dg x k := by
  have := fma_dg y 1 (x - y) k
  rw [Nat.one_mul, Nat.one_mul, Nat.add_sub_cancel' h] at this
  exact this
/-- division from the top -/
theorem parts_dg {x b k : Nat} (hb : 0 < b) : ((x / pw (k + 1)) % b * 1000000000 + dg x k) / b = dg (x / b) k ∧ ((x / pw (k + 1)) % b * 1000000000 + dg x k) % b = (x / pw k) % b := by
  have h1 := Nat.div_add_mod (x / pw (k + 1)) b
  have h2 := div_pw x k
  generalize hv : (x / pw (k + 1)) % b * 1000000000 + dg x k = v
  have h3 : x / pw k = v + b * ((x / pw (k + 1)) / b * 1000000000) := by
    rw [h2, ← hv]
    have h4 : x / pw (k + 1) * 1000000000 = (x / pw (k + 1)) % b * 1000000000 + b * ((x / pw (k + 1)) / b * 1000000000) := by
      rw [← Nat.mul_assoc, ← Nat.add_mul, Nat.add_comm (_ % _), h1]
    rw [h4]
    exact Nat.add_right_comm _ _ _
  constructor
  · simp only [dg_def]
    rw [Nat.div_div_eq_div_mul, Nat.mul_comm b, ← Nat.div_div_eq_div_mul, h3, Nat.add_mul_div_left _ _ hb, Nat.mul_comm (_ / _) 1000000000, Nat.add_mul_mod_self_left]
    have h4 : v < b * 1000000000 := by
      have h5 := Nat.mod_lt (x / pw (k + 1)) hb
      have h6 := dg_lt x k
      have h7 : (x / pw (k + 1) % b + 1) * 1000000000 ≤ b * 1000000000 := Nat.mul_le_mul_right _ h5
      omega
    exact (Nat.mod_eq_of_lt (Nat.div_lt_of_lt_mul h4)).symm
  · rw [h3, Nat.add_mul_mod_self_left]
theorem dg_shl {x b j : Nat} : dg (x * pw b) j = if j < b then 0 else dg x (j - b) := by
  simp only [dg_def]
  split
  · rename_i h
    obtain ⟨c, rfl⟩ : ∃ c, b = j + (c + 1) := ⟨b - j - 1, by omega⟩
    rw [pw_add, pw_s, ← Nat.mul_assoc, ← Nat.mul_assoc, Nat.mul_right_comm x (pw j) (pw c), Nat.mul_assoc _ (pw j), Nat.mul_comm (pw j), ← Nat.mul_assoc, Nat.mul_div_cancel _ (pw_pos j), Nat.mul_mod_left]
  · rename_i h
    obtain ⟨c, rfl⟩ : ∃ c, j = b + c := ⟨j - b, by omega⟩
    rw [pw_add, ← Nat.div_div_eq_div_mul, Nat.mul_div_cancel _ (pw_pos b), Nat.add_sub_cancel_left]
theorem dg_shr {x b j : Nat} : dg (x / pw b) j = dg x (j + b) := by
  simp only [dg_def]
  rw [Nat.div_div_eq_div_mul, ← pw_add, Nat.add_comm b j]
/-- two numbers of one length, by their digits from the top -/
theorem cmp_top {x y k : Nat} (h : x / pw (k + 1) = y / pw (k + 1)) : (dg x k < dg y k → x < y) ∧ (dg y k < dg x k → y < x) ∧ (dg x k = dg y k → x / pw k = y / pw k) := by
  have h1 := div_pw x k
  have h2 := div_pw y k
  have key : ∀ a b : Nat, a / pw k < b / pw k → a < b := fun a b hab => by
    rcases Nat.lt_or_ge a b with h3 | h3
    · exact h3
    · exact absurd hab (Nat.not_lt.mpr (Nat.div_le_div_right h3))
  exact ⟨fun h3 => key _ _ (by omega), fun h3 => key _ _ (by omega), fun h3 => by omega⟩
theorem tdiv_n {a b : Nat} : ((a : Int)).tdiv (b : Int) = ((a / b : Nat) : Int) := by
  rw [Int.tdiv_eq_ediv_of_nonneg (by omega)]
  rfl
theorem tmod_n {a b : Nat} : ((a : Int)).tmod (b : Int) = ((a % b : Nat) : Int) := by
  rw [Int.tmod_eq_emod_of_nonneg (by omega)]
  rfl
/-- 0 or 1 of a question -/
def tb (p : Prop) [Decidable p] : Int := if p then 1 else 0
theorem tdiv_N {a : Nat} : ((a : Int)).tdiv 1000000000 = ((a / 1000000000 : Nat) : Int) := tdiv_n
theorem tmod_N {a : Nat} : ((a : Int)).tmod 1000000000 = ((a % 1000000000 : Nat) : Int) := tmod_n
def cmpv (x y : Nat) : Int := if x < y then -1 else if x = y then 0 else 1
theorem tci_0 : ((0 : Nat) : Int) = 0 := rfl
theorem tci_1 : ((1 : Nat) : Int) = 1 := rfl
theorem tci_2 : ((2 : Nat) : Int) = 2 := rfl
theorem tci_3 : ((3 : Nat) : Int) = 3 := rfl
theorem tci_4 : ((4 : Nat) : Int) = 4 := rfl
theorem tci_5 : ((5 : Nat) : Int) = 5 := rfl
theorem tci_6 : ((6 : Nat) : Int) = 6 := rfl
theorem tci_7 : ((7 : Nat) : Int) = 7 := rfl
theorem tci_8 : ((8 : Nat) : Int) = 8 := rfl
theorem tci_9 : ((9 : Nat) : Int) = 9 := rfl
theorem tci_10 : ((10 : Nat) : Int) = 10 := rfl
theorem tci_11 : ((11 : Nat) : Int) = 11 := rfl
theorem tci_12 : ((12 : Nat) : Int) = 12 := rfl
theorem tci_13 : ((13 : Nat) : Int) = 13 := rfl
theorem tci_14 : ((14 : Nat) : Int) = 14 := rfl
theorem tci_15 : ((15 : Nat) : Int) = 15 := rfl
theorem tci_19 : ((19 : Nat) : Int) = 19 := rfl
theorem tci_32 : ((32 : Nat) : Int) = 32 := rfl
theorem tci_54 : ((54 : Nat) : Int) = 54 := rfl
theorem tci_60 : ((60 : Nat) : Int) = 60 := rfl
theorem tci_128 : ((128 : Nat) : Int) = 128 := rfl
theorem tci_320 : ((320 : Nat) : Int) = 320 := rfl
theorem tci_700 : ((700 : Nat) : Int) = 700 := rfl
theorem tci_960 : ((960 : Nat) : Int) = 960 := rfl
