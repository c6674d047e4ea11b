/-! NUMBERS in rows of nine digits: pure facts. -/
theorem pw_ex : ∃ f : Nat → Nat, f = fun k => 1000000000 ^ k := sorry
noncomputable def pw : Nat → Nat := Classical.choose pw_ex
theorem pw_def (k : Nat) : pw k = 1000000000 ^ k := sorry
theorem dg_ex : ∃ f : Nat → Nat → Nat, f = fun x k => x / pw k % 1000000000 := sorry
noncomputable def dg : Nat → Nat → Nat := Classical.choose dg_ex
theorem dg_def (x k : Nat) : dg x k = x / pw k % 1000000000 := sorry
theorem tn_ex : ∃ f : Nat → Nat, f = fun k => 10 ^ k := sorry
noncomputable def tn : Nat → Nat := Classical.choose tn_ex
theorem tn_def (k : Nat) : tn k = 10 ^ k := sorry
theorem pw_0 : pw 0 = 1 := sorry
theorem pw_1 : pw 1 = 1000000000 := sorry
theorem pw_2 : pw 2 = 1000000000000000000 := sorry
theorem pw_3 : pw 3 = 1000000000000000000000000000 := sorry
theorem pw_4 : pw 4 = 1000000000000000000000000000000000000 := sorry
theorem pw_s (k : Nat) : pw (k + 1) = pw k * 1000000000 := sorry
theorem pw_pos (k : Nat) : 0 < pw k := sorry
theorem pw_mono {a b : Nat} (h : a ≤ b) : pw a ≤ pw b := sorry
theorem pw_lt {a b : Nat} (h : a < b) : pw a < pw b := sorry
theorem pw_add (a b : Nat) : pw (a + b) = pw a * pw b := sorry
theorem tn_0 : tn 0 = 1 := sorry
theorem tn_9 : tn 9 = 1000000000 := sorry
theorem tn_18 : tn 18 = 1000000000000000000 := sorry
theorem tn_s (k : Nat) : tn (k + 1) = tn k * 10 := sorry
theorem tn_pos (k : Nat) : 0 < tn k := sorry
theorem tn_add (a b : Nat) : tn (a + b) = tn a * tn b := sorry
theorem tn_mono {a b : Nat} (h : a ≤ b) : tn a ≤ tn b := sorry
theorem pw_tn (k : Nat) : pw k = tn (9 * k) := sorry
theorem dg_lt (x k : Nat) : dg x k < 1000000000 := sorry
theorem mod_pw (x k : Nat) : x % pw (k + 1) = x % pw k + pw k * dg x k := sorry
theorem div_pw (x k : Nat) : x / pw k = x / pw (k + 1) * 1000000000 + dg x k := sorry
theorem dg_big {x k : Nat} (h : x < pw k) : dg x k = 0 := sorry
theorem dg_ge {x m k : Nat} (h : x < pw m) (hk : m ≤ k) : dg x k = 0 := sorry
theorem pw_le_iff {x m k : Nat} (h : x < pw m) (h2 : pw k ≤ x) : k < m := sorry
/-- the carry -/
noncomputable def cy (A b y k : Nat) : Nat := (A % pw k + b * (y % pw k)) / pw k
theorem cy_0 (A b y : Nat) : cy A b y 0 = 0 := sorry
theorem fma_div (A b y k : Nat) : (A + b * y) / pw k = A / pw k + b * (y / pw k) + cy A b y k := sorry
theorem fma_dg (A b y k : Nat) : (dg A k + b * dg y k + cy A b y k) % 1000000000 = dg (A + b * y) k := sorry
theorem fma_cy (A b y k : Nat) : (dg A k + b * dg y k + cy A b y k) / 1000000000 = cy A b y (k + 1) := sorry
theorem cy_le (A b y k : Nat) : cy A b y k ≤ b := sorry
/-- no carry behind the digits -/
theorem cy_end {A b y k m : Nat} (hA : A < pw k) (hy : y < pw k) : cy A b y k = (A + b * y) / pw k := sorry
theorem add_cy_le (A y k : Nat) : cy A 1 y k ≤ 1 := sorry
theorem sub_dg {x y k : Nat} (h : y ≤ x) : (dg y k + dg (x - y) k + cy y 1 (x - y) k) % 1000000000 = dg x k := sorry
/-- division from the top -/
theorem parts_dg {x b k : Nat} (hb : 0 < b) : ((x / pw (k + 1)) % b * 1000000000 + dg x k) / b = dg (x / b) k ∧ ((x / pw (k + 1)) % b * 1000000000 + dg x k) % b = (x / pw k) % b := sorry
theorem dg_shl {x b j : Nat} : dg (x * pw b) j = if j < b then 0 else dg x (j - b) := sorry
theorem dg_shr {x b j : Nat} : dg (x / pw b) j = dg x (j + b) := sorry
/-- two numbers of one length, by their digits from the top -/
theorem cmp_top {x y k : Nat} (h : x / pw (k + 1) = y / pw (k + 1)) : (dg x k < dg y k → x < y) ∧ (dg y k < dg x k → y < x) ∧ (dg x k = dg y k → x / pw k = y / pw k) := sorry
theorem tdiv_n {a b : Nat} : ((a : Int)).tdiv (b : Int) = ((a / b : Nat) : Int) := sorry
theorem tmod_n {a b : Nat} : ((a : Int)).tmod (b : Int) = ((a % b : Nat) : Int) := sorry
/-- 0 or 1 of a question -/
def tb (p : Prop) [Decidable p] : Int := if p then 1 else 0
theorem tdiv_N {a : Nat} : ((a : Int)).tdiv 1000000000 = ((a / 1000000000 : Nat) : Int) := sorry
theorem tmod_N {a : Nat} : ((a : Int)).tmod 1000000000 = ((a % 1000000000 : Nat) : Int) := sorry
def cmpv (x y : Nat) : Int := if x < y then -1 else if x = y then 0 else 1
theorem tci_0 : ((0 : Nat) : Int) = 0 := sorry
theorem tci_1 : ((1 : Nat) : Int) = 1 := sorry
theorem tci_2 : ((2 : Nat) : Int) = 2 := sorry
theorem tci_3 : ((3 : Nat) : Int) = 3 := sorry
theorem tci_4 : ((4 : Nat) : Int) = 4 := sorry
theorem tci_5 : ((5 : Nat) : Int) = 5 := sorry
theorem tci_6 : ((6 : Nat) : Int) = 6 := sorry
theorem tci_7 : ((7 : Nat) : Int) = 7 := sorry
theorem tci_8 : ((8 : Nat) : Int) = 8 := sorry
theorem tci_9 : ((9 : Nat) : Int) = 9 := sorry
theorem tci_10 : ((10 : Nat) : Int) = 10 := sorry
theorem tci_11 : ((11 : Nat) : Int) = 11 := sorry
theorem tci_12 : ((12 : Nat) : Int) = 12 := sorry
theorem tci_13 : ((13 : Nat) : Int) = 13 := sorry
theorem tci_14 : ((14 : Nat) : Int) = 14 := sorry
theorem tci_15 : ((15 : Nat) : Int) = 15 := sorry
theorem tci_19 : ((19 : Nat) : Int) = 19 := sorry
theorem tci_32 : ((32 : Nat) : Int) = 32 := sorry
theorem tci_54 : ((54 : Nat) : Int) = 54 := sorry
theorem tci_60 : ((60 : Nat) : Int) = 60 := sorry
theorem tci_128 : ((128 : Nat) : Int) = 128 := sorry
theorem tci_320 : ((320 : Nat) : Int) = 320 := sorry
theorem tci_700 : ((700 : Nat) : Int) = 700 := sorry
theorem tci_960 : ((960 : Nat) : Int) = 960 := sorry
