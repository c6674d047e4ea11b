
/-! THE LAW: its loop's rules. -/
section LAW
theorem tT_tsw {e : tE} {d mi pc t : Nat} {df lo hi x off : Int} {offs : Array Int} {j a b : Nat} {v : Int} {L : tL} {st : List tV} {M : tM} {n : Nat} {Q : tR → tM → Nat → Prop} (ho : bop mi pc = some (.tableswitch df lo hi offs, j, a, b, v)) (hx : -2147483648 ≤ x ∧ x < 2147483648) (hof : (if x < lo ∨ hi < x then some df else offs[(x - lo).toNat]?) = some off) (hp : 0 ≤ (pc : Int) + off) (ht : ((pc : Int) + off).toNat = t) (h : tT e d mi t L st M n Q) : tT e d mi pc L (.inl x :: st) M n Q := by
  refine tT_st (pc' := t) (st' := st) ho (fun lv w => ?_) h
  show btsw pc df lo hi offs lv (.inl (Int32.ofInt x) :: st.map tdn) w = _
  show (if (Int32.ofInt x).toInt < lo ∨ hi < (Int32.ofInt x).toInt then (if 0 ≤ (pc : Int) + df then some (((pc : Int) + df).toNat, lv, st.map tdn, w) else none) else (match offs[((Int32.ofInt x).toInt - lo).toNat]? with | some off => if 0 ≤ (pc : Int) + off then some (((pc : Int) + off).toNat, lv, st.map tdn, w) else none | none => none)) = _
  rw [ofI_bound hx]
  split at hof
  · rename_i q
    cases hof
    rw [if_pos q, if_pos hp, ht]
  · rename_i q
    rw [if_neg q, hof]
    simp only []
    rw [if_pos hp, ht]
theorem tc_w {e : tE} {d mi a D : Nat} {o : bO} {vs rest : List tV} {L : tL} {M : tM} {n : Nat} {Q : tR → tM → Nat → Prop} {k : tL → List tV → tM → Nat → Prop} (h : ∀ d', D ≤ d' → tC e d' a vs M n (WQ n M)) (hd : D + 1 ≤ d) (hk : ∀ z M' n', n ≤ n' ∧ n' ≤ n + 1 → CK M' → WE M M' → k L (.inl z :: rest) M' n') : tcall e d mi a o vs rest L M n Q k := by
  refine ⟨d - 1, by omega, WQ n M, h _ (by omega), ?_, ?_⟩
  · rintro v M' n' ⟨⟨z, q⟩, h1, h2, h3⟩
    cases q
    exact hk z M' n' h1 h2 h3
  · rintro v M' n' ⟨⟨z, q⟩, _⟩
    cases q
theorem MF_we {M M' : tM} {D : Nat} (h : MF M D) (w : WE M M') : MF M' D :=
  ⟨MP_same (fun k i q => w k i (Or.inl (by omega))) h.1, TX_same (fun k i q => w k i (Or.inl (by omega))) h.2.1, FI_same (fun k i q => w k i (Or.inl (by omega))) h.2.2.1, PJ_same (fun k i q => w k i (Or.inl (by omega))) h.2.2.2⟩
theorem CI_mc {M M' : tM} (h : CI M) (m : MC M M') : CI M' := ⟨fun k j hk hj => by
  rw [m k j (Or.inl hk)]
  exact h.1 k j hk hj, FA_same h.2 (fun k j hk _ => m k j (Or.inl hk))⟩
theorem UN_mc {M M' : tM} (h : UN M) (m : MC M M') : UN M' := by
  unfold UN
  rw [m 78 5 (Or.inl (by decide)), m 0 0 (Or.inl (by decide))]
  exact h
theorem CK_mc {M M' : tM} (h : CK M) (m : MC M M') : CK M' := ⟨CI_mc h.1 m, KW_g h.2 (UN_mc (CK_U h) m) (RO_u h.2.1.1.2 (m 79 4 (Or.inl (by decide))) (m 79 5 (Or.inl (by decide)))) (fun k i g => m k i (Or.inl (by unfold KPC at g; omega)))⟩
/-- what the loop keeps -/
def LI (M : tM) (n : Nat) (i : Int) : Prop := CK M ∧ (∃ D : Nat, MF M D ∧ M 0 0 = (D : Int)) ∧ (0 ≤ i ∧ 6 * (n : Int) ≤ i)
theorem LI_mk {M M1 M2 : tM} {n n1 D : Nat} {i : Int} (hn : 0 ≤ i ∧ 6 * (n : Int) ≤ i) (hD : M 0 0 = (D : Int)) (h1 : n ≤ n1 ∧ n1 ≤ n + 1) (c1 : CK M1) (w1 : WE M M1) (f2 : MF M2 D) (m2 : MC M1 M2) : LI M2 n1 (i + 6) :=
  ⟨CK_mc c1 m2, ⟨D, f2, by rw [m2 0 0 (Or.inl (by omega)), w1 0 0 (Or.inr (Or.inl ⟨rfl, rfl⟩)), hD]⟩, by omega⟩
theorem rgi (e : tE) (j : Int) : -2147483648 ≤ txv e 1 j ∧ txv e 1 j ≤ 2147483647 := ⟨Int32.le_toInt _, by have := Int32.toInt_lt (e.1.getD j.toNat 0); show (e.1.getD j.toNat 0).toInt ≤ _; omega⟩
theorem rgj (e : tE) (j : Int) : -2147483648 ≤ txv e 1 j ∧ txv e 1 j < 2147483648 := ⟨Int32.le_toInt _, Int32.toInt_lt _⟩
theorem rgc (x : Int) : 0 ≤ x % 65536 ∧ x % 65536 ≤ 65535 := by omega
theorem rgd (x : Int) : 0 ≤ x % 65536 ∧ x % 65536 < 65536 := by omega
theorem rgl (x : Int64) : -9223372036854775808 ≤ x.toInt ∧ x.toInt < 9223372036854775808 := ⟨Int64.le_toInt _, Int64.toInt_lt _⟩
theorem sh64a : (tyk (tsh 664)).1 = 0 := by rw [tshm_14]; rfl
theorem sh64b : (tsh 664 : Int) = 14 := by rw [tshm_14]; rfl
end LAW
