/-! THE TABLE's guessed roots are near. -/
section DBLT
theorem pw_cast (a k : Nat) : ((a ^ k : Nat) : Int) = (a : Int) ^ k := Int.natCast_pow a k
theorem NR_g {k : Nat} {v : Int} {w p : Int64} (hk : 2 ≤ k ∧ k ≤ 4) (hw : w.toInt = v / 10000000000) (hp : p.toInt = v % 10000000000) (hv : 0 ≤ v ∧ v < 10000000000000000000000) : NR k v (gval k w p).toInt := by
  rcases Int.lt_or_le 0 v with g | g
  · obtain ⟨z, e, h1, h2, h3⟩ := gvV (k := k) (a := (v / 10000000000).toNat) (b := (v % 10000000000).toNat) (w := w) (p := p) hk (by omega) (by omega) (by omega) (by omega) (by omega)
    rw [e]
    have ev : (((v / 10000000000).toNat * 10000000000 + (v % 10000000000).toNat : Nat) : Int) = v := by omega
    have ek : (((v / 10000000000).toNat * 10000000000 + (v % 10000000000).toNat) * 10000000000 ^ (k - 1) : Nat) = v * pwrK k := by
      rw [Int.natCast_mul, ev, pwrK_n (by omega)]
    refine ⟨by omega, ?_, ?_⟩
    · rcases Nat.lt_or_ge 900 z with q | q
      · refine Or.inr ?_
        rcases h2 with h2 | h2
        · omega
        · have m := Int.ofNat_le.mpr h2
          rw [pw_cast, ek] at m
          rw [show (z : Int) - 900 = ((z - 900 : Nat) : Int) by omega]
          exact m
      · exact Or.inl (by omega)
    · have m := Int.ofNat_lt.mpr h3
      rw [pw_cast, ek] at m
      rw [show (z : Int) + 900 = ((z + 900 : Nat) : Int) by omega]
      exact m
  · have v0 : v = 0 := by omega
    subst v0
    have e1 : w = 0 := Int64.toInt_inj.mp (by rw [hw]; rfl)
    have e2 : p = 0 := Int64.toInt_inj.mp (by rw [hp]; rfl)
    rw [e1, e2, gv0 ⟨k, by omega⟩ (by show 2 ≤ k; omega)]
    have e3 : (0 : Int64).toInt = 0 := rfl
    rw [e3]
    refine ⟨by omega, Or.inl (by omega), ?_⟩
    rw [Int.zero_mul]
    exact Int.pow_pos (by decide)
theorem EVr_all (scr : List Int32) : EVr (scr, eT) := by
  intro M n r k v hr hk hB hv
  have e0 : (Int64.ofInt (M r 0)).toInt = v / 10000000000 := by
    rw [hB.1]
    exact Int64.toInt_ofInt_of_le (by omega) (by omega)
  have e1 : (Int64.ofInt (M r 1)).toInt = v % 10000000000 := by
    rw [hB.2]
    exact Int64.toInt_ofInt_of_le (by omega) (by omega)
  refine ⟨gval k.toInt.toNat (Int64.ofInt (M r 0)) (Int64.ofInt (M r 1)), NR_g (by omega) e0 e1 hv, ?_⟩
  intro lv h0 h1
  show eT 2564 0 lv [] (two M n) = _
  rw [eT_g]
  unfold gT0
  rw [h0, h1]
  simp only []
  rw [two_get hr (by decide), tc3]
  simp only []
  rw [if_pos (by omega)]
end DBLT
