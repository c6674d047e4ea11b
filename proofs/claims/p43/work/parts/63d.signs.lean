/-! THE MACHINE on recipes: the sign at a place. -/
section SGN
theorem sg_at : ∀ j : Fin 16, 4 ≤ j.val → (brec.getD (j.val - 4) (0, 0, "", []) ∈ brec ∧ (brec.getD (j.val - 4) (0, 0, "", [])).1 = j.val) := by decide +kernel
theorem sg_b : ∀ j : Fin 16, (sgB j.val).length ≤ 9 ∧ ∀ k : Fin 9, (0 ≤ ((sgB j.val).getD k.val 0).toInt ∧ ((sgB j.val).getD k.val 0).toInt ≤ 127) ∧ ((((sgB j.val).getD k.val 0) &&& 255).toUInt32 % 65536).toInt32 = (sgB j.val).getD k.val 0 := by decide +kernel
theorem sg_nar {x : Int32} (h : 0 ≤ x.toInt ∧ x.toInt ≤ 127) : narrow .char (.int x) = .int x := by
  have e : x = Int32.ofNat x.toInt.toNat := Int32.toInt_inj.mp (by rw [Int32.toInt_ofNat_of_lt (by omega)]; omega)
  have hh : ∀ k : Fin 128, narrow .char (.int (Int32.ofNat k.val)) = .int (Int32.ofNat k.val) := by decide +kernel
  have h2 := hh ⟨x.toInt.toNat, by omega⟩
  rw [e]
  exact h2
theorem sgn_n {j : Nat} {x : Int32} (h0 : 0 ≤ x.toInt) (hj : j < 16) (h : x < Int32.ofNat (sgB j).length) : x.toNatClampNeg < (sgB j).length ∧ (x.toNatClampNeg : Int) = x.toInt := by
  have h2 := Int32.lt_iff_toInt_lt.mp h
  have h3 := (sg_b ⟨j, hj⟩).1
  rw [Int32.toInt_ofNat_of_lt (by show (sgB j).length < _; have h3 : (sgB j).length ≤ 9 := h3; omega)] at h2
  have h4 : x.toNatClampNeg = x.toInt.toNat := rfl
  omega
theorem sgJ_in {j : Nat} {x : Int32} (h0 : 0 ≤ x.toInt) (hj : j < 16) : (0 ≤ (sgJ j x).toInt ∧ (sgJ j x).toInt ≤ 127) ∧ (9 ≤ x.toInt → sgJ j x = 0) := by
  unfold sgJ
  have h3 : (sgB j).length ≤ 9 := (sg_b ⟨j, hj⟩).1
  by_cases h : x < Int32.ofNat (sgB j).length
  · rw [if_pos h]
    obtain ⟨g1, g2⟩ := sgn_n h0 hj h
    exact ⟨((sg_b ⟨j, hj⟩).2 ⟨x.toNatClampNeg, by omega⟩).1, fun h9 => by omega⟩
  · rw [if_neg h]
    exact ⟨by decide, fun _ => rfl⟩
end SGN
