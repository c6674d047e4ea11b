/-! THE TABLE: what is taken of the special methods holds, and the machine does it. -/
section TABLE
theorem eT_g (lv : List (Nat × bV)) (w : bW) : eT 2564 0 lv [] w = gT0 lv w := by
  rw [eT_def]
  rfl
theorem eT_r (lv : List (Nat × bV)) (w : bW) : eT 2062 0 lv [] w = rT0 lv := by
  rw [eT_def]
  rfl
theorem eT_s (lv : List (Nat × bV)) (w : bW) : eT 2059 27 lv [] w = sT0 lv := by
  rw [eT_def]
  rfl
theorem tc3 (r : Nat) (m : Int → Int) : tcell r 3 m = .inl (3, [.inr (.inl (Int64.ofInt (m 0))), .inr (.inl (Int64.ofInt (m 1)))]) := rfl
theorem EO_all (scr : List Int32) : EO (scr, eT) := by
  refine ⟨⟨fun v u w => match v, u with
    | .inr (.inr (.inl r)), .inl k => (match w.1[r]? with
      | some (.inl (3, [.inr (.inl a), .inr (.inl b)])) => gval k.toInt.toNat a b
      | _ => 0)
    | _, _ => 0, ?_⟩, ⟨recJ, ?_⟩, ⟨sgJ, ?_⟩⟩
  · intro lv M n r k hr h0 h1 hk
    show eT 2564 0 lv [] (two M n) = _
    rw [eT_g]
    unfold gT0
    rw [h0, h1]
    simp only []
    rw [two_get hr (by decide), tc3]
    simp only []
    rw [if_pos hk]
  · intro lv w c x h0 h1
    refine ⟨recJ_in c x, ?_⟩
    show eT 2062 0 lv [] w = _
    rw [eT_r]
    unfold rT0
    rw [h0, h1]
  · intro lv w j x h1 hj hj2 h2 hx
    obtain ⟨g1, g2⟩ := sgJ_in (j := j) hx hj2
    refine ⟨?_, g1, g2⟩
    show eT 2059 27 lv [] w = _
    rw [eT_s]
    unfold sT0
    rw [h1, h2]
    simp only []
    rw [if_pos ⟨⟨hj, hj2⟩, hx⟩]
theorem i32_k {k : Int32} (h : 2 ≤ k.toInt ∧ k.toInt ≤ 9) : Int32.ofNat k.toInt.toNat = k := Int32.toInt_inj.mp (by rw [Int32.toInt_ofNat_of_lt (by omega)]; omega)
theorem eT_snd {l : Launch} {K : KE} {scr : List Int32} (A : bAll K (bPr scr)) (d mi pc : Nat) (lv : List (Nat × bV)) (st : List bV) (w : bW) (v : bV) (h : eT mi pc lv st w = some v) : bSnd l K (bPr scr) (d + 4) mi pc lv st w (.inl (some v)) w := by
  rw [eT_def] at h
  unfold bT0 at h
  split at h
  · split at h
    · rename_i q
      obtain ⟨rfl, rfl⟩ := q
      unfold gT0 at h
      split at h
      · rename_i r k h0 h1
        split at h
        · rename_i a b hw
          split at h
          · rename_i hk
            cases h
            exact g_snd A (by omega) hw h0 (by rw [h1, i32_k hk])
          · cases h
        · cases h
      · cases h
    · split at h
      · rename_i q
        obtain ⟨rfl, rfl⟩ := q
        unfold rT0 at h
        split at h
        · rename_i c x h0 h1
          cases h
          exact rec_snd A h0 h1
        · cases h
      · split at h
        · rename_i q
          obtain ⟨rfl, rfl⟩ := q
          unfold sT0 at h
          split at h
          · rename_i j x h1 h2
            split at h
            · rename_i hj
              cases h
              exact sgn_snd A hj.1 hj.2 h1 h2
            · cases h
          · cases h
        · cases h
  · cases h
end TABLE
