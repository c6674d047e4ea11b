/-! DOUBLES as data: what a result's datum is. -/
section DBL
theorem fb_tails : Jvm.FP.Core.b64.tails = 4503599627370496 := by decide +kernel
theorem fb_exps : Jvm.FP.Core.b64.exps = 2048 := by decide +kernel
theorem fb_qmin : Jvm.FP.Core.b64.qmin = -1074 := by decide +kernel
theorem fb_qmax : Jvm.FP.Core.b64.qmax = 971 := by decide +kernel
theorem fb_pow : 2 ^ Jvm.FP.Core.b64.p = 9007199254740992 := by decide +kernel
/-- a datum that can be written -/
def fok (d : Jvm.FP.Core.Datum) : Prop := match d with
  | .fin _ c q => c < 9007199254740992 ∧ -1074 ≤ q ∧ q ≤ 971
  | _ => True
def fnm (d : Jvm.FP.Core.Datum) : Jvm.FP.Core.Datum := match d with
  | .fin s c q => if c < 4503599627370496 then .fin s c (-1074) else .fin s c q
  | d => d
theorem fb_S {s : Bool} {E T : Nat} (hE : E < 2048) (hT : T < 4503599627370496) : Jvm.FP.Core.fieldT Jvm.FP.Core.b64 (Jvm.FP.Core.assemble Jvm.FP.Core.b64 s E T) = T ∧ Jvm.FP.Core.fieldE Jvm.FP.Core.b64 (Jvm.FP.Core.assemble Jvm.FP.Core.b64 s E T) = E ∧ Jvm.FP.Core.fieldS Jvm.FP.Core.b64 (Jvm.FP.Core.assemble Jvm.FP.Core.b64 s E T) = s ∧ Jvm.FP.Core.assemble Jvm.FP.Core.b64 s E T < 18446744073709551616 := by
  unfold Jvm.FP.Core.fieldT Jvm.FP.Core.fieldE Jvm.FP.Core.fieldS Jvm.FP.Core.assemble
  rw [fb_tails, fb_exps]
  have h1 : ((s.toNat * 2048 + E) * 4503599627370496 + T) % 4503599627370496 = T := by omega
  have h2 : ((s.toNat * 2048 + E) * 4503599627370496 + T) / 4503599627370496 = s.toNat * 2048 + E := by omega
  have h3 : (s.toNat * 2048 + E) % 2048 = E := by rw [Nat.mul_comm, Nat.mul_add_mod, Nat.mod_eq_of_lt hE]
  have h4 : (s.toNat * 2048 + E) / 2048 = s.toNat := by rw [Nat.mul_comm, Nat.mul_add_div (by decide), Nat.div_eq_of_lt hE, Nat.add_zero]
  have h5 : s.toNat ≤ 1 := by cases s <;> decide
  rw [h1, h2, h3, h4]
  refine ⟨rfl, rfl, by cases s <;> rfl, by omega⟩
theorem fb_enc {d : Jvm.FP.Core.Datum} (h : fok d) : Jvm.FP.Core.decode Jvm.FP.Core.b64 (Jvm.FP.Core.encode Jvm.FP.Core.b64 d) = fnm d ∧ Jvm.FP.Core.encode Jvm.FP.Core.b64 d < 18446744073709551616 := by
  cases d with
  | nan =>
    obtain ⟨g1, g2, g3, g4⟩ := fb_S (s := false) (E := 2047) (T := 2251799813685248) (by decide) (by decide)
    refine ⟨?_, g4⟩
    unfold Jvm.FP.Core.decode
    rw [fb_exps]
    show (if Jvm.FP.Core.fieldE Jvm.FP.Core.b64 (Jvm.FP.Core.assemble Jvm.FP.Core.b64 false 2047 2251799813685248) = 2047 then _ else _) = _
    rw [if_pos g2]
    show (if Jvm.FP.Core.fieldT Jvm.FP.Core.b64 (Jvm.FP.Core.assemble Jvm.FP.Core.b64 false 2047 2251799813685248) = 0 then _ else _) = _
    rw [g1, if_neg (by decide)]
    rfl
  | inf s =>
    obtain ⟨g1, g2, g3, g4⟩ := fb_S (s := s) (E := 2047) (T := 0) (by decide) (by decide)
    refine ⟨?_, g4⟩
    unfold Jvm.FP.Core.decode
    rw [fb_exps]
    show (if Jvm.FP.Core.fieldE Jvm.FP.Core.b64 (Jvm.FP.Core.assemble Jvm.FP.Core.b64 s 2047 0) = 2047 then (if Jvm.FP.Core.fieldT Jvm.FP.Core.b64 (Jvm.FP.Core.assemble Jvm.FP.Core.b64 s 2047 0) = 0 then Jvm.FP.Core.Datum.inf (Jvm.FP.Core.fieldS Jvm.FP.Core.b64 (Jvm.FP.Core.assemble Jvm.FP.Core.b64 s 2047 0)) else _) else _) = _
    rw [if_pos g2, if_pos g1, g3]
    rfl
  | fin s c q =>
    obtain ⟨h1, h2, h3⟩ := h
    unfold Jvm.FP.Core.encode fnm
    simp only [fb_tails, fb_qmin]
    by_cases hc : c < 4503599627370496
    · rw [if_pos hc, if_pos hc]
      obtain ⟨g1, g2, g3, g4⟩ := fb_S (s := s) (E := 0) (T := c) (by decide) hc
      refine ⟨?_, g4⟩
      unfold Jvm.FP.Core.decode
      rw [g1, g2, g3, fb_exps, fb_qmin, if_neg (by decide), if_pos rfl]
    · rw [if_neg hc, if_neg hc]
      obtain ⟨g1, g2, g3, g4⟩ := fb_S (s := s) (E := (q - -1074).toNat + 1) (T := c - 4503599627370496) (by omega) (by omega)
      refine ⟨?_, g4⟩
      unfold Jvm.FP.Core.decode
      rw [g1, g2, g3, fb_exps, fb_qmin, fb_tails, if_neg (by omega), if_neg (by omega)]
      have e1 : 4503599627370496 + (c - 4503599627370496) = c := by omega
      have e2 : (-1074 : Int) + ((((q - -1074).toNat + 1 : Nat) : Int) - 1) = q := by omega
      rw [e1, e2]
end DBL
