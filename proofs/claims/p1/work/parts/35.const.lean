/-! CONSTANT on a fresh object. -/
theorem bsI_0 : bsI 0 = 9223372036854775808 := (bsI_c 0).trans (by decide)
theorem bsI_1 : bsI 1 = 9223372036854775809 := (bsI_c 1).trans (by decide)
/-- of the end -/
theorem kfin_ok {e : sE} {W : sW} : ∀ (C : sK) (z : Option sV) (w : sW), cok e C → kfin W C z w = true → (fun (q : bR) (w' : bW) => q = .inl none ∧ w' = cw e W) (.inl (z.map (cv e))) (cw e w) := by
  intro C z w _ h
  cases z with
  | none => exact ⟨rfl, weq_ok h⟩
  | some v => cases h
theorem k_end {scr : List Int32} {e : sE} (hR : sR scr e) {C : sK} (hC : cok e C) (n : Nat) {W : sW} {p : sP} (h : sexec (kfin W) znv n C p.1 p.2.1 p.2.2.1 p.2.2.2.1 p.2.2.2.2.1 p.2.2.2.2.2.1 p.2.2.2.2.2.2 = true) : pRun scr (fun q w' => q = .inl none ∧ w' = cw e W) e p :=
  sexec_ok hR kfin_ok (fun _ _ _ _ _ _ _ _ _ h => by cases (show false = true from h)) n _ _ _ _ _ _ _ _ hC h
theorem known1 {scr : List Int32} (hl : scr.length < 2147483648) (g : Nat → bC) : bX (bPr scr) 18 3641 0 (cvs (senv2 scr 1 g) [(0, (2, 664)), (1, (0, 60)), (2, (0, 1))]) [] (cw (senv2 scr 1 g) sKw0) (.inl none) (cw (senv2 scr 1 g) sKe1) := by
  have hR : sR scr (senv2 scr 1 g) := senv2_R hl
  have hC : cok (senv2 scr 1 g) [(14, 9223372036854775808, 9223372036854775809)] := cok_cons cok_nil (by show _ ≤ bsI 1; rw [bsI_1]; decide) (by show bsI 1 ≤ _; rw [bsI_1]; decide)
  have hC2 : cok (senv2 scr 1 g) [(14, 9223372036854775809, 9223372036854775809)] := cok_cons cok_nil (by show _ ≤ bsI 1; rw [bsI_1]; decide) (by show bsI 1 ≤ _; rw [bsI_1]; decide)
  have k : pRun scr (fun q w' => q = .inl none ∧ w' = cw (senv2 scr 1 g) sKe1) (senv2 scr 1 g) sKp0 := p_stage hR hC _ kst1 (p_stage hR hC _ kst2 (p_stage hR hC _ kst3 (p_stage hR hC _ kst4 (p_stage hR hC _ kst5 (p_stage hR hC _ kst6 (p_stage hR hC _ kst7 (p_stage hR hC _ kst8 (p_stage hR hC _ kst9 (p_stage hR hC _ kst10 (p_stage hR hC _ kst11 (p_stage hR hC _ kst12 (p_stage hR hC _ kst13 (p_stage hR hC _ kst14 (p_stage hR hC _ kst15 (p_stage hR hC _ kst16 (p_stage hR hC _ kst17 (p_stage hR hC _ kst18 (p_stage hR hC _ kst19 (p_stage hR hC _ kst20 (p_stage hR hC _ kst21 (p_stage hR hC _ kst22 (p_stage hR hC _ kst23 (p_stage hR hC _ kst24 (p_stage hR hC _ kst25 (p_stage hR hC _ kst26 (p_stage hR hC _ kst27 (p_stage hR hC _ kst28 (k_end hR hC2 _ kend1))))))))))))))))))))))))))))
  exact bRun.bX k
theorem known0 {scr : List Int32} (hl : scr.length < 2147483648) (g : Nat → bC) : bX (bPr scr) 18 3641 0 (cvs (senv2 scr 0 g) [(0, (2, 664)), (1, (0, 60)), (2, (0, 0))]) [] (cw (senv2 scr 0 g) sKw0) (.inl none) (cw (senv2 scr 0 g) sKe0) := by
  have hR : sR scr (senv2 scr 0 g) := senv2_R hl
  have hC : cok (senv2 scr 0 g) [(14, 9223372036854775808, 9223372036854775809)] := cok_cons cok_nil (by show _ ≤ bsI 0; rw [bsI_0]; decide) (by show bsI 0 ≤ _; rw [bsI_0]; decide)
  have hC2 : cok (senv2 scr 0 g) [(14, 9223372036854775808, 9223372036854775808)] := cok_cons cok_nil (by show _ ≤ bsI 0; rw [bsI_0]; decide) (by show bsI 0 ≤ _; rw [bsI_0]; decide)
  have k : pRun scr (fun q w' => q = .inl none ∧ w' = cw (senv2 scr 0 g) sKe0) (senv2 scr 0 g) sKp0 := p_stage hR hC _ kst1 (p_stage hR hC _ kst2 (p_stage hR hC _ kst3 (p_stage hR hC _ kst4 (p_stage hR hC _ kst5 (p_stage hR hC _ kst6 (p_stage hR hC _ kst7 (p_stage hR hC _ kst8 (p_stage hR hC _ kst9 (p_stage hR hC _ kst10 (p_stage hR hC _ kst11 (p_stage hR hC _ kst12 (p_stage hR hC _ kst13 (p_stage hR hC _ kst14 (p_stage hR hC _ kst15 (p_stage hR hC _ kst16 (p_stage hR hC _ kst17 (p_stage hR hC _ kst18 (p_stage hR hC _ kst19 (p_stage hR hC _ kst20 (p_stage hR hC _ kst21 (p_stage hR hC _ kst22 (p_stage hR hC _ kst23 (p_stage hR hC _ kst24 (p_stage hR hC _ kst25 (p_stage hR hC _ kst26 (p_stage hR hC _ kst27 (p_stage hR hC _ kst28 (k_end hR hC2 _ kend0))))))))))))))))))))))))))))
  exact bRun.bX k
theorem wop0 : wop sKw0 = true := by decide +kernel
theorem wop1 : wop sKe1 = true := by decide +kernel
theorem wop2 : wop sKe0 = true := by decide +kernel
theorem kw_n : sKw0.1 = 691 := rfl
theorem kw_x : sKw0.2.1 = 0 := rfl
theorem k1_n : sKe1.1 = 691 := rfl
theorem k1_x : sKe1.2.1 = 0 := rfl
theorem k0_n : sKe0.1 = 691 := rfl
theorem k0_x : sKe0.2.1 = 0 := rfl
noncomputable def hkP : sHk := hkV 18 3641 [(0, (2, 664)), (1, (0, 60)), (2, (0, 1))] sKw0 sKe1
noncomputable def hkE : sHk := hkV 18 3641 [(0, (2, 664)), (1, (0, 60)), (2, (0, 0))] sKw0 sKe0
theorem case7p : sexecH hkP pfin znv 3000 ((8, 9223372036854775920, 9223372036854775920) :: sC6 7) 20 3853 23 sLv1 [] sW1 [] = true := by decide +kernel
theorem case7e : sexecH hkE pfin znv 3000 ((8, 9223372036854775909, 9223372036854775909) :: sC6 7) 20 3853 23 sLv1 [] sW1 [] = true := by decide +kernel
theorem case7a : sexec pfin znv 3000 ((8, 9223372036854775808, 9223372036854775908) :: sC6 7) 20 3853 23 sLv1 [] sW1 [] = true := by decide +kernel
theorem case7b : sexec pfin znv 3000 ((8, 9223372036854775910, 9223372036854775919) :: sC6 7) 20 3853 23 sLv1 [] sW1 [] = true := by decide +kernel
theorem case7c : sexec pfin znv 3000 ((8, 9223372036854775921, 9223372036854841343) :: sC6 7) 20 3853 23 sLv1 [] sW1 [] = true := by decide +kernel
theorem p1_case7 {scr : List Int32} (hl : scr.length = 6) (hk : bsI (scr.getD 0 0 &&& 63) = 9223372036854775808 + 7) : ∃ e, sR scr e ∧ pRun scr pF e sP1 := by
  have hl2 : scr.length < 2147483648 := by omega
  have hR := senv_R hl2
  have hC := sC6_ok hl hk
  have h8 : bsI ((senv scr).1 8) ≤ 9223372036854841343 ∧ 9223372036854775808 ≤ bsI ((senv scr).1 8) := ⟨(hC 8).2, (hC 8).1⟩
  rcases Nat.lt_or_ge (bsI ((senv scr).1 8)) 9223372036854775909 with h1 | h1
  · exact ⟨senv scr, hR, p_end hR (cok_cons hC h8.2 (by omega)) _ case7a⟩
  · rcases Nat.lt_or_ge (bsI ((senv scr).1 8)) 9223372036854775910 with h2 | h2
    · refine ⟨senv2 scr 0 (fun _ => .inl (0, [])), senv2_R hl2, pH_end (senv2_R hl2) (hkV_ok wop0 wop2 (k0_n.trans kw_n.symm) (k0_x.trans kw_x.symm) (fun g => known0 hl2 g)) (senv2_ok (cok_cons hC h1 (by omega)) ?_) _ case7e⟩
      exact bsI_rng _
    · rcases Nat.lt_or_ge (bsI ((senv scr).1 8)) 9223372036854775920 with h3 | h3
      · exact ⟨senv scr, hR, p_end hR (cok_cons hC h2 (by omega)) _ case7b⟩
      · rcases Nat.lt_or_ge (bsI ((senv scr).1 8)) 9223372036854775921 with h4 | h4
        · refine ⟨senv2 scr 1 (fun _ => .inl (0, [])), senv2_R hl2, pH_end (senv2_R hl2) (hkV_ok wop0 wop1 (k1_n.trans kw_n.symm) (k1_x.trans kw_x.symm) (fun g => known1 hl2 g)) (senv2_ok (cok_cons hC h3 (by omega)) ?_) _ case7p⟩
          exact bsI_rng _
        · exact ⟨senv scr, hR, p_end hR (cok_cons hC h4 h8.1) _ case7c⟩
