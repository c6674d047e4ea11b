/-! WHAT HOLDS BETWEEN CALLS: kept by least and greatest. -/
theorem tsh_651 : tsh 651 = 3 := by rw [tsh_def]; decide +kernel
theorem tsh_652 : tsh 652 = 3 := by rw [tsh_def]; decide +kernel
theorem tsh_654 : tsh 654 = 3 := by rw [tsh_def]; decide +kernel
theorem tsh_655 : tsh 655 = 3 := by rw [tsh_def]; decide +kernel
theorem tsh_114 : tsh 114 = 3 := by rw [tsh_def]; decide +kernel
theorem tsh_115 : tsh 115 = 3 := by rw [tsh_def]; decide +kernel
theorem cl_651 : cl 651 3 := ⟨tsh_651, by decide⟩
theorem cl_652 : cl 652 3 := ⟨tsh_652, by decide⟩
theorem cl_654 : cl 654 3 := ⟨tsh_654, by decide⟩
theorem cl_655 : cl 655 3 := ⟨tsh_655, by decide⟩
theorem cl_114 : cl 114 3 := ⟨tsh_114, by decide⟩
theorem cl_115 : cl 115 3 := ⟨tsh_115, by decide⟩
section HAND
variable {e : tE} {d n : Nat} {M : tM}
theorem z_takeE {F V W : Int × Int} {p3 p4 : Int} (h3 : 0 ≤ p3 ∧ p3 ≤ 1) (h4 : 0 ≤ p4 ∧ p4 ≤ 1) (hF : p3 = 0 → BX M 650 F.1 F.2 ∧ GBX F) (hV : BX M 653 V.1 V.2 ∧ GBX V) (hW : BX M 113 W.1 W.2 ∧ GBX W) (hi : V.1 ≤ W.1 ∧ W.2 ≤ V.2) (hC : CI M) (hd : 1 ≤ d) : tC e d 3394 [.inr (.inr (.inl 0)), .inr (.inr (.inl 653)), .inr (.inr (.inl 113)), .inl p3, .inl p4] M n (tQn n (fun M' => BXG M' 650 ∧ BE 0 M M' 650)) := by
  have hF2 : p3 = 0 → GBX F := fun q => (hF q).2
  obtain ⟨⟨nv1, nv2⟩, nv3⟩ := hV.2
  obtain ⟨⟨nw1, nw2⟩, nw3⟩ := hW.2
  have rv := RV_g hV.2
  have rw_ := RV_g hW.2
  refine tst_X11_takeExtreme ?_
  have n148 : ∀ (M1 : tM) (a b : Int), BX M1 650 a b → GBX (a, b) → BE 0 M M1 650 → tT e d 3394 148 [some (.inr (.inr (.inl (0)))), some (.inr (.inr (.inl (653)))), some (.inr (.inr (.inl (113)))), some (.inl (p3)), some (.inl (p4))] [] M1 n (tQn n (fun M' => BXG M' 650 ∧ BE 0 M M' 650)) := by
    intro M1 a b h1 h2 f1
    refine tb_X11_takeExtreme_148 (c := true) ?_
    simp only [kb_X11_takeExtreme_148, w_re, w64_r, true_and, and_true, Nat.reduceAdd, Nat.reduceSub, eq_self]
    exact ⟨rfl, rfl, ⟨(a, b), h1, h2⟩, f1⟩
  have v1 : ∀ M1 : tM, BE 0 M M1 650 → BX M1 653 V.1 V.2 ∧ BX M1 113 W.1 W.2 := fun M1 f => ⟨BX_f hV.1 (fun j => f.2 _ _ (by decide) (by decide)) (fun j => f.2 _ _ (by decide) (by decide)), BX_f hW.1 (fun j => f.2 _ _ (by decide) (by decide)) (fun j => f.2 _ _ (by decide) (by decide))⟩
  -- greatest
  have n40 : ∀ (M1 : tM) (b : Int), (p3 = 0 → BB M1 651 F.1) → BB M1 652 b → (p3 = 1 → b = V.2) → (p3 = 0 → V.2 ≤ b ∧ F.2 ≤ b ∧ NF b) → BE 0 M M1 650 → tT e d 3394 40 [some (.inr (.inr (.inl (0)))), some (.inr (.inr (.inl (653)))), some (.inr (.inr (.inl (113)))), some (.inl (p3)), some (.inl (p4))] [] M1 n (tQn n (fun M' => BXG M' 650 ∧ BE 0 M M' 650)) := by
    intro M1 b h1 h2 g1 g2 f1
    have n61 : (p3 = 1 ∨ F.1 < W.1) → tT e d 3394 61 [some (.inr (.inr (.inl (0)))), some (.inr (.inr (.inl (653)))), some (.inr (.inr (.inl (113)))), some (.inl (p3)), some (.inl (p4))] [] M1 n (tQn n (fun M' => BXG M' 650 ∧ BE 0 M M' 650)) := by
      intro g
      refine tb_X11_takeExtreme_61 (c := true) ?_
      simp only [kb_X11_takeExtreme_61, w_ald_0, w_gf_13_11, tw_t, w_gf_4_0, w_ald_2, w_iv1, tfr_0, tfr_1, tfr_2, tfr_3, tfr_4, w_goto, w64_r, true_and, and_true, Nat.reduceAdd, Nat.reduceSub, eq_self, tsh_0, tyk_13, tcq_13, tyk_4, tcq_4, tsh_113, tsh_650, tsh_653, tsh_651, tsh_652, tsh_654, tsh_655, tsh_114, tsh_115, tyk_3, tcq_3]
      refine tc_n (D := 0) (fun d' hd' => y_copy (b := 0) cl_651 cl_114 (v1 M1 f1).2.1 (Or.inl (by decide)) f1.1.1) (by omega) ?_
      rintro M2 ⟨x2, f2⟩
      try simp only [kb_X11_takeExtreme_61, w_ald_0, w_gf_13_11, tw_t, w_gf_4_0, w_ald_2, w_iv1, tfr_0, tfr_1, tfr_2, tfr_3, tfr_4, w_goto, w64_r, true_and, and_true, Nat.reduceAdd, Nat.reduceSub, eq_self, tsh_0, tyk_13, tcq_13, tyk_4, tcq_4, tsh_113, tsh_650, tsh_653, tsh_651, tsh_652, tsh_654, tsh_655, tsh_114, tsh_115, tyk_3, tcq_3]
      refine n148 M2 W.1 b ⟨x2, BB_u h2 (fun j => f2.2.2 _ _ (by decide))⟩ ?_ (BE_tr f1 (BE_1 f2))
      rcases (show p3 = 1 ∨ p3 = 0 by omega) with q | q
      · have g3 := g1 q
        subst g3
        exact ⟨⟨nw1, nv2⟩, by show W.1 ≤ V.2; omega⟩
      · obtain ⟨g3, g4, g5⟩ := g2 q
        exact ⟨⟨nw1, g5⟩, by show W.1 ≤ b; omega⟩
    refine tb_X11_takeExtreme_40 (c := true) ?_
    simp only [kb_X11_takeExtreme_40, w_ild_3, w_if_ne, w_ald_0, w_gf_13_11, tw_t, w_gf_4_0, w_ald_2, w_iv1, tfr_0, tfr_1, tfr_2, tfr_3, tfr_4, w_if_eq, w_nil, w64_r, true_and, and_true, Nat.reduceAdd, Nat.reduceSub, eq_self, tsh_0, tyk_13, tcq_13, tyk_4, tcq_4, tsh_113, tsh_650, tsh_653, tsh_651, tsh_652, tsh_654, tsh_655, tsh_114, tsh_115, tyk_3, tcq_3]
    repeat refine And.intro (by omega) ?_
    refine ⟨fun q => n61 (Or.inl (by omega)), fun q => ?_⟩
    have q0 : p3 = 0 := by omega
    obtain ⟨g3, g4, g5⟩ := g2 q0
    have gF := hF2 q0
    refine tc_i (D := 0) (fun d' hd' => y_isBelow cl_651 cl_114 (h1 q0) (v1 M1 f1).2.1 (RV_g gF).1 rw_.1) (by omega) ?_
    rintro z M2 ⟨hz, rfl⟩
    try simp only [kb_X11_takeExtreme_40, w_ild_3, w_if_ne, w_ald_0, w_gf_13_11, tw_t, w_gf_4_0, w_ald_2, w_iv1, tfr_0, tfr_1, tfr_2, tfr_3, tfr_4, w_if_eq, w_nil, w64_r, true_and, and_true, Nat.reduceAdd, Nat.reduceSub, eq_self, tsh_0, tyk_13, tcq_13, tyk_4, tcq_4, tsh_113, tsh_650, tsh_653, tsh_651, tsh_652, tsh_654, tsh_655, tsh_114, tsh_115, tyk_3, tcq_3]
    repeat refine And.intro (by omega) ?_
    refine ⟨fun _ => n148 M2 F.1 b ⟨h1 q0, h2⟩ ⟨⟨gF.1.1, g5⟩, by have := gF.2; show F.1 ≤ b; omega⟩ f1, fun q2 => n61 (Or.inr (by omega))⟩
  -- least
  have n113 : ∀ (M1 : tM) (a : Int), BB M1 651 a → (p3 = 0 → BB M1 652 F.2) → (p3 = 1 → a = V.1) → (p3 = 0 → a ≤ V.1 ∧ a ≤ F.1 ∧ NF a) → BE 0 M M1 650 → tT e d 3394 113 [some (.inr (.inr (.inl (0)))), some (.inr (.inr (.inl (653)))), some (.inr (.inr (.inl (113)))), some (.inl (p3)), some (.inl (p4))] [] M1 n (tQn n (fun M' => BXG M' 650 ∧ BE 0 M M' 650)) := by
    intro M1 a h1 h2 g1 g2 f1
    have n134 : tT e d 3394 134 [some (.inr (.inr (.inl (0)))), some (.inr (.inr (.inl (653)))), some (.inr (.inr (.inl (113)))), some (.inl (p3)), some (.inl (p4))] [] M1 n (tQn n (fun M' => BXG M' 650 ∧ BE 0 M M' 650)) := by
      refine tb_X11_takeExtreme_134 (c := true) ?_
      simp only [kb_X11_takeExtreme_134, w_ald_0, w_gf_13_11, tw_t, w_gf_4_1, w_ald_2, w_iv1, tfr_0, tfr_1, tfr_2, tfr_3, tfr_4, w_nil, w64_r, true_and, and_true, Nat.reduceAdd, Nat.reduceSub, eq_self, tsh_0, tyk_13, tcq_13, tyk_4, tcq_4, tsh_113, tsh_650, tsh_653, tsh_651, tsh_652, tsh_654, tsh_655, tsh_114, tsh_115, tyk_3, tcq_3]
      refine tc_n (D := 0) (fun d' hd' => y_copy (b := 0) cl_652 cl_115 (v1 M1 f1).2.2 (Or.inl (by decide)) f1.1.1) (by omega) ?_
      rintro M2 ⟨x2, f2⟩
      try simp only [kb_X11_takeExtreme_134, w_ald_0, w_gf_13_11, tw_t, w_gf_4_1, w_ald_2, w_iv1, tfr_0, tfr_1, tfr_2, tfr_3, tfr_4, w_nil, w64_r, true_and, and_true, Nat.reduceAdd, Nat.reduceSub, eq_self, tsh_0, tyk_13, tcq_13, tyk_4, tcq_4, tsh_113, tsh_650, tsh_653, tsh_651, tsh_652, tsh_654, tsh_655, tsh_114, tsh_115, tyk_3, tcq_3]
      refine n148 M2 a W.2 ⟨BB_u h1 (fun j => f2.2.2 _ _ (by decide)), x2⟩ ?_ (BE_tr f1 (BE_2 f2))
      rcases (show p3 = 1 ∨ p3 = 0 by omega) with q | q
      · have g3 := g1 q
        subst g3
        exact ⟨⟨nv1, nw2⟩, by show V.1 ≤ W.2; omega⟩
      · obtain ⟨g3, g4, g5⟩ := g2 q
        exact ⟨⟨g5, nw2⟩, by show a ≤ W.2; omega⟩
    refine tb_X11_takeExtreme_113 (c := true) ?_
    simp only [kb_X11_takeExtreme_113, w_ild_3, w_if_ne, w_ald_2, w_gf_4_1, tw_t, w_ald_0, w_gf_13_11, w_iv1, tfr_0, tfr_1, tfr_2, tfr_3, tfr_4, w_if_eq, w_nil, w64_r, true_and, and_true, Nat.reduceAdd, Nat.reduceSub, eq_self, tsh_0, tyk_13, tcq_13, tyk_4, tcq_4, tsh_113, tsh_650, tsh_653, tsh_651, tsh_652, tsh_654, tsh_655, tsh_114, tsh_115, tyk_3, tcq_3]
    repeat refine And.intro (by omega) ?_
    refine ⟨fun q => n134, fun q => ?_⟩
    have q0 : p3 = 0 := by omega
    obtain ⟨g3, g4, g5⟩ := g2 q0
    have gF := hF2 q0
    refine tc_i (D := 0) (fun d' hd' => y_isBelow cl_115 cl_652 (v1 M1 f1).2.2 (h2 q0) rw_.2 (RV_g gF).2) (by omega) ?_
    rintro z M2 ⟨hz, rfl⟩
    try simp only [kb_X11_takeExtreme_113, w_ild_3, w_if_ne, w_ald_2, w_gf_4_1, tw_t, w_ald_0, w_gf_13_11, w_iv1, tfr_0, tfr_1, tfr_2, tfr_3, tfr_4, w_if_eq, w_nil, w64_r, true_and, and_true, Nat.reduceAdd, Nat.reduceSub, eq_self, tsh_0, tyk_13, tcq_13, tyk_4, tcq_4, tsh_113, tsh_650, tsh_653, tsh_651, tsh_652, tsh_654, tsh_655, tsh_114, tsh_115, tyk_3, tcq_3]
    repeat refine And.intro (by omega) ?_
    refine ⟨fun _ => n148 M2 a F.2 ⟨h1, h2 q0⟩ ⟨⟨g5, gF.1.2⟩, by have := gF.2; show a ≤ F.2; omega⟩ f1, fun q2 => n134⟩
  have n78 : tT e d 3394 78 [some (.inr (.inr (.inl (0)))), some (.inr (.inr (.inl (653)))), some (.inr (.inr (.inl (113)))), some (.inl (p3)), some (.inl (p4))] [] M n (tQn n (fun M' => BXG M' 650 ∧ BE 0 M M' 650)) := by
    have n99 : (p3 = 1 ∨ V.1 < F.1) → tT e d 3394 99 [some (.inr (.inr (.inl (0)))), some (.inr (.inr (.inl (653)))), some (.inr (.inr (.inl (113)))), some (.inl (p3)), some (.inl (p4))] [] M n (tQn n (fun M' => BXG M' 650 ∧ BE 0 M M' 650)) := by
      intro g
      refine tb_X11_takeExtreme_99 (c := true) ?_
      simp only [kb_X11_takeExtreme_99, w_ald_0, w_gf_13_11, tw_t, w_gf_4_0, w_ald_1, w_iv1, tfr_0, tfr_1, tfr_2, tfr_3, tfr_4, w_nil, w64_r, true_and, and_true, Nat.reduceAdd, Nat.reduceSub, eq_self, tsh_0, tyk_13, tcq_13, tyk_4, tcq_4, tsh_113, tsh_650, tsh_653, tsh_651, tsh_652, tsh_654, tsh_655, tsh_114, tsh_115, tyk_3, tcq_3]
      refine tc_n (D := 0) (fun d' hd' => y_copy (b := 0) cl_651 cl_654 hV.1.1 (Or.inl (by decide)) hC) (by omega) ?_
      rintro M2 ⟨x2, f2⟩
      try simp only [kb_X11_takeExtreme_99, w_ald_0, w_gf_13_11, tw_t, w_gf_4_0, w_ald_1, w_iv1, tfr_0, tfr_1, tfr_2, tfr_3, tfr_4, w_nil, w64_r, true_and, and_true, Nat.reduceAdd, Nat.reduceSub, eq_self, tsh_0, tyk_13, tcq_13, tyk_4, tcq_4, tsh_113, tsh_650, tsh_653, tsh_651, tsh_652, tsh_654, tsh_655, tsh_114, tsh_115, tyk_3, tcq_3]
      exact n113 M2 V.1 x2 (fun q => BB_u (hF q).1.2 (fun j => f2.2.2 _ _ (by decide))) (fun _ => rfl) (fun q => ⟨Int.le_refl _, by omega, nv1⟩) (BE_1 f2)
    refine tb_X11_takeExtreme_78 (c := true) ?_
    simp only [kb_X11_takeExtreme_78, w_ild_3, w_if_ne, w_ald_1, w_gf_4_0, tw_t, w_ald_0, w_gf_13_11, w_iv1, tfr_0, tfr_1, tfr_2, tfr_3, tfr_4, w_if_eq, w_nil, w64_r, true_and, and_true, Nat.reduceAdd, Nat.reduceSub, eq_self, tsh_0, tyk_13, tcq_13, tyk_4, tcq_4, tsh_113, tsh_650, tsh_653, tsh_651, tsh_652, tsh_654, tsh_655, tsh_114, tsh_115, tyk_3, tcq_3]
    repeat refine And.intro (by omega) ?_
    refine ⟨fun q => n99 (Or.inl (by omega)), fun q => ?_⟩
    have q0 : p3 = 0 := by omega
    have gF := hF2 q0
    refine tc_i (D := 0) (fun d' hd' => y_isBelow cl_654 cl_651 hV.1.1 (hF q0).1.1 rv.1 (RV_g gF).1) (by omega) ?_
    rintro z M2 ⟨hz, rfl⟩
    try simp only [kb_X11_takeExtreme_78, w_ild_3, w_if_ne, w_ald_1, w_gf_4_0, tw_t, w_ald_0, w_gf_13_11, w_iv1, tfr_0, tfr_1, tfr_2, tfr_3, tfr_4, w_if_eq, w_nil, w64_r, true_and, and_true, Nat.reduceAdd, Nat.reduceSub, eq_self, tsh_0, tyk_13, tcq_13, tyk_4, tcq_4, tsh_113, tsh_650, tsh_653, tsh_651, tsh_652, tsh_654, tsh_655, tsh_114, tsh_115, tyk_3, tcq_3]
    repeat refine And.intro (by omega) ?_
    refine ⟨fun _ => n113 M2 F.1 (hF q0).1.1 (fun q => (hF q).1.2) (fun q => absurd q (by omega)) (fun _ => ⟨by omega, Int.le_refl _, gF.1.1⟩) (BE_refl hC), fun q2 => n99 (Or.inr (by omega))⟩
  have n26 : (p3 = 1 ∨ F.2 < V.2) → tT e d 3394 26 [some (.inr (.inr (.inl (0)))), some (.inr (.inr (.inl (653)))), some (.inr (.inr (.inl (113)))), some (.inl (p3)), some (.inl (p4))] [] M n (tQn n (fun M' => BXG M' 650 ∧ BE 0 M M' 650)) := by
    intro g
    refine tb_X11_takeExtreme_26 (c := true) ?_
    simp only [kb_X11_takeExtreme_26, w_ald_0, w_gf_13_11, tw_t, w_gf_4_1, w_ald_1, w_iv1, tfr_0, tfr_1, tfr_2, tfr_3, tfr_4, w_nil, w64_r, true_and, and_true, Nat.reduceAdd, Nat.reduceSub, eq_self, tsh_0, tyk_13, tcq_13, tyk_4, tcq_4, tsh_113, tsh_650, tsh_653, tsh_651, tsh_652, tsh_654, tsh_655, tsh_114, tsh_115, tyk_3, tcq_3]
    refine tc_n (D := 0) (fun d' hd' => y_copy (b := 0) cl_652 cl_655 hV.1.2 (Or.inl (by decide)) hC) (by omega) ?_
    rintro M2 ⟨x2, f2⟩
    try simp only [kb_X11_takeExtreme_26, w_ald_0, w_gf_13_11, tw_t, w_gf_4_1, w_ald_1, w_iv1, tfr_0, tfr_1, tfr_2, tfr_3, tfr_4, w_nil, w64_r, true_and, and_true, Nat.reduceAdd, Nat.reduceSub, eq_self, tsh_0, tyk_13, tcq_13, tyk_4, tcq_4, tsh_113, tsh_650, tsh_653, tsh_651, tsh_652, tsh_654, tsh_655, tsh_114, tsh_115, tyk_3, tcq_3]
    exact n40 M2 V.2 (fun q => BB_u (hF q).1.1 (fun j => f2.2.2 _ _ (by decide))) x2 (fun _ => rfl) (fun q => ⟨Int.le_refl _, by omega, nv2⟩) (BE_2 f2)
  refine tb_X11_takeExtreme_0 (c := true) ?_
  simp only [kb_X11_takeExtreme_0, w_ild4, w_if_eq, w_ild_3, w_if_ne, w_ald_0, w_gf_13_11, tw_t, w_gf_4_1, w_ald_1, w_iv1, tfr_0, tfr_1, tfr_2, tfr_3, tfr_4, w_nil, w64_r, true_and, and_true, Nat.reduceAdd, Nat.reduceSub, eq_self, tsh_0, tyk_13, tcq_13, tyk_4, tcq_4, tsh_113, tsh_650, tsh_653, tsh_651, tsh_652, tsh_654, tsh_655, tsh_114, tsh_115, tyk_3, tcq_3]
  repeat refine And.intro (by omega) ?_
  refine ⟨fun _ => n78, fun _ => ?_⟩
  repeat refine And.intro (by omega) ?_
  refine ⟨fun q => n26 (Or.inl (by omega)), fun q => ?_⟩
  have q0 : p3 = 0 := by omega
  have gF := hF2 q0
  refine tc_i (D := 0) (fun d' hd' => y_isBelow cl_652 cl_655 (hF q0).1.2 hV.1.2 (RV_g gF).2 rv.2) (by omega) ?_
  rintro z M2 ⟨hz, rfl⟩
  try simp only [kb_X11_takeExtreme_0, w_ild4, w_if_eq, w_ild_3, w_if_ne, w_ald_0, w_gf_13_11, tw_t, w_gf_4_1, w_ald_1, w_iv1, tfr_0, tfr_1, tfr_2, tfr_3, tfr_4, w_nil, w64_r, true_and, and_true, Nat.reduceAdd, Nat.reduceSub, eq_self, tsh_0, tyk_13, tcq_13, tyk_4, tcq_4, tsh_113, tsh_650, tsh_653, tsh_651, tsh_652, tsh_654, tsh_655, tsh_114, tsh_115, tyk_3, tcq_3]
  repeat refine And.intro (by omega) ?_
  refine ⟨fun _ => n40 M2 F.2 (fun q => (hF q).1.1) (hF q0).1.2 (fun q => absurd q (by omega)) (fun _ => ⟨by omega, Int.le_refl _, gF.1.2⟩) (BE_refl hC), fun q2 => n26 (Or.inr (by omega))⟩
theorem tsh_656 : tsh 656 = 4 := by rw [tsh_def]; decide +kernel
theorem cl_656 : cl 656 4 := ⟨tsh_656, by decide⟩
theorem v_seek {r x k : Nat} {X : Int × Int} {p4 : Int} (hr : FMC r) (h6 : M r 6 = 1) (hx : cl x 4 ∧ x + 2 < 77) (hX : BX M x X.1 X.2 ∧ GBX X) (hk : k ≤ 3) (h4 : 0 ≤ p4 ∧ p4 ≤ 1) (he : EVr e) (hK : KW M) (hC : CI M) (hd : 9 ≤ d) : tC e d 3385 [.inr (.inr (.inl 0)), .inr (.inr (.inl r)), .inr (.inr (.inl x)), .inl (k : Int), .inl p4] M n (tQi n (fun z M' => (0 ≤ z ∧ z ≤ 2) ∧ KA M M' ∧ (z = 0 → BXG M' 650))) := by
  have sr := (FM_of hr).1
  have rr : 499 < r ∧ r + 6 < 531 := by unfold FMC at hr; omega
  have sx := hx.1.1
  have hu := KU hK hC
  have hu1 := hu.1
  refine tst_X11_seekExtreme ?_
  refine tb_X11_seekExtreme_0 (c := true) ?_
  simp only [kb_X11_seekExtreme_0, w_ald_0, w_gf_13_9, tw_t, w_ald_2, w_ild_3, w_gf_13_4, w_iv0, tfr_0, tfr_1, tfr_2, tfr_3, tfr_4, w_iv3, w_ic, w_ist5, tkl_n, tkl_i, tkl_l, tkl_r, w_nil, w64_r, true_and, and_true, Nat.reduceAdd, Nat.reduceSub, eq_self, tsh_0, tyk_13, tcq_13, tsh_77, tyk_8, tcq_8, tyk_4, tcq_4, tsh_113, tsh_650, tsh_653, tsh_656, tsh_590, tyk_9, tcq_9, sr, sx]
  refine tc_l (D := 0) (fun d' hd' => z_unit) (by omega) ?_
  rintro u M4 ⟨rfl, rfl⟩
  try simp only [kb_X11_seekExtreme_0, w_ald_0, w_gf_13_9, tw_t, w_ald_2, w_ild_3, w_gf_13_4, w_iv0, tfr_0, tfr_1, tfr_2, tfr_3, tfr_4, w_iv3, w_ic, w_ist5, tkl_n, tkl_i, tkl_l, tkl_r, w_nil, w64_r, true_and, and_true, Nat.reduceAdd, Nat.reduceSub, eq_self, tsh_0, tyk_13, tcq_13, tsh_77, tyk_8, tcq_8, tyk_4, tcq_4, tsh_113, tsh_650, tsh_653, tsh_656, tsh_590, tyk_9, tcq_9, sr, sx]
  repeat refine And.intro (by omega) ?_
  refine tc_n (D := 3) (fun d' hd' => z_cut (P := 590) (Or.inl rfl) hx.1 hX hk hu hK hC hd') (by omega) ?_
  rintro M5 ⟨⟨ca, ca1, ca2⟩, f5⟩
  have k5 := KA_pf (Or.inl rfl) hK f5
  have l8 := ca2.1.2
  try simp only [kb_X11_seekExtreme_0, w_ald_0, w_gf_13_9, tw_t, w_ald_2, w_ild_3, w_gf_13_4, w_iv0, tfr_0, tfr_1, tfr_2, tfr_3, tfr_4, w_iv3, w_ic, w_ist5, tkl_n, tkl_i, tkl_l, tkl_r, w_nil, w64_r, true_and, and_true, Nat.reduceAdd, Nat.reduceSub, eq_self, tsh_0, tyk_13, tcq_13, tsh_77, tyk_8, tcq_8, tyk_4, tcq_4, tsh_113, tsh_650, tsh_653, tsh_656, tsh_590, tyk_9, tcq_9, sr, sx]
  have nl : ∀ (fu : Nat) (N : tM) (p : Nat) (w6 : Option tV), ca - p = fu → p ≤ ca → (0 < p → BXG N 650) → KA M4 N → PCG N 590 ca → (∀ (k : Nat) (i : Int), (499 ≤ k ∧ k < 590) → N k i = M4 k i) → tT e d 3385 19 [some (.inr (.inr (.inl (0)))), some (.inr (.inr (.inl (r)))), some (.inr (.inr (.inl (x)))), some (.inl ((k : Int))), some (.inl (p4)), some (.inl ((p : Int))), w6] [] N n (tQi n (fun z M' => (0 ≤ z ∧ z ≤ 2) ∧ KA M4 M' ∧ (z = 0 → BXG M' 650))) := by
    intro fu
    induction fu with
    | zero =>
      intro N p w6 hf hp hb kN pa fN
      have t1 := pa.1.1
      refine tb_X11_seekExtreme_19 (c := true) ?_
      simp only [kb_X11_seekExtreme_19, w_ild5, w_ald_0, w_gf_13_9, tw_t, w_gf_9_3, w_ic_ge, w_gf_13_4, w_iv1, tfr_0, tfr_1, tfr_2, tfr_3, tfr_4, w_iv2, w_ald_1, w_ist6, tkl_n, tkl_i, tkl_l, tkl_r, w_ild6, w_if_eq, w_ire, trg, w64_r, true_and, and_true, Nat.reduceAdd, Nat.reduceSub, eq_self, tsh_0, tyk_13, tcq_13, tsh_77, tyk_8, tcq_8, tyk_4, tcq_4, tsh_113, tsh_650, tsh_653, tsh_656, tsh_590, tyk_9, tcq_9, sr, sx]
      rw [t1]
      repeat refine And.intro (by omega) ?_
      refine ⟨fun _ => ?_, fun q => absurd (by omega) q⟩
      refine tb_X11_seekExtreme_178 (c := true) ?_
      simp only [kb_X11_seekExtreme_178, w_ic, w_ire, trg, w64_r, true_and, and_true, Nat.reduceAdd, Nat.reduceSub, eq_self]
      exact ⟨_, rfl, rfl, by decide, kN, fun _ => hb (by omega)⟩
    | succ fu ih =>
      intro N p w6 hf hp hb kN pa fN
      have t1 := pa.1.1
      have cka := cl_pc (P := 590) (i := p) (Or.inr (Or.inr (Or.inl rfl))) (by omega)
      have ksa := cka.1
      obtain ⟨va, va1, va2⟩ := pa.2 p (by omega)
      have md := md_in (KU kN.2 kN.1.1) va2
      refine tb_X11_seekExtreme_19 (c := true) ?_
      simp only [kb_X11_seekExtreme_19, w_ild5, w_ald_0, w_gf_13_9, tw_t, w_gf_9_3, w_ic_ge, w_gf_13_4, w_iv1, tfr_0, tfr_1, tfr_2, tfr_3, tfr_4, w_iv2, w_ald_1, w_ist6, tkl_n, tkl_i, tkl_l, tkl_r, w_ild6, w_if_eq, w_ire, trg, w64_r, true_and, and_true, Nat.reduceAdd, Nat.reduceSub, eq_self, tsh_0, tyk_13, tcq_13, tsh_77, tyk_8, tcq_8, tyk_4, tcq_4, tsh_113, tsh_650, tsh_653, tsh_656, tsh_590, tyk_9, tcq_9, sr, sx]
      rw [t1]
      repeat refine And.intro (by omega) ?_
      first | refine ⟨fun q => absurd q (by omega), fun _ => ?_⟩ | refine fun _ => ?_
      repeat refine And.intro (by omega) ?_
      refine tc_r (D := 1) (fun d' hd' => z_pbox (P := 590) (i := p) (Or.inr (Or.inr (Or.inl rfl))) (by omega) hd') (by omega) ?_
      rintro y N3 ⟨rfl, rfl⟩
      try simp only [kb_X11_seekExtreme_19, w_ild5, w_ald_0, w_gf_13_9, tw_t, w_gf_9_3, w_ic_ge, w_gf_13_4, w_iv1, tfr_0, tfr_1, tfr_2, tfr_3, tfr_4, w_iv2, w_ald_1, w_ist6, tkl_n, tkl_i, tkl_l, tkl_r, w_ild6, w_if_eq, w_ire, trg, w64_r, true_and, and_true, Nat.reduceAdd, Nat.reduceSub, eq_self, tsh_0, tyk_13, tcq_13, tsh_77, tyk_8, tcq_8, tyk_4, tcq_4, tsh_113, tsh_650, tsh_653, tsh_656, tsh_590, tyk_9, tcq_9, sr, sx, ksa]
      refine tc_r (D := 1) (fun d' hd' => z_pbox (P := 590) (i := p) (Or.inr (Or.inr (Or.inl rfl))) (by omega) hd') (by omega) ?_
      rintro y N4 ⟨rfl, rfl⟩
      try simp only [kb_X11_seekExtreme_19, w_ild5, w_ald_0, w_gf_13_9, tw_t, w_gf_9_3, w_ic_ge, w_gf_13_4, w_iv1, tfr_0, tfr_1, tfr_2, tfr_3, tfr_4, w_iv2, w_ald_1, w_ist6, tkl_n, tkl_i, tkl_l, tkl_r, w_ild6, w_if_eq, w_ire, trg, w64_r, true_and, and_true, Nat.reduceAdd, Nat.reduceSub, eq_self, tsh_0, tyk_13, tcq_13, tsh_77, tyk_8, tcq_8, tyk_4, tcq_4, tsh_113, tsh_650, tsh_653, tsh_656, tsh_590, tyk_9, tcq_9, sr, sx, ksa]
      refine tc_n (D := 0) (fun d' hd' => v_aim ⟨cka, Or.inr (by omega)⟩ ⟨cka, Or.inr (by omega)⟩ ⟨va1, va2⟩ ⟨va1, va2⟩ kN.2 kN.1.1) (by omega) ?_
      rintro N5 ⟨am, kN5, g5⟩
      try simp only [kb_X11_seekExtreme_19, w_ild5, w_ald_0, w_gf_13_9, tw_t, w_gf_9_3, w_ic_ge, w_gf_13_4, w_iv1, tfr_0, tfr_1, tfr_2, tfr_3, tfr_4, w_iv2, w_ald_1, w_ist6, tkl_n, tkl_i, tkl_l, tkl_r, w_ild6, w_if_eq, w_ire, trg, w64_r, true_and, and_true, Nat.reduceAdd, Nat.reduceSub, eq_self, tsh_0, tyk_13, tcq_13, tsh_77, tyk_8, tcq_8, tyk_4, tcq_4, tsh_113, tsh_650, tsh_653, tsh_656, tsh_590, tyk_9, tcq_9, sr, sx, ksa]
      refine tc_i (D := 8) (fun d' hd' => v_mkV hr ((g5 r 6 (by omega)).trans ((fN r 6 (by omega)).trans h6)) am he kN5.2 kN5.1.1 hd') (by omega) ?_
      rintro z6 N6 ⟨hz6, kN6, m6, v6⟩
      have kk6 : KA M4 N6 := KA_tr (pE_tr kN.1.2 kN5.1.2) kN6
      try simp only [kb_X11_seekExtreme_19, w_ild5, w_ald_0, w_gf_13_9, tw_t, w_gf_9_3, w_ic_ge, w_gf_13_4, w_iv1, tfr_0, tfr_1, tfr_2, tfr_3, tfr_4, w_iv2, w_ald_1, w_ist6, tkl_n, tkl_i, tkl_l, tkl_r, w_ild6, w_if_eq, w_ire, trg, w64_r, true_and, and_true, Nat.reduceAdd, Nat.reduceSub, eq_self, tsh_0, tyk_13, tcq_13, tsh_77, tyk_8, tcq_8, tyk_4, tcq_4, tsh_113, tsh_650, tsh_653, tsh_656, tsh_590, tyk_9, tcq_9, sr, sx, ksa]
      repeat refine And.intro (by omega) ?_
      refine ⟨fun q0 => ?_, fun q => ⟨_, rfl, rfl, hz6, kk6, fun q2 => absurd q2 (by omega)⟩⟩
      obtain ⟨B0, s0, c0, w0, e0⟩ := v6 (by omega)
      obtain ⟨b0, gb0⟩ := s0.2 0 (by decide)
      refine tb_X11_seekExtreme_74 (c := true) ?_
      simp only [kb_X11_seekExtreme_74, w_ald_0, w_gf_13_12, tw_t, w_gf_13_4, w_iv0, tfr_0, tfr_1, tfr_2, tfr_3, tfr_4, w_iv1, w_gf_13_13, w_gf_13_9, w_ild5, w_iv2, w_popi, w_popr, w_ald_1, w_ist6, tkl_n, tkl_i, tkl_l, tkl_r, w_ild6, w_if_eq, w_ire, trg, w64_r, true_and, and_true, Nat.reduceAdd, Nat.reduceSub, eq_self, tsh_0, tyk_13, tcq_13, tsh_77, tyk_8, tcq_8, tyk_4, tcq_4, tsh_113, tsh_650, tsh_653, tsh_656, tsh_590, tyk_9, tcq_9, sr, sx, ksa]
      refine tc_r (D := 1) (fun d' hd' => z_result s0.1 hd') (by omega) ?_
      rintro y N7 ⟨rfl, rfl⟩
      try simp only [kb_X11_seekExtreme_74, w_ald_0, w_gf_13_12, tw_t, w_gf_13_4, w_iv0, tfr_0, tfr_1, tfr_2, tfr_3, tfr_4, w_iv1, w_gf_13_13, w_gf_13_9, w_ild5, w_iv2, w_popi, w_popr, w_ald_1, w_ist6, tkl_n, tkl_i, tkl_l, tkl_r, w_ild6, w_if_eq, w_ire, trg, w64_r, true_and, and_true, Nat.reduceAdd, Nat.reduceSub, eq_self, tsh_0, tyk_13, tcq_13, tsh_77, tyk_8, tcq_8, tyk_4, tcq_4, tsh_113, tsh_650, tsh_653, tsh_656, tsh_590, tyk_9, tcq_9, sr, sx, ksa]
      refine tc_n (D := 1) (fun d' hd' => z_copy (b := 0) cl_653 cl_113 b0 (by decide) kk6.1.1 hd') (by omega) ?_
      rintro N8 ⟨x8, f8⟩
      have k8 := KA_b kk6.2 (by decide) f8
      try simp only [kb_X11_seekExtreme_74, w_ald_0, w_gf_13_12, tw_t, w_gf_13_4, w_iv0, tfr_0, tfr_1, tfr_2, tfr_3, tfr_4, w_iv1, w_gf_13_13, w_gf_13_9, w_ild5, w_iv2, w_popi, w_popr, w_ald_1, w_ist6, tkl_n, tkl_i, tkl_l, tkl_r, w_ild6, w_if_eq, w_ire, trg, w64_r, true_and, and_true, Nat.reduceAdd, Nat.reduceSub, eq_self, tsh_0, tyk_13, tcq_13, tsh_77, tyk_8, tcq_8, tyk_4, tcq_4, tsh_113, tsh_650, tsh_653, tsh_656, tsh_590, tyk_9, tcq_9, sr, sx, ksa]
      refine tc_r (D := 1) (fun d' hd' => z_pbox (P := 590) (i := p) (Or.inr (Or.inr (Or.inl rfl))) (by omega) hd') (by omega) ?_
      rintro y N9 ⟨rfl, rfl⟩
      try simp only [kb_X11_seekExtreme_74, w_ald_0, w_gf_13_12, tw_t, w_gf_13_4, w_iv0, tfr_0, tfr_1, tfr_2, tfr_3, tfr_4, w_iv1, w_gf_13_13, w_gf_13_9, w_ild5, w_iv2, w_popi, w_popr, w_ald_1, w_ist6, tkl_n, tkl_i, tkl_l, tkl_r, w_ild6, w_if_eq, w_ire, trg, w64_r, true_and, and_true, Nat.reduceAdd, Nat.reduceSub, eq_self, tsh_0, tyk_13, tcq_13, tsh_77, tyk_8, tcq_8, tyk_4, tcq_4, tsh_113, tsh_650, tsh_653, tsh_656, tsh_590, tyk_9, tcq_9, sr, sx, ksa]
      refine tc_l (D := 0) (fun d' hd' => z_unit) (by omega) ?_
      rintro u N10 ⟨rfl, rfl⟩
      try simp only [kb_X11_seekExtreme_74, w_ald_0, w_gf_13_12, tw_t, w_gf_13_4, w_iv0, tfr_0, tfr_1, tfr_2, tfr_3, tfr_4, w_iv1, w_gf_13_13, w_gf_13_9, w_ild5, w_iv2, w_popi, w_popr, w_ald_1, w_ist6, tkl_n, tkl_i, tkl_l, tkl_r, w_ild6, w_if_eq, w_ire, trg, w64_r, true_and, and_true, Nat.reduceAdd, Nat.reduceSub, eq_self, tsh_0, tyk_13, tcq_13, tsh_77, tyk_8, tcq_8, tyk_4, tcq_4, tsh_113, tsh_650, tsh_653, tsh_656, tsh_590, tyk_9, tcq_9, sr, sx, ksa]
      have ux : N10 78 5 = N4 78 5 := (UN_78 k8.1.2).trans ((UN_78 kN6.1.2).trans (UN_78 kN5.1.2))
      have huA := KU kN.2 kN.1.1
      rw [ux]
      have huA1 := huA.1
      repeat refine And.intro (by omega) ?_
      have pa8 : BX N10 (590 + 1 + 1 + 3 * p) va.1 va.2 := BX_f va1 (fun j => (f8.2 _ _ (by omega) (by omega)).trans ((m6.2.2 _ _ (by omega)).trans (g5 _ _ (by omega)))) (fun j => (f8.2 _ _ (by omega) (by omega)).trans ((m6.2.2 _ _ (by omega)).trans (g5 _ _ (by omega))))
      refine tc_i (D := 2) (fun d' hd' => z_toMiddle (b := 0) cl_656 cka (by omega) pa8 va2.1 huA (by decide) k8.1.1 hd') (by omega) ?_
      rintro z11 N11 ⟨x11, f11, _⟩
      have k11 := KA_b k8.2 (by decide) f11
      generalize hmm : mdv (N4 78 5) va.1 va.2 = mm at *
      try simp only [kb_X11_seekExtreme_74, w_ald_0, w_gf_13_12, tw_t, w_gf_13_4, w_iv0, tfr_0, tfr_1, tfr_2, tfr_3, tfr_4, w_iv1, w_gf_13_13, w_gf_13_9, w_ild5, w_iv2, w_popi, w_popr, w_ald_1, w_ist6, tkl_n, tkl_i, tkl_l, tkl_r, w_ild6, w_if_eq, w_ire, trg, w64_r, true_and, and_true, Nat.reduceAdd, Nat.reduceSub, eq_self, tsh_0, tyk_13, tcq_13, tsh_77, tyk_8, tcq_8, tyk_4, tcq_4, tsh_113, tsh_650, tsh_653, tsh_656, tsh_590, tyk_9, tcq_9, sr, sx, ksa]
      refine tc_n (D := 0) (fun d' hd' => v_aim (X := (mm, mm)) (Y := (mm, mm)) ⟨cl_656, Or.inr (by decide)⟩ ⟨cl_656, Or.inr (by decide)⟩ ⟨x11, md.2⟩ ⟨x11, md.2⟩ k11.2 k11.1.1) (by omega) ?_
      rintro N12 ⟨am12, k12, g12⟩
      try simp only [kb_X11_seekExtreme_74, w_ald_0, w_gf_13_12, tw_t, w_gf_13_4, w_iv0, tfr_0, tfr_1, tfr_2, tfr_3, tfr_4, w_iv1, w_gf_13_13, w_gf_13_9, w_ild5, w_iv2, w_popi, w_popr, w_ald_1, w_ist6, tkl_n, tkl_i, tkl_l, tkl_r, w_ild6, w_if_eq, w_ire, trg, w64_r, true_and, and_true, Nat.reduceAdd, Nat.reduceSub, eq_self, tsh_0, tyk_13, tcq_13, tsh_77, tyk_8, tcq_8, tyk_4, tcq_4, tsh_113, tsh_650, tsh_653, tsh_656, tsh_590, tyk_9, tcq_9, sr, sx, ksa]
      have fcell : ∀ (k : Nat) (i : Int), (499 ≤ k ∧ k < 590) → N12 k i = N5 k i := fun k i g => (g12 k i (by omega)).trans ((f11.2 k i (by omega) (by omega)).trans ((f8.2 k i (by omega) (by omega)).trans (m6.2.2 k i (by omega))))
      have f5c : ∀ (k : Nat) (i : Int), (499 ≤ k ∧ k < 590) → N5 k i = M4 k i := fun k i g => (g5 k i (by omega)).trans (fN k i g)
      refine tc_i (D := 8) (fun d' hd' => v_mkV hr ((fcell r 6 (by omega)).trans ((f5c r 6 (by omega)).trans h6)) am12 he k12.2 k12.1.1 hd') (by omega) ?_
      rintro z13 N13 ⟨hz13, k13, m13, v13⟩
      have kk13 : KA M4 N13 := KA_tr (pE_tr kk6.1.2 (pE_tr k8.1.2 (pE_tr k11.1.2 k12.1.2))) k13
      try simp only [kb_X11_seekExtreme_74, w_ald_0, w_gf_13_12, tw_t, w_gf_13_4, w_iv0, tfr_0, tfr_1, tfr_2, tfr_3, tfr_4, w_iv1, w_gf_13_13, w_gf_13_9, w_ild5, w_iv2, w_popi, w_popr, w_ald_1, w_ist6, tkl_n, tkl_i, tkl_l, tkl_r, w_ild6, w_if_eq, w_ire, trg, w64_r, true_and, and_true, Nat.reduceAdd, Nat.reduceSub, eq_self, tsh_0, tyk_13, tcq_13, tsh_77, tyk_8, tcq_8, tyk_4, tcq_4, tsh_113, tsh_650, tsh_653, tsh_656, tsh_590, tyk_9, tcq_9, sr, sx, ksa]
      repeat refine And.intro (by omega) ?_
      refine ⟨fun q0 => ?_, fun q => ⟨_, rfl, rfl, hz13, kk13, fun q2 => absurd q2 (by omega)⟩⟩
      obtain ⟨B1, s1, c1, w1, e1⟩ := v13 (by omega)
      obtain ⟨b1, gb1⟩ := s1.2 0 (by decide)
      have cc : c1 = c0 := by
        have a1 := w1.1.1
        have a0 := w0.1.1
        rw [fcell r 4 (by omega)] at a1
        omega
      subst cc
      have e1' := EVS_u (fun k i g => fcell k i (by omega)) c1 1 B1 e1
      have u12 : N12 78 5 = N5 78 5 := (UN_78 k12.1.2).trans ((UN_78 k11.1.2).trans ((UN_78 k8.1.2).trans (UN_78 kN6.1.2)))
      rw [u12] at e1'
      have inc := (EVS_iso (X0 := va) (Y0 := va) (X := (mm, mm)) (Y := (mm, mm)) (KU kN5.2 kN5.1.1) (KU kN5.2 kN5.1.1) (Int.dvd_refl _) ⟨md.1.1, md.1.2⟩ ⟨md.1.1, md.1.2⟩ c1 1 1 B0 B1 e0 e1').2 0 (by decide)
      have n167 : ∀ p3 : Int, (p3 = 1 ∧ p = 0) ∨ (p3 = 0 ∧ 0 < p) → tT e d 3385 167 [some (.inr (.inr (.inl (0)))), some (.inr (.inr (.inl (r)))), some (.inr (.inr (.inl (x)))), some (.inl ((k : Int))), some (.inl (p4)), some (.inl ((p : Int))), some (.inl (z13))] [.inl p3, .inr (.inr (.inl 113)), .inr (.inr (.inl 653)), .inr (.inr (.inl 0))] N13 n (tQi n (fun z M' => (0 ≤ z ∧ z ≤ 2) ∧ KA M4 M' ∧ (z = 0 → BXG M' 650))) := by
        intro p3 hp3
        have b650 : p3 = 0 → BXG N13 650 := fun q => BXG_f (hb (by omega)) (fun j => (m13.2.2 _ _ (by decide)).trans ((g12 _ _ (by decide)).trans ((f11.2 _ _ (by decide) (by decide)).trans ((f8.2 _ _ (by decide) (by decide)).trans ((m6.2.2 _ _ (by decide)).trans (g5 _ _ (by decide))))))) (fun j => (m13.2.2 _ _ (by decide)).trans ((g12 _ _ (by decide)).trans ((f11.2 _ _ (by decide) (by decide)).trans ((f8.2 _ _ (by decide) (by decide)).trans ((m6.2.2 _ _ (by decide)).trans (g5 _ _ (by decide)))))))
        obtain ⟨F, hF⟩ : ∃ F : Int × Int, p3 = 0 → BX N13 650 F.1 F.2 ∧ GBX F := by
          by_cases q : p3 = 0
          · obtain ⟨F, h1, h2⟩ := b650 q
            exact ⟨F, fun _ => ⟨h1, h2⟩⟩
          · exact ⟨(0, 0), fun q2 => absurd q2 q⟩
        have x13 : BX N13 653 (B0 0).1 (B0 0).2 := BX_f x8 (fun j => (m13.2.2 _ _ (by decide)).trans ((g12 _ _ (by decide)).trans (f11.2 _ _ (by decide) (by decide)))) (fun j => (m13.2.2 _ _ (by decide)).trans ((g12 _ _ (by decide)).trans (f11.2 _ _ (by decide) (by decide))))
        refine tb_X11_seekExtreme_167 (c := true) ?_
        simp only [kb_X11_seekExtreme_167, w_ild4, w_iv4, tfr_0, tfr_1, tfr_2, tfr_3, tfr_4, w_inc5, tkl_n, tkl_i, tkl_l, tkl_r, w_goto, w64_r, true_and, and_true, Nat.reduceAdd, Nat.reduceSub, eq_self, tsh_0, tyk_13, tcq_13, tsh_77, tyk_8, tcq_8, tyk_4, tcq_4, tsh_113, tsh_650, tsh_653, tsh_656, tsh_590, tyk_9, tcq_9]
        refine tc_n (D := 1) (fun d' hd' => z_takeE (F := F) (by omega) h4 hF ⟨x13, gb0⟩ ⟨b1, gb1⟩ inc kk13.1.1 hd') (by omega) ?_
        rintro N14 ⟨x14, f14⟩
        have k14 := KA_b kk13.2 (by decide) f14
        try simp only [kb_X11_seekExtreme_167, w_ild4, w_iv4, tfr_0, tfr_1, tfr_2, tfr_3, tfr_4, w_inc5, tkl_n, tkl_i, tkl_l, tkl_r, w_goto, w64_r, true_and, and_true, Nat.reduceAdd, Nat.reduceSub, eq_self, tsh_0, tyk_13, tcq_13, tsh_77, tyk_8, tcq_8, tyk_4, tcq_4, tsh_113, tsh_650, tsh_653, tsh_656, tsh_590, tyk_9, tcq_9]
        repeat refine And.intro (by omega) ?_
        rw [show ((p : Nat) : Int) + 1 = ((p + 1 : Nat) : Int) by omega]
        refine ih N14 (p + 1) _ (by omega) (by omega) (fun _ => x14) (KA_tr kk13.1.2 k14) (PCG_m (Or.inr (Or.inr (Or.inl rfl))) (PCG_u pa (c := ca) ?_ ?_) (fun k i g => rfl)) (fun k i g => (f14.2 k i (by omega) (by omega)).trans ((m13.2.2 k i (by omega)).trans ((fcell k i g).trans (f5c k i g))))
        · exact (f14.2 _ _ (by decide) (by decide)).trans ((m13.2.2 _ _ (by decide)).trans ((g12 _ _ (by decide)).trans ((f11.2 _ _ (by decide) (by decide)).trans ((f8.2 _ _ (by decide) (by decide)).trans ((m6.2.2 _ _ (by decide)).trans (g5 _ _ (by decide)))))))
        · intro k i a b
          exact (f14.2 _ _ (by omega) (by omega)).trans ((m13.2.2 _ _ (by omega)).trans ((g12 _ _ (by omega)).trans ((f11.2 _ _ (by omega) (by omega)).trans ((f8.2 _ _ (by omega) (by omega)).trans ((m6.2.2 _ _ (by omega)).trans (g5 _ _ (by omega)))))))
      refine tb_X11_seekExtreme_145 (c := true) ?_
      simp only [kb_X11_seekExtreme_145, w_ald_0, w_gf_13_12, tw_t, w_gf_13_4, w_iv0, tfr_0, tfr_1, tfr_2, tfr_3, tfr_4, w_ild5, w_if_ne, w_ic, w_goto, w64_r, true_and, and_true, Nat.reduceAdd, Nat.reduceSub, eq_self, tsh_0, tyk_13, tcq_13, tsh_77, tyk_8, tcq_8, tyk_4, tcq_4, tsh_113, tsh_650, tsh_653, tsh_656, tsh_590, tyk_9, tcq_9, sr, sx, ksa]
      refine tc_r (D := 1) (fun d' hd' => z_result s1.1 hd') (by omega) ?_
      rintro y N15 ⟨rfl, rfl⟩
      try simp only [kb_X11_seekExtreme_145, w_ald_0, w_gf_13_12, tw_t, w_gf_13_4, w_iv0, tfr_0, tfr_1, tfr_2, tfr_3, tfr_4, w_ild5, w_if_ne, w_ic, w_goto, w64_r, true_and, and_true, Nat.reduceAdd, Nat.reduceSub, eq_self, tsh_0, tyk_13, tcq_13, tsh_77, tyk_8, tcq_8, tyk_4, tcq_4, tsh_113, tsh_650, tsh_653, tsh_656, tsh_590, tyk_9, tcq_9, sr, sx, ksa]
      repeat refine And.intro (by omega) ?_
      refine ⟨fun q => ?_, fun q => n167 1 (Or.inl ⟨rfl, by omega⟩)⟩
      refine tb_X11_seekExtreme_166 (c := true) ?_
      simp only [kb_X11_seekExtreme_166, w_ic, w_nil, w64_r, true_and, and_true, Nat.reduceAdd, Nat.reduceSub, eq_self]
      exact n167 0 (Or.inr ⟨rfl, by omega⟩)
  exact nl ca M5 0 _ rfl (by omega) (fun q => absurd q (by decide)) k5 ca2 (fun k i g => f5.2 k i (by omega))
theorem v_least {x1 x2 x3 x4 : Int} (h1 : (-2147483648 ≤ x1 ∧ x1 ≤ 2147483647)) (h2 : (-2147483648 ≤ x2 ∧ x2 ≤ 2147483647)) (h3 : (-2147483648 ≤ x3 ∧ x3 ≤ 2147483647)) (h4 : (-2147483648 ≤ x4 ∧ x4 ≤ 2147483647)) (he : EVr e) (hK : KW M) (hC : CI M) (hd : 10 ≤ d) : tC e d 3369 [.inr (.inr (.inl 0)), .inl x1, .inl x2, .inl x3, .inl x4] M n (tQx n (tQi n (fun z M' => (0 ≤ z ∧ z ≤ 1) ∧ KA M M')) (fun _ M' => KA M M')) := by
  refine tst_X11_least ?_
  refine tb_X11_least_0 (c := true) ?_
  simp only [kb_X11_least_0, w_ald_0, w_ild_1, w_ild_2, w_ild_3, w_ild4, w_iv4, tfr_0, tfr_1, tfr_2, tfr_3, tfr_4, w_gf_13_5, tw_t, w_aa, w_gf_13_3, w_iv1, w_ic, w_gf_13_11, w_iv2, w_ire, trg, w64_r, true_and, and_true, Nat.reduceAdd, Nat.reduceSub, eq_self, tsh_0, tyk_13, tsh_77, tyk_8, tcq_8, tsh_5, tyk_11, tcq_13, tcq_11, tyk_4, tcq_4, tsh_113, tsh_650, tsh_499, tyk_27, tel_5, tyk_7, tcq_7]
  refine tc_xn (D := 3) (fun d' hd' => x_cbc h1 h2 h3 h4 hC hd') (by omega) rfl ?_ (fun s M' q => Or.inr ⟨_, rfl, rfl, by rw [q]; exact KA_refl hC hK⟩)
  rintro M1 ⟨⟨⟨a1, a2, a3, a4⟩, a5⟩, rfl⟩
  obtain ⟨i, rfl⟩ : ∃ k : Nat, x3 = (k : Int) := ⟨x3.toNat, by omega⟩
  obtain ⟨j, rfl⟩ : ∃ k : Nat, x4 = (k : Int) := ⟨x4.toNat, by omega⟩
  have hf0 := fm_cl hC a2
  have sf := hf0.1
  have hfm := FM_cl hf0
  have ci := (cl_sh (s := i) (by omega)).1
  try simp only [kb_X11_least_0, w_ald_0, w_ild_1, w_ild_2, w_ild_3, w_ild4, w_iv4, tfr_0, tfr_1, tfr_2, tfr_3, tfr_4, w_gf_13_5, tw_t, w_aa, w_gf_13_3, w_iv1, w_ic, w_gf_13_11, w_iv2, w_ire, trg, w64_r, true_and, and_true, Nat.reduceAdd, Nat.reduceSub, eq_self, tsh_0, tyk_13, tsh_77, tyk_8, tcq_8, tsh_5, tyk_11, tcq_13, tcq_11, tyk_4, tcq_4, tsh_113, tsh_650, tsh_499, tyk_27, tel_5, tyk_7, tcq_7, sf, ci]
  repeat refine And.intro (by omega) ?_
  refine tc_r (D := 1) (fun d' hd' => z_box (s := i) (by omega) hd') (by omega) ?_
  rintro y M2 ⟨rfl, rfl⟩
  try simp only [kb_X11_least_0, w_ald_0, w_ild_1, w_ild_2, w_ild_3, w_ild4, w_iv4, tfr_0, tfr_1, tfr_2, tfr_3, tfr_4, w_gf_13_5, tw_t, w_aa, w_gf_13_3, w_iv1, w_ic, w_gf_13_11, w_iv2, w_ire, trg, w64_r, true_and, and_true, Nat.reduceAdd, Nat.reduceSub, eq_self, tsh_0, tyk_13, tsh_77, tyk_8, tcq_8, tsh_5, tyk_11, tcq_13, tcq_11, tyk_4, tcq_4, tsh_113, tsh_650, tsh_499, tyk_27, tel_5, tyk_7, tcq_7, sf, ci]
  obtain ⟨v, hv⟩ := hK.1.2.1 i (by omega)
  refine tc_i (D := 9) (fun d' hd' => v_seek hfm a5 ⟨cl_sh (s := i) (by omega), by omega⟩ hv (by omega) (by decide) he hK hC hd') (by omega) ?_
  rintro z M3 ⟨hz, k3, b3⟩
  try simp only [kb_X11_least_0, w_ald_0, w_ild_1, w_ild_2, w_ild_3, w_ild4, w_iv4, tfr_0, tfr_1, tfr_2, tfr_3, tfr_4, w_gf_13_5, tw_t, w_aa, w_gf_13_3, w_iv1, w_ic, w_gf_13_11, w_iv2, w_ire, trg, w64_r, true_and, and_true, Nat.reduceAdd, Nat.reduceSub, eq_self, tsh_0, tyk_13, tsh_77, tyk_8, tcq_8, tsh_5, tyk_11, tcq_13, tcq_11, tyk_4, tcq_4, tsh_113, tsh_650, tsh_499, tyk_27, tel_5, tyk_7, tcq_7, sf, ci]
  refine tc_xn (D := 0) (fun d' hd' => x_cs hz) (by omega) rfl ?_ (fun s M' q => Or.inr ⟨_, rfl, rfl, by rw [q]; exact k3⟩)
  rintro M4 ⟨hz0, rfl⟩
  try simp only [kb_X11_least_0, w_ald_0, w_ild_1, w_ild_2, w_ild_3, w_ild4, w_iv4, tfr_0, tfr_1, tfr_2, tfr_3, tfr_4, w_gf_13_5, tw_t, w_aa, w_gf_13_3, w_iv1, w_ic, w_gf_13_11, w_iv2, w_ire, trg, w64_r, true_and, and_true, Nat.reduceAdd, Nat.reduceSub, eq_self, tsh_0, tyk_13, tsh_77, tyk_8, tcq_8, tsh_5, tyk_11, tcq_13, tcq_11, tyk_4, tcq_4, tsh_113, tsh_650, tsh_499, tyk_27, tel_5, tyk_7, tcq_7, sf, ci]
  refine tc_i (D := 3) (fun d' hd' => v_fill a1 cl_650 (b3 hz0) (by decide) k3.2 k3.1.1 hd') (by omega) ?_
  rintro w M5 ⟨p1, p2⟩
  try simp only [kb_X11_least_0, w_ald_0, w_ild_1, w_ild_2, w_ild_3, w_ild4, w_iv4, tfr_0, tfr_1, tfr_2, tfr_3, tfr_4, w_gf_13_5, tw_t, w_aa, w_gf_13_3, w_iv1, w_ic, w_gf_13_11, w_iv2, w_ire, trg, w64_r, true_and, and_true, Nat.reduceAdd, Nat.reduceSub, eq_self, tsh_0, tyk_13, tsh_77, tyk_8, tcq_8, tsh_5, tyk_11, tcq_13, tcq_11, tyk_4, tcq_4, tsh_113, tsh_650, tsh_499, tyk_27, tel_5, tyk_7, tcq_7, sf, ci]
  exact ⟨by omega, Or.inl ⟨_, rfl, rfl, p1, KA_tr k3.1.2 p2⟩⟩
theorem v_greatest {x1 x2 x3 x4 : Int} (h1 : (-2147483648 ≤ x1 ∧ x1 ≤ 2147483647)) (h2 : (-2147483648 ≤ x2 ∧ x2 ≤ 2147483647)) (h3 : (-2147483648 ≤ x3 ∧ x3 ≤ 2147483647)) (h4 : (-2147483648 ≤ x4 ∧ x4 ≤ 2147483647)) (he : EVr e) (hK : KW M) (hC : CI M) (hd : 10 ≤ d) : tC e d 3358 [.inr (.inr (.inl 0)), .inl x1, .inl x2, .inl x3, .inl x4] M n (tQx n (tQi n (fun z M' => (0 ≤ z ∧ z ≤ 1) ∧ KA M M')) (fun _ M' => KA M M')) := by
  refine tst_X11_greatest ?_
  refine tb_X11_greatest_0 (c := true) ?_
  simp only [kb_X11_greatest_0, w_ald_0, w_ild_1, w_ild_2, w_ild_3, w_ild4, w_iv4, tfr_0, tfr_1, tfr_2, tfr_3, tfr_4, w_gf_13_5, tw_t, w_aa, w_gf_13_3, w_iv1, w_ic, w_gf_13_11, w_iv2, w_ire, trg, w64_r, true_and, and_true, Nat.reduceAdd, Nat.reduceSub, eq_self, tsh_0, tyk_13, tsh_77, tyk_8, tcq_8, tsh_5, tyk_11, tcq_13, tcq_11, tyk_4, tcq_4, tsh_113, tsh_650, tsh_499, tyk_27, tel_5, tyk_7, tcq_7]
  refine tc_xn (D := 3) (fun d' hd' => x_cbc h1 h2 h3 h4 hC hd') (by omega) rfl ?_ (fun s M' q => Or.inr ⟨_, rfl, rfl, by rw [q]; exact KA_refl hC hK⟩)
  rintro M1 ⟨⟨⟨a1, a2, a3, a4⟩, a5⟩, rfl⟩
  obtain ⟨i, rfl⟩ : ∃ k : Nat, x3 = (k : Int) := ⟨x3.toNat, by omega⟩
  obtain ⟨j, rfl⟩ : ∃ k : Nat, x4 = (k : Int) := ⟨x4.toNat, by omega⟩
  have hf0 := fm_cl hC a2
  have sf := hf0.1
  have hfm := FM_cl hf0
  have ci := (cl_sh (s := i) (by omega)).1
  try simp only [kb_X11_greatest_0, w_ald_0, w_ild_1, w_ild_2, w_ild_3, w_ild4, w_iv4, tfr_0, tfr_1, tfr_2, tfr_3, tfr_4, w_gf_13_5, tw_t, w_aa, w_gf_13_3, w_iv1, w_ic, w_gf_13_11, w_iv2, w_ire, trg, w64_r, true_and, and_true, Nat.reduceAdd, Nat.reduceSub, eq_self, tsh_0, tyk_13, tsh_77, tyk_8, tcq_8, tsh_5, tyk_11, tcq_13, tcq_11, tyk_4, tcq_4, tsh_113, tsh_650, tsh_499, tyk_27, tel_5, tyk_7, tcq_7, sf, ci]
  repeat refine And.intro (by omega) ?_
  refine tc_r (D := 1) (fun d' hd' => z_box (s := i) (by omega) hd') (by omega) ?_
  rintro y M2 ⟨rfl, rfl⟩
  try simp only [kb_X11_greatest_0, w_ald_0, w_ild_1, w_ild_2, w_ild_3, w_ild4, w_iv4, tfr_0, tfr_1, tfr_2, tfr_3, tfr_4, w_gf_13_5, tw_t, w_aa, w_gf_13_3, w_iv1, w_ic, w_gf_13_11, w_iv2, w_ire, trg, w64_r, true_and, and_true, Nat.reduceAdd, Nat.reduceSub, eq_self, tsh_0, tyk_13, tsh_77, tyk_8, tcq_8, tsh_5, tyk_11, tcq_13, tcq_11, tyk_4, tcq_4, tsh_113, tsh_650, tsh_499, tyk_27, tel_5, tyk_7, tcq_7, sf, ci]
  obtain ⟨v, hv⟩ := hK.1.2.1 i (by omega)
  refine tc_i (D := 9) (fun d' hd' => v_seek hfm a5 ⟨cl_sh (s := i) (by omega), by omega⟩ hv (by omega) (by decide) he hK hC hd') (by omega) ?_
  rintro z M3 ⟨hz, k3, b3⟩
  try simp only [kb_X11_greatest_0, w_ald_0, w_ild_1, w_ild_2, w_ild_3, w_ild4, w_iv4, tfr_0, tfr_1, tfr_2, tfr_3, tfr_4, w_gf_13_5, tw_t, w_aa, w_gf_13_3, w_iv1, w_ic, w_gf_13_11, w_iv2, w_ire, trg, w64_r, true_and, and_true, Nat.reduceAdd, Nat.reduceSub, eq_self, tsh_0, tyk_13, tsh_77, tyk_8, tcq_8, tsh_5, tyk_11, tcq_13, tcq_11, tyk_4, tcq_4, tsh_113, tsh_650, tsh_499, tyk_27, tel_5, tyk_7, tcq_7, sf, ci]
  refine tc_xn (D := 0) (fun d' hd' => x_cs hz) (by omega) rfl ?_ (fun s M' q => Or.inr ⟨_, rfl, rfl, by rw [q]; exact k3⟩)
  rintro M4 ⟨hz0, rfl⟩
  try simp only [kb_X11_greatest_0, w_ald_0, w_ild_1, w_ild_2, w_ild_3, w_ild4, w_iv4, tfr_0, tfr_1, tfr_2, tfr_3, tfr_4, w_gf_13_5, tw_t, w_aa, w_gf_13_3, w_iv1, w_ic, w_gf_13_11, w_iv2, w_ire, trg, w64_r, true_and, and_true, Nat.reduceAdd, Nat.reduceSub, eq_self, tsh_0, tyk_13, tsh_77, tyk_8, tcq_8, tsh_5, tyk_11, tcq_13, tcq_11, tyk_4, tcq_4, tsh_113, tsh_650, tsh_499, tyk_27, tel_5, tyk_7, tcq_7, sf, ci]
  refine tc_i (D := 3) (fun d' hd' => v_fill a1 cl_650 (b3 hz0) (by decide) k3.2 k3.1.1 hd') (by omega) ?_
  rintro w M5 ⟨p1, p2⟩
  try simp only [kb_X11_greatest_0, w_ald_0, w_ild_1, w_ild_2, w_ild_3, w_ild4, w_iv4, tfr_0, tfr_1, tfr_2, tfr_3, tfr_4, w_gf_13_5, tw_t, w_aa, w_gf_13_3, w_iv1, w_ic, w_gf_13_11, w_iv2, w_ire, trg, w64_r, true_and, and_true, Nat.reduceAdd, Nat.reduceSub, eq_self, tsh_0, tyk_13, tsh_77, tyk_8, tcq_8, tsh_5, tyk_11, tcq_13, tcq_11, tyk_4, tcq_4, tsh_113, tsh_650, tsh_499, tyk_27, tel_5, tyk_7, tcq_7, sf, ci]
  exact ⟨by omega, Or.inl ⟨_, rfl, rfl, p1, KA_tr k3.1.2 p2⟩⟩
end HAND
