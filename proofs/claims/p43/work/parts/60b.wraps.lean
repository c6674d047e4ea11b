/-! THE LAW: its wrappers. Printed by wip/p2/gen/gwrap.py. -/

section LAW
variable {e : tE} {d n : Nat} {M : tM}
noncomputable def kpa_L_add : List (Nat × bO) := [(0, .aload 4, 0, 0, 0, 0), (2, .iconst 0, 0, 0, 0, 0), (3, .aload_n 0, 0, 0, 0, 0), (4, .iload_n 1, 0, 0, 0, 0), (5, .iload_n 2, 0, 0, 0, 0), (6, .iload_n 3, 0, 0, 0, 0)]
noncomputable def kpc_L_add : List (Nat × bO) := [(10, .ifCond .eq 7, 0, 17, 0, 0), (13, .lconst 1, 0, 0, 0, 0), (14, .goto 4, 0, 18, 0, 0)]
noncomputable def kph_L_add_22 : List (Nat × bO) := [(24, .iconst 1, 0, 0, 0, 0), (25, .ireturn, 0, 0, 0, 0)]
noncomputable def kph_L_add_26 : List (Nat × bO) := [(28, .iconst 2, 0, 0, 0, 0), (29, .ireturn, 0, 0, 0, 0)]
noncomputable def kph_L_add_30 : List (Nat × bO) := [(32, .iconst 3, 0, 0, 0, 0), (33, .ireturn, 0, 0, 0, 0)]
theorem lw_add {p1 p2 p3 : Int} (hC : CK M) (he : EK e) (h1 : -2147483648 ≤ p1 ∧ p1 ≤ 2147483647) (h2 : -2147483648 ≤ p2 ∧ p2 ≤ 2147483647) (h3 : -2147483648 ≤ p3 ∧ p3 ≤ 2147483647) (hd : 12 ≤ d) : tC e d 3840 [.inr (.inr (.inl 0)), .inl p1, .inl p2, .inl p3, .inr (.inr (.inl 690))] M n (WQ n M) := by
  refine tst_L_add ?_
  obtain ⟨d', rfl⟩ : ∃ d', d = d' + 1 := ⟨d - 1, by omega⟩
  have nh22 : ∀ (M1 : tM), CK M1 → WE M M1 → tT e (d' + 1) 3840 (22 + 2) [] [] M1 (n + 1) (WQ n M) := by
    intro M1 c1 c2
    refine tblk_p kbl_L_add kbs_L_add (rk := 0) (c := false) (i := 3) rfl 1 2 (P := kph_L_add_22) (pe := 123) rfl (by decide +kernel) ?_
    simp only [kph_L_add_22, w_ic, w_ire, trg, true_and, and_true, Nat.reduceAdd, Nat.reduceSub, eq_self]
    exact ⟨⟨_, rfl⟩, ⟨Nat.le_succ _, Nat.le_refl _⟩, c1, c2⟩
  have nh26 : ∀ (M1 : tM), CK M1 → WE M M1 → tT e (d' + 1) 3840 (26 + 2) [] [] M1 (n + 1) (WQ n M) := by
    intro M1 c1 c2
    refine tblk_p kbl_L_add kbs_L_add (rk := 0) (c := false) (i := 4) rfl 1 2 (P := kph_L_add_26) (pe := 127) rfl (by decide +kernel) ?_
    simp only [kph_L_add_26, w_ic, w_ire, trg, true_and, and_true, Nat.reduceAdd, Nat.reduceSub, eq_self]
    exact ⟨⟨_, rfl⟩, ⟨Nat.le_succ _, Nat.le_refl _⟩, c1, c2⟩
  have nh30 : ∀ (M1 : tM), CK M1 → WE M M1 → tT e (d' + 1) 3840 (30 + 2) [] [] M1 (n + 1) (WQ n M) := by
    intro M1 c1 c2
    refine tblk_p kbl_L_add kbs_L_add (rk := 0) (c := false) (i := 5) rfl 1 2 (P := kph_L_add_30) (pe := 131) rfl (by decide +kernel) ?_
    simp only [kph_L_add_30, w_ic, w_ire, trg, true_and, and_true, Nat.reduceAdd, Nat.reduceSub, eq_self]
    exact ⟨⟨_, rfl⟩, ⟨Nat.le_succ _, Nat.le_refl _⟩, c1, c2⟩
  have nend : ∀ (L : tL) (M1 : tM) (v : Int), CK M1 → WE M M1 → tT e (d' + 1) 3840 34 L [] (tU M1 690 0 v) n (WQ n M) := by
    intro L M1 v c1 c2
    refine tb_L_add_34 (c := false) ?_
    simp only [kb_L_add_34, w_ic, w_ire, trg, true_and, and_true, Nat.reduceAdd, Nat.reduceSub, eq_self]
    exact ⟨⟨_, rfl⟩, ⟨Nat.le_refl _, Nat.le_succ _⟩, CK_690 c1, WE_tr c2 WE_690⟩
  have nst : ∀ (L : tL) (M1 : tM) (v : Int), CK M1 → WE M M1 → tT e (d' + 1) 3840 18 L [.inr (.inl v), .inl 0, .inr (.inr (.inl 690))] M1 n (WQ n M) := by
    intro L M1 v c1 c2
    refine tb_L_add_18 (c := false) ?_
    simp only [kb_L_add_18, w_las, w_goto, true_and, and_true, Nat.reduceAdd, Nat.reduceSub, eq_self, tsw_690, tyw_41, tcw_1]
    exact ⟨by omega, nend _ M1 v c1 c2⟩
  refine tblk_p kbl_L_add kbs_L_add (rk := 0) (c := false) (i := 0) rfl 0 6 (P := kpa_L_add) (pe := 7) rfl (by decide +kernel) ?_
  simp only [kpa_L_add, w_ald4, w_ic, w_ald_0, w_ild_1, w_ild_2, w_ild_3, w_nil, true_and, and_true, Nat.reduceAdd, Nat.reduceSub, eq_self]
  refine tT_catch (pc := 7) (tblk_o kbl_L_add kbs_L_add (i := 0) (j := 6) rfl rfl) rfl sh0a sh0b rfl (kv he.2.2.2 (k_X11_add (b := 0) cl_0 h1 h2 h3 he.1 (by omega) (by omega)) (KA_x (v_add h1 h2 h3 he.2.1 hC.2 hC.1 (by omega))) hC.1) ?_ ?_
  · rintro v M1 n1 ⟨⟨⟨c1, c2⟩, c3⟩, hR⟩
    have c1 : CK M1 := ⟨c1, c3⟩
    have c2 := WE_p c2
    rcases hR with ⟨z, q, rfl, hz⟩ | ⟨s, q, _⟩
    · cases q
      refine tblk_p kbl_L_add kbs_L_add (rk := 0) (c := false) (i := 0) rfl 7 3 (P := kpc_L_add) (pe := 17) rfl (by decide +kernel) ?_
      show wB _ _ _ _ _ _ _ _ [.inl z, .inl 0, .inr (.inr (.inl 690))] _ _ _
      simp only [kpc_L_add, w_if_eq, w_lc1, w_goto, true_and, and_true, Nat.reduceAdd, Nat.reduceSub, eq_self, tsw_690, tyw_41, tcw_1]
      refine ⟨by omega, fun q => ?_, fun q => nst _ M1 1 c1 c2⟩
      refine tb_L_add_17 (c := false) ?_
      simp only [kb_L_add_17, w_lc0, w_nil, true_and, and_true, Nat.reduceAdd, Nat.reduceSub, eq_self]
      exact nst _ M1 0 c1 c2
    · cases q
  · rintro x M1 n1 ⟨⟨⟨c1, c2⟩, c3⟩, hR⟩
    have c1 : CK M1 := ⟨c1, c3⟩
    have c2 := WE_p c2
    rcases hR with ⟨z, q, _⟩ | ⟨s, q, rfl, hs⟩
    · cases q
    · cases q
      rcases hs with rfl | rfl | rfl
      all_goals
        first
        | exact ⟨22, _, 5, 2, by decide +kernel, tblk_o kbl_L_add kbs_L_add (i := 3) (j := 0) rfl rfl, rfl, by decide +kernel, nh22 _ c1 c2⟩
        | exact ⟨26, _, 5, 2, by decide +kernel, tblk_o kbl_L_add kbs_L_add (i := 4) (j := 0) rfl rfl, rfl, by decide +kernel, nh26 _ c1 c2⟩
        | exact ⟨30, _, 5, 2, by decide +kernel, tblk_o kbl_L_add kbs_L_add (i := 5) (j := 0) rfl rfl, rfl, by decide +kernel, nh30 _ c1 c2⟩
noncomputable def kpa_L_apply : List (Nat × bO) := [(0, .aload 4, 0, 0, 0, 0), (2, .iconst 0, 0, 0, 0, 0), (3, .aload_n 0, 0, 0, 0, 0), (4, .iload_n 1, 0, 0, 0, 0), (5, .iload_n 2, 0, 0, 0, 0), (6, .iload_n 3, 0, 0, 0, 0)]
noncomputable def kpc_L_apply : List (Nat × bO) := [(10, .ifCond .eq 7, 0, 17, 0, 0), (13, .lconst 1, 0, 0, 0, 0), (14, .goto 4, 0, 18, 0, 0)]
noncomputable def kph_L_apply_22 : List (Nat × bO) := [(24, .iconst 1, 0, 0, 0, 0), (25, .ireturn, 0, 0, 0, 0)]
noncomputable def kph_L_apply_26 : List (Nat × bO) := [(28, .iconst 2, 0, 0, 0, 0), (29, .ireturn, 0, 0, 0, 0)]
noncomputable def kph_L_apply_30 : List (Nat × bO) := [(32, .iconst 3, 0, 0, 0, 0), (33, .ireturn, 0, 0, 0, 0)]
noncomputable def kph_L_apply_34 : List (Nat × bO) := [(36, .iconst 4, 0, 0, 0, 0), (37, .ireturn, 0, 0, 0, 0)]
noncomputable def kph_L_apply_38 : List (Nat × bO) := [(40, .iconst 5, 0, 0, 0, 0), (41, .ireturn, 0, 0, 0, 0)]
theorem lw_apply {p1 p2 p3 : Int} (hC : CK M) (he : EK e) (h1 : -2147483648 ≤ p1 ∧ p1 ≤ 2147483647) (h2 : -2147483648 ≤ p2 ∧ p2 ≤ 2147483647) (h3 : 0 ≤ p3 ∧ p3 ≤ 65535) (hd : 12 ≤ d) : tC e d 3841 [.inr (.inr (.inl 0)), .inl p1, .inl p2, .inl p3, .inr (.inr (.inl 690))] M n (WQ n M) := by
  refine tst_L_apply ?_
  obtain ⟨d', rfl⟩ : ∃ d', d = d' + 1 := ⟨d - 1, by omega⟩
  have nh22 : ∀ (M1 : tM), CK M1 → WE M M1 → tT e (d' + 1) 3841 (22 + 2) [] [] M1 (n + 1) (WQ n M) := by
    intro M1 c1 c2
    refine tblk_p kbl_L_apply kbs_L_apply (rk := 0) (c := false) (i := 3) rfl 1 2 (P := kph_L_apply_22) (pe := 123) rfl (by decide +kernel) ?_
    simp only [kph_L_apply_22, w_ic, w_ire, trg, true_and, and_true, Nat.reduceAdd, Nat.reduceSub, eq_self]
    exact ⟨⟨_, rfl⟩, ⟨Nat.le_succ _, Nat.le_refl _⟩, c1, c2⟩
  have nh26 : ∀ (M1 : tM), CK M1 → WE M M1 → tT e (d' + 1) 3841 (26 + 2) [] [] M1 (n + 1) (WQ n M) := by
    intro M1 c1 c2
    refine tblk_p kbl_L_apply kbs_L_apply (rk := 0) (c := false) (i := 4) rfl 1 2 (P := kph_L_apply_26) (pe := 127) rfl (by decide +kernel) ?_
    simp only [kph_L_apply_26, w_ic, w_ire, trg, true_and, and_true, Nat.reduceAdd, Nat.reduceSub, eq_self]
    exact ⟨⟨_, rfl⟩, ⟨Nat.le_succ _, Nat.le_refl _⟩, c1, c2⟩
  have nh30 : ∀ (M1 : tM), CK M1 → WE M M1 → tT e (d' + 1) 3841 (30 + 2) [] [] M1 (n + 1) (WQ n M) := by
    intro M1 c1 c2
    refine tblk_p kbl_L_apply kbs_L_apply (rk := 0) (c := false) (i := 5) rfl 1 2 (P := kph_L_apply_30) (pe := 131) rfl (by decide +kernel) ?_
    simp only [kph_L_apply_30, w_ic, w_ire, trg, true_and, and_true, Nat.reduceAdd, Nat.reduceSub, eq_self]
    exact ⟨⟨_, rfl⟩, ⟨Nat.le_succ _, Nat.le_refl _⟩, c1, c2⟩
  have nh34 : ∀ (M1 : tM), CK M1 → WE M M1 → tT e (d' + 1) 3841 (34 + 2) [] [] M1 (n + 1) (WQ n M) := by
    intro M1 c1 c2
    refine tblk_p kbl_L_apply kbs_L_apply (rk := 0) (c := false) (i := 6) rfl 1 2 (P := kph_L_apply_34) (pe := 135) rfl (by decide +kernel) ?_
    simp only [kph_L_apply_34, w_ic, w_ire, trg, true_and, and_true, Nat.reduceAdd, Nat.reduceSub, eq_self]
    exact ⟨⟨_, rfl⟩, ⟨Nat.le_succ _, Nat.le_refl _⟩, c1, c2⟩
  have nh38 : ∀ (M1 : tM), CK M1 → WE M M1 → tT e (d' + 1) 3841 (38 + 2) [] [] M1 (n + 1) (WQ n M) := by
    intro M1 c1 c2
    refine tblk_p kbl_L_apply kbs_L_apply (rk := 0) (c := false) (i := 7) rfl 1 2 (P := kph_L_apply_38) (pe := 139) rfl (by decide +kernel) ?_
    simp only [kph_L_apply_38, w_ic, w_ire, trg, true_and, and_true, Nat.reduceAdd, Nat.reduceSub, eq_self]
    exact ⟨⟨_, rfl⟩, ⟨Nat.le_succ _, Nat.le_refl _⟩, c1, c2⟩
  have nend : ∀ (L : tL) (M1 : tM) (v : Int), CK M1 → WE M M1 → tT e (d' + 1) 3841 42 L [] (tU M1 690 0 v) n (WQ n M) := by
    intro L M1 v c1 c2
    refine tb_L_apply_42 (c := false) ?_
    simp only [kb_L_apply_42, w_ic, w_ire, trg, true_and, and_true, Nat.reduceAdd, Nat.reduceSub, eq_self]
    exact ⟨⟨_, rfl⟩, ⟨Nat.le_refl _, Nat.le_succ _⟩, CK_690 c1, WE_tr c2 WE_690⟩
  have nst : ∀ (L : tL) (M1 : tM) (v : Int), CK M1 → WE M M1 → tT e (d' + 1) 3841 18 L [.inr (.inl v), .inl 0, .inr (.inr (.inl 690))] M1 n (WQ n M) := by
    intro L M1 v c1 c2
    refine tb_L_apply_18 (c := false) ?_
    simp only [kb_L_apply_18, w_las, w_goto, true_and, and_true, Nat.reduceAdd, Nat.reduceSub, eq_self, tsw_690, tyw_41, tcw_1]
    exact ⟨by omega, nend _ M1 v c1 c2⟩
  refine tblk_p kbl_L_apply kbs_L_apply (rk := 0) (c := false) (i := 0) rfl 0 6 (P := kpa_L_apply) (pe := 7) rfl (by decide +kernel) ?_
  simp only [kpa_L_apply, w_ald4, w_ic, w_ald_0, w_ild_1, w_ild_2, w_ild_3, w_nil, true_and, and_true, Nat.reduceAdd, Nat.reduceSub, eq_self]
  refine tT_catch (pc := 7) (tblk_o kbl_L_apply kbs_L_apply (i := 0) (j := 6) rfl rfl) rfl sh0a sh0b rfl (kv he.2.2.2 (k_X11_apply (b := 0) cl_0 h1 h2 h3 he.1 (by omega) (by omega)) (KA_x (v_apply h1 h2 h3 he.2.1 hC.2 hC.1 (by omega))) hC.1) ?_ ?_
  · rintro v M1 n1 ⟨⟨⟨c1, c2⟩, c3⟩, hR⟩
    have c1 : CK M1 := ⟨c1, c3⟩
    have c2 := WE_p c2
    rcases hR with ⟨z, q, rfl, hz⟩ | ⟨s, q, _⟩
    · cases q
      refine tblk_p kbl_L_apply kbs_L_apply (rk := 0) (c := false) (i := 0) rfl 7 3 (P := kpc_L_apply) (pe := 17) rfl (by decide +kernel) ?_
      show wB _ _ _ _ _ _ _ _ [.inl z, .inl 0, .inr (.inr (.inl 690))] _ _ _
      simp only [kpc_L_apply, w_if_eq, w_lc1, w_goto, true_and, and_true, Nat.reduceAdd, Nat.reduceSub, eq_self, tsw_690, tyw_41, tcw_1]
      refine ⟨by omega, fun q => ?_, fun q => nst _ M1 1 c1 c2⟩
      refine tb_L_apply_17 (c := false) ?_
      simp only [kb_L_apply_17, w_lc0, w_nil, true_and, and_true, Nat.reduceAdd, Nat.reduceSub, eq_self]
      exact nst _ M1 0 c1 c2
    · cases q
  · rintro x M1 n1 ⟨⟨⟨c1, c2⟩, c3⟩, hR⟩
    have c1 : CK M1 := ⟨c1, c3⟩
    have c2 := WE_p c2
    rcases hR with ⟨z, q, _⟩ | ⟨s, q, rfl, hs⟩
    · cases q
    · cases q
      rcases hs with rfl | rfl | rfl | rfl | rfl
      all_goals
        first
        | exact ⟨22, _, 5, 2, by decide +kernel, tblk_o kbl_L_apply kbs_L_apply (i := 3) (j := 0) rfl rfl, rfl, by decide +kernel, nh22 _ c1 c2⟩
        | exact ⟨26, _, 5, 2, by decide +kernel, tblk_o kbl_L_apply kbs_L_apply (i := 4) (j := 0) rfl rfl, rfl, by decide +kernel, nh26 _ c1 c2⟩
        | exact ⟨30, _, 5, 2, by decide +kernel, tblk_o kbl_L_apply kbs_L_apply (i := 5) (j := 0) rfl rfl, rfl, by decide +kernel, nh30 _ c1 c2⟩
        | exact ⟨34, _, 5, 2, by decide +kernel, tblk_o kbl_L_apply kbs_L_apply (i := 6) (j := 0) rfl rfl, rfl, by decide +kernel, nh34 _ c1 c2⟩
        | exact ⟨38, _, 5, 2, by decide +kernel, tblk_o kbl_L_apply kbs_L_apply (i := 7) (j := 0) rfl rfl, rfl, by decide +kernel, nh38 _ c1 c2⟩
noncomputable def kpa_L_area : List (Nat × bO) := [(0, .aload 5, 0, 0, 0, 0), (2, .iconst 0, 0, 0, 0, 0), (3, .aload_n 0, 0, 0, 0, 0), (4, .iload_n 1, 0, 0, 0, 0), (5, .iload_n 2, 0, 0, 0, 0), (6, .iload_n 3, 0, 0, 0, 0), (7, .iload 4, 0, 0, 0, 0)]
noncomputable def kpc_L_area : List (Nat × bO) := [(12, .ifCond .eq 7, 0, 19, 0, 0), (15, .lconst 1, 0, 0, 0, 0), (16, .goto 4, 0, 20, 0, 0)]
noncomputable def kph_L_area_24 : List (Nat × bO) := [(26, .iconst 1, 0, 0, 0, 0), (27, .ireturn, 0, 0, 0, 0)]
noncomputable def kph_L_area_28 : List (Nat × bO) := [(30, .iconst 2, 0, 0, 0, 0), (31, .ireturn, 0, 0, 0, 0)]
noncomputable def kph_L_area_32 : List (Nat × bO) := [(34, .iconst 3, 0, 0, 0, 0), (35, .ireturn, 0, 0, 0, 0)]
noncomputable def kph_L_area_36 : List (Nat × bO) := [(38, .iconst 4, 0, 0, 0, 0), (39, .ireturn, 0, 0, 0, 0)]
noncomputable def kph_L_area_40 : List (Nat × bO) := [(42, .iconst 5, 0, 0, 0, 0), (43, .ireturn, 0, 0, 0, 0)]
noncomputable def kph_L_area_44 : List (Nat × bO) := [(46, .bipush 6, 0, 0, 0, 0), (48, .ireturn, 0, 0, 0, 0)]
theorem lw_area {p1 p2 p3 p4 : Int} (hC : CK M) (he : EK e) (h1 : -2147483648 ≤ p1 ∧ p1 ≤ 2147483647) (h2 : -2147483648 ≤ p2 ∧ p2 ≤ 2147483647) (h3 : -2147483648 ≤ p3 ∧ p3 ≤ 2147483647) (h4 : -2147483648 ≤ p4 ∧ p4 ≤ 2147483647) (hd : 12 ≤ d) : tC e d 3842 [.inr (.inr (.inl 0)), .inl p1, .inl p2, .inl p3, .inl p4, .inr (.inr (.inl 690))] M n (WQ n M) := by
  refine tst_L_area ?_
  obtain ⟨d', rfl⟩ : ∃ d', d = d' + 1 := ⟨d - 1, by omega⟩
  have nh24 : ∀ (M1 : tM), CK M1 → WE M M1 → tT e (d' + 1) 3842 (24 + 2) [] [] M1 (n + 1) (WQ n M) := by
    intro M1 c1 c2
    refine tblk_p kbl_L_area kbs_L_area (rk := 0) (c := false) (i := 3) rfl 1 2 (P := kph_L_area_24) (pe := 125) rfl (by decide +kernel) ?_
    simp only [kph_L_area_24, w_ic, w_ire, trg, true_and, and_true, Nat.reduceAdd, Nat.reduceSub, eq_self]
    exact ⟨⟨_, rfl⟩, ⟨Nat.le_succ _, Nat.le_refl _⟩, c1, c2⟩
  have nh28 : ∀ (M1 : tM), CK M1 → WE M M1 → tT e (d' + 1) 3842 (28 + 2) [] [] M1 (n + 1) (WQ n M) := by
    intro M1 c1 c2
    refine tblk_p kbl_L_area kbs_L_area (rk := 0) (c := false) (i := 4) rfl 1 2 (P := kph_L_area_28) (pe := 129) rfl (by decide +kernel) ?_
    simp only [kph_L_area_28, w_ic, w_ire, trg, true_and, and_true, Nat.reduceAdd, Nat.reduceSub, eq_self]
    exact ⟨⟨_, rfl⟩, ⟨Nat.le_succ _, Nat.le_refl _⟩, c1, c2⟩
  have nh32 : ∀ (M1 : tM), CK M1 → WE M M1 → tT e (d' + 1) 3842 (32 + 2) [] [] M1 (n + 1) (WQ n M) := by
    intro M1 c1 c2
    refine tblk_p kbl_L_area kbs_L_area (rk := 0) (c := false) (i := 5) rfl 1 2 (P := kph_L_area_32) (pe := 133) rfl (by decide +kernel) ?_
    simp only [kph_L_area_32, w_ic, w_ire, trg, true_and, and_true, Nat.reduceAdd, Nat.reduceSub, eq_self]
    exact ⟨⟨_, rfl⟩, ⟨Nat.le_succ _, Nat.le_refl _⟩, c1, c2⟩
  have nh36 : ∀ (M1 : tM), CK M1 → WE M M1 → tT e (d' + 1) 3842 (36 + 2) [] [] M1 (n + 1) (WQ n M) := by
    intro M1 c1 c2
    refine tblk_p kbl_L_area kbs_L_area (rk := 0) (c := false) (i := 6) rfl 1 2 (P := kph_L_area_36) (pe := 137) rfl (by decide +kernel) ?_
    simp only [kph_L_area_36, w_ic, w_ire, trg, true_and, and_true, Nat.reduceAdd, Nat.reduceSub, eq_self]
    exact ⟨⟨_, rfl⟩, ⟨Nat.le_succ _, Nat.le_refl _⟩, c1, c2⟩
  have nh40 : ∀ (M1 : tM), CK M1 → WE M M1 → tT e (d' + 1) 3842 (40 + 2) [] [] M1 (n + 1) (WQ n M) := by
    intro M1 c1 c2
    refine tblk_p kbl_L_area kbs_L_area (rk := 0) (c := false) (i := 7) rfl 1 2 (P := kph_L_area_40) (pe := 141) rfl (by decide +kernel) ?_
    simp only [kph_L_area_40, w_ic, w_ire, trg, true_and, and_true, Nat.reduceAdd, Nat.reduceSub, eq_self]
    exact ⟨⟨_, rfl⟩, ⟨Nat.le_succ _, Nat.le_refl _⟩, c1, c2⟩
  have nh44 : ∀ (M1 : tM), CK M1 → WE M M1 → tT e (d' + 1) 3842 (44 + 2) [] [] M1 (n + 1) (WQ n M) := by
    intro M1 c1 c2
    refine tblk_p kbl_L_area kbs_L_area (rk := 0) (c := false) (i := 8) rfl 1 2 (P := kph_L_area_44) (pe := 145) rfl (by decide +kernel) ?_
    simp only [kph_L_area_44, w_bi, w_ire, trg, true_and, and_true, Nat.reduceAdd, Nat.reduceSub, eq_self]
    exact ⟨⟨_, rfl⟩, ⟨Nat.le_succ _, Nat.le_refl _⟩, c1, c2⟩
  have nend : ∀ (L : tL) (M1 : tM) (v : Int), CK M1 → WE M M1 → tT e (d' + 1) 3842 49 L [] (tU M1 690 0 v) n (WQ n M) := by
    intro L M1 v c1 c2
    refine tb_L_area_49 (c := false) ?_
    simp only [kb_L_area_49, w_ic, w_ire, trg, true_and, and_true, Nat.reduceAdd, Nat.reduceSub, eq_self]
    exact ⟨⟨_, rfl⟩, ⟨Nat.le_refl _, Nat.le_succ _⟩, CK_690 c1, WE_tr c2 WE_690⟩
  have nst : ∀ (L : tL) (M1 : tM) (v : Int), CK M1 → WE M M1 → tT e (d' + 1) 3842 20 L [.inr (.inl v), .inl 0, .inr (.inr (.inl 690))] M1 n (WQ n M) := by
    intro L M1 v c1 c2
    refine tb_L_area_20 (c := false) ?_
    simp only [kb_L_area_20, w_las, w_goto, true_and, and_true, Nat.reduceAdd, Nat.reduceSub, eq_self, tsw_690, tyw_41, tcw_1]
    exact ⟨by omega, nend _ M1 v c1 c2⟩
  refine tblk_p kbl_L_area kbs_L_area (rk := 0) (c := false) (i := 0) rfl 0 7 (P := kpa_L_area) (pe := 9) rfl (by decide +kernel) ?_
  simp only [kpa_L_area, w_ald5, w_ic, w_ald_0, w_ild_1, w_ild_2, w_ild_3, w_ild4, w_nil, true_and, and_true, Nat.reduceAdd, Nat.reduceSub, eq_self]
  refine tT_catch (pc := 9) (tblk_o kbl_L_area kbs_L_area (i := 0) (j := 7) rfl rfl) rfl sh0a sh0b rfl (kv he.2.2.2 (k_X11_area (b := 0) cl_0 h1 h2 h3 h4 he.1 (by omega) (by omega)) (KA_x (v_area h1 h2 h3 h4 he.2.1 hC.2 hC.1 (by omega))) hC.1) ?_ ?_
  · rintro v M1 n1 ⟨⟨⟨c1, c2⟩, c3⟩, hR⟩
    have c1 : CK M1 := ⟨c1, c3⟩
    have c2 := WE_p c2
    rcases hR with ⟨z, q, rfl, hz⟩ | ⟨s, q, _⟩
    · cases q
      refine tblk_p kbl_L_area kbs_L_area (rk := 0) (c := false) (i := 0) rfl 8 3 (P := kpc_L_area) (pe := 19) rfl (by decide +kernel) ?_
      show wB _ _ _ _ _ _ _ _ [.inl z, .inl 0, .inr (.inr (.inl 690))] _ _ _
      simp only [kpc_L_area, w_if_eq, w_lc1, w_goto, true_and, and_true, Nat.reduceAdd, Nat.reduceSub, eq_self, tsw_690, tyw_41, tcw_1]
      refine ⟨by omega, fun q => ?_, fun q => nst _ M1 1 c1 c2⟩
      refine tb_L_area_19 (c := false) ?_
      simp only [kb_L_area_19, w_lc0, w_nil, true_and, and_true, Nat.reduceAdd, Nat.reduceSub, eq_self]
      exact nst _ M1 0 c1 c2
    · cases q
  · rintro x M1 n1 ⟨⟨⟨c1, c2⟩, c3⟩, hR⟩
    have c1 : CK M1 := ⟨c1, c3⟩
    have c2 := WE_p c2
    rcases hR with ⟨z, q, _⟩ | ⟨s, q, rfl, hs⟩
    · cases q
    · cases q
      rcases hs with rfl | rfl | rfl | rfl | rfl | rfl
      all_goals
        first
        | exact ⟨24, _, 6, 2, by decide +kernel, tblk_o kbl_L_area kbs_L_area (i := 3) (j := 0) rfl rfl, rfl, by decide +kernel, nh24 _ c1 c2⟩
        | exact ⟨28, _, 6, 2, by decide +kernel, tblk_o kbl_L_area kbs_L_area (i := 4) (j := 0) rfl rfl, rfl, by decide +kernel, nh28 _ c1 c2⟩
        | exact ⟨32, _, 6, 2, by decide +kernel, tblk_o kbl_L_area kbs_L_area (i := 5) (j := 0) rfl rfl, rfl, by decide +kernel, nh32 _ c1 c2⟩
        | exact ⟨36, _, 6, 2, by decide +kernel, tblk_o kbl_L_area kbs_L_area (i := 6) (j := 0) rfl rfl, rfl, by decide +kernel, nh36 _ c1 c2⟩
        | exact ⟨40, _, 6, 2, by decide +kernel, tblk_o kbl_L_area kbs_L_area (i := 7) (j := 0) rfl rfl, rfl, by decide +kernel, nh40 _ c1 c2⟩
        | exact ⟨44, _, 6, 2, by decide +kernel, tblk_o kbl_L_area kbs_L_area (i := 8) (j := 0) rfl rfl, rfl, by decide +kernel, nh44 _ c1 c2⟩
noncomputable def kpa_L_compare : List (Nat × bO) := [(0, .aload_n 3, 0, 0, 0, 0), (1, .iconst 0, 0, 0, 0, 0), (2, .aload_n 0, 0, 0, 0, 0), (3, .iload_n 1, 0, 0, 0, 0), (4, .iload_n 2, 0, 0, 0, 0)]
noncomputable def kpc_L_compare : List (Nat × bO) := [(8, .i2l, 0, 0, 0, 0), (9, .lastore, 0, 0, 0, 0), (10, .goto 11, 0, 21, 0, 0)]
noncomputable def kph_L_compare_13 : List (Nat × bO) := [(15, .iconst 1, 0, 0, 0, 0), (16, .ireturn, 0, 0, 0, 0)]
noncomputable def kph_L_compare_17 : List (Nat × bO) := [(19, .iconst 2, 0, 0, 0, 0), (20, .ireturn, 0, 0, 0, 0)]
theorem lw_compare {p1 p2 : Int} (hC : CK M) (he : EK e) (h1 : -2147483648 ≤ p1 ∧ p1 ≤ 2147483647) (h2 : -2147483648 ≤ p2 ∧ p2 ≤ 2147483647) (hd : 12 ≤ d) : tC e d 3843 [.inr (.inr (.inl 0)), .inl p1, .inl p2, .inr (.inr (.inl 690))] M n (WQ n M) := by
  refine tst_L_compare ?_
  obtain ⟨d', rfl⟩ : ∃ d', d = d' + 1 := ⟨d - 1, by omega⟩
  have nh13 : ∀ (M1 : tM), CK M1 → WE M M1 → tT e (d' + 1) 3843 (13 + 2) [] [] M1 (n + 1) (WQ n M) := by
    intro M1 c1 c2
    refine tblk_p kbl_L_compare kbs_L_compare (rk := 0) (c := false) (i := 1) rfl 1 2 (P := kph_L_compare_13) (pe := 114) rfl (by decide +kernel) ?_
    simp only [kph_L_compare_13, w_ic, w_ire, trg, true_and, and_true, Nat.reduceAdd, Nat.reduceSub, eq_self]
    exact ⟨⟨_, rfl⟩, ⟨Nat.le_succ _, Nat.le_refl _⟩, c1, c2⟩
  have nh17 : ∀ (M1 : tM), CK M1 → WE M M1 → tT e (d' + 1) 3843 (17 + 2) [] [] M1 (n + 1) (WQ n M) := by
    intro M1 c1 c2
    refine tblk_p kbl_L_compare kbs_L_compare (rk := 0) (c := false) (i := 2) rfl 1 2 (P := kph_L_compare_17) (pe := 118) rfl (by decide +kernel) ?_
    simp only [kph_L_compare_17, w_ic, w_ire, trg, true_and, and_true, Nat.reduceAdd, Nat.reduceSub, eq_self]
    exact ⟨⟨_, rfl⟩, ⟨Nat.le_succ _, Nat.le_refl _⟩, c1, c2⟩
  have nend : ∀ (L : tL) (M1 : tM) (v : Int), CK M1 → WE M M1 → tT e (d' + 1) 3843 21 L [] (tU M1 690 0 v) n (WQ n M) := by
    intro L M1 v c1 c2
    refine tb_L_compare_21 (c := false) ?_
    simp only [kb_L_compare_21, w_ic, w_ire, trg, true_and, and_true, Nat.reduceAdd, Nat.reduceSub, eq_self]
    exact ⟨⟨_, rfl⟩, ⟨Nat.le_refl _, Nat.le_succ _⟩, CK_690 c1, WE_tr c2 WE_690⟩
  refine tblk_p kbl_L_compare kbs_L_compare (rk := 0) (c := false) (i := 0) rfl 0 5 (P := kpa_L_compare) (pe := 5) rfl (by decide +kernel) ?_
  simp only [kpa_L_compare, w_ald_3, w_ic, w_ald_0, w_ild_1, w_ild_2, w_nil, true_and, and_true, Nat.reduceAdd, Nat.reduceSub, eq_self]
  refine tT_catch (pc := 5) (tblk_o kbl_L_compare kbs_L_compare (i := 0) (j := 5) rfl rfl) rfl sh0a sh0b rfl (kv he.2.2.2 (k_X11_compare (b := 0) cl_0 h1 h2 (by omega)) (u_compare h1 h2 hC.2 hC.1 (by omega)) hC.1) ?_ ?_
  · rintro v M1 n1 ⟨⟨⟨c1, c2⟩, c3⟩, hR⟩
    have c1 : CK M1 := ⟨c1, c3⟩
    have c2 := WE_p c2
    rcases hR with ⟨z, q, rfl, hz⟩ | ⟨s, q, _⟩
    · cases q
      refine tblk_p kbl_L_compare kbs_L_compare (rk := 0) (c := false) (i := 0) rfl 6 3 (P := kpc_L_compare) (pe := 13) rfl (by decide +kernel) ?_
      show wB _ _ _ _ _ _ _ _ [.inl z, .inl 0, .inr (.inr (.inl 690))] _ _ _
      simp only [kpc_L_compare, w_i2l, w_las, w_goto, true_and, and_true, Nat.reduceAdd, Nat.reduceSub, eq_self, tsw_690, tyw_41, tcw_1]
      exact ⟨by omega, by omega, nend _ M1 z c1 c2⟩
    · cases q
  · rintro x M1 n1 ⟨⟨⟨c1, c2⟩, c3⟩, hR⟩
    have c1 : CK M1 := ⟨c1, c3⟩
    have c2 := WE_p c2
    rcases hR with ⟨z, q, _⟩ | ⟨s, q, rfl, hs⟩
    · cases q
    · cases q
      rcases hs with rfl | rfl
      all_goals
        first
        | exact ⟨13, _, 4, 2, by decide +kernel, tblk_o kbl_L_compare kbs_L_compare (i := 1) (j := 0) rfl rfl, rfl, by decide +kernel, nh13 _ c1 c2⟩
        | exact ⟨17, _, 4, 2, by decide +kernel, tblk_o kbl_L_compare kbs_L_compare (i := 2) (j := 0) rfl rfl, rfl, by decide +kernel, nh17 _ c1 c2⟩
noncomputable def kpa_L_constant : List (Nat × bO) := [(0, .aload_n 3, 0, 0, 0, 0), (1, .iconst 0, 0, 0, 0, 0), (2, .aload_n 0, 0, 0, 0, 0), (3, .iload_n 1, 0, 0, 0, 0), (4, .iload_n 2, 0, 0, 0, 0)]
noncomputable def kpc_L_constant : List (Nat × bO) := [(8, .ifCond .eq 7, 0, 15, 0, 0), (11, .lconst 1, 0, 0, 0, 0), (12, .goto 4, 0, 16, 0, 0)]
noncomputable def kph_L_constant_20 : List (Nat × bO) := [(22, .iconst 1, 0, 0, 0, 0), (23, .ireturn, 0, 0, 0, 0)]
noncomputable def kph_L_constant_24 : List (Nat × bO) := [(26, .iconst 2, 0, 0, 0, 0), (27, .ireturn, 0, 0, 0, 0)]
theorem lw_constant {p1 p2 : Int} (hC : CK M) (he : EK e) (h1 : -2147483648 ≤ p1 ∧ p1 ≤ 2147483647) (h2 : 0 ≤ p2 ∧ p2 ≤ 65535) (hd : 12 ≤ d) : tC e d 3844 [.inr (.inr (.inl 0)), .inl p1, .inl p2, .inr (.inr (.inl 690))] M n (WQ n M) := by
  refine tst_L_constant ?_
  obtain ⟨d', rfl⟩ : ∃ d', d = d' + 1 := ⟨d - 1, by omega⟩
  have nh20 : ∀ (M1 : tM), CK M1 → WE M M1 → tT e (d' + 1) 3844 (20 + 2) [] [] M1 (n + 1) (WQ n M) := by
    intro M1 c1 c2
    refine tblk_p kbl_L_constant kbs_L_constant (rk := 0) (c := false) (i := 3) rfl 1 2 (P := kph_L_constant_20) (pe := 121) rfl (by decide +kernel) ?_
    simp only [kph_L_constant_20, w_ic, w_ire, trg, true_and, and_true, Nat.reduceAdd, Nat.reduceSub, eq_self]
    exact ⟨⟨_, rfl⟩, ⟨Nat.le_succ _, Nat.le_refl _⟩, c1, c2⟩
  have nh24 : ∀ (M1 : tM), CK M1 → WE M M1 → tT e (d' + 1) 3844 (24 + 2) [] [] M1 (n + 1) (WQ n M) := by
    intro M1 c1 c2
    refine tblk_p kbl_L_constant kbs_L_constant (rk := 0) (c := false) (i := 4) rfl 1 2 (P := kph_L_constant_24) (pe := 125) rfl (by decide +kernel) ?_
    simp only [kph_L_constant_24, w_ic, w_ire, trg, true_and, and_true, Nat.reduceAdd, Nat.reduceSub, eq_self]
    exact ⟨⟨_, rfl⟩, ⟨Nat.le_succ _, Nat.le_refl _⟩, c1, c2⟩
  have nend : ∀ (L : tL) (M1 : tM) (v : Int), CK M1 → WE M M1 → tT e (d' + 1) 3844 28 L [] (tU M1 690 0 v) n (WQ n M) := by
    intro L M1 v c1 c2
    refine tb_L_constant_28 (c := false) ?_
    simp only [kb_L_constant_28, w_ic, w_ire, trg, true_and, and_true, Nat.reduceAdd, Nat.reduceSub, eq_self]
    exact ⟨⟨_, rfl⟩, ⟨Nat.le_refl _, Nat.le_succ _⟩, CK_690 c1, WE_tr c2 WE_690⟩
  have nst : ∀ (L : tL) (M1 : tM) (v : Int), CK M1 → WE M M1 → tT e (d' + 1) 3844 16 L [.inr (.inl v), .inl 0, .inr (.inr (.inl 690))] M1 n (WQ n M) := by
    intro L M1 v c1 c2
    refine tb_L_constant_16 (c := false) ?_
    simp only [kb_L_constant_16, w_las, w_goto, true_and, and_true, Nat.reduceAdd, Nat.reduceSub, eq_self, tsw_690, tyw_41, tcw_1]
    exact ⟨by omega, nend _ M1 v c1 c2⟩
  refine tblk_p kbl_L_constant kbs_L_constant (rk := 0) (c := false) (i := 0) rfl 0 5 (P := kpa_L_constant) (pe := 5) rfl (by decide +kernel) ?_
  simp only [kpa_L_constant, w_ald_3, w_ic, w_ald_0, w_ild_1, w_ild_2, w_nil, true_and, and_true, Nat.reduceAdd, Nat.reduceSub, eq_self]
  refine tT_catch (pc := 5) (tblk_o kbl_L_constant kbs_L_constant (i := 0) (j := 5) rfl rfl) rfl sh0a sh0b rfl (kv he.2.2.2 (k_X11_constant_0 (b := 0) cl_0 h1 h2 (by omega) (by omega)) (KA_x (v_constant h1 h2 he.2.1 hC.2 hC.1 (by omega))) hC.1) ?_ ?_
  · rintro v M1 n1 ⟨⟨⟨c1, c2⟩, c3⟩, hR⟩
    have c1 : CK M1 := ⟨c1, c3⟩
    have c2 := WE_p c2
    rcases hR with ⟨z, q, rfl, hz⟩ | ⟨s, q, _⟩
    · cases q
      refine tblk_p kbl_L_constant kbs_L_constant (rk := 0) (c := false) (i := 0) rfl 6 3 (P := kpc_L_constant) (pe := 15) rfl (by decide +kernel) ?_
      show wB _ _ _ _ _ _ _ _ [.inl z, .inl 0, .inr (.inr (.inl 690))] _ _ _
      simp only [kpc_L_constant, w_if_eq, w_lc1, w_goto, true_and, and_true, Nat.reduceAdd, Nat.reduceSub, eq_self, tsw_690, tyw_41, tcw_1]
      refine ⟨by omega, fun q => ?_, fun q => nst _ M1 1 c1 c2⟩
      refine tb_L_constant_15 (c := false) ?_
      simp only [kb_L_constant_15, w_lc0, w_nil, true_and, and_true, Nat.reduceAdd, Nat.reduceSub, eq_self]
      exact nst _ M1 0 c1 c2
    · cases q
  · rintro x M1 n1 ⟨⟨⟨c1, c2⟩, c3⟩, hR⟩
    have c1 : CK M1 := ⟨c1, c3⟩
    have c2 := WE_p c2
    rcases hR with ⟨z, q, _⟩ | ⟨s, q, rfl, hs⟩
    · cases q
    · cases q
      rcases hs with rfl | rfl
      all_goals
        first
        | exact ⟨20, _, 4, 2, by decide +kernel, tblk_o kbl_L_constant kbs_L_constant (i := 3) (j := 0) rfl rfl, rfl, by decide +kernel, nh20 _ c1 c2⟩
        | exact ⟨24, _, 4, 2, by decide +kernel, tblk_o kbl_L_constant kbs_L_constant (i := 4) (j := 0) rfl rfl, rfl, by decide +kernel, nh24 _ c1 c2⟩
noncomputable def kpa_L_decide : List (Nat × bO) := [(0, .aload 4, 0, 0, 0, 0), (2, .iconst 0, 0, 0, 0, 0), (3, .aload_n 0, 0, 0, 0, 0), (4, .iload_n 1, 0, 0, 0, 0), (5, .iload_n 2, 0, 0, 0, 0), (6, .iload_n 3, 0, 0, 0, 0)]
noncomputable def kpc_L_decide : List (Nat × bO) := [(10, .i2l, 0, 0, 0, 0), (11, .lastore, 0, 0, 0, 0), (12, .goto 11, 0, 23, 0, 0)]
noncomputable def kph_L_decide_15 : List (Nat × bO) := [(17, .iconst 1, 0, 0, 0, 0), (18, .ireturn, 0, 0, 0, 0)]
noncomputable def kph_L_decide_19 : List (Nat × bO) := [(21, .iconst 2, 0, 0, 0, 0), (22, .ireturn, 0, 0, 0, 0)]
theorem lw_decide {p1 p2 p3 : Int} (hC : CK M) (he : EK e) (h1 : -2147483648 ≤ p1 ∧ p1 ≤ 2147483647) (h2 : -2147483648 ≤ p2 ∧ p2 ≤ 2147483647) (h3 : -2147483648 ≤ p3 ∧ p3 ≤ 2147483647) (hd : 12 ≤ d) : tC e d 3845 [.inr (.inr (.inl 0)), .inl p1, .inl p2, .inl p3, .inr (.inr (.inl 690))] M n (WQ n M) := by
  refine tst_L_decide ?_
  obtain ⟨d', rfl⟩ : ∃ d', d = d' + 1 := ⟨d - 1, by omega⟩
  have nh15 : ∀ (M1 : tM), CK M1 → WE M M1 → tT e (d' + 1) 3845 (15 + 2) [] [] M1 (n + 1) (WQ n M) := by
    intro M1 c1 c2
    refine tblk_p kbl_L_decide kbs_L_decide (rk := 0) (c := false) (i := 1) rfl 1 2 (P := kph_L_decide_15) (pe := 116) rfl (by decide +kernel) ?_
    simp only [kph_L_decide_15, w_ic, w_ire, trg, true_and, and_true, Nat.reduceAdd, Nat.reduceSub, eq_self]
    exact ⟨⟨_, rfl⟩, ⟨Nat.le_succ _, Nat.le_refl _⟩, c1, c2⟩
  have nh19 : ∀ (M1 : tM), CK M1 → WE M M1 → tT e (d' + 1) 3845 (19 + 2) [] [] M1 (n + 1) (WQ n M) := by
    intro M1 c1 c2
    refine tblk_p kbl_L_decide kbs_L_decide (rk := 0) (c := false) (i := 2) rfl 1 2 (P := kph_L_decide_19) (pe := 120) rfl (by decide +kernel) ?_
    simp only [kph_L_decide_19, w_ic, w_ire, trg, true_and, and_true, Nat.reduceAdd, Nat.reduceSub, eq_self]
    exact ⟨⟨_, rfl⟩, ⟨Nat.le_succ _, Nat.le_refl _⟩, c1, c2⟩
  have nend : ∀ (L : tL) (M1 : tM) (v : Int), CK M1 → WE M M1 → tT e (d' + 1) 3845 23 L [] (tU M1 690 0 v) n (WQ n M) := by
    intro L M1 v c1 c2
    refine tb_L_decide_23 (c := false) ?_
    simp only [kb_L_decide_23, w_ic, w_ire, trg, true_and, and_true, Nat.reduceAdd, Nat.reduceSub, eq_self]
    exact ⟨⟨_, rfl⟩, ⟨Nat.le_refl _, Nat.le_succ _⟩, CK_690 c1, WE_tr c2 WE_690⟩
  refine tblk_p kbl_L_decide kbs_L_decide (rk := 0) (c := false) (i := 0) rfl 0 6 (P := kpa_L_decide) (pe := 7) rfl (by decide +kernel) ?_
  simp only [kpa_L_decide, w_ald4, w_ic, w_ald_0, w_ild_1, w_ild_2, w_ild_3, w_nil, true_and, and_true, Nat.reduceAdd, Nat.reduceSub, eq_self]
  refine tT_catch (pc := 7) (tblk_o kbl_L_decide kbs_L_decide (i := 0) (j := 6) rfl rfl) rfl sh0a sh0b rfl (tC_mix he.2.2.2 (tC_mono (q_decide (CK_U hC) h1 h2 h3 he.1 hC.1 (by omega)) (fun _ _ _ q => q.2)) (KA_x (v_decide h1 h2 h3 he.2.1 hC.2 hC.1 (by omega)))) ?_ ?_
  · rintro v M1 n1 ⟨⟨⟨c1, c2⟩, c3⟩, hR⟩
    have c1 : CK M1 := ⟨c1, c3⟩
    have c2 := WE_p c2
    rcases hR with ⟨z, q, rfl, hz⟩ | ⟨s, q, _⟩
    · cases q
      refine tblk_p kbl_L_decide kbs_L_decide (rk := 0) (c := false) (i := 0) rfl 7 3 (P := kpc_L_decide) (pe := 15) rfl (by decide +kernel) ?_
      show wB _ _ _ _ _ _ _ _ [.inl z, .inl 0, .inr (.inr (.inl 690))] _ _ _
      simp only [kpc_L_decide, w_i2l, w_las, w_goto, true_and, and_true, Nat.reduceAdd, Nat.reduceSub, eq_self, tsw_690, tyw_41, tcw_1]
      exact ⟨by omega, by omega, nend _ M1 z c1 c2⟩
    · cases q
  · rintro x M1 n1 ⟨⟨⟨c1, c2⟩, c3⟩, hR⟩
    have c1 : CK M1 := ⟨c1, c3⟩
    have c2 := WE_p c2
    rcases hR with ⟨z, q, _⟩ | ⟨s, q, rfl, hs⟩
    · cases q
    · cases q
      rcases hs with rfl | rfl
      all_goals
        first
        | exact ⟨15, _, 5, 2, by decide +kernel, tblk_o kbl_L_decide kbs_L_decide (i := 1) (j := 0) rfl rfl, rfl, by decide +kernel, nh15 _ c1 c2⟩
        | exact ⟨19, _, 5, 2, by decide +kernel, tblk_o kbl_L_decide kbs_L_decide (i := 2) (j := 0) rfl rfl, rfl, by decide +kernel, nh19 _ c1 c2⟩
noncomputable def kpa_L_define : List (Nat × bO) := [(0, .aload_n 2, 0, 0, 0, 0), (1, .iconst 0, 0, 0, 0, 0), (2, .aload_n 0, 0, 0, 0, 0), (3, .iload_n 1, 0, 0, 0, 0)]
noncomputable def kpc_L_define : List (Nat × bO) := [(7, .i2l, 0, 0, 0, 0), (8, .lastore, 0, 0, 0, 0), (9, .goto 6, 0, 15, 0, 0)]
noncomputable def kph_L_define_12 : List (Nat × bO) := [(13, .iconst 1, 0, 0, 0, 0), (14, .ireturn, 0, 0, 0, 0)]
theorem lw_define {p1 : Int} (hC : CK M) (he : EK e) (h1 : -2147483648 ≤ p1 ∧ p1 ≤ 2147483647) (hd : 12 ≤ d) : tC e d 3846 [.inr (.inr (.inl 0)), .inl p1, .inr (.inr (.inl 690))] M n (WQ n M) := by
  refine tst_L_define ?_
  obtain ⟨d', rfl⟩ : ∃ d', d = d' + 1 := ⟨d - 1, by omega⟩
  have nh12 : ∀ (M1 : tM), CK M1 → WE M M1 → tT e (d' + 1) 3846 (12 + 1) [] [] M1 (n + 1) (WQ n M) := by
    intro M1 c1 c2
    refine tblk_p kbl_L_define kbs_L_define (rk := 0) (c := false) (i := 1) rfl 1 2 (P := kph_L_define_12) (pe := 112) rfl (by decide +kernel) ?_
    simp only [kph_L_define_12, w_ic, w_ire, trg, true_and, and_true, Nat.reduceAdd, Nat.reduceSub, eq_self]
    exact ⟨⟨_, rfl⟩, ⟨Nat.le_succ _, Nat.le_refl _⟩, c1, c2⟩
  have nend : ∀ (L : tL) (M1 : tM) (v : Int), CK M1 → WE M M1 → tT e (d' + 1) 3846 15 L [] (tU M1 690 0 v) n (WQ n M) := by
    intro L M1 v c1 c2
    refine tb_L_define_15 (c := false) ?_
    simp only [kb_L_define_15, w_ic, w_ire, trg, true_and, and_true, Nat.reduceAdd, Nat.reduceSub, eq_self]
    exact ⟨⟨_, rfl⟩, ⟨Nat.le_refl _, Nat.le_succ _⟩, CK_690 c1, WE_tr c2 WE_690⟩
  refine tblk_p kbl_L_define kbs_L_define (rk := 0) (c := false) (i := 0) rfl 0 4 (P := kpa_L_define) (pe := 4) rfl (by decide +kernel) ?_
  simp only [kpa_L_define, w_ald_2, w_ic, w_ald_0, w_ild_1, w_nil, true_and, and_true, Nat.reduceAdd, Nat.reduceSub, eq_self]
  refine tT_catch (pc := 4) (tblk_o kbl_L_define kbs_L_define (i := 0) (j := 4) rfl rfl) rfl sh0a sh0b rfl (kv he.2.2.2 (k_X11_define (b := 0) cl_0 h1 (by omega) (by omega)) (KA_x (v_define h1 hC.2 hC.1 (by omega))) hC.1) ?_ ?_
  · rintro v M1 n1 ⟨⟨⟨c1, c2⟩, c3⟩, hR⟩
    have c1 : CK M1 := ⟨c1, c3⟩
    have c2 := WE_p c2
    rcases hR with ⟨z, q, rfl, hz⟩ | ⟨s, q, _⟩
    · cases q
      refine tblk_p kbl_L_define kbs_L_define (rk := 0) (c := false) (i := 0) rfl 5 3 (P := kpc_L_define) (pe := 12) rfl (by decide +kernel) ?_
      show wB _ _ _ _ _ _ _ _ [.inl z, .inl 0, .inr (.inr (.inl 690))] _ _ _
      simp only [kpc_L_define, w_i2l, w_las, w_goto, true_and, and_true, Nat.reduceAdd, Nat.reduceSub, eq_self, tsw_690, tyw_41, tcw_1]
      exact ⟨by omega, by omega, nend _ M1 z c1 c2⟩
    · cases q
  · rintro x M1 n1 ⟨⟨⟨c1, c2⟩, c3⟩, hR⟩
    have c1 : CK M1 := ⟨c1, c3⟩
    have c2 := WE_p c2
    rcases hR with ⟨z, q, _⟩ | ⟨s, q, rfl, hs⟩
    · cases q
    · cases q
      subst hs
      first
      | exact ⟨12, _, 3, 1, by decide +kernel, tblk_o kbl_L_define kbs_L_define (i := 1) (j := 0) rfl rfl, rfl, by decide +kernel, nh12 _ c1 c2⟩
noncomputable def kpa_L_divide : List (Nat × bO) := [(0, .aload 4, 0, 0, 0, 0), (2, .iconst 0, 0, 0, 0, 0), (3, .aload_n 0, 0, 0, 0, 0), (4, .iload_n 1, 0, 0, 0, 0), (5, .iload_n 2, 0, 0, 0, 0), (6, .iload_n 3, 0, 0, 0, 0)]
noncomputable def kpc_L_divide : List (Nat × bO) := [(10, .ifCond .eq 7, 0, 17, 0, 0), (13, .lconst 1, 0, 0, 0, 0), (14, .goto 4, 0, 18, 0, 0)]
noncomputable def kph_L_divide_22 : List (Nat × bO) := [(24, .iconst 1, 0, 0, 0, 0), (25, .ireturn, 0, 0, 0, 0)]
noncomputable def kph_L_divide_26 : List (Nat × bO) := [(28, .iconst 2, 0, 0, 0, 0), (29, .ireturn, 0, 0, 0, 0)]
noncomputable def kph_L_divide_30 : List (Nat × bO) := [(32, .iconst 3, 0, 0, 0, 0), (33, .ireturn, 0, 0, 0, 0)]
noncomputable def kph_L_divide_34 : List (Nat × bO) := [(36, .iconst 4, 0, 0, 0, 0), (37, .ireturn, 0, 0, 0, 0)]
theorem lw_divide {p1 p2 p3 : Int} (hC : CK M) (he : EK e) (h1 : -2147483648 ≤ p1 ∧ p1 ≤ 2147483647) (h2 : -2147483648 ≤ p2 ∧ p2 ≤ 2147483647) (h3 : -2147483648 ≤ p3 ∧ p3 ≤ 2147483647) (hd : 12 ≤ d) : tC e d 3847 [.inr (.inr (.inl 0)), .inl p1, .inl p2, .inl p3, .inr (.inr (.inl 690))] M n (WQ n M) := by
  refine tst_L_divide ?_
  obtain ⟨d', rfl⟩ : ∃ d', d = d' + 1 := ⟨d - 1, by omega⟩
  have nh22 : ∀ (M1 : tM), CK M1 → WE M M1 → tT e (d' + 1) 3847 (22 + 2) [] [] M1 (n + 1) (WQ n M) := by
    intro M1 c1 c2
    refine tblk_p kbl_L_divide kbs_L_divide (rk := 0) (c := false) (i := 3) rfl 1 2 (P := kph_L_divide_22) (pe := 123) rfl (by decide +kernel) ?_
    simp only [kph_L_divide_22, w_ic, w_ire, trg, true_and, and_true, Nat.reduceAdd, Nat.reduceSub, eq_self]
    exact ⟨⟨_, rfl⟩, ⟨Nat.le_succ _, Nat.le_refl _⟩, c1, c2⟩
  have nh26 : ∀ (M1 : tM), CK M1 → WE M M1 → tT e (d' + 1) 3847 (26 + 2) [] [] M1 (n + 1) (WQ n M) := by
    intro M1 c1 c2
    refine tblk_p kbl_L_divide kbs_L_divide (rk := 0) (c := false) (i := 4) rfl 1 2 (P := kph_L_divide_26) (pe := 127) rfl (by decide +kernel) ?_
    simp only [kph_L_divide_26, w_ic, w_ire, trg, true_and, and_true, Nat.reduceAdd, Nat.reduceSub, eq_self]
    exact ⟨⟨_, rfl⟩, ⟨Nat.le_succ _, Nat.le_refl _⟩, c1, c2⟩
  have nh30 : ∀ (M1 : tM), CK M1 → WE M M1 → tT e (d' + 1) 3847 (30 + 2) [] [] M1 (n + 1) (WQ n M) := by
    intro M1 c1 c2
    refine tblk_p kbl_L_divide kbs_L_divide (rk := 0) (c := false) (i := 5) rfl 1 2 (P := kph_L_divide_30) (pe := 131) rfl (by decide +kernel) ?_
    simp only [kph_L_divide_30, w_ic, w_ire, trg, true_and, and_true, Nat.reduceAdd, Nat.reduceSub, eq_self]
    exact ⟨⟨_, rfl⟩, ⟨Nat.le_succ _, Nat.le_refl _⟩, c1, c2⟩
  have nh34 : ∀ (M1 : tM), CK M1 → WE M M1 → tT e (d' + 1) 3847 (34 + 2) [] [] M1 (n + 1) (WQ n M) := by
    intro M1 c1 c2
    refine tblk_p kbl_L_divide kbs_L_divide (rk := 0) (c := false) (i := 6) rfl 1 2 (P := kph_L_divide_34) (pe := 135) rfl (by decide +kernel) ?_
    simp only [kph_L_divide_34, w_ic, w_ire, trg, true_and, and_true, Nat.reduceAdd, Nat.reduceSub, eq_self]
    exact ⟨⟨_, rfl⟩, ⟨Nat.le_succ _, Nat.le_refl _⟩, c1, c2⟩
  have nend : ∀ (L : tL) (M1 : tM) (v : Int), CK M1 → WE M M1 → tT e (d' + 1) 3847 38 L [] (tU M1 690 0 v) n (WQ n M) := by
    intro L M1 v c1 c2
    refine tb_L_divide_38 (c := false) ?_
    simp only [kb_L_divide_38, w_ic, w_ire, trg, true_and, and_true, Nat.reduceAdd, Nat.reduceSub, eq_self]
    exact ⟨⟨_, rfl⟩, ⟨Nat.le_refl _, Nat.le_succ _⟩, CK_690 c1, WE_tr c2 WE_690⟩
  have nst : ∀ (L : tL) (M1 : tM) (v : Int), CK M1 → WE M M1 → tT e (d' + 1) 3847 18 L [.inr (.inl v), .inl 0, .inr (.inr (.inl 690))] M1 n (WQ n M) := by
    intro L M1 v c1 c2
    refine tb_L_divide_18 (c := false) ?_
    simp only [kb_L_divide_18, w_las, w_goto, true_and, and_true, Nat.reduceAdd, Nat.reduceSub, eq_self, tsw_690, tyw_41, tcw_1]
    exact ⟨by omega, nend _ M1 v c1 c2⟩
  refine tblk_p kbl_L_divide kbs_L_divide (rk := 0) (c := false) (i := 0) rfl 0 6 (P := kpa_L_divide) (pe := 7) rfl (by decide +kernel) ?_
  simp only [kpa_L_divide, w_ald4, w_ic, w_ald_0, w_ild_1, w_ild_2, w_ild_3, w_nil, true_and, and_true, Nat.reduceAdd, Nat.reduceSub, eq_self]
  refine tT_catch (pc := 7) (tblk_o kbl_L_divide kbs_L_divide (i := 0) (j := 6) rfl rfl) rfl sh0a sh0b rfl (kv he.2.2.2 (k_X11_divide (b := 0) cl_0 h1 h2 h3 he.1 (by omega) (by omega)) (KA_x (v_divide h1 h2 h3 he.2.1 hC.2 hC.1 (by omega))) hC.1) ?_ ?_
  · rintro v M1 n1 ⟨⟨⟨c1, c2⟩, c3⟩, hR⟩
    have c1 : CK M1 := ⟨c1, c3⟩
    have c2 := WE_p c2
    rcases hR with ⟨z, q, rfl, hz⟩ | ⟨s, q, _⟩
    · cases q
      refine tblk_p kbl_L_divide kbs_L_divide (rk := 0) (c := false) (i := 0) rfl 7 3 (P := kpc_L_divide) (pe := 17) rfl (by decide +kernel) ?_
      show wB _ _ _ _ _ _ _ _ [.inl z, .inl 0, .inr (.inr (.inl 690))] _ _ _
      simp only [kpc_L_divide, w_if_eq, w_lc1, w_goto, true_and, and_true, Nat.reduceAdd, Nat.reduceSub, eq_self, tsw_690, tyw_41, tcw_1]
      refine ⟨by omega, fun q => ?_, fun q => nst _ M1 1 c1 c2⟩
      refine tb_L_divide_17 (c := false) ?_
      simp only [kb_L_divide_17, w_lc0, w_nil, true_and, and_true, Nat.reduceAdd, Nat.reduceSub, eq_self]
      exact nst _ M1 0 c1 c2
    · cases q
  · rintro x M1 n1 ⟨⟨⟨c1, c2⟩, c3⟩, hR⟩
    have c1 : CK M1 := ⟨c1, c3⟩
    have c2 := WE_p c2
    rcases hR with ⟨z, q, _⟩ | ⟨s, q, rfl, hs⟩
    · cases q
    · cases q
      rcases hs with rfl | rfl | rfl | rfl
      all_goals
        first
        | exact ⟨22, _, 5, 2, by decide +kernel, tblk_o kbl_L_divide kbs_L_divide (i := 3) (j := 0) rfl rfl, rfl, by decide +kernel, nh22 _ c1 c2⟩
        | exact ⟨26, _, 5, 2, by decide +kernel, tblk_o kbl_L_divide kbs_L_divide (i := 4) (j := 0) rfl rfl, rfl, by decide +kernel, nh26 _ c1 c2⟩
        | exact ⟨30, _, 5, 2, by decide +kernel, tblk_o kbl_L_divide kbs_L_divide (i := 5) (j := 0) rfl rfl, rfl, by decide +kernel, nh30 _ c1 c2⟩
        | exact ⟨34, _, 5, 2, by decide +kernel, tblk_o kbl_L_divide kbs_L_divide (i := 6) (j := 0) rfl rfl, rfl, by decide +kernel, nh34 _ c1 c2⟩
noncomputable def kpa_L_greatest : List (Nat × bO) := [(0, .aload 5, 0, 0, 0, 0), (2, .iconst 0, 0, 0, 0, 0), (3, .aload_n 0, 0, 0, 0, 0), (4, .iload_n 1, 0, 0, 0, 0), (5, .iload_n 2, 0, 0, 0, 0), (6, .iload_n 3, 0, 0, 0, 0), (7, .iload 4, 0, 0, 0, 0)]
noncomputable def kpc_L_greatest : List (Nat × bO) := [(12, .ifCond .eq 7, 0, 19, 0, 0), (15, .lconst 1, 0, 0, 0, 0), (16, .goto 4, 0, 20, 0, 0)]
noncomputable def kph_L_greatest_24 : List (Nat × bO) := [(26, .iconst 1, 0, 0, 0, 0), (27, .ireturn, 0, 0, 0, 0)]
noncomputable def kph_L_greatest_28 : List (Nat × bO) := [(30, .iconst 2, 0, 0, 0, 0), (31, .ireturn, 0, 0, 0, 0)]
noncomputable def kph_L_greatest_32 : List (Nat × bO) := [(34, .iconst 3, 0, 0, 0, 0), (35, .ireturn, 0, 0, 0, 0)]
noncomputable def kph_L_greatest_36 : List (Nat × bO) := [(38, .iconst 4, 0, 0, 0, 0), (39, .ireturn, 0, 0, 0, 0)]
noncomputable def kph_L_greatest_40 : List (Nat × bO) := [(42, .iconst 5, 0, 0, 0, 0), (43, .ireturn, 0, 0, 0, 0)]
noncomputable def kph_L_greatest_44 : List (Nat × bO) := [(46, .bipush 6, 0, 0, 0, 0), (48, .ireturn, 0, 0, 0, 0)]
theorem lw_greatest {p1 p2 p3 p4 : Int} (hC : CK M) (he : EK e) (h1 : -2147483648 ≤ p1 ∧ p1 ≤ 2147483647) (h2 : -2147483648 ≤ p2 ∧ p2 ≤ 2147483647) (h3 : -2147483648 ≤ p3 ∧ p3 ≤ 2147483647) (h4 : -2147483648 ≤ p4 ∧ p4 ≤ 2147483647) (hd : 12 ≤ d) : tC e d 3848 [.inr (.inr (.inl 0)), .inl p1, .inl p2, .inl p3, .inl p4, .inr (.inr (.inl 690))] M n (WQ n M) := by
  refine tst_L_greatest ?_
  obtain ⟨d', rfl⟩ : ∃ d', d = d' + 1 := ⟨d - 1, by omega⟩
  have nh24 : ∀ (M1 : tM), CK M1 → WE M M1 → tT e (d' + 1) 3848 (24 + 2) [] [] M1 (n + 1) (WQ n M) := by
    intro M1 c1 c2
    refine tblk_p kbl_L_greatest kbs_L_greatest (rk := 0) (c := false) (i := 3) rfl 1 2 (P := kph_L_greatest_24) (pe := 125) rfl (by decide +kernel) ?_
    simp only [kph_L_greatest_24, w_ic, w_ire, trg, true_and, and_true, Nat.reduceAdd, Nat.reduceSub, eq_self]
    exact ⟨⟨_, rfl⟩, ⟨Nat.le_succ _, Nat.le_refl _⟩, c1, c2⟩
  have nh28 : ∀ (M1 : tM), CK M1 → WE M M1 → tT e (d' + 1) 3848 (28 + 2) [] [] M1 (n + 1) (WQ n M) := by
    intro M1 c1 c2
    refine tblk_p kbl_L_greatest kbs_L_greatest (rk := 0) (c := false) (i := 4) rfl 1 2 (P := kph_L_greatest_28) (pe := 129) rfl (by decide +kernel) ?_
    simp only [kph_L_greatest_28, w_ic, w_ire, trg, true_and, and_true, Nat.reduceAdd, Nat.reduceSub, eq_self]
    exact ⟨⟨_, rfl⟩, ⟨Nat.le_succ _, Nat.le_refl _⟩, c1, c2⟩
  have nh32 : ∀ (M1 : tM), CK M1 → WE M M1 → tT e (d' + 1) 3848 (32 + 2) [] [] M1 (n + 1) (WQ n M) := by
    intro M1 c1 c2
    refine tblk_p kbl_L_greatest kbs_L_greatest (rk := 0) (c := false) (i := 5) rfl 1 2 (P := kph_L_greatest_32) (pe := 133) rfl (by decide +kernel) ?_
    simp only [kph_L_greatest_32, w_ic, w_ire, trg, true_and, and_true, Nat.reduceAdd, Nat.reduceSub, eq_self]
    exact ⟨⟨_, rfl⟩, ⟨Nat.le_succ _, Nat.le_refl _⟩, c1, c2⟩
  have nh36 : ∀ (M1 : tM), CK M1 → WE M M1 → tT e (d' + 1) 3848 (36 + 2) [] [] M1 (n + 1) (WQ n M) := by
    intro M1 c1 c2
    refine tblk_p kbl_L_greatest kbs_L_greatest (rk := 0) (c := false) (i := 6) rfl 1 2 (P := kph_L_greatest_36) (pe := 137) rfl (by decide +kernel) ?_
    simp only [kph_L_greatest_36, w_ic, w_ire, trg, true_and, and_true, Nat.reduceAdd, Nat.reduceSub, eq_self]
    exact ⟨⟨_, rfl⟩, ⟨Nat.le_succ _, Nat.le_refl _⟩, c1, c2⟩
  have nh40 : ∀ (M1 : tM), CK M1 → WE M M1 → tT e (d' + 1) 3848 (40 + 2) [] [] M1 (n + 1) (WQ n M) := by
    intro M1 c1 c2
    refine tblk_p kbl_L_greatest kbs_L_greatest (rk := 0) (c := false) (i := 7) rfl 1 2 (P := kph_L_greatest_40) (pe := 141) rfl (by decide +kernel) ?_
    simp only [kph_L_greatest_40, w_ic, w_ire, trg, true_and, and_true, Nat.reduceAdd, Nat.reduceSub, eq_self]
    exact ⟨⟨_, rfl⟩, ⟨Nat.le_succ _, Nat.le_refl _⟩, c1, c2⟩
  have nh44 : ∀ (M1 : tM), CK M1 → WE M M1 → tT e (d' + 1) 3848 (44 + 2) [] [] M1 (n + 1) (WQ n M) := by
    intro M1 c1 c2
    refine tblk_p kbl_L_greatest kbs_L_greatest (rk := 0) (c := false) (i := 8) rfl 1 2 (P := kph_L_greatest_44) (pe := 145) rfl (by decide +kernel) ?_
    simp only [kph_L_greatest_44, w_bi, w_ire, trg, true_and, and_true, Nat.reduceAdd, Nat.reduceSub, eq_self]
    exact ⟨⟨_, rfl⟩, ⟨Nat.le_succ _, Nat.le_refl _⟩, c1, c2⟩
  have nend : ∀ (L : tL) (M1 : tM) (v : Int), CK M1 → WE M M1 → tT e (d' + 1) 3848 49 L [] (tU M1 690 0 v) n (WQ n M) := by
    intro L M1 v c1 c2
    refine tb_L_greatest_49 (c := false) ?_
    simp only [kb_L_greatest_49, w_ic, w_ire, trg, true_and, and_true, Nat.reduceAdd, Nat.reduceSub, eq_self]
    exact ⟨⟨_, rfl⟩, ⟨Nat.le_refl _, Nat.le_succ _⟩, CK_690 c1, WE_tr c2 WE_690⟩
  have nst : ∀ (L : tL) (M1 : tM) (v : Int), CK M1 → WE M M1 → tT e (d' + 1) 3848 20 L [.inr (.inl v), .inl 0, .inr (.inr (.inl 690))] M1 n (WQ n M) := by
    intro L M1 v c1 c2
    refine tb_L_greatest_20 (c := false) ?_
    simp only [kb_L_greatest_20, w_las, w_goto, true_and, and_true, Nat.reduceAdd, Nat.reduceSub, eq_self, tsw_690, tyw_41, tcw_1]
    exact ⟨by omega, nend _ M1 v c1 c2⟩
  refine tblk_p kbl_L_greatest kbs_L_greatest (rk := 0) (c := false) (i := 0) rfl 0 7 (P := kpa_L_greatest) (pe := 9) rfl (by decide +kernel) ?_
  simp only [kpa_L_greatest, w_ald5, w_ic, w_ald_0, w_ild_1, w_ild_2, w_ild_3, w_ild4, w_nil, true_and, and_true, Nat.reduceAdd, Nat.reduceSub, eq_self]
  refine tT_catch (pc := 9) (tblk_o kbl_L_greatest kbs_L_greatest (i := 0) (j := 7) rfl rfl) rfl sh0a sh0b rfl (kv he.2.2.2 (k_X11_greatest (b := 0) cl_0 h1 h2 h3 h4 he.1 (by omega) (by omega)) (KA_x (v_greatest h1 h2 h3 h4 he.2.1 hC.2 hC.1 (by omega))) hC.1) ?_ ?_
  · rintro v M1 n1 ⟨⟨⟨c1, c2⟩, c3⟩, hR⟩
    have c1 : CK M1 := ⟨c1, c3⟩
    have c2 := WE_p c2
    rcases hR with ⟨z, q, rfl, hz⟩ | ⟨s, q, _⟩
    · cases q
      refine tblk_p kbl_L_greatest kbs_L_greatest (rk := 0) (c := false) (i := 0) rfl 8 3 (P := kpc_L_greatest) (pe := 19) rfl (by decide +kernel) ?_
      show wB _ _ _ _ _ _ _ _ [.inl z, .inl 0, .inr (.inr (.inl 690))] _ _ _
      simp only [kpc_L_greatest, w_if_eq, w_lc1, w_goto, true_and, and_true, Nat.reduceAdd, Nat.reduceSub, eq_self, tsw_690, tyw_41, tcw_1]
      refine ⟨by omega, fun q => ?_, fun q => nst _ M1 1 c1 c2⟩
      refine tb_L_greatest_19 (c := false) ?_
      simp only [kb_L_greatest_19, w_lc0, w_nil, true_and, and_true, Nat.reduceAdd, Nat.reduceSub, eq_self]
      exact nst _ M1 0 c1 c2
    · cases q
  · rintro x M1 n1 ⟨⟨⟨c1, c2⟩, c3⟩, hR⟩
    have c1 : CK M1 := ⟨c1, c3⟩
    have c2 := WE_p c2
    rcases hR with ⟨z, q, _⟩ | ⟨s, q, rfl, hs⟩
    · cases q
    · cases q
      rcases hs with rfl | rfl | rfl | rfl | rfl | rfl
      all_goals
        first
        | exact ⟨24, _, 6, 2, by decide +kernel, tblk_o kbl_L_greatest kbs_L_greatest (i := 3) (j := 0) rfl rfl, rfl, by decide +kernel, nh24 _ c1 c2⟩
        | exact ⟨28, _, 6, 2, by decide +kernel, tblk_o kbl_L_greatest kbs_L_greatest (i := 4) (j := 0) rfl rfl, rfl, by decide +kernel, nh28 _ c1 c2⟩
        | exact ⟨32, _, 6, 2, by decide +kernel, tblk_o kbl_L_greatest kbs_L_greatest (i := 5) (j := 0) rfl rfl, rfl, by decide +kernel, nh32 _ c1 c2⟩
        | exact ⟨36, _, 6, 2, by decide +kernel, tblk_o kbl_L_greatest kbs_L_greatest (i := 6) (j := 0) rfl rfl, rfl, by decide +kernel, nh36 _ c1 c2⟩
        | exact ⟨40, _, 6, 2, by decide +kernel, tblk_o kbl_L_greatest kbs_L_greatest (i := 7) (j := 0) rfl rfl, rfl, by decide +kernel, nh40 _ c1 c2⟩
        | exact ⟨44, _, 6, 2, by decide +kernel, tblk_o kbl_L_greatest kbs_L_greatest (i := 8) (j := 0) rfl rfl, rfl, by decide +kernel, nh44 _ c1 c2⟩
noncomputable def kpa_L_hasY : List (Nat × bO) := [(0, .aload_n 2, 0, 0, 0, 0), (1, .iconst 0, 0, 0, 0, 0), (2, .aload_n 0, 0, 0, 0, 0), (3, .iload_n 1, 0, 0, 0, 0)]
noncomputable def kpc_L_hasY : List (Nat × bO) := [(7, .ifCond .eq 7, 0, 14, 0, 0), (10, .lconst 1, 0, 0, 0, 0), (11, .goto 4, 0, 15, 0, 0)]
noncomputable def kph_L_hasY_19 : List (Nat × bO) := [(20, .iconst 1, 0, 0, 0, 0), (21, .ireturn, 0, 0, 0, 0)]
noncomputable def kph_L_hasY_22 : List (Nat × bO) := [(23, .iconst 2, 0, 0, 0, 0), (24, .ireturn, 0, 0, 0, 0)]
theorem lw_hasY {p1 : Int} (hC : CK M) (he : EK e) (h1 : -2147483648 ≤ p1 ∧ p1 ≤ 2147483647) (hd : 12 ≤ d) : tC e d 3849 [.inr (.inr (.inl 0)), .inl p1, .inr (.inr (.inl 690))] M n (WQ n M) := by
  refine tst_L_hasY ?_
  obtain ⟨d', rfl⟩ : ∃ d', d = d' + 1 := ⟨d - 1, by omega⟩
  have nh19 : ∀ (M1 : tM), CK M1 → WE M M1 → tT e (d' + 1) 3849 (19 + 1) [] [] M1 (n + 1) (WQ n M) := by
    intro M1 c1 c2
    refine tblk_p kbl_L_hasY kbs_L_hasY (rk := 0) (c := false) (i := 3) rfl 1 2 (P := kph_L_hasY_19) (pe := 119) rfl (by decide +kernel) ?_
    simp only [kph_L_hasY_19, w_ic, w_ire, trg, true_and, and_true, Nat.reduceAdd, Nat.reduceSub, eq_self]
    exact ⟨⟨_, rfl⟩, ⟨Nat.le_succ _, Nat.le_refl _⟩, c1, c2⟩
  have nh22 : ∀ (M1 : tM), CK M1 → WE M M1 → tT e (d' + 1) 3849 (22 + 1) [] [] M1 (n + 1) (WQ n M) := by
    intro M1 c1 c2
    refine tblk_p kbl_L_hasY kbs_L_hasY (rk := 0) (c := false) (i := 4) rfl 1 2 (P := kph_L_hasY_22) (pe := 122) rfl (by decide +kernel) ?_
    simp only [kph_L_hasY_22, w_ic, w_ire, trg, true_and, and_true, Nat.reduceAdd, Nat.reduceSub, eq_self]
    exact ⟨⟨_, rfl⟩, ⟨Nat.le_succ _, Nat.le_refl _⟩, c1, c2⟩
  have nend : ∀ (L : tL) (M1 : tM) (v : Int), CK M1 → WE M M1 → tT e (d' + 1) 3849 25 L [] (tU M1 690 0 v) n (WQ n M) := by
    intro L M1 v c1 c2
    refine tb_L_hasY_25 (c := false) ?_
    simp only [kb_L_hasY_25, w_ic, w_ire, trg, true_and, and_true, Nat.reduceAdd, Nat.reduceSub, eq_self]
    exact ⟨⟨_, rfl⟩, ⟨Nat.le_refl _, Nat.le_succ _⟩, CK_690 c1, WE_tr c2 WE_690⟩
  have nst : ∀ (L : tL) (M1 : tM) (v : Int), CK M1 → WE M M1 → tT e (d' + 1) 3849 15 L [.inr (.inl v), .inl 0, .inr (.inr (.inl 690))] M1 n (WQ n M) := by
    intro L M1 v c1 c2
    refine tb_L_hasY_15 (c := false) ?_
    simp only [kb_L_hasY_15, w_las, w_goto, true_and, and_true, Nat.reduceAdd, Nat.reduceSub, eq_self, tsw_690, tyw_41, tcw_1]
    exact ⟨by omega, nend _ M1 v c1 c2⟩
  refine tblk_p kbl_L_hasY kbs_L_hasY (rk := 0) (c := false) (i := 0) rfl 0 4 (P := kpa_L_hasY) (pe := 4) rfl (by decide +kernel) ?_
  simp only [kpa_L_hasY, w_ald_2, w_ic, w_ald_0, w_ild_1, w_nil, true_and, and_true, Nat.reduceAdd, Nat.reduceSub, eq_self]
  refine tT_catch (pc := 4) (tblk_o kbl_L_hasY kbs_L_hasY (i := 0) (j := 4) rfl rfl) rfl sh0a sh0b rfl (kv he.2.2.2 (k_X11_hasY (b := 0) cl_0 h1 (by omega)) (u_hasY h1 hC.2 hC.1 (by omega)) hC.1) ?_ ?_
  · rintro v M1 n1 ⟨⟨⟨c1, c2⟩, c3⟩, hR⟩
    have c1 : CK M1 := ⟨c1, c3⟩
    have c2 := WE_p c2
    rcases hR with ⟨z, q, rfl, hz⟩ | ⟨s, q, _⟩
    · cases q
      refine tblk_p kbl_L_hasY kbs_L_hasY (rk := 0) (c := false) (i := 0) rfl 5 3 (P := kpc_L_hasY) (pe := 14) rfl (by decide +kernel) ?_
      show wB _ _ _ _ _ _ _ _ [.inl z, .inl 0, .inr (.inr (.inl 690))] _ _ _
      simp only [kpc_L_hasY, w_if_eq, w_lc1, w_goto, true_and, and_true, Nat.reduceAdd, Nat.reduceSub, eq_self, tsw_690, tyw_41, tcw_1]
      refine ⟨by omega, fun q => ?_, fun q => nst _ M1 1 c1 c2⟩
      refine tb_L_hasY_14 (c := false) ?_
      simp only [kb_L_hasY_14, w_lc0, w_nil, true_and, and_true, Nat.reduceAdd, Nat.reduceSub, eq_self]
      exact nst _ M1 0 c1 c2
    · cases q
  · rintro x M1 n1 ⟨⟨⟨c1, c2⟩, c3⟩, hR⟩
    have c1 : CK M1 := ⟨c1, c3⟩
    have c2 := WE_p c2
    rcases hR with ⟨z, q, _⟩ | ⟨s, q, rfl, hs⟩
    · cases q
    · cases q
      rcases hs with rfl | rfl
      all_goals
        first
        | exact ⟨19, _, 3, 1, by decide +kernel, tblk_o kbl_L_hasY kbs_L_hasY (i := 3) (j := 0) rfl rfl, rfl, by decide +kernel, nh19 _ c1 c2⟩
        | exact ⟨22, _, 3, 1, by decide +kernel, tblk_o kbl_L_hasY kbs_L_hasY (i := 4) (j := 0) rfl rfl, rfl, by decide +kernel, nh22 _ c1 c2⟩
noncomputable def kpa_L_high : List (Nat × bO) := [(0, .aload_n 2, 0, 0, 0, 0), (1, .iconst 0, 0, 0, 0, 0), (2, .aload_n 0, 0, 0, 0, 0), (3, .iload_n 1, 0, 0, 0, 0)]
noncomputable def kpc_L_high : List (Nat × bO) := [(7, .i2l, 0, 0, 0, 0), (8, .lastore, 0, 0, 0, 0), (9, .goto 9, 0, 18, 0, 0)]
noncomputable def kph_L_high_12 : List (Nat × bO) := [(13, .iconst 1, 0, 0, 0, 0), (14, .ireturn, 0, 0, 0, 0)]
noncomputable def kph_L_high_15 : List (Nat × bO) := [(16, .iconst 2, 0, 0, 0, 0), (17, .ireturn, 0, 0, 0, 0)]
theorem lw_high {p1 : Int} (hC : CK M) (he : EK e) (h1 : -2147483648 ≤ p1 ∧ p1 ≤ 2147483647) (hd : 12 ≤ d) : tC e d 3850 [.inr (.inr (.inl 0)), .inl p1, .inr (.inr (.inl 690))] M n (WQ n M) := by
  refine tst_L_high ?_
  obtain ⟨d', rfl⟩ : ∃ d', d = d' + 1 := ⟨d - 1, by omega⟩
  have nh12 : ∀ (M1 : tM), CK M1 → WE M M1 → tT e (d' + 1) 3850 (12 + 1) [] [] M1 (n + 1) (WQ n M) := by
    intro M1 c1 c2
    refine tblk_p kbl_L_high kbs_L_high (rk := 0) (c := false) (i := 1) rfl 1 2 (P := kph_L_high_12) (pe := 112) rfl (by decide +kernel) ?_
    simp only [kph_L_high_12, w_ic, w_ire, trg, true_and, and_true, Nat.reduceAdd, Nat.reduceSub, eq_self]
    exact ⟨⟨_, rfl⟩, ⟨Nat.le_succ _, Nat.le_refl _⟩, c1, c2⟩
  have nh15 : ∀ (M1 : tM), CK M1 → WE M M1 → tT e (d' + 1) 3850 (15 + 1) [] [] M1 (n + 1) (WQ n M) := by
    intro M1 c1 c2
    refine tblk_p kbl_L_high kbs_L_high (rk := 0) (c := false) (i := 2) rfl 1 2 (P := kph_L_high_15) (pe := 115) rfl (by decide +kernel) ?_
    simp only [kph_L_high_15, w_ic, w_ire, trg, true_and, and_true, Nat.reduceAdd, Nat.reduceSub, eq_self]
    exact ⟨⟨_, rfl⟩, ⟨Nat.le_succ _, Nat.le_refl _⟩, c1, c2⟩
  have nend : ∀ (L : tL) (M1 : tM) (v : Int), CK M1 → WE M M1 → tT e (d' + 1) 3850 18 L [] (tU M1 690 0 v) n (WQ n M) := by
    intro L M1 v c1 c2
    refine tb_L_high_18 (c := false) ?_
    simp only [kb_L_high_18, w_ic, w_ire, trg, true_and, and_true, Nat.reduceAdd, Nat.reduceSub, eq_self]
    exact ⟨⟨_, rfl⟩, ⟨Nat.le_refl _, Nat.le_succ _⟩, CK_690 c1, WE_tr c2 WE_690⟩
  refine tblk_p kbl_L_high kbs_L_high (rk := 0) (c := false) (i := 0) rfl 0 4 (P := kpa_L_high) (pe := 4) rfl (by decide +kernel) ?_
  simp only [kpa_L_high, w_ald_2, w_ic, w_ald_0, w_ild_1, w_nil, true_and, and_true, Nat.reduceAdd, Nat.reduceSub, eq_self]
  refine tT_catch (pc := 4) (tblk_o kbl_L_high kbs_L_high (i := 0) (j := 4) rfl rfl) rfl sh0a sh0b rfl (kv he.2.2.2 (k_X11_high (b := 0) cl_0 h1 (by omega) (by omega)) (KA_x (v_high h1 hC.2 hC.1 (by omega))) hC.1) ?_ ?_
  · rintro v M1 n1 ⟨⟨⟨c1, c2⟩, c3⟩, hR⟩
    have c1 : CK M1 := ⟨c1, c3⟩
    have c2 := WE_p c2
    rcases hR with ⟨z, q, rfl, hz⟩ | ⟨s, q, _⟩
    · cases q
      refine tblk_p kbl_L_high kbs_L_high (rk := 0) (c := false) (i := 0) rfl 5 3 (P := kpc_L_high) (pe := 12) rfl (by decide +kernel) ?_
      show wB _ _ _ _ _ _ _ _ [.inl z, .inl 0, .inr (.inr (.inl 690))] _ _ _
      simp only [kpc_L_high, w_i2l, w_las, w_goto, true_and, and_true, Nat.reduceAdd, Nat.reduceSub, eq_self, tsw_690, tyw_41, tcw_1]
      exact ⟨by omega, by omega, nend _ M1 z c1 c2⟩
    · cases q
  · rintro x M1 n1 ⟨⟨⟨c1, c2⟩, c3⟩, hR⟩
    have c1 : CK M1 := ⟨c1, c3⟩
    have c2 := WE_p c2
    rcases hR with ⟨z, q, _⟩ | ⟨s, q, rfl, hs⟩
    · cases q
    · cases q
      rcases hs with rfl | rfl
      all_goals
        first
        | exact ⟨12, _, 3, 1, by decide +kernel, tblk_o kbl_L_high kbs_L_high (i := 1) (j := 0) rfl rfl, rfl, by decide +kernel, nh12 _ c1 c2⟩
        | exact ⟨15, _, 3, 1, by decide +kernel, tblk_o kbl_L_high kbs_L_high (i := 2) (j := 0) rfl rfl, rfl, by decide +kernel, nh15 _ c1 c2⟩
noncomputable def kpa_L_isWithin : List (Nat × bO) := [(0, .aload_n 3, 0, 0, 0, 0), (1, .iconst 0, 0, 0, 0, 0), (2, .aload_n 0, 0, 0, 0, 0), (3, .iload_n 1, 0, 0, 0, 0), (4, .iload_n 2, 0, 0, 0, 0)]
noncomputable def kpc_L_isWithin : List (Nat × bO) := [(8, .ifCond .eq 7, 0, 15, 0, 0), (11, .lconst 1, 0, 0, 0, 0), (12, .goto 4, 0, 16, 0, 0)]
noncomputable def kph_L_isWithin_20 : List (Nat × bO) := [(22, .iconst 1, 0, 0, 0, 0), (23, .ireturn, 0, 0, 0, 0)]
noncomputable def kph_L_isWithin_24 : List (Nat × bO) := [(26, .iconst 2, 0, 0, 0, 0), (27, .ireturn, 0, 0, 0, 0)]
theorem lw_isWithin {p1 p2 : Int} (hC : CK M) (he : EK e) (h1 : -2147483648 ≤ p1 ∧ p1 ≤ 2147483647) (h2 : -2147483648 ≤ p2 ∧ p2 ≤ 2147483647) (hd : 12 ≤ d) : tC e d 3851 [.inr (.inr (.inl 0)), .inl p1, .inl p2, .inr (.inr (.inl 690))] M n (WQ n M) := by
  refine tst_L_isWithin ?_
  obtain ⟨d', rfl⟩ : ∃ d', d = d' + 1 := ⟨d - 1, by omega⟩
  have nh20 : ∀ (M1 : tM), CK M1 → WE M M1 → tT e (d' + 1) 3851 (20 + 2) [] [] M1 (n + 1) (WQ n M) := by
    intro M1 c1 c2
    refine tblk_p kbl_L_isWithin kbs_L_isWithin (rk := 0) (c := false) (i := 3) rfl 1 2 (P := kph_L_isWithin_20) (pe := 121) rfl (by decide +kernel) ?_
    simp only [kph_L_isWithin_20, w_ic, w_ire, trg, true_and, and_true, Nat.reduceAdd, Nat.reduceSub, eq_self]
    exact ⟨⟨_, rfl⟩, ⟨Nat.le_succ _, Nat.le_refl _⟩, c1, c2⟩
  have nh24 : ∀ (M1 : tM), CK M1 → WE M M1 → tT e (d' + 1) 3851 (24 + 2) [] [] M1 (n + 1) (WQ n M) := by
    intro M1 c1 c2
    refine tblk_p kbl_L_isWithin kbs_L_isWithin (rk := 0) (c := false) (i := 4) rfl 1 2 (P := kph_L_isWithin_24) (pe := 125) rfl (by decide +kernel) ?_
    simp only [kph_L_isWithin_24, w_ic, w_ire, trg, true_and, and_true, Nat.reduceAdd, Nat.reduceSub, eq_self]
    exact ⟨⟨_, rfl⟩, ⟨Nat.le_succ _, Nat.le_refl _⟩, c1, c2⟩
  have nend : ∀ (L : tL) (M1 : tM) (v : Int), CK M1 → WE M M1 → tT e (d' + 1) 3851 28 L [] (tU M1 690 0 v) n (WQ n M) := by
    intro L M1 v c1 c2
    refine tb_L_isWithin_28 (c := false) ?_
    simp only [kb_L_isWithin_28, w_ic, w_ire, trg, true_and, and_true, Nat.reduceAdd, Nat.reduceSub, eq_self]
    exact ⟨⟨_, rfl⟩, ⟨Nat.le_refl _, Nat.le_succ _⟩, CK_690 c1, WE_tr c2 WE_690⟩
  have nst : ∀ (L : tL) (M1 : tM) (v : Int), CK M1 → WE M M1 → tT e (d' + 1) 3851 16 L [.inr (.inl v), .inl 0, .inr (.inr (.inl 690))] M1 n (WQ n M) := by
    intro L M1 v c1 c2
    refine tb_L_isWithin_16 (c := false) ?_
    simp only [kb_L_isWithin_16, w_las, w_goto, true_and, and_true, Nat.reduceAdd, Nat.reduceSub, eq_self, tsw_690, tyw_41, tcw_1]
    exact ⟨by omega, nend _ M1 v c1 c2⟩
  refine tblk_p kbl_L_isWithin kbs_L_isWithin (rk := 0) (c := false) (i := 0) rfl 0 5 (P := kpa_L_isWithin) (pe := 5) rfl (by decide +kernel) ?_
  simp only [kpa_L_isWithin, w_ald_3, w_ic, w_ald_0, w_ild_1, w_ild_2, w_nil, true_and, and_true, Nat.reduceAdd, Nat.reduceSub, eq_self]
  refine tT_catch (pc := 5) (tblk_o kbl_L_isWithin kbs_L_isWithin (i := 0) (j := 5) rfl rfl) rfl sh0a sh0b rfl (kv he.2.2.2 (k_X11_isWithin (b := 0) cl_0 h1 h2 (by omega)) (u_isWithin h1 h2 hC.2 hC.1 (by omega)) hC.1) ?_ ?_
  · rintro v M1 n1 ⟨⟨⟨c1, c2⟩, c3⟩, hR⟩
    have c1 : CK M1 := ⟨c1, c3⟩
    have c2 := WE_p c2
    rcases hR with ⟨z, q, rfl, hz⟩ | ⟨s, q, _⟩
    · cases q
      refine tblk_p kbl_L_isWithin kbs_L_isWithin (rk := 0) (c := false) (i := 0) rfl 6 3 (P := kpc_L_isWithin) (pe := 15) rfl (by decide +kernel) ?_
      show wB _ _ _ _ _ _ _ _ [.inl z, .inl 0, .inr (.inr (.inl 690))] _ _ _
      simp only [kpc_L_isWithin, w_if_eq, w_lc1, w_goto, true_and, and_true, Nat.reduceAdd, Nat.reduceSub, eq_self, tsw_690, tyw_41, tcw_1]
      refine ⟨by omega, fun q => ?_, fun q => nst _ M1 1 c1 c2⟩
      refine tb_L_isWithin_15 (c := false) ?_
      simp only [kb_L_isWithin_15, w_lc0, w_nil, true_and, and_true, Nat.reduceAdd, Nat.reduceSub, eq_self]
      exact nst _ M1 0 c1 c2
    · cases q
  · rintro x M1 n1 ⟨⟨⟨c1, c2⟩, c3⟩, hR⟩
    have c1 : CK M1 := ⟨c1, c3⟩
    have c2 := WE_p c2
    rcases hR with ⟨z, q, _⟩ | ⟨s, q, rfl, hs⟩
    · cases q
    · cases q
      rcases hs with rfl | rfl
      all_goals
        first
        | exact ⟨20, _, 4, 2, by decide +kernel, tblk_o kbl_L_isWithin kbs_L_isWithin (i := 3) (j := 0) rfl rfl, rfl, by decide +kernel, nh20 _ c1 c2⟩
        | exact ⟨24, _, 4, 2, by decide +kernel, tblk_o kbl_L_isWithin kbs_L_isWithin (i := 4) (j := 0) rfl rfl, rfl, by decide +kernel, nh24 _ c1 c2⟩
noncomputable def kpa_L_join : List (Nat × bO) := [(0, .aload 4, 0, 0, 0, 0), (2, .iconst 0, 0, 0, 0, 0), (3, .aload_n 0, 0, 0, 0, 0), (4, .iload_n 1, 0, 0, 0, 0), (5, .iload_n 2, 0, 0, 0, 0), (6, .iload_n 3, 0, 0, 0, 0)]
noncomputable def kpc_L_join : List (Nat × bO) := [(10, .ifCond .eq 7, 0, 17, 0, 0), (13, .lconst 1, 0, 0, 0, 0), (14, .goto 4, 0, 18, 0, 0)]
noncomputable def kph_L_join_22 : List (Nat × bO) := [(24, .iconst 1, 0, 0, 0, 0), (25, .ireturn, 0, 0, 0, 0)]
noncomputable def kph_L_join_26 : List (Nat × bO) := [(28, .iconst 2, 0, 0, 0, 0), (29, .ireturn, 0, 0, 0, 0)]
theorem lw_join {p1 p2 p3 : Int} (hC : CK M) (he : EK e) (h1 : -2147483648 ≤ p1 ∧ p1 ≤ 2147483647) (h2 : -2147483648 ≤ p2 ∧ p2 ≤ 2147483647) (h3 : -2147483648 ≤ p3 ∧ p3 ≤ 2147483647) (hd : 12 ≤ d) : tC e d 3852 [.inr (.inr (.inl 0)), .inl p1, .inl p2, .inl p3, .inr (.inr (.inl 690))] M n (WQ n M) := by
  refine tst_L_join ?_
  obtain ⟨d', rfl⟩ : ∃ d', d = d' + 1 := ⟨d - 1, by omega⟩
  have nh22 : ∀ (M1 : tM), CK M1 → WE M M1 → tT e (d' + 1) 3852 (22 + 2) [] [] M1 (n + 1) (WQ n M) := by
    intro M1 c1 c2
    refine tblk_p kbl_L_join kbs_L_join (rk := 0) (c := false) (i := 3) rfl 1 2 (P := kph_L_join_22) (pe := 123) rfl (by decide +kernel) ?_
    simp only [kph_L_join_22, w_ic, w_ire, trg, true_and, and_true, Nat.reduceAdd, Nat.reduceSub, eq_self]
    exact ⟨⟨_, rfl⟩, ⟨Nat.le_succ _, Nat.le_refl _⟩, c1, c2⟩
  have nh26 : ∀ (M1 : tM), CK M1 → WE M M1 → tT e (d' + 1) 3852 (26 + 2) [] [] M1 (n + 1) (WQ n M) := by
    intro M1 c1 c2
    refine tblk_p kbl_L_join kbs_L_join (rk := 0) (c := false) (i := 4) rfl 1 2 (P := kph_L_join_26) (pe := 127) rfl (by decide +kernel) ?_
    simp only [kph_L_join_26, w_ic, w_ire, trg, true_and, and_true, Nat.reduceAdd, Nat.reduceSub, eq_self]
    exact ⟨⟨_, rfl⟩, ⟨Nat.le_succ _, Nat.le_refl _⟩, c1, c2⟩
  have nend : ∀ (L : tL) (M1 : tM) (v : Int), CK M1 → WE M M1 → tT e (d' + 1) 3852 30 L [] (tU M1 690 0 v) n (WQ n M) := by
    intro L M1 v c1 c2
    refine tb_L_join_30 (c := false) ?_
    simp only [kb_L_join_30, w_ic, w_ire, trg, true_and, and_true, Nat.reduceAdd, Nat.reduceSub, eq_self]
    exact ⟨⟨_, rfl⟩, ⟨Nat.le_refl _, Nat.le_succ _⟩, CK_690 c1, WE_tr c2 WE_690⟩
  have nst : ∀ (L : tL) (M1 : tM) (v : Int), CK M1 → WE M M1 → tT e (d' + 1) 3852 18 L [.inr (.inl v), .inl 0, .inr (.inr (.inl 690))] M1 n (WQ n M) := by
    intro L M1 v c1 c2
    refine tb_L_join_18 (c := false) ?_
    simp only [kb_L_join_18, w_las, w_goto, true_and, and_true, Nat.reduceAdd, Nat.reduceSub, eq_self, tsw_690, tyw_41, tcw_1]
    exact ⟨by omega, nend _ M1 v c1 c2⟩
  refine tblk_p kbl_L_join kbs_L_join (rk := 0) (c := false) (i := 0) rfl 0 6 (P := kpa_L_join) (pe := 7) rfl (by decide +kernel) ?_
  simp only [kpa_L_join, w_ald4, w_ic, w_ald_0, w_ild_1, w_ild_2, w_ild_3, w_nil, true_and, and_true, Nat.reduceAdd, Nat.reduceSub, eq_self]
  refine tT_catch (pc := 7) (tblk_o kbl_L_join kbs_L_join (i := 0) (j := 6) rfl rfl) rfl sh0a sh0b rfl (kv he.2.2.2 (k_X11_join (b := 0) cl_0 h1 h2 h3 (by omega) (by omega)) (KA_x (v_join h1 h2 h3 hC.2 hC.1 (by omega))) hC.1) ?_ ?_
  · rintro v M1 n1 ⟨⟨⟨c1, c2⟩, c3⟩, hR⟩
    have c1 : CK M1 := ⟨c1, c3⟩
    have c2 := WE_p c2
    rcases hR with ⟨z, q, rfl, hz⟩ | ⟨s, q, _⟩
    · cases q
      refine tblk_p kbl_L_join kbs_L_join (rk := 0) (c := false) (i := 0) rfl 7 3 (P := kpc_L_join) (pe := 17) rfl (by decide +kernel) ?_
      show wB _ _ _ _ _ _ _ _ [.inl z, .inl 0, .inr (.inr (.inl 690))] _ _ _
      simp only [kpc_L_join, w_if_eq, w_lc1, w_goto, true_and, and_true, Nat.reduceAdd, Nat.reduceSub, eq_self, tsw_690, tyw_41, tcw_1]
      refine ⟨by omega, fun q => ?_, fun q => nst _ M1 1 c1 c2⟩
      refine tb_L_join_17 (c := false) ?_
      simp only [kb_L_join_17, w_lc0, w_nil, true_and, and_true, Nat.reduceAdd, Nat.reduceSub, eq_self]
      exact nst _ M1 0 c1 c2
    · cases q
  · rintro x M1 n1 ⟨⟨⟨c1, c2⟩, c3⟩, hR⟩
    have c1 : CK M1 := ⟨c1, c3⟩
    have c2 := WE_p c2
    rcases hR with ⟨z, q, _⟩ | ⟨s, q, rfl, hs⟩
    · cases q
    · cases q
      rcases hs with rfl | rfl
      all_goals
        first
        | exact ⟨22, _, 5, 2, by decide +kernel, tblk_o kbl_L_join kbs_L_join (i := 3) (j := 0) rfl rfl, rfl, by decide +kernel, nh22 _ c1 c2⟩
        | exact ⟨26, _, 5, 2, by decide +kernel, tblk_o kbl_L_join kbs_L_join (i := 4) (j := 0) rfl rfl, rfl, by decide +kernel, nh26 _ c1 c2⟩
noncomputable def kpa_L_least : List (Nat × bO) := [(0, .aload 5, 0, 0, 0, 0), (2, .iconst 0, 0, 0, 0, 0), (3, .aload_n 0, 0, 0, 0, 0), (4, .iload_n 1, 0, 0, 0, 0), (5, .iload_n 2, 0, 0, 0, 0), (6, .iload_n 3, 0, 0, 0, 0), (7, .iload 4, 0, 0, 0, 0)]
noncomputable def kpc_L_least : List (Nat × bO) := [(12, .ifCond .eq 7, 0, 19, 0, 0), (15, .lconst 1, 0, 0, 0, 0), (16, .goto 4, 0, 20, 0, 0)]
noncomputable def kph_L_least_24 : List (Nat × bO) := [(26, .iconst 1, 0, 0, 0, 0), (27, .ireturn, 0, 0, 0, 0)]
noncomputable def kph_L_least_28 : List (Nat × bO) := [(30, .iconst 2, 0, 0, 0, 0), (31, .ireturn, 0, 0, 0, 0)]
noncomputable def kph_L_least_32 : List (Nat × bO) := [(34, .iconst 3, 0, 0, 0, 0), (35, .ireturn, 0, 0, 0, 0)]
noncomputable def kph_L_least_36 : List (Nat × bO) := [(38, .iconst 4, 0, 0, 0, 0), (39, .ireturn, 0, 0, 0, 0)]
noncomputable def kph_L_least_40 : List (Nat × bO) := [(42, .iconst 5, 0, 0, 0, 0), (43, .ireturn, 0, 0, 0, 0)]
noncomputable def kph_L_least_44 : List (Nat × bO) := [(46, .bipush 6, 0, 0, 0, 0), (48, .ireturn, 0, 0, 0, 0)]
theorem lw_least {p1 p2 p3 p4 : Int} (hC : CK M) (he : EK e) (h1 : -2147483648 ≤ p1 ∧ p1 ≤ 2147483647) (h2 : -2147483648 ≤ p2 ∧ p2 ≤ 2147483647) (h3 : -2147483648 ≤ p3 ∧ p3 ≤ 2147483647) (h4 : -2147483648 ≤ p4 ∧ p4 ≤ 2147483647) (hd : 12 ≤ d) : tC e d 3854 [.inr (.inr (.inl 0)), .inl p1, .inl p2, .inl p3, .inl p4, .inr (.inr (.inl 690))] M n (WQ n M) := by
  refine tst_L_least ?_
  obtain ⟨d', rfl⟩ : ∃ d', d = d' + 1 := ⟨d - 1, by omega⟩
  have nh24 : ∀ (M1 : tM), CK M1 → WE M M1 → tT e (d' + 1) 3854 (24 + 2) [] [] M1 (n + 1) (WQ n M) := by
    intro M1 c1 c2
    refine tblk_p kbl_L_least kbs_L_least (rk := 0) (c := false) (i := 3) rfl 1 2 (P := kph_L_least_24) (pe := 125) rfl (by decide +kernel) ?_
    simp only [kph_L_least_24, w_ic, w_ire, trg, true_and, and_true, Nat.reduceAdd, Nat.reduceSub, eq_self]
    exact ⟨⟨_, rfl⟩, ⟨Nat.le_succ _, Nat.le_refl _⟩, c1, c2⟩
  have nh28 : ∀ (M1 : tM), CK M1 → WE M M1 → tT e (d' + 1) 3854 (28 + 2) [] [] M1 (n + 1) (WQ n M) := by
    intro M1 c1 c2
    refine tblk_p kbl_L_least kbs_L_least (rk := 0) (c := false) (i := 4) rfl 1 2 (P := kph_L_least_28) (pe := 129) rfl (by decide +kernel) ?_
    simp only [kph_L_least_28, w_ic, w_ire, trg, true_and, and_true, Nat.reduceAdd, Nat.reduceSub, eq_self]
    exact ⟨⟨_, rfl⟩, ⟨Nat.le_succ _, Nat.le_refl _⟩, c1, c2⟩
  have nh32 : ∀ (M1 : tM), CK M1 → WE M M1 → tT e (d' + 1) 3854 (32 + 2) [] [] M1 (n + 1) (WQ n M) := by
    intro M1 c1 c2
    refine tblk_p kbl_L_least kbs_L_least (rk := 0) (c := false) (i := 5) rfl 1 2 (P := kph_L_least_32) (pe := 133) rfl (by decide +kernel) ?_
    simp only [kph_L_least_32, w_ic, w_ire, trg, true_and, and_true, Nat.reduceAdd, Nat.reduceSub, eq_self]
    exact ⟨⟨_, rfl⟩, ⟨Nat.le_succ _, Nat.le_refl _⟩, c1, c2⟩
  have nh36 : ∀ (M1 : tM), CK M1 → WE M M1 → tT e (d' + 1) 3854 (36 + 2) [] [] M1 (n + 1) (WQ n M) := by
    intro M1 c1 c2
    refine tblk_p kbl_L_least kbs_L_least (rk := 0) (c := false) (i := 6) rfl 1 2 (P := kph_L_least_36) (pe := 137) rfl (by decide +kernel) ?_
    simp only [kph_L_least_36, w_ic, w_ire, trg, true_and, and_true, Nat.reduceAdd, Nat.reduceSub, eq_self]
    exact ⟨⟨_, rfl⟩, ⟨Nat.le_succ _, Nat.le_refl _⟩, c1, c2⟩
  have nh40 : ∀ (M1 : tM), CK M1 → WE M M1 → tT e (d' + 1) 3854 (40 + 2) [] [] M1 (n + 1) (WQ n M) := by
    intro M1 c1 c2
    refine tblk_p kbl_L_least kbs_L_least (rk := 0) (c := false) (i := 7) rfl 1 2 (P := kph_L_least_40) (pe := 141) rfl (by decide +kernel) ?_
    simp only [kph_L_least_40, w_ic, w_ire, trg, true_and, and_true, Nat.reduceAdd, Nat.reduceSub, eq_self]
    exact ⟨⟨_, rfl⟩, ⟨Nat.le_succ _, Nat.le_refl _⟩, c1, c2⟩
  have nh44 : ∀ (M1 : tM), CK M1 → WE M M1 → tT e (d' + 1) 3854 (44 + 2) [] [] M1 (n + 1) (WQ n M) := by
    intro M1 c1 c2
    refine tblk_p kbl_L_least kbs_L_least (rk := 0) (c := false) (i := 8) rfl 1 2 (P := kph_L_least_44) (pe := 145) rfl (by decide +kernel) ?_
    simp only [kph_L_least_44, w_bi, w_ire, trg, true_and, and_true, Nat.reduceAdd, Nat.reduceSub, eq_self]
    exact ⟨⟨_, rfl⟩, ⟨Nat.le_succ _, Nat.le_refl _⟩, c1, c2⟩
  have nend : ∀ (L : tL) (M1 : tM) (v : Int), CK M1 → WE M M1 → tT e (d' + 1) 3854 49 L [] (tU M1 690 0 v) n (WQ n M) := by
    intro L M1 v c1 c2
    refine tb_L_least_49 (c := false) ?_
    simp only [kb_L_least_49, w_ic, w_ire, trg, true_and, and_true, Nat.reduceAdd, Nat.reduceSub, eq_self]
    exact ⟨⟨_, rfl⟩, ⟨Nat.le_refl _, Nat.le_succ _⟩, CK_690 c1, WE_tr c2 WE_690⟩
  have nst : ∀ (L : tL) (M1 : tM) (v : Int), CK M1 → WE M M1 → tT e (d' + 1) 3854 20 L [.inr (.inl v), .inl 0, .inr (.inr (.inl 690))] M1 n (WQ n M) := by
    intro L M1 v c1 c2
    refine tb_L_least_20 (c := false) ?_
    simp only [kb_L_least_20, w_las, w_goto, true_and, and_true, Nat.reduceAdd, Nat.reduceSub, eq_self, tsw_690, tyw_41, tcw_1]
    exact ⟨by omega, nend _ M1 v c1 c2⟩
  refine tblk_p kbl_L_least kbs_L_least (rk := 0) (c := false) (i := 0) rfl 0 7 (P := kpa_L_least) (pe := 9) rfl (by decide +kernel) ?_
  simp only [kpa_L_least, w_ald5, w_ic, w_ald_0, w_ild_1, w_ild_2, w_ild_3, w_ild4, w_nil, true_and, and_true, Nat.reduceAdd, Nat.reduceSub, eq_self]
  refine tT_catch (pc := 9) (tblk_o kbl_L_least kbs_L_least (i := 0) (j := 7) rfl rfl) rfl sh0a sh0b rfl (kv he.2.2.2 (k_X11_least (b := 0) cl_0 h1 h2 h3 h4 he.1 (by omega) (by omega)) (KA_x (v_least h1 h2 h3 h4 he.2.1 hC.2 hC.1 (by omega))) hC.1) ?_ ?_
  · rintro v M1 n1 ⟨⟨⟨c1, c2⟩, c3⟩, hR⟩
    have c1 : CK M1 := ⟨c1, c3⟩
    have c2 := WE_p c2
    rcases hR with ⟨z, q, rfl, hz⟩ | ⟨s, q, _⟩
    · cases q
      refine tblk_p kbl_L_least kbs_L_least (rk := 0) (c := false) (i := 0) rfl 8 3 (P := kpc_L_least) (pe := 19) rfl (by decide +kernel) ?_
      show wB _ _ _ _ _ _ _ _ [.inl z, .inl 0, .inr (.inr (.inl 690))] _ _ _
      simp only [kpc_L_least, w_if_eq, w_lc1, w_goto, true_and, and_true, Nat.reduceAdd, Nat.reduceSub, eq_self, tsw_690, tyw_41, tcw_1]
      refine ⟨by omega, fun q => ?_, fun q => nst _ M1 1 c1 c2⟩
      refine tb_L_least_19 (c := false) ?_
      simp only [kb_L_least_19, w_lc0, w_nil, true_and, and_true, Nat.reduceAdd, Nat.reduceSub, eq_self]
      exact nst _ M1 0 c1 c2
    · cases q
  · rintro x M1 n1 ⟨⟨⟨c1, c2⟩, c3⟩, hR⟩
    have c1 : CK M1 := ⟨c1, c3⟩
    have c2 := WE_p c2
    rcases hR with ⟨z, q, _⟩ | ⟨s, q, rfl, hs⟩
    · cases q
    · cases q
      rcases hs with rfl | rfl | rfl | rfl | rfl | rfl
      all_goals
        first
        | exact ⟨24, _, 6, 2, by decide +kernel, tblk_o kbl_L_least kbs_L_least (i := 3) (j := 0) rfl rfl, rfl, by decide +kernel, nh24 _ c1 c2⟩
        | exact ⟨28, _, 6, 2, by decide +kernel, tblk_o kbl_L_least kbs_L_least (i := 4) (j := 0) rfl rfl, rfl, by decide +kernel, nh28 _ c1 c2⟩
        | exact ⟨32, _, 6, 2, by decide +kernel, tblk_o kbl_L_least kbs_L_least (i := 5) (j := 0) rfl rfl, rfl, by decide +kernel, nh32 _ c1 c2⟩
        | exact ⟨36, _, 6, 2, by decide +kernel, tblk_o kbl_L_least kbs_L_least (i := 6) (j := 0) rfl rfl, rfl, by decide +kernel, nh36 _ c1 c2⟩
        | exact ⟨40, _, 6, 2, by decide +kernel, tblk_o kbl_L_least kbs_L_least (i := 7) (j := 0) rfl rfl, rfl, by decide +kernel, nh40 _ c1 c2⟩
        | exact ⟨44, _, 6, 2, by decide +kernel, tblk_o kbl_L_least kbs_L_least (i := 8) (j := 0) rfl rfl, rfl, by decide +kernel, nh44 _ c1 c2⟩
noncomputable def kpa_L_low : List (Nat × bO) := [(0, .aload_n 2, 0, 0, 0, 0), (1, .iconst 0, 0, 0, 0, 0), (2, .aload_n 0, 0, 0, 0, 0), (3, .iload_n 1, 0, 0, 0, 0)]
noncomputable def kpc_L_low : List (Nat × bO) := [(7, .i2l, 0, 0, 0, 0), (8, .lastore, 0, 0, 0, 0), (9, .goto 9, 0, 18, 0, 0)]
noncomputable def kph_L_low_12 : List (Nat × bO) := [(13, .iconst 1, 0, 0, 0, 0), (14, .ireturn, 0, 0, 0, 0)]
noncomputable def kph_L_low_15 : List (Nat × bO) := [(16, .iconst 2, 0, 0, 0, 0), (17, .ireturn, 0, 0, 0, 0)]
theorem lw_low {p1 : Int} (hC : CK M) (he : EK e) (h1 : -2147483648 ≤ p1 ∧ p1 ≤ 2147483647) (hd : 12 ≤ d) : tC e d 3855 [.inr (.inr (.inl 0)), .inl p1, .inr (.inr (.inl 690))] M n (WQ n M) := by
  refine tst_L_low ?_
  obtain ⟨d', rfl⟩ : ∃ d', d = d' + 1 := ⟨d - 1, by omega⟩
  have nh12 : ∀ (M1 : tM), CK M1 → WE M M1 → tT e (d' + 1) 3855 (12 + 1) [] [] M1 (n + 1) (WQ n M) := by
    intro M1 c1 c2
    refine tblk_p kbl_L_low kbs_L_low (rk := 0) (c := false) (i := 1) rfl 1 2 (P := kph_L_low_12) (pe := 112) rfl (by decide +kernel) ?_
    simp only [kph_L_low_12, w_ic, w_ire, trg, true_and, and_true, Nat.reduceAdd, Nat.reduceSub, eq_self]
    exact ⟨⟨_, rfl⟩, ⟨Nat.le_succ _, Nat.le_refl _⟩, c1, c2⟩
  have nh15 : ∀ (M1 : tM), CK M1 → WE M M1 → tT e (d' + 1) 3855 (15 + 1) [] [] M1 (n + 1) (WQ n M) := by
    intro M1 c1 c2
    refine tblk_p kbl_L_low kbs_L_low (rk := 0) (c := false) (i := 2) rfl 1 2 (P := kph_L_low_15) (pe := 115) rfl (by decide +kernel) ?_
    simp only [kph_L_low_15, w_ic, w_ire, trg, true_and, and_true, Nat.reduceAdd, Nat.reduceSub, eq_self]
    exact ⟨⟨_, rfl⟩, ⟨Nat.le_succ _, Nat.le_refl _⟩, c1, c2⟩
  have nend : ∀ (L : tL) (M1 : tM) (v : Int), CK M1 → WE M M1 → tT e (d' + 1) 3855 18 L [] (tU M1 690 0 v) n (WQ n M) := by
    intro L M1 v c1 c2
    refine tb_L_low_18 (c := false) ?_
    simp only [kb_L_low_18, w_ic, w_ire, trg, true_and, and_true, Nat.reduceAdd, Nat.reduceSub, eq_self]
    exact ⟨⟨_, rfl⟩, ⟨Nat.le_refl _, Nat.le_succ _⟩, CK_690 c1, WE_tr c2 WE_690⟩
  refine tblk_p kbl_L_low kbs_L_low (rk := 0) (c := false) (i := 0) rfl 0 4 (P := kpa_L_low) (pe := 4) rfl (by decide +kernel) ?_
  simp only [kpa_L_low, w_ald_2, w_ic, w_ald_0, w_ild_1, w_nil, true_and, and_true, Nat.reduceAdd, Nat.reduceSub, eq_self]
  refine tT_catch (pc := 4) (tblk_o kbl_L_low kbs_L_low (i := 0) (j := 4) rfl rfl) rfl sh0a sh0b rfl (kv he.2.2.2 (k_X11_low (b := 0) cl_0 h1 (by omega) (by omega)) (KA_x (v_low h1 hC.2 hC.1 (by omega))) hC.1) ?_ ?_
  · rintro v M1 n1 ⟨⟨⟨c1, c2⟩, c3⟩, hR⟩
    have c1 : CK M1 := ⟨c1, c3⟩
    have c2 := WE_p c2
    rcases hR with ⟨z, q, rfl, hz⟩ | ⟨s, q, _⟩
    · cases q
      refine tblk_p kbl_L_low kbs_L_low (rk := 0) (c := false) (i := 0) rfl 5 3 (P := kpc_L_low) (pe := 12) rfl (by decide +kernel) ?_
      show wB _ _ _ _ _ _ _ _ [.inl z, .inl 0, .inr (.inr (.inl 690))] _ _ _
      simp only [kpc_L_low, w_i2l, w_las, w_goto, true_and, and_true, Nat.reduceAdd, Nat.reduceSub, eq_self, tsw_690, tyw_41, tcw_1]
      exact ⟨by omega, by omega, nend _ M1 z c1 c2⟩
    · cases q
  · rintro x M1 n1 ⟨⟨⟨c1, c2⟩, c3⟩, hR⟩
    have c1 : CK M1 := ⟨c1, c3⟩
    have c2 := WE_p c2
    rcases hR with ⟨z, q, _⟩ | ⟨s, q, rfl, hs⟩
    · cases q
    · cases q
      rcases hs with rfl | rfl
      all_goals
        first
        | exact ⟨12, _, 3, 1, by decide +kernel, tblk_o kbl_L_low kbs_L_low (i := 1) (j := 0) rfl rfl, rfl, by decide +kernel, nh12 _ c1 c2⟩
        | exact ⟨15, _, 3, 1, by decide +kernel, tblk_o kbl_L_low kbs_L_low (i := 2) (j := 0) rfl rfl, rfl, by decide +kernel, nh15 _ c1 c2⟩
noncomputable def kpa_L_meet : List (Nat × bO) := [(0, .aload 4, 0, 0, 0, 0), (2, .iconst 0, 0, 0, 0, 0), (3, .aload_n 0, 0, 0, 0, 0), (4, .iload_n 1, 0, 0, 0, 0), (5, .iload_n 2, 0, 0, 0, 0), (6, .iload_n 3, 0, 0, 0, 0)]
noncomputable def kpc_L_meet : List (Nat × bO) := [(10, .ifCond .eq 7, 0, 17, 0, 0), (13, .lconst 1, 0, 0, 0, 0), (14, .goto 4, 0, 18, 0, 0)]
noncomputable def kph_L_meet_22 : List (Nat × bO) := [(24, .iconst 1, 0, 0, 0, 0), (25, .ireturn, 0, 0, 0, 0)]
noncomputable def kph_L_meet_26 : List (Nat × bO) := [(28, .iconst 2, 0, 0, 0, 0), (29, .ireturn, 0, 0, 0, 0)]
theorem lw_meet {p1 p2 p3 : Int} (hC : CK M) (he : EK e) (h1 : -2147483648 ≤ p1 ∧ p1 ≤ 2147483647) (h2 : -2147483648 ≤ p2 ∧ p2 ≤ 2147483647) (h3 : -2147483648 ≤ p3 ∧ p3 ≤ 2147483647) (hd : 12 ≤ d) : tC e d 3856 [.inr (.inr (.inl 0)), .inl p1, .inl p2, .inl p3, .inr (.inr (.inl 690))] M n (WQ n M) := by
  refine tst_L_meet ?_
  obtain ⟨d', rfl⟩ : ∃ d', d = d' + 1 := ⟨d - 1, by omega⟩
  have nh22 : ∀ (M1 : tM), CK M1 → WE M M1 → tT e (d' + 1) 3856 (22 + 2) [] [] M1 (n + 1) (WQ n M) := by
    intro M1 c1 c2
    refine tblk_p kbl_L_meet kbs_L_meet (rk := 0) (c := false) (i := 3) rfl 1 2 (P := kph_L_meet_22) (pe := 123) rfl (by decide +kernel) ?_
    simp only [kph_L_meet_22, w_ic, w_ire, trg, true_and, and_true, Nat.reduceAdd, Nat.reduceSub, eq_self]
    exact ⟨⟨_, rfl⟩, ⟨Nat.le_succ _, Nat.le_refl _⟩, c1, c2⟩
  have nh26 : ∀ (M1 : tM), CK M1 → WE M M1 → tT e (d' + 1) 3856 (26 + 2) [] [] M1 (n + 1) (WQ n M) := by
    intro M1 c1 c2
    refine tblk_p kbl_L_meet kbs_L_meet (rk := 0) (c := false) (i := 4) rfl 1 2 (P := kph_L_meet_26) (pe := 127) rfl (by decide +kernel) ?_
    simp only [kph_L_meet_26, w_ic, w_ire, trg, true_and, and_true, Nat.reduceAdd, Nat.reduceSub, eq_self]
    exact ⟨⟨_, rfl⟩, ⟨Nat.le_succ _, Nat.le_refl _⟩, c1, c2⟩
  have nend : ∀ (L : tL) (M1 : tM) (v : Int), CK M1 → WE M M1 → tT e (d' + 1) 3856 30 L [] (tU M1 690 0 v) n (WQ n M) := by
    intro L M1 v c1 c2
    refine tb_L_meet_30 (c := false) ?_
    simp only [kb_L_meet_30, w_ic, w_ire, trg, true_and, and_true, Nat.reduceAdd, Nat.reduceSub, eq_self]
    exact ⟨⟨_, rfl⟩, ⟨Nat.le_refl _, Nat.le_succ _⟩, CK_690 c1, WE_tr c2 WE_690⟩
  have nst : ∀ (L : tL) (M1 : tM) (v : Int), CK M1 → WE M M1 → tT e (d' + 1) 3856 18 L [.inr (.inl v), .inl 0, .inr (.inr (.inl 690))] M1 n (WQ n M) := by
    intro L M1 v c1 c2
    refine tb_L_meet_18 (c := false) ?_
    simp only [kb_L_meet_18, w_las, w_goto, true_and, and_true, Nat.reduceAdd, Nat.reduceSub, eq_self, tsw_690, tyw_41, tcw_1]
    exact ⟨by omega, nend _ M1 v c1 c2⟩
  refine tblk_p kbl_L_meet kbs_L_meet (rk := 0) (c := false) (i := 0) rfl 0 6 (P := kpa_L_meet) (pe := 7) rfl (by decide +kernel) ?_
  simp only [kpa_L_meet, w_ald4, w_ic, w_ald_0, w_ild_1, w_ild_2, w_ild_3, w_nil, true_and, and_true, Nat.reduceAdd, Nat.reduceSub, eq_self]
  refine tT_catch (pc := 7) (tblk_o kbl_L_meet kbs_L_meet (i := 0) (j := 6) rfl rfl) rfl sh0a sh0b rfl (kv he.2.2.2 (k_X11_meet (b := 0) cl_0 h1 h2 h3 (by omega) (by omega)) (KA_x (v_meet h1 h2 h3 hC.2 hC.1 (by omega))) hC.1) ?_ ?_
  · rintro v M1 n1 ⟨⟨⟨c1, c2⟩, c3⟩, hR⟩
    have c1 : CK M1 := ⟨c1, c3⟩
    have c2 := WE_p c2
    rcases hR with ⟨z, q, rfl, hz⟩ | ⟨s, q, _⟩
    · cases q
      refine tblk_p kbl_L_meet kbs_L_meet (rk := 0) (c := false) (i := 0) rfl 7 3 (P := kpc_L_meet) (pe := 17) rfl (by decide +kernel) ?_
      show wB _ _ _ _ _ _ _ _ [.inl z, .inl 0, .inr (.inr (.inl 690))] _ _ _
      simp only [kpc_L_meet, w_if_eq, w_lc1, w_goto, true_and, and_true, Nat.reduceAdd, Nat.reduceSub, eq_self, tsw_690, tyw_41, tcw_1]
      refine ⟨by omega, fun q => ?_, fun q => nst _ M1 1 c1 c2⟩
      refine tb_L_meet_17 (c := false) ?_
      simp only [kb_L_meet_17, w_lc0, w_nil, true_and, and_true, Nat.reduceAdd, Nat.reduceSub, eq_self]
      exact nst _ M1 0 c1 c2
    · cases q
  · rintro x M1 n1 ⟨⟨⟨c1, c2⟩, c3⟩, hR⟩
    have c1 : CK M1 := ⟨c1, c3⟩
    have c2 := WE_p c2
    rcases hR with ⟨z, q, _⟩ | ⟨s, q, rfl, hs⟩
    · cases q
    · cases q
      rcases hs with rfl | rfl
      all_goals
        first
        | exact ⟨22, _, 5, 2, by decide +kernel, tblk_o kbl_L_meet kbs_L_meet (i := 3) (j := 0) rfl rfl, rfl, by decide +kernel, nh22 _ c1 c2⟩
        | exact ⟨26, _, 5, 2, by decide +kernel, tblk_o kbl_L_meet kbs_L_meet (i := 4) (j := 0) rfl rfl, rfl, by decide +kernel, nh26 _ c1 c2⟩
noncomputable def kpa_L_move : List (Nat × bO) := [(0, .aload 5, 0, 0, 0, 0), (2, .iconst 0, 0, 0, 0, 0), (3, .aload_n 0, 0, 0, 0, 0), (4, .iload_n 1, 0, 0, 0, 0), (5, .iload_n 2, 0, 0, 0, 0), (6, .iload_n 3, 0, 0, 0, 0), (7, .iload 4, 0, 0, 0, 0)]
noncomputable def kpc_L_move : List (Nat × bO) := [(12, .ifCond .eq 7, 0, 19, 0, 0), (15, .lconst 1, 0, 0, 0, 0), (16, .goto 4, 0, 20, 0, 0)]
noncomputable def kph_L_move_24 : List (Nat × bO) := [(26, .iconst 1, 0, 0, 0, 0), (27, .ireturn, 0, 0, 0, 0)]
noncomputable def kph_L_move_28 : List (Nat × bO) := [(30, .iconst 2, 0, 0, 0, 0), (31, .ireturn, 0, 0, 0, 0)]
noncomputable def kph_L_move_32 : List (Nat × bO) := [(34, .iconst 3, 0, 0, 0, 0), (35, .ireturn, 0, 0, 0, 0)]
noncomputable def kph_L_move_36 : List (Nat × bO) := [(38, .iconst 4, 0, 0, 0, 0), (39, .ireturn, 0, 0, 0, 0)]
noncomputable def kph_L_move_40 : List (Nat × bO) := [(42, .iconst 5, 0, 0, 0, 0), (43, .ireturn, 0, 0, 0, 0)]
noncomputable def kph_L_move_44 : List (Nat × bO) := [(46, .bipush 6, 0, 0, 0, 0), (48, .ireturn, 0, 0, 0, 0)]
theorem lw_move {p1 p2 p3 p4 : Int} (hC : CK M) (he : EK e) (h1 : -2147483648 ≤ p1 ∧ p1 ≤ 2147483647) (h2 : -2147483648 ≤ p2 ∧ p2 ≤ 2147483647) (h3 : -2147483648 ≤ p3 ∧ p3 ≤ 2147483647) (h4 : -2147483648 ≤ p4 ∧ p4 ≤ 2147483647) (hd : 12 ≤ d) : tC e d 3857 [.inr (.inr (.inl 0)), .inl p1, .inl p2, .inl p3, .inl p4, .inr (.inr (.inl 690))] M n (WQ n M) := by
  refine tst_L_move ?_
  obtain ⟨d', rfl⟩ : ∃ d', d = d' + 1 := ⟨d - 1, by omega⟩
  have nh24 : ∀ (M1 : tM), CK M1 → WE M M1 → tT e (d' + 1) 3857 (24 + 2) [] [] M1 (n + 1) (WQ n M) := by
    intro M1 c1 c2
    refine tblk_p kbl_L_move kbs_L_move (rk := 0) (c := false) (i := 3) rfl 1 2 (P := kph_L_move_24) (pe := 125) rfl (by decide +kernel) ?_
    simp only [kph_L_move_24, w_ic, w_ire, trg, true_and, and_true, Nat.reduceAdd, Nat.reduceSub, eq_self]
    exact ⟨⟨_, rfl⟩, ⟨Nat.le_succ _, Nat.le_refl _⟩, c1, c2⟩
  have nh28 : ∀ (M1 : tM), CK M1 → WE M M1 → tT e (d' + 1) 3857 (28 + 2) [] [] M1 (n + 1) (WQ n M) := by
    intro M1 c1 c2
    refine tblk_p kbl_L_move kbs_L_move (rk := 0) (c := false) (i := 4) rfl 1 2 (P := kph_L_move_28) (pe := 129) rfl (by decide +kernel) ?_
    simp only [kph_L_move_28, w_ic, w_ire, trg, true_and, and_true, Nat.reduceAdd, Nat.reduceSub, eq_self]
    exact ⟨⟨_, rfl⟩, ⟨Nat.le_succ _, Nat.le_refl _⟩, c1, c2⟩
  have nh32 : ∀ (M1 : tM), CK M1 → WE M M1 → tT e (d' + 1) 3857 (32 + 2) [] [] M1 (n + 1) (WQ n M) := by
    intro M1 c1 c2
    refine tblk_p kbl_L_move kbs_L_move (rk := 0) (c := false) (i := 5) rfl 1 2 (P := kph_L_move_32) (pe := 133) rfl (by decide +kernel) ?_
    simp only [kph_L_move_32, w_ic, w_ire, trg, true_and, and_true, Nat.reduceAdd, Nat.reduceSub, eq_self]
    exact ⟨⟨_, rfl⟩, ⟨Nat.le_succ _, Nat.le_refl _⟩, c1, c2⟩
  have nh36 : ∀ (M1 : tM), CK M1 → WE M M1 → tT e (d' + 1) 3857 (36 + 2) [] [] M1 (n + 1) (WQ n M) := by
    intro M1 c1 c2
    refine tblk_p kbl_L_move kbs_L_move (rk := 0) (c := false) (i := 6) rfl 1 2 (P := kph_L_move_36) (pe := 137) rfl (by decide +kernel) ?_
    simp only [kph_L_move_36, w_ic, w_ire, trg, true_and, and_true, Nat.reduceAdd, Nat.reduceSub, eq_self]
    exact ⟨⟨_, rfl⟩, ⟨Nat.le_succ _, Nat.le_refl _⟩, c1, c2⟩
  have nh40 : ∀ (M1 : tM), CK M1 → WE M M1 → tT e (d' + 1) 3857 (40 + 2) [] [] M1 (n + 1) (WQ n M) := by
    intro M1 c1 c2
    refine tblk_p kbl_L_move kbs_L_move (rk := 0) (c := false) (i := 7) rfl 1 2 (P := kph_L_move_40) (pe := 141) rfl (by decide +kernel) ?_
    simp only [kph_L_move_40, w_ic, w_ire, trg, true_and, and_true, Nat.reduceAdd, Nat.reduceSub, eq_self]
    exact ⟨⟨_, rfl⟩, ⟨Nat.le_succ _, Nat.le_refl _⟩, c1, c2⟩
  have nh44 : ∀ (M1 : tM), CK M1 → WE M M1 → tT e (d' + 1) 3857 (44 + 2) [] [] M1 (n + 1) (WQ n M) := by
    intro M1 c1 c2
    refine tblk_p kbl_L_move kbs_L_move (rk := 0) (c := false) (i := 8) rfl 1 2 (P := kph_L_move_44) (pe := 145) rfl (by decide +kernel) ?_
    simp only [kph_L_move_44, w_bi, w_ire, trg, true_and, and_true, Nat.reduceAdd, Nat.reduceSub, eq_self]
    exact ⟨⟨_, rfl⟩, ⟨Nat.le_succ _, Nat.le_refl _⟩, c1, c2⟩
  have nend : ∀ (L : tL) (M1 : tM) (v : Int), CK M1 → WE M M1 → tT e (d' + 1) 3857 49 L [] (tU M1 690 0 v) n (WQ n M) := by
    intro L M1 v c1 c2
    refine tb_L_move_49 (c := false) ?_
    simp only [kb_L_move_49, w_ic, w_ire, trg, true_and, and_true, Nat.reduceAdd, Nat.reduceSub, eq_self]
    exact ⟨⟨_, rfl⟩, ⟨Nat.le_refl _, Nat.le_succ _⟩, CK_690 c1, WE_tr c2 WE_690⟩
  have nst : ∀ (L : tL) (M1 : tM) (v : Int), CK M1 → WE M M1 → tT e (d' + 1) 3857 20 L [.inr (.inl v), .inl 0, .inr (.inr (.inl 690))] M1 n (WQ n M) := by
    intro L M1 v c1 c2
    refine tb_L_move_20 (c := false) ?_
    simp only [kb_L_move_20, w_las, w_goto, true_and, and_true, Nat.reduceAdd, Nat.reduceSub, eq_self, tsw_690, tyw_41, tcw_1]
    exact ⟨by omega, nend _ M1 v c1 c2⟩
  refine tblk_p kbl_L_move kbs_L_move (rk := 0) (c := false) (i := 0) rfl 0 7 (P := kpa_L_move) (pe := 9) rfl (by decide +kernel) ?_
  simp only [kpa_L_move, w_ald5, w_ic, w_ald_0, w_ild_1, w_ild_2, w_ild_3, w_ild4, w_nil, true_and, and_true, Nat.reduceAdd, Nat.reduceSub, eq_self]
  refine tT_catch (pc := 9) (tblk_o kbl_L_move kbs_L_move (i := 0) (j := 7) rfl rfl) rfl sh0a sh0b rfl (kv he.2.2.2 (k_X11_move (b := 0) cl_0 h1 h2 h3 h4 he.1 (by omega) (by omega)) (KA_x (v_move h1 h2 h3 h4 he.2.1 hC.2 hC.1 (by omega))) hC.1) ?_ ?_
  · rintro v M1 n1 ⟨⟨⟨c1, c2⟩, c3⟩, hR⟩
    have c1 : CK M1 := ⟨c1, c3⟩
    have c2 := WE_p c2
    rcases hR with ⟨z, q, rfl, hz⟩ | ⟨s, q, _⟩
    · cases q
      refine tblk_p kbl_L_move kbs_L_move (rk := 0) (c := false) (i := 0) rfl 8 3 (P := kpc_L_move) (pe := 19) rfl (by decide +kernel) ?_
      show wB _ _ _ _ _ _ _ _ [.inl z, .inl 0, .inr (.inr (.inl 690))] _ _ _
      simp only [kpc_L_move, w_if_eq, w_lc1, w_goto, true_and, and_true, Nat.reduceAdd, Nat.reduceSub, eq_self, tsw_690, tyw_41, tcw_1]
      refine ⟨by omega, fun q => ?_, fun q => nst _ M1 1 c1 c2⟩
      refine tb_L_move_19 (c := false) ?_
      simp only [kb_L_move_19, w_lc0, w_nil, true_and, and_true, Nat.reduceAdd, Nat.reduceSub, eq_self]
      exact nst _ M1 0 c1 c2
    · cases q
  · rintro x M1 n1 ⟨⟨⟨c1, c2⟩, c3⟩, hR⟩
    have c1 : CK M1 := ⟨c1, c3⟩
    have c2 := WE_p c2
    rcases hR with ⟨z, q, _⟩ | ⟨s, q, rfl, hs⟩
    · cases q
    · cases q
      rcases hs with rfl | rfl | rfl | rfl | rfl | rfl
      all_goals
        first
        | exact ⟨24, _, 6, 2, by decide +kernel, tblk_o kbl_L_move kbs_L_move (i := 3) (j := 0) rfl rfl, rfl, by decide +kernel, nh24 _ c1 c2⟩
        | exact ⟨28, _, 6, 2, by decide +kernel, tblk_o kbl_L_move kbs_L_move (i := 4) (j := 0) rfl rfl, rfl, by decide +kernel, nh28 _ c1 c2⟩
        | exact ⟨32, _, 6, 2, by decide +kernel, tblk_o kbl_L_move kbs_L_move (i := 5) (j := 0) rfl rfl, rfl, by decide +kernel, nh32 _ c1 c2⟩
        | exact ⟨36, _, 6, 2, by decide +kernel, tblk_o kbl_L_move kbs_L_move (i := 6) (j := 0) rfl rfl, rfl, by decide +kernel, nh36 _ c1 c2⟩
        | exact ⟨40, _, 6, 2, by decide +kernel, tblk_o kbl_L_move kbs_L_move (i := 7) (j := 0) rfl rfl, rfl, by decide +kernel, nh40 _ c1 c2⟩
        | exact ⟨44, _, 6, 2, by decide +kernel, tblk_o kbl_L_move kbs_L_move (i := 8) (j := 0) rfl rfl, rfl, by decide +kernel, nh44 _ c1 c2⟩
noncomputable def kpa_L_multiply : List (Nat × bO) := [(0, .aload 4, 0, 0, 0, 0), (2, .iconst 0, 0, 0, 0, 0), (3, .aload_n 0, 0, 0, 0, 0), (4, .iload_n 1, 0, 0, 0, 0), (5, .iload_n 2, 0, 0, 0, 0), (6, .iload_n 3, 0, 0, 0, 0)]
noncomputable def kpc_L_multiply : List (Nat × bO) := [(10, .ifCond .eq 7, 0, 17, 0, 0), (13, .lconst 1, 0, 0, 0, 0), (14, .goto 4, 0, 18, 0, 0)]
noncomputable def kph_L_multiply_22 : List (Nat × bO) := [(24, .iconst 1, 0, 0, 0, 0), (25, .ireturn, 0, 0, 0, 0)]
noncomputable def kph_L_multiply_26 : List (Nat × bO) := [(28, .iconst 2, 0, 0, 0, 0), (29, .ireturn, 0, 0, 0, 0)]
noncomputable def kph_L_multiply_30 : List (Nat × bO) := [(32, .iconst 3, 0, 0, 0, 0), (33, .ireturn, 0, 0, 0, 0)]
theorem lw_multiply {p1 p2 p3 : Int} (hC : CK M) (he : EK e) (h1 : -2147483648 ≤ p1 ∧ p1 ≤ 2147483647) (h2 : -2147483648 ≤ p2 ∧ p2 ≤ 2147483647) (h3 : -2147483648 ≤ p3 ∧ p3 ≤ 2147483647) (hd : 12 ≤ d) : tC e d 3858 [.inr (.inr (.inl 0)), .inl p1, .inl p2, .inl p3, .inr (.inr (.inl 690))] M n (WQ n M) := by
  refine tst_L_multiply ?_
  obtain ⟨d', rfl⟩ : ∃ d', d = d' + 1 := ⟨d - 1, by omega⟩
  have nh22 : ∀ (M1 : tM), CK M1 → WE M M1 → tT e (d' + 1) 3858 (22 + 2) [] [] M1 (n + 1) (WQ n M) := by
    intro M1 c1 c2
    refine tblk_p kbl_L_multiply kbs_L_multiply (rk := 0) (c := false) (i := 3) rfl 1 2 (P := kph_L_multiply_22) (pe := 123) rfl (by decide +kernel) ?_
    simp only [kph_L_multiply_22, w_ic, w_ire, trg, true_and, and_true, Nat.reduceAdd, Nat.reduceSub, eq_self]
    exact ⟨⟨_, rfl⟩, ⟨Nat.le_succ _, Nat.le_refl _⟩, c1, c2⟩
  have nh26 : ∀ (M1 : tM), CK M1 → WE M M1 → tT e (d' + 1) 3858 (26 + 2) [] [] M1 (n + 1) (WQ n M) := by
    intro M1 c1 c2
    refine tblk_p kbl_L_multiply kbs_L_multiply (rk := 0) (c := false) (i := 4) rfl 1 2 (P := kph_L_multiply_26) (pe := 127) rfl (by decide +kernel) ?_
    simp only [kph_L_multiply_26, w_ic, w_ire, trg, true_and, and_true, Nat.reduceAdd, Nat.reduceSub, eq_self]
    exact ⟨⟨_, rfl⟩, ⟨Nat.le_succ _, Nat.le_refl _⟩, c1, c2⟩
  have nh30 : ∀ (M1 : tM), CK M1 → WE M M1 → tT e (d' + 1) 3858 (30 + 2) [] [] M1 (n + 1) (WQ n M) := by
    intro M1 c1 c2
    refine tblk_p kbl_L_multiply kbs_L_multiply (rk := 0) (c := false) (i := 5) rfl 1 2 (P := kph_L_multiply_30) (pe := 131) rfl (by decide +kernel) ?_
    simp only [kph_L_multiply_30, w_ic, w_ire, trg, true_and, and_true, Nat.reduceAdd, Nat.reduceSub, eq_self]
    exact ⟨⟨_, rfl⟩, ⟨Nat.le_succ _, Nat.le_refl _⟩, c1, c2⟩
  have nend : ∀ (L : tL) (M1 : tM) (v : Int), CK M1 → WE M M1 → tT e (d' + 1) 3858 34 L [] (tU M1 690 0 v) n (WQ n M) := by
    intro L M1 v c1 c2
    refine tb_L_multiply_34 (c := false) ?_
    simp only [kb_L_multiply_34, w_ic, w_ire, trg, true_and, and_true, Nat.reduceAdd, Nat.reduceSub, eq_self]
    exact ⟨⟨_, rfl⟩, ⟨Nat.le_refl _, Nat.le_succ _⟩, CK_690 c1, WE_tr c2 WE_690⟩
  have nst : ∀ (L : tL) (M1 : tM) (v : Int), CK M1 → WE M M1 → tT e (d' + 1) 3858 18 L [.inr (.inl v), .inl 0, .inr (.inr (.inl 690))] M1 n (WQ n M) := by
    intro L M1 v c1 c2
    refine tb_L_multiply_18 (c := false) ?_
    simp only [kb_L_multiply_18, w_las, w_goto, true_and, and_true, Nat.reduceAdd, Nat.reduceSub, eq_self, tsw_690, tyw_41, tcw_1]
    exact ⟨by omega, nend _ M1 v c1 c2⟩
  refine tblk_p kbl_L_multiply kbs_L_multiply (rk := 0) (c := false) (i := 0) rfl 0 6 (P := kpa_L_multiply) (pe := 7) rfl (by decide +kernel) ?_
  simp only [kpa_L_multiply, w_ald4, w_ic, w_ald_0, w_ild_1, w_ild_2, w_ild_3, w_nil, true_and, and_true, Nat.reduceAdd, Nat.reduceSub, eq_self]
  refine tT_catch (pc := 7) (tblk_o kbl_L_multiply kbs_L_multiply (i := 0) (j := 6) rfl rfl) rfl sh0a sh0b rfl (kv he.2.2.2 (k_X11_multiply (b := 0) cl_0 h1 h2 h3 he.1 (by omega) (by omega)) (KA_x (v_multiply h1 h2 h3 he.2.1 hC.2 hC.1 (by omega))) hC.1) ?_ ?_
  · rintro v M1 n1 ⟨⟨⟨c1, c2⟩, c3⟩, hR⟩
    have c1 : CK M1 := ⟨c1, c3⟩
    have c2 := WE_p c2
    rcases hR with ⟨z, q, rfl, hz⟩ | ⟨s, q, _⟩
    · cases q
      refine tblk_p kbl_L_multiply kbs_L_multiply (rk := 0) (c := false) (i := 0) rfl 7 3 (P := kpc_L_multiply) (pe := 17) rfl (by decide +kernel) ?_
      show wB _ _ _ _ _ _ _ _ [.inl z, .inl 0, .inr (.inr (.inl 690))] _ _ _
      simp only [kpc_L_multiply, w_if_eq, w_lc1, w_goto, true_and, and_true, Nat.reduceAdd, Nat.reduceSub, eq_self, tsw_690, tyw_41, tcw_1]
      refine ⟨by omega, fun q => ?_, fun q => nst _ M1 1 c1 c2⟩
      refine tb_L_multiply_17 (c := false) ?_
      simp only [kb_L_multiply_17, w_lc0, w_nil, true_and, and_true, Nat.reduceAdd, Nat.reduceSub, eq_self]
      exact nst _ M1 0 c1 c2
    · cases q
  · rintro x M1 n1 ⟨⟨⟨c1, c2⟩, c3⟩, hR⟩
    have c1 : CK M1 := ⟨c1, c3⟩
    have c2 := WE_p c2
    rcases hR with ⟨z, q, _⟩ | ⟨s, q, rfl, hs⟩
    · cases q
    · cases q
      rcases hs with rfl | rfl | rfl
      all_goals
        first
        | exact ⟨22, _, 5, 2, by decide +kernel, tblk_o kbl_L_multiply kbs_L_multiply (i := 3) (j := 0) rfl rfl, rfl, by decide +kernel, nh22 _ c1 c2⟩
        | exact ⟨26, _, 5, 2, by decide +kernel, tblk_o kbl_L_multiply kbs_L_multiply (i := 4) (j := 0) rfl rfl, rfl, by decide +kernel, nh26 _ c1 c2⟩
        | exact ⟨30, _, 5, 2, by decide +kernel, tblk_o kbl_L_multiply kbs_L_multiply (i := 5) (j := 0) rfl rfl, rfl, by decide +kernel, nh30 _ c1 c2⟩
noncomputable def kpa_L_narrow : List (Nat × bO) := [(0, .aload 4, 0, 0, 0, 0), (2, .iconst 0, 0, 0, 0, 0), (3, .aload_n 0, 0, 0, 0, 0), (4, .iload_n 1, 0, 0, 0, 0), (5, .iload_n 2, 0, 0, 0, 0), (6, .iload_n 3, 0, 0, 0, 0)]
noncomputable def kpc_L_narrow : List (Nat × bO) := [(10, .ifCond .eq 7, 0, 17, 0, 0), (13, .lconst 1, 0, 0, 0, 0), (14, .goto 4, 0, 18, 0, 0)]
noncomputable def kph_L_narrow_22 : List (Nat × bO) := [(24, .iconst 1, 0, 0, 0, 0), (25, .ireturn, 0, 0, 0, 0)]
noncomputable def kph_L_narrow_26 : List (Nat × bO) := [(28, .iconst 2, 0, 0, 0, 0), (29, .ireturn, 0, 0, 0, 0)]
noncomputable def kph_L_narrow_30 : List (Nat × bO) := [(32, .iconst 3, 0, 0, 0, 0), (33, .ireturn, 0, 0, 0, 0)]
noncomputable def kph_L_narrow_34 : List (Nat × bO) := [(36, .iconst 4, 0, 0, 0, 0), (37, .ireturn, 0, 0, 0, 0)]
noncomputable def kph_L_narrow_38 : List (Nat × bO) := [(40, .iconst 5, 0, 0, 0, 0), (41, .ireturn, 0, 0, 0, 0)]
theorem lw_narrow {p1 p2 p3 : Int} (hC : CK M) (he : EK e) (h1 : -2147483648 ≤ p1 ∧ p1 ≤ 2147483647) (h2 : -2147483648 ≤ p2 ∧ p2 ≤ 2147483647) (h3 : -2147483648 ≤ p3 ∧ p3 ≤ 2147483647) (hd : 12 ≤ d) : tC e d 3859 [.inr (.inr (.inl 0)), .inl p1, .inl p2, .inl p3, .inr (.inr (.inl 690))] M n (WQ n M) := by
  refine tst_L_narrow ?_
  obtain ⟨d', rfl⟩ : ∃ d', d = d' + 1 := ⟨d - 1, by omega⟩
  have nh22 : ∀ (M1 : tM), CK M1 → WE M M1 → tT e (d' + 1) 3859 (22 + 2) [] [] M1 (n + 1) (WQ n M) := by
    intro M1 c1 c2
    refine tblk_p kbl_L_narrow kbs_L_narrow (rk := 0) (c := false) (i := 3) rfl 1 2 (P := kph_L_narrow_22) (pe := 123) rfl (by decide +kernel) ?_
    simp only [kph_L_narrow_22, w_ic, w_ire, trg, true_and, and_true, Nat.reduceAdd, Nat.reduceSub, eq_self]
    exact ⟨⟨_, rfl⟩, ⟨Nat.le_succ _, Nat.le_refl _⟩, c1, c2⟩
  have nh26 : ∀ (M1 : tM), CK M1 → WE M M1 → tT e (d' + 1) 3859 (26 + 2) [] [] M1 (n + 1) (WQ n M) := by
    intro M1 c1 c2
    refine tblk_p kbl_L_narrow kbs_L_narrow (rk := 0) (c := false) (i := 4) rfl 1 2 (P := kph_L_narrow_26) (pe := 127) rfl (by decide +kernel) ?_
    simp only [kph_L_narrow_26, w_ic, w_ire, trg, true_and, and_true, Nat.reduceAdd, Nat.reduceSub, eq_self]
    exact ⟨⟨_, rfl⟩, ⟨Nat.le_succ _, Nat.le_refl _⟩, c1, c2⟩
  have nh30 : ∀ (M1 : tM), CK M1 → WE M M1 → tT e (d' + 1) 3859 (30 + 2) [] [] M1 (n + 1) (WQ n M) := by
    intro M1 c1 c2
    refine tblk_p kbl_L_narrow kbs_L_narrow (rk := 0) (c := false) (i := 5) rfl 1 2 (P := kph_L_narrow_30) (pe := 131) rfl (by decide +kernel) ?_
    simp only [kph_L_narrow_30, w_ic, w_ire, trg, true_and, and_true, Nat.reduceAdd, Nat.reduceSub, eq_self]
    exact ⟨⟨_, rfl⟩, ⟨Nat.le_succ _, Nat.le_refl _⟩, c1, c2⟩
  have nh34 : ∀ (M1 : tM), CK M1 → WE M M1 → tT e (d' + 1) 3859 (34 + 2) [] [] M1 (n + 1) (WQ n M) := by
    intro M1 c1 c2
    refine tblk_p kbl_L_narrow kbs_L_narrow (rk := 0) (c := false) (i := 6) rfl 1 2 (P := kph_L_narrow_34) (pe := 135) rfl (by decide +kernel) ?_
    simp only [kph_L_narrow_34, w_ic, w_ire, trg, true_and, and_true, Nat.reduceAdd, Nat.reduceSub, eq_self]
    exact ⟨⟨_, rfl⟩, ⟨Nat.le_succ _, Nat.le_refl _⟩, c1, c2⟩
  have nh38 : ∀ (M1 : tM), CK M1 → WE M M1 → tT e (d' + 1) 3859 (38 + 2) [] [] M1 (n + 1) (WQ n M) := by
    intro M1 c1 c2
    refine tblk_p kbl_L_narrow kbs_L_narrow (rk := 0) (c := false) (i := 7) rfl 1 2 (P := kph_L_narrow_38) (pe := 139) rfl (by decide +kernel) ?_
    simp only [kph_L_narrow_38, w_ic, w_ire, trg, true_and, and_true, Nat.reduceAdd, Nat.reduceSub, eq_self]
    exact ⟨⟨_, rfl⟩, ⟨Nat.le_succ _, Nat.le_refl _⟩, c1, c2⟩
  have nend : ∀ (L : tL) (M1 : tM) (v : Int), CK M1 → WE M M1 → tT e (d' + 1) 3859 42 L [] (tU M1 690 0 v) n (WQ n M) := by
    intro L M1 v c1 c2
    refine tb_L_narrow_42 (c := false) ?_
    simp only [kb_L_narrow_42, w_ic, w_ire, trg, true_and, and_true, Nat.reduceAdd, Nat.reduceSub, eq_self]
    exact ⟨⟨_, rfl⟩, ⟨Nat.le_refl _, Nat.le_succ _⟩, CK_690 c1, WE_tr c2 WE_690⟩
  have nst : ∀ (L : tL) (M1 : tM) (v : Int), CK M1 → WE M M1 → tT e (d' + 1) 3859 18 L [.inr (.inl v), .inl 0, .inr (.inr (.inl 690))] M1 n (WQ n M) := by
    intro L M1 v c1 c2
    refine tb_L_narrow_18 (c := false) ?_
    simp only [kb_L_narrow_18, w_las, w_goto, true_and, and_true, Nat.reduceAdd, Nat.reduceSub, eq_self, tsw_690, tyw_41, tcw_1]
    exact ⟨by omega, nend _ M1 v c1 c2⟩
  refine tblk_p kbl_L_narrow kbs_L_narrow (rk := 0) (c := false) (i := 0) rfl 0 6 (P := kpa_L_narrow) (pe := 7) rfl (by decide +kernel) ?_
  simp only [kpa_L_narrow, w_ald4, w_ic, w_ald_0, w_ild_1, w_ild_2, w_ild_3, w_nil, true_and, and_true, Nat.reduceAdd, Nat.reduceSub, eq_self]
  refine tT_catch (pc := 7) (tblk_o kbl_L_narrow kbs_L_narrow (i := 0) (j := 6) rfl rfl) rfl sh0a sh0b rfl (kv he.2.2.2 (k_X11_narrow (b := 0) cl_0 h1 h2 h3 he.1 (by omega) (by omega)) (KA_x (v_narrow h1 h2 h3 he.2.1 he.2.2.1 hC.2 hC.1 (by omega))) hC.1) ?_ ?_
  · rintro v M1 n1 ⟨⟨⟨c1, c2⟩, c3⟩, hR⟩
    have c1 : CK M1 := ⟨c1, c3⟩
    have c2 := WE_p c2
    rcases hR with ⟨z, q, rfl, hz⟩ | ⟨s, q, _⟩
    · cases q
      refine tblk_p kbl_L_narrow kbs_L_narrow (rk := 0) (c := false) (i := 0) rfl 7 3 (P := kpc_L_narrow) (pe := 17) rfl (by decide +kernel) ?_
      show wB _ _ _ _ _ _ _ _ [.inl z, .inl 0, .inr (.inr (.inl 690))] _ _ _
      simp only [kpc_L_narrow, w_if_eq, w_lc1, w_goto, true_and, and_true, Nat.reduceAdd, Nat.reduceSub, eq_self, tsw_690, tyw_41, tcw_1]
      refine ⟨by omega, fun q => ?_, fun q => nst _ M1 1 c1 c2⟩
      refine tb_L_narrow_17 (c := false) ?_
      simp only [kb_L_narrow_17, w_lc0, w_nil, true_and, and_true, Nat.reduceAdd, Nat.reduceSub, eq_self]
      exact nst _ M1 0 c1 c2
    · cases q
  · rintro x M1 n1 ⟨⟨⟨c1, c2⟩, c3⟩, hR⟩
    have c1 : CK M1 := ⟨c1, c3⟩
    have c2 := WE_p c2
    rcases hR with ⟨z, q, _⟩ | ⟨s, q, rfl, hs⟩
    · cases q
    · cases q
      rcases hs with rfl | rfl | rfl | rfl | rfl
      all_goals
        first
        | exact ⟨22, _, 5, 2, by decide +kernel, tblk_o kbl_L_narrow kbs_L_narrow (i := 3) (j := 0) rfl rfl, rfl, by decide +kernel, nh22 _ c1 c2⟩
        | exact ⟨26, _, 5, 2, by decide +kernel, tblk_o kbl_L_narrow kbs_L_narrow (i := 4) (j := 0) rfl rfl, rfl, by decide +kernel, nh26 _ c1 c2⟩
        | exact ⟨30, _, 5, 2, by decide +kernel, tblk_o kbl_L_narrow kbs_L_narrow (i := 5) (j := 0) rfl rfl, rfl, by decide +kernel, nh30 _ c1 c2⟩
        | exact ⟨34, _, 5, 2, by decide +kernel, tblk_o kbl_L_narrow kbs_L_narrow (i := 6) (j := 0) rfl rfl, rfl, by decide +kernel, nh34 _ c1 c2⟩
        | exact ⟨38, _, 5, 2, by decide +kernel, tblk_o kbl_L_narrow kbs_L_narrow (i := 7) (j := 0) rfl rfl, rfl, by decide +kernel, nh38 _ c1 c2⟩
noncomputable def kpa_L_pairs : List (Nat × bO) := [(0, .aload 6, 0, 0, 0, 0), (2, .iconst 0, 0, 0, 0, 0), (3, .aload_n 0, 0, 0, 0, 0), (4, .iload_n 1, 0, 0, 0, 0), (5, .iload_n 2, 0, 0, 0, 0), (6, .iload_n 3, 0, 0, 0, 0), (7, .iload 4, 0, 0, 0, 0), (9, .iload 5, 0, 0, 0, 0)]
noncomputable def kpc_L_pairs : List (Nat × bO) := [(14, .i2l, 0, 0, 0, 0), (15, .lastore, 0, 0, 0, 0), (16, .goto 15, 0, 31, 0, 0)]
noncomputable def kph_L_pairs_19 : List (Nat × bO) := [(21, .iconst 1, 0, 0, 0, 0), (22, .ireturn, 0, 0, 0, 0)]
noncomputable def kph_L_pairs_23 : List (Nat × bO) := [(25, .iconst 2, 0, 0, 0, 0), (26, .ireturn, 0, 0, 0, 0)]
noncomputable def kph_L_pairs_27 : List (Nat × bO) := [(29, .iconst 3, 0, 0, 0, 0), (30, .ireturn, 0, 0, 0, 0)]
theorem lw_pairs {p1 p2 p3 p4 p5 : Int} (hC : CK M) (he : EK e) (h1 : -2147483648 ≤ p1 ∧ p1 ≤ 2147483647) (h2 : -2147483648 ≤ p2 ∧ p2 ≤ 2147483647) (h3 : -2147483648 ≤ p3 ∧ p3 ≤ 2147483647) (h4 : -2147483648 ≤ p4 ∧ p4 ≤ 2147483647) (h5 : -2147483648 ≤ p5 ∧ p5 ≤ 2147483647) (hd : 12 ≤ d) : tC e d 3860 [.inr (.inr (.inl 0)), .inl p1, .inl p2, .inl p3, .inl p4, .inl p5, .inr (.inr (.inl 690))] M n (WQ n M) := by
  refine tst_L_pairs ?_
  obtain ⟨d', rfl⟩ : ∃ d', d = d' + 1 := ⟨d - 1, by omega⟩
  have nh19 : ∀ (M1 : tM), CK M1 → WE M M1 → tT e (d' + 1) 3860 (19 + 2) [] [] M1 (n + 1) (WQ n M) := by
    intro M1 c1 c2
    refine tblk_p kbl_L_pairs kbs_L_pairs (rk := 0) (c := false) (i := 1) rfl 1 2 (P := kph_L_pairs_19) (pe := 120) rfl (by decide +kernel) ?_
    simp only [kph_L_pairs_19, w_ic, w_ire, trg, true_and, and_true, Nat.reduceAdd, Nat.reduceSub, eq_self]
    exact ⟨⟨_, rfl⟩, ⟨Nat.le_succ _, Nat.le_refl _⟩, c1, c2⟩
  have nh23 : ∀ (M1 : tM), CK M1 → WE M M1 → tT e (d' + 1) 3860 (23 + 2) [] [] M1 (n + 1) (WQ n M) := by
    intro M1 c1 c2
    refine tblk_p kbl_L_pairs kbs_L_pairs (rk := 0) (c := false) (i := 2) rfl 1 2 (P := kph_L_pairs_23) (pe := 124) rfl (by decide +kernel) ?_
    simp only [kph_L_pairs_23, w_ic, w_ire, trg, true_and, and_true, Nat.reduceAdd, Nat.reduceSub, eq_self]
    exact ⟨⟨_, rfl⟩, ⟨Nat.le_succ _, Nat.le_refl _⟩, c1, c2⟩
  have nh27 : ∀ (M1 : tM), CK M1 → WE M M1 → tT e (d' + 1) 3860 (27 + 2) [] [] M1 (n + 1) (WQ n M) := by
    intro M1 c1 c2
    refine tblk_p kbl_L_pairs kbs_L_pairs (rk := 0) (c := false) (i := 3) rfl 1 2 (P := kph_L_pairs_27) (pe := 128) rfl (by decide +kernel) ?_
    simp only [kph_L_pairs_27, w_ic, w_ire, trg, true_and, and_true, Nat.reduceAdd, Nat.reduceSub, eq_self]
    exact ⟨⟨_, rfl⟩, ⟨Nat.le_succ _, Nat.le_refl _⟩, c1, c2⟩
  have nend : ∀ (L : tL) (M1 : tM) (v : Int), CK M1 → WE M M1 → tT e (d' + 1) 3860 31 L [] (tU M1 690 0 v) n (WQ n M) := by
    intro L M1 v c1 c2
    refine tb_L_pairs_31 (c := false) ?_
    simp only [kb_L_pairs_31, w_ic, w_ire, trg, true_and, and_true, Nat.reduceAdd, Nat.reduceSub, eq_self]
    exact ⟨⟨_, rfl⟩, ⟨Nat.le_refl _, Nat.le_succ _⟩, CK_690 c1, WE_tr c2 WE_690⟩
  refine tblk_p kbl_L_pairs kbs_L_pairs (rk := 0) (c := false) (i := 0) rfl 0 8 (P := kpa_L_pairs) (pe := 11) rfl (by decide +kernel) ?_
  simp only [kpa_L_pairs, w_ald6, w_ic, w_ald_0, w_ild_1, w_ild_2, w_ild_3, w_ild4, w_ild5, w_nil, true_and, and_true, Nat.reduceAdd, Nat.reduceSub, eq_self]
  refine tT_catch (pc := 11) (tblk_o kbl_L_pairs kbs_L_pairs (i := 0) (j := 8) rfl rfl) rfl sh0a sh0b rfl (kv he.2.2.2 (k_X11_pairs (b := 0) cl_0 h1 h2 h3 h4 h5 he.1 (by omega) (by omega)) (KA_x (v_pairs h1 h2 h3 h4 h5 he.2.1 hC.2 hC.1 (by omega))) hC.1) ?_ ?_
  · rintro v M1 n1 ⟨⟨⟨c1, c2⟩, c3⟩, hR⟩
    have c1 : CK M1 := ⟨c1, c3⟩
    have c2 := WE_p c2
    rcases hR with ⟨z, q, rfl, hz⟩ | ⟨s, q, _⟩
    · cases q
      refine tblk_p kbl_L_pairs kbs_L_pairs (rk := 0) (c := false) (i := 0) rfl 9 3 (P := kpc_L_pairs) (pe := 19) rfl (by decide +kernel) ?_
      show wB _ _ _ _ _ _ _ _ [.inl z, .inl 0, .inr (.inr (.inl 690))] _ _ _
      simp only [kpc_L_pairs, w_i2l, w_las, w_goto, true_and, and_true, Nat.reduceAdd, Nat.reduceSub, eq_self, tsw_690, tyw_41, tcw_1]
      exact ⟨by omega, by omega, nend _ M1 z c1 c2⟩
    · cases q
  · rintro x M1 n1 ⟨⟨⟨c1, c2⟩, c3⟩, hR⟩
    have c1 : CK M1 := ⟨c1, c3⟩
    have c2 := WE_p c2
    rcases hR with ⟨z, q, _⟩ | ⟨s, q, rfl, hs⟩
    · cases q
    · cases q
      rcases hs with rfl | rfl | rfl
      all_goals
        first
        | exact ⟨19, _, 7, 2, by decide +kernel, tblk_o kbl_L_pairs kbs_L_pairs (i := 1) (j := 0) rfl rfl, rfl, by decide +kernel, nh19 _ c1 c2⟩
        | exact ⟨23, _, 7, 2, by decide +kernel, tblk_o kbl_L_pairs kbs_L_pairs (i := 2) (j := 0) rfl rfl, rfl, by decide +kernel, nh23 _ c1 c2⟩
        | exact ⟨27, _, 7, 2, by decide +kernel, tblk_o kbl_L_pairs kbs_L_pairs (i := 3) (j := 0) rfl rfl, rfl, by decide +kernel, nh27 _ c1 c2⟩
noncomputable def kpa_L_piece : List (Nat × bO) := [(0, .aload_n 3, 0, 0, 0, 0), (1, .iconst 0, 0, 0, 0, 0), (2, .aload_n 0, 0, 0, 0, 0), (3, .iload_n 1, 0, 0, 0, 0), (4, .iload_n 2, 0, 0, 0, 0)]
noncomputable def kpc_L_piece : List (Nat × bO) := [(8, .ifCond .eq 7, 0, 15, 0, 0), (11, .lconst 1, 0, 0, 0, 0), (12, .goto 4, 0, 16, 0, 0)]
noncomputable def kph_L_piece_20 : List (Nat × bO) := [(22, .iconst 1, 0, 0, 0, 0), (23, .ireturn, 0, 0, 0, 0)]
noncomputable def kph_L_piece_24 : List (Nat × bO) := [(26, .iconst 2, 0, 0, 0, 0), (27, .ireturn, 0, 0, 0, 0)]
theorem lw_piece {p1 p2 : Int} (hC : CK M) (he : EK e) (h1 : -2147483648 ≤ p1 ∧ p1 ≤ 2147483647) (h2 : -2147483648 ≤ p2 ∧ p2 ≤ 2147483647) (hd : 12 ≤ d) : tC e d 3861 [.inr (.inr (.inl 0)), .inl p1, .inl p2, .inr (.inr (.inl 690))] M n (WQ n M) := by
  refine tst_L_piece ?_
  obtain ⟨d', rfl⟩ : ∃ d', d = d' + 1 := ⟨d - 1, by omega⟩
  have nh20 : ∀ (M1 : tM), CK M1 → WE M M1 → tT e (d' + 1) 3861 (20 + 2) [] [] M1 (n + 1) (WQ n M) := by
    intro M1 c1 c2
    refine tblk_p kbl_L_piece kbs_L_piece (rk := 0) (c := false) (i := 3) rfl 1 2 (P := kph_L_piece_20) (pe := 121) rfl (by decide +kernel) ?_
    simp only [kph_L_piece_20, w_ic, w_ire, trg, true_and, and_true, Nat.reduceAdd, Nat.reduceSub, eq_self]
    exact ⟨⟨_, rfl⟩, ⟨Nat.le_succ _, Nat.le_refl _⟩, c1, c2⟩
  have nh24 : ∀ (M1 : tM), CK M1 → WE M M1 → tT e (d' + 1) 3861 (24 + 2) [] [] M1 (n + 1) (WQ n M) := by
    intro M1 c1 c2
    refine tblk_p kbl_L_piece kbs_L_piece (rk := 0) (c := false) (i := 4) rfl 1 2 (P := kph_L_piece_24) (pe := 125) rfl (by decide +kernel) ?_
    simp only [kph_L_piece_24, w_ic, w_ire, trg, true_and, and_true, Nat.reduceAdd, Nat.reduceSub, eq_self]
    exact ⟨⟨_, rfl⟩, ⟨Nat.le_succ _, Nat.le_refl _⟩, c1, c2⟩
  have nend : ∀ (L : tL) (M1 : tM) (v : Int), CK M1 → WE M M1 → tT e (d' + 1) 3861 28 L [] (tU M1 690 0 v) n (WQ n M) := by
    intro L M1 v c1 c2
    refine tb_L_piece_28 (c := false) ?_
    simp only [kb_L_piece_28, w_ic, w_ire, trg, true_and, and_true, Nat.reduceAdd, Nat.reduceSub, eq_self]
    exact ⟨⟨_, rfl⟩, ⟨Nat.le_refl _, Nat.le_succ _⟩, CK_690 c1, WE_tr c2 WE_690⟩
  have nst : ∀ (L : tL) (M1 : tM) (v : Int), CK M1 → WE M M1 → tT e (d' + 1) 3861 16 L [.inr (.inl v), .inl 0, .inr (.inr (.inl 690))] M1 n (WQ n M) := by
    intro L M1 v c1 c2
    refine tb_L_piece_16 (c := false) ?_
    simp only [kb_L_piece_16, w_las, w_goto, true_and, and_true, Nat.reduceAdd, Nat.reduceSub, eq_self, tsw_690, tyw_41, tcw_1]
    exact ⟨by omega, nend _ M1 v c1 c2⟩
  refine tblk_p kbl_L_piece kbs_L_piece (rk := 0) (c := false) (i := 0) rfl 0 5 (P := kpa_L_piece) (pe := 5) rfl (by decide +kernel) ?_
  simp only [kpa_L_piece, w_ald_3, w_ic, w_ald_0, w_ild_1, w_ild_2, w_nil, true_and, and_true, Nat.reduceAdd, Nat.reduceSub, eq_self]
  refine tT_catch (pc := 5) (tblk_o kbl_L_piece kbs_L_piece (i := 0) (j := 5) rfl rfl) rfl sh0a sh0b rfl (kv he.2.2.2 (k_X11_piece (b := 0) cl_0 h1 h2 (by omega) (by omega)) (KA_x (v_piece h1 h2 hC.2 hC.1 (by omega))) hC.1) ?_ ?_
  · rintro v M1 n1 ⟨⟨⟨c1, c2⟩, c3⟩, hR⟩
    have c1 : CK M1 := ⟨c1, c3⟩
    have c2 := WE_p c2
    rcases hR with ⟨z, q, rfl, hz⟩ | ⟨s, q, _⟩
    · cases q
      refine tblk_p kbl_L_piece kbs_L_piece (rk := 0) (c := false) (i := 0) rfl 6 3 (P := kpc_L_piece) (pe := 15) rfl (by decide +kernel) ?_
      show wB _ _ _ _ _ _ _ _ [.inl z, .inl 0, .inr (.inr (.inl 690))] _ _ _
      simp only [kpc_L_piece, w_if_eq, w_lc1, w_goto, true_and, and_true, Nat.reduceAdd, Nat.reduceSub, eq_self, tsw_690, tyw_41, tcw_1]
      refine ⟨by omega, fun q => ?_, fun q => nst _ M1 1 c1 c2⟩
      refine tb_L_piece_15 (c := false) ?_
      simp only [kb_L_piece_15, w_lc0, w_nil, true_and, and_true, Nat.reduceAdd, Nat.reduceSub, eq_self]
      exact nst _ M1 0 c1 c2
    · cases q
  · rintro x M1 n1 ⟨⟨⟨c1, c2⟩, c3⟩, hR⟩
    have c1 : CK M1 := ⟨c1, c3⟩
    have c2 := WE_p c2
    rcases hR with ⟨z, q, _⟩ | ⟨s, q, rfl, hs⟩
    · cases q
    · cases q
      rcases hs with rfl | rfl
      all_goals
        first
        | exact ⟨20, _, 4, 2, by decide +kernel, tblk_o kbl_L_piece kbs_L_piece (i := 3) (j := 0) rfl rfl, rfl, by decide +kernel, nh20 _ c1 c2⟩
        | exact ⟨24, _, 4, 2, by decide +kernel, tblk_o kbl_L_piece kbs_L_piece (i := 4) (j := 0) rfl rfl, rfl, by decide +kernel, nh24 _ c1 c2⟩
noncomputable def kpa_L_pieceKind : List (Nat × bO) := [(0, .aload_n 2, 0, 0, 0, 0), (1, .iconst 0, 0, 0, 0, 0), (2, .aload_n 0, 0, 0, 0, 0), (3, .iload_n 1, 0, 0, 0, 0)]
noncomputable def kpc_L_pieceKind : List (Nat × bO) := [(7, .i2l, 0, 0, 0, 0), (8, .lastore, 0, 0, 0, 0), (9, .goto 6, 0, 15, 0, 0)]
noncomputable def kph_L_pieceKind_12 : List (Nat × bO) := [(13, .iconst 1, 0, 0, 0, 0), (14, .ireturn, 0, 0, 0, 0)]
theorem lw_pieceKind {p1 : Int} (hC : CK M) (he : EK e) (h1 : -2147483648 ≤ p1 ∧ p1 ≤ 2147483647) (hd : 12 ≤ d) : tC e d 3862 [.inr (.inr (.inl 0)), .inl p1, .inr (.inr (.inl 690))] M n (WQ n M) := by
  refine tst_L_pieceKind ?_
  obtain ⟨d', rfl⟩ : ∃ d', d = d' + 1 := ⟨d - 1, by omega⟩
  have nh12 : ∀ (M1 : tM), CK M1 → WE M M1 → tT e (d' + 1) 3862 (12 + 1) [] [] M1 (n + 1) (WQ n M) := by
    intro M1 c1 c2
    refine tblk_p kbl_L_pieceKind kbs_L_pieceKind (rk := 0) (c := false) (i := 1) rfl 1 2 (P := kph_L_pieceKind_12) (pe := 112) rfl (by decide +kernel) ?_
    simp only [kph_L_pieceKind_12, w_ic, w_ire, trg, true_and, and_true, Nat.reduceAdd, Nat.reduceSub, eq_self]
    exact ⟨⟨_, rfl⟩, ⟨Nat.le_succ _, Nat.le_refl _⟩, c1, c2⟩
  have nend : ∀ (L : tL) (M1 : tM) (v : Int), CK M1 → WE M M1 → tT e (d' + 1) 3862 15 L [] (tU M1 690 0 v) n (WQ n M) := by
    intro L M1 v c1 c2
    refine tb_L_pieceKind_15 (c := false) ?_
    simp only [kb_L_pieceKind_15, w_ic, w_ire, trg, true_and, and_true, Nat.reduceAdd, Nat.reduceSub, eq_self]
    exact ⟨⟨_, rfl⟩, ⟨Nat.le_refl _, Nat.le_succ _⟩, CK_690 c1, WE_tr c2 WE_690⟩
  refine tblk_p kbl_L_pieceKind kbs_L_pieceKind (rk := 0) (c := false) (i := 0) rfl 0 4 (P := kpa_L_pieceKind) (pe := 4) rfl (by decide +kernel) ?_
  simp only [kpa_L_pieceKind, w_ald_2, w_ic, w_ald_0, w_ild_1, w_nil, true_and, and_true, Nat.reduceAdd, Nat.reduceSub, eq_self]
  refine tT_catch (pc := 4) (tblk_o kbl_L_pieceKind kbs_L_pieceKind (i := 0) (j := 4) rfl rfl) rfl sh0a sh0b rfl (kv he.2.2.2 (k_X11_pieceKind (b := 0) cl_0 h1 (by omega)) (u_pieceKind h1 hC.2 hC.1 (by omega)) hC.1) ?_ ?_
  · rintro v M1 n1 ⟨⟨⟨c1, c2⟩, c3⟩, hR⟩
    have c1 : CK M1 := ⟨c1, c3⟩
    have c2 := WE_p c2
    rcases hR with ⟨z, q, rfl, hz⟩ | ⟨s, q, _⟩
    · cases q
      refine tblk_p kbl_L_pieceKind kbs_L_pieceKind (rk := 0) (c := false) (i := 0) rfl 5 3 (P := kpc_L_pieceKind) (pe := 12) rfl (by decide +kernel) ?_
      show wB _ _ _ _ _ _ _ _ [.inl z, .inl 0, .inr (.inr (.inl 690))] _ _ _
      simp only [kpc_L_pieceKind, w_i2l, w_las, w_goto, true_and, and_true, Nat.reduceAdd, Nat.reduceSub, eq_self, tsw_690, tyw_41, tcw_1]
      exact ⟨by omega, by omega, nend _ M1 z c1 c2⟩
    · cases q
  · rintro x M1 n1 ⟨⟨⟨c1, c2⟩, c3⟩, hR⟩
    have c1 : CK M1 := ⟨c1, c3⟩
    have c2 := WE_p c2
    rcases hR with ⟨z, q, _⟩ | ⟨s, q, rfl, hs⟩
    · cases q
    · cases q
      subst hs
      first
      | exact ⟨12, _, 3, 1, by decide +kernel, tblk_o kbl_L_pieceKind kbs_L_pieceKind (i := 1) (j := 0) rfl rfl, rfl, by decide +kernel, nh12 _ c1 c2⟩
noncomputable def kpa_L_power : List (Nat × bO) := [(0, .aload 4, 0, 0, 0, 0), (2, .iconst 0, 0, 0, 0, 0), (3, .aload_n 0, 0, 0, 0, 0), (4, .iload_n 1, 0, 0, 0, 0), (5, .iload_n 2, 0, 0, 0, 0), (6, .iload_n 3, 0, 0, 0, 0)]
noncomputable def kpc_L_power : List (Nat × bO) := [(10, .ifCond .eq 7, 0, 17, 0, 0), (13, .lconst 1, 0, 0, 0, 0), (14, .goto 4, 0, 18, 0, 0)]
noncomputable def kph_L_power_22 : List (Nat × bO) := [(24, .iconst 1, 0, 0, 0, 0), (25, .ireturn, 0, 0, 0, 0)]
noncomputable def kph_L_power_26 : List (Nat × bO) := [(28, .iconst 2, 0, 0, 0, 0), (29, .ireturn, 0, 0, 0, 0)]
noncomputable def kph_L_power_30 : List (Nat × bO) := [(32, .iconst 3, 0, 0, 0, 0), (33, .ireturn, 0, 0, 0, 0)]
noncomputable def kph_L_power_34 : List (Nat × bO) := [(36, .iconst 4, 0, 0, 0, 0), (37, .ireturn, 0, 0, 0, 0)]
theorem lw_power {p1 p2 p3 : Int} (hC : CK M) (he : EK e) (h1 : -2147483648 ≤ p1 ∧ p1 ≤ 2147483647) (h2 : -2147483648 ≤ p2 ∧ p2 ≤ 2147483647) (h3 : -2147483648 ≤ p3 ∧ p3 ≤ 2147483647) (hd : 12 ≤ d) : tC e d 3863 [.inr (.inr (.inl 0)), .inl p1, .inl p2, .inl p3, .inr (.inr (.inl 690))] M n (WQ n M) := by
  refine tst_L_power ?_
  obtain ⟨d', rfl⟩ : ∃ d', d = d' + 1 := ⟨d - 1, by omega⟩
  have nh22 : ∀ (M1 : tM), CK M1 → WE M M1 → tT e (d' + 1) 3863 (22 + 2) [] [] M1 (n + 1) (WQ n M) := by
    intro M1 c1 c2
    refine tblk_p kbl_L_power kbs_L_power (rk := 0) (c := false) (i := 3) rfl 1 2 (P := kph_L_power_22) (pe := 123) rfl (by decide +kernel) ?_
    simp only [kph_L_power_22, w_ic, w_ire, trg, true_and, and_true, Nat.reduceAdd, Nat.reduceSub, eq_self]
    exact ⟨⟨_, rfl⟩, ⟨Nat.le_succ _, Nat.le_refl _⟩, c1, c2⟩
  have nh26 : ∀ (M1 : tM), CK M1 → WE M M1 → tT e (d' + 1) 3863 (26 + 2) [] [] M1 (n + 1) (WQ n M) := by
    intro M1 c1 c2
    refine tblk_p kbl_L_power kbs_L_power (rk := 0) (c := false) (i := 4) rfl 1 2 (P := kph_L_power_26) (pe := 127) rfl (by decide +kernel) ?_
    simp only [kph_L_power_26, w_ic, w_ire, trg, true_and, and_true, Nat.reduceAdd, Nat.reduceSub, eq_self]
    exact ⟨⟨_, rfl⟩, ⟨Nat.le_succ _, Nat.le_refl _⟩, c1, c2⟩
  have nh30 : ∀ (M1 : tM), CK M1 → WE M M1 → tT e (d' + 1) 3863 (30 + 2) [] [] M1 (n + 1) (WQ n M) := by
    intro M1 c1 c2
    refine tblk_p kbl_L_power kbs_L_power (rk := 0) (c := false) (i := 5) rfl 1 2 (P := kph_L_power_30) (pe := 131) rfl (by decide +kernel) ?_
    simp only [kph_L_power_30, w_ic, w_ire, trg, true_and, and_true, Nat.reduceAdd, Nat.reduceSub, eq_self]
    exact ⟨⟨_, rfl⟩, ⟨Nat.le_succ _, Nat.le_refl _⟩, c1, c2⟩
  have nh34 : ∀ (M1 : tM), CK M1 → WE M M1 → tT e (d' + 1) 3863 (34 + 2) [] [] M1 (n + 1) (WQ n M) := by
    intro M1 c1 c2
    refine tblk_p kbl_L_power kbs_L_power (rk := 0) (c := false) (i := 6) rfl 1 2 (P := kph_L_power_34) (pe := 135) rfl (by decide +kernel) ?_
    simp only [kph_L_power_34, w_ic, w_ire, trg, true_and, and_true, Nat.reduceAdd, Nat.reduceSub, eq_self]
    exact ⟨⟨_, rfl⟩, ⟨Nat.le_succ _, Nat.le_refl _⟩, c1, c2⟩
  have nend : ∀ (L : tL) (M1 : tM) (v : Int), CK M1 → WE M M1 → tT e (d' + 1) 3863 38 L [] (tU M1 690 0 v) n (WQ n M) := by
    intro L M1 v c1 c2
    refine tb_L_power_38 (c := false) ?_
    simp only [kb_L_power_38, w_ic, w_ire, trg, true_and, and_true, Nat.reduceAdd, Nat.reduceSub, eq_self]
    exact ⟨⟨_, rfl⟩, ⟨Nat.le_refl _, Nat.le_succ _⟩, CK_690 c1, WE_tr c2 WE_690⟩
  have nst : ∀ (L : tL) (M1 : tM) (v : Int), CK M1 → WE M M1 → tT e (d' + 1) 3863 18 L [.inr (.inl v), .inl 0, .inr (.inr (.inl 690))] M1 n (WQ n M) := by
    intro L M1 v c1 c2
    refine tb_L_power_18 (c := false) ?_
    simp only [kb_L_power_18, w_las, w_goto, true_and, and_true, Nat.reduceAdd, Nat.reduceSub, eq_self, tsw_690, tyw_41, tcw_1]
    exact ⟨by omega, nend _ M1 v c1 c2⟩
  refine tblk_p kbl_L_power kbs_L_power (rk := 0) (c := false) (i := 0) rfl 0 6 (P := kpa_L_power) (pe := 7) rfl (by decide +kernel) ?_
  simp only [kpa_L_power, w_ald4, w_ic, w_ald_0, w_ild_1, w_ild_2, w_ild_3, w_nil, true_and, and_true, Nat.reduceAdd, Nat.reduceSub, eq_self]
  refine tT_catch (pc := 7) (tblk_o kbl_L_power kbs_L_power (i := 0) (j := 6) rfl rfl) rfl sh0a sh0b rfl (kv he.2.2.2 (k_X11_power (b := 0) cl_0 h1 h2 h3 he.1 (by omega) (by omega)) (KA_x (v_power h1 h2 h3 he.2.1 hC.2 hC.1 (by omega))) hC.1) ?_ ?_
  · rintro v M1 n1 ⟨⟨⟨c1, c2⟩, c3⟩, hR⟩
    have c1 : CK M1 := ⟨c1, c3⟩
    have c2 := WE_p c2
    rcases hR with ⟨z, q, rfl, hz⟩ | ⟨s, q, _⟩
    · cases q
      refine tblk_p kbl_L_power kbs_L_power (rk := 0) (c := false) (i := 0) rfl 7 3 (P := kpc_L_power) (pe := 17) rfl (by decide +kernel) ?_
      show wB _ _ _ _ _ _ _ _ [.inl z, .inl 0, .inr (.inr (.inl 690))] _ _ _
      simp only [kpc_L_power, w_if_eq, w_lc1, w_goto, true_and, and_true, Nat.reduceAdd, Nat.reduceSub, eq_self, tsw_690, tyw_41, tcw_1]
      refine ⟨by omega, fun q => ?_, fun q => nst _ M1 1 c1 c2⟩
      refine tb_L_power_17 (c := false) ?_
      simp only [kb_L_power_17, w_lc0, w_nil, true_and, and_true, Nat.reduceAdd, Nat.reduceSub, eq_self]
      exact nst _ M1 0 c1 c2
    · cases q
  · rintro x M1 n1 ⟨⟨⟨c1, c2⟩, c3⟩, hR⟩
    have c1 : CK M1 := ⟨c1, c3⟩
    have c2 := WE_p c2
    rcases hR with ⟨z, q, _⟩ | ⟨s, q, rfl, hs⟩
    · cases q
    · cases q
      rcases hs with rfl | rfl | rfl | rfl
      all_goals
        first
        | exact ⟨22, _, 5, 2, by decide +kernel, tblk_o kbl_L_power kbs_L_power (i := 3) (j := 0) rfl rfl, rfl, by decide +kernel, nh22 _ c1 c2⟩
        | exact ⟨26, _, 5, 2, by decide +kernel, tblk_o kbl_L_power kbs_L_power (i := 4) (j := 0) rfl rfl, rfl, by decide +kernel, nh26 _ c1 c2⟩
        | exact ⟨30, _, 5, 2, by decide +kernel, tblk_o kbl_L_power kbs_L_power (i := 5) (j := 0) rfl rfl, rfl, by decide +kernel, nh30 _ c1 c2⟩
        | exact ⟨34, _, 5, 2, by decide +kernel, tblk_o kbl_L_power kbs_L_power (i := 6) (j := 0) rfl rfl, rfl, by decide +kernel, nh34 _ c1 c2⟩
noncomputable def kpa_L_put : List (Nat × bO) := [(0, .aload 5, 0, 0, 0, 0), (2, .iconst 0, 0, 0, 0, 0), (3, .aload_n 0, 0, 0, 0, 0), (4, .iload_n 1, 0, 0, 0, 0), (5, .lload_n 2, 0, 0, 0, 0), (6, .iload 4, 0, 0, 0, 0)]
noncomputable def kpc_L_put : List (Nat × bO) := [(11, .ifCond .eq 7, 0, 18, 0, 0), (14, .lconst 1, 0, 0, 0, 0), (15, .goto 4, 0, 19, 0, 0)]
noncomputable def kph_L_put_23 : List (Nat × bO) := [(25, .iconst 1, 0, 0, 0, 0), (26, .ireturn, 0, 0, 0, 0)]
noncomputable def kph_L_put_27 : List (Nat × bO) := [(29, .iconst 2, 0, 0, 0, 0), (30, .ireturn, 0, 0, 0, 0)]
noncomputable def kph_L_put_31 : List (Nat × bO) := [(33, .iconst 3, 0, 0, 0, 0), (34, .ireturn, 0, 0, 0, 0)]
theorem lw_put {p1 p2 p3 : Int} (hC : CK M) (he : EK e) (h1 : -2147483648 ≤ p1 ∧ p1 ≤ 2147483647) (h2 : -9223372036854775808 ≤ p2 ∧ p2 < 9223372036854775808) (h3 : -2147483648 ≤ p3 ∧ p3 ≤ 2147483647) (hd : 12 ≤ d) : tC e d 3864 [.inr (.inr (.inl 0)), .inl p1, .inr (.inl p2), .inl p3, .inr (.inr (.inl 690))] M n (WQ n M) := by
  refine tst_L_put ?_
  obtain ⟨d', rfl⟩ : ∃ d', d = d' + 1 := ⟨d - 1, by omega⟩
  have nh23 : ∀ (M1 : tM), CK M1 → WE M M1 → tT e (d' + 1) 3864 (23 + 2) [] [] M1 (n + 1) (WQ n M) := by
    intro M1 c1 c2
    refine tblk_p kbl_L_put kbs_L_put (rk := 0) (c := false) (i := 3) rfl 1 2 (P := kph_L_put_23) (pe := 124) rfl (by decide +kernel) ?_
    simp only [kph_L_put_23, w_ic, w_ire, trg, true_and, and_true, Nat.reduceAdd, Nat.reduceSub, eq_self]
    exact ⟨⟨_, rfl⟩, ⟨Nat.le_succ _, Nat.le_refl _⟩, c1, c2⟩
  have nh27 : ∀ (M1 : tM), CK M1 → WE M M1 → tT e (d' + 1) 3864 (27 + 2) [] [] M1 (n + 1) (WQ n M) := by
    intro M1 c1 c2
    refine tblk_p kbl_L_put kbs_L_put (rk := 0) (c := false) (i := 4) rfl 1 2 (P := kph_L_put_27) (pe := 128) rfl (by decide +kernel) ?_
    simp only [kph_L_put_27, w_ic, w_ire, trg, true_and, and_true, Nat.reduceAdd, Nat.reduceSub, eq_self]
    exact ⟨⟨_, rfl⟩, ⟨Nat.le_succ _, Nat.le_refl _⟩, c1, c2⟩
  have nh31 : ∀ (M1 : tM), CK M1 → WE M M1 → tT e (d' + 1) 3864 (31 + 2) [] [] M1 (n + 1) (WQ n M) := by
    intro M1 c1 c2
    refine tblk_p kbl_L_put kbs_L_put (rk := 0) (c := false) (i := 5) rfl 1 2 (P := kph_L_put_31) (pe := 132) rfl (by decide +kernel) ?_
    simp only [kph_L_put_31, w_ic, w_ire, trg, true_and, and_true, Nat.reduceAdd, Nat.reduceSub, eq_self]
    exact ⟨⟨_, rfl⟩, ⟨Nat.le_succ _, Nat.le_refl _⟩, c1, c2⟩
  have nend : ∀ (L : tL) (M1 : tM) (v : Int), CK M1 → WE M M1 → tT e (d' + 1) 3864 35 L [] (tU M1 690 0 v) n (WQ n M) := by
    intro L M1 v c1 c2
    refine tb_L_put_35 (c := false) ?_
    simp only [kb_L_put_35, w_ic, w_ire, trg, true_and, and_true, Nat.reduceAdd, Nat.reduceSub, eq_self]
    exact ⟨⟨_, rfl⟩, ⟨Nat.le_refl _, Nat.le_succ _⟩, CK_690 c1, WE_tr c2 WE_690⟩
  have nst : ∀ (L : tL) (M1 : tM) (v : Int), CK M1 → WE M M1 → tT e (d' + 1) 3864 19 L [.inr (.inl v), .inl 0, .inr (.inr (.inl 690))] M1 n (WQ n M) := by
    intro L M1 v c1 c2
    refine tb_L_put_19 (c := false) ?_
    simp only [kb_L_put_19, w_las, w_goto, true_and, and_true, Nat.reduceAdd, Nat.reduceSub, eq_self, tsw_690, tyw_41, tcw_1]
    exact ⟨by omega, nend _ M1 v c1 c2⟩
  refine tblk_p kbl_L_put kbs_L_put (rk := 0) (c := false) (i := 0) rfl 0 6 (P := kpa_L_put) (pe := 8) rfl (by decide +kernel) ?_
  simp only [kpa_L_put, w_ald5, w_ic, w_ald_0, w_ild_1, w_lld_2, w_ild4, w_nil, true_and, and_true, Nat.reduceAdd, Nat.reduceSub, eq_self]
  refine tT_catch (pc := 8) (tblk_o kbl_L_put kbs_L_put (i := 0) (j := 6) rfl rfl) rfl sh0a sh0b rfl (kv he.2.2.2 (k_X11_put (b := 0) cl_0 h1 h2 h3 he.1 (by omega) (by omega)) (KA_x (v_put h1 h2 h3 he.2.1 hC.2 hC.1 (by omega))) hC.1) ?_ ?_
  · rintro v M1 n1 ⟨⟨⟨c1, c2⟩, c3⟩, hR⟩
    have c1 : CK M1 := ⟨c1, c3⟩
    have c2 := WE_p c2
    rcases hR with ⟨z, q, rfl, hz⟩ | ⟨s, q, _⟩
    · cases q
      refine tblk_p kbl_L_put kbs_L_put (rk := 0) (c := false) (i := 0) rfl 7 3 (P := kpc_L_put) (pe := 18) rfl (by decide +kernel) ?_
      show wB _ _ _ _ _ _ _ _ [.inl z, .inl 0, .inr (.inr (.inl 690))] _ _ _
      simp only [kpc_L_put, w_if_eq, w_lc1, w_goto, true_and, and_true, Nat.reduceAdd, Nat.reduceSub, eq_self, tsw_690, tyw_41, tcw_1]
      refine ⟨by omega, fun q => ?_, fun q => nst _ M1 1 c1 c2⟩
      refine tb_L_put_18 (c := false) ?_
      simp only [kb_L_put_18, w_lc0, w_nil, true_and, and_true, Nat.reduceAdd, Nat.reduceSub, eq_self]
      exact nst _ M1 0 c1 c2
    · cases q
  · rintro x M1 n1 ⟨⟨⟨c1, c2⟩, c3⟩, hR⟩
    have c1 : CK M1 := ⟨c1, c3⟩
    have c2 := WE_p c2
    rcases hR with ⟨z, q, _⟩ | ⟨s, q, rfl, hs⟩
    · cases q
    · cases q
      rcases hs with rfl | rfl | rfl
      all_goals
        first
        | exact ⟨23, _, 6, 2, by decide +kernel, tblk_o kbl_L_put kbs_L_put (i := 3) (j := 0) rfl rfl, rfl, by decide +kernel, nh23 _ c1 c2⟩
        | exact ⟨27, _, 6, 2, by decide +kernel, tblk_o kbl_L_put kbs_L_put (i := 4) (j := 0) rfl rfl, rfl, by decide +kernel, nh27 _ c1 c2⟩
        | exact ⟨31, _, 6, 2, by decide +kernel, tblk_o kbl_L_put kbs_L_put (i := 5) (j := 0) rfl rfl, rfl, by decide +kernel, nh31 _ c1 c2⟩
noncomputable def kpa_L_read : List (Nat × bO) := [(0, .aload_n 2, 0, 0, 0, 0), (1, .iconst 0, 0, 0, 0, 0), (2, .aload_n 0, 0, 0, 0, 0), (3, .iload_n 1, 0, 0, 0, 0)]
noncomputable def kpc_L_read : List (Nat × bO) := [(7, .ifCond .eq 7, 0, 14, 0, 0), (10, .lconst 1, 0, 0, 0, 0), (11, .goto 4, 0, 15, 0, 0)]
noncomputable def kph_L_read_19 : List (Nat × bO) := [(20, .iconst 1, 0, 0, 0, 0), (21, .ireturn, 0, 0, 0, 0)]
noncomputable def kph_L_read_22 : List (Nat × bO) := [(23, .iconst 2, 0, 0, 0, 0), (24, .ireturn, 0, 0, 0, 0)]
noncomputable def kph_L_read_25 : List (Nat × bO) := [(26, .iconst 3, 0, 0, 0, 0), (27, .ireturn, 0, 0, 0, 0)]
theorem lw_read {p1 : Int} (hC : CK M) (he : EK e) (h1 : -2147483648 ≤ p1 ∧ p1 ≤ 2147483647) (hd : 12 ≤ d) : tC e d 3865 [.inr (.inr (.inl 0)), .inl p1, .inr (.inr (.inl 690))] M n (WQ n M) := by
  refine tst_L_read ?_
  obtain ⟨d', rfl⟩ : ∃ d', d = d' + 1 := ⟨d - 1, by omega⟩
  have nh19 : ∀ (M1 : tM), CK M1 → WE M M1 → tT e (d' + 1) 3865 (19 + 1) [] [] M1 (n + 1) (WQ n M) := by
    intro M1 c1 c2
    refine tblk_p kbl_L_read kbs_L_read (rk := 0) (c := false) (i := 3) rfl 1 2 (P := kph_L_read_19) (pe := 119) rfl (by decide +kernel) ?_
    simp only [kph_L_read_19, w_ic, w_ire, trg, true_and, and_true, Nat.reduceAdd, Nat.reduceSub, eq_self]
    exact ⟨⟨_, rfl⟩, ⟨Nat.le_succ _, Nat.le_refl _⟩, c1, c2⟩
  have nh22 : ∀ (M1 : tM), CK M1 → WE M M1 → tT e (d' + 1) 3865 (22 + 1) [] [] M1 (n + 1) (WQ n M) := by
    intro M1 c1 c2
    refine tblk_p kbl_L_read kbs_L_read (rk := 0) (c := false) (i := 4) rfl 1 2 (P := kph_L_read_22) (pe := 122) rfl (by decide +kernel) ?_
    simp only [kph_L_read_22, w_ic, w_ire, trg, true_and, and_true, Nat.reduceAdd, Nat.reduceSub, eq_self]
    exact ⟨⟨_, rfl⟩, ⟨Nat.le_succ _, Nat.le_refl _⟩, c1, c2⟩
  have nh25 : ∀ (M1 : tM), CK M1 → WE M M1 → tT e (d' + 1) 3865 (25 + 1) [] [] M1 (n + 1) (WQ n M) := by
    intro M1 c1 c2
    refine tblk_p kbl_L_read kbs_L_read (rk := 0) (c := false) (i := 5) rfl 1 2 (P := kph_L_read_25) (pe := 125) rfl (by decide +kernel) ?_
    simp only [kph_L_read_25, w_ic, w_ire, trg, true_and, and_true, Nat.reduceAdd, Nat.reduceSub, eq_self]
    exact ⟨⟨_, rfl⟩, ⟨Nat.le_succ _, Nat.le_refl _⟩, c1, c2⟩
  have nend : ∀ (L : tL) (M1 : tM) (v : Int), CK M1 → WE M M1 → tT e (d' + 1) 3865 28 L [] (tU M1 690 0 v) n (WQ n M) := by
    intro L M1 v c1 c2
    refine tb_L_read_28 (c := false) ?_
    simp only [kb_L_read_28, w_ic, w_ire, trg, true_and, and_true, Nat.reduceAdd, Nat.reduceSub, eq_self]
    exact ⟨⟨_, rfl⟩, ⟨Nat.le_refl _, Nat.le_succ _⟩, CK_690 c1, WE_tr c2 WE_690⟩
  have nst : ∀ (L : tL) (M1 : tM) (v : Int), CK M1 → WE M M1 → tT e (d' + 1) 3865 15 L [.inr (.inl v), .inl 0, .inr (.inr (.inl 690))] M1 n (WQ n M) := by
    intro L M1 v c1 c2
    refine tb_L_read_15 (c := false) ?_
    simp only [kb_L_read_15, w_las, w_goto, true_and, and_true, Nat.reduceAdd, Nat.reduceSub, eq_self, tsw_690, tyw_41, tcw_1]
    exact ⟨by omega, nend _ M1 v c1 c2⟩
  refine tblk_p kbl_L_read kbs_L_read (rk := 0) (c := false) (i := 0) rfl 0 4 (P := kpa_L_read) (pe := 4) rfl (by decide +kernel) ?_
  simp only [kpa_L_read, w_ald_2, w_ic, w_ald_0, w_ild_1, w_nil, true_and, and_true, Nat.reduceAdd, Nat.reduceSub, eq_self]
  refine tT_catch (pc := 4) (tblk_o kbl_L_read kbs_L_read (i := 0) (j := 4) rfl rfl) rfl sh0a sh0b rfl (kv he.2.2.2 (k_X11_read (b := 0) cl_0 h1 (by omega) (by omega)) (KA_x (v_read h1 hC.2 hC.1 (by omega))) hC.1) ?_ ?_
  · rintro v M1 n1 ⟨⟨⟨c1, c2⟩, c3⟩, hR⟩
    have c1 : CK M1 := ⟨c1, c3⟩
    have c2 := WE_p c2
    rcases hR with ⟨z, q, rfl, hz⟩ | ⟨s, q, _⟩
    · cases q
      refine tblk_p kbl_L_read kbs_L_read (rk := 0) (c := false) (i := 0) rfl 5 3 (P := kpc_L_read) (pe := 14) rfl (by decide +kernel) ?_
      show wB _ _ _ _ _ _ _ _ [.inl z, .inl 0, .inr (.inr (.inl 690))] _ _ _
      simp only [kpc_L_read, w_if_eq, w_lc1, w_goto, true_and, and_true, Nat.reduceAdd, Nat.reduceSub, eq_self, tsw_690, tyw_41, tcw_1]
      refine ⟨by omega, fun q => ?_, fun q => nst _ M1 1 c1 c2⟩
      refine tb_L_read_14 (c := false) ?_
      simp only [kb_L_read_14, w_lc0, w_nil, true_and, and_true, Nat.reduceAdd, Nat.reduceSub, eq_self]
      exact nst _ M1 0 c1 c2
    · cases q
  · rintro x M1 n1 ⟨⟨⟨c1, c2⟩, c3⟩, hR⟩
    have c1 : CK M1 := ⟨c1, c3⟩
    have c2 := WE_p c2
    rcases hR with ⟨z, q, _⟩ | ⟨s, q, rfl, hs⟩
    · cases q
    · cases q
      rcases hs with rfl | rfl | rfl
      all_goals
        first
        | exact ⟨19, _, 3, 1, by decide +kernel, tblk_o kbl_L_read kbs_L_read (i := 3) (j := 0) rfl rfl, rfl, by decide +kernel, nh19 _ c1 c2⟩
        | exact ⟨22, _, 3, 1, by decide +kernel, tblk_o kbl_L_read kbs_L_read (i := 4) (j := 0) rfl rfl, rfl, by decide +kernel, nh22 _ c1 c2⟩
        | exact ⟨25, _, 3, 1, by decide +kernel, tblk_o kbl_L_read kbs_L_read (i := 5) (j := 0) rfl rfl, rfl, by decide +kernel, nh25 _ c1 c2⟩
noncomputable def kpa_L_root : List (Nat × bO) := [(0, .aload 4, 0, 0, 0, 0), (2, .iconst 0, 0, 0, 0, 0), (3, .aload_n 0, 0, 0, 0, 0), (4, .iload_n 1, 0, 0, 0, 0), (5, .iload_n 2, 0, 0, 0, 0), (6, .iload_n 3, 0, 0, 0, 0)]
noncomputable def kpc_L_root : List (Nat × bO) := [(10, .ifCond .eq 7, 0, 17, 0, 0), (13, .lconst 1, 0, 0, 0, 0), (14, .goto 4, 0, 18, 0, 0)]
noncomputable def kph_L_root_22 : List (Nat × bO) := [(24, .iconst 1, 0, 0, 0, 0), (25, .ireturn, 0, 0, 0, 0)]
noncomputable def kph_L_root_26 : List (Nat × bO) := [(28, .iconst 2, 0, 0, 0, 0), (29, .ireturn, 0, 0, 0, 0)]
noncomputable def kph_L_root_30 : List (Nat × bO) := [(32, .iconst 3, 0, 0, 0, 0), (33, .ireturn, 0, 0, 0, 0)]
noncomputable def kph_L_root_34 : List (Nat × bO) := [(36, .iconst 4, 0, 0, 0, 0), (37, .ireturn, 0, 0, 0, 0)]
theorem lw_root {p1 p2 p3 : Int} (hC : CK M) (he : EK e) (h1 : -2147483648 ≤ p1 ∧ p1 ≤ 2147483647) (h2 : -2147483648 ≤ p2 ∧ p2 ≤ 2147483647) (h3 : -2147483648 ≤ p3 ∧ p3 ≤ 2147483647) (hd : 12 ≤ d) : tC e d 3866 [.inr (.inr (.inl 0)), .inl p1, .inl p2, .inl p3, .inr (.inr (.inl 690))] M n (WQ n M) := by
  refine tst_L_root ?_
  obtain ⟨d', rfl⟩ : ∃ d', d = d' + 1 := ⟨d - 1, by omega⟩
  have nh22 : ∀ (M1 : tM), CK M1 → WE M M1 → tT e (d' + 1) 3866 (22 + 2) [] [] M1 (n + 1) (WQ n M) := by
    intro M1 c1 c2
    refine tblk_p kbl_L_root kbs_L_root (rk := 0) (c := false) (i := 3) rfl 1 2 (P := kph_L_root_22) (pe := 123) rfl (by decide +kernel) ?_
    simp only [kph_L_root_22, w_ic, w_ire, trg, true_and, and_true, Nat.reduceAdd, Nat.reduceSub, eq_self]
    exact ⟨⟨_, rfl⟩, ⟨Nat.le_succ _, Nat.le_refl _⟩, c1, c2⟩
  have nh26 : ∀ (M1 : tM), CK M1 → WE M M1 → tT e (d' + 1) 3866 (26 + 2) [] [] M1 (n + 1) (WQ n M) := by
    intro M1 c1 c2
    refine tblk_p kbl_L_root kbs_L_root (rk := 0) (c := false) (i := 4) rfl 1 2 (P := kph_L_root_26) (pe := 127) rfl (by decide +kernel) ?_
    simp only [kph_L_root_26, w_ic, w_ire, trg, true_and, and_true, Nat.reduceAdd, Nat.reduceSub, eq_self]
    exact ⟨⟨_, rfl⟩, ⟨Nat.le_succ _, Nat.le_refl _⟩, c1, c2⟩
  have nh30 : ∀ (M1 : tM), CK M1 → WE M M1 → tT e (d' + 1) 3866 (30 + 2) [] [] M1 (n + 1) (WQ n M) := by
    intro M1 c1 c2
    refine tblk_p kbl_L_root kbs_L_root (rk := 0) (c := false) (i := 5) rfl 1 2 (P := kph_L_root_30) (pe := 131) rfl (by decide +kernel) ?_
    simp only [kph_L_root_30, w_ic, w_ire, trg, true_and, and_true, Nat.reduceAdd, Nat.reduceSub, eq_self]
    exact ⟨⟨_, rfl⟩, ⟨Nat.le_succ _, Nat.le_refl _⟩, c1, c2⟩
  have nh34 : ∀ (M1 : tM), CK M1 → WE M M1 → tT e (d' + 1) 3866 (34 + 2) [] [] M1 (n + 1) (WQ n M) := by
    intro M1 c1 c2
    refine tblk_p kbl_L_root kbs_L_root (rk := 0) (c := false) (i := 6) rfl 1 2 (P := kph_L_root_34) (pe := 135) rfl (by decide +kernel) ?_
    simp only [kph_L_root_34, w_ic, w_ire, trg, true_and, and_true, Nat.reduceAdd, Nat.reduceSub, eq_self]
    exact ⟨⟨_, rfl⟩, ⟨Nat.le_succ _, Nat.le_refl _⟩, c1, c2⟩
  have nend : ∀ (L : tL) (M1 : tM) (v : Int), CK M1 → WE M M1 → tT e (d' + 1) 3866 38 L [] (tU M1 690 0 v) n (WQ n M) := by
    intro L M1 v c1 c2
    refine tb_L_root_38 (c := false) ?_
    simp only [kb_L_root_38, w_ic, w_ire, trg, true_and, and_true, Nat.reduceAdd, Nat.reduceSub, eq_self]
    exact ⟨⟨_, rfl⟩, ⟨Nat.le_refl _, Nat.le_succ _⟩, CK_690 c1, WE_tr c2 WE_690⟩
  have nst : ∀ (L : tL) (M1 : tM) (v : Int), CK M1 → WE M M1 → tT e (d' + 1) 3866 18 L [.inr (.inl v), .inl 0, .inr (.inr (.inl 690))] M1 n (WQ n M) := by
    intro L M1 v c1 c2
    refine tb_L_root_18 (c := false) ?_
    simp only [kb_L_root_18, w_las, w_goto, true_and, and_true, Nat.reduceAdd, Nat.reduceSub, eq_self, tsw_690, tyw_41, tcw_1]
    exact ⟨by omega, nend _ M1 v c1 c2⟩
  refine tblk_p kbl_L_root kbs_L_root (rk := 0) (c := false) (i := 0) rfl 0 6 (P := kpa_L_root) (pe := 7) rfl (by decide +kernel) ?_
  simp only [kpa_L_root, w_ald4, w_ic, w_ald_0, w_ild_1, w_ild_2, w_ild_3, w_nil, true_and, and_true, Nat.reduceAdd, Nat.reduceSub, eq_self]
  refine tT_catch (pc := 7) (tblk_o kbl_L_root kbs_L_root (i := 0) (j := 6) rfl rfl) rfl sh0a sh0b rfl (kv he.2.2.2 (k_X11_root_0 (b := 0) cl_0 h1 h2 h3 he.1 (by omega) (by omega)) (KA_x (v_root h1 h2 h3 he.2.1 hC.2 hC.1 (by omega))) hC.1) ?_ ?_
  · rintro v M1 n1 ⟨⟨⟨c1, c2⟩, c3⟩, hR⟩
    have c1 : CK M1 := ⟨c1, c3⟩
    have c2 := WE_p c2
    rcases hR with ⟨z, q, rfl, hz⟩ | ⟨s, q, _⟩
    · cases q
      refine tblk_p kbl_L_root kbs_L_root (rk := 0) (c := false) (i := 0) rfl 7 3 (P := kpc_L_root) (pe := 17) rfl (by decide +kernel) ?_
      show wB _ _ _ _ _ _ _ _ [.inl z, .inl 0, .inr (.inr (.inl 690))] _ _ _
      simp only [kpc_L_root, w_if_eq, w_lc1, w_goto, true_and, and_true, Nat.reduceAdd, Nat.reduceSub, eq_self, tsw_690, tyw_41, tcw_1]
      refine ⟨by omega, fun q => ?_, fun q => nst _ M1 1 c1 c2⟩
      refine tb_L_root_17 (c := false) ?_
      simp only [kb_L_root_17, w_lc0, w_nil, true_and, and_true, Nat.reduceAdd, Nat.reduceSub, eq_self]
      exact nst _ M1 0 c1 c2
    · cases q
  · rintro x M1 n1 ⟨⟨⟨c1, c2⟩, c3⟩, hR⟩
    have c1 : CK M1 := ⟨c1, c3⟩
    have c2 := WE_p c2
    rcases hR with ⟨z, q, _⟩ | ⟨s, q, rfl, hs⟩
    · cases q
    · cases q
      rcases hs with rfl | rfl | rfl | rfl
      all_goals
        first
        | exact ⟨22, _, 5, 2, by decide +kernel, tblk_o kbl_L_root kbs_L_root (i := 3) (j := 0) rfl rfl, rfl, by decide +kernel, nh22 _ c1 c2⟩
        | exact ⟨26, _, 5, 2, by decide +kernel, tblk_o kbl_L_root kbs_L_root (i := 4) (j := 0) rfl rfl, rfl, by decide +kernel, nh26 _ c1 c2⟩
        | exact ⟨30, _, 5, 2, by decide +kernel, tblk_o kbl_L_root kbs_L_root (i := 5) (j := 0) rfl rfl, rfl, by decide +kernel, nh30 _ c1 c2⟩
        | exact ⟨34, _, 5, 2, by decide +kernel, tblk_o kbl_L_root kbs_L_root (i := 6) (j := 0) rfl rfl, rfl, by decide +kernel, nh34 _ c1 c2⟩
noncomputable def kpa_L_signAt : List (Nat × bO) := [(0, .aload_n 2, 0, 0, 0, 0), (1, .iconst 0, 0, 0, 0, 0), (2, .aload_n 0, 0, 0, 0, 0), (3, .iload_n 1, 0, 0, 0, 0)]
noncomputable def kpc_L_signAt : List (Nat × bO) := [(7, .i2l, 0, 0, 0, 0), (8, .lastore, 0, 0, 0, 0), (9, .goto 6, 0, 15, 0, 0)]
noncomputable def kph_L_signAt_12 : List (Nat × bO) := [(13, .iconst 1, 0, 0, 0, 0), (14, .ireturn, 0, 0, 0, 0)]
theorem lw_signAt {p1 : Int} (hC : CK M) (he : EK e) (h1 : -2147483648 ≤ p1 ∧ p1 ≤ 2147483647) (hd : 12 ≤ d) : tC e d 3868 [.inr (.inr (.inl 0)), .inl p1, .inr (.inr (.inl 690))] M n (WQ n M) := by
  refine tst_L_signAt ?_
  obtain ⟨d', rfl⟩ : ∃ d', d = d' + 1 := ⟨d - 1, by omega⟩
  have nh12 : ∀ (M1 : tM), CK M1 → WE M M1 → tT e (d' + 1) 3868 (12 + 1) [] [] M1 (n + 1) (WQ n M) := by
    intro M1 c1 c2
    refine tblk_p kbl_L_signAt kbs_L_signAt (rk := 0) (c := false) (i := 1) rfl 1 2 (P := kph_L_signAt_12) (pe := 112) rfl (by decide +kernel) ?_
    simp only [kph_L_signAt_12, w_ic, w_ire, trg, true_and, and_true, Nat.reduceAdd, Nat.reduceSub, eq_self]
    exact ⟨⟨_, rfl⟩, ⟨Nat.le_succ _, Nat.le_refl _⟩, c1, c2⟩
  have nend : ∀ (L : tL) (M1 : tM) (v : Int), CK M1 → WE M M1 → tT e (d' + 1) 3868 15 L [] (tU M1 690 0 v) n (WQ n M) := by
    intro L M1 v c1 c2
    refine tb_L_signAt_15 (c := false) ?_
    simp only [kb_L_signAt_15, w_ic, w_ire, trg, true_and, and_true, Nat.reduceAdd, Nat.reduceSub, eq_self]
    exact ⟨⟨_, rfl⟩, ⟨Nat.le_refl _, Nat.le_succ _⟩, CK_690 c1, WE_tr c2 WE_690⟩
  refine tblk_p kbl_L_signAt kbs_L_signAt (rk := 0) (c := false) (i := 0) rfl 0 4 (P := kpa_L_signAt) (pe := 4) rfl (by decide +kernel) ?_
  simp only [kpa_L_signAt, w_ald_2, w_ic, w_ald_0, w_ild_1, w_nil, true_and, and_true, Nat.reduceAdd, Nat.reduceSub, eq_self]
  refine tT_catch (pc := 4) (tblk_o kbl_L_signAt kbs_L_signAt (i := 0) (j := 4) rfl rfl) rfl sh0a sh0b rfl (kv he.2.2.2 (k_X11_signAt (b := 0) cl_0 h1 (by omega)) (u_signAt h1 hC.2 hC.1 (by omega)) hC.1) ?_ ?_
  · rintro v M1 n1 ⟨⟨⟨c1, c2⟩, c3⟩, hR⟩
    have c1 : CK M1 := ⟨c1, c3⟩
    have c2 := WE_p c2
    rcases hR with ⟨z, q, rfl, hz⟩ | ⟨s, q, _⟩
    · cases q
      refine tblk_p kbl_L_signAt kbs_L_signAt (rk := 0) (c := false) (i := 0) rfl 5 3 (P := kpc_L_signAt) (pe := 12) rfl (by decide +kernel) ?_
      show wB _ _ _ _ _ _ _ _ [.inl z, .inl 0, .inr (.inr (.inl 690))] _ _ _
      simp only [kpc_L_signAt, w_i2l, w_las, w_goto, true_and, and_true, Nat.reduceAdd, Nat.reduceSub, eq_self, tsw_690, tyw_41, tcw_1]
      exact ⟨by omega, by omega, nend _ M1 z c1 c2⟩
    · cases q
  · rintro x M1 n1 ⟨⟨⟨c1, c2⟩, c3⟩, hR⟩
    have c1 : CK M1 := ⟨c1, c3⟩
    have c2 := WE_p c2
    rcases hR with ⟨z, q, _⟩ | ⟨s, q, rfl, hs⟩
    · cases q
    · cases q
      subst hs
      first
      | exact ⟨12, _, 3, 1, by decide +kernel, tblk_o kbl_L_signAt kbs_L_signAt (i := 1) (j := 0) rfl rfl, rfl, by decide +kernel, nh12 _ c1 c2⟩
noncomputable def kpa_L_slope : List (Nat × bO) := [(0, .aload 5, 0, 0, 0, 0), (2, .iconst 0, 0, 0, 0, 0), (3, .aload_n 0, 0, 0, 0, 0), (4, .iload_n 1, 0, 0, 0, 0), (5, .iload_n 2, 0, 0, 0, 0), (6, .iload_n 3, 0, 0, 0, 0), (7, .iload 4, 0, 0, 0, 0)]
noncomputable def kpc_L_slope : List (Nat × bO) := [(12, .ifCond .eq 7, 0, 19, 0, 0), (15, .lconst 1, 0, 0, 0, 0), (16, .goto 4, 0, 20, 0, 0)]
noncomputable def kph_L_slope_24 : List (Nat × bO) := [(26, .iconst 1, 0, 0, 0, 0), (27, .ireturn, 0, 0, 0, 0)]
noncomputable def kph_L_slope_28 : List (Nat × bO) := [(30, .iconst 2, 0, 0, 0, 0), (31, .ireturn, 0, 0, 0, 0)]
noncomputable def kph_L_slope_32 : List (Nat × bO) := [(34, .iconst 3, 0, 0, 0, 0), (35, .ireturn, 0, 0, 0, 0)]
noncomputable def kph_L_slope_36 : List (Nat × bO) := [(38, .iconst 4, 0, 0, 0, 0), (39, .ireturn, 0, 0, 0, 0)]
theorem lw_slope {p1 p2 p3 p4 : Int} (hC : CK M) (he : EK e) (h1 : -2147483648 ≤ p1 ∧ p1 ≤ 2147483647) (h2 : -2147483648 ≤ p2 ∧ p2 ≤ 2147483647) (h3 : -2147483648 ≤ p3 ∧ p3 ≤ 2147483647) (h4 : -2147483648 ≤ p4 ∧ p4 ≤ 2147483647) (hd : 12 ≤ d) : tC e d 3869 [.inr (.inr (.inl 0)), .inl p1, .inl p2, .inl p3, .inl p4, .inr (.inr (.inl 690))] M n (WQ n M) := by
  refine tst_L_slope ?_
  obtain ⟨d', rfl⟩ : ∃ d', d = d' + 1 := ⟨d - 1, by omega⟩
  have nh24 : ∀ (M1 : tM), CK M1 → WE M M1 → tT e (d' + 1) 3869 (24 + 2) [] [] M1 (n + 1) (WQ n M) := by
    intro M1 c1 c2
    refine tblk_p kbl_L_slope kbs_L_slope (rk := 0) (c := false) (i := 3) rfl 1 2 (P := kph_L_slope_24) (pe := 125) rfl (by decide +kernel) ?_
    simp only [kph_L_slope_24, w_ic, w_ire, trg, true_and, and_true, Nat.reduceAdd, Nat.reduceSub, eq_self]
    exact ⟨⟨_, rfl⟩, ⟨Nat.le_succ _, Nat.le_refl _⟩, c1, c2⟩
  have nh28 : ∀ (M1 : tM), CK M1 → WE M M1 → tT e (d' + 1) 3869 (28 + 2) [] [] M1 (n + 1) (WQ n M) := by
    intro M1 c1 c2
    refine tblk_p kbl_L_slope kbs_L_slope (rk := 0) (c := false) (i := 4) rfl 1 2 (P := kph_L_slope_28) (pe := 129) rfl (by decide +kernel) ?_
    simp only [kph_L_slope_28, w_ic, w_ire, trg, true_and, and_true, Nat.reduceAdd, Nat.reduceSub, eq_self]
    exact ⟨⟨_, rfl⟩, ⟨Nat.le_succ _, Nat.le_refl _⟩, c1, c2⟩
  have nh32 : ∀ (M1 : tM), CK M1 → WE M M1 → tT e (d' + 1) 3869 (32 + 2) [] [] M1 (n + 1) (WQ n M) := by
    intro M1 c1 c2
    refine tblk_p kbl_L_slope kbs_L_slope (rk := 0) (c := false) (i := 5) rfl 1 2 (P := kph_L_slope_32) (pe := 133) rfl (by decide +kernel) ?_
    simp only [kph_L_slope_32, w_ic, w_ire, trg, true_and, and_true, Nat.reduceAdd, Nat.reduceSub, eq_self]
    exact ⟨⟨_, rfl⟩, ⟨Nat.le_succ _, Nat.le_refl _⟩, c1, c2⟩
  have nh36 : ∀ (M1 : tM), CK M1 → WE M M1 → tT e (d' + 1) 3869 (36 + 2) [] [] M1 (n + 1) (WQ n M) := by
    intro M1 c1 c2
    refine tblk_p kbl_L_slope kbs_L_slope (rk := 0) (c := false) (i := 6) rfl 1 2 (P := kph_L_slope_36) (pe := 137) rfl (by decide +kernel) ?_
    simp only [kph_L_slope_36, w_ic, w_ire, trg, true_and, and_true, Nat.reduceAdd, Nat.reduceSub, eq_self]
    exact ⟨⟨_, rfl⟩, ⟨Nat.le_succ _, Nat.le_refl _⟩, c1, c2⟩
  have nend : ∀ (L : tL) (M1 : tM) (v : Int), CK M1 → WE M M1 → tT e (d' + 1) 3869 40 L [] (tU M1 690 0 v) n (WQ n M) := by
    intro L M1 v c1 c2
    refine tb_L_slope_40 (c := false) ?_
    simp only [kb_L_slope_40, w_ic, w_ire, trg, true_and, and_true, Nat.reduceAdd, Nat.reduceSub, eq_self]
    exact ⟨⟨_, rfl⟩, ⟨Nat.le_refl _, Nat.le_succ _⟩, CK_690 c1, WE_tr c2 WE_690⟩
  have nst : ∀ (L : tL) (M1 : tM) (v : Int), CK M1 → WE M M1 → tT e (d' + 1) 3869 20 L [.inr (.inl v), .inl 0, .inr (.inr (.inl 690))] M1 n (WQ n M) := by
    intro L M1 v c1 c2
    refine tb_L_slope_20 (c := false) ?_
    simp only [kb_L_slope_20, w_las, w_goto, true_and, and_true, Nat.reduceAdd, Nat.reduceSub, eq_self, tsw_690, tyw_41, tcw_1]
    exact ⟨by omega, nend _ M1 v c1 c2⟩
  refine tblk_p kbl_L_slope kbs_L_slope (rk := 0) (c := false) (i := 0) rfl 0 7 (P := kpa_L_slope) (pe := 9) rfl (by decide +kernel) ?_
  simp only [kpa_L_slope, w_ald5, w_ic, w_ald_0, w_ild_1, w_ild_2, w_ild_3, w_ild4, w_nil, true_and, and_true, Nat.reduceAdd, Nat.reduceSub, eq_self]
  refine tT_catch (pc := 9) (tblk_o kbl_L_slope kbs_L_slope (i := 0) (j := 7) rfl rfl) rfl sh0a sh0b rfl (kv he.2.2.2 (k_X11_slope (b := 0) cl_0 h1 h2 h3 h4 he.1 (by omega) (by omega)) (KA_x (v_slope h1 h2 h3 h4 he.2.1 he.2.2.1 hC.2 hC.1 (by omega))) hC.1) ?_ ?_
  · rintro v M1 n1 ⟨⟨⟨c1, c2⟩, c3⟩, hR⟩
    have c1 : CK M1 := ⟨c1, c3⟩
    have c2 := WE_p c2
    rcases hR with ⟨z, q, rfl, hz⟩ | ⟨s, q, _⟩
    · cases q
      refine tblk_p kbl_L_slope kbs_L_slope (rk := 0) (c := false) (i := 0) rfl 8 3 (P := kpc_L_slope) (pe := 19) rfl (by decide +kernel) ?_
      show wB _ _ _ _ _ _ _ _ [.inl z, .inl 0, .inr (.inr (.inl 690))] _ _ _
      simp only [kpc_L_slope, w_if_eq, w_lc1, w_goto, true_and, and_true, Nat.reduceAdd, Nat.reduceSub, eq_self, tsw_690, tyw_41, tcw_1]
      refine ⟨by omega, fun q => ?_, fun q => nst _ M1 1 c1 c2⟩
      refine tb_L_slope_19 (c := false) ?_
      simp only [kb_L_slope_19, w_lc0, w_nil, true_and, and_true, Nat.reduceAdd, Nat.reduceSub, eq_self]
      exact nst _ M1 0 c1 c2
    · cases q
  · rintro x M1 n1 ⟨⟨⟨c1, c2⟩, c3⟩, hR⟩
    have c1 : CK M1 := ⟨c1, c3⟩
    have c2 := WE_p c2
    rcases hR with ⟨z, q, _⟩ | ⟨s, q, rfl, hs⟩
    · cases q
    · cases q
      rcases hs with rfl | rfl | rfl | rfl
      all_goals
        first
        | exact ⟨24, _, 6, 2, by decide +kernel, tblk_o kbl_L_slope kbs_L_slope (i := 3) (j := 0) rfl rfl, rfl, by decide +kernel, nh24 _ c1 c2⟩
        | exact ⟨28, _, 6, 2, by decide +kernel, tblk_o kbl_L_slope kbs_L_slope (i := 4) (j := 0) rfl rfl, rfl, by decide +kernel, nh28 _ c1 c2⟩
        | exact ⟨32, _, 6, 2, by decide +kernel, tblk_o kbl_L_slope kbs_L_slope (i := 5) (j := 0) rfl rfl, rfl, by decide +kernel, nh32 _ c1 c2⟩
        | exact ⟨36, _, 6, 2, by decide +kernel, tblk_o kbl_L_slope kbs_L_slope (i := 6) (j := 0) rfl rfl, rfl, by decide +kernel, nh36 _ c1 c2⟩
noncomputable def kpa_L_solve : List (Nat × bO) := [(0, .aload 4, 0, 0, 0, 0), (2, .iconst 0, 0, 0, 0, 0), (3, .aload_n 0, 0, 0, 0, 0), (4, .iload_n 1, 0, 0, 0, 0), (5, .iload_n 2, 0, 0, 0, 0), (6, .iload_n 3, 0, 0, 0, 0)]
noncomputable def kpc_L_solve : List (Nat × bO) := [(10, .ifCond .eq 7, 0, 17, 0, 0), (13, .lconst 1, 0, 0, 0, 0), (14, .goto 4, 0, 18, 0, 0)]
noncomputable def kph_L_solve_22 : List (Nat × bO) := [(24, .iconst 1, 0, 0, 0, 0), (25, .ireturn, 0, 0, 0, 0)]
noncomputable def kph_L_solve_26 : List (Nat × bO) := [(28, .iconst 2, 0, 0, 0, 0), (29, .ireturn, 0, 0, 0, 0)]
noncomputable def kph_L_solve_30 : List (Nat × bO) := [(32, .iconst 3, 0, 0, 0, 0), (33, .ireturn, 0, 0, 0, 0)]
noncomputable def kph_L_solve_34 : List (Nat × bO) := [(36, .iconst 4, 0, 0, 0, 0), (37, .ireturn, 0, 0, 0, 0)]
theorem lw_solve {p1 p2 p3 : Int} (hC : CK M) (he : EK e) (h1 : -2147483648 ≤ p1 ∧ p1 ≤ 2147483647) (h2 : -2147483648 ≤ p2 ∧ p2 ≤ 2147483647) (h3 : 0 ≤ p3 ∧ p3 ≤ 1) (hd : 12 ≤ d) : tC e d 3870 [.inr (.inr (.inl 0)), .inl p1, .inl p2, .inl p3, .inr (.inr (.inl 690))] M n (WQ n M) := by
  refine tst_L_solve ?_
  obtain ⟨d', rfl⟩ : ∃ d', d = d' + 1 := ⟨d - 1, by omega⟩
  have nh22 : ∀ (M1 : tM), CK M1 → WE M M1 → tT e (d' + 1) 3870 (22 + 2) [] [] M1 (n + 1) (WQ n M) := by
    intro M1 c1 c2
    refine tblk_p kbl_L_solve kbs_L_solve (rk := 0) (c := false) (i := 3) rfl 1 2 (P := kph_L_solve_22) (pe := 123) rfl (by decide +kernel) ?_
    simp only [kph_L_solve_22, w_ic, w_ire, trg, true_and, and_true, Nat.reduceAdd, Nat.reduceSub, eq_self]
    exact ⟨⟨_, rfl⟩, ⟨Nat.le_succ _, Nat.le_refl _⟩, c1, c2⟩
  have nh26 : ∀ (M1 : tM), CK M1 → WE M M1 → tT e (d' + 1) 3870 (26 + 2) [] [] M1 (n + 1) (WQ n M) := by
    intro M1 c1 c2
    refine tblk_p kbl_L_solve kbs_L_solve (rk := 0) (c := false) (i := 4) rfl 1 2 (P := kph_L_solve_26) (pe := 127) rfl (by decide +kernel) ?_
    simp only [kph_L_solve_26, w_ic, w_ire, trg, true_and, and_true, Nat.reduceAdd, Nat.reduceSub, eq_self]
    exact ⟨⟨_, rfl⟩, ⟨Nat.le_succ _, Nat.le_refl _⟩, c1, c2⟩
  have nh30 : ∀ (M1 : tM), CK M1 → WE M M1 → tT e (d' + 1) 3870 (30 + 2) [] [] M1 (n + 1) (WQ n M) := by
    intro M1 c1 c2
    refine tblk_p kbl_L_solve kbs_L_solve (rk := 0) (c := false) (i := 5) rfl 1 2 (P := kph_L_solve_30) (pe := 131) rfl (by decide +kernel) ?_
    simp only [kph_L_solve_30, w_ic, w_ire, trg, true_and, and_true, Nat.reduceAdd, Nat.reduceSub, eq_self]
    exact ⟨⟨_, rfl⟩, ⟨Nat.le_succ _, Nat.le_refl _⟩, c1, c2⟩
  have nh34 : ∀ (M1 : tM), CK M1 → WE M M1 → tT e (d' + 1) 3870 (34 + 2) [] [] M1 (n + 1) (WQ n M) := by
    intro M1 c1 c2
    refine tblk_p kbl_L_solve kbs_L_solve (rk := 0) (c := false) (i := 6) rfl 1 2 (P := kph_L_solve_34) (pe := 135) rfl (by decide +kernel) ?_
    simp only [kph_L_solve_34, w_ic, w_ire, trg, true_and, and_true, Nat.reduceAdd, Nat.reduceSub, eq_self]
    exact ⟨⟨_, rfl⟩, ⟨Nat.le_succ _, Nat.le_refl _⟩, c1, c2⟩
  have nend : ∀ (L : tL) (M1 : tM) (v : Int), CK M1 → WE M M1 → tT e (d' + 1) 3870 38 L [] (tU M1 690 0 v) n (WQ n M) := by
    intro L M1 v c1 c2
    refine tb_L_solve_38 (c := false) ?_
    simp only [kb_L_solve_38, w_ic, w_ire, trg, true_and, and_true, Nat.reduceAdd, Nat.reduceSub, eq_self]
    exact ⟨⟨_, rfl⟩, ⟨Nat.le_refl _, Nat.le_succ _⟩, CK_690 c1, WE_tr c2 WE_690⟩
  have nst : ∀ (L : tL) (M1 : tM) (v : Int), CK M1 → WE M M1 → tT e (d' + 1) 3870 18 L [.inr (.inl v), .inl 0, .inr (.inr (.inl 690))] M1 n (WQ n M) := by
    intro L M1 v c1 c2
    refine tb_L_solve_18 (c := false) ?_
    simp only [kb_L_solve_18, w_las, w_goto, true_and, and_true, Nat.reduceAdd, Nat.reduceSub, eq_self, tsw_690, tyw_41, tcw_1]
    exact ⟨by omega, nend _ M1 v c1 c2⟩
  refine tblk_p kbl_L_solve kbs_L_solve (rk := 0) (c := false) (i := 0) rfl 0 6 (P := kpa_L_solve) (pe := 7) rfl (by decide +kernel) ?_
  simp only [kpa_L_solve, w_ald4, w_ic, w_ald_0, w_ild_1, w_ild_2, w_ild_3, w_nil, true_and, and_true, Nat.reduceAdd, Nat.reduceSub, eq_self]
  refine tT_catch (pc := 7) (tblk_o kbl_L_solve kbs_L_solve (i := 0) (j := 6) rfl rfl) rfl sh0a sh0b rfl (kv he.2.2.2 (k_X11_solve (b := 0) cl_0 h1 h2 h3 he.1 (by omega) (by omega)) (KA_x (v_solve h1 h2 h3 he.2.1 hC.2 hC.1 (by omega))) hC.1) ?_ ?_
  · rintro v M1 n1 ⟨⟨⟨c1, c2⟩, c3⟩, hR⟩
    have c1 : CK M1 := ⟨c1, c3⟩
    have c2 := WE_p c2
    rcases hR with ⟨z, q, rfl, hz⟩ | ⟨s, q, _⟩
    · cases q
      refine tblk_p kbl_L_solve kbs_L_solve (rk := 0) (c := false) (i := 0) rfl 7 3 (P := kpc_L_solve) (pe := 17) rfl (by decide +kernel) ?_
      show wB _ _ _ _ _ _ _ _ [.inl z, .inl 0, .inr (.inr (.inl 690))] _ _ _
      simp only [kpc_L_solve, w_if_eq, w_lc1, w_goto, true_and, and_true, Nat.reduceAdd, Nat.reduceSub, eq_self, tsw_690, tyw_41, tcw_1]
      refine ⟨by omega, fun q => ?_, fun q => nst _ M1 1 c1 c2⟩
      refine tb_L_solve_17 (c := false) ?_
      simp only [kb_L_solve_17, w_lc0, w_nil, true_and, and_true, Nat.reduceAdd, Nat.reduceSub, eq_self]
      exact nst _ M1 0 c1 c2
    · cases q
  · rintro x M1 n1 ⟨⟨⟨c1, c2⟩, c3⟩, hR⟩
    have c1 : CK M1 := ⟨c1, c3⟩
    have c2 := WE_p c2
    rcases hR with ⟨z, q, _⟩ | ⟨s, q, rfl, hs⟩
    · cases q
    · cases q
      rcases hs with rfl | rfl | rfl | rfl
      all_goals
        first
        | exact ⟨22, _, 5, 2, by decide +kernel, tblk_o kbl_L_solve kbs_L_solve (i := 3) (j := 0) rfl rfl, rfl, by decide +kernel, nh22 _ c1 c2⟩
        | exact ⟨26, _, 5, 2, by decide +kernel, tblk_o kbl_L_solve kbs_L_solve (i := 4) (j := 0) rfl rfl, rfl, by decide +kernel, nh26 _ c1 c2⟩
        | exact ⟨30, _, 5, 2, by decide +kernel, tblk_o kbl_L_solve kbs_L_solve (i := 5) (j := 0) rfl rfl, rfl, by decide +kernel, nh30 _ c1 c2⟩
        | exact ⟨34, _, 5, 2, by decide +kernel, tblk_o kbl_L_solve kbs_L_solve (i := 6) (j := 0) rfl rfl, rfl, by decide +kernel, nh34 _ c1 c2⟩
noncomputable def kpa_L_subtract : List (Nat × bO) := [(0, .aload 4, 0, 0, 0, 0), (2, .iconst 0, 0, 0, 0, 0), (3, .aload_n 0, 0, 0, 0, 0), (4, .iload_n 1, 0, 0, 0, 0), (5, .iload_n 2, 0, 0, 0, 0), (6, .iload_n 3, 0, 0, 0, 0)]
noncomputable def kpc_L_subtract : List (Nat × bO) := [(10, .ifCond .eq 7, 0, 17, 0, 0), (13, .lconst 1, 0, 0, 0, 0), (14, .goto 4, 0, 18, 0, 0)]
noncomputable def kph_L_subtract_22 : List (Nat × bO) := [(24, .iconst 1, 0, 0, 0, 0), (25, .ireturn, 0, 0, 0, 0)]
noncomputable def kph_L_subtract_26 : List (Nat × bO) := [(28, .iconst 2, 0, 0, 0, 0), (29, .ireturn, 0, 0, 0, 0)]
noncomputable def kph_L_subtract_30 : List (Nat × bO) := [(32, .iconst 3, 0, 0, 0, 0), (33, .ireturn, 0, 0, 0, 0)]
theorem lw_subtract {p1 p2 p3 : Int} (hC : CK M) (he : EK e) (h1 : -2147483648 ≤ p1 ∧ p1 ≤ 2147483647) (h2 : -2147483648 ≤ p2 ∧ p2 ≤ 2147483647) (h3 : -2147483648 ≤ p3 ∧ p3 ≤ 2147483647) (hd : 12 ≤ d) : tC e d 3871 [.inr (.inr (.inl 0)), .inl p1, .inl p2, .inl p3, .inr (.inr (.inl 690))] M n (WQ n M) := by
  refine tst_L_subtract ?_
  obtain ⟨d', rfl⟩ : ∃ d', d = d' + 1 := ⟨d - 1, by omega⟩
  have nh22 : ∀ (M1 : tM), CK M1 → WE M M1 → tT e (d' + 1) 3871 (22 + 2) [] [] M1 (n + 1) (WQ n M) := by
    intro M1 c1 c2
    refine tblk_p kbl_L_subtract kbs_L_subtract (rk := 0) (c := false) (i := 3) rfl 1 2 (P := kph_L_subtract_22) (pe := 123) rfl (by decide +kernel) ?_
    simp only [kph_L_subtract_22, w_ic, w_ire, trg, true_and, and_true, Nat.reduceAdd, Nat.reduceSub, eq_self]
    exact ⟨⟨_, rfl⟩, ⟨Nat.le_succ _, Nat.le_refl _⟩, c1, c2⟩
  have nh26 : ∀ (M1 : tM), CK M1 → WE M M1 → tT e (d' + 1) 3871 (26 + 2) [] [] M1 (n + 1) (WQ n M) := by
    intro M1 c1 c2
    refine tblk_p kbl_L_subtract kbs_L_subtract (rk := 0) (c := false) (i := 4) rfl 1 2 (P := kph_L_subtract_26) (pe := 127) rfl (by decide +kernel) ?_
    simp only [kph_L_subtract_26, w_ic, w_ire, trg, true_and, and_true, Nat.reduceAdd, Nat.reduceSub, eq_self]
    exact ⟨⟨_, rfl⟩, ⟨Nat.le_succ _, Nat.le_refl _⟩, c1, c2⟩
  have nh30 : ∀ (M1 : tM), CK M1 → WE M M1 → tT e (d' + 1) 3871 (30 + 2) [] [] M1 (n + 1) (WQ n M) := by
    intro M1 c1 c2
    refine tblk_p kbl_L_subtract kbs_L_subtract (rk := 0) (c := false) (i := 5) rfl 1 2 (P := kph_L_subtract_30) (pe := 131) rfl (by decide +kernel) ?_
    simp only [kph_L_subtract_30, w_ic, w_ire, trg, true_and, and_true, Nat.reduceAdd, Nat.reduceSub, eq_self]
    exact ⟨⟨_, rfl⟩, ⟨Nat.le_succ _, Nat.le_refl _⟩, c1, c2⟩
  have nend : ∀ (L : tL) (M1 : tM) (v : Int), CK M1 → WE M M1 → tT e (d' + 1) 3871 34 L [] (tU M1 690 0 v) n (WQ n M) := by
    intro L M1 v c1 c2
    refine tb_L_subtract_34 (c := false) ?_
    simp only [kb_L_subtract_34, w_ic, w_ire, trg, true_and, and_true, Nat.reduceAdd, Nat.reduceSub, eq_self]
    exact ⟨⟨_, rfl⟩, ⟨Nat.le_refl _, Nat.le_succ _⟩, CK_690 c1, WE_tr c2 WE_690⟩
  have nst : ∀ (L : tL) (M1 : tM) (v : Int), CK M1 → WE M M1 → tT e (d' + 1) 3871 18 L [.inr (.inl v), .inl 0, .inr (.inr (.inl 690))] M1 n (WQ n M) := by
    intro L M1 v c1 c2
    refine tb_L_subtract_18 (c := false) ?_
    simp only [kb_L_subtract_18, w_las, w_goto, true_and, and_true, Nat.reduceAdd, Nat.reduceSub, eq_self, tsw_690, tyw_41, tcw_1]
    exact ⟨by omega, nend _ M1 v c1 c2⟩
  refine tblk_p kbl_L_subtract kbs_L_subtract (rk := 0) (c := false) (i := 0) rfl 0 6 (P := kpa_L_subtract) (pe := 7) rfl (by decide +kernel) ?_
  simp only [kpa_L_subtract, w_ald4, w_ic, w_ald_0, w_ild_1, w_ild_2, w_ild_3, w_nil, true_and, and_true, Nat.reduceAdd, Nat.reduceSub, eq_self]
  refine tT_catch (pc := 7) (tblk_o kbl_L_subtract kbs_L_subtract (i := 0) (j := 6) rfl rfl) rfl sh0a sh0b rfl (kv he.2.2.2 (k_X11_subtract (b := 0) cl_0 h1 h2 h3 he.1 (by omega) (by omega)) (KA_x (v_subtract h1 h2 h3 he.2.1 hC.2 hC.1 (by omega))) hC.1) ?_ ?_
  · rintro v M1 n1 ⟨⟨⟨c1, c2⟩, c3⟩, hR⟩
    have c1 : CK M1 := ⟨c1, c3⟩
    have c2 := WE_p c2
    rcases hR with ⟨z, q, rfl, hz⟩ | ⟨s, q, _⟩
    · cases q
      refine tblk_p kbl_L_subtract kbs_L_subtract (rk := 0) (c := false) (i := 0) rfl 7 3 (P := kpc_L_subtract) (pe := 17) rfl (by decide +kernel) ?_
      show wB _ _ _ _ _ _ _ _ [.inl z, .inl 0, .inr (.inr (.inl 690))] _ _ _
      simp only [kpc_L_subtract, w_if_eq, w_lc1, w_goto, true_and, and_true, Nat.reduceAdd, Nat.reduceSub, eq_self, tsw_690, tyw_41, tcw_1]
      refine ⟨by omega, fun q => ?_, fun q => nst _ M1 1 c1 c2⟩
      refine tb_L_subtract_17 (c := false) ?_
      simp only [kb_L_subtract_17, w_lc0, w_nil, true_and, and_true, Nat.reduceAdd, Nat.reduceSub, eq_self]
      exact nst _ M1 0 c1 c2
    · cases q
  · rintro x M1 n1 ⟨⟨⟨c1, c2⟩, c3⟩, hR⟩
    have c1 : CK M1 := ⟨c1, c3⟩
    have c2 := WE_p c2
    rcases hR with ⟨z, q, _⟩ | ⟨s, q, rfl, hs⟩
    · cases q
    · cases q
      rcases hs with rfl | rfl | rfl
      all_goals
        first
        | exact ⟨22, _, 5, 2, by decide +kernel, tblk_o kbl_L_subtract kbs_L_subtract (i := 3) (j := 0) rfl rfl, rfl, by decide +kernel, nh22 _ c1 c2⟩
        | exact ⟨26, _, 5, 2, by decide +kernel, tblk_o kbl_L_subtract kbs_L_subtract (i := 4) (j := 0) rfl rfl, rfl, by decide +kernel, nh26 _ c1 c2⟩
        | exact ⟨30, _, 5, 2, by decide +kernel, tblk_o kbl_L_subtract kbs_L_subtract (i := 5) (j := 0) rfl rfl, rfl, by decide +kernel, nh30 _ c1 c2⟩
noncomputable def kpa_L_sure : List (Nat × bO) := [(0, .aload_n 2, 0, 0, 0, 0), (1, .iconst 0, 0, 0, 0, 0), (2, .aload_n 0, 0, 0, 0, 0), (3, .iload_n 1, 0, 0, 0, 0)]
noncomputable def kpc_L_sure : List (Nat × bO) := [(7, .i2l, 0, 0, 0, 0), (8, .lastore, 0, 0, 0, 0), (9, .goto 9, 0, 18, 0, 0)]
noncomputable def kph_L_sure_12 : List (Nat × bO) := [(13, .iconst 1, 0, 0, 0, 0), (14, .ireturn, 0, 0, 0, 0)]
noncomputable def kph_L_sure_15 : List (Nat × bO) := [(16, .iconst 2, 0, 0, 0, 0), (17, .ireturn, 0, 0, 0, 0)]
theorem lw_sure {p1 : Int} (hC : CK M) (he : EK e) (h1 : -2147483648 ≤ p1 ∧ p1 ≤ 2147483647) (hd : 12 ≤ d) : tC e d 3872 [.inr (.inr (.inl 0)), .inl p1, .inr (.inr (.inl 690))] M n (WQ n M) := by
  refine tst_L_sure ?_
  obtain ⟨d', rfl⟩ : ∃ d', d = d' + 1 := ⟨d - 1, by omega⟩
  have nh12 : ∀ (M1 : tM), CK M1 → WE M M1 → tT e (d' + 1) 3872 (12 + 1) [] [] M1 (n + 1) (WQ n M) := by
    intro M1 c1 c2
    refine tblk_p kbl_L_sure kbs_L_sure (rk := 0) (c := false) (i := 1) rfl 1 2 (P := kph_L_sure_12) (pe := 112) rfl (by decide +kernel) ?_
    simp only [kph_L_sure_12, w_ic, w_ire, trg, true_and, and_true, Nat.reduceAdd, Nat.reduceSub, eq_self]
    exact ⟨⟨_, rfl⟩, ⟨Nat.le_succ _, Nat.le_refl _⟩, c1, c2⟩
  have nh15 : ∀ (M1 : tM), CK M1 → WE M M1 → tT e (d' + 1) 3872 (15 + 1) [] [] M1 (n + 1) (WQ n M) := by
    intro M1 c1 c2
    refine tblk_p kbl_L_sure kbs_L_sure (rk := 0) (c := false) (i := 2) rfl 1 2 (P := kph_L_sure_15) (pe := 115) rfl (by decide +kernel) ?_
    simp only [kph_L_sure_15, w_ic, w_ire, trg, true_and, and_true, Nat.reduceAdd, Nat.reduceSub, eq_self]
    exact ⟨⟨_, rfl⟩, ⟨Nat.le_succ _, Nat.le_refl _⟩, c1, c2⟩
  have nend : ∀ (L : tL) (M1 : tM) (v : Int), CK M1 → WE M M1 → tT e (d' + 1) 3872 18 L [] (tU M1 690 0 v) n (WQ n M) := by
    intro L M1 v c1 c2
    refine tb_L_sure_18 (c := false) ?_
    simp only [kb_L_sure_18, w_ic, w_ire, trg, true_and, and_true, Nat.reduceAdd, Nat.reduceSub, eq_self]
    exact ⟨⟨_, rfl⟩, ⟨Nat.le_refl _, Nat.le_succ _⟩, CK_690 c1, WE_tr c2 WE_690⟩
  refine tblk_p kbl_L_sure kbs_L_sure (rk := 0) (c := false) (i := 0) rfl 0 4 (P := kpa_L_sure) (pe := 4) rfl (by decide +kernel) ?_
  simp only [kpa_L_sure, w_ald_2, w_ic, w_ald_0, w_ild_1, w_nil, true_and, and_true, Nat.reduceAdd, Nat.reduceSub, eq_self]
  refine tT_catch (pc := 4) (tblk_o kbl_L_sure kbs_L_sure (i := 0) (j := 4) rfl rfl) rfl sh0a sh0b rfl (kv he.2.2.2 (k_X11_sure (b := 0) cl_0 h1 (by omega) (by omega)) (KA_x (v_sure h1 hC.2 hC.1 (by omega))) hC.1) ?_ ?_
  · rintro v M1 n1 ⟨⟨⟨c1, c2⟩, c3⟩, hR⟩
    have c1 : CK M1 := ⟨c1, c3⟩
    have c2 := WE_p c2
    rcases hR with ⟨z, q, rfl, hz⟩ | ⟨s, q, _⟩
    · cases q
      refine tblk_p kbl_L_sure kbs_L_sure (rk := 0) (c := false) (i := 0) rfl 5 3 (P := kpc_L_sure) (pe := 12) rfl (by decide +kernel) ?_
      show wB _ _ _ _ _ _ _ _ [.inl z, .inl 0, .inr (.inr (.inl 690))] _ _ _
      simp only [kpc_L_sure, w_i2l, w_las, w_goto, true_and, and_true, Nat.reduceAdd, Nat.reduceSub, eq_self, tsw_690, tyw_41, tcw_1]
      exact ⟨by omega, by omega, nend _ M1 z c1 c2⟩
    · cases q
  · rintro x M1 n1 ⟨⟨⟨c1, c2⟩, c3⟩, hR⟩
    have c1 : CK M1 := ⟨c1, c3⟩
    have c2 := WE_p c2
    rcases hR with ⟨z, q, _⟩ | ⟨s, q, rfl, hs⟩
    · cases q
    · cases q
      rcases hs with rfl | rfl
      all_goals
        first
        | exact ⟨12, _, 3, 1, by decide +kernel, tblk_o kbl_L_sure kbs_L_sure (i := 1) (j := 0) rfl rfl, rfl, by decide +kernel, nh12 _ c1 c2⟩
        | exact ⟨15, _, 3, 1, by decide +kernel, tblk_o kbl_L_sure kbs_L_sure (i := 2) (j := 0) rfl rfl, rfl, by decide +kernel, nh15 _ c1 c2⟩
noncomputable def kpa_L_type : List (Nat × bO) := [(0, .aload_n 2, 0, 0, 0, 0), (1, .iconst 0, 0, 0, 0, 0), (2, .aload_n 0, 0, 0, 0, 0), (3, .iload_n 1, 0, 0, 0, 0)]
noncomputable def kpc_L_type : List (Nat × bO) := [(7, .i2l, 0, 0, 0, 0), (8, .lastore, 0, 0, 0, 0), (9, .goto 9, 0, 18, 0, 0)]
noncomputable def kph_L_type_12 : List (Nat × bO) := [(13, .iconst 1, 0, 0, 0, 0), (14, .ireturn, 0, 0, 0, 0)]
noncomputable def kph_L_type_15 : List (Nat × bO) := [(16, .iconst 2, 0, 0, 0, 0), (17, .ireturn, 0, 0, 0, 0)]
theorem lw_type {p1 : Int} (hC : CK M) (he : EK e) (h1 : 0 ≤ p1 ∧ p1 ≤ 65535) (hd : 12 ≤ d) : tC e d 3873 [.inr (.inr (.inl 0)), .inl p1, .inr (.inr (.inl 690))] M n (WQ n M) := by
  refine tst_L_type ?_
  obtain ⟨d', rfl⟩ : ∃ d', d = d' + 1 := ⟨d - 1, by omega⟩
  have nh12 : ∀ (M1 : tM), CK M1 → WE M M1 → tT e (d' + 1) 3873 (12 + 1) [] [] M1 (n + 1) (WQ n M) := by
    intro M1 c1 c2
    refine tblk_p kbl_L_type kbs_L_type (rk := 0) (c := false) (i := 1) rfl 1 2 (P := kph_L_type_12) (pe := 112) rfl (by decide +kernel) ?_
    simp only [kph_L_type_12, w_ic, w_ire, trg, true_and, and_true, Nat.reduceAdd, Nat.reduceSub, eq_self]
    exact ⟨⟨_, rfl⟩, ⟨Nat.le_succ _, Nat.le_refl _⟩, c1, c2⟩
  have nh15 : ∀ (M1 : tM), CK M1 → WE M M1 → tT e (d' + 1) 3873 (15 + 1) [] [] M1 (n + 1) (WQ n M) := by
    intro M1 c1 c2
    refine tblk_p kbl_L_type kbs_L_type (rk := 0) (c := false) (i := 2) rfl 1 2 (P := kph_L_type_15) (pe := 115) rfl (by decide +kernel) ?_
    simp only [kph_L_type_15, w_ic, w_ire, trg, true_and, and_true, Nat.reduceAdd, Nat.reduceSub, eq_self]
    exact ⟨⟨_, rfl⟩, ⟨Nat.le_succ _, Nat.le_refl _⟩, c1, c2⟩
  have nend : ∀ (L : tL) (M1 : tM) (v : Int), CK M1 → WE M M1 → tT e (d' + 1) 3873 18 L [] (tU M1 690 0 v) n (WQ n M) := by
    intro L M1 v c1 c2
    refine tb_L_type_18 (c := false) ?_
    simp only [kb_L_type_18, w_ic, w_ire, trg, true_and, and_true, Nat.reduceAdd, Nat.reduceSub, eq_self]
    exact ⟨⟨_, rfl⟩, ⟨Nat.le_refl _, Nat.le_succ _⟩, CK_690 c1, WE_tr c2 WE_690⟩
  refine tblk_p kbl_L_type kbs_L_type (rk := 0) (c := false) (i := 0) rfl 0 4 (P := kpa_L_type) (pe := 4) rfl (by decide +kernel) ?_
  simp only [kpa_L_type, w_ald_2, w_ic, w_ald_0, w_ild_1, w_nil, true_and, and_true, Nat.reduceAdd, Nat.reduceSub, eq_self]
  refine tT_catch (pc := 4) (tblk_o kbl_L_type kbs_L_type (i := 0) (j := 4) rfl rfl) rfl sh0a sh0b rfl (kv he.2.2.2 (k_X11_type (b := 0) cl_0 h1 (by omega) (by omega)) (KA_x (v_type h1 hC.2 hC.1 (by omega))) hC.1) ?_ ?_
  · rintro v M1 n1 ⟨⟨⟨c1, c2⟩, c3⟩, hR⟩
    have c1 : CK M1 := ⟨c1, c3⟩
    have c2 := WE_p c2
    rcases hR with ⟨z, q, rfl, hz⟩ | ⟨s, q, _⟩
    · cases q
      refine tblk_p kbl_L_type kbs_L_type (rk := 0) (c := false) (i := 0) rfl 5 3 (P := kpc_L_type) (pe := 12) rfl (by decide +kernel) ?_
      show wB _ _ _ _ _ _ _ _ [.inl z, .inl 0, .inr (.inr (.inl 690))] _ _ _
      simp only [kpc_L_type, w_i2l, w_las, w_goto, true_and, and_true, Nat.reduceAdd, Nat.reduceSub, eq_self, tsw_690, tyw_41, tcw_1]
      exact ⟨by omega, by omega, nend _ M1 z c1 c2⟩
    · cases q
  · rintro x M1 n1 ⟨⟨⟨c1, c2⟩, c3⟩, hR⟩
    have c1 : CK M1 := ⟨c1, c3⟩
    have c2 := WE_p c2
    rcases hR with ⟨z, q, _⟩ | ⟨s, q, rfl, hs⟩
    · cases q
    · cases q
      rcases hs with rfl | rfl
      all_goals
        first
        | exact ⟨12, _, 3, 1, by decide +kernel, tblk_o kbl_L_type kbs_L_type (i := 1) (j := 0) rfl rfl, rfl, by decide +kernel, nh12 _ c1 c2⟩
        | exact ⟨15, _, 3, 1, by decide +kernel, tblk_o kbl_L_type kbs_L_type (i := 2) (j := 0) rfl rfl, rfl, by decide +kernel, nh15 _ c1 c2⟩
noncomputable def kpa_L_undo : List (Nat × bO) := [(0, .aload_n 1, 0, 0, 0, 0), (1, .iconst 0, 0, 0, 0, 0), (2, .aload_n 0, 0, 0, 0, 0)]
noncomputable def kpc_L_undo : List (Nat × bO) := [(6, .i2l, 0, 0, 0, 0), (7, .lastore, 0, 0, 0, 0), (8, .goto 6, 0, 14, 0, 0)]
noncomputable def kph_L_undo_11 : List (Nat × bO) := [(12, .iconst 1, 0, 0, 0, 0), (13, .ireturn, 0, 0, 0, 0)]
theorem lw_undo (hC : CK M) (he : EK e)  (hd : 12 ≤ d) : tC e d 3874 [.inr (.inr (.inl 0)), .inr (.inr (.inl 690))] M n (WQ n M) := by
  refine tst_L_undo ?_
  obtain ⟨d', rfl⟩ : ∃ d', d = d' + 1 := ⟨d - 1, by omega⟩
  have nh11 : ∀ (M1 : tM), CK M1 → WE M M1 → tT e (d' + 1) 3874 (11 + 1) [] [] M1 (n + 1) (WQ n M) := by
    intro M1 c1 c2
    refine tblk_p kbl_L_undo kbs_L_undo (rk := 0) (c := false) (i := 1) rfl 1 2 (P := kph_L_undo_11) (pe := 111) rfl (by decide +kernel) ?_
    simp only [kph_L_undo_11, w_ic, w_ire, trg, true_and, and_true, Nat.reduceAdd, Nat.reduceSub, eq_self]
    exact ⟨⟨_, rfl⟩, ⟨Nat.le_succ _, Nat.le_refl _⟩, c1, c2⟩
  have nend : ∀ (L : tL) (M1 : tM) (v : Int), CK M1 → WE M M1 → tT e (d' + 1) 3874 14 L [] (tU M1 690 0 v) n (WQ n M) := by
    intro L M1 v c1 c2
    refine tb_L_undo_14 (c := false) ?_
    simp only [kb_L_undo_14, w_ic, w_ire, trg, true_and, and_true, Nat.reduceAdd, Nat.reduceSub, eq_self]
    exact ⟨⟨_, rfl⟩, ⟨Nat.le_refl _, Nat.le_succ _⟩, CK_690 c1, WE_tr c2 WE_690⟩
  refine tblk_p kbl_L_undo kbs_L_undo (rk := 0) (c := false) (i := 0) rfl 0 3 (P := kpa_L_undo) (pe := 3) rfl (by decide +kernel) ?_
  simp only [kpa_L_undo, w_ald_1, w_ic, w_ald_0, w_nil, true_and, and_true, Nat.reduceAdd, Nat.reduceSub, eq_self]
  refine tT_catch (pc := 3) (tblk_o kbl_L_undo kbs_L_undo (i := 0) (j := 3) rfl rfl) rfl sh0a sh0b rfl (kv he.2.2.2 (k_X11_undo (b := 0) cl_0 (by omega) (by omega)) (KA_x (v_undo hC.2 hC.1 (by omega))) hC.1) ?_ ?_
  · rintro v M1 n1 ⟨⟨⟨c1, c2⟩, c3⟩, hR⟩
    have c1 : CK M1 := ⟨c1, c3⟩
    have c2 := WE_p c2
    rcases hR with ⟨z, q, rfl, hz⟩ | ⟨s, q, _⟩
    · cases q
      refine tblk_p kbl_L_undo kbs_L_undo (rk := 0) (c := false) (i := 0) rfl 4 3 (P := kpc_L_undo) (pe := 11) rfl (by decide +kernel) ?_
      show wB _ _ _ _ _ _ _ _ [.inl z, .inl 0, .inr (.inr (.inl 690))] _ _ _
      simp only [kpc_L_undo, w_i2l, w_las, w_goto, true_and, and_true, Nat.reduceAdd, Nat.reduceSub, eq_self, tsw_690, tyw_41, tcw_1]
      exact ⟨by omega, by omega, nend _ M1 z c1 c2⟩
    · cases q
  · rintro x M1 n1 ⟨⟨⟨c1, c2⟩, c3⟩, hR⟩
    have c1 : CK M1 := ⟨c1, c3⟩
    have c2 := WE_p c2
    rcases hR with ⟨z, q, _⟩ | ⟨s, q, rfl, hs⟩
    · cases q
    · cases q
      subst hs
      first
      | exact ⟨11, _, 2, 1, by decide +kernel, tblk_o kbl_L_undo kbs_L_undo (i := 1) (j := 0) rfl rfl, rfl, by decide +kernel, nh11 _ c1 c2⟩
noncomputable def kpa_L_value : List (Nat × bO) := [(0, .aload 5, 0, 0, 0, 0), (2, .iconst 0, 0, 0, 0, 0), (3, .aload_n 0, 0, 0, 0, 0), (4, .iload_n 1, 0, 0, 0, 0), (5, .iload_n 2, 0, 0, 0, 0), (6, .iload_n 3, 0, 0, 0, 0), (7, .iload 4, 0, 0, 0, 0)]
noncomputable def kpc_L_value : List (Nat × bO) := [(12, .ifCond .eq 7, 0, 19, 0, 0), (15, .lconst 1, 0, 0, 0, 0), (16, .goto 4, 0, 20, 0, 0)]
noncomputable def kph_L_value_24 : List (Nat × bO) := [(26, .iconst 1, 0, 0, 0, 0), (27, .ireturn, 0, 0, 0, 0)]
noncomputable def kph_L_value_28 : List (Nat × bO) := [(30, .iconst 2, 0, 0, 0, 0), (31, .ireturn, 0, 0, 0, 0)]
noncomputable def kph_L_value_32 : List (Nat × bO) := [(34, .iconst 3, 0, 0, 0, 0), (35, .ireturn, 0, 0, 0, 0)]
noncomputable def kph_L_value_36 : List (Nat × bO) := [(38, .iconst 4, 0, 0, 0, 0), (39, .ireturn, 0, 0, 0, 0)]
theorem lw_value {p1 p2 p3 p4 : Int} (hC : CK M) (he : EK e) (h1 : -2147483648 ≤ p1 ∧ p1 ≤ 2147483647) (h2 : -2147483648 ≤ p2 ∧ p2 ≤ 2147483647) (h3 : -2147483648 ≤ p3 ∧ p3 ≤ 2147483647) (h4 : -2147483648 ≤ p4 ∧ p4 ≤ 2147483647) (hd : 12 ≤ d) : tC e d 3875 [.inr (.inr (.inl 0)), .inl p1, .inl p2, .inl p3, .inl p4, .inr (.inr (.inl 690))] M n (WQ n M) := by
  refine tst_L_value ?_
  obtain ⟨d', rfl⟩ : ∃ d', d = d' + 1 := ⟨d - 1, by omega⟩
  have nh24 : ∀ (M1 : tM), CK M1 → WE M M1 → tT e (d' + 1) 3875 (24 + 2) [] [] M1 (n + 1) (WQ n M) := by
    intro M1 c1 c2
    refine tblk_p kbl_L_value kbs_L_value (rk := 0) (c := false) (i := 3) rfl 1 2 (P := kph_L_value_24) (pe := 125) rfl (by decide +kernel) ?_
    simp only [kph_L_value_24, w_ic, w_ire, trg, true_and, and_true, Nat.reduceAdd, Nat.reduceSub, eq_self]
    exact ⟨⟨_, rfl⟩, ⟨Nat.le_succ _, Nat.le_refl _⟩, c1, c2⟩
  have nh28 : ∀ (M1 : tM), CK M1 → WE M M1 → tT e (d' + 1) 3875 (28 + 2) [] [] M1 (n + 1) (WQ n M) := by
    intro M1 c1 c2
    refine tblk_p kbl_L_value kbs_L_value (rk := 0) (c := false) (i := 4) rfl 1 2 (P := kph_L_value_28) (pe := 129) rfl (by decide +kernel) ?_
    simp only [kph_L_value_28, w_ic, w_ire, trg, true_and, and_true, Nat.reduceAdd, Nat.reduceSub, eq_self]
    exact ⟨⟨_, rfl⟩, ⟨Nat.le_succ _, Nat.le_refl _⟩, c1, c2⟩
  have nh32 : ∀ (M1 : tM), CK M1 → WE M M1 → tT e (d' + 1) 3875 (32 + 2) [] [] M1 (n + 1) (WQ n M) := by
    intro M1 c1 c2
    refine tblk_p kbl_L_value kbs_L_value (rk := 0) (c := false) (i := 5) rfl 1 2 (P := kph_L_value_32) (pe := 133) rfl (by decide +kernel) ?_
    simp only [kph_L_value_32, w_ic, w_ire, trg, true_and, and_true, Nat.reduceAdd, Nat.reduceSub, eq_self]
    exact ⟨⟨_, rfl⟩, ⟨Nat.le_succ _, Nat.le_refl _⟩, c1, c2⟩
  have nh36 : ∀ (M1 : tM), CK M1 → WE M M1 → tT e (d' + 1) 3875 (36 + 2) [] [] M1 (n + 1) (WQ n M) := by
    intro M1 c1 c2
    refine tblk_p kbl_L_value kbs_L_value (rk := 0) (c := false) (i := 6) rfl 1 2 (P := kph_L_value_36) (pe := 137) rfl (by decide +kernel) ?_
    simp only [kph_L_value_36, w_ic, w_ire, trg, true_and, and_true, Nat.reduceAdd, Nat.reduceSub, eq_self]
    exact ⟨⟨_, rfl⟩, ⟨Nat.le_succ _, Nat.le_refl _⟩, c1, c2⟩
  have nend : ∀ (L : tL) (M1 : tM) (v : Int), CK M1 → WE M M1 → tT e (d' + 1) 3875 40 L [] (tU M1 690 0 v) n (WQ n M) := by
    intro L M1 v c1 c2
    refine tb_L_value_40 (c := false) ?_
    simp only [kb_L_value_40, w_ic, w_ire, trg, true_and, and_true, Nat.reduceAdd, Nat.reduceSub, eq_self]
    exact ⟨⟨_, rfl⟩, ⟨Nat.le_refl _, Nat.le_succ _⟩, CK_690 c1, WE_tr c2 WE_690⟩
  have nst : ∀ (L : tL) (M1 : tM) (v : Int), CK M1 → WE M M1 → tT e (d' + 1) 3875 20 L [.inr (.inl v), .inl 0, .inr (.inr (.inl 690))] M1 n (WQ n M) := by
    intro L M1 v c1 c2
    refine tb_L_value_20 (c := false) ?_
    simp only [kb_L_value_20, w_las, w_goto, true_and, and_true, Nat.reduceAdd, Nat.reduceSub, eq_self, tsw_690, tyw_41, tcw_1]
    exact ⟨by omega, nend _ M1 v c1 c2⟩
  refine tblk_p kbl_L_value kbs_L_value (rk := 0) (c := false) (i := 0) rfl 0 7 (P := kpa_L_value) (pe := 9) rfl (by decide +kernel) ?_
  simp only [kpa_L_value, w_ald5, w_ic, w_ald_0, w_ild_1, w_ild_2, w_ild_3, w_ild4, w_nil, true_and, and_true, Nat.reduceAdd, Nat.reduceSub, eq_self]
  refine tT_catch (pc := 9) (tblk_o kbl_L_value kbs_L_value (i := 0) (j := 7) rfl rfl) rfl sh0a sh0b rfl (kv he.2.2.2 (k_X11_value (b := 0) cl_0 h1 h2 h3 h4 he.1 (by omega) (by omega)) (KA_x (v_value h1 h2 h3 h4 he.2.1 hC.2 hC.1 (by omega))) hC.1) ?_ ?_
  · rintro v M1 n1 ⟨⟨⟨c1, c2⟩, c3⟩, hR⟩
    have c1 : CK M1 := ⟨c1, c3⟩
    have c2 := WE_p c2
    rcases hR with ⟨z, q, rfl, hz⟩ | ⟨s, q, _⟩
    · cases q
      refine tblk_p kbl_L_value kbs_L_value (rk := 0) (c := false) (i := 0) rfl 8 3 (P := kpc_L_value) (pe := 19) rfl (by decide +kernel) ?_
      show wB _ _ _ _ _ _ _ _ [.inl z, .inl 0, .inr (.inr (.inl 690))] _ _ _
      simp only [kpc_L_value, w_if_eq, w_lc1, w_goto, true_and, and_true, Nat.reduceAdd, Nat.reduceSub, eq_self, tsw_690, tyw_41, tcw_1]
      refine ⟨by omega, fun q => ?_, fun q => nst _ M1 1 c1 c2⟩
      refine tb_L_value_19 (c := false) ?_
      simp only [kb_L_value_19, w_lc0, w_nil, true_and, and_true, Nat.reduceAdd, Nat.reduceSub, eq_self]
      exact nst _ M1 0 c1 c2
    · cases q
  · rintro x M1 n1 ⟨⟨⟨c1, c2⟩, c3⟩, hR⟩
    have c1 : CK M1 := ⟨c1, c3⟩
    have c2 := WE_p c2
    rcases hR with ⟨z, q, _⟩ | ⟨s, q, rfl, hs⟩
    · cases q
    · cases q
      rcases hs with rfl | rfl | rfl | rfl
      all_goals
        first
        | exact ⟨24, _, 6, 2, by decide +kernel, tblk_o kbl_L_value kbs_L_value (i := 3) (j := 0) rfl rfl, rfl, by decide +kernel, nh24 _ c1 c2⟩
        | exact ⟨28, _, 6, 2, by decide +kernel, tblk_o kbl_L_value kbs_L_value (i := 4) (j := 0) rfl rfl, rfl, by decide +kernel, nh28 _ c1 c2⟩
        | exact ⟨32, _, 6, 2, by decide +kernel, tblk_o kbl_L_value kbs_L_value (i := 5) (j := 0) rfl rfl, rfl, by decide +kernel, nh32 _ c1 c2⟩
        | exact ⟨36, _, 6, 2, by decide +kernel, tblk_o kbl_L_value kbs_L_value (i := 6) (j := 0) rfl rfl, rfl, by decide +kernel, nh36 _ c1 c2⟩
noncomputable def kpa_L_width : List (Nat × bO) := [(0, .aload_n 2, 0, 0, 0, 0), (1, .iconst 0, 0, 0, 0, 0), (2, .aload_n 0, 0, 0, 0, 0), (3, .iload_n 1, 0, 0, 0, 0)]
noncomputable def kpc_L_width : List (Nat × bO) := [(7, .i2l, 0, 0, 0, 0), (8, .lastore, 0, 0, 0, 0), (9, .goto 9, 0, 18, 0, 0)]
noncomputable def kph_L_width_12 : List (Nat × bO) := [(13, .iconst 1, 0, 0, 0, 0), (14, .ireturn, 0, 0, 0, 0)]
noncomputable def kph_L_width_15 : List (Nat × bO) := [(16, .iconst 2, 0, 0, 0, 0), (17, .ireturn, 0, 0, 0, 0)]
theorem lw_width {p1 : Int} (hC : CK M) (he : EK e) (h1 : -2147483648 ≤ p1 ∧ p1 ≤ 2147483647) (hd : 12 ≤ d) : tC e d 3876 [.inr (.inr (.inl 0)), .inl p1, .inr (.inr (.inl 690))] M n (WQ n M) := by
  refine tst_L_width ?_
  obtain ⟨d', rfl⟩ : ∃ d', d = d' + 1 := ⟨d - 1, by omega⟩
  have nh12 : ∀ (M1 : tM), CK M1 → WE M M1 → tT e (d' + 1) 3876 (12 + 1) [] [] M1 (n + 1) (WQ n M) := by
    intro M1 c1 c2
    refine tblk_p kbl_L_width kbs_L_width (rk := 0) (c := false) (i := 1) rfl 1 2 (P := kph_L_width_12) (pe := 112) rfl (by decide +kernel) ?_
    simp only [kph_L_width_12, w_ic, w_ire, trg, true_and, and_true, Nat.reduceAdd, Nat.reduceSub, eq_self]
    exact ⟨⟨_, rfl⟩, ⟨Nat.le_succ _, Nat.le_refl _⟩, c1, c2⟩
  have nh15 : ∀ (M1 : tM), CK M1 → WE M M1 → tT e (d' + 1) 3876 (15 + 1) [] [] M1 (n + 1) (WQ n M) := by
    intro M1 c1 c2
    refine tblk_p kbl_L_width kbs_L_width (rk := 0) (c := false) (i := 2) rfl 1 2 (P := kph_L_width_15) (pe := 115) rfl (by decide +kernel) ?_
    simp only [kph_L_width_15, w_ic, w_ire, trg, true_and, and_true, Nat.reduceAdd, Nat.reduceSub, eq_self]
    exact ⟨⟨_, rfl⟩, ⟨Nat.le_succ _, Nat.le_refl _⟩, c1, c2⟩
  have nend : ∀ (L : tL) (M1 : tM) (v : Int), CK M1 → WE M M1 → tT e (d' + 1) 3876 18 L [] (tU M1 690 0 v) n (WQ n M) := by
    intro L M1 v c1 c2
    refine tb_L_width_18 (c := false) ?_
    simp only [kb_L_width_18, w_ic, w_ire, trg, true_and, and_true, Nat.reduceAdd, Nat.reduceSub, eq_self]
    exact ⟨⟨_, rfl⟩, ⟨Nat.le_refl _, Nat.le_succ _⟩, CK_690 c1, WE_tr c2 WE_690⟩
  refine tblk_p kbl_L_width kbs_L_width (rk := 0) (c := false) (i := 0) rfl 0 4 (P := kpa_L_width) (pe := 4) rfl (by decide +kernel) ?_
  simp only [kpa_L_width, w_ald_2, w_ic, w_ald_0, w_ild_1, w_nil, true_and, and_true, Nat.reduceAdd, Nat.reduceSub, eq_self]
  refine tT_catch (pc := 4) (tblk_o kbl_L_width kbs_L_width (i := 0) (j := 4) rfl rfl) rfl sh0a sh0b rfl (kv he.2.2.2 (k_X11_width (b := 0) cl_0 h1 (by omega) (by omega)) (KA_x (v_width h1 hC.2 hC.1 (by omega))) hC.1) ?_ ?_
  · rintro v M1 n1 ⟨⟨⟨c1, c2⟩, c3⟩, hR⟩
    have c1 : CK M1 := ⟨c1, c3⟩
    have c2 := WE_p c2
    rcases hR with ⟨z, q, rfl, hz⟩ | ⟨s, q, _⟩
    · cases q
      refine tblk_p kbl_L_width kbs_L_width (rk := 0) (c := false) (i := 0) rfl 5 3 (P := kpc_L_width) (pe := 12) rfl (by decide +kernel) ?_
      show wB _ _ _ _ _ _ _ _ [.inl z, .inl 0, .inr (.inr (.inl 690))] _ _ _
      simp only [kpc_L_width, w_i2l, w_las, w_goto, true_and, and_true, Nat.reduceAdd, Nat.reduceSub, eq_self, tsw_690, tyw_41, tcw_1]
      exact ⟨by omega, by omega, nend _ M1 z c1 c2⟩
    · cases q
  · rintro x M1 n1 ⟨⟨⟨c1, c2⟩, c3⟩, hR⟩
    have c1 : CK M1 := ⟨c1, c3⟩
    have c2 := WE_p c2
    rcases hR with ⟨z, q, _⟩ | ⟨s, q, rfl, hs⟩
    · cases q
    · cases q
      rcases hs with rfl | rfl
      all_goals
        first
        | exact ⟨12, _, 3, 1, by decide +kernel, tblk_o kbl_L_width kbs_L_width (i := 1) (j := 0) rfl rfl, rfl, by decide +kernel, nh12 _ c1 c2⟩
        | exact ⟨15, _, 3, 1, by decide +kernel, tblk_o kbl_L_width kbs_L_width (i := 2) (j := 0) rfl rfl, rfl, by decide +kernel, nh15 _ c1 c2⟩
noncomputable def kpa_L_zeros : List (Nat × bO) := [(0, .aload 4, 0, 0, 0, 0), (2, .iconst 0, 0, 0, 0, 0), (3, .aload_n 0, 0, 0, 0, 0), (4, .iload_n 1, 0, 0, 0, 0), (5, .iload_n 2, 0, 0, 0, 0), (6, .iload_n 3, 0, 0, 0, 0)]
noncomputable def kpc_L_zeros : List (Nat × bO) := [(10, .i2l, 0, 0, 0, 0), (11, .lastore, 0, 0, 0, 0), (12, .goto 19, 0, 31, 0, 0)]
noncomputable def kph_L_zeros_15 : List (Nat × bO) := [(17, .iconst 1, 0, 0, 0, 0), (18, .ireturn, 0, 0, 0, 0)]
noncomputable def kph_L_zeros_19 : List (Nat × bO) := [(21, .iconst 2, 0, 0, 0, 0), (22, .ireturn, 0, 0, 0, 0)]
noncomputable def kph_L_zeros_23 : List (Nat × bO) := [(25, .iconst 3, 0, 0, 0, 0), (26, .ireturn, 0, 0, 0, 0)]
noncomputable def kph_L_zeros_27 : List (Nat × bO) := [(29, .iconst 4, 0, 0, 0, 0), (30, .ireturn, 0, 0, 0, 0)]
theorem lw_zeros {p1 p2 p3 : Int} (hC : CK M) (he : EK e) (h1 : -2147483648 ≤ p1 ∧ p1 ≤ 2147483647) (h2 : -2147483648 ≤ p2 ∧ p2 ≤ 2147483647) (h3 : -2147483648 ≤ p3 ∧ p3 ≤ 2147483647) (hd : 12 ≤ d) : tC e d 3877 [.inr (.inr (.inl 0)), .inl p1, .inl p2, .inl p3, .inr (.inr (.inl 690))] M n (WQ n M) := by
  refine tst_L_zeros ?_
  obtain ⟨d', rfl⟩ : ∃ d', d = d' + 1 := ⟨d - 1, by omega⟩
  have nh15 : ∀ (M1 : tM), CK M1 → WE M M1 → tT e (d' + 1) 3877 (15 + 2) [] [] M1 (n + 1) (WQ n M) := by
    intro M1 c1 c2
    refine tblk_p kbl_L_zeros kbs_L_zeros (rk := 0) (c := false) (i := 1) rfl 1 2 (P := kph_L_zeros_15) (pe := 116) rfl (by decide +kernel) ?_
    simp only [kph_L_zeros_15, w_ic, w_ire, trg, true_and, and_true, Nat.reduceAdd, Nat.reduceSub, eq_self]
    exact ⟨⟨_, rfl⟩, ⟨Nat.le_succ _, Nat.le_refl _⟩, c1, c2⟩
  have nh19 : ∀ (M1 : tM), CK M1 → WE M M1 → tT e (d' + 1) 3877 (19 + 2) [] [] M1 (n + 1) (WQ n M) := by
    intro M1 c1 c2
    refine tblk_p kbl_L_zeros kbs_L_zeros (rk := 0) (c := false) (i := 2) rfl 1 2 (P := kph_L_zeros_19) (pe := 120) rfl (by decide +kernel) ?_
    simp only [kph_L_zeros_19, w_ic, w_ire, trg, true_and, and_true, Nat.reduceAdd, Nat.reduceSub, eq_self]
    exact ⟨⟨_, rfl⟩, ⟨Nat.le_succ _, Nat.le_refl _⟩, c1, c2⟩
  have nh23 : ∀ (M1 : tM), CK M1 → WE M M1 → tT e (d' + 1) 3877 (23 + 2) [] [] M1 (n + 1) (WQ n M) := by
    intro M1 c1 c2
    refine tblk_p kbl_L_zeros kbs_L_zeros (rk := 0) (c := false) (i := 3) rfl 1 2 (P := kph_L_zeros_23) (pe := 124) rfl (by decide +kernel) ?_
    simp only [kph_L_zeros_23, w_ic, w_ire, trg, true_and, and_true, Nat.reduceAdd, Nat.reduceSub, eq_self]
    exact ⟨⟨_, rfl⟩, ⟨Nat.le_succ _, Nat.le_refl _⟩, c1, c2⟩
  have nh27 : ∀ (M1 : tM), CK M1 → WE M M1 → tT e (d' + 1) 3877 (27 + 2) [] [] M1 (n + 1) (WQ n M) := by
    intro M1 c1 c2
    refine tblk_p kbl_L_zeros kbs_L_zeros (rk := 0) (c := false) (i := 4) rfl 1 2 (P := kph_L_zeros_27) (pe := 128) rfl (by decide +kernel) ?_
    simp only [kph_L_zeros_27, w_ic, w_ire, trg, true_and, and_true, Nat.reduceAdd, Nat.reduceSub, eq_self]
    exact ⟨⟨_, rfl⟩, ⟨Nat.le_succ _, Nat.le_refl _⟩, c1, c2⟩
  have nend : ∀ (L : tL) (M1 : tM) (v : Int), CK M1 → WE M M1 → tT e (d' + 1) 3877 31 L [] (tU M1 690 0 v) n (WQ n M) := by
    intro L M1 v c1 c2
    refine tb_L_zeros_31 (c := false) ?_
    simp only [kb_L_zeros_31, w_ic, w_ire, trg, true_and, and_true, Nat.reduceAdd, Nat.reduceSub, eq_self]
    exact ⟨⟨_, rfl⟩, ⟨Nat.le_refl _, Nat.le_succ _⟩, CK_690 c1, WE_tr c2 WE_690⟩
  refine tblk_p kbl_L_zeros kbs_L_zeros (rk := 0) (c := false) (i := 0) rfl 0 6 (P := kpa_L_zeros) (pe := 7) rfl (by decide +kernel) ?_
  simp only [kpa_L_zeros, w_ald4, w_ic, w_ald_0, w_ild_1, w_ild_2, w_ild_3, w_nil, true_and, and_true, Nat.reduceAdd, Nat.reduceSub, eq_self]
  refine tT_catch (pc := 7) (tblk_o kbl_L_zeros kbs_L_zeros (i := 0) (j := 6) rfl rfl) rfl sh0a sh0b rfl (kv he.2.2.2 (k_X11_zeros (b := 0) cl_0 h1 h2 h3 he.1 (by omega) (by omega)) (KA_x (v_zeros h1 h2 h3 he.2.1 he.2.2.1 hC.2 hC.1 (by omega))) hC.1) ?_ ?_
  · rintro v M1 n1 ⟨⟨⟨c1, c2⟩, c3⟩, hR⟩
    have c1 : CK M1 := ⟨c1, c3⟩
    have c2 := WE_p c2
    rcases hR with ⟨z, q, rfl, hz⟩ | ⟨s, q, _⟩
    · cases q
      refine tblk_p kbl_L_zeros kbs_L_zeros (rk := 0) (c := false) (i := 0) rfl 7 3 (P := kpc_L_zeros) (pe := 15) rfl (by decide +kernel) ?_
      show wB _ _ _ _ _ _ _ _ [.inl z, .inl 0, .inr (.inr (.inl 690))] _ _ _
      simp only [kpc_L_zeros, w_i2l, w_las, w_goto, true_and, and_true, Nat.reduceAdd, Nat.reduceSub, eq_self, tsw_690, tyw_41, tcw_1]
      exact ⟨by omega, by omega, nend _ M1 z c1 c2⟩
    · cases q
  · rintro x M1 n1 ⟨⟨⟨c1, c2⟩, c3⟩, hR⟩
    have c1 : CK M1 := ⟨c1, c3⟩
    have c2 := WE_p c2
    rcases hR with ⟨z, q, _⟩ | ⟨s, q, rfl, hs⟩
    · cases q
    · cases q
      rcases hs with rfl | rfl | rfl | rfl
      all_goals
        first
        | exact ⟨15, _, 5, 2, by decide +kernel, tblk_o kbl_L_zeros kbs_L_zeros (i := 1) (j := 0) rfl rfl, rfl, by decide +kernel, nh15 _ c1 c2⟩
        | exact ⟨19, _, 5, 2, by decide +kernel, tblk_o kbl_L_zeros kbs_L_zeros (i := 2) (j := 0) rfl rfl, rfl, by decide +kernel, nh19 _ c1 c2⟩
        | exact ⟨23, _, 5, 2, by decide +kernel, tblk_o kbl_L_zeros kbs_L_zeros (i := 3) (j := 0) rfl rfl, rfl, by decide +kernel, nh23 _ c1 c2⟩
        | exact ⟨27, _, 5, 2, by decide +kernel, tblk_o kbl_L_zeros kbs_L_zeros (i := 4) (j := 0) rfl rfl, rfl, by decide +kernel, nh27 _ c1 c2⟩
end LAW
