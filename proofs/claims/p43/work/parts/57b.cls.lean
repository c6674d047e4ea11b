/-! THE CLASS: methods, printed by wip/p2/gen/sgen.py. -/
theorem k_X0_ofOne {e : tE} {b : Nat} {d n : Nat} {r : Nat} {x1 : Nat} {x2 : Int} {x3 : Int} (h0 : cl r 2) (h1 : cl x1 4) (h2 : (0 ≤ x2 ∧ x2 ≤ 65535)) (h3 : (-2147483648 ≤ x3 ∧ x3 ≤ 2147483647)) (hq : x2 = 114 → 2 ≤ x3 ∧ x3 ≤ 9) (he : EO e) (hb : b < 2) (hd : 6 ≤ d) : sC e b d 516 [.inr (.inr (.inl r)), .inr (.inr (.inl x1)), .inl x2, .inl x3] n (SQi n (fun z => (0 ≤ z ∧ z ≤ 2) ∧ (z = 1 → x2 = 114 ∨ x2 = 108))) := by
  refine sK (fun M h => tst_X0_ofOne h) (fun M0 => ?_)
  have n32 : ∀ (w4_32 : Option tV) (w5_32 : Option tV) (w6_32 : Option tV), (108 ≤ x2 ∧ x2 ≤ 114) → (x2 = 114 ∨ x2 = 108) → sT e b M0 d 516 32 [] [some (.inr (.inr (.inl r))), some (.inr (.inr (.inl x1))), some (.inl x2), some (.inl x3), w4_32, w5_32, w6_32] [] n (fun r n' _ => (SQi n (fun z => (0 ≤ z ∧ z ≤ 2) ∧ (z = 1 → x2 = 114 ∨ x2 = 108))) r n') := by
    intro w4_32 w5_32 w6_32 y32_0 y32_1
    refine sblk (hv := false) kbl_X0_ofOne kbs_X0_ofOne (pc := 32) (pe := 34) (rk := 0) (i := 2) rfl (by decide +kernel) ?_
    simp only [kb_X0_ofOne_32, s_ic, s_ire, trg, LR, IR, true_and, and_true, Nat.reduceAdd, Nat.reduceSub, eq_self]
    exact fun _ _ _ _ => ⟨_, rfl, rfl, by omega⟩
  have n16 : ∀ (w4_16 : Option tV) (w5_16 : Option tV) (w6_16 : Option tV), (0 ≤ x2 ∧ x2 ≤ 65535) → sT e b M0 d 516 16 [] [some (.inr (.inr (.inl r))), some (.inr (.inr (.inl x1))), some (.inl x2), some (.inl x3), w4_16, w5_16, w6_16] [] n (fun r n' _ => (SQi n (fun z => (0 ≤ z ∧ z ≤ 2) ∧ (z = 1 → x2 = 114 ∨ x2 = 108))) r n') := by
    intro w4_16 w5_16 w6_16 y16_0
    have n34 : ∀ (w4_34 : Option tV) (w5_34 : Option tV) (w6_34 : Option tV), sT e b M0 d 516 34 [] [some (.inr (.inr (.inl r))), some (.inr (.inr (.inl x1))), some (.inl x2), some (.inl x3), w4_34, w5_34, w6_34] [] n (fun r n' _ => (SQi n (fun z => (0 ≤ z ∧ z ≤ 2) ∧ (z = 1 → x2 = 114 ∨ x2 = 108))) r n') := by
      intro w4_34 w5_34 w6_34 
      have n50 : ∀ (w4_50 : Option tV) (w5_50 : Option tV) (w6_50 : Option tV), sT e b M0 d 516 50 [] [some (.inr (.inr (.inl r))), some (.inr (.inr (.inl x1))), some (.inl x2), some (.inl x3), w4_50, w5_50, w6_50] [] n (fun r n' _ => (SQi n (fun z => (0 ≤ z ∧ z ≤ 2) ∧ (z = 1 → x2 = 114 ∨ x2 = 108))) r n') := by
        intro w4_50 w5_50 w6_50 
        have n59 : ∀ (fu : Nat) (i4_59 : Int) (i5_59 : Int) (w6_59 : Option tV), 2 - i5_59 + 1 ≤ (fu : Int) → (0 ≤ i4_59 ∧ i4_59 ≤ 1) → (0 ≤ i5_59 ∧ i5_59 ≤ 2) → sT e b M0 d 516 59 [] [some (.inr (.inr (.inl r))), some (.inr (.inr (.inl x1))), some (.inl x2), some (.inl x3), some (.inl i4_59), some (.inl i5_59), w6_59] [] n (fun r n' _ => (SQi n (fun z => (0 ≤ z ∧ z ≤ 2) ∧ (z = 1 → x2 = 114 ∨ x2 = 108))) r n') := by
          intro fu
          induction fu with
          | zero =>
            intro i4_59 i5_59 w6_59 hm y59_0 y59_1
            exfalso; omega
          | succ fu ih =>
            intro i4_59 i5_59 w6_59 hm y59_0 y59_1
            have ih59 := ih
            clear ih
            have n81 : ∀ (w6_81 : Option tV) (qs0_81 : Nat), (0 ≤ i5_59 ∧ i5_59 ≤ 1) → cl qs0_81 3 → sT e b M0 d 516 81 [] [some (.inr (.inr (.inl r))), some (.inr (.inr (.inl x1))), some (.inl x2), some (.inl x3), some (.inl i4_59), some (.inl i5_59), w6_81] [.inr (.inr (.inl qs0_81))] n (fun r n' _ => (SQi n (fun z => (0 ≤ z ∧ z ≤ 2) ∧ (z = 1 → x2 = 114 ∨ x2 = 108))) r n') := by
              intro w6_81 qs0_81 y81_0 y81_1
              have n216 : ∀ (q6_216 : Nat), cl q6_216 3 → sT e b M0 d 516 216 [] [some (.inr (.inr (.inl r))), some (.inr (.inr (.inl x1))), some (.inl x2), some (.inl x3), some (.inl i4_59), some (.inl i5_59), some (.inr (.inr (.inl q6_216)))] [] n (fun r n' _ => (SQi n (fun z => (0 ≤ z ∧ z ≤ 2) ∧ (z = 1 → x2 = 114 ∨ x2 = 108))) r n') := by
                intro q6_216 y216_0
                have n254 : sT e b M0 d 516 254 [] [some (.inr (.inr (.inl r))), some (.inr (.inr (.inl x1))), some (.inl x2), some (.inl x3), some (.inl i4_59), some (.inl i5_59), some (.inr (.inr (.inl q6_216)))] [] n (fun r n' _ => (SQi n (fun z => (0 ≤ z ∧ z ≤ 2) ∧ (z = 1 → x2 = 114 ∨ x2 = 108))) r n') := by
                  refine sblk (hv := false) kbl_X0_ofOne kbs_X0_ofOne (pc := 254) (pe := 260) (rk := 0) (i := 16) rfl (by decide +kernel) ?_
                  simp only [kb_X0_ofOne_254, s_inc5, tkl_n, tkl_i, tkl_l, tkl_r, s_goto, LR, IR, true_and, and_true, Nat.reduceAdd, Nat.reduceSub, eq_self]
                  exact sT_w (ih59 _ _ _ (by omega) (by omega) (by omega))
                refine sblk (hv := false) kbl_X0_ofOne kbs_X0_ofOne (pc := 216) (pe := 239) (rk := 0) (i := 14) rfl (by decide +kernel) ?_
                simp only [kb_X0_ofOne_216, s_ild5, s_if_ne, s_ald_0, s_gf_2_0, s_gf_2_2, s_gf_2_5, s_iv2, tfr_0, tfr_1, tfr_2, tfr_3, tfr_4, s_goto, LR, IR, true_and, and_true, Nat.reduceAdd, Nat.reduceSub, eq_self]
                refine ⟨by omega, fun h6_ => ?_, fun h6_ => ?_⟩
                · refine sT_w ?_
                  refine sblk (hv := false) kbl_X0_ofOne kbs_X0_ofOne (pc := 239) (pe := 254) (rk := 0) (i := 15) rfl (by decide +kernel) ?_
                  simp only [kb_X0_ofOne_239, s_ald_0, s_gf_2_0, s_gf_2_3, s_gf_2_5, s_iv2, tfr_0, tfr_1, tfr_2, tfr_3, tfr_4, s_nil, LR, IR, true_and, and_true, Nat.reduceAdd, Nat.reduceSub, eq_self]
                  refine ⟨by assumption, fun x8_ h8_ => ?_⟩
                  refine ⟨by assumption, fun x10_ h10_ => ?_⟩
                  refine ⟨by assumption, fun x12_ h12_ => ?_⟩
                  refine ⟨vok_of (s := 10) (by assumption) rfl, ?_⟩
                  refine sc_n (D := 1) (fun d' hd' => k_X8_tellUp (by assumption) (by assumption) (by omega) (by omega) hd') (by omega) ?_
                  intro h13_
                  try simp only [s_nil, LR, IR, true_and, and_true, Nat.reduceAdd, Nat.reduceSub, eq_self]
                  exact sT_w (n254)
                refine ⟨by assumption, fun x15_ h15_ => ?_⟩
                refine ⟨by assumption, fun x17_ h17_ => ?_⟩
                refine ⟨by assumption, fun x19_ h19_ => ?_⟩
                refine ⟨vok_of (s := 10) (by assumption) rfl, ?_⟩
                refine sc_n (D := 1) (fun d' hd' => k_X8_tellDown (by assumption) (by assumption) (by omega) (by omega) hd') (by omega) ?_
                intro h20_
                try simp only [s_goto, LR, IR, true_and, and_true, Nat.reduceAdd, Nat.reduceSub, eq_self]
                exact sT_w (n254)
              have n93 : ∀ (q6_93 : Nat), cl q6_93 3 → sT e b M0 d 516 93 [] [some (.inr (.inr (.inl r))), some (.inr (.inr (.inl x1))), some (.inl x2), some (.inl x3), some (.inl i4_59), some (.inl i5_59), some (.inr (.inr (.inl q6_93)))] [] n (fun r n' _ => (SQi n (fun z => (0 ≤ z ∧ z ≤ 2) ∧ (z = 1 → x2 = 114 ∨ x2 = 108))) r n') := by
                intro q6_93 y93_0
                refine sblk (hv := false) kbl_X0_ofOne kbs_X0_ofOne (pc := 93) (pe := 136) (rk := 0) (i := 8) rfl (by decide +kernel) ?_
                simp only [kb_X0_ofOne_93, s_ild_2, s_sw, tsw, LR, IR, true_and, and_true, Nat.reduceAdd, Nat.reduceSub, eq_self]
                refine ⟨by omega, ?_⟩
                refine ⟨fun h23_ => ?_, fun h23_ => ?_⟩
                · refine sT_w ?_
                  refine sblk (hv := false) kbl_X0_ofOne kbs_X0_ofOne (pc := 136) (pe := 149) (rk := 0) (i := 9) rfl (by decide +kernel) ?_
                  simp only [kb_X0_ofOne_136, s_ald_0, s_gf_2_0, s_ald6, s_ild_3, s_iv2, tfr_0, tfr_1, tfr_2, tfr_3, tfr_4, s_goto, LR, IR, true_and, and_true, Nat.reduceAdd, Nat.reduceSub, eq_self]
                  refine ⟨by assumption, fun x25_ h25_ => ?_⟩
                  refine ⟨vok_of (s := 10) (by assumption) rfl, ?_⟩
                  refine sc_n (D := 2) (fun d' hd' => k_X8_toPower (by assumption) (by assumption) (by omega) (by omega) hd') (by omega) ?_
                  intro h28_
                  try simp only [s_goto, LR, IR, true_and, and_true, Nat.reduceAdd, Nat.reduceSub, eq_self]
                  exact sT_w (n216 _ (by assumption))
                refine ⟨fun h30_ => ?_, fun h30_ => ?_⟩
                · refine sT_w ?_
                  refine sblk (hv := false) kbl_X0_ofOne kbs_X0_ofOne (pc := 162) (pe := 181) (rk := 0) (i := 11) rfl (by decide +kernel) ?_
                  simp only [kb_X0_ofOne_162, s_ald_0, s_gf_2_1, s_ald6, s_iv1, tfr_0, tfr_1, tfr_2, tfr_3, tfr_4, s_iv0, s_goto, LR, IR, true_and, and_true, Nat.reduceAdd, Nat.reduceSub, eq_self]
                  refine ⟨by assumption, fun x32_ h32_ => ?_⟩
                  refine ⟨vok_of (s := 5) (by assumption) rfl, ?_⟩
                  refine sc_n (D := 2) (fun d' hd' => k_X3_exponential (by assumption) (by assumption) (by omega) hd') (by omega) ?_
                  intro h34_
                  try simp only [s_ald_0, s_gf_2_1, s_iv0, tfr_0, tfr_1, tfr_2, tfr_3, tfr_4, s_goto, LR, IR, true_and, and_true, Nat.reduceAdd, Nat.reduceSub, eq_self]
                  refine ⟨by assumption, fun x36_ h36_ => ?_⟩
                  refine ⟨vok_of (s := 5) (by assumption) rfl, ?_⟩
                  refine sc_n (D := 2) (fun d' hd' => k_X3_tell (by assumption) (by omega) hd') (by omega) ?_
                  intro h37_
                  try simp only [s_goto, LR, IR, true_and, and_true, Nat.reduceAdd, Nat.reduceSub, eq_self]
                  exact sT_w (n216 _ (by assumption))
                refine ⟨fun h39_ => ?_, fun h39_ => ?_⟩
                · refine sT_w ?_
                  refine sblk (hv := false) kbl_X0_ofOne kbs_X0_ofOne (pc := 181) (pe := 200) (rk := 0) (i := 12) rfl (by decide +kernel) ?_
                  simp only [kb_X0_ofOne_181, s_ald_0, s_gf_2_1, s_ald6, s_iv1, tfr_0, tfr_1, tfr_2, tfr_3, tfr_4, s_iv0, s_goto, LR, IR, true_and, and_true, Nat.reduceAdd, Nat.reduceSub, eq_self]
                  refine ⟨by assumption, fun x41_ h41_ => ?_⟩
                  refine ⟨vok_of (s := 5) (by assumption) rfl, ?_⟩
                  refine sc_n (D := 2) (fun d' hd' => k_X3_logarithm (by assumption) (by assumption) (by omega) hd') (by omega) ?_
                  intro h43_
                  try simp only [s_ald_0, s_gf_2_1, s_iv0, tfr_0, tfr_1, tfr_2, tfr_3, tfr_4, s_goto, LR, IR, true_and, and_true, Nat.reduceAdd, Nat.reduceSub, eq_self]
                  refine ⟨by assumption, fun x45_ h45_ => ?_⟩
                  refine ⟨vok_of (s := 5) (by assumption) rfl, ?_⟩
                  refine sc_n (D := 2) (fun d' hd' => k_X3_tell (by assumption) (by omega) hd') (by omega) ?_
                  intro h46_
                  try simp only [s_goto, LR, IR, true_and, and_true, Nat.reduceAdd, Nat.reduceSub, eq_self]
                  exact sT_w (n216 _ (by assumption))
                refine ⟨fun h48_ => ?_, fun h48_ => ?_⟩
                · refine sT_w ?_
                  refine sblk (hv := false) kbl_X0_ofOne kbs_X0_ofOne (pc := 149) (pe := 162) (rk := 0) (i := 10) rfl (by decide +kernel) ?_
                  simp only [kb_X0_ofOne_149, s_ald_0, s_gf_2_0, s_ald6, s_ild_3, s_iv2, tfr_0, tfr_1, tfr_2, tfr_3, tfr_4, s_goto, LR, IR, true_and, and_true, Nat.reduceAdd, Nat.reduceSub, eq_self]
                  refine ⟨by assumption, fun x50_ h50_ => ?_⟩
                  refine ⟨vok_of (s := 10) (by assumption) rfl, ?_⟩
                  refine sc_n (D := 5) (fun d' hd' => k_X8_toRoot_c (by assumption) (by assumption) (by omega) (by omega) he (by omega) hd') (by omega) ?_
                  intro h53_
                  try simp only [s_goto, LR, IR, true_and, and_true, Nat.reduceAdd, Nat.reduceSub, eq_self]
                  exact sT_w (n216 _ (by assumption))
                refine sT_w ?_
                refine sblk (hv := false) kbl_X0_ofOne kbs_X0_ofOne (pc := 200) (pe := 216) (rk := 0) (i := 13) rfl (by decide +kernel) ?_
                simp only [kb_X0_ofOne_200, s_ald_0, s_gf_2_1, s_ald6, s_iv1, tfr_0, tfr_1, tfr_2, tfr_3, tfr_4, s_iv0, s_nil, LR, IR, true_and, and_true, Nat.reduceAdd, Nat.reduceSub, eq_self]
                refine ⟨by assumption, fun x57_ h57_ => ?_⟩
                refine ⟨vok_of (s := 5) (by assumption) rfl, ?_⟩
                refine sc_n (D := 2) (fun d' hd' => k_X3_arc (by assumption) (by assumption) (by omega) hd') (by omega) ?_
                intro h59_
                try simp only [s_ald_0, s_gf_2_1, s_iv0, tfr_0, tfr_1, tfr_2, tfr_3, tfr_4, s_nil, LR, IR, true_and, and_true, Nat.reduceAdd, Nat.reduceSub, eq_self]
                refine ⟨by assumption, fun x61_ h61_ => ?_⟩
                refine ⟨vok_of (s := 5) (by assumption) rfl, ?_⟩
                refine sc_n (D := 2) (fun d' hd' => k_X3_tell (by assumption) (by omega) hd') (by omega) ?_
                intro h62_
                try simp only [s_nil, LR, IR, true_and, and_true, Nat.reduceAdd, Nat.reduceSub, eq_self]
                exact sT_w (n216 _ (by assumption))
              refine sblk (hv := false) kbl_X0_ofOne kbs_X0_ofOne (pc := 81) (pe := 93) (rk := 0) (i := 7) rfl (by decide +kernel) ?_
              simp only [kb_X0_ofOne_81, s_ast6, tkl_n, tkl_i, tkl_l, tkl_r, s_ild5, s_if_eq, s_ild4, s_if_ne, s_nil, LR, IR, true_and, and_true, Nat.reduceAdd, Nat.reduceSub, eq_self]
              refine ⟨by omega, fun h65_ => ?_, fun h65_ => ?_⟩
              · exact sT_w (n93 _ (by assumption))
              refine ⟨by omega, fun h67_ => ?_, fun h67_ => ?_⟩
              · exact sT_w (n216 _ (by assumption))
              exact sT_w (n93 _ (by assumption))
            refine sblk (hv := false) kbl_X0_ofOne kbs_X0_ofOne (pc := 59) (pe := 77) (rk := 0) (i := 5) rfl (by decide +kernel) ?_
            simp only [kb_X0_ofOne_59, s_ild5, s_ic, s_ic_ge, s_if_ne, s_ald_1, s_gf_4_0, s_goto, LR, IR, true_and, and_true, Nat.reduceAdd, Nat.reduceSub, eq_self]
            refine ⟨by omega, fun h70_ => ?_, fun h70_ => ?_⟩
            · refine sT_w ?_
              refine sblk (hv := false) kbl_X0_ofOne kbs_X0_ofOne (pc := 260) (pe := 277) (rk := 0) (i := 17) rfl (by decide +kernel) ?_
              simp only [kb_X0_ofOne_260, s_ald_1, s_ald_0, s_gf_2_2, s_gf_2_3, s_iv2, tfr_0, tfr_1, tfr_2, tfr_3, tfr_4, s_is1, s_ire, trg, LR, IR, true_and, and_true, Nat.reduceAdd, Nat.reduceSub, eq_self]
              refine ⟨by assumption, fun x73_ h73_ => ?_⟩
              refine ⟨by assumption, fun x75_ h75_ => ?_⟩
              refine ⟨vok_of (s := 4) (by assumption) rfl, ?_⟩
              refine sc_n (D := 1) (fun d' hd' => k_X2_between (by assumption) (by assumption) (by assumption) (by omega) hd') (by omega) ?_
              intro h76_
              try simp only [s_ald_1, s_is1, tfr_0, tfr_1, tfr_2, tfr_3, tfr_4, s_ire, trg, LR, IR, true_and, and_true, Nat.reduceAdd, Nat.reduceSub, eq_self]
              refine sc_i (D := 2) (fun d' hd' => k_X0_judged (by assumption) hd') (by omega) ?_
              intro x78_ h78_
              try simp only [s_ire, trg, LR, IR, true_and, and_true, Nat.reduceAdd, Nat.reduceSub, eq_self]
              exact fun _ _ _ _ => ⟨_, rfl, rfl, by omega⟩
            refine ⟨by omega, fun h81_ => ?_, fun h81_ => ?_⟩
            · refine sT_w ?_
              refine sblk (hv := false) kbl_X0_ofOne kbs_X0_ofOne (pc := 77) (pe := 81) (rk := 0) (i := 6) rfl (by decide +kernel) ?_
              simp only [kb_X0_ofOne_77, s_ald_1, s_gf_4_1, s_nil, LR, IR, true_and, and_true, Nat.reduceAdd, Nat.reduceSub, eq_self]
              refine ⟨by assumption, fun x83_ h83_ => ?_⟩
              exact sT_w (n81 _ _ (by omega) (by assumption))
            refine ⟨by assumption, fun x85_ h85_ => ?_⟩
            exact sT_w (n81 _ _ (by omega) (by assumption))
        refine sblk (hv := false) kbl_X0_ofOne kbs_X0_ofOne (pc := 50) (pe := 59) (rk := 0) (i := 4) rfl (by decide +kernel) ?_
        simp only [kb_X0_ofOne_50, s_ald_1, s_iv0, tfr_0, tfr_1, tfr_2, tfr_3, tfr_4, s_ist4, tkl_n, tkl_i, tkl_l, tkl_r, s_ic, s_ist5, s_nil, LR, IR, true_and, and_true, Nat.reduceAdd, Nat.reduceSub, eq_self]
        refine ⟨vok_of (s := 4) (by assumption) rfl, ?_⟩
        refine sc_i (D := 2) (fun d' hd' => k_X2_isSingle (by assumption) hd') (by omega) ?_
        intro x88_ h88_
        try simp only [s_ist4, tkl_n, tkl_i, tkl_l, tkl_r, s_ic, s_ist5, s_nil, LR, IR, true_and, and_true, Nat.reduceAdd, Nat.reduceSub, eq_self]
        exact sT_w (n59 4294967400 _ _ _ (by omega) (by omega) (by omega))
      refine sblk (hv := false) kbl_X0_ofOne kbs_X0_ofOne (pc := 34) (pe := 50) (rk := 0) (i := 3) rfl (by decide +kernel) ?_
      simp only [kb_X0_ofOne_34, s_ild_2, s_bi, s_ic_ne, s_ild_3, s_ic, s_irem, s_if_ne, s_ald_1, s_iv0, tfr_0, tfr_1, tfr_2, tfr_3, tfr_4, s_nil, LR, IR, true_and, and_true, Nat.reduceAdd, Nat.reduceSub, eq_self]
      refine ⟨by omega, fun h94_ => ?_, fun h94_ => ?_⟩
      · exact sT_w (n50 _ _ _)
      refine ⟨by omega, fun x97_ h97_ g97_ => ?_⟩
      refine ⟨by omega, fun h98_ => ?_, fun h98_ => ?_⟩
      · exact sT_w (n50 _ _ _)
      refine ⟨vok_of (s := 4) (by assumption) rfl, ?_⟩
      refine sc_n (D := 2) (fun d' hd' => k_X2_dropSigns (by assumption) (by omega) hd') (by omega) ?_
      intro h100_
      try simp only [s_nil, LR, IR, true_and, and_true, Nat.reduceAdd, Nat.reduceSub, eq_self]
      exact sT_w (n50 _ _ _)
    refine sblk (hv := false) kbl_X0_ofOne kbs_X0_ofOne (pc := 16) (pe := 32) (rk := 0) (i := 1) rfl (by decide +kernel) ?_
    simp only [kb_X0_ofOne_16, s_ild_2, s_bi, s_ic_ne, s_ald_1, s_gf_4_0, s_iv0, tfr_0, tfr_1, tfr_2, tfr_3, tfr_4, s_if_ne, s_nil, LR, IR, true_and, and_true, Nat.reduceAdd, Nat.reduceSub, eq_self]
    refine ⟨by omega, fun h103_ => ?_, fun h103_ => ?_⟩
    · exact sT_w (n34 _ _ _)
    refine ⟨by assumption, fun x105_ h105_ => ?_⟩
    refine ⟨vok_of (s := 3) (by assumption) rfl, ?_⟩
    refine sc_i (D := 0) (fun d' hd' => k_X1_isPositive (by assumption) hd') (by omega) ?_
    intro x106_ h106_
    try simp only [s_if_ne, s_nil, LR, IR, true_and, and_true, Nat.reduceAdd, Nat.reduceSub, eq_self]
    refine ⟨by omega, fun h107_ => ?_, fun h107_ => ?_⟩
    · exact sT_w (n34 _ _ _)
    exact sT_w (n32 _ _ _ (by omega) (by omega))
  refine sblk (hv := false) kbl_X0_ofOne kbs_X0_ofOne (pc := 0) (pe := 16) (rk := 0) (i := 0) rfl (by decide +kernel) ?_
  simp only [kb_X0_ofOne_0, s_ild_2, s_bi, s_ic_ne, s_ald_1, s_gf_4_0, s_iv0, tfr_0, tfr_1, tfr_2, tfr_3, tfr_4, s_if_ne, s_nil, LR, IR, true_and, and_true, Nat.reduceAdd, Nat.reduceSub, eq_self]
  refine ⟨by omega, fun h110_ => ?_, fun h110_ => ?_⟩
  · exact sT_w (n16 _ _ _ (by omega))
  refine ⟨by assumption, fun x112_ h112_ => ?_⟩
  refine ⟨vok_of (s := 3) (by assumption) rfl, ?_⟩
  refine sc_i (D := 0) (fun d' hd' => k_X1_isNegative (by assumption) hd') (by omega) ?_
  intro x113_ h113_
  try simp only [s_if_ne, s_nil, LR, IR, true_and, and_true, Nat.reduceAdd, Nat.reduceSub, eq_self]
  refine ⟨by omega, fun h114_ => ?_, fun h114_ => ?_⟩
  · exact sT_w (n32 _ _ _ (by omega) (by omega))
  exact sT_w (n16 _ _ _ (by omega))
theorem k_X0_product {e : tE} {b : Nat} {d n : Nat} {r : Nat} {x1 : Nat} {x2 : Nat} (h0 : cl r 2) (h1 : cl x1 4) (h2 : cl x2 4) (hb : b < 2) (hd : 3 ≤ d) : sC e b d 517 [.inr (.inr (.inl r)), .inr (.inr (.inl x1)), .inr (.inr (.inl x2))] n (SQi n (fun z => (z = 0 ∨ z = 2))) := by
  refine sK (fun M h => tst_X0_product h) (fun M0 => ?_)
  have n12 : ∀ (w3_12 : Option tV) (w4_12 : Option tV) (w5_12 : Option tV) (is0_12 : Int), (1 ≤ is0_12 ∧ is0_12 ≤ 2) → sT e b M0 d 517 12 [] [some (.inr (.inr (.inl r))), some (.inr (.inr (.inl x1))), some (.inr (.inr (.inl x2))), w3_12, w4_12, w5_12] [.inl is0_12] n (fun r n' _ => (SQi n (fun z => (z = 0 ∨ z = 2))) r n') := by
    intro w3_12 w4_12 w5_12 is0_12 y12_0
    have n27 : ∀ (i3_27 : Int) (w4_27 : Option tV) (w5_27 : Option tV) (is0_27 : Int), (1 ≤ i3_27 ∧ i3_27 ≤ 2) → (1 ≤ is0_27 ∧ is0_27 ≤ 4) → sT e b M0 d 517 27 [] [some (.inr (.inr (.inl r))), some (.inr (.inr (.inl x1))), some (.inr (.inr (.inl x2))), some (.inl i3_27), w4_27, w5_27] [.inl is0_27] n (fun r n' _ => (SQi n (fun z => (z = 0 ∨ z = 2))) r n') := by
      intro i3_27 w4_27 w5_27 is0_27 y27_0 y27_1
      have n32 : ∀ (fu : Nat) (i4_32 : Int) (i5_32 : Int), 4 - i5_32 + 1 ≤ (fu : Int) → (1 ≤ i4_32 ∧ i4_32 ≤ 4) → (0 ≤ i5_32 ∧ i5_32 ≤ 4) → sT e b M0 d 517 32 [] [some (.inr (.inr (.inl r))), some (.inr (.inr (.inl x1))), some (.inr (.inr (.inl x2))), some (.inl i3_27), some (.inl i4_32), some (.inl i5_32)] [] n (fun r n' _ => (SQi n (fun z => (z = 0 ∨ z = 2))) r n') := by
        intro fu
        induction fu with
        | zero =>
          intro i4_32 i5_32 hm y32_0 y32_1
          exfalso; omega
        | succ fu ih =>
          intro i4_32 i5_32 hm y32_0 y32_1
          have ih32 := ih
          clear ih
          have n61 : ∀ (qs0_61 : Nat) (qs1_61 : Nat), (0 ≤ i5_32 ∧ i5_32 ≤ 3) → cl qs0_61 3 → cl qs1_61 10 → sT e b M0 d 517 61 [] [some (.inr (.inr (.inl r))), some (.inr (.inr (.inl x1))), some (.inr (.inr (.inl x2))), some (.inl i3_27), some (.inl i4_32), some (.inl i5_32)] [.inr (.inr (.inl qs0_61)), .inr (.inr (.inl qs1_61))] n (fun r n' _ => (SQi n (fun z => (z = 0 ∨ z = 2))) r n') := by
            intro qs0_61 qs1_61 y61_0 y61_1 y61_2
            have n78 : ∀ (qs0_78 : Nat) (qs1_78 : Nat) (qs2_78 : Nat), cl qs0_78 3 → cl qs1_78 3 → cl qs2_78 10 → sT e b M0 d 517 78 [] [some (.inr (.inr (.inl r))), some (.inr (.inr (.inl x1))), some (.inr (.inr (.inl x2))), some (.inl i3_27), some (.inl i4_32), some (.inl i5_32)] [.inr (.inr (.inl qs0_78)), .inr (.inr (.inl qs1_78)), .inr (.inr (.inl qs2_78))] n (fun r n' _ => (SQi n (fun z => (z = 0 ∨ z = 2))) r n') := by
              intro qs0_78 qs1_78 qs2_78 y78_0 y78_1 y78_2
              have n126 : sT e b M0 d 517 126 [] [some (.inr (.inr (.inl r))), some (.inr (.inr (.inl x1))), some (.inr (.inr (.inl x2))), some (.inl i3_27), some (.inl i4_32), some (.inl i5_32)] [] n (fun r n' _ => (SQi n (fun z => (z = 0 ∨ z = 2))) r n') := by
                have n171 : sT e b M0 d 517 171 [] [some (.inr (.inr (.inl r))), some (.inr (.inr (.inl x1))), some (.inr (.inr (.inl x2))), some (.inl i3_27), some (.inl i4_32), some (.inl i5_32)] [] n (fun r n' _ => (SQi n (fun z => (z = 0 ∨ z = 2))) r n') := by
                  refine sblk (hv := false) kbl_X0_product kbs_X0_product (pc := 171) (pe := 177) (rk := 0) (i := 13) rfl (by decide +kernel) ?_
                  simp only [kb_X0_product_171, s_inc5, tkl_n, tkl_i, tkl_l, tkl_r, s_goto, LR, IR, true_and, and_true, Nat.reduceAdd, Nat.reduceSub, eq_self]
                  exact sT_w (ih32 _ _ (by omega) (by omega) (by omega))
                have n160 : sT e b M0 d 517 160 [] [some (.inr (.inr (.inl r))), some (.inr (.inr (.inl x1))), some (.inr (.inr (.inl x2))), some (.inl i3_27), some (.inl i4_32), some (.inl i5_32)] [] n (fun r n' _ => (SQi n (fun z => (z = 0 ∨ z = 2))) r n') := by
                  refine sblk (hv := false) kbl_X0_product kbs_X0_product (pc := 160) (pe := 171) (rk := 0) (i := 12) rfl (by decide +kernel) ?_
                  simp only [kb_X0_product_160, s_ald_0, s_gf_2_3, s_gf_2_4, s_iv1, tfr_0, tfr_1, tfr_2, tfr_3, tfr_4, s_nil, LR, IR, true_and, and_true, Nat.reduceAdd, Nat.reduceSub, eq_self]
                  refine ⟨by assumption, fun x4_ h4_ => ?_⟩
                  refine ⟨by assumption, fun x6_ h6_ => ?_⟩
                  refine ⟨vok_of (s := 3) (by assumption) rfl, ?_⟩
                  refine sc_n (D := 0) (fun d' hd' => k_X1_copy (by assumption) (by assumption) (by omega) hd') (by omega) ?_
                  intro h7_
                  try simp only [s_nil, LR, IR, true_and, and_true, Nat.reduceAdd, Nat.reduceSub, eq_self]
                  exact sT_w (n171)
                refine sblk (hv := false) kbl_X0_product kbs_X0_product (pc := 126) (pe := 160) (rk := 0) (i := 11) rfl (by decide +kernel) ?_
                simp only [kb_X0_product_126, s_ald_0, s_gf_2_0, s_gf_2_4, s_gf_2_5, s_iv2, tfr_0, tfr_1, tfr_2, tfr_3, tfr_4, s_ild5, s_if_eq, s_gf_2_3, s_iv1, s_nil, LR, IR, true_and, and_true, Nat.reduceAdd, Nat.reduceSub, eq_self]
                refine ⟨by assumption, fun x9_ h9_ => ?_⟩
                refine ⟨by assumption, fun x11_ h11_ => ?_⟩
                refine ⟨by assumption, fun x13_ h13_ => ?_⟩
                refine ⟨vok_of (s := 10) (by assumption) rfl, ?_⟩
                refine sc_n (D := 1) (fun d' hd' => k_X8_tellUp (by assumption) (by assumption) (by omega) (by omega) hd') (by omega) ?_
                intro h14_
                try simp only [s_ild5, s_if_eq, s_ald_0, s_gf_2_3, s_gf_2_4, s_iv1, tfr_0, tfr_1, tfr_2, tfr_3, tfr_4, s_nil, LR, IR, true_and, and_true, Nat.reduceAdd, Nat.reduceSub, eq_self]
                refine ⟨by omega, fun h16_ => ?_, fun h16_ => ?_⟩
                · exact sT_w (n160)
                refine ⟨by assumption, fun x18_ h18_ => ?_⟩
                refine ⟨by assumption, fun x20_ h20_ => ?_⟩
                refine ⟨vok_of (s := 3) (by assumption) rfl, ?_⟩
                refine sc_i (D := 0) (fun d' hd' => k_X1_isBelow (by assumption) (by assumption) hd') (by omega) ?_
                intro x21_ h21_
                try simp only [s_if_eq, s_nil, LR, IR, true_and, and_true, Nat.reduceAdd, Nat.reduceSub, eq_self]
                refine ⟨by omega, fun h22_ => ?_, fun h22_ => ?_⟩
                · exact sT_w (n171)
                exact sT_w (n160)
              have n115 : sT e b M0 d 517 115 [] [some (.inr (.inr (.inl r))), some (.inr (.inr (.inl x1))), some (.inr (.inr (.inl x2))), some (.inl i3_27), some (.inl i4_32), some (.inl i5_32)] [] n (fun r n' _ => (SQi n (fun z => (z = 0 ∨ z = 2))) r n') := by
                refine sblk (hv := false) kbl_X0_product kbs_X0_product (pc := 115) (pe := 126) (rk := 0) (i := 10) rfl (by decide +kernel) ?_
                simp only [kb_X0_product_115, s_ald_0, s_gf_2_2, s_gf_2_4, s_iv1, tfr_0, tfr_1, tfr_2, tfr_3, tfr_4, s_nil, LR, IR, true_and, and_true, Nat.reduceAdd, Nat.reduceSub, eq_self]
                refine ⟨by assumption, fun x24_ h24_ => ?_⟩
                refine ⟨by assumption, fun x26_ h26_ => ?_⟩
                refine ⟨vok_of (s := 3) (by assumption) rfl, ?_⟩
                refine sc_n (D := 0) (fun d' hd' => k_X1_copy (by assumption) (by assumption) (by omega) hd') (by omega) ?_
                intro h27_
                try simp only [s_nil, LR, IR, true_and, and_true, Nat.reduceAdd, Nat.reduceSub, eq_self]
                exact sT_w (n126)
              refine sblk (hv := false) kbl_X0_product kbs_X0_product (pc := 78) (pe := 115) (rk := 0) (i := 9) rfl (by decide +kernel) ?_
              simp only [kb_X0_product_78, s_iv2, tfr_0, tfr_1, tfr_2, tfr_3, tfr_4, s_ald_0, s_gf_2_0, s_gf_2_4, s_gf_2_5, s_ild5, s_if_eq, s_gf_2_2, s_iv1, s_nil, LR, IR, true_and, and_true, Nat.reduceAdd, Nat.reduceSub, eq_self]
              refine ⟨vok_of (s := 10) (by assumption) rfl, ?_⟩
              refine sc_n (D := 2) (fun d' hd' => k_X8_product (by assumption) (by assumption) (by assumption) (by omega) hd') (by omega) ?_
              intro h28_
              try simp only [s_ald_0, s_gf_2_0, s_gf_2_4, s_gf_2_5, s_iv2, tfr_0, tfr_1, tfr_2, tfr_3, tfr_4, s_ild5, s_if_eq, s_gf_2_2, s_iv1, s_nil, LR, IR, true_and, and_true, Nat.reduceAdd, Nat.reduceSub, eq_self]
              refine ⟨by assumption, fun x30_ h30_ => ?_⟩
              refine ⟨by assumption, fun x32_ h32_ => ?_⟩
              refine ⟨by assumption, fun x34_ h34_ => ?_⟩
              refine ⟨vok_of (s := 10) (by assumption) rfl, ?_⟩
              refine sc_n (D := 1) (fun d' hd' => k_X8_tellDown (by assumption) (by assumption) (by omega) (by omega) hd') (by omega) ?_
              intro h35_
              try simp only [s_ild5, s_if_eq, s_ald_0, s_gf_2_4, s_gf_2_2, s_iv1, tfr_0, tfr_1, tfr_2, tfr_3, tfr_4, s_nil, LR, IR, true_and, and_true, Nat.reduceAdd, Nat.reduceSub, eq_self]
              refine ⟨by omega, fun h37_ => ?_, fun h37_ => ?_⟩
              · exact sT_w (n115)
              refine ⟨by assumption, fun x39_ h39_ => ?_⟩
              refine ⟨by assumption, fun x41_ h41_ => ?_⟩
              refine ⟨vok_of (s := 3) (by assumption) rfl, ?_⟩
              refine sc_i (D := 0) (fun d' hd' => k_X1_isBelow (by assumption) (by assumption) hd') (by omega) ?_
              intro x42_ h42_
              try simp only [s_if_eq, s_nil, LR, IR, true_and, and_true, Nat.reduceAdd, Nat.reduceSub, eq_self]
              refine ⟨by omega, fun h43_ => ?_, fun h43_ => ?_⟩
              · exact sT_w (n126)
              exact sT_w (n115)
            refine sblk (hv := false) kbl_X0_product kbs_X0_product (pc := 61) (pe := 74) (rk := 0) (i := 7) rfl (by decide +kernel) ?_
            simp only [kb_X0_product_61, s_ild5, s_ild_3, s_ic_ge, s_ald_2, s_gf_4_0, s_goto, LR, IR, true_and, and_true, Nat.reduceAdd, Nat.reduceSub, eq_self]
            refine ⟨by omega, fun h46_ => ?_, fun h46_ => ?_⟩
            · refine sT_w ?_
              refine sblk (hv := false) kbl_X0_product kbs_X0_product (pc := 74) (pe := 78) (rk := 0) (i := 8) rfl (by decide +kernel) ?_
              simp only [kb_X0_product_74, s_ald_2, s_gf_4_1, s_nil, LR, IR, true_and, and_true, Nat.reduceAdd, Nat.reduceSub, eq_self]
              refine ⟨by assumption, fun x48_ h48_ => ?_⟩
              exact sT_w (n78 _ _ _ (by assumption) (by assumption) (by assumption))
            refine ⟨by assumption, fun x50_ h50_ => ?_⟩
            exact sT_w (n78 _ _ _ (by assumption) (by assumption) (by assumption))
          refine sblk (hv := false) kbl_X0_product kbs_X0_product (pc := 32) (pe := 57) (rk := 0) (i := 5) rfl (by decide +kernel) ?_
          simp only [kb_X0_product_32, s_ild5, s_ild4, s_ic_ge, s_ald_0, s_gf_2_0, s_ild_3, s_irem, s_if_ne, s_ald_1, s_gf_4_0, s_goto, LR, IR, true_and, and_true, Nat.reduceAdd, Nat.reduceSub, eq_self]
          refine ⟨by omega, fun h54_ => ?_, fun h54_ => ?_⟩
          · refine sT_w ?_
            refine sblk (hv := false) kbl_X0_product kbs_X0_product (pc := 177) (pe := 194) (rk := 0) (i := 14) rfl (by decide +kernel) ?_
            simp only [kb_X0_product_177, s_ald_1, s_ald_0, s_gf_2_2, s_gf_2_3, s_iv2, tfr_0, tfr_1, tfr_2, tfr_3, tfr_4, s_is1, s_ire, trg, LR, IR, true_and, and_true, Nat.reduceAdd, Nat.reduceSub, eq_self]
            refine ⟨by assumption, fun x57_ h57_ => ?_⟩
            refine ⟨by assumption, fun x59_ h59_ => ?_⟩
            refine ⟨vok_of (s := 4) (by assumption) rfl, ?_⟩
            refine sc_n (D := 1) (fun d' hd' => k_X2_between (by assumption) (by assumption) (by assumption) (by omega) hd') (by omega) ?_
            intro h60_
            try simp only [s_ald_1, s_is1, tfr_0, tfr_1, tfr_2, tfr_3, tfr_4, s_ire, trg, LR, IR, true_and, and_true, Nat.reduceAdd, Nat.reduceSub, eq_self]
            refine sc_i (D := 2) (fun d' hd' => k_X0_judged (by assumption) hd') (by omega) ?_
            intro x62_ h62_
            try simp only [s_ire, trg, LR, IR, true_and, and_true, Nat.reduceAdd, Nat.reduceSub, eq_self]
            exact fun _ _ _ _ => ⟨_, rfl, rfl, by omega⟩
          refine ⟨by assumption, fun x65_ h65_ => ?_⟩
          refine ⟨by omega, fun x68_ h68_ g68_ => ?_⟩
          refine ⟨by omega, fun h69_ => ?_, fun h69_ => ?_⟩
          · refine sT_w ?_
            refine sblk (hv := false) kbl_X0_product kbs_X0_product (pc := 57) (pe := 61) (rk := 0) (i := 6) rfl (by decide +kernel) ?_
            simp only [kb_X0_product_57, s_ald_1, s_gf_4_1, s_nil, LR, IR, true_and, and_true, Nat.reduceAdd, Nat.reduceSub, eq_self]
            refine ⟨by assumption, fun x71_ h71_ => ?_⟩
            exact sT_w (n61 _ _ (by omega) (by assumption) (by assumption))
          refine ⟨by assumption, fun x73_ h73_ => ?_⟩
          exact sT_w (n61 _ _ (by omega) (by assumption) (by assumption))
      refine sblk (hv := false) kbl_X0_product kbs_X0_product (pc := 27) (pe := 32) (rk := 0) (i := 4) rfl (by decide +kernel) ?_
      simp only [kb_X0_product_27, s_ist4, tkl_n, tkl_i, tkl_l, tkl_r, s_ic, s_ist5, s_nil, LR, IR, true_and, and_true, Nat.reduceAdd, Nat.reduceSub, eq_self]
      exact sT_w (n32 4294967400 _ _ (by omega) (by omega) (by omega))
    refine sblk (hv := false) kbl_X0_product kbs_X0_product (pc := 12) (pe := 24) (rk := 0) (i := 2) rfl (by decide +kernel) ?_
    simp only [kb_X0_product_12, s_ist_3, tkl_n, tkl_i, tkl_l, tkl_r, s_ald_2, s_iv0, tfr_0, tfr_1, tfr_2, tfr_3, tfr_4, s_if_eq, s_ild_3, s_goto, LR, IR, true_and, and_true, Nat.reduceAdd, Nat.reduceSub, eq_self]
    refine ⟨vok_of (s := 4) (by assumption) rfl, ?_⟩
    refine sc_i (D := 2) (fun d' hd' => k_X2_isSingle (by assumption) hd') (by omega) ?_
    intro x80_ h80_
    try simp only [s_if_eq, s_ild_3, s_goto, LR, IR, true_and, and_true, Nat.reduceAdd, Nat.reduceSub, eq_self]
    refine ⟨by omega, fun h81_ => ?_, fun h81_ => ?_⟩
    · refine sT_w ?_
      refine sblk (hv := false) kbl_X0_product kbs_X0_product (pc := 24) (pe := 27) (rk := 0) (i := 3) rfl (by decide +kernel) ?_
      simp only [kb_X0_product_24, s_ic, s_ild_3, s_imul, s_nil, LR, IR, true_and, and_true, Nat.reduceAdd, Nat.reduceSub, eq_self]
      exact sT_w (n27 _ _ _ _ (by omega) (by omega))
    exact sT_w (n27 _ _ _ _ (by omega) (by omega))
  refine sblk (hv := false) kbl_X0_product kbs_X0_product (pc := 0) (pe := 11) (rk := 0) (i := 0) rfl (by decide +kernel) ?_
  simp only [kb_X0_product_0, s_ald_1, s_iv0, tfr_0, tfr_1, tfr_2, tfr_3, tfr_4, s_if_eq, s_ic, s_goto, LR, IR, true_and, and_true, Nat.reduceAdd, Nat.reduceSub, eq_self]
  refine ⟨vok_of (s := 4) (by assumption) rfl, ?_⟩
  refine sc_i (D := 2) (fun d' hd' => k_X2_isSingle (by assumption) hd') (by omega) ?_
  intro x88_ h88_
  try simp only [s_if_eq, s_ic, s_goto, LR, IR, true_and, and_true, Nat.reduceAdd, Nat.reduceSub, eq_self]
  refine ⟨by omega, fun h89_ => ?_, fun h89_ => ?_⟩
  · refine sT_w ?_
    refine sblk (hv := false) kbl_X0_product kbs_X0_product (pc := 11) (pe := 12) (rk := 0) (i := 1) rfl (by decide +kernel) ?_
    simp only [kb_X0_product_11, s_ic, s_nil, LR, IR, true_and, and_true, Nat.reduceAdd, Nat.reduceSub, eq_self]
    exact sT_w (n12 _ _ _ _ (by omega))
  exact sT_w (n12 _ _ _ _ (by omega))
theorem k_X6_make {e : tE} {b : Nat} {d n : Nat} {r : Nat} {x1 : Int} {x2 : Int} {x3 : Int} (h0 : cl r 8) (h1 : (0 ≤ x1 ∧ x1 ≤ 65535)) (h2 : (-9223372036854775808 ≤ x2 ∧ x2 < 9223372036854775808)) (h3 : (-2147483648 ≤ x3 ∧ x3 ≤ 2147483647)) (hq : x1 = 114 → 2 ≤ x3 ∧ x3 ≤ 9) (he : EO e) (hb : b < 2) (hd : 7 ≤ d) : sC e b d 2055 [.inr (.inr (.inl r)), .inl x1, .inr (.inl x2), .inl x3] n (SQi n (fun z => (0 ≤ z ∧ z ≤ 2) ∧ (z = 1 → x1 = 47 ∨ x1 = 114 ∨ x1 = 108))) := by
  refine sK (fun M h => tst_X6_make h) (fun M0 => ?_)
  refine sblk (hv := false) kbl_X6_make kbs_X6_make (pc := 0) (pe := 12) (rk := 0) (i := 0) rfl (by decide +kernel) ?_
  simp only [kb_X6_make_0, s_ald_0, s_gf_8_2, s_si, s_ic_lt, s_ic, s_ire, trg, LR, IR, true_and, and_true, Nat.reduceAdd, Nat.reduceSub, eq_self]
  refine ⟨by assumption, fun x2_ h2_ g2_ k2_ => ?_⟩
  simp (disch := decide) only [gk, gd, eq_self, true_imp_iff, false_imp_iff, and_true, true_and, Nat.reduceEqDiff, reduceIte, reduceCtorEq, ne_eq, not_false_eq_true] at k2_
  refine ⟨by omega, fun h4_ => ?_, fun h4_ => ?_⟩
  · have n71 : ∀ (q5_71 : Nat) (q6_71 : Nat) (q7_71 : Nat) (c71 : Int), (0 ≤ x1 ∧ x1 ≤ 65535) → cl q5_71 4 → cl q6_71 4 → cl q7_71 4 → (0 ≤ c71 ∧ c71 ≤ 127) → sT e b M0 d 2055 71 [(r, 2, c71)] [some (.inr (.inr (.inl r))), some (.inl x1), some (.inr (.inl x2)), none, some (.inl x3), some (.inr (.inr (.inl q5_71))), some (.inr (.inr (.inl q6_71))), some (.inr (.inr (.inl q7_71)))] [] n (fun r n' _ => (SQi n (fun z => (0 ≤ z ∧ z ≤ 2) ∧ (z = 1 → x1 = 47 ∨ x1 = 114 ∨ x1 = 108))) r n') := by
      intro q5_71 q6_71 q7_71 c71 y71_0 y71_1 y71_2 y71_3 y71_4
      have n195 : (69 ≤ x1 ∧ x1 ≤ 112) → sT e b M0 d 2055 195 [(r, 2, c71)] [some (.inr (.inr (.inl r))), some (.inl x1), some (.inr (.inl x2)), none, some (.inl x3), some (.inr (.inr (.inl q5_71))), some (.inr (.inr (.inl q6_71))), some (.inr (.inr (.inl q7_71)))] [] n (fun r n' _ => (SQi n (fun z => (0 ≤ z ∧ z ≤ 2) ∧ (z = 1 → x1 = 47 ∨ x1 = 114 ∨ x1 = 108))) r n') := by
        intro  y195_0
        refine sblk (hv := false) kbl_X6_make kbs_X6_make (pc := 195) (pe := 216) (rk := 0) (i := 4) rfl (by decide +kernel) ?_
        simp only [kb_X6_make_195, s_ald_0, s_dupi, s_dupr, s_gf_8_2, s_ic, s_iadd, s_pf_8_2, s_gf_8_0, s_ald7, s_ild_1, s_iv2, tfr_0, tfr_1, tfr_2, tfr_3, tfr_4, s_ire, trg, LR, IR, true_and, and_true, Nat.reduceAdd, Nat.reduceSub, eq_self]
        refine ⟨by assumption, fun x7_ h7_ g7_ k7_ => ?_⟩
        simp (disch := decide) only [gk, gd, eq_self, true_imp_iff, false_imp_iff, and_true, true_and, Nat.reduceEqDiff, reduceIte, reduceCtorEq, ne_eq, not_false_eq_true] at k7_
        refine ⟨by omega, by assumption, by omega, ?_⟩
        refine ⟨by assumption, fun x12_ h12_ => ?_⟩
        refine ⟨vok_of (s := 2) (by assumption) rfl, ?_⟩
        refine sc_i (D := 3) (fun d' hd' => k_X0_tellConstant (by assumption) (by assumption) (by omega) (by omega) hd') (by omega) ?_
        intro x15_ h15_
        try simp only [s_ire, trg, LR, IR, true_and, and_true, Nat.reduceAdd, Nat.reduceSub, eq_self]
        exact fun _ _ _ _ => ⟨_, rfl, rfl, by omega⟩
      have n216 : (120 ≤ x1 ∧ x1 ≤ 121) → sT e b M0 d 2055 216 [(r, 2, c71)] [some (.inr (.inr (.inl r))), some (.inl x1), some (.inr (.inl x2)), none, some (.inl x3), some (.inr (.inr (.inl q5_71))), some (.inr (.inr (.inl q6_71))), some (.inr (.inr (.inl q7_71)))] [] n (fun r n' _ => (SQi n (fun z => (0 ≤ z ∧ z ≤ 2) ∧ (z = 1 → x1 = 47 ∨ x1 = 114 ∨ x1 = 108))) r n') := by
        intro  y216_0
        have n245 : ∀ (qs0_245 : Nat) (qs1_245 : Nat), cl qs0_245 4 → cl qs1_245 4 → sT e b M0 d 2055 245 [] [some (.inr (.inr (.inl r))), some (.inl x1), some (.inr (.inl x2)), none, some (.inl x3), some (.inr (.inr (.inl q5_71))), some (.inr (.inr (.inl q6_71))), some (.inr (.inr (.inl q7_71)))] [.inr (.inr (.inl qs0_245)), .inr (.inr (.inl qs1_245))] n (fun r n' _ => (SQi n (fun z => (0 ≤ z ∧ z ≤ 2) ∧ (z = 1 → x1 = 47 ∨ x1 = 114 ∨ x1 = 108))) r n') := by
          intro qs0_245 qs1_245 y245_0 y245_1
          refine sblk (hv := false) kbl_X6_make kbs_X6_make (pc := 245) (pe := 250) (rk := 0) (i := 7) rfl (by decide +kernel) ?_
          simp only [kb_X6_make_245, s_iv1, tfr_0, tfr_1, tfr_2, tfr_3, tfr_4, s_ic, s_ire, trg, LR, IR, true_and, and_true, Nat.reduceAdd, Nat.reduceSub, eq_self]
          refine ⟨vok_of (s := 4) (by assumption) rfl, ?_⟩
          refine s3_n (D := 1) (fun d' hd' => k_X2_copy (by assumption) (by assumption) (by omega) hd') (by omega) (by omega) (by repeat' first | exact trivial | exact ne3 (by assumption) (by decide) | refine ⟨?_, ?_⟩) ?_
          intro h17_
          try simp only [s_ic, s_ire, trg, LR, IR, true_and, and_true, Nat.reduceAdd, Nat.reduceSub, eq_self]
          exact fun _ _ _ _ => ⟨_, rfl, rfl, by omega⟩
        refine sblk (hv := false) kbl_X6_make kbs_X6_make (pc := 216) (pe := 241) (rk := 0) (i := 5) rfl (by decide +kernel) ?_
        simp only [kb_X6_make_216, s_ald_0, s_dupi, s_dupr, s_gf_8_2, s_ic, s_iadd, s_pf_8_2, s_ald7, s_ild_1, s_bi, s_ic_ne, s_gf_8_3, s_goto, LR, IR, true_and, and_true, Nat.reduceAdd, Nat.reduceSub, eq_self]
        refine ⟨by assumption, fun x22_ h22_ g22_ k22_ => ?_⟩
        simp (disch := decide) only [gk, gd, eq_self, true_imp_iff, false_imp_iff, and_true, true_and, Nat.reduceEqDiff, reduceIte, reduceCtorEq, ne_eq, not_false_eq_true] at k22_
        refine ⟨by omega, by assumption, by omega, ?_⟩
        refine ⟨by omega, fun h29_ => ?_, fun h29_ => ?_⟩
        · refine sblk (hv := false) kbl_X6_make kbs_X6_make (pc := 241) (pe := 245) (rk := 0) (i := 6) rfl (by decide +kernel) ?_
          simp only [kb_X6_make_241, s_ald_0, s_gf_8_4, s_nil, LR, IR, true_and, and_true, Nat.reduceAdd, Nat.reduceSub, eq_self]
          refine ⟨by assumption, fun x31_ h31_ => ?_⟩
          exact sT_w (n245 _ _ (by assumption) (by assumption))
        refine ⟨by assumption, fun x33_ h33_ => ?_⟩
        exact sT_w (n245 _ _ (by assumption) (by assumption))
      refine sblk (hv := false) kbl_X6_make kbs_X6_make (pc := 71) (pe := 172) (rk := 0) (i := 2) rfl (by decide +kernel) ?_
      simp only [kb_X6_make_71, s_ild_1, s_sw, tsw, LR, IR, true_and, and_true, Nat.reduceAdd, Nat.reduceSub, eq_self]
      refine ⟨by omega, ?_⟩
      refine ⟨fun h36_ => ?_, fun h36_ => ?_⟩
      · refine sblk (hv := false) kbl_X6_make kbs_X6_make (pc := 172) (pe := 195) (rk := 0) (i := 3) rfl (by decide +kernel) ?_
        simp only [kb_X6_make_172, s_ald_0, s_dupi, s_dupr, s_gf_8_2, s_ic, s_iadd, s_pf_8_2, s_gf_8_0, s_ald7, s_lld_2, s_ild4, s_iv3, tfr_0, tfr_1, tfr_2, tfr_3, tfr_4, s_ire, trg, LR, IR, true_and, and_true, Nat.reduceAdd, Nat.reduceSub, eq_self]
        refine ⟨by assumption, fun x39_ h39_ g39_ k39_ => ?_⟩
        simp (disch := decide) only [gk, gd, eq_self, true_imp_iff, false_imp_iff, and_true, true_and, Nat.reduceEqDiff, reduceIte, reduceCtorEq, ne_eq, not_false_eq_true] at k39_
        refine ⟨by omega, by assumption, by omega, ?_⟩
        refine ⟨by assumption, fun x44_ h44_ => ?_⟩
        refine ⟨vok_of (s := 2) (by assumption) rfl, ?_⟩
        refine sc_i (D := 3) (fun d' hd' => k_X0_tellNumber (by assumption) (by assumption) (by omega) (by omega) (by omega) hd') (by omega) ?_
        intro x48_ h48_
        try simp only [s_ire, trg, LR, IR, true_and, and_true, Nat.reduceAdd, Nat.reduceSub, eq_self]
        exact fun _ _ _ _ => ⟨_, rfl, rfl, by omega⟩
      refine ⟨fun h50_ => ?_, fun h50_ => ?_⟩
      · refine sblk (hv := false) kbl_X6_make kbs_X6_make (pc := 274) (pe := 286) (rk := 0) (i := 10) rfl (by decide +kernel) ?_
        simp only [kb_X6_make_274, s_ald_0, s_gf_8_0, s_ald5, s_ald6, s_iv2, tfr_0, tfr_1, tfr_2, tfr_3, tfr_4, s_ire, trg, LR, IR, true_and, and_true, Nat.reduceAdd, Nat.reduceSub, eq_self]
        refine ⟨by assumption, fun x52_ h52_ => ?_⟩
        refine ⟨vok_of (s := 2) (by assumption) rfl, ?_⟩
        refine sc_i (D := 3) (fun d' hd' => k_X0_product (by assumption) (by assumption) (by assumption) (by omega) hd') (by omega) ?_
        intro x55_ h55_
        try simp only [s_ire, trg, LR, IR, true_and, and_true, Nat.reduceAdd, Nat.reduceSub, eq_self]
        exact fun _ _ _ _ => ⟨_, rfl, rfl, by omega⟩
      refine ⟨fun h57_ => ?_, fun h57_ => ?_⟩
      · refine sblk (hv := false) kbl_X6_make kbs_X6_make (pc := 250) (pe := 262) (rk := 0) (i := 8) rfl (by decide +kernel) ?_
        simp only [kb_X6_make_250, s_ald_0, s_gf_8_0, s_ald5, s_ald6, s_iv2, tfr_0, tfr_1, tfr_2, tfr_3, tfr_4, s_ire, trg, LR, IR, true_and, and_true, Nat.reduceAdd, Nat.reduceSub, eq_self]
        refine ⟨by assumption, fun x59_ h59_ => ?_⟩
        refine ⟨vok_of (s := 2) (by assumption) rfl, ?_⟩
        refine s3_i (D := 3) (fun d' hd' => k_X0_sum (by assumption) (by assumption) (by assumption) (by omega) hd') (by omega) (by omega) (by repeat' first | exact trivial | exact ne3 (by assumption) (by decide) | refine ⟨?_, ?_⟩) ?_
        intro x62_ h62_
        try simp only [s_ire, trg, LR, IR, true_and, and_true, Nat.reduceAdd, Nat.reduceSub, eq_self]
        exact fun _ _ _ _ => ⟨_, rfl, rfl, by omega⟩
      refine ⟨fun h64_ => ?_, fun h64_ => ?_⟩
      · refine sblk (hv := false) kbl_X6_make kbs_X6_make (pc := 262) (pe := 274) (rk := 0) (i := 9) rfl (by decide +kernel) ?_
        simp only [kb_X6_make_262, s_ald_0, s_gf_8_0, s_ald5, s_ald6, s_iv2, tfr_0, tfr_1, tfr_2, tfr_3, tfr_4, s_ire, trg, LR, IR, true_and, and_true, Nat.reduceAdd, Nat.reduceSub, eq_self]
        refine ⟨by assumption, fun x66_ h66_ => ?_⟩
        refine ⟨vok_of (s := 2) (by assumption) rfl, ?_⟩
        refine s3_i (D := 3) (fun d' hd' => k_X0_difference (by assumption) (by assumption) (by assumption) (by omega) hd') (by omega) (by omega) (by repeat' first | exact trivial | exact ne3 (by assumption) (by decide) | refine ⟨?_, ?_⟩) ?_
        intro x69_ h69_
        try simp only [s_ire, trg, LR, IR, true_and, and_true, Nat.reduceAdd, Nat.reduceSub, eq_self]
        exact fun _ _ _ _ => ⟨_, rfl, rfl, by omega⟩
      refine ⟨fun h71_ => ?_, fun h71_ => ?_⟩
      · refine sblk (hv := false) kbl_X6_make kbs_X6_make (pc := 286) (pe := 298) (rk := 0) (i := 11) rfl (by decide +kernel) ?_
        simp only [kb_X6_make_286, s_ald_0, s_gf_8_0, s_ald5, s_ald6, s_iv2, tfr_0, tfr_1, tfr_2, tfr_3, tfr_4, s_ire, trg, LR, IR, true_and, and_true, Nat.reduceAdd, Nat.reduceSub, eq_self]
        refine ⟨by assumption, fun x73_ h73_ => ?_⟩
        refine ⟨vok_of (s := 2) (by assumption) rfl, ?_⟩
        refine sc_i (D := 3) (fun d' hd' => k_X0_quotient (by assumption) (by assumption) (by assumption) (by omega) hd') (by omega) ?_
        intro x76_ h76_
        try simp only [s_ire, trg, LR, IR, true_and, and_true, Nat.reduceAdd, Nat.reduceSub, eq_self]
        exact fun _ _ _ _ => ⟨_, rfl, rfl, by omega⟩
      refine ⟨fun h78_ => ?_, fun h78_ => ?_⟩
      · exact sT_g (G' := [(r, 2, c71)]) (fun M hg => hg) (n195 (by omega))
      refine ⟨fun h79_ => ?_, fun h79_ => ?_⟩
      · refine sblk (hv := false) kbl_X6_make kbs_X6_make (pc := 308) (pe := 318) (rk := 0) (i := 13) rfl (by decide +kernel) ?_
        simp only [kb_X6_make_308, s_ald_0, s_gf_8_0, s_ald6, s_iv1, tfr_0, tfr_1, tfr_2, tfr_3, tfr_4, s_ire, trg, LR, IR, true_and, and_true, Nat.reduceAdd, Nat.reduceSub, eq_self]
        refine ⟨by assumption, fun x81_ h81_ => ?_⟩
        refine ⟨vok_of (s := 2) (by assumption) rfl, ?_⟩
        refine s3_i (D := 3) (fun d' hd' => k_X0_size (by assumption) (by assumption) (by omega) hd') (by omega) (by omega) (by repeat' first | exact trivial | exact ne3 (by assumption) (by decide) | refine ⟨?_, ?_⟩) ?_
        intro x83_ h83_
        try simp only [s_ire, trg, LR, IR, true_and, and_true, Nat.reduceAdd, Nat.reduceSub, eq_self]
        exact fun _ _ _ _ => ⟨_, rfl, rfl, by omega⟩
      refine ⟨fun h85_ => ?_, fun h85_ => ?_⟩
      · exact sT_g (G' := [(r, 2, c71)]) (fun M hg => hg) (n195 (by omega))
      refine ⟨fun h86_ => ?_, fun h86_ => ?_⟩
      · exact sT_g (G' := [(r, 2, c71)]) (fun M hg => hg) (n216 (by omega))
      refine ⟨fun h87_ => ?_, fun h87_ => ?_⟩
      · exact sT_g (G' := [(r, 2, c71)]) (fun M hg => hg) (n216 (by omega))
      refine ⟨fun h88_ => ?_, fun h88_ => ?_⟩
      · refine sblk (hv := false) kbl_X6_make kbs_X6_make (pc := 298) (pe := 308) (rk := 0) (i := 12) rfl (by decide +kernel) ?_
        simp only [kb_X6_make_298, s_ald_0, s_gf_8_0, s_ald6, s_iv1, tfr_0, tfr_1, tfr_2, tfr_3, tfr_4, s_ire, trg, LR, IR, true_and, and_true, Nat.reduceAdd, Nat.reduceSub, eq_self]
        refine ⟨by assumption, fun x90_ h90_ => ?_⟩
        refine ⟨vok_of (s := 2) (by assumption) rfl, ?_⟩
        refine s3_i (D := 3) (fun d' hd' => k_X0_negative (by assumption) (by assumption) (by omega) hd') (by omega) (by omega) (by repeat' first | exact trivial | exact ne3 (by assumption) (by decide) | refine ⟨?_, ?_⟩) ?_
        intro x92_ h92_
        try simp only [s_ire, trg, LR, IR, true_and, and_true, Nat.reduceAdd, Nat.reduceSub, eq_self]
        exact fun _ _ _ _ => ⟨_, rfl, rfl, by omega⟩
      refine sblk (hv := false) kbl_X6_make kbs_X6_make (pc := 318) (pe := 331) (rk := 0) (i := 14) rfl (by decide +kernel) ?_
      simp only [kb_X6_make_318, s_ald_0, s_gf_8_0, s_ald6, s_ild_1, s_ild4, s_iv3, tfr_0, tfr_1, tfr_2, tfr_3, tfr_4, s_ire, trg, LR, IR, true_and, and_true, Nat.reduceAdd, Nat.reduceSub, eq_self]
      refine ⟨by assumption, fun x96_ h96_ => ?_⟩
      refine ⟨vok_of (s := 2) (by assumption) rfl, ?_⟩
      refine sc_i (D := 6) (fun d' hd' => k_X0_ofOne (by assumption) (by assumption) (by omega) (by omega) (by omega) he (by omega) hd') (by omega) ?_
      intro x100_ h100_
      try simp only [s_ire, trg, LR, IR, true_and, and_true, Nat.reduceAdd, Nat.reduceSub, eq_self]
      exact fun _ _ _ _ => ⟨_, rfl, rfl, by omega⟩
    refine sblk (hv := false) kbl_X6_make kbs_X6_make (pc := 12) (pe := 71) (rk := 0) (i := 1) rfl (by decide +kernel) ?_
    simp only [kb_X6_make_12, s_ald_0, s_gf_8_2, s_ic, s_isub, s_iv1, tfr_0, tfr_1, tfr_2, tfr_3, tfr_4, s_ast5, tkl_n, tkl_i, tkl_l, tkl_r, s_ast6, s_ast7, s_ild_1, s_is1, s_if_eq, s_ic_le, s_dupi, s_dupr, s_pf_8_2, s_nil, LR, IR, true_and, and_true, Nat.reduceAdd, Nat.reduceSub, eq_self]
    refine ⟨by assumption, fun x104_ h104_ g104_ k104_ => ?_⟩
    simp (disch := decide) only [gk, gd, eq_self, true_imp_iff, false_imp_iff, and_true, true_and, Nat.reduceEqDiff, reduceIte, reduceCtorEq, ne_eq, not_false_eq_true] at k104_
    refine ⟨vok_of (s := 8) (by assumption) rfl, ?_⟩
    refine sp_r (D := 0) (fun d' hd' => k_X6_at (by assumption) (by omega) hd') (by omega) ?_
    intro x107_ h107_
    try simp only [s_ast5, tkl_n, tkl_i, tkl_l, tkl_r, s_ald_0, s_gf_8_2, s_ic, s_isub, s_iv1, tfr_0, tfr_1, tfr_2, tfr_3, tfr_4, s_ast6, s_ast7, s_ild_1, s_is1, s_if_eq, s_ic_le, s_dupi, s_dupr, s_pf_8_2, s_nil, LR, IR, true_and, and_true, Nat.reduceAdd, Nat.reduceSub, eq_self]
    refine ⟨by assumption, fun x111_ h111_ g111_ k111_ => ?_⟩
    simp (disch := decide) only [gk, gd, eq_self, true_imp_iff, false_imp_iff, and_true, true_and, Nat.reduceEqDiff, reduceIte, reduceCtorEq, ne_eq, not_false_eq_true] at k111_
    refine ⟨vok_of (s := 8) (by assumption) rfl, ?_⟩
    refine sp_r (D := 0) (fun d' hd' => k_X6_at (by assumption) (by omega) hd') (by omega) ?_
    intro x114_ h114_
    try simp only [s_ast6, tkl_n, tkl_i, tkl_l, tkl_r, s_ald_0, s_gf_8_2, s_iv1, tfr_0, tfr_1, tfr_2, tfr_3, tfr_4, s_ast7, s_ild_1, s_is1, s_if_eq, s_ic, s_ic_le, s_dupi, s_dupr, s_isub, s_pf_8_2, s_nil, LR, IR, true_and, and_true, Nat.reduceAdd, Nat.reduceSub, eq_self]
    refine ⟨by assumption, fun x118_ h118_ g118_ k118_ => ?_⟩
    simp (disch := decide) only [gk, gd, eq_self, true_imp_iff, false_imp_iff, and_true, true_and, Nat.reduceEqDiff, reduceIte, reduceCtorEq, ne_eq, not_false_eq_true] at k118_
    refine ⟨vok_of (s := 8) (by assumption) rfl, ?_⟩
    refine sp_r (D := 0) (fun d' hd' => k_X6_at (by assumption) (by omega) hd') (by omega) ?_
    intro x119_ h119_
    try simp only [s_ast7, tkl_n, tkl_i, tkl_l, tkl_r, s_ild_1, s_is1, tfr_0, tfr_1, tfr_2, tfr_3, tfr_4, s_if_eq, s_ald_0, s_gf_8_2, s_ic, s_ic_le, s_dupi, s_dupr, s_isub, s_pf_8_2, s_nil, LR, IR, true_and, and_true, Nat.reduceAdd, Nat.reduceSub, eq_self]
    refine sp_i (D := 0) (fun d' hd' => k_X5_isPair (by omega) hd') (by omega) ?_
    intro x122_ h122_
    try simp only [s_if_eq, s_ald_0, s_gf_8_2, s_ic, s_ic_le, s_dupi, s_dupr, s_isub, s_pf_8_2, s_nil, LR, IR, true_and, and_true, Nat.reduceAdd, Nat.reduceSub, eq_self]
    refine ⟨by omega, fun h123_ => ?_, fun h123_ => ?_⟩
    · exact sT_g (G' := [(r, 2, _)]) (fun M hg => ⟨hg.1, trivial⟩) (n71 _ _ _ _ (by omega) (by assumption) (by assumption) (by assumption) (by omega))
    refine ⟨by assumption, fun x125_ h125_ g125_ k125_ => ?_⟩
    simp (disch := decide) only [gk, gd, eq_self, true_imp_iff, false_imp_iff, and_true, true_and, Nat.reduceEqDiff, reduceIte, reduceCtorEq, ne_eq, not_false_eq_true] at k125_
    refine ⟨by omega, fun h127_ => ?_, fun h127_ => ?_⟩
    · exact sT_g (G' := [(r, 2, _)]) (fun M hg => ⟨hg.1, trivial⟩) (n71 _ _ _ _ (by omega) (by assumption) (by assumption) (by assumption) (by omega))
    refine ⟨by assumption, fun x130_ h130_ g130_ k130_ => ?_⟩
    simp (disch := decide) only [gk, gd, eq_self, true_imp_iff, false_imp_iff, and_true, true_and, Nat.reduceEqDiff, reduceIte, reduceCtorEq, ne_eq, not_false_eq_true] at k130_
    refine ⟨by omega, by assumption, by omega, ?_⟩
    exact sT_g (G' := [(r, 2, _)]) (fun M hg => ⟨hg.1, trivial⟩) (n71 _ _ _ _ (by omega) (by assumption) (by assumption) (by assumption) (by omega))
  exact fun _ _ _ _ => ⟨_, rfl, rfl, by omega⟩
theorem k_X11_combine {e : tE} {b : Nat} {d n : Nat} {r : Nat} {x1 : Int} {x2 : Int} {x3 : Int} {x4 : Int} (h0 : cl r 13) (h1 : (-2147483648 ≤ x1 ∧ x1 ≤ 2147483647)) (h2 : (-2147483648 ≤ x2 ∧ x2 ≤ 2147483647)) (h3 : (-2147483648 ≤ x3 ∧ x3 ≤ 2147483647)) (h4 : (0 ≤ x4 ∧ x4 ≤ 65535)) (hq : x4 ≠ 114) (he : EO e) (hb : b < 2) (hd : 8 ≤ d) : sC e b d 3348 [.inr (.inr (.inl r)), .inl x1, .inl x2, .inl x3, .inl x4] n (SQx n (SQi n (fun z => (0 ≤ z ∧ z ≤ 1))) (fun s => ((x4 = 47 ∨ x4 = 114 ∨ x4 = 108) ∧ s = "java/lang/ArithmeticException") ∨ s = "java/lang/IllegalStateException" ∨ s = "java/lang/IndexOutOfBoundsException" ∨ s = "java/util/NoSuchElementException")) := by
  refine sK (fun M h => tst_X11_combine h) (fun M0 => ?_)
  refine sblk (hv := false) kbl_X11_combine kbs_X11_combine (pc := 0) (pe := 71) (rk := 3) (i := 0) rfl (by decide +kernel) ?_
  simp only [kb_X11_combine_0, s_ald_0, s_ild_1, s_ild_2, s_ild_3, s_iv3, tfr_0, tfr_1, tfr_2, tfr_3, tfr_4, s_iv1, s_gf_13_4, s_iv0, s_gf_13_3, s_ild4, s_lc0, s_ic, s_iv2, s_ire, trg, LR, IR, true_and, and_true, Nat.reduceAdd, Nat.reduceSub, eq_self]
  refine ⟨vok_of (s := 13) (by assumption) rfl, ?_⟩
  refine sc_xn (D := 1) (fun d' hd' => k_X11_checkShelves (by assumption) (by omega) (by omega) (by omega) hd') (by omega) rfl ?_ (fun s hs _ => Or.inr ⟨s, rfl, rfl, (fun h => Or.inr (Or.inr (Or.inl (h)))) hs⟩)
  intro h5_
  try simp only [s_ald_0, s_ild_2, s_iv1, tfr_0, tfr_1, tfr_2, tfr_3, tfr_4, s_ild_3, s_gf_13_4, s_iv0, s_gf_13_3, s_ild_1, s_ild4, s_lc0, s_ic, s_iv3, s_iv2, s_ire, trg, LR, IR, true_and, and_true, Nat.reduceAdd, Nat.reduceSub, eq_self]
  refine ⟨vok_of (s := 13) (by assumption) rfl, ?_⟩
  refine sc_xn (D := 2) (fun d' hd' => k_X11_checkHeld (by assumption) (by omega) hd') (by omega) rfl ?_ (fun s hs _ => Or.inr ⟨s, rfl, rfl, (fun h => Or.inr (Or.inr (Or.inr (h)))) hs⟩)
  intro h8_
  try simp only [s_ald_0, s_ild_3, s_iv1, tfr_0, tfr_1, tfr_2, tfr_3, tfr_4, s_gf_13_4, s_iv0, s_gf_13_3, s_ild_2, s_ild_1, s_ild4, s_lc0, s_ic, s_iv3, s_iv2, s_ire, trg, LR, IR, true_and, and_true, Nat.reduceAdd, Nat.reduceSub, eq_self]
  refine ⟨vok_of (s := 13) (by assumption) rfl, ?_⟩
  refine sc_xn (D := 2) (fun d' hd' => k_X11_checkHeld (by assumption) (by omega) hd') (by omega) rfl ?_ (fun s hs _ => Or.inr ⟨s, rfl, rfl, (fun h => Or.inr (Or.inr (Or.inr (h)))) hs⟩)
  intro h11_
  try simp only [s_ald_0, s_gf_13_4, s_iv0, tfr_0, tfr_1, tfr_2, tfr_3, tfr_4, s_gf_13_3, s_ild_2, s_iv1, s_ild_3, s_ild_1, s_ild4, s_lc0, s_ic, s_iv3, s_iv2, s_ire, trg, LR, IR, true_and, and_true, Nat.reduceAdd, Nat.reduceSub, eq_self]
  refine ⟨by assumption, fun x13_ h13_ => ?_⟩
  refine ⟨vok_of (s := 8) (by assumption) rfl, ?_⟩
  refine sc_n (D := 0) (fun d' hd' => k_X6_clear (by assumption) (by omega) hd') (by omega) ?_
  intro h14_
  try simp only [s_ald_0, s_gf_13_4, s_gf_13_3, s_ild_2, s_iv1, tfr_0, tfr_1, tfr_2, tfr_3, tfr_4, s_ild_3, s_ild_1, s_ild4, s_lc0, s_ic, s_iv3, s_iv2, s_ire, trg, LR, IR, true_and, and_true, Nat.reduceAdd, Nat.reduceSub, eq_self]
  refine ⟨by assumption, fun x16_ h16_ => ?_⟩
  refine ⟨by assumption, fun x18_ h18_ => ?_⟩
  refine ⟨vok_of (s := 11) (by assumption) rfl, ?_⟩
  refine sc_r (D := 1) (fun d' hd' => k_X9_box (by assumption) (by omega) hd') (by omega) ?_
  intro x20_ h20_
  try simp only [s_iv1, tfr_0, tfr_1, tfr_2, tfr_3, tfr_4, s_ald_0, s_gf_13_4, s_gf_13_3, s_ild_3, s_ild_1, s_ild4, s_lc0, s_ic, s_iv3, s_iv2, s_ire, trg, LR, IR, true_and, and_true, Nat.reduceAdd, Nat.reduceSub, eq_self]
  refine ⟨vok_of (s := 8) (by assumption) rfl, ?_⟩
  refine sc_n (D := 2) (fun d' hd' => k_X6_push (by assumption) (by assumption) (by omega) hd') (by omega) ?_
  intro h21_
  try simp only [s_ald_0, s_gf_13_4, s_gf_13_3, s_ild_3, s_iv1, tfr_0, tfr_1, tfr_2, tfr_3, tfr_4, s_ild_1, s_ild4, s_lc0, s_ic, s_iv3, s_iv2, s_ire, trg, LR, IR, true_and, and_true, Nat.reduceAdd, Nat.reduceSub, eq_self]
  refine ⟨by assumption, fun x23_ h23_ => ?_⟩
  refine ⟨by assumption, fun x25_ h25_ => ?_⟩
  refine ⟨vok_of (s := 11) (by assumption) rfl, ?_⟩
  refine sc_r (D := 1) (fun d' hd' => k_X9_box (by assumption) (by omega) hd') (by omega) ?_
  intro x27_ h27_
  try simp only [s_iv1, tfr_0, tfr_1, tfr_2, tfr_3, tfr_4, s_ald_0, s_ild_1, s_gf_13_4, s_ild4, s_lc0, s_ic, s_iv3, s_iv2, s_ire, trg, LR, IR, true_and, and_true, Nat.reduceAdd, Nat.reduceSub, eq_self]
  refine ⟨vok_of (s := 8) (by assumption) rfl, ?_⟩
  refine sc_n (D := 2) (fun d' hd' => k_X6_push (by assumption) (by assumption) (by omega) hd') (by omega) ?_
  intro h28_
  try simp only [s_ald_0, s_ild_1, s_gf_13_4, s_ild4, s_lc0, s_ic, s_iv3, tfr_0, tfr_1, tfr_2, tfr_3, tfr_4, s_iv2, s_ire, trg, LR, IR, true_and, and_true, Nat.reduceAdd, Nat.reduceSub, eq_self]
  refine ⟨by assumption, fun x32_ h32_ => ?_⟩
  refine ⟨vok_of (s := 8) (by assumption) rfl, ?_⟩
  refine sc_i (D := 7) (fun d' hd' => k_X6_make (by assumption) (by omega) (by omega) (by omega) (by omega) he (by omega) hd') (by omega) ?_
  intro x36_ h36_
  try simp only [s_iv2, tfr_0, tfr_1, tfr_2, tfr_3, tfr_4, s_ire, trg, LR, IR, true_and, and_true, Nat.reduceAdd, Nat.reduceSub, eq_self]
  refine ⟨vok_of (s := 13) (by assumption) rfl, ?_⟩
  refine sc_xi (D := 4) (fun d' hd' => k_X11_become (by assumption) (by omega) (by omega) (by omega) hd') (by omega) rfl ?_ (fun s hs _ => Or.inr ⟨s, rfl, rfl, (fun h => h.elim (fun h => Or.inl (⟨by omega, h.2⟩)) (fun h => Or.inr (Or.inl (h.2)))) hs⟩)
  intro x37_ h37_
  try simp only [s_ire, trg, LR, IR, true_and, and_true, Nat.reduceAdd, Nat.reduceSub, eq_self]
  exact ⟨by omega, fun _ _ _ _ => Or.inl ⟨_, rfl, rfl, by omega⟩⟩
theorem k_X11_add {e : tE} {b : Nat} {d n : Nat} {r : Nat} {x1 : Int} {x2 : Int} {x3 : Int} (h0 : cl r 13) (h1 : (-2147483648 ≤ x1 ∧ x1 ≤ 2147483647)) (h2 : (-2147483648 ≤ x2 ∧ x2 ≤ 2147483647)) (h3 : (-2147483648 ≤ x3 ∧ x3 ≤ 2147483647)) (he : EO e) (hb : b < 2) (hd : 9 ≤ d) : sC e b d 3329 [.inr (.inr (.inl r)), .inl x1, .inl x2, .inl x3] n (SQx n (SQi n (fun z => (0 ≤ z ∧ z ≤ 1))) (fun s => s = "java/lang/IllegalStateException" ∨ s = "java/lang/IndexOutOfBoundsException" ∨ s = "java/util/NoSuchElementException")) := by
  refine sK (fun M h => tst_X11_add h) (fun M0 => ?_)
  refine sblk (hv := false) kbl_X11_add kbs_X11_add (pc := 0) (pe := 10) (rk := 3) (i := 0) rfl (by decide +kernel) ?_
  simp only [kb_X11_add_0, s_ald_0, s_ild_1, s_ild_2, s_ild_3, s_bi, s_iv4, tfr_0, tfr_1, tfr_2, tfr_3, tfr_4, s_ire, trg, LR, IR, true_and, and_true, Nat.reduceAdd, Nat.reduceSub, eq_self]
  refine ⟨vok_of (s := 13) (by assumption) rfl, ?_⟩
  refine sc_xi (D := 8) (fun d' hd' => k_X11_combine (by assumption) (by omega) (by omega) (by omega) (by omega) (by omega) he (by omega) hd') (by omega) rfl ?_ (fun s hs _ => Or.inr ⟨s, rfl, rfl, (fun h => h.elim (fun h => absurd h.1 (by omega)) (fun h => h.elim (fun h => Or.inl (h)) (fun h => h.elim (fun h => Or.inr (Or.inl (h))) (fun h => Or.inr (Or.inr (h)))))) hs⟩)
  intro x6_ h6_
  try simp only [s_ire, trg, LR, IR, true_and, and_true, Nat.reduceAdd, Nat.reduceSub, eq_self]
  exact ⟨by omega, fun _ _ _ _ => Or.inl ⟨_, rfl, rfl, by omega⟩⟩
theorem k_X11_change {e : tE} {b : Nat} {d n : Nat} {r : Nat} {x1 : Int} {x2 : Int} {x3 : Int} {x4 : Int} (h0 : cl r 13) (h1 : (-2147483648 ≤ x1 ∧ x1 ≤ 2147483647)) (h2 : (-2147483648 ≤ x2 ∧ x2 ≤ 2147483647)) (h3 : (0 ≤ x3 ∧ x3 ≤ 65535)) (h4 : (0 ≤ x4 ∧ x4 ≤ 9)) (hq : x3 = 114 → 2 ≤ x4 ∧ x4 ≤ 9) (he : EO e) (hb : b < 2) (hd : 8 ≤ d) : sC e b d 3334 [.inr (.inr (.inl r)), .inl x1, .inl x2, .inl x3, .inl x4] n (SQx n (SQi n (fun z => (0 ≤ z ∧ z ≤ 1))) (fun s => ((x3 = 47 ∨ x3 = 114 ∨ x3 = 108) ∧ s = "java/lang/ArithmeticException") ∨ s = "java/lang/IllegalStateException" ∨ s = "java/util/NoSuchElementException")) := by
  refine sK (fun M h => tst_X11_change h) (fun M0 => ?_)
  refine sblk (hv := false) kbl_X11_change kbs_X11_change (pc := 0) (pe := 44) (rk := 3) (i := 0) rfl (by decide +kernel) ?_
  simp only [kb_X11_change_0, s_ald_0, s_ild_2, s_iv1, tfr_0, tfr_1, tfr_2, tfr_3, tfr_4, s_gf_13_4, s_iv0, s_gf_13_3, s_ild_1, s_ild_3, s_lc0, s_ild4, s_iv3, s_iv2, s_ire, trg, LR, IR, true_and, and_true, Nat.reduceAdd, Nat.reduceSub, eq_self]
  refine ⟨vok_of (s := 13) (by assumption) rfl, ?_⟩
  refine sc_xn (D := 2) (fun d' hd' => k_X11_checkHeld (by assumption) (by omega) hd') (by omega) rfl ?_ (fun s hs _ => Or.inr ⟨s, rfl, rfl, (fun h => Or.inr (Or.inr (h))) hs⟩)
  intro h3_
  try simp only [s_ald_0, s_gf_13_4, s_iv0, tfr_0, tfr_1, tfr_2, tfr_3, tfr_4, s_gf_13_3, s_ild_2, s_iv1, s_ild_1, s_ild_3, s_lc0, s_ild4, s_iv3, s_iv2, s_ire, trg, LR, IR, true_and, and_true, Nat.reduceAdd, Nat.reduceSub, eq_self]
  refine ⟨by assumption, fun x5_ h5_ => ?_⟩
  refine ⟨vok_of (s := 8) (by assumption) rfl, ?_⟩
  refine sc_n (D := 0) (fun d' hd' => k_X6_clear (by assumption) (by omega) hd') (by omega) ?_
  intro h6_
  try simp only [s_ald_0, s_gf_13_4, s_gf_13_3, s_ild_2, s_iv1, tfr_0, tfr_1, tfr_2, tfr_3, tfr_4, s_ild_1, s_ild_3, s_lc0, s_ild4, s_iv3, s_iv2, s_ire, trg, LR, IR, true_and, and_true, Nat.reduceAdd, Nat.reduceSub, eq_self]
  refine ⟨by assumption, fun x8_ h8_ => ?_⟩
  refine ⟨by assumption, fun x10_ h10_ => ?_⟩
  refine ⟨vok_of (s := 11) (by assumption) rfl, ?_⟩
  refine sc_r (D := 1) (fun d' hd' => k_X9_box (by assumption) (by omega) hd') (by omega) ?_
  intro x12_ h12_
  try simp only [s_iv1, tfr_0, tfr_1, tfr_2, tfr_3, tfr_4, s_ald_0, s_ild_1, s_gf_13_4, s_ild_3, s_lc0, s_ild4, s_iv3, s_iv2, s_ire, trg, LR, IR, true_and, and_true, Nat.reduceAdd, Nat.reduceSub, eq_self]
  refine ⟨vok_of (s := 8) (by assumption) rfl, ?_⟩
  refine sc_n (D := 2) (fun d' hd' => k_X6_push (by assumption) (by assumption) (by omega) hd') (by omega) ?_
  intro h13_
  try simp only [s_ald_0, s_ild_1, s_gf_13_4, s_ild_3, s_lc0, s_ild4, s_iv3, tfr_0, tfr_1, tfr_2, tfr_3, tfr_4, s_iv2, s_ire, trg, LR, IR, true_and, and_true, Nat.reduceAdd, Nat.reduceSub, eq_self]
  refine ⟨by assumption, fun x17_ h17_ => ?_⟩
  refine ⟨vok_of (s := 8) (by assumption) rfl, ?_⟩
  refine sc_i (D := 7) (fun d' hd' => k_X6_make (by assumption) (by omega) (by omega) (by omega) (by omega) he (by omega) hd') (by omega) ?_
  intro x21_ h21_
  try simp only [s_iv2, tfr_0, tfr_1, tfr_2, tfr_3, tfr_4, s_ire, trg, LR, IR, true_and, and_true, Nat.reduceAdd, Nat.reduceSub, eq_self]
  refine ⟨vok_of (s := 13) (by assumption) rfl, ?_⟩
  refine sc_xi (D := 4) (fun d' hd' => k_X11_become (by assumption) (by omega) (by omega) (by omega) hd') (by omega) rfl ?_ (fun s hs _ => Or.inr ⟨s, rfl, rfl, (fun h => h.elim (fun h => Or.inl (⟨by omega, h.2⟩)) (fun h => Or.inr (Or.inl (h.2)))) hs⟩)
  intro x22_ h22_
  try simp only [s_ire, trg, LR, IR, true_and, and_true, Nat.reduceAdd, Nat.reduceSub, eq_self]
  exact ⟨by omega, fun _ _ _ _ => Or.inl ⟨_, rfl, rfl, by omega⟩⟩
theorem k_X11_apply {e : tE} {b : Nat} {d n : Nat} {r : Nat} {x1 : Int} {x2 : Int} {x3 : Int} (h0 : cl r 13) (h1 : (-2147483648 ≤ x1 ∧ x1 ≤ 2147483647)) (h2 : (-2147483648 ≤ x2 ∧ x2 ≤ 2147483647)) (h3 : (0 ≤ x3 ∧ x3 ≤ 65535)) (he : EO e) (hb : b < 2) (hd : 9 ≤ d) : sC e b d 3330 [.inr (.inr (.inl r)), .inl x1, .inl x2, .inl x3] n (SQx n (SQi n (fun z => (0 ≤ z ∧ z ≤ 1))) (fun s => s = "java/lang/ArithmeticException" ∨ s = "java/lang/IllegalArgumentException" ∨ s = "java/lang/IllegalStateException" ∨ s = "java/lang/IndexOutOfBoundsException" ∨ s = "java/util/NoSuchElementException")) := by
  refine sK (fun M h => tst_X11_apply h) (fun M0 => ?_)
  have n50 : (45 ≤ x3 ∧ x3 ≤ 108) → sT e b M0 d 3330 50 [] [some (.inr (.inr (.inl r))), some (.inl x1), some (.inl x2), some (.inl x3)] [] n (fun r n' _ => (SQx n (SQi n (fun z => (0 ≤ z ∧ z ≤ 1))) (fun s => s = "java/lang/ArithmeticException" ∨ s = "java/lang/IllegalArgumentException" ∨ s = "java/lang/IllegalStateException" ∨ s = "java/lang/IndexOutOfBoundsException" ∨ s = "java/util/NoSuchElementException")) r n') := by
    intro  y50_0
    have n65 : ∀ (is0_65 : Int) (is1_65 : Int) (is2_65 : Int) (qs3_65 : Nat), ((46 ≤ is0_65 ∧ is0_65 ≤ 126) ∧ is0_65 ≠ 114) → (-2147483648 ≤ is1_65 ∧ is1_65 ≤ 2147483647) → (-2147483648 ≤ is2_65 ∧ is2_65 ≤ 2147483647) → cl qs3_65 13 → sT e b M0 d 3330 65 [] [some (.inr (.inr (.inl r))), some (.inl x1), some (.inl x2), some (.inl x3)] [.inl is0_65, .inl is1_65, .inl is2_65, .inr (.inr (.inl qs3_65))] n (fun r n' _ => (SQx n (SQi n (fun z => (0 ≤ z ∧ z ≤ 1))) (fun s => s = "java/lang/ArithmeticException" ∨ s = "java/lang/IllegalArgumentException" ∨ s = "java/lang/IllegalStateException" ∨ s = "java/lang/IndexOutOfBoundsException" ∨ s = "java/util/NoSuchElementException")) r n') := by
      intro is0_65 is1_65 is2_65 qs3_65 y65_0 y65_1 y65_2 y65_3
      refine sblk (hv := false) kbl_X11_apply kbs_X11_apply (pc := 65) (pe := 70) (rk := 3) (i := 4) rfl (by decide +kernel) ?_
      simp only [kb_X11_apply_65, s_ic, s_iv4, tfr_0, tfr_1, tfr_2, tfr_3, tfr_4, s_ire, trg, LR, IR, true_and, and_true, Nat.reduceAdd, Nat.reduceSub, eq_self]
      refine ⟨vok_of (s := 13) (by assumption) rfl, ?_⟩
      refine sc_xi (D := 8) (fun d' hd' => k_X11_change (by assumption) (by omega) (by omega) (by omega) (by omega) (by omega) he (by omega) hd') (by omega) rfl ?_ (fun s hs _ => Or.inr ⟨s, rfl, rfl, (fun h => h.elim (fun h => Or.inl (h.2)) (fun h => h.elim (fun h => Or.inr (Or.inr (Or.inl (h)))) (fun h => Or.inr (Or.inr (Or.inr (Or.inr (h))))))) hs⟩)
      intro x2_ h2_
      try simp only [s_ire, trg, LR, IR, true_and, and_true, Nat.reduceAdd, Nat.reduceSub, eq_self]
      exact ⟨by omega, fun _ _ _ _ => Or.inl ⟨_, rfl, rfl, by omega⟩⟩
    refine sblk (hv := false) kbl_X11_apply kbs_X11_apply (pc := 50) (pe := 64) (rk := 3) (i := 2) rfl (by decide +kernel) ?_
    simp only [kb_X11_apply_50, s_ald_0, s_ild_1, s_ild_2, s_ild_3, s_bi, s_ic_ne, s_goto, LR, IR, true_and, and_true, Nat.reduceAdd, Nat.reduceSub, eq_self]
    refine ⟨by omega, fun h9_ => ?_, fun h9_ => ?_⟩
    · refine sT_w ?_
      refine sblk (hv := false) kbl_X11_apply kbs_X11_apply (pc := 64) (pe := 65) (rk := 3) (i := 3) rfl (by decide +kernel) ?_
      simp only [kb_X11_apply_64, s_ild_3, s_nil, LR, IR, true_and, and_true, Nat.reduceAdd, Nat.reduceSub, eq_self]
      exact sT_w (n65 _ _ _ _ (by omega) (by omega) (by omega) (by assumption))
    exact sT_w (n65 _ _ _ _ (by omega) (by omega) (by omega) (by assumption))
  refine sblk (hv := false) kbl_X11_apply kbs_X11_apply (pc := 0) (pe := 43) (rk := 3) (i := 0) rfl (by decide +kernel) ?_
  simp only [kb_X11_apply_0, s_ald_0, s_ild_1, s_iv1, tfr_0, tfr_1, tfr_2, tfr_3, tfr_4, s_ild_2, s_ild_3, s_bi, s_ic_eq, s_new, LR, IR, true_and, and_true, Nat.reduceAdd, Nat.reduceSub, eq_self]
  refine ⟨vok_of (s := 13) (by assumption) rfl, ?_⟩
  refine sc_xn (D := 0) (fun d' hd' => k_X11_checkShelf (by assumption) (by omega) hd') (by omega) rfl ?_ (fun s hs _ => Or.inr ⟨s, rfl, rfl, (fun h => Or.inr (Or.inr (Or.inr (Or.inl (h))))) hs⟩)
  intro h15_
  try simp only [s_ald_0, s_ild_2, s_iv1, tfr_0, tfr_1, tfr_2, tfr_3, tfr_4, s_ild_3, s_bi, s_ic_eq, s_new, LR, IR, true_and, and_true, Nat.reduceAdd, Nat.reduceSub, eq_self]
  refine ⟨vok_of (s := 13) (by assumption) rfl, ?_⟩
  refine sc_xn (D := 0) (fun d' hd' => k_X11_checkShelf (by assumption) (by omega) hd') (by omega) rfl ?_ (fun s hs _ => Or.inr ⟨s, rfl, rfl, (fun h => Or.inr (Or.inr (Or.inr (Or.inl (h))))) hs⟩)
  intro h18_
  try simp only [s_ild_3, s_bi, s_ic_eq, s_new, LR, IR, true_and, and_true, Nat.reduceAdd, Nat.reduceSub, eq_self]
  refine ⟨by omega, fun h21_ => ?_, fun h21_ => ?_⟩
  · exact sT_w (n50 (by omega))
  refine ⟨by omega, fun h24_ => ?_, fun h24_ => ?_⟩
  · exact sT_w (n50 (by omega))
  refine ⟨by omega, fun h27_ => ?_, fun h27_ => ?_⟩
  · exact sT_w (n50 (by omega))
  refine ⟨by omega, fun h30_ => ?_, fun h30_ => ?_⟩
  · exact sT_w (n50 (by omega))
  refine ⟨by omega, fun h33_ => ?_, fun h33_ => ?_⟩
  · exact sT_w (n50 (by omega))
  exact fun _ _ _ _ => Or.inr ⟨_, rfl, rfl, Or.inr (Or.inl (rfl))⟩
theorem k_X6_makeValue {e : tE} {b : Nat} {d n : Nat} {r : Nat} {x1 : Nat} (h0 : cl r 8) (h1 : cl x1 7) (he : EO e) (hb : b < 2) (hd : 8 ≤ d) : sC e b d 2058 [.inr (.inr (.inl r)), .inr (.inr (.inl x1))] n (SQi n (fun z => (0 ≤ z ∧ z ≤ 2))) := by
  intro M0 hC0 _
  have hr := h0.1
  have h7 := h1.1
  refine tst_X6_makeValue ?_
  have n6 : ∀ (fu : Nat) (i : Int) (w3 : Option tV) (M : tM), 60 - i + 1 ≤ (fu : Int) → (0 ≤ i ∧ i ≤ 60) → CI M → pE b M0 M → tT e d 2058 6 [some (.inr (.inr (.inl r))), some (.inr (.inr (.inl x1))), some (.inl i), w3] [] M n (sQ b M0 (fun r n' _ => SQi n (fun z => (0 ≤ z ∧ z ≤ 2)) r n')) := by
    intro fu
    induction fu with
    | zero => intro i w3 M hm hi; exfalso; omega
    | succ fu ih =>
      intro i w3 M hm hi hC hE
      have hc : 0 ≤ M x1 4 ∧ M x1 4 ≤ 60 := fm_c hC h1 (by decide) rfl
      refine tb_X6_makeValue_6 (c := true) ?_
      simp only [kb_X6_makeValue_6, w_ild_2, w_ald_1, w_gf_7_4, tw_t, w_ic_ge, w_ald_0, w_iv1, tfr_0, tfr_1, tfr_2, tfr_3, tfr_4, w_iv3, w_ist_3, tkl_n, tkl_i, tkl_l, tkl_r, w_ild_3, w_if_eq, w_ire, trg, w64_r, true_and, and_true, Nat.reduceAdd, Nat.reduceSub, eq_self, hr, h7, tay_7, tay_8, ta_8, ta_7]
      refine ⟨by omega, fun h => ?_, fun h => ?_⟩
      · refine tb_X6_makeValue_46 (c := true) ?_
        simp only [kb_X6_makeValue_46, w_ic, w_ire, trg, w64_r, true_and, and_true, Nat.reduceAdd, Nat.reduceSub, eq_self]
        exact ⟨⟨hC, hE⟩, 0, rfl, rfl, by omega⟩
      refine tc_i (D := 1) (fun d' hd' => e_actAt h1 (by omega) hC hd') (by omega) ?_
      rintro xa M1 ⟨rfl, rfl⟩
      have ha := fm_c (lo := 0) (hi := 65535) hC (fm_0 h1) (wth_in i).1 rfl
      have hs := fm_c (lo := -65536) (hi := 2147483647) hC (fm_2 h1) (wth_in i).1 rfl
      try simp only [kb_X6_makeValue_6, w_ild_2, w_ald_1, w_gf_7_4, tw_t, w_ic_ge, w_ald_0, w_iv1, tfr_0, tfr_1, tfr_2, tfr_3, tfr_4, w_iv3, w_ist_3, tkl_n, tkl_i, tkl_l, tkl_r, w_ild_3, w_if_eq, w_ire, trg, w64_r, true_and, and_true, Nat.reduceAdd, Nat.reduceSub, eq_self, hr, h7, tay_7, tay_8, ta_8, ta_7]
      refine ts_l (b := 2) (D := 1) (fun d' hd' => k_X5_numberAt h1 (by omega) hd') hC (by omega) ?_
      intro xn M2 hn hC2 hE2
      obtain rfl := pE_2 hE2
      try simp only [kb_X6_makeValue_6, w_ild_2, w_ald_1, w_gf_7_4, tw_t, w_ic_ge, w_ald_0, w_iv1, tfr_0, tfr_1, tfr_2, tfr_3, tfr_4, w_iv3, w_ist_3, tkl_n, tkl_i, tkl_l, tkl_r, w_ild_3, w_if_eq, w_ire, trg, w64_r, true_and, and_true, Nat.reduceAdd, Nat.reduceSub, eq_self, hr, h7, tay_7, tay_8, ta_8, ta_7]
      refine tc_i (D := 1) (fun d' hd' => e_scaleAt h1 (by omega) hC2 hd') (by omega) ?_
      rintro xs M3 ⟨rfl, rfl⟩
      try simp only [kb_X6_makeValue_6, w_ild_2, w_ald_1, w_gf_7_4, tw_t, w_ic_ge, w_ald_0, w_iv1, tfr_0, tfr_1, tfr_2, tfr_3, tfr_4, w_iv3, w_ist_3, tkl_n, tkl_i, tkl_l, tkl_r, w_ild_3, w_if_eq, w_ire, trg, w64_r, true_and, and_true, Nat.reduceAdd, Nat.reduceSub, eq_self, hr, h7, tay_7, tay_8, ta_8, ta_7]
      refine ts_i (b := b) (D := 7) (fun d' hd' => k_X6_make h0 ha hn (by omega) (FA_at hC2 h1) he hb hd') hC2 (by omega) ?_
      intro xm M4 hm4 hC4 hE4
      try simp only [kb_X6_makeValue_6, w_ild_2, w_ald_1, w_gf_7_4, tw_t, w_ic_ge, w_ald_0, w_iv1, tfr_0, tfr_1, tfr_2, tfr_3, tfr_4, w_iv3, w_ist_3, tkl_n, tkl_i, tkl_l, tkl_r, w_ild_3, w_if_eq, w_ire, trg, w64_r, true_and, and_true, Nat.reduceAdd, Nat.reduceSub, eq_self, hr, h7, tay_7, tay_8, ta_8, ta_7]
      refine ⟨by omega, fun h => ?_, fun h => ?_⟩
      · refine tb_X6_makeValue_40 (c := true) ?_
        simp only [kb_X6_makeValue_40, w_inc2, tkl_n, tkl_i, tkl_l, tkl_r, w_goto, w64_r, true_and, and_true, Nat.reduceAdd, Nat.reduceSub, eq_self]
        exact ih _ _ _ (by omega) (by omega) hC4 (pE_tr hE hE4)
      exact ⟨⟨hC4, pE_tr hE hE4⟩, _, rfl, rfl, by omega⟩
  refine tb_X6_makeValue_0 (c := true) ?_
  simp only [kb_X6_makeValue_0, w_ald_0, w_iv0, tfr_0, tfr_1, tfr_2, tfr_3, tfr_4, w_ic, w_ist_2, tkl_n, tkl_i, tkl_l, tkl_r, w_nil, w64_r, true_and, and_true, Nat.reduceAdd, Nat.reduceSub, eq_self, hr, h7, tay_7, tay_8, ta_8, ta_7]
  refine ts_n (b := b) (D := 0) (fun d' hd' => k_X6_clear h0 (by omega) hd') hC0 (by omega) ?_
  intro M1 _ hC1 hE1
  try simp only [kb_X6_makeValue_0, w_ald_0, w_iv0, tfr_0, tfr_1, tfr_2, tfr_3, tfr_4, w_ic, w_ist_2, tkl_n, tkl_i, tkl_l, tkl_r, w_nil, w64_r, true_and, and_true, Nat.reduceAdd, Nat.reduceSub, eq_self, hr, h7, tay_7, tay_8, ta_8, ta_7]
  exact n6 100 _ _ _ (by omega) (by omega) hC1 hE1
theorem k_X11_sumUp {e : tE} {b : Nat} {d n : Nat} {r : Nat} {x1 : Nat} {x2 : Nat} {x3 : Int} (h0 : cl r 13) (h1 : cl x1 7) (h2 : cl x2 4) (h3 : (-2147483648 ≤ x3 ∧ x3 ≤ 2147483647)) (he : EO e) (hb : b < 2) (hd : 9 ≤ d) : sC e b d 3392 [.inr (.inr (.inl r)), .inr (.inr (.inl x1)), .inr (.inr (.inl x2)), .inl x3] n (SQi n (fun z => (0 ≤ z ∧ z ≤ 2))) := by
  refine sK (fun M h => tst_X11_sumUp h) (fun M0 => ?_)
  have n19 : ∀ (fu : Nat) (i4_19 : Int) (w5_19 : Option tV) (w6_19 : Option tV), 8 - i4_19 + 1 ≤ (fu : Int) → (0 ≤ i4_19 ∧ i4_19 ≤ 8) → sT e b M0 d 3392 19 [] [some (.inr (.inr (.inl r))), some (.inr (.inr (.inl x1))), some (.inr (.inr (.inl x2))), some (.inl x3), some (.inl i4_19), w5_19, w6_19] [] n (fun r n' _ => (SQi n (fun z => (0 ≤ z ∧ z ≤ 2))) r n') := by
    intro fu
    induction fu with
    | zero =>
      intro i4_19 w5_19 w6_19 hm y19_0
      exfalso; omega
    | succ fu ih =>
      intro i4_19 w5_19 w6_19 hm y19_0
      have ih19 := ih
      clear ih
      refine sblk (hv := false) kbl_X11_sumUp kbs_X11_sumUp (pc := 19) (pe := 71) (rk := 0) (i := 1) rfl (by decide +kernel) ?_
      simp only [kb_X11_sumUp_19, s_ild4, s_ald_0, s_gf_13_9, s_gf_9_3, s_ic_ge, s_iv1, tfr_0, tfr_1, tfr_2, tfr_3, tfr_4, s_ast5, tkl_n, tkl_i, tkl_l, tkl_r, s_gf_13_4, s_ald5, s_iv2, s_ald_1, s_ist6, s_ild6, s_if_eq, s_ire, trg, LR, IR, true_and, and_true, Nat.reduceAdd, Nat.reduceSub, eq_self]
      refine ⟨by assumption, fun x3_ h3_ => ?_⟩
      refine ⟨by assumption, fun x4_ h4_ g4_ k4_ => ?_⟩
      clear k4_
      refine ⟨by omega, fun h5_ => ?_, fun h5_ => ?_⟩
      · refine sT_w ?_
        refine sblk (hv := false) kbl_X11_sumUp kbs_X11_sumUp (pc := 226) (pe := 228) (rk := 0) (i := 6) rfl (by decide +kernel) ?_
        simp only [kb_X11_sumUp_226, s_ic, s_ire, trg, LR, IR, true_and, and_true, Nat.reduceAdd, Nat.reduceSub, eq_self]
        exact fun _ _ _ _ => ⟨_, rfl, rfl, by omega⟩
      refine ⟨by assumption, fun x9_ h9_ => ?_⟩
      refine ⟨vok_of (s := 9) (by assumption) rfl, ?_⟩
      refine sc_r (D := 1) (fun d' hd' => k_X7_box (by assumption) (by omega) hd') (by omega) ?_
      intro x11_ h11_
      try simp only [s_ast5, tkl_n, tkl_i, tkl_l, tkl_r, s_ald_0, s_gf_13_4, s_ald5, s_iv2, tfr_0, tfr_1, tfr_2, tfr_3, tfr_4, s_ald_1, s_iv1, s_ist6, s_ild6, s_if_eq, s_ire, trg, LR, IR, true_and, and_true, Nat.reduceAdd, Nat.reduceSub, eq_self]
      refine ⟨by assumption, fun x14_ h14_ => ?_⟩
      refine ⟨vok_of (s := 8) (by assumption) rfl, ?_⟩
      refine sc_n (D := 0) (fun d' hd' => k_X6_aim (by assumption) (by assumption) (by assumption) (by omega) hd') (by omega) ?_
      intro h17_
      try simp only [s_ald_0, s_gf_13_4, s_ald_1, s_iv1, tfr_0, tfr_1, tfr_2, tfr_3, tfr_4, s_ist6, tkl_n, tkl_i, tkl_l, tkl_r, s_ild6, s_if_eq, s_ire, trg, LR, IR, true_and, and_true, Nat.reduceAdd, Nat.reduceSub, eq_self]
      refine ⟨by assumption, fun x19_ h19_ => ?_⟩
      refine ⟨vok_of (s := 8) (by assumption) rfl, ?_⟩
      refine sc_i (D := 8) (fun d' hd' => k_X6_makeValue (by assumption) (by assumption) he (by omega) hd') (by omega) ?_
      intro x21_ h21_
      try simp only [s_ist6, tkl_n, tkl_i, tkl_l, tkl_r, s_ild6, s_if_eq, s_ire, trg, LR, IR, true_and, and_true, Nat.reduceAdd, Nat.reduceSub, eq_self]
      refine ⟨by omega, fun h24_ => ?_, fun h24_ => ?_⟩
      · have n140 : ∀ (q5_140 : Nat) (i6_140 : Int), (0 ≤ i4_19 ∧ i4_19 ≤ 7) → cl q5_140 4 → (0 ≤ i6_140 ∧ i6_140 ≤ 0) → sT e b M0 d 3392 140 [] [some (.inr (.inr (.inl r))), some (.inr (.inr (.inl x1))), some (.inr (.inr (.inl x2))), some (.inl x3), some (.inl i4_19), some (.inr (.inr (.inl q5_140))), some (.inl i6_140)] [] n (fun r n' _ => (SQi n (fun z => (0 ≤ z ∧ z ≤ 2))) r n') := by
          intro q5_140 i6_140 y140_0 y140_1 y140_2
          have n198 : ∀ (i6_198 : Int), (0 ≤ i6_198 ∧ i6_198 ≤ 2) → sT e b M0 d 3392 198 [] [some (.inr (.inr (.inl r))), some (.inr (.inr (.inl x1))), some (.inr (.inr (.inl x2))), some (.inl x3), some (.inl i4_19), some (.inr (.inr (.inl q5_140))), some (.inl i6_198)] [] n (fun r n' _ => (SQi n (fun z => (0 ≤ z ∧ z ≤ 2))) r n') := by
            intro i6_198 y198_0
            refine sblk (hv := false) kbl_X11_sumUp kbs_X11_sumUp (pc := 198) (pe := 206) (rk := 0) (i := 4) rfl (by decide +kernel) ?_
            simp only [kb_X11_sumUp_198, s_ild6, s_if_eq, s_ire, trg, LR, IR, true_and, and_true, Nat.reduceAdd, Nat.reduceSub, eq_self]
            refine ⟨by omega, fun h26_ => ?_, fun h26_ => ?_⟩
            · refine sT_w ?_
              refine sblk (hv := false) kbl_X11_sumUp kbs_X11_sumUp (pc := 206) (pe := 226) (rk := 0) (i := 5) rfl (by decide +kernel) ?_
              simp only [kb_X11_sumUp_206, s_ald_0, s_gf_13_11, s_gf_13_4, s_iv0, tfr_0, tfr_1, tfr_2, tfr_3, tfr_4, s_iv1, s_inc4, tkl_n, tkl_i, tkl_l, tkl_r, s_goto, LR, IR, true_and, and_true, Nat.reduceAdd, Nat.reduceSub, eq_self]
              refine ⟨by assumption, fun x28_ h28_ => ?_⟩
              refine ⟨by assumption, fun x30_ h30_ => ?_⟩
              refine ⟨vok_of (s := 8) (by assumption) rfl, ?_⟩
              refine sc_r (D := 1) (fun d' hd' => k_X6_result (by assumption) hd') (by omega) ?_
              intro x31_ h31_
              try simp only [s_iv1, tfr_0, tfr_1, tfr_2, tfr_3, tfr_4, s_inc4, tkl_n, tkl_i, tkl_l, tkl_r, s_goto, LR, IR, true_and, and_true, Nat.reduceAdd, Nat.reduceSub, eq_self]
              refine ⟨vok_of (s := 4) (by assumption) rfl, ?_⟩
              refine sc_n (D := 1) (fun d' hd' => k_X2_copy (by assumption) (by assumption) (by omega) hd') (by omega) ?_
              intro h32_
              try simp only [s_inc4, tkl_n, tkl_i, tkl_l, tkl_r, s_goto, LR, IR, true_and, and_true, Nat.reduceAdd, Nat.reduceSub, eq_self]
              exact sT_w (ih19 _ _ _ (by omega) (by omega))
            exact fun _ _ _ _ => ⟨_, rfl, rfl, by omega⟩
          refine sblk (hv := false) kbl_X11_sumUp kbs_X11_sumUp (pc := 140) (pe := 198) (rk := 0) (i := 3) rfl (by decide +kernel) ?_
          simp only [kb_X11_sumUp_140, s_ald_0, s_gf_13_4, s_gf_13_12, s_iv1, tfr_0, tfr_1, tfr_2, tfr_3, tfr_4, s_gf_13_13, s_bi, s_lc0, s_ic, s_iv3, s_ist6, tkl_n, tkl_i, tkl_l, tkl_r, s_ild6, s_if_ne, s_ild4, s_if_le, s_nil, LR, IR, true_and, and_true, Nat.reduceAdd, Nat.reduceSub, eq_self]
          refine ⟨by assumption, fun x38_ h38_ => ?_⟩
          refine ⟨by assumption, fun x40_ h40_ => ?_⟩
          refine ⟨vok_of (s := 8) (by assumption) rfl, ?_⟩
          refine sc_n (D := 2) (fun d' hd' => k_X6_push (by assumption) (by assumption) (by omega) hd') (by omega) ?_
          intro h41_
          try simp only [s_ald_0, s_gf_13_4, s_gf_13_13, s_iv1, tfr_0, tfr_1, tfr_2, tfr_3, tfr_4, s_bi, s_lc0, s_ic, s_iv3, s_ist6, tkl_n, tkl_i, tkl_l, tkl_r, s_ild6, s_if_ne, s_ild4, s_if_le, s_nil, LR, IR, true_and, and_true, Nat.reduceAdd, Nat.reduceSub, eq_self]
          refine ⟨by assumption, fun x43_ h43_ => ?_⟩
          refine ⟨by assumption, fun x45_ h45_ => ?_⟩
          refine ⟨vok_of (s := 8) (by assumption) rfl, ?_⟩
          refine sc_n (D := 2) (fun d' hd' => k_X6_push (by assumption) (by assumption) (by omega) hd') (by omega) ?_
          intro h46_
          try simp only [s_ald_0, s_gf_13_4, s_bi, s_lc0, s_ic, s_iv3, tfr_0, tfr_1, tfr_2, tfr_3, tfr_4, s_ist6, tkl_n, tkl_i, tkl_l, tkl_r, s_ild6, s_if_ne, s_ild4, s_if_le, s_nil, LR, IR, true_and, and_true, Nat.reduceAdd, Nat.reduceSub, eq_self]
          refine ⟨by assumption, fun x48_ h48_ => ?_⟩
          refine ⟨vok_of (s := 8) (by assumption) rfl, ?_⟩
          refine sc_i (D := 7) (fun d' hd' => k_X6_make (by assumption) (by omega) (by omega) (by omega) (by omega) he (by omega) hd') (by omega) ?_
          intro x52_ h52_
          try simp only [s_ist6, tkl_n, tkl_i, tkl_l, tkl_r, s_ild6, s_if_ne, s_ild4, s_if_le, s_ald_0, s_gf_13_4, s_bi, s_lc0, s_ic, s_iv3, tfr_0, tfr_1, tfr_2, tfr_3, tfr_4, s_nil, LR, IR, true_and, and_true, Nat.reduceAdd, Nat.reduceSub, eq_self]
          refine ⟨by omega, fun h55_ => ?_, fun h55_ => ?_⟩
          · exact sT_w (n198 _ (by omega))
          refine ⟨by omega, fun h57_ => ?_, fun h57_ => ?_⟩
          · exact sT_w (n198 _ (by omega))
          refine ⟨by assumption, fun x59_ h59_ => ?_⟩
          refine ⟨vok_of (s := 8) (by assumption) rfl, ?_⟩
          refine sc_i (D := 7) (fun d' hd' => k_X6_make (by assumption) (by omega) (by omega) (by omega) (by omega) he (by omega) hd') (by omega) ?_
          intro x63_ h63_
          try simp only [s_ist6, tkl_n, tkl_i, tkl_l, tkl_r, s_nil, LR, IR, true_and, and_true, Nat.reduceAdd, Nat.reduceSub, eq_self]
          exact sT_w (n198 _ (by omega))
        refine sT_w ?_
        refine sblk (hv := false) kbl_X11_sumUp kbs_X11_sumUp (pc := 71) (pe := 140) (rk := 0) (i := 2) rfl (by decide +kernel) ?_
        simp only [kb_X11_sumUp_71, s_ald_0, s_gf_13_12, s_gf_13_4, s_iv0, tfr_0, tfr_1, tfr_2, tfr_3, tfr_4, s_iv1, s_gf_13_15, s_ald5, s_gf_4_1, s_gf_4_0, s_iv2, s_gf_13_13, s_ild4, s_if_le, s_gf_13_11, s_nil, LR, IR, true_and, and_true, Nat.reduceAdd, Nat.reduceSub, eq_self]
        refine ⟨by assumption, fun x66_ h66_ => ?_⟩
        refine ⟨by assumption, fun x68_ h68_ => ?_⟩
        refine ⟨vok_of (s := 8) (by assumption) rfl, ?_⟩
        refine sc_r (D := 1) (fun d' hd' => k_X6_result (by assumption) hd') (by omega) ?_
        intro x69_ h69_
        try simp only [s_iv1, tfr_0, tfr_1, tfr_2, tfr_3, tfr_4, s_ald_0, s_gf_13_15, s_ald5, s_gf_4_1, s_gf_4_0, s_iv2, s_gf_13_13, s_gf_13_4, s_iv0, s_ild4, s_if_le, s_gf_13_11, s_nil, LR, IR, true_and, and_true, Nat.reduceAdd, Nat.reduceSub, eq_self]
        refine ⟨vok_of (s := 4) (by assumption) rfl, ?_⟩
        refine sc_n (D := 1) (fun d' hd' => k_X2_copy (by assumption) (by assumption) (by omega) hd') (by omega) ?_
        intro h70_
        try simp only [s_ald_0, s_gf_13_15, s_ald5, s_gf_4_1, s_gf_4_0, s_iv2, tfr_0, tfr_1, tfr_2, tfr_3, tfr_4, s_gf_13_13, s_gf_13_4, s_iv0, s_ild4, s_if_le, s_gf_13_11, s_iv1, s_nil, LR, IR, true_and, and_true, Nat.reduceAdd, Nat.reduceSub, eq_self]
        refine ⟨by assumption, fun x72_ h72_ => ?_⟩
        refine ⟨by assumption, fun x74_ h74_ => ?_⟩
        refine ⟨by assumption, fun x76_ h76_ => ?_⟩
        refine ⟨vok_of (s := 3) (by assumption) rfl, ?_⟩
        refine sc_n (D := 0) (fun d' hd' => k_X1_toDifference (by assumption) (by assumption) (by assumption) (by omega) hd') (by omega) ?_
        intro h77_
        try simp only [s_ald_0, s_gf_13_13, s_gf_13_15, s_iv2, tfr_0, tfr_1, tfr_2, tfr_3, tfr_4, s_gf_13_4, s_iv0, s_ild4, s_if_le, s_gf_13_11, s_iv1, s_nil, LR, IR, true_and, and_true, Nat.reduceAdd, Nat.reduceSub, eq_self]
        refine ⟨by assumption, fun x79_ h79_ => ?_⟩
        refine ⟨by assumption, fun x81_ h81_ => ?_⟩
        refine ⟨by assumption, fun x83_ h83_ => ?_⟩
        refine ⟨vok_of (s := 4) (by assumption) rfl, ?_⟩
        refine sc_n (D := 1) (fun d' hd' => k_X2_between (by assumption) (by assumption) (by assumption) (by omega) hd') (by omega) ?_
        intro h84_
        try simp only [s_ald_0, s_gf_13_4, s_iv0, tfr_0, tfr_1, tfr_2, tfr_3, tfr_4, s_ild4, s_if_le, s_gf_13_11, s_iv1, s_nil, LR, IR, true_and, and_true, Nat.reduceAdd, Nat.reduceSub, eq_self]
        refine ⟨by assumption, fun x86_ h86_ => ?_⟩
        refine ⟨vok_of (s := 8) (by assumption) rfl, ?_⟩
        refine sc_n (D := 0) (fun d' hd' => k_X6_clear (by assumption) (by omega) hd') (by omega) ?_
        intro h87_
        try simp only [s_ild4, s_if_le, s_ald_0, s_gf_13_4, s_gf_13_11, s_iv1, tfr_0, tfr_1, tfr_2, tfr_3, tfr_4, s_nil, LR, IR, true_and, and_true, Nat.reduceAdd, Nat.reduceSub, eq_self]
        refine ⟨by omega, fun h89_ => ?_, fun h89_ => ?_⟩
        · exact sT_w (n140 _ _ (by omega) (by assumption) (by omega))
        refine ⟨by assumption, fun x91_ h91_ => ?_⟩
        refine ⟨by assumption, fun x93_ h93_ => ?_⟩
        refine ⟨vok_of (s := 8) (by assumption) rfl, ?_⟩
        refine sc_n (D := 2) (fun d' hd' => k_X6_push (by assumption) (by assumption) (by omega) hd') (by omega) ?_
        intro h94_
        try simp only [s_nil, LR, IR, true_and, and_true, Nat.reduceAdd, Nat.reduceSub, eq_self]
        exact sT_w (n140 _ _ (by omega) (by assumption) (by omega))
      exact fun _ _ _ _ => ⟨_, rfl, rfl, by omega⟩
  refine sblk (hv := false) kbl_X11_sumUp kbs_X11_sumUp (pc := 0) (pe := 19) (rk := 0) (i := 0) rfl (by decide +kernel) ?_
  simp only [kb_X11_sumUp_0, s_ald_0, s_gf_13_9, s_ald_2, s_ild_3, s_gf_13_4, s_iv0, tfr_0, tfr_1, tfr_2, tfr_3, tfr_4, s_iv3, s_ic, s_ist4, tkl_n, tkl_i, tkl_l, tkl_r, s_nil, LR, IR, true_and, and_true, Nat.reduceAdd, Nat.reduceSub, eq_self]
  refine ⟨by assumption, fun x98_ h98_ => ?_⟩
  refine ⟨by assumption, fun x102_ h102_ => ?_⟩
  refine ⟨vok_of (s := 8) (by assumption) rfl, ?_⟩
  refine sc_l (D := 0) (fun d' hd' => k_X6_unit (by assumption) hd') (by omega) ?_
  intro x103_ h103_
  try simp only [s_iv3, tfr_0, tfr_1, tfr_2, tfr_3, tfr_4, s_ic, s_ist4, tkl_n, tkl_i, tkl_l, tkl_r, s_nil, LR, IR, true_and, and_true, Nat.reduceAdd, Nat.reduceSub, eq_self]
  refine ⟨vok_of (s := 9) (by assumption) rfl, ?_⟩
  refine sc_n (D := 3) (fun d' hd' => k_X7_cut (by assumption) (by assumption) (by omega) (by omega) (by omega) hd') (by omega) ?_
  intro h104_
  try simp only [s_ic, s_ist4, tkl_n, tkl_i, tkl_l, tkl_r, s_nil, LR, IR, true_and, and_true, Nat.reduceAdd, Nat.reduceSub, eq_self]
  exact sT_w (n19 4294967400 _ _ _ (by omega) (by omega))
theorem k_X11_area {e : tE} {b : Nat} {d n : Nat} {r : Nat} {x1 : Int} {x2 : Int} {x3 : Int} {x4 : Int} (h0 : cl r 13) (h1 : (-2147483648 ≤ x1 ∧ x1 ≤ 2147483647)) (h2 : (-2147483648 ≤ x2 ∧ x2 ≤ 2147483647)) (h3 : (-2147483648 ≤ x3 ∧ x3 ≤ 2147483647)) (h4 : (-2147483648 ≤ x4 ∧ x4 ≤ 2147483647)) (he : EO e) (hb : b < 2) (hd : 10 ≤ d) : sC e b d 3331 [.inr (.inr (.inl r)), .inl x1, .inl x2, .inl x3, .inl x4] n (SQx n (SQi n (fun z => (0 ≤ z ∧ z ≤ 1))) (fun s => s = "java/lang/ArithmeticException" ∨ s = "java/lang/IllegalArgumentException" ∨ s = "java/lang/IllegalStateException" ∨ s = "java/lang/IndexOutOfBoundsException" ∨ s = "java/lang/UnsupportedOperationException" ∨ s = "java/util/NoSuchElementException")) := by
  refine sK (fun M h => tst_X11_area h) (fun M0 => ?_)
  refine sblk (hv := false) kbl_X11_area kbs_X11_area (pc := 0) (pe := 43) (rk := 3) (i := 0) rfl (by decide +kernel) ?_
  simp only [kb_X11_area_0, s_ald_0, s_ild_1, s_ild_2, s_ild_3, s_ild4, s_iv4, tfr_0, tfr_1, tfr_2, tfr_3, tfr_4, s_gf_13_5, s_aa, s_gf_13_3, s_iv1, s_iv3, s_gf_13_11, s_iv2, s_ire, trg, LR, IR, true_and, and_true, Nat.reduceAdd, Nat.reduceSub, eq_self]
  refine ⟨vok_of (s := 13) (by assumption) rfl, ?_⟩
  refine sc_xn (D := 3) (fun d' hd' => k_X11_checkBoundsCall (by assumption) (by omega) (by omega) (by omega) (by omega) hd') (by omega) rfl ?_ (fun s hs _ => Or.inr ⟨s, rfl, rfl, (fun h => h.elim (fun h => Or.inr (Or.inl (h))) (fun h => h.elim (fun h => Or.inr (Or.inr (Or.inr (Or.inl (h))))) (fun h => h.elim (fun h => Or.inr (Or.inr (Or.inr (Or.inr (Or.inl (h)))))) (fun h => Or.inr (Or.inr (Or.inr (Or.inr (Or.inr (h))))))))) hs⟩)
  intro h6_
  try simp only [s_ald_0, s_gf_13_5, s_ild_2, s_aa, s_gf_13_3, s_ild_3, s_iv1, tfr_0, tfr_1, tfr_2, tfr_3, tfr_4, s_ild4, s_iv3, s_ild_1, s_gf_13_11, s_iv2, s_ire, trg, LR, IR, true_and, and_true, Nat.reduceAdd, Nat.reduceSub, eq_self]
  refine ⟨by assumption, fun x10_ h10_ => ?_⟩
  refine Or.inr ⟨aok_27 (by assumption) (by omega), fun x12_ h12_ => ?_⟩
  refine ⟨by assumption, fun x14_ h14_ => ?_⟩
  refine ⟨vok_of (s := 11) (by assumption) rfl, ?_⟩
  refine sc_r (D := 1) (fun d' hd' => k_X9_box (by assumption) (by omega) hd') (by omega) ?_
  intro x16_ h16_
  try simp only [s_ild4, s_iv3, tfr_0, tfr_1, tfr_2, tfr_3, tfr_4, s_iv1, s_ald_0, s_ild_1, s_gf_13_11, s_iv2, s_ire, trg, LR, IR, true_and, and_true, Nat.reduceAdd, Nat.reduceSub, eq_self]
  refine ⟨vok_of (s := 13) (by assumption) rfl, ?_⟩
  refine sc_i (D := 9) (fun d' hd' => k_X11_sumUp (by assumption) (by assumption) (by assumption) (by omega) he (by omega) hd') (by omega) ?_
  intro x18_ h18_
  try simp only [s_iv1, tfr_0, tfr_1, tfr_2, tfr_3, tfr_4, s_ald_0, s_ild_1, s_gf_13_11, s_iv2, s_ire, trg, LR, IR, true_and, and_true, Nat.reduceAdd, Nat.reduceSub, eq_self]
  refine ⟨vok_of (s := 13) (by assumption) rfl, ?_⟩
  refine sc_xn (D := 0) (fun d' hd' => k_X11_checkStatus (by assumption) (by omega) hd') (by omega) rfl ?_ (fun s hs _ => Or.inr ⟨s, rfl, rfl, (fun h => h.elim (fun h => Or.inl (h.2)) (fun h => Or.inr (Or.inr (Or.inl (h.2))))) hs⟩)
  intro h19_
  try simp only [s_ald_0, s_ild_1, s_gf_13_11, s_iv2, tfr_0, tfr_1, tfr_2, tfr_3, tfr_4, s_ire, trg, LR, IR, true_and, and_true, Nat.reduceAdd, Nat.reduceSub, eq_self]
  refine ⟨by assumption, fun x23_ h23_ => ?_⟩
  refine ⟨vok_of (s := 13) (by assumption) rfl, ?_⟩
  refine sc_i (D := 3) (fun d' hd' => k_X11_fill (by assumption) (by omega) (by assumption) (by omega) hd') (by omega) ?_
  intro x24_ h24_
  try simp only [s_ire, trg, LR, IR, true_and, and_true, Nat.reduceAdd, Nat.reduceSub, eq_self]
  exact ⟨by omega, fun _ _ _ _ => Or.inl ⟨_, rfl, rfl, by omega⟩⟩
theorem k_X11_canBeZero {e : tE} {b : Nat} {d n : Nat} {r : Nat} {x1 : Nat} (h0 : cl r 13) (h1 : cl x1 7) (he : EO e) (hb : b < 2) (hd : 9 ≤ d) : sC e b d 3333 [.inr (.inr (.inl r)), .inr (.inr (.inl x1))] n (SQi n (fun z => (0 ≤ z ∧ z ≤ 1))) := by
  refine sK (fun M h => tst_X11_canBeZero h) (fun M0 => ?_)
  have n29 : ∀ (is0_29 : Int), (0 ≤ is0_29 ∧ is0_29 ≤ 1) → sT e b M0 d 3333 29 [] [some (.inr (.inr (.inl r))), some (.inr (.inr (.inl x1)))] [.inl is0_29] n (fun r n' _ => (SQi n (fun z => (0 ≤ z ∧ z ≤ 1))) r n') := by
    intro is0_29 y29_0
    refine sblk (hv := false) kbl_X11_canBeZero kbs_X11_canBeZero (pc := 29) (pe := 30) (rk := 3) (i := 3) rfl (by decide +kernel) ?_
    simp only [kb_X11_canBeZero_29, s_ire, trg, LR, IR, true_and, and_true, Nat.reduceAdd, Nat.reduceSub, eq_self]
    exact ⟨by omega, fun _ _ _ _ => ⟨_, rfl, rfl, by omega⟩⟩
  have n24 : sT e b M0 d 3333 24 [] [some (.inr (.inr (.inl r))), some (.inr (.inr (.inl x1)))] [] n (fun r n' _ => (SQi n (fun z => (0 ≤ z ∧ z ≤ 1))) r n') := by
    refine sblk (hv := false) kbl_X11_canBeZero kbs_X11_canBeZero (pc := 24) (pe := 28) (rk := 3) (i := 1) rfl (by decide +kernel) ?_
    simp only [kb_X11_canBeZero_24, s_ic, s_goto, LR, IR, true_and, and_true, Nat.reduceAdd, Nat.reduceSub, eq_self]
    exact sT_w (n29 _ (by omega))
  refine sblk (hv := false) kbl_X11_canBeZero kbs_X11_canBeZero (pc := 0) (pe := 24) (rk := 3) (i := 0) rfl (by decide +kernel) ?_
  simp only [kb_X11_canBeZero_0, s_ald_0, s_gf_13_4, s_ald_1, s_iv1, tfr_0, tfr_1, tfr_2, tfr_3, tfr_4, s_if_ne, s_iv0, s_if_eq, s_nil, LR, IR, true_and, and_true, Nat.reduceAdd, Nat.reduceSub, eq_self]
  refine ⟨by assumption, fun x5_ h5_ => ?_⟩
  refine ⟨vok_of (s := 8) (by assumption) rfl, ?_⟩
  refine sc_i (D := 8) (fun d' hd' => k_X6_makeValue (by assumption) (by assumption) he (by omega) hd') (by omega) ?_
  intro x7_ h7_
  try simp only [s_if_ne, s_ald_0, s_gf_13_4, s_iv0, tfr_0, tfr_1, tfr_2, tfr_3, tfr_4, s_if_eq, s_nil, LR, IR, true_and, and_true, Nat.reduceAdd, Nat.reduceSub, eq_self]
  refine ⟨by omega, fun h8_ => ?_, fun h8_ => ?_⟩
  · exact sT_w (n24)
  refine ⟨by assumption, fun x10_ h10_ => ?_⟩
  refine ⟨vok_of (s := 8) (by assumption) rfl, ?_⟩
  refine sc_r (D := 1) (fun d' hd' => k_X6_result (by assumption) hd') (by omega) ?_
  intro x11_ h11_
  try simp only [s_iv0, tfr_0, tfr_1, tfr_2, tfr_3, tfr_4, s_if_eq, s_nil, LR, IR, true_and, and_true, Nat.reduceAdd, Nat.reduceSub, eq_self]
  refine ⟨vok_of (s := 4) (by assumption) rfl, ?_⟩
  refine sc_i (D := 1) (fun d' hd' => k_X2_holdsZero (by assumption) hd') (by omega) ?_
  intro x12_ h12_
  try simp only [s_if_eq, s_nil, LR, IR, true_and, and_true, Nat.reduceAdd, Nat.reduceSub, eq_self]
  refine ⟨by omega, fun h13_ => ?_, fun h13_ => ?_⟩
  · refine sT_w ?_
    refine sblk (hv := false) kbl_X11_canBeZero kbs_X11_canBeZero (pc := 28) (pe := 29) (rk := 3) (i := 2) rfl (by decide +kernel) ?_
    simp only [kb_X11_canBeZero_28, s_ic, s_nil, LR, IR, true_and, and_true, Nat.reduceAdd, Nat.reduceSub, eq_self]
    exact sT_w (n29 _ (by omega))
  exact sT_w (n24)
theorem k_X11_constant {e : tE} {b : Nat} {d n : Nat} {r : Nat} {x1 : Int} {x2 : Int} (h0 : cl r 13) (h1 : (-2147483648 ≤ x1 ∧ x1 ≤ 2147483647)) (h2 : (0 ≤ x2 ∧ x2 ≤ 65535)) (he : EO e) (hb : b < 2) (hd : 8 ≤ d) : sC e b d 3350 [.inr (.inr (.inl r)), .inl x1, .inl x2] n (SQx n (SQi n (fun z => (0 ≤ z ∧ z ≤ 1))) (fun s => s = "java/lang/IllegalArgumentException" ∨ s = "java/lang/IllegalStateException" ∨ s = "java/lang/IndexOutOfBoundsException")) := by
  refine sK (fun M h => tst_X11_constant h) (fun M0 => ?_)
  have n27 : (101 ≤ x2 ∧ x2 ≤ 112) → sT e b M0 d 3350 27 [] [some (.inr (.inr (.inl r))), some (.inl x1), some (.inl x2)] [] n (fun r n' _ => (SQx n (SQi n (fun z => (0 ≤ z ∧ z ≤ 1))) (fun s => s = "java/lang/IllegalArgumentException" ∨ s = "java/lang/IllegalStateException" ∨ s = "java/lang/IndexOutOfBoundsException")) r n') := by
    intro  y27_0
    have n53 : ∀ (is0_53 : Int) (qs1_53 : Nat) (is2_53 : Int) (qs3_53 : Nat), (69 ≤ is0_53 ∧ is0_53 ≤ 112) → cl qs1_53 8 → (-2147483648 ≤ is2_53 ∧ is2_53 ≤ 2147483647) → cl qs3_53 13 → (is0_53 = 112 ∨ is0_53 = 69) → sT e b M0 d 3350 53 [] [some (.inr (.inr (.inl r))), some (.inl x1), some (.inl x2)] [.inl is0_53, .inr (.inr (.inl qs1_53)), .inl is2_53, .inr (.inr (.inl qs3_53))] n (fun r n' _ => (SQx n (SQi n (fun z => (0 ≤ z ∧ z ≤ 1))) (fun s => s = "java/lang/IllegalArgumentException" ∨ s = "java/lang/IllegalStateException" ∨ s = "java/lang/IndexOutOfBoundsException")) r n') := by
      intro is0_53 qs1_53 is2_53 qs3_53 y53_0 y53_1 y53_2 y53_3 y53_4
      refine sblk (hv := false) kbl_X11_constant kbs_X11_constant (pc := 53) (pe := 62) (rk := 3) (i := 4) rfl (by decide +kernel) ?_
      simp only [kb_X11_constant_53, s_lc0, s_ic, s_iv3, tfr_0, tfr_1, tfr_2, tfr_3, tfr_4, s_iv2, s_ire, trg, LR, IR, true_and, and_true, Nat.reduceAdd, Nat.reduceSub, eq_self]
      refine ⟨vok_of (s := 8) (by assumption) rfl, ?_⟩
      refine sc_i (D := 7) (fun d' hd' => k_X6_make (by assumption) (by omega) (by omega) (by omega) (by omega) he (by omega) hd') (by omega) ?_
      intro x3_ h3_
      try simp only [s_iv2, tfr_0, tfr_1, tfr_2, tfr_3, tfr_4, s_ire, trg, LR, IR, true_and, and_true, Nat.reduceAdd, Nat.reduceSub, eq_self]
      refine ⟨vok_of (s := 13) (by assumption) rfl, ?_⟩
      refine sc_xi (D := 4) (fun d' hd' => k_X11_become (by assumption) (by omega) (by omega) (by omega) hd') (by omega) rfl ?_ (fun s hs _ => Or.inr ⟨s, rfl, rfl, (fun h => h.elim (fun h => absurd h.1 (by omega)) (fun h => Or.inr (Or.inl (h.2)))) hs⟩)
      intro x4_ h4_
      try simp only [s_ire, trg, LR, IR, true_and, and_true, Nat.reduceAdd, Nat.reduceSub, eq_self]
      exact ⟨by omega, fun _ _ _ _ => Or.inl ⟨_, rfl, rfl, by omega⟩⟩
    refine sblk (hv := false) kbl_X11_constant kbs_X11_constant (pc := 27) (pe := 51) (rk := 3) (i := 2) rfl (by decide +kernel) ?_
    simp only [kb_X11_constant_27, s_ald_0, s_gf_13_4, s_iv0, tfr_0, tfr_1, tfr_2, tfr_3, tfr_4, s_ild_1, s_ild_2, s_bi, s_ic_ne, s_goto, LR, IR, true_and, and_true, Nat.reduceAdd, Nat.reduceSub, eq_self]
    refine ⟨by assumption, fun x7_ h7_ => ?_⟩
    refine ⟨vok_of (s := 8) (by assumption) rfl, ?_⟩
    refine sc_n (D := 0) (fun d' hd' => k_X6_clear (by assumption) (by omega) hd') (by omega) ?_
    intro h8_
    try simp only [s_ald_0, s_ild_1, s_gf_13_4, s_ild_2, s_bi, s_ic_ne, s_goto, LR, IR, true_and, and_true, Nat.reduceAdd, Nat.reduceSub, eq_self]
    refine ⟨by assumption, fun x12_ h12_ => ?_⟩
    refine ⟨by omega, fun h15_ => ?_, fun h15_ => ?_⟩
    · refine sT_w ?_
      refine sblk (hv := false) kbl_X11_constant kbs_X11_constant (pc := 51) (pe := 53) (rk := 3) (i := 3) rfl (by decide +kernel) ?_
      simp only [kb_X11_constant_51, s_bi, s_nil, LR, IR, true_and, and_true, Nat.reduceAdd, Nat.reduceSub, eq_self]
      exact sT_w (n53 _ _ _ _ (by omega) (by assumption) (by omega) (by assumption) (by omega))
    exact sT_w (n53 _ _ _ _ (by omega) (by assumption) (by omega) (by assumption) (by omega))
  refine sblk (hv := false) kbl_X11_constant kbs_X11_constant (pc := 0) (pe := 20) (rk := 3) (i := 0) rfl (by decide +kernel) ?_
  simp only [kb_X11_constant_0, s_ald_0, s_ild_1, s_iv1, tfr_0, tfr_1, tfr_2, tfr_3, tfr_4, s_ild_2, s_bi, s_ic_eq, s_new, LR, IR, true_and, and_true, Nat.reduceAdd, Nat.reduceSub, eq_self]
  refine ⟨vok_of (s := 13) (by assumption) rfl, ?_⟩
  refine sc_xn (D := 0) (fun d' hd' => k_X11_checkShelf (by assumption) (by omega) hd') (by omega) rfl ?_ (fun s hs _ => Or.inr ⟨s, rfl, rfl, (fun h => Or.inr (Or.inr (h))) hs⟩)
  intro h21_
  try simp only [s_ild_2, s_bi, s_ic_eq, s_new, LR, IR, true_and, and_true, Nat.reduceAdd, Nat.reduceSub, eq_self]
  refine ⟨by omega, fun h24_ => ?_, fun h24_ => ?_⟩
  · exact sT_w (n27 (by omega))
  refine ⟨by omega, fun h27_ => ?_, fun h27_ => ?_⟩
  · exact sT_w (n27 (by omega))
  exact fun _ _ _ _ => Or.inr ⟨_, rfl, rfl, Or.inl (rfl)⟩
theorem k_X11_crossed {e : tE} {b : Nat} {d n : Nat} {r : Nat} {x1 : Int} {x2 : Int} {x3 : Int} {x4 : Int} (h0 : cl r 13) (h1 : (0 ≤ x1 ∧ x1 ≤ 7)) (h2 : (4 ≤ x2 ∧ x2 ≤ 9)) (h3 : (1 ≤ x3 ∧ x3 ≤ 6)) (h4 : (3 ≤ x4 ∧ x4 ≤ 9)) (he : EO e) (hb : b < 2) (hd : 8 ≤ d) : sC e b d 3351 [.inr (.inr (.inl r)), .inl x1, .inl x2, .inl x3, .inl x4] n (SQi n (fun z => (0 ≤ z ∧ z ≤ 2))) := by
  refine sK (fun M h => tst_X11_crossed h) (fun M0 => ?_)
  refine sblk (hv := false) kbl_X11_crossed kbs_X11_crossed (pc := 0) (pe := 51) (rk := 0) (i := 0) rfl (by decide +kernel) ?_
  simp only [kb_X11_crossed_0, s_ald_0, s_gf_13_4, s_gf_13_3, s_ild_1, s_iv1, tfr_0, tfr_1, tfr_2, tfr_3, tfr_4, s_ild_2, s_bi, s_lc0, s_ic, s_iv3, s_ist5, tkl_n, tkl_i, tkl_l, tkl_r, s_ild5, s_if_eq, s_ire, trg, LR, IR, true_and, and_true, Nat.reduceAdd, Nat.reduceSub, eq_self]
  refine ⟨by assumption, fun x2_ h2_ => ?_⟩
  refine ⟨by assumption, fun x4_ h4_ => ?_⟩
  refine ⟨vok_of (s := 11) (by assumption) rfl, ?_⟩
  refine sc_r (D := 1) (fun d' hd' => k_X9_box (by assumption) (by omega) hd') (by omega) ?_
  intro x6_ h6_
  try simp only [s_iv1, tfr_0, tfr_1, tfr_2, tfr_3, tfr_4, s_ald_0, s_gf_13_4, s_gf_13_3, s_ild_2, s_bi, s_lc0, s_ic, s_iv3, s_ist5, tkl_n, tkl_i, tkl_l, tkl_r, s_ild5, s_if_eq, s_ire, trg, LR, IR, true_and, and_true, Nat.reduceAdd, Nat.reduceSub, eq_self]
  refine ⟨vok_of (s := 8) (by assumption) rfl, ?_⟩
  refine sc_n (D := 2) (fun d' hd' => k_X6_push (by assumption) (by assumption) (by omega) hd') (by omega) ?_
  intro h7_
  try simp only [s_ald_0, s_gf_13_4, s_gf_13_3, s_ild_2, s_iv1, tfr_0, tfr_1, tfr_2, tfr_3, tfr_4, s_bi, s_lc0, s_ic, s_iv3, s_ist5, tkl_n, tkl_i, tkl_l, tkl_r, s_ild5, s_if_eq, s_ire, trg, LR, IR, true_and, and_true, Nat.reduceAdd, Nat.reduceSub, eq_self]
  refine ⟨by assumption, fun x9_ h9_ => ?_⟩
  refine ⟨by assumption, fun x11_ h11_ => ?_⟩
  refine ⟨vok_of (s := 11) (by assumption) rfl, ?_⟩
  refine sc_r (D := 1) (fun d' hd' => k_X9_box (by assumption) (by omega) hd') (by omega) ?_
  intro x13_ h13_
  try simp only [s_iv1, tfr_0, tfr_1, tfr_2, tfr_3, tfr_4, s_ald_0, s_gf_13_4, s_bi, s_lc0, s_ic, s_iv3, s_ist5, tkl_n, tkl_i, tkl_l, tkl_r, s_ild5, s_if_eq, s_ire, trg, LR, IR, true_and, and_true, Nat.reduceAdd, Nat.reduceSub, eq_self]
  refine ⟨vok_of (s := 8) (by assumption) rfl, ?_⟩
  refine sc_n (D := 2) (fun d' hd' => k_X6_push (by assumption) (by assumption) (by omega) hd') (by omega) ?_
  intro h14_
  try simp only [s_ald_0, s_gf_13_4, s_bi, s_lc0, s_ic, s_iv3, tfr_0, tfr_1, tfr_2, tfr_3, tfr_4, s_ist5, tkl_n, tkl_i, tkl_l, tkl_r, s_ild5, s_if_eq, s_ire, trg, LR, IR, true_and, and_true, Nat.reduceAdd, Nat.reduceSub, eq_self]
  refine ⟨by assumption, fun x16_ h16_ => ?_⟩
  refine ⟨vok_of (s := 8) (by assumption) rfl, ?_⟩
  refine sc_i (D := 7) (fun d' hd' => k_X6_make (by assumption) (by omega) (by omega) (by omega) (by omega) he (by omega) hd') (by omega) ?_
  intro x20_ h20_
  try simp only [s_ist5, tkl_n, tkl_i, tkl_l, tkl_r, s_ild5, s_if_eq, s_ire, trg, LR, IR, true_and, and_true, Nat.reduceAdd, Nat.reduceSub, eq_self]
  refine ⟨by omega, fun h23_ => ?_, fun h23_ => ?_⟩
  · refine sT_w ?_
    refine sblk (hv := false) kbl_X11_crossed kbs_X11_crossed (pc := 51) (pe := 103) (rk := 0) (i := 1) rfl (by decide +kernel) ?_
    simp only [kb_X11_crossed_51, s_ald_0, s_gf_13_4, s_gf_13_3, s_ild_3, s_iv1, tfr_0, tfr_1, tfr_2, tfr_3, tfr_4, s_ild4, s_bi, s_lc0, s_ic, s_iv3, s_ist5, tkl_n, tkl_i, tkl_l, tkl_r, s_ild5, s_if_eq, s_ire, trg, LR, IR, true_and, and_true, Nat.reduceAdd, Nat.reduceSub, eq_self]
    refine ⟨by assumption, fun x25_ h25_ => ?_⟩
    refine ⟨by assumption, fun x27_ h27_ => ?_⟩
    refine ⟨vok_of (s := 11) (by assumption) rfl, ?_⟩
    refine sc_r (D := 1) (fun d' hd' => k_X9_box (by assumption) (by omega) hd') (by omega) ?_
    intro x29_ h29_
    try simp only [s_iv1, tfr_0, tfr_1, tfr_2, tfr_3, tfr_4, s_ald_0, s_gf_13_4, s_gf_13_3, s_ild4, s_bi, s_lc0, s_ic, s_iv3, s_ist5, tkl_n, tkl_i, tkl_l, tkl_r, s_ild5, s_if_eq, s_ire, trg, LR, IR, true_and, and_true, Nat.reduceAdd, Nat.reduceSub, eq_self]
    refine ⟨vok_of (s := 8) (by assumption) rfl, ?_⟩
    refine sc_n (D := 2) (fun d' hd' => k_X6_push (by assumption) (by assumption) (by omega) hd') (by omega) ?_
    intro h30_
    try simp only [s_ald_0, s_gf_13_4, s_gf_13_3, s_ild4, s_iv1, tfr_0, tfr_1, tfr_2, tfr_3, tfr_4, s_bi, s_lc0, s_ic, s_iv3, s_ist5, tkl_n, tkl_i, tkl_l, tkl_r, s_ild5, s_if_eq, s_ire, trg, LR, IR, true_and, and_true, Nat.reduceAdd, Nat.reduceSub, eq_self]
    refine ⟨by assumption, fun x32_ h32_ => ?_⟩
    refine ⟨by assumption, fun x34_ h34_ => ?_⟩
    refine ⟨vok_of (s := 11) (by assumption) rfl, ?_⟩
    refine sc_r (D := 1) (fun d' hd' => k_X9_box (by assumption) (by omega) hd') (by omega) ?_
    intro x36_ h36_
    try simp only [s_iv1, tfr_0, tfr_1, tfr_2, tfr_3, tfr_4, s_ald_0, s_gf_13_4, s_bi, s_lc0, s_ic, s_iv3, s_ist5, tkl_n, tkl_i, tkl_l, tkl_r, s_ild5, s_if_eq, s_ire, trg, LR, IR, true_and, and_true, Nat.reduceAdd, Nat.reduceSub, eq_self]
    refine ⟨vok_of (s := 8) (by assumption) rfl, ?_⟩
    refine sc_n (D := 2) (fun d' hd' => k_X6_push (by assumption) (by assumption) (by omega) hd') (by omega) ?_
    intro h37_
    try simp only [s_ald_0, s_gf_13_4, s_bi, s_lc0, s_ic, s_iv3, tfr_0, tfr_1, tfr_2, tfr_3, tfr_4, s_ist5, tkl_n, tkl_i, tkl_l, tkl_r, s_ild5, s_if_eq, s_ire, trg, LR, IR, true_and, and_true, Nat.reduceAdd, Nat.reduceSub, eq_self]
    refine ⟨by assumption, fun x39_ h39_ => ?_⟩
    refine ⟨vok_of (s := 8) (by assumption) rfl, ?_⟩
    refine sc_i (D := 7) (fun d' hd' => k_X6_make (by assumption) (by omega) (by omega) (by omega) (by omega) he (by omega) hd') (by omega) ?_
    intro x43_ h43_
    try simp only [s_ist5, tkl_n, tkl_i, tkl_l, tkl_r, s_ild5, s_if_eq, s_ire, trg, LR, IR, true_and, and_true, Nat.reduceAdd, Nat.reduceSub, eq_self]
    refine ⟨by omega, fun h46_ => ?_, fun h46_ => ?_⟩
    · refine sT_w ?_
      refine sblk (hv := false) kbl_X11_crossed kbs_X11_crossed (pc := 103) (pe := 115) (rk := 0) (i := 2) rfl (by decide +kernel) ?_
      simp only [kb_X11_crossed_103, s_ald_0, s_gf_13_4, s_bi, s_lc0, s_ic, s_iv3, tfr_0, tfr_1, tfr_2, tfr_3, tfr_4, s_ire, trg, LR, IR, true_and, and_true, Nat.reduceAdd, Nat.reduceSub, eq_self]
      refine ⟨by assumption, fun x48_ h48_ => ?_⟩
      refine ⟨vok_of (s := 8) (by assumption) rfl, ?_⟩
      refine sc_i (D := 7) (fun d' hd' => k_X6_make (by assumption) (by omega) (by omega) (by omega) (by omega) he (by omega) hd') (by omega) ?_
      intro x52_ h52_
      try simp only [s_ire, trg, LR, IR, true_and, and_true, Nat.reduceAdd, Nat.reduceSub, eq_self]
      exact fun _ _ _ _ => ⟨_, rfl, rfl, by omega⟩
    exact fun _ _ _ _ => ⟨_, rfl, rfl, by omega⟩
  exact fun _ _ _ _ => ⟨_, rfl, rfl, by omega⟩
theorem k_X11_sideOf {e : tE} {b : Nat} {d n : Nat} {r : Nat} {x1 : Nat} {x2 : Nat} {x3 : Nat} (h0 : cl r 13) (h1 : cl x1 7) (h2 : cl x2 7) (h3 : cl x3 4) (he : EO e) (hb : b < 2) (hd : 9 ≤ d) : sC e b d 3387 [.inr (.inr (.inl r)), .inr (.inr (.inl x1)), .inr (.inr (.inl x2)), .inr (.inr (.inl x3))] n (SQi n (fun z => (-1 ≤ z ∧ z ≤ 1))) := by
  refine sK (fun M h => tst_X11_sideOf h) (fun M0 => ?_)
  refine sblk (hv := false) kbl_X11_sideOf kbs_X11_sideOf (pc := 0) (pe := 22) (rk := 0) (i := 0) rfl (by decide +kernel) ?_
  simp only [kb_X11_sideOf_0, s_ald_0, s_gf_13_4, s_ald_3, s_iv2, tfr_0, tfr_1, tfr_2, tfr_3, tfr_4, s_ald_1, s_iv1, s_if_eq, s_ic, s_ire, trg, LR, IR, true_and, and_true, Nat.reduceAdd, Nat.reduceSub, eq_self]
  refine ⟨by assumption, fun x2_ h2_ => ?_⟩
  refine ⟨vok_of (s := 8) (by assumption) rfl, ?_⟩
  refine sc_n (D := 0) (fun d' hd' => k_X6_aim (by assumption) (by assumption) (by assumption) (by omega) hd') (by omega) ?_
  intro h5_
  try simp only [s_ald_0, s_gf_13_4, s_ald_1, s_iv1, tfr_0, tfr_1, tfr_2, tfr_3, tfr_4, s_if_eq, s_ic, s_ire, trg, LR, IR, true_and, and_true, Nat.reduceAdd, Nat.reduceSub, eq_self]
  refine ⟨by assumption, fun x7_ h7_ => ?_⟩
  refine ⟨vok_of (s := 8) (by assumption) rfl, ?_⟩
  refine sc_i (D := 8) (fun d' hd' => k_X6_makeValue (by assumption) (by assumption) he (by omega) hd') (by omega) ?_
  intro x9_ h9_
  try simp only [s_if_eq, s_ic, s_ire, trg, LR, IR, true_and, and_true, Nat.reduceAdd, Nat.reduceSub, eq_self]
  refine ⟨by omega, fun h10_ => ?_, fun h10_ => ?_⟩
  · refine sT_w ?_
    refine sblk (hv := false) kbl_X11_sideOf kbs_X11_sideOf (pc := 22) (pe := 49) (rk := 0) (i := 1) rfl (by decide +kernel) ?_
    simp only [kb_X11_sideOf_22, s_ald_0, s_gf_13_11, s_gf_13_4, s_iv0, tfr_0, tfr_1, tfr_2, tfr_3, tfr_4, s_iv1, s_ald_2, s_if_eq, s_ic, s_ire, trg, LR, IR, true_and, and_true, Nat.reduceAdd, Nat.reduceSub, eq_self]
    refine ⟨by assumption, fun x12_ h12_ => ?_⟩
    refine ⟨by assumption, fun x14_ h14_ => ?_⟩
    refine ⟨vok_of (s := 8) (by assumption) rfl, ?_⟩
    refine sc_r (D := 1) (fun d' hd' => k_X6_result (by assumption) hd') (by omega) ?_
    intro x15_ h15_
    try simp only [s_iv1, tfr_0, tfr_1, tfr_2, tfr_3, tfr_4, s_ald_0, s_gf_13_4, s_ald_2, s_if_eq, s_ic, s_ire, trg, LR, IR, true_and, and_true, Nat.reduceAdd, Nat.reduceSub, eq_self]
    refine ⟨vok_of (s := 4) (by assumption) rfl, ?_⟩
    refine sc_n (D := 1) (fun d' hd' => k_X2_copy (by assumption) (by assumption) (by omega) hd') (by omega) ?_
    intro h16_
    try simp only [s_ald_0, s_gf_13_4, s_ald_2, s_iv1, tfr_0, tfr_1, tfr_2, tfr_3, tfr_4, s_if_eq, s_ic, s_ire, trg, LR, IR, true_and, and_true, Nat.reduceAdd, Nat.reduceSub, eq_self]
    refine ⟨by assumption, fun x18_ h18_ => ?_⟩
    refine ⟨vok_of (s := 8) (by assumption) rfl, ?_⟩
    refine sc_i (D := 8) (fun d' hd' => k_X6_makeValue (by assumption) (by assumption) he (by omega) hd') (by omega) ?_
    intro x20_ h20_
    try simp only [s_if_eq, s_ic, s_ire, trg, LR, IR, true_and, and_true, Nat.reduceAdd, Nat.reduceSub, eq_self]
    refine ⟨by omega, fun h21_ => ?_, fun h21_ => ?_⟩
    · refine sT_w ?_
      refine sblk (hv := false) kbl_X11_sideOf kbs_X11_sideOf (pc := 49) (pe := 74) (rk := 0) (i := 2) rfl (by decide +kernel) ?_
      simp only [kb_X11_sideOf_49, s_ald_0, s_gf_13_11, s_gf_4_1, s_gf_13_4, s_iv0, tfr_0, tfr_1, tfr_2, tfr_3, tfr_4, s_gf_4_0, s_iv1, s_if_eq, s_ic, s_ire, trg, LR, IR, true_and, and_true, Nat.reduceAdd, Nat.reduceSub, eq_self]
      refine ⟨by assumption, fun x23_ h23_ => ?_⟩
      refine ⟨by assumption, fun x24_ h24_ => ?_⟩
      refine ⟨by assumption, fun x26_ h26_ => ?_⟩
      refine ⟨vok_of (s := 8) (by assumption) rfl, ?_⟩
      refine sc_r (D := 1) (fun d' hd' => k_X6_result (by assumption) hd') (by omega) ?_
      intro x27_ h27_
      try simp only [s_gf_4_0, s_iv1, tfr_0, tfr_1, tfr_2, tfr_3, tfr_4, s_if_eq, s_ic, s_ire, trg, LR, IR, true_and, and_true, Nat.reduceAdd, Nat.reduceSub, eq_self]
      refine ⟨by assumption, fun x28_ h28_ => ?_⟩
      refine ⟨vok_of (s := 3) (by assumption) rfl, ?_⟩
      refine sc_i (D := 0) (fun d' hd' => k_X1_isBelow (by assumption) (by assumption) hd') (by omega) ?_
      intro x29_ h29_
      try simp only [s_if_eq, s_ic, s_ire, trg, LR, IR, true_and, and_true, Nat.reduceAdd, Nat.reduceSub, eq_self]
      refine ⟨by omega, fun h30_ => ?_, fun h30_ => ?_⟩
      · have n102 : ∀ (is0_102 : Int), (0 ≤ is0_102 ∧ is0_102 ≤ 1) → sT e b M0 d 3387 102 [] [some (.inr (.inr (.inl r))), some (.inr (.inr (.inl x1))), some (.inr (.inr (.inl x2))), some (.inr (.inr (.inl x3)))] [.inl is0_102] n (fun r n' _ => (SQi n (fun z => (-1 ≤ z ∧ z ≤ 1))) r n') := by
          intro is0_102 y102_0
          refine sblk (hv := false) kbl_X11_sideOf kbs_X11_sideOf (pc := 102) (pe := 103) (rk := 0) (i := 5) rfl (by decide +kernel) ?_
          simp only [kb_X11_sideOf_102, s_ire, trg, LR, IR, true_and, and_true, Nat.reduceAdd, Nat.reduceSub, eq_self]
          exact fun _ _ _ _ => ⟨_, rfl, rfl, by omega⟩
        refine sT_w ?_
        refine sblk (hv := false) kbl_X11_sideOf kbs_X11_sideOf (pc := 74) (pe := 101) (rk := 0) (i := 3) rfl (by decide +kernel) ?_
        simp only [kb_X11_sideOf_74, s_ald_0, s_gf_13_4, s_iv0, tfr_0, tfr_1, tfr_2, tfr_3, tfr_4, s_gf_4_1, s_gf_13_11, s_gf_4_0, s_iv1, s_if_eq, s_ic, s_goto, LR, IR, true_and, and_true, Nat.reduceAdd, Nat.reduceSub, eq_self]
        refine ⟨by assumption, fun x33_ h33_ => ?_⟩
        refine ⟨vok_of (s := 8) (by assumption) rfl, ?_⟩
        refine sc_r (D := 1) (fun d' hd' => k_X6_result (by assumption) hd') (by omega) ?_
        intro x34_ h34_
        try simp only [s_gf_4_1, s_ald_0, s_gf_13_11, s_gf_4_0, s_iv1, tfr_0, tfr_1, tfr_2, tfr_3, tfr_4, s_if_eq, s_ic, s_goto, LR, IR, true_and, and_true, Nat.reduceAdd, Nat.reduceSub, eq_self]
        refine ⟨by assumption, fun x35_ h35_ => ?_⟩
        refine ⟨by assumption, fun x37_ h37_ => ?_⟩
        refine ⟨by assumption, fun x38_ h38_ => ?_⟩
        refine ⟨vok_of (s := 3) (by assumption) rfl, ?_⟩
        refine sc_i (D := 0) (fun d' hd' => k_X1_isBelow (by assumption) (by assumption) hd') (by omega) ?_
        intro x39_ h39_
        try simp only [s_if_eq, s_ic, s_goto, LR, IR, true_and, and_true, Nat.reduceAdd, Nat.reduceSub, eq_self]
        refine ⟨by omega, fun h40_ => ?_, fun h40_ => ?_⟩
        · refine sT_w ?_
          refine sblk (hv := false) kbl_X11_sideOf kbs_X11_sideOf (pc := 101) (pe := 102) (rk := 0) (i := 4) rfl (by decide +kernel) ?_
          simp only [kb_X11_sideOf_101, s_ic, s_nil, LR, IR, true_and, and_true, Nat.reduceAdd, Nat.reduceSub, eq_self]
          exact sT_w (n102 _ (by omega))
        exact sT_w (n102 _ (by omega))
      exact fun _ _ _ _ => ⟨_, rfl, rfl, by omega⟩
    exact fun _ _ _ _ => ⟨_, rfl, rfl, by omega⟩
  exact fun _ _ _ _ => ⟨_, rfl, rfl, by omega⟩
theorem k_X11_divide {e : tE} {b : Nat} {d n : Nat} {r : Nat} {x1 : Int} {x2 : Int} {x3 : Int} (h0 : cl r 13) (h1 : (-2147483648 ≤ x1 ∧ x1 ≤ 2147483647)) (h2 : (-2147483648 ≤ x2 ∧ x2 ≤ 2147483647)) (h3 : (-2147483648 ≤ x3 ∧ x3 ≤ 2147483647)) (he : EO e) (hb : b < 2) (hd : 9 ≤ d) : sC e b d 3355 [.inr (.inr (.inl r)), .inl x1, .inl x2, .inl x3] n (SQx n (SQi n (fun z => (0 ≤ z ∧ z ≤ 1))) (fun s => s = "java/lang/ArithmeticException" ∨ s = "java/lang/IllegalStateException" ∨ s = "java/lang/IndexOutOfBoundsException" ∨ s = "java/util/NoSuchElementException")) := by
  refine sK (fun M h => tst_X11_divide h) (fun M0 => ?_)
  refine sblk (hv := false) kbl_X11_divide kbs_X11_divide (pc := 0) (pe := 10) (rk := 3) (i := 0) rfl (by decide +kernel) ?_
  simp only [kb_X11_divide_0, s_ald_0, s_ild_1, s_ild_2, s_ild_3, s_bi, s_iv4, tfr_0, tfr_1, tfr_2, tfr_3, tfr_4, s_ire, trg, LR, IR, true_and, and_true, Nat.reduceAdd, Nat.reduceSub, eq_self]
  refine ⟨vok_of (s := 13) (by assumption) rfl, ?_⟩
  refine sc_xi (D := 8) (fun d' hd' => k_X11_combine (by assumption) (by omega) (by omega) (by omega) (by omega) (by omega) he (by omega) hd') (by omega) rfl ?_ (fun s hs _ => Or.inr ⟨s, rfl, rfl, (fun h => h.elim (fun h => Or.inl (h.2)) (fun h => h.elim (fun h => Or.inr (Or.inl (h))) (fun h => h.elim (fun h => Or.inr (Or.inr (Or.inl (h)))) (fun h => Or.inr (Or.inr (Or.inr (h))))))) hs⟩)
  intro x6_ h6_
  try simp only [s_ire, trg, LR, IR, true_and, and_true, Nat.reduceAdd, Nat.reduceSub, eq_self]
  exact ⟨by omega, fun _ _ _ _ => Or.inl ⟨_, rfl, rfl, by omega⟩⟩
theorem k_X11_seekExtreme {e : tE} {b : Nat} {d n : Nat} {r : Nat} {x1 : Nat} {x2 : Nat} {x3 : Int} {x4 : Int} (h0 : cl r 13) (h1 : cl x1 7) (h2 : cl x2 4) (h3 : (-2147483648 ≤ x3 ∧ x3 ≤ 2147483647)) (h4 : (0 ≤ x4 ∧ x4 ≤ 1)) (he : EO e) (hb : b < 2) (hd : 9 ≤ d) : sC e b d 3385 [.inr (.inr (.inl r)), .inr (.inr (.inl x1)), .inr (.inr (.inl x2)), .inl x3, .inl x4] n (SQi n (fun z => (0 ≤ z ∧ z ≤ 2))) := by
  refine sK (fun M h => tst_X11_seekExtreme h) (fun M0 => ?_)
  have n19 : ∀ (fu : Nat) (i5_19 : Int) (w6_19 : Option tV), 8 - i5_19 + 1 ≤ (fu : Int) → (0 ≤ x4 ∧ x4 ≤ 1) → (0 ≤ i5_19 ∧ i5_19 ≤ 8) → sT e b M0 d 3385 19 [] [some (.inr (.inr (.inl r))), some (.inr (.inr (.inl x1))), some (.inr (.inr (.inl x2))), some (.inl x3), some (.inl x4), some (.inl i5_19), w6_19] [] n (fun r n' _ => (SQi n (fun z => (0 ≤ z ∧ z ≤ 2))) r n') := by
    intro fu
    induction fu with
    | zero =>
      intro i5_19 w6_19 hm y19_0 y19_1
      exfalso; omega
    | succ fu ih =>
      intro i5_19 w6_19 hm y19_0 y19_1
      have ih19 := ih
      clear ih
      refine sblk (hv := false) kbl_X11_seekExtreme kbs_X11_seekExtreme (pc := 19) (pe := 74) (rk := 0) (i := 1) rfl (by decide +kernel) ?_
      simp only [kb_X11_seekExtreme_19, s_ild5, s_ald_0, s_gf_13_9, s_gf_9_3, s_ic_ge, s_gf_13_4, s_iv1, tfr_0, tfr_1, tfr_2, tfr_3, tfr_4, s_iv2, s_ald_1, s_ist6, tkl_n, tkl_i, tkl_l, tkl_r, s_ild6, s_if_eq, s_ire, trg, LR, IR, true_and, and_true, Nat.reduceAdd, Nat.reduceSub, eq_self]
      refine ⟨by assumption, fun x3_ h3_ => ?_⟩
      refine ⟨by assumption, fun x4_ h4_ g4_ k4_ => ?_⟩
      clear k4_
      refine ⟨by omega, fun h5_ => ?_, fun h5_ => ?_⟩
      · refine sT_w ?_
        refine sblk (hv := false) kbl_X11_seekExtreme kbs_X11_seekExtreme (pc := 178) (pe := 180) (rk := 0) (i := 6) rfl (by decide +kernel) ?_
        simp only [kb_X11_seekExtreme_178, s_ic, s_ire, trg, LR, IR, true_and, and_true, Nat.reduceAdd, Nat.reduceSub, eq_self]
        exact fun _ _ _ _ => ⟨_, rfl, rfl, by omega⟩
      refine ⟨by assumption, fun x9_ h9_ => ?_⟩
      refine ⟨by assumption, fun x11_ h11_ => ?_⟩
      refine ⟨vok_of (s := 9) (by assumption) rfl, ?_⟩
      refine sc_r (D := 1) (fun d' hd' => k_X7_box (by assumption) (by omega) hd') (by omega) ?_
      intro x13_ h13_
      try simp only [s_ald_0, s_gf_13_9, s_ild5, s_iv1, tfr_0, tfr_1, tfr_2, tfr_3, tfr_4, s_iv2, s_gf_13_4, s_ald_1, s_ist6, tkl_n, tkl_i, tkl_l, tkl_r, s_ild6, s_if_eq, s_ire, trg, LR, IR, true_and, and_true, Nat.reduceAdd, Nat.reduceSub, eq_self]
      refine ⟨by assumption, fun x15_ h15_ => ?_⟩
      refine ⟨vok_of (s := 9) (by assumption) rfl, ?_⟩
      refine sc_r (D := 1) (fun d' hd' => k_X7_box (by assumption) (by omega) hd') (by omega) ?_
      intro x17_ h17_
      try simp only [s_iv2, tfr_0, tfr_1, tfr_2, tfr_3, tfr_4, s_ald_0, s_gf_13_4, s_ald_1, s_iv1, s_ist6, tkl_n, tkl_i, tkl_l, tkl_r, s_ild6, s_if_eq, s_ire, trg, LR, IR, true_and, and_true, Nat.reduceAdd, Nat.reduceSub, eq_self]
      refine ⟨vok_of (s := 8) (by assumption) rfl, ?_⟩
      refine sc_n (D := 0) (fun d' hd' => k_X6_aim (by assumption) (by assumption) (by assumption) (by omega) hd') (by omega) ?_
      intro h18_
      try simp only [s_ald_0, s_gf_13_4, s_ald_1, s_iv1, tfr_0, tfr_1, tfr_2, tfr_3, tfr_4, s_ist6, tkl_n, tkl_i, tkl_l, tkl_r, s_ild6, s_if_eq, s_ire, trg, LR, IR, true_and, and_true, Nat.reduceAdd, Nat.reduceSub, eq_self]
      refine ⟨by assumption, fun x20_ h20_ => ?_⟩
      refine ⟨vok_of (s := 8) (by assumption) rfl, ?_⟩
      refine sc_i (D := 8) (fun d' hd' => k_X6_makeValue (by assumption) (by assumption) he (by omega) hd') (by omega) ?_
      intro x22_ h22_
      try simp only [s_ist6, tkl_n, tkl_i, tkl_l, tkl_r, s_ild6, s_if_eq, s_ire, trg, LR, IR, true_and, and_true, Nat.reduceAdd, Nat.reduceSub, eq_self]
      refine ⟨by omega, fun h25_ => ?_, fun h25_ => ?_⟩
      · refine sT_w ?_
        refine sblk (hv := false) kbl_X11_seekExtreme kbs_X11_seekExtreme (pc := 74) (pe := 145) (rk := 0) (i := 2) rfl (by decide +kernel) ?_
        simp only [kb_X11_seekExtreme_74, s_ald_0, s_gf_13_12, s_gf_13_4, s_iv0, tfr_0, tfr_1, tfr_2, tfr_3, tfr_4, s_iv1, s_gf_13_13, s_gf_13_9, s_ild5, s_iv2, s_popi, s_popr, s_ald_1, s_ist6, tkl_n, tkl_i, tkl_l, tkl_r, s_ild6, s_if_eq, s_ire, trg, LR, IR, true_and, and_true, Nat.reduceAdd, Nat.reduceSub, eq_self]
        refine ⟨by assumption, fun x27_ h27_ => ?_⟩
        refine ⟨by assumption, fun x29_ h29_ => ?_⟩
        refine ⟨vok_of (s := 8) (by assumption) rfl, ?_⟩
        refine sc_r (D := 1) (fun d' hd' => k_X6_result (by assumption) hd') (by omega) ?_
        intro x30_ h30_
        try simp only [s_iv1, tfr_0, tfr_1, tfr_2, tfr_3, tfr_4, s_ald_0, s_gf_13_13, s_gf_13_9, s_ild5, s_gf_13_4, s_iv0, s_iv2, s_popi, s_popr, s_ald_1, s_ist6, tkl_n, tkl_i, tkl_l, tkl_r, s_ild6, s_if_eq, s_ire, trg, LR, IR, true_and, and_true, Nat.reduceAdd, Nat.reduceSub, eq_self]
        refine ⟨vok_of (s := 4) (by assumption) rfl, ?_⟩
        refine sc_n (D := 1) (fun d' hd' => k_X2_copy (by assumption) (by assumption) (by omega) hd') (by omega) ?_
        intro h31_
        try simp only [s_ald_0, s_gf_13_13, s_gf_13_9, s_ild5, s_iv1, tfr_0, tfr_1, tfr_2, tfr_3, tfr_4, s_gf_13_4, s_iv0, s_iv2, s_popi, s_popr, s_ald_1, s_ist6, tkl_n, tkl_i, tkl_l, tkl_r, s_ild6, s_if_eq, s_ire, trg, LR, IR, true_and, and_true, Nat.reduceAdd, Nat.reduceSub, eq_self]
        refine ⟨by assumption, fun x33_ h33_ => ?_⟩
        refine ⟨by assumption, fun x35_ h35_ => ?_⟩
        refine ⟨vok_of (s := 9) (by assumption) rfl, ?_⟩
        refine sc_r (D := 1) (fun d' hd' => k_X7_box (by assumption) (by omega) hd') (by omega) ?_
        intro x37_ h37_
        try simp only [s_ald_0, s_gf_13_4, s_iv0, tfr_0, tfr_1, tfr_2, tfr_3, tfr_4, s_iv2, s_popi, s_popr, s_gf_13_13, s_ald_1, s_iv1, s_ist6, tkl_n, tkl_i, tkl_l, tkl_r, s_ild6, s_if_eq, s_ire, trg, LR, IR, true_and, and_true, Nat.reduceAdd, Nat.reduceSub, eq_self]
        refine ⟨by assumption, fun x39_ h39_ => ?_⟩
        refine ⟨vok_of (s := 8) (by assumption) rfl, ?_⟩
        refine sc_l (D := 0) (fun d' hd' => k_X6_unit (by assumption) hd') (by omega) ?_
        intro x40_ h40_
        try simp only [s_iv2, tfr_0, tfr_1, tfr_2, tfr_3, tfr_4, s_popi, s_popr, s_ald_0, s_gf_13_4, s_gf_13_13, s_ald_1, s_iv1, s_ist6, tkl_n, tkl_i, tkl_l, tkl_r, s_ild6, s_if_eq, s_ire, trg, LR, IR, true_and, and_true, Nat.reduceAdd, Nat.reduceSub, eq_self]
        refine ⟨vok_of (s := 4) (by assumption) rfl, ?_⟩
        refine sc_i (D := 2) (fun d' hd' => k_X2_toMiddle (by assumption) (by assumption) (by omega) (by omega) hd') (by omega) ?_
        intro x41_ h41_
        try simp only [s_popi, s_popr, s_ald_0, s_gf_13_4, s_gf_13_13, s_iv2, tfr_0, tfr_1, tfr_2, tfr_3, tfr_4, s_ald_1, s_iv1, s_ist6, tkl_n, tkl_i, tkl_l, tkl_r, s_ild6, s_if_eq, s_ire, trg, LR, IR, true_and, and_true, Nat.reduceAdd, Nat.reduceSub, eq_self]
        refine ⟨by assumption, fun x44_ h44_ => ?_⟩
        refine ⟨by assumption, fun x46_ h46_ => ?_⟩
        refine ⟨by assumption, fun x48_ h48_ => ?_⟩
        refine ⟨vok_of (s := 8) (by assumption) rfl, ?_⟩
        refine sc_n (D := 0) (fun d' hd' => k_X6_aim (by assumption) (by assumption) (by assumption) (by omega) hd') (by omega) ?_
        intro h49_
        try simp only [s_ald_0, s_gf_13_4, s_ald_1, s_iv1, tfr_0, tfr_1, tfr_2, tfr_3, tfr_4, s_ist6, tkl_n, tkl_i, tkl_l, tkl_r, s_ild6, s_if_eq, s_ire, trg, LR, IR, true_and, and_true, Nat.reduceAdd, Nat.reduceSub, eq_self]
        refine ⟨by assumption, fun x51_ h51_ => ?_⟩
        refine ⟨vok_of (s := 8) (by assumption) rfl, ?_⟩
        refine sc_i (D := 8) (fun d' hd' => k_X6_makeValue (by assumption) (by assumption) he (by omega) hd') (by omega) ?_
        intro x53_ h53_
        try simp only [s_ist6, tkl_n, tkl_i, tkl_l, tkl_r, s_ild6, s_if_eq, s_ire, trg, LR, IR, true_and, and_true, Nat.reduceAdd, Nat.reduceSub, eq_self]
        refine ⟨by omega, fun h56_ => ?_, fun h56_ => ?_⟩
        · have n167 : ∀ (i6_167 : Int) (is0_167 : Int) (qs1_167 : Nat) (qs2_167 : Nat) (qs3_167 : Nat), (0 ≤ i5_19 ∧ i5_19 ≤ 7) → (0 ≤ i6_167 ∧ i6_167 ≤ 0) → (0 ≤ is0_167 ∧ is0_167 ≤ 1) → cl qs1_167 4 → cl qs2_167 4 → cl qs3_167 13 → sT e b M0 d 3385 167 [] [some (.inr (.inr (.inl r))), some (.inr (.inr (.inl x1))), some (.inr (.inr (.inl x2))), some (.inl x3), some (.inl x4), some (.inl i5_19), some (.inl i6_167)] [.inl is0_167, .inr (.inr (.inl qs1_167)), .inr (.inr (.inl qs2_167)), .inr (.inr (.inl qs3_167))] n (fun r n' _ => (SQi n (fun z => (0 ≤ z ∧ z ≤ 2))) r n') := by
            intro i6_167 is0_167 qs1_167 qs2_167 qs3_167 y167_0 y167_1 y167_2 y167_3 y167_4 y167_5
            refine sblk (hv := false) kbl_X11_seekExtreme kbs_X11_seekExtreme (pc := 167) (pe := 178) (rk := 0) (i := 5) rfl (by decide +kernel) ?_
            simp only [kb_X11_seekExtreme_167, s_ild4, s_iv4, tfr_0, tfr_1, tfr_2, tfr_3, tfr_4, s_inc5, tkl_n, tkl_i, tkl_l, tkl_r, s_goto, LR, IR, true_and, and_true, Nat.reduceAdd, Nat.reduceSub, eq_self]
            refine ⟨vok_of (s := 13) (by assumption) rfl, ?_⟩
            refine sc_n (D := 1) (fun d' hd' => k_X11_takeExtreme (by assumption) (by assumption) (by assumption) (by omega) (by omega) (by omega) hd') (by omega) ?_
            intro h58_
            try simp only [s_inc5, tkl_n, tkl_i, tkl_l, tkl_r, s_goto, LR, IR, true_and, and_true, Nat.reduceAdd, Nat.reduceSub, eq_self]
            exact sT_w (ih19 _ _ (by omega) (by omega) (by omega))
          refine sT_w ?_
          refine sblk (hv := false) kbl_X11_seekExtreme kbs_X11_seekExtreme (pc := 145) (pe := 166) (rk := 0) (i := 3) rfl (by decide +kernel) ?_
          simp only [kb_X11_seekExtreme_145, s_ald_0, s_gf_13_12, s_gf_13_4, s_iv0, tfr_0, tfr_1, tfr_2, tfr_3, tfr_4, s_ild5, s_if_ne, s_ic, s_goto, LR, IR, true_and, and_true, Nat.reduceAdd, Nat.reduceSub, eq_self]
          refine ⟨by assumption, fun x63_ h63_ => ?_⟩
          refine ⟨by assumption, fun x65_ h65_ => ?_⟩
          refine ⟨vok_of (s := 8) (by assumption) rfl, ?_⟩
          refine sc_r (D := 1) (fun d' hd' => k_X6_result (by assumption) hd') (by omega) ?_
          intro x66_ h66_
          try simp only [s_ild5, s_if_ne, s_ic, s_goto, LR, IR, true_and, and_true, Nat.reduceAdd, Nat.reduceSub, eq_self]
          refine ⟨by omega, fun h68_ => ?_, fun h68_ => ?_⟩
          · refine sT_w ?_
            refine sblk (hv := false) kbl_X11_seekExtreme kbs_X11_seekExtreme (pc := 166) (pe := 167) (rk := 0) (i := 4) rfl (by decide +kernel) ?_
            simp only [kb_X11_seekExtreme_166, s_ic, s_nil, LR, IR, true_and, and_true, Nat.reduceAdd, Nat.reduceSub, eq_self]
            exact sT_w (n167 _ _ _ _ _ (by omega) (by omega) (by omega) (by assumption) (by assumption) (by assumption))
          exact sT_w (n167 _ _ _ _ _ (by omega) (by omega) (by omega) (by assumption) (by assumption) (by assumption))
        exact fun _ _ _ _ => ⟨_, rfl, rfl, by omega⟩
      exact fun _ _ _ _ => ⟨_, rfl, rfl, by omega⟩
  refine sblk (hv := false) kbl_X11_seekExtreme kbs_X11_seekExtreme (pc := 0) (pe := 19) (rk := 0) (i := 0) rfl (by decide +kernel) ?_
  simp only [kb_X11_seekExtreme_0, s_ald_0, s_gf_13_9, s_ald_2, s_ild_3, s_gf_13_4, s_iv0, tfr_0, tfr_1, tfr_2, tfr_3, tfr_4, s_iv3, s_ic, s_ist5, tkl_n, tkl_i, tkl_l, tkl_r, s_nil, LR, IR, true_and, and_true, Nat.reduceAdd, Nat.reduceSub, eq_self]
  refine ⟨by assumption, fun x77_ h77_ => ?_⟩
  refine ⟨by assumption, fun x81_ h81_ => ?_⟩
  refine ⟨vok_of (s := 8) (by assumption) rfl, ?_⟩
  refine sc_l (D := 0) (fun d' hd' => k_X6_unit (by assumption) hd') (by omega) ?_
  intro x82_ h82_
  try simp only [s_iv3, tfr_0, tfr_1, tfr_2, tfr_3, tfr_4, s_ic, s_ist5, tkl_n, tkl_i, tkl_l, tkl_r, s_nil, LR, IR, true_and, and_true, Nat.reduceAdd, Nat.reduceSub, eq_self]
  refine ⟨vok_of (s := 9) (by assumption) rfl, ?_⟩
  refine sc_n (D := 3) (fun d' hd' => k_X7_cut (by assumption) (by assumption) (by omega) (by omega) (by omega) hd') (by omega) ?_
  intro h83_
  try simp only [s_ic, s_ist5, tkl_n, tkl_i, tkl_l, tkl_r, s_nil, LR, IR, true_and, and_true, Nat.reduceAdd, Nat.reduceSub, eq_self]
  exact sT_w (n19 4294967400 _ _ (by omega) (by omega) (by omega))
theorem k_X11_greatest {e : tE} {b : Nat} {d n : Nat} {r : Nat} {x1 : Int} {x2 : Int} {x3 : Int} {x4 : Int} (h0 : cl r 13) (h1 : (-2147483648 ≤ x1 ∧ x1 ≤ 2147483647)) (h2 : (-2147483648 ≤ x2 ∧ x2 ≤ 2147483647)) (h3 : (-2147483648 ≤ x3 ∧ x3 ≤ 2147483647)) (h4 : (-2147483648 ≤ x4 ∧ x4 ≤ 2147483647)) (he : EO e) (hb : b < 2) (hd : 10 ≤ d) : sC e b d 3358 [.inr (.inr (.inl r)), .inl x1, .inl x2, .inl x3, .inl x4] n (SQx n (SQi n (fun z => (0 ≤ z ∧ z ≤ 1))) (fun s => s = "java/lang/ArithmeticException" ∨ s = "java/lang/IllegalArgumentException" ∨ s = "java/lang/IllegalStateException" ∨ s = "java/lang/IndexOutOfBoundsException" ∨ s = "java/lang/UnsupportedOperationException" ∨ s = "java/util/NoSuchElementException")) := by
  refine sK (fun M h => tst_X11_greatest h) (fun M0 => ?_)
  refine sblk (hv := false) kbl_X11_greatest kbs_X11_greatest (pc := 0) (pe := 44) (rk := 3) (i := 0) rfl (by decide +kernel) ?_
  simp only [kb_X11_greatest_0, s_ald_0, s_ild_1, s_ild_2, s_ild_3, s_ild4, s_iv4, tfr_0, tfr_1, tfr_2, tfr_3, tfr_4, s_gf_13_5, s_aa, s_gf_13_3, s_iv1, s_ic, s_gf_13_11, s_iv2, s_ire, trg, LR, IR, true_and, and_true, Nat.reduceAdd, Nat.reduceSub, eq_self]
  refine ⟨vok_of (s := 13) (by assumption) rfl, ?_⟩
  refine sc_xn (D := 3) (fun d' hd' => k_X11_checkBoundsCall (by assumption) (by omega) (by omega) (by omega) (by omega) hd') (by omega) rfl ?_ (fun s hs _ => Or.inr ⟨s, rfl, rfl, (fun h => h.elim (fun h => Or.inr (Or.inl (h))) (fun h => h.elim (fun h => Or.inr (Or.inr (Or.inr (Or.inl (h))))) (fun h => h.elim (fun h => Or.inr (Or.inr (Or.inr (Or.inr (Or.inl (h)))))) (fun h => Or.inr (Or.inr (Or.inr (Or.inr (Or.inr (h))))))))) hs⟩)
  intro h6_
  try simp only [s_ald_0, s_gf_13_5, s_ild_2, s_aa, s_gf_13_3, s_ild_3, s_iv1, tfr_0, tfr_1, tfr_2, tfr_3, tfr_4, s_ild4, s_ic, s_iv4, s_ild_1, s_gf_13_11, s_iv2, s_ire, trg, LR, IR, true_and, and_true, Nat.reduceAdd, Nat.reduceSub, eq_self]
  refine ⟨by assumption, fun x10_ h10_ => ?_⟩
  refine Or.inr ⟨aok_27 (by assumption) (by omega), fun x12_ h12_ => ?_⟩
  refine ⟨by assumption, fun x14_ h14_ => ?_⟩
  refine ⟨vok_of (s := 11) (by assumption) rfl, ?_⟩
  refine sc_r (D := 1) (fun d' hd' => k_X9_box (by assumption) (by omega) hd') (by omega) ?_
  intro x16_ h16_
  try simp only [s_ild4, s_ic, s_iv4, tfr_0, tfr_1, tfr_2, tfr_3, tfr_4, s_iv1, s_ald_0, s_ild_1, s_gf_13_11, s_iv2, s_ire, trg, LR, IR, true_and, and_true, Nat.reduceAdd, Nat.reduceSub, eq_self]
  refine ⟨vok_of (s := 13) (by assumption) rfl, ?_⟩
  refine sc_i (D := 9) (fun d' hd' => k_X11_seekExtreme (by assumption) (by assumption) (by assumption) (by omega) (by omega) he (by omega) hd') (by omega) ?_
  intro x19_ h19_
  try simp only [s_iv1, tfr_0, tfr_1, tfr_2, tfr_3, tfr_4, s_ald_0, s_ild_1, s_gf_13_11, s_iv2, s_ire, trg, LR, IR, true_and, and_true, Nat.reduceAdd, Nat.reduceSub, eq_self]
  refine ⟨vok_of (s := 13) (by assumption) rfl, ?_⟩
  refine sc_xn (D := 0) (fun d' hd' => k_X11_checkStatus (by assumption) (by omega) hd') (by omega) rfl ?_ (fun s hs _ => Or.inr ⟨s, rfl, rfl, (fun h => h.elim (fun h => Or.inl (h.2)) (fun h => Or.inr (Or.inr (Or.inl (h.2))))) hs⟩)
  intro h20_
  try simp only [s_ald_0, s_ild_1, s_gf_13_11, s_iv2, tfr_0, tfr_1, tfr_2, tfr_3, tfr_4, s_ire, trg, LR, IR, true_and, and_true, Nat.reduceAdd, Nat.reduceSub, eq_self]
  refine ⟨by assumption, fun x24_ h24_ => ?_⟩
  refine ⟨vok_of (s := 13) (by assumption) rfl, ?_⟩
  refine sc_i (D := 3) (fun d' hd' => k_X11_fill (by assumption) (by omega) (by assumption) (by omega) hd') (by omega) ?_
  intro x25_ h25_
  try simp only [s_ire, trg, LR, IR, true_and, and_true, Nat.reduceAdd, Nat.reduceSub, eq_self]
  exact ⟨by omega, fun _ _ _ _ => Or.inl ⟨_, rfl, rfl, by omega⟩⟩
theorem k_X11_least {e : tE} {b : Nat} {d n : Nat} {r : Nat} {x1 : Int} {x2 : Int} {x3 : Int} {x4 : Int} (h0 : cl r 13) (h1 : (-2147483648 ≤ x1 ∧ x1 ≤ 2147483647)) (h2 : (-2147483648 ≤ x2 ∧ x2 ≤ 2147483647)) (h3 : (-2147483648 ≤ x3 ∧ x3 ≤ 2147483647)) (h4 : (-2147483648 ≤ x4 ∧ x4 ≤ 2147483647)) (he : EO e) (hb : b < 2) (hd : 10 ≤ d) : sC e b d 3369 [.inr (.inr (.inl r)), .inl x1, .inl x2, .inl x3, .inl x4] n (SQx n (SQi n (fun z => (0 ≤ z ∧ z ≤ 1))) (fun s => s = "java/lang/ArithmeticException" ∨ s = "java/lang/IllegalArgumentException" ∨ s = "java/lang/IllegalStateException" ∨ s = "java/lang/IndexOutOfBoundsException" ∨ s = "java/lang/UnsupportedOperationException" ∨ s = "java/util/NoSuchElementException")) := by
  refine sK (fun M h => tst_X11_least h) (fun M0 => ?_)
  refine sblk (hv := false) kbl_X11_least kbs_X11_least (pc := 0) (pe := 44) (rk := 3) (i := 0) rfl (by decide +kernel) ?_
  simp only [kb_X11_least_0, s_ald_0, s_ild_1, s_ild_2, s_ild_3, s_ild4, s_iv4, tfr_0, tfr_1, tfr_2, tfr_3, tfr_4, s_gf_13_5, s_aa, s_gf_13_3, s_iv1, s_ic, s_gf_13_11, s_iv2, s_ire, trg, LR, IR, true_and, and_true, Nat.reduceAdd, Nat.reduceSub, eq_self]
  refine ⟨vok_of (s := 13) (by assumption) rfl, ?_⟩
  refine sc_xn (D := 3) (fun d' hd' => k_X11_checkBoundsCall (by assumption) (by omega) (by omega) (by omega) (by omega) hd') (by omega) rfl ?_ (fun s hs _ => Or.inr ⟨s, rfl, rfl, (fun h => h.elim (fun h => Or.inr (Or.inl (h))) (fun h => h.elim (fun h => Or.inr (Or.inr (Or.inr (Or.inl (h))))) (fun h => h.elim (fun h => Or.inr (Or.inr (Or.inr (Or.inr (Or.inl (h)))))) (fun h => Or.inr (Or.inr (Or.inr (Or.inr (Or.inr (h))))))))) hs⟩)
  intro h6_
  try simp only [s_ald_0, s_gf_13_5, s_ild_2, s_aa, s_gf_13_3, s_ild_3, s_iv1, tfr_0, tfr_1, tfr_2, tfr_3, tfr_4, s_ild4, s_ic, s_iv4, s_ild_1, s_gf_13_11, s_iv2, s_ire, trg, LR, IR, true_and, and_true, Nat.reduceAdd, Nat.reduceSub, eq_self]
  refine ⟨by assumption, fun x10_ h10_ => ?_⟩
  refine Or.inr ⟨aok_27 (by assumption) (by omega), fun x12_ h12_ => ?_⟩
  refine ⟨by assumption, fun x14_ h14_ => ?_⟩
  refine ⟨vok_of (s := 11) (by assumption) rfl, ?_⟩
  refine sc_r (D := 1) (fun d' hd' => k_X9_box (by assumption) (by omega) hd') (by omega) ?_
  intro x16_ h16_
  try simp only [s_ild4, s_ic, s_iv4, tfr_0, tfr_1, tfr_2, tfr_3, tfr_4, s_iv1, s_ald_0, s_ild_1, s_gf_13_11, s_iv2, s_ire, trg, LR, IR, true_and, and_true, Nat.reduceAdd, Nat.reduceSub, eq_self]
  refine ⟨vok_of (s := 13) (by assumption) rfl, ?_⟩
  refine sc_i (D := 9) (fun d' hd' => k_X11_seekExtreme (by assumption) (by assumption) (by assumption) (by omega) (by omega) he (by omega) hd') (by omega) ?_
  intro x19_ h19_
  try simp only [s_iv1, tfr_0, tfr_1, tfr_2, tfr_3, tfr_4, s_ald_0, s_ild_1, s_gf_13_11, s_iv2, s_ire, trg, LR, IR, true_and, and_true, Nat.reduceAdd, Nat.reduceSub, eq_self]
  refine ⟨vok_of (s := 13) (by assumption) rfl, ?_⟩
  refine sc_xn (D := 0) (fun d' hd' => k_X11_checkStatus (by assumption) (by omega) hd') (by omega) rfl ?_ (fun s hs _ => Or.inr ⟨s, rfl, rfl, (fun h => h.elim (fun h => Or.inl (h.2)) (fun h => Or.inr (Or.inr (Or.inl (h.2))))) hs⟩)
  intro h20_
  try simp only [s_ald_0, s_ild_1, s_gf_13_11, s_iv2, tfr_0, tfr_1, tfr_2, tfr_3, tfr_4, s_ire, trg, LR, IR, true_and, and_true, Nat.reduceAdd, Nat.reduceSub, eq_self]
  refine ⟨by assumption, fun x24_ h24_ => ?_⟩
  refine ⟨vok_of (s := 13) (by assumption) rfl, ?_⟩
  refine sc_i (D := 3) (fun d' hd' => k_X11_fill (by assumption) (by omega) (by assumption) (by omega) hd') (by omega) ?_
  intro x25_ h25_
  try simp only [s_ire, trg, LR, IR, true_and, and_true, Nat.reduceAdd, Nat.reduceSub, eq_self]
  exact ⟨by omega, fun _ _ _ _ => Or.inl ⟨_, rfl, rfl, by omega⟩⟩
theorem k_X11_makeAlong {e : tE} {b : Nat} {d n : Nat} {r : Nat} {x1 : Nat} {x2 : Nat} {x3 : Nat} (h0 : cl r 13) (h1 : cl x1 4) (h2 : cl x2 4) (h3 : cl x3 4) (he : EO e) (hb : b < 2) (hd : 8 ≤ d) : sC e b d 3371 [.inr (.inr (.inl r)), .inr (.inr (.inl x1)), .inr (.inr (.inl x2)), .inr (.inr (.inl x3))] n (SQi n (fun z => (0 ≤ z ∧ z ≤ 2))) := by
  refine sK (fun M h => tst_X11_makeAlong h) (fun M0 => ?_)
  have n65 : ∀ (i4_65 : Int) (is0_65 : Int), (0 ≤ i4_65 ∧ i4_65 ≤ 2) → (0 ≤ is0_65 ∧ is0_65 ≤ 2) → sT e b M0 d 3371 65 [] [some (.inr (.inr (.inl r))), some (.inr (.inr (.inl x1))), some (.inr (.inr (.inl x2))), some (.inr (.inr (.inl x3))), some (.inl i4_65)] [.inl is0_65] n (fun r n' _ => (SQi n (fun z => (0 ≤ z ∧ z ≤ 2))) r n') := by
    intro i4_65 is0_65 y65_0 y65_1
    refine sblk (hv := false) kbl_X11_makeAlong kbs_X11_makeAlong (pc := 65) (pe := 66) (rk := 0) (i := 2) rfl (by decide +kernel) ?_
    simp only [kb_X11_makeAlong_65, s_ire, trg, LR, IR, true_and, and_true, Nat.reduceAdd, Nat.reduceSub, eq_self]
    exact fun _ _ _ _ => ⟨_, rfl, rfl, by omega⟩
  refine sblk (hv := false) kbl_X11_makeAlong kbs_X11_makeAlong (pc := 0) (pe := 54) (rk := 0) (i := 0) rfl (by decide +kernel) ?_
  simp only [kb_X11_makeAlong_0, s_ald_0, s_gf_13_4, s_iv0, tfr_0, tfr_1, tfr_2, tfr_3, tfr_4, s_ald_1, s_iv1, s_ald_2, s_ald_3, s_bi, s_lc0, s_ic, s_iv3, s_ist4, tkl_n, tkl_i, tkl_l, tkl_r, s_ild4, s_if_eq, s_goto, LR, IR, true_and, and_true, Nat.reduceAdd, Nat.reduceSub, eq_self]
  refine ⟨by assumption, fun x3_ h3_ => ?_⟩
  refine ⟨vok_of (s := 8) (by assumption) rfl, ?_⟩
  refine sc_n (D := 0) (fun d' hd' => k_X6_clear (by assumption) (by omega) hd') (by omega) ?_
  intro h4_
  try simp only [s_ald_0, s_gf_13_4, s_ald_1, s_iv1, tfr_0, tfr_1, tfr_2, tfr_3, tfr_4, s_ald_2, s_ald_3, s_bi, s_lc0, s_ic, s_iv3, s_ist4, tkl_n, tkl_i, tkl_l, tkl_r, s_ild4, s_if_eq, s_goto, LR, IR, true_and, and_true, Nat.reduceAdd, Nat.reduceSub, eq_self]
  refine ⟨by assumption, fun x6_ h6_ => ?_⟩
  refine ⟨vok_of (s := 8) (by assumption) rfl, ?_⟩
  refine sc_n (D := 2) (fun d' hd' => k_X6_push (by assumption) (by assumption) (by omega) hd') (by omega) ?_
  intro h8_
  try simp only [s_ald_0, s_gf_13_4, s_ald_2, s_iv1, tfr_0, tfr_1, tfr_2, tfr_3, tfr_4, s_ald_3, s_bi, s_lc0, s_ic, s_iv3, s_ist4, tkl_n, tkl_i, tkl_l, tkl_r, s_ild4, s_if_eq, s_goto, LR, IR, true_and, and_true, Nat.reduceAdd, Nat.reduceSub, eq_self]
  refine ⟨by assumption, fun x10_ h10_ => ?_⟩
  refine ⟨vok_of (s := 8) (by assumption) rfl, ?_⟩
  refine sc_n (D := 2) (fun d' hd' => k_X6_push (by assumption) (by assumption) (by omega) hd') (by omega) ?_
  intro h12_
  try simp only [s_ald_0, s_gf_13_4, s_ald_3, s_iv1, tfr_0, tfr_1, tfr_2, tfr_3, tfr_4, s_bi, s_lc0, s_ic, s_iv3, s_ist4, tkl_n, tkl_i, tkl_l, tkl_r, s_ild4, s_if_eq, s_goto, LR, IR, true_and, and_true, Nat.reduceAdd, Nat.reduceSub, eq_self]
  refine ⟨by assumption, fun x14_ h14_ => ?_⟩
  refine ⟨vok_of (s := 8) (by assumption) rfl, ?_⟩
  refine sc_n (D := 2) (fun d' hd' => k_X6_push (by assumption) (by assumption) (by omega) hd') (by omega) ?_
  intro h16_
  try simp only [s_ald_0, s_gf_13_4, s_bi, s_lc0, s_ic, s_iv3, tfr_0, tfr_1, tfr_2, tfr_3, tfr_4, s_ist4, tkl_n, tkl_i, tkl_l, tkl_r, s_ild4, s_if_eq, s_goto, LR, IR, true_and, and_true, Nat.reduceAdd, Nat.reduceSub, eq_self]
  refine ⟨by assumption, fun x18_ h18_ => ?_⟩
  refine ⟨vok_of (s := 8) (by assumption) rfl, ?_⟩
  refine sc_i (D := 7) (fun d' hd' => k_X6_make (by assumption) (by omega) (by omega) (by omega) (by omega) he (by omega) hd') (by omega) ?_
  intro x22_ h22_
  try simp only [s_ist4, tkl_n, tkl_i, tkl_l, tkl_r, s_ild4, s_if_eq, s_goto, LR, IR, true_and, and_true, Nat.reduceAdd, Nat.reduceSub, eq_self]
  refine ⟨by omega, fun h25_ => ?_, fun h25_ => ?_⟩
  · refine sT_w ?_
    refine sblk (hv := false) kbl_X11_makeAlong kbs_X11_makeAlong (pc := 54) (pe := 65) (rk := 0) (i := 1) rfl (by decide +kernel) ?_
    simp only [kb_X11_makeAlong_54, s_ald_0, s_gf_13_4, s_bi, s_lc0, s_ic, s_iv3, tfr_0, tfr_1, tfr_2, tfr_3, tfr_4, s_nil, LR, IR, true_and, and_true, Nat.reduceAdd, Nat.reduceSub, eq_self]
    refine ⟨by assumption, fun x27_ h27_ => ?_⟩
    refine ⟨vok_of (s := 8) (by assumption) rfl, ?_⟩
    refine sc_i (D := 7) (fun d' hd' => k_X6_make (by assumption) (by omega) (by omega) (by omega) (by omega) he (by omega) hd') (by omega) ?_
    intro x31_ h31_
    try simp only [s_nil, LR, IR, true_and, and_true, Nat.reduceAdd, Nat.reduceSub, eq_self]
    exact sT_w (n65 _ _ (by omega) (by omega))
  exact sT_w (n65 _ _ (by omega) (by omega))
theorem k_X11_makeMoved {e : tE} {b : Nat} {d n : Nat} {r : Nat} {x1 : Nat} {x2 : Nat} {x3 : Int} (h0 : cl r 13) (h1 : cl x1 7) (h2 : cl x2 4) (h3 : (1 ≤ x3 ∧ x3 ≤ 1000)) (he : EO e) (hb : b < 2) (hd : 9 ≤ d) : sC e b d 3372 [.inr (.inr (.inl r)), .inr (.inr (.inl x1)), .inr (.inr (.inl x2)), .inl x3] n (SQi n (fun z => (0 ≤ z ∧ z ≤ 2))) := by
  refine sK (fun M h => tst_X11_makeMoved h) (fun M0 => ?_)
  have n58 : ∀ (fu : Nat) (l4_58 : Int) (i6_58 : Int) (w7_58 : Option tV), 8 - i6_58 + 1 ≤ (fu : Int) → (1 ≤ x3 ∧ x3 ≤ 1000) → (-9223372036854775808 ≤ l4_58 ∧ l4_58 < 9223372036854775808) → (0 ≤ i6_58 ∧ i6_58 ≤ 8) → sT e b M0 d 3372 58 [] [some (.inr (.inr (.inl r))), some (.inr (.inr (.inl x1))), some (.inr (.inr (.inl x2))), some (.inl x3), some (.inr (.inl l4_58)), none, some (.inl i6_58), w7_58] [] n (fun r n' _ => (SQi n (fun z => (0 ≤ z ∧ z ≤ 2))) r n') := by
    intro fu
    induction fu with
    | zero =>
      intro l4_58 i6_58 w7_58 hm y58_0 y58_1 y58_2
      exfalso; omega
    | succ fu ih =>
      intro l4_58 i6_58 w7_58 hm y58_0 y58_1 y58_2
      have ih58 := ih
      clear ih
      refine sblk (hv := false) kbl_X11_makeMoved kbs_X11_makeMoved (pc := 58) (pe := 98) (rk := 0) (i := 1) rfl (by decide +kernel) ?_
      simp only [kb_X11_makeMoved_58, s_ild6, s_bi, s_ic_ge, s_ald_0, s_gf_13_4, s_gf_13_11, s_iv2, tfr_0, tfr_1, tfr_2, tfr_3, tfr_4, s_ald_1, s_iv1, s_ist7, tkl_n, tkl_i, tkl_l, tkl_r, s_ild7, s_if_eq, s_ire, trg, LR, IR, true_and, and_true, Nat.reduceAdd, Nat.reduceSub, eq_self]
      refine ⟨by omega, fun h3_ => ?_, fun h3_ => ?_⟩
      · refine sT_w ?_
        refine sblk (hv := false) kbl_X11_makeMoved kbs_X11_makeMoved (pc := 240) (pe := 242) (rk := 0) (i := 6) rfl (by decide +kernel) ?_
        simp only [kb_X11_makeMoved_240, s_ic, s_ire, trg, LR, IR, true_and, and_true, Nat.reduceAdd, Nat.reduceSub, eq_self]
        exact fun _ _ _ _ => ⟨_, rfl, rfl, by omega⟩
      refine ⟨by assumption, fun x7_ h7_ => ?_⟩
      refine ⟨by assumption, fun x9_ h9_ => ?_⟩
      refine ⟨by assumption, fun x11_ h11_ => ?_⟩
      refine ⟨vok_of (s := 8) (by assumption) rfl, ?_⟩
      refine sc_n (D := 0) (fun d' hd' => k_X6_aim (by assumption) (by assumption) (by assumption) (by omega) hd') (by omega) ?_
      intro h12_
      try simp only [s_ald_0, s_gf_13_4, s_ald_1, s_iv1, tfr_0, tfr_1, tfr_2, tfr_3, tfr_4, s_ist7, tkl_n, tkl_i, tkl_l, tkl_r, s_ild7, s_if_eq, s_ire, trg, LR, IR, true_and, and_true, Nat.reduceAdd, Nat.reduceSub, eq_self]
      refine ⟨by assumption, fun x14_ h14_ => ?_⟩
      refine ⟨vok_of (s := 8) (by assumption) rfl, ?_⟩
      refine sc_i (D := 8) (fun d' hd' => k_X6_makeValue (by assumption) (by assumption) he (by omega) hd') (by omega) ?_
      intro x16_ h16_
      try simp only [s_ist7, tkl_n, tkl_i, tkl_l, tkl_r, s_ild7, s_if_eq, s_ire, trg, LR, IR, true_and, and_true, Nat.reduceAdd, Nat.reduceSub, eq_self]
      refine ⟨by omega, fun h19_ => ?_, fun h19_ => ?_⟩
      · refine sT_w ?_
        refine sblk (hv := false) kbl_X11_makeMoved kbs_X11_makeMoved (pc := 98) (pe := 135) (rk := 0) (i := 2) rfl (by decide +kernel) ?_
        simp only [kb_X11_makeMoved_98, s_ald_0, s_gf_13_12, s_gf_13_4, s_iv0, tfr_0, tfr_1, tfr_2, tfr_3, tfr_4, s_iv1, s_ald_2, s_gf_13_13, s_iv3, s_ist7, tkl_n, tkl_i, tkl_l, tkl_r, s_ild7, s_if_eq, s_ire, trg, LR, IR, true_and, and_true, Nat.reduceAdd, Nat.reduceSub, eq_self]
        refine ⟨by assumption, fun x21_ h21_ => ?_⟩
        refine ⟨by assumption, fun x23_ h23_ => ?_⟩
        refine ⟨vok_of (s := 8) (by assumption) rfl, ?_⟩
        refine sc_r (D := 1) (fun d' hd' => k_X6_result (by assumption) hd') (by omega) ?_
        intro x24_ h24_
        try simp only [s_iv1, tfr_0, tfr_1, tfr_2, tfr_3, tfr_4, s_ald_0, s_ald_2, s_gf_13_13, s_gf_13_12, s_iv3, s_ist7, tkl_n, tkl_i, tkl_l, tkl_r, s_ild7, s_if_eq, s_ire, trg, LR, IR, true_and, and_true, Nat.reduceAdd, Nat.reduceSub, eq_self]
        refine ⟨vok_of (s := 4) (by assumption) rfl, ?_⟩
        refine sc_n (D := 1) (fun d' hd' => k_X2_copy (by assumption) (by assumption) (by omega) hd') (by omega) ?_
        intro h25_
        try simp only [s_ald_0, s_ald_2, s_gf_13_13, s_gf_13_12, s_iv3, tfr_0, tfr_1, tfr_2, tfr_3, tfr_4, s_ist7, tkl_n, tkl_i, tkl_l, tkl_r, s_ild7, s_if_eq, s_ire, trg, LR, IR, true_and, and_true, Nat.reduceAdd, Nat.reduceSub, eq_self]
        refine ⟨by assumption, fun x29_ h29_ => ?_⟩
        refine ⟨by assumption, fun x31_ h31_ => ?_⟩
        refine ⟨vok_of (s := 13) (by assumption) rfl, ?_⟩
        refine sc_i (D := 8) (fun d' hd' => k_X11_makeAlong (by assumption) (by assumption) (by assumption) (by assumption) he (by omega) hd') (by omega) ?_
        intro x32_ h32_
        try simp only [s_ist7, tkl_n, tkl_i, tkl_l, tkl_r, s_ild7, s_if_eq, s_ire, trg, LR, IR, true_and, and_true, Nat.reduceAdd, Nat.reduceSub, eq_self]
        refine ⟨by omega, fun h35_ => ?_, fun h35_ => ?_⟩
        · refine sT_w ?_
          refine sblk (hv := false) kbl_X11_makeMoved kbs_X11_makeMoved (pc := 135) (pe := 183) (rk := 0) (i := 3) rfl (by decide +kernel) ?_
          simp only [kb_X11_makeMoved_135, s_ald_0, s_gf_13_4, s_iv0, tfr_0, tfr_1, tfr_2, tfr_3, tfr_4, s_gf_13_11, s_iv1, s_if_eq, s_gf_13_13, s_gf_4_0, s_gf_4_1, s_ald_2, s_gf_13_12, s_iv3, s_ire, trg, LR, IR, true_and, and_true, Nat.reduceAdd, Nat.reduceSub, eq_self]
          refine ⟨by assumption, fun x37_ h37_ => ?_⟩
          refine ⟨vok_of (s := 8) (by assumption) rfl, ?_⟩
          refine sc_r (D := 1) (fun d' hd' => k_X6_result (by assumption) hd') (by omega) ?_
          intro x38_ h38_
          try simp only [s_ald_0, s_gf_13_11, s_iv1, tfr_0, tfr_1, tfr_2, tfr_3, tfr_4, s_if_eq, s_gf_13_13, s_gf_4_0, s_gf_4_1, s_ald_2, s_gf_13_12, s_iv3, s_ire, trg, LR, IR, true_and, and_true, Nat.reduceAdd, Nat.reduceSub, eq_self]
          refine ⟨by assumption, fun x40_ h40_ => ?_⟩
          refine ⟨vok_of (s := 4) (by assumption) rfl, ?_⟩
          refine sc_i (D := 1) (fun d' hd' => k_X2_liesIn (by assumption) (by assumption) hd') (by omega) ?_
          intro x41_ h41_
          try simp only [s_if_eq, s_ald_0, s_gf_13_13, s_gf_4_0, s_gf_4_1, s_iv1, tfr_0, tfr_1, tfr_2, tfr_3, tfr_4, s_ald_2, s_gf_13_12, s_iv3, s_ire, trg, LR, IR, true_and, and_true, Nat.reduceAdd, Nat.reduceSub, eq_self]
          refine ⟨by omega, fun h42_ => ?_, fun h42_ => ?_⟩
          · refine sT_w ?_
            refine sblk (hv := false) kbl_X11_makeMoved kbs_X11_makeMoved (pc := 183) (pe := 234) (rk := 0) (i := 4) rfl (by decide +kernel) ?_
            simp only [kb_X11_makeMoved_183, s_ald_0, s_gf_13_11, s_gf_13_4, s_iv0, tfr_0, tfr_1, tfr_2, tfr_3, tfr_4, s_iv1, s_gf_4_0, s_lld4, s_lneg, s_gf_4_1, s_if_eq, s_ic, s_ire, trg, LR, IR, true_and, and_true, Nat.reduceAdd, Nat.reduceSub, eq_self]
            refine ⟨by assumption, fun x44_ h44_ => ?_⟩
            refine ⟨by assumption, fun x46_ h46_ => ?_⟩
            refine ⟨vok_of (s := 8) (by assumption) rfl, ?_⟩
            refine sc_r (D := 1) (fun d' hd' => k_X6_result (by assumption) hd') (by omega) ?_
            intro x47_ h47_
            try simp only [s_iv1, tfr_0, tfr_1, tfr_2, tfr_3, tfr_4, s_ald_0, s_gf_13_11, s_gf_4_0, s_lld4, s_lneg, s_gf_4_1, s_iv0, s_if_eq, s_ic, s_ire, trg, LR, IR, true_and, and_true, Nat.reduceAdd, Nat.reduceSub, eq_self]
            refine ⟨vok_of (s := 4) (by assumption) rfl, ?_⟩
            refine sc_n (D := 1) (fun d' hd' => k_X2_embrace (by assumption) (by assumption) (by omega) hd') (by omega) ?_
            intro h48_
            try simp only [s_ald_0, s_gf_13_11, s_gf_4_0, s_lld4, s_lneg, s_iv1, tfr_0, tfr_1, tfr_2, tfr_3, tfr_4, s_gf_4_1, s_iv0, s_if_eq, s_ic, s_ire, trg, LR, IR, true_and, and_true, Nat.reduceAdd, Nat.reduceSub, eq_self]
            refine ⟨by assumption, fun x50_ h50_ => ?_⟩
            refine ⟨by assumption, fun x51_ h51_ => ?_⟩
            intro x53_ h53_
            refine ⟨vok_of (s := 3) (by assumption) rfl, ?_⟩
            refine sc_n (D := 0) (fun d' hd' => k_X1_shift (by assumption) (by omega) (by omega) hd') (by omega) ?_
            intro h54_
            try simp only [s_ald_0, s_gf_13_11, s_gf_4_1, s_lld4, s_iv1, tfr_0, tfr_1, tfr_2, tfr_3, tfr_4, s_iv0, s_if_eq, s_ic, s_ire, trg, LR, IR, true_and, and_true, Nat.reduceAdd, Nat.reduceSub, eq_self]
            refine ⟨by assumption, fun x56_ h56_ => ?_⟩
            refine ⟨by assumption, fun x57_ h57_ => ?_⟩
            refine ⟨vok_of (s := 3) (by assumption) rfl, ?_⟩
            refine sc_n (D := 0) (fun d' hd' => k_X1_shift (by assumption) (by omega) (by omega) hd') (by omega) ?_
            intro h59_
            try simp only [s_ald_0, s_gf_13_11, s_iv0, tfr_0, tfr_1, tfr_2, tfr_3, tfr_4, s_if_eq, s_ic, s_ire, trg, LR, IR, true_and, and_true, Nat.reduceAdd, Nat.reduceSub, eq_self]
            refine ⟨by assumption, fun x61_ h61_ => ?_⟩
            refine ⟨vok_of (s := 4) (by assumption) rfl, ?_⟩
            refine sc_i (D := 1) (fun d' hd' => k_X2_isTooGreat (by assumption) hd') (by omega) ?_
            intro x62_ h62_
            try simp only [s_if_eq, s_ic, s_ire, trg, LR, IR, true_and, and_true, Nat.reduceAdd, Nat.reduceSub, eq_self]
            refine ⟨by omega, fun h63_ => ?_, fun h63_ => ?_⟩
            · refine sT_w ?_
              refine sblk (hv := false) kbl_X11_makeMoved kbs_X11_makeMoved (pc := 234) (pe := 240) (rk := 0) (i := 5) rfl (by decide +kernel) ?_
              simp only [kb_X11_makeMoved_234, s_inc6, tkl_n, tkl_i, tkl_l, tkl_r, s_goto, LR, IR, true_and, and_true, Nat.reduceAdd, Nat.reduceSub, eq_self]
              exact sT_w (ih58 _ _ _ (by omega) (by omega) (by omega) (by omega))
            exact fun _ _ _ _ => ⟨_, rfl, rfl, by omega⟩
          refine ⟨by assumption, fun x69_ h69_ => ?_⟩
          refine ⟨by assumption, fun x70_ h70_ => ?_⟩
          refine ⟨by assumption, fun x72_ h72_ => ?_⟩
          refine ⟨by assumption, fun x73_ h73_ => ?_⟩
          refine ⟨vok_of (s := 3) (by assumption) rfl, ?_⟩
          refine sc_n (D := 0) (fun d' hd' => k_X1_copy (by assumption) (by assumption) (by omega) hd') (by omega) ?_
          intro h74_
          try simp only [s_ald_0, s_ald_2, s_gf_13_13, s_gf_13_12, s_iv3, tfr_0, tfr_1, tfr_2, tfr_3, tfr_4, s_ire, trg, LR, IR, true_and, and_true, Nat.reduceAdd, Nat.reduceSub, eq_self]
          refine ⟨by assumption, fun x78_ h78_ => ?_⟩
          refine ⟨by assumption, fun x80_ h80_ => ?_⟩
          refine ⟨vok_of (s := 13) (by assumption) rfl, ?_⟩
          refine sc_i (D := 8) (fun d' hd' => k_X11_makeAlong (by assumption) (by assumption) (by assumption) (by assumption) he (by omega) hd') (by omega) ?_
          intro x81_ h81_
          try simp only [s_ire, trg, LR, IR, true_and, and_true, Nat.reduceAdd, Nat.reduceSub, eq_self]
          exact fun _ _ _ _ => ⟨_, rfl, rfl, by omega⟩
        exact fun _ _ _ _ => ⟨_, rfl, rfl, by omega⟩
      exact fun _ _ _ _ => ⟨_, rfl, rfl, by omega⟩
  refine sblk (hv := false) kbl_X11_makeMoved kbs_X11_makeMoved (pc := 0) (pe := 58) (rk := 0) (i := 0) rfl (by decide +kernel) ?_
  simp only [kb_X11_makeMoved_0, s_ald_0, s_gf_13_4, s_iv0, tfr_0, tfr_1, tfr_2, tfr_3, tfr_4, s_lst4, tkl_n, tkl_i, tkl_l, tkl_r, s_gf_13_11, s_ald_2, s_iv1, s_gf_13_13, s_gf_4_0, s_lc0, s_iv2, s_gf_4_1, s_ild_3, s_si, s_idiv, s_i2l, s_irem, s_ld2, s_lmul, s_ic, s_ist6, s_nil, LR, IR, true_and, and_true, Nat.reduceAdd, Nat.reduceSub, eq_self]
  refine ⟨by assumption, fun x88_ h88_ => ?_⟩
  refine ⟨vok_of (s := 8) (by assumption) rfl, ?_⟩
  refine sc_l (D := 0) (fun d' hd' => k_X6_unit (by assumption) hd') (by omega) ?_
  intro x89_ h89_
  try simp only [s_lst4, tkl_n, tkl_i, tkl_l, tkl_r, s_ald_0, s_gf_13_11, s_ald_2, s_iv1, tfr_0, tfr_1, tfr_2, tfr_3, tfr_4, s_gf_13_13, s_gf_4_0, s_lc0, s_iv2, s_gf_4_1, s_ild_3, s_si, s_idiv, s_i2l, s_irem, s_ld2, s_lmul, s_ic, s_ist6, s_nil, LR, IR, true_and, and_true, Nat.reduceAdd, Nat.reduceSub, eq_self]
  refine ⟨by assumption, fun x92_ h92_ => ?_⟩
  refine ⟨vok_of (s := 4) (by assumption) rfl, ?_⟩
  refine sc_n (D := 1) (fun d' hd' => k_X2_copy (by assumption) (by assumption) (by omega) hd') (by omega) ?_
  intro h94_
  try simp only [s_ald_0, s_gf_13_13, s_gf_4_0, s_lc0, s_iv2, tfr_0, tfr_1, tfr_2, tfr_3, tfr_4, s_gf_4_1, s_ild_3, s_si, s_idiv, s_i2l, s_irem, s_ld2, s_lmul, s_ic, s_ist6, tkl_n, tkl_i, tkl_l, tkl_r, s_nil, LR, IR, true_and, and_true, Nat.reduceAdd, Nat.reduceSub, eq_self]
  refine ⟨by assumption, fun x96_ h96_ => ?_⟩
  refine ⟨by assumption, fun x97_ h97_ => ?_⟩
  refine ⟨vok_of (s := 3) (by assumption) rfl, ?_⟩
  refine sc_n (D := 0) (fun d' hd' => k_X1_assign (by assumption) (by omega) (by omega) (by omega) hd') (by omega) ?_
  intro h100_
  try simp only [s_ald_0, s_gf_13_13, s_gf_4_1, s_ild_3, s_si, s_idiv, s_i2l, s_irem, s_ld2, s_lmul, s_iv2, tfr_0, tfr_1, tfr_2, tfr_3, tfr_4, s_ic, s_ist6, tkl_n, tkl_i, tkl_l, tkl_r, s_nil, LR, IR, true_and, and_true, Nat.reduceAdd, Nat.reduceSub, eq_self]
  refine ⟨by assumption, fun x102_ h102_ => ?_⟩
  refine ⟨by assumption, fun x103_ h103_ => ?_⟩
  refine ⟨by omega, fun x106_ h106_ g106_ => ?_⟩
  refine ⟨by omega, ?_⟩
  refine ⟨by omega, fun x110_ h110_ g110_ => ?_⟩
  refine ⟨by omega, ?_⟩
  intro x113_ h113_
  refine ⟨vok_of (s := 3) (by assumption) rfl, ?_⟩
  refine sc_n (D := 0) (fun d' hd' => k_X1_assign (by assumption) (by omega) (by omega) (by omega) hd') (by omega) ?_
  intro h114_
  try simp only [s_ic, s_ist6, tkl_n, tkl_i, tkl_l, tkl_r, s_nil, LR, IR, true_and, and_true, Nat.reduceAdd, Nat.reduceSub, eq_self]
  exact sT_w (n58 4294967400 _ _ _ (by omega) (by omega) (by omega) (by omega))
theorem k_X11_move {e : tE} {b : Nat} {d n : Nat} {r : Nat} {x1 : Int} {x2 : Int} {x3 : Int} {x4 : Int} (h0 : cl r 13) (h1 : (-2147483648 ≤ x1 ∧ x1 ≤ 2147483647)) (h2 : (-2147483648 ≤ x2 ∧ x2 ≤ 2147483647)) (h3 : (-2147483648 ≤ x3 ∧ x3 ≤ 2147483647)) (h4 : (-2147483648 ≤ x4 ∧ x4 ≤ 2147483647)) (he : EO e) (hb : b < 2) (hd : 10 ≤ d) : sC e b d 3375 [.inr (.inr (.inl r)), .inl x1, .inl x2, .inl x3, .inl x4] n (SQx n (SQi n (fun z => (0 ≤ z ∧ z ≤ 1))) (fun s => s = "java/lang/ArithmeticException" ∨ s = "java/lang/IllegalArgumentException" ∨ s = "java/lang/IllegalStateException" ∨ s = "java/lang/IndexOutOfBoundsException" ∨ s = "java/lang/UnsupportedOperationException" ∨ s = "java/util/NoSuchElementException")) := by
  refine sK (fun M h => tst_X11_move h) (fun M0 => ?_)
  have n29 : sT e b M0 d 3375 29 [] [some (.inr (.inr (.inl r))), some (.inl x1), some (.inl x2), some (.inl x3), some (.inl x4)] [] n (fun r n' _ => (SQx n (SQi n (fun z => (0 ≤ z ∧ z ≤ 1))) (fun s => s = "java/lang/ArithmeticException" ∨ s = "java/lang/IllegalArgumentException" ∨ s = "java/lang/IllegalStateException" ∨ s = "java/lang/IndexOutOfBoundsException" ∨ s = "java/lang/UnsupportedOperationException" ∨ s = "java/util/NoSuchElementException")) r n') := by
    refine sblk (hv := false) kbl_X11_move kbs_X11_move (pc := 29) (pe := 32) (rk := 3) (i := 1) rfl (by decide +kernel) ?_
    simp only [kb_X11_move_29, s_new, LR, IR, true_and, and_true, Nat.reduceAdd, Nat.reduceSub, eq_self]
    exact fun _ _ _ _ => Or.inr ⟨_, rfl, rfl, Or.inr (Or.inl (rfl))⟩
  refine sblk (hv := false) kbl_X11_move kbs_X11_move (pc := 0) (pe := 29) (rk := 3) (i := 0) rfl (by decide +kernel) ?_
  simp only [kb_X11_move_0, s_ald_0, s_ild_1, s_iv1, tfr_0, tfr_1, tfr_2, tfr_3, tfr_4, s_ild_3, s_ild_2, s_ild4, s_ic, s_ic_lt, s_si, s_ic_le, s_nil, LR, IR, true_and, and_true, Nat.reduceAdd, Nat.reduceSub, eq_self]
  refine ⟨vok_of (s := 13) (by assumption) rfl, ?_⟩
  refine sc_xn (D := 0) (fun d' hd' => k_X11_checkShelf (by assumption) (by omega) hd') (by omega) rfl ?_ (fun s hs _ => Or.inr ⟨s, rfl, rfl, (fun h => Or.inr (Or.inr (Or.inr (Or.inl (h))))) hs⟩)
  intro h4_
  try simp only [s_ald_0, s_ild_3, s_iv1, tfr_0, tfr_1, tfr_2, tfr_3, tfr_4, s_ild_2, s_ild4, s_ic, s_ic_lt, s_si, s_ic_le, s_nil, LR, IR, true_and, and_true, Nat.reduceAdd, Nat.reduceSub, eq_self]
  refine ⟨vok_of (s := 13) (by assumption) rfl, ?_⟩
  refine sc_xn (D := 0) (fun d' hd' => k_X11_checkShelf (by assumption) (by omega) hd') (by omega) rfl ?_ (fun s hs _ => Or.inr ⟨s, rfl, rfl, (fun h => Or.inr (Or.inr (Or.inr (Or.inl (h))))) hs⟩)
  intro h7_
  try simp only [s_ald_0, s_ild_2, s_iv1, tfr_0, tfr_1, tfr_2, tfr_3, tfr_4, s_ild4, s_ic, s_ic_lt, s_si, s_ic_le, s_nil, LR, IR, true_and, and_true, Nat.reduceAdd, Nat.reduceSub, eq_self]
  refine ⟨vok_of (s := 13) (by assumption) rfl, ?_⟩
  refine sc_xn (D := 0) (fun d' hd' => k_X11_checkFormula (by assumption) (by omega) hd') (by omega) rfl ?_ (fun s hs _ => Or.inr ⟨s, rfl, rfl, (fun h => Or.inr (Or.inr (Or.inr (Or.inl (h))))) hs⟩)
  intro h10_
  try simp only [s_ild4, s_ic, s_ic_lt, s_si, s_ic_le, s_nil, LR, IR, true_and, and_true, Nat.reduceAdd, Nat.reduceSub, eq_self]
  refine ⟨by omega, fun h13_ => ?_, fun h13_ => ?_⟩
  · exact sT_w (n29)
  refine ⟨by omega, fun h16_ => ?_, fun h16_ => ?_⟩
  · refine sT_w ?_
    refine sblk (hv := false) kbl_X11_move kbs_X11_move (pc := 40) (pe := 81) (rk := 3) (i := 3) rfl (by decide +kernel) ?_
    simp only [kb_X11_move_40, s_ald_0, s_ild_2, s_iv1, tfr_0, tfr_1, tfr_2, tfr_3, tfr_4, s_ild_3, s_ild_1, s_gf_13_5, s_aa, s_gf_13_3, s_ild4, s_iv3, s_iv2, s_ire, trg, LR, IR, true_and, and_true, Nat.reduceAdd, Nat.reduceSub, eq_self]
    refine ⟨vok_of (s := 13) (by assumption) rfl, ?_⟩
    refine sc_xn (D := 0) (fun d' hd' => k_X11_checkDefined (by assumption) (by omega) hd') (by omega) rfl ?_ (fun s hs _ => Or.inr ⟨s, rfl, rfl, (fun h => Or.inr (Or.inr (Or.inr (Or.inr (Or.inr (h)))))) hs⟩)
    intro h19_
    try simp only [s_ald_0, s_ild_3, s_iv1, tfr_0, tfr_1, tfr_2, tfr_3, tfr_4, s_ild_2, s_ild_1, s_gf_13_5, s_aa, s_gf_13_3, s_ild4, s_iv3, s_iv2, s_ire, trg, LR, IR, true_and, and_true, Nat.reduceAdd, Nat.reduceSub, eq_self]
    refine ⟨vok_of (s := 13) (by assumption) rfl, ?_⟩
    refine sc_xn (D := 2) (fun d' hd' => k_X11_checkHeld (by assumption) (by omega) hd') (by omega) rfl ?_ (fun s hs _ => Or.inr ⟨s, rfl, rfl, (fun h => Or.inr (Or.inr (Or.inr (Or.inr (Or.inr (h)))))) hs⟩)
    intro h22_
    try simp only [s_ald_0, s_ild_2, s_iv1, tfr_0, tfr_1, tfr_2, tfr_3, tfr_4, s_ild_1, s_gf_13_5, s_aa, s_gf_13_3, s_ild_3, s_ild4, s_iv3, s_iv2, s_ire, trg, LR, IR, true_and, and_true, Nat.reduceAdd, Nat.reduceSub, eq_self]
    refine ⟨vok_of (s := 13) (by assumption) rfl, ?_⟩
    refine sc_xn (D := 0) (fun d' hd' => k_X11_checkNoY (by assumption) (by omega) hd') (by omega) rfl ?_ (fun s hs _ => Or.inr ⟨s, rfl, rfl, (fun h => Or.inr (Or.inr (Or.inr (Or.inr (Or.inl (h)))))) hs⟩)
    intro h25_
    try simp only [s_ald_0, s_ild_1, s_gf_13_5, s_ild_2, s_aa, s_gf_13_3, s_ild_3, s_iv1, tfr_0, tfr_1, tfr_2, tfr_3, tfr_4, s_ild4, s_iv3, s_iv2, s_ire, trg, LR, IR, true_and, and_true, Nat.reduceAdd, Nat.reduceSub, eq_self]
    refine ⟨by assumption, fun x30_ h30_ => ?_⟩
    refine Or.inr ⟨aok_27 (by assumption) (by omega), fun x32_ h32_ => ?_⟩
    refine ⟨by assumption, fun x34_ h34_ => ?_⟩
    refine ⟨vok_of (s := 11) (by assumption) rfl, ?_⟩
    refine sc_r (D := 1) (fun d' hd' => k_X9_box (by assumption) (by omega) hd') (by omega) ?_
    intro x36_ h36_
    try simp only [s_ild4, s_iv3, tfr_0, tfr_1, tfr_2, tfr_3, tfr_4, s_iv2, s_ire, trg, LR, IR, true_and, and_true, Nat.reduceAdd, Nat.reduceSub, eq_self]
    refine ⟨vok_of (s := 13) (by assumption) rfl, ?_⟩
    refine sc_i (D := 9) (fun d' hd' => k_X11_makeMoved (by assumption) (by assumption) (by assumption) (by omega) he (by omega) hd') (by omega) ?_
    intro x38_ h38_
    try simp only [s_iv2, tfr_0, tfr_1, tfr_2, tfr_3, tfr_4, s_ire, trg, LR, IR, true_and, and_true, Nat.reduceAdd, Nat.reduceSub, eq_self]
    refine ⟨vok_of (s := 13) (by assumption) rfl, ?_⟩
    refine sc_xi (D := 4) (fun d' hd' => k_X11_become (by assumption) (by omega) (by omega) (by omega) hd') (by omega) rfl ?_ (fun s hs _ => Or.inr ⟨s, rfl, rfl, (fun h => h.elim (fun h => Or.inl (h.2)) (fun h => Or.inr (Or.inr (Or.inl (h.2))))) hs⟩)
    intro x39_ h39_
    try simp only [s_ire, trg, LR, IR, true_and, and_true, Nat.reduceAdd, Nat.reduceSub, eq_self]
    exact ⟨by omega, fun _ _ _ _ => Or.inl ⟨_, rfl, rfl, by omega⟩⟩
  exact sT_w (n29)
theorem k_X11_multiply {e : tE} {b : Nat} {d n : Nat} {r : Nat} {x1 : Int} {x2 : Int} {x3 : Int} (h0 : cl r 13) (h1 : (-2147483648 ≤ x1 ∧ x1 ≤ 2147483647)) (h2 : (-2147483648 ≤ x2 ∧ x2 ≤ 2147483647)) (h3 : (-2147483648 ≤ x3 ∧ x3 ≤ 2147483647)) (he : EO e) (hb : b < 2) (hd : 9 ≤ d) : sC e b d 3376 [.inr (.inr (.inl r)), .inl x1, .inl x2, .inl x3] n (SQx n (SQi n (fun z => (0 ≤ z ∧ z ≤ 1))) (fun s => s = "java/lang/IllegalStateException" ∨ s = "java/lang/IndexOutOfBoundsException" ∨ s = "java/util/NoSuchElementException")) := by
  refine sK (fun M h => tst_X11_multiply h) (fun M0 => ?_)
  refine sblk (hv := false) kbl_X11_multiply kbs_X11_multiply (pc := 0) (pe := 10) (rk := 3) (i := 0) rfl (by decide +kernel) ?_
  simp only [kb_X11_multiply_0, s_ald_0, s_ild_1, s_ild_2, s_ild_3, s_bi, s_iv4, tfr_0, tfr_1, tfr_2, tfr_3, tfr_4, s_ire, trg, LR, IR, true_and, and_true, Nat.reduceAdd, Nat.reduceSub, eq_self]
  refine ⟨vok_of (s := 13) (by assumption) rfl, ?_⟩
  refine sc_xi (D := 8) (fun d' hd' => k_X11_combine (by assumption) (by omega) (by omega) (by omega) (by omega) (by omega) he (by omega) hd') (by omega) rfl ?_ (fun s hs _ => Or.inr ⟨s, rfl, rfl, (fun h => h.elim (fun h => absurd h.1 (by omega)) (fun h => h.elim (fun h => Or.inl (h)) (fun h => h.elim (fun h => Or.inr (Or.inl (h))) (fun h => Or.inr (Or.inr (h)))))) hs⟩)
  intro x6_ h6_
  try simp only [s_ire, trg, LR, IR, true_and, and_true, Nat.reduceAdd, Nat.reduceSub, eq_self]
  exact ⟨by omega, fun _ _ _ _ => Or.inl ⟨_, rfl, rfl, by omega⟩⟩
theorem k_X11_pairs {e : tE} {b : Nat} {d n : Nat} {r : Nat} {x1 : Int} {x2 : Int} {x3 : Int} {x4 : Int} {x5 : Int} (h0 : cl r 13) (h1 : (-2147483648 ≤ x1 ∧ x1 ≤ 2147483647)) (h2 : (-2147483648 ≤ x2 ∧ x2 ≤ 2147483647)) (h3 : (-2147483648 ≤ x3 ∧ x3 ≤ 2147483647)) (h4 : (-2147483648 ≤ x4 ∧ x4 ≤ 2147483647)) (h5 : (-2147483648 ≤ x5 ∧ x5 ≤ 2147483647)) (he : EO e) (hb : b < 2) (hd : 10 ≤ d) : sC e b d 3378 [.inr (.inr (.inl r)), .inl x1, .inl x2, .inl x3, .inl x4, .inl x5] n (SQx n (SQi n (fun z => (-2147483648 ≤ z ∧ z ≤ 2147483647))) (fun s => s = "java/lang/IllegalArgumentException" ∨ s = "java/lang/IndexOutOfBoundsException" ∨ s = "java/util/NoSuchElementException")) := by
  refine sK (fun M h => tst_X11_pairs h) (fun M0 => ?_)
  have n104 : ∀ (fu : Nat) (i6_104 : Int) (i7_104 : Int) (w8_104 : Option tV), 8 - i7_104 + 1 ≤ (fu : Int) → (-2147483648 ≤ i6_104 ∧ i6_104 ≤ 2147483647) → (0 ≤ i7_104 ∧ i7_104 ≤ 8) → (0 ≤ x1 ∧ x1 ≤ 3) → (0 ≤ x2 ∧ x2 ≤ 3) → (0 ≤ i6_104 ∧ i6_104 ≤ 8 * i7_104) → sT e b M0 d 3378 104 [] [some (.inr (.inr (.inl r))), some (.inl x1), some (.inl x2), some (.inl x3), some (.inl x4), some (.inl x5), some (.inl i6_104), some (.inl i7_104), w8_104] [] n (fun r n' _ => (SQx n (SQi n (fun z => (-2147483648 ≤ z ∧ z ≤ 2147483647))) (fun s => s = "java/lang/IllegalArgumentException" ∨ s = "java/lang/IndexOutOfBoundsException" ∨ s = "java/util/NoSuchElementException")) r n') := by
    intro fu
    induction fu with
    | zero =>
      intro i6_104 i7_104 w8_104 hm y104_0 y104_1 y104_2 y104_3 y104_4
      exfalso; omega
    | succ fu ih =>
      intro i6_104 i7_104 w8_104 hm y104_0 y104_1 y104_2 y104_3 y104_4
      have ih104 := ih
      clear ih
      have n119 : ∀ (fu : Nat) (i6_119 : Int) (i8_119 : Int), 8 - i8_119 + 1 ≤ (fu : Int) → (-2147483648 ≤ i6_119 ∧ i6_119 ≤ 2147483647) → (0 ≤ i7_104 ∧ i7_104 ≤ 7) → (0 ≤ i8_119 ∧ i8_119 ≤ 8) → (0 ≤ i6_119 ∧ i6_119 ≤ 8 * i7_104 + i8_119) → sT e b M0 d 3378 119 [] [some (.inr (.inr (.inl r))), some (.inl x1), some (.inl x2), some (.inl x3), some (.inl x4), some (.inl x5), some (.inl i6_119), some (.inl i7_104), some (.inl i8_119)] [] n (fun r n' _ => (SQx n (SQi n (fun z => (-2147483648 ≤ z ∧ z ≤ 2147483647))) (fun s => s = "java/lang/IllegalArgumentException" ∨ s = "java/lang/IndexOutOfBoundsException" ∨ s = "java/util/NoSuchElementException")) r n') := by
        intro fu
        induction fu with
        | zero =>
          intro i6_119 i8_119 hm y119_0 y119_1 y119_2 y119_3
          exfalso; omega
        | succ fu ih =>
          intro i6_119 i8_119 hm y119_0 y119_1 y119_2 y119_3
          have ih119 := ih
          clear ih
          have n185 : ∀ (i6_185 : Int), (-2147483648 ≤ i6_185 ∧ i6_185 ≤ 2147483647) → (0 ≤ i8_119 ∧ i8_119 ≤ 7) → (0 ≤ i6_185 ∧ i6_185 ≤ 8 * i7_104 + i8_119 + 1) → sT e b M0 d 3378 185 [] [some (.inr (.inr (.inl r))), some (.inl x1), some (.inl x2), some (.inl x3), some (.inl x4), some (.inl x5), some (.inl i6_185), some (.inl i7_104), some (.inl i8_119)] [] n (fun r n' _ => (SQx n (SQi n (fun z => (-2147483648 ≤ z ∧ z ≤ 2147483647))) (fun s => s = "java/lang/IllegalArgumentException" ∨ s = "java/lang/IndexOutOfBoundsException" ∨ s = "java/util/NoSuchElementException")) r n') := by
            intro i6_185 y185_0 y185_1 y185_2
            refine sblk (hv := false) kbl_X11_pairs kbs_X11_pairs (pc := 185) (pe := 191) (rk := 0) (i := 3) rfl (by decide +kernel) ?_
            simp only [kb_X11_pairs_185, s_inc8, tkl_n, tkl_i, tkl_l, tkl_r, s_goto, LR, IR, true_and, and_true, Nat.reduceAdd, Nat.reduceSub, eq_self]
            exact sT_w (ih119 _ _ (by omega) (by omega) (by omega) (by omega) (by omega))
          refine sblk (hv := false) kbl_X11_pairs kbs_X11_pairs (pc := 119) (pe := 185) (rk := 0) (i := 2) rfl (by decide +kernel) ?_
          simp only [kb_X11_pairs_119, s_ild8, s_ald_0, s_gf_13_10, s_gf_9_3, s_ic_ge, s_gf_13_4, s_gf_13_9, s_ild7, s_iv1, tfr_0, tfr_1, tfr_2, tfr_3, tfr_4, s_iv2, s_gf_13_5, s_ild_1, s_aa, s_if_eq, s_ild_2, s_inc6, tkl_n, tkl_i, tkl_l, tkl_r, s_nil, LR, IR, true_and, and_true, Nat.reduceAdd, Nat.reduceSub, eq_self]
          refine ⟨by assumption, fun x5_ h5_ => ?_⟩
          refine ⟨by assumption, fun x6_ h6_ g6_ k6_ => ?_⟩
          clear k6_
          refine ⟨by omega, fun h7_ => ?_, fun h7_ => ?_⟩
          · refine sT_w ?_
            refine sblk (hv := false) kbl_X11_pairs kbs_X11_pairs (pc := 191) (pe := 197) (rk := 0) (i := 4) rfl (by decide +kernel) ?_
            simp only [kb_X11_pairs_191, s_inc7, tkl_n, tkl_i, tkl_l, tkl_r, s_goto, LR, IR, true_and, and_true, Nat.reduceAdd, Nat.reduceSub, eq_self]
            exact sT_w (ih104 _ _ _ (by omega) (by omega) (by omega) (by omega) (by omega) (by omega))
          refine ⟨by assumption, fun x11_ h11_ => ?_⟩
          refine ⟨by assumption, fun x13_ h13_ => ?_⟩
          refine ⟨vok_of (s := 9) (by assumption) rfl, ?_⟩
          refine sc_r (D := 1) (fun d' hd' => k_X7_box (by assumption) (by omega) hd') (by omega) ?_
          intro x15_ h15_
          try simp only [s_ald_0, s_gf_13_10, s_ild8, s_iv1, tfr_0, tfr_1, tfr_2, tfr_3, tfr_4, s_iv2, s_gf_13_5, s_ild_1, s_aa, s_if_eq, s_ild_2, s_inc6, tkl_n, tkl_i, tkl_l, tkl_r, s_nil, LR, IR, true_and, and_true, Nat.reduceAdd, Nat.reduceSub, eq_self]
          refine ⟨by assumption, fun x17_ h17_ => ?_⟩
          refine ⟨vok_of (s := 9) (by assumption) rfl, ?_⟩
          refine sc_r (D := 1) (fun d' hd' => k_X7_box (by assumption) (by omega) hd') (by omega) ?_
          intro x19_ h19_
          try simp only [s_iv2, tfr_0, tfr_1, tfr_2, tfr_3, tfr_4, s_ald_0, s_gf_13_5, s_ild_1, s_aa, s_iv1, s_if_eq, s_ild_2, s_inc6, tkl_n, tkl_i, tkl_l, tkl_r, s_nil, LR, IR, true_and, and_true, Nat.reduceAdd, Nat.reduceSub, eq_self]
          refine ⟨vok_of (s := 8) (by assumption) rfl, ?_⟩
          refine sc_n (D := 0) (fun d' hd' => k_X6_aim (by assumption) (by assumption) (by assumption) (by omega) hd') (by omega) ?_
          intro h20_
          try simp only [s_ald_0, s_gf_13_5, s_ild_1, s_aa, s_iv1, tfr_0, tfr_1, tfr_2, tfr_3, tfr_4, s_if_eq, s_ild_2, s_inc6, tkl_n, tkl_i, tkl_l, tkl_r, s_nil, LR, IR, true_and, and_true, Nat.reduceAdd, Nat.reduceSub, eq_self]
          refine ⟨by assumption, fun x23_ h23_ => ?_⟩
          refine Or.inr ⟨aok_27 (by assumption) (by omega), fun x25_ h25_ => ?_⟩
          refine ⟨vok_of (s := 13) (by assumption) rfl, ?_⟩
          refine sc_i (D := 9) (fun d' hd' => k_X11_canBeZero (by assumption) (by assumption) he (by omega) hd') (by omega) ?_
          intro x26_ h26_
          try simp only [s_if_eq, s_ald_0, s_gf_13_5, s_ild_2, s_aa, s_iv1, tfr_0, tfr_1, tfr_2, tfr_3, tfr_4, s_inc6, tkl_n, tkl_i, tkl_l, tkl_r, s_nil, LR, IR, true_and, and_true, Nat.reduceAdd, Nat.reduceSub, eq_self]
          refine ⟨by omega, fun h27_ => ?_, fun h27_ => ?_⟩
          · exact sT_w (n185 _ (by omega) (by omega) (by omega))
          refine ⟨by assumption, fun x30_ h30_ => ?_⟩
          refine Or.inr ⟨aok_27 (by assumption) (by omega), fun x32_ h32_ => ?_⟩
          refine ⟨vok_of (s := 13) (by assumption) rfl, ?_⟩
          refine sc_i (D := 9) (fun d' hd' => k_X11_canBeZero (by assumption) (by assumption) he (by omega) hd') (by omega) ?_
          intro x33_ h33_
          try simp only [s_if_eq, s_inc6, tkl_n, tkl_i, tkl_l, tkl_r, s_nil, LR, IR, true_and, and_true, Nat.reduceAdd, Nat.reduceSub, eq_self]
          refine ⟨by omega, fun h34_ => ?_, fun h34_ => ?_⟩
          · exact sT_w (n185 _ (by omega) (by omega) (by omega))
          exact sT_w (n185 _ (by omega) (by omega) (by omega))
      refine sblk (hv := false) kbl_X11_pairs kbs_X11_pairs (pc := 104) (pe := 119) (rk := 0) (i := 1) rfl (by decide +kernel) ?_
      simp only [kb_X11_pairs_104, s_ild7, s_ald_0, s_gf_13_9, s_gf_9_3, s_ic_ge, s_ic, s_ist8, tkl_n, tkl_i, tkl_l, tkl_r, s_nil, LR, IR, true_and, and_true, Nat.reduceAdd, Nat.reduceSub, eq_self]
      refine ⟨by assumption, fun x38_ h38_ => ?_⟩
      refine ⟨by assumption, fun x39_ h39_ g39_ k39_ => ?_⟩
      clear k39_
      refine ⟨by omega, fun h40_ => ?_, fun h40_ => ?_⟩
      · refine sT_w ?_
        refine sblk (hv := false) kbl_X11_pairs kbs_X11_pairs (pc := 197) (pe := 200) (rk := 0) (i := 5) rfl (by decide +kernel) ?_
        simp only [kb_X11_pairs_197, s_ild6, s_ire, trg, LR, IR, true_and, and_true, Nat.reduceAdd, Nat.reduceSub, eq_self]
        exact fun _ _ _ _ => Or.inl ⟨_, rfl, rfl, by omega⟩
      exact sT_w (n119 4294967400 _ _ (by omega) (by omega) (by omega) (by omega) (by omega))
  refine sblk (hv := false) kbl_X11_pairs kbs_X11_pairs (pc := 0) (pe := 104) (rk := 0) (i := 0) rfl (by decide +kernel) ?_
  simp only [kb_X11_pairs_0, s_ald_0, s_ild_3, s_iv1, tfr_0, tfr_1, tfr_2, tfr_3, tfr_4, s_ild4, s_ild_1, s_ild_2, s_ild5, s_ic, s_iv2, s_gf_13_9, s_gf_13_3, s_gf_13_4, s_iv0, s_iv3, s_gf_13_10, s_ist6, tkl_n, tkl_i, tkl_l, tkl_r, s_ist7, s_nil, LR, IR, true_and, and_true, Nat.reduceAdd, Nat.reduceSub, eq_self]
  refine ⟨vok_of (s := 13) (by assumption) rfl, ?_⟩
  refine sc_xn (D := 0) (fun d' hd' => k_X11_checkShelf (by assumption) (by omega) hd') (by omega) rfl ?_ (fun s hs _ => Or.inr ⟨s, rfl, rfl, (fun h => Or.inr (Or.inl (h))) hs⟩)
  intro h47_
  try simp only [s_ald_0, s_ild4, s_iv1, tfr_0, tfr_1, tfr_2, tfr_3, tfr_4, s_ild_1, s_ild_2, s_ild5, s_ic, s_iv2, s_ild_3, s_gf_13_9, s_gf_13_3, s_gf_13_4, s_iv0, s_iv3, s_gf_13_10, s_ist6, tkl_n, tkl_i, tkl_l, tkl_r, s_ist7, s_nil, LR, IR, true_and, and_true, Nat.reduceAdd, Nat.reduceSub, eq_self]
  refine ⟨vok_of (s := 13) (by assumption) rfl, ?_⟩
  refine sc_xn (D := 0) (fun d' hd' => k_X11_checkShelf (by assumption) (by omega) hd') (by omega) rfl ?_ (fun s hs _ => Or.inr ⟨s, rfl, rfl, (fun h => Or.inr (Or.inl (h))) hs⟩)
  intro h50_
  try simp only [s_ald_0, s_ild_1, s_iv1, tfr_0, tfr_1, tfr_2, tfr_3, tfr_4, s_ild_2, s_ild5, s_ic, s_iv2, s_ild_3, s_ild4, s_gf_13_9, s_gf_13_3, s_gf_13_4, s_iv0, s_iv3, s_gf_13_10, s_ist6, tkl_n, tkl_i, tkl_l, tkl_r, s_ist7, s_nil, LR, IR, true_and, and_true, Nat.reduceAdd, Nat.reduceSub, eq_self]
  refine ⟨vok_of (s := 13) (by assumption) rfl, ?_⟩
  refine sc_xn (D := 0) (fun d' hd' => k_X11_checkFormula (by assumption) (by omega) hd') (by omega) rfl ?_ (fun s hs _ => Or.inr ⟨s, rfl, rfl, (fun h => Or.inr (Or.inl (h))) hs⟩)
  intro h53_
  try simp only [s_ald_0, s_ild_2, s_iv1, tfr_0, tfr_1, tfr_2, tfr_3, tfr_4, s_ild5, s_ic, s_iv2, s_ild_1, s_ild_3, s_ild4, s_gf_13_9, s_gf_13_3, s_gf_13_4, s_iv0, s_iv3, s_gf_13_10, s_ist6, tkl_n, tkl_i, tkl_l, tkl_r, s_ist7, s_nil, LR, IR, true_and, and_true, Nat.reduceAdd, Nat.reduceSub, eq_self]
  refine ⟨vok_of (s := 13) (by assumption) rfl, ?_⟩
  refine sc_xn (D := 0) (fun d' hd' => k_X11_checkFormula (by assumption) (by omega) hd') (by omega) rfl ?_ (fun s hs _ => Or.inr ⟨s, rfl, rfl, (fun h => Or.inr (Or.inl (h))) hs⟩)
  intro h56_
  try simp only [s_ald_0, s_ild5, s_ic, s_iv2, tfr_0, tfr_1, tfr_2, tfr_3, tfr_4, s_ild_1, s_iv1, s_ild_2, s_ild_3, s_ild4, s_gf_13_9, s_gf_13_3, s_gf_13_4, s_iv0, s_iv3, s_gf_13_10, s_ist6, tkl_n, tkl_i, tkl_l, tkl_r, s_ist7, s_nil, LR, IR, true_and, and_true, Nat.reduceAdd, Nat.reduceSub, eq_self]
  refine ⟨vok_of (s := 13) (by assumption) rfl, ?_⟩
  refine sc_xn (D := 0) (fun d' hd' => k_X11_checkCuts (by assumption) (by omega) (by omega) hd') (by omega) rfl ?_ (fun s hs _ => Or.inr ⟨s, rfl, rfl, (fun h => Or.inl (h)) hs⟩)
  intro h60_
  try simp only [s_ald_0, s_ild_1, s_iv1, tfr_0, tfr_1, tfr_2, tfr_3, tfr_4, s_ild_2, s_ild_3, s_ild4, s_gf_13_9, s_gf_13_3, s_ild5, s_gf_13_4, s_iv0, s_iv3, s_gf_13_10, s_ic, s_ist6, tkl_n, tkl_i, tkl_l, tkl_r, s_ist7, s_nil, LR, IR, true_and, and_true, Nat.reduceAdd, Nat.reduceSub, eq_self]
  refine ⟨vok_of (s := 13) (by assumption) rfl, ?_⟩
  refine sc_xn (D := 0) (fun d' hd' => k_X11_checkDefined (by assumption) (by omega) hd') (by omega) rfl ?_ (fun s hs _ => Or.inr ⟨s, rfl, rfl, (fun h => Or.inr (Or.inr (h))) hs⟩)
  intro h63_
  try simp only [s_ald_0, s_ild_2, s_iv1, tfr_0, tfr_1, tfr_2, tfr_3, tfr_4, s_ild_3, s_ild4, s_gf_13_9, s_gf_13_3, s_ild5, s_gf_13_4, s_iv0, s_iv3, s_gf_13_10, s_ic, s_ist6, tkl_n, tkl_i, tkl_l, tkl_r, s_ist7, s_nil, LR, IR, true_and, and_true, Nat.reduceAdd, Nat.reduceSub, eq_self]
  refine ⟨vok_of (s := 13) (by assumption) rfl, ?_⟩
  refine sc_xn (D := 0) (fun d' hd' => k_X11_checkDefined (by assumption) (by omega) hd') (by omega) rfl ?_ (fun s hs _ => Or.inr ⟨s, rfl, rfl, (fun h => Or.inr (Or.inr (h))) hs⟩)
  intro h66_
  try simp only [s_ald_0, s_ild_3, s_iv1, tfr_0, tfr_1, tfr_2, tfr_3, tfr_4, s_ild4, s_gf_13_9, s_gf_13_3, s_ild5, s_gf_13_4, s_iv0, s_iv3, s_gf_13_10, s_ic, s_ist6, tkl_n, tkl_i, tkl_l, tkl_r, s_ist7, s_nil, LR, IR, true_and, and_true, Nat.reduceAdd, Nat.reduceSub, eq_self]
  refine ⟨vok_of (s := 13) (by assumption) rfl, ?_⟩
  refine sc_xn (D := 2) (fun d' hd' => k_X11_checkHeld (by assumption) (by omega) hd') (by omega) rfl ?_ (fun s hs _ => Or.inr ⟨s, rfl, rfl, (fun h => Or.inr (Or.inr (h))) hs⟩)
  intro h69_
  try simp only [s_ald_0, s_ild4, s_iv1, tfr_0, tfr_1, tfr_2, tfr_3, tfr_4, s_gf_13_9, s_gf_13_3, s_ild_3, s_ild5, s_gf_13_4, s_iv0, s_iv3, s_gf_13_10, s_ic, s_ist6, tkl_n, tkl_i, tkl_l, tkl_r, s_ist7, s_nil, LR, IR, true_and, and_true, Nat.reduceAdd, Nat.reduceSub, eq_self]
  refine ⟨vok_of (s := 13) (by assumption) rfl, ?_⟩
  refine sc_xn (D := 2) (fun d' hd' => k_X11_checkHeld (by assumption) (by omega) hd') (by omega) rfl ?_ (fun s hs _ => Or.inr ⟨s, rfl, rfl, (fun h => Or.inr (Or.inr (h))) hs⟩)
  intro h72_
  try simp only [s_ald_0, s_gf_13_9, s_gf_13_3, s_ild_3, s_iv1, tfr_0, tfr_1, tfr_2, tfr_3, tfr_4, s_ild5, s_gf_13_4, s_iv0, s_iv3, s_gf_13_10, s_ild4, s_ic, s_ist6, tkl_n, tkl_i, tkl_l, tkl_r, s_ist7, s_nil, LR, IR, true_and, and_true, Nat.reduceAdd, Nat.reduceSub, eq_self]
  refine ⟨by assumption, fun x74_ h74_ => ?_⟩
  refine ⟨by assumption, fun x76_ h76_ => ?_⟩
  refine ⟨vok_of (s := 11) (by assumption) rfl, ?_⟩
  refine sc_r (D := 1) (fun d' hd' => k_X9_box (by assumption) (by omega) hd') (by omega) ?_
  intro x78_ h78_
  try simp only [s_ild5, s_ald_0, s_gf_13_4, s_iv0, tfr_0, tfr_1, tfr_2, tfr_3, tfr_4, s_iv3, s_gf_13_10, s_gf_13_3, s_ild4, s_iv1, s_ic, s_ist6, tkl_n, tkl_i, tkl_l, tkl_r, s_ist7, s_nil, LR, IR, true_and, and_true, Nat.reduceAdd, Nat.reduceSub, eq_self]
  refine ⟨by assumption, fun x81_ h81_ => ?_⟩
  refine ⟨vok_of (s := 8) (by assumption) rfl, ?_⟩
  refine sc_l (D := 0) (fun d' hd' => k_X6_unit (by assumption) hd') (by omega) ?_
  intro x82_ h82_
  try simp only [s_iv3, tfr_0, tfr_1, tfr_2, tfr_3, tfr_4, s_ald_0, s_gf_13_10, s_gf_13_3, s_ild4, s_iv1, s_ild5, s_gf_13_4, s_iv0, s_ic, s_ist6, tkl_n, tkl_i, tkl_l, tkl_r, s_ist7, s_nil, LR, IR, true_and, and_true, Nat.reduceAdd, Nat.reduceSub, eq_self]
  refine ⟨vok_of (s := 9) (by assumption) rfl, ?_⟩
  refine sc_n (D := 3) (fun d' hd' => k_X7_cut (by assumption) (by assumption) (by omega) (by omega) (by omega) hd') (by omega) ?_
  intro h83_
  try simp only [s_ald_0, s_gf_13_10, s_gf_13_3, s_ild4, s_iv1, tfr_0, tfr_1, tfr_2, tfr_3, tfr_4, s_ild5, s_gf_13_4, s_iv0, s_iv3, s_ic, s_ist6, tkl_n, tkl_i, tkl_l, tkl_r, s_ist7, s_nil, LR, IR, true_and, and_true, Nat.reduceAdd, Nat.reduceSub, eq_self]
  refine ⟨by assumption, fun x85_ h85_ => ?_⟩
  refine ⟨by assumption, fun x87_ h87_ => ?_⟩
  refine ⟨vok_of (s := 11) (by assumption) rfl, ?_⟩
  refine sc_r (D := 1) (fun d' hd' => k_X9_box (by assumption) (by omega) hd') (by omega) ?_
  intro x89_ h89_
  try simp only [s_ild5, s_ald_0, s_gf_13_4, s_iv0, tfr_0, tfr_1, tfr_2, tfr_3, tfr_4, s_iv3, s_ic, s_ist6, tkl_n, tkl_i, tkl_l, tkl_r, s_ist7, s_nil, LR, IR, true_and, and_true, Nat.reduceAdd, Nat.reduceSub, eq_self]
  refine ⟨by assumption, fun x92_ h92_ => ?_⟩
  refine ⟨vok_of (s := 8) (by assumption) rfl, ?_⟩
  refine sc_l (D := 0) (fun d' hd' => k_X6_unit (by assumption) hd') (by omega) ?_
  intro x93_ h93_
  try simp only [s_iv3, tfr_0, tfr_1, tfr_2, tfr_3, tfr_4, s_ic, s_ist6, tkl_n, tkl_i, tkl_l, tkl_r, s_ist7, s_nil, LR, IR, true_and, and_true, Nat.reduceAdd, Nat.reduceSub, eq_self]
  refine ⟨vok_of (s := 9) (by assumption) rfl, ?_⟩
  refine sc_n (D := 3) (fun d' hd' => k_X7_cut (by assumption) (by assumption) (by omega) (by omega) (by omega) hd') (by omega) ?_
  intro h94_
  try simp only [s_ic, s_ist6, tkl_n, tkl_i, tkl_l, tkl_r, s_ist7, s_nil, LR, IR, true_and, and_true, Nat.reduceAdd, Nat.reduceSub, eq_self]
  exact sT_w (n104 4294967400 _ _ _ (by omega) (by omega) (by omega) (by omega) (by omega) (by omega))
theorem k_X11_power {e : tE} {b : Nat} {d n : Nat} {r : Nat} {x1 : Int} {x2 : Int} {x3 : Int} (h0 : cl r 13) (h1 : (-2147483648 ≤ x1 ∧ x1 ≤ 2147483647)) (h2 : (-2147483648 ≤ x2 ∧ x2 ≤ 2147483647)) (h3 : (-2147483648 ≤ x3 ∧ x3 ≤ 2147483647)) (he : EO e) (hb : b < 2) (hd : 9 ≤ d) : sC e b d 3381 [.inr (.inr (.inl r)), .inl x1, .inl x2, .inl x3] n (SQx n (SQi n (fun z => (0 ≤ z ∧ z ≤ 1))) (fun s => s = "java/lang/IllegalArgumentException" ∨ s = "java/lang/IllegalStateException" ∨ s = "java/lang/IndexOutOfBoundsException" ∨ s = "java/util/NoSuchElementException")) := by
  refine sK (fun M h => tst_X11_power h) (fun M0 => ?_)
  have n20 : sT e b M0 d 3381 20 [] [some (.inr (.inr (.inl r))), some (.inl x1), some (.inl x2), some (.inl x3)] [] n (fun r n' _ => (SQx n (SQi n (fun z => (0 ≤ z ∧ z ≤ 1))) (fun s => s = "java/lang/IllegalArgumentException" ∨ s = "java/lang/IllegalStateException" ∨ s = "java/lang/IndexOutOfBoundsException" ∨ s = "java/util/NoSuchElementException")) r n') := by
    refine sblk (hv := false) kbl_X11_power kbs_X11_power (pc := 20) (pe := 23) (rk := 3) (i := 1) rfl (by decide +kernel) ?_
    simp only [kb_X11_power_20, s_new, LR, IR, true_and, and_true, Nat.reduceAdd, Nat.reduceSub, eq_self]
    exact fun _ _ _ _ => Or.inr ⟨_, rfl, rfl, Or.inl (rfl)⟩
  refine sblk (hv := false) kbl_X11_power kbs_X11_power (pc := 0) (pe := 20) (rk := 3) (i := 0) rfl (by decide +kernel) ?_
  simp only [kb_X11_power_0, s_ald_0, s_ild_1, s_iv1, tfr_0, tfr_1, tfr_2, tfr_3, tfr_4, s_ild_2, s_ild_3, s_if_lt, s_bi, s_ic_le, s_nil, LR, IR, true_and, and_true, Nat.reduceAdd, Nat.reduceSub, eq_self]
  refine ⟨vok_of (s := 13) (by assumption) rfl, ?_⟩
  refine sc_xn (D := 0) (fun d' hd' => k_X11_checkShelf (by assumption) (by omega) hd') (by omega) rfl ?_ (fun s hs _ => Or.inr ⟨s, rfl, rfl, (fun h => Or.inr (Or.inr (Or.inl (h)))) hs⟩)
  intro h4_
  try simp only [s_ald_0, s_ild_2, s_iv1, tfr_0, tfr_1, tfr_2, tfr_3, tfr_4, s_ild_3, s_if_lt, s_bi, s_ic_le, s_nil, LR, IR, true_and, and_true, Nat.reduceAdd, Nat.reduceSub, eq_self]
  refine ⟨vok_of (s := 13) (by assumption) rfl, ?_⟩
  refine sc_xn (D := 0) (fun d' hd' => k_X11_checkShelf (by assumption) (by omega) hd') (by omega) rfl ?_ (fun s hs _ => Or.inr ⟨s, rfl, rfl, (fun h => Or.inr (Or.inr (Or.inl (h)))) hs⟩)
  intro h7_
  try simp only [s_ild_3, s_if_lt, s_bi, s_ic_le, s_nil, LR, IR, true_and, and_true, Nat.reduceAdd, Nat.reduceSub, eq_self]
  refine ⟨by omega, fun h9_ => ?_, fun h9_ => ?_⟩
  · exact sT_w (n20)
  refine ⟨by omega, fun h12_ => ?_, fun h12_ => ?_⟩
  · refine sT_w ?_
    refine sblk (hv := false) kbl_X11_power kbs_X11_power (pc := 30) (pe := 40) (rk := 3) (i := 3) rfl (by decide +kernel) ?_
    simp only [kb_X11_power_30, s_ald_0, s_ild_1, s_ild_2, s_bi, s_ild_3, s_iv4, tfr_0, tfr_1, tfr_2, tfr_3, tfr_4, s_ire, trg, LR, IR, true_and, and_true, Nat.reduceAdd, Nat.reduceSub, eq_self]
    refine ⟨vok_of (s := 13) (by assumption) rfl, ?_⟩
    refine sc_xi (D := 8) (fun d' hd' => k_X11_change (by assumption) (by omega) (by omega) (by omega) (by omega) (by omega) he (by omega) hd') (by omega) rfl ?_ (fun s hs _ => Or.inr ⟨s, rfl, rfl, (fun h => h.elim (fun h => absurd h.1 (by omega)) (fun h => h.elim (fun h => Or.inr (Or.inl (h))) (fun h => Or.inr (Or.inr (Or.inr (h)))))) hs⟩)
    intro x18_ h18_
    try simp only [s_ire, trg, LR, IR, true_and, and_true, Nat.reduceAdd, Nat.reduceSub, eq_self]
    exact ⟨by omega, fun _ _ _ _ => Or.inl ⟨_, rfl, rfl, by omega⟩⟩
  exact sT_w (n20)
theorem k_X11_put {e : tE} {b : Nat} {d n : Nat} {r : Nat} {x1 : Int} {x2 : Int} {x3 : Int} (h0 : cl r 13) (h1 : (-2147483648 ≤ x1 ∧ x1 ≤ 2147483647)) (h2 : (-9223372036854775808 ≤ x2 ∧ x2 < 9223372036854775808)) (h3 : (-2147483648 ≤ x3 ∧ x3 ≤ 2147483647)) (he : EO e) (hb : b < 2) (hd : 8 ≤ d) : sC e b d 3382 [.inr (.inr (.inl r)), .inl x1, .inr (.inl x2), .inl x3] n (SQx n (SQi n (fun z => (0 ≤ z ∧ z ≤ 1))) (fun s => s = "java/lang/IllegalArgumentException" ∨ s = "java/lang/IllegalStateException" ∨ s = "java/lang/IndexOutOfBoundsException")) := by
  refine sK (fun M h => tst_X11_put h) (fun M0 => ?_)
  have n17 : sT e b M0 d 3382 17 [] [some (.inr (.inr (.inl r))), some (.inl x1), some (.inr (.inl x2)), none, some (.inl x3)] [] n (fun r n' _ => (SQx n (SQi n (fun z => (0 ≤ z ∧ z ≤ 1))) (fun s => s = "java/lang/IllegalArgumentException" ∨ s = "java/lang/IllegalStateException" ∨ s = "java/lang/IndexOutOfBoundsException")) r n') := by
    refine sblk (hv := false) kbl_X11_put kbs_X11_put (pc := 17) (pe := 20) (rk := 3) (i := 1) rfl (by decide +kernel) ?_
    simp only [kb_X11_put_17, s_new, LR, IR, true_and, and_true, Nat.reduceAdd, Nat.reduceSub, eq_self]
    exact fun _ _ _ _ => Or.inr ⟨_, rfl, rfl, Or.inl (rfl)⟩
  refine sblk (hv := false) kbl_X11_put kbs_X11_put (pc := 0) (pe := 17) (rk := 3) (i := 0) rfl (by decide +kernel) ?_
  simp only [kb_X11_put_0, s_ald_0, s_ild_1, s_iv1, tfr_0, tfr_1, tfr_2, tfr_3, tfr_4, s_ild4, s_if_lt, s_bi, s_ic_le, s_nil, LR, IR, true_and, and_true, Nat.reduceAdd, Nat.reduceSub, eq_self]
  refine ⟨vok_of (s := 13) (by assumption) rfl, ?_⟩
  refine sc_xn (D := 0) (fun d' hd' => k_X11_checkShelf (by assumption) (by omega) hd') (by omega) rfl ?_ (fun s hs _ => Or.inr ⟨s, rfl, rfl, (fun h => Or.inr (Or.inr (h))) hs⟩)
  intro h4_
  try simp only [s_ild4, s_if_lt, s_bi, s_ic_le, s_nil, LR, IR, true_and, and_true, Nat.reduceAdd, Nat.reduceSub, eq_self]
  refine ⟨by omega, fun h6_ => ?_, fun h6_ => ?_⟩
  · exact sT_w (n17)
  refine ⟨by omega, fun h9_ => ?_, fun h9_ => ?_⟩
  · refine sT_w ?_
    refine sblk (hv := false) kbl_X11_put kbs_X11_put (pc := 27) (pe := 52) (rk := 3) (i := 3) rfl (by decide +kernel) ?_
    simp only [kb_X11_put_27, s_ald_0, s_gf_13_4, s_iv0, tfr_0, tfr_1, tfr_2, tfr_3, tfr_4, s_ild_1, s_bi, s_lld_2, s_ild4, s_iv3, s_iv2, s_ire, trg, LR, IR, true_and, and_true, Nat.reduceAdd, Nat.reduceSub, eq_self]
    refine ⟨by assumption, fun x11_ h11_ => ?_⟩
    refine ⟨vok_of (s := 8) (by assumption) rfl, ?_⟩
    refine sc_n (D := 0) (fun d' hd' => k_X6_clear (by assumption) (by omega) hd') (by omega) ?_
    intro h12_
    try simp only [s_ald_0, s_ild_1, s_gf_13_4, s_bi, s_lld_2, s_ild4, s_iv3, tfr_0, tfr_1, tfr_2, tfr_3, tfr_4, s_iv2, s_ire, trg, LR, IR, true_and, and_true, Nat.reduceAdd, Nat.reduceSub, eq_self]
    refine ⟨by assumption, fun x16_ h16_ => ?_⟩
    refine ⟨vok_of (s := 8) (by assumption) rfl, ?_⟩
    refine sc_i (D := 7) (fun d' hd' => k_X6_make (by assumption) (by omega) (by omega) (by omega) (by omega) he (by omega) hd') (by omega) ?_
    intro x20_ h20_
    try simp only [s_iv2, tfr_0, tfr_1, tfr_2, tfr_3, tfr_4, s_ire, trg, LR, IR, true_and, and_true, Nat.reduceAdd, Nat.reduceSub, eq_self]
    refine ⟨vok_of (s := 13) (by assumption) rfl, ?_⟩
    refine sc_xi (D := 4) (fun d' hd' => k_X11_become (by assumption) (by omega) (by omega) (by omega) hd') (by omega) rfl ?_ (fun s hs _ => Or.inr ⟨s, rfl, rfl, (fun h => h.elim (fun h => absurd h.1 (by omega)) (fun h => Or.inr (Or.inl (h.2)))) hs⟩)
    intro x21_ h21_
    try simp only [s_ire, trg, LR, IR, true_and, and_true, Nat.reduceAdd, Nat.reduceSub, eq_self]
    exact ⟨by omega, fun _ _ _ _ => Or.inl ⟨_, rfl, rfl, by omega⟩⟩
  exact sT_w (n17)
theorem k_X11_root {e : tE} {b : Nat} {d n : Nat} {r : Nat} {x1 : Int} {x2 : Int} {x3 : Int} (h0 : cl r 13) (h1 : (-2147483648 ≤ x1 ∧ x1 ≤ 2147483647)) (h2 : (-2147483648 ≤ x2 ∧ x2 ≤ 2147483647)) (h3 : (-2147483648 ≤ x3 ∧ x3 ≤ 2147483647)) (he : EO e) (hb : b < 2) (hd : 9 ≤ d) : sC e b d 3384 [.inr (.inr (.inl r)), .inl x1, .inl x2, .inl x3] n (SQx n (SQi n (fun z => (0 ≤ z ∧ z ≤ 1))) (fun s => s = "java/lang/ArithmeticException" ∨ s = "java/lang/IllegalArgumentException" ∨ s = "java/lang/IllegalStateException" ∨ s = "java/lang/IndexOutOfBoundsException" ∨ s = "java/util/NoSuchElementException")) := by
  refine sK (fun M h => tst_X11_root h) (fun M0 => ?_)
  have n20 : sT e b M0 d 3384 20 [] [some (.inr (.inr (.inl r))), some (.inl x1), some (.inl x2), some (.inl x3)] [] n (fun r n' _ => (SQx n (SQi n (fun z => (0 ≤ z ∧ z ≤ 1))) (fun s => s = "java/lang/ArithmeticException" ∨ s = "java/lang/IllegalArgumentException" ∨ s = "java/lang/IllegalStateException" ∨ s = "java/lang/IndexOutOfBoundsException" ∨ s = "java/util/NoSuchElementException")) r n') := by
    refine sblk (hv := false) kbl_X11_root kbs_X11_root (pc := 20) (pe := 23) (rk := 3) (i := 1) rfl (by decide +kernel) ?_
    simp only [kb_X11_root_20, s_new, LR, IR, true_and, and_true, Nat.reduceAdd, Nat.reduceSub, eq_self]
    exact fun _ _ _ _ => Or.inr ⟨_, rfl, rfl, Or.inr (Or.inl (rfl))⟩
  refine sblk (hv := false) kbl_X11_root kbs_X11_root (pc := 0) (pe := 20) (rk := 3) (i := 0) rfl (by decide +kernel) ?_
  simp only [kb_X11_root_0, s_ald_0, s_ild_1, s_iv1, tfr_0, tfr_1, tfr_2, tfr_3, tfr_4, s_ild_2, s_ild_3, s_ic, s_ic_lt, s_ic_le, s_nil, LR, IR, true_and, and_true, Nat.reduceAdd, Nat.reduceSub, eq_self]
  refine ⟨vok_of (s := 13) (by assumption) rfl, ?_⟩
  refine sc_xn (D := 0) (fun d' hd' => k_X11_checkShelf (by assumption) (by omega) hd') (by omega) rfl ?_ (fun s hs _ => Or.inr ⟨s, rfl, rfl, (fun h => Or.inr (Or.inr (Or.inr (Or.inl (h))))) hs⟩)
  intro h4_
  try simp only [s_ald_0, s_ild_2, s_iv1, tfr_0, tfr_1, tfr_2, tfr_3, tfr_4, s_ild_3, s_ic, s_ic_lt, s_ic_le, s_nil, LR, IR, true_and, and_true, Nat.reduceAdd, Nat.reduceSub, eq_self]
  refine ⟨vok_of (s := 13) (by assumption) rfl, ?_⟩
  refine sc_xn (D := 0) (fun d' hd' => k_X11_checkShelf (by assumption) (by omega) hd') (by omega) rfl ?_ (fun s hs _ => Or.inr ⟨s, rfl, rfl, (fun h => Or.inr (Or.inr (Or.inr (Or.inl (h))))) hs⟩)
  intro h7_
  try simp only [s_ild_3, s_ic, s_ic_lt, s_ic_le, s_nil, LR, IR, true_and, and_true, Nat.reduceAdd, Nat.reduceSub, eq_self]
  refine ⟨by omega, fun h10_ => ?_, fun h10_ => ?_⟩
  · exact sT_w (n20)
  refine ⟨by omega, fun h13_ => ?_, fun h13_ => ?_⟩
  · refine sT_w ?_
    refine sblk (hv := false) kbl_X11_root kbs_X11_root (pc := 30) (pe := 40) (rk := 3) (i := 3) rfl (by decide +kernel) ?_
    simp only [kb_X11_root_30, s_ald_0, s_ild_1, s_ild_2, s_bi, s_ild_3, s_iv4, tfr_0, tfr_1, tfr_2, tfr_3, tfr_4, s_ire, trg, LR, IR, true_and, and_true, Nat.reduceAdd, Nat.reduceSub, eq_self]
    refine ⟨vok_of (s := 13) (by assumption) rfl, ?_⟩
    refine sc_xi (D := 8) (fun d' hd' => k_X11_change (by assumption) (by omega) (by omega) (by omega) (by omega) (by omega) he (by omega) hd') (by omega) rfl ?_ (fun s hs _ => Or.inr ⟨s, rfl, rfl, (fun h => h.elim (fun h => Or.inl (h.2)) (fun h => h.elim (fun h => Or.inr (Or.inr (Or.inl (h)))) (fun h => Or.inr (Or.inr (Or.inr (Or.inr (h))))))) hs⟩)
    intro x19_ h19_
    try simp only [s_ire, trg, LR, IR, true_and, and_true, Nat.reduceAdd, Nat.reduceSub, eq_self]
    exact ⟨by omega, fun _ _ _ _ => Or.inl ⟨_, rfl, rfl, by omega⟩⟩
  exact sT_w (n20)
theorem k_X11_solve {e : tE} {b : Nat} {d n : Nat} {r : Nat} {x1 : Int} {x2 : Int} {x3 : Int} (h0 : cl r 13) (h1 : (-2147483648 ≤ x1 ∧ x1 ≤ 2147483647)) (h2 : (-2147483648 ≤ x2 ∧ x2 ≤ 2147483647)) (h3 : (0 ≤ x3 ∧ x3 ≤ 1)) (he : EO e) (hb : b < 2) (hd : 9 ≤ d) : sC e b d 3390 [.inr (.inr (.inl r)), .inl x1, .inl x2, .inl x3] n (SQx n (SQi n (fun z => (0 ≤ z ∧ z ≤ 1))) (fun s => s = "java/lang/ArithmeticException" ∨ s = "java/lang/IllegalStateException" ∨ s = "java/lang/IndexOutOfBoundsException" ∨ s = "java/util/NoSuchElementException")) := by
  refine sK (fun M h => tst_X11_solve h) (fun M0 => ?_)
  have n14 : ∀ (w4_14 : Option tV), (0 ≤ x3 ∧ x3 ≤ 1) → sT e b M0 d 3390 14 [] [some (.inr (.inr (.inl r))), some (.inl x1), some (.inl x2), some (.inl x3), w4_14] [] n (fun r n' _ => (SQx n (SQi n (fun z => (0 ≤ z ∧ z ≤ 1))) (fun s => s = "java/lang/ArithmeticException" ∨ s = "java/lang/IllegalStateException" ∨ s = "java/lang/IndexOutOfBoundsException" ∨ s = "java/util/NoSuchElementException")) r n') := by
    intro w4_14 y14_0
    refine sblk (hv := false) kbl_X11_solve kbs_X11_solve (pc := 14) (pe := 17) (rk := 3) (i := 1) rfl (by decide +kernel) ?_
    simp only [kb_X11_solve_14, s_new, LR, IR, true_and, and_true, Nat.reduceAdd, Nat.reduceSub, eq_self]
    exact fun _ _ _ _ => Or.inr ⟨_, rfl, rfl, Or.inr (Or.inr (Or.inl (rfl)))⟩
  refine sblk (hv := false) kbl_X11_solve kbs_X11_solve (pc := 0) (pe := 14) (rk := 3) (i := 0) rfl (by decide +kernel) ?_
  simp only [kb_X11_solve_0, s_ald_0, s_ild_1, s_iv1, tfr_0, tfr_1, tfr_2, tfr_3, tfr_4, s_ild_2, s_if_lt, s_ic, s_ic_le, s_nil, LR, IR, true_and, and_true, Nat.reduceAdd, Nat.reduceSub, eq_self]
  refine ⟨vok_of (s := 13) (by assumption) rfl, ?_⟩
  refine sc_xn (D := 0) (fun d' hd' => k_X11_checkShelf (by assumption) (by omega) hd') (by omega) rfl ?_ (fun s hs _ => Or.inr ⟨s, rfl, rfl, (fun h => Or.inr (Or.inr (Or.inl (h)))) hs⟩)
  intro h4_
  try simp only [s_ild_2, s_if_lt, s_ic, s_ic_le, s_nil, LR, IR, true_and, and_true, Nat.reduceAdd, Nat.reduceSub, eq_self]
  refine ⟨by omega, fun h6_ => ?_, fun h6_ => ?_⟩
  · exact sT_w (n14 _ (by omega))
  refine ⟨by omega, fun h9_ => ?_, fun h9_ => ?_⟩
  · have n27 : ∀ (fu : Nat) (i4_27 : Int), 7 - i4_27 + 1 ≤ (fu : Int) → (0 ≤ x2 ∧ x2 ≤ 4) → (0 ≤ x3 ∧ x3 ≤ 1) → (0 ≤ i4_27 ∧ i4_27 ≤ 7) → sT e b M0 d 3390 27 [] [some (.inr (.inr (.inl r))), some (.inl x1), some (.inl x2), some (.inl x3), some (.inl i4_27)] [] n (fun r n' _ => (SQx n (SQi n (fun z => (0 ≤ z ∧ z ≤ 1))) (fun s => s = "java/lang/ArithmeticException" ∨ s = "java/lang/IllegalStateException" ∨ s = "java/lang/IndexOutOfBoundsException" ∨ s = "java/util/NoSuchElementException")) r n') := by
      intro fu
      induction fu with
      | zero =>
        intro i4_27 hm y27_0 y27_1 y27_2
        exfalso; omega
      | succ fu ih =>
        intro i4_27 hm y27_0 y27_1 y27_2
        have ih27 := ih
        clear ih
        refine sblk (hv := false) kbl_X11_solve kbs_X11_solve (pc := 27) (pe := 48) (rk := 3) (i := 4) rfl (by decide +kernel) ?_
        simp only [kb_X11_solve_27, s_ild4, s_bi, s_ic_ge, s_ald_0, s_ild_2, s_iadd, s_iv1, tfr_0, tfr_1, tfr_2, tfr_3, tfr_4, s_inc4, tkl_n, tkl_i, tkl_l, tkl_r, s_goto, LR, IR, true_and, and_true, Nat.reduceAdd, Nat.reduceSub, eq_self]
        refine ⟨by omega, fun h12_ => ?_, fun h12_ => ?_⟩
        · have n92 : ∀ (is0_92 : Int), (6 ≤ i4_27 ∧ i4_27 ≤ 7) → (0 ≤ is0_92 ∧ is0_92 ≤ 2) → sT e b M0 d 3390 92 [] [some (.inr (.inr (.inl r))), some (.inl x1), some (.inl x2), some (.inl x3), some (.inl i4_27)] [.inl is0_92] n (fun r n' _ => (SQx n (SQi n (fun z => (0 ≤ z ∧ z ≤ 1))) (fun s => s = "java/lang/ArithmeticException" ∨ s = "java/lang/IllegalStateException" ∨ s = "java/lang/IndexOutOfBoundsException" ∨ s = "java/util/NoSuchElementException")) r n') := by
            intro is0_92 y92_0 y92_1
            have n115 : ∀ (i4_115 : Int), (0 ≤ i4_115 ∧ i4_115 ≤ 2) → sT e b M0 d 3390 115 [] [some (.inr (.inr (.inl r))), some (.inl x1), some (.inl x2), some (.inl x3), some (.inl i4_115)] [] n (fun r n' _ => (SQx n (SQi n (fun z => (0 ≤ z ∧ z ≤ 1))) (fun s => s = "java/lang/ArithmeticException" ∨ s = "java/lang/IllegalStateException" ∨ s = "java/lang/IndexOutOfBoundsException" ∨ s = "java/util/NoSuchElementException")) r n') := by
              intro i4_115 y115_0
              have n133 : ∀ (i4_133 : Int), (0 ≤ i4_133 ∧ i4_133 ≤ 2) → sT e b M0 d 3390 133 [] [some (.inr (.inr (.inl r))), some (.inl x1), some (.inl x2), some (.inl x3), some (.inl i4_133)] [] n (fun r n' _ => (SQx n (SQi n (fun z => (0 ≤ z ∧ z ≤ 1))) (fun s => s = "java/lang/ArithmeticException" ∨ s = "java/lang/IllegalStateException" ∨ s = "java/lang/IndexOutOfBoundsException" ∨ s = "java/util/NoSuchElementException")) r n') := by
                intro i4_133 y133_0
                refine sblk (hv := false) kbl_X11_solve kbs_X11_solve (pc := 133) (pe := 141) (rk := 3) (i := 9) rfl (by decide +kernel) ?_
                simp only [kb_X11_solve_133, s_ald_0, s_ild_1, s_ild4, s_iv2, tfr_0, tfr_1, tfr_2, tfr_3, tfr_4, s_ire, trg, LR, IR, true_and, and_true, Nat.reduceAdd, Nat.reduceSub, eq_self]
                refine ⟨vok_of (s := 13) (by assumption) rfl, ?_⟩
                refine sc_xi (D := 4) (fun d' hd' => k_X11_become (by assumption) (by omega) (by omega) (by omega) hd') (by omega) rfl ?_ (fun s hs _ => Or.inr ⟨s, rfl, rfl, (fun h => h.elim (fun h => Or.inl (h.2)) (fun h => Or.inr (Or.inl (h.2)))) hs⟩)
                intro x16_ h16_
                try simp only [s_ire, trg, LR, IR, true_and, and_true, Nat.reduceAdd, Nat.reduceSub, eq_self]
                exact ⟨by omega, fun _ _ _ _ => Or.inl ⟨_, rfl, rfl, by omega⟩⟩
              refine sblk (hv := false) kbl_X11_solve kbs_X11_solve (pc := 115) (pe := 133) (rk := 3) (i := 8) rfl (by decide +kernel) ?_
              simp only [kb_X11_solve_115, s_ild4, s_if_ne, s_ald_0, s_gf_13_4, s_bi, s_lc0, s_ic, s_iv3, tfr_0, tfr_1, tfr_2, tfr_3, tfr_4, s_ist4, tkl_n, tkl_i, tkl_l, tkl_r, s_nil, LR, IR, true_and, and_true, Nat.reduceAdd, Nat.reduceSub, eq_self]
              refine ⟨by omega, fun h19_ => ?_, fun h19_ => ?_⟩
              · exact sT_w (n133 _ (by omega))
              refine ⟨by assumption, fun x21_ h21_ => ?_⟩
              refine ⟨vok_of (s := 8) (by assumption) rfl, ?_⟩
              refine sc_i (D := 7) (fun d' hd' => k_X6_make (by assumption) (by omega) (by omega) (by omega) (by omega) he (by omega) hd') (by omega) ?_
              intro x25_ h25_
              try simp only [s_ist4, tkl_n, tkl_i, tkl_l, tkl_r, s_nil, LR, IR, true_and, and_true, Nat.reduceAdd, Nat.reduceSub, eq_self]
              exact sT_w (n133 _ (by omega))
            refine sblk (hv := false) kbl_X11_solve kbs_X11_solve (pc := 92) (pe := 115) (rk := 3) (i := 7) rfl (by decide +kernel) ?_
            simp only [kb_X11_solve_92, s_ist4, tkl_n, tkl_i, tkl_l, tkl_r, s_ild4, s_if_ne, s_ald_0, s_ild_2, s_ic, s_iadd, s_iv4, tfr_0, tfr_1, tfr_2, tfr_3, tfr_4, s_nil, LR, IR, true_and, and_true, Nat.reduceAdd, Nat.reduceSub, eq_self]
            refine ⟨by omega, fun h29_ => ?_, fun h29_ => ?_⟩
            · exact sT_w (n115 _ (by omega))
            refine ⟨vok_of (s := 13) (by assumption) rfl, ?_⟩
            refine sc_i (D := 8) (fun d' hd' => k_X11_crossed (by assumption) (by omega) (by omega) (by omega) (by omega) he (by omega) hd') (by omega) ?_
            intro x41_ h41_
            try simp only [s_ist4, tkl_n, tkl_i, tkl_l, tkl_r, s_nil, LR, IR, true_and, and_true, Nat.reduceAdd, Nat.reduceSub, eq_self]
            exact sT_w (n115 _ (by omega))
          refine sT_w ?_
          refine sblk (hv := false) kbl_X11_solve kbs_X11_solve (pc := 48) (pe := 76) (rk := 3) (i := 5) rfl (by decide +kernel) ?_
          simp only [kb_X11_solve_48, s_ald_0, s_gf_13_4, s_iv0, tfr_0, tfr_1, tfr_2, tfr_3, tfr_4, s_ild_3, s_if_eq, s_ild_2, s_ic, s_iadd, s_iv4, s_goto, LR, IR, true_and, and_true, Nat.reduceAdd, Nat.reduceSub, eq_self]
          refine ⟨by assumption, fun x44_ h44_ => ?_⟩
          refine ⟨vok_of (s := 8) (by assumption) rfl, ?_⟩
          refine sc_n (D := 0) (fun d' hd' => k_X6_clear (by assumption) (by omega) hd') (by omega) ?_
          intro h45_
          try simp only [s_ild_3, s_if_eq, s_ald_0, s_ild_2, s_ic, s_iadd, s_iv4, tfr_0, tfr_1, tfr_2, tfr_3, tfr_4, s_goto, LR, IR, true_and, and_true, Nat.reduceAdd, Nat.reduceSub, eq_self]
          refine ⟨by omega, fun h47_ => ?_, fun h47_ => ?_⟩
          · refine sT_w ?_
            refine sblk (hv := false) kbl_X11_solve kbs_X11_solve (pc := 76) (pe := 92) (rk := 3) (i := 6) rfl (by decide +kernel) ?_
            simp only [kb_X11_solve_76, s_ald_0, s_ild_2, s_ic, s_iadd, s_iv4, tfr_0, tfr_1, tfr_2, tfr_3, tfr_4, s_nil, LR, IR, true_and, and_true, Nat.reduceAdd, Nat.reduceSub, eq_self]
            refine ⟨vok_of (s := 13) (by assumption) rfl, ?_⟩
            refine sc_i (D := 8) (fun d' hd' => k_X11_crossed (by assumption) (by omega) (by omega) (by omega) (by omega) he (by omega) hd') (by omega) ?_
            intro x61_ h61_
            try simp only [s_nil, LR, IR, true_and, and_true, Nat.reduceAdd, Nat.reduceSub, eq_self]
            exact sT_w (n92 _ (by omega) (by omega))
          refine ⟨vok_of (s := 13) (by assumption) rfl, ?_⟩
          refine sc_i (D := 8) (fun d' hd' => k_X11_crossed (by assumption) (by omega) (by omega) (by omega) (by omega) he (by omega) hd') (by omega) ?_
          intro x73_ h73_
          try simp only [s_goto, LR, IR, true_and, and_true, Nat.reduceAdd, Nat.reduceSub, eq_self]
          exact sT_w (n92 _ (by omega) (by omega))
        refine ⟨vok_of (s := 13) (by assumption) rfl, ?_⟩
        refine sc_xn (D := 2) (fun d' hd' => k_X11_checkHeld (by assumption) (by omega) hd') (by omega) rfl ?_ (fun s hs _ => Or.inr ⟨s, rfl, rfl, (fun h => Or.inr (Or.inr (Or.inr (h)))) hs⟩)
        intro h79_
        try simp only [s_inc4, tkl_n, tkl_i, tkl_l, tkl_r, s_goto, LR, IR, true_and, and_true, Nat.reduceAdd, Nat.reduceSub, eq_self]
        exact sT_w (ih27 _ (by omega) (by omega) (by omega) (by omega))
    refine sT_w ?_
    refine sblk (hv := false) kbl_X11_solve kbs_X11_solve (pc := 24) (pe := 27) (rk := 3) (i := 3) rfl (by decide +kernel) ?_
    simp only [kb_X11_solve_24, s_ic, s_ist4, tkl_n, tkl_i, tkl_l, tkl_r, s_nil, LR, IR, true_and, and_true, Nat.reduceAdd, Nat.reduceSub, eq_self]
    exact sT_w (n27 4294967400 _ (by omega) (by omega) (by omega) (by omega))
  exact sT_w (n14 _ (by omega))
theorem k_X11_subtract {e : tE} {b : Nat} {d n : Nat} {r : Nat} {x1 : Int} {x2 : Int} {x3 : Int} (h0 : cl r 13) (h1 : (-2147483648 ≤ x1 ∧ x1 ≤ 2147483647)) (h2 : (-2147483648 ≤ x2 ∧ x2 ≤ 2147483647)) (h3 : (-2147483648 ≤ x3 ∧ x3 ≤ 2147483647)) (he : EO e) (hb : b < 2) (hd : 9 ≤ d) : sC e b d 3391 [.inr (.inr (.inl r)), .inl x1, .inl x2, .inl x3] n (SQx n (SQi n (fun z => (0 ≤ z ∧ z ≤ 1))) (fun s => s = "java/lang/IllegalStateException" ∨ s = "java/lang/IndexOutOfBoundsException" ∨ s = "java/util/NoSuchElementException")) := by
  refine sK (fun M h => tst_X11_subtract h) (fun M0 => ?_)
  refine sblk (hv := false) kbl_X11_subtract kbs_X11_subtract (pc := 0) (pe := 10) (rk := 3) (i := 0) rfl (by decide +kernel) ?_
  simp only [kb_X11_subtract_0, s_ald_0, s_ild_1, s_ild_2, s_ild_3, s_bi, s_iv4, tfr_0, tfr_1, tfr_2, tfr_3, tfr_4, s_ire, trg, LR, IR, true_and, and_true, Nat.reduceAdd, Nat.reduceSub, eq_self]
  refine ⟨vok_of (s := 13) (by assumption) rfl, ?_⟩
  refine sc_xi (D := 8) (fun d' hd' => k_X11_combine (by assumption) (by omega) (by omega) (by omega) (by omega) (by omega) he (by omega) hd') (by omega) rfl ?_ (fun s hs _ => Or.inr ⟨s, rfl, rfl, (fun h => h.elim (fun h => absurd h.1 (by omega)) (fun h => h.elim (fun h => Or.inl (h)) (fun h => h.elim (fun h => Or.inr (Or.inl (h))) (fun h => Or.inr (Or.inr (h)))))) hs⟩)
  intro x6_ h6_
  try simp only [s_ire, trg, LR, IR, true_and, and_true, Nat.reduceAdd, Nat.reduceSub, eq_self]
  exact ⟨by omega, fun _ _ _ _ => Or.inl ⟨_, rfl, rfl, by omega⟩⟩
theorem k_X11_value {e : tE} {b : Nat} {d n : Nat} {r : Nat} {x1 : Int} {x2 : Int} {x3 : Int} {x4 : Int} (h0 : cl r 13) (h1 : (-2147483648 ≤ x1 ∧ x1 ≤ 2147483647)) (h2 : (-2147483648 ≤ x2 ∧ x2 ≤ 2147483647)) (h3 : (-2147483648 ≤ x3 ∧ x3 ≤ 2147483647)) (h4 : (-2147483648 ≤ x4 ∧ x4 ≤ 2147483647)) (he : EO e) (hb : b < 2) (hd : 9 ≤ d) : sC e b d 3398 [.inr (.inr (.inl r)), .inl x1, .inl x2, .inl x3, .inl x4] n (SQx n (SQi n (fun z => (0 ≤ z ∧ z ≤ 1))) (fun s => s = "java/lang/ArithmeticException" ∨ s = "java/lang/IllegalStateException" ∨ s = "java/lang/IndexOutOfBoundsException" ∨ s = "java/util/NoSuchElementException")) := by
  refine sK (fun M h => tst_X11_value h) (fun M0 => ?_)
  refine sblk (hv := false) kbl_X11_value kbs_X11_value (pc := 0) (pe := 52) (rk := 3) (i := 0) rfl (by decide +kernel) ?_
  simp only [kb_X11_value_0, s_ald_0, s_ild_1, s_ild_2, s_ild_3, s_ild4, s_iv4, tfr_0, tfr_1, tfr_2, tfr_3, tfr_4, s_gf_13_4, s_gf_13_3, s_iv1, s_iv2, s_gf_13_5, s_aa, s_ire, trg, LR, IR, true_and, and_true, Nat.reduceAdd, Nat.reduceSub, eq_self]
  refine ⟨vok_of (s := 13) (by assumption) rfl, ?_⟩
  refine sc_xn (D := 3) (fun d' hd' => k_X11_checkFormulaCall (by assumption) (by omega) (by omega) (by omega) (by omega) hd') (by omega) rfl ?_ (fun s hs _ => Or.inr ⟨s, rfl, rfl, (fun h => h.elim (fun h => Or.inr (Or.inr (Or.inl (h)))) (fun h => Or.inr (Or.inr (Or.inr (h))))) hs⟩)
  intro h6_
  try simp only [s_ald_0, s_gf_13_4, s_gf_13_3, s_ild_3, s_iv1, tfr_0, tfr_1, tfr_2, tfr_3, tfr_4, s_ild4, s_iv2, s_ild_1, s_gf_13_5, s_ild_2, s_aa, s_ire, trg, LR, IR, true_and, and_true, Nat.reduceAdd, Nat.reduceSub, eq_self]
  refine ⟨by assumption, fun x8_ h8_ => ?_⟩
  refine ⟨by assumption, fun x10_ h10_ => ?_⟩
  refine ⟨vok_of (s := 11) (by assumption) rfl, ?_⟩
  refine sc_r (D := 1) (fun d' hd' => k_X9_box (by assumption) (by omega) hd') (by omega) ?_
  intro x12_ h12_
  try simp only [s_ald_0, s_gf_13_3, s_ild4, s_iv1, tfr_0, tfr_1, tfr_2, tfr_3, tfr_4, s_iv2, s_ild_1, s_gf_13_4, s_gf_13_5, s_ild_2, s_aa, s_ire, trg, LR, IR, true_and, and_true, Nat.reduceAdd, Nat.reduceSub, eq_self]
  refine ⟨by assumption, fun x14_ h14_ => ?_⟩
  refine ⟨vok_of (s := 11) (by assumption) rfl, ?_⟩
  refine sc_r (D := 1) (fun d' hd' => k_X9_box (by assumption) (by omega) hd') (by omega) ?_
  intro x16_ h16_
  try simp only [s_iv2, tfr_0, tfr_1, tfr_2, tfr_3, tfr_4, s_ald_0, s_ild_1, s_gf_13_4, s_gf_13_5, s_ild_2, s_aa, s_iv1, s_ire, trg, LR, IR, true_and, and_true, Nat.reduceAdd, Nat.reduceSub, eq_self]
  refine ⟨vok_of (s := 8) (by assumption) rfl, ?_⟩
  refine sc_n (D := 0) (fun d' hd' => k_X6_aim (by assumption) (by assumption) (by assumption) (by omega) hd') (by omega) ?_
  intro h17_
  try simp only [s_ald_0, s_ild_1, s_gf_13_4, s_gf_13_5, s_ild_2, s_aa, s_iv1, tfr_0, tfr_1, tfr_2, tfr_3, tfr_4, s_iv2, s_ire, trg, LR, IR, true_and, and_true, Nat.reduceAdd, Nat.reduceSub, eq_self]
  refine ⟨by assumption, fun x21_ h21_ => ?_⟩
  refine ⟨by assumption, fun x23_ h23_ => ?_⟩
  refine Or.inr ⟨aok_27 (by assumption) (by omega), fun x25_ h25_ => ?_⟩
  refine ⟨vok_of (s := 8) (by assumption) rfl, ?_⟩
  refine sc_i (D := 8) (fun d' hd' => k_X6_makeValue (by assumption) (by assumption) he (by omega) hd') (by omega) ?_
  intro x26_ h26_
  try simp only [s_iv2, tfr_0, tfr_1, tfr_2, tfr_3, tfr_4, s_ire, trg, LR, IR, true_and, and_true, Nat.reduceAdd, Nat.reduceSub, eq_self]
  refine ⟨vok_of (s := 13) (by assumption) rfl, ?_⟩
  refine sc_xi (D := 4) (fun d' hd' => k_X11_become (by assumption) (by omega) (by omega) (by omega) hd') (by omega) rfl ?_ (fun s hs _ => Or.inr ⟨s, rfl, rfl, (fun h => h.elim (fun h => Or.inl (h.2)) (fun h => Or.inr (Or.inl (h.2)))) hs⟩)
  intro x27_ h27_
  try simp only [s_ire, trg, LR, IR, true_and, and_true, Nat.reduceAdd, Nat.reduceSub, eq_self]
  exact ⟨by omega, fun _ _ _ _ => Or.inl ⟨_, rfl, rfl, by omega⟩⟩
