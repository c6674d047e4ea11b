/-! THE CLASS: methods, printed by wip/p2/gen/sgen.py. -/
theorem k_X8_align {e : tE} {b : Nat} {d n : Nat} {r : Nat} {x1 : Nat} {x2 : Nat} (h0 : cl r 10) (h1 : cl x1 3) (h2 : cl x2 3) (hb : b < 2) (hd : 0 ≤ d) : sC e b d 2561 [.inr (.inr (.inl r)), .inr (.inr (.inl x1)), .inr (.inr (.inl x2))] n (SQi n (fun z => (1 ≤ z ∧ z ≤ 27))) := by
  refine sK (fun M h => tst_X8_align h) (fun M0 => ?_)
  have n37 : ∀ (fu : Nat) (i3_37 : Int) (i4_37 : Int) (w5_37 : Option tV) (w6_37 : Option tV) (w7_37 : Option tV) (w8_37 : Option tV), 31 - i4_37 + 1 ≤ (fu : Int) → (-2147483648 ≤ i3_37 ∧ i3_37 ≤ 2147483647) → (0 ≤ i4_37 ∧ i4_37 ≤ 31) → 1 ≤ i3_37 ∧ i3_37 ≤ i4_37 + 1 ∧ i4_37 ≤ 26 → sT e b M0 d 2561 37 [] [some (.inr (.inr (.inl r))), some (.inr (.inr (.inl x1))), some (.inr (.inr (.inl x2))), some (.inl i3_37), some (.inl i4_37), w5_37, w6_37, w7_37, w8_37] [] n (fun r n' _ => (SQi n (fun z => (1 ≤ z ∧ z ≤ 27))) r n') := by
    intro fu
    induction fu with
    | zero =>
      intro i3_37 i4_37 w5_37 w6_37 w7_37 w8_37 hm y37_0 y37_1 y37_2
      exfalso; omega
    | succ fu ih =>
      intro i3_37 i4_37 w5_37 w6_37 w7_37 w8_37 hm y37_0 y37_1 y37_2
      have ih37 := ih
      clear ih
      have n135 : ∀ (w5_135 : Option tV) (w6_135 : Option tV) (w7_135 : Option tV) (w8_135 : Option tV), 1 ≤ i3_37 ∧ i3_37 ≤ 27 → sT e b M0 d 2561 135 [] [some (.inr (.inr (.inl r))), some (.inr (.inr (.inl x1))), some (.inr (.inr (.inl x2))), some (.inl i3_37), some (.inl i4_37), w5_135, w6_135, w7_135, w8_135] [] n (fun r n' _ => (SQi n (fun z => (1 ≤ z ∧ z ≤ 27))) r n') := by
        intro w5_135 w6_135 w7_135 w8_135 y135_0
        refine sblk (hv := false) kbl_X8_align kbs_X8_align (pc := 135) (pe := 137) (rk := 0) (i := 3) rfl (by decide +kernel) ?_
        simp only [kb_X8_align_135, s_ild_3, s_ire, trg, LR, IR, true_and, and_true, Nat.reduceAdd, Nat.reduceSub, eq_self]
        exact fun _ _ _ _ => ⟨_, rfl, rfl, by omega⟩
      have n114 : ∀ (l5_114 : Int) (l7_114 : Int), (0 ≤ i4_37 ∧ i4_37 ≤ 25) → (-9223372036854775808 ≤ l5_114 ∧ l5_114 < 9223372036854775808) → (-9223372036854775808 ≤ l7_114 ∧ l7_114 < 9223372036854775808) → sT e b M0 d 2561 114 [] [some (.inr (.inr (.inl r))), some (.inr (.inr (.inl x1))), some (.inr (.inr (.inl x2))), some (.inl i3_37), some (.inl i4_37), some (.inr (.inl l5_114)), none, some (.inr (.inl l7_114)), none] [] n (fun r n' _ => (SQi n (fun z => (1 ≤ z ∧ z ≤ 27))) r n') := by
        intro l5_114 l7_114 y114_0 y114_1 y114_2
        refine sblk (hv := false) kbl_X8_align kbs_X8_align (pc := 114) (pe := 135) (rk := 0) (i := 2) rfl (by decide +kernel) ?_
        simp only [kb_X8_align_114, s_ald_0, s_lld5, s_pf_10_11, s_lld7, s_pf_10_12, s_inc3, tkl_n, tkl_i, tkl_l, tkl_r, s_inc4, s_goto, LR, IR, true_and, and_true, Nat.reduceAdd, Nat.reduceSub, eq_self]
        refine ⟨by omega, by assumption, ?_⟩
        refine ⟨by omega, by assumption, ?_⟩
        exact sT_w (ih37 _ _ _ _ _ _ (by omega) (by omega) (by omega) (by omega))
      refine sblk (hv := false) kbl_X8_align kbs_X8_align (pc := 37) (pe := 114) (rk := 0) (i := 1) rfl (by decide +kernel) ?_
      simp only [kb_X8_align_37, s_ild4, s_bi, s_ic_ge, s_ald_0, s_gf_10_11, s_ld2, s_lmul, s_gf_10_12, s_ldiv, s_ladd, s_lst5, tkl_n, tkl_i, tkl_l, tkl_r, s_lrem, s_lst7, s_gf_10_9, s_lld5, s_lcmp, ne_eq, tlc_r, tlc_eq, tlc_lt, tlc_ge, tlc_gt, tlc_le, s_if_lt, s_if_ne, s_gf_10_10, s_lld7, s_if_ge, s_goto, LR, IR, true_and, and_true, Nat.reduceAdd, Nat.reduceSub, eq_self]
      refine ⟨by omega, fun h14_ => ?_, fun h14_ => ?_⟩
      · exact sT_w (n135 _ _ _ _ (by omega))
      refine ⟨by assumption, fun x16_ h16_ => ?_⟩
      intro x18_ h18_
      refine ⟨by assumption, fun x20_ h20_ => ?_⟩
      intro x22_ h22_
      refine ⟨by omega, fun x24_ h24_ y24_ => ?_⟩
      clear y24_
      intro x25_ h25_
      refine ⟨by assumption, fun x28_ h28_ => ?_⟩
      intro x30_ h30_
      refine ⟨by omega, fun x32_ h32_ => ?_⟩
      refine ⟨by assumption, fun x35_ h35_ => ?_⟩
      refine ⟨by omega, ?_⟩
      refine ⟨fun h38_ => ?_, fun h38_ => ?_⟩
      · exact sT_w (n135 _ _ _ _ (by omega))
      refine ⟨by assumption, fun x40_ h40_ => ?_⟩
      refine ⟨by omega, ?_⟩
      refine ⟨fun h43_ => ?_, fun h43_ => ?_⟩
      · exact sT_w (n114 _ _ (by omega) (by omega) (by omega))
      refine ⟨by assumption, fun x45_ h45_ => ?_⟩
      refine ⟨by omega, ?_⟩
      refine ⟨fun h48_ => ?_, fun h48_ => ?_⟩
      · exact sT_w (n114 _ _ (by omega) (by omega) (by omega))
      exact sT_w (n135 _ _ _ _ (by omega))
  refine sblk (hv := false) kbl_X8_align kbs_X8_align (pc := 0) (pe := 37) (rk := 0) (i := 0) rfl (by decide +kernel) ?_
  simp only [kb_X8_align_0, s_ald_0, s_ald_1, s_gf_3_0, s_pf_10_9, s_gf_3_1, s_pf_10_10, s_ald_2, s_pf_10_11, s_pf_10_12, s_ic, s_ist_3, tkl_n, tkl_i, tkl_l, tkl_r, s_ist4, s_nil, LR, IR, true_and, and_true, Nat.reduceAdd, Nat.reduceSub, eq_self]
  refine ⟨by assumption, fun x52_ h52_ => ?_⟩
  refine ⟨by omega, by assumption, ?_⟩
  refine ⟨by assumption, fun x56_ h56_ => ?_⟩
  refine ⟨by omega, by assumption, ?_⟩
  refine ⟨by assumption, fun x60_ h60_ => ?_⟩
  refine ⟨by omega, by assumption, ?_⟩
  refine ⟨by assumption, fun x64_ h64_ => ?_⟩
  refine ⟨by omega, by assumption, ?_⟩
  exact sT_w (n37 4294967400 _ _ _ _ _ _ (by omega) (by omega) (by omega) (by omega))
theorem k_X8_nextDigits {e : tE} {b : Nat} {d n : Nat} {r : Nat} {x1 : Int} (h0 : cl r 10) (h1 : (-2147483648 ≤ x1 ∧ x1 ≤ 13)) (hb : b < 2) (hd : 0 ≤ d) : sC e b d 2565 [.inr (.inr (.inl r)), .inl x1] n (SQl n (fun z => (-9223372036854775808 ≤ z ∧ z < 9223372036854775808))) := by
  refine sK (fun M h => tst_X8_nextDigits h) (fun M0 => ?_)
  have n5 : ∀ (fu : Nat) (l2_5 : Int) (i4_5 : Int) (w5_5 : Option tV), 14 - i4_5 + 1 ≤ (fu : Int) → (-2147483648 ≤ x1 ∧ x1 ≤ 13) → (-9223372036854775808 ≤ l2_5 ∧ l2_5 < 9223372036854775808) → (0 ≤ i4_5 ∧ i4_5 ≤ 14) → sT e b M0 d 2565 5 [] [some (.inr (.inr (.inl r))), some (.inl x1), some (.inr (.inl l2_5)), none, some (.inl i4_5), w5_5] [] n (fun r n' _ => (SQl n (fun z => (-9223372036854775808 ≤ z ∧ z < 9223372036854775808))) r n') := by
    intro fu
    induction fu with
    | zero =>
      intro l2_5 i4_5 w5_5 hm y5_0 y5_1 y5_2
      exfalso; omega
    | succ fu ih =>
      intro l2_5 i4_5 w5_5 hm y5_0 y5_1 y5_2
      have ih5 := ih
      clear ih
      have n14 : ∀ (fu : Nat) (i5_14 : Int), 9 - i5_14 + 1 ≤ (fu : Int) → (1 ≤ x1 ∧ x1 ≤ 13) → (0 ≤ i4_5 ∧ i4_5 ≤ 12) → (0 ≤ i5_14 ∧ i5_14 ≤ 9) → sT e b M0 d 2565 14 [] [some (.inr (.inr (.inl r))), some (.inl x1), some (.inr (.inl l2_5)), none, some (.inl i4_5), some (.inl i5_14)] [] n (fun r n' _ => (SQl n (fun z => (-9223372036854775808 ≤ z ∧ z < 9223372036854775808))) r n') := by
        intro fu
        induction fu with
        | zero =>
          intro i5_14 hm y14_0 y14_1 y14_2
          exfalso; omega
        | succ fu ih =>
          intro i5_14 hm y14_0 y14_1 y14_2
          have ih14 := ih
          clear ih
          have n120 : sT e b M0 d 2565 120 [] [some (.inr (.inr (.inl r))), some (.inl x1), some (.inr (.inl l2_5)), none, some (.inl i4_5), some (.inl i5_14)] [] n (fun r n' _ => (SQl n (fun z => (-9223372036854775808 ≤ z ∧ z < 9223372036854775808))) r n') := by
            refine sblk (hv := false) kbl_X8_nextDigits kbs_X8_nextDigits (pc := 120) (pe := 177) (rk := 1) (i := 5) rfl (by decide +kernel) ?_
            simp only [kb_X8_nextDigits_120, s_lld_2, s_ld2, s_lmul, s_ild5, s_i2l, s_ladd, s_lst_2, tkl_n, tkl_i, tkl_l, tkl_r, s_ald_0, s_gf_10_9, s_gf_10_10, s_ldiv, s_pf_10_9, s_lrem, s_pf_10_10, s_inc4, s_goto, LR, IR, true_and, and_true, Nat.reduceAdd, Nat.reduceSub, eq_self]
            intro x3_ h3_
            refine ⟨by omega, ?_⟩
            intro x6_ h6_
            refine ⟨by assumption, fun x10_ h10_ => ?_⟩
            intro x12_ h12_
            refine ⟨by assumption, fun x14_ h14_ => ?_⟩
            intro x16_ h16_
            refine ⟨by omega, fun x18_ h18_ y18_ => ?_⟩
            clear y18_
            intro x19_ h19_
            refine ⟨by omega, by assumption, ?_⟩
            refine ⟨by assumption, fun x23_ h23_ => ?_⟩
            intro x25_ h25_
            refine ⟨by omega, fun x27_ h27_ => ?_⟩
            refine ⟨by omega, by assumption, ?_⟩
            exact sT_w (ih5 _ _ _ (by omega) (by omega) (by omega) (by omega))
          have n57 : (0 ≤ i5_14 ∧ i5_14 ≤ 8) → sT e b M0 d 2565 57 [] [some (.inr (.inr (.inl r))), some (.inl x1), some (.inr (.inl l2_5)), none, some (.inl i4_5), some (.inl i5_14)] [] n (fun r n' _ => (SQl n (fun z => (-9223372036854775808 ≤ z ∧ z < 9223372036854775808))) r n') := by
            intro  y57_0
            have n114 : sT e b M0 d 2565 114 [] [some (.inr (.inr (.inl r))), some (.inl x1), some (.inr (.inl l2_5)), none, some (.inl i4_5), some (.inl i5_14)] [] n (fun r n' _ => (SQl n (fun z => (-9223372036854775808 ≤ z ∧ z < 9223372036854775808))) r n') := by
              refine sblk (hv := false) kbl_X8_nextDigits kbs_X8_nextDigits (pc := 114) (pe := 120) (rk := 1) (i := 4) rfl (by decide +kernel) ?_
              simp only [kb_X8_nextDigits_114, s_inc5, tkl_n, tkl_i, tkl_l, tkl_r, s_goto, LR, IR, true_and, and_true, Nat.reduceAdd, Nat.reduceSub, eq_self]
              exact sT_w (ih14 _ (by omega) (by omega) (by omega) (by omega))
            refine sblk (hv := false) kbl_X8_nextDigits kbs_X8_nextDigits (pc := 57) (pe := 114) (rk := 1) (i := 3) rfl (by decide +kernel) ?_
            simp only [kb_X8_nextDigits_57, s_ald_0, s_dupi, s_dupr, s_gf_10_9, s_gf_10_11, s_lsub, s_pf_10_9, s_gf_10_10, s_gf_10_12, s_pf_10_10, s_lc0, s_lcmp, ne_eq, tlc_r, tlc_eq, tlc_lt, tlc_ge, tlc_gt, tlc_le, s_if_ge, s_ld2, s_ladd, s_lc1, s_nil, LR, IR, true_and, and_true, Nat.reduceAdd, Nat.reduceSub, eq_self]
            refine ⟨by assumption, fun x35_ h35_ => ?_⟩
            refine ⟨by assumption, fun x37_ h37_ => ?_⟩
            intro x38_ h38_
            refine ⟨by omega, by assumption, ?_⟩
            refine ⟨by assumption, fun x42_ h42_ => ?_⟩
            refine ⟨by assumption, fun x44_ h44_ => ?_⟩
            intro x45_ h45_
            refine ⟨by omega, by assumption, ?_⟩
            refine ⟨by assumption, fun x48_ h48_ => ?_⟩
            refine ⟨by omega, ?_⟩
            refine ⟨fun h51_ => ?_, fun h51_ => ?_⟩
            · exact sT_w (n114)
            refine ⟨by assumption, fun x54_ h54_ => ?_⟩
            intro x56_ h56_
            refine ⟨by omega, by assumption, ?_⟩
            refine ⟨by assumption, fun x60_ h60_ => ?_⟩
            intro x62_ h62_
            refine ⟨by omega, by assumption, ?_⟩
            exact sT_w (n114)
          refine sblk (hv := false) kbl_X8_nextDigits kbs_X8_nextDigits (pc := 14) (pe := 57) (rk := 1) (i := 2) rfl (by decide +kernel) ?_
          simp only [kb_X8_nextDigits_14, s_ild5, s_bi, s_ic_ge, s_ald_0, s_gf_10_9, s_gf_10_11, s_lcmp, ne_eq, tlc_r, tlc_eq, tlc_lt, tlc_ge, tlc_gt, tlc_le, s_if_gt, s_if_ne, s_gf_10_10, s_gf_10_12, s_if_lt, s_nil, LR, IR, true_and, and_true, Nat.reduceAdd, Nat.reduceSub, eq_self]
          refine ⟨by omega, fun h66_ => ?_, fun h66_ => ?_⟩
          · exact sT_w (n120)
          refine ⟨by assumption, fun x68_ h68_ => ?_⟩
          refine ⟨by assumption, fun x70_ h70_ => ?_⟩
          refine ⟨by omega, ?_⟩
          refine ⟨fun h72_ => ?_, fun h72_ => ?_⟩
          · exact sT_w (n57 (by omega))
          refine ⟨by assumption, fun x74_ h74_ => ?_⟩
          refine ⟨by assumption, fun x76_ h76_ => ?_⟩
          refine ⟨by omega, ?_⟩
          refine ⟨fun h78_ => ?_, fun h78_ => ?_⟩
          · exact sT_w (n120)
          refine ⟨by assumption, fun x80_ h80_ => ?_⟩
          refine ⟨by assumption, fun x82_ h82_ => ?_⟩
          refine ⟨by omega, ?_⟩
          refine ⟨fun h84_ => ?_, fun h84_ => ?_⟩
          · exact sT_w (n120)
          exact sT_w (n57 (by omega))
      refine sblk (hv := false) kbl_X8_nextDigits kbs_X8_nextDigits (pc := 5) (pe := 14) (rk := 1) (i := 1) rfl (by decide +kernel) ?_
      simp only [kb_X8_nextDigits_5, s_ild4, s_ild_1, s_ic_ge, s_ic, s_ist5, tkl_n, tkl_i, tkl_l, tkl_r, s_nil, LR, IR, true_and, and_true, Nat.reduceAdd, Nat.reduceSub, eq_self]
      refine ⟨by omega, fun h87_ => ?_, fun h87_ => ?_⟩
      · refine sT_w ?_
        refine sblk (hv := false) kbl_X8_nextDigits kbs_X8_nextDigits (pc := 177) (pe := 179) (rk := 1) (i := 6) rfl (by decide +kernel) ?_
        simp only [kb_X8_nextDigits_177, s_lld_2, s_lre, LR, IR, true_and, and_true, Nat.reduceAdd, Nat.reduceSub, eq_self]
        exact fun _ _ _ _ => ⟨_, rfl, rfl, by omega⟩
      exact sT_w (n14 4294967400 _ (by omega) (by omega) (by omega) (by omega))
  refine sblk (hv := false) kbl_X8_nextDigits kbs_X8_nextDigits (pc := 0) (pe := 5) (rk := 1) (i := 0) rfl (by decide +kernel) ?_
  simp only [kb_X8_nextDigits_0, s_lc0, s_lst_2, tkl_n, tkl_i, tkl_l, tkl_r, s_ic, s_ist4, s_nil, LR, IR, true_and, and_true, Nat.reduceAdd, Nat.reduceSub, eq_self]
  exact sT_w (n5 4294967400 _ _ _ (by omega) (by omega) (by omega) (by omega))
theorem k_X3_sumOddPowers {e : tE} {b : Nat} {d n : Nat} {r : Nat} {x1 : Int} (h0 : cl r 5) (h1 : (0 ≤ x1 ∧ x1 ≤ 1)) (hb : b < 2) (hd : 1 ≤ d) : sC e b d 1288 [.inr (.inr (.inl r)), .inl x1] n (SQn n (True)) := by
  refine sK (fun M h => tst_X3_sumOddPowers h) (fun M0 => ?_)
  have n34 : ∀ (fu : Nat) (i2_34 : Int), i2_34 + 1 + 1 ≤ (fu : Int) → (0 ≤ x1 ∧ x1 ≤ 1) → (-1 ≤ i2_34 ∧ i2_34 ≤ 5) → sT e b M0 d 1288 34 [] [some (.inr (.inr (.inl r))), some (.inl x1), some (.inl i2_34)] [] n (fun r n' _ => (SQn n (True)) r n') := by
    intro fu
    induction fu with
    | zero =>
      intro i2_34 hm y34_0 y34_1
      exfalso; omega
    | succ fu ih =>
      intro i2_34 hm y34_0 y34_1
      have ih34 := ih
      clear ih
      refine sblk (hv := false) kbl_X3_sumOddPowers kbs_X3_sumOddPowers (pc := 34) (pe := 61) (rk := 9) (i := 1) rfl (by decide +kernel) ?_
      simp only [kb_X3_sumOddPowers_34, s_ild_2, s_if_lt, s_ald_0, s_gf_5_3, s_gf_5_0, s_bi, s_iv1, tfr_0, tfr_1, tfr_2, tfr_3, tfr_4, s_iv2, s_inc2, tkl_n, tkl_i, tkl_l, tkl_r, s_goto, LR, IR, true_and, and_true, Nat.reduceAdd, Nat.reduceSub, eq_self]
      refine ⟨by omega, fun h2_ => ?_, fun h2_ => ?_⟩
      · have n89 : ∀ (fu : Nat) (i2_89 : Int), 699 - i2_89 + 1 ≤ (fu : Int) → (3 ≤ i2_89 ∧ i2_89 ≤ 699) → sT e b M0 d 1288 89 [] [some (.inr (.inr (.inl r))), some (.inl x1), some (.inl i2_89)] [] n (fun r n' _ => (SQn n (True)) r n') := by
          intro fu
          induction fu with
          | zero =>
            intro i2_89 hm y89_0
            exfalso; omega
          | succ fu ih =>
            intro i2_89 hm y89_0
            have ih89 := ih
            clear ih
            have n185 : sT e b M0 d 1288 185 [] [some (.inr (.inr (.inl r))), some (.inl x1), some (.inl i2_89)] [] n (fun r n' _ => (SQn n (True)) r n') := by
              refine sblk (hv := false) kbl_X3_sumOddPowers kbs_X3_sumOddPowers (pc := 185) (pe := 186) (rk := 9) (i := 7) rfl (by decide +kernel) ?_
              simp only [kb_X3_sumOddPowers_185, s_re, LR, IR, true_and, and_true, Nat.reduceAdd, Nat.reduceSub, eq_self]
              exact fun _ _ _ _ => ⟨rfl, rfl, by first | trivial | omega⟩
            refine sblk (hv := false) kbl_X3_sumOddPowers kbs_X3_sumOddPowers (pc := 89) (pe := 124) (rk := 9) (i := 3) rfl (by decide +kernel) ?_
            simp only [kb_X3_sumOddPowers_89, s_ild_2, s_si, s_ic_ge, s_ald_0, s_gf_5_3, s_gf_5_4, s_iv2, tfr_0, tfr_1, tfr_2, tfr_3, tfr_4, s_iv0, s_if_eq, s_goto, LR, IR, true_and, and_true, Nat.reduceAdd, Nat.reduceSub, eq_self]
            refine ⟨by omega, fun h6_ => ?_, fun h6_ => ?_⟩
            · exact sT_w (n185)
            refine ⟨by assumption, fun x8_ h8_ => ?_⟩
            refine ⟨by assumption, fun x10_ h10_ => ?_⟩
            refine ⟨by assumption, fun x12_ h12_ => ?_⟩
            refine ⟨vok_of (s := 6) (by assumption) rfl, ?_⟩
            refine sc_n (D := 0) (fun d' hd' => k_X4_toProduct (by assumption) (by assumption) (by assumption) (by omega) hd') (by omega) ?_
            intro h13_
            try simp only [s_ald_0, s_gf_5_3, s_iv0, tfr_0, tfr_1, tfr_2, tfr_3, tfr_4, s_if_eq, s_goto, LR, IR, true_and, and_true, Nat.reduceAdd, Nat.reduceSub, eq_self]
            refine ⟨by assumption, fun x15_ h15_ => ?_⟩
            refine ⟨vok_of (s := 6) (by assumption) rfl, ?_⟩
            refine sc_i (D := 0) (fun d' hd' => k_X4_isZero (by assumption) hd') (by omega) ?_
            intro x16_ h16_
            try simp only [s_if_eq, s_goto, LR, IR, true_and, and_true, Nat.reduceAdd, Nat.reduceSub, eq_self]
            refine ⟨by omega, fun h17_ => ?_, fun h17_ => ?_⟩
            · have n179 : (3 ≤ i2_89 ∧ i2_89 ≤ 499) → sT e b M0 d 1288 179 [] [some (.inr (.inr (.inl r))), some (.inl x1), some (.inl i2_89)] [] n (fun r n' _ => (SQn n (True)) r n') := by
                intro  y179_0
                refine sblk (hv := false) kbl_X3_sumOddPowers kbs_X3_sumOddPowers (pc := 179) (pe := 185) (rk := 9) (i := 6) rfl (by decide +kernel) ?_
                simp only [kb_X3_sumOddPowers_179, s_inc2, tkl_n, tkl_i, tkl_l, tkl_r, s_goto, LR, IR, true_and, and_true, Nat.reduceAdd, Nat.reduceSub, eq_self]
                exact sT_w (ih89 _ (by omega) (by omega))
              have n168 : (3 ≤ i2_89 ∧ i2_89 ≤ 499) → sT e b M0 d 1288 168 [] [some (.inr (.inr (.inl r))), some (.inl x1), some (.inl i2_89)] [] n (fun r n' _ => (SQn n (True)) r n') := by
                intro  y168_0
                refine sblk (hv := false) kbl_X3_sumOddPowers kbs_X3_sumOddPowers (pc := 168) (pe := 179) (rk := 9) (i := 5) rfl (by decide +kernel) ?_
                simp only [kb_X3_sumOddPowers_168, s_ald_0, s_gf_5_6, s_gf_5_5, s_iv1, tfr_0, tfr_1, tfr_2, tfr_3, tfr_4, s_nil, LR, IR, true_and, and_true, Nat.reduceAdd, Nat.reduceSub, eq_self]
                refine ⟨by assumption, fun x21_ h21_ => ?_⟩
                refine ⟨by assumption, fun x23_ h23_ => ?_⟩
                refine ⟨vok_of (s := 6) (by assumption) rfl, ?_⟩
                refine sc_n (D := 0) (fun d' hd' => k_X4_plus (by assumption) (by assumption) (by omega) hd') (by omega) ?_
                intro h24_
                try simp only [s_nil, LR, IR, true_and, and_true, Nat.reduceAdd, Nat.reduceSub, eq_self]
                exact sT_w (n179 (by omega))
              refine sT_w ?_
              refine sblk (hv := false) kbl_X3_sumOddPowers kbs_X3_sumOddPowers (pc := 124) (pe := 168) (rk := 9) (i := 4) rfl (by decide +kernel) ?_
              simp only [kb_X3_sumOddPowers_124, s_ald_0, s_gf_5_5, s_gf_5_3, s_iv1, tfr_0, tfr_1, tfr_2, tfr_3, tfr_4, s_ild_2, s_ild_1, s_if_eq, s_ic, s_irem, s_ic_ne, s_gf_5_6, s_goto, LR, IR, true_and, and_true, Nat.reduceAdd, Nat.reduceSub, eq_self]
              refine ⟨by assumption, fun x26_ h26_ => ?_⟩
              refine ⟨by assumption, fun x28_ h28_ => ?_⟩
              refine ⟨vok_of (s := 6) (by assumption) rfl, ?_⟩
              refine sc_n (D := 0) (fun d' hd' => k_X4_copy (by assumption) (by assumption) (by omega) hd') (by omega) ?_
              intro h29_
              try simp only [s_ald_0, s_gf_5_5, s_ild_2, s_iv1, tfr_0, tfr_1, tfr_2, tfr_3, tfr_4, s_ild_1, s_if_eq, s_ic, s_irem, s_ic_ne, s_gf_5_6, s_goto, LR, IR, true_and, and_true, Nat.reduceAdd, Nat.reduceSub, eq_self]
              refine ⟨by assumption, fun x31_ h31_ => ?_⟩
              refine ⟨vok_of (s := 6) (by assumption) rfl, ?_⟩
              refine sc_n (D := 0) (fun d' hd' => k_X4_over (by assumption) (by omega) (by omega) hd') (by omega) ?_
              intro h33_
              try simp only [s_ild_1, s_if_eq, s_ild_2, s_ic, s_irem, s_ic_ne, s_ald_0, s_gf_5_6, s_gf_5_5, s_iv1, tfr_0, tfr_1, tfr_2, tfr_3, tfr_4, s_goto, LR, IR, true_and, and_true, Nat.reduceAdd, Nat.reduceSub, eq_self]
              refine ⟨by omega, fun h35_ => ?_, fun h35_ => ?_⟩
              · exact sT_w (n168 (by omega))
              refine ⟨by omega, fun x38_ h38_ g38_ => ?_⟩
              refine ⟨by omega, fun h40_ => ?_, fun h40_ => ?_⟩
              · exact sT_w (n168 (by omega))
              refine ⟨by assumption, fun x42_ h42_ => ?_⟩
              refine ⟨by assumption, fun x44_ h44_ => ?_⟩
              refine ⟨vok_of (s := 6) (by assumption) rfl, ?_⟩
              refine sc_n (D := 0) (fun d' hd' => k_X4_minus (by assumption) (by assumption) (by omega) hd') (by omega) ?_
              intro h45_
              try simp only [s_goto, LR, IR, true_and, and_true, Nat.reduceAdd, Nat.reduceSub, eq_self]
              exact sT_w (n179 (by omega))
            exact sT_w (n185)
        refine sT_w ?_
        refine sblk (hv := false) kbl_X3_sumOddPowers kbs_X3_sumOddPowers (pc := 61) (pe := 89) (rk := 9) (i := 2) rfl (by decide +kernel) ?_
        simp only [kb_X3_sumOddPowers_61, s_ald_0, s_gf_5_4, s_gf_5_3, s_iv2, tfr_0, tfr_1, tfr_2, tfr_3, tfr_4, s_gf_5_6, s_iv1, s_ic, s_ist_2, tkl_n, tkl_i, tkl_l, tkl_r, s_nil, LR, IR, true_and, and_true, Nat.reduceAdd, Nat.reduceSub, eq_self]
        refine ⟨by assumption, fun x49_ h49_ => ?_⟩
        refine ⟨by assumption, fun x51_ h51_ => ?_⟩
        refine ⟨by assumption, fun x53_ h53_ => ?_⟩
        refine ⟨vok_of (s := 6) (by assumption) rfl, ?_⟩
        refine sc_n (D := 0) (fun d' hd' => k_X4_toProduct (by assumption) (by assumption) (by assumption) (by omega) hd') (by omega) ?_
        intro h54_
        try simp only [s_ald_0, s_gf_5_6, s_gf_5_3, s_iv1, tfr_0, tfr_1, tfr_2, tfr_3, tfr_4, s_ic, s_ist_2, tkl_n, tkl_i, tkl_l, tkl_r, s_nil, LR, IR, true_and, and_true, Nat.reduceAdd, Nat.reduceSub, eq_self]
        refine ⟨by assumption, fun x56_ h56_ => ?_⟩
        refine ⟨by assumption, fun x58_ h58_ => ?_⟩
        refine ⟨vok_of (s := 6) (by assumption) rfl, ?_⟩
        refine sc_n (D := 0) (fun d' hd' => k_X4_copy (by assumption) (by assumption) (by omega) hd') (by omega) ?_
        intro h59_
        try simp only [s_ic, s_ist_2, tkl_n, tkl_i, tkl_l, tkl_r, s_nil, LR, IR, true_and, and_true, Nat.reduceAdd, Nat.reduceSub, eq_self]
        exact sT_w (n89 4294967400 _ (by omega) (by omega))
      refine ⟨by assumption, fun x63_ h63_ => ?_⟩
      refine ⟨by assumption, fun x66_ h66_ => ?_⟩
      refine ⟨vok_of (s := 10) (by assumption) rfl, ?_⟩
      refine sc_l (D := 0) (fun d' hd' => k_X8_nextDigits (by assumption) (by omega) (by omega) hd') (by omega) ?_
      intro x68_ h68_
      try simp only [s_iv2, tfr_0, tfr_1, tfr_2, tfr_3, tfr_4, s_inc2, tkl_n, tkl_i, tkl_l, tkl_r, s_goto, LR, IR, true_and, and_true, Nat.reduceAdd, Nat.reduceSub, eq_self]
      refine ⟨vok_of (s := 6) (by assumption) rfl, ?_⟩
      refine sc_n (D := 0) (fun d' hd' => k_X4_setLimb (by assumption) (by omega) (by omega) (by omega) hd') (by omega) ?_
      intro h69_
      try simp only [s_inc2, tkl_n, tkl_i, tkl_l, tkl_r, s_goto, LR, IR, true_and, and_true, Nat.reduceAdd, Nat.reduceSub, eq_self]
      exact sT_w (ih34 _ (by omega) (by omega) (by omega))
  refine sblk (hv := false) kbl_X3_sumOddPowers kbs_X3_sumOddPowers (pc := 0) (pe := 34) (rk := 9) (i := 0) rfl (by decide +kernel) ?_
  simp only [kb_X3_sumOddPowers_0, s_ald_0, s_gf_5_0, s_gf_5_9, s_gf_5_10, s_iv2, tfr_0, tfr_1, tfr_2, tfr_3, tfr_4, s_popi, s_popr, s_ic, s_iv1, s_pop2, s_gf_5_3, s_iv0, s_ist_2, tkl_n, tkl_i, tkl_l, tkl_r, s_nil, LR, IR, true_and, and_true, Nat.reduceAdd, Nat.reduceSub, eq_self]
  refine ⟨by assumption, fun x73_ h73_ => ?_⟩
  refine ⟨by assumption, fun x75_ h75_ => ?_⟩
  refine ⟨by assumption, fun x77_ h77_ => ?_⟩
  refine ⟨vok_of (s := 10) (by assumption) rfl, ?_⟩
  refine sc_i (D := 0) (fun d' hd' => k_X8_align (by assumption) (by assumption) (by assumption) (by omega) hd') (by omega) ?_
  intro x78_ h78_
  try simp only [s_popi, s_popr, s_ald_0, s_gf_5_0, s_ic, s_iv1, tfr_0, tfr_1, tfr_2, tfr_3, tfr_4, s_pop2, s_gf_5_3, s_iv0, s_ist_2, tkl_n, tkl_i, tkl_l, tkl_r, s_nil, LR, IR, true_and, and_true, Nat.reduceAdd, Nat.reduceSub, eq_self]
  refine ⟨by assumption, fun x81_ h81_ => ?_⟩
  refine ⟨vok_of (s := 10) (by assumption) rfl, ?_⟩
  refine sc_l (D := 0) (fun d' hd' => k_X8_nextDigits (by assumption) (by omega) (by omega) hd') (by omega) ?_
  intro x83_ h83_
  try simp only [s_pop2, s_ald_0, s_gf_5_3, s_iv0, tfr_0, tfr_1, tfr_2, tfr_3, tfr_4, s_ic, s_ist_2, tkl_n, tkl_i, tkl_l, tkl_r, s_nil, LR, IR, true_and, and_true, Nat.reduceAdd, Nat.reduceSub, eq_self]
  refine ⟨by assumption, fun x86_ h86_ => ?_⟩
  refine ⟨vok_of (s := 6) (by assumption) rfl, ?_⟩
  refine sc_n (D := 0) (fun d' hd' => k_X4_clear (by assumption) (by omega) hd') (by omega) ?_
  intro h87_
  try simp only [s_ic, s_ist_2, tkl_n, tkl_i, tkl_l, tkl_r, s_nil, LR, IR, true_and, and_true, Nat.reduceAdd, Nat.reduceSub, eq_self]
  exact sT_w (n34 4294967400 _ (by omega) (by omega) (by omega))
theorem k_X4_load {e : tE} {b : Nat} {d n : Nat} {r : Nat} {x1 : Nat} {x2 : Int} {x3 : Int} (h0 : cl r 6) (h1 : x1 = 2 ∨ x1 = 3) (h2 : (-70000000 ≤ x2 ∧ x2 ≤ 70000000)) (h3 : (0 ≤ x3 ∧ x3 ≤ 127)) (hb : b < 2) (hd : 1 ≤ d) : sC e b d 1542 [.inr (.inr (.inl r)), .inr (.inr (.inr x1)), .inl x2, .inl x3] n (SQn n (True)) := by
  refine sK (fun M h => tst_X4_load h) (fun M0 => ?_)
  have n25 : ∀ (i4_25 : Int) (w5_25 : Option tV) (w6_25 : Option tV) (w7_25 : Option tV) (w8_25 : Option tV) (w9_25 : Option tV), (-70000000 ≤ x2 ∧ x2 ≤ 70000000) → (0 ≤ x3 ∧ x3 ≤ 127) → (-420000000 ≤ i4_25 ∧ i4_25 ≤ 420000000) → sT e b M0 d 1542 25 [] [some (.inr (.inr (.inl r))), some (.inr (.inr (.inr x1))), some (.inl x2), some (.inl x3), some (.inl i4_25), w5_25, w6_25, w7_25, w8_25, w9_25] [] n (fun r n' _ => (SQn n (True)) r n') := by
    intro i4_25 w5_25 w6_25 w7_25 w8_25 w9_25 y25_0 y25_1 y25_2
    refine sblk (hv := false) kbl_X4_load kbs_X4_load (pc := 25) (pe := 26) (rk := 9) (i := 1) rfl (by decide +kernel) ?_
    simp only [kb_X4_load_25, s_re, LR, IR, true_and, and_true, Nat.reduceAdd, Nat.reduceSub, eq_self]
    exact fun _ _ _ _ => ⟨rfl, rfl, by first | trivial | omega⟩
  refine sblk (hv := false) kbl_X4_load kbs_X4_load (pc := 0) (pe := 25) (rk := 9) (i := 0) rfl (by decide +kernel) ?_
  simp only [kb_X4_load_0, s_ald_0, s_iv0, tfr_0, tfr_1, tfr_2, tfr_3, tfr_4, s_ild_2, s_bi, s_imul, s_ist4, tkl_n, tkl_i, tkl_l, tkl_r, s_ild4, s_if_lt, s_iadd, s_ald_1, s_lenx, s_ic_le, s_nil, LR, IR, true_and, and_true, Nat.reduceAdd, Nat.reduceSub, eq_self]
  refine ⟨vok_of (s := 6) (by assumption) rfl, ?_⟩
  refine sc_n (D := 0) (fun d' hd' => k_X4_clear (by assumption) (by omega) hd') (by omega) ?_
  intro h3_
  try simp only [s_ild_2, s_bi, s_imul, s_ist4, tkl_n, tkl_i, tkl_l, tkl_r, s_ild4, s_if_lt, s_iadd, s_ald_1, s_lenx, s_ic_le, s_nil, LR, IR, true_and, and_true, Nat.reduceAdd, Nat.reduceSub, eq_self]
  refine ⟨by omega, fun h9_ => ?_, fun h9_ => ?_⟩
  · exact sT_w (n25 _ _ _ _ _ _ (by omega) (by omega) (by omega))
  refine ⟨by assumption, ?_⟩
  refine ⟨by omega, fun h15_ => ?_, fun h15_ => ?_⟩
  · have n32 : ∀ (fu : Nat) (i4_32 : Int) (l5_32 : Int) (i7_32 : Int) (w8_32 : Option tV) (w9_32 : Option tV), 7 - i7_32 + 1 ≤ (fu : Int) → (-70000000 ≤ x2 ∧ x2 ≤ 70000000) → (0 ≤ x3 ∧ x3 ≤ 127) → (0 ≤ i4_32 ∧ i4_32 ≤ 420000000) → (-9223372036854775808 ≤ l5_32 ∧ l5_32 < 9223372036854775808) → (0 ≤ i7_32 ∧ i7_32 ≤ 7) → 0 ≤ i4_32 ∧ i4_32 ≤ 48 → sT e b M0 d 1542 32 [] [some (.inr (.inr (.inl r))), some (.inr (.inr (.inr x1))), some (.inl x2), some (.inl x3), some (.inl i4_32), some (.inr (.inl l5_32)), none, some (.inl i7_32), w8_32, w9_32] [] n (fun r n' _ => (SQn n (True)) r n') := by
      intro fu
      induction fu with
      | zero =>
        intro i4_32 l5_32 i7_32 w8_32 w9_32 hm y32_0 y32_1 y32_2 y32_3 y32_4 y32_5
        exfalso; omega
      | succ fu ih =>
        intro i4_32 l5_32 i7_32 w8_32 w9_32 hm y32_0 y32_1 y32_2 y32_3 y32_4 y32_5
        have ih32 := ih
        clear ih
        refine sblk (hv := false) kbl_X4_load kbs_X4_load (pc := 32) (pe := 82) (rk := 9) (i := 3) rfl (by decide +kernel) ?_
        simp only [kb_X4_load_32, s_ild7, s_bi, s_ic_ge, s_ald_1, s_ild4, s_iadd, s_ia, s_iax, s_i2l, s_ild_3, s_lmul, s_lld5, s_ladd, s_lst8, tkl_n, tkl_i, tkl_l, tkl_r, s_ald_0, s_gf_6_0, s_lld8, s_ld2, s_lrem, s_las, s_ldiv, s_lst5, s_inc7, s_goto, LR, IR, true_and, and_true, Nat.reduceAdd, Nat.reduceSub, eq_self]
        refine ⟨by omega, fun h18_ => ?_, fun h18_ => ?_⟩
        · refine sT_w ?_
          refine sblk (hv := false) kbl_X4_load kbs_X4_load (pc := 82) (pe := 92) (rk := 9) (i := 4) rfl (by decide +kernel) ?_
          simp only [kb_X4_load_82, s_ald_0, s_gf_6_0, s_bi, s_lld5, s_las, s_re, LR, IR, true_and, and_true, Nat.reduceAdd, Nat.reduceSub, eq_self]
          refine ⟨by assumption, fun x20_ h20_ => ?_⟩
          refine ⟨by omega, aok_23 (by assumption) (by omega), ?_⟩
          exact fun _ _ _ _ => ⟨rfl, rfl, by first | trivial | omega⟩
        refine ⟨by assumption, by omega, fun x29_ h29_ => ?_⟩
        refine ⟨by omega, ?_⟩
        refine ⟨by omega, ?_⟩
        intro x33_ h33_
        intro x35_ h35_
        refine ⟨by assumption, fun x38_ h38_ => ?_⟩
        refine ⟨by omega, fun x42_ h42_ => ?_⟩
        refine ⟨by omega, aok_23 (by assumption) (by omega), ?_⟩
        refine ⟨by omega, fun x46_ h46_ y46_ => ?_⟩
        clear y46_
        exact sT_w (ih32 _ _ _ _ _ (by omega) (by omega) (by omega) (by omega) (by omega) (by omega) (by omega))
    refine sT_w ?_
    refine sblk (hv := false) kbl_X4_load kbs_X4_load (pc := 26) (pe := 32) (rk := 9) (i := 2) rfl (by decide +kernel) ?_
    simp only [kb_X4_load_26, s_lc0, s_lst5, tkl_n, tkl_i, tkl_l, tkl_r, s_ic, s_ist7, s_nil, LR, IR, true_and, and_true, Nat.reduceAdd, Nat.reduceSub, eq_self]
    exact sT_w (n32 4294967400 _ _ _ _ _ (by omega) (by omega) (by omega) (by omega) (by omega) (by omega) (by omega))
  exact sT_w (n25 _ _ _ _ _ _ (by omega) (by omega) (by omega))
theorem k_X3_arc {e : tE} {b : Nat} {d n : Nat} {r : Nat} {x1 : Nat} (h0 : cl r 5) (h1 : cl x1 3) (hb : b < 2) (hd : 2 ≤ d) : sC e b d 1281 [.inr (.inr (.inl r)), .inr (.inr (.inl x1))] n (SQn n (True)) := by
  refine sK (fun M h => tst_X3_arc h) (fun M0 => ?_)
  have n13 : ∀ (w2_13 : Option tV) (w3_13 : Option tV) (w4_13 : Option tV) (is0_13 : Int) (qs1_13 : Nat), (0 ≤ is0_13 ∧ is0_13 ≤ 1) → cl qs1_13 5 → sT e b M0 d 1281 13 [] [some (.inr (.inr (.inl r))), some (.inr (.inr (.inl x1))), w2_13, w3_13, w4_13] [.inl is0_13, .inr (.inr (.inl qs1_13))] n (fun r n' _ => (SQn n (True)) r n') := by
    intro w2_13 w3_13 w4_13 is0_13 qs1_13 y13_0 y13_1
    refine sblk (hv := false) kbl_X3_arc kbs_X3_arc (pc := 13) (pe := 24) (rk := 9) (i := 2) rfl (by decide +kernel) ?_
    simp only [kb_X3_arc_13, s_iv1, tfr_0, tfr_1, tfr_2, tfr_3, tfr_4, s_ald_1, s_iv0, s_if_eq, s_re, LR, IR, true_and, and_true, Nat.reduceAdd, Nat.reduceSub, eq_self]
    refine ⟨vok_of (s := 5) (by assumption) rfl, ?_⟩
    refine sc_n (D := 1) (fun d' hd' => k_X3_begin (by assumption) (by omega) (by omega) hd') (by omega) ?_
    intro h1_
    try simp only [s_ald_1, s_iv0, tfr_0, tfr_1, tfr_2, tfr_3, tfr_4, s_if_eq, s_re, LR, IR, true_and, and_true, Nat.reduceAdd, Nat.reduceSub, eq_self]
    refine ⟨vok_of (s := 3) (by assumption) rfl, ?_⟩
    refine sc_i (D := 0) (fun d' hd' => k_X1_isZero (by assumption) hd') (by omega) ?_
    intro x3_ h3_
    try simp only [s_if_eq, s_re, LR, IR, true_and, and_true, Nat.reduceAdd, Nat.reduceSub, eq_self]
    refine ⟨by omega, fun h4_ => ?_, fun h4_ => ?_⟩
    · have n46 : ∀ (w2_46 : Option tV) (w3_46 : Option tV) (w4_46 : Option tV), sT e b M0 d 1281 46 [] [some (.inr (.inr (.inl r))), some (.inr (.inr (.inl x1))), w2_46, w3_46, w4_46] [] n (fun r n' _ => (SQn n (True)) r n') := by
        intro w2_46 w3_46 w4_46 
        have n91 : ∀ (i2_91 : Int) (w3_91 : Option tV) (w4_91 : Option tV), (0 ≤ i2_91 ∧ i2_91 ≤ 1) → sT e b M0 d 1281 91 [] [some (.inr (.inr (.inl r))), some (.inr (.inr (.inl x1))), some (.inl i2_91), w3_91, w4_91] [] n (fun r n' _ => (SQn n (True)) r n') := by
          intro i2_91 w3_91 w4_91 y91_0
          have n139 : ∀ (i3_139 : Int) (i4_139 : Int), (0 ≤ i3_139 ∧ i3_139 ≤ 8) → (0 ≤ i4_139 ∧ i4_139 ≤ 1) → sT e b M0 d 1281 139 [] [some (.inr (.inr (.inl r))), some (.inr (.inr (.inl x1))), some (.inl i2_91), some (.inl i3_139), some (.inl i4_139)] [] n (fun r n' _ => (SQn n (True)) r n') := by
            intro i3_139 i4_139 y139_0 y139_1
            have n166 : ∀ (qs0_166 : Nat), cl qs0_166 6 → sT e b M0 d 1281 166 [] [some (.inr (.inr (.inl r))), some (.inr (.inr (.inl x1))), some (.inl i2_91), some (.inl i3_139), some (.inl i4_139)] [.inr (.inr (.inl qs0_166))] n (fun r n' _ => (SQn n (True)) r n') := by
              intro qs0_166 y166_0
              have n190 : ∀ (qs0_190 : Nat), cl qs0_190 6 → sT e b M0 d 1281 190 [] [some (.inr (.inr (.inl r))), some (.inr (.inr (.inl x1))), some (.inl i2_91), some (.inl i3_139), some (.inl i4_139)] [.inr (.inr (.inl qs0_190))] n (fun r n' _ => (SQn n (True)) r n') := by
                intro qs0_190 y190_0
                refine sblk (hv := false) kbl_X3_arc kbs_X3_arc (pc := 190) (pe := 210) (rk := 9) (i := 10) rfl (by decide +kernel) ?_
                simp only [kb_X3_arc_190, s_ald_0, s_gf_5_6, s_iv1, tfr_0, tfr_1, tfr_2, tfr_3, tfr_4, s_iv0, s_ald_1, s_pf_5_1, s_re, LR, IR, true_and, and_true, Nat.reduceAdd, Nat.reduceSub, eq_self]
                refine ⟨by assumption, fun x6_ h6_ => ?_⟩
                refine ⟨vok_of (s := 6) (by assumption) rfl, ?_⟩
                refine sc_n (D := 0) (fun d' hd' => k_X4_plus (by assumption) (by assumption) (by omega) hd') (by omega) ?_
                intro h7_
                try simp only [s_ald_0, s_iv0, tfr_0, tfr_1, tfr_2, tfr_3, tfr_4, s_ald_1, s_pf_5_1, s_re, LR, IR, true_and, and_true, Nat.reduceAdd, Nat.reduceSub, eq_self]
                refine ⟨vok_of (s := 5) (by assumption) rfl, ?_⟩
                refine sc_n (D := 1) (fun d' hd' => k_X3_settle (by assumption) (by omega) hd') (by omega) ?_
                intro h9_
                try simp only [s_ald_0, s_ald_1, s_iv0, tfr_0, tfr_1, tfr_2, tfr_3, tfr_4, s_pf_5_1, s_re, LR, IR, true_and, and_true, Nat.reduceAdd, Nat.reduceSub, eq_self]
                refine ⟨vok_of (s := 3) (by assumption) rfl, ?_⟩
                refine sc_i (D := 0) (fun d' hd' => k_X1_isNegative (by assumption) hd') (by omega) ?_
                intro x12_ h12_
                try simp only [s_pf_5_1, s_re, LR, IR, true_and, and_true, Nat.reduceAdd, Nat.reduceSub, eq_self]
                refine ⟨by omega, by assumption, by omega, ?_⟩
                exact fun _ _ _ _ => ⟨rfl, rfl, by first | trivial | omega⟩
              refine sblk (hv := false) kbl_X3_arc kbs_X3_arc (pc := 166) (pe := 186) (rk := 9) (i := 8) rfl (by decide +kernel) ?_
              simp only [kb_X3_arc_166, s_ald_0, s_gf_5_5, s_iv1, tfr_0, tfr_1, tfr_2, tfr_3, tfr_4, s_ild_2, s_ild4, s_ic_eq, s_gf_5_8, s_goto, LR, IR, true_and, and_true, Nat.reduceAdd, Nat.reduceSub, eq_self]
              refine ⟨by assumption, fun x16_ h16_ => ?_⟩
              refine ⟨vok_of (s := 6) (by assumption) rfl, ?_⟩
              refine sc_n (D := 0) (fun d' hd' => k_X4_plus (by assumption) (by assumption) (by omega) hd') (by omega) ?_
              intro h17_
              try simp only [s_ild_2, s_ild4, s_ic_eq, s_ald_0, s_gf_5_8, s_goto, LR, IR, true_and, and_true, Nat.reduceAdd, Nat.reduceSub, eq_self]
              refine ⟨by omega, fun h20_ => ?_, fun h20_ => ?_⟩
              · refine sT_w ?_
                refine sblk (hv := false) kbl_X3_arc kbs_X3_arc (pc := 186) (pe := 190) (rk := 9) (i := 9) rfl (by decide +kernel) ?_
                simp only [kb_X3_arc_186, s_ald_0, s_gf_5_7, s_nil, LR, IR, true_and, and_true, Nat.reduceAdd, Nat.reduceSub, eq_self]
                refine ⟨by assumption, fun x22_ h22_ => ?_⟩
                exact sT_w (n190 _ (by assumption))
              refine ⟨by assumption, fun x24_ h24_ => ?_⟩
              exact sT_w (n190 _ (by assumption))
            refine sblk (hv := false) kbl_X3_arc kbs_X3_arc (pc := 139) (pe := 162) (rk := 9) (i := 6) rfl (by decide +kernel) ?_
            simp only [kb_X3_arc_139, s_ald_0, s_gf_5_5, s_gs, s_ild_3, s_ic, s_iv3, tfr_0, tfr_1, tfr_2, tfr_3, tfr_4, s_ild_2, s_if_eq, s_gf_5_8, s_goto, LR, IR, true_and, and_true, Nat.reduceAdd, Nat.reduceSub, eq_self]
            refine ⟨by assumption, fun x27_ h27_ => ?_⟩
            refine ⟨vok_of (s := 6) (by assumption) rfl, ?_⟩
            refine sc_n (D := 1) (fun d' hd' => k_X4_load (by assumption) (by first | assumption | exact Or.inl rfl | exact Or.inr rfl) (by omega) (by omega) (by omega) hd') (by omega) ?_
            intro h31_
            try simp only [s_ild_2, s_if_eq, s_ald_0, s_gf_5_8, s_goto, LR, IR, true_and, and_true, Nat.reduceAdd, Nat.reduceSub, eq_self]
            refine ⟨by omega, fun h33_ => ?_, fun h33_ => ?_⟩
            · refine sT_w ?_
              refine sblk (hv := false) kbl_X3_arc kbs_X3_arc (pc := 162) (pe := 166) (rk := 9) (i := 7) rfl (by decide +kernel) ?_
              simp only [kb_X3_arc_162, s_ald_0, s_gf_5_7, s_nil, LR, IR, true_and, and_true, Nat.reduceAdd, Nat.reduceSub, eq_self]
              refine ⟨by assumption, fun x35_ h35_ => ?_⟩
              exact sT_w (n166 _ (by assumption))
            refine ⟨by assumption, fun x37_ h37_ => ?_⟩
            exact sT_w (n166 _ (by assumption))
          refine sblk (hv := false) kbl_X3_arc kbs_X3_arc (pc := 91) (pe := 139) (rk := 9) (i := 5) rfl (by decide +kernel) ?_
          simp only [kb_X3_arc_91, s_ald_0, s_iv0, tfr_0, tfr_1, tfr_2, tfr_3, tfr_4, s_ist_3, tkl_n, tkl_i, tkl_l, tkl_r, s_ild_3, s_iv1, s_ist4, s_ic, s_gf_5_7, s_gf_5_8, s_ild_2, s_if_eq, s_gs, s_bi, s_iv3, s_nil, LR, IR, true_and, and_true, Nat.reduceAdd, Nat.reduceSub, eq_self]
          refine ⟨vok_of (s := 5) (by assumption) rfl, ?_⟩
          refine sc_i (D := 1) (fun d' hd' => k_X3_nearestEighth (by assumption) (by omega) hd') (by omega) ?_
          intro x40_ h40_
          try simp only [s_ist_3, tkl_n, tkl_i, tkl_l, tkl_r, s_ald_0, s_ild_3, s_iv1, tfr_0, tfr_1, tfr_2, tfr_3, tfr_4, s_ist4, s_ic, s_gf_5_7, s_iv0, s_gf_5_8, s_ild_2, s_if_eq, s_gs, s_bi, s_iv3, s_nil, LR, IR, true_and, and_true, Nat.reduceAdd, Nat.reduceSub, eq_self]
          refine ⟨vok_of (s := 5) (by assumption) rfl, ?_⟩
          refine sc_i (D := 1) (fun d' hd' => k_X3_shiftToEighth (by assumption) (by omega) (by omega) hd') (by omega) ?_
          intro x44_ h44_
          try simp only [s_ist4, tkl_n, tkl_i, tkl_l, tkl_r, s_ald_0, s_ic, s_iv1, tfr_0, tfr_1, tfr_2, tfr_3, tfr_4, s_gf_5_7, s_iv0, s_gf_5_8, s_ild_2, s_if_eq, s_gs, s_bi, s_iv3, s_nil, LR, IR, true_and, and_true, Nat.reduceAdd, Nat.reduceSub, eq_self]
          refine ⟨vok_of (s := 5) (by assumption) rfl, ?_⟩
          refine sc_n (D := 1) (fun d' hd' => k_X3_sumOddPowers (by assumption) (by omega) (by omega) hd') (by omega) ?_
          intro h48_
          try simp only [s_ald_0, s_gf_5_7, s_iv0, tfr_0, tfr_1, tfr_2, tfr_3, tfr_4, s_gf_5_8, s_ild_2, s_if_eq, s_gs, s_bi, s_ic, s_iv3, s_nil, LR, IR, true_and, and_true, Nat.reduceAdd, Nat.reduceSub, eq_self]
          refine ⟨by assumption, fun x50_ h50_ => ?_⟩
          refine ⟨vok_of (s := 6) (by assumption) rfl, ?_⟩
          refine sc_n (D := 0) (fun d' hd' => k_X4_clear (by assumption) (by omega) hd') (by omega) ?_
          intro h51_
          try simp only [s_ald_0, s_gf_5_8, s_iv0, tfr_0, tfr_1, tfr_2, tfr_3, tfr_4, s_ild_2, s_if_eq, s_gf_5_7, s_gs, s_bi, s_ic, s_iv3, s_nil, LR, IR, true_and, and_true, Nat.reduceAdd, Nat.reduceSub, eq_self]
          refine ⟨by assumption, fun x53_ h53_ => ?_⟩
          refine ⟨vok_of (s := 6) (by assumption) rfl, ?_⟩
          refine sc_n (D := 0) (fun d' hd' => k_X4_clear (by assumption) (by omega) hd') (by omega) ?_
          intro h54_
          try simp only [s_ild_2, s_if_eq, s_ald_0, s_gf_5_7, s_gs, s_bi, s_ic, s_iv3, tfr_0, tfr_1, tfr_2, tfr_3, tfr_4, s_nil, LR, IR, true_and, and_true, Nat.reduceAdd, Nat.reduceSub, eq_self]
          refine ⟨by omega, fun h56_ => ?_, fun h56_ => ?_⟩
          · exact sT_w (n139 _ _ (by omega) (by omega))
          refine ⟨by assumption, fun x58_ h58_ => ?_⟩
          refine ⟨vok_of (s := 6) (by assumption) rfl, ?_⟩
          refine sc_n (D := 1) (fun d' hd' => k_X4_load (by assumption) (by first | assumption | exact Or.inl rfl | exact Or.inr rfl) (by omega) (by omega) (by omega) hd') (by omega) ?_
          intro h62_
          try simp only [s_nil, LR, IR, true_and, and_true, Nat.reduceAdd, Nat.reduceSub, eq_self]
          exact sT_w (n139 _ _ (by omega) (by omega))
        refine sblk (hv := false) kbl_X3_arc kbs_X3_arc (pc := 46) (pe := 91) (rk := 9) (i := 4) rfl (by decide +kernel) ?_
        simp only [kb_X3_arc_46, s_ald_0, s_gf_5_12, s_lc1, s_lc0, s_iv2, tfr_0, tfr_1, tfr_2, tfr_3, tfr_4, s_gf_5_11, s_iv1, s_ist_2, tkl_n, tkl_i, tkl_l, tkl_r, s_ild_2, s_if_eq, s_nil, LR, IR, true_and, and_true, Nat.reduceAdd, Nat.reduceSub, eq_self]
        refine ⟨by assumption, fun x64_ h64_ => ?_⟩
        refine ⟨vok_of (s := 3) (by assumption) rfl, ?_⟩
        refine sc_n (D := 0) (fun d' hd' => k_X1_assign (by assumption) (by omega) (by omega) (by omega) hd') (by omega) ?_
        intro h67_
        try simp only [s_ald_0, s_gf_5_12, s_gf_5_11, s_iv1, tfr_0, tfr_1, tfr_2, tfr_3, tfr_4, s_ist_2, tkl_n, tkl_i, tkl_l, tkl_r, s_ild_2, s_if_eq, s_lc1, s_lc0, s_iv2, s_nil, LR, IR, true_and, and_true, Nat.reduceAdd, Nat.reduceSub, eq_self]
        refine ⟨by assumption, fun x69_ h69_ => ?_⟩
        refine ⟨by assumption, fun x71_ h71_ => ?_⟩
        refine ⟨vok_of (s := 3) (by assumption) rfl, ?_⟩
        refine sc_i (D := 0) (fun d' hd' => k_X1_isBelow (by assumption) (by assumption) hd') (by omega) ?_
        intro x72_ h72_
        try simp only [s_ist_2, tkl_n, tkl_i, tkl_l, tkl_r, s_ild_2, s_if_eq, s_ald_0, s_gf_5_12, s_gf_5_11, s_iv1, tfr_0, tfr_1, tfr_2, tfr_3, tfr_4, s_lc1, s_lc0, s_iv2, s_nil, LR, IR, true_and, and_true, Nat.reduceAdd, Nat.reduceSub, eq_self]
        refine ⟨by omega, fun h75_ => ?_, fun h75_ => ?_⟩
        · exact sT_w (n91 _ _ _ (by omega))
        refine ⟨by assumption, fun x77_ h77_ => ?_⟩
        refine ⟨by assumption, fun x79_ h79_ => ?_⟩
        refine ⟨vok_of (s := 3) (by assumption) rfl, ?_⟩
        refine sc_n (D := 0) (fun d' hd' => k_X1_copy (by assumption) (by assumption) (by omega) hd') (by omega) ?_
        intro h80_
        try simp only [s_ald_0, s_gf_5_11, s_lc1, s_lc0, s_iv2, tfr_0, tfr_1, tfr_2, tfr_3, tfr_4, s_nil, LR, IR, true_and, and_true, Nat.reduceAdd, Nat.reduceSub, eq_self]
        refine ⟨by assumption, fun x82_ h82_ => ?_⟩
        refine ⟨vok_of (s := 3) (by assumption) rfl, ?_⟩
        refine sc_n (D := 0) (fun d' hd' => k_X1_assign (by assumption) (by omega) (by omega) (by omega) hd') (by omega) ?_
        intro h85_
        try simp only [s_nil, LR, IR, true_and, and_true, Nat.reduceAdd, Nat.reduceSub, eq_self]
        exact sT_w (n91 _ _ _ (by omega))
      refine sT_w ?_
      refine sblk (hv := false) kbl_X3_arc kbs_X3_arc (pc := 24) (pe := 46) (rk := 9) (i := 3) rfl (by decide +kernel) ?_
      simp only [kb_X3_arc_24, s_ald_0, s_gf_5_11, s_ald_1, s_iv1, tfr_0, tfr_1, tfr_2, tfr_3, tfr_4, s_iv0, s_if_eq, s_nil, LR, IR, true_and, and_true, Nat.reduceAdd, Nat.reduceSub, eq_self]
      refine ⟨by assumption, fun x87_ h87_ => ?_⟩
      refine ⟨vok_of (s := 3) (by assumption) rfl, ?_⟩
      refine sc_n (D := 0) (fun d' hd' => k_X1_copy (by assumption) (by assumption) (by omega) hd') (by omega) ?_
      intro h89_
      try simp only [s_ald_1, s_iv0, tfr_0, tfr_1, tfr_2, tfr_3, tfr_4, s_if_eq, s_ald_0, s_gf_5_11, s_nil, LR, IR, true_and, and_true, Nat.reduceAdd, Nat.reduceSub, eq_self]
      refine ⟨vok_of (s := 3) (by assumption) rfl, ?_⟩
      refine sc_i (D := 0) (fun d' hd' => k_X1_isNegative (by assumption) hd') (by omega) ?_
      intro x91_ h91_
      try simp only [s_if_eq, s_ald_0, s_gf_5_11, s_iv0, tfr_0, tfr_1, tfr_2, tfr_3, tfr_4, s_nil, LR, IR, true_and, and_true, Nat.reduceAdd, Nat.reduceSub, eq_self]
      refine ⟨by omega, fun h92_ => ?_, fun h92_ => ?_⟩
      · exact sT_w (n46 _ _ _)
      refine ⟨by assumption, fun x94_ h94_ => ?_⟩
      refine ⟨vok_of (s := 3) (by assumption) rfl, ?_⟩
      refine sc_n (D := 0) (fun d' hd' => k_X1_turn (by assumption) (by omega) hd') (by omega) ?_
      intro h95_
      try simp only [s_nil, LR, IR, true_and, and_true, Nat.reduceAdd, Nat.reduceSub, eq_self]
      exact sT_w (n46 _ _ _)
    exact fun _ _ _ _ => ⟨rfl, rfl, by first | trivial | omega⟩
  refine sblk (hv := false) kbl_X3_arc kbs_X3_arc (pc := 0) (pe := 12) (rk := 9) (i := 0) rfl (by decide +kernel) ?_
  simp only [kb_X3_arc_0, s_ald_0, s_ald_1, s_iv0, tfr_0, tfr_1, tfr_2, tfr_3, tfr_4, s_if_ne, s_ic, s_goto, LR, IR, true_and, and_true, Nat.reduceAdd, Nat.reduceSub, eq_self]
  refine ⟨vok_of (s := 3) (by assumption) rfl, ?_⟩
  refine sc_i (D := 0) (fun d' hd' => k_X1_isZero (by assumption) hd') (by omega) ?_
  intro x99_ h99_
  try simp only [s_if_ne, s_ic, s_goto, LR, IR, true_and, and_true, Nat.reduceAdd, Nat.reduceSub, eq_self]
  refine ⟨by omega, fun h100_ => ?_, fun h100_ => ?_⟩
  · refine sT_w ?_
    refine sblk (hv := false) kbl_X3_arc kbs_X3_arc (pc := 12) (pe := 13) (rk := 9) (i := 1) rfl (by decide +kernel) ?_
    simp only [kb_X3_arc_12, s_ic, s_nil, LR, IR, true_and, and_true, Nat.reduceAdd, Nat.reduceSub, eq_self]
    exact sT_w (n13 _ _ _ _ _ (by omega) (by assumption))
  exact sT_w (n13 _ _ _ _ _ (by omega) (by assumption))
theorem k_X3_sumPowers {e : tE} {b : Nat} {d n : Nat} {r : Nat} {x1 : Nat} (h0 : cl r 5) (h1 : cl x1 3) (hb : b < 2) (hd : 1 ≤ d) : sC e b d 1289 [.inr (.inr (.inl r)), .inr (.inr (.inl x1))] n (SQn n (True)) := by
  refine sK (fun M h => tst_X3_sumPowers h) (fun M0 => ?_)
  have n25 : ∀ (l2_25 : Int) (w4_25 : Option tV) (w5_25 : Option tV) (w6_25 : Option tV) (w7_25 : Option tV) (is0_25 : Int), (-9223372036854775808 ≤ l2_25 ∧ l2_25 < 9223372036854775808) → (0 ≤ is0_25 ∧ is0_25 ≤ 1) → sT e b M0 d 1289 25 [] [some (.inr (.inr (.inl r))), some (.inr (.inr (.inl x1))), some (.inr (.inl l2_25)), none, w4_25, w5_25, w6_25, w7_25] [.inl is0_25] n (fun r n' _ => (SQn n (True)) r n') := by
    intro l2_25 w4_25 w5_25 w6_25 w7_25 is0_25 y25_0 y25_1
    have n38 : ∀ (i4_38 : Int) (w5_38 : Option tV) (w6_38 : Option tV) (w7_38 : Option tV) (ls0_38 : Int), (0 ≤ i4_38 ∧ i4_38 ≤ 1) → (-9223372036854775808 ≤ ls0_38 ∧ ls0_38 < 9223372036854775808) → sT e b M0 d 1289 38 [] [some (.inr (.inr (.inl r))), some (.inr (.inr (.inl x1))), some (.inr (.inl l2_25)), none, some (.inl i4_38), w5_38, w6_38, w7_38] [.inr (.inl ls0_38)] n (fun r n' _ => (SQn n (True)) r n') := by
      intro i4_38 w5_38 w6_38 w7_38 ls0_38 y38_0 y38_1
      have n110 : ∀ (fu : Nat) (l5_110 : Int) (i7_110 : Int), 699 - i7_110 + 1 ≤ (fu : Int) → (-9223372036854775808 ≤ l5_110 ∧ l5_110 < 9223372036854775808) → (1 ≤ i7_110 ∧ i7_110 ≤ 699) → sT e b M0 d 1289 110 [] [some (.inr (.inr (.inl r))), some (.inr (.inr (.inl x1))), some (.inr (.inl l2_25)), none, some (.inl i4_38), some (.inr (.inl l5_110)), none, some (.inl i7_110)] [] n (fun r n' _ => (SQn n (True)) r n') := by
        intro fu
        induction fu with
        | zero =>
          intro l5_110 i7_110 hm y110_0 y110_1
          exfalso; omega
        | succ fu ih =>
          intro l5_110 i7_110 hm y110_0 y110_1
          have ih110 := ih
          clear ih
          have n199 : sT e b M0 d 1289 199 [] [some (.inr (.inr (.inl r))), some (.inr (.inr (.inl x1))), some (.inr (.inl l2_25)), none, some (.inl i4_38), some (.inr (.inl l5_110)), none, some (.inl i7_110)] [] n (fun r n' _ => (SQn n (True)) r n') := by
            refine sblk (hv := false) kbl_X3_sumPowers kbs_X3_sumPowers (pc := 199) (pe := 200) (rk := 9) (i := 9) rfl (by decide +kernel) ?_
            simp only [kb_X3_sumPowers_199, s_re, LR, IR, true_and, and_true, Nat.reduceAdd, Nat.reduceSub, eq_self]
            exact fun _ _ _ _ => ⟨rfl, rfl, by first | trivial | omega⟩
          refine sblk (hv := false) kbl_X3_sumPowers kbs_X3_sumPowers (pc := 110) (pe := 155) (rk := 9) (i := 5) rfl (by decide +kernel) ?_
          simp only [kb_X3_sumPowers_110, s_ild7, s_si, s_ic_ge, s_ald_0, s_gf_5_5, s_gf_5_4, s_iv2, tfr_0, tfr_1, tfr_2, tfr_3, tfr_4, s_iv1, s_iv0, s_if_eq, s_goto, LR, IR, true_and, and_true, Nat.reduceAdd, Nat.reduceSub, eq_self]
          refine ⟨by omega, fun h4_ => ?_, fun h4_ => ?_⟩
          · exact sT_w (n199)
          refine ⟨by assumption, fun x6_ h6_ => ?_⟩
          refine ⟨by assumption, fun x8_ h8_ => ?_⟩
          refine ⟨by assumption, fun x10_ h10_ => ?_⟩
          refine ⟨vok_of (s := 6) (by assumption) rfl, ?_⟩
          refine sc_n (D := 0) (fun d' hd' => k_X4_toProduct (by assumption) (by assumption) (by assumption) (by omega) hd') (by omega) ?_
          intro h11_
          try simp only [s_ald_0, s_gf_5_5, s_ild7, s_iv1, tfr_0, tfr_1, tfr_2, tfr_3, tfr_4, s_iv0, s_if_eq, s_goto, LR, IR, true_and, and_true, Nat.reduceAdd, Nat.reduceSub, eq_self]
          refine ⟨by assumption, fun x13_ h13_ => ?_⟩
          refine ⟨vok_of (s := 6) (by assumption) rfl, ?_⟩
          refine sc_n (D := 0) (fun d' hd' => k_X4_over (by assumption) (by omega) (by omega) hd') (by omega) ?_
          intro h15_
          try simp only [s_ald_0, s_gf_5_5, s_iv0, tfr_0, tfr_1, tfr_2, tfr_3, tfr_4, s_if_eq, s_goto, LR, IR, true_and, and_true, Nat.reduceAdd, Nat.reduceSub, eq_self]
          refine ⟨by assumption, fun x17_ h17_ => ?_⟩
          refine ⟨vok_of (s := 6) (by assumption) rfl, ?_⟩
          refine sc_i (D := 0) (fun d' hd' => k_X4_isZero (by assumption) hd') (by omega) ?_
          intro x18_ h18_
          try simp only [s_if_eq, s_goto, LR, IR, true_and, and_true, Nat.reduceAdd, Nat.reduceSub, eq_self]
          refine ⟨by omega, fun h19_ => ?_, fun h19_ => ?_⟩
          · have n193 : (1 ≤ i7_110 ∧ i7_110 ≤ 499) → sT e b M0 d 1289 193 [] [some (.inr (.inr (.inl r))), some (.inr (.inr (.inl x1))), some (.inr (.inl l2_25)), none, some (.inl i4_38), some (.inr (.inl l5_110)), none, some (.inl i7_110)] [] n (fun r n' _ => (SQn n (True)) r n') := by
              intro  y193_0
              refine sblk (hv := false) kbl_X3_sumPowers kbs_X3_sumPowers (pc := 193) (pe := 199) (rk := 9) (i := 8) rfl (by decide +kernel) ?_
              simp only [kb_X3_sumPowers_193, s_inc7, tkl_n, tkl_i, tkl_l, tkl_r, s_goto, LR, IR, true_and, and_true, Nat.reduceAdd, Nat.reduceSub, eq_self]
              exact sT_w (ih110 _ _ (by omega) (by omega) (by omega))
            have n182 : (1 ≤ i7_110 ∧ i7_110 ≤ 499) → sT e b M0 d 1289 182 [] [some (.inr (.inr (.inl r))), some (.inr (.inr (.inl x1))), some (.inr (.inl l2_25)), none, some (.inl i4_38), some (.inr (.inl l5_110)), none, some (.inl i7_110)] [] n (fun r n' _ => (SQn n (True)) r n') := by
              intro  y182_0
              refine sblk (hv := false) kbl_X3_sumPowers kbs_X3_sumPowers (pc := 182) (pe := 193) (rk := 9) (i := 7) rfl (by decide +kernel) ?_
              simp only [kb_X3_sumPowers_182, s_ald_0, s_gf_5_6, s_gf_5_5, s_iv1, tfr_0, tfr_1, tfr_2, tfr_3, tfr_4, s_nil, LR, IR, true_and, and_true, Nat.reduceAdd, Nat.reduceSub, eq_self]
              refine ⟨by assumption, fun x23_ h23_ => ?_⟩
              refine ⟨by assumption, fun x25_ h25_ => ?_⟩
              refine ⟨vok_of (s := 6) (by assumption) rfl, ?_⟩
              refine sc_n (D := 0) (fun d' hd' => k_X4_plus (by assumption) (by assumption) (by omega) hd') (by omega) ?_
              intro h26_
              try simp only [s_nil, LR, IR, true_and, and_true, Nat.reduceAdd, Nat.reduceSub, eq_self]
              exact sT_w (n193 (by omega))
            refine sT_w ?_
            refine sblk (hv := false) kbl_X3_sumPowers kbs_X3_sumPowers (pc := 155) (pe := 182) (rk := 9) (i := 6) rfl (by decide +kernel) ?_
            simp only [kb_X3_sumPowers_155, s_ild4, s_if_eq, s_ild7, s_ic, s_irem, s_ic_ne, s_ald_0, s_gf_5_6, s_gf_5_5, s_iv1, tfr_0, tfr_1, tfr_2, tfr_3, tfr_4, s_goto, LR, IR, true_and, and_true, Nat.reduceAdd, Nat.reduceSub, eq_self]
            refine ⟨by omega, fun h28_ => ?_, fun h28_ => ?_⟩
            · exact sT_w (n182 (by omega))
            refine ⟨by omega, fun x31_ h31_ g31_ => ?_⟩
            refine ⟨by omega, fun h33_ => ?_, fun h33_ => ?_⟩
            · exact sT_w (n182 (by omega))
            refine ⟨by assumption, fun x35_ h35_ => ?_⟩
            refine ⟨by assumption, fun x37_ h37_ => ?_⟩
            refine ⟨vok_of (s := 6) (by assumption) rfl, ?_⟩
            refine sc_n (D := 0) (fun d' hd' => k_X4_minus (by assumption) (by assumption) (by omega) hd') (by omega) ?_
            intro h38_
            try simp only [s_goto, LR, IR, true_and, and_true, Nat.reduceAdd, Nat.reduceSub, eq_self]
            exact sT_w (n193 (by omega))
          exact sT_w (n199)
      refine sblk (hv := false) kbl_X3_sumPowers kbs_X3_sumPowers (pc := 38) (pe := 110) (rk := 9) (i := 4) rfl (by decide +kernel) ?_
      simp only [kb_X3_sumPowers_38, s_ld2, s_lmul, s_lst5, tkl_n, tkl_i, tkl_l, tkl_r, s_ald_0, s_gf_5_4, s_iv0, tfr_0, tfr_1, tfr_2, tfr_3, tfr_4, s_ic, s_lld5, s_ldiv, s_iv2, s_lrem, s_gf_5_5, s_bi, s_lc1, s_gf_5_6, s_iv1, s_ist7, s_nil, LR, IR, true_and, and_true, Nat.reduceAdd, Nat.reduceSub, eq_self]
      intro x42_ h42_
      refine ⟨by assumption, fun x45_ h45_ => ?_⟩
      refine ⟨vok_of (s := 6) (by assumption) rfl, ?_⟩
      refine sc_n (D := 0) (fun d' hd' => k_X4_clear (by assumption) (by omega) hd') (by omega) ?_
      intro h46_
      try simp only [s_ald_0, s_gf_5_4, s_ic, s_lld5, s_ld2, s_ldiv, s_iv2, tfr_0, tfr_1, tfr_2, tfr_3, tfr_4, s_lrem, s_gf_5_5, s_iv0, s_bi, s_lc1, s_gf_5_6, s_iv1, s_ist7, tkl_n, tkl_i, tkl_l, tkl_r, s_nil, LR, IR, true_and, and_true, Nat.reduceAdd, Nat.reduceSub, eq_self]
      refine ⟨by assumption, fun x48_ h48_ => ?_⟩
      refine ⟨by omega, fun x52_ h52_ y52_ => ?_⟩
      clear y52_
      refine ⟨vok_of (s := 6) (by assumption) rfl, ?_⟩
      refine sc_n (D := 0) (fun d' hd' => k_X4_setLimb (by assumption) (by omega) (by omega) (by omega) hd') (by omega) ?_
      intro h53_
      try simp only [s_ald_0, s_gf_5_4, s_ic, s_lld5, s_ld2, s_lrem, s_iv2, tfr_0, tfr_1, tfr_2, tfr_3, tfr_4, s_gf_5_5, s_iv0, s_bi, s_lc1, s_gf_5_6, s_iv1, s_ist7, tkl_n, tkl_i, tkl_l, tkl_r, s_nil, LR, IR, true_and, and_true, Nat.reduceAdd, Nat.reduceSub, eq_self]
      refine ⟨by assumption, fun x55_ h55_ => ?_⟩
      refine ⟨by omega, fun x59_ h59_ => ?_⟩
      refine ⟨vok_of (s := 6) (by assumption) rfl, ?_⟩
      refine sc_n (D := 0) (fun d' hd' => k_X4_setLimb (by assumption) (by omega) (by omega) (by omega) hd') (by omega) ?_
      intro h60_
      try simp only [s_ald_0, s_gf_5_5, s_iv0, tfr_0, tfr_1, tfr_2, tfr_3, tfr_4, s_bi, s_lc1, s_iv2, s_gf_5_6, s_iv1, s_ic, s_ist7, tkl_n, tkl_i, tkl_l, tkl_r, s_nil, LR, IR, true_and, and_true, Nat.reduceAdd, Nat.reduceSub, eq_self]
      refine ⟨by assumption, fun x62_ h62_ => ?_⟩
      refine ⟨vok_of (s := 6) (by assumption) rfl, ?_⟩
      refine sc_n (D := 0) (fun d' hd' => k_X4_clear (by assumption) (by omega) hd') (by omega) ?_
      intro h63_
      try simp only [s_ald_0, s_gf_5_5, s_bi, s_lc1, s_iv2, tfr_0, tfr_1, tfr_2, tfr_3, tfr_4, s_gf_5_6, s_iv1, s_ic, s_ist7, tkl_n, tkl_i, tkl_l, tkl_r, s_nil, LR, IR, true_and, and_true, Nat.reduceAdd, Nat.reduceSub, eq_self]
      refine ⟨by assumption, fun x65_ h65_ => ?_⟩
      refine ⟨vok_of (s := 6) (by assumption) rfl, ?_⟩
      refine sc_n (D := 0) (fun d' hd' => k_X4_setLimb (by assumption) (by omega) (by omega) (by omega) hd') (by omega) ?_
      intro h68_
      try simp only [s_ald_0, s_gf_5_6, s_gf_5_5, s_iv1, tfr_0, tfr_1, tfr_2, tfr_3, tfr_4, s_ic, s_ist7, tkl_n, tkl_i, tkl_l, tkl_r, s_nil, LR, IR, true_and, and_true, Nat.reduceAdd, Nat.reduceSub, eq_self]
      refine ⟨by assumption, fun x70_ h70_ => ?_⟩
      refine ⟨by assumption, fun x72_ h72_ => ?_⟩
      refine ⟨vok_of (s := 6) (by assumption) rfl, ?_⟩
      refine sc_n (D := 0) (fun d' hd' => k_X4_copy (by assumption) (by assumption) (by omega) hd') (by omega) ?_
      intro h73_
      try simp only [s_ic, s_ist7, tkl_n, tkl_i, tkl_l, tkl_r, s_nil, LR, IR, true_and, and_true, Nat.reduceAdd, Nat.reduceSub, eq_self]
      exact sT_w (n110 4294967400 _ _ (by omega) (by omega) (by omega))
    refine sblk (hv := false) kbl_X3_sumPowers kbs_X3_sumPowers (pc := 25) (pe := 37) (rk := 9) (i := 2) rfl (by decide +kernel) ?_
    simp only [kb_X3_sumPowers_25, s_ist4, tkl_n, tkl_i, tkl_l, tkl_r, s_ild4, s_if_eq, s_lld_2, s_lneg, s_goto, LR, IR, true_and, and_true, Nat.reduceAdd, Nat.reduceSub, eq_self]
    refine ⟨by omega, fun h78_ => ?_, fun h78_ => ?_⟩
    · refine sT_w ?_
      refine sblk (hv := false) kbl_X3_sumPowers kbs_X3_sumPowers (pc := 37) (pe := 38) (rk := 9) (i := 3) rfl (by decide +kernel) ?_
      simp only [kb_X3_sumPowers_37, s_lld_2, s_nil, LR, IR, true_and, and_true, Nat.reduceAdd, Nat.reduceSub, eq_self]
      exact sT_w (n38 _ _ _ _ _ (by omega) (by omega))
    intro x81_ h81_
    exact sT_w (n38 _ _ _ _ _ (by omega) (by omega))
  refine sblk (hv := false) kbl_X3_sumPowers kbs_X3_sumPowers (pc := 0) (pe := 24) (rk := 9) (i := 0) rfl (by decide +kernel) ?_
  simp only [kb_X3_sumPowers_0, s_ald_1, s_gf_3_0, s_ld2, s_lmul, s_gf_3_1, s_ladd, s_lst_2, tkl_n, tkl_i, tkl_l, tkl_r, s_lld_2, s_lc0, s_lcmp, ne_eq, tlc_r, tlc_eq, tlc_lt, tlc_ge, tlc_gt, tlc_le, s_if_ge, s_ic, s_goto, LR, IR, true_and, and_true, Nat.reduceAdd, Nat.reduceSub, eq_self]
  refine ⟨by assumption, fun x84_ h84_ => ?_⟩
  intro x86_ h86_
  refine ⟨by assumption, fun x88_ h88_ => ?_⟩
  intro x89_ h89_
  refine ⟨by omega, ?_⟩
  refine ⟨fun h94_ => ?_, fun h94_ => ?_⟩
  · refine sT_w ?_
    refine sblk (hv := false) kbl_X3_sumPowers kbs_X3_sumPowers (pc := 24) (pe := 25) (rk := 9) (i := 1) rfl (by decide +kernel) ?_
    simp only [kb_X3_sumPowers_24, s_ic, s_nil, LR, IR, true_and, and_true, Nat.reduceAdd, Nat.reduceSub, eq_self]
    exact sT_w (n25 _ _ _ _ _ _ (by omega) (by omega))
  exact sT_w (n25 _ _ _ _ _ _ (by omega) (by omega))
theorem k_X3_exponential {e : tE} {b : Nat} {d n : Nat} {r : Nat} {x1 : Nat} (h0 : cl r 5) (h1 : cl x1 3) (hb : b < 2) (hd : 2 ≤ d) : sC e b d 1283 [.inr (.inr (.inl r)), .inr (.inr (.inl x1))] n (SQn n (True)) := by
  refine sK (fun M h => tst_X3_exponential h) (fun M0 => ?_)
  have n13 : ∀ (w2_13 : Option tV) (is0_13 : Int) (qs1_13 : Nat), (0 ≤ is0_13 ∧ is0_13 ≤ 1) → cl qs1_13 5 → sT e b M0 d 1283 13 [] [some (.inr (.inr (.inl r))), some (.inr (.inr (.inl x1))), w2_13] [.inl is0_13, .inr (.inr (.inl qs1_13))] n (fun r n' _ => (SQn n (True)) r n') := by
    intro w2_13 is0_13 qs1_13 y13_0 y13_1
    have n107 : ∀ (w2_107 : Option tV), sT e b M0 d 1283 107 [] [some (.inr (.inr (.inl r))), some (.inr (.inr (.inl x1))), w2_107] [] n (fun r n' _ => (SQn n (True)) r n') := by
      intro w2_107 
      refine sblk (hv := false) kbl_X3_exponential kbs_X3_exponential (pc := 107) (pe := 108) (rk := 9) (i := 6) rfl (by decide +kernel) ?_
      simp only [kb_X3_exponential_107, s_re, LR, IR, true_and, and_true, Nat.reduceAdd, Nat.reduceSub, eq_self]
      exact fun _ _ _ _ => ⟨rfl, rfl, by first | trivial | omega⟩
    refine sblk (hv := false) kbl_X3_exponential kbs_X3_exponential (pc := 13) (pe := 36) (rk := 9) (i := 2) rfl (by decide +kernel) ?_
    simp only [kb_X3_exponential_13, s_iv1, tfr_0, tfr_1, tfr_2, tfr_3, tfr_4, s_ald_1, s_iv0, s_if_eq, s_ald_0, s_gf_5_6, s_bi, s_lc1, s_iv2, s_goto, LR, IR, true_and, and_true, Nat.reduceAdd, Nat.reduceSub, eq_self]
    refine ⟨vok_of (s := 5) (by assumption) rfl, ?_⟩
    refine sc_n (D := 1) (fun d' hd' => k_X3_begin (by assumption) (by omega) (by omega) hd') (by omega) ?_
    intro h2_
    try simp only [s_ald_1, s_iv0, tfr_0, tfr_1, tfr_2, tfr_3, tfr_4, s_if_eq, s_ald_0, s_gf_5_6, s_bi, s_lc1, s_iv2, s_goto, LR, IR, true_and, and_true, Nat.reduceAdd, Nat.reduceSub, eq_self]
    refine ⟨vok_of (s := 3) (by assumption) rfl, ?_⟩
    refine sc_i (D := 0) (fun d' hd' => k_X1_isZero (by assumption) hd') (by omega) ?_
    intro x4_ h4_
    try simp only [s_if_eq, s_ald_0, s_gf_5_6, s_bi, s_lc1, s_iv2, tfr_0, tfr_1, tfr_2, tfr_3, tfr_4, s_goto, LR, IR, true_and, and_true, Nat.reduceAdd, Nat.reduceSub, eq_self]
    refine ⟨by omega, fun h5_ => ?_, fun h5_ => ?_⟩
    · refine sT_w ?_
      refine sblk (hv := false) kbl_X3_exponential kbs_X3_exponential (pc := 36) (pe := 62) (rk := 9) (i := 3) rfl (by decide +kernel) ?_
      simp only [kb_X3_exponential_36, s_ald_1, s_gf_3_0, s_ld2, s_lcmp, ne_eq, tlc_r, tlc_eq, tlc_lt, tlc_ge, tlc_gt, tlc_le, s_if_lt, s_ald_0, s_gf_5_6, s_bi, s_iv2, tfr_0, tfr_1, tfr_2, tfr_3, tfr_4, s_goto, LR, IR, true_and, and_true, Nat.reduceAdd, Nat.reduceSub, eq_self]
      refine ⟨by assumption, fun x7_ h7_ => ?_⟩
      refine ⟨by omega, ?_⟩
      refine ⟨fun h10_ => ?_, fun h10_ => ?_⟩
      · have n80 : ∀ (fu : Nat) (i2_80 : Int), 8 - i2_80 + 1 ≤ (fu : Int) → (0 ≤ i2_80 ∧ i2_80 ≤ 8) → sT e b M0 d 1283 80 [] [some (.inr (.inr (.inl r))), some (.inr (.inr (.inl x1))), some (.inl i2_80)] [] n (fun r n' _ => (SQn n (True)) r n') := by
          intro fu
          induction fu with
          | zero =>
            intro i2_80 hm y80_0
            exfalso; omega
          | succ fu ih =>
            intro i2_80 hm y80_0
            have ih80 := ih
            clear ih
            refine sblk (hv := false) kbl_X3_exponential kbs_X3_exponential (pc := 80) (pe := 107) (rk := 9) (i := 5) rfl (by decide +kernel) ?_
            simp only [kb_X3_exponential_80, s_ild_2, s_bi, s_ic_ge, s_ald_0, s_gf_5_6, s_iv2, tfr_0, tfr_1, tfr_2, tfr_3, tfr_4, s_inc2, tkl_n, tkl_i, tkl_l, tkl_r, s_goto, LR, IR, true_and, and_true, Nat.reduceAdd, Nat.reduceSub, eq_self]
            refine ⟨by omega, fun h13_ => ?_, fun h13_ => ?_⟩
            · exact sT_w (n107 _)
            refine ⟨by assumption, fun x15_ h15_ => ?_⟩
            refine ⟨by assumption, fun x17_ h17_ => ?_⟩
            refine ⟨by assumption, fun x19_ h19_ => ?_⟩
            refine ⟨vok_of (s := 6) (by assumption) rfl, ?_⟩
            refine sc_n (D := 0) (fun d' hd' => k_X4_toProduct (by assumption) (by assumption) (by assumption) (by omega) hd') (by omega) ?_
            intro h20_
            try simp only [s_inc2, tkl_n, tkl_i, tkl_l, tkl_r, s_goto, LR, IR, true_and, and_true, Nat.reduceAdd, Nat.reduceSub, eq_self]
            exact sT_w (ih80 _ (by omega) (by omega))
        refine sT_w ?_
        refine sblk (hv := false) kbl_X3_exponential kbs_X3_exponential (pc := 62) (pe := 80) (rk := 9) (i := 4) rfl (by decide +kernel) ?_
        simp only [kb_X3_exponential_62, s_ald_1, s_gf_3_0, s_ld2, s_lcmp, ne_eq, tlc_r, tlc_eq, tlc_lt, tlc_ge, tlc_gt, tlc_le, s_if_lt, s_ald_0, s_iv1, tfr_0, tfr_1, tfr_2, tfr_3, tfr_4, s_ic, s_ist_2, tkl_n, tkl_i, tkl_l, tkl_r, s_nil, LR, IR, true_and, and_true, Nat.reduceAdd, Nat.reduceSub, eq_self]
        refine ⟨by assumption, fun x24_ h24_ => ?_⟩
        refine ⟨by omega, ?_⟩
        refine ⟨fun h27_ => ?_, fun h27_ => ?_⟩
        · exact sT_w (n107 _)
        refine ⟨vok_of (s := 5) (by assumption) rfl, ?_⟩
        refine sc_n (D := 1) (fun d' hd' => k_X3_sumPowers (by assumption) (by assumption) (by omega) hd') (by omega) ?_
        intro h30_
        try simp only [s_ic, s_ist_2, tkl_n, tkl_i, tkl_l, tkl_r, s_nil, LR, IR, true_and, and_true, Nat.reduceAdd, Nat.reduceSub, eq_self]
        exact sT_w (n80 4294967400 _ (by omega) (by omega))
      refine ⟨by assumption, fun x34_ h34_ => ?_⟩
      refine ⟨vok_of (s := 6) (by assumption) rfl, ?_⟩
      refine sc_n (D := 0) (fun d' hd' => k_X4_setLimb (by assumption) (by omega) (by omega) (by omega) hd') (by omega) ?_
      intro h37_
      try simp only [s_goto, LR, IR, true_and, and_true, Nat.reduceAdd, Nat.reduceSub, eq_self]
      exact sT_w (n107 _)
    refine ⟨by assumption, fun x40_ h40_ => ?_⟩
    refine ⟨vok_of (s := 6) (by assumption) rfl, ?_⟩
    refine sc_n (D := 0) (fun d' hd' => k_X4_setLimb (by assumption) (by omega) (by omega) (by omega) hd') (by omega) ?_
    intro h43_
    try simp only [s_goto, LR, IR, true_and, and_true, Nat.reduceAdd, Nat.reduceSub, eq_self]
    exact sT_w (n107 _)
  refine sblk (hv := false) kbl_X3_exponential kbs_X3_exponential (pc := 0) (pe := 12) (rk := 9) (i := 0) rfl (by decide +kernel) ?_
  simp only [kb_X3_exponential_0, s_ald_0, s_ald_1, s_iv0, tfr_0, tfr_1, tfr_2, tfr_3, tfr_4, s_if_ne, s_ic, s_goto, LR, IR, true_and, and_true, Nat.reduceAdd, Nat.reduceSub, eq_self]
  refine ⟨vok_of (s := 3) (by assumption) rfl, ?_⟩
  refine sc_i (D := 0) (fun d' hd' => k_X1_isZero (by assumption) hd') (by omega) ?_
  intro x47_ h47_
  try simp only [s_if_ne, s_ic, s_goto, LR, IR, true_and, and_true, Nat.reduceAdd, Nat.reduceSub, eq_self]
  refine ⟨by omega, fun h48_ => ?_, fun h48_ => ?_⟩
  · refine sT_w ?_
    refine sblk (hv := false) kbl_X3_exponential kbs_X3_exponential (pc := 12) (pe := 13) (rk := 9) (i := 1) rfl (by decide +kernel) ?_
    simp only [kb_X3_exponential_12, s_ic, s_nil, LR, IR, true_and, and_true, Nat.reduceAdd, Nat.reduceSub, eq_self]
    exact sT_w (n13 _ _ _ (by omega) (by assumption))
  exact sT_w (n13 _ _ _ (by omega) (by assumption))
theorem k_J9_abs_0f7a4 {e : tE} {b : Nat} {d n : Nat} {x1 : Int} (h0 : (-87 ≤ x1 ∧ x1 ≤ 40)) (hd : 0 ≤ d) : sC e b d 4352 [.inl x1] n (SQi n (fun z => (0 ≤ z ∧ z ≤ 87))) := by
  refine sK (fun M h => tst_J9_abs_0f7a4 h) (fun M0 => ?_)
  have n10 : ∀ (is0_10 : Int), (-87 ≤ x1 ∧ x1 ≤ 40) → (0 ≤ is0_10 ∧ is0_10 ≤ 87) → sT e b M0 d 4352 10 [] [some (.inl x1)] [.inl is0_10] n (fun r n' _ => (SQi n (fun z => (0 ≤ z ∧ z ≤ 87))) r n') := by
    intro is0_10 y10_0 y10_1
    refine sblk (hv := false) kbl_J9_abs_0f7a4 kbs_J9_abs_0f7a4 (pc := 10) (pe := 11) (rk := 0) (i := 2) rfl (by decide +kernel) ?_
    simp only [kb_J9_abs_0f7a4_10, s_ire, trg, LR, IR, true_and, and_true, Nat.reduceAdd, Nat.reduceSub, eq_self]
    exact fun _ _ _ _ => ⟨_, rfl, rfl, by omega⟩
  refine sblk (hv := false) kbl_J9_abs_0f7a4 kbs_J9_abs_0f7a4 (pc := 0) (pe := 9) (rk := 0) (i := 0) rfl (by decide +kernel) ?_
  simp only [kb_J9_abs_0f7a4_0, s_ild_0, s_if_ge, s_ineg, s_goto, LR, IR, true_and, and_true, Nat.reduceAdd, Nat.reduceSub, eq_self]
  refine ⟨by omega, fun h3_ => ?_, fun h3_ => ?_⟩
  · refine sT_w ?_
    refine sblk (hv := false) kbl_J9_abs_0f7a4 kbs_J9_abs_0f7a4 (pc := 9) (pe := 10) (rk := 0) (i := 1) rfl (by decide +kernel) ?_
    simp only [kb_J9_abs_0f7a4_9, s_ild_0, s_nil, LR, IR, true_and, and_true, Nat.reduceAdd, Nat.reduceSub, eq_self]
    exact sT_w (n10 _ (by omega) (by omega))
  exact sT_w (n10 _ (by omega) (by omega))
theorem k_X3_logarithm {e : tE} {b : Nat} {d n : Nat} {r : Nat} {x1 : Nat} (h0 : cl r 5) (h1 : cl x1 3) (hb : b < 2) (hd : 2 ≤ d) : sC e b d 1284 [.inr (.inr (.inl r)), .inr (.inr (.inl x1))] n (SQn n (True)) := by
  refine sK (fun M h => tst_X3_logarithm h) (fun M0 => ?_)
  have n23 : ∀ (w2_23 : Option tV) (w3_23 : Option tV) (w4_23 : Option tV) (w5_23 : Option tV) (is0_23 : Int), (0 ≤ is0_23 ∧ is0_23 ≤ 1) → sT e b M0 d 1284 23 [] [some (.inr (.inr (.inl r))), some (.inr (.inr (.inl x1))), w2_23, w3_23, w4_23, w5_23] [.inl is0_23] n (fun r n' _ => (SQn n (True)) r n') := by
    intro w2_23 w3_23 w4_23 w5_23 is0_23 y23_0
    have n34 : ∀ (i2_34 : Int) (w3_34 : Option tV) (w4_34 : Option tV) (w5_34 : Option tV) (is0_34 : Int) (qs1_34 : Nat), (0 ≤ i2_34 ∧ i2_34 ≤ 1) → (0 ≤ is0_34 ∧ is0_34 ≤ 1) → cl qs1_34 5 → sT e b M0 d 1284 34 [] [some (.inr (.inr (.inl r))), some (.inr (.inr (.inl x1))), some (.inl i2_34), w3_34, w4_34, w5_34] [.inl is0_34, .inr (.inr (.inl qs1_34))] n (fun r n' _ => (SQn n (True)) r n') := by
      intro i2_34 w3_34 w4_34 w5_34 is0_34 qs1_34 y34_0 y34_1 y34_2
      refine sblk (hv := false) kbl_X3_logarithm kbs_X3_logarithm (pc := 34) (pe := 42) (rk := 9) (i := 4) rfl (by decide +kernel) ?_
      simp only [kb_X3_logarithm_34, s_iv1, tfr_0, tfr_1, tfr_2, tfr_3, tfr_4, s_ild_2, s_if_eq, s_re, LR, IR, true_and, and_true, Nat.reduceAdd, Nat.reduceSub, eq_self]
      refine ⟨vok_of (s := 5) (by assumption) rfl, ?_⟩
      refine sc_n (D := 1) (fun d' hd' => k_X3_begin (by assumption) (by omega) (by omega) hd') (by omega) ?_
      intro h1_
      try simp only [s_ild_2, s_if_eq, s_re, LR, IR, true_and, and_true, Nat.reduceAdd, Nat.reduceSub, eq_self]
      refine ⟨by omega, fun h3_ => ?_, fun h3_ => ?_⟩
      · have n52 : ∀ (fu : Nat) (i3_52 : Int) (w4_52 : Option tV) (w5_52 : Option tV), 127 - i3_52 + 1 ≤ (fu : Int) → (0 ≤ i2_34 ∧ i2_34 ≤ 0) → (0 ≤ i3_52 ∧ i3_52 ≤ 127) → sT e b M0 d 1284 52 [] [some (.inr (.inr (.inl r))), some (.inr (.inr (.inl x1))), some (.inl i2_34), some (.inl i3_52), w4_52, w5_52] [] n (fun r n' _ => (SQn n (True)) r n') := by
          intro fu
          induction fu with
          | zero =>
            intro i3_52 w4_52 w5_52 hm y52_0 y52_1
            exfalso; omega
          | succ fu ih =>
            intro i3_52 w4_52 w5_52 hm y52_0 y52_1
            have ih52 := ih
            clear ih
            have n93 : ∀ (i3_93 : Int) (w4_93 : Option tV) (w5_93 : Option tV), (0 ≤ i3_93 ∧ i3_93 ≤ 127) → sT e b M0 d 1284 93 [] [some (.inr (.inr (.inl r))), some (.inr (.inr (.inl x1))), some (.inl i2_34), some (.inl i3_93), w4_93, w5_93] [] n (fun r n' _ => (SQn n (True)) r n') := by
              intro i3_93 w4_93 w5_93 y93_0
              have n164 : ∀ (i4_164 : Int) (i5_164 : Int) (qs0_164 : Nat) (qs1_164 : Nat), (-67108872 ≤ i4_164 ∧ i4_164 ≤ 67108855) → (0 ≤ i5_164 ∧ i5_164 ≤ 1) → cl qs0_164 3 → cl qs1_164 3 → sT e b M0 d 1284 164 [] [some (.inr (.inr (.inl r))), some (.inr (.inr (.inl x1))), some (.inl i2_34), some (.inl i3_93), some (.inl i4_164), some (.inl i5_164)] [.inr (.inr (.inl qs0_164)), .inr (.inr (.inl qs1_164))] n (fun r n' _ => (SQn n (True)) r n') := by
                intro i4_164 i5_164 qs0_164 qs1_164 y164_0 y164_1 y164_2 y164_3
                have n180 : ∀ (qs0_180 : Nat) (qs1_180 : Nat) (qs2_180 : Nat), cl qs0_180 3 → cl qs1_180 3 → cl qs2_180 3 → sT e b M0 d 1284 180 [] [some (.inr (.inr (.inl r))), some (.inr (.inr (.inl x1))), some (.inl i2_34), some (.inl i3_93), some (.inl i4_164), some (.inl i5_164)] [.inr (.inr (.inl qs0_180)), .inr (.inr (.inl qs1_180)), .inr (.inr (.inl qs2_180))] n (fun r n' _ => (SQn n (True)) r n') := by
                  intro qs0_180 qs1_180 qs2_180 y180_0 y180_1 y180_2
                  have n270 : ∀ (qs0_270 : Nat), cl qs0_270 6 → sT e b M0 d 1284 270 [] [some (.inr (.inr (.inl r))), some (.inr (.inr (.inl x1))), some (.inl i2_34), some (.inl i3_93), some (.inl i4_164), some (.inl i5_164)] [.inr (.inr (.inl qs0_270))] n (fun r n' _ => (SQn n (True)) r n') := by
                    intro qs0_270 y270_0
                    have n293 : ∀ (qs0_293 : Nat), cl qs0_293 6 → sT e b M0 d 1284 293 [] [some (.inr (.inr (.inl r))), some (.inr (.inr (.inl x1))), some (.inl i2_34), some (.inl i3_93), some (.inl i4_164), some (.inl i5_164)] [.inr (.inr (.inl qs0_293))] n (fun r n' _ => (SQn n (True)) r n') := by
                      intro qs0_293 y293_0
                      refine sblk (hv := false) kbl_X3_logarithm kbs_X3_logarithm (pc := 293) (pe := 305) (rk := 9) (i := 15) rfl (by decide +kernel) ?_
                      simp only [kb_X3_logarithm_293, s_ald_0, s_gf_5_6, s_iv1, tfr_0, tfr_1, tfr_2, tfr_3, tfr_4, s_iv0, s_re, LR, IR, true_and, and_true, Nat.reduceAdd, Nat.reduceSub, eq_self]
                      refine ⟨by assumption, fun x5_ h5_ => ?_⟩
                      refine ⟨vok_of (s := 6) (by assumption) rfl, ?_⟩
                      refine sc_n (D := 0) (fun d' hd' => k_X4_plus (by assumption) (by assumption) (by omega) hd') (by omega) ?_
                      intro h6_
                      try simp only [s_ald_0, s_iv0, tfr_0, tfr_1, tfr_2, tfr_3, tfr_4, s_re, LR, IR, true_and, and_true, Nat.reduceAdd, Nat.reduceSub, eq_self]
                      refine ⟨vok_of (s := 5) (by assumption) rfl, ?_⟩
                      refine sc_n (D := 1) (fun d' hd' => k_X3_settle (by assumption) (by omega) hd') (by omega) ?_
                      intro h8_
                      try simp only [s_re, LR, IR, true_and, and_true, Nat.reduceAdd, Nat.reduceSub, eq_self]
                      exact fun _ _ _ _ => ⟨rfl, rfl, by first | trivial | omega⟩
                    refine sblk (hv := false) kbl_X3_logarithm kbs_X3_logarithm (pc := 270) (pe := 289) (rk := 9) (i := 13) rfl (by decide +kernel) ?_
                    simp only [kb_X3_logarithm_270, s_ald_0, s_gf_5_5, s_iv1, tfr_0, tfr_1, tfr_2, tfr_3, tfr_4, s_ild5, s_if_eq, s_gf_5_8, s_goto, LR, IR, true_and, and_true, Nat.reduceAdd, Nat.reduceSub, eq_self]
                    refine ⟨by assumption, fun x11_ h11_ => ?_⟩
                    refine ⟨vok_of (s := 6) (by assumption) rfl, ?_⟩
                    refine sc_n (D := 0) (fun d' hd' => k_X4_plus (by assumption) (by assumption) (by omega) hd') (by omega) ?_
                    intro h12_
                    try simp only [s_ild5, s_if_eq, s_ald_0, s_gf_5_8, s_goto, LR, IR, true_and, and_true, Nat.reduceAdd, Nat.reduceSub, eq_self]
                    refine ⟨by omega, fun h14_ => ?_, fun h14_ => ?_⟩
                    · refine sT_w ?_
                      refine sblk (hv := false) kbl_X3_logarithm kbs_X3_logarithm (pc := 289) (pe := 293) (rk := 9) (i := 14) rfl (by decide +kernel) ?_
                      simp only [kb_X3_logarithm_289, s_ald_0, s_gf_5_7, s_nil, LR, IR, true_and, and_true, Nat.reduceAdd, Nat.reduceSub, eq_self]
                      refine ⟨by assumption, fun x16_ h16_ => ?_⟩
                      exact sT_w (n293 _ (by assumption))
                    refine ⟨by assumption, fun x18_ h18_ => ?_⟩
                    exact sT_w (n293 _ (by assumption))
                  refine sblk (hv := false) kbl_X3_logarithm kbs_X3_logarithm (pc := 180) (pe := 266) (rk := 9) (i := 11) rfl (by decide +kernel) ?_
                  simp only [kb_X3_logarithm_180, s_iv2, tfr_0, tfr_1, tfr_2, tfr_3, tfr_4, s_ald_0, s_gf_5_10, s_gf_5_11, s_gf_5_12, s_ic, s_iv1, s_gf_5_6, s_gf_5_7, s_gs, s_ild4, s_iv3, s_gf_5_8, s_iv0, s_gf_5_5, s_bi, s_ild_3, s_isub, s_is1, s_ic_le, s_goto, LR, IR, true_and, and_true, Nat.reduceAdd, Nat.reduceSub, eq_self]
                  refine ⟨vok_of (s := 3) (by assumption) rfl, ?_⟩
                  refine sc_n (D := 0) (fun d' hd' => k_X1_toDifference (by assumption) (by assumption) (by assumption) (by omega) hd') (by omega) ?_
                  intro h20_
                  try simp only [s_ald_0, s_gf_5_10, s_gf_5_11, s_gf_5_12, s_iv2, tfr_0, tfr_1, tfr_2, tfr_3, tfr_4, s_ic, s_iv1, s_gf_5_6, s_gf_5_7, s_gs, s_ild4, s_iv3, s_gf_5_8, s_iv0, s_gf_5_5, s_bi, s_ild_3, s_isub, s_is1, s_ic_le, s_goto, LR, IR, true_and, and_true, Nat.reduceAdd, Nat.reduceSub, eq_self]
                  refine ⟨by assumption, fun x22_ h22_ => ?_⟩
                  refine ⟨by assumption, fun x24_ h24_ => ?_⟩
                  refine ⟨by assumption, fun x26_ h26_ => ?_⟩
                  refine ⟨vok_of (s := 3) (by assumption) rfl, ?_⟩
                  refine sc_n (D := 0) (fun d' hd' => k_X1_toSum (by assumption) (by assumption) (by assumption) (by omega) hd') (by omega) ?_
                  intro h27_
                  try simp only [s_ald_0, s_ic, s_iv1, tfr_0, tfr_1, tfr_2, tfr_3, tfr_4, s_gf_5_6, s_gf_5_7, s_gs, s_ild4, s_iv3, s_gf_5_8, s_iv0, s_gf_5_5, s_bi, s_ild_3, s_isub, s_is1, s_ic_le, s_goto, LR, IR, true_and, and_true, Nat.reduceAdd, Nat.reduceSub, eq_self]
                  refine ⟨vok_of (s := 5) (by assumption) rfl, ?_⟩
                  refine sc_n (D := 1) (fun d' hd' => k_X3_sumOddPowers (by assumption) (by omega) (by omega) hd') (by omega) ?_
                  intro h30_
                  try simp only [s_ald_0, s_gf_5_6, s_iv1, tfr_0, tfr_1, tfr_2, tfr_3, tfr_4, s_gf_5_7, s_gs, s_ild4, s_ic, s_iv3, s_gf_5_8, s_iv0, s_gf_5_5, s_bi, s_ild_3, s_isub, s_is1, s_ic_le, s_goto, LR, IR, true_and, and_true, Nat.reduceAdd, Nat.reduceSub, eq_self]
                  refine ⟨by assumption, fun x32_ h32_ => ?_⟩
                  refine ⟨by assumption, fun x34_ h34_ => ?_⟩
                  refine ⟨vok_of (s := 6) (by assumption) rfl, ?_⟩
                  refine sc_n (D := 0) (fun d' hd' => k_X4_plus (by assumption) (by assumption) (by omega) hd') (by omega) ?_
                  intro h35_
                  try simp only [s_ald_0, s_gf_5_7, s_gs, s_ild4, s_ic, s_iv3, tfr_0, tfr_1, tfr_2, tfr_3, tfr_4, s_gf_5_8, s_iv0, s_gf_5_5, s_bi, s_ild_3, s_isub, s_is1, s_ic_le, s_goto, LR, IR, true_and, and_true, Nat.reduceAdd, Nat.reduceSub, eq_self]
                  refine ⟨by assumption, fun x37_ h37_ => ?_⟩
                  refine ⟨vok_of (s := 6) (by assumption) rfl, ?_⟩
                  refine sc_n (D := 1) (fun d' hd' => k_X4_load (by assumption) (by first | assumption | exact Or.inl rfl | exact Or.inr rfl) (by omega) (by omega) (by omega) hd') (by omega) ?_
                  intro h41_
                  try simp only [s_ald_0, s_gf_5_8, s_iv0, tfr_0, tfr_1, tfr_2, tfr_3, tfr_4, s_gf_5_5, s_gs, s_bi, s_ild_3, s_isub, s_is1, s_iv3, s_ic_le, s_goto, LR, IR, true_and, and_true, Nat.reduceAdd, Nat.reduceSub, eq_self]
                  refine ⟨by assumption, fun x43_ h43_ => ?_⟩
                  refine ⟨vok_of (s := 6) (by assumption) rfl, ?_⟩
                  refine sc_n (D := 0) (fun d' hd' => k_X4_clear (by assumption) (by omega) hd') (by omega) ?_
                  intro h44_
                  try simp only [s_ald_0, s_gf_5_5, s_gs, s_bi, s_ild_3, s_isub, s_is1, tfr_0, tfr_1, tfr_2, tfr_3, tfr_4, s_iv3, s_ic_le, s_gf_5_8, s_goto, LR, IR, true_and, and_true, Nat.reduceAdd, Nat.reduceSub, eq_self]
                  refine ⟨by assumption, fun x46_ h46_ => ?_⟩
                  refine sc_i (D := 0) (fun d' hd' => k_J9_abs_0f7a4 (by omega) hd') (by omega) ?_
                  intro x52_ h52_
                  try simp only [s_iv3, tfr_0, tfr_1, tfr_2, tfr_3, tfr_4, s_ild_3, s_bi, s_ic_le, s_ald_0, s_gf_5_8, s_goto, LR, IR, true_and, and_true, Nat.reduceAdd, Nat.reduceSub, eq_self]
                  refine ⟨vok_of (s := 6) (by assumption) rfl, ?_⟩
                  refine sc_n (D := 1) (fun d' hd' => k_X4_load (by assumption) (by first | assumption | exact Or.inl rfl | exact Or.inr rfl) (by omega) (by omega) (by omega) hd') (by omega) ?_
                  intro h53_
                  try simp only [s_ild_3, s_bi, s_ic_le, s_ald_0, s_gf_5_8, s_goto, LR, IR, true_and, and_true, Nat.reduceAdd, Nat.reduceSub, eq_self]
                  refine ⟨by omega, fun h56_ => ?_, fun h56_ => ?_⟩
                  · refine sT_w ?_
                    refine sblk (hv := false) kbl_X3_logarithm kbs_X3_logarithm (pc := 266) (pe := 270) (rk := 9) (i := 12) rfl (by decide +kernel) ?_
                    simp only [kb_X3_logarithm_266, s_ald_0, s_gf_5_7, s_nil, LR, IR, true_and, and_true, Nat.reduceAdd, Nat.reduceSub, eq_self]
                    refine ⟨by assumption, fun x58_ h58_ => ?_⟩
                    exact sT_w (n270 _ (by assumption))
                  refine ⟨by assumption, fun x60_ h60_ => ?_⟩
                  exact sT_w (n270 _ (by assumption))
                refine sblk (hv := false) kbl_X3_logarithm kbs_X3_logarithm (pc := 164) (pe := 176) (rk := 9) (i := 9) rfl (by decide +kernel) ?_
                simp only [kb_X3_logarithm_164, s_ild5, s_if_eq, s_ald_0, s_gf_5_11, s_goto, LR, IR, true_and, and_true, Nat.reduceAdd, Nat.reduceSub, eq_self]
                refine ⟨by omega, fun h63_ => ?_, fun h63_ => ?_⟩
                · refine sT_w ?_
                  refine sblk (hv := false) kbl_X3_logarithm kbs_X3_logarithm (pc := 176) (pe := 180) (rk := 9) (i := 10) rfl (by decide +kernel) ?_
                  simp only [kb_X3_logarithm_176, s_ald_0, s_gf_5_12, s_nil, LR, IR, true_and, and_true, Nat.reduceAdd, Nat.reduceSub, eq_self]
                  refine ⟨by assumption, fun x65_ h65_ => ?_⟩
                  exact sT_w (n180 _ _ _ (by assumption) (by assumption) (by assumption))
                refine ⟨by assumption, fun x67_ h67_ => ?_⟩
                exact sT_w (n180 _ _ _ (by assumption) (by assumption) (by assumption))
              refine sblk (hv := false) kbl_X3_logarithm kbs_X3_logarithm (pc := 93) (pe := 160) (rk := 9) (i := 7) rfl (by decide +kernel) ?_
              simp only [kb_X3_logarithm_93, s_ald_0, s_gf_5_11, s_gf_3_0, s_bi, s_lshr, s_l2i, s_isub, s_ist4, tkl_n, tkl_i, tkl_l, tkl_r, s_gf_5_12, s_ld2, s_ild4, s_i2l, s_lmul, s_ladd, s_lshl, or_true, s_lc0, s_iv2, tfr_0, tfr_1, tfr_2, tfr_3, tfr_4, s_iv1, s_ist5, s_gf_5_9, s_ild5, s_if_eq, s_goto, LR, IR, true_and, and_true, Nat.reduceAdd, Nat.reduceSub, eq_self]
              refine ⟨by assumption, fun x70_ h70_ => ?_⟩
              refine ⟨by assumption, fun x71_ h71_ => ?_⟩
              refine ⟨by omega, fun x73_ h73_ => ?_⟩
              intro x74_ h74_ g74_
              refine ⟨by assumption, fun x79_ h79_ => ?_⟩
              refine ⟨by omega, ?_⟩
              intro x83_ h83_
              intro x85_ h85_
              intro x87_ h87_
              refine ⟨vok_of (s := 3) (by assumption) rfl, ?_⟩
              refine sc_n (D := 0) (fun d' hd' => k_X1_assign (by assumption) (by omega) (by omega) (by omega) hd') (by omega) ?_
              intro h89_
              try simp only [s_ald_0, s_gf_5_11, s_gf_5_12, s_iv1, tfr_0, tfr_1, tfr_2, tfr_3, tfr_4, s_ist5, tkl_n, tkl_i, tkl_l, tkl_r, s_gf_5_9, s_ild5, s_if_eq, s_goto, LR, IR, true_and, and_true, Nat.reduceAdd, Nat.reduceSub, eq_self]
              refine ⟨by assumption, fun x91_ h91_ => ?_⟩
              refine ⟨by assumption, fun x93_ h93_ => ?_⟩
              refine ⟨vok_of (s := 3) (by assumption) rfl, ?_⟩
              refine sc_i (D := 0) (fun d' hd' => k_X1_isBelow (by assumption) (by assumption) hd') (by omega) ?_
              intro x94_ h94_
              try simp only [s_ist5, tkl_n, tkl_i, tkl_l, tkl_r, s_ald_0, s_gf_5_9, s_ild5, s_if_eq, s_gf_5_12, s_goto, LR, IR, true_and, and_true, Nat.reduceAdd, Nat.reduceSub, eq_self]
              refine ⟨by assumption, fun x97_ h97_ => ?_⟩
              refine ⟨by omega, fun h99_ => ?_, fun h99_ => ?_⟩
              · refine sT_w ?_
                refine sblk (hv := false) kbl_X3_logarithm kbs_X3_logarithm (pc := 160) (pe := 164) (rk := 9) (i := 8) rfl (by decide +kernel) ?_
                simp only [kb_X3_logarithm_160, s_ald_0, s_gf_5_11, s_nil, LR, IR, true_and, and_true, Nat.reduceAdd, Nat.reduceSub, eq_self]
                refine ⟨by assumption, fun x101_ h101_ => ?_⟩
                exact sT_w (n164 _ _ _ _ (by omega) (by omega) (by assumption) (by assumption))
              refine ⟨by assumption, fun x103_ h103_ => ?_⟩
              exact sT_w (n164 _ _ _ _ (by omega) (by omega) (by assumption) (by assumption))
            refine sblk (hv := false) kbl_X3_logarithm kbs_X3_logarithm (pc := 52) (pe := 93) (rk := 9) (i := 6) rfl (by decide +kernel) ?_
            simp only [kb_X3_logarithm_52, s_ild_3, s_bi, s_ic_ge, s_ald_0, s_gf_5_11, s_gf_3_0, s_ld2, s_lcmp, ne_eq, tlc_r, tlc_eq, tlc_lt, tlc_ge, tlc_gt, tlc_le, s_if_ge, s_iv2, tfr_0, tfr_1, tfr_2, tfr_3, tfr_4, s_inc3, tkl_n, tkl_i, tkl_l, tkl_r, s_goto, LR, IR, true_and, and_true, Nat.reduceAdd, Nat.reduceSub, eq_self]
            refine ⟨by omega, fun h107_ => ?_, fun h107_ => ?_⟩
            · exact sT_w (n93 _ _ _ (by omega))
            refine ⟨by assumption, fun x109_ h109_ => ?_⟩
            refine ⟨by assumption, fun x110_ h110_ => ?_⟩
            refine ⟨by omega, ?_⟩
            refine ⟨fun h113_ => ?_, fun h113_ => ?_⟩
            · exact sT_w (n93 _ _ _ (by omega))
            refine ⟨by assumption, fun x115_ h115_ => ?_⟩
            refine ⟨by assumption, fun x117_ h117_ => ?_⟩
            refine ⟨by assumption, fun x119_ h119_ => ?_⟩
            refine ⟨vok_of (s := 3) (by assumption) rfl, ?_⟩
            refine sc_n (D := 0) (fun d' hd' => k_X1_toSum (by assumption) (by assumption) (by assumption) (by omega) hd') (by omega) ?_
            intro h120_
            try simp only [s_inc3, tkl_n, tkl_i, tkl_l, tkl_r, s_goto, LR, IR, true_and, and_true, Nat.reduceAdd, Nat.reduceSub, eq_self]
            exact sT_w (ih52 _ _ _ (by omega) (by omega) (by omega))
        refine sT_w ?_
        refine sblk (hv := false) kbl_X3_logarithm kbs_X3_logarithm (pc := 42) (pe := 52) (rk := 9) (i := 5) rfl (by decide +kernel) ?_
        simp only [kb_X3_logarithm_42, s_ald_0, s_gf_5_11, s_ald_1, s_iv1, tfr_0, tfr_1, tfr_2, tfr_3, tfr_4, s_ic, s_ist_3, tkl_n, tkl_i, tkl_l, tkl_r, s_nil, LR, IR, true_and, and_true, Nat.reduceAdd, Nat.reduceSub, eq_self]
        refine ⟨by assumption, fun x124_ h124_ => ?_⟩
        refine ⟨vok_of (s := 3) (by assumption) rfl, ?_⟩
        refine sc_n (D := 0) (fun d' hd' => k_X1_copy (by assumption) (by assumption) (by omega) hd') (by omega) ?_
        intro h126_
        try simp only [s_ic, s_ist_3, tkl_n, tkl_i, tkl_l, tkl_r, s_nil, LR, IR, true_and, and_true, Nat.reduceAdd, Nat.reduceSub, eq_self]
        exact sT_w (n52 4294967400 _ _ _ (by omega) (by omega) (by omega))
      exact fun _ _ _ _ => ⟨rfl, rfl, by first | trivial | omega⟩
    refine sblk (hv := false) kbl_X3_logarithm kbs_X3_logarithm (pc := 23) (pe := 33) (rk := 9) (i := 2) rfl (by decide +kernel) ?_
    simp only [kb_X3_logarithm_23, s_ist_2, tkl_n, tkl_i, tkl_l, tkl_r, s_ald_0, s_ild_2, s_if_ne, s_ic, s_goto, LR, IR, true_and, and_true, Nat.reduceAdd, Nat.reduceSub, eq_self]
    refine ⟨by omega, fun h133_ => ?_, fun h133_ => ?_⟩
    · refine sT_w ?_
      refine sblk (hv := false) kbl_X3_logarithm kbs_X3_logarithm (pc := 33) (pe := 34) (rk := 9) (i := 3) rfl (by decide +kernel) ?_
      simp only [kb_X3_logarithm_33, s_ic, s_nil, LR, IR, true_and, and_true, Nat.reduceAdd, Nat.reduceSub, eq_self]
      exact sT_w (n34 _ _ _ _ _ _ (by omega) (by omega) (by assumption))
    exact sT_w (n34 _ _ _ _ _ _ (by omega) (by omega) (by assumption))
  have n22 : ∀ (w2_22 : Option tV) (w3_22 : Option tV) (w4_22 : Option tV) (w5_22 : Option tV), sT e b M0 d 1284 22 [] [some (.inr (.inr (.inl r))), some (.inr (.inr (.inl x1))), w2_22, w3_22, w4_22, w5_22] [] n (fun r n' _ => (SQn n (True)) r n') := by
    intro w2_22 w3_22 w4_22 w5_22 
    refine sblk (hv := false) kbl_X3_logarithm kbs_X3_logarithm (pc := 22) (pe := 23) (rk := 9) (i := 1) rfl (by decide +kernel) ?_
    simp only [kb_X3_logarithm_22, s_ic, s_nil, LR, IR, true_and, and_true, Nat.reduceAdd, Nat.reduceSub, eq_self]
    exact sT_w (n23 _ _ _ _ _ (by omega))
  refine sblk (hv := false) kbl_X3_logarithm kbs_X3_logarithm (pc := 0) (pe := 22) (rk := 9) (i := 0) rfl (by decide +kernel) ?_
  simp only [kb_X3_logarithm_0, s_ald_1, s_gf_3_0, s_lc1, s_lcmp, ne_eq, tlc_r, tlc_eq, tlc_lt, tlc_ge, tlc_gt, tlc_le, s_if_ne, s_gf_3_1, s_lc0, s_ic, s_goto, LR, IR, true_and, and_true, Nat.reduceAdd, Nat.reduceSub, eq_self]
  refine ⟨by assumption, fun x139_ h139_ => ?_⟩
  refine ⟨by omega, ?_⟩
  refine ⟨fun h142_ => ?_, fun h142_ => ?_⟩
  · exact sT_w (n22 _ _ _ _)
  refine ⟨by assumption, fun x144_ h144_ => ?_⟩
  refine ⟨by omega, ?_⟩
  refine ⟨fun h147_ => ?_, fun h147_ => ?_⟩
  · exact sT_w (n22 _ _ _ _)
  exact sT_w (n23 _ _ _ _ _ (by omega))
theorem k_X4_limbAt {e : tE} {b : Nat} {d n : Nat} {r : Nat} {x1 : Int} (h0 : cl r 6) (h1 : (-2147483648 ≤ x1 ∧ x1 ≤ 2147483647)) (hd : 0 ≤ d) : sC e b d 1541 [.inr (.inr (.inl r)), .inl x1] n (SQl n (fun z => (-9223372036854775808 ≤ z ∧ z < 9223372036854775808))) := by
  refine sK (fun M h => tst_X4_limbAt h) (fun M0 => ?_)
  have n20 : ∀ (ls0_20 : Int), (-9223372036854775808 ≤ ls0_20 ∧ ls0_20 < 9223372036854775808) → sT e b M0 d 1541 20 [] [some (.inr (.inr (.inl r))), some (.inl x1)] [.inr (.inl ls0_20)] n (fun r n' _ => (SQl n (fun z => (-9223372036854775808 ≤ z ∧ z < 9223372036854775808))) r n') := by
    intro ls0_20 y20_0
    refine sblk (hv := false) kbl_X4_limbAt kbs_X4_limbAt (pc := 20) (pe := 21) (rk := 1) (i := 3) rfl (by decide +kernel) ?_
    simp only [kb_X4_limbAt_20, s_lre, LR, IR, true_and, and_true, Nat.reduceAdd, Nat.reduceSub, eq_self]
    exact fun _ _ _ _ => ⟨_, rfl, rfl, by omega⟩
  have n10 : sT e b M0 d 1541 10 [] [some (.inr (.inr (.inl r))), some (.inl x1)] [] n (fun r n' _ => (SQl n (fun z => (-9223372036854775808 ≤ z ∧ z < 9223372036854775808))) r n') := by
    refine sblk (hv := false) kbl_X4_limbAt kbs_X4_limbAt (pc := 10) (pe := 14) (rk := 1) (i := 1) rfl (by decide +kernel) ?_
    simp only [kb_X4_limbAt_10, s_lc0, s_goto, LR, IR, true_and, and_true, Nat.reduceAdd, Nat.reduceSub, eq_self]
    exact sT_w (n20 _ (by omega))
  refine sblk (hv := false) kbl_X4_limbAt kbs_X4_limbAt (pc := 0) (pe := 10) (rk := 1) (i := 0) rfl (by decide +kernel) ?_
  simp only [kb_X4_limbAt_0, s_ild_1, s_if_lt, s_bi, s_ic_lt, s_nil, LR, IR, true_and, and_true, Nat.reduceAdd, Nat.reduceSub, eq_self]
  refine ⟨by omega, fun h5_ => ?_, fun h5_ => ?_⟩
  · exact sT_w (n10)
  refine ⟨by omega, fun h8_ => ?_, fun h8_ => ?_⟩
  · refine sT_w ?_
    refine sblk (hv := false) kbl_X4_limbAt kbs_X4_limbAt (pc := 14) (pe := 20) (rk := 1) (i := 2) rfl (by decide +kernel) ?_
    simp only [kb_X4_limbAt_14, s_ald_0, s_gf_6_0, s_ild_1, s_la, s_lax, forall_const, s_nil, LR, IR, true_and, and_true, Nat.reduceAdd, Nat.reduceSub, eq_self]
    refine ⟨by assumption, fun x10_ h10_ => ?_⟩
    refine ⟨aok_23 (by assumption) (by omega), fun x12_ g12_ h12_ => ?_⟩
    exact sT_w (n20 _ (by omega))
  exact sT_w (n10)
theorem k_X8_assign {e : tE} {b : Nat} {d n : Nat} {r : Nat} {x1 : Int} {x2 : Int} {x3 : Int} (h0 : cl r 10) (h1 : (-9223372036854775808 ≤ x1 ∧ x1 < 9223372036854775808)) (h2 : (-9223372036854775808 ≤ x2 ∧ x2 < 9223372036854775808)) (h3 : (0 ≤ x3 ∧ x3 ≤ 1)) (hb : b < 2 ∨ b = 6) (hd : 0 ≤ d) : sC e b d 2562 [.inr (.inr (.inl r)), .inr (.inl x1), .inr (.inl x2), .inl x3] n (SQn n (True)) := by
  refine sK (fun M h => tst_X8_assign h) (fun M0 => ?_)
  refine sblk (hv := false) kbl_X8_assign kbs_X8_assign (pc := 0) (pe := 23) (rk := 9) (i := 0) rfl (by decide +kernel) ?_
  simp only [kb_X8_assign_0, s_ald_0, s_gf_10_0, s_lld_1, s_pf_3_0, s_lld_3, s_pf_3_1, s_ild5, s_pf_10_1, s_re, LR, IR, true_and, and_true, Nat.reduceAdd, Nat.reduceSub, eq_self]
  refine ⟨by assumption, fun x2_ h2_ z2_ => ?_⟩
  refine ⟨by omega, by assumption, ?_⟩
  refine ⟨by assumption, fun x6_ h6_ z6_ => ?_⟩
  refine ⟨by omega, by assumption, ?_⟩
  refine ⟨by omega, by assumption, by omega, ?_⟩
  exact fun _ _ _ _ => ⟨rfl, rfl, by first | trivial | omega⟩
theorem k_X1_shift {e : tE} {b : Nat} {d n : Nat} {r : Nat} {x1 : Int} (h0 : cl r 3) (h1 : (-9223372036854775808 ≤ x1 ∧ x1 < 9223372036854775808)) (hb : b < 2 ∨ b = 3) (hd : 0 ≤ d) : sC e b d 780 [.inr (.inr (.inl r)), .inr (.inl x1)] n (SQn n (True)) := by
  refine sK (fun M h => tst_X1_shift h) (fun M0 => ?_)
  have n77 : sT e b M0 d 780 77 [] [some (.inr (.inr (.inl r))), some (.inr (.inl x1)), none] [] n (fun r n' _ => (SQn n (True)) r n') := by
    refine sblk (hv := false) kbl_X1_shift kbs_X1_shift (pc := 77) (pe := 78) (rk := 9) (i := 2) rfl (by decide +kernel) ?_
    simp only [kb_X1_shift_77, s_re, LR, IR, true_and, and_true, Nat.reduceAdd, Nat.reduceSub, eq_self]
    exact fun _ _ _ _ => ⟨rfl, rfl, by first | trivial | omega⟩
  refine sblk (hv := false) kbl_X1_shift kbs_X1_shift (pc := 0) (pe := 44) (rk := 9) (i := 0) rfl (by decide +kernel) ?_
  simp only [kb_X1_shift_0, s_ald_0, s_dupi, s_dupr, s_gf_3_1, s_lld_1, s_ladd, s_pf_3_1, s_lc0, s_lcmp, ne_eq, tlc_r, tlc_eq, tlc_lt, tlc_ge, tlc_gt, tlc_le, s_if_ge, s_ld2, s_gf_3_0, s_lc1, s_lsub, s_pf_3_0, s_goto, LR, IR, true_and, and_true, Nat.reduceAdd, Nat.reduceSub, eq_self]
  refine ⟨by assumption, fun x4_ h4_ => ?_⟩
  intro x6_ h6_
  refine ⟨by omega, by assumption, ?_⟩
  refine ⟨by assumption, fun x9_ h9_ => ?_⟩
  refine ⟨by omega, ?_⟩
  refine ⟨fun h12_ => ?_, fun h12_ => ?_⟩
  · refine sT_w ?_
    refine sblk (hv := false) kbl_X1_shift kbs_X1_shift (pc := 44) (pe := 77) (rk := 9) (i := 1) rfl (by decide +kernel) ?_
    simp only [kb_X1_shift_44, s_ald_0, s_gf_3_1, s_ld2, s_lcmp, ne_eq, tlc_r, tlc_eq, tlc_lt, tlc_ge, tlc_gt, tlc_le, s_if_lt, s_dupi, s_dupr, s_lsub, s_pf_3_1, s_gf_3_0, s_lc1, s_ladd, s_pf_3_0, s_nil, LR, IR, true_and, and_true, Nat.reduceAdd, Nat.reduceSub, eq_self]
    refine ⟨by assumption, fun x14_ h14_ => ?_⟩
    refine ⟨by omega, ?_⟩
    refine ⟨fun h17_ => ?_, fun h17_ => ?_⟩
    · exact sT_w (n77)
    refine ⟨by assumption, fun x20_ h20_ => ?_⟩
    intro x22_ h22_
    refine ⟨by omega, by assumption, ?_⟩
    refine ⟨by assumption, fun x26_ h26_ => ?_⟩
    intro x28_ h28_
    refine ⟨by omega, by assumption, ?_⟩
    exact sT_w (n77)
  refine ⟨by assumption, fun x32_ h32_ => ?_⟩
  intro x34_ h34_
  refine ⟨by omega, by assumption, ?_⟩
  refine ⟨by assumption, fun x38_ h38_ => ?_⟩
  intro x40_ h40_
  refine ⟨by omega, by assumption, ?_⟩
  exact sT_w (n77)
theorem k_X8_turn {e : tE} {b : Nat} {d n : Nat} {r : Nat} (h0 : cl r 10) (hb : b < 2 ∨ b = 3) (hd : 1 ≤ d) : sC e b d 2579 [.inr (.inr (.inl r))] n (SQn n (True)) := by
  refine sK (fun M h => tst_X8_turn h) (fun M0 => ?_)
  have n24 : sT e b M0 d 2579 24 [] [some (.inr (.inr (.inl r)))] [] n (fun r n' _ => (SQn n (True)) r n') := by
    refine sblk (hv := false) kbl_X8_turn kbs_X8_turn (pc := 24) (pe := 25) (rk := 9) (i := 1) rfl (by decide +kernel) ?_
    simp only [kb_X8_turn_24, s_re, LR, IR, true_and, and_true, Nat.reduceAdd, Nat.reduceSub, eq_self]
    exact fun _ _ _ _ => ⟨rfl, rfl, by first | trivial | omega⟩
  refine sblk (hv := false) kbl_X8_turn kbs_X8_turn (pc := 0) (pe := 24) (rk := 9) (i := 0) rfl (by decide +kernel) ?_
  simp only [kb_X8_turn_0, s_ald_0, s_gf_10_0, s_iv0, tfr_0, tfr_1, tfr_2, tfr_3, tfr_4, s_gf_10_1, s_if_eq, s_ld2, s_iv1, s_nil, LR, IR, true_and, and_true, Nat.reduceAdd, Nat.reduceSub, eq_self]
  refine ⟨by assumption, fun x3_ h3_ z3_ => ?_⟩
  refine ⟨vok_of (s := 3) (by assumption) rfl, ?_⟩
  refine sc_n (D := 0) (fun d' hd' => k_X1_turn (by assumption) (by omega) hd') (by omega) ?_
  intro h4_
  try simp only [s_ald_0, s_gf_10_1, s_if_eq, s_gf_10_0, s_ld2, s_iv1, tfr_0, tfr_1, tfr_2, tfr_3, tfr_4, s_nil, LR, IR, true_and, and_true, Nat.reduceAdd, Nat.reduceSub, eq_self]
  refine ⟨by assumption, fun x6_ h6_ g6_ k6_ => ?_⟩
  clear k6_
  refine ⟨by omega, fun h7_ => ?_, fun h7_ => ?_⟩
  · exact sT_w (n24)
  refine ⟨by assumption, fun x9_ h9_ z9_ => ?_⟩
  refine ⟨vok_of (s := 3) (by assumption) rfl, ?_⟩
  refine sc_n (D := 0) (fun d' hd' => k_X1_shift (by assumption) (by omega) (by omega) hd') (by omega) ?_
  intro h11_
  try simp only [s_nil, LR, IR, true_and, and_true, Nat.reduceAdd, Nat.reduceSub, eq_self]
  exact sT_w (n24)
theorem k_X3_tell {e : tE} {b : Nat} {d n : Nat} {r : Nat} (h0 : cl r 5) (hb : b < 2) (hd : 2 ≤ d) : sC e b d 1290 [.inr (.inr (.inl r))] n (SQn n (True)) := by
  refine sK (fun M h => tst_X3_tell h) (fun M0 => ?_)
  have n77 : ∀ (l1_77 : Int) (l3_77 : Int), (-9223372036854775808 ≤ l1_77 ∧ l1_77 < 9223372036854775808) → (-9223372036854775808 ≤ l3_77 ∧ l3_77 < 9223372036854775808) → sT e b M0 d 1290 77 [] [some (.inr (.inr (.inl r))), some (.inr (.inl l1_77)), none, some (.inr (.inl l3_77)), none] [] n (fun r n' _ => (SQn n (True)) r n') := by
    intro l1_77 l3_77 y77_0 y77_1
    refine sblk (hv := false) kbl_X3_tell kbs_X3_tell (pc := 77) (pe := 78) (rk := 9) (i := 1) rfl (by decide +kernel) ?_
    simp only [kb_X3_tell_77, s_re, LR, IR, true_and, and_true, Nat.reduceAdd, Nat.reduceSub, eq_self]
    exact fun _ _ _ _ => ⟨rfl, rfl, by first | trivial | omega⟩
  refine sblk (hv := false) kbl_X3_tell kbs_X3_tell (pc := 0) (pe := 77) (rk := 9) (i := 0) rfl (by decide +kernel) ?_
  simp only [kb_X3_tell_0, s_ald_0, s_gf_5_6, s_bi, s_iv1, tfr_0, tfr_1, tfr_2, tfr_3, tfr_4, s_ld2, s_lmul, s_ladd, s_lst_1, tkl_n, tkl_i, tkl_l, tkl_r, s_ic, s_ldiv, s_lst_3, s_gf_5_0, s_lld_1, s_lld_3, s_gf_5_2, s_iv3, s_gf_5_1, s_if_eq, s_iv0, s_nil, LR, IR, true_and, and_true, Nat.reduceAdd, Nat.reduceSub, eq_self]
  refine ⟨by assumption, fun x3_ h3_ => ?_⟩
  refine ⟨vok_of (s := 6) (by assumption) rfl, ?_⟩
  refine sc_l (D := 0) (fun d' hd' => k_X4_limbAt (by assumption) (by omega) hd') (by omega) ?_
  intro x5_ h5_
  try simp only [s_ld2, s_lmul, s_ald_0, s_gf_5_6, s_bi, s_iv1, tfr_0, tfr_1, tfr_2, tfr_3, tfr_4, s_ladd, s_lst_1, tkl_n, tkl_i, tkl_l, tkl_r, s_ic, s_ldiv, s_lst_3, s_gf_5_0, s_lld_1, s_lld_3, s_gf_5_2, s_iv3, s_gf_5_1, s_if_eq, s_iv0, s_nil, LR, IR, true_and, and_true, Nat.reduceAdd, Nat.reduceSub, eq_self]
  intro x7_ h7_
  refine ⟨by assumption, fun x9_ h9_ => ?_⟩
  refine ⟨vok_of (s := 6) (by assumption) rfl, ?_⟩
  refine sc_l (D := 0) (fun d' hd' => k_X4_limbAt (by assumption) (by omega) hd') (by omega) ?_
  intro x11_ h11_
  try simp only [s_ladd, s_lst_1, tkl_n, tkl_i, tkl_l, tkl_r, s_ald_0, s_gf_5_6, s_ic, s_iv1, tfr_0, tfr_1, tfr_2, tfr_3, tfr_4, s_ld2, s_lmul, s_ldiv, s_lst_3, s_gf_5_0, s_lld_1, s_lld_3, s_gf_5_2, s_iv3, s_gf_5_1, s_if_eq, s_iv0, s_nil, LR, IR, true_and, and_true, Nat.reduceAdd, Nat.reduceSub, eq_self]
  intro x12_ h12_
  refine ⟨by assumption, fun x15_ h15_ => ?_⟩
  refine ⟨vok_of (s := 6) (by assumption) rfl, ?_⟩
  refine sc_l (D := 0) (fun d' hd' => k_X4_limbAt (by assumption) (by omega) hd') (by omega) ?_
  intro x17_ h17_
  try simp only [s_ld2, s_lmul, s_ald_0, s_gf_5_6, s_ic, s_iv1, tfr_0, tfr_1, tfr_2, tfr_3, tfr_4, s_ldiv, s_ladd, s_lst_3, tkl_n, tkl_i, tkl_l, tkl_r, s_gf_5_0, s_lld_1, s_lld_3, s_gf_5_2, s_iv3, s_gf_5_1, s_if_eq, s_iv0, s_nil, LR, IR, true_and, and_true, Nat.reduceAdd, Nat.reduceSub, eq_self]
  intro x19_ h19_
  refine ⟨by assumption, fun x21_ h21_ => ?_⟩
  refine ⟨vok_of (s := 6) (by assumption) rfl, ?_⟩
  refine sc_l (D := 0) (fun d' hd' => k_X4_limbAt (by assumption) (by omega) hd') (by omega) ?_
  intro x23_ h23_
  try simp only [s_ld2, s_ldiv, s_ladd, s_lst_3, tkl_n, tkl_i, tkl_l, tkl_r, s_ald_0, s_gf_5_0, s_lld_1, s_lld_3, s_gf_5_2, s_iv3, tfr_0, tfr_1, tfr_2, tfr_3, tfr_4, s_gf_5_1, s_if_eq, s_iv0, s_nil, LR, IR, true_and, and_true, Nat.reduceAdd, Nat.reduceSub, eq_self]
  refine ⟨by omega, fun x25_ h25_ y25_ => ?_⟩
  clear y25_
  intro x26_ h26_
  refine ⟨by assumption, fun x29_ h29_ => ?_⟩
  refine ⟨by assumption, fun x33_ h33_ g33_ k33_ => ?_⟩
  clear k33_
  refine ⟨vok_of (s := 10) (by assumption) rfl, ?_⟩
  refine sc_n (D := 0) (fun d' hd' => k_X8_assign (by assumption) (by omega) (by omega) (by omega) (by omega) hd') (by omega) ?_
  intro h34_
  try simp only [s_ald_0, s_gf_5_1, s_if_eq, s_gf_5_0, s_iv0, tfr_0, tfr_1, tfr_2, tfr_3, tfr_4, s_nil, LR, IR, true_and, and_true, Nat.reduceAdd, Nat.reduceSub, eq_self]
  refine ⟨by assumption, fun x36_ h36_ g36_ k36_ => ?_⟩
  clear k36_
  refine ⟨by omega, fun h37_ => ?_, fun h37_ => ?_⟩
  · exact sT_w (n77 _ _ (by omega) (by omega))
  refine ⟨by assumption, fun x39_ h39_ => ?_⟩
  refine ⟨vok_of (s := 10) (by assumption) rfl, ?_⟩
  refine sc_n (D := 1) (fun d' hd' => k_X8_turn (by assumption) (by omega) hd') (by omega) ?_
  intro h40_
  try simp only [s_nil, LR, IR, true_and, and_true, Nat.reduceAdd, Nat.reduceSub, eq_self]
  exact sT_w (n77 _ _ (by omega) (by omega))
theorem k_X8_tellDown {e : tE} {b : Nat} {d n : Nat} {r : Nat} {x1 : Nat} {x2 : Int} (h0 : cl r 10) (h1 : cl x1 3) (h2 : (-9223372036854775808 ≤ x2 ∧ x2 < 9223372036854775808)) (hb : b < 2 ∨ b = 3) (hd : 1 ≤ d) : sC e b d 2575 [.inr (.inr (.inl r)), .inr (.inr (.inl x1)), .inr (.inl x2)] n (SQn n (True)) := by
  refine sK (fun M h => tst_X8_tellDown h) (fun M0 => ?_)
  refine sblk (hv := false) kbl_X8_tellDown kbs_X8_tellDown (pc := 0) (pe := 14) (rk := 9) (i := 0) rfl (by decide +kernel) ?_
  simp only [kb_X8_tellDown_0, s_ald_1, s_ald_0, s_gf_10_0, s_iv1, tfr_0, tfr_1, tfr_2, tfr_3, tfr_4, s_lld_2, s_re, LR, IR, true_and, and_true, Nat.reduceAdd, Nat.reduceSub, eq_self]
  refine ⟨by assumption, fun x3_ h3_ z3_ => ?_⟩
  refine ⟨vok_of (s := 3) (by assumption) rfl, ?_⟩
  refine sc_n (D := 0) (fun d' hd' => k_X1_copy (by assumption) (by assumption) (by omega) hd') (by omega) ?_
  intro h4_
  try simp only [s_ald_1, s_lld_2, s_iv1, tfr_0, tfr_1, tfr_2, tfr_3, tfr_4, s_re, LR, IR, true_and, and_true, Nat.reduceAdd, Nat.reduceSub, eq_self]
  refine ⟨vok_of (s := 3) (by assumption) rfl, ?_⟩
  refine sc_n (D := 0) (fun d' hd' => k_X1_roundDown (by assumption) (by omega) (by omega) hd') (by omega) ?_
  intro h7_
  try simp only [s_re, LR, IR, true_and, and_true, Nat.reduceAdd, Nat.reduceSub, eq_self]
  exact fun _ _ _ _ => ⟨rfl, rfl, by first | trivial | omega⟩
theorem k_X8_tellUp {e : tE} {b : Nat} {d n : Nat} {r : Nat} {x1 : Nat} {x2 : Int} (h0 : cl r 10) (h1 : cl x1 3) (h2 : (-9223372036854775808 ≤ x2 ∧ x2 < 9223372036854775808)) (hb : b < 2 ∨ b = 3) (hd : 1 ≤ d) : sC e b d 2576 [.inr (.inr (.inl r)), .inr (.inr (.inl x1)), .inr (.inl x2)] n (SQn n (True)) := by
  refine sK (fun M h => tst_X8_tellUp h) (fun M0 => ?_)
  refine sblk (hv := false) kbl_X8_tellUp kbs_X8_tellUp (pc := 0) (pe := 18) (rk := 9) (i := 0) rfl (by decide +kernel) ?_
  simp only [kb_X8_tellUp_0, s_ald_1, s_ald_0, s_gf_10_0, s_iv1, tfr_0, tfr_1, tfr_2, tfr_3, tfr_4, s_lld_2, s_gf_10_1, s_iv2, s_re, LR, IR, true_and, and_true, Nat.reduceAdd, Nat.reduceSub, eq_self]
  refine ⟨by assumption, fun x3_ h3_ z3_ => ?_⟩
  refine ⟨vok_of (s := 3) (by assumption) rfl, ?_⟩
  refine sc_n (D := 0) (fun d' hd' => k_X1_copy (by assumption) (by assumption) (by omega) hd') (by omega) ?_
  intro h4_
  try simp only [s_ald_1, s_lld_2, s_ald_0, s_gf_10_1, s_iv2, tfr_0, tfr_1, tfr_2, tfr_3, tfr_4, s_re, LR, IR, true_and, and_true, Nat.reduceAdd, Nat.reduceSub, eq_self]
  refine ⟨by assumption, fun x8_ h8_ g8_ k8_ => ?_⟩
  clear k8_
  refine ⟨vok_of (s := 3) (by assumption) rfl, ?_⟩
  refine sc_n (D := 0) (fun d' hd' => k_X1_roundUp (by assumption) (by omega) (by omega) (by omega) hd') (by omega) ?_
  intro h9_
  try simp only [s_re, LR, IR, true_and, and_true, Nat.reduceAdd, Nat.reduceSub, eq_self]
  exact fun _ _ _ _ => ⟨rfl, rfl, by first | trivial | omega⟩
theorem k_X8_dropSign {e : tE} {b : Nat} {d n : Nat} {x1 : Nat} (h0 : cl x1 3) (hb : b < 2 ∨ b = 3) (hd : 1 ≤ d) : sC e b d 2563 [.inr (.inr (.inl x1))] n (SQi n (fun z => (0 ≤ z ∧ z ≤ 1))) := by
  refine sK (fun M h => tst_X8_dropSign h) (fun M0 => ?_)
  have n13 : ∀ (i1_13 : Int), (0 ≤ i1_13 ∧ i1_13 ≤ 1) → sT e b M0 d 2563 13 [] [some (.inr (.inr (.inl x1))), some (.inl i1_13)] [] n (fun r n' _ => (SQi n (fun z => (0 ≤ z ∧ z ≤ 1))) r n') := by
    intro i1_13 y13_0
    refine sblk (hv := false) kbl_X8_dropSign kbs_X8_dropSign (pc := 13) (pe := 15) (rk := 3) (i := 1) rfl (by decide +kernel) ?_
    simp only [kb_X8_dropSign_13, s_ild_1, s_ire, trg, LR, IR, true_and, and_true, Nat.reduceAdd, Nat.reduceSub, eq_self]
    exact ⟨by omega, fun _ _ _ _ => ⟨_, rfl, rfl, by omega⟩⟩
  refine sblk (hv := false) kbl_X8_dropSign kbs_X8_dropSign (pc := 0) (pe := 13) (rk := 3) (i := 0) rfl (by decide +kernel) ?_
  simp only [kb_X8_dropSign_0, s_ald_0, s_iv0, tfr_0, tfr_1, tfr_2, tfr_3, tfr_4, s_ist_1, tkl_n, tkl_i, tkl_l, tkl_r, s_ild_1, s_if_eq, s_nil, LR, IR, true_and, and_true, Nat.reduceAdd, Nat.reduceSub, eq_self]
  refine ⟨vok_of (s := 3) (by assumption) rfl, ?_⟩
  refine sc_i (D := 0) (fun d' hd' => k_X1_isNegative (by assumption) hd') (by omega) ?_
  intro x4_ h4_
  try simp only [s_ist_1, tkl_n, tkl_i, tkl_l, tkl_r, s_ild_1, s_if_eq, s_ald_0, s_iv0, tfr_0, tfr_1, tfr_2, tfr_3, tfr_4, s_nil, LR, IR, true_and, and_true, Nat.reduceAdd, Nat.reduceSub, eq_self]
  refine ⟨by omega, fun h7_ => ?_, fun h7_ => ?_⟩
  · exact sT_w (n13 _ (by omega))
  refine ⟨vok_of (s := 3) (by assumption) rfl, ?_⟩
  refine sc_n (D := 0) (fun d' hd' => k_X1_turn (by assumption) (by omega) hd') (by omega) ?_
  intro h9_
  try simp only [s_nil, LR, IR, true_and, and_true, Nat.reduceAdd, Nat.reduceSub, eq_self]
  exact sT_w (n13 _ (by omega))
theorem k_X2_holdsZero {e : tE} {b : Nat} {d n : Nat} {r : Nat} (h0 : cl r 4) (hd : 1 ≤ d) : sC e b d 1030 [.inr (.inr (.inl r))] n (SQi n (fun z => (0 ≤ z ∧ z ≤ 1))) := by
  refine sK (fun M h => tst_X2_holdsZero h) (fun M0 => ?_)
  have n25 : ∀ (is0_25 : Int), (0 ≤ is0_25 ∧ is0_25 ≤ 1) → sT e b M0 d 1030 25 [] [some (.inr (.inr (.inl r)))] [.inl is0_25] n (fun r n' _ => (SQi n (fun z => (0 ≤ z ∧ z ≤ 1))) r n') := by
    intro is0_25 y25_0
    refine sblk (hv := false) kbl_X2_holdsZero kbs_X2_holdsZero (pc := 25) (pe := 26) (rk := 3) (i := 2) rfl (by decide +kernel) ?_
    simp only [kb_X2_holdsZero_25, s_ire, trg, LR, IR, true_and, and_true, Nat.reduceAdd, Nat.reduceSub, eq_self]
    exact ⟨by omega, fun _ _ _ _ => ⟨_, rfl, rfl, by omega⟩⟩
  have n24 : sT e b M0 d 1030 24 [] [some (.inr (.inr (.inl r)))] [] n (fun r n' _ => (SQi n (fun z => (0 ≤ z ∧ z ≤ 1))) r n') := by
    refine sblk (hv := false) kbl_X2_holdsZero kbs_X2_holdsZero (pc := 24) (pe := 25) (rk := 3) (i := 1) rfl (by decide +kernel) ?_
    simp only [kb_X2_holdsZero_24, s_ic, s_nil, LR, IR, true_and, and_true, Nat.reduceAdd, Nat.reduceSub, eq_self]
    exact sT_w (n25 _ (by omega))
  refine sblk (hv := false) kbl_X2_holdsZero kbs_X2_holdsZero (pc := 0) (pe := 24) (rk := 3) (i := 0) rfl (by decide +kernel) ?_
  simp only [kb_X2_holdsZero_0, s_ald_0, s_gf_4_0, s_iv0, tfr_0, tfr_1, tfr_2, tfr_3, tfr_4, s_if_ne, s_gf_4_1, s_ic, s_goto, LR, IR, true_and, and_true, Nat.reduceAdd, Nat.reduceSub, eq_self]
  refine ⟨by assumption, fun x4_ h4_ => ?_⟩
  refine ⟨vok_of (s := 3) (by assumption) rfl, ?_⟩
  refine sc_i (D := 0) (fun d' hd' => k_X1_isPositive (by assumption) hd') (by omega) ?_
  intro x5_ h5_
  try simp only [s_if_ne, s_ald_0, s_gf_4_1, s_iv0, tfr_0, tfr_1, tfr_2, tfr_3, tfr_4, s_ic, s_goto, LR, IR, true_and, and_true, Nat.reduceAdd, Nat.reduceSub, eq_self]
  refine ⟨by omega, fun h6_ => ?_, fun h6_ => ?_⟩
  · exact sT_w (n24)
  refine ⟨by assumption, fun x8_ h8_ => ?_⟩
  refine ⟨vok_of (s := 3) (by assumption) rfl, ?_⟩
  refine sc_i (D := 0) (fun d' hd' => k_X1_isNegative (by assumption) hd') (by omega) ?_
  intro x9_ h9_
  try simp only [s_if_ne, s_ic, s_goto, LR, IR, true_and, and_true, Nat.reduceAdd, Nat.reduceSub, eq_self]
  refine ⟨by omega, fun h10_ => ?_, fun h10_ => ?_⟩
  · exact sT_w (n24)
  exact sT_w (n25 _ (by omega))
theorem k_X8_quotient {e : tE} {b : Nat} {d n : Nat} {r : Nat} {x1 : Nat} {x2 : Nat} (h0 : cl r 10) (h1 : cl x1 3) (h2 : cl x2 3) (hb : b < 2) (hd : 2 ≤ d) : sC e b d 2568 [.inr (.inr (.inl r)), .inr (.inr (.inl x1)), .inr (.inr (.inl x2))] n (SQn n (True)) := by
  refine sK (fun M h => tst_X8_quotient h) (fun M0 => ?_)
  have n38 : ∀ (w3_38 : Option tV) (w4_38 : Option tV) (w5_38 : Option tV) (w6_38 : Option tV) (w7_38 : Option tV) (w8_38 : Option tV) (is0_38 : Int), (0 ≤ is0_38 ∧ is0_38 ≤ 1) → sT e b M0 d 2568 38 [] [some (.inr (.inr (.inl r))), some (.inr (.inr (.inl x1))), some (.inr (.inr (.inl x2))), w3_38, w4_38, w5_38, w6_38, w7_38, w8_38] [.inl is0_38] n (fun r n' _ => (SQn n (True)) r n') := by
    intro w3_38 w4_38 w5_38 w6_38 w7_38 w8_38 is0_38 y38_0
    have n119 : ∀ (i3_119 : Int) (i4_119 : Int) (w5_119 : Option tV) (w6_119 : Option tV) (w7_119 : Option tV) (w8_119 : Option tV), (0 ≤ i3_119 ∧ i3_119 ≤ 1) → (-2147483648 ≤ i4_119 ∧ i4_119 ≤ 2147483647) → sT e b M0 d 2568 119 [] [some (.inr (.inr (.inl r))), some (.inr (.inr (.inl x1))), some (.inr (.inr (.inl x2))), some (.inl i3_119), some (.inl i4_119), w5_119, w6_119, w7_119, w8_119] [] n (fun r n' _ => (SQn n (True)) r n') := by
      intro i3_119 i4_119 w5_119 w6_119 w7_119 w8_119 y119_0 y119_1
      have n127 : ∀ (w5_127 : Option tV) (w6_127 : Option tV) (w7_127 : Option tV) (w8_127 : Option tV), sT e b M0 d 2568 127 [] [some (.inr (.inr (.inl r))), some (.inr (.inr (.inl x1))), some (.inr (.inr (.inl x2))), some (.inl i3_119), some (.inl i4_119), w5_127, w6_127, w7_127, w8_127] [] n (fun r n' _ => (SQn n (True)) r n') := by
        intro w5_127 w6_127 w7_127 w8_127 
        refine sblk (hv := false) kbl_X8_quotient kbs_X8_quotient (pc := 127) (pe := 128) (rk := 9) (i := 8) rfl (by decide +kernel) ?_
        simp only [kb_X8_quotient_127, s_re, LR, IR, true_and, and_true, Nat.reduceAdd, Nat.reduceSub, eq_self]
        exact fun _ _ _ _ => ⟨rfl, rfl, by first | trivial | omega⟩
      refine sblk (hv := false) kbl_X8_quotient kbs_X8_quotient (pc := 119) (pe := 127) (rk := 9) (i := 7) rfl (by decide +kernel) ?_
      simp only [kb_X8_quotient_119, s_ild_3, s_if_eq, s_ald_0, s_iv0, tfr_0, tfr_1, tfr_2, tfr_3, tfr_4, s_nil, LR, IR, true_and, and_true, Nat.reduceAdd, Nat.reduceSub, eq_self]
      refine ⟨by omega, fun h3_ => ?_, fun h3_ => ?_⟩
      · exact sT_w (n127 _ _ _ _)
      refine ⟨vok_of (s := 10) (by assumption) rfl, ?_⟩
      refine sc_n (D := 1) (fun d' hd' => k_X8_turn (by assumption) (by omega) hd') (by omega) ?_
      intro h5_
      try simp only [s_nil, LR, IR, true_and, and_true, Nat.reduceAdd, Nat.reduceSub, eq_self]
      exact sT_w (n127 _ _ _ _)
    refine sblk (hv := false) kbl_X8_quotient kbs_X8_quotient (pc := 38) (pe := 72) (rk := 9) (i := 2) rfl (by decide +kernel) ?_
    simp only [kb_X8_quotient_38, s_ist_3, tkl_n, tkl_i, tkl_l, tkl_r, s_ald_0, s_gf_10_2, s_gf_10_3, s_iv2, tfr_0, tfr_1, tfr_2, tfr_3, tfr_4, s_ist4, s_ild4, s_bi, s_ic_le, s_ld2, s_lc0, s_ic, s_iv3, s_goto, LR, IR, true_and, and_true, Nat.reduceAdd, Nat.reduceSub, eq_self]
    refine ⟨by assumption, fun x9_ h9_ z9_ => ?_⟩
    refine ⟨by assumption, fun x11_ h11_ z11_ => ?_⟩
    refine ⟨vok_of (s := 10) (by assumption) rfl, ?_⟩
    refine sc_i (D := 0) (fun d' hd' => k_X8_align (by assumption) (by assumption) (by assumption) (by omega) hd') (by omega) ?_
    intro x12_ h12_
    try simp only [s_ist4, tkl_n, tkl_i, tkl_l, tkl_r, s_ild4, s_bi, s_ic_le, s_ald_0, s_ld2, s_lc0, s_ic, s_iv3, tfr_0, tfr_1, tfr_2, tfr_3, tfr_4, s_goto, LR, IR, true_and, and_true, Nat.reduceAdd, Nat.reduceSub, eq_self]
    refine ⟨by omega, fun h16_ => ?_, fun h16_ => ?_⟩
    · have n116 : ∀ (i3_116 : Int) (i4_116 : Int) (l5_116 : Int) (l7_116 : Int) (is0_116 : Int) (ls1_116 : Int) (ls2_116 : Int) (qs3_116 : Nat), (0 ≤ i3_116 ∧ i3_116 ≤ 1) → (-2147483648 ≤ i4_116 ∧ i4_116 ≤ 13) → (-9223372036854775808 ≤ l5_116 ∧ l5_116 < 9223372036854775808) → (-9223372036854775808 ≤ l7_116 ∧ l7_116 < 9223372036854775808) → (0 ≤ is0_116 ∧ is0_116 ≤ 1) → (-9223372036854775808 ≤ ls1_116 ∧ ls1_116 < 9223372036854775808) → (-9223372036854775808 ≤ ls2_116 ∧ ls2_116 < 9223372036854775808) → cl qs3_116 10 → sT e b M0 d 2568 116 [] [some (.inr (.inr (.inl r))), some (.inr (.inr (.inl x1))), some (.inr (.inr (.inl x2))), some (.inl i3_116), some (.inl i4_116), some (.inr (.inl l5_116)), none, some (.inr (.inl l7_116)), none] [.inl is0_116, .inr (.inl ls1_116), .inr (.inl ls2_116), .inr (.inr (.inl qs3_116))] n (fun r n' _ => (SQn n (True)) r n') := by
        intro i3_116 i4_116 l5_116 l7_116 is0_116 ls1_116 ls2_116 qs3_116 y116_0 y116_1 y116_2 y116_3 y116_4 y116_5 y116_6 y116_7
        refine sblk (hv := false) kbl_X8_quotient kbs_X8_quotient (pc := 116) (pe := 119) (rk := 9) (i := 6) rfl (by decide +kernel) ?_
        simp only [kb_X8_quotient_116, s_iv3, tfr_0, tfr_1, tfr_2, tfr_3, tfr_4, s_nil, LR, IR, true_and, and_true, Nat.reduceAdd, Nat.reduceSub, eq_self]
        refine ⟨vok_of (s := 10) (by assumption) rfl, ?_⟩
        refine sc_n (D := 0) (fun d' hd' => k_X8_assign (by assumption) (by omega) (by omega) (by omega) (by omega) hd') (by omega) ?_
        intro h17_
        try simp only [s_nil, LR, IR, true_and, and_true, Nat.reduceAdd, Nat.reduceSub, eq_self]
        exact sT_w (n119 _ _ _ _ _ _ (by omega) (by omega))
      have n111 : ∀ (i3_111 : Int) (i4_111 : Int) (l5_111 : Int) (l7_111 : Int) (ls0_111 : Int) (ls1_111 : Int) (qs2_111 : Nat), (0 ≤ i3_111 ∧ i3_111 ≤ 1) → (-2147483648 ≤ i4_111 ∧ i4_111 ≤ 13) → (-9223372036854775808 ≤ l5_111 ∧ l5_111 < 9223372036854775808) → (-9223372036854775808 ≤ l7_111 ∧ l7_111 < 9223372036854775808) → (-9223372036854775808 ≤ ls0_111 ∧ ls0_111 < 9223372036854775808) → (-9223372036854775808 ≤ ls1_111 ∧ ls1_111 < 9223372036854775808) → cl qs2_111 10 → sT e b M0 d 2568 111 [] [some (.inr (.inr (.inl r))), some (.inr (.inr (.inl x1))), some (.inr (.inr (.inl x2))), some (.inl i3_111), some (.inl i4_111), some (.inr (.inl l5_111)), none, some (.inr (.inl l7_111)), none] [.inr (.inl ls0_111), .inr (.inl ls1_111), .inr (.inr (.inl qs2_111))] n (fun r n' _ => (SQn n (True)) r n') := by
        intro i3_111 i4_111 l5_111 l7_111 ls0_111 ls1_111 qs2_111 y111_0 y111_1 y111_2 y111_3 y111_4 y111_5 y111_6
        refine sblk (hv := false) kbl_X8_quotient kbs_X8_quotient (pc := 111) (pe := 115) (rk := 9) (i := 4) rfl (by decide +kernel) ?_
        simp only [kb_X8_quotient_111, s_ic, s_goto, LR, IR, true_and, and_true, Nat.reduceAdd, Nat.reduceSub, eq_self]
        exact sT_w (n116 _ _ _ _ _ _ _ _ (by omega) (by omega) (by omega) (by omega) (by omega) (by omega) (by omega) (by assumption))
      refine sT_w ?_
      refine sblk (hv := false) kbl_X8_quotient kbs_X8_quotient (pc := 72) (pe := 111) (rk := 9) (i := 3) rfl (by decide +kernel) ?_
      simp only [kb_X8_quotient_72, s_ald_0, s_ild4, s_iv1, tfr_0, tfr_1, tfr_2, tfr_3, tfr_4, s_lst5, tkl_n, tkl_i, tkl_l, tkl_r, s_bi, s_lst7, s_lld5, s_lld7, s_gf_10_9, s_lc0, s_lcmp, ne_eq, tlc_r, tlc_eq, tlc_lt, tlc_ge, tlc_gt, tlc_le, s_if_gt, s_gf_10_10, s_if_le, s_nil, LR, IR, true_and, and_true, Nat.reduceAdd, Nat.reduceSub, eq_self]
      refine ⟨vok_of (s := 10) (by assumption) rfl, ?_⟩
      refine sc_l (D := 0) (fun d' hd' => k_X8_nextDigits (by assumption) (by omega) (by omega) hd') (by omega) ?_
      intro x22_ h22_
      try simp only [s_lst5, tkl_n, tkl_i, tkl_l, tkl_r, s_ald_0, s_bi, s_iv1, tfr_0, tfr_1, tfr_2, tfr_3, tfr_4, s_lst7, s_lld5, s_lld7, s_gf_10_9, s_lc0, s_lcmp, ne_eq, tlc_r, tlc_eq, tlc_lt, tlc_ge, tlc_gt, tlc_le, s_if_gt, s_gf_10_10, s_if_le, s_nil, LR, IR, true_and, and_true, Nat.reduceAdd, Nat.reduceSub, eq_self]
      refine ⟨vok_of (s := 10) (by assumption) rfl, ?_⟩
      refine sc_l (D := 0) (fun d' hd' => k_X8_nextDigits (by assumption) (by omega) (by omega) hd') (by omega) ?_
      intro x26_ h26_
      try simp only [s_lst7, tkl_n, tkl_i, tkl_l, tkl_r, s_ald_0, s_lld5, s_lld7, s_gf_10_9, s_lc0, s_lcmp, ne_eq, tlc_r, tlc_eq, tlc_lt, tlc_ge, tlc_gt, tlc_le, s_if_gt, s_gf_10_10, s_if_le, s_nil, LR, IR, true_and, and_true, Nat.reduceAdd, Nat.reduceSub, eq_self]
      refine ⟨by assumption, fun x32_ h32_ => ?_⟩
      refine ⟨by omega, ?_⟩
      refine ⟨fun h35_ => ?_, fun h35_ => ?_⟩
      · exact sT_w (n111 _ _ _ _ _ _ _ (by omega) (by omega) (by omega) (by omega) (by omega) (by omega) (by assumption))
      refine ⟨by assumption, fun x37_ h37_ => ?_⟩
      refine ⟨by omega, ?_⟩
      refine ⟨fun h40_ => ?_, fun h40_ => ?_⟩
      · refine sT_w ?_
        refine sblk (hv := false) kbl_X8_quotient kbs_X8_quotient (pc := 115) (pe := 116) (rk := 9) (i := 5) rfl (by decide +kernel) ?_
        simp only [kb_X8_quotient_115, s_ic, s_nil, LR, IR, true_and, and_true, Nat.reduceAdd, Nat.reduceSub, eq_self]
        exact sT_w (n116 _ _ _ _ _ _ _ _ (by omega) (by omega) (by omega) (by omega) (by omega) (by omega) (by omega) (by assumption))
      exact sT_w (n111 _ _ _ _ _ _ _ (by omega) (by omega) (by omega) (by omega) (by omega) (by omega) (by assumption))
    refine ⟨vok_of (s := 10) (by assumption) rfl, ?_⟩
    refine sc_n (D := 0) (fun d' hd' => k_X8_assign (by assumption) (by omega) (by omega) (by omega) (by omega) hd') (by omega) ?_
    intro h46_
    try simp only [s_goto, LR, IR, true_and, and_true, Nat.reduceAdd, Nat.reduceSub, eq_self]
    exact sT_w (n119 _ _ _ _ _ _ (by omega) (by omega))
  refine sblk (hv := false) kbl_X8_quotient kbs_X8_quotient (pc := 0) (pe := 37) (rk := 9) (i := 0) rfl (by decide +kernel) ?_
  simp only [kb_X8_quotient_0, s_ald_0, s_gf_10_2, s_ald_1, s_iv1, tfr_0, tfr_1, tfr_2, tfr_3, tfr_4, s_gf_10_3, s_ald_2, s_is1, s_ic_eq, s_ic, s_goto, LR, IR, true_and, and_true, Nat.reduceAdd, Nat.reduceSub, eq_self]
  refine ⟨by assumption, fun x49_ h49_ z49_ => ?_⟩
  refine ⟨vok_of (s := 3) (by assumption) rfl, ?_⟩
  refine sc_n (D := 0) (fun d' hd' => k_X1_copy (by assumption) (by assumption) (by omega) hd') (by omega) ?_
  intro h51_
  try simp only [s_ald_0, s_gf_10_3, s_ald_2, s_iv1, tfr_0, tfr_1, tfr_2, tfr_3, tfr_4, s_gf_10_2, s_is1, s_ic_eq, s_ic, s_goto, LR, IR, true_and, and_true, Nat.reduceAdd, Nat.reduceSub, eq_self]
  refine ⟨by assumption, fun x53_ h53_ z53_ => ?_⟩
  refine ⟨vok_of (s := 3) (by assumption) rfl, ?_⟩
  refine sc_n (D := 0) (fun d' hd' => k_X1_copy (by assumption) (by assumption) (by omega) hd') (by omega) ?_
  intro h55_
  try simp only [s_ald_0, s_gf_10_2, s_is1, tfr_0, tfr_1, tfr_2, tfr_3, tfr_4, s_gf_10_3, s_ic_eq, s_ic, s_goto, LR, IR, true_and, and_true, Nat.reduceAdd, Nat.reduceSub, eq_self]
  refine ⟨by assumption, fun x57_ h57_ z57_ => ?_⟩
  refine sc_i (D := 1) (fun d' hd' => k_X8_dropSign (by assumption) (by omega) hd') (by omega) ?_
  intro x58_ h58_
  try simp only [s_ald_0, s_gf_10_3, s_is1, tfr_0, tfr_1, tfr_2, tfr_3, tfr_4, s_ic_eq, s_ic, s_goto, LR, IR, true_and, and_true, Nat.reduceAdd, Nat.reduceSub, eq_self]
  refine ⟨by assumption, fun x60_ h60_ z60_ => ?_⟩
  refine sc_i (D := 1) (fun d' hd' => k_X8_dropSign (by assumption) (by omega) hd') (by omega) ?_
  intro x61_ h61_
  try simp only [s_ic_eq, s_ic, s_goto, LR, IR, true_and, and_true, Nat.reduceAdd, Nat.reduceSub, eq_self]
  refine ⟨by omega, fun h62_ => ?_, fun h62_ => ?_⟩
  · refine sT_w ?_
    refine sblk (hv := false) kbl_X8_quotient kbs_X8_quotient (pc := 37) (pe := 38) (rk := 9) (i := 1) rfl (by decide +kernel) ?_
    simp only [kb_X8_quotient_37, s_ic, s_nil, LR, IR, true_and, and_true, Nat.reduceAdd, Nat.reduceSub, eq_self]
    exact sT_w (n38 _ _ _ _ _ _ _ (by omega))
  exact sT_w (n38 _ _ _ _ _ _ _ (by omega))
theorem k_X0_quotient {e : tE} {b : Nat} {d n : Nat} {r : Nat} {x1 : Nat} {x2 : Nat} (h0 : cl r 2) (h1 : cl x1 4) (h2 : cl x2 4) (hb : b < 2) (hd : 3 ≤ d) : sC e b d 518 [.inr (.inr (.inl r)), .inr (.inr (.inl x1)), .inr (.inr (.inl x2))] n (SQi n (fun z => (0 ≤ z ∧ z ≤ 2))) := by
  refine sK (fun M h => tst_X0_quotient h) (fun M0 => ?_)
  refine sblk (hv := false) kbl_X0_quotient kbs_X0_quotient (pc := 0) (pe := 9) (rk := 0) (i := 0) rfl (by decide +kernel) ?_
  simp only [kb_X0_quotient_0, s_ald_2, s_iv0, tfr_0, tfr_1, tfr_2, tfr_3, tfr_4, s_if_eq, s_ic, s_ire, trg, LR, IR, true_and, and_true, Nat.reduceAdd, Nat.reduceSub, eq_self]
  refine ⟨vok_of (s := 4) (by assumption) rfl, ?_⟩
  refine sc_i (D := 1) (fun d' hd' => k_X2_holdsZero (by assumption) hd') (by omega) ?_
  intro x2_ h2_
  try simp only [s_if_eq, s_ic, s_ire, trg, LR, IR, true_and, and_true, Nat.reduceAdd, Nat.reduceSub, eq_self]
  refine ⟨by omega, fun h3_ => ?_, fun h3_ => ?_⟩
  · have n27 : sT e b M0 d 518 27 [] [some (.inr (.inr (.inl r))), some (.inr (.inr (.inl x1))), some (.inr (.inr (.inl x2)))] [] n (fun r n' _ => (SQi n (fun z => (0 ≤ z ∧ z ≤ 2))) r n') := by
      have n56 : ∀ (qs0_56 : Nat) (qs1_56 : Nat) (qs2_56 : Nat), cl qs0_56 3 → cl qs1_56 3 → cl qs2_56 10 → sT e b M0 d 518 56 [] [some (.inr (.inr (.inl r))), some (.inr (.inr (.inl x1))), some (.inr (.inr (.inl x2)))] [.inr (.inr (.inl qs0_56)), .inr (.inr (.inl qs1_56)), .inr (.inr (.inl qs2_56))] n (fun r n' _ => (SQi n (fun z => (0 ≤ z ∧ z ≤ 2))) r n') := by
        intro qs0_56 qs1_56 qs2_56 y56_0 y56_1 y56_2
        have n120 : sT e b M0 d 518 120 [] [some (.inr (.inr (.inl r))), some (.inr (.inr (.inl x1))), some (.inr (.inr (.inl x2)))] [] n (fun r n' _ => (SQi n (fun z => (0 ≤ z ∧ z ≤ 2))) r n') := by
          refine sblk (hv := false) kbl_X0_quotient kbs_X0_quotient (pc := 120) (pe := 152) (rk := 0) (i := 8) rfl (by decide +kernel) ?_
          simp only [kb_X0_quotient_120, s_ald_0, s_gf_2_0, s_gf_2_3, s_gf_2_5, s_iv2, tfr_0, tfr_1, tfr_2, tfr_3, tfr_4, s_ald_1, s_gf_2_2, s_is1, s_ire, trg, LR, IR, true_and, and_true, Nat.reduceAdd, Nat.reduceSub, eq_self]
          refine ⟨by assumption, fun x5_ h5_ => ?_⟩
          refine ⟨by assumption, fun x7_ h7_ => ?_⟩
          refine ⟨by assumption, fun x9_ h9_ => ?_⟩
          refine ⟨vok_of (s := 10) (by assumption) rfl, ?_⟩
          refine sc_n (D := 1) (fun d' hd' => k_X8_tellUp (by assumption) (by assumption) (by omega) (by omega) hd') (by omega) ?_
          intro h10_
          try simp only [s_ald_1, s_ald_0, s_gf_2_2, s_gf_2_3, s_iv2, tfr_0, tfr_1, tfr_2, tfr_3, tfr_4, s_is1, s_ire, trg, LR, IR, true_and, and_true, Nat.reduceAdd, Nat.reduceSub, eq_self]
          refine ⟨by assumption, fun x13_ h13_ => ?_⟩
          refine ⟨by assumption, fun x15_ h15_ => ?_⟩
          refine ⟨vok_of (s := 4) (by assumption) rfl, ?_⟩
          refine sc_n (D := 1) (fun d' hd' => k_X2_between (by assumption) (by assumption) (by assumption) (by omega) hd') (by omega) ?_
          intro h16_
          try simp only [s_ald_1, s_is1, tfr_0, tfr_1, tfr_2, tfr_3, tfr_4, s_ire, trg, LR, IR, true_and, and_true, Nat.reduceAdd, Nat.reduceSub, eq_self]
          refine sc_i (D := 2) (fun d' hd' => k_X0_judged (by assumption) hd') (by omega) ?_
          intro x18_ h18_
          try simp only [s_ire, trg, LR, IR, true_and, and_true, Nat.reduceAdd, Nat.reduceSub, eq_self]
          exact fun _ _ _ _ => ⟨_, rfl, rfl, by omega⟩
        have n88 : sT e b M0 d 518 88 [] [some (.inr (.inr (.inl r))), some (.inr (.inr (.inl x1))), some (.inr (.inr (.inl x2)))] [] n (fun r n' _ => (SQi n (fun z => (0 ≤ z ∧ z ≤ 2))) r n') := by
          have n117 : ∀ (qs0_117 : Nat) (qs1_117 : Nat) (qs2_117 : Nat), cl qs0_117 3 → cl qs1_117 3 → cl qs2_117 10 → sT e b M0 d 518 117 [] [some (.inr (.inr (.inl r))), some (.inr (.inr (.inl x1))), some (.inr (.inr (.inl x2)))] [.inr (.inr (.inl qs0_117)), .inr (.inr (.inl qs1_117)), .inr (.inr (.inl qs2_117))] n (fun r n' _ => (SQi n (fun z => (0 ≤ z ∧ z ≤ 2))) r n') := by
            intro qs0_117 qs1_117 qs2_117 y117_0 y117_1 y117_2
            refine sblk (hv := false) kbl_X0_quotient kbs_X0_quotient (pc := 117) (pe := 120) (rk := 0) (i := 7) rfl (by decide +kernel) ?_
            simp only [kb_X0_quotient_117, s_iv2, tfr_0, tfr_1, tfr_2, tfr_3, tfr_4, s_nil, LR, IR, true_and, and_true, Nat.reduceAdd, Nat.reduceSub, eq_self]
            refine ⟨vok_of (s := 10) (by assumption) rfl, ?_⟩
            refine sc_n (D := 2) (fun d' hd' => k_X8_quotient (by assumption) (by assumption) (by assumption) (by omega) hd') (by omega) ?_
            intro h20_
            try simp only [s_nil, LR, IR, true_and, and_true, Nat.reduceAdd, Nat.reduceSub, eq_self]
            exact sT_w (n120)
          refine sblk (hv := false) kbl_X0_quotient kbs_X0_quotient (pc := 88) (pe := 113) (rk := 0) (i := 5) rfl (by decide +kernel) ?_
          simp only [kb_X0_quotient_88, s_ald_0, s_gf_2_0, s_ald_1, s_gf_4_1, s_iv0, tfr_0, tfr_1, tfr_2, tfr_3, tfr_4, s_if_eq, s_ald_2, s_goto, LR, IR, true_and, and_true, Nat.reduceAdd, Nat.reduceSub, eq_self]
          refine ⟨by assumption, fun x22_ h22_ => ?_⟩
          refine ⟨by assumption, fun x24_ h24_ => ?_⟩
          refine ⟨by assumption, fun x26_ h26_ => ?_⟩
          refine ⟨vok_of (s := 3) (by assumption) rfl, ?_⟩
          refine sc_i (D := 0) (fun d' hd' => k_X1_isNegative (by assumption) hd') (by omega) ?_
          intro x27_ h27_
          try simp only [s_if_eq, s_ald_2, s_gf_4_1, s_goto, LR, IR, true_and, and_true, Nat.reduceAdd, Nat.reduceSub, eq_self]
          refine ⟨by omega, fun h28_ => ?_, fun h28_ => ?_⟩
          · refine sT_w ?_
            refine sblk (hv := false) kbl_X0_quotient kbs_X0_quotient (pc := 113) (pe := 117) (rk := 0) (i := 6) rfl (by decide +kernel) ?_
            simp only [kb_X0_quotient_113, s_ald_2, s_gf_4_0, s_nil, LR, IR, true_and, and_true, Nat.reduceAdd, Nat.reduceSub, eq_self]
            refine ⟨by assumption, fun x30_ h30_ => ?_⟩
            exact sT_w (n117 _ _ _ (by assumption) (by assumption) (by assumption))
          refine ⟨by assumption, fun x32_ h32_ => ?_⟩
          exact sT_w (n117 _ _ _ (by assumption) (by assumption) (by assumption))
        refine sblk (hv := false) kbl_X0_quotient kbs_X0_quotient (pc := 56) (pe := 88) (rk := 0) (i := 4) rfl (by decide +kernel) ?_
        simp only [kb_X0_quotient_56, s_iv2, tfr_0, tfr_1, tfr_2, tfr_3, tfr_4, s_ald_0, s_gf_2_0, s_gf_2_2, s_gf_2_5, s_ald_1, s_iv0, s_if_eq, s_ald_2, s_if_ne, s_nil, LR, IR, true_and, and_true, Nat.reduceAdd, Nat.reduceSub, eq_self]
        refine ⟨vok_of (s := 10) (by assumption) rfl, ?_⟩
        refine sc_n (D := 2) (fun d' hd' => k_X8_quotient (by assumption) (by assumption) (by assumption) (by omega) hd') (by omega) ?_
        intro h34_
        try simp only [s_ald_0, s_gf_2_0, s_gf_2_2, s_gf_2_5, s_iv2, tfr_0, tfr_1, tfr_2, tfr_3, tfr_4, s_ald_1, s_iv0, s_if_eq, s_ald_2, s_if_ne, s_nil, LR, IR, true_and, and_true, Nat.reduceAdd, Nat.reduceSub, eq_self]
        refine ⟨by assumption, fun x36_ h36_ => ?_⟩
        refine ⟨by assumption, fun x38_ h38_ => ?_⟩
        refine ⟨by assumption, fun x40_ h40_ => ?_⟩
        refine ⟨vok_of (s := 10) (by assumption) rfl, ?_⟩
        refine sc_n (D := 1) (fun d' hd' => k_X8_tellDown (by assumption) (by assumption) (by omega) (by omega) hd') (by omega) ?_
        intro h41_
        try simp only [s_ald_1, s_iv0, tfr_0, tfr_1, tfr_2, tfr_3, tfr_4, s_if_eq, s_ald_2, s_if_ne, s_nil, LR, IR, true_and, and_true, Nat.reduceAdd, Nat.reduceSub, eq_self]
        refine ⟨vok_of (s := 4) (by assumption) rfl, ?_⟩
        refine sc_i (D := 2) (fun d' hd' => k_X2_isSingle (by assumption) hd') (by omega) ?_
        intro x43_ h43_
        try simp only [s_if_eq, s_ald_2, s_iv0, tfr_0, tfr_1, tfr_2, tfr_3, tfr_4, s_if_ne, s_nil, LR, IR, true_and, and_true, Nat.reduceAdd, Nat.reduceSub, eq_self]
        refine ⟨by omega, fun h44_ => ?_, fun h44_ => ?_⟩
        · exact sT_w (n88)
        refine ⟨vok_of (s := 4) (by assumption) rfl, ?_⟩
        refine sc_i (D := 2) (fun d' hd' => k_X2_isSingle (by assumption) hd') (by omega) ?_
        intro x46_ h46_
        try simp only [s_if_ne, s_nil, LR, IR, true_and, and_true, Nat.reduceAdd, Nat.reduceSub, eq_self]
        refine ⟨by omega, fun h47_ => ?_, fun h47_ => ?_⟩
        · exact sT_w (n120)
        exact sT_w (n88)
      refine sblk (hv := false) kbl_X0_quotient kbs_X0_quotient (pc := 27) (pe := 52) (rk := 0) (i := 2) rfl (by decide +kernel) ?_
      simp only [kb_X0_quotient_27, s_ald_0, s_gf_2_0, s_ald_1, s_gf_4_0, s_iv0, tfr_0, tfr_1, tfr_2, tfr_3, tfr_4, s_if_eq, s_ald_2, s_goto, LR, IR, true_and, and_true, Nat.reduceAdd, Nat.reduceSub, eq_self]
      refine ⟨by assumption, fun x49_ h49_ => ?_⟩
      refine ⟨by assumption, fun x51_ h51_ => ?_⟩
      refine ⟨by assumption, fun x53_ h53_ => ?_⟩
      refine ⟨vok_of (s := 3) (by assumption) rfl, ?_⟩
      refine sc_i (D := 0) (fun d' hd' => k_X1_isNegative (by assumption) hd') (by omega) ?_
      intro x54_ h54_
      try simp only [s_if_eq, s_ald_2, s_gf_4_0, s_goto, LR, IR, true_and, and_true, Nat.reduceAdd, Nat.reduceSub, eq_self]
      refine ⟨by omega, fun h55_ => ?_, fun h55_ => ?_⟩
      · refine sT_w ?_
        refine sblk (hv := false) kbl_X0_quotient kbs_X0_quotient (pc := 52) (pe := 56) (rk := 0) (i := 3) rfl (by decide +kernel) ?_
        simp only [kb_X0_quotient_52, s_ald_2, s_gf_4_1, s_nil, LR, IR, true_and, and_true, Nat.reduceAdd, Nat.reduceSub, eq_self]
        refine ⟨by assumption, fun x57_ h57_ => ?_⟩
        exact sT_w (n56 _ _ _ (by assumption) (by assumption) (by assumption))
      refine ⟨by assumption, fun x59_ h59_ => ?_⟩
      exact sT_w (n56 _ _ _ (by assumption) (by assumption) (by assumption))
    refine sT_w ?_
    refine sblk (hv := false) kbl_X0_quotient kbs_X0_quotient (pc := 9) (pe := 27) (rk := 0) (i := 1) rfl (by decide +kernel) ?_
    simp only [kb_X0_quotient_9, s_ald_2, s_gf_4_1, s_iv0, tfr_0, tfr_1, tfr_2, tfr_3, tfr_4, s_if_eq, s_ald_1, s_nil, LR, IR, true_and, and_true, Nat.reduceAdd, Nat.reduceSub, eq_self]
    refine ⟨by assumption, fun x62_ h62_ => ?_⟩
    refine ⟨vok_of (s := 3) (by assumption) rfl, ?_⟩
    refine sc_i (D := 0) (fun d' hd' => k_X1_isNegative (by assumption) hd') (by omega) ?_
    intro x63_ h63_
    try simp only [s_if_eq, s_ald_1, s_iv0, tfr_0, tfr_1, tfr_2, tfr_3, tfr_4, s_ald_2, s_nil, LR, IR, true_and, and_true, Nat.reduceAdd, Nat.reduceSub, eq_self]
    refine ⟨by omega, fun h64_ => ?_, fun h64_ => ?_⟩
    · exact sT_w (n27)
    refine ⟨vok_of (s := 4) (by assumption) rfl, ?_⟩
    refine sc_n (D := 1) (fun d' hd' => k_X2_turn (by assumption) (by omega) hd') (by omega) ?_
    intro h66_
    try simp only [s_ald_2, s_iv0, tfr_0, tfr_1, tfr_2, tfr_3, tfr_4, s_nil, LR, IR, true_and, and_true, Nat.reduceAdd, Nat.reduceSub, eq_self]
    refine ⟨vok_of (s := 4) (by assumption) rfl, ?_⟩
    refine sc_n (D := 1) (fun d' hd' => k_X2_turn (by assumption) (by omega) hd') (by omega) ?_
    intro h68_
    try simp only [s_nil, LR, IR, true_and, and_true, Nat.reduceAdd, Nat.reduceSub, eq_self]
    exact sT_w (n27)
  exact fun _ _ _ _ => ⟨_, rfl, rfl, by omega⟩
theorem k_X0_size {e : tE} {b : Nat} {d n : Nat} {r : Nat} {x1 : Nat} (h0 : cl r 2) (h1 : cl x1 4) (hb : b < 2 ∨ b = 3) (hd : 3 ≤ d) : sC e b d 519 [.inr (.inr (.inl r)), .inr (.inr (.inl x1))] n (SQi n (fun z => (z = 0 ∨ z = 2))) := by
  refine sK (fun M h => tst_X0_size h) (fun M0 => ?_)
  refine sblk (hv := false) kbl_X0_size kbs_X0_size (pc := 0) (pe := 17) (rk := 0) (i := 0) rfl (by decide +kernel) ?_
  simp only [kb_X0_size_0, s_ald_1, s_iv0, tfr_0, tfr_1, tfr_2, tfr_3, tfr_4, s_ald_0, s_gf_2_5, s_iv1, s_is1, s_ire, trg, LR, IR, true_and, and_true, Nat.reduceAdd, Nat.reduceSub, eq_self]
  refine ⟨vok_of (s := 4) (by assumption) rfl, ?_⟩
  refine sc_n (D := 2) (fun d' hd' => k_X2_dropSigns (by assumption) (by omega) hd') (by omega) ?_
  intro h2_
  try simp only [s_ald_1, s_ald_0, s_gf_2_5, s_iv1, tfr_0, tfr_1, tfr_2, tfr_3, tfr_4, s_is1, s_ire, trg, LR, IR, true_and, and_true, Nat.reduceAdd, Nat.reduceSub, eq_self]
  refine ⟨by assumption, fun x5_ h5_ => ?_⟩
  refine ⟨vok_of (s := 4) (by assumption) rfl, ?_⟩
  refine sc_n (D := 1) (fun d' hd' => k_X2_roundOut (by assumption) (by omega) (by omega) hd') (by omega) ?_
  intro h6_
  try simp only [s_ald_1, s_is1, tfr_0, tfr_1, tfr_2, tfr_3, tfr_4, s_ire, trg, LR, IR, true_and, and_true, Nat.reduceAdd, Nat.reduceSub, eq_self]
  refine sc_i (D := 2) (fun d' hd' => k_X0_judged (by assumption) hd') (by omega) ?_
  intro x8_ h8_
  try simp only [s_ire, trg, LR, IR, true_and, and_true, Nat.reduceAdd, Nat.reduceSub, eq_self]
  exact fun _ _ _ _ => ⟨_, rfl, rfl, by omega⟩
theorem k_X0_sum {e : tE} {b : Nat} {d n : Nat} {r : Nat} {x1 : Nat} {x2 : Nat} (h0 : cl r 2) (h1 : cl x1 4) (h2 : cl x2 4) (hb : b < 2 ∨ b = 3) (hd : 3 ≤ d) : sC e b d 520 [.inr (.inr (.inl r)), .inr (.inr (.inl x1)), .inr (.inr (.inl x2))] n (SQi n (fun z => (z = 0 ∨ z = 2))) := by
  refine sK (fun M h => tst_X0_sum h) (fun M0 => ?_)
  refine sblk (hv := false) kbl_X0_sum kbs_X0_sum (pc := 0) (pe := 43) (rk := 0) (i := 0) rfl (by decide +kernel) ?_
  simp only [kb_X0_sum_0, s_ald_1, s_gf_4_0, s_ald_2, s_iv2, tfr_0, tfr_1, tfr_2, tfr_3, tfr_4, s_gf_4_1, s_ald_0, s_gf_2_5, s_iv1, s_is1, s_ire, trg, LR, IR, true_and, and_true, Nat.reduceAdd, Nat.reduceSub, eq_self]
  refine ⟨by assumption, fun x2_ h2_ => ?_⟩
  refine ⟨by assumption, fun x4_ h4_ => ?_⟩
  refine ⟨by assumption, fun x6_ h6_ => ?_⟩
  refine ⟨vok_of (s := 3) (by assumption) rfl, ?_⟩
  refine sc_n (D := 0) (fun d' hd' => k_X1_toSum (by assumption) (by assumption) (by assumption) (by omega) hd') (by omega) ?_
  intro h7_
  try simp only [s_ald_1, s_gf_4_1, s_ald_2, s_iv2, tfr_0, tfr_1, tfr_2, tfr_3, tfr_4, s_ald_0, s_gf_2_5, s_iv1, s_is1, s_ire, trg, LR, IR, true_and, and_true, Nat.reduceAdd, Nat.reduceSub, eq_self]
  refine ⟨by assumption, fun x9_ h9_ => ?_⟩
  refine ⟨by assumption, fun x11_ h11_ => ?_⟩
  refine ⟨by assumption, fun x13_ h13_ => ?_⟩
  refine ⟨vok_of (s := 3) (by assumption) rfl, ?_⟩
  refine sc_n (D := 0) (fun d' hd' => k_X1_toSum (by assumption) (by assumption) (by assumption) (by omega) hd') (by omega) ?_
  intro h14_
  try simp only [s_ald_1, s_ald_0, s_gf_2_5, s_iv1, tfr_0, tfr_1, tfr_2, tfr_3, tfr_4, s_is1, s_ire, trg, LR, IR, true_and, and_true, Nat.reduceAdd, Nat.reduceSub, eq_self]
  refine ⟨by assumption, fun x17_ h17_ => ?_⟩
  refine ⟨vok_of (s := 4) (by assumption) rfl, ?_⟩
  refine sc_n (D := 1) (fun d' hd' => k_X2_roundOut (by assumption) (by omega) (by omega) hd') (by omega) ?_
  intro h18_
  try simp only [s_ald_1, s_is1, tfr_0, tfr_1, tfr_2, tfr_3, tfr_4, s_ire, trg, LR, IR, true_and, and_true, Nat.reduceAdd, Nat.reduceSub, eq_self]
  refine sc_i (D := 2) (fun d' hd' => k_X0_judged (by assumption) hd') (by omega) ?_
  intro x20_ h20_
  try simp only [s_ire, trg, LR, IR, true_and, and_true, Nat.reduceAdd, Nat.reduceSub, eq_self]
  exact fun _ _ _ _ => ⟨_, rfl, rfl, by omega⟩
theorem k_X0_told {e : tE} {b : Nat} {d n : Nat} {r : Nat} {x1 : Nat} (h0 : cl r 2) (h1 : cl x1 4) (hb : b < 2 ∨ b = 3) (hd : 2 ≤ d) : sC e b d 524 [.inr (.inr (.inl r)), .inr (.inr (.inl x1))] n (SQi n (fun z => (z = 0 ∨ z = 2))) := by
  refine sK (fun M h => tst_X0_told h) (fun M0 => ?_)
  have n42 : ∀ (is0_42 : Int), (0 ≤ is0_42 ∧ is0_42 ≤ 2) → (is0_42 = 0 ∨ is0_42 = 2) → sT e b M0 d 524 42 [] [some (.inr (.inr (.inl r))), some (.inr (.inr (.inl x1)))] [.inl is0_42] n (fun r n' _ => (SQi n (fun z => (z = 0 ∨ z = 2))) r n') := by
    intro is0_42 y42_0 y42_1
    refine sblk (hv := false) kbl_X0_told kbs_X0_told (pc := 42) (pe := 43) (rk := 0) (i := 2) rfl (by decide +kernel) ?_
    simp only [kb_X0_told_42, s_ire, trg, LR, IR, true_and, and_true, Nat.reduceAdd, Nat.reduceSub, eq_self]
    exact fun _ _ _ _ => ⟨_, rfl, rfl, by omega⟩
  refine sblk (hv := false) kbl_X0_told kbs_X0_told (pc := 0) (pe := 41) (rk := 0) (i := 0) rfl (by decide +kernel) ?_
  simp only [kb_X0_told_0, s_ald_0, s_gf_2_0, s_ald_1, s_gf_4_0, s_gf_2_5, s_iv2, tfr_0, tfr_1, tfr_2, tfr_3, tfr_4, s_gf_4_1, s_iv0, s_if_eq, s_ic, s_goto, LR, IR, true_and, and_true, Nat.reduceAdd, Nat.reduceSub, eq_self]
  refine ⟨by assumption, fun x3_ h3_ => ?_⟩
  refine ⟨by assumption, fun x5_ h5_ => ?_⟩
  refine ⟨by assumption, fun x7_ h7_ => ?_⟩
  refine ⟨vok_of (s := 10) (by assumption) rfl, ?_⟩
  refine sc_n (D := 1) (fun d' hd' => k_X8_tellDown (by assumption) (by assumption) (by omega) (by omega) hd') (by omega) ?_
  intro h8_
  try simp only [s_ald_0, s_gf_2_0, s_ald_1, s_gf_4_1, s_gf_2_5, s_iv2, tfr_0, tfr_1, tfr_2, tfr_3, tfr_4, s_iv0, s_if_eq, s_ic, s_goto, LR, IR, true_and, and_true, Nat.reduceAdd, Nat.reduceSub, eq_self]
  refine ⟨by assumption, fun x10_ h10_ => ?_⟩
  refine ⟨by assumption, fun x12_ h12_ => ?_⟩
  refine ⟨by assumption, fun x14_ h14_ => ?_⟩
  refine ⟨vok_of (s := 10) (by assumption) rfl, ?_⟩
  refine sc_n (D := 1) (fun d' hd' => k_X8_tellUp (by assumption) (by assumption) (by omega) (by omega) hd') (by omega) ?_
  intro h15_
  try simp only [s_ald_1, s_iv0, tfr_0, tfr_1, tfr_2, tfr_3, tfr_4, s_if_eq, s_ic, s_goto, LR, IR, true_and, and_true, Nat.reduceAdd, Nat.reduceSub, eq_self]
  refine ⟨vok_of (s := 4) (by assumption) rfl, ?_⟩
  refine sc_i (D := 1) (fun d' hd' => k_X2_isTooGreat (by assumption) hd') (by omega) ?_
  intro x17_ h17_
  try simp only [s_if_eq, s_ic, s_goto, LR, IR, true_and, and_true, Nat.reduceAdd, Nat.reduceSub, eq_self]
  refine ⟨by omega, fun h18_ => ?_, fun h18_ => ?_⟩
  · refine sT_w ?_
    refine sblk (hv := false) kbl_X0_told kbs_X0_told (pc := 41) (pe := 42) (rk := 0) (i := 1) rfl (by decide +kernel) ?_
    simp only [kb_X0_told_41, s_ic, s_nil, LR, IR, true_and, and_true, Nat.reduceAdd, Nat.reduceSub, eq_self]
    exact sT_w (n42 _ (by omega) (by omega))
  exact sT_w (n42 _ (by omega) (by omega))
theorem k_J9_floorDiv_f86c9 {e : tE} {b : Nat} {d n : Nat} {x1 : Int} {x2 : Int} (h0 : (-9223372036854775808 ≤ x1 ∧ x1 < 9223372036854775808)) (h1 : (x2 ≠ 0 ∧ (-9223372036854775808 ≤ x2 ∧ x2 < 9223372036854775808))) (hd : 0 ≤ d) : sC e b d 4353 [.inr (.inl x1), .inr (.inl x2)] n (SQl n (fun z => (-9223372036854775808 ≤ z ∧ z < 9223372036854775808))) := by
  refine sK (fun M h => tst_J9_floorDiv_f86c9 h) (fun M0 => ?_)
  have n27 : ∀ (l4_27 : Int), (-9223372036854775808 ≤ l4_27 ∧ l4_27 < 9223372036854775808) → sT e b M0 d 4353 27 [] [some (.inr (.inl x1)), none, some (.inr (.inl x2)), none, some (.inr (.inl l4_27)), none] [] n (fun r n' _ => (SQl n (fun z => (-9223372036854775808 ≤ z ∧ z < 9223372036854775808))) r n') := by
    intro l4_27 y27_0
    refine sblk (hv := false) kbl_J9_floorDiv_f86c9 kbs_J9_floorDiv_f86c9 (pc := 27) (pe := 30) (rk := 1) (i := 1) rfl (by decide +kernel) ?_
    simp only [kb_J9_floorDiv_f86c9_27, s_lld4, s_lre, LR, IR, true_and, and_true, Nat.reduceAdd, Nat.reduceSub, eq_self]
    exact fun _ _ _ _ => ⟨_, rfl, rfl, by omega⟩
  refine sblk (hv := false) kbl_J9_floorDiv_f86c9 kbs_J9_floorDiv_f86c9 (pc := 0) (pe := 27) (rk := 1) (i := 0) rfl (by decide +kernel) ?_
  simp only [kb_J9_floorDiv_f86c9_0, s_lld_0, s_lld_2, s_ldiv, s_lst4, tkl_n, tkl_i, tkl_l, tkl_r, s_lxor, s_lc0, s_lcmp, ne_eq, tlc_r, tlc_eq, tlc_lt, tlc_ge, tlc_gt, tlc_le, s_if_ge, s_lld4, s_lmul, s_if_eq, s_lc1, s_lsub, s_lre, LR, IR, true_and, and_true, Nat.reduceAdd, Nat.reduceSub, eq_self]
  refine ⟨by omega, fun x5_ h5_ y5_ => ?_⟩
  clear y5_
  intro x9_ h9_
  refine ⟨by omega, ?_⟩
  refine ⟨fun h12_ => ?_, fun h12_ => ?_⟩
  · exact sT_w (n27 _ (by omega))
  intro x15_ h15_
  refine ⟨by omega, ?_⟩
  refine ⟨fun h18_ => ?_, fun h18_ => ?_⟩
  · exact sT_w (n27 _ (by omega))
  intro x21_ h21_
  exact fun _ _ _ _ => ⟨_, rfl, rfl, by omega⟩
theorem k_J9_floorMod_f86c9 {e : tE} {b : Nat} {d n : Nat} {x1 : Int} {x2 : Int} (h0 : (-9223372036854775808 ≤ x1 ∧ x1 < 9223372036854775808)) (h1 : (x2 ≠ 0 ∧ (-9223372036854775808 ≤ x2 ∧ x2 < 9223372036854775808))) (hd : 0 ≤ d) : sC e b d 4354 [.inr (.inl x1), .inr (.inl x2)] n (SQl n (fun z => (-9223372036854775808 ≤ z ∧ z < 9223372036854775808))) := by
  refine sK (fun M h => tst_J9_floorMod_f86c9 h) (fun M0 => ?_)
  have n25 : ∀ (l4_25 : Int), (-9223372036854775808 ≤ l4_25 ∧ l4_25 < 9223372036854775808) → sT e b M0 d 4354 25 [] [some (.inr (.inl x1)), none, some (.inr (.inl x2)), none, some (.inr (.inl l4_25)), none] [] n (fun r n' _ => (SQl n (fun z => (-9223372036854775808 ≤ z ∧ z < 9223372036854775808))) r n') := by
    intro l4_25 y25_0
    refine sblk (hv := false) kbl_J9_floorMod_f86c9 kbs_J9_floorMod_f86c9 (pc := 25) (pe := 28) (rk := 1) (i := 1) rfl (by decide +kernel) ?_
    simp only [kb_J9_floorMod_f86c9_25, s_lld4, s_lre, LR, IR, true_and, and_true, Nat.reduceAdd, Nat.reduceSub, eq_self]
    exact fun _ _ _ _ => ⟨_, rfl, rfl, by omega⟩
  refine sblk (hv := false) kbl_J9_floorMod_f86c9 kbs_J9_floorMod_f86c9 (pc := 0) (pe := 25) (rk := 1) (i := 0) rfl (by decide +kernel) ?_
  simp only [kb_J9_floorMod_f86c9_0, s_lld_0, s_lld_2, s_lrem, s_lst4, tkl_n, tkl_i, tkl_l, tkl_r, s_lxor, s_lc0, s_lcmp, ne_eq, tlc_r, tlc_eq, tlc_lt, tlc_ge, tlc_gt, tlc_le, s_if_ge, s_lld4, s_if_eq, s_ladd, s_lre, LR, IR, true_and, and_true, Nat.reduceAdd, Nat.reduceSub, eq_self]
  refine ⟨by omega, fun x5_ h5_ => ?_⟩
  intro x9_ h9_
  refine ⟨by omega, ?_⟩
  refine ⟨fun h12_ => ?_, fun h12_ => ?_⟩
  · exact sT_w (n25 _ (by omega))
  refine ⟨by omega, ?_⟩
  refine ⟨fun h16_ => ?_, fun h16_ => ?_⟩
  · exact sT_w (n25 _ (by omega))
  intro x19_ h19_
  exact fun _ _ _ _ => ⟨_, rfl, rfl, by omega⟩
theorem k_X8_take {e : tE} {b : Nat} {d n : Nat} {r : Nat} {x1 : Int} {x2 : Int} (h0 : cl r 10) (h1 : (-9223372036854775808 ≤ x1 ∧ x1 < 9223372036854775808)) (h2 : (-2147483648 ≤ x2 ∧ x2 ≤ 2147483647)) (hb : b < 2) (hd : 1 ≤ d) : sC e b d 2572 [.inr (.inr (.inl r)), .inr (.inl x1), .inl x2] n (SQn n (True)) := by
  refine sK (fun M h => tst_X8_take h) (fun M0 => ?_)
  have n15 : ∀ (w4_15 : Option tV) (w5_15 : Option tV) (w6_15 : Option tV) (w7_15 : Option tV) (w8_15 : Option tV) (w9_15 : Option tV) (w10_15 : Option tV) (w11_15 : Option tV) (w12_15 : Option tV) (is0_15 : Int), (0 ≤ is0_15 ∧ is0_15 ≤ 18) → sT e b M0 d 2572 15 [] [some (.inr (.inr (.inl r))), some (.inr (.inl x1)), none, some (.inl x2), w4_15, w5_15, w6_15, w7_15, w8_15, w9_15, w10_15, w11_15, w12_15] [.inl is0_15] n (fun r n' _ => (SQn n (True)) r n') := by
    intro w4_15 w5_15 w6_15 w7_15 w8_15 w9_15 w10_15 w11_15 w12_15 is0_15 y15_0
    have n107 : ∀ (i4_107 : Int) (l5_107 : Int) (l7_107 : Int) (l9_107 : Int) (w11_107 : Option tV) (w12_107 : Option tV), (0 ≤ i4_107 ∧ i4_107 ≤ 18) → (-9223372036854775808 ≤ l5_107 ∧ l5_107 < 9223372036854775808) → (-9223372036854775808 ≤ l7_107 ∧ l7_107 < 9223372036854775808) → (-9223372036854775808 ≤ l9_107 ∧ l9_107 < 9223372036854775808) → sT e b M0 d 2572 107 [] [some (.inr (.inr (.inl r))), some (.inr (.inl x1)), none, some (.inl x2), some (.inl i4_107), some (.inr (.inl l5_107)), none, some (.inr (.inl l7_107)), none, some (.inr (.inl l9_107)), none, w11_107, w12_107] [] n (fun r n' _ => (SQn n (True)) r n') := by
      intro i4_107 l5_107 l7_107 l9_107 w11_107 w12_107 y107_0 y107_1 y107_2 y107_3
      refine sblk (hv := false) kbl_X8_take kbs_X8_take (pc := 107) (pe := 108) (rk := 9) (i := 7) rfl (by decide +kernel) ?_
      simp only [kb_X8_take_107, s_re, LR, IR, true_and, and_true, Nat.reduceAdd, Nat.reduceSub, eq_self]
      exact fun _ _ _ _ => ⟨rfl, rfl, by first | trivial | omega⟩
    refine sblk (hv := false) kbl_X8_take kbs_X8_take (pc := 15) (pe := 70) (rk := 9) (i := 3) rfl (by decide +kernel) ?_
    simp only [kb_X8_take_15, s_ist4, tkl_n, tkl_i, tkl_l, tkl_r, s_gs, s_ild4, s_la, s_lax, forall_const, s_lst5, s_lld_1, s_lld5, s_is2, tfr_0, tfr_1, tfr_2, tfr_3, tfr_4, s_lst7, s_lst9, s_bi, s_ic_gt, s_ald_0, s_lld7, s_lld9, s_isub, s_lmul, s_ic, s_iv3, s_goto, LR, IR, true_and, and_true, Nat.reduceAdd, Nat.reduceSub, eq_self]
    refine ⟨by omega, fun x5_ h5_ g5_ => ?_⟩
    refine sc_l (D := 0) (fun d' hd' => k_J9_floorDiv_f86c9 (by omega) (by omega) hd') (by omega) ?_
    intro x9_ h9_
    try simp only [s_lst7, tkl_n, tkl_i, tkl_l, tkl_r, s_lld_1, s_lld5, s_is2, tfr_0, tfr_1, tfr_2, tfr_3, tfr_4, s_lst9, s_ild4, s_bi, s_ic_gt, s_ald_0, s_lld7, s_lld9, s_gs, s_isub, s_la, s_lax, forall_const, s_lmul, s_ic, s_iv3, s_goto, LR, IR, true_and, and_true, Nat.reduceAdd, Nat.reduceSub, eq_self]
    refine sc_l (D := 0) (fun d' hd' => k_J9_floorMod_f86c9 (by omega) (by omega) hd') (by omega) ?_
    intro x13_ h13_
    try simp only [s_lst9, tkl_n, tkl_i, tkl_l, tkl_r, s_ild4, s_bi, s_ic_gt, s_ald_0, s_lld7, s_lld9, s_gs, s_isub, s_la, s_lax, forall_const, s_lmul, s_ic, s_iv3, tfr_0, tfr_1, tfr_2, tfr_3, tfr_4, s_goto, LR, IR, true_and, and_true, Nat.reduceAdd, Nat.reduceSub, eq_self]
    refine ⟨by omega, fun h17_ => ?_, fun h17_ => ?_⟩
    · have n104 : ∀ (i4_104 : Int) (l5_104 : Int) (l7_104 : Int) (l9_104 : Int) (l11_104 : Int) (is0_104 : Int) (ls1_104 : Int) (ls2_104 : Int) (qs3_104 : Nat), (11 ≤ i4_104 ∧ i4_104 ≤ 18) → (-9223372036854775808 ≤ l5_104 ∧ l5_104 < 9223372036854775808) → (-9223372036854775808 ≤ l7_104 ∧ l7_104 < 9223372036854775808) → (-9223372036854775808 ≤ l9_104 ∧ l9_104 < 9223372036854775808) → (-9223372036854775808 ≤ l11_104 ∧ l11_104 < 9223372036854775808) → (0 ≤ is0_104 ∧ is0_104 ≤ 1) → (-9223372036854775808 ≤ ls1_104 ∧ ls1_104 < 9223372036854775808) → (-9223372036854775808 ≤ ls2_104 ∧ ls2_104 < 9223372036854775808) → cl qs3_104 10 → sT e b M0 d 2572 104 [] [some (.inr (.inr (.inl r))), some (.inr (.inl x1)), none, some (.inl x2), some (.inl i4_104), some (.inr (.inl l5_104)), none, some (.inr (.inl l7_104)), none, some (.inr (.inl l9_104)), none, some (.inr (.inl l11_104)), none] [.inl is0_104, .inr (.inl ls1_104), .inr (.inl ls2_104), .inr (.inr (.inl qs3_104))] n (fun r n' _ => (SQn n (True)) r n') := by
        intro i4_104 l5_104 l7_104 l9_104 l11_104 is0_104 ls1_104 ls2_104 qs3_104 y104_0 y104_1 y104_2 y104_3 y104_4 y104_5 y104_6 y104_7 y104_8
        refine sblk (hv := false) kbl_X8_take kbs_X8_take (pc := 104) (pe := 107) (rk := 9) (i := 6) rfl (by decide +kernel) ?_
        simp only [kb_X8_take_104, s_iv3, tfr_0, tfr_1, tfr_2, tfr_3, tfr_4, s_nil, LR, IR, true_and, and_true, Nat.reduceAdd, Nat.reduceSub, eq_self]
        refine ⟨vok_of (s := 10) (by assumption) rfl, ?_⟩
        refine sc_n (D := 0) (fun d' hd' => k_X8_assign (by assumption) (by omega) (by omega) (by omega) (by omega) hd') (by omega) ?_
        intro h18_
        try simp only [s_nil, LR, IR, true_and, and_true, Nat.reduceAdd, Nat.reduceSub, eq_self]
        exact sT_w (n107 _ _ _ _ _ _ (by omega) (by omega) (by omega) (by omega))
      refine sT_w ?_
      refine sblk (hv := false) kbl_X8_take kbs_X8_take (pc := 70) (pe := 103) (rk := 9) (i := 4) rfl (by decide +kernel) ?_
      simp only [kb_X8_take_70, s_gs, s_ild4, s_bi, s_isub, s_la, s_lax, forall_const, s_lst11, tkl_n, tkl_i, tkl_l, tkl_r, s_ald_0, s_lld7, s_lld9, s_lld11, s_ldiv, s_lrem, s_lc0, s_lcmp, ne_eq, tlc_r, tlc_eq, tlc_lt, tlc_ge, tlc_gt, tlc_le, s_if_eq, s_ic, s_goto, LR, IR, true_and, and_true, Nat.reduceAdd, Nat.reduceSub, eq_self]
      refine ⟨by omega, fun x23_ h23_ g23_ => ?_⟩
      refine ⟨by omega, fun x29_ h29_ y29_ => ?_⟩
      clear y29_
      refine ⟨by omega, fun x32_ h32_ => ?_⟩
      refine ⟨by omega, ?_⟩
      refine ⟨fun h35_ => ?_, fun h35_ => ?_⟩
      · refine sT_w ?_
        refine sblk (hv := false) kbl_X8_take kbs_X8_take (pc := 103) (pe := 104) (rk := 9) (i := 5) rfl (by decide +kernel) ?_
        simp only [kb_X8_take_103, s_ic, s_nil, LR, IR, true_and, and_true, Nat.reduceAdd, Nat.reduceSub, eq_self]
        exact sT_w (n104 _ _ _ _ _ _ _ _ _ (by omega) (by omega) (by omega) (by omega) (by omega) (by omega) (by omega) (by omega) (by assumption))
      exact sT_w (n104 _ _ _ _ _ _ _ _ _ (by omega) (by omega) (by omega) (by omega) (by omega) (by omega) (by omega) (by omega) (by assumption))
    refine ⟨by omega, fun x46_ h46_ g46_ => ?_⟩
    intro x47_ h47_
    refine ⟨vok_of (s := 10) (by assumption) rfl, ?_⟩
    refine sc_n (D := 0) (fun d' hd' => k_X8_assign (by assumption) (by omega) (by omega) (by omega) (by omega) hd') (by omega) ?_
    intro h49_
    try simp only [s_goto, LR, IR, true_and, and_true, Nat.reduceAdd, Nat.reduceSub, eq_self]
    exact sT_w (n107 _ _ _ _ _ _ (by omega) (by omega) (by omega) (by omega))
  have n10 : ∀ (w4_10 : Option tV) (w5_10 : Option tV) (w6_10 : Option tV) (w7_10 : Option tV) (w8_10 : Option tV) (w9_10 : Option tV) (w10_10 : Option tV) (w11_10 : Option tV) (w12_10 : Option tV), sT e b M0 d 2572 10 [] [some (.inr (.inr (.inl r))), some (.inr (.inl x1)), none, some (.inl x2), w4_10, w5_10, w6_10, w7_10, w8_10, w9_10, w10_10, w11_10, w12_10] [] n (fun r n' _ => (SQn n (True)) r n') := by
    intro w4_10 w5_10 w6_10 w7_10 w8_10 w9_10 w10_10 w11_10 w12_10 
    refine sblk (hv := false) kbl_X8_take kbs_X8_take (pc := 10) (pe := 14) (rk := 9) (i := 1) rfl (by decide +kernel) ?_
    simp only [kb_X8_take_10, s_ic, s_goto, LR, IR, true_and, and_true, Nat.reduceAdd, Nat.reduceSub, eq_self]
    exact sT_w (n15 _ _ _ _ _ _ _ _ _ _ (by omega))
  refine sblk (hv := false) kbl_X8_take kbs_X8_take (pc := 0) (pe := 10) (rk := 9) (i := 0) rfl (by decide +kernel) ?_
  simp only [kb_X8_take_0, s_ild_3, s_if_lt, s_bi, s_ic_le, s_nil, LR, IR, true_and, and_true, Nat.reduceAdd, Nat.reduceSub, eq_self]
  refine ⟨by omega, fun h54_ => ?_, fun h54_ => ?_⟩
  · exact sT_w (n10 _ _ _ _ _ _ _ _ _)
  refine ⟨by omega, fun h57_ => ?_, fun h57_ => ?_⟩
  · refine sT_w ?_
    refine sblk (hv := false) kbl_X8_take kbs_X8_take (pc := 14) (pe := 15) (rk := 9) (i := 2) rfl (by decide +kernel) ?_
    simp only [kb_X8_take_14, s_ild_3, s_nil, LR, IR, true_and, and_true, Nat.reduceAdd, Nat.reduceSub, eq_self]
    exact sT_w (n15 _ _ _ _ _ _ _ _ _ _ (by omega))
  exact sT_w (n10 _ _ _ _ _ _ _ _ _)
theorem k_X0_tellNumber {e : tE} {b : Nat} {d n : Nat} {r : Nat} {x1 : Nat} {x2 : Int} {x3 : Int} (h0 : cl r 2) (h1 : cl x1 4) (h2 : (-9223372036854775808 ≤ x2 ∧ x2 < 9223372036854775808)) (h3 : (-2147483648 ≤ x3 ∧ x3 ≤ 2147483647)) (hb : b < 2) (hd : 3 ≤ d) : sC e b d 522 [.inr (.inr (.inl r)), .inr (.inr (.inl x1)), .inr (.inl x2), .inl x3] n (SQi n (fun z => (z = 0 ∨ z = 2))) := by
  refine sK (fun M h => tst_X0_tellNumber h) (fun M0 => ?_)
  refine sblk (hv := false) kbl_X0_tellNumber kbs_X0_tellNumber (pc := 0) (pe := 16) (rk := 0) (i := 0) rfl (by decide +kernel) ?_
  simp only [kb_X0_tellNumber_0, s_ald_0, s_gf_2_0, s_lld_2, s_ild4, s_iv2, tfr_0, tfr_1, tfr_2, tfr_3, tfr_4, s_ald_1, s_iv1, s_ire, trg, LR, IR, true_and, and_true, Nat.reduceAdd, Nat.reduceSub, eq_self]
  refine ⟨by assumption, fun x2_ h2_ => ?_⟩
  refine ⟨vok_of (s := 10) (by assumption) rfl, ?_⟩
  refine sc_n (D := 1) (fun d' hd' => k_X8_take (by assumption) (by omega) (by omega) (by omega) hd') (by omega) ?_
  intro h5_
  try simp only [s_ald_0, s_ald_1, s_iv1, tfr_0, tfr_1, tfr_2, tfr_3, tfr_4, s_ire, trg, LR, IR, true_and, and_true, Nat.reduceAdd, Nat.reduceSub, eq_self]
  refine ⟨vok_of (s := 2) (by assumption) rfl, ?_⟩
  refine sc_i (D := 2) (fun d' hd' => k_X0_told (by assumption) (by assumption) (by omega) hd') (by omega) ?_
  intro x8_ h8_
  try simp only [s_ire, trg, LR, IR, true_and, and_true, Nat.reduceAdd, Nat.reduceSub, eq_self]
  exact fun _ _ _ _ => ⟨_, rfl, rfl, by omega⟩
theorem k_X2_copy {e : tE} {b : Nat} {d n : Nat} {r : Nat} {x1 : Nat} (h0 : cl r 4) (h1 : cl x1 4) (hb : b < 2 ∨ b = 3) (hd : 1 ≤ d) : sC e b d 1026 [.inr (.inr (.inl r)), .inr (.inr (.inl x1))] n (SQn n (True)) := by
  refine sK (fun M h => tst_X2_copy h) (fun M0 => ?_)
  refine sblk (hv := false) kbl_X2_copy kbs_X2_copy (pc := 0) (pe := 23) (rk := 9) (i := 0) rfl (by decide +kernel) ?_
  simp only [kb_X2_copy_0, s_ald_0, s_gf_4_0, s_ald_1, s_iv1, tfr_0, tfr_1, tfr_2, tfr_3, tfr_4, s_gf_4_1, s_re, LR, IR, true_and, and_true, Nat.reduceAdd, Nat.reduceSub, eq_self]
  refine ⟨by assumption, fun x2_ h2_ => ?_⟩
  refine ⟨by assumption, fun x4_ h4_ => ?_⟩
  refine ⟨vok_of (s := 3) (by assumption) rfl, ?_⟩
  refine sc_n (D := 0) (fun d' hd' => k_X1_copy (by assumption) (by assumption) (by omega) hd') (by omega) ?_
  intro h5_
  try simp only [s_ald_0, s_gf_4_1, s_ald_1, s_iv1, tfr_0, tfr_1, tfr_2, tfr_3, tfr_4, s_re, LR, IR, true_and, and_true, Nat.reduceAdd, Nat.reduceSub, eq_self]
  refine ⟨by assumption, fun x7_ h7_ => ?_⟩
  refine ⟨by assumption, fun x9_ h9_ => ?_⟩
  refine ⟨vok_of (s := 3) (by assumption) rfl, ?_⟩
  refine sc_n (D := 0) (fun d' hd' => k_X1_copy (by assumption) (by assumption) (by omega) hd') (by omega) ?_
  intro h10_
  try simp only [s_re, LR, IR, true_and, and_true, Nat.reduceAdd, Nat.reduceSub, eq_self]
  exact fun _ _ _ _ => ⟨rfl, rfl, by first | trivial | omega⟩
theorem k_X5_isPair {e : tE} {b : Nat} {d n : Nat} {x1 : Int} (h0 : (0 ≤ x1 ∧ x1 ≤ 65535)) (hd : 0 ≤ d) : sC e b d 1799 [.inl x1] n (SQi n (fun z => (0 ≤ z ∧ z ≤ 1))) := by
  refine sK (fun M h => tst_X5_isPair h) (fun M0 => ?_)
  have n29 : ∀ (is0_29 : Int), (0 ≤ x1 ∧ x1 ≤ 65535) → (0 ≤ is0_29 ∧ is0_29 ≤ 1) → sT e b M0 d 1799 29 [] [some (.inl x1)] [.inl is0_29] n (fun r n' _ => (SQi n (fun z => (0 ≤ z ∧ z ≤ 1))) r n') := by
    intro is0_29 y29_0 y29_1
    refine sblk (hv := false) kbl_X5_isPair kbs_X5_isPair (pc := 29) (pe := 30) (rk := 3) (i := 3) rfl (by decide +kernel) ?_
    simp only [kb_X5_isPair_29, s_ire, trg, LR, IR, true_and, and_true, Nat.reduceAdd, Nat.reduceSub, eq_self]
    exact ⟨by omega, fun _ _ _ _ => ⟨_, rfl, rfl, by omega⟩⟩
  have n24 : (42 ≤ x1 ∧ x1 ≤ 47) → sT e b M0 d 1799 24 [] [some (.inl x1)] [] n (fun r n' _ => (SQi n (fun z => (0 ≤ z ∧ z ≤ 1))) r n') := by
    intro  y24_0
    refine sblk (hv := false) kbl_X5_isPair kbs_X5_isPair (pc := 24) (pe := 28) (rk := 3) (i := 1) rfl (by decide +kernel) ?_
    simp only [kb_X5_isPair_24, s_ic, s_goto, LR, IR, true_and, and_true, Nat.reduceAdd, Nat.reduceSub, eq_self]
    exact sT_w (n29 _ (by omega) (by omega))
  refine sblk (hv := false) kbl_X5_isPair kbs_X5_isPair (pc := 0) (pe := 24) (rk := 3) (i := 0) rfl (by decide +kernel) ?_
  simp only [kb_X5_isPair_0, s_ild_0, s_bi, s_ic_eq, s_ic_ne, s_nil, LR, IR, true_and, and_true, Nat.reduceAdd, Nat.reduceSub, eq_self]
  refine ⟨by omega, fun h6_ => ?_, fun h6_ => ?_⟩
  · exact sT_w (n24 (by omega))
  refine ⟨by omega, fun h9_ => ?_, fun h9_ => ?_⟩
  · exact sT_w (n24 (by omega))
  refine ⟨by omega, fun h12_ => ?_, fun h12_ => ?_⟩
  · exact sT_w (n24 (by omega))
  refine ⟨by omega, fun h15_ => ?_, fun h15_ => ?_⟩
  · refine sT_w ?_
    refine sblk (hv := false) kbl_X5_isPair kbs_X5_isPair (pc := 28) (pe := 29) (rk := 3) (i := 2) rfl (by decide +kernel) ?_
    simp only [kb_X5_isPair_28, s_ic, s_nil, LR, IR, true_and, and_true, Nat.reduceAdd, Nat.reduceSub, eq_self]
    exact sT_w (n29 _ (by omega) (by omega))
  exact sT_w (n24 (by omega))
theorem k_X6_at {e : tE} {b : Nat} {d n : Nat} {r : Nat} {x1 : Int} (h0 : cl r 8) (h1 : (-2 ≤ x1 ∧ x1 ≤ 127)) (hd : 0 ≤ d) : sC e b d 2051 [.inr (.inr (.inl r)), .inl x1] n (SQr n (fun z => cl z 4)) := by
  refine sK (fun M h => tst_X6_at h) (fun M0 => ?_)
  have n20 : ∀ (is0_20 : Int) (qs1_20 : Nat), (-2 ≤ x1 ∧ x1 ≤ 127) → (0 ≤ is0_20 ∧ is0_20 ≤ 127) → cl qs1_20 25 → sT e b M0 d 2051 20 [] [some (.inr (.inr (.inl r))), some (.inl x1)] [.inl is0_20, .inr (.inr (.inl qs1_20))] n (fun r n' _ => (SQr n (fun z => cl z 4)) r n') := by
    intro is0_20 qs1_20 y20_0 y20_1 y20_2
    refine sblk (hv := false) kbl_X6_at kbs_X6_at (pc := 20) (pe := 22) (rk := 2) (i := 3) rfl (by decide +kernel) ?_
    simp only [kb_X6_at_20, s_aa, s_are, LR, IR, true_and, and_true, Nat.reduceAdd, Nat.reduceSub, eq_self]
    refine Or.inl ⟨aok_25 (by assumption) (by omega), fun x1_ h1_ => ?_⟩
    exact fun _ _ _ _ => ⟨_, rfl, rfl, by assumption⟩
  have n15 : ∀ (qs0_15 : Nat), (-2 ≤ x1 ∧ x1 ≤ -1) → cl qs0_15 25 → sT e b M0 d 2051 15 [] [some (.inr (.inr (.inl r))), some (.inl x1)] [.inr (.inr (.inl qs0_15))] n (fun r n' _ => (SQr n (fun z => cl z 4)) r n') := by
    intro qs0_15 y15_0 y15_1
    refine sblk (hv := false) kbl_X6_at kbs_X6_at (pc := 15) (pe := 19) (rk := 2) (i := 1) rfl (by decide +kernel) ?_
    simp only [kb_X6_at_15, s_ic, s_goto, LR, IR, true_and, and_true, Nat.reduceAdd, Nat.reduceSub, eq_self]
    exact sT_w (n20 _ _ (by omega) (by omega) (by assumption))
  refine sblk (hv := false) kbl_X6_at kbs_X6_at (pc := 0) (pe := 15) (rk := 2) (i := 0) rfl (by decide +kernel) ?_
  simp only [kb_X6_at_0, s_ald_0, s_gf_8_1, s_ild_1, s_if_lt, s_si, s_ic_lt, s_nil, LR, IR, true_and, and_true, Nat.reduceAdd, Nat.reduceSub, eq_self]
  refine ⟨by assumption, fun x6_ h6_ => ?_⟩
  refine ⟨by omega, fun h8_ => ?_, fun h8_ => ?_⟩
  · exact sT_w (n15 _ (by omega) (by assumption))
  refine ⟨by omega, fun h11_ => ?_, fun h11_ => ?_⟩
  · refine sT_w ?_
    refine sblk (hv := false) kbl_X6_at kbs_X6_at (pc := 19) (pe := 20) (rk := 2) (i := 2) rfl (by decide +kernel) ?_
    simp only [kb_X6_at_19, s_ild_1, s_nil, LR, IR, true_and, and_true, Nat.reduceAdd, Nat.reduceSub, eq_self]
    exact sT_w (n20 _ _ (by omega) (by omega) (by assumption))
  exact sT_w (n15 _ (by omega) (by assumption))
theorem k_X6_push {e : tE} {b : Nat} {d n : Nat} {r : Nat} {x1 : Nat} (h0 : cl r 8) (h1 : cl x1 4) (hb : b < 2) (hd : 2 ≤ d) : sC e b d 2061 [.inr (.inr (.inl r)), .inr (.inr (.inl x1))] n (SQn n (True)) := by
  refine sK (fun M h => tst_X6_push h) (fun M0 => ?_)
  have n33 : sT e b M0 d 2061 33 [] [some (.inr (.inr (.inl r))), some (.inr (.inr (.inl x1)))] [] n (fun r n' _ => (SQn n (True)) r n') := by
    refine sblk (hv := false) kbl_X6_push kbs_X6_push (pc := 33) (pe := 34) (rk := 9) (i := 1) rfl (by decide +kernel) ?_
    simp only [kb_X6_push_33, s_re, LR, IR, true_and, and_true, Nat.reduceAdd, Nat.reduceSub, eq_self]
    exact fun _ _ _ _ => ⟨rfl, rfl, by first | trivial | omega⟩
  refine sblk (hv := false) kbl_X6_push kbs_X6_push (pc := 0) (pe := 33) (rk := 9) (i := 0) rfl (by decide +kernel) ?_
  simp only [kb_X6_push_0, s_ald_0, s_gf_8_2, s_si, s_ic_ge, s_gf_8_1, s_aa, s_ald_1, s_iv1, tfr_0, tfr_1, tfr_2, tfr_3, tfr_4, s_dupi, s_dupr, s_ic, s_iadd, s_pf_8_2, s_nil, LR, IR, true_and, and_true, Nat.reduceAdd, Nat.reduceSub, eq_self]
  refine ⟨by assumption, fun x3_ h3_ g3_ k3_ => ?_⟩
  simp (disch := decide) only [gk, gd, eq_self, true_imp_iff, false_imp_iff, and_true, true_and, Nat.reduceEqDiff, reduceIte, reduceCtorEq, ne_eq, not_false_eq_true] at k3_
  refine ⟨by omega, fun h5_ => ?_, fun h5_ => ?_⟩
  · exact sT_w (n33)
  refine ⟨by assumption, fun x7_ h7_ => ?_⟩
  refine ⟨by assumption, fun x9_ h9_ g9_ k9_ => ?_⟩
  simp (disch := decide) only [gk, gd, eq_self, true_imp_iff, false_imp_iff, and_true, true_and, Nat.reduceEqDiff, reduceIte, reduceCtorEq, ne_eq, not_false_eq_true] at k9_
  refine Or.inl ⟨aok_25 (by assumption) (by omega), fun x10_ h10_ => ?_⟩
  refine ⟨vok_of (s := 4) (by assumption) rfl, ?_⟩
  refine s3_n (D := 1) (fun d' hd' => k_X2_copy (by assumption) (by assumption) (by omega) hd') (by omega) (by omega) (by repeat' first | exact trivial | exact ne3 (by assumption) (by decide) | refine ⟨?_, ?_⟩) ?_
  intro h12_
  try simp only [s_ald_0, s_dupi, s_dupr, s_gf_8_2, s_ic, s_iadd, s_pf_8_2, s_nil, LR, IR, true_and, and_true, Nat.reduceAdd, Nat.reduceSub, eq_self]
  refine ⟨by assumption, fun x15_ h15_ g15_ k15_ => ?_⟩
  simp (disch := decide) only [gk, gd, eq_self, true_imp_iff, false_imp_iff, and_true, true_and, Nat.reduceEqDiff, reduceIte, reduceCtorEq, ne_eq, not_false_eq_true] at k15_
  refine ⟨by omega, by assumption, by omega, ?_⟩
  exact sT_w (n33)
theorem k_X9_isShelf {e : tE} {b : Nat} {d n : Nat} {r : Nat} {x1 : Int} (h0 : cl r 11) (h1 : (-2147483648 ≤ x1 ∧ x1 ≤ 2147483647)) (hd : 0 ≤ d) : sC e b d 2820 [.inr (.inr (.inl r)), .inl x1] n (SQi n (fun z => (0 ≤ z ∧ z ≤ 1) ∧ (z = 1 → (0 ≤ x1 ∧ x1 ≤ 9)))) := by
  refine sK (fun M h => tst_X9_isShelf h) (fun M0 => ?_)
  have n15 : ∀ (is0_15 : Int), (0 ≤ is0_15 ∧ is0_15 ≤ 1) → (is0_15 = 1 → 0 ≤ x1 ∧ x1 ≤ 9) → sT e b M0 d 2820 15 [] [some (.inr (.inr (.inl r))), some (.inl x1)] [.inl is0_15] n (fun r n' _ => (SQi n (fun z => (0 ≤ z ∧ z ≤ 1) ∧ (z = 1 → (0 ≤ x1 ∧ x1 ≤ 9)))) r n') := by
    intro is0_15 y15_0 y15_1
    refine sblk (hv := false) kbl_X9_isShelf kbs_X9_isShelf (pc := 15) (pe := 16) (rk := 3) (i := 2) rfl (by decide +kernel) ?_
    simp only [kb_X9_isShelf_15, s_ire, trg, LR, IR, true_and, and_true, Nat.reduceAdd, Nat.reduceSub, eq_self]
    exact ⟨by omega, fun _ _ _ _ => ⟨_, rfl, rfl, by omega⟩⟩
  have n14 : sT e b M0 d 2820 14 [] [some (.inr (.inr (.inl r))), some (.inl x1)] [] n (fun r n' _ => (SQi n (fun z => (0 ≤ z ∧ z ≤ 1) ∧ (z = 1 → (0 ≤ x1 ∧ x1 ≤ 9)))) r n') := by
    refine sblk (hv := false) kbl_X9_isShelf kbs_X9_isShelf (pc := 14) (pe := 15) (rk := 3) (i := 1) rfl (by decide +kernel) ?_
    simp only [kb_X9_isShelf_14, s_ic, s_nil, LR, IR, true_and, and_true, Nat.reduceAdd, Nat.reduceSub, eq_self]
    exact sT_w (n15 _ (by omega) (by omega))
  refine sblk (hv := false) kbl_X9_isShelf kbs_X9_isShelf (pc := 0) (pe := 14) (rk := 3) (i := 0) rfl (by decide +kernel) ?_
  simp only [kb_X9_isShelf_0, s_ild_1, s_if_lt, s_bi, s_ic_ge, s_ic, s_goto, LR, IR, true_and, and_true, Nat.reduceAdd, Nat.reduceSub, eq_self]
  refine ⟨by omega, fun h4_ => ?_, fun h4_ => ?_⟩
  · exact sT_w (n14)
  refine ⟨by omega, fun h7_ => ?_, fun h7_ => ?_⟩
  · exact sT_w (n14)
  exact sT_w (n15 _ (by omega) (by omega))
theorem k_X9_box {e : tE} {b : Nat} {d n : Nat} {r : Nat} {x1 : Int} (h0 : cl r 11) (h1 : (-2147483648 ≤ x1 ∧ x1 ≤ 2147483647)) (hd : 1 ≤ d) : sC e b d 2817 [.inr (.inr (.inl r)), .inl x1] n (SQr n (fun z => cl z 4)) := by
  refine sK (fun M h => tst_X9_box h) (fun M0 => ?_)
  have n17 : ∀ (is0_17 : Int) (qs1_17 : Nat), (-2147483648 ≤ is0_17 ∧ is0_17 ≤ 2147483647) → cl qs1_17 16 → (0 ≤ is0_17 ∧ is0_17 ≤ 9) → sT e b M0 d 2817 17 [] [some (.inr (.inr (.inl r))), some (.inl x1)] [.inl is0_17, .inr (.inr (.inl qs1_17))] n (fun r n' _ => (SQr n (fun z => cl z 4)) r n') := by
    intro is0_17 qs1_17 y17_0 y17_1 y17_2
    refine sblk (hv := false) kbl_X9_box kbs_X9_box (pc := 17) (pe := 19) (rk := 2) (i := 2) rfl (by decide +kernel) ?_
    simp only [kb_X9_box_17, s_aa, s_are, LR, IR, true_and, and_true, Nat.reduceAdd, Nat.reduceSub, eq_self]
    refine Or.inl ⟨aok_16 (by assumption) (by omega), fun x1_ h1_ => ?_⟩
    exact fun _ _ _ _ => ⟨_, rfl, rfl, by assumption⟩
  refine sblk (hv := false) kbl_X9_box kbs_X9_box (pc := 0) (pe := 16) (rk := 2) (i := 0) rfl (by decide +kernel) ?_
  simp only [kb_X9_box_0, s_ald_0, s_gf_11_0, s_ild_1, s_iv1, tfr_0, tfr_1, tfr_2, tfr_3, tfr_4, s_if_eq, s_goto, LR, IR, true_and, and_true, Nat.reduceAdd, Nat.reduceSub, eq_self]
  refine ⟨by assumption, fun x4_ h4_ => ?_⟩
  refine ⟨vok_of (s := 11) (by assumption) rfl, ?_⟩
  refine sc_i (D := 0) (fun d' hd' => k_X9_isShelf (by assumption) (by omega) hd') (by omega) ?_
  intro x7_ h7_
  try simp only [s_if_eq, s_ild_1, s_goto, LR, IR, true_and, and_true, Nat.reduceAdd, Nat.reduceSub, eq_self]
  refine ⟨by omega, fun h8_ => ?_, fun h8_ => ?_⟩
  · refine sT_w ?_
    refine sblk (hv := false) kbl_X9_box kbs_X9_box (pc := 16) (pe := 17) (rk := 2) (i := 1) rfl (by decide +kernel) ?_
    simp only [kb_X9_box_16, s_ic, s_nil, LR, IR, true_and, and_true, Nat.reduceAdd, Nat.reduceSub, eq_self]
    exact sT_w (n17 _ _ (by omega) (by assumption) (by omega))
  exact sT_w (n17 _ _ (by omega) (by assumption) (by omega))
theorem k_X6_result {e : tE} {b : Nat} {d n : Nat} {r : Nat} (h0 : cl r 8) (hd : 1 ≤ d) : sC e b d 2063 [.inr (.inr (.inl r))] n (SQr n (fun z => cl z 4)) := by
  refine sK (fun M h => tst_X6_result h) (fun M0 => ?_)
  refine sblk (hv := false) kbl_X6_result kbs_X6_result (pc := 0) (pe := 11) (rk := 2) (i := 0) rfl (by decide +kernel) ?_
  simp only [kb_X6_result_0, s_ald_0, s_gf_8_2, s_ic, s_isub, s_iv1, tfr_0, tfr_1, tfr_2, tfr_3, tfr_4, s_are, LR, IR, true_and, and_true, Nat.reduceAdd, Nat.reduceSub, eq_self]
  refine ⟨by assumption, fun x3_ h3_ g3_ k3_ => ?_⟩
  clear k3_
  refine ⟨vok_of (s := 8) (by assumption) rfl, ?_⟩
  refine sc_r (D := 0) (fun d' hd' => k_X6_at (by assumption) (by omega) hd') (by omega) ?_
  intro x6_ h6_
  try simp only [s_are, LR, IR, true_and, and_true, Nat.reduceAdd, Nat.reduceSub, eq_self]
  exact fun _ _ _ _ => ⟨_, rfl, rfl, by assumption⟩
theorem k_X11_checkStatus {e : tE} {b : Nat} {d n : Nat} {r : Nat} {x1 : Int} (h0 : cl r 13) (h1 : (0 ≤ x1 ∧ x1 ≤ 2)) (hd : 0 ≤ d) : sC e b d 3346 [.inr (.inr (.inl r)), .inl x1] n (SQx n (SQn n (True)) (fun s => (x1 = 1 ∧ s = "java/lang/ArithmeticException") ∨ ((x1 ≠ 0 ∧ x1 ≠ 1) ∧ s = "java/lang/IllegalStateException"))) := by
  refine sK (fun M h => tst_X11_checkStatus h) (fun M0 => ?_)
  refine sblk (hv := false) kbl_X11_checkStatus kbs_X11_checkStatus (pc := 0) (pe := 8) (rk := 9) (i := 0) rfl (by decide +kernel) ?_
  simp only [kb_X11_checkStatus_0, s_ild_1, s_ic, s_ic_ne, s_new, LR, IR, true_and, and_true, Nat.reduceAdd, Nat.reduceSub, eq_self]
  refine ⟨by omega, fun h3_ => ?_, fun h3_ => ?_⟩
  · refine sT_w ?_
    refine sblk (hv := false) kbl_X11_checkStatus kbs_X11_checkStatus (pc := 16) (pe := 23) (rk := 9) (i := 2) rfl (by decide +kernel) ?_
    simp only [kb_X11_checkStatus_16, s_ild_1, s_if_eq, s_new, LR, IR, true_and, and_true, Nat.reduceAdd, Nat.reduceSub, eq_self]
    refine ⟨by omega, fun h5_ => ?_, fun h5_ => ?_⟩
    · refine sT_w ?_
      refine sblk (hv := false) kbl_X11_checkStatus kbs_X11_checkStatus (pc := 31) (pe := 32) (rk := 9) (i := 4) rfl (by decide +kernel) ?_
      simp only [kb_X11_checkStatus_31, s_re, LR, IR, true_and, and_true, Nat.reduceAdd, Nat.reduceSub, eq_self]
      exact fun _ _ _ _ => Or.inl ⟨rfl, rfl, by first | trivial | omega⟩
    exact fun _ _ _ _ => Or.inr ⟨_, rfl, rfl, Or.inr (⟨by omega, rfl⟩)⟩
  exact fun _ _ _ _ => Or.inr ⟨_, rfl, rfl, Or.inl (⟨by omega, rfl⟩)⟩
theorem k_X9_fill {e : tE} {b : Nat} {d n : Nat} {r : Nat} {x1 : Int} {x2 : Nat} (h0 : cl r 11) (h1 : (-2147483648 ≤ x1 ∧ x1 ≤ 2147483647)) (h2 : cl x2 4) (hb : b < 2) (hd : 2 ≤ d) : sC e b d 2818 [.inr (.inr (.inl r)), .inl x1, .inr (.inr (.inl x2))] n (SQn n (True)) := by
  refine sK (fun M h => tst_X9_fill h) (fun M0 => ?_)
  refine sblk (hv := false) kbl_X9_fill kbs_X9_fill (pc := 0) (pe := 9) (rk := 9) (i := 0) rfl (by decide +kernel) ?_
  simp only [kb_X9_fill_0, s_ald_0, s_ild_1, s_iv1, tfr_0, tfr_1, tfr_2, tfr_3, tfr_4, s_if_ne, s_re, LR, IR, true_and, and_true, Nat.reduceAdd, Nat.reduceSub, eq_self]
  refine ⟨vok_of (s := 11) (by assumption) rfl, ?_⟩
  refine sp_i (D := 0) (fun d' hd' => k_X9_isShelf (by assumption) (by omega) hd') (by omega) ?_
  intro x3_ h3_
  try simp only [s_if_ne, s_re, LR, IR, true_and, and_true, Nat.reduceAdd, Nat.reduceSub, eq_self]
  refine ⟨by omega, fun h4_ => ?_, fun h4_ => ?_⟩
  · have n57 : ∀ (i3_57 : Int), (0 ≤ i3_57 ∧ i3_57 ≤ 11) → sT e b M0 d 2818 57 [] [some (.inr (.inr (.inl r))), some (.inl x1), some (.inr (.inr (.inl x2))), some (.inl i3_57)] [] n (fun r n' _ => (SQn n (True)) r n') := by
      intro i3_57 y57_0
      refine sblk (hv := false) kbl_X9_fill kbs_X9_fill (pc := 57) (pe := 109) (rk := 9) (i := 3) rfl (by decide +kernel) ?_
      simp only [kb_X9_fill_57, s_ald_0, s_gf_11_4, s_ild_3, s_ild_1, s_ias, s_gf_11_3, s_gf_11_1, s_ba, s_bas, s_gf_11_2, s_aa, s_gf_11_0, s_iv1, tfr_0, tfr_1, tfr_2, tfr_3, tfr_4, s_ald_2, s_ic, s_re, LR, IR, true_and, and_true, Nat.reduceAdd, Nat.reduceSub, eq_self]
      refine ⟨by assumption, fun x6_ h6_ => ?_⟩
      refine ⟨by omega, aok_20 (by assumption) (by omega), ars_20 (by assumption) (by omega), n26_20 (by assumption), ?_⟩
      refine ⟨by assumption, fun x11_ h11_ => ?_⟩
      refine ⟨by assumption, fun x14_ h14_ => ?_⟩
      refine ⟨aok_17 (by assumption) (by omega), fun x16_ g16_ => ?_⟩
      have h16_ := arg_17 (by assumption) g16_
      clear g16_
      refine ⟨by omega, aok_19 (by assumption) (by omega), ars_19 (by assumption) (by omega), n26_19 (by assumption), ?_⟩
      refine ⟨by assumption, fun x19_ h19_ => ?_⟩
      refine Or.inl ⟨aok_18 (by assumption) (by omega), fun x21_ h21_ => ?_⟩
      refine ⟨by assumption, fun x23_ h23_ => ?_⟩
      refine Or.inl ⟨aok_16 (by assumption) (by omega), fun x25_ h25_ => ?_⟩
      refine ⟨vok_of (s := 4) (by assumption) rfl, ?_⟩
      refine s3_n (D := 1) (fun d' hd' => k_X2_copy (by assumption) (by assumption) (by omega) hd') (by omega) (by omega) (by repeat' first | exact trivial | exact ne3 (by assumption) (by decide) | refine ⟨?_, ?_⟩) ?_
      intro h26_
      try simp only [s_ald_0, s_gf_11_0, s_ild_1, s_aa, s_ald_2, s_iv1, tfr_0, tfr_1, tfr_2, tfr_3, tfr_4, s_gf_11_1, s_ic, s_bas, s_re, LR, IR, true_and, and_true, Nat.reduceAdd, Nat.reduceSub, eq_self]
      refine ⟨by assumption, fun x28_ h28_ => ?_⟩
      refine Or.inl ⟨aok_16 (by assumption) (by omega), fun x30_ h30_ => ?_⟩
      refine ⟨vok_of (s := 4) (by assumption) rfl, ?_⟩
      refine s3_n (D := 1) (fun d' hd' => k_X2_copy (by assumption) (by assumption) (by omega) hd') (by omega) (by omega) (by repeat' first | exact trivial | exact ne3 (by assumption) (by decide) | refine ⟨?_, ?_⟩) ?_
      intro h32_
      try simp only [s_ald_0, s_gf_11_1, s_ild_1, s_ic, s_bas, s_re, LR, IR, true_and, and_true, Nat.reduceAdd, Nat.reduceSub, eq_self]
      refine ⟨by assumption, fun x34_ h34_ => ?_⟩
      refine ⟨by omega, aok_17 (by assumption) (by omega), ars_17 (by assumption) (by omega), n26_17 (by assumption), ?_⟩
      exact fun _ _ _ _ => ⟨rfl, rfl, by first | trivial | omega⟩
    refine sblk (hv := false) kbl_X9_fill kbs_X9_fill (pc := 9) (pe := 47) (rk := 9) (i := 1) rfl (by decide +kernel) ?_
    simp only [kb_X9_fill_9, s_ald_0, s_gf_11_5, s_gf_11_6, s_iadd, s_bi, s_irem, s_ist_3, tkl_n, tkl_i, tkl_l, tkl_r, s_ic_ne, s_ic, s_pf_11_5, s_goto, LR, IR, true_and, and_true, Nat.reduceAdd, Nat.reduceSub, eq_self]
    refine ⟨by assumption, fun x40_ h40_ g40_ k40_ => ?_⟩
    simp (disch := decide) only [gk, gd, eq_self, true_imp_iff, false_imp_iff, and_true, true_and, Nat.reduceEqDiff, reduceIte, reduceCtorEq, ne_eq, not_false_eq_true] at k40_
    refine ⟨by assumption, fun x42_ h42_ g42_ k42_ => ?_⟩
    simp (disch := decide) only [gk, gd, eq_self, true_imp_iff, false_imp_iff, and_true, true_and, Nat.reduceEqDiff, reduceIte, reduceCtorEq, ne_eq, not_false_eq_true] at k42_
    refine ⟨by omega, fun x45_ h45_ g45_ => ?_⟩
    refine ⟨by assumption, fun x48_ h48_ g48_ k48_ => ?_⟩
    simp (disch := decide) only [gk, gd, eq_self, true_imp_iff, false_imp_iff, and_true, true_and, Nat.reduceEqDiff, reduceIte, reduceCtorEq, ne_eq, not_false_eq_true] at k48_
    refine ⟨by omega, fun h50_ => ?_, fun h50_ => ?_⟩
    · refine sblk (hv := false) kbl_X9_fill kbs_X9_fill (pc := 47) (pe := 57) (rk := 9) (i := 2) rfl (by decide +kernel) ?_
      simp only [kb_X9_fill_47, s_ald_0, s_dupi, s_dupr, s_gf_11_6, s_ic, s_iadd, s_pf_11_6, s_nil, LR, IR, true_and, and_true, Nat.reduceAdd, Nat.reduceSub, eq_self]
      refine ⟨by assumption, fun x53_ h53_ g53_ k53_ => ?_⟩
      simp (disch := decide) only [gk, gd, eq_self, true_imp_iff, false_imp_iff, and_true, true_and, Nat.reduceEqDiff, reduceIte, reduceCtorEq, ne_eq, not_false_eq_true] at k53_
      refine ⟨by omega, by assumption, by omega, ?_⟩
      exact sT_w (n57 _ (by omega))
    refine ⟨by assumption, fun x59_ h59_ g59_ k59_ => ?_⟩
    simp (disch := decide) only [gk, gd, eq_self, true_imp_iff, false_imp_iff, and_true, true_and, Nat.reduceEqDiff, reduceIte, reduceCtorEq, ne_eq, not_false_eq_true] at k59_
    refine ⟨by omega, fun x63_ h63_ g63_ => ?_⟩
    refine ⟨by omega, by assumption, by omega, ?_⟩
    exact sT_w (n57 _ (by omega))
  exact fun _ _ _ _ => ⟨rfl, rfl, by first | trivial | omega⟩
theorem k_X11_fill {e : tE} {b : Nat} {d n : Nat} {r : Nat} {x1 : Int} {x2 : Nat} (h0 : cl r 13) (h1 : (-2147483648 ≤ x1 ∧ x1 ≤ 2147483647)) (h2 : cl x2 4) (hb : b < 2) (hd : 3 ≤ d) : sC e b d 3357 [.inr (.inr (.inl r)), .inl x1, .inr (.inr (.inl x2))] n (SQi n (fun z => (0 ≤ z ∧ z ≤ 1))) := by
  refine sK (fun M h => tst_X11_fill h) (fun M0 => ?_)
  refine sblk (hv := false) kbl_X11_fill kbs_X11_fill (pc := 0) (pe := 14) (rk := 3) (i := 0) rfl (by decide +kernel) ?_
  simp only [kb_X11_fill_0, s_ald_0, s_gf_13_3, s_ild_1, s_ald_2, s_iv2, tfr_0, tfr_1, tfr_2, tfr_3, tfr_4, s_iv0, s_ire, trg, LR, IR, true_and, and_true, Nat.reduceAdd, Nat.reduceSub, eq_self]
  refine ⟨by assumption, fun x2_ h2_ => ?_⟩
  refine ⟨vok_of (s := 11) (by assumption) rfl, ?_⟩
  refine sc_n (D := 2) (fun d' hd' => k_X9_fill (by assumption) (by omega) (by assumption) (by omega) hd') (by omega) ?_
  intro h5_
  try simp only [s_ald_2, s_iv0, tfr_0, tfr_1, tfr_2, tfr_3, tfr_4, s_ire, trg, LR, IR, true_and, and_true, Nat.reduceAdd, Nat.reduceSub, eq_self]
  refine ⟨vok_of (s := 4) (by assumption) rfl, ?_⟩
  refine sc_i (D := 2) (fun d' hd' => k_X2_isSingle (by assumption) hd') (by omega) ?_
  intro x7_ h7_
  try simp only [s_ire, trg, LR, IR, true_and, and_true, Nat.reduceAdd, Nat.reduceSub, eq_self]
  exact ⟨by omega, fun _ _ _ _ => ⟨_, rfl, rfl, by omega⟩⟩
theorem k_X11_become {e : tE} {b : Nat} {d n : Nat} {r : Nat} {x1 : Int} {x2 : Int} (h0 : cl r 13) (h1 : (-2147483648 ≤ x1 ∧ x1 ≤ 2147483647)) (h2 : (0 ≤ x2 ∧ x2 ≤ 2)) (hb : b < 2) (hd : 4 ≤ d) : sC e b d 3332 [.inr (.inr (.inl r)), .inl x1, .inl x2] n (SQx n (SQi n (fun z => (0 ≤ z ∧ z ≤ 1))) (fun s => (x2 = 1 ∧ s = "java/lang/ArithmeticException") ∨ ((x2 ≠ 0 ∧ x2 ≠ 1) ∧ s = "java/lang/IllegalStateException"))) := by
  refine sK (fun M h => tst_X11_become h) (fun M0 => ?_)
  refine sblk (hv := false) kbl_X11_become kbs_X11_become (pc := 0) (pe := 18) (rk := 3) (i := 0) rfl (by decide +kernel) ?_
  simp only [kb_X11_become_0, s_ald_0, s_ild_2, s_iv1, tfr_0, tfr_1, tfr_2, tfr_3, tfr_4, s_ild_1, s_gf_13_4, s_iv0, s_iv2, s_ire, trg, LR, IR, true_and, and_true, Nat.reduceAdd, Nat.reduceSub, eq_self]
  refine ⟨vok_of (s := 13) (by assumption) rfl, ?_⟩
  refine sc_xn (D := 0) (fun d' hd' => k_X11_checkStatus (by assumption) (by omega) hd') (by omega) rfl ?_ (fun s hs _ => Or.inr ⟨s, rfl, rfl, (fun h => h.elim (fun h => Or.inl (⟨by omega, h.2⟩)) (fun h => Or.inr (⟨by omega, h.2⟩))) hs⟩)
  intro h3_
  try simp only [s_ald_0, s_ild_1, s_gf_13_4, s_iv0, tfr_0, tfr_1, tfr_2, tfr_3, tfr_4, s_iv2, s_ire, trg, LR, IR, true_and, and_true, Nat.reduceAdd, Nat.reduceSub, eq_self]
  refine ⟨by assumption, fun x7_ h7_ => ?_⟩
  refine ⟨vok_of (s := 8) (by assumption) rfl, ?_⟩
  refine sc_r (D := 1) (fun d' hd' => k_X6_result (by assumption) hd') (by omega) ?_
  intro x8_ h8_
  try simp only [s_iv2, tfr_0, tfr_1, tfr_2, tfr_3, tfr_4, s_ire, trg, LR, IR, true_and, and_true, Nat.reduceAdd, Nat.reduceSub, eq_self]
  refine ⟨vok_of (s := 13) (by assumption) rfl, ?_⟩
  refine sc_i (D := 3) (fun d' hd' => k_X11_fill (by assumption) (by omega) (by assumption) (by omega) hd') (by omega) ?_
  intro x9_ h9_
  try simp only [s_ire, trg, LR, IR, true_and, and_true, Nat.reduceAdd, Nat.reduceSub, eq_self]
  exact ⟨by omega, fun _ _ _ _ => Or.inl ⟨_, rfl, rfl, by omega⟩⟩
