
/-! THE LAW: its loop. -/
section LAW
variable {e : tE} {d : Nat}
noncomputable def kpa_L_law : List (Nat × bO) := [(23, .iload 4, 0, 0, 0, 0), (25, .aload_n 0, 0, 0, 0, 0), (26, .arraylength, 0, 0, 0, 0), (27, .bipush 6, 0, 0, 0, 0), (29, .isub, 0, 0, 0, 0), (30, .if_icmp .gt 2026, 0, 2056, 0, 0), (33, .aload_n 0, 0, 0, 0, 0), (34, .iload 4, 0, 0, 0, 0), (36, .iaload, 0, 0, 0, 0), (37, .bipush 63, 0, 0, 0, 0), (39, .iand, 0, 0, 0, 0)]
def LQ : tR → tM → Nat → Prop := fun v _ n' => v = .inl (some (.inl 1)) ∧ n' ≤ 512
theorem l_dis {x : Int} (h : 0 ≤ x ∧ x < 64) : x = 0 ∨ x = 1 ∨ x = 2 ∨ x = 3 ∨ x = 4 ∨ x = 5 ∨ x = 6 ∨ x = 7 ∨ x = 8 ∨ x = 9 ∨ x = 10 ∨ x = 11 ∨ x = 12 ∨ x = 13 ∨ x = 14 ∨ x = 15 ∨ x = 16 ∨ x = 17 ∨ x = 18 ∨ x = 19 ∨ x = 20 ∨ x = 21 ∨ x = 22 ∨ x = 23 ∨ x = 24 ∨ x = 25 ∨ x = 26 ∨ x = 27 ∨ x = 28 ∨ x = 29 ∨ x = 30 ∨ x = 31 ∨ x = 32 ∨ x = 33 ∨ x = 34 ∨ x = 35 ∨ x = 36 ∨ x = 37 ∨ x = 38 ∨ x = 39 ∨ x = 40 ∨ x = 41 ∨ (42 ≤ x ∧ x < 64) := by omega
theorem l_loop (he : EO e) (hd : 300 ≤ d) (hL : txl e 1 ≤ 3072) : ∀ (q : Nat) (M : tM) (n : Nat) (i : Int) (a b : Option tV), LI M n i → i ≤ 3072 → ((txl e 1 : Nat) : Int) < i + 6 * (q : Int) + 6 → tT e d 3853 23 [some (.inr (.inr (.inr 1))), some (.inr (.inr (.inl 0))), some (.inr (.inr (.inl 664))), some (.inr (.inr (.inl 690))), some (.inl i), a, b] [] M n LQ := by
  intro q
  induction q with
  | zero =>
    intro M n i a b hI hi hq
    refine tblk_p kbl_L_law kbs_L_law (rk := 3) (c := false) (i := 1) rfl 0 11 (P := kpa_L_law) (pe := 40) rfl (by decide +kernel) ?_
    simp only [kpa_L_law, w_ild4, w_ald_0, w_len, w_lenx, w_bi, w_isub, w_ic_gt, w_ia, w_iax, w_iand, w_nil, true_and, and_true, Nat.reduceAdd, Nat.reduceSub, eq_self]
    obtain ⟨-, -, hn⟩ := hI
    refine ⟨by decide, by omega, fun _ => ?_, fun h => absurd (by omega) h⟩
    refine tb_L_law_2056 (c := false) ?_
    simp only [kb_L_law_2056, w_ic, w_ire, trg, true_and, and_true, Nat.reduceAdd, Nat.reduceSub, eq_self]
    exact ⟨by decide, rfl, by omega⟩
  | succ q ih =>
    intro M n i a b hI hi hq
    have h0 : (0 ≤ i ∧ 6 * (n : Int) ≤ i) := hI.2.2.1
    refine tblk_p kbl_L_law kbs_L_law (rk := 3) (c := false) (i := 1) rfl 0 11 (P := kpa_L_law) (pe := 40) rfl (by decide +kernel) ?_
    simp only [kpa_L_law, w_ild4, w_ald_0, w_len, w_lenx, w_bi, w_isub, w_ic_gt, w_ia, w_iax, w_iand, w_nil, true_and, and_true, Nat.reduceAdd, Nat.reduceSub, eq_self]
    refine ⟨by decide, by omega, fun _ => ?_, fun h => ?_⟩
    · refine tb_L_law_2056 (c := false) ?_
      simp only [kb_L_law_2056, w_ic, w_ire, trg, true_and, and_true, Nat.reduceAdd, Nat.reduceSub, eq_self]
      exact ⟨by decide, rfl, by omega⟩
    have hl : i + 6 ≤ ((txl e 1 : Nat) : Int) := by omega
    refine ⟨by decide, by first | rfl | decide, by omega, ?_⟩
    first | refine Or.inr ⟨rfl, ?_⟩ | refine Or.inr ?_
    have k : ∀ a' b' M' n', LI M' n' (i + 6) → tT e d 3853 2050 [some (.inr (.inr (.inr 1))), some (.inr (.inr (.inl 0))), some (.inr (.inr (.inl 664))), some (.inr (.inr (.inl 690))), some (.inl i), a', b'] [] M' n' LQ := by
      intro a' b' M' n' h'
      refine tb_L_law_2050 (c := false) ?_
      simp only [kb_L_law_2050, w_inc4, tkl_n, tkl_i, tkl_l, tkl_r, w_goto, true_and, and_true, Nat.reduceAdd, Nat.reduceSub, eq_self]
      exact ih M' n' (i + 6) a' b' h' (by omega) (by omega)
    have hx : 0 ≤ txv e 1 i % 64 ∧ txv e 1 i % 64 < 64 := by omega
    generalize txv e 1 i % 64 = x at hx ⊢
    have ho : bop 3853 40 = some (.tableswitch 2010 0 41 #[184, 212, 225, 255, 268, 296, 415, 443, 485, 537, 589, 617, 645, 673, 713, 753, 781, 797, 849, 901, 953, 1005, 1057, 1109, 1163, 1231, 1259, 1287, 1351, 1415, 1467, 1519, 1547, 1587, 1639, 1715, 1779, 1843, 1907, 1971, 1984, 1997], 184, 0, 0, 0) := tblk_o kbl_L_law kbs_L_law (i := 1) (j := 11) rfl rfl
    rcases l_dis hx with rfl | rfl | rfl | rfl | rfl | rfl | rfl | rfl | rfl | rfl | rfl | rfl | rfl | rfl | rfl | rfl | rfl | rfl | rfl | rfl | rfl | rfl | rfl | rfl | rfl | rfl | rfl | rfl | rfl | rfl | rfl | rfl | rfl | rfl | rfl | rfl | rfl | rfl | rfl | rfl | rfl | rfl | hx
    · exact tT_tsw (t := 224) (off := 184) ho (by decide) rfl (by decide) rfl (lc_224 he hl hI hd k)
    · exact tT_tsw (t := 252) (off := 212) ho (by decide) rfl (by decide) rfl (lc_252 he hl hI hd k)
    · exact tT_tsw (t := 265) (off := 225) ho (by decide) rfl (by decide) rfl (lc_265 he hl hI hd k)
    · exact tT_tsw (t := 295) (off := 255) ho (by decide) rfl (by decide) rfl (lc_295 he hl hI hd k)
    · exact tT_tsw (t := 308) (off := 268) ho (by decide) rfl (by decide) rfl (lc_308 he hl hI hd k)
    · exact tT_tsw (t := 336) (off := 296) ho (by decide) rfl (by decide) rfl (lc_336 he hl hI hd k)
    · exact tT_tsw (t := 455) (off := 415) ho (by decide) rfl (by decide) rfl (lc_455 he hl hI hd k)
    · exact tT_tsw (t := 483) (off := 443) ho (by decide) rfl (by decide) rfl (lc_483 he hl hI hd k)
    · exact tT_tsw (t := 525) (off := 485) ho (by decide) rfl (by decide) rfl (lc_525 he hl hI hd k)
    · exact tT_tsw (t := 577) (off := 537) ho (by decide) rfl (by decide) rfl (lc_577 he hl hI hd k)
    · exact tT_tsw (t := 629) (off := 589) ho (by decide) rfl (by decide) rfl (lc_629 he hl hI hd k)
    · exact tT_tsw (t := 657) (off := 617) ho (by decide) rfl (by decide) rfl (lc_657 he hl hI hd k)
    · exact tT_tsw (t := 685) (off := 645) ho (by decide) rfl (by decide) rfl (lc_685 he hl hI hd k)
    · exact tT_tsw (t := 713) (off := 673) ho (by decide) rfl (by decide) rfl (lc_713 he hl hI hd k)
    · exact tT_tsw (t := 753) (off := 713) ho (by decide) rfl (by decide) rfl (lc_753 he hl hI hd k)
    · exact tT_tsw (t := 793) (off := 753) ho (by decide) rfl (by decide) rfl (lc_793 he hl hI hd k)
    · exact tT_tsw (t := 821) (off := 781) ho (by decide) rfl (by decide) rfl (lc_821 he hl hI hd k)
    · exact tT_tsw (t := 837) (off := 797) ho (by decide) rfl (by decide) rfl (lc_837 he hl hI hd k)
    · exact tT_tsw (t := 889) (off := 849) ho (by decide) rfl (by decide) rfl (lc_889 he hl hI hd k)
    · exact tT_tsw (t := 941) (off := 901) ho (by decide) rfl (by decide) rfl (lc_941 he hl hI hd k)
    · exact tT_tsw (t := 993) (off := 953) ho (by decide) rfl (by decide) rfl (lc_993 he hl hI hd k)
    · exact tT_tsw (t := 1045) (off := 1005) ho (by decide) rfl (by decide) rfl (lc_1045 he hl hI hd k)
    · exact tT_tsw (t := 1097) (off := 1057) ho (by decide) rfl (by decide) rfl (lc_1097 he hl hI hd k)
    · exact tT_tsw (t := 1149) (off := 1109) ho (by decide) rfl (by decide) rfl (lc_1149 he hl hI hd k)
    · exact tT_tsw (t := 1203) (off := 1163) ho (by decide) rfl (by decide) rfl (lc_1203 he hl hI hd k)
    · exact tT_tsw (t := 1271) (off := 1231) ho (by decide) rfl (by decide) rfl (lc_1271 he hl hI hd k)
    · exact tT_tsw (t := 1299) (off := 1259) ho (by decide) rfl (by decide) rfl (lc_1299 he hl hI hd k)
    · exact tT_tsw (t := 1327) (off := 1287) ho (by decide) rfl (by decide) rfl (lc_1327 he hl hI hd k)
    · exact tT_tsw (t := 1391) (off := 1351) ho (by decide) rfl (by decide) rfl (lc_1391 he hl hI hd k)
    · exact tT_tsw (t := 1455) (off := 1415) ho (by decide) rfl (by decide) rfl (lc_1455 he hl hI hd k)
    · exact tT_tsw (t := 1507) (off := 1467) ho (by decide) rfl (by decide) rfl (lc_1507 he hl hI hd k)
    · exact tT_tsw (t := 1559) (off := 1519) ho (by decide) rfl (by decide) rfl (lc_1559 he hl hI hd k)
    · exact tT_tsw (t := 1587) (off := 1547) ho (by decide) rfl (by decide) rfl (lc_1587 he hl hI hd k)
    · exact tT_tsw (t := 1627) (off := 1587) ho (by decide) rfl (by decide) rfl (lc_1627 he hl hI hd k)
    · exact tT_tsw (t := 1679) (off := 1639) ho (by decide) rfl (by decide) rfl (lc_1679 he hl hI hd k)
    · exact tT_tsw (t := 1755) (off := 1715) ho (by decide) rfl (by decide) rfl (lc_1755 he hl hI hd k)
    · exact tT_tsw (t := 1819) (off := 1779) ho (by decide) rfl (by decide) rfl (lc_1819 he hl hI hd k)
    · exact tT_tsw (t := 1883) (off := 1843) ho (by decide) rfl (by decide) rfl (lc_1883 he hl hI hd k)
    · exact tT_tsw (t := 1947) (off := 1907) ho (by decide) rfl (by decide) rfl (lc_1947 he hl hI hd k)
    · exact tT_tsw (t := 2011) (off := 1971) ho (by decide) rfl (by decide) rfl (lc_2011 he hl hI hd k)
    · exact tT_tsw (t := 2024) (off := 1984) ho (by decide) rfl (by decide) rfl (lc_2024 he hl hI hd k)
    · exact tT_tsw (t := 2037) (off := 1997) ho (by decide) rfl (by decide) rfl (lc_2037 he hl hI hd k)
    · refine tT_tsw (t := 2050) (off := 2010) ho (by omega) (if_pos (Or.inr (by omega))) (by decide) rfl (k _ _ M n ⟨hI.1, hI.2.1, ⟨by omega, hI.2.2.2⟩⟩)
end LAW
