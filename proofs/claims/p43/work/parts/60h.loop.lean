
/-! THE LAW: its loop. -/
section LAW
variable {e : tE} {d : Nat}
noncomputable def kpa_L_law : List (Nat × bO) := [(23, .iload 4, 0, 0, 0, 0), (25, .aload_n 0, 0, 0, 0, 0), (26, .arraylength, 0, 0, 0, 0), (27, .bipush 6, 0, 0, 0, 0), (29, .isub, 0, 0, 0, 0), (30, .if_icmp .gt 1991, 0, 2021, 0, 0), (33, .aload_n 0, 0, 0, 0, 0), (34, .iload 4, 0, 0, 0, 0), (36, .iaload, 0, 0, 0, 0), (37, .bipush 63, 0, 0, 0, 0), (39, .iand, 0, 0, 0, 0)]
def LQ : tR → tM → Nat → Prop := fun v _ n' => v = .inl (some (.inl 1)) ∧ n' ≤ 512
theorem l_dis {x : Int} (h : 0 ≤ x ∧ x < 64) : x = 0 ∨ x = 1 ∨ x = 2 ∨ x = 3 ∨ x = 4 ∨ x = 5 ∨ x = 6 ∨ x = 7 ∨ x = 8 ∨ x = 9 ∨ x = 10 ∨ x = 11 ∨ x = 12 ∨ x = 13 ∨ x = 14 ∨ x = 15 ∨ x = 16 ∨ x = 17 ∨ x = 18 ∨ x = 19 ∨ x = 20 ∨ x = 21 ∨ x = 22 ∨ x = 23 ∨ x = 24 ∨ x = 25 ∨ x = 26 ∨ x = 27 ∨ x = 28 ∨ x = 29 ∨ x = 30 ∨ x = 31 ∨ x = 32 ∨ x = 33 ∨ x = 34 ∨ x = 35 ∨ x = 36 ∨ x = 37 ∨ x = 38 ∨ x = 39 ∨ x = 40 ∨ x = 41 ∨ (42 ≤ x ∧ x < 64) := by omega
theorem l_loop (he : EK e) (hd : 300 ≤ d) (hL : txl e 1 ≤ 3072) : ∀ (q : Nat) (M : tM) (n : Nat) (i : Int) (a b : Option tV), LI M n i → i ≤ 3072 → ((txl e 1 : Nat) : Int) < i + 6 * (q : Int) + 6 → tT e d 3853 23 [some (.inr (.inr (.inr 1))), some (.inr (.inr (.inl 0))), some (.inr (.inr (.inl 664))), some (.inr (.inr (.inl 690))), some (.inl i), a, b] [] M n LQ := by
  intro q
  induction q with
  | zero =>
    intro M n i a b hI hi hq
    refine tblk_p kbl_L_law kbs_L_law (rk := 3) (c := false) (i := 1) rfl 0 11 (P := kpa_L_law) (pe := 40) rfl (by decide +kernel) ?_
    simp only [kpa_L_law, w_ild4, w_ald_0, w_len, w_lenx, w_bi, w_isub, w_ic_gt, w_ia, w_iax, w_iand, w_nil, true_and, and_true, Nat.reduceAdd, Nat.reduceSub, eq_self]
    obtain ⟨-, -, hn⟩ := hI
    refine ⟨by decide, by omega, fun _ => ?_, fun h => absurd (by omega) h⟩
    refine tb_L_law_2021 (c := false) ?_
    simp only [kb_L_law_2021, w_ic, w_ire, trg, true_and, and_true, Nat.reduceAdd, Nat.reduceSub, eq_self]
    exact ⟨by decide, rfl, by omega⟩
  | succ q ih =>
    intro M n i a b hI hi hq
    have h0 : (0 ≤ i ∧ 6 * (n : Int) ≤ i) := hI.2.2
    refine tblk_p kbl_L_law kbs_L_law (rk := 3) (c := false) (i := 1) rfl 0 11 (P := kpa_L_law) (pe := 40) rfl (by decide +kernel) ?_
    simp only [kpa_L_law, w_ild4, w_ald_0, w_len, w_lenx, w_bi, w_isub, w_ic_gt, w_ia, w_iax, w_iand, w_nil, true_and, and_true, Nat.reduceAdd, Nat.reduceSub, eq_self]
    refine ⟨by decide, by omega, fun _ => ?_, fun h => ?_⟩
    · refine tb_L_law_2021 (c := false) ?_
      simp only [kb_L_law_2021, w_ic, w_ire, trg, true_and, and_true, Nat.reduceAdd, Nat.reduceSub, eq_self]
      exact ⟨by decide, rfl, by omega⟩
    have hl : i + 6 ≤ ((txl e 1 : Nat) : Int) := by omega
    refine ⟨by decide, by first | rfl | decide, by omega, ?_⟩
    first | refine Or.inr ⟨rfl, ?_⟩ | refine Or.inr ?_
    have k : ∀ a' b' M' n', LI M' n' (i + 6) → tT e d 3853 2015 [some (.inr (.inr (.inr 1))), some (.inr (.inr (.inl 0))), some (.inr (.inr (.inl 664))), some (.inr (.inr (.inl 690))), some (.inl i), a', b'] [] M' n' LQ := by
      intro a' b' M' n' h'
      refine tb_L_law_2015 (c := false) ?_
      simp only [kb_L_law_2015, w_inc4, tkl_n, tkl_i, tkl_l, tkl_r, w_goto, true_and, and_true, Nat.reduceAdd, Nat.reduceSub, eq_self]
      exact ih M' n' (i + 6) a' b' h' (by omega) (by omega)
    have hx : 0 ≤ txv e 1 i % 64 ∧ txv e 1 i % 64 < 64 := by omega
    generalize txv e 1 i % 64 = x at hx ⊢
    have ho : bop 3853 40 = some (.tableswitch 1975 0 41 #[184, 212, 225, 255, 268, 296, 380, 408, 450, 502, 554, 582, 610, 638, 678, 718, 746, 762, 814, 866, 918, 970, 1022, 1074, 1128, 1196, 1224, 1252, 1316, 1380, 1432, 1484, 1512, 1552, 1604, 1680, 1744, 1808, 1872, 1936, 1949, 1962], 184, 0, 0, 0) := tblk_o kbl_L_law kbs_L_law (i := 1) (j := 11) rfl rfl
    rcases l_dis hx with rfl | rfl | rfl | rfl | rfl | rfl | rfl | rfl | rfl | rfl | rfl | rfl | rfl | rfl | rfl | rfl | rfl | rfl | rfl | rfl | rfl | rfl | rfl | rfl | rfl | rfl | rfl | rfl | rfl | rfl | rfl | rfl | rfl | rfl | rfl | rfl | rfl | rfl | rfl | rfl | rfl | rfl | hx
    · exact tT_tsw (t := 224) (off := 184) ho (by decide) rfl (by decide) rfl (lc_224 he hl hI hd k)
    · exact tT_tsw (t := 252) (off := 212) ho (by decide) rfl (by decide) rfl (lc_252 he hl hI hd k)
    · exact tT_tsw (t := 265) (off := 225) ho (by decide) rfl (by decide) rfl (lc_265 he hl hI hd k)
    · exact tT_tsw (t := 295) (off := 255) ho (by decide) rfl (by decide) rfl (lc_295 he hl hI hd k)
    · exact tT_tsw (t := 308) (off := 268) ho (by decide) rfl (by decide) rfl (lc_308 he hl hI hd k)
    · exact tT_tsw (t := 336) (off := 296) ho (by decide) rfl (by decide) rfl (lc_336 he hl hI hd k)
    · exact tT_tsw (t := 420) (off := 380) ho (by decide) rfl (by decide) rfl (lc_420 he hl hI hd k)
    · exact tT_tsw (t := 448) (off := 408) ho (by decide) rfl (by decide) rfl (lc_448 he hl hI hd k)
    · exact tT_tsw (t := 490) (off := 450) ho (by decide) rfl (by decide) rfl (lc_490 he hl hI hd k)
    · exact tT_tsw (t := 542) (off := 502) ho (by decide) rfl (by decide) rfl (lc_542 he hl hI hd k)
    · exact tT_tsw (t := 594) (off := 554) ho (by decide) rfl (by decide) rfl (lc_594 he hl hI hd k)
    · exact tT_tsw (t := 622) (off := 582) ho (by decide) rfl (by decide) rfl (lc_622 he hl hI hd k)
    · exact tT_tsw (t := 650) (off := 610) ho (by decide) rfl (by decide) rfl (lc_650 he hl hI hd k)
    · exact tT_tsw (t := 678) (off := 638) ho (by decide) rfl (by decide) rfl (lc_678 he hl hI hd k)
    · exact tT_tsw (t := 718) (off := 678) ho (by decide) rfl (by decide) rfl (lc_718 he hl hI hd k)
    · exact tT_tsw (t := 758) (off := 718) ho (by decide) rfl (by decide) rfl (lc_758 he hl hI hd k)
    · exact tT_tsw (t := 786) (off := 746) ho (by decide) rfl (by decide) rfl (lc_786 he hl hI hd k)
    · exact tT_tsw (t := 802) (off := 762) ho (by decide) rfl (by decide) rfl (lc_802 he hl hI hd k)
    · exact tT_tsw (t := 854) (off := 814) ho (by decide) rfl (by decide) rfl (lc_854 he hl hI hd k)
    · exact tT_tsw (t := 906) (off := 866) ho (by decide) rfl (by decide) rfl (lc_906 he hl hI hd k)
    · exact tT_tsw (t := 958) (off := 918) ho (by decide) rfl (by decide) rfl (lc_958 he hl hI hd k)
    · exact tT_tsw (t := 1010) (off := 970) ho (by decide) rfl (by decide) rfl (lc_1010 he hl hI hd k)
    · exact tT_tsw (t := 1062) (off := 1022) ho (by decide) rfl (by decide) rfl (lc_1062 he hl hI hd k)
    · exact tT_tsw (t := 1114) (off := 1074) ho (by decide) rfl (by decide) rfl (lc_1114 he hl hI hd k)
    · exact tT_tsw (t := 1168) (off := 1128) ho (by decide) rfl (by decide) rfl (lc_1168 he hl hI hd k)
    · exact tT_tsw (t := 1236) (off := 1196) ho (by decide) rfl (by decide) rfl (lc_1236 he hl hI hd k)
    · exact tT_tsw (t := 1264) (off := 1224) ho (by decide) rfl (by decide) rfl (lc_1264 he hl hI hd k)
    · exact tT_tsw (t := 1292) (off := 1252) ho (by decide) rfl (by decide) rfl (lc_1292 he hl hI hd k)
    · exact tT_tsw (t := 1356) (off := 1316) ho (by decide) rfl (by decide) rfl (lc_1356 he hl hI hd k)
    · exact tT_tsw (t := 1420) (off := 1380) ho (by decide) rfl (by decide) rfl (lc_1420 he hl hI hd k)
    · exact tT_tsw (t := 1472) (off := 1432) ho (by decide) rfl (by decide) rfl (lc_1472 he hl hI hd k)
    · exact tT_tsw (t := 1524) (off := 1484) ho (by decide) rfl (by decide) rfl (lc_1524 he hl hI hd k)
    · exact tT_tsw (t := 1552) (off := 1512) ho (by decide) rfl (by decide) rfl (lc_1552 he hl hI hd k)
    · exact tT_tsw (t := 1592) (off := 1552) ho (by decide) rfl (by decide) rfl (lc_1592 he hl hI hd k)
    · exact tT_tsw (t := 1644) (off := 1604) ho (by decide) rfl (by decide) rfl (lc_1644 he hl hI hd k)
    · exact tT_tsw (t := 1720) (off := 1680) ho (by decide) rfl (by decide) rfl (lc_1720 he hl hI hd k)
    · exact tT_tsw (t := 1784) (off := 1744) ho (by decide) rfl (by decide) rfl (lc_1784 he hl hI hd k)
    · exact tT_tsw (t := 1848) (off := 1808) ho (by decide) rfl (by decide) rfl (lc_1848 he hl hI hd k)
    · exact tT_tsw (t := 1912) (off := 1872) ho (by decide) rfl (by decide) rfl (lc_1912 he hl hI hd k)
    · exact tT_tsw (t := 1976) (off := 1936) ho (by decide) rfl (by decide) rfl (lc_1976 he hl hI hd k)
    · exact tT_tsw (t := 1989) (off := 1949) ho (by decide) rfl (by decide) rfl (lc_1989 he hl hI hd k)
    · exact tT_tsw (t := 2002) (off := 1962) ho (by decide) rfl (by decide) rfl (lc_2002 he hl hI hd k)
    · refine tT_tsw (t := 2015) (off := 1975) ho (by omega) (if_pos (Or.inr (by omega))) (by decide) rfl (k _ _ M n ⟨hI.1, hI.2.1, by omega⟩)
end LAW
