
/-! THE LAW: its loop. -/
section LAW
variable {e : tE} {d : Nat}
noncomputable def kpa_L_law : List (Nat × bO) := [(23, .iload 4, 0, 0, 0, 0), (25, .aload_n 0, 0, 0, 0, 0), (26, .arraylength, 0, 0, 0, 0), (27, .bipush 6, 0, 0, 0, 0), (29, .isub, 0, 0, 0, 0), (30, .if_icmp .gt 2019, 0, 2049, 0, 0), (33, .aload_n 0, 0, 0, 0, 0), (34, .iload 4, 0, 0, 0, 0), (36, .iaload, 0, 0, 0, 0), (37, .bipush 63, 0, 0, 0, 0), (39, .iand, 0, 0, 0, 0)]
def LQ : tR → tM → Nat → Prop := fun v _ n' => v = .inl (some (.inl 1)) ∧ n' ≤ 512
theorem l_dis {x : Int} (h : 0 ≤ x ∧ x < 64) : x = 0 ∨ x = 1 ∨ x = 2 ∨ x = 3 ∨ x = 4 ∨ x = 5 ∨ x = 6 ∨ x = 7 ∨ x = 8 ∨ x = 9 ∨ x = 10 ∨ x = 11 ∨ x = 12 ∨ x = 13 ∨ x = 14 ∨ x = 15 ∨ x = 16 ∨ x = 17 ∨ x = 18 ∨ x = 19 ∨ x = 20 ∨ x = 21 ∨ x = 22 ∨ x = 23 ∨ x = 24 ∨ x = 25 ∨ x = 26 ∨ x = 27 ∨ x = 28 ∨ x = 29 ∨ x = 30 ∨ x = 31 ∨ x = 32 ∨ x = 33 ∨ x = 34 ∨ x = 35 ∨ x = 36 ∨ x = 37 ∨ x = 38 ∨ x = 39 ∨ x = 40 ∨ x = 41 ∨ (42 ≤ x ∧ x < 64) := by omega
theorem l_loop (he : EO e) (hd : 300 ≤ d) (hL : txl e 1 ≤ 3072) : ∀ (q : Nat) (M : tM) (n : Nat) (i : Int) (a b : Option tV), LI M n i → i ≤ 3072 → ((txl e 1 : Nat) : Int) < i + 6 * (q : Int) + 6 → tT e d 3853 23 [some (.inr (.inr (.inr 1))), some (.inr (.inr (.inl 0))), some (.inr (.inr (.inl 664))), some (.inr (.inr (.inl 690))), some (.inl i), a, b] [] M n LQ := by
  intro q
  induction q with
  | zero =>
    intro M n i a b hI hi hq
    refine tblk_p kbl_L_law kbs_L_law (rk := 3) (c := false) (i := 1) rfl 0 11 (P := kpa_L_law) (pe := 40) rfl (by decide +kernel) ?_
    simp only [kpa_L_law, w_ild4, w_ald_0, w_len, w_lenx, w_bi, w_isub, w_ic_gt, w_ia, w_iax, w_iand, w_nil, true_and, and_true, Nat.reduceAdd, Nat.reduceSub, eq_self]
    obtain ⟨-, -, hn⟩ := hI
    refine ⟨by decide, by omega, fun _ => ?_, fun h => absurd (by omega) h⟩
    refine tb_L_law_2049 (c := false) ?_
    simp only [kb_L_law_2049, w_ic, w_ire, trg, true_and, and_true, Nat.reduceAdd, Nat.reduceSub, eq_self]
    exact ⟨by decide, rfl, by omega⟩
  | succ q ih =>
    intro M n i a b hI hi hq
    have h0 : (0 ≤ i ∧ 6 * (n : Int) ≤ i) := hI.2.2
    refine tblk_p kbl_L_law kbs_L_law (rk := 3) (c := false) (i := 1) rfl 0 11 (P := kpa_L_law) (pe := 40) rfl (by decide +kernel) ?_
    simp only [kpa_L_law, w_ild4, w_ald_0, w_len, w_lenx, w_bi, w_isub, w_ic_gt, w_ia, w_iax, w_iand, w_nil, true_and, and_true, Nat.reduceAdd, Nat.reduceSub, eq_self]
    refine ⟨by decide, by omega, fun _ => ?_, fun h => ?_⟩
    · refine tb_L_law_2049 (c := false) ?_
      simp only [kb_L_law_2049, w_ic, w_ire, trg, true_and, and_true, Nat.reduceAdd, Nat.reduceSub, eq_self]
      exact ⟨by decide, rfl, by omega⟩
    have hl : i + 6 ≤ ((txl e 1 : Nat) : Int) := by omega
    refine ⟨by decide, by first | rfl | decide, by omega, ?_⟩
    first | refine Or.inr ⟨rfl, ?_⟩ | refine Or.inr ?_
    have k : ∀ a' b' M' n', LI M' n' (i + 6) → tT e d 3853 2043 [some (.inr (.inr (.inr 1))), some (.inr (.inr (.inl 0))), some (.inr (.inr (.inl 664))), some (.inr (.inr (.inl 690))), some (.inl i), a', b'] [] M' n' LQ := by
      intro a' b' M' n' h'
      refine tb_L_law_2043 (c := false) ?_
      simp only [kb_L_law_2043, w_inc4, tkl_n, tkl_i, tkl_l, tkl_r, w_goto, true_and, and_true, Nat.reduceAdd, Nat.reduceSub, eq_self]
      exact ih M' n' (i + 6) a' b' h' (by omega) (by omega)
    have hx : 0 ≤ txv e 1 i % 64 ∧ txv e 1 i % 64 < 64 := by omega
    generalize txv e 1 i % 64 = x at hx ⊢
    have ho : bop 3853 40 = some (.tableswitch 2003 0 41 #[184, 240, 253, 283, 296, 324, 408, 436, 478, 530, 582, 610, 638, 666, 706, 746, 774, 790, 842, 894, 946, 998, 1050, 1102, 1156, 1224, 1252, 1280, 1344, 1408, 1460, 1512, 1540, 1580, 1632, 1708, 1772, 1836, 1900, 1964, 1977, 1990], 184, 0, 0, 0) := tblk_o kbl_L_law kbs_L_law (i := 1) (j := 11) rfl rfl
    rcases l_dis hx with rfl | rfl | rfl | rfl | rfl | rfl | rfl | rfl | rfl | rfl | rfl | rfl | rfl | rfl | rfl | rfl | rfl | rfl | rfl | rfl | rfl | rfl | rfl | rfl | rfl | rfl | rfl | rfl | rfl | rfl | rfl | rfl | rfl | rfl | rfl | rfl | rfl | rfl | rfl | rfl | rfl | rfl | hx
    · exact tT_tsw (t := 224) (off := 184) ho (by decide) rfl (by decide) rfl (lc_224 he hl hI hd k)
    · exact tT_tsw (t := 280) (off := 240) ho (by decide) rfl (by decide) rfl (lc_280 he hl hI hd k)
    · exact tT_tsw (t := 293) (off := 253) ho (by decide) rfl (by decide) rfl (lc_293 he hl hI hd k)
    · exact tT_tsw (t := 323) (off := 283) ho (by decide) rfl (by decide) rfl (lc_323 he hl hI hd k)
    · exact tT_tsw (t := 336) (off := 296) ho (by decide) rfl (by decide) rfl (lc_336 he hl hI hd k)
    · exact tT_tsw (t := 364) (off := 324) ho (by decide) rfl (by decide) rfl (lc_364 he hl hI hd k)
    · exact tT_tsw (t := 448) (off := 408) ho (by decide) rfl (by decide) rfl (lc_448 he hl hI hd k)
    · exact tT_tsw (t := 476) (off := 436) ho (by decide) rfl (by decide) rfl (lc_476 he hl hI hd k)
    · exact tT_tsw (t := 518) (off := 478) ho (by decide) rfl (by decide) rfl (lc_518 he hl hI hd k)
    · exact tT_tsw (t := 570) (off := 530) ho (by decide) rfl (by decide) rfl (lc_570 he hl hI hd k)
    · exact tT_tsw (t := 622) (off := 582) ho (by decide) rfl (by decide) rfl (lc_622 he hl hI hd k)
    · exact tT_tsw (t := 650) (off := 610) ho (by decide) rfl (by decide) rfl (lc_650 he hl hI hd k)
    · exact tT_tsw (t := 678) (off := 638) ho (by decide) rfl (by decide) rfl (lc_678 he hl hI hd k)
    · exact tT_tsw (t := 706) (off := 666) ho (by decide) rfl (by decide) rfl (lc_706 he hl hI hd k)
    · exact tT_tsw (t := 746) (off := 706) ho (by decide) rfl (by decide) rfl (lc_746 he hl hI hd k)
    · exact tT_tsw (t := 786) (off := 746) ho (by decide) rfl (by decide) rfl (lc_786 he hl hI hd k)
    · exact tT_tsw (t := 814) (off := 774) ho (by decide) rfl (by decide) rfl (lc_814 he hl hI hd k)
    · exact tT_tsw (t := 830) (off := 790) ho (by decide) rfl (by decide) rfl (lc_830 he hl hI hd k)
    · exact tT_tsw (t := 882) (off := 842) ho (by decide) rfl (by decide) rfl (lc_882 he hl hI hd k)
    · exact tT_tsw (t := 934) (off := 894) ho (by decide) rfl (by decide) rfl (lc_934 he hl hI hd k)
    · exact tT_tsw (t := 986) (off := 946) ho (by decide) rfl (by decide) rfl (lc_986 he hl hI hd k)
    · exact tT_tsw (t := 1038) (off := 998) ho (by decide) rfl (by decide) rfl (lc_1038 he hl hI hd k)
    · exact tT_tsw (t := 1090) (off := 1050) ho (by decide) rfl (by decide) rfl (lc_1090 he hl hI hd k)
    · exact tT_tsw (t := 1142) (off := 1102) ho (by decide) rfl (by decide) rfl (lc_1142 he hl hI hd k)
    · exact tT_tsw (t := 1196) (off := 1156) ho (by decide) rfl (by decide) rfl (lc_1196 he hl hI hd k)
    · exact tT_tsw (t := 1264) (off := 1224) ho (by decide) rfl (by decide) rfl (lc_1264 he hl hI hd k)
    · exact tT_tsw (t := 1292) (off := 1252) ho (by decide) rfl (by decide) rfl (lc_1292 he hl hI hd k)
    · exact tT_tsw (t := 1320) (off := 1280) ho (by decide) rfl (by decide) rfl (lc_1320 he hl hI hd k)
    · exact tT_tsw (t := 1384) (off := 1344) ho (by decide) rfl (by decide) rfl (lc_1384 he hl hI hd k)
    · exact tT_tsw (t := 1448) (off := 1408) ho (by decide) rfl (by decide) rfl (lc_1448 he hl hI hd k)
    · exact tT_tsw (t := 1500) (off := 1460) ho (by decide) rfl (by decide) rfl (lc_1500 he hl hI hd k)
    · exact tT_tsw (t := 1552) (off := 1512) ho (by decide) rfl (by decide) rfl (lc_1552 he hl hI hd k)
    · exact tT_tsw (t := 1580) (off := 1540) ho (by decide) rfl (by decide) rfl (lc_1580 he hl hI hd k)
    · exact tT_tsw (t := 1620) (off := 1580) ho (by decide) rfl (by decide) rfl (lc_1620 he hl hI hd k)
    · exact tT_tsw (t := 1672) (off := 1632) ho (by decide) rfl (by decide) rfl (lc_1672 he hl hI hd k)
    · exact tT_tsw (t := 1748) (off := 1708) ho (by decide) rfl (by decide) rfl (lc_1748 he hl hI hd k)
    · exact tT_tsw (t := 1812) (off := 1772) ho (by decide) rfl (by decide) rfl (lc_1812 he hl hI hd k)
    · exact tT_tsw (t := 1876) (off := 1836) ho (by decide) rfl (by decide) rfl (lc_1876 he hl hI hd k)
    · exact tT_tsw (t := 1940) (off := 1900) ho (by decide) rfl (by decide) rfl (lc_1940 he hl hI hd k)
    · exact tT_tsw (t := 2004) (off := 1964) ho (by decide) rfl (by decide) rfl (lc_2004 he hl hI hd k)
    · exact tT_tsw (t := 2017) (off := 1977) ho (by decide) rfl (by decide) rfl (lc_2017 he hl hI hd k)
    · exact tT_tsw (t := 2030) (off := 1990) ho (by decide) rfl (by decide) rfl (lc_2030 he hl hI hd k)
    · refine tT_tsw (t := 2043) (off := 2003) ho (by omega) (if_pos (Or.inr (by omega))) (by decide) rfl (k _ _ M n ⟨hI.1, hI.2.1, by omega⟩)
end LAW
