/-! The blocks of the code. Printed by wip/p2/genblk.py. -/
noncomputable def kb_X5_isPair_0 : List (Nat × bO) := [(0, .iload_n 0, 0, 0, 0, 0), (1, .bipush 43, 0, 0, 0, 0), (3, .if_icmp .eq 21, 0, 24, 0, 0), (6, .iload_n 0, 0, 0, 0, 0), (7, .bipush 45, 0, 0, 0, 0), (9, .if_icmp .eq 15, 0, 24, 0, 0), (12, .iload_n 0, 0, 0, 0, 0), (13, .bipush 42, 0, 0, 0, 0), (15, .if_icmp .eq 9, 0, 24, 0, 0), (18, .iload_n 0, 0, 0, 0, 0), (19, .bipush 47, 0, 0, 0, 0), (21, .if_icmp .ne 7, 0, 28, 0, 0)]
noncomputable def kb_X5_isPair_24 : List (Nat × bO) := [(24, .iconst 1, 0, 0, 0, 0), (25, .goto 4, 0, 29, 0, 0)]
noncomputable def kb_X5_isPair_28 : List (Nat × bO) := [(28, .iconst 0, 0, 0, 0, 0)]
noncomputable def kb_X5_isPair_29 : List (Nat × bO) := [(29, .ireturn, 0, 0, 0, 0)]
set_option maxRecDepth 16000 in
theorem kbl_X5_isPair : tcode 1799 = List.flatten [kb_X5_isPair_0, kb_X5_isPair_24, kb_X5_isPair_28, kb_X5_isPair_29] := sorry
theorem kbs_X5_isPair : ksort (tcode 1799) = true := sorry
theorem tb_X5_isPair_0 {e : tE} {c : Bool} {d : Nat} {L : tL} {st : List tV} {M : tM} {n : Nat} {Q : tR → tM → Nat → Prop} (h : wB e c 3 d 1799 24 kb_X5_isPair_0 L st M n Q) : tT e d 1799 0 L st M n Q := sorry
theorem tb_X5_isPair_24 {e : tE} {c : Bool} {d : Nat} {L : tL} {st : List tV} {M : tM} {n : Nat} {Q : tR → tM → Nat → Prop} (h : wB e c 3 d 1799 28 kb_X5_isPair_24 L st M n Q) : tT e d 1799 24 L st M n Q := sorry
theorem tb_X5_isPair_28 {e : tE} {c : Bool} {d : Nat} {L : tL} {st : List tV} {M : tM} {n : Nat} {Q : tR → tM → Nat → Prop} (h : wB e c 3 d 1799 29 kb_X5_isPair_28 L st M n Q) : tT e d 1799 28 L st M n Q := sorry
theorem tb_X5_isPair_29 {e : tE} {c : Bool} {d : Nat} {L : tL} {st : List tV} {M : tM} {n : Nat} {Q : tR → tM → Nat → Prop} (h : wB e c 3 d 1799 30 kb_X5_isPair_29 L st M n Q) : tT e d 1799 29 L st M n Q := sorry
theorem bmx_X5_isPair : (bmeth 1799).2.2.1 = 1 := sorry
theorem tst_X5_isPair {e : tE} {d : Nat} {M : tM} {n : Nat} {Q : tR → tM → Nat → Prop} {x1 : Int} (h : tT e d 1799 0 [some (.inl x1)] [] M n Q) : tC e d 1799 [.inl x1] M n Q := sorry
noncomputable def kb_X5_lastHeld_0 : List (Nat × bO) := [(0, .aload_n 0, 0, 0, 0, 0), (1, .getfield 40, 2089, 7, 8, 0), (4, .ifCond .le 17, 0, 21, 0, 0), (7, .aload_n 0, 0, 0, 0, 0), (8, .getfield 37, 2088, 7, 7, 0), (11, .aload_n 0, 0, 0, 0, 0), (12, .getfield 40, 2089, 7, 8, 0), (15, .iconst 1, 0, 0, 0, 0), (16, .isub, 0, 0, 0, 0), (17, .caload, 0, 0, 0, 0), (18, .goto 4, 0, 22, 0, 0)]
noncomputable def kb_X5_lastHeld_21 : List (Nat × bO) := [(21, .iconst 0, 0, 0, 0, 0)]
noncomputable def kb_X5_lastHeld_22 : List (Nat × bO) := [(22, .ireturn, 0, 0, 0, 0)]
set_option maxRecDepth 16000 in
theorem kbl_X5_lastHeld : tcode 1800 = List.flatten [kb_X5_lastHeld_0, kb_X5_lastHeld_21, kb_X5_lastHeld_22] := sorry
theorem kbs_X5_lastHeld : ksort (tcode 1800) = true := sorry
theorem tb_X5_lastHeld_0 {e : tE} {c : Bool} {d : Nat} {L : tL} {st : List tV} {M : tM} {n : Nat} {Q : tR → tM → Nat → Prop} (h : wB e c 4 d 1800 21 kb_X5_lastHeld_0 L st M n Q) : tT e d 1800 0 L st M n Q := sorry
theorem tb_X5_lastHeld_21 {e : tE} {c : Bool} {d : Nat} {L : tL} {st : List tV} {M : tM} {n : Nat} {Q : tR → tM → Nat → Prop} (h : wB e c 4 d 1800 22 kb_X5_lastHeld_21 L st M n Q) : tT e d 1800 21 L st M n Q := sorry
theorem tb_X5_lastHeld_22 {e : tE} {c : Bool} {d : Nat} {L : tL} {st : List tV} {M : tM} {n : Nat} {Q : tR → tM → Nat → Prop} (h : wB e c 4 d 1800 23 kb_X5_lastHeld_22 L st M n Q) : tT e d 1800 22 L st M n Q := sorry
theorem bmx_X5_lastHeld : (bmeth 1800).2.2.1 = 1 := sorry
theorem tst_X5_lastHeld {e : tE} {d : Nat} {M : tM} {n : Nat} {Q : tR → tM → Nat → Prop} {r : Nat} (h : tT e d 1800 0 [some (.inr (.inr (.inl r)))] [] M n Q) : tC e d 1800 [.inr (.inr (.inl r))] M n Q := sorry
noncomputable def kb_X5_leftOf_0 : List (Nat × bO) := [(0, .aload_n 0, 0, 0, 0, 0), (1, .iload_n 1, 0, 0, 0, 0), (2, .invokevirtual 56, 7111, 1793, 1, 7), (5, .invokestatic 60, 6232, 1799, 1, 0), (8, .ifCond .eq 15, 0, 23, 0, 0), (11, .aload_n 0, 0, 0, 0, 0), (12, .iload_n 1, 0, 0, 0, 0), (13, .iconst 1, 0, 0, 0, 0), (14, .isub, 0, 0, 0, 0), (15, .invokevirtual 64, 6237, 1808, 1, 7), (18, .iconst 1, 0, 0, 0, 0), (19, .isub, 0, 0, 0, 0), (20, .goto 6, 0, 26, 0, 0)]
noncomputable def kb_X5_leftOf_23 : List (Nat × bO) := [(23, .iload_n 1, 0, 0, 0, 0), (24, .iconst 1, 0, 0, 0, 0), (25, .isub, 0, 0, 0, 0)]
noncomputable def kb_X5_leftOf_26 : List (Nat × bO) := [(26, .ireturn, 0, 0, 0, 0)]
set_option maxRecDepth 16000 in
theorem kbl_X5_leftOf : tcode 1801 = List.flatten [kb_X5_leftOf_0, kb_X5_leftOf_23, kb_X5_leftOf_26] := sorry
theorem kbs_X5_leftOf : ksort (tcode 1801) = true := sorry
theorem tb_X5_leftOf_0 {e : tE} {c : Bool} {d : Nat} {L : tL} {st : List tV} {M : tM} {n : Nat} {Q : tR → tM → Nat → Prop} (h : wB e c 0 d 1801 23 kb_X5_leftOf_0 L st M n Q) : tT e d 1801 0 L st M n Q := sorry
theorem tb_X5_leftOf_23 {e : tE} {c : Bool} {d : Nat} {L : tL} {st : List tV} {M : tM} {n : Nat} {Q : tR → tM → Nat → Prop} (h : wB e c 0 d 1801 26 kb_X5_leftOf_23 L st M n Q) : tT e d 1801 23 L st M n Q := sorry
theorem tb_X5_leftOf_26 {e : tE} {c : Bool} {d : Nat} {L : tL} {st : List tV} {M : tM} {n : Nat} {Q : tR → tM → Nat → Prop} (h : wB e c 0 d 1801 27 kb_X5_leftOf_26 L st M n Q) : tT e d 1801 26 L st M n Q := sorry
theorem bmx_X5_leftOf : (bmeth 1801).2.2.1 = 2 := sorry
theorem tst_X5_leftOf {e : tE} {d : Nat} {M : tM} {n : Nat} {Q : tR → tM → Nat → Prop} {r : Nat} {x1 : Int} (h : tT e d 1801 0 [some (.inr (.inr (.inl r))), some (.inl x1)] [] M n Q) : tC e d 1801 [.inr (.inr (.inl r)), .inl x1] M n Q := sorry
noncomputable def kb_X5_numberAt_0 : List (Nat × bO) := [(0, .aload_n 0, 0, 0, 0, 0), (1, .getfield 15, 2078, 7, 1, 0), (4, .aload_n 0, 0, 0, 0, 0), (5, .iload_n 1, 0, 0, 0, 0), (6, .invokevirtual 52, 4179, 1814, 1, 7), (9, .laload, 0, 0, 0, 0), (10, .lreturn, 0, 0, 0, 0)]
set_option maxRecDepth 16000 in
theorem kbl_X5_numberAt : tcode 1802 = List.flatten [kb_X5_numberAt_0] := sorry
theorem kbs_X5_numberAt : ksort (tcode 1802) = true := sorry
theorem tb_X5_numberAt_0 {e : tE} {c : Bool} {d : Nat} {L : tL} {st : List tV} {M : tM} {n : Nat} {Q : tR → tM → Nat → Prop} (h : wB e c 1 d 1802 11 kb_X5_numberAt_0 L st M n Q) : tT e d 1802 0 L st M n Q := sorry
theorem bmx_X5_numberAt : (bmeth 1802).2.2.1 = 2 := sorry
theorem tst_X5_numberAt {e : tE} {d : Nat} {M : tM} {n : Nat} {Q : tR → tM → Nat → Prop} {r : Nat} {x1 : Int} (h : tT e d 1802 0 [some (.inr (.inr (.inl r))), some (.inl x1)] [] M n Q) : tC e d 1802 [.inr (.inr (.inl r)), .inl x1] M n Q := sorry
noncomputable def kb_X5_parse_0 : List (Nat × bO) := [(0, .aload_n 0, 0, 0, 0, 0), (1, .iconst 0, 0, 0, 0, 0), (2, .putfield 26, 2081, 7, 4, 0), (5, .aload_n 0, 0, 0, 0, 0), (6, .iconst 0, 0, 0, 0, 0), (7, .putfield 30, 2084, 7, 5, 0), (10, .aload_n 0, 0, 0, 0, 0), (11, .iconst 0, 0, 0, 0, 0), (12, .putfield 34, 2086, 7, 6, 0), (15, .aload_n 0, 0, 0, 0, 0), (16, .iconst 0, 0, 0, 0, 0), (17, .putfield 40, 2089, 7, 8, 0), (20, .aload_n 0, 0, 0, 0, 0), (21, .iconst 0, 0, 0, 0, 0), (22, .putfield 43, 2090, 7, 9, 0), (25, .aload_n 0, 0, 0, 0, 0), (26, .iconst 1, 0, 0, 0, 0), (27, .putfield 46, 2091, 7, 10, 0), (30, .aload_n 0, 0, 0, 0, 0), (31, .iconst 0, 0, 0, 0, 0), (32, .putfield 49, 2092, 7, 11, 0), (35, .iconst 0, 0, 0, 0, 0), (36, .istore_n 2, 0, 0, 0, 0)]
noncomputable def kb_X5_parse_37 : List (Nat × bO) := [(37, .iload_n 2, 0, 0, 0, 0), (38, .bipush 60, 0, 0, 0, 0), (40, .if_icmp .ge 50, 0, 90, 0, 0), (43, .aload_n 0, 0, 0, 0, 0), (44, .getfield 43, 2090, 7, 9, 0), (47, .aload_n 1, 0, 0, 0, 0), (48, .getfield 78, 1048, 12, 1, 0), (51, .if_icmp .ge 39, 0, 90, 0, 0), (54, .aload_n 0, 0, 0, 0, 0), (55, .getfield 46, 2091, 7, 10, 0), (58, .ifCond .eq 11, 0, 69, 0, 0), (61, .aload_n 0, 0, 0, 0, 0), (62, .aload_n 1, 0, 0, 0, 0), (63, .invokevirtual 81, 6178, 1810, 1, 7), (66, .goto 8, 0, 74, 0, 0)]
noncomputable def kb_X5_parse_69 : List (Nat × bO) := [(69, .aload_n 0, 0, 0, 0, 0), (70, .aload_n 1, 0, 0, 0, 0), (71, .invokevirtual 85, 6212, 1809, 1, 7)]
noncomputable def kb_X5_parse_74 : List (Nat × bO) := [(74, .istore_n 3, 0, 0, 0, 0), (75, .iload_n 3, 0, 0, 0, 0), (76, .ifCond .ne 8, 0, 84, 0, 0), (79, .aload_n 0, 0, 0, 0, 0), (80, .getfield 43, 2090, 7, 9, 0), (83, .ireturn, 0, 0, 0, 0)]
noncomputable def kb_X5_parse_84 : List (Nat × bO) := [(84, .iinc 2 1, 0, 0, 0, 0), (87, .goto (-50), 0, 37, 0, 0)]
noncomputable def kb_X5_parse_90 : List (Nat × bO) := [(90, .aload_n 0, 0, 0, 0, 0), (91, .getfield 46, 2091, 7, 10, 0), (94, .ifCond .eq 8, 0, 102, 0, 0), (97, .aload_n 0, 0, 0, 0, 0), (98, .getfield 43, 2090, 7, 9, 0), (101, .ireturn, 0, 0, 0, 0)]
noncomputable def kb_X5_parse_102 : List (Nat × bO) := [(102, .aload_n 0, 0, 0, 0, 0), (103, .invokevirtual 88, 6224, 1805, 0, 7), (106, .aload_n 0, 0, 0, 0, 0), (107, .invokevirtual 91, 6228, 1806, 0, 7), (110, .aload_n 0, 0, 0, 0, 0), (111, .getfield 40, 2089, 7, 8, 0), (114, .ifCond .le 8, 0, 122, 0, 0), (117, .aload_n 0, 0, 0, 0, 0), (118, .getfield 43, 2090, 7, 9, 0), (121, .ireturn, 0, 0, 0, 0)]
noncomputable def kb_X5_parse_122 : List (Nat × bO) := [(122, .aload_n 0, 0, 0, 0, 0), (123, .invokevirtual 94, 6233, 1796, 0, 7), (126, .aload_n 0, 0, 0, 0, 0), (127, .iconst 1, 0, 0, 0, 0), (128, .putfield 34, 2086, 7, 6, 0), (131, .iconst (-1), 0, 0, 0, 0), (132, .ireturn, 0, 0, 0, 0)]
set_option maxRecDepth 16000 in
theorem kbl_X5_parse : tcode 1803 = List.flatten [kb_X5_parse_0, kb_X5_parse_37, kb_X5_parse_69, kb_X5_parse_74, kb_X5_parse_84, kb_X5_parse_90, kb_X5_parse_102, kb_X5_parse_122] := sorry
theorem kbs_X5_parse : ksort (tcode 1803) = true := sorry
theorem tb_X5_parse_0 {e : tE} {c : Bool} {d : Nat} {L : tL} {st : List tV} {M : tM} {n : Nat} {Q : tR → tM → Nat → Prop} (h : wB e c 0 d 1803 37 kb_X5_parse_0 L st M n Q) : tT e d 1803 0 L st M n Q := sorry
theorem tb_X5_parse_37 {e : tE} {c : Bool} {d : Nat} {L : tL} {st : List tV} {M : tM} {n : Nat} {Q : tR → tM → Nat → Prop} (h : wB e c 0 d 1803 69 kb_X5_parse_37 L st M n Q) : tT e d 1803 37 L st M n Q := sorry
theorem tb_X5_parse_69 {e : tE} {c : Bool} {d : Nat} {L : tL} {st : List tV} {M : tM} {n : Nat} {Q : tR → tM → Nat → Prop} (h : wB e c 0 d 1803 74 kb_X5_parse_69 L st M n Q) : tT e d 1803 69 L st M n Q := sorry
theorem tb_X5_parse_74 {e : tE} {c : Bool} {d : Nat} {L : tL} {st : List tV} {M : tM} {n : Nat} {Q : tR → tM → Nat → Prop} (h : wB e c 0 d 1803 84 kb_X5_parse_74 L st M n Q) : tT e d 1803 74 L st M n Q := sorry
theorem tb_X5_parse_84 {e : tE} {c : Bool} {d : Nat} {L : tL} {st : List tV} {M : tM} {n : Nat} {Q : tR → tM → Nat → Prop} (h : wB e c 0 d 1803 90 kb_X5_parse_84 L st M n Q) : tT e d 1803 84 L st M n Q := sorry
theorem tb_X5_parse_90 {e : tE} {c : Bool} {d : Nat} {L : tL} {st : List tV} {M : tM} {n : Nat} {Q : tR → tM → Nat → Prop} (h : wB e c 0 d 1803 102 kb_X5_parse_90 L st M n Q) : tT e d 1803 90 L st M n Q := sorry
theorem tb_X5_parse_102 {e : tE} {c : Bool} {d : Nat} {L : tL} {st : List tV} {M : tM} {n : Nat} {Q : tR → tM → Nat → Prop} (h : wB e c 0 d 1803 122 kb_X5_parse_102 L st M n Q) : tT e d 1803 102 L st M n Q := sorry
theorem tb_X5_parse_122 {e : tE} {c : Bool} {d : Nat} {L : tL} {st : List tV} {M : tM} {n : Nat} {Q : tR → tM → Nat → Prop} (h : wB e c 0 d 1803 133 kb_X5_parse_122 L st M n Q) : tT e d 1803 122 L st M n Q := sorry
theorem bmx_X5_parse : (bmeth 1803).2.2.1 = 4 := sorry
theorem tst_X5_parse {e : tE} {d : Nat} {M : tM} {n : Nat} {Q : tR → tM → Nat → Prop} {r : Nat} {x1 : Nat ⊕ Nat} (h : tT e d 1803 0 [some (.inr (.inr (.inl r))), some (.inr (.inr x1)), none, none] [] M n Q) : tC e d 1803 [.inr (.inr (.inl r)), .inr (.inr x1)] M n Q := sorry
noncomputable def kb_X5_release_0 : List (Nat × bO) := [(0, .aload_n 0, 0, 0, 0, 0), (1, .aload_n 0, 0, 0, 0, 0), (2, .invokevirtual 70, 6197, 1800, 0, 7), (5, .lconst 0, 0, 0, 0, 0), (6, .aload_n 0, 0, 0, 0, 0), (7, .invokevirtual 70, 6197, 1800, 0, 7), (10, .bipush 114, 0, 0, 0, 0), (12, .if_icmp .ne 7, 0, 19, 0, 0), (15, .iconst 2, 0, 0, 0, 0), (16, .goto 4, 0, 20, 0, 0)]
noncomputable def kb_X5_release_19 : List (Nat × bO) := [(19, .iconst 0, 0, 0, 0, 0)]
noncomputable def kb_X5_release_20 : List (Nat × bO) := [(20, .invokevirtual 74, 6189, 1794, 3, 7), (23, .aload_n 0, 0, 0, 0, 0), (24, .dup, 0, 0, 0, 0), (25, .getfield 40, 2089, 7, 8, 0), (28, .iconst 1, 0, 0, 0, 0), (29, .isub, 0, 0, 0, 0), (30, .putfield 40, 2089, 7, 8, 0), (33, .return_, 0, 0, 0, 0)]
set_option maxRecDepth 16000 in
theorem kbl_X5_release : tcode 1804 = List.flatten [kb_X5_release_0, kb_X5_release_19, kb_X5_release_20] := sorry
theorem kbs_X5_release : ksort (tcode 1804) = true := sorry
theorem tb_X5_release_0 {e : tE} {c : Bool} {d : Nat} {L : tL} {st : List tV} {M : tM} {n : Nat} {Q : tR → tM → Nat → Prop} (h : wB e c 9 d 1804 19 kb_X5_release_0 L st M n Q) : tT e d 1804 0 L st M n Q := sorry
theorem tb_X5_release_19 {e : tE} {c : Bool} {d : Nat} {L : tL} {st : List tV} {M : tM} {n : Nat} {Q : tR → tM → Nat → Prop} (h : wB e c 9 d 1804 20 kb_X5_release_19 L st M n Q) : tT e d 1804 19 L st M n Q := sorry
theorem tb_X5_release_20 {e : tE} {c : Bool} {d : Nat} {L : tL} {st : List tV} {M : tM} {n : Nat} {Q : tR → tM → Nat → Prop} (h : wB e c 9 d 1804 34 kb_X5_release_20 L st M n Q) : tT e d 1804 20 L st M n Q := sorry
theorem bmx_X5_release : (bmeth 1804).2.2.1 = 1 := sorry
theorem tst_X5_release {e : tE} {d : Nat} {M : tM} {n : Nat} {Q : tR → tM → Nat → Prop} {r : Nat} (h : tT e d 1804 0 [some (.inr (.inr (.inl r)))] [] M n Q) : tC e d 1804 [.inr (.inr (.inl r))] M n Q := sorry
noncomputable def kb_X5_releaseProducts_0 : List (Nat × bO) := [(0, .iconst 0, 0, 0, 0, 0), (1, .istore_n 1, 0, 0, 0, 0)]
noncomputable def kb_X5_releaseProducts_2 : List (Nat × bO) := [(2, .iload_n 1, 0, 0, 0, 0), (3, .bipush 60, 0, 0, 0, 0), (5, .if_icmp .ge 31, 0, 36, 0, 0), (8, .aload_n 0, 0, 0, 0, 0), (9, .invokevirtual 70, 6197, 1800, 0, 7), (12, .bipush 42, 0, 0, 0, 0), (14, .if_icmp .eq 12, 0, 26, 0, 0), (17, .aload_n 0, 0, 0, 0, 0), (18, .invokevirtual 70, 6197, 1800, 0, 7), (21, .bipush 47, 0, 0, 0, 0), (23, .if_icmp .ne 13, 0, 36, 0, 0)]
noncomputable def kb_X5_releaseProducts_26 : List (Nat × bO) := [(26, .aload_n 0, 0, 0, 0, 0), (27, .invokevirtual 116, 6204, 1804, 0, 7), (30, .iinc 1 1, 0, 0, 0, 0), (33, .goto (-31), 0, 2, 0, 0)]
noncomputable def kb_X5_releaseProducts_36 : List (Nat × bO) := [(36, .return_, 0, 0, 0, 0)]
set_option maxRecDepth 16000 in
theorem kbl_X5_releaseProducts : tcode 1805 = List.flatten [kb_X5_releaseProducts_0, kb_X5_releaseProducts_2, kb_X5_releaseProducts_26, kb_X5_releaseProducts_36] := sorry
theorem kbs_X5_releaseProducts : ksort (tcode 1805) = true := sorry
theorem tb_X5_releaseProducts_0 {e : tE} {c : Bool} {d : Nat} {L : tL} {st : List tV} {M : tM} {n : Nat} {Q : tR → tM → Nat → Prop} (h : wB e c 9 d 1805 2 kb_X5_releaseProducts_0 L st M n Q) : tT e d 1805 0 L st M n Q := sorry
theorem tb_X5_releaseProducts_2 {e : tE} {c : Bool} {d : Nat} {L : tL} {st : List tV} {M : tM} {n : Nat} {Q : tR → tM → Nat → Prop} (h : wB e c 9 d 1805 26 kb_X5_releaseProducts_2 L st M n Q) : tT e d 1805 2 L st M n Q := sorry
theorem tb_X5_releaseProducts_26 {e : tE} {c : Bool} {d : Nat} {L : tL} {st : List tV} {M : tM} {n : Nat} {Q : tR → tM → Nat → Prop} (h : wB e c 9 d 1805 36 kb_X5_releaseProducts_26 L st M n Q) : tT e d 1805 26 L st M n Q := sorry
theorem tb_X5_releaseProducts_36 {e : tE} {c : Bool} {d : Nat} {L : tL} {st : List tV} {M : tM} {n : Nat} {Q : tR → tM → Nat → Prop} (h : wB e c 9 d 1805 37 kb_X5_releaseProducts_36 L st M n Q) : tT e d 1805 36 L st M n Q := sorry
theorem bmx_X5_releaseProducts : (bmeth 1805).2.2.1 = 2 := sorry
theorem tst_X5_releaseProducts {e : tE} {d : Nat} {M : tM} {n : Nat} {Q : tR → tM → Nat → Prop} {r : Nat} (h : tT e d 1805 0 [some (.inr (.inr (.inl r))), none] [] M n Q) : tC e d 1805 [.inr (.inr (.inl r))] M n Q := sorry
noncomputable def kb_X5_releaseSums_0 : List (Nat × bO) := [(0, .iconst 0, 0, 0, 0, 0), (1, .istore_n 1, 0, 0, 0, 0)]
noncomputable def kb_X5_releaseSums_2 : List (Nat × bO) := [(2, .iload_n 1, 0, 0, 0, 0), (3, .bipush 60, 0, 0, 0, 0), (5, .if_icmp .ge 31, 0, 36, 0, 0), (8, .aload_n 0, 0, 0, 0, 0), (9, .invokevirtual 70, 6197, 1800, 0, 7), (12, .bipush 43, 0, 0, 0, 0), (14, .if_icmp .eq 12, 0, 26, 0, 0), (17, .aload_n 0, 0, 0, 0, 0), (18, .invokevirtual 70, 6197, 1800, 0, 7), (21, .bipush 45, 0, 0, 0, 0), (23, .if_icmp .ne 13, 0, 36, 0, 0)]
noncomputable def kb_X5_releaseSums_26 : List (Nat × bO) := [(26, .aload_n 0, 0, 0, 0, 0), (27, .invokevirtual 116, 6204, 1804, 0, 7), (30, .iinc 1 1, 0, 0, 0, 0), (33, .goto (-31), 0, 2, 0, 0)]
noncomputable def kb_X5_releaseSums_36 : List (Nat × bO) := [(36, .return_, 0, 0, 0, 0)]
set_option maxRecDepth 16000 in
theorem kbl_X5_releaseSums : tcode 1806 = List.flatten [kb_X5_releaseSums_0, kb_X5_releaseSums_2, kb_X5_releaseSums_26, kb_X5_releaseSums_36] := sorry
theorem kbs_X5_releaseSums : ksort (tcode 1806) = true := sorry
theorem tb_X5_releaseSums_0 {e : tE} {c : Bool} {d : Nat} {L : tL} {st : List tV} {M : tM} {n : Nat} {Q : tR → tM → Nat → Prop} (h : wB e c 9 d 1806 2 kb_X5_releaseSums_0 L st M n Q) : tT e d 1806 0 L st M n Q := sorry
theorem tb_X5_releaseSums_2 {e : tE} {c : Bool} {d : Nat} {L : tL} {st : List tV} {M : tM} {n : Nat} {Q : tR → tM → Nat → Prop} (h : wB e c 9 d 1806 26 kb_X5_releaseSums_2 L st M n Q) : tT e d 1806 2 L st M n Q := sorry
theorem tb_X5_releaseSums_26 {e : tE} {c : Bool} {d : Nat} {L : tL} {st : List tV} {M : tM} {n : Nat} {Q : tR → tM → Nat → Prop} (h : wB e c 9 d 1806 36 kb_X5_releaseSums_26 L st M n Q) : tT e d 1806 26 L st M n Q := sorry
theorem tb_X5_releaseSums_36 {e : tE} {c : Bool} {d : Nat} {L : tL} {st : List tV} {M : tM} {n : Nat} {Q : tR → tM → Nat → Prop} (h : wB e c 9 d 1806 37 kb_X5_releaseSums_36 L st M n Q) : tT e d 1806 36 L st M n Q := sorry
theorem bmx_X5_releaseSums : (bmeth 1806).2.2.1 = 2 := sorry
theorem tst_X5_releaseSums {e : tE} {d : Nat} {M : tM} {n : Nat} {Q : tR → tM → Nat → Prop} {r : Nat} (h : tT e d 1806 0 [some (.inr (.inr (.inl r))), none] [] M n Q) : tC e d 1806 [.inr (.inr (.inl r))] M n Q := sorry
noncomputable def kb_X5_scaleAt_0 : List (Nat × bO) := [(0, .aload_n 0, 0, 0, 0, 0), (1, .getfield 19, 2079, 7, 2, 0), (4, .aload_n 0, 0, 0, 0, 0), (5, .iload_n 1, 0, 0, 0, 0), (6, .invokevirtual 52, 4179, 1814, 1, 7), (9, .iaload, 0, 0, 0, 0), (10, .ireturn, 0, 0, 0, 0)]
set_option maxRecDepth 16000 in
theorem kbl_X5_scaleAt : tcode 1807 = List.flatten [kb_X5_scaleAt_0] := sorry
theorem kbs_X5_scaleAt : ksort (tcode 1807) = true := sorry
theorem tb_X5_scaleAt_0 {e : tE} {c : Bool} {d : Nat} {L : tL} {st : List tV} {M : tM} {n : Nat} {Q : tR → tM → Nat → Prop} (h : wB e c 0 d 1807 11 kb_X5_scaleAt_0 L st M n Q) : tT e d 1807 0 L st M n Q := sorry
theorem bmx_X5_scaleAt : (bmeth 1807).2.2.1 = 2 := sorry
theorem tst_X5_scaleAt {e : tE} {d : Nat} {M : tM} {n : Nat} {Q : tR → tM → Nat → Prop} {r : Nat} {x1 : Int} (h : tT e d 1807 0 [some (.inr (.inr (.inl r))), some (.inl x1)] [] M n Q) : tC e d 1807 [.inr (.inr (.inl r)), .inl x1] M n Q := sorry
noncomputable def kb_X5_startOf_0 : List (Nat × bO) := [(0, .aload_n 0, 0, 0, 0, 0), (1, .getfield 23, 2080, 7, 3, 0), (4, .aload_n 0, 0, 0, 0, 0), (5, .iload_n 1, 0, 0, 0, 0), (6, .invokevirtual 52, 4179, 1814, 1, 7), (9, .iaload, 0, 0, 0, 0), (10, .ireturn, 0, 0, 0, 0)]
set_option maxRecDepth 16000 in
theorem kbl_X5_startOf : tcode 1808 = List.flatten [kb_X5_startOf_0] := sorry
theorem kbs_X5_startOf : ksort (tcode 1808) = true := sorry
theorem tb_X5_startOf_0 {e : tE} {c : Bool} {d : Nat} {L : tL} {st : List tV} {M : tM} {n : Nat} {Q : tR → tM → Nat → Prop} (h : wB e c 0 d 1808 11 kb_X5_startOf_0 L st M n Q) : tT e d 1808 0 L st M n Q := sorry
theorem bmx_X5_startOf : (bmeth 1808).2.2.1 = 2 := sorry
theorem tst_X5_startOf {e : tE} {d : Nat} {M : tM} {n : Nat} {Q : tR → tM → Nat → Prop} {r : Nat} {x1 : Int} (h : tT e d 1808 0 [some (.inr (.inr (.inl r))), some (.inl x1)] [] M n Q) : tC e d 1808 [.inr (.inr (.inl r)), .inl x1] M n Q := sorry
noncomputable def kb_X5_takesAct_0 : List (Nat × bO) := [(0, .aload_n 1, 0, 0, 0, 0), (1, .aload_n 0, 0, 0, 0, 0), (2, .getfield 43, 2090, 7, 9, 0), (5, .invokevirtual 104, 6188, 3075, 1, 12), (8, .istore_n 2, 0, 0, 0, 0), (9, .iload_n 2, 0, 0, 0, 0), (10, .bipush 94, 0, 0, 0, 0), (12, .if_icmp .ne 9, 0, 21, 0, 0), (15, .aload_n 0, 0, 0, 0, 0), (16, .aload_n 1, 0, 0, 0, 0), (17, .invokevirtual 119, 6216, 1812, 1, 7), (20, .ireturn, 0, 0, 0, 0)]
noncomputable def kb_X5_takesAct_21 : List (Nat × bO) := [(21, .iload_n 2, 0, 0, 0, 0), (22, .bipush 41, 0, 0, 0, 0), (24, .if_icmp .ne 8, 0, 32, 0, 0), (27, .aload_n 0, 0, 0, 0, 0), (28, .invokevirtual 122, 6220, 1811, 0, 7), (31, .ireturn, 0, 0, 0, 0)]
noncomputable def kb_X5_takesAct_32 : List (Nat × bO) := [(32, .iload_n 2, 0, 0, 0, 0), (33, .invokestatic 60, 6232, 1799, 1, 0), (36, .ifCond .ne 5, 0, 41, 0, 0), (39, .iconst 0, 0, 0, 0, 0), (40, .ireturn, 0, 0, 0, 0)]
noncomputable def kb_X5_takesAct_41 : List (Nat × bO) := [(41, .aload_n 0, 0, 0, 0, 0), (42, .invokevirtual 88, 6224, 1805, 0, 7), (45, .iload_n 2, 0, 0, 0, 0), (46, .bipush 43, 0, 0, 0, 0), (48, .if_icmp .eq 9, 0, 57, 0, 0), (51, .iload_n 2, 0, 0, 0, 0), (52, .bipush 45, 0, 0, 0, 0), (54, .if_icmp .ne 7, 0, 61, 0, 0)]
noncomputable def kb_X5_takesAct_57 : List (Nat × bO) := [(57, .aload_n 0, 0, 0, 0, 0), (58, .invokevirtual 91, 6228, 1806, 0, 7)]
noncomputable def kb_X5_takesAct_61 : List (Nat × bO) := [(61, .aload_n 0, 0, 0, 0, 0), (62, .iload_n 2, 0, 0, 0, 0), (63, .invokevirtual 110, 6208, 1797, 1, 7), (66, .aload_n 0, 0, 0, 0, 0), (67, .iconst 1, 0, 0, 0, 0), (68, .putfield 46, 2091, 7, 10, 0), (71, .aload_n 0, 0, 0, 0, 0), (72, .dup, 0, 0, 0, 0), (73, .getfield 43, 2090, 7, 9, 0), (76, .iconst 1, 0, 0, 0, 0), (77, .iadd, 0, 0, 0, 0), (78, .putfield 43, 2090, 7, 9, 0), (81, .iconst 1, 0, 0, 0, 0), (82, .ireturn, 0, 0, 0, 0)]
set_option maxRecDepth 16000 in
theorem kbl_X5_takesAct : tcode 1809 = List.flatten [kb_X5_takesAct_0, kb_X5_takesAct_21, kb_X5_takesAct_32, kb_X5_takesAct_41, kb_X5_takesAct_57, kb_X5_takesAct_61] := sorry
theorem kbs_X5_takesAct : ksort (tcode 1809) = true := sorry
theorem tb_X5_takesAct_0 {e : tE} {c : Bool} {d : Nat} {L : tL} {st : List tV} {M : tM} {n : Nat} {Q : tR → tM → Nat → Prop} (h : wB e c 3 d 1809 21 kb_X5_takesAct_0 L st M n Q) : tT e d 1809 0 L st M n Q := sorry
theorem tb_X5_takesAct_21 {e : tE} {c : Bool} {d : Nat} {L : tL} {st : List tV} {M : tM} {n : Nat} {Q : tR → tM → Nat → Prop} (h : wB e c 3 d 1809 32 kb_X5_takesAct_21 L st M n Q) : tT e d 1809 21 L st M n Q := sorry
theorem tb_X5_takesAct_32 {e : tE} {c : Bool} {d : Nat} {L : tL} {st : List tV} {M : tM} {n : Nat} {Q : tR → tM → Nat → Prop} (h : wB e c 3 d 1809 41 kb_X5_takesAct_32 L st M n Q) : tT e d 1809 32 L st M n Q := sorry
theorem tb_X5_takesAct_41 {e : tE} {c : Bool} {d : Nat} {L : tL} {st : List tV} {M : tM} {n : Nat} {Q : tR → tM → Nat → Prop} (h : wB e c 3 d 1809 57 kb_X5_takesAct_41 L st M n Q) : tT e d 1809 41 L st M n Q := sorry
theorem tb_X5_takesAct_57 {e : tE} {c : Bool} {d : Nat} {L : tL} {st : List tV} {M : tM} {n : Nat} {Q : tR → tM → Nat → Prop} (h : wB e c 3 d 1809 61 kb_X5_takesAct_57 L st M n Q) : tT e d 1809 57 L st M n Q := sorry
theorem tb_X5_takesAct_61 {e : tE} {c : Bool} {d : Nat} {L : tL} {st : List tV} {M : tM} {n : Nat} {Q : tR → tM → Nat → Prop} (h : wB e c 3 d 1809 83 kb_X5_takesAct_61 L st M n Q) : tT e d 1809 61 L st M n Q := sorry
theorem bmx_X5_takesAct : (bmeth 1809).2.2.1 = 3 := sorry
theorem tst_X5_takesAct {e : tE} {d : Nat} {M : tM} {n : Nat} {Q : tR → tM → Nat → Prop} {r : Nat} {x1 : Nat ⊕ Nat} (h : tT e d 1809 0 [some (.inr (.inr (.inl r))), some (.inr (.inr x1)), none] [] M n Q) : tC e d 1809 [.inr (.inr (.inl r)), .inr (.inr x1)] M n Q := sorry
noncomputable def kb_X5_takesAtom_0 : List (Nat × bO) := [(0, .aload_n 1, 0, 0, 0, 0), (1, .aload_n 0, 0, 0, 0, 0), (2, .getfield 43, 2090, 7, 9, 0), (5, .invokevirtual 97, 6182, 3077, 1, 12), (8, .ifCond .eq 9, 0, 17, 0, 0), (11, .aload_n 0, 0, 0, 0, 0), (12, .aload_n 1, 0, 0, 0, 0), (13, .invokevirtual 101, 6183, 1813, 1, 7), (16, .ireturn, 0, 0, 0, 0)]
noncomputable def kb_X5_takesAtom_17 : List (Nat × bO) := [(17, .aload_n 1, 0, 0, 0, 0), (18, .aload_n 0, 0, 0, 0, 0), (19, .getfield 43, 2090, 7, 9, 0), (22, .invokevirtual 104, 6188, 3075, 1, 12), (25, .istore_n 2, 0, 0, 0, 0), (26, .iload_n 2, 0, 0, 0, 0), (27, .bipush 120, 0, 0, 0, 0), (29, .if_icmp .eq 15, 0, 44, 0, 0), (32, .iload_n 2, 0, 0, 0, 0), (33, .bipush 121, 0, 0, 0, 0), (35, .if_icmp .eq 9, 0, 44, 0, 0), (38, .iload_n 2, 0, 0, 0, 0), (39, .bipush 112, 0, 0, 0, 0), (41, .if_icmp .ne 39, 0, 80, 0, 0)]
noncomputable def kb_X5_takesAtom_44 : List (Nat × bO) := [(44, .aload_n 0, 0, 0, 0, 0), (45, .iload_n 2, 0, 0, 0, 0), (46, .lconst 0, 0, 0, 0, 0), (47, .iconst 0, 0, 0, 0, 0), (48, .invokevirtual 74, 6189, 1794, 3, 7), (51, .aload_n 0, 0, 0, 0, 0), (52, .aload_n 0, 0, 0, 0, 0), (53, .getfield 30, 2084, 7, 5, 0), (56, .ifCond .ne 9, 0, 65, 0, 0), (59, .iload_n 2, 0, 0, 0, 0), (60, .bipush 121, 0, 0, 0, 0), (62, .if_icmp .ne 7, 0, 69, 0, 0)]
noncomputable def kb_X5_takesAtom_65 : List (Nat × bO) := [(65, .iconst 1, 0, 0, 0, 0), (66, .goto 4, 0, 70, 0, 0)]
noncomputable def kb_X5_takesAtom_69 : List (Nat × bO) := [(69, .iconst 0, 0, 0, 0, 0)]
noncomputable def kb_X5_takesAtom_70 : List (Nat × bO) := [(70, .putfield 30, 2084, 7, 5, 0), (73, .aload_n 0, 0, 0, 0, 0), (74, .invokevirtual 107, 6193, 1795, 0, 7), (77, .goto 47, 0, 124, 0, 0)]
noncomputable def kb_X5_takesAtom_80 : List (Nat × bO) := [(80, .iload_n 2, 0, 0, 0, 0), (81, .bipush 45, 0, 0, 0, 0), (83, .if_icmp .ne 12, 0, 95, 0, 0), (86, .aload_n 0, 0, 0, 0, 0), (87, .bipush 126, 0, 0, 0, 0), (89, .invokevirtual 110, 6208, 1797, 1, 7), (92, .goto 32, 0, 124, 0, 0)]
noncomputable def kb_X5_takesAtom_95 : List (Nat × bO) := [(95, .iload_n 2, 0, 0, 0, 0), (96, .bipush 40, 0, 0, 0, 0), (98, .if_icmp .eq 16, 0, 114, 0, 0), (101, .iload_n 2, 0, 0, 0, 0), (102, .invokestatic 67, 6201, 1798, 1, 0), (105, .ifCond .eq 17, 0, 122, 0, 0), (108, .iload_n 2, 0, 0, 0, 0), (109, .bipush 126, 0, 0, 0, 0), (111, .if_icmp .eq 11, 0, 122, 0, 0)]
noncomputable def kb_X5_takesAtom_114 : List (Nat × bO) := [(114, .aload_n 0, 0, 0, 0, 0), (115, .iload_n 2, 0, 0, 0, 0), (116, .invokevirtual 110, 6208, 1797, 1, 7), (119, .goto 5, 0, 124, 0, 0)]
noncomputable def kb_X5_takesAtom_122 : List (Nat × bO) := [(122, .iconst 0, 0, 0, 0, 0), (123, .ireturn, 0, 0, 0, 0)]
noncomputable def kb_X5_takesAtom_124 : List (Nat × bO) := [(124, .aload_n 0, 0, 0, 0, 0), (125, .dup, 0, 0, 0, 0), (126, .getfield 43, 2090, 7, 9, 0), (129, .iconst 1, 0, 0, 0, 0), (130, .iadd, 0, 0, 0, 0), (131, .putfield 43, 2090, 7, 9, 0), (134, .iconst 1, 0, 0, 0, 0), (135, .ireturn, 0, 0, 0, 0)]
set_option maxRecDepth 16000 in
theorem kbl_X5_takesAtom : tcode 1810 = List.flatten [kb_X5_takesAtom_0, kb_X5_takesAtom_17, kb_X5_takesAtom_44, kb_X5_takesAtom_65, kb_X5_takesAtom_69, kb_X5_takesAtom_70, kb_X5_takesAtom_80, kb_X5_takesAtom_95, kb_X5_takesAtom_114, kb_X5_takesAtom_122, kb_X5_takesAtom_124] := sorry
theorem kbs_X5_takesAtom : ksort (tcode 1810) = true := sorry
theorem tb_X5_takesAtom_0 {e : tE} {c : Bool} {d : Nat} {L : tL} {st : List tV} {M : tM} {n : Nat} {Q : tR → tM → Nat → Prop} (h : wB e c 3 d 1810 17 kb_X5_takesAtom_0 L st M n Q) : tT e d 1810 0 L st M n Q := sorry
theorem tb_X5_takesAtom_17 {e : tE} {c : Bool} {d : Nat} {L : tL} {st : List tV} {M : tM} {n : Nat} {Q : tR → tM → Nat → Prop} (h : wB e c 3 d 1810 44 kb_X5_takesAtom_17 L st M n Q) : tT e d 1810 17 L st M n Q := sorry
theorem tb_X5_takesAtom_44 {e : tE} {c : Bool} {d : Nat} {L : tL} {st : List tV} {M : tM} {n : Nat} {Q : tR → tM → Nat → Prop} (h : wB e c 3 d 1810 65 kb_X5_takesAtom_44 L st M n Q) : tT e d 1810 44 L st M n Q := sorry
theorem tb_X5_takesAtom_65 {e : tE} {c : Bool} {d : Nat} {L : tL} {st : List tV} {M : tM} {n : Nat} {Q : tR → tM → Nat → Prop} (h : wB e c 3 d 1810 69 kb_X5_takesAtom_65 L st M n Q) : tT e d 1810 65 L st M n Q := sorry
theorem tb_X5_takesAtom_69 {e : tE} {c : Bool} {d : Nat} {L : tL} {st : List tV} {M : tM} {n : Nat} {Q : tR → tM → Nat → Prop} (h : wB e c 3 d 1810 70 kb_X5_takesAtom_69 L st M n Q) : tT e d 1810 69 L st M n Q := sorry
theorem tb_X5_takesAtom_70 {e : tE} {c : Bool} {d : Nat} {L : tL} {st : List tV} {M : tM} {n : Nat} {Q : tR → tM → Nat → Prop} (h : wB e c 3 d 1810 80 kb_X5_takesAtom_70 L st M n Q) : tT e d 1810 70 L st M n Q := sorry
theorem tb_X5_takesAtom_80 {e : tE} {c : Bool} {d : Nat} {L : tL} {st : List tV} {M : tM} {n : Nat} {Q : tR → tM → Nat → Prop} (h : wB e c 3 d 1810 95 kb_X5_takesAtom_80 L st M n Q) : tT e d 1810 80 L st M n Q := sorry
theorem tb_X5_takesAtom_95 {e : tE} {c : Bool} {d : Nat} {L : tL} {st : List tV} {M : tM} {n : Nat} {Q : tR → tM → Nat → Prop} (h : wB e c 3 d 1810 114 kb_X5_takesAtom_95 L st M n Q) : tT e d 1810 95 L st M n Q := sorry
theorem tb_X5_takesAtom_114 {e : tE} {c : Bool} {d : Nat} {L : tL} {st : List tV} {M : tM} {n : Nat} {Q : tR → tM → Nat → Prop} (h : wB e c 3 d 1810 122 kb_X5_takesAtom_114 L st M n Q) : tT e d 1810 114 L st M n Q := sorry
theorem tb_X5_takesAtom_122 {e : tE} {c : Bool} {d : Nat} {L : tL} {st : List tV} {M : tM} {n : Nat} {Q : tR → tM → Nat → Prop} (h : wB e c 3 d 1810 124 kb_X5_takesAtom_122 L st M n Q) : tT e d 1810 122 L st M n Q := sorry
theorem tb_X5_takesAtom_124 {e : tE} {c : Bool} {d : Nat} {L : tL} {st : List tV} {M : tM} {n : Nat} {Q : tR → tM → Nat → Prop} (h : wB e c 3 d 1810 136 kb_X5_takesAtom_124 L st M n Q) : tT e d 1810 124 L st M n Q := sorry
theorem bmx_X5_takesAtom : (bmeth 1810).2.2.1 = 3 := sorry
theorem tst_X5_takesAtom {e : tE} {d : Nat} {M : tM} {n : Nat} {Q : tR → tM → Nat → Prop} {r : Nat} {x1 : Nat ⊕ Nat} (h : tT e d 1810 0 [some (.inr (.inr (.inl r))), some (.inr (.inr x1)), none] [] M n Q) : tC e d 1810 [.inr (.inr (.inl r)), .inr (.inr x1)] M n Q := sorry
noncomputable def kb_X5_takesClosing_0 : List (Nat × bO) := [(0, .aload_n 0, 0, 0, 0, 0), (1, .invokevirtual 88, 6224, 1805, 0, 7), (4, .aload_n 0, 0, 0, 0, 0), (5, .invokevirtual 91, 6228, 1806, 0, 7), (8, .aload_n 0, 0, 0, 0, 0), (9, .invokevirtual 70, 6197, 1800, 0, 7), (12, .bipush 40, 0, 0, 0, 0), (14, .if_icmp .eq 5, 0, 19, 0, 0), (17, .iconst 0, 0, 0, 0, 0), (18, .ireturn, 0, 0, 0, 0)]
noncomputable def kb_X5_takesClosing_19 : List (Nat × bO) := [(19, .aload_n 0, 0, 0, 0, 0), (20, .dup, 0, 0, 0, 0), (21, .getfield 40, 2089, 7, 8, 0), (24, .iconst 1, 0, 0, 0, 0), (25, .isub, 0, 0, 0, 0), (26, .putfield 40, 2089, 7, 8, 0), (29, .aload_n 0, 0, 0, 0, 0), (30, .dup, 0, 0, 0, 0), (31, .getfield 43, 2090, 7, 9, 0), (34, .iconst 1, 0, 0, 0, 0), (35, .iadd, 0, 0, 0, 0), (36, .putfield 43, 2090, 7, 9, 0), (39, .aload_n 0, 0, 0, 0, 0), (40, .invokevirtual 107, 6193, 1795, 0, 7), (43, .iconst 1, 0, 0, 0, 0), (44, .ireturn, 0, 0, 0, 0)]
set_option maxRecDepth 16000 in
theorem kbl_X5_takesClosing : tcode 1811 = List.flatten [kb_X5_takesClosing_0, kb_X5_takesClosing_19] := sorry
theorem kbs_X5_takesClosing : ksort (tcode 1811) = true := sorry
theorem tb_X5_takesClosing_0 {e : tE} {c : Bool} {d : Nat} {L : tL} {st : List tV} {M : tM} {n : Nat} {Q : tR → tM → Nat → Prop} (h : wB e c 3 d 1811 19 kb_X5_takesClosing_0 L st M n Q) : tT e d 1811 0 L st M n Q := sorry
theorem tb_X5_takesClosing_19 {e : tE} {c : Bool} {d : Nat} {L : tL} {st : List tV} {M : tM} {n : Nat} {Q : tR → tM → Nat → Prop} (h : wB e c 3 d 1811 45 kb_X5_takesClosing_19 L st M n Q) : tT e d 1811 19 L st M n Q := sorry
theorem bmx_X5_takesClosing : (bmeth 1811).2.2.1 = 1 := sorry
theorem tst_X5_takesClosing {e : tE} {d : Nat} {M : tM} {n : Nat} {Q : tR → tM → Nat → Prop} {r : Nat} (h : tT e d 1811 0 [some (.inr (.inr (.inl r)))] [] M n Q) : tC e d 1811 [.inr (.inr (.inl r))] M n Q := sorry
noncomputable def kb_X5_takesExponent_0 : List (Nat × bO) := [(0, .aload_n 0, 0, 0, 0, 0), (1, .getfield 49, 2092, 7, 11, 0), (4, .ifCond .ne 5, 0, 9, 0, 0), (7, .iconst 0, 0, 0, 0, 0), (8, .ireturn, 0, 0, 0, 0)]
noncomputable def kb_X5_takesExponent_9 : List (Nat × bO) := [(9, .aload_n 0, 0, 0, 0, 0), (10, .dup, 0, 0, 0, 0), (11, .getfield 43, 2090, 7, 9, 0), (14, .iconst 1, 0, 0, 0, 0), (15, .iadd, 0, 0, 0, 0), (16, .putfield 43, 2090, 7, 9, 0), (19, .aload_n 1, 0, 0, 0, 0), (20, .aload_n 0, 0, 0, 0, 0), (21, .getfield 43, 2090, 7, 9, 0), (24, .invokevirtual 97, 6182, 3077, 1, 12), (27, .ifCond .ne 5, 0, 32, 0, 0), (30, .iconst 0, 0, 0, 0, 0), (31, .ireturn, 0, 0, 0, 0)]
noncomputable def kb_X5_takesExponent_32 : List (Nat × bO) := [(32, .aload_n 0, 0, 0, 0, 0), (33, .bipush 94, 0, 0, 0, 0), (35, .lconst 0, 0, 0, 0, 0), (36, .aload_n 1, 0, 0, 0, 0), (37, .aload_n 0, 0, 0, 0, 0), (38, .getfield 43, 2090, 7, 9, 0), (41, .invokevirtual 104, 6188, 3075, 1, 12), (44, .bipush 48, 0, 0, 0, 0), (46, .isub, 0, 0, 0, 0), (47, .invokevirtual 74, 6189, 1794, 3, 7), (50, .aload_n 0, 0, 0, 0, 0), (51, .iconst 0, 0, 0, 0, 0), (52, .putfield 49, 2092, 7, 11, 0), (55, .aload_n 0, 0, 0, 0, 0), (56, .dup, 0, 0, 0, 0), (57, .getfield 43, 2090, 7, 9, 0), (60, .iconst 1, 0, 0, 0, 0), (61, .iadd, 0, 0, 0, 0), (62, .putfield 43, 2090, 7, 9, 0), (65, .iconst 1, 0, 0, 0, 0), (66, .ireturn, 0, 0, 0, 0)]
set_option maxRecDepth 16000 in
theorem kbl_X5_takesExponent : tcode 1812 = List.flatten [kb_X5_takesExponent_0, kb_X5_takesExponent_9, kb_X5_takesExponent_32] := sorry
theorem kbs_X5_takesExponent : ksort (tcode 1812) = true := sorry
theorem tb_X5_takesExponent_0 {e : tE} {c : Bool} {d : Nat} {L : tL} {st : List tV} {M : tM} {n : Nat} {Q : tR → tM → Nat → Prop} (h : wB e c 3 d 1812 9 kb_X5_takesExponent_0 L st M n Q) : tT e d 1812 0 L st M n Q := sorry
theorem tb_X5_takesExponent_9 {e : tE} {c : Bool} {d : Nat} {L : tL} {st : List tV} {M : tM} {n : Nat} {Q : tR → tM → Nat → Prop} (h : wB e c 3 d 1812 32 kb_X5_takesExponent_9 L st M n Q) : tT e d 1812 9 L st M n Q := sorry
theorem tb_X5_takesExponent_32 {e : tE} {c : Bool} {d : Nat} {L : tL} {st : List tV} {M : tM} {n : Nat} {Q : tR → tM → Nat → Prop} (h : wB e c 3 d 1812 67 kb_X5_takesExponent_32 L st M n Q) : tT e d 1812 32 L st M n Q := sorry
theorem bmx_X5_takesExponent : (bmeth 1812).2.2.1 = 2 := sorry
theorem tst_X5_takesExponent {e : tE} {d : Nat} {M : tM} {n : Nat} {Q : tR → tM → Nat → Prop} {r : Nat} {x1 : Nat ⊕ Nat} (h : tT e d 1812 0 [some (.inr (.inr (.inl r))), some (.inr (.inr x1))] [] M n Q) : tC e d 1812 [.inr (.inr (.inl r)), .inr (.inr x1)] M n Q := sorry
noncomputable def kb_X5_takesNumber_0 : List (Nat × bO) := [(0, .lconst 0, 0, 0, 0, 0), (1, .lstore_n 2, 0, 0, 0, 0), (2, .iconst 0, 0, 0, 0, 0), (3, .istore 4, 0, 0, 0, 0), (5, .iconst 0, 0, 0, 0, 0), (6, .istore 5, 0, 0, 0, 0), (8, .iconst 0, 0, 0, 0, 0), (9, .istore 6, 0, 0, 0, 0), (11, .iconst 0, 0, 0, 0, 0), (12, .istore 7, 0, 0, 0, 0)]
noncomputable def kb_X5_takesNumber_14 : List (Nat × bO) := [(14, .iload 7, 0, 0, 0, 0), (16, .bipush 60, 0, 0, 0, 0), (18, .if_icmp .ge 100, 0, 118, 0, 0), (21, .aload_n 1, 0, 0, 0, 0), (22, .aload_n 0, 0, 0, 0, 0), (23, .getfield 43, 2090, 7, 9, 0), (26, .invokevirtual 97, 6182, 3077, 1, 12), (29, .ifCond .eq 52, 0, 81, 0, 0), (32, .iload 4, 0, 0, 0, 0), (34, .bipush 12, 0, 0, 0, 0), (36, .if_icmp .ne 5, 0, 41, 0, 0), (39, .iconst 0, 0, 0, 0, 0), (40, .ireturn, 0, 0, 0, 0)]
noncomputable def kb_X5_takesNumber_41 : List (Nat × bO) := [(41, .lload_n 2, 0, 0, 0, 0), (42, .ldc2_w 114, 6187, 0, 0, 10), (45, .lmul, 0, 0, 0, 0), (46, .aload_n 1, 0, 0, 0, 0), (47, .aload_n 0, 0, 0, 0, 0), (48, .getfield 43, 2090, 7, 9, 0), (51, .invokevirtual 104, 6188, 3075, 1, 12), (54, .bipush 48, 0, 0, 0, 0), (56, .isub, 0, 0, 0, 0), (57, .i2l, 0, 0, 0, 0), (58, .ladd, 0, 0, 0, 0), (59, .lstore_n 2, 0, 0, 0, 0), (60, .iinc 4 1, 0, 0, 0, 0), (63, .iload 5, 0, 0, 0, 0), (65, .iload 6, 0, 0, 0, 0), (67, .ifCond .eq 7, 0, 74, 0, 0), (70, .iconst 1, 0, 0, 0, 0), (71, .goto 4, 0, 75, 0, 0)]
noncomputable def kb_X5_takesNumber_74 : List (Nat × bO) := [(74, .iconst 0, 0, 0, 0, 0)]
noncomputable def kb_X5_takesNumber_75 : List (Nat × bO) := [(75, .iadd, 0, 0, 0, 0), (76, .istore 5, 0, 0, 0, 0), (78, .goto 24, 0, 102, 0, 0)]
noncomputable def kb_X5_takesNumber_81 : List (Nat × bO) := [(81, .aload_n 1, 0, 0, 0, 0), (82, .aload_n 0, 0, 0, 0, 0), (83, .getfield 43, 2090, 7, 9, 0), (86, .invokevirtual 104, 6188, 3075, 1, 12), (89, .bipush 46, 0, 0, 0, 0), (91, .if_icmp .ne 27, 0, 118, 0, 0), (94, .iload 6, 0, 0, 0, 0), (96, .ifCond .ne 22, 0, 118, 0, 0), (99, .iconst 1, 0, 0, 0, 0), (100, .istore 6, 0, 0, 0, 0)]
noncomputable def kb_X5_takesNumber_102 : List (Nat × bO) := [(102, .aload_n 0, 0, 0, 0, 0), (103, .dup, 0, 0, 0, 0), (104, .getfield 43, 2090, 7, 9, 0), (107, .iconst 1, 0, 0, 0, 0), (108, .iadd, 0, 0, 0, 0), (109, .putfield 43, 2090, 7, 9, 0), (112, .iinc 7 1, 0, 0, 0, 0), (115, .goto (-101), 0, 14, 0, 0)]
noncomputable def kb_X5_takesNumber_118 : List (Nat × bO) := [(118, .iload 6, 0, 0, 0, 0), (120, .ifCond .eq 10, 0, 130, 0, 0), (123, .iload 5, 0, 0, 0, 0), (125, .ifCond .ne 5, 0, 130, 0, 0), (128, .iconst 0, 0, 0, 0, 0), (129, .ireturn, 0, 0, 0, 0)]
noncomputable def kb_X5_takesNumber_130 : List (Nat × bO) := [(130, .aload_n 0, 0, 0, 0, 0), (131, .bipush 35, 0, 0, 0, 0), (133, .lload_n 2, 0, 0, 0, 0), (134, .iload 5, 0, 0, 0, 0), (136, .invokevirtual 74, 6189, 1794, 3, 7), (139, .aload_n 0, 0, 0, 0, 0), (140, .invokevirtual 107, 6193, 1795, 0, 7), (143, .iconst 1, 0, 0, 0, 0), (144, .ireturn, 0, 0, 0, 0)]
set_option maxRecDepth 16000 in
theorem kbl_X5_takesNumber : tcode 1813 = List.flatten [kb_X5_takesNumber_0, kb_X5_takesNumber_14, kb_X5_takesNumber_41, kb_X5_takesNumber_74, kb_X5_takesNumber_75, kb_X5_takesNumber_81, kb_X5_takesNumber_102, kb_X5_takesNumber_118, kb_X5_takesNumber_130] := sorry
theorem kbs_X5_takesNumber : ksort (tcode 1813) = true := sorry
theorem tb_X5_takesNumber_0 {e : tE} {c : Bool} {d : Nat} {L : tL} {st : List tV} {M : tM} {n : Nat} {Q : tR → tM → Nat → Prop} (h : wB e c 3 d 1813 14 kb_X5_takesNumber_0 L st M n Q) : tT e d 1813 0 L st M n Q := sorry
theorem tb_X5_takesNumber_14 {e : tE} {c : Bool} {d : Nat} {L : tL} {st : List tV} {M : tM} {n : Nat} {Q : tR → tM → Nat → Prop} (h : wB e c 3 d 1813 41 kb_X5_takesNumber_14 L st M n Q) : tT e d 1813 14 L st M n Q := sorry
theorem tb_X5_takesNumber_41 {e : tE} {c : Bool} {d : Nat} {L : tL} {st : List tV} {M : tM} {n : Nat} {Q : tR → tM → Nat → Prop} (h : wB e c 3 d 1813 74 kb_X5_takesNumber_41 L st M n Q) : tT e d 1813 41 L st M n Q := sorry
theorem tb_X5_takesNumber_74 {e : tE} {c : Bool} {d : Nat} {L : tL} {st : List tV} {M : tM} {n : Nat} {Q : tR → tM → Nat → Prop} (h : wB e c 3 d 1813 75 kb_X5_takesNumber_74 L st M n Q) : tT e d 1813 74 L st M n Q := sorry
theorem tb_X5_takesNumber_75 {e : tE} {c : Bool} {d : Nat} {L : tL} {st : List tV} {M : tM} {n : Nat} {Q : tR → tM → Nat → Prop} (h : wB e c 3 d 1813 81 kb_X5_takesNumber_75 L st M n Q) : tT e d 1813 75 L st M n Q := sorry
theorem tb_X5_takesNumber_81 {e : tE} {c : Bool} {d : Nat} {L : tL} {st : List tV} {M : tM} {n : Nat} {Q : tR → tM → Nat → Prop} (h : wB e c 3 d 1813 102 kb_X5_takesNumber_81 L st M n Q) : tT e d 1813 81 L st M n Q := sorry
theorem tb_X5_takesNumber_102 {e : tE} {c : Bool} {d : Nat} {L : tL} {st : List tV} {M : tM} {n : Nat} {Q : tR → tM → Nat → Prop} (h : wB e c 3 d 1813 118 kb_X5_takesNumber_102 L st M n Q) : tT e d 1813 102 L st M n Q := sorry
theorem tb_X5_takesNumber_118 {e : tE} {c : Bool} {d : Nat} {L : tL} {st : List tV} {M : tM} {n : Nat} {Q : tR → tM → Nat → Prop} (h : wB e c 3 d 1813 130 kb_X5_takesNumber_118 L st M n Q) : tT e d 1813 118 L st M n Q := sorry
theorem tb_X5_takesNumber_130 {e : tE} {c : Bool} {d : Nat} {L : tL} {st : List tV} {M : tM} {n : Nat} {Q : tR → tM → Nat → Prop} (h : wB e c 3 d 1813 145 kb_X5_takesNumber_130 L st M n Q) : tT e d 1813 130 L st M n Q := sorry
theorem bmx_X5_takesNumber : (bmeth 1813).2.2.1 = 8 := sorry
theorem tst_X5_takesNumber {e : tE} {d : Nat} {M : tM} {n : Nat} {Q : tR → tM → Nat → Prop} {r : Nat} {x1 : Nat ⊕ Nat} (h : tT e d 1813 0 [some (.inr (.inr (.inl r))), some (.inr (.inr x1)), none, none, none, none, none, none] [] M n Q) : tC e d 1813 [.inr (.inr (.inl r)), .inr (.inr x1)] M n Q := sorry
noncomputable def kb_X5_within_0 : List (Nat × bO) := [(0, .iload_n 1, 0, 0, 0, 0), (1, .ifCond .lt 9, 0, 10, 0, 0), (4, .iload_n 1, 0, 0, 0, 0), (5, .bipush 60, 0, 0, 0, 0), (7, .if_icmp .lt 7, 0, 14, 0, 0)]
noncomputable def kb_X5_within_10 : List (Nat × bO) := [(10, .iconst 0, 0, 0, 0, 0), (11, .goto 4, 0, 15, 0, 0)]
noncomputable def kb_X5_within_14 : List (Nat × bO) := [(14, .iload_n 1, 0, 0, 0, 0)]
noncomputable def kb_X5_within_15 : List (Nat × bO) := [(15, .ireturn, 0, 0, 0, 0)]
set_option maxRecDepth 16000 in
theorem kbl_X5_within : tcode 1814 = List.flatten [kb_X5_within_0, kb_X5_within_10, kb_X5_within_14, kb_X5_within_15] := sorry
theorem kbs_X5_within : ksort (tcode 1814) = true := sorry
theorem tb_X5_within_0 {e : tE} {c : Bool} {d : Nat} {L : tL} {st : List tV} {M : tM} {n : Nat} {Q : tR → tM → Nat → Prop} (h : wB e c 0 d 1814 10 kb_X5_within_0 L st M n Q) : tT e d 1814 0 L st M n Q := sorry
theorem tb_X5_within_10 {e : tE} {c : Bool} {d : Nat} {L : tL} {st : List tV} {M : tM} {n : Nat} {Q : tR → tM → Nat → Prop} (h : wB e c 0 d 1814 14 kb_X5_within_10 L st M n Q) : tT e d 1814 10 L st M n Q := sorry
theorem tb_X5_within_14 {e : tE} {c : Bool} {d : Nat} {L : tL} {st : List tV} {M : tM} {n : Nat} {Q : tR → tM → Nat → Prop} (h : wB e c 0 d 1814 15 kb_X5_within_14 L st M n Q) : tT e d 1814 14 L st M n Q := sorry
theorem tb_X5_within_15 {e : tE} {c : Bool} {d : Nat} {L : tL} {st : List tV} {M : tM} {n : Nat} {Q : tR → tM → Nat → Prop} (h : wB e c 0 d 1814 16 kb_X5_within_15 L st M n Q) : tT e d 1814 15 L st M n Q := sorry
theorem bmx_X5_within : (bmeth 1814).2.2.1 = 2 := sorry
theorem tst_X5_within {e : tE} {d : Nat} {M : tM} {n : Nat} {Q : tR → tM → Nat → Prop} {r : Nat} {x1 : Int} (h : tT e d 1814 0 [some (.inr (.inr (.inl r))), some (.inl x1)] [] M n Q) : tC e d 1814 [.inr (.inr (.inl r)), .inl x1] M n Q := sorry
noncomputable def kb_X6_actOf_0 : List (Nat × bO) := [(0, .iload_n 0, 0, 0, 0, 0), (1, .bipush 110, 0, 0, 0, 0), (3, .if_icmp .eq 15, 0, 18, 0, 0), (6, .iload_n 0, 0, 0, 0, 0), (7, .bipush 48, 0, 0, 0, 0), (9, .if_icmp .lt 12, 0, 21, 0, 0), (12, .iload_n 0, 0, 0, 0, 0), (13, .bipush 57, 0, 0, 0, 0), (15, .if_icmp .gt 6, 0, 21, 0, 0)]
noncomputable def kb_X6_actOf_18 : List (Nat × bO) := [(18, .bipush 35, 0, 0, 0, 0), (20, .ireturn, 0, 0, 0, 0)]
noncomputable def kb_X6_actOf_21 : List (Nat × bO) := [(21, .iload_n 0, 0, 0, 0, 0), (22, .bipush 113, 0, 0, 0, 0), (24, .if_icmp .ne 8, 0, 32, 0, 0), (27, .bipush 94, 0, 0, 0, 0), (29, .goto 4, 0, 33, 0, 0)]
noncomputable def kb_X6_actOf_32 : List (Nat × bO) := [(32, .iload_n 0, 0, 0, 0, 0)]
noncomputable def kb_X6_actOf_33 : List (Nat × bO) := [(33, .ireturn, 0, 0, 0, 0)]
set_option maxRecDepth 16000 in
theorem kbl_X6_actOf : tcode 2049 = List.flatten [kb_X6_actOf_0, kb_X6_actOf_18, kb_X6_actOf_21, kb_X6_actOf_32, kb_X6_actOf_33] := sorry
theorem kbs_X6_actOf : ksort (tcode 2049) = true := sorry
theorem tb_X6_actOf_0 {e : tE} {c : Bool} {d : Nat} {L : tL} {st : List tV} {M : tM} {n : Nat} {Q : tR → tM → Nat → Prop} (h : wB e c 4 d 2049 18 kb_X6_actOf_0 L st M n Q) : tT e d 2049 0 L st M n Q := sorry
theorem tb_X6_actOf_18 {e : tE} {c : Bool} {d : Nat} {L : tL} {st : List tV} {M : tM} {n : Nat} {Q : tR → tM → Nat → Prop} (h : wB e c 4 d 2049 21 kb_X6_actOf_18 L st M n Q) : tT e d 2049 18 L st M n Q := sorry
theorem tb_X6_actOf_21 {e : tE} {c : Bool} {d : Nat} {L : tL} {st : List tV} {M : tM} {n : Nat} {Q : tR → tM → Nat → Prop} (h : wB e c 4 d 2049 32 kb_X6_actOf_21 L st M n Q) : tT e d 2049 21 L st M n Q := sorry
theorem tb_X6_actOf_32 {e : tE} {c : Bool} {d : Nat} {L : tL} {st : List tV} {M : tM} {n : Nat} {Q : tR → tM → Nat → Prop} (h : wB e c 4 d 2049 33 kb_X6_actOf_32 L st M n Q) : tT e d 2049 32 L st M n Q := sorry
theorem tb_X6_actOf_33 {e : tE} {c : Bool} {d : Nat} {L : tL} {st : List tV} {M : tM} {n : Nat} {Q : tR → tM → Nat → Prop} (h : wB e c 4 d 2049 34 kb_X6_actOf_33 L st M n Q) : tT e d 2049 33 L st M n Q := sorry
theorem bmx_X6_actOf : (bmeth 2049).2.2.1 = 1 := sorry
theorem tst_X6_actOf {e : tE} {d : Nat} {M : tM} {n : Nat} {Q : tR → tM → Nat → Prop} {x1 : Int} (h : tT e d 2049 0 [some (.inl x1)] [] M n Q) : tC e d 2049 [.inl x1] M n Q := sorry
noncomputable def kb_X6_aim_0 : List (Nat × bO) := [(0, .aload_n 0, 0, 0, 0, 0), (1, .aload_n 1, 0, 0, 0, 0), (2, .putfield 29, 2035, 8, 3, 0), (5, .aload_n 0, 0, 0, 0, 0), (6, .aload_n 2, 0, 0, 0, 0), (7, .putfield 33, 2036, 8, 4, 0), (10, .return_, 0, 0, 0, 0)]
set_option maxRecDepth 16000 in
theorem kbl_X6_aim : tcode 2050 = List.flatten [kb_X6_aim_0] := sorry
theorem kbs_X6_aim : ksort (tcode 2050) = true := sorry
theorem tb_X6_aim_0 {e : tE} {c : Bool} {d : Nat} {L : tL} {st : List tV} {M : tM} {n : Nat} {Q : tR → tM → Nat → Prop} (h : wB e c 9 d 2050 11 kb_X6_aim_0 L st M n Q) : tT e d 2050 0 L st M n Q := sorry
theorem bmx_X6_aim : (bmeth 2050).2.2.1 = 3 := sorry
theorem tst_X6_aim {e : tE} {d : Nat} {M : tM} {n : Nat} {Q : tR → tM → Nat → Prop} {r : Nat} {x1 : Nat ⊕ Nat} {x2 : Nat ⊕ Nat} (h : tT e d 2050 0 [some (.inr (.inr (.inl r))), some (.inr (.inr x1)), some (.inr (.inr x2))] [] M n Q) : tC e d 2050 [.inr (.inr (.inl r)), .inr (.inr x1), .inr (.inr x2)] M n Q := sorry
noncomputable def kb_X6_at_0 : List (Nat × bO) := [(0, .aload_n 0, 0, 0, 0, 0), (1, .getfield 20, 2033, 8, 1, 0), (4, .iload_n 1, 0, 0, 0, 0), (5, .ifCond .lt 10, 0, 15, 0, 0), (8, .iload_n 1, 0, 0, 0, 0), (9, .sipush 128, 0, 0, 0, 0), (12, .if_icmp .lt 7, 0, 19, 0, 0)]
noncomputable def kb_X6_at_15 : List (Nat × bO) := [(15, .iconst 0, 0, 0, 0, 0), (16, .goto 4, 0, 20, 0, 0)]
noncomputable def kb_X6_at_19 : List (Nat × bO) := [(19, .iload_n 1, 0, 0, 0, 0)]
noncomputable def kb_X6_at_20 : List (Nat × bO) := [(20, .aaload, 0, 0, 0, 0), (21, .areturn, 0, 0, 0, 0)]
set_option maxRecDepth 16000 in
theorem kbl_X6_at : tcode 2051 = List.flatten [kb_X6_at_0, kb_X6_at_15, kb_X6_at_19, kb_X6_at_20] := sorry
theorem kbs_X6_at : ksort (tcode 2051) = true := sorry
theorem tb_X6_at_0 {e : tE} {c : Bool} {d : Nat} {L : tL} {st : List tV} {M : tM} {n : Nat} {Q : tR → tM → Nat → Prop} (h : wB e c 2 d 2051 15 kb_X6_at_0 L st M n Q) : tT e d 2051 0 L st M n Q := sorry
theorem tb_X6_at_15 {e : tE} {c : Bool} {d : Nat} {L : tL} {st : List tV} {M : tM} {n : Nat} {Q : tR → tM → Nat → Prop} (h : wB e c 2 d 2051 19 kb_X6_at_15 L st M n Q) : tT e d 2051 15 L st M n Q := sorry
theorem tb_X6_at_19 {e : tE} {c : Bool} {d : Nat} {L : tL} {st : List tV} {M : tM} {n : Nat} {Q : tR → tM → Nat → Prop} (h : wB e c 2 d 2051 20 kb_X6_at_19 L st M n Q) : tT e d 2051 19 L st M n Q := sorry
theorem tb_X6_at_20 {e : tE} {c : Bool} {d : Nat} {L : tL} {st : List tV} {M : tM} {n : Nat} {Q : tR → tM → Nat → Prop} (h : wB e c 2 d 2051 22 kb_X6_at_20 L st M n Q) : tT e d 2051 20 L st M n Q := sorry
theorem bmx_X6_at : (bmeth 2051).2.2.1 = 2 := sorry
theorem tst_X6_at {e : tE} {d : Nat} {M : tM} {n : Nat} {Q : tR → tM → Nat → Prop} {r : Nat} {x1 : Int} (h : tT e d 2051 0 [some (.inr (.inr (.inl r))), some (.inl x1)] [] M n Q) : tC e d 2051 [.inr (.inr (.inl r)), .inl x1] M n Q := sorry
noncomputable def kb_X6_byOf_0 : List (Nat × bO) := [(0, .iload_n 0, 0, 0, 0, 0), (1, .lookupswitch 41 #[(94, 35), (113, 39), (114, 39)], 35, 0, 0, 0)]
noncomputable def kb_X6_byOf_36 : List (Nat × bO) := [(36, .iload_n 1, 0, 0, 0, 0), (37, .iconst 1, 0, 0, 0, 0), (38, .isub, 0, 0, 0, 0), (39, .ireturn, 0, 0, 0, 0)]
noncomputable def kb_X6_byOf_40 : List (Nat × bO) := [(40, .iconst 2, 0, 0, 0, 0), (41, .ireturn, 0, 0, 0, 0)]
noncomputable def kb_X6_byOf_42 : List (Nat × bO) := [(42, .iconst 0, 0, 0, 0, 0), (43, .ireturn, 0, 0, 0, 0)]
set_option maxRecDepth 16000 in
theorem kbl_X6_byOf : tcode 2052 = List.flatten [kb_X6_byOf_0, kb_X6_byOf_36, kb_X6_byOf_40, kb_X6_byOf_42] := sorry
theorem kbs_X6_byOf : ksort (tcode 2052) = true := sorry
theorem tb_X6_byOf_0 {e : tE} {c : Bool} {d : Nat} {L : tL} {st : List tV} {M : tM} {n : Nat} {Q : tR → tM → Nat → Prop} (h : wB e c 0 d 2052 36 kb_X6_byOf_0 L st M n Q) : tT e d 2052 0 L st M n Q := sorry
theorem tb_X6_byOf_36 {e : tE} {c : Bool} {d : Nat} {L : tL} {st : List tV} {M : tM} {n : Nat} {Q : tR → tM → Nat → Prop} (h : wB e c 0 d 2052 40 kb_X6_byOf_36 L st M n Q) : tT e d 2052 36 L st M n Q := sorry
theorem tb_X6_byOf_40 {e : tE} {c : Bool} {d : Nat} {L : tL} {st : List tV} {M : tM} {n : Nat} {Q : tR → tM → Nat → Prop} (h : wB e c 0 d 2052 42 kb_X6_byOf_40 L st M n Q) : tT e d 2052 40 L st M n Q := sorry
theorem tb_X6_byOf_42 {e : tE} {c : Bool} {d : Nat} {L : tL} {st : List tV} {M : tM} {n : Nat} {Q : tR → tM → Nat → Prop} (h : wB e c 0 d 2052 44 kb_X6_byOf_42 L st M n Q) : tT e d 2052 42 L st M n Q := sorry
theorem bmx_X6_byOf : (bmeth 2052).2.2.1 = 2 := sorry
theorem tst_X6_byOf {e : tE} {d : Nat} {M : tM} {n : Nat} {Q : tR → tM → Nat → Prop} {x1 : Int} {x2 : Int} (h : tT e d 2052 0 [some (.inl x1), some (.inl x2)] [] M n Q) : tC e d 2052 [.inl x1, .inl x2] M n Q := sorry
noncomputable def kb_X6_clear_0 : List (Nat × bO) := [(0, .aload_n 0, 0, 0, 0, 0), (1, .iconst 0, 0, 0, 0, 0), (2, .putfield 25, 2034, 8, 2, 0), (5, .return_, 0, 0, 0, 0)]
set_option maxRecDepth 16000 in
theorem kbl_X6_clear : tcode 2053 = List.flatten [kb_X6_clear_0] := sorry
theorem kbs_X6_clear : ksort (tcode 2053) = true := sorry
theorem tb_X6_clear_0 {e : tE} {c : Bool} {d : Nat} {L : tL} {st : List tV} {M : tM} {n : Nat} {Q : tR → tM → Nat → Prop} (h : wB e c 9 d 2053 6 kb_X6_clear_0 L st M n Q) : tT e d 2053 0 L st M n Q := sorry
theorem bmx_X6_clear : (bmeth 2053).2.2.1 = 1 := sorry
theorem tst_X6_clear {e : tE} {d : Nat} {M : tM} {n : Nat} {Q : tR → tM → Nat → Prop} {r : Nat} (h : tT e d 2053 0 [some (.inr (.inr (.inl r)))] [] M n Q) : tC e d 2053 [.inr (.inr (.inl r))] M n Q := sorry
noncomputable def kb_X6_enter_0 : List (Nat × bO) := [(0, .aload_n 0, 0, 0, 0, 0), (1, .getfield 43, 2039, 8, 7, 0), (4, .bipush 60, 0, 0, 0, 0), (6, .if_icmp .ge 7, 0, 13, 0, 0), (9, .iload_n 1, 0, 0, 0, 0), (10, .ifCond .ge 5, 0, 15, 0, 0)]
noncomputable def kb_X6_enter_13 : List (Nat × bO) := [(13, .iconst 2, 0, 0, 0, 0), (14, .ireturn, 0, 0, 0, 0)]
noncomputable def kb_X6_enter_15 : List (Nat × bO) := [(15, .aload_n 0, 0, 0, 0, 0), (16, .getfield 36, 2037, 8, 5, 0), (19, .aload_n 0, 0, 0, 0, 0), (20, .getfield 43, 2039, 8, 7, 0), (23, .iload_n 1, 0, 0, 0, 0), (24, .iastore, 0, 0, 0, 0), (25, .aload_n 0, 0, 0, 0, 0), (26, .getfield 40, 2038, 8, 6, 0), (29, .aload_n 0, 0, 0, 0, 0), (30, .getfield 43, 2039, 8, 7, 0), (33, .iconst 0, 0, 0, 0, 0), (34, .iastore, 0, 0, 0, 0), (35, .aload_n 0, 0, 0, 0, 0), (36, .dup, 0, 0, 0, 0), (37, .getfield 43, 2039, 8, 7, 0), (40, .iconst 1, 0, 0, 0, 0), (41, .iadd, 0, 0, 0, 0), (42, .putfield 43, 2039, 8, 7, 0), (45, .iconst 0, 0, 0, 0, 0), (46, .ireturn, 0, 0, 0, 0)]
set_option maxRecDepth 16000 in
theorem kbl_X6_enter : tcode 2054 = List.flatten [kb_X6_enter_0, kb_X6_enter_13, kb_X6_enter_15] := sorry
theorem kbs_X6_enter : ksort (tcode 2054) = true := sorry
theorem tb_X6_enter_0 {e : tE} {c : Bool} {d : Nat} {L : tL} {st : List tV} {M : tM} {n : Nat} {Q : tR → tM → Nat → Prop} (h : wB e c 0 d 2054 13 kb_X6_enter_0 L st M n Q) : tT e d 2054 0 L st M n Q := sorry
theorem tb_X6_enter_13 {e : tE} {c : Bool} {d : Nat} {L : tL} {st : List tV} {M : tM} {n : Nat} {Q : tR → tM → Nat → Prop} (h : wB e c 0 d 2054 15 kb_X6_enter_13 L st M n Q) : tT e d 2054 13 L st M n Q := sorry
theorem tb_X6_enter_15 {e : tE} {c : Bool} {d : Nat} {L : tL} {st : List tV} {M : tM} {n : Nat} {Q : tR → tM → Nat → Prop} (h : wB e c 0 d 2054 47 kb_X6_enter_15 L st M n Q) : tT e d 2054 15 L st M n Q := sorry
theorem bmx_X6_enter : (bmeth 2054).2.2.1 = 2 := sorry
theorem tst_X6_enter {e : tE} {d : Nat} {M : tM} {n : Nat} {Q : tR → tM → Nat → Prop} {r : Nat} {x1 : Int} (h : tT e d 2054 0 [some (.inr (.inr (.inl r))), some (.inl x1)] [] M n Q) : tC e d 2054 [.inr (.inr (.inl r)), .inl x1] M n Q := sorry
noncomputable def kb_X6_make_0 : List (Nat × bO) := [(0, .aload_n 0, 0, 0, 0, 0), (1, .getfield 25, 2034, 8, 2, 0), (4, .sipush 128, 0, 0, 0, 0), (7, .if_icmp .lt 5, 0, 12, 0, 0), (10, .iconst 2, 0, 0, 0, 0), (11, .ireturn, 0, 0, 0, 0)]
noncomputable def kb_X6_make_12 : List (Nat × bO) := [(12, .aload_n 0, 0, 0, 0, 0), (13, .aload_n 0, 0, 0, 0, 0), (14, .getfield 25, 2034, 8, 2, 0), (17, .iconst 2, 0, 0, 0, 0), (18, .isub, 0, 0, 0, 0), (19, .invokevirtual 54, 3024, 2051, 1, 8), (22, .astore 5, 0, 0, 0, 0), (24, .aload_n 0, 0, 0, 0, 0), (25, .aload_n 0, 0, 0, 0, 0), (26, .getfield 25, 2034, 8, 2, 0), (29, .iconst 1, 0, 0, 0, 0), (30, .isub, 0, 0, 0, 0), (31, .invokevirtual 54, 3024, 2051, 1, 8), (34, .astore 6, 0, 0, 0, 0), (36, .aload_n 0, 0, 0, 0, 0), (37, .aload_n 0, 0, 0, 0, 0), (38, .getfield 25, 2034, 8, 2, 0), (41, .invokevirtual 54, 3024, 2051, 1, 8), (44, .astore 7, 0, 0, 0, 0), (46, .iload_n 1, 0, 0, 0, 0), (47, .invokestatic 70, 3028, 1799, 1, 2), (50, .ifCond .eq 21, 0, 71, 0, 0), (53, .aload_n 0, 0, 0, 0, 0), (54, .getfield 25, 2034, 8, 2, 0), (57, .iconst 1, 0, 0, 0, 0), (58, .if_icmp .le 13, 0, 71, 0, 0), (61, .aload_n 0, 0, 0, 0, 0), (62, .dup, 0, 0, 0, 0), (63, .getfield 25, 2034, 8, 2, 0), (66, .iconst 1, 0, 0, 0, 0), (67, .isub, 0, 0, 0, 0), (68, .putfield 25, 2034, 8, 2, 0)]
noncomputable def kb_X6_make_71 : List (Nat × bO) := [(71, .iload_n 1, 0, 0, 0, 0), (72, .lookupswitch 246 #[(35, 100), (42, 202), (43, 178), (45, 190), (47, 214), (69, 123), (98, 236), (112, 123), (120, 144), (121, 144), (126, 226)], 100, 0, 0, 0)]
noncomputable def kb_X6_make_172 : List (Nat × bO) := [(172, .aload_n 0, 0, 0, 0, 0), (173, .dup, 0, 0, 0, 0), (174, .getfield 25, 2034, 8, 2, 0), (177, .iconst 1, 0, 0, 0, 0), (178, .iadd, 0, 0, 0, 0), (179, .putfield 25, 2034, 8, 2, 0), (182, .aload_n 0, 0, 0, 0, 0), (183, .getfield 12, 2032, 8, 0, 0), (186, .aload 7, 0, 0, 0, 0), (188, .lload_n 2, 0, 0, 0, 0), (189, .iload 4, 0, 0, 0, 0), (191, .invokevirtual 76, 3031, 522, 3, 2), (194, .ireturn, 0, 0, 0, 0)]
noncomputable def kb_X6_make_195 : List (Nat × bO) := [(195, .aload_n 0, 0, 0, 0, 0), (196, .dup, 0, 0, 0, 0), (197, .getfield 25, 2034, 8, 2, 0), (200, .iconst 1, 0, 0, 0, 0), (201, .iadd, 0, 0, 0, 0), (202, .putfield 25, 2034, 8, 2, 0), (205, .aload_n 0, 0, 0, 0, 0), (206, .getfield 12, 2032, 8, 0, 0), (209, .aload 7, 0, 0, 0, 0), (211, .iload_n 1, 0, 0, 0, 0), (212, .invokevirtual 80, 3085, 521, 2, 2), (215, .ireturn, 0, 0, 0, 0)]
noncomputable def kb_X6_make_216 : List (Nat × bO) := [(216, .aload_n 0, 0, 0, 0, 0), (217, .dup, 0, 0, 0, 0), (218, .getfield 25, 2034, 8, 2, 0), (221, .iconst 1, 0, 0, 0, 0), (222, .iadd, 0, 0, 0, 0), (223, .putfield 25, 2034, 8, 2, 0), (226, .aload 7, 0, 0, 0, 0), (228, .iload_n 1, 0, 0, 0, 0), (229, .bipush 120, 0, 0, 0, 0), (231, .if_icmp .ne 10, 0, 241, 0, 0), (234, .aload_n 0, 0, 0, 0, 0), (235, .getfield 29, 2035, 8, 3, 0), (238, .goto 7, 0, 245, 0, 0)]
noncomputable def kb_X6_make_241 : List (Nat × bO) := [(241, .aload_n 0, 0, 0, 0, 0), (242, .getfield 33, 2036, 8, 4, 0)]
noncomputable def kb_X6_make_245 : List (Nat × bO) := [(245, .invokevirtual 58, 3094, 1026, 1, 4), (248, .iconst 0, 0, 0, 0, 0), (249, .ireturn, 0, 0, 0, 0)]
noncomputable def kb_X6_make_250 : List (Nat × bO) := [(250, .aload_n 0, 0, 0, 0, 0), (251, .getfield 12, 2032, 8, 0, 0), (254, .aload 5, 0, 0, 0, 0), (256, .aload 6, 0, 0, 0, 0), (258, .invokevirtual 84, 3099, 520, 2, 2), (261, .ireturn, 0, 0, 0, 0)]
noncomputable def kb_X6_make_262 : List (Nat × bO) := [(262, .aload_n 0, 0, 0, 0, 0), (263, .getfield 12, 2032, 8, 0, 0), (266, .aload 5, 0, 0, 0, 0), (268, .aload 6, 0, 0, 0, 0), (270, .invokevirtual 88, 3116, 513, 2, 2), (273, .ireturn, 0, 0, 0, 0)]
noncomputable def kb_X6_make_274 : List (Nat × bO) := [(274, .aload_n 0, 0, 0, 0, 0), (275, .getfield 12, 2032, 8, 0, 0), (278, .aload 5, 0, 0, 0, 0), (280, .aload 6, 0, 0, 0, 0), (282, .invokevirtual 91, 3124, 517, 2, 2), (285, .ireturn, 0, 0, 0, 0)]
noncomputable def kb_X6_make_286 : List (Nat × bO) := [(286, .aload_n 0, 0, 0, 0, 0), (287, .getfield 12, 2032, 8, 0, 0), (290, .aload 5, 0, 0, 0, 0), (292, .aload 6, 0, 0, 0, 0), (294, .invokevirtual 94, 3189, 518, 2, 2), (297, .ireturn, 0, 0, 0, 0)]
noncomputable def kb_X6_make_298 : List (Nat × bO) := [(298, .aload_n 0, 0, 0, 0, 0), (299, .getfield 12, 2032, 8, 0, 0), (302, .aload 6, 0, 0, 0, 0), (304, .invokevirtual 97, 3226, 515, 1, 2), (307, .ireturn, 0, 0, 0, 0)]
noncomputable def kb_X6_make_308 : List (Nat × bO) := [(308, .aload_n 0, 0, 0, 0, 0), (309, .getfield 12, 2032, 8, 0, 0), (312, .aload 6, 0, 0, 0, 0), (314, .invokevirtual 101, 3230, 519, 1, 2), (317, .ireturn, 0, 0, 0, 0)]
noncomputable def kb_X6_make_318 : List (Nat × bO) := [(318, .aload_n 0, 0, 0, 0, 0), (319, .getfield 12, 2032, 8, 0, 0), (322, .aload 6, 0, 0, 0, 0), (324, .iload_n 1, 0, 0, 0, 0), (325, .iload 4, 0, 0, 0, 0), (327, .invokevirtual 104, 4000, 516, 3, 2), (330, .ireturn, 0, 0, 0, 0)]
set_option maxRecDepth 16000 in
theorem kbl_X6_make : tcode 2055 = List.flatten [kb_X6_make_0, kb_X6_make_12, kb_X6_make_71, kb_X6_make_172, kb_X6_make_195, kb_X6_make_216, kb_X6_make_241, kb_X6_make_245, kb_X6_make_250, kb_X6_make_262, kb_X6_make_274, kb_X6_make_286, kb_X6_make_298, kb_X6_make_308, kb_X6_make_318] := sorry
theorem kbs_X6_make : ksort (tcode 2055) = true := sorry
theorem tb_X6_make_0 {e : tE} {c : Bool} {d : Nat} {L : tL} {st : List tV} {M : tM} {n : Nat} {Q : tR → tM → Nat → Prop} (h : wB e c 0 d 2055 12 kb_X6_make_0 L st M n Q) : tT e d 2055 0 L st M n Q := sorry
theorem tb_X6_make_12 {e : tE} {c : Bool} {d : Nat} {L : tL} {st : List tV} {M : tM} {n : Nat} {Q : tR → tM → Nat → Prop} (h : wB e c 0 d 2055 71 kb_X6_make_12 L st M n Q) : tT e d 2055 12 L st M n Q := sorry
theorem tb_X6_make_71 {e : tE} {c : Bool} {d : Nat} {L : tL} {st : List tV} {M : tM} {n : Nat} {Q : tR → tM → Nat → Prop} (h : wB e c 0 d 2055 172 kb_X6_make_71 L st M n Q) : tT e d 2055 71 L st M n Q := sorry
theorem tb_X6_make_172 {e : tE} {c : Bool} {d : Nat} {L : tL} {st : List tV} {M : tM} {n : Nat} {Q : tR → tM → Nat → Prop} (h : wB e c 0 d 2055 195 kb_X6_make_172 L st M n Q) : tT e d 2055 172 L st M n Q := sorry
theorem tb_X6_make_195 {e : tE} {c : Bool} {d : Nat} {L : tL} {st : List tV} {M : tM} {n : Nat} {Q : tR → tM → Nat → Prop} (h : wB e c 0 d 2055 216 kb_X6_make_195 L st M n Q) : tT e d 2055 195 L st M n Q := sorry
theorem tb_X6_make_216 {e : tE} {c : Bool} {d : Nat} {L : tL} {st : List tV} {M : tM} {n : Nat} {Q : tR → tM → Nat → Prop} (h : wB e c 0 d 2055 241 kb_X6_make_216 L st M n Q) : tT e d 2055 216 L st M n Q := sorry
theorem tb_X6_make_241 {e : tE} {c : Bool} {d : Nat} {L : tL} {st : List tV} {M : tM} {n : Nat} {Q : tR → tM → Nat → Prop} (h : wB e c 0 d 2055 245 kb_X6_make_241 L st M n Q) : tT e d 2055 241 L st M n Q := sorry
theorem tb_X6_make_245 {e : tE} {c : Bool} {d : Nat} {L : tL} {st : List tV} {M : tM} {n : Nat} {Q : tR → tM → Nat → Prop} (h : wB e c 0 d 2055 250 kb_X6_make_245 L st M n Q) : tT e d 2055 245 L st M n Q := sorry
theorem tb_X6_make_250 {e : tE} {c : Bool} {d : Nat} {L : tL} {st : List tV} {M : tM} {n : Nat} {Q : tR → tM → Nat → Prop} (h : wB e c 0 d 2055 262 kb_X6_make_250 L st M n Q) : tT e d 2055 250 L st M n Q := sorry
theorem tb_X6_make_262 {e : tE} {c : Bool} {d : Nat} {L : tL} {st : List tV} {M : tM} {n : Nat} {Q : tR → tM → Nat → Prop} (h : wB e c 0 d 2055 274 kb_X6_make_262 L st M n Q) : tT e d 2055 262 L st M n Q := sorry
theorem tb_X6_make_274 {e : tE} {c : Bool} {d : Nat} {L : tL} {st : List tV} {M : tM} {n : Nat} {Q : tR → tM → Nat → Prop} (h : wB e c 0 d 2055 286 kb_X6_make_274 L st M n Q) : tT e d 2055 274 L st M n Q := sorry
theorem tb_X6_make_286 {e : tE} {c : Bool} {d : Nat} {L : tL} {st : List tV} {M : tM} {n : Nat} {Q : tR → tM → Nat → Prop} (h : wB e c 0 d 2055 298 kb_X6_make_286 L st M n Q) : tT e d 2055 286 L st M n Q := sorry
theorem tb_X6_make_298 {e : tE} {c : Bool} {d : Nat} {L : tL} {st : List tV} {M : tM} {n : Nat} {Q : tR → tM → Nat → Prop} (h : wB e c 0 d 2055 308 kb_X6_make_298 L st M n Q) : tT e d 2055 298 L st M n Q := sorry
theorem tb_X6_make_308 {e : tE} {c : Bool} {d : Nat} {L : tL} {st : List tV} {M : tM} {n : Nat} {Q : tR → tM → Nat → Prop} (h : wB e c 0 d 2055 318 kb_X6_make_308 L st M n Q) : tT e d 2055 308 L st M n Q := sorry
theorem tb_X6_make_318 {e : tE} {c : Bool} {d : Nat} {L : tL} {st : List tV} {M : tM} {n : Nat} {Q : tR → tM → Nat → Prop} (h : wB e c 0 d 2055 331 kb_X6_make_318 L st M n Q) : tT e d 2055 318 L st M n Q := sorry
theorem bmx_X6_make : (bmeth 2055).2.2.1 = 8 := sorry
theorem tst_X6_make {e : tE} {d : Nat} {M : tM} {n : Nat} {Q : tR → tM → Nat → Prop} {r : Nat} {x1 : Int} {x2 : Int} {x3 : Int} (h : tT e d 2055 0 [some (.inr (.inr (.inl r))), some (.inl x1), some (.inr (.inl x2)), none, some (.inl x3), none, none, none] [] M n Q) : tC e d 2055 [.inr (.inr (.inl r)), .inl x1, .inr (.inl x2), .inl x3] M n Q := sorry
noncomputable def kb_X6_makeFrom_0 : List (Nat × bO) := [(0, .aload_n 0, 0, 0, 0, 0), (1, .getfield 25, 2034, 8, 2, 0), (4, .sipush 128, 0, 0, 0, 0), (7, .if_icmp .lt 5, 0, 12, 0, 0), (10, .iconst 2, 0, 0, 0, 0), (11, .ireturn, 0, 0, 0, 0)]
noncomputable def kb_X6_makeFrom_12 : List (Nat × bO) := [(12, .aload_n 0, 0, 0, 0, 0), (13, .dup, 0, 0, 0, 0), (14, .getfield 25, 2034, 8, 2, 0), (17, .iconst 1, 0, 0, 0, 0), (18, .iadd, 0, 0, 0, 0), (19, .putfield 25, 2034, 8, 2, 0), (22, .aload_n 0, 0, 0, 0, 0), (23, .getfield 12, 2032, 8, 0, 0), (26, .aload_n 0, 0, 0, 0, 0), (27, .invokevirtual 62, 5190, 2063, 0, 8), (30, .aload_n 1, 0, 0, 0, 0), (31, .invokevirtual 66, 5191, 523, 2, 2), (34, .ireturn, 0, 0, 0, 0)]
set_option maxRecDepth 16000 in
theorem kbl_X6_makeFrom : tcode 2056 = List.flatten [kb_X6_makeFrom_0, kb_X6_makeFrom_12] := sorry
theorem kbs_X6_makeFrom : ksort (tcode 2056) = true := sorry
theorem tb_X6_makeFrom_0 {e : tE} {c : Bool} {d : Nat} {L : tL} {st : List tV} {M : tM} {n : Nat} {Q : tR → tM → Nat → Prop} (h : wB e c 0 d 2056 12 kb_X6_makeFrom_0 L st M n Q) : tT e d 2056 0 L st M n Q := sorry
theorem tb_X6_makeFrom_12 {e : tE} {c : Bool} {d : Nat} {L : tL} {st : List tV} {M : tM} {n : Nat} {Q : tR → tM → Nat → Prop} (h : wB e c 0 d 2056 35 kb_X6_makeFrom_12 L st M n Q) : tT e d 2056 12 L st M n Q := sorry
theorem bmx_X6_makeFrom : (bmeth 2056).2.2.1 = 2 := sorry
theorem tst_X6_makeFrom {e : tE} {d : Nat} {M : tM} {n : Nat} {Q : tR → tM → Nat → Prop} {r : Nat} {x1 : Nat ⊕ Nat} (h : tT e d 2056 0 [some (.inr (.inr (.inl r))), some (.inr (.inr x1))] [] M n Q) : tC e d 2056 [.inr (.inr (.inl r)), .inr (.inr x1)] M n Q := sorry
noncomputable def kb_X6_makeSlope_0 : List (Nat × bO) := [(0, .aload_n 0, 0, 0, 0, 0), (1, .invokevirtual 108, 4174, 2053, 0, 8), (4, .aload_n 0, 0, 0, 0, 0), (5, .iconst 0, 0, 0, 0, 0), (6, .putfield 43, 2039, 8, 7, 0), (9, .aload_n 0, 0, 0, 0, 0), (10, .aload_n 1, 0, 0, 0, 0), (11, .getfield 111, 2082, 7, 4, 0), (14, .iconst 1, 0, 0, 0, 0), (15, .isub, 0, 0, 0, 0), (16, .invokevirtual 130, 7035, 2054, 1, 8), (19, .istore_n 2, 0, 0, 0, 0), (20, .iconst 0, 0, 0, 0, 0), (21, .istore_n 3, 0, 0, 0, 0), (22, .iconst (-1), 0, 0, 0, 0), (23, .istore 4, 0, 0, 0, 0), (25, .iconst 0, 0, 0, 0, 0), (26, .istore 5, 0, 0, 0, 0)]
noncomputable def kb_X6_makeSlope_28 : List (Nat × bO) := [(28, .iload 5, 0, 0, 0, 0), (30, .ldc 133, 7039, 0, 0, 100000), (32, .if_icmp .ge 222, 0, 254, 0, 0), (35, .aload_n 0, 0, 0, 0, 0), (36, .getfield 43, 2039, 8, 7, 0), (39, .ifCond .le 215, 0, 254, 0, 0), (42, .iload_n 3, 0, 0, 0, 0), (43, .iload 4, 0, 0, 0, 0), (45, .if_icmp .gt 29, 0, 74, 0, 0), (48, .aload_n 0, 0, 0, 0, 0), (49, .aload_n 1, 0, 0, 0, 0), (50, .iload_n 3, 0, 0, 0, 0), (51, .invokevirtual 114, 4175, 1793, 1, 7), (54, .aload_n 1, 0, 0, 0, 0), (55, .iload_n 3, 0, 0, 0, 0), (56, .invokevirtual 118, 4183, 1802, 1, 7), (59, .aload_n 1, 0, 0, 0, 0), (60, .iload_n 3, 0, 0, 0, 0), (61, .invokevirtual 122, 4187, 1807, 1, 7), (64, .invokevirtual 126, 4191, 2055, 3, 8), (67, .istore_n 2, 0, 0, 0, 0), (68, .iinc 3 1, 0, 0, 0, 0), (71, .goto 171, 0, 242, 0, 0)]
noncomputable def kb_X6_makeSlope_74 : List (Nat × bO) := [(74, .aload_n 0, 0, 0, 0, 0), (75, .getfield 36, 2037, 8, 5, 0), (78, .aload_n 0, 0, 0, 0, 0), (79, .getfield 43, 2039, 8, 7, 0), (82, .iconst 1, 0, 0, 0, 0), (83, .isub, 0, 0, 0, 0), (84, .iaload, 0, 0, 0, 0), (85, .istore 6, 0, 0, 0, 0), (87, .aload_n 1, 0, 0, 0, 0), (88, .iload 6, 0, 0, 0, 0), (90, .invokevirtual 122, 4187, 1807, 1, 7), (93, .istore 7, 0, 0, 0, 0), (95, .aload_n 0, 0, 0, 0, 0), (96, .aload_n 1, 0, 0, 0, 0), (97, .iload 6, 0, 0, 0, 0), (99, .invokevirtual 114, 4175, 1793, 1, 7), (102, .iload 7, 0, 0, 0, 0), (104, .invokestatic 134, 7040, 2062, 2, 0), (107, .invokevirtual 138, 7055, 2059, 1, 8), (110, .istore 8, 0, 0, 0, 0), (112, .iload 8, 0, 0, 0, 0), (114, .ifCond .ne 16, 0, 130, 0, 0), (117, .aload_n 0, 0, 0, 0, 0), (118, .dup, 0, 0, 0, 0), (119, .getfield 43, 2039, 8, 7, 0), (122, .iconst 1, 0, 0, 0, 0), (123, .isub, 0, 0, 0, 0), (124, .putfield 43, 2039, 8, 7, 0), (127, .goto 115, 0, 242, 0, 0)]
noncomputable def kb_X6_makeSlope_130 : List (Nat × bO) := [(130, .iload 8, 0, 0, 0, 0), (132, .bipush 117, 0, 0, 0, 0), (134, .if_icmp .eq 10, 0, 144, 0, 0), (137, .iload 8, 0, 0, 0, 0), (139, .bipush 118, 0, 0, 0, 0), (141, .if_icmp .ne 35, 0, 176, 0, 0)]
noncomputable def kb_X6_makeSlope_144 : List (Nat × bO) := [(144, .iload 8, 0, 0, 0, 0), (146, .bipush 117, 0, 0, 0, 0), (148, .if_icmp .ne 12, 0, 160, 0, 0), (151, .aload_n 1, 0, 0, 0, 0), (152, .iload 6, 0, 0, 0, 0), (154, .invokevirtual 142, 7107, 1801, 1, 7), (157, .goto 7, 0, 164, 0, 0)]
noncomputable def kb_X6_makeSlope_160 : List (Nat × bO) := [(160, .iload 6, 0, 0, 0, 0), (162, .iconst 1, 0, 0, 0, 0), (163, .isub, 0, 0, 0, 0)]
noncomputable def kb_X6_makeSlope_164 : List (Nat × bO) := [(164, .istore 4, 0, 0, 0, 0), (166, .aload_n 1, 0, 0, 0, 0), (167, .iload 4, 0, 0, 0, 0), (169, .invokevirtual 145, 7112, 1808, 1, 7), (172, .istore_n 3, 0, 0, 0, 0), (173, .goto 69, 0, 242, 0, 0)]
noncomputable def kb_X6_makeSlope_176 : List (Nat × bO) := [(176, .iload 8, 0, 0, 0, 0), (178, .bipush 85, 0, 0, 0, 0), (180, .if_icmp .eq 10, 0, 190, 0, 0), (183, .iload 8, 0, 0, 0, 0), (185, .bipush 86, 0, 0, 0, 0), (187, .if_icmp .ne 31, 0, 218, 0, 0)]
noncomputable def kb_X6_makeSlope_190 : List (Nat × bO) := [(190, .aload_n 0, 0, 0, 0, 0), (191, .iload 8, 0, 0, 0, 0), (193, .bipush 85, 0, 0, 0, 0), (195, .if_icmp .ne 12, 0, 207, 0, 0), (198, .aload_n 1, 0, 0, 0, 0), (199, .iload 6, 0, 0, 0, 0), (201, .invokevirtual 142, 7107, 1801, 1, 7), (204, .goto 7, 0, 211, 0, 0)]
noncomputable def kb_X6_makeSlope_207 : List (Nat × bO) := [(207, .iload 6, 0, 0, 0, 0), (209, .iconst 1, 0, 0, 0, 0), (210, .isub, 0, 0, 0, 0)]
noncomputable def kb_X6_makeSlope_211 : List (Nat × bO) := [(211, .invokevirtual 130, 7035, 2054, 1, 8), (214, .istore_n 2, 0, 0, 0, 0), (215, .goto 27, 0, 242, 0, 0)]
noncomputable def kb_X6_makeSlope_218 : List (Nat × bO) := [(218, .aload_n 0, 0, 0, 0, 0), (219, .iload 8, 0, 0, 0, 0), (221, .invokestatic 148, 7113, 2049, 1, 0), (224, .iload 8, 0, 0, 0, 0), (226, .iload 7, 0, 0, 0, 0), (228, .invokestatic 152, 7116, 2060, 2, 0), (231, .iload 8, 0, 0, 0, 0), (233, .iload 7, 0, 0, 0, 0), (235, .invokestatic 156, 7119, 2052, 2, 0), (238, .invokevirtual 126, 4191, 2055, 3, 8), (241, .istore_n 2, 0, 0, 0, 0)]
noncomputable def kb_X6_makeSlope_242 : List (Nat × bO) := [(242, .iload_n 2, 0, 0, 0, 0), (243, .ifCond .eq 5, 0, 248, 0, 0), (246, .iload_n 2, 0, 0, 0, 0), (247, .ireturn, 0, 0, 0, 0)]
noncomputable def kb_X6_makeSlope_248 : List (Nat × bO) := [(248, .iinc 5 1, 0, 0, 0, 0), (251, .goto (-223), 0, 28, 0, 0)]
noncomputable def kb_X6_makeSlope_254 : List (Nat × bO) := [(254, .iload_n 2, 0, 0, 0, 0), (255, .ireturn, 0, 0, 0, 0)]
set_option maxRecDepth 16000 in
theorem kbl_X6_makeSlope : tcode 2057 = List.flatten [kb_X6_makeSlope_0, kb_X6_makeSlope_28, kb_X6_makeSlope_74, kb_X6_makeSlope_130, kb_X6_makeSlope_144, kb_X6_makeSlope_160, kb_X6_makeSlope_164, kb_X6_makeSlope_176, kb_X6_makeSlope_190, kb_X6_makeSlope_207, kb_X6_makeSlope_211, kb_X6_makeSlope_218, kb_X6_makeSlope_242, kb_X6_makeSlope_248, kb_X6_makeSlope_254] := sorry
theorem kbs_X6_makeSlope : ksort (tcode 2057) = true := sorry
theorem tb_X6_makeSlope_0 {e : tE} {c : Bool} {d : Nat} {L : tL} {st : List tV} {M : tM} {n : Nat} {Q : tR → tM → Nat → Prop} (h : wB e c 0 d 2057 28 kb_X6_makeSlope_0 L st M n Q) : tT e d 2057 0 L st M n Q := sorry
theorem tb_X6_makeSlope_28 {e : tE} {c : Bool} {d : Nat} {L : tL} {st : List tV} {M : tM} {n : Nat} {Q : tR → tM → Nat → Prop} (h : wB e c 0 d 2057 74 kb_X6_makeSlope_28 L st M n Q) : tT e d 2057 28 L st M n Q := sorry
theorem tb_X6_makeSlope_74 {e : tE} {c : Bool} {d : Nat} {L : tL} {st : List tV} {M : tM} {n : Nat} {Q : tR → tM → Nat → Prop} (h : wB e c 0 d 2057 130 kb_X6_makeSlope_74 L st M n Q) : tT e d 2057 74 L st M n Q := sorry
theorem tb_X6_makeSlope_130 {e : tE} {c : Bool} {d : Nat} {L : tL} {st : List tV} {M : tM} {n : Nat} {Q : tR → tM → Nat → Prop} (h : wB e c 0 d 2057 144 kb_X6_makeSlope_130 L st M n Q) : tT e d 2057 130 L st M n Q := sorry
theorem tb_X6_makeSlope_144 {e : tE} {c : Bool} {d : Nat} {L : tL} {st : List tV} {M : tM} {n : Nat} {Q : tR → tM → Nat → Prop} (h : wB e c 0 d 2057 160 kb_X6_makeSlope_144 L st M n Q) : tT e d 2057 144 L st M n Q := sorry
theorem tb_X6_makeSlope_160 {e : tE} {c : Bool} {d : Nat} {L : tL} {st : List tV} {M : tM} {n : Nat} {Q : tR → tM → Nat → Prop} (h : wB e c 0 d 2057 164 kb_X6_makeSlope_160 L st M n Q) : tT e d 2057 160 L st M n Q := sorry
theorem tb_X6_makeSlope_164 {e : tE} {c : Bool} {d : Nat} {L : tL} {st : List tV} {M : tM} {n : Nat} {Q : tR → tM → Nat → Prop} (h : wB e c 0 d 2057 176 kb_X6_makeSlope_164 L st M n Q) : tT e d 2057 164 L st M n Q := sorry
theorem tb_X6_makeSlope_176 {e : tE} {c : Bool} {d : Nat} {L : tL} {st : List tV} {M : tM} {n : Nat} {Q : tR → tM → Nat → Prop} (h : wB e c 0 d 2057 190 kb_X6_makeSlope_176 L st M n Q) : tT e d 2057 176 L st M n Q := sorry
theorem tb_X6_makeSlope_190 {e : tE} {c : Bool} {d : Nat} {L : tL} {st : List tV} {M : tM} {n : Nat} {Q : tR → tM → Nat → Prop} (h : wB e c 0 d 2057 207 kb_X6_makeSlope_190 L st M n Q) : tT e d 2057 190 L st M n Q := sorry
theorem tb_X6_makeSlope_207 {e : tE} {c : Bool} {d : Nat} {L : tL} {st : List tV} {M : tM} {n : Nat} {Q : tR → tM → Nat → Prop} (h : wB e c 0 d 2057 211 kb_X6_makeSlope_207 L st M n Q) : tT e d 2057 207 L st M n Q := sorry
theorem tb_X6_makeSlope_211 {e : tE} {c : Bool} {d : Nat} {L : tL} {st : List tV} {M : tM} {n : Nat} {Q : tR → tM → Nat → Prop} (h : wB e c 0 d 2057 218 kb_X6_makeSlope_211 L st M n Q) : tT e d 2057 211 L st M n Q := sorry
theorem tb_X6_makeSlope_218 {e : tE} {c : Bool} {d : Nat} {L : tL} {st : List tV} {M : tM} {n : Nat} {Q : tR → tM → Nat → Prop} (h : wB e c 0 d 2057 242 kb_X6_makeSlope_218 L st M n Q) : tT e d 2057 218 L st M n Q := sorry
theorem tb_X6_makeSlope_242 {e : tE} {c : Bool} {d : Nat} {L : tL} {st : List tV} {M : tM} {n : Nat} {Q : tR → tM → Nat → Prop} (h : wB e c 0 d 2057 248 kb_X6_makeSlope_242 L st M n Q) : tT e d 2057 242 L st M n Q := sorry
theorem tb_X6_makeSlope_248 {e : tE} {c : Bool} {d : Nat} {L : tL} {st : List tV} {M : tM} {n : Nat} {Q : tR → tM → Nat → Prop} (h : wB e c 0 d 2057 254 kb_X6_makeSlope_248 L st M n Q) : tT e d 2057 248 L st M n Q := sorry
theorem tb_X6_makeSlope_254 {e : tE} {c : Bool} {d : Nat} {L : tL} {st : List tV} {M : tM} {n : Nat} {Q : tR → tM → Nat → Prop} (h : wB e c 0 d 2057 256 kb_X6_makeSlope_254 L st M n Q) : tT e d 2057 254 L st M n Q := sorry
theorem bmx_X6_makeSlope : (bmeth 2057).2.2.1 = 9 := sorry
theorem tst_X6_makeSlope {e : tE} {d : Nat} {M : tM} {n : Nat} {Q : tR → tM → Nat → Prop} {r : Nat} {x1 : Nat ⊕ Nat} (h : tT e d 2057 0 [some (.inr (.inr (.inl r))), some (.inr (.inr x1)), none, none, none, none, none, none, none] [] M n Q) : tC e d 2057 [.inr (.inr (.inl r)), .inr (.inr x1)] M n Q := sorry
noncomputable def kb_X6_makeValue_0 : List (Nat × bO) := [(0, .aload_n 0, 0, 0, 0, 0), (1, .invokevirtual 108, 4174, 2053, 0, 8), (4, .iconst 0, 0, 0, 0, 0), (5, .istore_n 2, 0, 0, 0, 0)]
noncomputable def kb_X6_makeValue_6 : List (Nat × bO) := [(6, .iload_n 2, 0, 0, 0, 0), (7, .aload_n 1, 0, 0, 0, 0), (8, .getfield 111, 2082, 7, 4, 0), (11, .if_icmp .ge 35, 0, 46, 0, 0), (14, .aload_n 0, 0, 0, 0, 0), (15, .aload_n 1, 0, 0, 0, 0), (16, .iload_n 2, 0, 0, 0, 0), (17, .invokevirtual 114, 4175, 1793, 1, 7), (20, .aload_n 1, 0, 0, 0, 0), (21, .iload_n 2, 0, 0, 0, 0), (22, .invokevirtual 118, 4183, 1802, 1, 7), (25, .aload_n 1, 0, 0, 0, 0), (26, .iload_n 2, 0, 0, 0, 0), (27, .invokevirtual 122, 4187, 1807, 1, 7), (30, .invokevirtual 126, 4191, 2055, 3, 8), (33, .istore_n 3, 0, 0, 0, 0), (34, .iload_n 3, 0, 0, 0, 0), (35, .ifCond .eq 5, 0, 40, 0, 0), (38, .iload_n 3, 0, 0, 0, 0), (39, .ireturn, 0, 0, 0, 0)]
noncomputable def kb_X6_makeValue_40 : List (Nat × bO) := [(40, .iinc 2 1, 0, 0, 0, 0), (43, .goto (-37), 0, 6, 0, 0)]
noncomputable def kb_X6_makeValue_46 : List (Nat × bO) := [(46, .iconst 0, 0, 0, 0, 0), (47, .ireturn, 0, 0, 0, 0)]
set_option maxRecDepth 16000 in
theorem kbl_X6_makeValue : tcode 2058 = List.flatten [kb_X6_makeValue_0, kb_X6_makeValue_6, kb_X6_makeValue_40, kb_X6_makeValue_46] := sorry
theorem kbs_X6_makeValue : ksort (tcode 2058) = true := sorry
theorem tb_X6_makeValue_0 {e : tE} {c : Bool} {d : Nat} {L : tL} {st : List tV} {M : tM} {n : Nat} {Q : tR → tM → Nat → Prop} (h : wB e c 0 d 2058 6 kb_X6_makeValue_0 L st M n Q) : tT e d 2058 0 L st M n Q := sorry
theorem tb_X6_makeValue_6 {e : tE} {c : Bool} {d : Nat} {L : tL} {st : List tV} {M : tM} {n : Nat} {Q : tR → tM → Nat → Prop} (h : wB e c 0 d 2058 40 kb_X6_makeValue_6 L st M n Q) : tT e d 2058 6 L st M n Q := sorry
theorem tb_X6_makeValue_40 {e : tE} {c : Bool} {d : Nat} {L : tL} {st : List tV} {M : tM} {n : Nat} {Q : tR → tM → Nat → Prop} (h : wB e c 0 d 2058 46 kb_X6_makeValue_40 L st M n Q) : tT e d 2058 40 L st M n Q := sorry
theorem tb_X6_makeValue_46 {e : tE} {c : Bool} {d : Nat} {L : tL} {st : List tV} {M : tM} {n : Nat} {Q : tR → tM → Nat → Prop} (h : wB e c 0 d 2058 48 kb_X6_makeValue_46 L st M n Q) : tT e d 2058 46 L st M n Q := sorry
theorem bmx_X6_makeValue : (bmeth 2058).2.2.1 = 4 := sorry
theorem tst_X6_makeValue {e : tE} {d : Nat} {M : tM} {n : Nat} {Q : tR → tM → Nat → Prop} {r : Nat} {x1 : Nat ⊕ Nat} (h : tT e d 2058 0 [some (.inr (.inr (.inl r))), some (.inr (.inr x1)), none, none] [] M n Q) : tC e d 2058 [.inr (.inr (.inl r)), .inr (.inr x1)] M n Q := sorry
noncomputable def kb_X6_nextSign_0 : List (Nat × bO) := [(0, .aload_n 0, 0, 0, 0, 0), (1, .getfield 40, 2038, 8, 6, 0), (4, .aload_n 0, 0, 0, 0, 0), (5, .getfield 43, 2039, 8, 7, 0), (8, .iconst 1, 0, 0, 0, 0), (9, .isub, 0, 0, 0, 0), (10, .iaload, 0, 0, 0, 0), (11, .istore_n 2, 0, 0, 0, 0), (12, .aload_n 0, 0, 0, 0, 0), (13, .getfield 40, 2038, 8, 6, 0), (16, .aload_n 0, 0, 0, 0, 0), (17, .getfield 43, 2039, 8, 7, 0), (20, .iconst 1, 0, 0, 0, 0), (21, .isub, 0, 0, 0, 0), (22, .dup2, 0, 0, 0, 0), (23, .iaload, 0, 0, 0, 0), (24, .iconst 1, 0, 0, 0, 0), (25, .iadd, 0, 0, 0, 0), (26, .iastore, 0, 0, 0, 0), (27, .iload_n 2, 0, 0, 0, 0), (28, .aload_n 1, 0, 0, 0, 0), (32, .if_icmp .ge 11, 0, 43, 0, 0), (35, .aload_n 1, 0, 0, 0, 0), (36, .iload_n 2, 0, 0, 0, 0), (40, .goto 4, 0, 44, 0, 0)]
noncomputable def kb_X6_nextSign_43 : List (Nat × bO) := [(43, .iconst 0, 0, 0, 0, 0)]
noncomputable def kb_X6_nextSign_44 : List (Nat × bO) := [(44, .ireturn, 0, 0, 0, 0)]
set_option maxRecDepth 16000 in
theorem kbl_X6_nextSign : tcode 2059 = List.flatten [kb_X6_nextSign_0, kb_X6_nextSign_43, kb_X6_nextSign_44] := sorry
theorem kbs_X6_nextSign : ksort (tcode 2059) = true := sorry
theorem bmx_X6_nextSign : (bmeth 2059).2.2.1 = 3 := sorry
theorem tst_X6_nextSign {e : tE} {d : Nat} {M : tM} {n : Nat} {Q : tR → tM → Nat → Prop} {r : Nat} {x1 : Nat ⊕ Nat} (h : tT e d 2059 0 [some (.inr (.inr (.inl r))), some (.inr (.inr x1)), none] [] M n Q) : tC e d 2059 [.inr (.inr (.inl r)), .inr (.inr x1)] M n Q := sorry
noncomputable def kb_X6_numberOf_0 : List (Nat × bO) := [(0, .iload_n 0, 0, 0, 0, 0), (1, .bipush 110, 0, 0, 0, 0), (3, .if_icmp .ne 8, 0, 11, 0, 0), (6, .iload_n 1, 0, 0, 0, 0), (7, .i2l, 0, 0, 0, 0), (8, .goto 8, 0, 16, 0, 0)]
noncomputable def kb_X6_numberOf_11 : List (Nat × bO) := [(11, .iload_n 0, 0, 0, 0, 0), (12, .bipush 48, 0, 0, 0, 0), (14, .isub, 0, 0, 0, 0), (15, .i2l, 0, 0, 0, 0)]
noncomputable def kb_X6_numberOf_16 : List (Nat × bO) := [(16, .lreturn, 0, 0, 0, 0)]
set_option maxRecDepth 16000 in
theorem kbl_X6_numberOf : tcode 2060 = List.flatten [kb_X6_numberOf_0, kb_X6_numberOf_11, kb_X6_numberOf_16] := sorry
theorem kbs_X6_numberOf : ksort (tcode 2060) = true := sorry
theorem tb_X6_numberOf_0 {e : tE} {c : Bool} {d : Nat} {L : tL} {st : List tV} {M : tM} {n : Nat} {Q : tR → tM → Nat → Prop} (h : wB e c 1 d 2060 11 kb_X6_numberOf_0 L st M n Q) : tT e d 2060 0 L st M n Q := sorry
theorem tb_X6_numberOf_11 {e : tE} {c : Bool} {d : Nat} {L : tL} {st : List tV} {M : tM} {n : Nat} {Q : tR → tM → Nat → Prop} (h : wB e c 1 d 2060 16 kb_X6_numberOf_11 L st M n Q) : tT e d 2060 11 L st M n Q := sorry
theorem tb_X6_numberOf_16 {e : tE} {c : Bool} {d : Nat} {L : tL} {st : List tV} {M : tM} {n : Nat} {Q : tR → tM → Nat → Prop} (h : wB e c 1 d 2060 17 kb_X6_numberOf_16 L st M n Q) : tT e d 2060 16 L st M n Q := sorry
theorem bmx_X6_numberOf : (bmeth 2060).2.2.1 = 2 := sorry
theorem tst_X6_numberOf {e : tE} {d : Nat} {M : tM} {n : Nat} {Q : tR → tM → Nat → Prop} {x1 : Int} {x2 : Int} (h : tT e d 2060 0 [some (.inl x1), some (.inl x2)] [] M n Q) : tC e d 2060 [.inl x1, .inl x2] M n Q := sorry
noncomputable def kb_X6_push_0 : List (Nat × bO) := [(0, .aload_n 0, 0, 0, 0, 0), (1, .getfield 25, 2034, 8, 2, 0), (4, .sipush 128, 0, 0, 0, 0), (7, .if_icmp .ge 26, 0, 33, 0, 0), (10, .aload_n 0, 0, 0, 0, 0), (11, .getfield 20, 2033, 8, 1, 0), (14, .aload_n 0, 0, 0, 0, 0), (15, .getfield 25, 2034, 8, 2, 0), (18, .aaload, 0, 0, 0, 0), (19, .aload_n 1, 0, 0, 0, 0), (20, .invokevirtual 58, 3094, 1026, 1, 4), (23, .aload_n 0, 0, 0, 0, 0), (24, .dup, 0, 0, 0, 0), (25, .getfield 25, 2034, 8, 2, 0), (28, .iconst 1, 0, 0, 0, 0), (29, .iadd, 0, 0, 0, 0), (30, .putfield 25, 2034, 8, 2, 0)]
noncomputable def kb_X6_push_33 : List (Nat × bO) := [(33, .return_, 0, 0, 0, 0)]
set_option maxRecDepth 16000 in
theorem kbl_X6_push : tcode 2061 = List.flatten [kb_X6_push_0, kb_X6_push_33] := sorry
theorem kbs_X6_push : ksort (tcode 2061) = true := sorry
theorem tb_X6_push_0 {e : tE} {c : Bool} {d : Nat} {L : tL} {st : List tV} {M : tM} {n : Nat} {Q : tR → tM → Nat → Prop} (h : wB e c 9 d 2061 33 kb_X6_push_0 L st M n Q) : tT e d 2061 0 L st M n Q := sorry
theorem tb_X6_push_33 {e : tE} {c : Bool} {d : Nat} {L : tL} {st : List tV} {M : tM} {n : Nat} {Q : tR → tM → Nat → Prop} (h : wB e c 9 d 2061 34 kb_X6_push_33 L st M n Q) : tT e d 2061 33 L st M n Q := sorry
theorem bmx_X6_push : (bmeth 2061).2.2.1 = 2 := sorry
theorem tst_X6_push {e : tE} {d : Nat} {M : tM} {n : Nat} {Q : tR → tM → Nat → Prop} {r : Nat} {x1 : Nat ⊕ Nat} (h : tT e d 2061 0 [some (.inr (.inr (.inl r))), some (.inr (.inr x1))] [] M n Q) : tC e d 2061 [.inr (.inr (.inl r)), .inr (.inr x1)] M n Q := sorry
noncomputable def kb_X6_recipeOf_0 : List (Nat × bO) := [(0, .iload_n 0, 0, 0, 0, 0), (1, .lookupswitch 141 #[(42, 108), (43, 102), (45, 105), (47, 111), (94, 114), (97, 138), (101, 132), (108, 135), (114, 129), (120, 99), (126, 126)], 99, 0, 0, 0), (102, .areturn, 0, 0, 0, 0), (105, .areturn, 0, 0, 0, 0), (108, .areturn, 0, 0, 0, 0), (111, .areturn, 0, 0, 0, 0), (114, .areturn, 0, 0, 0, 0)]
noncomputable def kb_X6_recipeOf_115 : List (Nat × bO) := [(115, .iload_n 1, 0, 0, 0, 0), (116, .ifCond .ne 8, 0, 124, 0, 0), (121, .goto 5, 0, 126, 0, 0)]
noncomputable def kb_X6_recipeOf_126 : List (Nat × bO) := [(126, .areturn, 0, 0, 0, 0), (129, .areturn, 0, 0, 0, 0), (132, .areturn, 0, 0, 0, 0), (135, .areturn, 0, 0, 0, 0), (138, .areturn, 0, 0, 0, 0), (141, .areturn, 0, 0, 0, 0), (144, .areturn, 0, 0, 0, 0)]
set_option maxRecDepth 16000 in
theorem kbl_X6_recipeOf : tcode 2062 = List.flatten [kb_X6_recipeOf_0, kb_X6_recipeOf_115, kb_X6_recipeOf_126] := sorry
theorem kbs_X6_recipeOf : ksort (tcode 2062) = true := sorry
theorem bmx_X6_recipeOf : (bmeth 2062).2.2.1 = 2 := sorry
theorem tst_X6_recipeOf {e : tE} {d : Nat} {M : tM} {n : Nat} {Q : tR → tM → Nat → Prop} {x1 : Int} {x2 : Int} (h : tT e d 2062 0 [some (.inl x1), some (.inl x2)] [] M n Q) : tC e d 2062 [.inl x1, .inl x2] M n Q := sorry
noncomputable def kb_X6_result_0 : List (Nat × bO) := [(0, .aload_n 0, 0, 0, 0, 0), (1, .aload_n 0, 0, 0, 0, 0), (2, .getfield 25, 2034, 8, 2, 0), (5, .iconst 1, 0, 0, 0, 0), (6, .isub, 0, 0, 0, 0), (7, .invokevirtual 54, 3024, 2051, 1, 8), (10, .areturn, 0, 0, 0, 0)]
set_option maxRecDepth 16000 in
theorem kbl_X6_result : tcode 2063 = List.flatten [kb_X6_result_0] := sorry
theorem kbs_X6_result : ksort (tcode 2063) = true := sorry
theorem tb_X6_result_0 {e : tE} {c : Bool} {d : Nat} {L : tL} {st : List tV} {M : tM} {n : Nat} {Q : tR → tM → Nat → Prop} (h : wB e c 2 d 2063 11 kb_X6_result_0 L st M n Q) : tT e d 2063 0 L st M n Q := sorry
theorem bmx_X6_result : (bmeth 2063).2.2.1 = 1 := sorry
theorem tst_X6_result {e : tE} {d : Nat} {M : tM} {n : Nat} {Q : tR → tM → Nat → Prop} {r : Nat} (h : tT e d 2063 0 [some (.inr (.inr (.inl r)))] [] M n Q) : tC e d 2063 [.inr (.inr (.inl r))] M n Q := sorry
noncomputable def kb_X6_unit_0 : List (Nat × bO) := [(0, .aload_n 0, 0, 0, 0, 0), (1, .getfield 12, 2032, 8, 0, 0), (4, .getfield 50, 2016, 2, 5, 0), (7, .lreturn, 0, 0, 0, 0)]
set_option maxRecDepth 16000 in
theorem kbl_X6_unit : tcode 2064 = List.flatten [kb_X6_unit_0] := sorry
theorem kbs_X6_unit : ksort (tcode 2064) = true := sorry
theorem tb_X6_unit_0 {e : tE} {c : Bool} {d : Nat} {L : tL} {st : List tV} {M : tM} {n : Nat} {Q : tR → tM → Nat → Prop} (h : wB e c 1 d 2064 8 kb_X6_unit_0 L st M n Q) : tT e d 2064 0 L st M n Q := sorry
theorem bmx_X6_unit : (bmeth 2064).2.2.1 = 1 := sorry
theorem tst_X6_unit {e : tE} {d : Nat} {M : tM} {n : Nat} {Q : tR → tM → Nat → Prop} {r : Nat} (h : tT e d 2064 0 [some (.inr (.inr (.inl r)))] [] M n Q) : tC e d 2064 [.inr (.inr (.inl r))] M n Q := sorry
noncomputable def kb_X6_useDigits_0 : List (Nat × bO) := [(0, .aload_n 0, 0, 0, 0, 0), (1, .getfield 12, 2032, 8, 0, 0), (4, .iload_n 1, 0, 0, 0, 0), (5, .invokevirtual 46, 2061, 525, 1, 2), (8, .return_, 0, 0, 0, 0)]
set_option maxRecDepth 16000 in
theorem kbl_X6_useDigits : tcode 2065 = List.flatten [kb_X6_useDigits_0] := sorry
theorem kbs_X6_useDigits : ksort (tcode 2065) = true := sorry
theorem tb_X6_useDigits_0 {e : tE} {c : Bool} {d : Nat} {L : tL} {st : List tV} {M : tM} {n : Nat} {Q : tR → tM → Nat → Prop} (h : wB e c 9 d 2065 9 kb_X6_useDigits_0 L st M n Q) : tT e d 2065 0 L st M n Q := sorry
theorem bmx_X6_useDigits : (bmeth 2065).2.2.1 = 2 := sorry
theorem tst_X6_useDigits {e : tE} {d : Nat} {M : tM} {n : Nat} {Q : tR → tM → Nat → Prop} {r : Nat} {x1 : Int} (h : tT e d 2065 0 [some (.inr (.inr (.inl r))), some (.inl x1)] [] M n Q) : tC e d 2065 [.inr (.inr (.inl r)), .inl x1] M n Q := sorry
noncomputable def kb_X7_append_0 : List (Nat × bO) := [(0, .aload_n 0, 0, 0, 0, 0), (1, .getfield 26, 2129, 9, 3, 0), (4, .bipush 8, 0, 0, 0, 0), (6, .if_icmp .ge 36, 0, 42, 0, 0), (9, .aload_n 0, 0, 0, 0, 0), (10, .getfield 11, 2126, 9, 0, 0), (13, .aload_n 0, 0, 0, 0, 0), (14, .getfield 26, 2129, 9, 3, 0), (17, .aaload, 0, 0, 0, 0), (18, .aload_n 1, 0, 0, 0, 0), (19, .invokevirtual 34, 7174, 1026, 1, 4), (22, .aload_n 0, 0, 0, 0, 0), (23, .getfield 18, 2127, 9, 1, 0), (26, .aload_n 0, 0, 0, 0, 0), (27, .getfield 26, 2129, 9, 3, 0), (30, .iload_n 2, 0, 0, 0, 0), (31, .iastore, 0, 0, 0, 0), (32, .aload_n 0, 0, 0, 0, 0), (33, .dup, 0, 0, 0, 0), (34, .getfield 26, 2129, 9, 3, 0), (37, .iconst 1, 0, 0, 0, 0), (38, .iadd, 0, 0, 0, 0), (39, .putfield 26, 2129, 9, 3, 0)]
noncomputable def kb_X7_append_42 : List (Nat × bO) := [(42, .return_, 0, 0, 0, 0)]
set_option maxRecDepth 16000 in
theorem kbl_X7_append : tcode 2305 = List.flatten [kb_X7_append_0, kb_X7_append_42] := sorry
theorem kbs_X7_append : ksort (tcode 2305) = true := sorry
theorem tb_X7_append_0 {e : tE} {c : Bool} {d : Nat} {L : tL} {st : List tV} {M : tM} {n : Nat} {Q : tR → tM → Nat → Prop} (h : wB e c 9 d 2305 42 kb_X7_append_0 L st M n Q) : tT e d 2305 0 L st M n Q := sorry
theorem tb_X7_append_42 {e : tE} {c : Bool} {d : Nat} {L : tL} {st : List tV} {M : tM} {n : Nat} {Q : tR → tM → Nat → Prop} (h : wB e c 9 d 2305 43 kb_X7_append_42 L st M n Q) : tT e d 2305 42 L st M n Q := sorry
theorem bmx_X7_append : (bmeth 2305).2.2.1 = 3 := sorry
theorem tst_X7_append {e : tE} {d : Nat} {M : tM} {n : Nat} {Q : tR → tM → Nat → Prop} {r : Nat} {x1 : Nat ⊕ Nat} {x2 : Int} (h : tT e d 2305 0 [some (.inr (.inr (.inl r))), some (.inr (.inr x1)), some (.inl x2)] [] M n Q) : tC e d 2305 [.inr (.inr (.inl r)), .inr (.inr x1), .inl x2] M n Q := sorry
noncomputable def kb_X7_box_0 : List (Nat × bO) := [(0, .aload_n 0, 0, 0, 0, 0), (1, .getfield 11, 2126, 9, 0, 0), (4, .aload_n 0, 0, 0, 0, 0), (5, .iload_n 1, 0, 0, 0, 0), (6, .invokevirtual 30, 7206, 2312, 1, 9), (9, .aaload, 0, 0, 0, 0), (10, .areturn, 0, 0, 0, 0)]
set_option maxRecDepth 16000 in
theorem kbl_X7_box : tcode 2306 = List.flatten [kb_X7_box_0] := sorry
theorem kbs_X7_box : ksort (tcode 2306) = true := sorry
theorem tb_X7_box_0 {e : tE} {c : Bool} {d : Nat} {L : tL} {st : List tV} {M : tM} {n : Nat} {Q : tR → tM → Nat → Prop} (h : wB e c 2 d 2306 11 kb_X7_box_0 L st M n Q) : tT e d 2306 0 L st M n Q := sorry
theorem bmx_X7_box : (bmeth 2306).2.2.1 = 2 := sorry
theorem tst_X7_box {e : tE} {d : Nat} {M : tM} {n : Nat} {Q : tR → tM → Nat → Prop} {r : Nat} {x1 : Int} (h : tT e d 2306 0 [some (.inr (.inr (.inl r))), some (.inl x1)] [] M n Q) : tC e d 2306 [.inr (.inr (.inl r)), .inl x1] M n Q := sorry
noncomputable def kb_X7_clear_0 : List (Nat × bO) := [(0, .aload_n 0, 0, 0, 0, 0), (1, .iconst 0, 0, 0, 0, 0), (2, .putfield 26, 2129, 9, 3, 0), (5, .return_, 0, 0, 0, 0)]
set_option maxRecDepth 16000 in
theorem kbl_X7_clear : tcode 2307 = List.flatten [kb_X7_clear_0] := sorry
theorem kbs_X7_clear : ksort (tcode 2307) = true := sorry
theorem tb_X7_clear_0 {e : tE} {c : Bool} {d : Nat} {L : tL} {st : List tV} {M : tM} {n : Nat} {Q : tR → tM → Nat → Prop} (h : wB e c 9 d 2307 6 kb_X7_clear_0 L st M n Q) : tT e d 2307 0 L st M n Q := sorry
theorem bmx_X7_clear : (bmeth 2307).2.2.1 = 1 := sorry
theorem tst_X7_clear {e : tE} {d : Nat} {M : tM} {n : Nat} {Q : tR → tM → Nat → Prop} {r : Nat} (h : tT e d 2307 0 [some (.inr (.inr (.inl r)))] [] M n Q) : tC e d 2307 [.inr (.inr (.inl r))] M n Q := sorry
noncomputable def kb_X7_cut_0 : List (Nat × bO) := [(0, .aload_n 0, 0, 0, 0, 0), (1, .invokevirtual 38, 8004, 2307, 0, 9), (4, .aload_n 0, 0, 0, 0, 0), (5, .aload_n 1, 0, 0, 0, 0), (6, .iconst 0, 0, 0, 0, 0), (7, .invokevirtual 41, 8005, 2305, 2, 9), (10, .iconst 0, 0, 0, 0, 0), (11, .istore 5, 0, 0, 0, 0)]
noncomputable def kb_X7_cut_13 : List (Nat × bO) := [(13, .iload 5, 0, 0, 0, 0), (15, .iload_n 2, 0, 0, 0, 0), (16, .if_icmp .ge 56, 0, 72, 0, 0), (19, .aload_n 0, 0, 0, 0, 0), (20, .getfield 26, 2129, 9, 3, 0), (23, .istore 6, 0, 0, 0, 0), (25, .iload 6, 0, 0, 0, 0), (27, .iconst 1, 0, 0, 0, 0), (28, .isub, 0, 0, 0, 0), (29, .istore 7, 0, 0, 0, 0)]
noncomputable def kb_X7_cut_31 : List (Nat × bO) := [(31, .iload 7, 0, 0, 0, 0), (33, .ifCond .lt 33, 0, 66, 0, 0), (36, .aload_n 0, 0, 0, 0, 0), (37, .getfield 22, 2128, 9, 2, 0), (40, .aload_n 0, 0, 0, 0, 0), (41, .getfield 11, 2126, 9, 0, 0), (44, .iload 7, 0, 0, 0, 0), (46, .aaload, 0, 0, 0, 0), (47, .lload_n 3, 0, 0, 0, 0), (48, .invokevirtual 45, 8006, 1035, 2, 4), (51, .ifCond .eq 9, 0, 60, 0, 0), (54, .aload_n 0, 0, 0, 0, 0), (55, .iload 7, 0, 0, 0, 0), (57, .invokevirtual 49, 8007, 2310, 1, 9)]
noncomputable def kb_X7_cut_60 : List (Nat × bO) := [(60, .iinc 7 (-1), 0, 0, 0, 0), (63, .goto (-32), 0, 31, 0, 0)]
noncomputable def kb_X7_cut_66 : List (Nat × bO) := [(66, .iinc 5 1, 0, 0, 0, 0), (69, .goto (-56), 0, 13, 0, 0)]
noncomputable def kb_X7_cut_72 : List (Nat × bO) := [(72, .return_, 0, 0, 0, 0)]
set_option maxRecDepth 16000 in
theorem kbl_X7_cut : tcode 2308 = List.flatten [kb_X7_cut_0, kb_X7_cut_13, kb_X7_cut_31, kb_X7_cut_60, kb_X7_cut_66, kb_X7_cut_72] := sorry
theorem kbs_X7_cut : ksort (tcode 2308) = true := sorry
theorem tb_X7_cut_0 {e : tE} {c : Bool} {d : Nat} {L : tL} {st : List tV} {M : tM} {n : Nat} {Q : tR → tM → Nat → Prop} (h : wB e c 9 d 2308 13 kb_X7_cut_0 L st M n Q) : tT e d 2308 0 L st M n Q := sorry
theorem tb_X7_cut_13 {e : tE} {c : Bool} {d : Nat} {L : tL} {st : List tV} {M : tM} {n : Nat} {Q : tR → tM → Nat → Prop} (h : wB e c 9 d 2308 31 kb_X7_cut_13 L st M n Q) : tT e d 2308 13 L st M n Q := sorry
theorem tb_X7_cut_31 {e : tE} {c : Bool} {d : Nat} {L : tL} {st : List tV} {M : tM} {n : Nat} {Q : tR → tM → Nat → Prop} (h : wB e c 9 d 2308 60 kb_X7_cut_31 L st M n Q) : tT e d 2308 31 L st M n Q := sorry
theorem tb_X7_cut_60 {e : tE} {c : Bool} {d : Nat} {L : tL} {st : List tV} {M : tM} {n : Nat} {Q : tR → tM → Nat → Prop} (h : wB e c 9 d 2308 66 kb_X7_cut_60 L st M n Q) : tT e d 2308 60 L st M n Q := sorry
theorem tb_X7_cut_66 {e : tE} {c : Bool} {d : Nat} {L : tL} {st : List tV} {M : tM} {n : Nat} {Q : tR → tM → Nat → Prop} (h : wB e c 9 d 2308 72 kb_X7_cut_66 L st M n Q) : tT e d 2308 66 L st M n Q := sorry
theorem tb_X7_cut_72 {e : tE} {c : Bool} {d : Nat} {L : tL} {st : List tV} {M : tM} {n : Nat} {Q : tR → tM → Nat → Prop} (h : wB e c 9 d 2308 73 kb_X7_cut_72 L st M n Q) : tT e d 2308 72 L st M n Q := sorry
theorem bmx_X7_cut : (bmeth 2308).2.2.1 = 8 := sorry
theorem tst_X7_cut {e : tE} {d : Nat} {M : tM} {n : Nat} {Q : tR → tM → Nat → Prop} {r : Nat} {x1 : Nat ⊕ Nat} {x2 : Int} {x3 : Int} (h : tT e d 2308 0 [some (.inr (.inr (.inl r))), some (.inr (.inr x1)), some (.inl x2), some (.inr (.inl x3)), none, none, none, none] [] M n Q) : tC e d 2308 [.inr (.inr (.inl r)), .inr (.inr x1), .inl x2, .inr (.inl x3)] M n Q := sorry
noncomputable def kb_X7_markAt_0 : List (Nat × bO) := [(0, .aload_n 0, 0, 0, 0, 0), (1, .getfield 18, 2127, 9, 1, 0), (4, .aload_n 0, 0, 0, 0, 0), (5, .iload_n 1, 0, 0, 0, 0), (6, .invokevirtual 30, 7206, 2312, 1, 9), (9, .iaload, 0, 0, 0, 0), (10, .ireturn, 0, 0, 0, 0)]
set_option maxRecDepth 16000 in
theorem kbl_X7_markAt : tcode 2309 = List.flatten [kb_X7_markAt_0] := sorry
theorem kbs_X7_markAt : ksort (tcode 2309) = true := sorry
theorem tb_X7_markAt_0 {e : tE} {c : Bool} {d : Nat} {L : tL} {st : List tV} {M : tM} {n : Nat} {Q : tR → tM → Nat → Prop} (h : wB e c 0 d 2309 11 kb_X7_markAt_0 L st M n Q) : tT e d 2309 0 L st M n Q := sorry
theorem bmx_X7_markAt : (bmeth 2309).2.2.1 = 2 := sorry
theorem tst_X7_markAt {e : tE} {d : Nat} {M : tM} {n : Nat} {Q : tR → tM → Nat → Prop} {r : Nat} {x1 : Int} (h : tT e d 2309 0 [some (.inr (.inr (.inl r))), some (.inl x1)] [] M n Q) : tC e d 2309 [.inr (.inr (.inl r)), .inl x1] M n Q := sorry
