/-! The blocks of the code. Printed by wip/p2/genblk.py. -/
noncomputable def kb_X0_difference_0 : List (Nat × bO) := [(0, .aload_n 1, 0, 0, 0, 0), (1, .getfield 54, 1091, 4, 0, 0), (4, .aload_n 1, 0, 0, 0, 0), (5, .getfield 54, 1091, 4, 0, 0), (8, .aload_n 2, 0, 0, 0, 0), (9, .getfield 61, 1095, 4, 1, 0), (12, .invokevirtual 108, 3120, 781, 2, 3), (15, .aload_n 1, 0, 0, 0, 0), (16, .getfield 61, 1095, 4, 1, 0), (19, .aload_n 1, 0, 0, 0, 0), (20, .getfield 61, 1095, 4, 1, 0), (23, .aload_n 2, 0, 0, 0, 0), (24, .getfield 54, 1091, 4, 0, 0), (27, .invokevirtual 108, 3120, 781, 2, 3), (30, .aload_n 1, 0, 0, 0, 0), (31, .aload_n 0, 0, 0, 0, 0), (32, .getfield 40, 2015, 2, 5, 0), (35, .invokevirtual 94, 3107, 1034, 1, 4), (38, .aload_n 1, 0, 0, 0, 0), (39, .invokestatic 98, 3113, 514, 1, 0), (42, .ireturn, 0, 0, 0, 0)]
set_option maxRecDepth 16000 in
theorem kbl_X0_difference : tcode 513 = List.flatten [kb_X0_difference_0] := sorry
theorem kbs_X0_difference : ksort (tcode 513) = true := sorry
theorem tb_X0_difference_0 {e : tE} {c : Bool} {d : Nat} {L : tL} {st : List tV} {M : tM} {n : Nat} {Q : tR → tM → Nat → Prop} (h : wB e c 0 d 513 43 kb_X0_difference_0 L st M n Q) : tT e d 513 0 L st M n Q := sorry
theorem bmx_X0_difference : (bmeth 513).2.2.1 = 3 := sorry
theorem tst_X0_difference {e : tE} {d : Nat} {M : tM} {n : Nat} {Q : tR → tM → Nat → Prop} {r : Nat} {x1 : Nat ⊕ Nat} {x2 : Nat ⊕ Nat} (h : tT e d 513 0 [some (.inr (.inr (.inl r))), some (.inr (.inr x1)), some (.inr (.inr x2))] [] M n Q) : tC e d 513 [.inr (.inr (.inl r)), .inr (.inr x1), .inr (.inr x2)] M n Q := sorry
noncomputable def kb_X0_judged_0 : List (Nat × bO) := [(0, .aload_n 0, 0, 0, 0, 0), (1, .invokevirtual 48, 3075, 1032, 0, 4), (4, .ifCond .eq 7, 0, 11, 0, 0), (7, .iconst 2, 0, 0, 0, 0), (8, .goto 4, 0, 12, 0, 0)]
noncomputable def kb_X0_judged_11 : List (Nat × bO) := [(11, .iconst 0, 0, 0, 0, 0)]
noncomputable def kb_X0_judged_12 : List (Nat × bO) := [(12, .ireturn, 0, 0, 0, 0)]
set_option maxRecDepth 16000 in
theorem kbl_X0_judged : tcode 514 = List.flatten [kb_X0_judged_0, kb_X0_judged_11, kb_X0_judged_12] := sorry
theorem kbs_X0_judged : ksort (tcode 514) = true := sorry
theorem tb_X0_judged_0 {e : tE} {c : Bool} {d : Nat} {L : tL} {st : List tV} {M : tM} {n : Nat} {Q : tR → tM → Nat → Prop} (h : wB e c 0 d 514 11 kb_X0_judged_0 L st M n Q) : tT e d 514 0 L st M n Q := sorry
theorem tb_X0_judged_11 {e : tE} {c : Bool} {d : Nat} {L : tL} {st : List tV} {M : tM} {n : Nat} {Q : tR → tM → Nat → Prop} (h : wB e c 0 d 514 12 kb_X0_judged_11 L st M n Q) : tT e d 514 11 L st M n Q := sorry
theorem tb_X0_judged_12 {e : tE} {c : Bool} {d : Nat} {L : tL} {st : List tV} {M : tM} {n : Nat} {Q : tR → tM → Nat → Prop} (h : wB e c 0 d 514 13 kb_X0_judged_12 L st M n Q) : tT e d 514 12 L st M n Q := sorry
theorem bmx_X0_judged : (bmeth 514).2.2.1 = 1 := sorry
theorem tst_X0_judged {e : tE} {d : Nat} {M : tM} {n : Nat} {Q : tR → tM → Nat → Prop} {x1 : Nat ⊕ Nat} (h : tT e d 514 0 [some (.inr (.inr x1))] [] M n Q) : tC e d 514 [.inr (.inr x1)] M n Q := sorry
noncomputable def kb_X0_negative_0 : List (Nat × bO) := [(0, .aload_n 1, 0, 0, 0, 0), (1, .invokevirtual 91, 3203, 1036, 0, 4), (4, .aload_n 1, 0, 0, 0, 0), (5, .aload_n 0, 0, 0, 0, 0), (6, .getfield 40, 2015, 2, 5, 0), (9, .invokevirtual 94, 3107, 1034, 1, 4), (12, .aload_n 1, 0, 0, 0, 0), (13, .invokestatic 98, 3113, 514, 1, 0), (16, .ireturn, 0, 0, 0, 0)]
set_option maxRecDepth 16000 in
theorem kbl_X0_negative : tcode 515 = List.flatten [kb_X0_negative_0] := sorry
theorem kbs_X0_negative : ksort (tcode 515) = true := sorry
theorem tb_X0_negative_0 {e : tE} {c : Bool} {d : Nat} {L : tL} {st : List tV} {M : tM} {n : Nat} {Q : tR → tM → Nat → Prop} (h : wB e c 0 d 515 17 kb_X0_negative_0 L st M n Q) : tT e d 515 0 L st M n Q := sorry
theorem bmx_X0_negative : (bmeth 515).2.2.1 = 2 := sorry
theorem tst_X0_negative {e : tE} {d : Nat} {M : tM} {n : Nat} {Q : tR → tM → Nat → Prop} {r : Nat} {x1 : Nat ⊕ Nat} (h : tT e d 515 0 [some (.inr (.inr (.inl r))), some (.inr (.inr x1))] [] M n Q) : tC e d 515 [.inr (.inr (.inl r)), .inr (.inr x1)] M n Q := sorry
noncomputable def kb_X0_ofOne_0 : List (Nat × bO) := [(0, .iload_n 2, 0, 0, 0, 0), (1, .bipush 114, 0, 0, 0, 0), (3, .if_icmp .ne 13, 0, 16, 0, 0), (6, .aload_n 1, 0, 0, 0, 0), (7, .getfield 54, 1091, 4, 0, 0), (10, .invokevirtual 131, 3202, 774, 0, 3), (13, .ifCond .ne 19, 0, 32, 0, 0)]
noncomputable def kb_X0_ofOne_16 : List (Nat × bO) := [(16, .iload_n 2, 0, 0, 0, 0), (17, .bipush 108, 0, 0, 0, 0), (19, .if_icmp .ne 15, 0, 34, 0, 0), (22, .aload_n 1, 0, 0, 0, 0), (23, .getfield 54, 1091, 4, 0, 0), (26, .invokevirtual 137, 4004, 775, 0, 3), (29, .ifCond .ne 5, 0, 34, 0, 0)]
noncomputable def kb_X0_ofOne_32 : List (Nat × bO) := [(32, .iconst 1, 0, 0, 0, 0), (33, .ireturn, 0, 0, 0, 0)]
noncomputable def kb_X0_ofOne_34 : List (Nat × bO) := [(34, .iload_n 2, 0, 0, 0, 0), (35, .bipush 94, 0, 0, 0, 0), (37, .if_icmp .ne 13, 0, 50, 0, 0), (40, .iload_n 3, 0, 0, 0, 0), (41, .iconst 2, 0, 0, 0, 0), (42, .irem, 0, 0, 0, 0), (43, .ifCond .ne 7, 0, 50, 0, 0), (46, .aload_n 1, 0, 0, 0, 0), (47, .invokevirtual 101, 3234, 1028, 0, 4)]
noncomputable def kb_X0_ofOne_50 : List (Nat × bO) := [(50, .aload_n 1, 0, 0, 0, 0), (51, .invokevirtual 111, 3128, 1031, 0, 4), (54, .istore 4, 0, 0, 0, 0), (56, .iconst 0, 0, 0, 0, 0), (57, .istore 5, 0, 0, 0, 0)]
noncomputable def kb_X0_ofOne_59 : List (Nat × bO) := [(59, .iload 5, 0, 0, 0, 0), (61, .iconst 2, 0, 0, 0, 0), (62, .if_icmp .ge 198, 0, 260, 0, 0), (65, .iload 5, 0, 0, 0, 0), (67, .ifCond .ne 10, 0, 77, 0, 0), (70, .aload_n 1, 0, 0, 0, 0), (71, .getfield 54, 1091, 4, 0, 0), (74, .goto 7, 0, 81, 0, 0)]
noncomputable def kb_X0_ofOne_77 : List (Nat × bO) := [(77, .aload_n 1, 0, 0, 0, 0), (78, .getfield 61, 1095, 4, 1, 0)]
noncomputable def kb_X0_ofOne_81 : List (Nat × bO) := [(81, .astore 6, 0, 0, 0, 0), (83, .iload 5, 0, 0, 0, 0), (85, .ifCond .eq 8, 0, 93, 0, 0), (88, .iload 4, 0, 0, 0, 0), (90, .ifCond .ne 126, 0, 216, 0, 0)]
noncomputable def kb_X0_ofOne_93 : List (Nat × bO) := [(93, .iload_n 2, 0, 0, 0, 0), (94, .lookupswitch 106 #[(94, 42), (101, 68), (108, 87), (114, 55)], 42, 0, 0, 0)]
noncomputable def kb_X0_ofOne_136 : List (Nat × bO) := [(136, .aload_n 0, 0, 0, 0, 0), (137, .getfield 12, 2010, 2, 0, 0), (140, .aload 6, 0, 0, 0, 0), (142, .iload_n 3, 0, 0, 0, 0), (143, .invokevirtual 140, 4005, 2577, 2, 10), (146, .goto 70, 0, 216, 0, 0)]
noncomputable def kb_X0_ofOne_149 : List (Nat × bO) := [(149, .aload_n 0, 0, 0, 0, 0), (150, .getfield 12, 2010, 2, 0, 0), (153, .aload 6, 0, 0, 0, 0), (155, .iload_n 3, 0, 0, 0, 0), (156, .invokevirtual 144, 4015, 2578, 2, 10), (159, .goto 57, 0, 216, 0, 0)]
noncomputable def kb_X0_ofOne_162 : List (Nat × bO) := [(162, .aload_n 0, 0, 0, 0, 0), (163, .getfield 23, 2011, 2, 1, 0), (166, .aload 6, 0, 0, 0, 0), (168, .invokevirtual 147, 4028, 1283, 1, 5), (171, .aload_n 0, 0, 0, 0, 0), (172, .getfield 23, 2011, 2, 1, 0), (175, .invokevirtual 150, 4083, 1290, 0, 5), (178, .goto 38, 0, 216, 0, 0)]
noncomputable def kb_X0_ofOne_181 : List (Nat × bO) := [(181, .aload_n 0, 0, 0, 0, 0), (182, .getfield 23, 2011, 2, 1, 0), (185, .aload 6, 0, 0, 0, 0), (187, .invokevirtual 153, 4095, 1284, 1, 5), (190, .aload_n 0, 0, 0, 0, 0), (191, .getfield 23, 2011, 2, 1, 0), (194, .invokevirtual 150, 4083, 1290, 0, 5), (197, .goto 19, 0, 216, 0, 0)]
noncomputable def kb_X0_ofOne_200 : List (Nat × bO) := [(200, .aload_n 0, 0, 0, 0, 0), (201, .getfield 23, 2011, 2, 1, 0), (204, .aload 6, 0, 0, 0, 0), (206, .invokevirtual 156, 4131, 1281, 1, 5), (209, .aload_n 0, 0, 0, 0, 0), (210, .getfield 23, 2011, 2, 1, 0), (213, .invokevirtual 150, 4083, 1290, 0, 5)]
noncomputable def kb_X0_ofOne_216 : List (Nat × bO) := [(216, .iload 5, 0, 0, 0, 0), (218, .ifCond .ne 21, 0, 239, 0, 0), (221, .aload_n 0, 0, 0, 0, 0), (222, .getfield 12, 2010, 2, 0, 0), (225, .aload_n 0, 0, 0, 0, 0), (226, .getfield 30, 2012, 2, 2, 0), (229, .aload_n 0, 0, 0, 0, 0), (230, .getfield 40, 2015, 2, 5, 0), (233, .invokevirtual 57, 3054, 2575, 2, 10), (236, .goto 18, 0, 254, 0, 0)]
noncomputable def kb_X0_ofOne_239 : List (Nat × bO) := [(239, .aload_n 0, 0, 0, 0, 0), (240, .getfield 12, 2010, 2, 0, 0), (243, .aload_n 0, 0, 0, 0, 0), (244, .getfield 34, 2013, 2, 3, 0), (247, .aload_n 0, 0, 0, 0, 0), (248, .getfield 40, 2015, 2, 5, 0), (251, .invokevirtual 64, 3066, 2576, 2, 10)]
noncomputable def kb_X0_ofOne_254 : List (Nat × bO) := [(254, .iinc 5 1, 0, 0, 0, 0), (257, .goto (-198), 0, 59, 0, 0)]
noncomputable def kb_X0_ofOne_260 : List (Nat × bO) := [(260, .aload_n 1, 0, 0, 0, 0), (261, .aload_n 0, 0, 0, 0, 0), (262, .getfield 30, 2012, 2, 2, 0), (265, .aload_n 0, 0, 0, 0, 0), (266, .getfield 34, 2013, 2, 3, 0), (269, .invokevirtual 125, 3185, 1025, 2, 4), (272, .aload_n 1, 0, 0, 0, 0), (273, .invokestatic 98, 3113, 514, 1, 0), (276, .ireturn, 0, 0, 0, 0)]
set_option maxRecDepth 16000 in
theorem kbl_X0_ofOne : tcode 516 = List.flatten [kb_X0_ofOne_0, kb_X0_ofOne_16, kb_X0_ofOne_32, kb_X0_ofOne_34, kb_X0_ofOne_50, kb_X0_ofOne_59, kb_X0_ofOne_77, kb_X0_ofOne_81, kb_X0_ofOne_93, kb_X0_ofOne_136, kb_X0_ofOne_149, kb_X0_ofOne_162, kb_X0_ofOne_181, kb_X0_ofOne_200, kb_X0_ofOne_216, kb_X0_ofOne_239, kb_X0_ofOne_254, kb_X0_ofOne_260] := sorry
theorem kbs_X0_ofOne : ksort (tcode 516) = true := sorry
theorem tb_X0_ofOne_0 {e : tE} {c : Bool} {d : Nat} {L : tL} {st : List tV} {M : tM} {n : Nat} {Q : tR → tM → Nat → Prop} (h : wB e c 0 d 516 16 kb_X0_ofOne_0 L st M n Q) : tT e d 516 0 L st M n Q := sorry
theorem tb_X0_ofOne_16 {e : tE} {c : Bool} {d : Nat} {L : tL} {st : List tV} {M : tM} {n : Nat} {Q : tR → tM → Nat → Prop} (h : wB e c 0 d 516 32 kb_X0_ofOne_16 L st M n Q) : tT e d 516 16 L st M n Q := sorry
theorem tb_X0_ofOne_32 {e : tE} {c : Bool} {d : Nat} {L : tL} {st : List tV} {M : tM} {n : Nat} {Q : tR → tM → Nat → Prop} (h : wB e c 0 d 516 34 kb_X0_ofOne_32 L st M n Q) : tT e d 516 32 L st M n Q := sorry
theorem tb_X0_ofOne_34 {e : tE} {c : Bool} {d : Nat} {L : tL} {st : List tV} {M : tM} {n : Nat} {Q : tR → tM → Nat → Prop} (h : wB e c 0 d 516 50 kb_X0_ofOne_34 L st M n Q) : tT e d 516 34 L st M n Q := sorry
theorem tb_X0_ofOne_50 {e : tE} {c : Bool} {d : Nat} {L : tL} {st : List tV} {M : tM} {n : Nat} {Q : tR → tM → Nat → Prop} (h : wB e c 0 d 516 59 kb_X0_ofOne_50 L st M n Q) : tT e d 516 50 L st M n Q := sorry
theorem tb_X0_ofOne_59 {e : tE} {c : Bool} {d : Nat} {L : tL} {st : List tV} {M : tM} {n : Nat} {Q : tR → tM → Nat → Prop} (h : wB e c 0 d 516 77 kb_X0_ofOne_59 L st M n Q) : tT e d 516 59 L st M n Q := sorry
theorem tb_X0_ofOne_77 {e : tE} {c : Bool} {d : Nat} {L : tL} {st : List tV} {M : tM} {n : Nat} {Q : tR → tM → Nat → Prop} (h : wB e c 0 d 516 81 kb_X0_ofOne_77 L st M n Q) : tT e d 516 77 L st M n Q := sorry
theorem tb_X0_ofOne_81 {e : tE} {c : Bool} {d : Nat} {L : tL} {st : List tV} {M : tM} {n : Nat} {Q : tR → tM → Nat → Prop} (h : wB e c 0 d 516 93 kb_X0_ofOne_81 L st M n Q) : tT e d 516 81 L st M n Q := sorry
theorem tb_X0_ofOne_93 {e : tE} {c : Bool} {d : Nat} {L : tL} {st : List tV} {M : tM} {n : Nat} {Q : tR → tM → Nat → Prop} (h : wB e c 0 d 516 136 kb_X0_ofOne_93 L st M n Q) : tT e d 516 93 L st M n Q := sorry
theorem tb_X0_ofOne_136 {e : tE} {c : Bool} {d : Nat} {L : tL} {st : List tV} {M : tM} {n : Nat} {Q : tR → tM → Nat → Prop} (h : wB e c 0 d 516 149 kb_X0_ofOne_136 L st M n Q) : tT e d 516 136 L st M n Q := sorry
theorem tb_X0_ofOne_149 {e : tE} {c : Bool} {d : Nat} {L : tL} {st : List tV} {M : tM} {n : Nat} {Q : tR → tM → Nat → Prop} (h : wB e c 0 d 516 162 kb_X0_ofOne_149 L st M n Q) : tT e d 516 149 L st M n Q := sorry
theorem tb_X0_ofOne_162 {e : tE} {c : Bool} {d : Nat} {L : tL} {st : List tV} {M : tM} {n : Nat} {Q : tR → tM → Nat → Prop} (h : wB e c 0 d 516 181 kb_X0_ofOne_162 L st M n Q) : tT e d 516 162 L st M n Q := sorry
theorem tb_X0_ofOne_181 {e : tE} {c : Bool} {d : Nat} {L : tL} {st : List tV} {M : tM} {n : Nat} {Q : tR → tM → Nat → Prop} (h : wB e c 0 d 516 200 kb_X0_ofOne_181 L st M n Q) : tT e d 516 181 L st M n Q := sorry
theorem tb_X0_ofOne_200 {e : tE} {c : Bool} {d : Nat} {L : tL} {st : List tV} {M : tM} {n : Nat} {Q : tR → tM → Nat → Prop} (h : wB e c 0 d 516 216 kb_X0_ofOne_200 L st M n Q) : tT e d 516 200 L st M n Q := sorry
theorem tb_X0_ofOne_216 {e : tE} {c : Bool} {d : Nat} {L : tL} {st : List tV} {M : tM} {n : Nat} {Q : tR → tM → Nat → Prop} (h : wB e c 0 d 516 239 kb_X0_ofOne_216 L st M n Q) : tT e d 516 216 L st M n Q := sorry
theorem tb_X0_ofOne_239 {e : tE} {c : Bool} {d : Nat} {L : tL} {st : List tV} {M : tM} {n : Nat} {Q : tR → tM → Nat → Prop} (h : wB e c 0 d 516 254 kb_X0_ofOne_239 L st M n Q) : tT e d 516 239 L st M n Q := sorry
theorem tb_X0_ofOne_254 {e : tE} {c : Bool} {d : Nat} {L : tL} {st : List tV} {M : tM} {n : Nat} {Q : tR → tM → Nat → Prop} (h : wB e c 0 d 516 260 kb_X0_ofOne_254 L st M n Q) : tT e d 516 254 L st M n Q := sorry
theorem tb_X0_ofOne_260 {e : tE} {c : Bool} {d : Nat} {L : tL} {st : List tV} {M : tM} {n : Nat} {Q : tR → tM → Nat → Prop} (h : wB e c 0 d 516 277 kb_X0_ofOne_260 L st M n Q) : tT e d 516 260 L st M n Q := sorry
theorem bmx_X0_ofOne : (bmeth 516).2.2.1 = 7 := sorry
theorem tst_X0_ofOne {e : tE} {d : Nat} {M : tM} {n : Nat} {Q : tR → tM → Nat → Prop} {r : Nat} {x1 : Nat ⊕ Nat} {x2 : Int} {x3 : Int} (h : tT e d 516 0 [some (.inr (.inr (.inl r))), some (.inr (.inr x1)), some (.inl x2), some (.inl x3), none, none, none] [] M n Q) : tC e d 516 [.inr (.inr (.inl r)), .inr (.inr x1), .inl x2, .inl x3] M n Q := sorry
noncomputable def kb_X0_product_0 : List (Nat × bO) := [(0, .aload_n 1, 0, 0, 0, 0), (1, .invokevirtual 111, 3128, 1031, 0, 4), (4, .ifCond .eq 7, 0, 11, 0, 0), (7, .iconst 1, 0, 0, 0, 0), (8, .goto 4, 0, 12, 0, 0)]
noncomputable def kb_X0_product_11 : List (Nat × bO) := [(11, .iconst 2, 0, 0, 0, 0)]
noncomputable def kb_X0_product_12 : List (Nat × bO) := [(12, .istore_n 3, 0, 0, 0, 0), (13, .aload_n 2, 0, 0, 0, 0), (14, .invokevirtual 111, 3128, 1031, 0, 4), (17, .ifCond .eq 7, 0, 24, 0, 0), (20, .iload_n 3, 0, 0, 0, 0), (21, .goto 6, 0, 27, 0, 0)]
noncomputable def kb_X0_product_24 : List (Nat × bO) := [(24, .iconst 2, 0, 0, 0, 0), (25, .iload_n 3, 0, 0, 0, 0), (26, .imul, 0, 0, 0, 0)]
noncomputable def kb_X0_product_27 : List (Nat × bO) := [(27, .istore 4, 0, 0, 0, 0), (29, .iconst 0, 0, 0, 0, 0), (30, .istore 5, 0, 0, 0, 0)]
noncomputable def kb_X0_product_32 : List (Nat × bO) := [(32, .iload 5, 0, 0, 0, 0), (34, .iload 4, 0, 0, 0, 0), (36, .if_icmp .ge 141, 0, 177, 0, 0), (39, .aload_n 0, 0, 0, 0, 0), (40, .getfield 12, 2010, 2, 0, 0), (43, .iload 5, 0, 0, 0, 0), (45, .iload_n 3, 0, 0, 0, 0), (46, .irem, 0, 0, 0, 0), (47, .ifCond .ne 10, 0, 57, 0, 0), (50, .aload_n 1, 0, 0, 0, 0), (51, .getfield 54, 1091, 4, 0, 0), (54, .goto 7, 0, 61, 0, 0)]
noncomputable def kb_X0_product_57 : List (Nat × bO) := [(57, .aload_n 1, 0, 0, 0, 0), (58, .getfield 61, 1095, 4, 1, 0)]
noncomputable def kb_X0_product_61 : List (Nat × bO) := [(61, .iload 5, 0, 0, 0, 0), (63, .iload_n 3, 0, 0, 0, 0), (64, .if_icmp .ge 10, 0, 74, 0, 0), (67, .aload_n 2, 0, 0, 0, 0), (68, .getfield 54, 1091, 4, 0, 0), (71, .goto 7, 0, 78, 0, 0)]
noncomputable def kb_X0_product_74 : List (Nat × bO) := [(74, .aload_n 2, 0, 0, 0, 0), (75, .getfield 61, 1095, 4, 1, 0)]
noncomputable def kb_X0_product_78 : List (Nat × bO) := [(78, .invokevirtual 114, 3139, 2567, 2, 10), (81, .aload_n 0, 0, 0, 0, 0), (82, .getfield 12, 2010, 2, 0, 0), (85, .aload_n 0, 0, 0, 0, 0), (86, .getfield 37, 2014, 2, 4, 0), (89, .aload_n 0, 0, 0, 0, 0), (90, .getfield 40, 2015, 2, 5, 0), (93, .invokevirtual 57, 3054, 2575, 2, 10), (96, .iload 5, 0, 0, 0, 0), (98, .ifCond .eq 17, 0, 115, 0, 0), (101, .aload_n 0, 0, 0, 0, 0), (102, .getfield 37, 2014, 2, 4, 0), (105, .aload_n 0, 0, 0, 0, 0), (106, .getfield 30, 2012, 2, 2, 0), (109, .invokevirtual 117, 3180, 773, 1, 3), (112, .ifCond .eq 14, 0, 126, 0, 0)]
noncomputable def kb_X0_product_115 : List (Nat × bO) := [(115, .aload_n 0, 0, 0, 0, 0), (116, .getfield 30, 2012, 2, 2, 0), (119, .aload_n 0, 0, 0, 0, 0), (120, .getfield 37, 2014, 2, 4, 0), (123, .invokevirtual 121, 3184, 771, 1, 3)]
noncomputable def kb_X0_product_126 : List (Nat × bO) := [(126, .aload_n 0, 0, 0, 0, 0), (127, .getfield 12, 2010, 2, 0, 0), (130, .aload_n 0, 0, 0, 0, 0), (131, .getfield 37, 2014, 2, 4, 0), (134, .aload_n 0, 0, 0, 0, 0), (135, .getfield 40, 2015, 2, 5, 0), (138, .invokevirtual 64, 3066, 2576, 2, 10), (141, .iload 5, 0, 0, 0, 0), (143, .ifCond .eq 17, 0, 160, 0, 0), (146, .aload_n 0, 0, 0, 0, 0), (147, .getfield 34, 2013, 2, 3, 0), (150, .aload_n 0, 0, 0, 0, 0), (151, .getfield 37, 2014, 2, 4, 0), (154, .invokevirtual 117, 3180, 773, 1, 3), (157, .ifCond .eq 14, 0, 171, 0, 0)]
noncomputable def kb_X0_product_160 : List (Nat × bO) := [(160, .aload_n 0, 0, 0, 0, 0), (161, .getfield 34, 2013, 2, 3, 0), (164, .aload_n 0, 0, 0, 0, 0), (165, .getfield 37, 2014, 2, 4, 0), (168, .invokevirtual 121, 3184, 771, 1, 3)]
noncomputable def kb_X0_product_171 : List (Nat × bO) := [(171, .iinc 5 1, 0, 0, 0, 0), (174, .goto (-142), 0, 32, 0, 0)]
noncomputable def kb_X0_product_177 : List (Nat × bO) := [(177, .aload_n 1, 0, 0, 0, 0), (178, .aload_n 0, 0, 0, 0, 0), (179, .getfield 30, 2012, 2, 2, 0), (182, .aload_n 0, 0, 0, 0, 0), (183, .getfield 34, 2013, 2, 3, 0), (186, .invokevirtual 125, 3185, 1025, 2, 4), (189, .aload_n 1, 0, 0, 0, 0), (190, .invokestatic 98, 3113, 514, 1, 0), (193, .ireturn, 0, 0, 0, 0)]
set_option maxRecDepth 16000 in
theorem kbl_X0_product : tcode 517 = List.flatten [kb_X0_product_0, kb_X0_product_11, kb_X0_product_12, kb_X0_product_24, kb_X0_product_27, kb_X0_product_32, kb_X0_product_57, kb_X0_product_61, kb_X0_product_74, kb_X0_product_78, kb_X0_product_115, kb_X0_product_126, kb_X0_product_160, kb_X0_product_171, kb_X0_product_177] := sorry
theorem kbs_X0_product : ksort (tcode 517) = true := sorry
theorem tb_X0_product_0 {e : tE} {c : Bool} {d : Nat} {L : tL} {st : List tV} {M : tM} {n : Nat} {Q : tR → tM → Nat → Prop} (h : wB e c 0 d 517 11 kb_X0_product_0 L st M n Q) : tT e d 517 0 L st M n Q := sorry
theorem tb_X0_product_11 {e : tE} {c : Bool} {d : Nat} {L : tL} {st : List tV} {M : tM} {n : Nat} {Q : tR → tM → Nat → Prop} (h : wB e c 0 d 517 12 kb_X0_product_11 L st M n Q) : tT e d 517 11 L st M n Q := sorry
theorem tb_X0_product_12 {e : tE} {c : Bool} {d : Nat} {L : tL} {st : List tV} {M : tM} {n : Nat} {Q : tR → tM → Nat → Prop} (h : wB e c 0 d 517 24 kb_X0_product_12 L st M n Q) : tT e d 517 12 L st M n Q := sorry
theorem tb_X0_product_24 {e : tE} {c : Bool} {d : Nat} {L : tL} {st : List tV} {M : tM} {n : Nat} {Q : tR → tM → Nat → Prop} (h : wB e c 0 d 517 27 kb_X0_product_24 L st M n Q) : tT e d 517 24 L st M n Q := sorry
theorem tb_X0_product_27 {e : tE} {c : Bool} {d : Nat} {L : tL} {st : List tV} {M : tM} {n : Nat} {Q : tR → tM → Nat → Prop} (h : wB e c 0 d 517 32 kb_X0_product_27 L st M n Q) : tT e d 517 27 L st M n Q := sorry
theorem tb_X0_product_32 {e : tE} {c : Bool} {d : Nat} {L : tL} {st : List tV} {M : tM} {n : Nat} {Q : tR → tM → Nat → Prop} (h : wB e c 0 d 517 57 kb_X0_product_32 L st M n Q) : tT e d 517 32 L st M n Q := sorry
theorem tb_X0_product_57 {e : tE} {c : Bool} {d : Nat} {L : tL} {st : List tV} {M : tM} {n : Nat} {Q : tR → tM → Nat → Prop} (h : wB e c 0 d 517 61 kb_X0_product_57 L st M n Q) : tT e d 517 57 L st M n Q := sorry
theorem tb_X0_product_61 {e : tE} {c : Bool} {d : Nat} {L : tL} {st : List tV} {M : tM} {n : Nat} {Q : tR → tM → Nat → Prop} (h : wB e c 0 d 517 74 kb_X0_product_61 L st M n Q) : tT e d 517 61 L st M n Q := sorry
theorem tb_X0_product_74 {e : tE} {c : Bool} {d : Nat} {L : tL} {st : List tV} {M : tM} {n : Nat} {Q : tR → tM → Nat → Prop} (h : wB e c 0 d 517 78 kb_X0_product_74 L st M n Q) : tT e d 517 74 L st M n Q := sorry
theorem tb_X0_product_78 {e : tE} {c : Bool} {d : Nat} {L : tL} {st : List tV} {M : tM} {n : Nat} {Q : tR → tM → Nat → Prop} (h : wB e c 0 d 517 115 kb_X0_product_78 L st M n Q) : tT e d 517 78 L st M n Q := sorry
theorem tb_X0_product_115 {e : tE} {c : Bool} {d : Nat} {L : tL} {st : List tV} {M : tM} {n : Nat} {Q : tR → tM → Nat → Prop} (h : wB e c 0 d 517 126 kb_X0_product_115 L st M n Q) : tT e d 517 115 L st M n Q := sorry
theorem tb_X0_product_126 {e : tE} {c : Bool} {d : Nat} {L : tL} {st : List tV} {M : tM} {n : Nat} {Q : tR → tM → Nat → Prop} (h : wB e c 0 d 517 160 kb_X0_product_126 L st M n Q) : tT e d 517 126 L st M n Q := sorry
theorem tb_X0_product_160 {e : tE} {c : Bool} {d : Nat} {L : tL} {st : List tV} {M : tM} {n : Nat} {Q : tR → tM → Nat → Prop} (h : wB e c 0 d 517 171 kb_X0_product_160 L st M n Q) : tT e d 517 160 L st M n Q := sorry
theorem tb_X0_product_171 {e : tE} {c : Bool} {d : Nat} {L : tL} {st : List tV} {M : tM} {n : Nat} {Q : tR → tM → Nat → Prop} (h : wB e c 0 d 517 177 kb_X0_product_171 L st M n Q) : tT e d 517 171 L st M n Q := sorry
theorem tb_X0_product_177 {e : tE} {c : Bool} {d : Nat} {L : tL} {st : List tV} {M : tM} {n : Nat} {Q : tR → tM → Nat → Prop} (h : wB e c 0 d 517 194 kb_X0_product_177 L st M n Q) : tT e d 517 177 L st M n Q := sorry
theorem bmx_X0_product : (bmeth 517).2.2.1 = 6 := sorry
theorem tst_X0_product {e : tE} {d : Nat} {M : tM} {n : Nat} {Q : tR → tM → Nat → Prop} {r : Nat} {x1 : Nat ⊕ Nat} {x2 : Nat ⊕ Nat} (h : tT e d 517 0 [some (.inr (.inr (.inl r))), some (.inr (.inr x1)), some (.inr (.inr x2)), none, none, none] [] M n Q) : tC e d 517 [.inr (.inr (.inl r)), .inr (.inr x1), .inr (.inr x2)] M n Q := sorry
noncomputable def kb_X0_quotient_0 : List (Nat × bO) := [(0, .aload_n 2, 0, 0, 0, 0), (1, .invokevirtual 128, 3193, 1030, 0, 4), (4, .ifCond .eq 5, 0, 9, 0, 0), (7, .iconst 1, 0, 0, 0, 0), (8, .ireturn, 0, 0, 0, 0)]
noncomputable def kb_X0_quotient_9 : List (Nat × bO) := [(9, .aload_n 2, 0, 0, 0, 0), (10, .getfield 61, 1095, 4, 1, 0), (13, .invokevirtual 131, 3202, 774, 0, 3), (16, .ifCond .eq 11, 0, 27, 0, 0), (19, .aload_n 1, 0, 0, 0, 0), (20, .invokevirtual 91, 3203, 1036, 0, 4), (23, .aload_n 2, 0, 0, 0, 0), (24, .invokevirtual 91, 3203, 1036, 0, 4)]
noncomputable def kb_X0_quotient_27 : List (Nat × bO) := [(27, .aload_n 0, 0, 0, 0, 0), (28, .getfield 12, 2010, 2, 0, 0), (31, .aload_n 1, 0, 0, 0, 0), (32, .getfield 54, 1091, 4, 0, 0), (35, .aload_n 1, 0, 0, 0, 0), (36, .getfield 54, 1091, 4, 0, 0), (39, .invokevirtual 131, 3202, 774, 0, 3), (42, .ifCond .eq 10, 0, 52, 0, 0), (45, .aload_n 2, 0, 0, 0, 0), (46, .getfield 54, 1091, 4, 0, 0), (49, .goto 7, 0, 56, 0, 0)]
noncomputable def kb_X0_quotient_52 : List (Nat × bO) := [(52, .aload_n 2, 0, 0, 0, 0), (53, .getfield 61, 1095, 4, 1, 0)]
noncomputable def kb_X0_quotient_56 : List (Nat × bO) := [(56, .invokevirtual 134, 3212, 2568, 2, 10), (59, .aload_n 0, 0, 0, 0, 0), (60, .getfield 12, 2010, 2, 0, 0), (63, .aload_n 0, 0, 0, 0, 0), (64, .getfield 30, 2012, 2, 2, 0), (67, .aload_n 0, 0, 0, 0, 0), (68, .getfield 40, 2015, 2, 5, 0), (71, .invokevirtual 57, 3054, 2575, 2, 10), (74, .aload_n 1, 0, 0, 0, 0), (75, .invokevirtual 111, 3128, 1031, 0, 4), (78, .ifCond .eq 10, 0, 88, 0, 0), (81, .aload_n 2, 0, 0, 0, 0), (82, .invokevirtual 111, 3128, 1031, 0, 4), (85, .ifCond .ne 35, 0, 120, 0, 0)]
noncomputable def kb_X0_quotient_88 : List (Nat × bO) := [(88, .aload_n 0, 0, 0, 0, 0), (89, .getfield 12, 2010, 2, 0, 0), (92, .aload_n 1, 0, 0, 0, 0), (93, .getfield 61, 1095, 4, 1, 0), (96, .aload_n 1, 0, 0, 0, 0), (97, .getfield 61, 1095, 4, 1, 0), (100, .invokevirtual 131, 3202, 774, 0, 3), (103, .ifCond .eq 10, 0, 113, 0, 0), (106, .aload_n 2, 0, 0, 0, 0), (107, .getfield 61, 1095, 4, 1, 0), (110, .goto 7, 0, 117, 0, 0)]
noncomputable def kb_X0_quotient_113 : List (Nat × bO) := [(113, .aload_n 2, 0, 0, 0, 0), (114, .getfield 54, 1091, 4, 0, 0)]
noncomputable def kb_X0_quotient_117 : List (Nat × bO) := [(117, .invokevirtual 134, 3212, 2568, 2, 10)]
noncomputable def kb_X0_quotient_120 : List (Nat × bO) := [(120, .aload_n 0, 0, 0, 0, 0), (121, .getfield 12, 2010, 2, 0, 0), (124, .aload_n 0, 0, 0, 0, 0), (125, .getfield 34, 2013, 2, 3, 0), (128, .aload_n 0, 0, 0, 0, 0), (129, .getfield 40, 2015, 2, 5, 0), (132, .invokevirtual 64, 3066, 2576, 2, 10), (135, .aload_n 1, 0, 0, 0, 0), (136, .aload_n 0, 0, 0, 0, 0), (137, .getfield 30, 2012, 2, 2, 0), (140, .aload_n 0, 0, 0, 0, 0), (141, .getfield 34, 2013, 2, 3, 0), (144, .invokevirtual 125, 3185, 1025, 2, 4), (147, .aload_n 1, 0, 0, 0, 0), (148, .invokestatic 98, 3113, 514, 1, 0), (151, .ireturn, 0, 0, 0, 0)]
set_option maxRecDepth 16000 in
theorem kbl_X0_quotient : tcode 518 = List.flatten [kb_X0_quotient_0, kb_X0_quotient_9, kb_X0_quotient_27, kb_X0_quotient_52, kb_X0_quotient_56, kb_X0_quotient_88, kb_X0_quotient_113, kb_X0_quotient_117, kb_X0_quotient_120] := sorry
theorem kbs_X0_quotient : ksort (tcode 518) = true := sorry
theorem tb_X0_quotient_0 {e : tE} {c : Bool} {d : Nat} {L : tL} {st : List tV} {M : tM} {n : Nat} {Q : tR → tM → Nat → Prop} (h : wB e c 0 d 518 9 kb_X0_quotient_0 L st M n Q) : tT e d 518 0 L st M n Q := sorry
theorem tb_X0_quotient_9 {e : tE} {c : Bool} {d : Nat} {L : tL} {st : List tV} {M : tM} {n : Nat} {Q : tR → tM → Nat → Prop} (h : wB e c 0 d 518 27 kb_X0_quotient_9 L st M n Q) : tT e d 518 9 L st M n Q := sorry
theorem tb_X0_quotient_27 {e : tE} {c : Bool} {d : Nat} {L : tL} {st : List tV} {M : tM} {n : Nat} {Q : tR → tM → Nat → Prop} (h : wB e c 0 d 518 52 kb_X0_quotient_27 L st M n Q) : tT e d 518 27 L st M n Q := sorry
theorem tb_X0_quotient_52 {e : tE} {c : Bool} {d : Nat} {L : tL} {st : List tV} {M : tM} {n : Nat} {Q : tR → tM → Nat → Prop} (h : wB e c 0 d 518 56 kb_X0_quotient_52 L st M n Q) : tT e d 518 52 L st M n Q := sorry
theorem tb_X0_quotient_56 {e : tE} {c : Bool} {d : Nat} {L : tL} {st : List tV} {M : tM} {n : Nat} {Q : tR → tM → Nat → Prop} (h : wB e c 0 d 518 88 kb_X0_quotient_56 L st M n Q) : tT e d 518 56 L st M n Q := sorry
theorem tb_X0_quotient_88 {e : tE} {c : Bool} {d : Nat} {L : tL} {st : List tV} {M : tM} {n : Nat} {Q : tR → tM → Nat → Prop} (h : wB e c 0 d 518 113 kb_X0_quotient_88 L st M n Q) : tT e d 518 88 L st M n Q := sorry
theorem tb_X0_quotient_113 {e : tE} {c : Bool} {d : Nat} {L : tL} {st : List tV} {M : tM} {n : Nat} {Q : tR → tM → Nat → Prop} (h : wB e c 0 d 518 117 kb_X0_quotient_113 L st M n Q) : tT e d 518 113 L st M n Q := sorry
theorem tb_X0_quotient_117 {e : tE} {c : Bool} {d : Nat} {L : tL} {st : List tV} {M : tM} {n : Nat} {Q : tR → tM → Nat → Prop} (h : wB e c 0 d 518 120 kb_X0_quotient_117 L st M n Q) : tT e d 518 117 L st M n Q := sorry
theorem tb_X0_quotient_120 {e : tE} {c : Bool} {d : Nat} {L : tL} {st : List tV} {M : tM} {n : Nat} {Q : tR → tM → Nat → Prop} (h : wB e c 0 d 518 152 kb_X0_quotient_120 L st M n Q) : tT e d 518 120 L st M n Q := sorry
theorem bmx_X0_quotient : (bmeth 518).2.2.1 = 3 := sorry
theorem tst_X0_quotient {e : tE} {d : Nat} {M : tM} {n : Nat} {Q : tR → tM → Nat → Prop} {r : Nat} {x1 : Nat ⊕ Nat} {x2 : Nat ⊕ Nat} (h : tT e d 518 0 [some (.inr (.inr (.inl r))), some (.inr (.inr x1)), some (.inr (.inr x2))] [] M n Q) : tC e d 518 [.inr (.inr (.inl r)), .inr (.inr x1), .inr (.inr x2)] M n Q := sorry
noncomputable def kb_X0_size_0 : List (Nat × bO) := [(0, .aload_n 1, 0, 0, 0, 0), (1, .invokevirtual 101, 3234, 1028, 0, 4), (4, .aload_n 1, 0, 0, 0, 0), (5, .aload_n 0, 0, 0, 0, 0), (6, .getfield 40, 2015, 2, 5, 0), (9, .invokevirtual 94, 3107, 1034, 1, 4), (12, .aload_n 1, 0, 0, 0, 0), (13, .invokestatic 98, 3113, 514, 1, 0), (16, .ireturn, 0, 0, 0, 0)]
set_option maxRecDepth 16000 in
theorem kbl_X0_size : tcode 519 = List.flatten [kb_X0_size_0] := sorry
theorem kbs_X0_size : ksort (tcode 519) = true := sorry
theorem tb_X0_size_0 {e : tE} {c : Bool} {d : Nat} {L : tL} {st : List tV} {M : tM} {n : Nat} {Q : tR → tM → Nat → Prop} (h : wB e c 0 d 519 17 kb_X0_size_0 L st M n Q) : tT e d 519 0 L st M n Q := sorry
theorem bmx_X0_size : (bmeth 519).2.2.1 = 2 := sorry
theorem tst_X0_size {e : tE} {d : Nat} {M : tM} {n : Nat} {Q : tR → tM → Nat → Prop} {r : Nat} {x1 : Nat ⊕ Nat} (h : tT e d 519 0 [some (.inr (.inr (.inl r))), some (.inr (.inr x1))] [] M n Q) : tC e d 519 [.inr (.inr (.inl r)), .inr (.inr x1)] M n Q := sorry
noncomputable def kb_X0_sum_0 : List (Nat × bO) := [(0, .aload_n 1, 0, 0, 0, 0), (1, .getfield 54, 1091, 4, 0, 0), (4, .aload_n 1, 0, 0, 0, 0), (5, .getfield 54, 1091, 4, 0, 0), (8, .aload_n 2, 0, 0, 0, 0), (9, .getfield 54, 1091, 4, 0, 0), (12, .invokevirtual 104, 3103, 783, 2, 3), (15, .aload_n 1, 0, 0, 0, 0), (16, .getfield 61, 1095, 4, 1, 0), (19, .aload_n 1, 0, 0, 0, 0), (20, .getfield 61, 1095, 4, 1, 0), (23, .aload_n 2, 0, 0, 0, 0), (24, .getfield 61, 1095, 4, 1, 0), (27, .invokevirtual 104, 3103, 783, 2, 3), (30, .aload_n 1, 0, 0, 0, 0), (31, .aload_n 0, 0, 0, 0, 0), (32, .getfield 40, 2015, 2, 5, 0), (35, .invokevirtual 94, 3107, 1034, 1, 4), (38, .aload_n 1, 0, 0, 0, 0), (39, .invokestatic 98, 3113, 514, 1, 0), (42, .ireturn, 0, 0, 0, 0)]
set_option maxRecDepth 16000 in
theorem kbl_X0_sum : tcode 520 = List.flatten [kb_X0_sum_0] := sorry
theorem kbs_X0_sum : ksort (tcode 520) = true := sorry
theorem tb_X0_sum_0 {e : tE} {c : Bool} {d : Nat} {L : tL} {st : List tV} {M : tM} {n : Nat} {Q : tR → tM → Nat → Prop} (h : wB e c 0 d 520 43 kb_X0_sum_0 L st M n Q) : tT e d 520 0 L st M n Q := sorry
theorem bmx_X0_sum : (bmeth 520).2.2.1 = 3 := sorry
theorem tst_X0_sum {e : tE} {d : Nat} {M : tM} {n : Nat} {Q : tR → tM → Nat → Prop} {r : Nat} {x1 : Nat ⊕ Nat} {x2 : Nat ⊕ Nat} (h : tT e d 520 0 [some (.inr (.inr (.inl r))), some (.inr (.inr x1)), some (.inr (.inr x2))] [] M n Q) : tC e d 520 [.inr (.inr (.inl r)), .inr (.inr x1), .inr (.inr x2)] M n Q := sorry
noncomputable def kb_X0_tellConstant_0 : List (Nat × bO) := [(0, .iload_n 2, 0, 0, 0, 0), (1, .bipush 112, 0, 0, 0, 0), (3, .if_icmp .ne 20, 0, 23, 0, 0), (6, .aload_n 0, 0, 0, 0, 0), (7, .getfield 12, 2010, 2, 0, 0), (10, .ldc2_w 79, 3089, 0, 0, 3), (13, .ldc2_w 81, 3090, 0, 0, 1415926535), (16, .iconst 1, 0, 0, 0, 0), (17, .invokevirtual 83, 3091, 2562, 3, 10), (20, .goto 17, 0, 37, 0, 0)]
noncomputable def kb_X0_tellConstant_23 : List (Nat × bO) := [(23, .aload_n 0, 0, 0, 0, 0), (24, .getfield 12, 2010, 2, 0, 0), (27, .ldc2_w 87, 3092, 0, 0, 2), (30, .ldc2_w 89, 3093, 0, 0, 7182818284), (33, .iconst 1, 0, 0, 0, 0), (34, .invokevirtual 83, 3091, 2562, 3, 10)]
noncomputable def kb_X0_tellConstant_37 : List (Nat × bO) := [(37, .aload_n 0, 0, 0, 0, 0), (38, .aload_n 1, 0, 0, 0, 0), (39, .invokevirtual 71, 3050, 524, 1, 2), (42, .ireturn, 0, 0, 0, 0)]
set_option maxRecDepth 16000 in
theorem kbl_X0_tellConstant : tcode 521 = List.flatten [kb_X0_tellConstant_0, kb_X0_tellConstant_23, kb_X0_tellConstant_37] := sorry
theorem kbs_X0_tellConstant : ksort (tcode 521) = true := sorry
theorem tb_X0_tellConstant_0 {e : tE} {c : Bool} {d : Nat} {L : tL} {st : List tV} {M : tM} {n : Nat} {Q : tR → tM → Nat → Prop} (h : wB e c 0 d 521 23 kb_X0_tellConstant_0 L st M n Q) : tT e d 521 0 L st M n Q := sorry
theorem tb_X0_tellConstant_23 {e : tE} {c : Bool} {d : Nat} {L : tL} {st : List tV} {M : tM} {n : Nat} {Q : tR → tM → Nat → Prop} (h : wB e c 0 d 521 37 kb_X0_tellConstant_23 L st M n Q) : tT e d 521 23 L st M n Q := sorry
theorem tb_X0_tellConstant_37 {e : tE} {c : Bool} {d : Nat} {L : tL} {st : List tV} {M : tM} {n : Nat} {Q : tR → tM → Nat → Prop} (h : wB e c 0 d 521 43 kb_X0_tellConstant_37 L st M n Q) : tT e d 521 37 L st M n Q := sorry
theorem bmx_X0_tellConstant : (bmeth 521).2.2.1 = 3 := sorry
theorem tst_X0_tellConstant {e : tE} {d : Nat} {M : tM} {n : Nat} {Q : tR → tM → Nat → Prop} {r : Nat} {x1 : Nat ⊕ Nat} {x2 : Int} (h : tT e d 521 0 [some (.inr (.inr (.inl r))), some (.inr (.inr x1)), some (.inl x2)] [] M n Q) : tC e d 521 [.inr (.inr (.inl r)), .inr (.inr x1), .inl x2] M n Q := sorry
noncomputable def kb_X0_tellNumber_0 : List (Nat × bO) := [(0, .aload_n 0, 0, 0, 0, 0), (1, .getfield 12, 2010, 2, 0, 0), (4, .lload_n 2, 0, 0, 0, 0), (5, .iload 4, 0, 0, 0, 0), (7, .invokevirtual 67, 3035, 2572, 2, 10), (10, .aload_n 0, 0, 0, 0, 0), (11, .aload_n 1, 0, 0, 0, 0), (12, .invokevirtual 71, 3050, 524, 1, 2), (15, .ireturn, 0, 0, 0, 0)]
set_option maxRecDepth 16000 in
theorem kbl_X0_tellNumber : tcode 522 = List.flatten [kb_X0_tellNumber_0] := sorry
theorem kbs_X0_tellNumber : ksort (tcode 522) = true := sorry
theorem tb_X0_tellNumber_0 {e : tE} {c : Bool} {d : Nat} {L : tL} {st : List tV} {M : tM} {n : Nat} {Q : tR → tM → Nat → Prop} (h : wB e c 0 d 522 16 kb_X0_tellNumber_0 L st M n Q) : tT e d 522 0 L st M n Q := sorry
theorem bmx_X0_tellNumber : (bmeth 522).2.2.1 = 5 := sorry
theorem tst_X0_tellNumber {e : tE} {d : Nat} {M : tM} {n : Nat} {Q : tR → tM → Nat → Prop} {r : Nat} {x1 : Nat ⊕ Nat} {x2 : Int} {x3 : Int} (h : tT e d 522 0 [some (.inr (.inr (.inl r))), some (.inr (.inr x1)), some (.inr (.inl x2)), none, some (.inl x3)] [] M n Q) : tC e d 522 [.inr (.inr (.inl r)), .inr (.inr x1), .inr (.inl x2), .inl x3] M n Q := sorry
noncomputable def kb_X0_tellText_0 : List (Nat × bO) := [(0, .aload_n 0, 0, 0, 0, 0), (1, .getfield 12, 2010, 2, 0, 0), (4, .aload_n 2, 0, 0, 0, 0), (5, .invokevirtual 75, 5195, 2574, 1, 10), (8, .aload_n 0, 0, 0, 0, 0), (9, .aload_n 1, 0, 0, 0, 0), (10, .invokevirtual 71, 3050, 524, 1, 2), (13, .ireturn, 0, 0, 0, 0)]
set_option maxRecDepth 16000 in
theorem kbl_X0_tellText : tcode 523 = List.flatten [kb_X0_tellText_0] := sorry
theorem kbs_X0_tellText : ksort (tcode 523) = true := sorry
theorem tb_X0_tellText_0 {e : tE} {c : Bool} {d : Nat} {L : tL} {st : List tV} {M : tM} {n : Nat} {Q : tR → tM → Nat → Prop} (h : wB e c 0 d 523 14 kb_X0_tellText_0 L st M n Q) : tT e d 523 0 L st M n Q := sorry
theorem bmx_X0_tellText : (bmeth 523).2.2.1 = 3 := sorry
theorem tst_X0_tellText {e : tE} {d : Nat} {M : tM} {n : Nat} {Q : tR → tM → Nat → Prop} {r : Nat} {x1 : Nat ⊕ Nat} {x2 : Nat ⊕ Nat} (h : tT e d 523 0 [some (.inr (.inr (.inl r))), some (.inr (.inr x1)), some (.inr (.inr x2))] [] M n Q) : tC e d 523 [.inr (.inr (.inl r)), .inr (.inr x1), .inr (.inr x2)] M n Q := sorry
noncomputable def kb_X0_told_0 : List (Nat × bO) := [(0, .aload_n 0, 0, 0, 0, 0), (1, .getfield 12, 2010, 2, 0, 0), (4, .aload_n 1, 0, 0, 0, 0), (5, .getfield 54, 1091, 4, 0, 0), (8, .aload_n 0, 0, 0, 0, 0), (9, .getfield 40, 2015, 2, 5, 0), (12, .invokevirtual 57, 3054, 2575, 2, 10), (15, .aload_n 0, 0, 0, 0, 0), (16, .getfield 12, 2010, 2, 0, 0), (19, .aload_n 1, 0, 0, 0, 0), (20, .getfield 61, 1095, 4, 1, 0), (23, .aload_n 0, 0, 0, 0, 0), (24, .getfield 40, 2015, 2, 5, 0), (27, .invokevirtual 64, 3066, 2576, 2, 10), (30, .aload_n 1, 0, 0, 0, 0), (31, .invokevirtual 48, 3075, 1032, 0, 4), (34, .ifCond .eq 7, 0, 41, 0, 0), (37, .iconst 2, 0, 0, 0, 0), (38, .goto 4, 0, 42, 0, 0)]
noncomputable def kb_X0_told_41 : List (Nat × bO) := [(41, .iconst 0, 0, 0, 0, 0)]
noncomputable def kb_X0_told_42 : List (Nat × bO) := [(42, .ireturn, 0, 0, 0, 0)]
set_option maxRecDepth 16000 in
theorem kbl_X0_told : tcode 524 = List.flatten [kb_X0_told_0, kb_X0_told_41, kb_X0_told_42] := sorry
theorem kbs_X0_told : ksort (tcode 524) = true := sorry
theorem tb_X0_told_0 {e : tE} {c : Bool} {d : Nat} {L : tL} {st : List tV} {M : tM} {n : Nat} {Q : tR → tM → Nat → Prop} (h : wB e c 0 d 524 41 kb_X0_told_0 L st M n Q) : tT e d 524 0 L st M n Q := sorry
theorem tb_X0_told_41 {e : tE} {c : Bool} {d : Nat} {L : tL} {st : List tV} {M : tM} {n : Nat} {Q : tR → tM → Nat → Prop} (h : wB e c 0 d 524 42 kb_X0_told_41 L st M n Q) : tT e d 524 41 L st M n Q := sorry
theorem tb_X0_told_42 {e : tE} {c : Bool} {d : Nat} {L : tL} {st : List tV} {M : tM} {n : Nat} {Q : tR → tM → Nat → Prop} (h : wB e c 0 d 524 43 kb_X0_told_42 L st M n Q) : tT e d 524 42 L st M n Q := sorry
theorem bmx_X0_told : (bmeth 524).2.2.1 = 2 := sorry
theorem tst_X0_told {e : tE} {d : Nat} {M : tM} {n : Nat} {Q : tR → tM → Nat → Prop} {r : Nat} {x1 : Nat ⊕ Nat} (h : tT e d 524 0 [some (.inr (.inr (.inl r))), some (.inr (.inr x1))] [] M n Q) : tC e d 524 [.inr (.inr (.inl r)), .inr (.inr x1)] M n Q := sorry
noncomputable def kb_X0_useDigits_0 : List (Nat × bO) := [(0, .aload_n 0, 0, 0, 0, 0), (1, .iload_n 1, 0, 0, 0, 0), (2, .invokestatic 44, 2065, 3397, 1, 2), (5, .putfield 40, 2015, 2, 5, 0), (8, .return_, 0, 0, 0, 0)]
set_option maxRecDepth 16000 in
theorem kbl_X0_useDigits : tcode 525 = List.flatten [kb_X0_useDigits_0] := sorry
theorem kbs_X0_useDigits : ksort (tcode 525) = true := sorry
theorem tb_X0_useDigits_0 {e : tE} {c : Bool} {d : Nat} {L : tL} {st : List tV} {M : tM} {n : Nat} {Q : tR → tM → Nat → Prop} (h : wB e c 9 d 525 9 kb_X0_useDigits_0 L st M n Q) : tT e d 525 0 L st M n Q := sorry
theorem bmx_X0_useDigits : (bmeth 525).2.2.1 = 2 := sorry
theorem tst_X0_useDigits {e : tE} {d : Nat} {M : tM} {n : Nat} {Q : tR → tM → Nat → Prop} {r : Nat} {x1 : Int} (h : tT e d 525 0 [some (.inr (.inr (.inl r))), some (.inl x1)] [] M n Q) : tC e d 525 [.inr (.inr (.inl r)), .inl x1] M n Q := sorry
noncomputable def kb_X1_against_0 : List (Nat × bO) := [(0, .aload_n 0, 0, 0, 0, 0), (1, .getfield 9, 1074, 3, 0, 0), (4, .aload_n 1, 0, 0, 0, 0), (5, .getfield 9, 1074, 3, 0, 0), (8, .lcmp, 0, 0, 0, 0), (9, .ifCond .eq 17, 0, 26, 0, 0), (12, .aload_n 0, 0, 0, 0, 0), (13, .getfield 9, 1074, 3, 0, 0), (16, .aload_n 1, 0, 0, 0, 0), (17, .getfield 9, 1074, 3, 0, 0), (20, .invokestatic 18, 3136, 4096, 2, 0), (23, .goto 14, 0, 37, 0, 0)]
noncomputable def kb_X1_against_26 : List (Nat × bO) := [(26, .aload_n 0, 0, 0, 0, 0), (27, .getfield 15, 1079, 3, 1, 0), (30, .aload_n 1, 0, 0, 0, 0), (31, .getfield 15, 1079, 3, 1, 0), (34, .invokestatic 18, 3136, 4096, 2, 0)]
noncomputable def kb_X1_against_37 : List (Nat × bO) := [(37, .ireturn, 0, 0, 0, 0)]
set_option maxRecDepth 16000 in
theorem kbl_X1_against : tcode 769 = List.flatten [kb_X1_against_0, kb_X1_against_26, kb_X1_against_37] := sorry
theorem kbs_X1_against : ksort (tcode 769) = true := sorry
theorem tb_X1_against_0 {e : tE} {c : Bool} {d : Nat} {L : tL} {st : List tV} {M : tM} {n : Nat} {Q : tR → tM → Nat → Prop} (h : wB e c 0 d 769 26 kb_X1_against_0 L st M n Q) : tT e d 769 0 L st M n Q := sorry
theorem tb_X1_against_26 {e : tE} {c : Bool} {d : Nat} {L : tL} {st : List tV} {M : tM} {n : Nat} {Q : tR → tM → Nat → Prop} (h : wB e c 0 d 769 37 kb_X1_against_26 L st M n Q) : tT e d 769 26 L st M n Q := sorry
theorem tb_X1_against_37 {e : tE} {c : Bool} {d : Nat} {L : tL} {st : List tV} {M : tM} {n : Nat} {Q : tR → tM → Nat → Prop} (h : wB e c 0 d 769 38 kb_X1_against_37 L st M n Q) : tT e d 769 37 L st M n Q := sorry
theorem bmx_X1_against : (bmeth 769).2.2.1 = 2 := sorry
theorem tst_X1_against {e : tE} {d : Nat} {M : tM} {n : Nat} {Q : tR → tM → Nat → Prop} {r : Nat} {x1 : Nat ⊕ Nat} (h : tT e d 769 0 [some (.inr (.inr (.inl r))), some (.inr (.inr x1))] [] M n Q) : tC e d 769 [.inr (.inr (.inl r)), .inr (.inr x1)] M n Q := sorry
noncomputable def kb_X1_assign_0 : List (Nat × bO) := [(0, .aload_n 0, 0, 0, 0, 0), (1, .lload_n 1, 0, 0, 0, 0), (2, .putfield 9, 1074, 3, 0, 0), (5, .aload_n 0, 0, 0, 0, 0), (6, .lload_n 3, 0, 0, 0, 0), (7, .putfield 15, 1079, 3, 1, 0), (10, .return_, 0, 0, 0, 0)]
set_option maxRecDepth 16000 in
theorem kbl_X1_assign : tcode 770 = List.flatten [kb_X1_assign_0] := sorry
theorem kbs_X1_assign : ksort (tcode 770) = true := sorry
theorem tb_X1_assign_0 {e : tE} {c : Bool} {d : Nat} {L : tL} {st : List tV} {M : tM} {n : Nat} {Q : tR → tM → Nat → Prop} (h : wB e c 9 d 770 11 kb_X1_assign_0 L st M n Q) : tT e d 770 0 L st M n Q := sorry
theorem bmx_X1_assign : (bmeth 770).2.2.1 = 5 := sorry
theorem tst_X1_assign {e : tE} {d : Nat} {M : tM} {n : Nat} {Q : tR → tM → Nat → Prop} {r : Nat} {x1 : Int} {x2 : Int} (h : tT e d 770 0 [some (.inr (.inr (.inl r))), some (.inr (.inl x1)), none, some (.inr (.inl x2)), none] [] M n Q) : tC e d 770 [.inr (.inr (.inl r)), .inr (.inl x1), .inr (.inl x2)] M n Q := sorry
noncomputable def kb_X1_copy_0 : List (Nat × bO) := [(0, .aload_n 0, 0, 0, 0, 0), (1, .aload_n 1, 0, 0, 0, 0), (2, .getfield 9, 1074, 3, 0, 0), (5, .putfield 9, 1074, 3, 0, 0), (8, .aload_n 0, 0, 0, 0, 0), (9, .aload_n 1, 0, 0, 0, 0), (10, .getfield 15, 1079, 3, 1, 0), (13, .putfield 15, 1079, 3, 1, 0), (16, .return_, 0, 0, 0, 0)]
set_option maxRecDepth 16000 in
theorem kbl_X1_copy : tcode 771 = List.flatten [kb_X1_copy_0] := sorry
theorem kbs_X1_copy : ksort (tcode 771) = true := sorry
theorem tb_X1_copy_0 {e : tE} {c : Bool} {d : Nat} {L : tL} {st : List tV} {M : tM} {n : Nat} {Q : tR → tM → Nat → Prop} (h : wB e c 9 d 771 17 kb_X1_copy_0 L st M n Q) : tT e d 771 0 L st M n Q := sorry
theorem bmx_X1_copy : (bmeth 771).2.2.1 = 2 := sorry
theorem tst_X1_copy {e : tE} {d : Nat} {M : tM} {n : Nat} {Q : tR → tM → Nat → Prop} {r : Nat} {x1 : Nat ⊕ Nat} (h : tT e d 771 0 [some (.inr (.inr (.inl r))), some (.inr (.inr x1))] [] M n Q) : tC e d 771 [.inr (.inr (.inl r)), .inr (.inr x1)] M n Q := sorry
noncomputable def kb_X1_halve_0 : List (Nat × bO) := [(0, .aload_n 0, 0, 0, 0, 0), (1, .getfield 9, 1074, 3, 0, 0), (4, .ldc2_w 30, 4205, 0, 0, 2), (7, .invokestatic 32, 4206, 4353, 2, 0), (10, .lstore_n 1, 0, 0, 0, 0), (11, .aload_n 0, 0, 0, 0, 0), (12, .aload_n 0, 0, 0, 0, 0), (13, .getfield 15, 1079, 3, 1, 0), (16, .aload_n 0, 0, 0, 0, 0), (17, .getfield 9, 1074, 3, 0, 0), (20, .ldc2_w 30, 4205, 0, 0, 2), (23, .lload_n 1, 0, 0, 0, 0), (24, .lmul, 0, 0, 0, 0), (25, .lsub, 0, 0, 0, 0), (26, .ldc2_w 28, 3074, 0, 0, 10000000000), (29, .lmul, 0, 0, 0, 0), (30, .ladd, 0, 0, 0, 0), (31, .ldc2_w 30, 4205, 0, 0, 2), (34, .ldiv, 0, 0, 0, 0), (35, .putfield 15, 1079, 3, 1, 0), (38, .aload_n 0, 0, 0, 0, 0), (39, .lload_n 1, 0, 0, 0, 0), (40, .putfield 9, 1074, 3, 0, 0), (43, .return_, 0, 0, 0, 0)]
set_option maxRecDepth 16000 in
theorem kbl_X1_halve : tcode 772 = List.flatten [kb_X1_halve_0] := sorry
theorem kbs_X1_halve : ksort (tcode 772) = true := sorry
theorem tb_X1_halve_0 {e : tE} {c : Bool} {d : Nat} {L : tL} {st : List tV} {M : tM} {n : Nat} {Q : tR → tM → Nat → Prop} (h : wB e c 9 d 772 44 kb_X1_halve_0 L st M n Q) : tT e d 772 0 L st M n Q := sorry
theorem bmx_X1_halve : (bmeth 772).2.2.1 = 3 := sorry
theorem tst_X1_halve {e : tE} {d : Nat} {M : tM} {n : Nat} {Q : tR → tM → Nat → Prop} {r : Nat} (h : tT e d 772 0 [some (.inr (.inr (.inl r))), none, none] [] M n Q) : tC e d 772 [.inr (.inr (.inl r))] M n Q := sorry
noncomputable def kb_X1_isBelow_0 : List (Nat × bO) := [(0, .aload_n 0, 0, 0, 0, 0), (1, .getfield 9, 1074, 3, 0, 0), (4, .aload_n 1, 0, 0, 0, 0), (5, .getfield 9, 1074, 3, 0, 0), (8, .lcmp, 0, 0, 0, 0), (9, .ifCond .lt 27, 0, 36, 0, 0), (12, .aload_n 0, 0, 0, 0, 0), (13, .getfield 9, 1074, 3, 0, 0), (16, .aload_n 1, 0, 0, 0, 0), (17, .getfield 9, 1074, 3, 0, 0), (20, .lcmp, 0, 0, 0, 0), (21, .ifCond .ne 19, 0, 40, 0, 0), (24, .aload_n 0, 0, 0, 0, 0), (25, .getfield 15, 1079, 3, 1, 0), (28, .aload_n 1, 0, 0, 0, 0), (29, .getfield 15, 1079, 3, 1, 0), (32, .lcmp, 0, 0, 0, 0), (33, .ifCond .ge 7, 0, 40, 0, 0)]
noncomputable def kb_X1_isBelow_36 : List (Nat × bO) := [(36, .iconst 1, 0, 0, 0, 0), (37, .goto 4, 0, 41, 0, 0)]
noncomputable def kb_X1_isBelow_40 : List (Nat × bO) := [(40, .iconst 0, 0, 0, 0, 0)]
noncomputable def kb_X1_isBelow_41 : List (Nat × bO) := [(41, .ireturn, 0, 0, 0, 0)]
set_option maxRecDepth 16000 in
theorem kbl_X1_isBelow : tcode 773 = List.flatten [kb_X1_isBelow_0, kb_X1_isBelow_36, kb_X1_isBelow_40, kb_X1_isBelow_41] := sorry
theorem kbs_X1_isBelow : ksort (tcode 773) = true := sorry
theorem tb_X1_isBelow_0 {e : tE} {c : Bool} {d : Nat} {L : tL} {st : List tV} {M : tM} {n : Nat} {Q : tR → tM → Nat → Prop} (h : wB e c 3 d 773 36 kb_X1_isBelow_0 L st M n Q) : tT e d 773 0 L st M n Q := sorry
theorem tb_X1_isBelow_36 {e : tE} {c : Bool} {d : Nat} {L : tL} {st : List tV} {M : tM} {n : Nat} {Q : tR → tM → Nat → Prop} (h : wB e c 3 d 773 40 kb_X1_isBelow_36 L st M n Q) : tT e d 773 36 L st M n Q := sorry
theorem tb_X1_isBelow_40 {e : tE} {c : Bool} {d : Nat} {L : tL} {st : List tV} {M : tM} {n : Nat} {Q : tR → tM → Nat → Prop} (h : wB e c 3 d 773 41 kb_X1_isBelow_40 L st M n Q) : tT e d 773 40 L st M n Q := sorry
theorem tb_X1_isBelow_41 {e : tE} {c : Bool} {d : Nat} {L : tL} {st : List tV} {M : tM} {n : Nat} {Q : tR → tM → Nat → Prop} (h : wB e c 3 d 773 42 kb_X1_isBelow_41 L st M n Q) : tT e d 773 41 L st M n Q := sorry
theorem bmx_X1_isBelow : (bmeth 773).2.2.1 = 2 := sorry
theorem tst_X1_isBelow {e : tE} {d : Nat} {M : tM} {n : Nat} {Q : tR → tM → Nat → Prop} {r : Nat} {x1 : Nat ⊕ Nat} (h : tT e d 773 0 [some (.inr (.inr (.inl r))), some (.inr (.inr x1))] [] M n Q) : tC e d 773 [.inr (.inr (.inl r)), .inr (.inr x1)] M n Q := sorry
noncomputable def kb_X1_isNegative_0 : List (Nat × bO) := [(0, .aload_n 0, 0, 0, 0, 0), (1, .getfield 9, 1074, 3, 0, 0), (4, .lconst 0, 0, 0, 0, 0), (5, .lcmp, 0, 0, 0, 0), (6, .ifCond .ge 7, 0, 13, 0, 0), (9, .iconst 1, 0, 0, 0, 0), (10, .goto 4, 0, 14, 0, 0)]
noncomputable def kb_X1_isNegative_13 : List (Nat × bO) := [(13, .iconst 0, 0, 0, 0, 0)]
noncomputable def kb_X1_isNegative_14 : List (Nat × bO) := [(14, .ireturn, 0, 0, 0, 0)]
set_option maxRecDepth 16000 in
theorem kbl_X1_isNegative : tcode 774 = List.flatten [kb_X1_isNegative_0, kb_X1_isNegative_13, kb_X1_isNegative_14] := sorry
theorem kbs_X1_isNegative : ksort (tcode 774) = true := sorry
theorem tb_X1_isNegative_0 {e : tE} {c : Bool} {d : Nat} {L : tL} {st : List tV} {M : tM} {n : Nat} {Q : tR → tM → Nat → Prop} (h : wB e c 3 d 774 13 kb_X1_isNegative_0 L st M n Q) : tT e d 774 0 L st M n Q := sorry
theorem tb_X1_isNegative_13 {e : tE} {c : Bool} {d : Nat} {L : tL} {st : List tV} {M : tM} {n : Nat} {Q : tR → tM → Nat → Prop} (h : wB e c 3 d 774 14 kb_X1_isNegative_13 L st M n Q) : tT e d 774 13 L st M n Q := sorry
theorem tb_X1_isNegative_14 {e : tE} {c : Bool} {d : Nat} {L : tL} {st : List tV} {M : tM} {n : Nat} {Q : tR → tM → Nat → Prop} (h : wB e c 3 d 774 15 kb_X1_isNegative_14 L st M n Q) : tT e d 774 14 L st M n Q := sorry
theorem bmx_X1_isNegative : (bmeth 774).2.2.1 = 1 := sorry
theorem tst_X1_isNegative {e : tE} {d : Nat} {M : tM} {n : Nat} {Q : tR → tM → Nat → Prop} {r : Nat} (h : tT e d 774 0 [some (.inr (.inr (.inl r)))] [] M n Q) : tC e d 774 [.inr (.inr (.inl r))] M n Q := sorry
noncomputable def kb_X1_isPositive_0 : List (Nat × bO) := [(0, .aload_n 0, 0, 0, 0, 0), (1, .getfield 9, 1074, 3, 0, 0), (4, .lconst 0, 0, 0, 0, 0), (5, .lcmp, 0, 0, 0, 0), (6, .ifCond .gt 21, 0, 27, 0, 0), (9, .aload_n 0, 0, 0, 0, 0), (10, .getfield 9, 1074, 3, 0, 0), (13, .lconst 0, 0, 0, 0, 0), (14, .lcmp, 0, 0, 0, 0), (15, .ifCond .ne 16, 0, 31, 0, 0), (18, .aload_n 0, 0, 0, 0, 0), (19, .getfield 15, 1079, 3, 1, 0), (22, .lconst 0, 0, 0, 0, 0), (23, .lcmp, 0, 0, 0, 0), (24, .ifCond .le 7, 0, 31, 0, 0)]
noncomputable def kb_X1_isPositive_27 : List (Nat × bO) := [(27, .iconst 1, 0, 0, 0, 0), (28, .goto 4, 0, 32, 0, 0)]
noncomputable def kb_X1_isPositive_31 : List (Nat × bO) := [(31, .iconst 0, 0, 0, 0, 0)]
noncomputable def kb_X1_isPositive_32 : List (Nat × bO) := [(32, .ireturn, 0, 0, 0, 0)]
set_option maxRecDepth 16000 in
theorem kbl_X1_isPositive : tcode 775 = List.flatten [kb_X1_isPositive_0, kb_X1_isPositive_27, kb_X1_isPositive_31, kb_X1_isPositive_32] := sorry
theorem kbs_X1_isPositive : ksort (tcode 775) = true := sorry
theorem tb_X1_isPositive_0 {e : tE} {c : Bool} {d : Nat} {L : tL} {st : List tV} {M : tM} {n : Nat} {Q : tR → tM → Nat → Prop} (h : wB e c 3 d 775 27 kb_X1_isPositive_0 L st M n Q) : tT e d 775 0 L st M n Q := sorry
theorem tb_X1_isPositive_27 {e : tE} {c : Bool} {d : Nat} {L : tL} {st : List tV} {M : tM} {n : Nat} {Q : tR → tM → Nat → Prop} (h : wB e c 3 d 775 31 kb_X1_isPositive_27 L st M n Q) : tT e d 775 27 L st M n Q := sorry
theorem tb_X1_isPositive_31 {e : tE} {c : Bool} {d : Nat} {L : tL} {st : List tV} {M : tM} {n : Nat} {Q : tR → tM → Nat → Prop} (h : wB e c 3 d 775 32 kb_X1_isPositive_31 L st M n Q) : tT e d 775 31 L st M n Q := sorry
theorem tb_X1_isPositive_32 {e : tE} {c : Bool} {d : Nat} {L : tL} {st : List tV} {M : tM} {n : Nat} {Q : tR → tM → Nat → Prop} (h : wB e c 3 d 775 33 kb_X1_isPositive_32 L st M n Q) : tT e d 775 32 L st M n Q := sorry
theorem bmx_X1_isPositive : (bmeth 775).2.2.1 = 1 := sorry
theorem tst_X1_isPositive {e : tE} {d : Nat} {M : tM} {n : Nat} {Q : tR → tM → Nat → Prop} {r : Nat} (h : tT e d 775 0 [some (.inr (.inr (.inl r)))] [] M n Q) : tC e d 775 [.inr (.inr (.inl r))] M n Q := sorry
noncomputable def kb_X1_isTooGreat_0 : List (Nat × bO) := [(0, .aload_n 0, 0, 0, 0, 0), (1, .getfield 9, 1074, 3, 0, 0), (4, .ldc2_w 24, 3083, 0, 0, 1000000000000), (7, .lcmp, 0, 0, 0, 0), (8, .ifCond .ge 34, 0, 42, 0, 0), (11, .aload_n 0, 0, 0, 0, 0), (12, .getfield 9, 1074, 3, 0, 0), (15, .ldc2_w 26, 3084, 0, 0, -1000000000000), (18, .lcmp, 0, 0, 0, 0), (19, .ifCond .lt 23, 0, 42, 0, 0), (22, .aload_n 0, 0, 0, 0, 0), (23, .getfield 9, 1074, 3, 0, 0), (26, .ldc2_w 26, 3084, 0, 0, -1000000000000), (29, .lcmp, 0, 0, 0, 0), (30, .ifCond .ne 16, 0, 46, 0, 0), (33, .aload_n 0, 0, 0, 0, 0), (34, .getfield 15, 1079, 3, 1, 0), (37, .lconst 0, 0, 0, 0, 0), (38, .lcmp, 0, 0, 0, 0), (39, .ifCond .ne 7, 0, 46, 0, 0)]
noncomputable def kb_X1_isTooGreat_42 : List (Nat × bO) := [(42, .iconst 1, 0, 0, 0, 0), (43, .goto 4, 0, 47, 0, 0)]
noncomputable def kb_X1_isTooGreat_46 : List (Nat × bO) := [(46, .iconst 0, 0, 0, 0, 0)]
noncomputable def kb_X1_isTooGreat_47 : List (Nat × bO) := [(47, .ireturn, 0, 0, 0, 0)]
set_option maxRecDepth 16000 in
theorem kbl_X1_isTooGreat : tcode 776 = List.flatten [kb_X1_isTooGreat_0, kb_X1_isTooGreat_42, kb_X1_isTooGreat_46, kb_X1_isTooGreat_47] := sorry
theorem kbs_X1_isTooGreat : ksort (tcode 776) = true := sorry
theorem tb_X1_isTooGreat_0 {e : tE} {c : Bool} {d : Nat} {L : tL} {st : List tV} {M : tM} {n : Nat} {Q : tR → tM → Nat → Prop} (h : wB e c 3 d 776 42 kb_X1_isTooGreat_0 L st M n Q) : tT e d 776 0 L st M n Q := sorry
theorem tb_X1_isTooGreat_42 {e : tE} {c : Bool} {d : Nat} {L : tL} {st : List tV} {M : tM} {n : Nat} {Q : tR → tM → Nat → Prop} (h : wB e c 3 d 776 46 kb_X1_isTooGreat_42 L st M n Q) : tT e d 776 42 L st M n Q := sorry
theorem tb_X1_isTooGreat_46 {e : tE} {c : Bool} {d : Nat} {L : tL} {st : List tV} {M : tM} {n : Nat} {Q : tR → tM → Nat → Prop} (h : wB e c 3 d 776 47 kb_X1_isTooGreat_46 L st M n Q) : tT e d 776 46 L st M n Q := sorry
theorem tb_X1_isTooGreat_47 {e : tE} {c : Bool} {d : Nat} {L : tL} {st : List tV} {M : tM} {n : Nat} {Q : tR → tM → Nat → Prop} (h : wB e c 3 d 776 48 kb_X1_isTooGreat_47 L st M n Q) : tT e d 776 47 L st M n Q := sorry
theorem bmx_X1_isTooGreat : (bmeth 776).2.2.1 = 1 := sorry
theorem tst_X1_isTooGreat {e : tE} {d : Nat} {M : tM} {n : Nat} {Q : tR → tM → Nat → Prop} {r : Nat} (h : tT e d 776 0 [some (.inr (.inr (.inl r)))] [] M n Q) : tC e d 776 [.inr (.inr (.inl r))] M n Q := sorry
noncomputable def kb_X1_isZero_0 : List (Nat × bO) := [(0, .aload_n 0, 0, 0, 0, 0), (1, .getfield 9, 1074, 3, 0, 0), (4, .lconst 0, 0, 0, 0, 0), (5, .lcmp, 0, 0, 0, 0), (6, .ifCond .ne 16, 0, 22, 0, 0), (9, .aload_n 0, 0, 0, 0, 0), (10, .getfield 15, 1079, 3, 1, 0), (13, .lconst 0, 0, 0, 0, 0), (14, .lcmp, 0, 0, 0, 0), (15, .ifCond .ne 7, 0, 22, 0, 0), (18, .iconst 1, 0, 0, 0, 0), (19, .goto 4, 0, 23, 0, 0)]
noncomputable def kb_X1_isZero_22 : List (Nat × bO) := [(22, .iconst 0, 0, 0, 0, 0)]
noncomputable def kb_X1_isZero_23 : List (Nat × bO) := [(23, .ireturn, 0, 0, 0, 0)]
set_option maxRecDepth 16000 in
theorem kbl_X1_isZero : tcode 777 = List.flatten [kb_X1_isZero_0, kb_X1_isZero_22, kb_X1_isZero_23] := sorry
theorem kbs_X1_isZero : ksort (tcode 777) = true := sorry
theorem tb_X1_isZero_0 {e : tE} {c : Bool} {d : Nat} {L : tL} {st : List tV} {M : tM} {n : Nat} {Q : tR → tM → Nat → Prop} (h : wB e c 3 d 777 22 kb_X1_isZero_0 L st M n Q) : tT e d 777 0 L st M n Q := sorry
theorem tb_X1_isZero_22 {e : tE} {c : Bool} {d : Nat} {L : tL} {st : List tV} {M : tM} {n : Nat} {Q : tR → tM → Nat → Prop} (h : wB e c 3 d 777 23 kb_X1_isZero_22 L st M n Q) : tT e d 777 22 L st M n Q := sorry
theorem tb_X1_isZero_23 {e : tE} {c : Bool} {d : Nat} {L : tL} {st : List tV} {M : tM} {n : Nat} {Q : tR → tM → Nat → Prop} (h : wB e c 3 d 777 24 kb_X1_isZero_23 L st M n Q) : tT e d 777 23 L st M n Q := sorry
theorem bmx_X1_isZero : (bmeth 777).2.2.1 = 1 := sorry
theorem tst_X1_isZero {e : tE} {d : Nat} {M : tM} {n : Nat} {Q : tR → tM → Nat → Prop} {r : Nat} (h : tT e d 777 0 [some (.inr (.inr (.inl r)))] [] M n Q) : tC e d 777 [.inr (.inr (.inl r))] M n Q := sorry
noncomputable def kb_X1_roundDown_0 : List (Nat × bO) := [(0, .lload_n 1, 0, 0, 0, 0), (1, .lconst 1, 0, 0, 0, 0), (2, .lcmp, 0, 0, 0, 0), (3, .ifCond .le 18, 0, 21, 0, 0), (6, .aload_n 0, 0, 0, 0, 0), (7, .dup, 0, 0, 0, 0), (8, .getfield 15, 1079, 3, 1, 0), (11, .aload_n 0, 0, 0, 0, 0), (12, .getfield 15, 1079, 3, 1, 0), (15, .lload_n 1, 0, 0, 0, 0), (16, .lrem, 0, 0, 0, 0), (17, .lsub, 0, 0, 0, 0), (18, .putfield 15, 1079, 3, 1, 0)]
noncomputable def kb_X1_roundDown_21 : List (Nat × bO) := [(21, .return_, 0, 0, 0, 0)]
set_option maxRecDepth 16000 in
theorem kbl_X1_roundDown : tcode 778 = List.flatten [kb_X1_roundDown_0, kb_X1_roundDown_21] := sorry
theorem kbs_X1_roundDown : ksort (tcode 778) = true := sorry
theorem tb_X1_roundDown_0 {e : tE} {c : Bool} {d : Nat} {L : tL} {st : List tV} {M : tM} {n : Nat} {Q : tR → tM → Nat → Prop} (h : wB e c 9 d 778 21 kb_X1_roundDown_0 L st M n Q) : tT e d 778 0 L st M n Q := sorry
theorem tb_X1_roundDown_21 {e : tE} {c : Bool} {d : Nat} {L : tL} {st : List tV} {M : tM} {n : Nat} {Q : tR → tM → Nat → Prop} (h : wB e c 9 d 778 22 kb_X1_roundDown_21 L st M n Q) : tT e d 778 21 L st M n Q := sorry
theorem bmx_X1_roundDown : (bmeth 778).2.2.1 = 3 := sorry
theorem tst_X1_roundDown {e : tE} {d : Nat} {M : tM} {n : Nat} {Q : tR → tM → Nat → Prop} {r : Nat} {x1 : Int} (h : tT e d 778 0 [some (.inr (.inr (.inl r))), some (.inr (.inl x1)), none] [] M n Q) : tC e d 778 [.inr (.inr (.inl r)), .inr (.inl x1)] M n Q := sorry
noncomputable def kb_X1_roundUp_0 : List (Nat × bO) := [(0, .lload_n 1, 0, 0, 0, 0), (1, .lconst 1, 0, 0, 0, 0), (2, .lcmp, 0, 0, 0, 0), (3, .ifCond .le 12, 0, 15, 0, 0), (6, .aload_n 0, 0, 0, 0, 0), (7, .getfield 15, 1079, 3, 1, 0), (10, .lload_n 1, 0, 0, 0, 0), (11, .lrem, 0, 0, 0, 0), (12, .goto 4, 0, 16, 0, 0)]
noncomputable def kb_X1_roundUp_15 : List (Nat × bO) := [(15, .lconst 0, 0, 0, 0, 0)]
noncomputable def kb_X1_roundUp_16 : List (Nat × bO) := [(16, .lstore 4, 0, 0, 0, 0), (18, .lload 4, 0, 0, 0, 0), (20, .lconst 0, 0, 0, 0, 0), (21, .lcmp, 0, 0, 0, 0), (22, .ifCond .gt 7, 0, 29, 0, 0), (25, .iload_n 3, 0, 0, 0, 0), (26, .ifCond .eq 16, 0, 42, 0, 0)]
noncomputable def kb_X1_roundUp_29 : List (Nat × bO) := [(29, .aload_n 0, 0, 0, 0, 0), (30, .dup, 0, 0, 0, 0), (31, .getfield 15, 1079, 3, 1, 0), (34, .lload_n 1, 0, 0, 0, 0), (35, .lload 4, 0, 0, 0, 0), (37, .lsub, 0, 0, 0, 0), (38, .ladd, 0, 0, 0, 0), (39, .putfield 15, 1079, 3, 1, 0)]
noncomputable def kb_X1_roundUp_42 : List (Nat × bO) := [(42, .aload_n 0, 0, 0, 0, 0), (43, .getfield 15, 1079, 3, 1, 0), (46, .ldc2_w 28, 3074, 0, 0, 10000000000), (49, .lcmp, 0, 0, 0, 0), (50, .ifCond .lt 25, 0, 75, 0, 0), (53, .aload_n 0, 0, 0, 0, 0), (54, .dup, 0, 0, 0, 0), (55, .getfield 15, 1079, 3, 1, 0), (58, .ldc2_w 28, 3074, 0, 0, 10000000000), (61, .lsub, 0, 0, 0, 0), (62, .putfield 15, 1079, 3, 1, 0), (65, .aload_n 0, 0, 0, 0, 0), (66, .dup, 0, 0, 0, 0), (67, .getfield 9, 1074, 3, 0, 0), (70, .lconst 1, 0, 0, 0, 0), (71, .ladd, 0, 0, 0, 0), (72, .putfield 9, 1074, 3, 0, 0)]
noncomputable def kb_X1_roundUp_75 : List (Nat × bO) := [(75, .return_, 0, 0, 0, 0)]
set_option maxRecDepth 16000 in
theorem kbl_X1_roundUp : tcode 779 = List.flatten [kb_X1_roundUp_0, kb_X1_roundUp_15, kb_X1_roundUp_16, kb_X1_roundUp_29, kb_X1_roundUp_42, kb_X1_roundUp_75] := sorry
theorem kbs_X1_roundUp : ksort (tcode 779) = true := sorry
theorem tb_X1_roundUp_0 {e : tE} {c : Bool} {d : Nat} {L : tL} {st : List tV} {M : tM} {n : Nat} {Q : tR → tM → Nat → Prop} (h : wB e c 9 d 779 15 kb_X1_roundUp_0 L st M n Q) : tT e d 779 0 L st M n Q := sorry
theorem tb_X1_roundUp_15 {e : tE} {c : Bool} {d : Nat} {L : tL} {st : List tV} {M : tM} {n : Nat} {Q : tR → tM → Nat → Prop} (h : wB e c 9 d 779 16 kb_X1_roundUp_15 L st M n Q) : tT e d 779 15 L st M n Q := sorry
theorem tb_X1_roundUp_16 {e : tE} {c : Bool} {d : Nat} {L : tL} {st : List tV} {M : tM} {n : Nat} {Q : tR → tM → Nat → Prop} (h : wB e c 9 d 779 29 kb_X1_roundUp_16 L st M n Q) : tT e d 779 16 L st M n Q := sorry
theorem tb_X1_roundUp_29 {e : tE} {c : Bool} {d : Nat} {L : tL} {st : List tV} {M : tM} {n : Nat} {Q : tR → tM → Nat → Prop} (h : wB e c 9 d 779 42 kb_X1_roundUp_29 L st M n Q) : tT e d 779 29 L st M n Q := sorry
theorem tb_X1_roundUp_42 {e : tE} {c : Bool} {d : Nat} {L : tL} {st : List tV} {M : tM} {n : Nat} {Q : tR → tM → Nat → Prop} (h : wB e c 9 d 779 75 kb_X1_roundUp_42 L st M n Q) : tT e d 779 42 L st M n Q := sorry
theorem tb_X1_roundUp_75 {e : tE} {c : Bool} {d : Nat} {L : tL} {st : List tV} {M : tM} {n : Nat} {Q : tR → tM → Nat → Prop} (h : wB e c 9 d 779 76 kb_X1_roundUp_75 L st M n Q) : tT e d 779 75 L st M n Q := sorry
theorem bmx_X1_roundUp : (bmeth 779).2.2.1 = 6 := sorry
theorem tst_X1_roundUp {e : tE} {d : Nat} {M : tM} {n : Nat} {Q : tR → tM → Nat → Prop} {r : Nat} {x1 : Int} {x2 : Int} (h : tT e d 779 0 [some (.inr (.inr (.inl r))), some (.inr (.inl x1)), none, some (.inl x2), none, none] [] M n Q) : tC e d 779 [.inr (.inr (.inl r)), .inr (.inl x1), .inl x2] M n Q := sorry
noncomputable def kb_X1_shift_0 : List (Nat × bO) := [(0, .aload_n 0, 0, 0, 0, 0), (1, .dup, 0, 0, 0, 0), (2, .getfield 15, 1079, 3, 1, 0), (5, .lload_n 1, 0, 0, 0, 0), (6, .ladd, 0, 0, 0, 0), (7, .putfield 15, 1079, 3, 1, 0), (10, .aload_n 0, 0, 0, 0, 0), (11, .getfield 15, 1079, 3, 1, 0), (14, .lconst 0, 0, 0, 0, 0), (15, .lcmp, 0, 0, 0, 0), (16, .ifCond .ge 28, 0, 44, 0, 0), (19, .aload_n 0, 0, 0, 0, 0), (20, .dup, 0, 0, 0, 0), (21, .getfield 15, 1079, 3, 1, 0), (24, .ldc2_w 28, 3074, 0, 0, 10000000000), (27, .ladd, 0, 0, 0, 0), (28, .putfield 15, 1079, 3, 1, 0), (31, .aload_n 0, 0, 0, 0, 0), (32, .dup, 0, 0, 0, 0), (33, .getfield 9, 1074, 3, 0, 0), (36, .lconst 1, 0, 0, 0, 0), (37, .lsub, 0, 0, 0, 0), (38, .putfield 9, 1074, 3, 0, 0), (41, .goto 36, 0, 77, 0, 0)]
noncomputable def kb_X1_shift_44 : List (Nat × bO) := [(44, .aload_n 0, 0, 0, 0, 0), (45, .getfield 15, 1079, 3, 1, 0), (48, .ldc2_w 28, 3074, 0, 0, 10000000000), (51, .lcmp, 0, 0, 0, 0), (52, .ifCond .lt 25, 0, 77, 0, 0), (55, .aload_n 0, 0, 0, 0, 0), (56, .dup, 0, 0, 0, 0), (57, .getfield 15, 1079, 3, 1, 0), (60, .ldc2_w 28, 3074, 0, 0, 10000000000), (63, .lsub, 0, 0, 0, 0), (64, .putfield 15, 1079, 3, 1, 0), (67, .aload_n 0, 0, 0, 0, 0), (68, .dup, 0, 0, 0, 0), (69, .getfield 9, 1074, 3, 0, 0), (72, .lconst 1, 0, 0, 0, 0), (73, .ladd, 0, 0, 0, 0), (74, .putfield 9, 1074, 3, 0, 0)]
noncomputable def kb_X1_shift_77 : List (Nat × bO) := [(77, .return_, 0, 0, 0, 0)]
set_option maxRecDepth 16000 in
theorem kbl_X1_shift : tcode 780 = List.flatten [kb_X1_shift_0, kb_X1_shift_44, kb_X1_shift_77] := sorry
theorem kbs_X1_shift : ksort (tcode 780) = true := sorry
theorem tb_X1_shift_0 {e : tE} {c : Bool} {d : Nat} {L : tL} {st : List tV} {M : tM} {n : Nat} {Q : tR → tM → Nat → Prop} (h : wB e c 9 d 780 44 kb_X1_shift_0 L st M n Q) : tT e d 780 0 L st M n Q := sorry
theorem tb_X1_shift_44 {e : tE} {c : Bool} {d : Nat} {L : tL} {st : List tV} {M : tM} {n : Nat} {Q : tR → tM → Nat → Prop} (h : wB e c 9 d 780 77 kb_X1_shift_44 L st M n Q) : tT e d 780 44 L st M n Q := sorry
theorem tb_X1_shift_77 {e : tE} {c : Bool} {d : Nat} {L : tL} {st : List tV} {M : tM} {n : Nat} {Q : tR → tM → Nat → Prop} (h : wB e c 9 d 780 78 kb_X1_shift_77 L st M n Q) : tT e d 780 77 L st M n Q := sorry
theorem bmx_X1_shift : (bmeth 780).2.2.1 = 3 := sorry
theorem tst_X1_shift {e : tE} {d : Nat} {M : tM} {n : Nat} {Q : tR → tM → Nat → Prop} {r : Nat} {x1 : Int} (h : tT e d 780 0 [some (.inr (.inr (.inl r))), some (.inr (.inl x1)), none] [] M n Q) : tC e d 780 [.inr (.inr (.inl r)), .inr (.inl x1)] M n Q := sorry
noncomputable def kb_X1_toDifference_0 : List (Nat × bO) := [(0, .aload_n 1, 0, 0, 0, 0), (1, .getfield 9, 1074, 3, 0, 0), (4, .aload_n 2, 0, 0, 0, 0), (5, .getfield 9, 1074, 3, 0, 0), (8, .lsub, 0, 0, 0, 0), (9, .lstore_n 3, 0, 0, 0, 0), (10, .aload_n 0, 0, 0, 0, 0), (11, .aload_n 1, 0, 0, 0, 0), (12, .getfield 15, 1079, 3, 1, 0), (15, .aload_n 2, 0, 0, 0, 0), (16, .getfield 15, 1079, 3, 1, 0), (19, .lsub, 0, 0, 0, 0), (20, .putfield 15, 1079, 3, 1, 0), (23, .aload_n 0, 0, 0, 0, 0), (24, .lload_n 3, 0, 0, 0, 0), (25, .putfield 9, 1074, 3, 0, 0), (28, .aload_n 0, 0, 0, 0, 0), (29, .getfield 15, 1079, 3, 1, 0), (32, .lconst 0, 0, 0, 0, 0), (33, .lcmp, 0, 0, 0, 0), (34, .ifCond .ge 25, 0, 59, 0, 0), (37, .aload_n 0, 0, 0, 0, 0), (38, .dup, 0, 0, 0, 0), (39, .getfield 15, 1079, 3, 1, 0), (42, .ldc2_w 28, 3074, 0, 0, 10000000000), (45, .ladd, 0, 0, 0, 0), (46, .putfield 15, 1079, 3, 1, 0), (49, .aload_n 0, 0, 0, 0, 0), (50, .dup, 0, 0, 0, 0), (51, .getfield 9, 1074, 3, 0, 0), (54, .lconst 1, 0, 0, 0, 0), (55, .lsub, 0, 0, 0, 0), (56, .putfield 9, 1074, 3, 0, 0)]
noncomputable def kb_X1_toDifference_59 : List (Nat × bO) := [(59, .return_, 0, 0, 0, 0)]
set_option maxRecDepth 16000 in
theorem kbl_X1_toDifference : tcode 781 = List.flatten [kb_X1_toDifference_0, kb_X1_toDifference_59] := sorry
theorem kbs_X1_toDifference : ksort (tcode 781) = true := sorry
theorem tb_X1_toDifference_0 {e : tE} {c : Bool} {d : Nat} {L : tL} {st : List tV} {M : tM} {n : Nat} {Q : tR → tM → Nat → Prop} (h : wB e c 9 d 781 59 kb_X1_toDifference_0 L st M n Q) : tT e d 781 0 L st M n Q := sorry
theorem tb_X1_toDifference_59 {e : tE} {c : Bool} {d : Nat} {L : tL} {st : List tV} {M : tM} {n : Nat} {Q : tR → tM → Nat → Prop} (h : wB e c 9 d 781 60 kb_X1_toDifference_59 L st M n Q) : tT e d 781 59 L st M n Q := sorry
theorem bmx_X1_toDifference : (bmeth 781).2.2.1 = 5 := sorry
theorem tst_X1_toDifference {e : tE} {d : Nat} {M : tM} {n : Nat} {Q : tR → tM → Nat → Prop} {r : Nat} {x1 : Nat ⊕ Nat} {x2 : Nat ⊕ Nat} (h : tT e d 781 0 [some (.inr (.inr (.inl r))), some (.inr (.inr x1)), some (.inr (.inr x2)), none, none] [] M n Q) : tC e d 781 [.inr (.inr (.inl r)), .inr (.inr x1), .inr (.inr x2)] M n Q := sorry
noncomputable def kb_X1_toMultiple_0 : List (Nat × bO) := [(0, .aload_n 1, 0, 0, 0, 0), (1, .getfield 15, 1079, 3, 1, 0), (4, .lload_n 2, 0, 0, 0, 0), (5, .lmul, 0, 0, 0, 0), (6, .lstore 4, 0, 0, 0, 0), (8, .aload_n 0, 0, 0, 0, 0), (9, .aload_n 1, 0, 0, 0, 0), (10, .getfield 9, 1074, 3, 0, 0), (13, .lload_n 2, 0, 0, 0, 0), (14, .lmul, 0, 0, 0, 0), (15, .lload 4, 0, 0, 0, 0), (17, .ldc2_w 28, 3074, 0, 0, 10000000000), (20, .ldiv, 0, 0, 0, 0), (21, .ladd, 0, 0, 0, 0), (22, .putfield 9, 1074, 3, 0, 0), (25, .aload_n 0, 0, 0, 0, 0), (26, .lload 4, 0, 0, 0, 0), (28, .ldc2_w 28, 3074, 0, 0, 10000000000), (31, .lrem, 0, 0, 0, 0), (32, .putfield 15, 1079, 3, 1, 0), (35, .return_, 0, 0, 0, 0)]
set_option maxRecDepth 16000 in
theorem kbl_X1_toMultiple : tcode 782 = List.flatten [kb_X1_toMultiple_0] := sorry
theorem kbs_X1_toMultiple : ksort (tcode 782) = true := sorry
theorem tb_X1_toMultiple_0 {e : tE} {c : Bool} {d : Nat} {L : tL} {st : List tV} {M : tM} {n : Nat} {Q : tR → tM → Nat → Prop} (h : wB e c 9 d 782 36 kb_X1_toMultiple_0 L st M n Q) : tT e d 782 0 L st M n Q := sorry
theorem bmx_X1_toMultiple : (bmeth 782).2.2.1 = 6 := sorry
theorem tst_X1_toMultiple {e : tE} {d : Nat} {M : tM} {n : Nat} {Q : tR → tM → Nat → Prop} {r : Nat} {x1 : Nat ⊕ Nat} {x2 : Int} (h : tT e d 782 0 [some (.inr (.inr (.inl r))), some (.inr (.inr x1)), some (.inr (.inl x2)), none, none, none] [] M n Q) : tC e d 782 [.inr (.inr (.inl r)), .inr (.inr x1), .inr (.inl x2)] M n Q := sorry
noncomputable def kb_X1_toSum_0 : List (Nat × bO) := [(0, .aload_n 1, 0, 0, 0, 0), (1, .getfield 9, 1074, 3, 0, 0), (4, .aload_n 2, 0, 0, 0, 0), (5, .getfield 9, 1074, 3, 0, 0), (8, .ladd, 0, 0, 0, 0), (9, .lstore_n 3, 0, 0, 0, 0), (10, .aload_n 0, 0, 0, 0, 0), (11, .aload_n 1, 0, 0, 0, 0), (12, .getfield 15, 1079, 3, 1, 0), (15, .aload_n 2, 0, 0, 0, 0), (16, .getfield 15, 1079, 3, 1, 0), (19, .ladd, 0, 0, 0, 0), (20, .putfield 15, 1079, 3, 1, 0), (23, .aload_n 0, 0, 0, 0, 0), (24, .lload_n 3, 0, 0, 0, 0), (25, .putfield 9, 1074, 3, 0, 0), (28, .aload_n 0, 0, 0, 0, 0), (29, .getfield 15, 1079, 3, 1, 0), (32, .ldc2_w 28, 3074, 0, 0, 10000000000), (35, .lcmp, 0, 0, 0, 0), (36, .ifCond .lt 25, 0, 61, 0, 0), (39, .aload_n 0, 0, 0, 0, 0), (40, .dup, 0, 0, 0, 0), (41, .getfield 15, 1079, 3, 1, 0), (44, .ldc2_w 28, 3074, 0, 0, 10000000000), (47, .lsub, 0, 0, 0, 0), (48, .putfield 15, 1079, 3, 1, 0), (51, .aload_n 0, 0, 0, 0, 0), (52, .dup, 0, 0, 0, 0), (53, .getfield 9, 1074, 3, 0, 0), (56, .lconst 1, 0, 0, 0, 0), (57, .ladd, 0, 0, 0, 0), (58, .putfield 9, 1074, 3, 0, 0)]
noncomputable def kb_X1_toSum_61 : List (Nat × bO) := [(61, .return_, 0, 0, 0, 0)]
set_option maxRecDepth 16000 in
theorem kbl_X1_toSum : tcode 783 = List.flatten [kb_X1_toSum_0, kb_X1_toSum_61] := sorry
theorem kbs_X1_toSum : ksort (tcode 783) = true := sorry
theorem tb_X1_toSum_0 {e : tE} {c : Bool} {d : Nat} {L : tL} {st : List tV} {M : tM} {n : Nat} {Q : tR → tM → Nat → Prop} (h : wB e c 9 d 783 61 kb_X1_toSum_0 L st M n Q) : tT e d 783 0 L st M n Q := sorry
theorem tb_X1_toSum_61 {e : tE} {c : Bool} {d : Nat} {L : tL} {st : List tV} {M : tM} {n : Nat} {Q : tR → tM → Nat → Prop} (h : wB e c 9 d 783 62 kb_X1_toSum_61 L st M n Q) : tT e d 783 61 L st M n Q := sorry
theorem bmx_X1_toSum : (bmeth 783).2.2.1 = 5 := sorry
theorem tst_X1_toSum {e : tE} {d : Nat} {M : tM} {n : Nat} {Q : tR → tM → Nat → Prop} {r : Nat} {x1 : Nat ⊕ Nat} {x2 : Nat ⊕ Nat} (h : tT e d 783 0 [some (.inr (.inr (.inl r))), some (.inr (.inr x1)), some (.inr (.inr x2)), none, none] [] M n Q) : tC e d 783 [.inr (.inr (.inl r)), .inr (.inr x1), .inr (.inr x2)] M n Q := sorry
noncomputable def kb_X1_turn_0 : List (Nat × bO) := [(0, .aload_n 0, 0, 0, 0, 0), (1, .getfield 15, 1079, 3, 1, 0), (4, .lconst 0, 0, 0, 0, 0), (5, .lcmp, 0, 0, 0, 0), (6, .ifCond .ne 15, 0, 21, 0, 0), (9, .aload_n 0, 0, 0, 0, 0), (10, .aload_n 0, 0, 0, 0, 0), (11, .getfield 9, 1074, 3, 0, 0), (14, .lneg, 0, 0, 0, 0), (15, .putfield 9, 1074, 3, 0, 0), (18, .goto 26, 0, 44, 0, 0)]
noncomputable def kb_X1_turn_21 : List (Nat × bO) := [(21, .aload_n 0, 0, 0, 0, 0), (22, .aload_n 0, 0, 0, 0, 0), (23, .getfield 9, 1074, 3, 0, 0), (26, .lneg, 0, 0, 0, 0), (27, .lconst 1, 0, 0, 0, 0), (28, .lsub, 0, 0, 0, 0), (29, .putfield 9, 1074, 3, 0, 0), (32, .aload_n 0, 0, 0, 0, 0), (33, .ldc2_w 28, 3074, 0, 0, 10000000000), (36, .aload_n 0, 0, 0, 0, 0), (37, .getfield 15, 1079, 3, 1, 0), (40, .lsub, 0, 0, 0, 0), (41, .putfield 15, 1079, 3, 1, 0)]
noncomputable def kb_X1_turn_44 : List (Nat × bO) := [(44, .return_, 0, 0, 0, 0)]
set_option maxRecDepth 16000 in
theorem kbl_X1_turn : tcode 784 = List.flatten [kb_X1_turn_0, kb_X1_turn_21, kb_X1_turn_44] := sorry
theorem kbs_X1_turn : ksort (tcode 784) = true := sorry
theorem tb_X1_turn_0 {e : tE} {c : Bool} {d : Nat} {L : tL} {st : List tV} {M : tM} {n : Nat} {Q : tR → tM → Nat → Prop} (h : wB e c 9 d 784 21 kb_X1_turn_0 L st M n Q) : tT e d 784 0 L st M n Q := sorry
theorem tb_X1_turn_21 {e : tE} {c : Bool} {d : Nat} {L : tL} {st : List tV} {M : tM} {n : Nat} {Q : tR → tM → Nat → Prop} (h : wB e c 9 d 784 44 kb_X1_turn_21 L st M n Q) : tT e d 784 21 L st M n Q := sorry
theorem tb_X1_turn_44 {e : tE} {c : Bool} {d : Nat} {L : tL} {st : List tV} {M : tM} {n : Nat} {Q : tR → tM → Nat → Prop} (h : wB e c 9 d 784 45 kb_X1_turn_44 L st M n Q) : tT e d 784 44 L st M n Q := sorry
theorem bmx_X1_turn : (bmeth 784).2.2.1 = 1 := sorry
theorem tst_X1_turn {e : tE} {d : Nat} {M : tM} {n : Nat} {Q : tR → tM → Nat → Prop} {r : Nat} (h : tT e d 784 0 [some (.inr (.inr (.inl r)))] [] M n Q) : tC e d 784 [.inr (.inr (.inl r))] M n Q := sorry
noncomputable def kb_X2_between_0 : List (Nat × bO) := [(0, .aload_n 0, 0, 0, 0, 0), (1, .getfield 10, 1090, 4, 0, 0), (4, .aload_n 1, 0, 0, 0, 0), (5, .invokevirtual 19, 3098, 771, 1, 3), (8, .aload_n 0, 0, 0, 0, 0), (9, .getfield 16, 1094, 4, 1, 0), (12, .aload_n 2, 0, 0, 0, 0), (13, .invokevirtual 19, 3098, 771, 1, 3), (16, .return_, 0, 0, 0, 0)]
set_option maxRecDepth 16000 in
theorem kbl_X2_between : tcode 1025 = List.flatten [kb_X2_between_0] := sorry
theorem kbs_X2_between : ksort (tcode 1025) = true := sorry
theorem tb_X2_between_0 {e : tE} {c : Bool} {d : Nat} {L : tL} {st : List tV} {M : tM} {n : Nat} {Q : tR → tM → Nat → Prop} (h : wB e c 9 d 1025 17 kb_X2_between_0 L st M n Q) : tT e d 1025 0 L st M n Q := sorry
theorem bmx_X2_between : (bmeth 1025).2.2.1 = 3 := sorry
theorem tst_X2_between {e : tE} {d : Nat} {M : tM} {n : Nat} {Q : tR → tM → Nat → Prop} {r : Nat} {x1 : Nat ⊕ Nat} {x2 : Nat ⊕ Nat} (h : tT e d 1025 0 [some (.inr (.inr (.inl r))), some (.inr (.inr x1)), some (.inr (.inr x2))] [] M n Q) : tC e d 1025 [.inr (.inr (.inl r)), .inr (.inr x1), .inr (.inr x2)] M n Q := sorry
noncomputable def kb_X2_copy_0 : List (Nat × bO) := [(0, .aload_n 0, 0, 0, 0, 0), (1, .getfield 10, 1090, 4, 0, 0), (4, .aload_n 1, 0, 0, 0, 0), (5, .getfield 10, 1090, 4, 0, 0), (8, .invokevirtual 19, 3098, 771, 1, 3), (11, .aload_n 0, 0, 0, 0, 0), (12, .getfield 16, 1094, 4, 1, 0), (15, .aload_n 1, 0, 0, 0, 0), (16, .getfield 16, 1094, 4, 1, 0), (19, .invokevirtual 19, 3098, 771, 1, 3), (22, .return_, 0, 0, 0, 0)]
set_option maxRecDepth 16000 in
theorem kbl_X2_copy : tcode 1026 = List.flatten [kb_X2_copy_0] := sorry
theorem kbs_X2_copy : ksort (tcode 1026) = true := sorry
theorem tb_X2_copy_0 {e : tE} {c : Bool} {d : Nat} {L : tL} {st : List tV} {M : tM} {n : Nat} {Q : tR → tM → Nat → Prop} (h : wB e c 9 d 1026 23 kb_X2_copy_0 L st M n Q) : tT e d 1026 0 L st M n Q := sorry
theorem bmx_X2_copy : (bmeth 1026).2.2.1 = 2 := sorry
theorem tst_X2_copy {e : tE} {d : Nat} {M : tM} {n : Nat} {Q : tR → tM → Nat → Prop} {r : Nat} {x1 : Nat ⊕ Nat} (h : tT e d 1026 0 [some (.inr (.inr (.inl r))), some (.inr (.inr x1))] [] M n Q) : tC e d 1026 [.inr (.inr (.inl r)), .inr (.inr x1)] M n Q := sorry
noncomputable def kb_X2_cutDownTo_0 : List (Nat × bO) := [(0, .aload_n 0, 0, 0, 0, 0), (1, .getfield 10, 1090, 4, 0, 0), (4, .aload_n 1, 0, 0, 0, 0), (5, .getfield 10, 1090, 4, 0, 0), (8, .invokevirtual 34, 3239, 773, 1, 3), (11, .ifCond .eq 14, 0, 25, 0, 0), (14, .aload_n 0, 0, 0, 0, 0), (15, .getfield 10, 1090, 4, 0, 0), (18, .aload_n 1, 0, 0, 0, 0), (19, .getfield 10, 1090, 4, 0, 0), (22, .invokevirtual 19, 3098, 771, 1, 3)]
noncomputable def kb_X2_cutDownTo_25 : List (Nat × bO) := [(25, .aload_n 1, 0, 0, 0, 0), (26, .getfield 16, 1094, 4, 1, 0), (29, .aload_n 0, 0, 0, 0, 0), (30, .getfield 16, 1094, 4, 1, 0), (33, .invokevirtual 34, 3239, 773, 1, 3), (36, .ifCond .eq 14, 0, 50, 0, 0), (39, .aload_n 0, 0, 0, 0, 0), (40, .getfield 16, 1094, 4, 1, 0), (43, .aload_n 1, 0, 0, 0, 0), (44, .getfield 16, 1094, 4, 1, 0), (47, .invokevirtual 19, 3098, 771, 1, 3)]
noncomputable def kb_X2_cutDownTo_50 : List (Nat × bO) := [(50, .aload_n 0, 0, 0, 0, 0), (51, .getfield 16, 1094, 4, 1, 0), (54, .aload_n 0, 0, 0, 0, 0), (55, .getfield 10, 1090, 4, 0, 0), (58, .invokevirtual 34, 3239, 773, 1, 3), (61, .ifCond .ne 7, 0, 68, 0, 0), (64, .iconst 1, 0, 0, 0, 0), (65, .goto 4, 0, 69, 0, 0)]
noncomputable def kb_X2_cutDownTo_68 : List (Nat × bO) := [(68, .iconst 0, 0, 0, 0, 0)]
noncomputable def kb_X2_cutDownTo_69 : List (Nat × bO) := [(69, .ireturn, 0, 0, 0, 0)]
set_option maxRecDepth 16000 in
theorem kbl_X2_cutDownTo : tcode 1027 = List.flatten [kb_X2_cutDownTo_0, kb_X2_cutDownTo_25, kb_X2_cutDownTo_50, kb_X2_cutDownTo_68, kb_X2_cutDownTo_69] := sorry
theorem kbs_X2_cutDownTo : ksort (tcode 1027) = true := sorry
theorem tb_X2_cutDownTo_0 {e : tE} {c : Bool} {d : Nat} {L : tL} {st : List tV} {M : tM} {n : Nat} {Q : tR → tM → Nat → Prop} (h : wB e c 3 d 1027 25 kb_X2_cutDownTo_0 L st M n Q) : tT e d 1027 0 L st M n Q := sorry
theorem tb_X2_cutDownTo_25 {e : tE} {c : Bool} {d : Nat} {L : tL} {st : List tV} {M : tM} {n : Nat} {Q : tR → tM → Nat → Prop} (h : wB e c 3 d 1027 50 kb_X2_cutDownTo_25 L st M n Q) : tT e d 1027 25 L st M n Q := sorry
theorem tb_X2_cutDownTo_50 {e : tE} {c : Bool} {d : Nat} {L : tL} {st : List tV} {M : tM} {n : Nat} {Q : tR → tM → Nat → Prop} (h : wB e c 3 d 1027 68 kb_X2_cutDownTo_50 L st M n Q) : tT e d 1027 50 L st M n Q := sorry
theorem tb_X2_cutDownTo_68 {e : tE} {c : Bool} {d : Nat} {L : tL} {st : List tV} {M : tM} {n : Nat} {Q : tR → tM → Nat → Prop} (h : wB e c 3 d 1027 69 kb_X2_cutDownTo_68 L st M n Q) : tT e d 1027 68 L st M n Q := sorry
theorem tb_X2_cutDownTo_69 {e : tE} {c : Bool} {d : Nat} {L : tL} {st : List tV} {M : tM} {n : Nat} {Q : tR → tM → Nat → Prop} (h : wB e c 3 d 1027 70 kb_X2_cutDownTo_69 L st M n Q) : tT e d 1027 69 L st M n Q := sorry
theorem bmx_X2_cutDownTo : (bmeth 1027).2.2.1 = 2 := sorry
theorem tst_X2_cutDownTo {e : tE} {d : Nat} {M : tM} {n : Nat} {Q : tR → tM → Nat → Prop} {r : Nat} {x1 : Nat ⊕ Nat} (h : tT e d 1027 0 [some (.inr (.inr (.inl r))), some (.inr (.inr x1))] [] M n Q) : tC e d 1027 [.inr (.inr (.inl r)), .inr (.inr x1)] M n Q := sorry
noncomputable def kb_X2_dropSigns_0 : List (Nat × bO) := [(0, .aload_n 0, 0, 0, 0, 0), (1, .getfield 10, 1090, 4, 0, 0), (4, .invokevirtual 31, 3201, 774, 0, 3), (7, .ifCond .ne 4, 0, 11, 0, 0), (10, .return_, 0, 0, 0, 0)]
noncomputable def kb_X2_dropSigns_11 : List (Nat × bO) := [(11, .aload_n 0, 0, 0, 0, 0), (12, .getfield 16, 1094, 4, 1, 0), (15, .invokevirtual 27, 3197, 775, 0, 3), (18, .ifCond .ne 8, 0, 26, 0, 0), (21, .aload_n 0, 0, 0, 0, 0), (22, .invokevirtual 55, 3238, 1036, 0, 4), (25, .return_, 0, 0, 0, 0)]
noncomputable def kb_X2_dropSigns_26 : List (Nat × bO) := [(26, .aload_n 0, 0, 0, 0, 0), (27, .getfield 10, 1090, 4, 0, 0), (30, .invokevirtual 48, 3207, 784, 0, 3), (33, .aload_n 0, 0, 0, 0, 0), (34, .getfield 16, 1094, 4, 1, 0), (37, .aload_n 0, 0, 0, 0, 0), (38, .getfield 10, 1090, 4, 0, 0), (41, .invokevirtual 34, 3239, 773, 1, 3), (44, .ifCond .eq 14, 0, 58, 0, 0), (47, .aload_n 0, 0, 0, 0, 0), (48, .getfield 16, 1094, 4, 1, 0), (51, .aload_n 0, 0, 0, 0, 0), (52, .getfield 10, 1090, 4, 0, 0), (55, .invokevirtual 19, 3098, 771, 1, 3)]
noncomputable def kb_X2_dropSigns_58 : List (Nat × bO) := [(58, .aload_n 0, 0, 0, 0, 0), (59, .getfield 10, 1090, 4, 0, 0), (62, .lconst 0, 0, 0, 0, 0), (63, .lconst 0, 0, 0, 0, 0), (64, .invokevirtual 51, 3208, 770, 2, 3), (67, .return_, 0, 0, 0, 0)]
set_option maxRecDepth 16000 in
theorem kbl_X2_dropSigns : tcode 1028 = List.flatten [kb_X2_dropSigns_0, kb_X2_dropSigns_11, kb_X2_dropSigns_26, kb_X2_dropSigns_58] := sorry
theorem kbs_X2_dropSigns : ksort (tcode 1028) = true := sorry
theorem tb_X2_dropSigns_0 {e : tE} {c : Bool} {d : Nat} {L : tL} {st : List tV} {M : tM} {n : Nat} {Q : tR → tM → Nat → Prop} (h : wB e c 9 d 1028 11 kb_X2_dropSigns_0 L st M n Q) : tT e d 1028 0 L st M n Q := sorry
theorem tb_X2_dropSigns_11 {e : tE} {c : Bool} {d : Nat} {L : tL} {st : List tV} {M : tM} {n : Nat} {Q : tR → tM → Nat → Prop} (h : wB e c 9 d 1028 26 kb_X2_dropSigns_11 L st M n Q) : tT e d 1028 11 L st M n Q := sorry
theorem tb_X2_dropSigns_26 {e : tE} {c : Bool} {d : Nat} {L : tL} {st : List tV} {M : tM} {n : Nat} {Q : tR → tM → Nat → Prop} (h : wB e c 9 d 1028 58 kb_X2_dropSigns_26 L st M n Q) : tT e d 1028 26 L st M n Q := sorry
theorem tb_X2_dropSigns_58 {e : tE} {c : Bool} {d : Nat} {L : tL} {st : List tV} {M : tM} {n : Nat} {Q : tR → tM → Nat → Prop} (h : wB e c 9 d 1028 68 kb_X2_dropSigns_58 L st M n Q) : tT e d 1028 58 L st M n Q := sorry
theorem bmx_X2_dropSigns : (bmeth 1028).2.2.1 = 1 := sorry
theorem tst_X2_dropSigns {e : tE} {d : Nat} {M : tM} {n : Nat} {Q : tR → tM → Nat → Prop} {r : Nat} (h : tT e d 1028 0 [some (.inr (.inr (.inl r)))] [] M n Q) : tC e d 1028 [.inr (.inr (.inl r))] M n Q := sorry
noncomputable def kb_X2_embrace_0 : List (Nat × bO) := [(0, .aload_n 1, 0, 0, 0, 0), (1, .getfield 10, 1090, 4, 0, 0), (4, .aload_n 0, 0, 0, 0, 0), (5, .getfield 10, 1090, 4, 0, 0), (8, .invokevirtual 34, 3239, 773, 1, 3), (11, .ifCond .eq 14, 0, 25, 0, 0), (14, .aload_n 0, 0, 0, 0, 0), (15, .getfield 10, 1090, 4, 0, 0), (18, .aload_n 1, 0, 0, 0, 0), (19, .getfield 10, 1090, 4, 0, 0), (22, .invokevirtual 19, 3098, 771, 1, 3)]
noncomputable def kb_X2_embrace_25 : List (Nat × bO) := [(25, .aload_n 0, 0, 0, 0, 0), (26, .getfield 16, 1094, 4, 1, 0), (29, .aload_n 1, 0, 0, 0, 0), (30, .getfield 16, 1094, 4, 1, 0), (33, .invokevirtual 34, 3239, 773, 1, 3), (36, .ifCond .eq 14, 0, 50, 0, 0), (39, .aload_n 0, 0, 0, 0, 0), (40, .getfield 16, 1094, 4, 1, 0), (43, .aload_n 1, 0, 0, 0, 0), (44, .getfield 16, 1094, 4, 1, 0), (47, .invokevirtual 19, 3098, 771, 1, 3)]
noncomputable def kb_X2_embrace_50 : List (Nat × bO) := [(50, .return_, 0, 0, 0, 0)]
set_option maxRecDepth 16000 in
theorem kbl_X2_embrace : tcode 1029 = List.flatten [kb_X2_embrace_0, kb_X2_embrace_25, kb_X2_embrace_50] := sorry
theorem kbs_X2_embrace : ksort (tcode 1029) = true := sorry
theorem tb_X2_embrace_0 {e : tE} {c : Bool} {d : Nat} {L : tL} {st : List tV} {M : tM} {n : Nat} {Q : tR → tM → Nat → Prop} (h : wB e c 9 d 1029 25 kb_X2_embrace_0 L st M n Q) : tT e d 1029 0 L st M n Q := sorry
theorem tb_X2_embrace_25 {e : tE} {c : Bool} {d : Nat} {L : tL} {st : List tV} {M : tM} {n : Nat} {Q : tR → tM → Nat → Prop} (h : wB e c 9 d 1029 50 kb_X2_embrace_25 L st M n Q) : tT e d 1029 25 L st M n Q := sorry
theorem tb_X2_embrace_50 {e : tE} {c : Bool} {d : Nat} {L : tL} {st : List tV} {M : tM} {n : Nat} {Q : tR → tM → Nat → Prop} (h : wB e c 9 d 1029 51 kb_X2_embrace_50 L st M n Q) : tT e d 1029 50 L st M n Q := sorry
theorem bmx_X2_embrace : (bmeth 1029).2.2.1 = 2 := sorry
theorem tst_X2_embrace {e : tE} {d : Nat} {M : tM} {n : Nat} {Q : tR → tM → Nat → Prop} {r : Nat} {x1 : Nat ⊕ Nat} (h : tT e d 1029 0 [some (.inr (.inr (.inl r))), some (.inr (.inr x1))] [] M n Q) : tC e d 1029 [.inr (.inr (.inl r)), .inr (.inr x1)] M n Q := sorry
noncomputable def kb_X2_holdsZero_0 : List (Nat × bO) := [(0, .aload_n 0, 0, 0, 0, 0), (1, .getfield 10, 1090, 4, 0, 0), (4, .invokevirtual 27, 3197, 775, 0, 3), (7, .ifCond .ne 17, 0, 24, 0, 0), (10, .aload_n 0, 0, 0, 0, 0), (11, .getfield 16, 1094, 4, 1, 0), (14, .invokevirtual 31, 3201, 774, 0, 3), (17, .ifCond .ne 7, 0, 24, 0, 0), (20, .iconst 1, 0, 0, 0, 0), (21, .goto 4, 0, 25, 0, 0)]
noncomputable def kb_X2_holdsZero_24 : List (Nat × bO) := [(24, .iconst 0, 0, 0, 0, 0)]
noncomputable def kb_X2_holdsZero_25 : List (Nat × bO) := [(25, .ireturn, 0, 0, 0, 0)]
set_option maxRecDepth 16000 in
theorem kbl_X2_holdsZero : tcode 1030 = List.flatten [kb_X2_holdsZero_0, kb_X2_holdsZero_24, kb_X2_holdsZero_25] := sorry
theorem kbs_X2_holdsZero : ksort (tcode 1030) = true := sorry
theorem tb_X2_holdsZero_0 {e : tE} {c : Bool} {d : Nat} {L : tL} {st : List tV} {M : tM} {n : Nat} {Q : tR → tM → Nat → Prop} (h : wB e c 3 d 1030 24 kb_X2_holdsZero_0 L st M n Q) : tT e d 1030 0 L st M n Q := sorry
theorem tb_X2_holdsZero_24 {e : tE} {c : Bool} {d : Nat} {L : tL} {st : List tV} {M : tM} {n : Nat} {Q : tR → tM → Nat → Prop} (h : wB e c 3 d 1030 25 kb_X2_holdsZero_24 L st M n Q) : tT e d 1030 24 L st M n Q := sorry
theorem tb_X2_holdsZero_25 {e : tE} {c : Bool} {d : Nat} {L : tL} {st : List tV} {M : tM} {n : Nat} {Q : tR → tM → Nat → Prop} (h : wB e c 3 d 1030 26 kb_X2_holdsZero_25 L st M n Q) : tT e d 1030 25 L st M n Q := sorry
theorem bmx_X2_holdsZero : (bmeth 1030).2.2.1 = 1 := sorry
theorem tst_X2_holdsZero {e : tE} {d : Nat} {M : tM} {n : Nat} {Q : tR → tM → Nat → Prop} {r : Nat} (h : tT e d 1030 0 [some (.inr (.inr (.inl r)))] [] M n Q) : tC e d 1030 [.inr (.inr (.inl r))] M n Q := sorry
noncomputable def kb_X2_isSingle_0 : List (Nat × bO) := [(0, .aload_n 0, 0, 0, 0, 0), (1, .getfield 10, 1090, 4, 0, 0), (4, .aload_n 0, 0, 0, 0, 0), (5, .getfield 16, 1094, 4, 1, 0), (8, .invokevirtual 23, 3132, 769, 1, 3), (11, .ifCond .ne 7, 0, 18, 0, 0), (14, .iconst 1, 0, 0, 0, 0), (15, .goto 4, 0, 19, 0, 0)]
noncomputable def kb_X2_isSingle_18 : List (Nat × bO) := [(18, .iconst 0, 0, 0, 0, 0)]
noncomputable def kb_X2_isSingle_19 : List (Nat × bO) := [(19, .ireturn, 0, 0, 0, 0)]
set_option maxRecDepth 16000 in
theorem kbl_X2_isSingle : tcode 1031 = List.flatten [kb_X2_isSingle_0, kb_X2_isSingle_18, kb_X2_isSingle_19] := sorry
theorem kbs_X2_isSingle : ksort (tcode 1031) = true := sorry
theorem tb_X2_isSingle_0 {e : tE} {c : Bool} {d : Nat} {L : tL} {st : List tV} {M : tM} {n : Nat} {Q : tR → tM → Nat → Prop} (h : wB e c 3 d 1031 18 kb_X2_isSingle_0 L st M n Q) : tT e d 1031 0 L st M n Q := sorry
theorem tb_X2_isSingle_18 {e : tE} {c : Bool} {d : Nat} {L : tL} {st : List tV} {M : tM} {n : Nat} {Q : tR → tM → Nat → Prop} (h : wB e c 3 d 1031 19 kb_X2_isSingle_18 L st M n Q) : tT e d 1031 18 L st M n Q := sorry
theorem tb_X2_isSingle_19 {e : tE} {c : Bool} {d : Nat} {L : tL} {st : List tV} {M : tM} {n : Nat} {Q : tR → tM → Nat → Prop} (h : wB e c 3 d 1031 20 kb_X2_isSingle_19 L st M n Q) : tT e d 1031 19 L st M n Q := sorry
theorem bmx_X2_isSingle : (bmeth 1031).2.2.1 = 1 := sorry
theorem tst_X2_isSingle {e : tE} {d : Nat} {M : tM} {n : Nat} {Q : tR → tM → Nat → Prop} {r : Nat} (h : tT e d 1031 0 [some (.inr (.inr (.inl r)))] [] M n Q) : tC e d 1031 [.inr (.inr (.inl r))] M n Q := sorry
noncomputable def kb_X2_isTooGreat_0 : List (Nat × bO) := [(0, .aload_n 0, 0, 0, 0, 0), (1, .getfield 10, 1090, 4, 0, 0), (4, .invokevirtual 38, 3079, 776, 0, 3), (7, .ifCond .ne 13, 0, 20, 0, 0), (10, .aload_n 0, 0, 0, 0, 0), (11, .getfield 16, 1094, 4, 1, 0), (14, .invokevirtual 38, 3079, 776, 0, 3), (17, .ifCond .eq 7, 0, 24, 0, 0)]
noncomputable def kb_X2_isTooGreat_20 : List (Nat × bO) := [(20, .iconst 1, 0, 0, 0, 0), (21, .goto 4, 0, 25, 0, 0)]
noncomputable def kb_X2_isTooGreat_24 : List (Nat × bO) := [(24, .iconst 0, 0, 0, 0, 0)]
noncomputable def kb_X2_isTooGreat_25 : List (Nat × bO) := [(25, .ireturn, 0, 0, 0, 0)]
set_option maxRecDepth 16000 in
theorem kbl_X2_isTooGreat : tcode 1032 = List.flatten [kb_X2_isTooGreat_0, kb_X2_isTooGreat_20, kb_X2_isTooGreat_24, kb_X2_isTooGreat_25] := sorry
theorem kbs_X2_isTooGreat : ksort (tcode 1032) = true := sorry
theorem tb_X2_isTooGreat_0 {e : tE} {c : Bool} {d : Nat} {L : tL} {st : List tV} {M : tM} {n : Nat} {Q : tR → tM → Nat → Prop} (h : wB e c 3 d 1032 20 kb_X2_isTooGreat_0 L st M n Q) : tT e d 1032 0 L st M n Q := sorry
theorem tb_X2_isTooGreat_20 {e : tE} {c : Bool} {d : Nat} {L : tL} {st : List tV} {M : tM} {n : Nat} {Q : tR → tM → Nat → Prop} (h : wB e c 3 d 1032 24 kb_X2_isTooGreat_20 L st M n Q) : tT e d 1032 20 L st M n Q := sorry
theorem tb_X2_isTooGreat_24 {e : tE} {c : Bool} {d : Nat} {L : tL} {st : List tV} {M : tM} {n : Nat} {Q : tR → tM → Nat → Prop} (h : wB e c 3 d 1032 25 kb_X2_isTooGreat_24 L st M n Q) : tT e d 1032 24 L st M n Q := sorry
theorem tb_X2_isTooGreat_25 {e : tE} {c : Bool} {d : Nat} {L : tL} {st : List tV} {M : tM} {n : Nat} {Q : tR → tM → Nat → Prop} (h : wB e c 3 d 1032 26 kb_X2_isTooGreat_25 L st M n Q) : tT e d 1032 25 L st M n Q := sorry
theorem bmx_X2_isTooGreat : (bmeth 1032).2.2.1 = 1 := sorry
theorem tst_X2_isTooGreat {e : tE} {d : Nat} {M : tM} {n : Nat} {Q : tR → tM → Nat → Prop} {r : Nat} (h : tT e d 1032 0 [some (.inr (.inr (.inl r)))] [] M n Q) : tC e d 1032 [.inr (.inr (.inl r))] M n Q := sorry
noncomputable def kb_X2_liesIn_0 : List (Nat × bO) := [(0, .aload_n 0, 0, 0, 0, 0), (1, .getfield 10, 1090, 4, 0, 0), (4, .aload_n 1, 0, 0, 0, 0), (5, .getfield 10, 1090, 4, 0, 0), (8, .invokevirtual 34, 3239, 773, 1, 3), (11, .ifCond .ne 21, 0, 32, 0, 0), (14, .aload_n 1, 0, 0, 0, 0), (15, .getfield 16, 1094, 4, 1, 0), (18, .aload_n 0, 0, 0, 0, 0), (19, .getfield 16, 1094, 4, 1, 0), (22, .invokevirtual 34, 3239, 773, 1, 3), (25, .ifCond .ne 7, 0, 32, 0, 0), (28, .iconst 1, 0, 0, 0, 0), (29, .goto 4, 0, 33, 0, 0)]
noncomputable def kb_X2_liesIn_32 : List (Nat × bO) := [(32, .iconst 0, 0, 0, 0, 0)]
noncomputable def kb_X2_liesIn_33 : List (Nat × bO) := [(33, .ireturn, 0, 0, 0, 0)]
set_option maxRecDepth 16000 in
theorem kbl_X2_liesIn : tcode 1033 = List.flatten [kb_X2_liesIn_0, kb_X2_liesIn_32, kb_X2_liesIn_33] := sorry
theorem kbs_X2_liesIn : ksort (tcode 1033) = true := sorry
theorem tb_X2_liesIn_0 {e : tE} {c : Bool} {d : Nat} {L : tL} {st : List tV} {M : tM} {n : Nat} {Q : tR → tM → Nat → Prop} (h : wB e c 3 d 1033 32 kb_X2_liesIn_0 L st M n Q) : tT e d 1033 0 L st M n Q := sorry
theorem tb_X2_liesIn_32 {e : tE} {c : Bool} {d : Nat} {L : tL} {st : List tV} {M : tM} {n : Nat} {Q : tR → tM → Nat → Prop} (h : wB e c 3 d 1033 33 kb_X2_liesIn_32 L st M n Q) : tT e d 1033 32 L st M n Q := sorry
theorem tb_X2_liesIn_33 {e : tE} {c : Bool} {d : Nat} {L : tL} {st : List tV} {M : tM} {n : Nat} {Q : tR → tM → Nat → Prop} (h : wB e c 3 d 1033 34 kb_X2_liesIn_33 L st M n Q) : tT e d 1033 33 L st M n Q := sorry
theorem bmx_X2_liesIn : (bmeth 1033).2.2.1 = 2 := sorry
theorem tst_X2_liesIn {e : tE} {d : Nat} {M : tM} {n : Nat} {Q : tR → tM → Nat → Prop} {r : Nat} {x1 : Nat ⊕ Nat} (h : tT e d 1033 0 [some (.inr (.inr (.inl r))), some (.inr (.inr x1))] [] M n Q) : tC e d 1033 [.inr (.inr (.inl r)), .inr (.inr x1)] M n Q := sorry
noncomputable def kb_X2_roundOut_0 : List (Nat × bO) := [(0, .aload_n 0, 0, 0, 0, 0), (1, .getfield 10, 1090, 4, 0, 0), (4, .lload_n 1, 0, 0, 0, 0), (5, .invokevirtual 63, 3111, 778, 1, 3), (8, .aload_n 0, 0, 0, 0, 0), (9, .getfield 16, 1094, 4, 1, 0), (12, .lload_n 1, 0, 0, 0, 0), (13, .iconst 0, 0, 0, 0, 0), (14, .invokevirtual 67, 3112, 779, 2, 3), (17, .return_, 0, 0, 0, 0)]
set_option maxRecDepth 16000 in
theorem kbl_X2_roundOut : tcode 1034 = List.flatten [kb_X2_roundOut_0] := sorry
theorem kbs_X2_roundOut : ksort (tcode 1034) = true := sorry
theorem tb_X2_roundOut_0 {e : tE} {c : Bool} {d : Nat} {L : tL} {st : List tV} {M : tM} {n : Nat} {Q : tR → tM → Nat → Prop} (h : wB e c 9 d 1034 18 kb_X2_roundOut_0 L st M n Q) : tT e d 1034 0 L st M n Q := sorry
theorem bmx_X2_roundOut : (bmeth 1034).2.2.1 = 3 := sorry
theorem tst_X2_roundOut {e : tE} {d : Nat} {M : tM} {n : Nat} {Q : tR → tM → Nat → Prop} {r : Nat} {x1 : Int} (h : tT e d 1034 0 [some (.inr (.inr (.inl r))), some (.inr (.inl x1)), none] [] M n Q) : tC e d 1034 [.inr (.inr (.inl r)), .inr (.inl x1)] M n Q := sorry
