/-! The blocks of the code. Printed by wip/p2/genblk.py. -/
noncomputable def kb_X10_clear_0 : List (Nat × bO) := [(0, .aload_n 0, 0, 0, 0, 0), (1, .iconst 0, 0, 0, 0, 0), (2, .putfield 15, 1045, 12, 1, 0), (5, .return_, 0, 0, 0, 0)]
set_option maxRecDepth 16000 in
theorem kbl_X10_clear : tcode 3076 = List.flatten [kb_X10_clear_0] := sorry
theorem kbs_X10_clear : ksort (tcode 3076) = true := sorry
theorem tb_X10_clear_0 {e : tE} {c : Bool} {d : Nat} {L : tL} {st : List tV} {M : tM} {n : Nat} {Q : tR → tM → Nat → Prop} (h : wB e c 9 d 3076 6 kb_X10_clear_0 L st M n Q) : tT e d 3076 0 L st M n Q := sorry
theorem bmx_X10_clear : (bmeth 3076).2.2.1 = 1 := sorry
theorem tst_X10_clear {e : tE} {d : Nat} {M : tM} {n : Nat} {Q : tR → tM → Nat → Prop} {r : Nat} (h : tT e d 3076 0 [some (.inr (.inr (.inl r)))] [] M n Q) : tC e d 3076 [.inr (.inr (.inl r))] M n Q := sorry
noncomputable def kb_X10_isDigitAt_0 : List (Nat × bO) := [(0, .aload_n 0, 0, 0, 0, 0), (1, .iload_n 1, 0, 0, 0, 0), (2, .invokevirtual 19, 5180, 3075, 1, 12), (5, .istore_n 2, 0, 0, 0, 0), (6, .iload_n 2, 0, 0, 0, 0), (7, .bipush 48, 0, 0, 0, 0), (9, .if_icmp .lt 13, 0, 22, 0, 0), (12, .iload_n 2, 0, 0, 0, 0), (13, .bipush 57, 0, 0, 0, 0), (15, .if_icmp .gt 7, 0, 22, 0, 0), (18, .iconst 1, 0, 0, 0, 0), (19, .goto 4, 0, 23, 0, 0)]
noncomputable def kb_X10_isDigitAt_22 : List (Nat × bO) := [(22, .iconst 0, 0, 0, 0, 0)]
noncomputable def kb_X10_isDigitAt_23 : List (Nat × bO) := [(23, .ireturn, 0, 0, 0, 0)]
set_option maxRecDepth 16000 in
theorem kbl_X10_isDigitAt : tcode 3077 = List.flatten [kb_X10_isDigitAt_0, kb_X10_isDigitAt_22, kb_X10_isDigitAt_23] := sorry
theorem kbs_X10_isDigitAt : ksort (tcode 3077) = true := sorry
theorem tb_X10_isDigitAt_0 {e : tE} {c : Bool} {d : Nat} {L : tL} {st : List tV} {M : tM} {n : Nat} {Q : tR → tM → Nat → Prop} (h : wB e c 3 d 3077 22 kb_X10_isDigitAt_0 L st M n Q) : tT e d 3077 0 L st M n Q := sorry
theorem tb_X10_isDigitAt_22 {e : tE} {c : Bool} {d : Nat} {L : tL} {st : List tV} {M : tM} {n : Nat} {Q : tR → tM → Nat → Prop} (h : wB e c 3 d 3077 23 kb_X10_isDigitAt_22 L st M n Q) : tT e d 3077 22 L st M n Q := sorry
theorem tb_X10_isDigitAt_23 {e : tE} {c : Bool} {d : Nat} {L : tL} {st : List tV} {M : tM} {n : Nat} {Q : tR → tM → Nat → Prop} (h : wB e c 3 d 3077 24 kb_X10_isDigitAt_23 L st M n Q) : tT e d 3077 23 L st M n Q := sorry
theorem bmx_X10_isDigitAt : (bmeth 3077).2.2.1 = 3 := sorry
theorem tst_X10_isDigitAt {e : tE} {d : Nat} {M : tM} {n : Nat} {Q : tR → tM → Nat → Prop} {r : Nat} {x1 : Int} (h : tT e d 3077 0 [some (.inr (.inr (.inl r))), some (.inl x1), none] [] M n Q) : tC e d 3077 [.inr (.inr (.inl r)), .inl x1] M n Q := sorry
noncomputable def kb_X10_isNumber_0 : List (Nat × bO) := [(0, .aload_n 0, 0, 0, 0, 0), (1, .iconst 0, 0, 0, 0, 0), (2, .invokevirtual 19, 5180, 3075, 1, 12), (5, .bipush 43, 0, 0, 0, 0), (7, .if_icmp .eq 13, 0, 20, 0, 0), (10, .aload_n 0, 0, 0, 0, 0), (11, .iconst 0, 0, 0, 0, 0), (12, .invokevirtual 19, 5180, 3075, 1, 12), (15, .bipush 45, 0, 0, 0, 0), (17, .if_icmp .ne 7, 0, 24, 0, 0)]
noncomputable def kb_X10_isNumber_20 : List (Nat × bO) := [(20, .iconst 1, 0, 0, 0, 0), (21, .goto 4, 0, 25, 0, 0)]
noncomputable def kb_X10_isNumber_24 : List (Nat × bO) := [(24, .iconst 0, 0, 0, 0, 0)]
noncomputable def kb_X10_isNumber_25 : List (Nat × bO) := [(25, .istore_n 1, 0, 0, 0, 0), (26, .iconst 0, 0, 0, 0, 0), (27, .istore_n 2, 0, 0, 0, 0), (28, .iconst 0, 0, 0, 0, 0), (29, .istore_n 3, 0, 0, 0, 0), (30, .iload_n 1, 0, 0, 0, 0), (31, .istore 4, 0, 0, 0, 0)]
noncomputable def kb_X10_isNumber_33 : List (Nat × bO) := [(33, .iload 4, 0, 0, 0, 0), (35, .aload_n 0, 0, 0, 0, 0), (36, .getfield 15, 1045, 12, 1, 0), (39, .if_icmp .ge 44, 0, 83, 0, 0), (42, .aload_n 0, 0, 0, 0, 0), (43, .iload 4, 0, 0, 0, 0), (45, .invokevirtual 23, 5181, 3077, 1, 12), (48, .ifCond .eq 9, 0, 57, 0, 0), (51, .iinc 2 1, 0, 0, 0, 0), (54, .goto 23, 0, 77, 0, 0)]
noncomputable def kb_X10_isNumber_57 : List (Nat × bO) := [(57, .aload_n 0, 0, 0, 0, 0), (58, .getfield 9, 1044, 12, 0, 0), (61, .iload 4, 0, 0, 0, 0), (63, .caload, 0, 0, 0, 0), (64, .bipush 46, 0, 0, 0, 0), (66, .if_icmp .ne 9, 0, 75, 0, 0), (69, .iinc 3 1, 0, 0, 0, 0), (72, .goto 5, 0, 77, 0, 0)]
noncomputable def kb_X10_isNumber_75 : List (Nat × bO) := [(75, .iconst 0, 0, 0, 0, 0), (76, .ireturn, 0, 0, 0, 0)]
noncomputable def kb_X10_isNumber_77 : List (Nat × bO) := [(77, .iinc 4 1, 0, 0, 0, 0), (80, .goto (-47), 0, 33, 0, 0)]
noncomputable def kb_X10_isNumber_83 : List (Nat × bO) := [(83, .iload_n 2, 0, 0, 0, 0), (84, .iconst 1, 0, 0, 0, 0), (85, .if_icmp .lt 18, 0, 103, 0, 0), (88, .iload_n 2, 0, 0, 0, 0), (89, .bipush 22, 0, 0, 0, 0), (91, .if_icmp .gt 12, 0, 103, 0, 0), (94, .iload_n 3, 0, 0, 0, 0), (95, .iconst 1, 0, 0, 0, 0), (96, .if_icmp .gt 7, 0, 103, 0, 0), (99, .iconst 1, 0, 0, 0, 0), (100, .goto 4, 0, 104, 0, 0)]
noncomputable def kb_X10_isNumber_103 : List (Nat × bO) := [(103, .iconst 0, 0, 0, 0, 0)]
noncomputable def kb_X10_isNumber_104 : List (Nat × bO) := [(104, .ireturn, 0, 0, 0, 0)]
set_option maxRecDepth 16000 in
theorem kbl_X10_isNumber : tcode 3078 = List.flatten [kb_X10_isNumber_0, kb_X10_isNumber_20, kb_X10_isNumber_24, kb_X10_isNumber_25, kb_X10_isNumber_33, kb_X10_isNumber_57, kb_X10_isNumber_75, kb_X10_isNumber_77, kb_X10_isNumber_83, kb_X10_isNumber_103, kb_X10_isNumber_104] := sorry
theorem kbs_X10_isNumber : ksort (tcode 3078) = true := sorry
theorem tb_X10_isNumber_0 {e : tE} {c : Bool} {d : Nat} {L : tL} {st : List tV} {M : tM} {n : Nat} {Q : tR → tM → Nat → Prop} (h : wB e c 3 d 3078 20 kb_X10_isNumber_0 L st M n Q) : tT e d 3078 0 L st M n Q := sorry
theorem tb_X10_isNumber_20 {e : tE} {c : Bool} {d : Nat} {L : tL} {st : List tV} {M : tM} {n : Nat} {Q : tR → tM → Nat → Prop} (h : wB e c 3 d 3078 24 kb_X10_isNumber_20 L st M n Q) : tT e d 3078 20 L st M n Q := sorry
theorem tb_X10_isNumber_24 {e : tE} {c : Bool} {d : Nat} {L : tL} {st : List tV} {M : tM} {n : Nat} {Q : tR → tM → Nat → Prop} (h : wB e c 3 d 3078 25 kb_X10_isNumber_24 L st M n Q) : tT e d 3078 24 L st M n Q := sorry
theorem tb_X10_isNumber_25 {e : tE} {c : Bool} {d : Nat} {L : tL} {st : List tV} {M : tM} {n : Nat} {Q : tR → tM → Nat → Prop} (h : wB e c 3 d 3078 33 kb_X10_isNumber_25 L st M n Q) : tT e d 3078 25 L st M n Q := sorry
theorem tb_X10_isNumber_33 {e : tE} {c : Bool} {d : Nat} {L : tL} {st : List tV} {M : tM} {n : Nat} {Q : tR → tM → Nat → Prop} (h : wB e c 3 d 3078 57 kb_X10_isNumber_33 L st M n Q) : tT e d 3078 33 L st M n Q := sorry
theorem tb_X10_isNumber_57 {e : tE} {c : Bool} {d : Nat} {L : tL} {st : List tV} {M : tM} {n : Nat} {Q : tR → tM → Nat → Prop} (h : wB e c 3 d 3078 75 kb_X10_isNumber_57 L st M n Q) : tT e d 3078 57 L st M n Q := sorry
theorem tb_X10_isNumber_75 {e : tE} {c : Bool} {d : Nat} {L : tL} {st : List tV} {M : tM} {n : Nat} {Q : tR → tM → Nat → Prop} (h : wB e c 3 d 3078 77 kb_X10_isNumber_75 L st M n Q) : tT e d 3078 75 L st M n Q := sorry
theorem tb_X10_isNumber_77 {e : tE} {c : Bool} {d : Nat} {L : tL} {st : List tV} {M : tM} {n : Nat} {Q : tR → tM → Nat → Prop} (h : wB e c 3 d 3078 83 kb_X10_isNumber_77 L st M n Q) : tT e d 3078 77 L st M n Q := sorry
theorem tb_X10_isNumber_83 {e : tE} {c : Bool} {d : Nat} {L : tL} {st : List tV} {M : tM} {n : Nat} {Q : tR → tM → Nat → Prop} (h : wB e c 3 d 3078 103 kb_X10_isNumber_83 L st M n Q) : tT e d 3078 83 L st M n Q := sorry
theorem tb_X10_isNumber_103 {e : tE} {c : Bool} {d : Nat} {L : tL} {st : List tV} {M : tM} {n : Nat} {Q : tR → tM → Nat → Prop} (h : wB e c 3 d 3078 104 kb_X10_isNumber_103 L st M n Q) : tT e d 3078 103 L st M n Q := sorry
theorem tb_X10_isNumber_104 {e : tE} {c : Bool} {d : Nat} {L : tL} {st : List tV} {M : tM} {n : Nat} {Q : tR → tM → Nat → Prop} (h : wB e c 3 d 3078 105 kb_X10_isNumber_104 L st M n Q) : tT e d 3078 104 L st M n Q := sorry
theorem bmx_X10_isNumber : (bmeth 3078).2.2.1 = 5 := sorry
theorem tst_X10_isNumber {e : tE} {d : Nat} {M : tM} {n : Nat} {Q : tR → tM → Nat → Prop} {r : Nat} (h : tT e d 3078 0 [some (.inr (.inr (.inl r))), none, none, none, none] [] M n Q) : tC e d 3078 [.inr (.inr (.inl r))] M n Q := sorry
noncomputable def kb_X10_write_0 : List (Nat × bO) := [(0, .aload_n 0, 0, 0, 0, 0), (1, .invokevirtual 27, 2233, 3076, 0, 12), (4, .aload_n 1, 0, 0, 0, 0), (5, .getfield 30, 1077, 3, 0, 0), (8, .lstore_n 2, 0, 0, 0, 0), (9, .aload_n 1, 0, 0, 0, 0), (10, .getfield 36, 1082, 3, 1, 0), (13, .lstore 4, 0, 0, 0, 0), (15, .lload_n 2, 0, 0, 0, 0), (16, .lconst 0, 0, 0, 0, 0), (17, .lcmp, 0, 0, 0, 0), (18, .ifCond .ge 45, 0, 63, 0, 0), (21, .aload_n 0, 0, 0, 0, 0), (22, .bipush 45, 0, 0, 0, 0), (24, .invokevirtual 39, 2234, 3074, 1, 12), (27, .lload 4, 0, 0, 0, 0), (29, .lconst 0, 0, 0, 0, 0), (30, .lcmp, 0, 0, 0, 0), (31, .ifCond .ne 8, 0, 39, 0, 0), (34, .lload_n 2, 0, 0, 0, 0), (35, .lneg, 0, 0, 0, 0), (36, .goto 7, 0, 43, 0, 0)]
noncomputable def kb_X10_write_39 : List (Nat × bO) := [(39, .lload_n 2, 0, 0, 0, 0), (40, .lneg, 0, 0, 0, 0), (41, .lconst 1, 0, 0, 0, 0), (42, .lsub, 0, 0, 0, 0)]
noncomputable def kb_X10_write_43 : List (Nat × bO) := [(43, .lstore_n 2, 0, 0, 0, 0), (44, .lload 4, 0, 0, 0, 0), (46, .lconst 0, 0, 0, 0, 0), (47, .lcmp, 0, 0, 0, 0), (48, .ifCond .ne 7, 0, 55, 0, 0), (51, .lconst 0, 0, 0, 0, 0), (52, .goto 9, 0, 61, 0, 0)]
noncomputable def kb_X10_write_55 : List (Nat × bO) := [(55, .ldc2_w 43, 2238, 0, 0, 10000000000), (58, .lload 4, 0, 0, 0, 0), (60, .lsub, 0, 0, 0, 0)]
noncomputable def kb_X10_write_61 : List (Nat × bO) := [(61, .lstore 4, 0, 0, 0, 0)]
noncomputable def kb_X10_write_63 : List (Nat × bO) := [(63, .iconst 1, 0, 0, 0, 0), (64, .istore 6, 0, 0, 0, 0)]
noncomputable def kb_X10_write_66 : List (Nat × bO) := [(66, .iload 6, 0, 0, 0, 0), (68, .bipush 18, 0, 0, 0, 0), (70, .if_icmp .ge 20, 0, 90, 0, 0), (73, .lload_n 2, 0, 0, 0, 0), (74, .getstatic 45, 0, 0, 0, 0), (77, .iload 6, 0, 0, 0, 0), (79, .laload, 0, 0, 0, 0), (80, .lcmp, 0, 0, 0, 0), (81, .ifCond .lt 9, 0, 90, 0, 0), (84, .iinc 6 1, 0, 0, 0, 0), (87, .goto (-21), 0, 66, 0, 0)]
noncomputable def kb_X10_write_90 : List (Nat × bO) := [(90, .iload 6, 0, 0, 0, 0), (92, .iconst 1, 0, 0, 0, 0), (93, .isub, 0, 0, 0, 0), (94, .istore 7, 0, 0, 0, 0)]
noncomputable def kb_X10_write_96 : List (Nat × bO) := [(96, .iload 7, 0, 0, 0, 0), (98, .ifCond .lt 31, 0, 129, 0, 0), (101, .aload_n 0, 0, 0, 0, 0), (102, .ldc2_w 49, 3000, 0, 0, 48), (105, .lload_n 2, 0, 0, 0, 0), (106, .getstatic 45, 0, 0, 0, 0), (109, .iload 7, 0, 0, 0, 0), (111, .laload, 0, 0, 0, 0), (112, .ldiv, 0, 0, 0, 0), (113, .ldc2_w 51, 3001, 0, 0, 10), (116, .lrem, 0, 0, 0, 0), (117, .ladd, 0, 0, 0, 0), (118, .l2i, 0, 0, 0, 0), (119, .i2c, 0, 0, 0, 0), (120, .invokevirtual 39, 2234, 3074, 1, 12), (123, .iinc 7 (-1), 0, 0, 0, 0), (126, .goto (-30), 0, 96, 0, 0)]
noncomputable def kb_X10_write_129 : List (Nat × bO) := [(129, .lload 4, 0, 0, 0, 0), (131, .lconst 0, 0, 0, 0, 0), (132, .lcmp, 0, 0, 0, 0), (133, .ifCond .le 9, 0, 142, 0, 0), (136, .aload_n 0, 0, 0, 0, 0), (137, .bipush 46, 0, 0, 0, 0), (139, .invokevirtual 39, 2234, 3074, 1, 12)]
noncomputable def kb_X10_write_142 : List (Nat × bO) := [(142, .bipush 9, 0, 0, 0, 0), (144, .istore 7, 0, 0, 0, 0)]
noncomputable def kb_X10_write_146 : List (Nat × bO) := [(146, .iload 7, 0, 0, 0, 0), (148, .ifCond .lt 46, 0, 194, 0, 0), (151, .lload 4, 0, 0, 0, 0), (153, .lconst 0, 0, 0, 0, 0), (154, .lcmp, 0, 0, 0, 0), (155, .ifCond .le 39, 0, 194, 0, 0), (158, .aload_n 0, 0, 0, 0, 0), (159, .ldc2_w 49, 3000, 0, 0, 48), (162, .lload 4, 0, 0, 0, 0), (164, .getstatic 45, 0, 0, 0, 0), (167, .iload 7, 0, 0, 0, 0), (169, .laload, 0, 0, 0, 0), (170, .ldiv, 0, 0, 0, 0), (171, .ladd, 0, 0, 0, 0), (172, .l2i, 0, 0, 0, 0), (173, .i2c, 0, 0, 0, 0), (174, .invokevirtual 39, 2234, 3074, 1, 12), (177, .lload 4, 0, 0, 0, 0), (179, .getstatic 45, 0, 0, 0, 0), (182, .iload 7, 0, 0, 0, 0), (184, .laload, 0, 0, 0, 0), (185, .lrem, 0, 0, 0, 0), (186, .lstore 4, 0, 0, 0, 0), (188, .iinc 7 (-1), 0, 0, 0, 0), (191, .goto (-45), 0, 146, 0, 0)]
noncomputable def kb_X10_write_194 : List (Nat × bO) := [(194, .return_, 0, 0, 0, 0)]
set_option maxRecDepth 16000 in
theorem kbl_X10_write : tcode 3079 = List.flatten [kb_X10_write_0, kb_X10_write_39, kb_X10_write_43, kb_X10_write_55, kb_X10_write_61, kb_X10_write_63, kb_X10_write_66, kb_X10_write_90, kb_X10_write_96, kb_X10_write_129, kb_X10_write_142, kb_X10_write_146, kb_X10_write_194] := sorry
theorem kbs_X10_write : ksort (tcode 3079) = true := sorry
theorem tb_X10_write_0 {e : tE} {c : Bool} {d : Nat} {L : tL} {st : List tV} {M : tM} {n : Nat} {Q : tR → tM → Nat → Prop} (h : wB e c 9 d 3079 39 kb_X10_write_0 L st M n Q) : tT e d 3079 0 L st M n Q := sorry
theorem tb_X10_write_39 {e : tE} {c : Bool} {d : Nat} {L : tL} {st : List tV} {M : tM} {n : Nat} {Q : tR → tM → Nat → Prop} (h : wB e c 9 d 3079 43 kb_X10_write_39 L st M n Q) : tT e d 3079 39 L st M n Q := sorry
theorem tb_X10_write_43 {e : tE} {c : Bool} {d : Nat} {L : tL} {st : List tV} {M : tM} {n : Nat} {Q : tR → tM → Nat → Prop} (h : wB e c 9 d 3079 55 kb_X10_write_43 L st M n Q) : tT e d 3079 43 L st M n Q := sorry
theorem tb_X10_write_55 {e : tE} {c : Bool} {d : Nat} {L : tL} {st : List tV} {M : tM} {n : Nat} {Q : tR → tM → Nat → Prop} (h : wB e c 9 d 3079 61 kb_X10_write_55 L st M n Q) : tT e d 3079 55 L st M n Q := sorry
theorem tb_X10_write_61 {e : tE} {c : Bool} {d : Nat} {L : tL} {st : List tV} {M : tM} {n : Nat} {Q : tR → tM → Nat → Prop} (h : wB e c 9 d 3079 63 kb_X10_write_61 L st M n Q) : tT e d 3079 61 L st M n Q := sorry
theorem tb_X10_write_63 {e : tE} {c : Bool} {d : Nat} {L : tL} {st : List tV} {M : tM} {n : Nat} {Q : tR → tM → Nat → Prop} (h : wB e c 9 d 3079 66 kb_X10_write_63 L st M n Q) : tT e d 3079 63 L st M n Q := sorry
theorem tb_X10_write_66 {e : tE} {c : Bool} {d : Nat} {L : tL} {st : List tV} {M : tM} {n : Nat} {Q : tR → tM → Nat → Prop} (h : wB e c 9 d 3079 90 kb_X10_write_66 L st M n Q) : tT e d 3079 66 L st M n Q := sorry
theorem tb_X10_write_90 {e : tE} {c : Bool} {d : Nat} {L : tL} {st : List tV} {M : tM} {n : Nat} {Q : tR → tM → Nat → Prop} (h : wB e c 9 d 3079 96 kb_X10_write_90 L st M n Q) : tT e d 3079 90 L st M n Q := sorry
theorem tb_X10_write_96 {e : tE} {c : Bool} {d : Nat} {L : tL} {st : List tV} {M : tM} {n : Nat} {Q : tR → tM → Nat → Prop} (h : wB e c 9 d 3079 129 kb_X10_write_96 L st M n Q) : tT e d 3079 96 L st M n Q := sorry
theorem tb_X10_write_129 {e : tE} {c : Bool} {d : Nat} {L : tL} {st : List tV} {M : tM} {n : Nat} {Q : tR → tM → Nat → Prop} (h : wB e c 9 d 3079 142 kb_X10_write_129 L st M n Q) : tT e d 3079 129 L st M n Q := sorry
theorem tb_X10_write_142 {e : tE} {c : Bool} {d : Nat} {L : tL} {st : List tV} {M : tM} {n : Nat} {Q : tR → tM → Nat → Prop} (h : wB e c 9 d 3079 146 kb_X10_write_142 L st M n Q) : tT e d 3079 142 L st M n Q := sorry
theorem tb_X10_write_146 {e : tE} {c : Bool} {d : Nat} {L : tL} {st : List tV} {M : tM} {n : Nat} {Q : tR → tM → Nat → Prop} (h : wB e c 9 d 3079 194 kb_X10_write_146 L st M n Q) : tT e d 3079 146 L st M n Q := sorry
theorem tb_X10_write_194 {e : tE} {c : Bool} {d : Nat} {L : tL} {st : List tV} {M : tM} {n : Nat} {Q : tR → tM → Nat → Prop} (h : wB e c 9 d 3079 195 kb_X10_write_194 L st M n Q) : tT e d 3079 194 L st M n Q := sorry
theorem bmx_X10_write : (bmeth 3079).2.2.1 = 8 := sorry
theorem tst_X10_write {e : tE} {d : Nat} {M : tM} {n : Nat} {Q : tR → tM → Nat → Prop} {r : Nat} {x1 : Nat ⊕ Nat} (h : tT e d 3079 0 [some (.inr (.inr (.inl r))), some (.inr (.inr x1)), none, none, none, none, none, none] [] M n Q) : tC e d 3079 [.inr (.inr (.inl r)), .inr (.inr x1)] M n Q := sorry
noncomputable def kb_X11_add_0 : List (Nat × bO) := [(0, .aload_n 0, 0, 0, 0, 0), (1, .iload_n 1, 0, 0, 0, 0), (2, .iload_n 2, 0, 0, 0, 0), (3, .iload_n 3, 0, 0, 0, 0), (4, .bipush 43, 0, 0, 0, 0), (6, .invokevirtual 229, 6092, 3348, 4, 13), (9, .ireturn, 0, 0, 0, 0)]
set_option maxRecDepth 16000 in
theorem kbl_X11_add : tcode 3329 = List.flatten [kb_X11_add_0] := sorry
theorem kbs_X11_add : ksort (tcode 3329) = true := sorry
theorem tb_X11_add_0 {e : tE} {c : Bool} {d : Nat} {L : tL} {st : List tV} {M : tM} {n : Nat} {Q : tR → tM → Nat → Prop} (h : wB e c 3 d 3329 10 kb_X11_add_0 L st M n Q) : tT e d 3329 0 L st M n Q := sorry
theorem bmx_X11_add : (bmeth 3329).2.2.1 = 4 := sorry
theorem tst_X11_add {e : tE} {d : Nat} {M : tM} {n : Nat} {Q : tR → tM → Nat → Prop} {r : Nat} {x1 : Int} {x2 : Int} {x3 : Int} (h : tT e d 3329 0 [some (.inr (.inr (.inl r))), some (.inl x1), some (.inl x2), some (.inl x3)] [] M n Q) : tC e d 3329 [.inr (.inr (.inl r)), .inl x1, .inl x2, .inl x3] M n Q := sorry
noncomputable def kb_X11_apply_0 : List (Nat × bO) := [(0, .aload_n 0, 0, 0, 0, 0), (1, .iload_n 1, 0, 0, 0, 0), (2, .invokevirtual 124, 5116, 3344, 1, 13), (5, .aload_n 0, 0, 0, 0, 0), (6, .iload_n 2, 0, 0, 0, 0), (7, .invokevirtual 124, 5116, 3344, 1, 13), (10, .iload_n 3, 0, 0, 0, 0), (11, .bipush 45, 0, 0, 0, 0), (13, .if_icmp .eq 37, 0, 50, 0, 0), (16, .iload_n 3, 0, 0, 0, 0), (17, .bipush 98, 0, 0, 0, 0), (19, .if_icmp .eq 31, 0, 50, 0, 0), (22, .iload_n 3, 0, 0, 0, 0), (23, .bipush 101, 0, 0, 0, 0), (25, .if_icmp .eq 25, 0, 50, 0, 0), (28, .iload_n 3, 0, 0, 0, 0), (29, .bipush 108, 0, 0, 0, 0), (31, .if_icmp .eq 19, 0, 50, 0, 0), (34, .iload_n 3, 0, 0, 0, 0), (35, .bipush 97, 0, 0, 0, 0), (37, .if_icmp .eq 13, 0, 50, 0, 0), (40, .new 94, 98, 0, 241, 1)]
noncomputable def kb_X11_apply_43 : List (Nat × bO) := [(43, .dup, 0, 0, 0, 0)]
noncomputable def kb_X11_apply_50 : List (Nat × bO) := [(50, .aload_n 0, 0, 0, 0, 0), (51, .iload_n 1, 0, 0, 0, 0), (52, .iload_n 2, 0, 0, 0, 0), (53, .iload_n 3, 0, 0, 0, 0), (54, .bipush 45, 0, 0, 0, 0), (56, .if_icmp .ne 8, 0, 64, 0, 0), (59, .bipush 126, 0, 0, 0, 0), (61, .goto 4, 0, 65, 0, 0)]
noncomputable def kb_X11_apply_64 : List (Nat × bO) := [(64, .iload_n 3, 0, 0, 0, 0)]
noncomputable def kb_X11_apply_65 : List (Nat × bO) := [(65, .iconst 0, 0, 0, 0, 0), (66, .invokevirtual 235, 6130, 3334, 4, 13), (69, .ireturn, 0, 0, 0, 0)]
set_option maxRecDepth 16000 in
theorem kbl_X11_apply : tcode 3330 = List.flatten [kb_X11_apply_0, kb_X11_apply_43, kb_X11_apply_50, kb_X11_apply_64, kb_X11_apply_65] := sorry
theorem kbs_X11_apply : ksort (tcode 3330) = true := sorry
theorem tb_X11_apply_0 {e : tE} {c : Bool} {d : Nat} {L : tL} {st : List tV} {M : tM} {n : Nat} {Q : tR → tM → Nat → Prop} (h : wB e c 3 d 3330 43 kb_X11_apply_0 L st M n Q) : tT e d 3330 0 L st M n Q := sorry
theorem tb_X11_apply_43 {e : tE} {c : Bool} {d : Nat} {L : tL} {st : List tV} {M : tM} {n : Nat} {Q : tR → tM → Nat → Prop} (h : wB e c 3 d 3330 44 kb_X11_apply_43 L st M n Q) : tT e d 3330 43 L st M n Q := sorry
theorem tb_X11_apply_50 {e : tE} {c : Bool} {d : Nat} {L : tL} {st : List tV} {M : tM} {n : Nat} {Q : tR → tM → Nat → Prop} (h : wB e c 3 d 3330 64 kb_X11_apply_50 L st M n Q) : tT e d 3330 50 L st M n Q := sorry
theorem tb_X11_apply_64 {e : tE} {c : Bool} {d : Nat} {L : tL} {st : List tV} {M : tM} {n : Nat} {Q : tR → tM → Nat → Prop} (h : wB e c 3 d 3330 65 kb_X11_apply_64 L st M n Q) : tT e d 3330 64 L st M n Q := sorry
theorem tb_X11_apply_65 {e : tE} {c : Bool} {d : Nat} {L : tL} {st : List tV} {M : tM} {n : Nat} {Q : tR → tM → Nat → Prop} (h : wB e c 3 d 3330 70 kb_X11_apply_65 L st M n Q) : tT e d 3330 65 L st M n Q := sorry
theorem bmx_X11_apply : (bmeth 3330).2.2.1 = 4 := sorry
theorem tst_X11_apply {e : tE} {d : Nat} {M : tM} {n : Nat} {Q : tR → tM → Nat → Prop} {r : Nat} {x1 : Int} {x2 : Int} {x3 : Int} (h : tT e d 3330 0 [some (.inr (.inr (.inl r))), some (.inl x1), some (.inl x2), some (.inl x3)] [] M n Q) : tC e d 3330 [.inr (.inr (.inl r)), .inl x1, .inl x2, .inl x3] M n Q := sorry
noncomputable def kb_X11_area_0 : List (Nat × bO) := [(0, .aload_n 0, 0, 0, 0, 0), (1, .iload_n 1, 0, 0, 0, 0), (2, .iload_n 2, 0, 0, 0, 0), (3, .iload_n 3, 0, 0, 0, 0), (4, .iload 4, 0, 0, 0, 0), (6, .invokevirtual 344, 8023, 3335, 4, 13), (9, .aload_n 0, 0, 0, 0, 0), (10, .aload_n 0, 0, 0, 0, 0), (11, .aload_n 0, 0, 0, 0, 0), (12, .getfield 43, 2149, 13, 5, 0), (15, .iload_n 2, 0, 0, 0, 0), (16, .aaload, 0, 0, 0, 0), (17, .aload_n 0, 0, 0, 0, 0), (18, .getfield 26, 2147, 13, 3, 0), (21, .iload_n 3, 0, 0, 0, 0), (22, .invokevirtual 157, 2225, 2817, 1, 11), (25, .iload 4, 0, 0, 0, 0), (27, .invokevirtual 351, 8049, 3392, 3, 13), (30, .invokevirtual 327, 5138, 3346, 1, 13), (33, .aload_n 0, 0, 0, 0, 0), (34, .iload_n 1, 0, 0, 0, 0), (35, .aload_n 0, 0, 0, 0, 0), (36, .getfield 71, 2155, 13, 11, 0), (39, .invokevirtual 168, 5159, 3357, 2, 13), (42, .ireturn, 0, 0, 0, 0)]
set_option maxRecDepth 16000 in
theorem kbl_X11_area : tcode 3331 = List.flatten [kb_X11_area_0] := sorry
theorem kbs_X11_area : ksort (tcode 3331) = true := sorry
theorem tb_X11_area_0 {e : tE} {c : Bool} {d : Nat} {L : tL} {st : List tV} {M : tM} {n : Nat} {Q : tR → tM → Nat → Prop} (h : wB e c 3 d 3331 43 kb_X11_area_0 L st M n Q) : tT e d 3331 0 L st M n Q := sorry
theorem bmx_X11_area : (bmeth 3331).2.2.1 = 5 := sorry
theorem tst_X11_area {e : tE} {d : Nat} {M : tM} {n : Nat} {Q : tR → tM → Nat → Prop} {r : Nat} {x1 : Int} {x2 : Int} {x3 : Int} {x4 : Int} (h : tT e d 3331 0 [some (.inr (.inr (.inl r))), some (.inl x1), some (.inl x2), some (.inl x3), some (.inl x4)] [] M n Q) : tC e d 3331 [.inr (.inr (.inl r)), .inl x1, .inl x2, .inl x3, .inl x4] M n Q := sorry
noncomputable def kb_X11_become_0 : List (Nat × bO) := [(0, .aload_n 0, 0, 0, 0, 0), (1, .iload_n 2, 0, 0, 0, 0), (2, .invokevirtual 327, 5138, 3346, 1, 13), (5, .aload_n 0, 0, 0, 0, 0), (6, .iload_n 1, 0, 0, 0, 0), (7, .aload_n 0, 0, 0, 0, 0), (8, .getfield 33, 2148, 13, 4, 0), (11, .invokevirtual 330, 4153, 2063, 0, 8), (14, .invokevirtual 168, 5159, 3357, 2, 13), (17, .ireturn, 0, 0, 0, 0)]
set_option maxRecDepth 16000 in
theorem kbl_X11_become : tcode 3332 = List.flatten [kb_X11_become_0] := sorry
theorem kbs_X11_become : ksort (tcode 3332) = true := sorry
theorem tb_X11_become_0 {e : tE} {c : Bool} {d : Nat} {L : tL} {st : List tV} {M : tM} {n : Nat} {Q : tR → tM → Nat → Prop} (h : wB e c 3 d 3332 18 kb_X11_become_0 L st M n Q) : tT e d 3332 0 L st M n Q := sorry
theorem bmx_X11_become : (bmeth 3332).2.2.1 = 3 := sorry
theorem tst_X11_become {e : tE} {d : Nat} {M : tM} {n : Nat} {Q : tR → tM → Nat → Prop} {r : Nat} {x1 : Int} {x2 : Int} (h : tT e d 3332 0 [some (.inr (.inr (.inl r))), some (.inl x1), some (.inl x2)] [] M n Q) : tC e d 3332 [.inr (.inr (.inl r)), .inl x1, .inl x2] M n Q := sorry
noncomputable def kb_X11_canBeZero_0 : List (Nat × bO) := [(0, .aload_n 0, 0, 0, 0, 0), (1, .getfield 33, 2148, 13, 4, 0), (4, .aload_n 1, 0, 0, 0, 0), (5, .invokevirtual 274, 4170, 2058, 1, 8), (8, .ifCond .ne 16, 0, 24, 0, 0), (11, .aload_n 0, 0, 0, 0, 0), (12, .getfield 33, 2148, 13, 4, 0), (15, .invokevirtual 330, 4153, 2063, 0, 8), (18, .invokevirtual 413, 7183, 1030, 0, 4), (21, .ifCond .eq 7, 0, 28, 0, 0)]
noncomputable def kb_X11_canBeZero_24 : List (Nat × bO) := [(24, .iconst 1, 0, 0, 0, 0), (25, .goto 4, 0, 29, 0, 0)]
noncomputable def kb_X11_canBeZero_28 : List (Nat × bO) := [(28, .iconst 0, 0, 0, 0, 0)]
noncomputable def kb_X11_canBeZero_29 : List (Nat × bO) := [(29, .ireturn, 0, 0, 0, 0)]
set_option maxRecDepth 16000 in
theorem kbl_X11_canBeZero : tcode 3333 = List.flatten [kb_X11_canBeZero_0, kb_X11_canBeZero_24, kb_X11_canBeZero_28, kb_X11_canBeZero_29] := sorry
theorem kbs_X11_canBeZero : ksort (tcode 3333) = true := sorry
theorem tb_X11_canBeZero_0 {e : tE} {c : Bool} {d : Nat} {L : tL} {st : List tV} {M : tM} {n : Nat} {Q : tR → tM → Nat → Prop} (h : wB e c 3 d 3333 24 kb_X11_canBeZero_0 L st M n Q) : tT e d 3333 0 L st M n Q := sorry
theorem tb_X11_canBeZero_24 {e : tE} {c : Bool} {d : Nat} {L : tL} {st : List tV} {M : tM} {n : Nat} {Q : tR → tM → Nat → Prop} (h : wB e c 3 d 3333 28 kb_X11_canBeZero_24 L st M n Q) : tT e d 3333 24 L st M n Q := sorry
theorem tb_X11_canBeZero_28 {e : tE} {c : Bool} {d : Nat} {L : tL} {st : List tV} {M : tM} {n : Nat} {Q : tR → tM → Nat → Prop} (h : wB e c 3 d 3333 29 kb_X11_canBeZero_28 L st M n Q) : tT e d 3333 28 L st M n Q := sorry
theorem tb_X11_canBeZero_29 {e : tE} {c : Bool} {d : Nat} {L : tL} {st : List tV} {M : tM} {n : Nat} {Q : tR → tM → Nat → Prop} (h : wB e c 3 d 3333 30 kb_X11_canBeZero_29 L st M n Q) : tT e d 3333 29 L st M n Q := sorry
theorem bmx_X11_canBeZero : (bmeth 3333).2.2.1 = 2 := sorry
theorem tst_X11_canBeZero {e : tE} {d : Nat} {M : tM} {n : Nat} {Q : tR → tM → Nat → Prop} {r : Nat} {x1 : Nat ⊕ Nat} (h : tT e d 3333 0 [some (.inr (.inr (.inl r))), some (.inr (.inr x1))] [] M n Q) : tC e d 3333 [.inr (.inr (.inl r)), .inr (.inr x1)] M n Q := sorry
noncomputable def kb_X11_change_0 : List (Nat × bO) := [(0, .aload_n 0, 0, 0, 0, 0), (1, .iload_n 2, 0, 0, 0, 0), (2, .invokevirtual 154, 5225, 3340, 1, 13), (5, .aload_n 0, 0, 0, 0, 0), (6, .getfield 33, 2148, 13, 4, 0), (9, .invokevirtual 129, 3016, 2053, 0, 8), (12, .aload_n 0, 0, 0, 0, 0), (13, .getfield 33, 2148, 13, 4, 0), (16, .aload_n 0, 0, 0, 0, 0), (17, .getfield 26, 2147, 13, 3, 0), (20, .iload_n 2, 0, 0, 0, 0), (21, .invokevirtual 157, 2225, 2817, 1, 11), (24, .invokevirtual 410, 6096, 2061, 1, 8), (27, .aload_n 0, 0, 0, 0, 0), (28, .iload_n 1, 0, 0, 0, 0), (29, .aload_n 0, 0, 0, 0, 0), (30, .getfield 33, 2148, 13, 4, 0), (33, .iload_n 3, 0, 0, 0, 0), (34, .lconst 0, 0, 0, 0, 0), (35, .iload 4, 0, 0, 0, 0), (37, .invokevirtual 130, 3020, 2055, 3, 8), (40, .invokevirtual 134, 5134, 3332, 2, 13), (43, .ireturn, 0, 0, 0, 0)]
set_option maxRecDepth 16000 in
theorem kbl_X11_change : tcode 3334 = List.flatten [kb_X11_change_0] := sorry
theorem kbs_X11_change : ksort (tcode 3334) = true := sorry
theorem tb_X11_change_0 {e : tE} {c : Bool} {d : Nat} {L : tL} {st : List tV} {M : tM} {n : Nat} {Q : tR → tM → Nat → Prop} (h : wB e c 3 d 3334 44 kb_X11_change_0 L st M n Q) : tT e d 3334 0 L st M n Q := sorry
theorem bmx_X11_change : (bmeth 3334).2.2.1 = 5 := sorry
theorem tst_X11_change {e : tE} {d : Nat} {M : tM} {n : Nat} {Q : tR → tM → Nat → Prop} {r : Nat} {x1 : Int} {x2 : Int} {x3 : Int} {x4 : Int} (h : tT e d 3334 0 [some (.inr (.inr (.inl r))), some (.inl x1), some (.inl x2), some (.inl x3), some (.inl x4)] [] M n Q) : tC e d 3334 [.inr (.inr (.inl r)), .inl x1, .inl x2, .inl x3, .inl x4] M n Q := sorry
noncomputable def kb_X11_checkBoundsCall_0 : List (Nat × bO) := [(0, .aload_n 0, 0, 0, 0, 0), (1, .iload_n 1, 0, 0, 0, 0), (2, .invokevirtual 124, 5116, 3344, 1, 13), (5, .aload_n 0, 0, 0, 0, 0), (6, .iload_n 3, 0, 0, 0, 0), (7, .invokevirtual 124, 5116, 3344, 1, 13), (10, .aload_n 0, 0, 0, 0, 0), (11, .iload_n 2, 0, 0, 0, 0), (12, .invokevirtual 252, 6169, 3338, 1, 13), (15, .aload_n 0, 0, 0, 0, 0), (16, .iload 4, 0, 0, 0, 0), (18, .iconst 3, 0, 0, 0, 0), (19, .invokevirtual 285, 7141, 3336, 2, 13), (22, .aload_n 0, 0, 0, 0, 0), (23, .iload_n 2, 0, 0, 0, 0), (24, .invokevirtual 259, 7008, 3337, 1, 13), (27, .aload_n 0, 0, 0, 0, 0), (28, .iload_n 3, 0, 0, 0, 0), (29, .invokevirtual 154, 5225, 3340, 1, 13), (32, .aload_n 0, 0, 0, 0, 0), (33, .iload_n 2, 0, 0, 0, 0), (34, .invokevirtual 288, 7146, 3341, 1, 13), (37, .return_, 0, 0, 0, 0)]
set_option maxRecDepth 16000 in
theorem kbl_X11_checkBoundsCall : tcode 3335 = List.flatten [kb_X11_checkBoundsCall_0] := sorry
theorem kbs_X11_checkBoundsCall : ksort (tcode 3335) = true := sorry
theorem tb_X11_checkBoundsCall_0 {e : tE} {c : Bool} {d : Nat} {L : tL} {st : List tV} {M : tM} {n : Nat} {Q : tR → tM → Nat → Prop} (h : wB e c 9 d 3335 38 kb_X11_checkBoundsCall_0 L st M n Q) : tT e d 3335 0 L st M n Q := sorry
theorem bmx_X11_checkBoundsCall : (bmeth 3335).2.2.1 = 5 := sorry
theorem tst_X11_checkBoundsCall {e : tE} {d : Nat} {M : tM} {n : Nat} {Q : tR → tM → Nat → Prop} {r : Nat} {x1 : Int} {x2 : Int} {x3 : Int} {x4 : Int} (h : tT e d 3335 0 [some (.inr (.inr (.inl r))), some (.inl x1), some (.inl x2), some (.inl x3), some (.inl x4)] [] M n Q) : tC e d 3335 [.inr (.inr (.inl r)), .inl x1, .inl x2, .inl x3, .inl x4] M n Q := sorry
noncomputable def kb_X11_checkCuts_0 : List (Nat × bO) := [(0, .iload_n 1, 0, 0, 0, 0), (1, .ifCond .lt 8, 0, 9, 0, 0), (4, .iload_n 1, 0, 0, 0, 0), (5, .iload_n 2, 0, 0, 0, 0), (6, .if_icmp .le 14, 0, 20, 0, 0)]
noncomputable def kb_X11_checkCuts_9 : List (Nat × bO) := [(9, .new 94, 98, 0, 396, 1)]
noncomputable def kb_X11_checkCuts_12 : List (Nat × bO) := [(12, .dup, 0, 0, 0, 0)]
noncomputable def kb_X11_checkCuts_20 : List (Nat × bO) := [(20, .return_, 0, 0, 0, 0)]
set_option maxRecDepth 16000 in
theorem kbl_X11_checkCuts : tcode 3336 = List.flatten [kb_X11_checkCuts_0, kb_X11_checkCuts_9, kb_X11_checkCuts_12, kb_X11_checkCuts_20] := sorry
theorem kbs_X11_checkCuts : ksort (tcode 3336) = true := sorry
theorem tb_X11_checkCuts_0 {e : tE} {c : Bool} {d : Nat} {L : tL} {st : List tV} {M : tM} {n : Nat} {Q : tR → tM → Nat → Prop} (h : wB e c 9 d 3336 9 kb_X11_checkCuts_0 L st M n Q) : tT e d 3336 0 L st M n Q := sorry
theorem tb_X11_checkCuts_9 {e : tE} {c : Bool} {d : Nat} {L : tL} {st : List tV} {M : tM} {n : Nat} {Q : tR → tM → Nat → Prop} (h : wB e c 9 d 3336 12 kb_X11_checkCuts_9 L st M n Q) : tT e d 3336 9 L st M n Q := sorry
theorem tb_X11_checkCuts_12 {e : tE} {c : Bool} {d : Nat} {L : tL} {st : List tV} {M : tM} {n : Nat} {Q : tR → tM → Nat → Prop} (h : wB e c 9 d 3336 13 kb_X11_checkCuts_12 L st M n Q) : tT e d 3336 12 L st M n Q := sorry
theorem tb_X11_checkCuts_20 {e : tE} {c : Bool} {d : Nat} {L : tL} {st : List tV} {M : tM} {n : Nat} {Q : tR → tM → Nat → Prop} (h : wB e c 9 d 3336 21 kb_X11_checkCuts_20 L st M n Q) : tT e d 3336 20 L st M n Q := sorry
theorem bmx_X11_checkCuts : (bmeth 3336).2.2.1 = 3 := sorry
theorem tst_X11_checkCuts {e : tE} {d : Nat} {M : tM} {n : Nat} {Q : tR → tM → Nat → Prop} {r : Nat} {x1 : Int} {x2 : Int} (h : tT e d 3336 0 [some (.inr (.inr (.inl r))), some (.inl x1), some (.inl x2)] [] M n Q) : tC e d 3336 [.inr (.inr (.inl r)), .inl x1, .inl x2] M n Q := sorry
noncomputable def kb_X11_checkDefined_0 : List (Nat × bO) := [(0, .aload_n 0, 0, 0, 0, 0), (1, .getfield 43, 2149, 13, 5, 0), (4, .iload_n 1, 0, 0, 0, 0), (5, .aaload, 0, 0, 0, 0), (6, .getfield 376, 2087, 7, 6, 0), (9, .ifCond .ne 14, 0, 23, 0, 0), (12, .new 176, 180, 3, 389, 1)]
noncomputable def kb_X11_checkDefined_15 : List (Nat × bO) := [(15, .dup, 0, 0, 0, 0)]
noncomputable def kb_X11_checkDefined_23 : List (Nat × bO) := [(23, .return_, 0, 0, 0, 0)]
set_option maxRecDepth 16000 in
theorem kbl_X11_checkDefined : tcode 3337 = List.flatten [kb_X11_checkDefined_0, kb_X11_checkDefined_15, kb_X11_checkDefined_23] := sorry
theorem kbs_X11_checkDefined : ksort (tcode 3337) = true := sorry
theorem tb_X11_checkDefined_0 {e : tE} {c : Bool} {d : Nat} {L : tL} {st : List tV} {M : tM} {n : Nat} {Q : tR → tM → Nat → Prop} (h : wB e c 9 d 3337 15 kb_X11_checkDefined_0 L st M n Q) : tT e d 3337 0 L st M n Q := sorry
theorem tb_X11_checkDefined_15 {e : tE} {c : Bool} {d : Nat} {L : tL} {st : List tV} {M : tM} {n : Nat} {Q : tR → tM → Nat → Prop} (h : wB e c 9 d 3337 16 kb_X11_checkDefined_15 L st M n Q) : tT e d 3337 15 L st M n Q := sorry
theorem tb_X11_checkDefined_23 {e : tE} {c : Bool} {d : Nat} {L : tL} {st : List tV} {M : tM} {n : Nat} {Q : tR → tM → Nat → Prop} (h : wB e c 9 d 3337 24 kb_X11_checkDefined_23 L st M n Q) : tT e d 3337 23 L st M n Q := sorry
theorem bmx_X11_checkDefined : (bmeth 3337).2.2.1 = 2 := sorry
theorem tst_X11_checkDefined {e : tE} {d : Nat} {M : tM} {n : Nat} {Q : tR → tM → Nat → Prop} {r : Nat} {x1 : Int} (h : tT e d 3337 0 [some (.inr (.inr (.inl r))), some (.inl x1)] [] M n Q) : tC e d 3337 [.inr (.inr (.inl r)), .inl x1] M n Q := sorry
noncomputable def kb_X11_checkFormula_0 : List (Nat × bO) := [(0, .iload_n 1, 0, 0, 0, 0), (1, .ifCond .lt 8, 0, 9, 0, 0), (4, .iload_n 1, 0, 0, 0, 0), (5, .iconst 4, 0, 0, 0, 0), (6, .if_icmp .lt 14, 0, 20, 0, 0)]
noncomputable def kb_X11_checkFormula_9 : List (Nat × bO) := [(9, .new 243, 247, 2, 387, 1)]
noncomputable def kb_X11_checkFormula_12 : List (Nat × bO) := [(12, .dup, 0, 0, 0, 0)]
noncomputable def kb_X11_checkFormula_20 : List (Nat × bO) := [(20, .return_, 0, 0, 0, 0)]
set_option maxRecDepth 16000 in
theorem kbl_X11_checkFormula : tcode 3338 = List.flatten [kb_X11_checkFormula_0, kb_X11_checkFormula_9, kb_X11_checkFormula_12, kb_X11_checkFormula_20] := sorry
theorem kbs_X11_checkFormula : ksort (tcode 3338) = true := sorry
theorem tb_X11_checkFormula_0 {e : tE} {c : Bool} {d : Nat} {L : tL} {st : List tV} {M : tM} {n : Nat} {Q : tR → tM → Nat → Prop} (h : wB e c 9 d 3338 9 kb_X11_checkFormula_0 L st M n Q) : tT e d 3338 0 L st M n Q := sorry
theorem tb_X11_checkFormula_9 {e : tE} {c : Bool} {d : Nat} {L : tL} {st : List tV} {M : tM} {n : Nat} {Q : tR → tM → Nat → Prop} (h : wB e c 9 d 3338 12 kb_X11_checkFormula_9 L st M n Q) : tT e d 3338 9 L st M n Q := sorry
theorem tb_X11_checkFormula_12 {e : tE} {c : Bool} {d : Nat} {L : tL} {st : List tV} {M : tM} {n : Nat} {Q : tR → tM → Nat → Prop} (h : wB e c 9 d 3338 13 kb_X11_checkFormula_12 L st M n Q) : tT e d 3338 12 L st M n Q := sorry
theorem tb_X11_checkFormula_20 {e : tE} {c : Bool} {d : Nat} {L : tL} {st : List tV} {M : tM} {n : Nat} {Q : tR → tM → Nat → Prop} (h : wB e c 9 d 3338 21 kb_X11_checkFormula_20 L st M n Q) : tT e d 3338 20 L st M n Q := sorry
theorem bmx_X11_checkFormula : (bmeth 3338).2.2.1 = 2 := sorry
theorem tst_X11_checkFormula {e : tE} {d : Nat} {M : tM} {n : Nat} {Q : tR → tM → Nat → Prop} {r : Nat} {x1 : Int} (h : tT e d 3338 0 [some (.inr (.inr (.inl r))), some (.inl x1)] [] M n Q) : tC e d 3338 [.inr (.inr (.inl r)), .inl x1] M n Q := sorry
noncomputable def kb_X11_checkFormulaCall_0 : List (Nat × bO) := [(0, .aload_n 0, 0, 0, 0, 0), (1, .iload_n 1, 0, 0, 0, 0), (2, .iload_n 3, 0, 0, 0, 0), (3, .iload 4, 0, 0, 0, 0), (5, .invokevirtual 150, 5221, 3345, 3, 13), (8, .aload_n 0, 0, 0, 0, 0), (9, .iload_n 2, 0, 0, 0, 0), (10, .invokevirtual 252, 6169, 3338, 1, 13), (13, .aload_n 0, 0, 0, 0, 0), (14, .iload_n 2, 0, 0, 0, 0), (15, .invokevirtual 259, 7008, 3337, 1, 13), (18, .aload_n 0, 0, 0, 0, 0), (19, .iload_n 3, 0, 0, 0, 0), (20, .invokevirtual 154, 5225, 3340, 1, 13), (23, .aload_n 0, 0, 0, 0, 0), (24, .iload 4, 0, 0, 0, 0), (26, .invokevirtual 154, 5225, 3340, 1, 13), (29, .return_, 0, 0, 0, 0)]
set_option maxRecDepth 16000 in
theorem kbl_X11_checkFormulaCall : tcode 3339 = List.flatten [kb_X11_checkFormulaCall_0] := sorry
theorem kbs_X11_checkFormulaCall : ksort (tcode 3339) = true := sorry
theorem tb_X11_checkFormulaCall_0 {e : tE} {c : Bool} {d : Nat} {L : tL} {st : List tV} {M : tM} {n : Nat} {Q : tR → tM → Nat → Prop} (h : wB e c 9 d 3339 30 kb_X11_checkFormulaCall_0 L st M n Q) : tT e d 3339 0 L st M n Q := sorry
theorem bmx_X11_checkFormulaCall : (bmeth 3339).2.2.1 = 5 := sorry
theorem tst_X11_checkFormulaCall {e : tE} {d : Nat} {M : tM} {n : Nat} {Q : tR → tM → Nat → Prop} {r : Nat} {x1 : Int} {x2 : Int} {x3 : Int} {x4 : Int} (h : tT e d 3339 0 [some (.inr (.inr (.inl r))), some (.inl x1), some (.inl x2), some (.inl x3), some (.inl x4)] [] M n Q) : tC e d 3339 [.inr (.inr (.inl r)), .inl x1, .inl x2, .inl x3, .inl x4] M n Q := sorry
noncomputable def kb_X11_checkHeld_0 : List (Nat × bO) := [(0, .aload_n 0, 0, 0, 0, 0), (1, .getfield 26, 2147, 13, 3, 0), (4, .iload_n 1, 0, 0, 0, 0), (5, .invokevirtual 360, 2212, 2819, 1, 11), (8, .ifCond .ne 14, 0, 22, 0, 0), (11, .new 176, 180, 3, 385, 1)]
noncomputable def kb_X11_checkHeld_14 : List (Nat × bO) := [(14, .dup, 0, 0, 0, 0)]
noncomputable def kb_X11_checkHeld_22 : List (Nat × bO) := [(22, .return_, 0, 0, 0, 0)]
set_option maxRecDepth 16000 in
theorem kbl_X11_checkHeld : tcode 3340 = List.flatten [kb_X11_checkHeld_0, kb_X11_checkHeld_14, kb_X11_checkHeld_22] := sorry
theorem kbs_X11_checkHeld : ksort (tcode 3340) = true := sorry
theorem tb_X11_checkHeld_0 {e : tE} {c : Bool} {d : Nat} {L : tL} {st : List tV} {M : tM} {n : Nat} {Q : tR → tM → Nat → Prop} (h : wB e c 9 d 3340 14 kb_X11_checkHeld_0 L st M n Q) : tT e d 3340 0 L st M n Q := sorry
theorem tb_X11_checkHeld_14 {e : tE} {c : Bool} {d : Nat} {L : tL} {st : List tV} {M : tM} {n : Nat} {Q : tR → tM → Nat → Prop} (h : wB e c 9 d 3340 15 kb_X11_checkHeld_14 L st M n Q) : tT e d 3340 14 L st M n Q := sorry
theorem tb_X11_checkHeld_22 {e : tE} {c : Bool} {d : Nat} {L : tL} {st : List tV} {M : tM} {n : Nat} {Q : tR → tM → Nat → Prop} (h : wB e c 9 d 3340 23 kb_X11_checkHeld_22 L st M n Q) : tT e d 3340 22 L st M n Q := sorry
theorem bmx_X11_checkHeld : (bmeth 3340).2.2.1 = 2 := sorry
theorem tst_X11_checkHeld {e : tE} {d : Nat} {M : tM} {n : Nat} {Q : tR → tM → Nat → Prop} {r : Nat} {x1 : Int} (h : tT e d 3340 0 [some (.inr (.inr (.inl r))), some (.inl x1)] [] M n Q) : tC e d 3340 [.inr (.inr (.inl r)), .inl x1] M n Q := sorry
noncomputable def kb_X11_checkNoY_0 : List (Nat × bO) := [(0, .aload_n 0, 0, 0, 0, 0), (1, .getfield 43, 2149, 13, 5, 0), (4, .iload_n 1, 0, 0, 0, 0), (5, .aaload, 0, 0, 0, 0), (6, .getfield 262, 2085, 7, 5, 0), (9, .ifCond .eq 14, 0, 23, 0, 0), (12, .new 391, 395, 5, 393, 1)]
noncomputable def kb_X11_checkNoY_15 : List (Nat × bO) := [(15, .dup, 0, 0, 0, 0)]
noncomputable def kb_X11_checkNoY_23 : List (Nat × bO) := [(23, .return_, 0, 0, 0, 0)]
set_option maxRecDepth 16000 in
theorem kbl_X11_checkNoY : tcode 3341 = List.flatten [kb_X11_checkNoY_0, kb_X11_checkNoY_15, kb_X11_checkNoY_23] := sorry
theorem kbs_X11_checkNoY : ksort (tcode 3341) = true := sorry
theorem tb_X11_checkNoY_0 {e : tE} {c : Bool} {d : Nat} {L : tL} {st : List tV} {M : tM} {n : Nat} {Q : tR → tM → Nat → Prop} (h : wB e c 9 d 3341 15 kb_X11_checkNoY_0 L st M n Q) : tT e d 3341 0 L st M n Q := sorry
theorem tb_X11_checkNoY_15 {e : tE} {c : Bool} {d : Nat} {L : tL} {st : List tV} {M : tM} {n : Nat} {Q : tR → tM → Nat → Prop} (h : wB e c 9 d 3341 16 kb_X11_checkNoY_15 L st M n Q) : tT e d 3341 15 L st M n Q := sorry
theorem tb_X11_checkNoY_23 {e : tE} {c : Bool} {d : Nat} {L : tL} {st : List tV} {M : tM} {n : Nat} {Q : tR → tM → Nat → Prop} (h : wB e c 9 d 3341 24 kb_X11_checkNoY_23 L st M n Q) : tT e d 3341 23 L st M n Q := sorry
theorem bmx_X11_checkNoY : (bmeth 3341).2.2.1 = 2 := sorry
theorem tst_X11_checkNoY {e : tE} {d : Nat} {M : tM} {n : Nat} {Q : tR → tM → Nat → Prop} {r : Nat} {x1 : Int} (h : tT e d 3341 0 [some (.inr (.inr (.inl r))), some (.inl x1)] [] M n Q) : tC e d 3341 [.inr (.inr (.inl r)), .inl x1] M n Q := sorry
noncomputable def kb_X11_checkPair_0 : List (Nat × bO) := [(0, .aload_n 0, 0, 0, 0, 0), (1, .iload_n 1, 0, 0, 0, 0), (2, .invokevirtual 124, 5116, 3344, 1, 13), (5, .aload_n 0, 0, 0, 0, 0), (6, .iload_n 2, 0, 0, 0, 0), (7, .invokevirtual 124, 5116, 3344, 1, 13), (10, .aload_n 0, 0, 0, 0, 0), (11, .iload_n 1, 0, 0, 0, 0), (12, .invokevirtual 154, 5225, 3340, 1, 13), (15, .aload_n 0, 0, 0, 0, 0), (16, .iload_n 2, 0, 0, 0, 0), (17, .invokevirtual 154, 5225, 3340, 1, 13), (20, .return_, 0, 0, 0, 0)]
set_option maxRecDepth 16000 in
theorem kbl_X11_checkPair : tcode 3342 = List.flatten [kb_X11_checkPair_0] := sorry
theorem kbs_X11_checkPair : ksort (tcode 3342) = true := sorry
theorem tb_X11_checkPair_0 {e : tE} {c : Bool} {d : Nat} {L : tL} {st : List tV} {M : tM} {n : Nat} {Q : tR → tM → Nat → Prop} (h : wB e c 9 d 3342 21 kb_X11_checkPair_0 L st M n Q) : tT e d 3342 0 L st M n Q := sorry
theorem bmx_X11_checkPair : (bmeth 3342).2.2.1 = 3 := sorry
theorem tst_X11_checkPair {e : tE} {d : Nat} {M : tM} {n : Nat} {Q : tR → tM → Nat → Prop} {r : Nat} {x1 : Int} {x2 : Int} (h : tT e d 3342 0 [some (.inr (.inr (.inl r))), some (.inl x1), some (.inl x2)] [] M n Q) : tC e d 3342 [.inr (.inr (.inl r)), .inl x1, .inl x2] M n Q := sorry
noncomputable def kb_X11_checkPiece_0 : List (Nat × bO) := [(0, .iload_n 1, 0, 0, 0, 0), (1, .ifCond .lt 14, 0, 15, 0, 0), (4, .iload_n 1, 0, 0, 0, 0), (5, .aload_n 0, 0, 0, 0, 0), (6, .getfield 55, 2151, 13, 7, 0), (9, .getfield 295, 2130, 9, 3, 0), (12, .if_icmp .lt 14, 0, 26, 0, 0)]
noncomputable def kb_X11_checkPiece_15 : List (Nat × bO) := [(15, .new 176, 180, 3, 398, 1)]
noncomputable def kb_X11_checkPiece_18 : List (Nat × bO) := [(18, .dup, 0, 0, 0, 0)]
noncomputable def kb_X11_checkPiece_26 : List (Nat × bO) := [(26, .return_, 0, 0, 0, 0)]
set_option maxRecDepth 16000 in
theorem kbl_X11_checkPiece : tcode 3343 = List.flatten [kb_X11_checkPiece_0, kb_X11_checkPiece_15, kb_X11_checkPiece_18, kb_X11_checkPiece_26] := sorry
theorem kbs_X11_checkPiece : ksort (tcode 3343) = true := sorry
theorem tb_X11_checkPiece_0 {e : tE} {c : Bool} {d : Nat} {L : tL} {st : List tV} {M : tM} {n : Nat} {Q : tR → tM → Nat → Prop} (h : wB e c 9 d 3343 15 kb_X11_checkPiece_0 L st M n Q) : tT e d 3343 0 L st M n Q := sorry
theorem tb_X11_checkPiece_15 {e : tE} {c : Bool} {d : Nat} {L : tL} {st : List tV} {M : tM} {n : Nat} {Q : tR → tM → Nat → Prop} (h : wB e c 9 d 3343 18 kb_X11_checkPiece_15 L st M n Q) : tT e d 3343 15 L st M n Q := sorry
theorem tb_X11_checkPiece_18 {e : tE} {c : Bool} {d : Nat} {L : tL} {st : List tV} {M : tM} {n : Nat} {Q : tR → tM → Nat → Prop} (h : wB e c 9 d 3343 19 kb_X11_checkPiece_18 L st M n Q) : tT e d 3343 18 L st M n Q := sorry
theorem tb_X11_checkPiece_26 {e : tE} {c : Bool} {d : Nat} {L : tL} {st : List tV} {M : tM} {n : Nat} {Q : tR → tM → Nat → Prop} (h : wB e c 9 d 3343 27 kb_X11_checkPiece_26 L st M n Q) : tT e d 3343 26 L st M n Q := sorry
theorem bmx_X11_checkPiece : (bmeth 3343).2.2.1 = 2 := sorry
theorem tst_X11_checkPiece {e : tE} {d : Nat} {M : tM} {n : Nat} {Q : tR → tM → Nat → Prop} {r : Nat} {x1 : Int} (h : tT e d 3343 0 [some (.inr (.inr (.inl r))), some (.inl x1)] [] M n Q) : tC e d 3343 [.inr (.inr (.inl r)), .inl x1] M n Q := sorry
noncomputable def kb_X11_checkShelf_0 : List (Nat × bO) := [(0, .iload_n 1, 0, 0, 0, 0), (1, .ifCond .lt 9, 0, 10, 0, 0), (4, .iload_n 1, 0, 0, 0, 0), (5, .bipush 10, 0, 0, 0, 0), (7, .if_icmp .lt 14, 0, 21, 0, 0)]
noncomputable def kb_X11_checkShelf_10 : List (Nat × bO) := [(10, .new 243, 247, 2, 383, 1)]
noncomputable def kb_X11_checkShelf_13 : List (Nat × bO) := [(13, .dup, 0, 0, 0, 0)]
noncomputable def kb_X11_checkShelf_21 : List (Nat × bO) := [(21, .return_, 0, 0, 0, 0)]
set_option maxRecDepth 16000 in
theorem kbl_X11_checkShelf : tcode 3344 = List.flatten [kb_X11_checkShelf_0, kb_X11_checkShelf_10, kb_X11_checkShelf_13, kb_X11_checkShelf_21] := sorry
theorem kbs_X11_checkShelf : ksort (tcode 3344) = true := sorry
theorem tb_X11_checkShelf_0 {e : tE} {c : Bool} {d : Nat} {L : tL} {st : List tV} {M : tM} {n : Nat} {Q : tR → tM → Nat → Prop} (h : wB e c 9 d 3344 10 kb_X11_checkShelf_0 L st M n Q) : tT e d 3344 0 L st M n Q := sorry
theorem tb_X11_checkShelf_10 {e : tE} {c : Bool} {d : Nat} {L : tL} {st : List tV} {M : tM} {n : Nat} {Q : tR → tM → Nat → Prop} (h : wB e c 9 d 3344 13 kb_X11_checkShelf_10 L st M n Q) : tT e d 3344 10 L st M n Q := sorry
theorem tb_X11_checkShelf_13 {e : tE} {c : Bool} {d : Nat} {L : tL} {st : List tV} {M : tM} {n : Nat} {Q : tR → tM → Nat → Prop} (h : wB e c 9 d 3344 14 kb_X11_checkShelf_13 L st M n Q) : tT e d 3344 13 L st M n Q := sorry
theorem tb_X11_checkShelf_21 {e : tE} {c : Bool} {d : Nat} {L : tL} {st : List tV} {M : tM} {n : Nat} {Q : tR → tM → Nat → Prop} (h : wB e c 9 d 3344 22 kb_X11_checkShelf_21 L st M n Q) : tT e d 3344 21 L st M n Q := sorry
theorem bmx_X11_checkShelf : (bmeth 3344).2.2.1 = 2 := sorry
theorem tst_X11_checkShelf {e : tE} {d : Nat} {M : tM} {n : Nat} {Q : tR → tM → Nat → Prop} {r : Nat} {x1 : Int} (h : tT e d 3344 0 [some (.inr (.inr (.inl r))), some (.inl x1)] [] M n Q) : tC e d 3344 [.inr (.inr (.inl r)), .inl x1] M n Q := sorry
noncomputable def kb_X11_checkShelves_0 : List (Nat × bO) := [(0, .aload_n 0, 0, 0, 0, 0), (1, .iload_n 1, 0, 0, 0, 0), (2, .invokevirtual 124, 5116, 3344, 1, 13), (5, .aload_n 0, 0, 0, 0, 0), (6, .iload_n 2, 0, 0, 0, 0), (7, .invokevirtual 124, 5116, 3344, 1, 13), (10, .aload_n 0, 0, 0, 0, 0), (11, .iload_n 3, 0, 0, 0, 0), (12, .invokevirtual 124, 5116, 3344, 1, 13), (15, .return_, 0, 0, 0, 0)]
set_option maxRecDepth 16000 in
theorem kbl_X11_checkShelves : tcode 3345 = List.flatten [kb_X11_checkShelves_0] := sorry
theorem kbs_X11_checkShelves : ksort (tcode 3345) = true := sorry
theorem tb_X11_checkShelves_0 {e : tE} {c : Bool} {d : Nat} {L : tL} {st : List tV} {M : tM} {n : Nat} {Q : tR → tM → Nat → Prop} (h : wB e c 9 d 3345 16 kb_X11_checkShelves_0 L st M n Q) : tT e d 3345 0 L st M n Q := sorry
theorem bmx_X11_checkShelves : (bmeth 3345).2.2.1 = 4 := sorry
theorem tst_X11_checkShelves {e : tE} {d : Nat} {M : tM} {n : Nat} {Q : tR → tM → Nat → Prop} {r : Nat} {x1 : Int} {x2 : Int} {x3 : Int} (h : tT e d 3345 0 [some (.inr (.inr (.inl r))), some (.inl x1), some (.inl x2), some (.inl x3)] [] M n Q) : tC e d 3345 [.inr (.inr (.inl r)), .inl x1, .inl x2, .inl x3] M n Q := sorry
noncomputable def kb_X11_checkStatus_0 : List (Nat × bO) := [(0, .iload_n 1, 0, 0, 0, 0), (1, .iconst 1, 0, 0, 0, 0), (2, .if_icmp .ne 14, 0, 16, 0, 0), (5, .new 400, 404, 4, 402, 1)]
noncomputable def kb_X11_checkStatus_8 : List (Nat × bO) := [(8, .dup, 0, 0, 0, 0)]
noncomputable def kb_X11_checkStatus_16 : List (Nat × bO) := [(16, .iload_n 1, 0, 0, 0, 0), (17, .ifCond .eq 14, 0, 31, 0, 0), (20, .new 106, 110, 1, 405, 1)]
noncomputable def kb_X11_checkStatus_23 : List (Nat × bO) := [(23, .dup, 0, 0, 0, 0)]
noncomputable def kb_X11_checkStatus_31 : List (Nat × bO) := [(31, .return_, 0, 0, 0, 0)]
set_option maxRecDepth 16000 in
theorem kbl_X11_checkStatus : tcode 3346 = List.flatten [kb_X11_checkStatus_0, kb_X11_checkStatus_8, kb_X11_checkStatus_16, kb_X11_checkStatus_23, kb_X11_checkStatus_31] := sorry
theorem kbs_X11_checkStatus : ksort (tcode 3346) = true := sorry
theorem tb_X11_checkStatus_0 {e : tE} {c : Bool} {d : Nat} {L : tL} {st : List tV} {M : tM} {n : Nat} {Q : tR → tM → Nat → Prop} (h : wB e c 9 d 3346 8 kb_X11_checkStatus_0 L st M n Q) : tT e d 3346 0 L st M n Q := sorry
theorem tb_X11_checkStatus_8 {e : tE} {c : Bool} {d : Nat} {L : tL} {st : List tV} {M : tM} {n : Nat} {Q : tR → tM → Nat → Prop} (h : wB e c 9 d 3346 9 kb_X11_checkStatus_8 L st M n Q) : tT e d 3346 8 L st M n Q := sorry
theorem tb_X11_checkStatus_16 {e : tE} {c : Bool} {d : Nat} {L : tL} {st : List tV} {M : tM} {n : Nat} {Q : tR → tM → Nat → Prop} (h : wB e c 9 d 3346 23 kb_X11_checkStatus_16 L st M n Q) : tT e d 3346 16 L st M n Q := sorry
theorem tb_X11_checkStatus_23 {e : tE} {c : Bool} {d : Nat} {L : tL} {st : List tV} {M : tM} {n : Nat} {Q : tR → tM → Nat → Prop} (h : wB e c 9 d 3346 24 kb_X11_checkStatus_23 L st M n Q) : tT e d 3346 23 L st M n Q := sorry
theorem tb_X11_checkStatus_31 {e : tE} {c : Bool} {d : Nat} {L : tL} {st : List tV} {M : tM} {n : Nat} {Q : tR → tM → Nat → Prop} (h : wB e c 9 d 3346 32 kb_X11_checkStatus_31 L st M n Q) : tT e d 3346 31 L st M n Q := sorry
theorem bmx_X11_checkStatus : (bmeth 3346).2.2.1 = 2 := sorry
theorem tst_X11_checkStatus {e : tE} {d : Nat} {M : tM} {n : Nat} {Q : tR → tM → Nat → Prop} {r : Nat} {x1 : Int} (h : tT e d 3346 0 [some (.inr (.inr (.inl r))), some (.inl x1)] [] M n Q) : tC e d 3346 [.inr (.inr (.inl r)), .inl x1] M n Q := sorry
noncomputable def kb_X11_checksum_0 : List (Nat × bO) := [(0, .ldc2_w 364, 2224, 0, 0, 217), (3, .aload_n 0, 0, 0, 0, 0), (4, .getfield 9, 2144, 13, 0, 0), (7, .i2l, 0, 0, 0, 0), (8, .ladd, 0, 0, 0, 0), (9, .lstore_n 1, 0, 0, 0, 0), (10, .iconst 0, 0, 0, 0, 0), (11, .istore_n 3, 0, 0, 0, 0)]
noncomputable def kb_X11_checksum_12 : List (Nat × bO) := [(12, .iload_n 3, 0, 0, 0, 0), (13, .bipush 10, 0, 0, 0, 0), (15, .if_icmp .ge 89, 0, 104, 0, 0), (18, .aload_n 0, 0, 0, 0, 0), (19, .getfield 26, 2147, 13, 3, 0), (22, .iload_n 3, 0, 0, 0, 0), (23, .invokevirtual 360, 2212, 2819, 1, 11), (26, .ifCond .eq 66, 0, 92, 0, 0), (29, .aload_n 0, 0, 0, 0, 0), (30, .getfield 20, 2146, 13, 2, 0), (33, .aload_n 0, 0, 0, 0, 0), (34, .getfield 26, 2147, 13, 3, 0), (37, .iload_n 3, 0, 0, 0, 0), (38, .invokevirtual 157, 2225, 2817, 1, 11), (41, .getfield 181, 1093, 4, 0, 0), (44, .invokevirtual 184, 2229, 3079, 1, 12), (47, .aload_n 0, 0, 0, 0, 0), (48, .getfield 20, 2146, 13, 2, 0), (51, .lload_n 1, 0, 0, 0, 0), (52, .ldc2_w 366, 3002, 0, 0, 31), (55, .lmul, 0, 0, 0, 0), (56, .lconst 1, 0, 0, 0, 0), (57, .ladd, 0, 0, 0, 0), (58, .invokevirtual 368, 3003, 3073, 1, 12), (61, .lstore_n 1, 0, 0, 0, 0), (62, .aload_n 0, 0, 0, 0, 0), (63, .getfield 20, 2146, 13, 2, 0), (66, .aload_n 0, 0, 0, 0, 0), (67, .getfield 26, 2147, 13, 3, 0), (70, .iload_n 3, 0, 0, 0, 0), (71, .invokevirtual 157, 2225, 2817, 1, 11), (74, .getfield 188, 1097, 4, 1, 0), (77, .invokevirtual 184, 2229, 3079, 1, 12), (80, .aload_n 0, 0, 0, 0, 0), (81, .getfield 20, 2146, 13, 2, 0), (84, .lload_n 1, 0, 0, 0, 0), (85, .invokevirtual 368, 3003, 3073, 1, 12), (88, .lstore_n 1, 0, 0, 0, 0), (89, .goto 9, 0, 98, 0, 0)]
noncomputable def kb_X11_checksum_92 : List (Nat × bO) := [(92, .lload_n 1, 0, 0, 0, 0), (93, .ldc2_w 366, 3002, 0, 0, 31), (96, .lmul, 0, 0, 0, 0), (97, .lstore_n 1, 0, 0, 0, 0)]
noncomputable def kb_X11_checksum_98 : List (Nat × bO) := [(98, .iinc 3 1, 0, 0, 0, 0), (101, .goto (-89), 0, 12, 0, 0)]
noncomputable def kb_X11_checksum_104 : List (Nat × bO) := [(104, .aload_n 0, 0, 0, 0, 0), (105, .getfield 16, 2145, 13, 1, 0), (108, .lload_n 1, 0, 0, 0, 0), (109, .invokevirtual 368, 3003, 3073, 1, 12), (112, .lreturn, 0, 0, 0, 0)]
set_option maxRecDepth 16000 in
theorem kbl_X11_checksum : tcode 3347 = List.flatten [kb_X11_checksum_0, kb_X11_checksum_12, kb_X11_checksum_92, kb_X11_checksum_98, kb_X11_checksum_104] := sorry
theorem kbs_X11_checksum : ksort (tcode 3347) = true := sorry
theorem tb_X11_checksum_0 {e : tE} {c : Bool} {d : Nat} {L : tL} {st : List tV} {M : tM} {n : Nat} {Q : tR → tM → Nat → Prop} (h : wB e c 1 d 3347 12 kb_X11_checksum_0 L st M n Q) : tT e d 3347 0 L st M n Q := sorry
theorem tb_X11_checksum_12 {e : tE} {c : Bool} {d : Nat} {L : tL} {st : List tV} {M : tM} {n : Nat} {Q : tR → tM → Nat → Prop} (h : wB e c 1 d 3347 92 kb_X11_checksum_12 L st M n Q) : tT e d 3347 12 L st M n Q := sorry
theorem tb_X11_checksum_92 {e : tE} {c : Bool} {d : Nat} {L : tL} {st : List tV} {M : tM} {n : Nat} {Q : tR → tM → Nat → Prop} (h : wB e c 1 d 3347 98 kb_X11_checksum_92 L st M n Q) : tT e d 3347 92 L st M n Q := sorry
theorem tb_X11_checksum_98 {e : tE} {c : Bool} {d : Nat} {L : tL} {st : List tV} {M : tM} {n : Nat} {Q : tR → tM → Nat → Prop} (h : wB e c 1 d 3347 104 kb_X11_checksum_98 L st M n Q) : tT e d 3347 98 L st M n Q := sorry
theorem tb_X11_checksum_104 {e : tE} {c : Bool} {d : Nat} {L : tL} {st : List tV} {M : tM} {n : Nat} {Q : tR → tM → Nat → Prop} (h : wB e c 1 d 3347 113 kb_X11_checksum_104 L st M n Q) : tT e d 3347 104 L st M n Q := sorry
theorem bmx_X11_checksum : (bmeth 3347).2.2.1 = 4 := sorry
theorem tst_X11_checksum {e : tE} {d : Nat} {M : tM} {n : Nat} {Q : tR → tM → Nat → Prop} {r : Nat} (h : tT e d 3347 0 [some (.inr (.inr (.inl r))), none, none, none] [] M n Q) : tC e d 3347 [.inr (.inr (.inl r))] M n Q := sorry
noncomputable def kb_X11_combine_0 : List (Nat × bO) := [(0, .aload_n 0, 0, 0, 0, 0), (1, .iload_n 1, 0, 0, 0, 0), (2, .iload_n 2, 0, 0, 0, 0), (3, .iload_n 3, 0, 0, 0, 0), (4, .invokevirtual 150, 5221, 3345, 3, 13), (7, .aload_n 0, 0, 0, 0, 0), (8, .iload_n 2, 0, 0, 0, 0), (9, .invokevirtual 154, 5225, 3340, 1, 13), (12, .aload_n 0, 0, 0, 0, 0), (13, .iload_n 3, 0, 0, 0, 0), (14, .invokevirtual 154, 5225, 3340, 1, 13), (17, .aload_n 0, 0, 0, 0, 0), (18, .getfield 33, 2148, 13, 4, 0), (21, .invokevirtual 129, 3016, 2053, 0, 8), (24, .aload_n 0, 0, 0, 0, 0), (25, .getfield 33, 2148, 13, 4, 0), (28, .aload_n 0, 0, 0, 0, 0), (29, .getfield 26, 2147, 13, 3, 0), (32, .iload_n 2, 0, 0, 0, 0), (33, .invokevirtual 157, 2225, 2817, 1, 11), (36, .invokevirtual 410, 6096, 2061, 1, 8), (39, .aload_n 0, 0, 0, 0, 0), (40, .getfield 33, 2148, 13, 4, 0), (43, .aload_n 0, 0, 0, 0, 0), (44, .getfield 26, 2147, 13, 3, 0), (47, .iload_n 3, 0, 0, 0, 0), (48, .invokevirtual 157, 2225, 2817, 1, 11), (51, .invokevirtual 410, 6096, 2061, 1, 8), (54, .aload_n 0, 0, 0, 0, 0), (55, .iload_n 1, 0, 0, 0, 0), (56, .aload_n 0, 0, 0, 0, 0), (57, .getfield 33, 2148, 13, 4, 0), (60, .iload 4, 0, 0, 0, 0), (62, .lconst 0, 0, 0, 0, 0), (63, .iconst 0, 0, 0, 0, 0), (64, .invokevirtual 130, 3020, 2055, 3, 8), (67, .invokevirtual 134, 5134, 3332, 2, 13), (70, .ireturn, 0, 0, 0, 0)]
set_option maxRecDepth 16000 in
theorem kbl_X11_combine : tcode 3348 = List.flatten [kb_X11_combine_0] := sorry
theorem kbs_X11_combine : ksort (tcode 3348) = true := sorry
theorem tb_X11_combine_0 {e : tE} {c : Bool} {d : Nat} {L : tL} {st : List tV} {M : tM} {n : Nat} {Q : tR → tM → Nat → Prop} (h : wB e c 3 d 3348 71 kb_X11_combine_0 L st M n Q) : tT e d 3348 0 L st M n Q := sorry
theorem bmx_X11_combine : (bmeth 3348).2.2.1 = 5 := sorry
theorem tst_X11_combine {e : tE} {d : Nat} {M : tM} {n : Nat} {Q : tR → tM → Nat → Prop} {r : Nat} {x1 : Int} {x2 : Int} {x3 : Int} {x4 : Int} (h : tT e d 3348 0 [some (.inr (.inr (.inl r))), some (.inl x1), some (.inl x2), some (.inl x3), some (.inl x4)] [] M n Q) : tC e d 3348 [.inr (.inr (.inl r)), .inl x1, .inl x2, .inl x3, .inl x4] M n Q := sorry
noncomputable def kb_X11_compare_0 : List (Nat × bO) := [(0, .aload_n 0, 0, 0, 0, 0), (1, .iload_n 1, 0, 0, 0, 0), (2, .iload_n 2, 0, 0, 0, 0), (3, .invokevirtual 195, 6050, 3342, 2, 13), (6, .aload_n 0, 0, 0, 0, 0), (7, .getfield 26, 2147, 13, 3, 0), (10, .iload_n 1, 0, 0, 0, 0), (11, .invokevirtual 157, 2225, 2817, 1, 11), (14, .astore_n 3, 0, 0, 0, 0), (15, .aload_n 0, 0, 0, 0, 0), (16, .getfield 26, 2147, 13, 3, 0), (19, .iload_n 2, 0, 0, 0, 0), (20, .invokevirtual 157, 2225, 2817, 1, 11), (23, .astore 4, 0, 0, 0, 0), (25, .aload_n 3, 0, 0, 0, 0), (26, .getfield 188, 1097, 4, 1, 0), (29, .aload 4, 0, 0, 0, 0), (31, .getfield 181, 1093, 4, 0, 0), (34, .invokevirtual 202, 6061, 773, 1, 3), (37, .ifCond .eq 5, 0, 42, 0, 0), (40, .iconst (-1), 0, 0, 0, 0), (41, .ireturn, 0, 0, 0, 0)]
noncomputable def kb_X11_compare_42 : List (Nat × bO) := [(42, .aload 4, 0, 0, 0, 0), (44, .getfield 188, 1097, 4, 1, 0), (47, .aload_n 3, 0, 0, 0, 0), (48, .getfield 181, 1093, 4, 0, 0), (51, .invokevirtual 202, 6061, 773, 1, 3), (54, .ifCond .eq 5, 0, 59, 0, 0), (57, .iconst 1, 0, 0, 0, 0), (58, .ireturn, 0, 0, 0, 0)]
noncomputable def kb_X11_compare_59 : List (Nat × bO) := [(59, .aload_n 3, 0, 0, 0, 0), (60, .invokevirtual 206, 5168, 1031, 0, 4), (63, .ifCond .eq 15, 0, 78, 0, 0), (66, .aload 4, 0, 0, 0, 0), (68, .invokevirtual 206, 5168, 1031, 0, 4), (71, .ifCond .eq 7, 0, 78, 0, 0), (74, .iconst 1, 0, 0, 0, 0), (75, .goto 4, 0, 79, 0, 0)]
noncomputable def kb_X11_compare_78 : List (Nat × bO) := [(78, .iconst 0, 0, 0, 0, 0)]
noncomputable def kb_X11_compare_79 : List (Nat × bO) := [(79, .istore 5, 0, 0, 0, 0), (81, .iload 5, 0, 0, 0, 0), (83, .ifCond .eq 7, 0, 90, 0, 0), (86, .iconst 0, 0, 0, 0, 0), (87, .goto 4, 0, 91, 0, 0)]
noncomputable def kb_X11_compare_90 : List (Nat × bO) := [(90, .iconst 2, 0, 0, 0, 0)]
noncomputable def kb_X11_compare_91 : List (Nat × bO) := [(91, .ireturn, 0, 0, 0, 0)]
set_option maxRecDepth 16000 in
theorem kbl_X11_compare : tcode 3349 = List.flatten [kb_X11_compare_0, kb_X11_compare_42, kb_X11_compare_59, kb_X11_compare_78, kb_X11_compare_79, kb_X11_compare_90, kb_X11_compare_91] := sorry
theorem kbs_X11_compare : ksort (tcode 3349) = true := sorry
theorem tb_X11_compare_0 {e : tE} {c : Bool} {d : Nat} {L : tL} {st : List tV} {M : tM} {n : Nat} {Q : tR → tM → Nat → Prop} (h : wB e c 0 d 3349 42 kb_X11_compare_0 L st M n Q) : tT e d 3349 0 L st M n Q := sorry
theorem tb_X11_compare_42 {e : tE} {c : Bool} {d : Nat} {L : tL} {st : List tV} {M : tM} {n : Nat} {Q : tR → tM → Nat → Prop} (h : wB e c 0 d 3349 59 kb_X11_compare_42 L st M n Q) : tT e d 3349 42 L st M n Q := sorry
theorem tb_X11_compare_59 {e : tE} {c : Bool} {d : Nat} {L : tL} {st : List tV} {M : tM} {n : Nat} {Q : tR → tM → Nat → Prop} (h : wB e c 0 d 3349 78 kb_X11_compare_59 L st M n Q) : tT e d 3349 59 L st M n Q := sorry
theorem tb_X11_compare_78 {e : tE} {c : Bool} {d : Nat} {L : tL} {st : List tV} {M : tM} {n : Nat} {Q : tR → tM → Nat → Prop} (h : wB e c 0 d 3349 79 kb_X11_compare_78 L st M n Q) : tT e d 3349 78 L st M n Q := sorry
theorem tb_X11_compare_79 {e : tE} {c : Bool} {d : Nat} {L : tL} {st : List tV} {M : tM} {n : Nat} {Q : tR → tM → Nat → Prop} (h : wB e c 0 d 3349 90 kb_X11_compare_79 L st M n Q) : tT e d 3349 79 L st M n Q := sorry
theorem tb_X11_compare_90 {e : tE} {c : Bool} {d : Nat} {L : tL} {st : List tV} {M : tM} {n : Nat} {Q : tR → tM → Nat → Prop} (h : wB e c 0 d 3349 91 kb_X11_compare_90 L st M n Q) : tT e d 3349 90 L st M n Q := sorry
theorem tb_X11_compare_91 {e : tE} {c : Bool} {d : Nat} {L : tL} {st : List tV} {M : tM} {n : Nat} {Q : tR → tM → Nat → Prop} (h : wB e c 0 d 3349 92 kb_X11_compare_91 L st M n Q) : tT e d 3349 91 L st M n Q := sorry
theorem bmx_X11_compare : (bmeth 3349).2.2.1 = 6 := sorry
theorem tst_X11_compare {e : tE} {d : Nat} {M : tM} {n : Nat} {Q : tR → tM → Nat → Prop} {r : Nat} {x1 : Int} {x2 : Int} (h : tT e d 3349 0 [some (.inr (.inr (.inl r))), some (.inl x1), some (.inl x2), none, none, none] [] M n Q) : tC e d 3349 [.inr (.inr (.inl r)), .inl x1, .inl x2] M n Q := sorry
noncomputable def kb_X11_constant_0 : List (Nat × bO) := [(0, .aload_n 0, 0, 0, 0, 0), (1, .iload_n 1, 0, 0, 0, 0), (2, .invokevirtual 124, 5116, 3344, 1, 13), (5, .iload_n 2, 0, 0, 0, 0), (6, .bipush 112, 0, 0, 0, 0), (8, .if_icmp .eq 19, 0, 27, 0, 0), (11, .iload_n 2, 0, 0, 0, 0), (12, .bipush 101, 0, 0, 0, 0), (14, .if_icmp .eq 13, 0, 27, 0, 0), (17, .new 94, 98, 0, 148, 1)]
noncomputable def kb_X11_constant_20 : List (Nat × bO) := [(20, .dup, 0, 0, 0, 0)]
noncomputable def kb_X11_constant_27 : List (Nat × bO) := [(27, .aload_n 0, 0, 0, 0, 0), (28, .getfield 33, 2148, 13, 4, 0), (31, .invokevirtual 129, 3016, 2053, 0, 8), (34, .aload_n 0, 0, 0, 0, 0), (35, .iload_n 1, 0, 0, 0, 0), (36, .aload_n 0, 0, 0, 0, 0), (37, .getfield 33, 2148, 13, 4, 0), (40, .iload_n 2, 0, 0, 0, 0), (41, .bipush 112, 0, 0, 0, 0), (43, .if_icmp .ne 8, 0, 51, 0, 0), (46, .bipush 112, 0, 0, 0, 0), (48, .goto 5, 0, 53, 0, 0)]
noncomputable def kb_X11_constant_51 : List (Nat × bO) := [(51, .bipush 69, 0, 0, 0, 0)]
noncomputable def kb_X11_constant_53 : List (Nat × bO) := [(53, .lconst 0, 0, 0, 0, 0), (54, .iconst 0, 0, 0, 0, 0), (55, .invokevirtual 130, 3020, 2055, 3, 8), (58, .invokevirtual 134, 5134, 3332, 2, 13), (61, .ireturn, 0, 0, 0, 0)]
set_option maxRecDepth 16000 in
theorem kbl_X11_constant : tcode 3350 = List.flatten [kb_X11_constant_0, kb_X11_constant_20, kb_X11_constant_27, kb_X11_constant_51, kb_X11_constant_53] := sorry
theorem kbs_X11_constant : ksort (tcode 3350) = true := sorry
theorem tb_X11_constant_0 {e : tE} {c : Bool} {d : Nat} {L : tL} {st : List tV} {M : tM} {n : Nat} {Q : tR → tM → Nat → Prop} (h : wB e c 3 d 3350 20 kb_X11_constant_0 L st M n Q) : tT e d 3350 0 L st M n Q := sorry
theorem tb_X11_constant_20 {e : tE} {c : Bool} {d : Nat} {L : tL} {st : List tV} {M : tM} {n : Nat} {Q : tR → tM → Nat → Prop} (h : wB e c 3 d 3350 21 kb_X11_constant_20 L st M n Q) : tT e d 3350 20 L st M n Q := sorry
theorem tb_X11_constant_27 {e : tE} {c : Bool} {d : Nat} {L : tL} {st : List tV} {M : tM} {n : Nat} {Q : tR → tM → Nat → Prop} (h : wB e c 3 d 3350 51 kb_X11_constant_27 L st M n Q) : tT e d 3350 27 L st M n Q := sorry
theorem tb_X11_constant_51 {e : tE} {c : Bool} {d : Nat} {L : tL} {st : List tV} {M : tM} {n : Nat} {Q : tR → tM → Nat → Prop} (h : wB e c 3 d 3350 53 kb_X11_constant_51 L st M n Q) : tT e d 3350 51 L st M n Q := sorry
theorem tb_X11_constant_53 {e : tE} {c : Bool} {d : Nat} {L : tL} {st : List tV} {M : tM} {n : Nat} {Q : tR → tM → Nat → Prop} (h : wB e c 3 d 3350 62 kb_X11_constant_53 L st M n Q) : tT e d 3350 53 L st M n Q := sorry
theorem bmx_X11_constant : (bmeth 3350).2.2.1 = 3 := sorry
theorem tst_X11_constant {e : tE} {d : Nat} {M : tM} {n : Nat} {Q : tR → tM → Nat → Prop} {r : Nat} {x1 : Int} {x2 : Int} (h : tT e d 3350 0 [some (.inr (.inr (.inl r))), some (.inl x1), some (.inl x2)] [] M n Q) : tC e d 3350 [.inr (.inr (.inl r)), .inl x1, .inl x2] M n Q := sorry
noncomputable def kb_X11_crossed_0 : List (Nat × bO) := [(0, .aload_n 0, 0, 0, 0, 0), (1, .getfield 33, 2148, 13, 4, 0), (4, .aload_n 0, 0, 0, 0, 0), (5, .getfield 26, 2147, 13, 3, 0), (8, .iload_n 1, 0, 0, 0, 0), (9, .invokevirtual 157, 2225, 2817, 1, 11), (12, .invokevirtual 410, 6096, 2061, 1, 8), (15, .aload_n 0, 0, 0, 0, 0), (16, .getfield 33, 2148, 13, 4, 0), (19, .aload_n 0, 0, 0, 0, 0), (20, .getfield 26, 2147, 13, 3, 0), (23, .iload_n 2, 0, 0, 0, 0), (24, .invokevirtual 157, 2225, 2817, 1, 11), (27, .invokevirtual 410, 6096, 2061, 1, 8), (30, .aload_n 0, 0, 0, 0, 0), (31, .getfield 33, 2148, 13, 4, 0), (34, .bipush 42, 0, 0, 0, 0), (36, .lconst 0, 0, 0, 0, 0), (37, .iconst 0, 0, 0, 0, 0), (38, .invokevirtual 130, 3020, 2055, 3, 8), (41, .istore 5, 0, 0, 0, 0), (43, .iload 5, 0, 0, 0, 0), (45, .ifCond .eq 6, 0, 51, 0, 0), (48, .iload 5, 0, 0, 0, 0), (50, .ireturn, 0, 0, 0, 0)]
noncomputable def kb_X11_crossed_51 : List (Nat × bO) := [(51, .aload_n 0, 0, 0, 0, 0), (52, .getfield 33, 2148, 13, 4, 0), (55, .aload_n 0, 0, 0, 0, 0), (56, .getfield 26, 2147, 13, 3, 0), (59, .iload_n 3, 0, 0, 0, 0), (60, .invokevirtual 157, 2225, 2817, 1, 11), (63, .invokevirtual 410, 6096, 2061, 1, 8), (66, .aload_n 0, 0, 0, 0, 0), (67, .getfield 33, 2148, 13, 4, 0), (70, .aload_n 0, 0, 0, 0, 0), (71, .getfield 26, 2147, 13, 3, 0), (74, .iload 4, 0, 0, 0, 0), (76, .invokevirtual 157, 2225, 2817, 1, 11), (79, .invokevirtual 410, 6096, 2061, 1, 8), (82, .aload_n 0, 0, 0, 0, 0), (83, .getfield 33, 2148, 13, 4, 0), (86, .bipush 42, 0, 0, 0, 0), (88, .lconst 0, 0, 0, 0, 0), (89, .iconst 0, 0, 0, 0, 0), (90, .invokevirtual 130, 3020, 2055, 3, 8), (93, .istore 5, 0, 0, 0, 0), (95, .iload 5, 0, 0, 0, 0), (97, .ifCond .eq 6, 0, 103, 0, 0), (100, .iload 5, 0, 0, 0, 0), (102, .ireturn, 0, 0, 0, 0)]
noncomputable def kb_X11_crossed_103 : List (Nat × bO) := [(103, .aload_n 0, 0, 0, 0, 0), (104, .getfield 33, 2148, 13, 4, 0), (107, .bipush 45, 0, 0, 0, 0), (109, .lconst 0, 0, 0, 0, 0), (110, .iconst 0, 0, 0, 0, 0), (111, .invokevirtual 130, 3020, 2055, 3, 8), (114, .ireturn, 0, 0, 0, 0)]
set_option maxRecDepth 16000 in
theorem kbl_X11_crossed : tcode 3351 = List.flatten [kb_X11_crossed_0, kb_X11_crossed_51, kb_X11_crossed_103] := sorry
theorem kbs_X11_crossed : ksort (tcode 3351) = true := sorry
theorem tb_X11_crossed_0 {e : tE} {c : Bool} {d : Nat} {L : tL} {st : List tV} {M : tM} {n : Nat} {Q : tR → tM → Nat → Prop} (h : wB e c 0 d 3351 51 kb_X11_crossed_0 L st M n Q) : tT e d 3351 0 L st M n Q := sorry
theorem tb_X11_crossed_51 {e : tE} {c : Bool} {d : Nat} {L : tL} {st : List tV} {M : tM} {n : Nat} {Q : tR → tM → Nat → Prop} (h : wB e c 0 d 3351 103 kb_X11_crossed_51 L st M n Q) : tT e d 3351 51 L st M n Q := sorry
theorem tb_X11_crossed_103 {e : tE} {c : Bool} {d : Nat} {L : tL} {st : List tV} {M : tM} {n : Nat} {Q : tR → tM → Nat → Prop} (h : wB e c 0 d 3351 115 kb_X11_crossed_103 L st M n Q) : tT e d 3351 103 L st M n Q := sorry
theorem bmx_X11_crossed : (bmeth 3351).2.2.1 = 6 := sorry
theorem tst_X11_crossed {e : tE} {d : Nat} {M : tM} {n : Nat} {Q : tR → tM → Nat → Prop} {r : Nat} {x1 : Int} {x2 : Int} {x3 : Int} {x4 : Int} (h : tT e d 3351 0 [some (.inr (.inr (.inl r))), some (.inl x1), some (.inl x2), some (.inl x3), some (.inl x4), none] [] M n Q) : tC e d 3351 [.inr (.inr (.inl r)), .inl x1, .inl x2, .inl x3, .inl x4] M n Q := sorry
noncomputable def kb_X11_decide_0 : List (Nat × bO) := [(0, .aload_n 0, 0, 0, 0, 0), (1, .iload_n 1, 0, 0, 0, 0), (2, .invokevirtual 252, 6169, 3338, 1, 13), (5, .aload_n 0, 0, 0, 0, 0), (6, .iload_n 2, 0, 0, 0, 0), (7, .invokevirtual 252, 6169, 3338, 1, 13), (10, .aload_n 0, 0, 0, 0, 0), (11, .iload_n 3, 0, 0, 0, 0), (12, .invokevirtual 124, 5116, 3344, 1, 13), (15, .aload_n 0, 0, 0, 0, 0), (16, .iload_n 1, 0, 0, 0, 0), (17, .invokevirtual 259, 7008, 3337, 1, 13), (20, .aload_n 0, 0, 0, 0, 0), (21, .iload_n 2, 0, 0, 0, 0), (22, .invokevirtual 259, 7008, 3337, 1, 13), (25, .aload_n 0, 0, 0, 0, 0), (26, .iload_n 3, 0, 0, 0, 0), (27, .invokevirtual 154, 5225, 3340, 1, 13), (30, .iconst (-1), 0, 0, 0, 0), (31, .istore 4, 0, 0, 0, 0), (33, .iconst 0, 0, 0, 0, 0), (34, .istore 5, 0, 0, 0, 0)]
noncomputable def kb_X11_decide_36 : List (Nat × bO) := [(36, .iload 5, 0, 0, 0, 0), (38, .bipush 10, 0, 0, 0, 0), (40, .if_icmp .gt 71, 0, 111, 0, 0), (43, .iload 4, 0, 0, 0, 0), (45, .ifCond .ge 66, 0, 111, 0, 0), (48, .aload_n 0, 0, 0, 0, 0), (49, .getfield 33, 2148, 13, 4, 0), (52, .iload 5, 0, 0, 0, 0), (54, .invokevirtual 37, 2057, 2065, 1, 8), (57, .aload_n 0, 0, 0, 0, 0), (58, .aload_n 0, 0, 0, 0, 0), (59, .getfield 43, 2149, 13, 5, 0), (62, .iload_n 1, 0, 0, 0, 0), (63, .aaload, 0, 0, 0, 0), (64, .aload_n 0, 0, 0, 0, 0), (65, .getfield 43, 2149, 13, 5, 0), (68, .iload_n 2, 0, 0, 0, 0), (69, .aaload, 0, 0, 0, 0), (70, .aload_n 0, 0, 0, 0, 0), (71, .getfield 26, 2147, 13, 3, 0), (74, .iload_n 3, 0, 0, 0, 0), (75, .invokevirtual 157, 2225, 2817, 1, 11), (78, .invokevirtual 281, 7129, 3387, 3, 13), (81, .istore 6, 0, 0, 0, 0), (83, .iload 6, 0, 0, 0, 0), (85, .ifCond .eq 20, 0, 105, 0, 0), (88, .iload 6, 0, 0, 0, 0), (90, .ifCond .ge 8, 0, 98, 0, 0), (93, .iload 5, 0, 0, 0, 0), (95, .goto 8, 0, 103, 0, 0)]
noncomputable def kb_X11_decide_98 : List (Nat × bO) := [(98, .bipush 20, 0, 0, 0, 0), (100, .iload 5, 0, 0, 0, 0), (102, .iadd, 0, 0, 0, 0)]
noncomputable def kb_X11_decide_103 : List (Nat × bO) := [(103, .istore 4, 0, 0, 0, 0)]
noncomputable def kb_X11_decide_105 : List (Nat × bO) := [(105, .iinc 5 1, 0, 0, 0, 0), (108, .goto (-72), 0, 36, 0, 0)]
noncomputable def kb_X11_decide_111 : List (Nat × bO) := [(111, .aload_n 0, 0, 0, 0, 0), (112, .getfield 33, 2148, 13, 4, 0), (115, .aload_n 0, 0, 0, 0, 0), (116, .getfield 9, 2144, 13, 0, 0), (119, .invokevirtual 37, 2057, 2065, 1, 8), (122, .iload 4, 0, 0, 0, 0), (124, .ireturn, 0, 0, 0, 0)]
set_option maxRecDepth 16000 in
theorem kbl_X11_decide : tcode 3352 = List.flatten [kb_X11_decide_0, kb_X11_decide_36, kb_X11_decide_98, kb_X11_decide_103, kb_X11_decide_105, kb_X11_decide_111] := sorry
theorem kbs_X11_decide : ksort (tcode 3352) = true := sorry
theorem tb_X11_decide_0 {e : tE} {c : Bool} {d : Nat} {L : tL} {st : List tV} {M : tM} {n : Nat} {Q : tR → tM → Nat → Prop} (h : wB e c 0 d 3352 36 kb_X11_decide_0 L st M n Q) : tT e d 3352 0 L st M n Q := sorry
theorem tb_X11_decide_36 {e : tE} {c : Bool} {d : Nat} {L : tL} {st : List tV} {M : tM} {n : Nat} {Q : tR → tM → Nat → Prop} (h : wB e c 0 d 3352 98 kb_X11_decide_36 L st M n Q) : tT e d 3352 36 L st M n Q := sorry
theorem tb_X11_decide_98 {e : tE} {c : Bool} {d : Nat} {L : tL} {st : List tV} {M : tM} {n : Nat} {Q : tR → tM → Nat → Prop} (h : wB e c 0 d 3352 103 kb_X11_decide_98 L st M n Q) : tT e d 3352 98 L st M n Q := sorry
theorem tb_X11_decide_103 {e : tE} {c : Bool} {d : Nat} {L : tL} {st : List tV} {M : tM} {n : Nat} {Q : tR → tM → Nat → Prop} (h : wB e c 0 d 3352 105 kb_X11_decide_103 L st M n Q) : tT e d 3352 103 L st M n Q := sorry
theorem tb_X11_decide_105 {e : tE} {c : Bool} {d : Nat} {L : tL} {st : List tV} {M : tM} {n : Nat} {Q : tR → tM → Nat → Prop} (h : wB e c 0 d 3352 111 kb_X11_decide_105 L st M n Q) : tT e d 3352 105 L st M n Q := sorry
theorem tb_X11_decide_111 {e : tE} {c : Bool} {d : Nat} {L : tL} {st : List tV} {M : tM} {n : Nat} {Q : tR → tM → Nat → Prop} (h : wB e c 0 d 3352 125 kb_X11_decide_111 L st M n Q) : tT e d 3352 111 L st M n Q := sorry
theorem bmx_X11_decide : (bmeth 3352).2.2.1 = 7 := sorry
theorem tst_X11_decide {e : tE} {d : Nat} {M : tM} {n : Nat} {Q : tR → tM → Nat → Prop} {r : Nat} {x1 : Int} {x2 : Int} {x3 : Int} (h : tT e d 3352 0 [some (.inr (.inr (.inl r))), some (.inl x1), some (.inl x2), some (.inl x3), none, none, none] [] M n Q) : tC e d 3352 [.inr (.inr (.inl r)), .inl x1, .inl x2, .inl x3] M n Q := sorry
noncomputable def kb_X11_define_0 : List (Nat × bO) := [(0, .aload_n 0, 0, 0, 0, 0), (1, .iload_n 1, 0, 0, 0, 0), (2, .invokevirtual 252, 6169, 3338, 1, 13), (5, .aload_n 0, 0, 0, 0, 0), (6, .getfield 48, 2150, 13, 6, 0), (9, .aload_n 0, 0, 0, 0, 0), (10, .getfield 16, 2145, 13, 1, 0), (13, .invokevirtual 255, 6174, 1803, 1, 7), (16, .istore_n 2, 0, 0, 0, 0), (17, .aload_n 0, 0, 0, 0, 0), (18, .getfield 16, 2145, 13, 1, 0), (21, .invokevirtual 115, 2204, 3076, 0, 12), (24, .iload_n 2, 0, 0, 0, 0), (25, .ifCond .lt 7, 0, 32, 0, 0), (28, .iconst (-1), 0, 0, 0, 0), (29, .iload_n 2, 0, 0, 0, 0), (30, .isub, 0, 0, 0, 0), (31, .ireturn, 0, 0, 0, 0)]
noncomputable def kb_X11_define_32 : List (Nat × bO) := [(32, .aload_n 0, 0, 0, 0, 0), (33, .getfield 43, 2149, 13, 5, 0), (36, .iload_n 1, 0, 0, 0, 0), (37, .aaload, 0, 0, 0, 0), (38, .astore_n 3, 0, 0, 0, 0), (39, .aload_n 0, 0, 0, 0, 0), (40, .getfield 43, 2149, 13, 5, 0), (43, .iload_n 1, 0, 0, 0, 0), (44, .aload_n 0, 0, 0, 0, 0), (45, .getfield 48, 2150, 13, 6, 0), (48, .aastore, 0, 0, 0, 0), (49, .aload_n 0, 0, 0, 0, 0), (50, .aload_n 3, 0, 0, 0, 0), (51, .putfield 48, 2150, 13, 6, 0), (54, .aload_n 0, 0, 0, 0, 0), (55, .getfield 43, 2149, 13, 5, 0), (58, .iload_n 1, 0, 0, 0, 0), (59, .aaload, 0, 0, 0, 0), (60, .getfield 258, 2083, 7, 4, 0), (63, .ireturn, 0, 0, 0, 0)]
set_option maxRecDepth 16000 in
theorem kbl_X11_define : tcode 3353 = List.flatten [kb_X11_define_0, kb_X11_define_32] := sorry
theorem kbs_X11_define : ksort (tcode 3353) = true := sorry
theorem tb_X11_define_0 {e : tE} {c : Bool} {d : Nat} {L : tL} {st : List tV} {M : tM} {n : Nat} {Q : tR → tM → Nat → Prop} (h : wB e c 0 d 3353 32 kb_X11_define_0 L st M n Q) : tT e d 3353 0 L st M n Q := sorry
theorem tb_X11_define_32 {e : tE} {c : Bool} {d : Nat} {L : tL} {st : List tV} {M : tM} {n : Nat} {Q : tR → tM → Nat → Prop} (h : wB e c 0 d 3353 64 kb_X11_define_32 L st M n Q) : tT e d 3353 32 L st M n Q := sorry
theorem bmx_X11_define : (bmeth 3353).2.2.1 = 4 := sorry
theorem tst_X11_define {e : tE} {d : Nat} {M : tM} {n : Nat} {Q : tR → tM → Nat → Prop} {r : Nat} {x1 : Int} (h : tT e d 3353 0 [some (.inr (.inr (.inl r))), some (.inl x1), none, none] [] M n Q) : tC e d 3353 [.inr (.inr (.inl r)), .inl x1] M n Q := sorry
noncomputable def kb_X11_digits_0 : List (Nat × bO) := [(0, .aload_n 0, 0, 0, 0, 0), (1, .getfield 9, 2144, 13, 0, 0), (4, .ireturn, 0, 0, 0, 0)]
set_option maxRecDepth 16000 in
theorem kbl_X11_digits : tcode 3354 = List.flatten [kb_X11_digits_0] := sorry
theorem kbs_X11_digits : ksort (tcode 3354) = true := sorry
theorem tb_X11_digits_0 {e : tE} {c : Bool} {d : Nat} {L : tL} {st : List tV} {M : tM} {n : Nat} {Q : tR → tM → Nat → Prop} (h : wB e c 0 d 3354 5 kb_X11_digits_0 L st M n Q) : tT e d 3354 0 L st M n Q := sorry
theorem bmx_X11_digits : (bmeth 3354).2.2.1 = 1 := sorry
theorem tst_X11_digits {e : tE} {d : Nat} {M : tM} {n : Nat} {Q : tR → tM → Nat → Prop} {r : Nat} (h : tT e d 3354 0 [some (.inr (.inr (.inl r)))] [] M n Q) : tC e d 3354 [.inr (.inr (.inl r))] M n Q := sorry
noncomputable def kb_X11_divide_0 : List (Nat × bO) := [(0, .aload_n 0, 0, 0, 0, 0), (1, .iload_n 1, 0, 0, 0, 0), (2, .iload_n 2, 0, 0, 0, 0), (3, .iload_n 3, 0, 0, 0, 0), (4, .bipush 47, 0, 0, 0, 0), (6, .invokevirtual 229, 6092, 3348, 4, 13), (9, .ireturn, 0, 0, 0, 0)]
set_option maxRecDepth 16000 in
theorem kbl_X11_divide : tcode 3355 = List.flatten [kb_X11_divide_0] := sorry
theorem kbs_X11_divide : ksort (tcode 3355) = true := sorry
theorem tb_X11_divide_0 {e : tE} {c : Bool} {d : Nat} {L : tL} {st : List tV} {M : tM} {n : Nat} {Q : tR → tM → Nat → Prop} (h : wB e c 3 d 3355 10 kb_X11_divide_0 L st M n Q) : tT e d 3355 0 L st M n Q := sorry
theorem bmx_X11_divide : (bmeth 3355).2.2.1 = 4 := sorry
theorem tst_X11_divide {e : tE} {d : Nat} {M : tM} {n : Nat} {Q : tR → tM → Nat → Prop} {r : Nat} {x1 : Int} {x2 : Int} {x3 : Int} (h : tT e d 3355 0 [some (.inr (.inr (.inl r))), some (.inl x1), some (.inl x2), some (.inl x3)] [] M n Q) : tC e d 3355 [.inr (.inr (.inl r)), .inl x1, .inl x2, .inl x3] M n Q := sorry
noncomputable def kb_X11_erase_0 : List (Nat × bO) := [(0, .aload_n 0, 0, 0, 0, 0), (1, .getfield 16, 2145, 13, 1, 0), (4, .getfield 103, 1046, 12, 1, 0), (7, .istore_n 1, 0, 0, 0, 0), (8, .aload_n 0, 0, 0, 0, 0), (9, .getfield 16, 2145, 13, 1, 0), (12, .invokevirtual 115, 2204, 3076, 0, 12), (15, .iload_n 1, 0, 0, 0, 0), (16, .ireturn, 0, 0, 0, 0)]
set_option maxRecDepth 16000 in
theorem kbl_X11_erase : tcode 3356 = List.flatten [kb_X11_erase_0] := sorry
theorem kbs_X11_erase : ksort (tcode 3356) = true := sorry
theorem tb_X11_erase_0 {e : tE} {c : Bool} {d : Nat} {L : tL} {st : List tV} {M : tM} {n : Nat} {Q : tR → tM → Nat → Prop} (h : wB e c 0 d 3356 17 kb_X11_erase_0 L st M n Q) : tT e d 3356 0 L st M n Q := sorry
theorem bmx_X11_erase : (bmeth 3356).2.2.1 = 2 := sorry
theorem tst_X11_erase {e : tE} {d : Nat} {M : tM} {n : Nat} {Q : tR → tM → Nat → Prop} {r : Nat} (h : tT e d 3356 0 [some (.inr (.inr (.inl r))), none] [] M n Q) : tC e d 3356 [.inr (.inr (.inl r))] M n Q := sorry
noncomputable def kb_X11_fill_0 : List (Nat × bO) := [(0, .aload_n 0, 0, 0, 0, 0), (1, .getfield 26, 2147, 13, 3, 0), (4, .iload_n 1, 0, 0, 0, 0), (5, .aload_n 2, 0, 0, 0, 0), (6, .invokevirtual 407, 5163, 2818, 2, 11), (9, .aload_n 2, 0, 0, 0, 0), (10, .invokevirtual 206, 5168, 1031, 0, 4), (13, .ireturn, 0, 0, 0, 0)]
set_option maxRecDepth 16000 in
theorem kbl_X11_fill : tcode 3357 = List.flatten [kb_X11_fill_0] := sorry
theorem kbs_X11_fill : ksort (tcode 3357) = true := sorry
theorem tb_X11_fill_0 {e : tE} {c : Bool} {d : Nat} {L : tL} {st : List tV} {M : tM} {n : Nat} {Q : tR → tM → Nat → Prop} (h : wB e c 3 d 3357 14 kb_X11_fill_0 L st M n Q) : tT e d 3357 0 L st M n Q := sorry
theorem bmx_X11_fill : (bmeth 3357).2.2.1 = 3 := sorry
theorem tst_X11_fill {e : tE} {d : Nat} {M : tM} {n : Nat} {Q : tR → tM → Nat → Prop} {r : Nat} {x1 : Int} {x2 : Nat ⊕ Nat} (h : tT e d 3357 0 [some (.inr (.inr (.inl r))), some (.inl x1), some (.inr (.inr x2))] [] M n Q) : tC e d 3357 [.inr (.inr (.inl r)), .inl x1, .inr (.inr x2)] M n Q := sorry
noncomputable def kb_X11_greatest_0 : List (Nat × bO) := [(0, .aload_n 0, 0, 0, 0, 0), (1, .iload_n 1, 0, 0, 0, 0), (2, .iload_n 2, 0, 0, 0, 0), (3, .iload_n 3, 0, 0, 0, 0), (4, .iload 4, 0, 0, 0, 0), (6, .invokevirtual 344, 8023, 3335, 4, 13), (9, .aload_n 0, 0, 0, 0, 0), (10, .aload_n 0, 0, 0, 0, 0), (11, .aload_n 0, 0, 0, 0, 0), (12, .getfield 43, 2149, 13, 5, 0), (15, .iload_n 2, 0, 0, 0, 0), (16, .aaload, 0, 0, 0, 0), (17, .aload_n 0, 0, 0, 0, 0), (18, .getfield 26, 2147, 13, 3, 0), (21, .iload_n 3, 0, 0, 0, 0), (22, .invokevirtual 157, 2225, 2817, 1, 11), (25, .iload 4, 0, 0, 0, 0), (27, .iconst 1, 0, 0, 0, 0), (28, .invokevirtual 347, 8027, 3385, 4, 13), (31, .invokevirtual 327, 5138, 3346, 1, 13), (34, .aload_n 0, 0, 0, 0, 0), (35, .iload_n 1, 0, 0, 0, 0), (36, .aload_n 0, 0, 0, 0, 0), (37, .getfield 71, 2155, 13, 11, 0), (40, .invokevirtual 168, 5159, 3357, 2, 13), (43, .ireturn, 0, 0, 0, 0)]
set_option maxRecDepth 16000 in
theorem kbl_X11_greatest : tcode 3358 = List.flatten [kb_X11_greatest_0] := sorry
theorem kbs_X11_greatest : ksort (tcode 3358) = true := sorry
theorem tb_X11_greatest_0 {e : tE} {c : Bool} {d : Nat} {L : tL} {st : List tV} {M : tM} {n : Nat} {Q : tR → tM → Nat → Prop} (h : wB e c 3 d 3358 44 kb_X11_greatest_0 L st M n Q) : tT e d 3358 0 L st M n Q := sorry
theorem bmx_X11_greatest : (bmeth 3358).2.2.1 = 5 := sorry
theorem tst_X11_greatest {e : tE} {d : Nat} {M : tM} {n : Nat} {Q : tR → tM → Nat → Prop} {r : Nat} {x1 : Int} {x2 : Int} {x3 : Int} {x4 : Int} (h : tT e d 3358 0 [some (.inr (.inr (.inl r))), some (.inl x1), some (.inl x2), some (.inl x3), some (.inl x4)] [] M n Q) : tC e d 3358 [.inr (.inr (.inl r)), .inl x1, .inl x2, .inl x3, .inl x4] M n Q := sorry
noncomputable def kb_X11_hasY_0 : List (Nat × bO) := [(0, .aload_n 0, 0, 0, 0, 0), (1, .iload_n 1, 0, 0, 0, 0), (2, .invokevirtual 252, 6169, 3338, 1, 13), (5, .aload_n 0, 0, 0, 0, 0), (6, .iload_n 1, 0, 0, 0, 0), (7, .invokevirtual 259, 7008, 3337, 1, 13), (10, .aload_n 0, 0, 0, 0, 0), (11, .getfield 43, 2149, 13, 5, 0), (14, .iload_n 1, 0, 0, 0, 0), (15, .aaload, 0, 0, 0, 0), (16, .getfield 262, 2085, 7, 5, 0), (19, .ireturn, 0, 0, 0, 0)]
set_option maxRecDepth 16000 in
theorem kbl_X11_hasY : tcode 3359 = List.flatten [kb_X11_hasY_0] := sorry
theorem kbs_X11_hasY : ksort (tcode 3359) = true := sorry
theorem tb_X11_hasY_0 {e : tE} {c : Bool} {d : Nat} {L : tL} {st : List tV} {M : tM} {n : Nat} {Q : tR → tM → Nat → Prop} (h : wB e c 3 d 3359 20 kb_X11_hasY_0 L st M n Q) : tT e d 3359 0 L st M n Q := sorry
theorem bmx_X11_hasY : (bmeth 3359).2.2.1 = 2 := sorry
theorem tst_X11_hasY {e : tE} {d : Nat} {M : tM} {n : Nat} {Q : tR → tM → Nat → Prop} {r : Nat} {x1 : Int} (h : tT e d 3359 0 [some (.inr (.inr (.inl r))), some (.inl x1)] [] M n Q) : tC e d 3359 [.inr (.inr (.inl r)), .inl x1] M n Q := sorry
noncomputable def kb_X11_held_0 : List (Nat × bO) := [(0, .iconst 0, 0, 0, 0, 0), (1, .istore_n 1, 0, 0, 0, 0), (2, .iconst 0, 0, 0, 0, 0), (3, .istore_n 2, 0, 0, 0, 0)]
noncomputable def kb_X11_held_4 : List (Nat × bO) := [(4, .iload_n 2, 0, 0, 0, 0), (5, .bipush 10, 0, 0, 0, 0), (7, .if_icmp .ge 23, 0, 30, 0, 0), (10, .aload_n 0, 0, 0, 0, 0), (11, .getfield 26, 2147, 13, 3, 0), (14, .iload_n 2, 0, 0, 0, 0), (15, .invokevirtual 360, 2212, 2819, 1, 11), (18, .ifCond .eq 6, 0, 24, 0, 0), (21, .iinc 1 1, 0, 0, 0, 0)]
noncomputable def kb_X11_held_24 : List (Nat × bO) := [(24, .iinc 2 1, 0, 0, 0, 0), (27, .goto (-23), 0, 4, 0, 0)]
noncomputable def kb_X11_held_30 : List (Nat × bO) := [(30, .iload_n 1, 0, 0, 0, 0), (31, .ireturn, 0, 0, 0, 0)]
set_option maxRecDepth 16000 in
theorem kbl_X11_held : tcode 3360 = List.flatten [kb_X11_held_0, kb_X11_held_4, kb_X11_held_24, kb_X11_held_30] := sorry
theorem kbs_X11_held : ksort (tcode 3360) = true := sorry
theorem tb_X11_held_0 {e : tE} {c : Bool} {d : Nat} {L : tL} {st : List tV} {M : tM} {n : Nat} {Q : tR → tM → Nat → Prop} (h : wB e c 0 d 3360 4 kb_X11_held_0 L st M n Q) : tT e d 3360 0 L st M n Q := sorry
theorem tb_X11_held_4 {e : tE} {c : Bool} {d : Nat} {L : tL} {st : List tV} {M : tM} {n : Nat} {Q : tR → tM → Nat → Prop} (h : wB e c 0 d 3360 24 kb_X11_held_4 L st M n Q) : tT e d 3360 4 L st M n Q := sorry
theorem tb_X11_held_24 {e : tE} {c : Bool} {d : Nat} {L : tL} {st : List tV} {M : tM} {n : Nat} {Q : tR → tM → Nat → Prop} (h : wB e c 0 d 3360 30 kb_X11_held_24 L st M n Q) : tT e d 3360 24 L st M n Q := sorry
theorem tb_X11_held_30 {e : tE} {c : Bool} {d : Nat} {L : tL} {st : List tV} {M : tM} {n : Nat} {Q : tR → tM → Nat → Prop} (h : wB e c 0 d 3360 32 kb_X11_held_30 L st M n Q) : tT e d 3360 30 L st M n Q := sorry
theorem bmx_X11_held : (bmeth 3360).2.2.1 = 3 := sorry
theorem tst_X11_held {e : tE} {d : Nat} {M : tM} {n : Nat} {Q : tR → tM → Nat → Prop} {r : Nat} (h : tT e d 3360 0 [some (.inr (.inr (.inl r))), none, none] [] M n Q) : tC e d 3360 [.inr (.inr (.inl r))] M n Q := sorry
noncomputable def kb_X11_high_0 : List (Nat × bO) := [(0, .aload_n 0, 0, 0, 0, 0), (1, .iload_n 1, 0, 0, 0, 0), (2, .invokevirtual 124, 5116, 3344, 1, 13), (5, .aload_n 0, 0, 0, 0, 0), (6, .iload_n 1, 0, 0, 0, 0), (7, .invokevirtual 154, 5225, 3340, 1, 13), (10, .aload_n 0, 0, 0, 0, 0), (11, .getfield 16, 2145, 13, 1, 0), (14, .aload_n 0, 0, 0, 0, 0), (15, .getfield 26, 2147, 13, 3, 0), (18, .iload_n 1, 0, 0, 0, 0), (19, .invokevirtual 157, 2225, 2817, 1, 11), (22, .getfield 188, 1097, 4, 1, 0), (25, .invokevirtual 184, 2229, 3079, 1, 12), (28, .aload_n 0, 0, 0, 0, 0), (29, .getfield 16, 2145, 13, 1, 0), (32, .getfield 103, 1046, 12, 1, 0), (35, .ireturn, 0, 0, 0, 0)]
set_option maxRecDepth 16000 in
theorem kbl_X11_high : tcode 3361 = List.flatten [kb_X11_high_0] := sorry
theorem kbs_X11_high : ksort (tcode 3361) = true := sorry
theorem tb_X11_high_0 {e : tE} {c : Bool} {d : Nat} {L : tL} {st : List tV} {M : tM} {n : Nat} {Q : tR → tM → Nat → Prop} (h : wB e c 0 d 3361 36 kb_X11_high_0 L st M n Q) : tT e d 3361 0 L st M n Q := sorry
theorem bmx_X11_high : (bmeth 3361).2.2.1 = 2 := sorry
theorem tst_X11_high {e : tE} {d : Nat} {M : tM} {n : Nat} {Q : tR → tM → Nat → Prop} {r : Nat} {x1 : Int} (h : tT e d 3361 0 [some (.inr (.inr (.inl r))), some (.inl x1)] [] M n Q) : tC e d 3361 [.inr (.inr (.inl r)), .inl x1] M n Q := sorry
noncomputable def kb_X11_isConstantSound_0 : List (Nat × bO) := [(0, .aload_n 0, 0, 0, 0, 0), (1, .getfield 9, 2144, 13, 0, 0), (4, .bipush 10, 0, 0, 0, 0), (6, .if_icmp .lt 5, 0, 11, 0, 0), (9, .iconst 1, 0, 0, 0, 0), (10, .ireturn, 0, 0, 0, 0)]
noncomputable def kb_X11_isConstantSound_11 : List (Nat × bO) := [(11, .aload_n 0, 0, 0, 0, 0), (12, .getfield 33, 2148, 13, 4, 0), (15, .invokevirtual 129, 3016, 2053, 0, 8), (18, .aload_n 0, 0, 0, 0, 0), (19, .getfield 33, 2148, 13, 4, 0), (22, .iload_n 1, 0, 0, 0, 0), (23, .lconst 0, 0, 0, 0, 0), (24, .iconst 0, 0, 0, 0, 0), (25, .invokevirtual 130, 3020, 2055, 3, 8), (28, .istore_n 2, 0, 0, 0, 0), (29, .aload_n 0, 0, 0, 0, 0), (30, .getfield 71, 2155, 13, 11, 0), (33, .aload_n 0, 0, 0, 0, 0), (34, .getfield 33, 2148, 13, 4, 0), (37, .invokevirtual 330, 4153, 2063, 0, 8), (40, .invokevirtual 161, 4157, 1026, 1, 4), (43, .aload_n 0, 0, 0, 0, 0), (44, .getfield 33, 2148, 13, 4, 0), (47, .aload_n 0, 0, 0, 0, 0), (48, .getfield 9, 2144, 13, 0, 0), (51, .iconst 1, 0, 0, 0, 0), (52, .iadd, 0, 0, 0, 0), (53, .invokevirtual 37, 2057, 2065, 1, 8), (56, .iload_n 2, 0, 0, 0, 0), (57, .ifCond .ne 14, 0, 71, 0, 0), (60, .aload_n 0, 0, 0, 0, 0), (61, .getfield 33, 2148, 13, 4, 0), (64, .iload_n 1, 0, 0, 0, 0), (65, .lconst 0, 0, 0, 0, 0), (66, .iconst 0, 0, 0, 0, 0), (67, .invokevirtual 130, 3020, 2055, 3, 8), (70, .istore_n 2, 0, 0, 0, 0)]
noncomputable def kb_X11_isConstantSound_71 : List (Nat × bO) := [(71, .aload_n 0, 0, 0, 0, 0), (72, .getfield 33, 2148, 13, 4, 0), (75, .aload_n 0, 0, 0, 0, 0), (76, .getfield 9, 2144, 13, 0, 0), (79, .invokevirtual 37, 2057, 2065, 1, 8), (82, .iload_n 2, 0, 0, 0, 0), (83, .ifCond .ne 20, 0, 103, 0, 0), (86, .aload_n 0, 0, 0, 0, 0), (87, .getfield 33, 2148, 13, 4, 0), (90, .invokevirtual 330, 4153, 2063, 0, 8), (93, .aload_n 0, 0, 0, 0, 0), (94, .getfield 71, 2155, 13, 11, 0), (97, .invokevirtual 199, 4158, 1033, 1, 4), (100, .ifCond .eq 7, 0, 107, 0, 0)]
noncomputable def kb_X11_isConstantSound_103 : List (Nat × bO) := [(103, .iconst 1, 0, 0, 0, 0), (104, .goto 4, 0, 108, 0, 0)]
noncomputable def kb_X11_isConstantSound_107 : List (Nat × bO) := [(107, .iconst 0, 0, 0, 0, 0)]
noncomputable def kb_X11_isConstantSound_108 : List (Nat × bO) := [(108, .ireturn, 0, 0, 0, 0)]
set_option maxRecDepth 16000 in
theorem kbl_X11_isConstantSound : tcode 3362 = List.flatten [kb_X11_isConstantSound_0, kb_X11_isConstantSound_11, kb_X11_isConstantSound_71, kb_X11_isConstantSound_103, kb_X11_isConstantSound_107, kb_X11_isConstantSound_108] := sorry
theorem kbs_X11_isConstantSound : ksort (tcode 3362) = true := sorry
theorem tb_X11_isConstantSound_0 {e : tE} {c : Bool} {d : Nat} {L : tL} {st : List tV} {M : tM} {n : Nat} {Q : tR → tM → Nat → Prop} (h : wB e c 3 d 3362 11 kb_X11_isConstantSound_0 L st M n Q) : tT e d 3362 0 L st M n Q := sorry
theorem tb_X11_isConstantSound_11 {e : tE} {c : Bool} {d : Nat} {L : tL} {st : List tV} {M : tM} {n : Nat} {Q : tR → tM → Nat → Prop} (h : wB e c 3 d 3362 71 kb_X11_isConstantSound_11 L st M n Q) : tT e d 3362 11 L st M n Q := sorry
theorem tb_X11_isConstantSound_71 {e : tE} {c : Bool} {d : Nat} {L : tL} {st : List tV} {M : tM} {n : Nat} {Q : tR → tM → Nat → Prop} (h : wB e c 3 d 3362 103 kb_X11_isConstantSound_71 L st M n Q) : tT e d 3362 71 L st M n Q := sorry
theorem tb_X11_isConstantSound_103 {e : tE} {c : Bool} {d : Nat} {L : tL} {st : List tV} {M : tM} {n : Nat} {Q : tR → tM → Nat → Prop} (h : wB e c 3 d 3362 107 kb_X11_isConstantSound_103 L st M n Q) : tT e d 3362 103 L st M n Q := sorry
theorem tb_X11_isConstantSound_107 {e : tE} {c : Bool} {d : Nat} {L : tL} {st : List tV} {M : tM} {n : Nat} {Q : tR → tM → Nat → Prop} (h : wB e c 3 d 3362 108 kb_X11_isConstantSound_107 L st M n Q) : tT e d 3362 107 L st M n Q := sorry
theorem tb_X11_isConstantSound_108 {e : tE} {c : Bool} {d : Nat} {L : tL} {st : List tV} {M : tM} {n : Nat} {Q : tR → tM → Nat → Prop} (h : wB e c 3 d 3362 109 kb_X11_isConstantSound_108 L st M n Q) : tT e d 3362 108 L st M n Q := sorry
theorem bmx_X11_isConstantSound : (bmeth 3362).2.2.1 = 3 := sorry
theorem tst_X11_isConstantSound {e : tE} {d : Nat} {M : tM} {n : Nat} {Q : tR → tM → Nat → Prop} {r : Nat} {x1 : Int} (h : tT e d 3362 0 [some (.inr (.inr (.inl r))), some (.inl x1), none] [] M n Q) : tC e d 3362 [.inr (.inr (.inl r)), .inl x1] M n Q := sorry
noncomputable def kb_X11_isSound_0 : List (Nat × bO) := [(0, .aload_n 0, 0, 0, 0, 0), (1, .bipush 112, 0, 0, 0, 0), (3, .invokevirtual 372, 3012, 3362, 1, 13), (6, .ifCond .eq 16, 0, 22, 0, 0), (9, .aload_n 0, 0, 0, 0, 0), (10, .bipush 69, 0, 0, 0, 0), (12, .invokevirtual 372, 3012, 3362, 1, 13), (15, .ifCond .eq 7, 0, 22, 0, 0), (18, .iconst 1, 0, 0, 0, 0), (19, .goto 4, 0, 23, 0, 0)]
noncomputable def kb_X11_isSound_22 : List (Nat × bO) := [(22, .iconst 0, 0, 0, 0, 0)]
noncomputable def kb_X11_isSound_23 : List (Nat × bO) := [(23, .istore_n 1, 0, 0, 0, 0), (24, .iconst 0, 0, 0, 0, 0), (25, .istore_n 2, 0, 0, 0, 0)]
noncomputable def kb_X11_isSound_26 : List (Nat × bO) := [(26, .iload_n 2, 0, 0, 0, 0), (27, .iconst 4, 0, 0, 0, 0), (28, .if_icmp .ge 73, 0, 101, 0, 0), (31, .iload_n 1, 0, 0, 0, 0), (32, .ifCond .eq 69, 0, 101, 0, 0), (35, .iconst 0, 0, 0, 0, 0), (36, .istore_n 3, 0, 0, 0, 0)]
noncomputable def kb_X11_isSound_37 : List (Nat × bO) := [(37, .iload_n 3, 0, 0, 0, 0), (38, .bipush 10, 0, 0, 0, 0), (40, .if_icmp .ge 55, 0, 95, 0, 0), (43, .iload_n 1, 0, 0, 0, 0), (44, .ifCond .eq 51, 0, 95, 0, 0), (47, .aload_n 0, 0, 0, 0, 0), (48, .getfield 43, 2149, 13, 5, 0), (51, .iload_n 2, 0, 0, 0, 0), (52, .aaload, 0, 0, 0, 0), (53, .getfield 376, 2087, 7, 6, 0), (56, .ifCond .eq 33, 0, 89, 0, 0), (59, .aload_n 0, 0, 0, 0, 0), (60, .getfield 26, 2147, 13, 3, 0), (63, .iload_n 3, 0, 0, 0, 0), (64, .invokevirtual 360, 2212, 2819, 1, 11), (67, .ifCond .eq 22, 0, 89, 0, 0), (70, .aload_n 0, 0, 0, 0, 0), (71, .aload_n 0, 0, 0, 0, 0), (72, .getfield 43, 2149, 13, 5, 0), (75, .iload_n 2, 0, 0, 0, 0), (76, .aaload, 0, 0, 0, 0), (77, .aload_n 0, 0, 0, 0, 0), (78, .getfield 26, 2147, 13, 3, 0), (81, .iload_n 3, 0, 0, 0, 0), (82, .invokevirtual 157, 2225, 2817, 1, 11), (85, .invokevirtual 379, 4162, 3364, 2, 13), (88, .istore_n 1, 0, 0, 0, 0)]
noncomputable def kb_X11_isSound_89 : List (Nat × bO) := [(89, .iinc 3 1, 0, 0, 0, 0), (92, .goto (-55), 0, 37, 0, 0)]
noncomputable def kb_X11_isSound_95 : List (Nat × bO) := [(95, .iinc 2 1, 0, 0, 0, 0), (98, .goto (-72), 0, 26, 0, 0)]
noncomputable def kb_X11_isSound_101 : List (Nat × bO) := [(101, .iload_n 1, 0, 0, 0, 0), (102, .ireturn, 0, 0, 0, 0)]
set_option maxRecDepth 16000 in
theorem kbl_X11_isSound : tcode 3363 = List.flatten [kb_X11_isSound_0, kb_X11_isSound_22, kb_X11_isSound_23, kb_X11_isSound_26, kb_X11_isSound_37, kb_X11_isSound_89, kb_X11_isSound_95, kb_X11_isSound_101] := sorry
theorem kbs_X11_isSound : ksort (tcode 3363) = true := sorry
theorem tb_X11_isSound_0 {e : tE} {c : Bool} {d : Nat} {L : tL} {st : List tV} {M : tM} {n : Nat} {Q : tR → tM → Nat → Prop} (h : wB e c 3 d 3363 22 kb_X11_isSound_0 L st M n Q) : tT e d 3363 0 L st M n Q := sorry
theorem tb_X11_isSound_22 {e : tE} {c : Bool} {d : Nat} {L : tL} {st : List tV} {M : tM} {n : Nat} {Q : tR → tM → Nat → Prop} (h : wB e c 3 d 3363 23 kb_X11_isSound_22 L st M n Q) : tT e d 3363 22 L st M n Q := sorry
theorem tb_X11_isSound_23 {e : tE} {c : Bool} {d : Nat} {L : tL} {st : List tV} {M : tM} {n : Nat} {Q : tR → tM → Nat → Prop} (h : wB e c 3 d 3363 26 kb_X11_isSound_23 L st M n Q) : tT e d 3363 23 L st M n Q := sorry
theorem tb_X11_isSound_26 {e : tE} {c : Bool} {d : Nat} {L : tL} {st : List tV} {M : tM} {n : Nat} {Q : tR → tM → Nat → Prop} (h : wB e c 3 d 3363 37 kb_X11_isSound_26 L st M n Q) : tT e d 3363 26 L st M n Q := sorry
theorem tb_X11_isSound_37 {e : tE} {c : Bool} {d : Nat} {L : tL} {st : List tV} {M : tM} {n : Nat} {Q : tR → tM → Nat → Prop} (h : wB e c 3 d 3363 89 kb_X11_isSound_37 L st M n Q) : tT e d 3363 37 L st M n Q := sorry
theorem tb_X11_isSound_89 {e : tE} {c : Bool} {d : Nat} {L : tL} {st : List tV} {M : tM} {n : Nat} {Q : tR → tM → Nat → Prop} (h : wB e c 3 d 3363 95 kb_X11_isSound_89 L st M n Q) : tT e d 3363 89 L st M n Q := sorry
theorem tb_X11_isSound_95 {e : tE} {c : Bool} {d : Nat} {L : tL} {st : List tV} {M : tM} {n : Nat} {Q : tR → tM → Nat → Prop} (h : wB e c 3 d 3363 101 kb_X11_isSound_95 L st M n Q) : tT e d 3363 95 L st M n Q := sorry
theorem tb_X11_isSound_101 {e : tE} {c : Bool} {d : Nat} {L : tL} {st : List tV} {M : tM} {n : Nat} {Q : tR → tM → Nat → Prop} (h : wB e c 3 d 3363 103 kb_X11_isSound_101 L st M n Q) : tT e d 3363 101 L st M n Q := sorry
theorem bmx_X11_isSound : (bmeth 3363).2.2.1 = 4 := sorry
theorem tst_X11_isSound {e : tE} {d : Nat} {M : tM} {n : Nat} {Q : tR → tM → Nat → Prop} {r : Nat} (h : tT e d 3363 0 [some (.inr (.inr (.inl r))), none, none, none] [] M n Q) : tC e d 3363 [.inr (.inr (.inl r))] M n Q := sorry
noncomputable def kb_X11_isValueSound_0 : List (Nat × bO) := [(0, .aload_n 0, 0, 0, 0, 0), (1, .getfield 33, 2148, 13, 4, 0), (4, .aload_n 2, 0, 0, 0, 0), (5, .aload_n 2, 0, 0, 0, 0), (6, .invokevirtual 270, 4166, 2050, 2, 8), (9, .aload_n 0, 0, 0, 0, 0), (10, .getfield 33, 2148, 13, 4, 0), (13, .aload_n 1, 0, 0, 0, 0), (14, .invokevirtual 274, 4170, 2058, 1, 8), (17, .ifCond .eq 5, 0, 22, 0, 0), (20, .iconst 1, 0, 0, 0, 0), (21, .ireturn, 0, 0, 0, 0)]
noncomputable def kb_X11_isValueSound_22 : List (Nat × bO) := [(22, .aload_n 0, 0, 0, 0, 0), (23, .getfield 71, 2155, 13, 11, 0), (26, .aload_n 0, 0, 0, 0, 0), (27, .getfield 33, 2148, 13, 4, 0), (30, .invokevirtual 330, 4153, 2063, 0, 8), (33, .invokevirtual 161, 4157, 1026, 1, 4), (36, .iconst 1, 0, 0, 0, 0), (37, .istore_n 3, 0, 0, 0, 0), (38, .aload_n 0, 0, 0, 0, 0), (39, .getfield 9, 2144, 13, 0, 0), (42, .bipush 10, 0, 0, 0, 0), (44, .if_icmp .ge 61, 0, 105, 0, 0), (47, .aload_n 0, 0, 0, 0, 0), (48, .getfield 33, 2148, 13, 4, 0), (51, .aload_n 0, 0, 0, 0, 0), (52, .getfield 9, 2144, 13, 0, 0), (55, .iconst 1, 0, 0, 0, 0), (56, .iadd, 0, 0, 0, 0), (57, .invokevirtual 37, 2057, 2065, 1, 8), (60, .aload_n 0, 0, 0, 0, 0), (61, .getfield 33, 2148, 13, 4, 0), (64, .aload_n 1, 0, 0, 0, 0), (65, .invokevirtual 274, 4170, 2058, 1, 8), (68, .ifCond .ne 20, 0, 88, 0, 0), (71, .aload_n 0, 0, 0, 0, 0), (72, .getfield 33, 2148, 13, 4, 0), (75, .invokevirtual 330, 4153, 2063, 0, 8), (78, .aload_n 0, 0, 0, 0, 0), (79, .getfield 71, 2155, 13, 11, 0), (82, .invokevirtual 199, 4158, 1033, 1, 4), (85, .ifCond .eq 7, 0, 92, 0, 0)]
noncomputable def kb_X11_isValueSound_88 : List (Nat × bO) := [(88, .iconst 1, 0, 0, 0, 0), (89, .goto 4, 0, 93, 0, 0)]
noncomputable def kb_X11_isValueSound_92 : List (Nat × bO) := [(92, .iconst 0, 0, 0, 0, 0)]
noncomputable def kb_X11_isValueSound_93 : List (Nat × bO) := [(93, .istore_n 3, 0, 0, 0, 0), (94, .aload_n 0, 0, 0, 0, 0), (95, .getfield 33, 2148, 13, 4, 0), (98, .aload_n 0, 0, 0, 0, 0), (99, .getfield 9, 2144, 13, 0, 0), (102, .invokevirtual 37, 2057, 2065, 1, 8)]
noncomputable def kb_X11_isValueSound_105 : List (Nat × bO) := [(105, .aload_n 0, 0, 0, 0, 0), (106, .getfield 75, 2156, 13, 12, 0), (109, .aload_n 2, 0, 0, 0, 0), (110, .aload_n 0, 0, 0, 0, 0), (111, .getfield 33, 2148, 13, 4, 0), (114, .invokevirtual 304, 4192, 2064, 0, 8), (117, .invokevirtual 308, 4196, 1035, 2, 4), (120, .pop, 0, 0, 0, 0), (121, .aload_n 0, 0, 0, 0, 0), (122, .getfield 33, 2148, 13, 4, 0), (125, .aload_n 0, 0, 0, 0, 0), (126, .getfield 75, 2156, 13, 12, 0), (129, .aload_n 0, 0, 0, 0, 0), (130, .getfield 75, 2156, 13, 12, 0), (133, .invokevirtual 270, 4166, 2050, 2, 8), (136, .aload_n 0, 0, 0, 0, 0), (137, .getfield 33, 2148, 13, 4, 0), (140, .aload_n 1, 0, 0, 0, 0), (141, .invokevirtual 274, 4170, 2058, 1, 8), (144, .ifCond .ne 20, 0, 164, 0, 0), (147, .aload_n 0, 0, 0, 0, 0), (148, .getfield 33, 2148, 13, 4, 0), (151, .invokevirtual 330, 4153, 2063, 0, 8), (154, .aload_n 0, 0, 0, 0, 0), (155, .getfield 71, 2155, 13, 11, 0), (158, .invokevirtual 199, 4158, 1033, 1, 4), (161, .ifCond .eq 7, 0, 168, 0, 0)]
noncomputable def kb_X11_isValueSound_164 : List (Nat × bO) := [(164, .iconst 1, 0, 0, 0, 0), (165, .goto 4, 0, 169, 0, 0)]
noncomputable def kb_X11_isValueSound_168 : List (Nat × bO) := [(168, .iconst 0, 0, 0, 0, 0)]
noncomputable def kb_X11_isValueSound_169 : List (Nat × bO) := [(169, .istore 4, 0, 0, 0, 0), (171, .iload_n 3, 0, 0, 0, 0), (172, .ifCond .eq 12, 0, 184, 0, 0), (175, .iload 4, 0, 0, 0, 0), (177, .ifCond .eq 7, 0, 184, 0, 0), (180, .iconst 1, 0, 0, 0, 0), (181, .goto 4, 0, 185, 0, 0)]
noncomputable def kb_X11_isValueSound_184 : List (Nat × bO) := [(184, .iconst 0, 0, 0, 0, 0)]
noncomputable def kb_X11_isValueSound_185 : List (Nat × bO) := [(185, .ireturn, 0, 0, 0, 0)]
set_option maxRecDepth 16000 in
theorem kbl_X11_isValueSound : tcode 3364 = List.flatten [kb_X11_isValueSound_0, kb_X11_isValueSound_22, kb_X11_isValueSound_88, kb_X11_isValueSound_92, kb_X11_isValueSound_93, kb_X11_isValueSound_105, kb_X11_isValueSound_164, kb_X11_isValueSound_168, kb_X11_isValueSound_169, kb_X11_isValueSound_184, kb_X11_isValueSound_185] := sorry
theorem kbs_X11_isValueSound : ksort (tcode 3364) = true := sorry
theorem tb_X11_isValueSound_0 {e : tE} {c : Bool} {d : Nat} {L : tL} {st : List tV} {M : tM} {n : Nat} {Q : tR → tM → Nat → Prop} (h : wB e c 3 d 3364 22 kb_X11_isValueSound_0 L st M n Q) : tT e d 3364 0 L st M n Q := sorry
theorem tb_X11_isValueSound_22 {e : tE} {c : Bool} {d : Nat} {L : tL} {st : List tV} {M : tM} {n : Nat} {Q : tR → tM → Nat → Prop} (h : wB e c 3 d 3364 88 kb_X11_isValueSound_22 L st M n Q) : tT e d 3364 22 L st M n Q := sorry
theorem tb_X11_isValueSound_88 {e : tE} {c : Bool} {d : Nat} {L : tL} {st : List tV} {M : tM} {n : Nat} {Q : tR → tM → Nat → Prop} (h : wB e c 3 d 3364 92 kb_X11_isValueSound_88 L st M n Q) : tT e d 3364 88 L st M n Q := sorry
theorem tb_X11_isValueSound_92 {e : tE} {c : Bool} {d : Nat} {L : tL} {st : List tV} {M : tM} {n : Nat} {Q : tR → tM → Nat → Prop} (h : wB e c 3 d 3364 93 kb_X11_isValueSound_92 L st M n Q) : tT e d 3364 92 L st M n Q := sorry
theorem tb_X11_isValueSound_93 {e : tE} {c : Bool} {d : Nat} {L : tL} {st : List tV} {M : tM} {n : Nat} {Q : tR → tM → Nat → Prop} (h : wB e c 3 d 3364 105 kb_X11_isValueSound_93 L st M n Q) : tT e d 3364 93 L st M n Q := sorry
theorem tb_X11_isValueSound_105 {e : tE} {c : Bool} {d : Nat} {L : tL} {st : List tV} {M : tM} {n : Nat} {Q : tR → tM → Nat → Prop} (h : wB e c 3 d 3364 164 kb_X11_isValueSound_105 L st M n Q) : tT e d 3364 105 L st M n Q := sorry
theorem tb_X11_isValueSound_164 {e : tE} {c : Bool} {d : Nat} {L : tL} {st : List tV} {M : tM} {n : Nat} {Q : tR → tM → Nat → Prop} (h : wB e c 3 d 3364 168 kb_X11_isValueSound_164 L st M n Q) : tT e d 3364 164 L st M n Q := sorry
theorem tb_X11_isValueSound_168 {e : tE} {c : Bool} {d : Nat} {L : tL} {st : List tV} {M : tM} {n : Nat} {Q : tR → tM → Nat → Prop} (h : wB e c 3 d 3364 169 kb_X11_isValueSound_168 L st M n Q) : tT e d 3364 168 L st M n Q := sorry
theorem tb_X11_isValueSound_169 {e : tE} {c : Bool} {d : Nat} {L : tL} {st : List tV} {M : tM} {n : Nat} {Q : tR → tM → Nat → Prop} (h : wB e c 3 d 3364 184 kb_X11_isValueSound_169 L st M n Q) : tT e d 3364 169 L st M n Q := sorry
theorem tb_X11_isValueSound_184 {e : tE} {c : Bool} {d : Nat} {L : tL} {st : List tV} {M : tM} {n : Nat} {Q : tR → tM → Nat → Prop} (h : wB e c 3 d 3364 185 kb_X11_isValueSound_184 L st M n Q) : tT e d 3364 184 L st M n Q := sorry
theorem tb_X11_isValueSound_185 {e : tE} {c : Bool} {d : Nat} {L : tL} {st : List tV} {M : tM} {n : Nat} {Q : tR → tM → Nat → Prop} (h : wB e c 3 d 3364 186 kb_X11_isValueSound_185 L st M n Q) : tT e d 3364 185 L st M n Q := sorry
theorem bmx_X11_isValueSound : (bmeth 3364).2.2.1 = 5 := sorry
theorem tst_X11_isValueSound {e : tE} {d : Nat} {M : tM} {n : Nat} {Q : tR → tM → Nat → Prop} {r : Nat} {x1 : Nat ⊕ Nat} {x2 : Nat ⊕ Nat} (h : tT e d 3364 0 [some (.inr (.inr (.inl r))), some (.inr (.inr x1)), some (.inr (.inr x2)), none, none] [] M n Q) : tC e d 3364 [.inr (.inr (.inl r)), .inr (.inr x1), .inr (.inr x2)] M n Q := sorry
noncomputable def kb_X11_isWithin_0 : List (Nat × bO) := [(0, .aload_n 0, 0, 0, 0, 0), (1, .iload_n 1, 0, 0, 0, 0), (2, .iload_n 2, 0, 0, 0, 0), (3, .invokevirtual 195, 6050, 3342, 2, 13), (6, .aload_n 0, 0, 0, 0, 0), (7, .getfield 26, 2147, 13, 3, 0), (10, .iload_n 1, 0, 0, 0, 0), (11, .invokevirtual 157, 2225, 2817, 1, 11), (14, .aload_n 0, 0, 0, 0, 0), (15, .getfield 26, 2147, 13, 3, 0), (18, .iload_n 2, 0, 0, 0, 0), (19, .invokevirtual 157, 2225, 2817, 1, 11), (22, .invokevirtual 199, 4158, 1033, 1, 4), (25, .ireturn, 0, 0, 0, 0)]
set_option maxRecDepth 16000 in
theorem kbl_X11_isWithin : tcode 3365 = List.flatten [kb_X11_isWithin_0] := sorry
theorem kbs_X11_isWithin : ksort (tcode 3365) = true := sorry
theorem tb_X11_isWithin_0 {e : tE} {c : Bool} {d : Nat} {L : tL} {st : List tV} {M : tM} {n : Nat} {Q : tR → tM → Nat → Prop} (h : wB e c 3 d 3365 26 kb_X11_isWithin_0 L st M n Q) : tT e d 3365 0 L st M n Q := sorry
theorem bmx_X11_isWithin : (bmeth 3365).2.2.1 = 3 := sorry
theorem tst_X11_isWithin {e : tE} {d : Nat} {M : tM} {n : Nat} {Q : tR → tM → Nat → Prop} {r : Nat} {x1 : Int} {x2 : Int} (h : tT e d 3365 0 [some (.inr (.inr (.inl r))), some (.inl x1), some (.inl x2)] [] M n Q) : tC e d 3365 [.inr (.inr (.inl r)), .inl x1, .inl x2] M n Q := sorry
