/-! The blocks of the code. Printed by wip/p2/genblk.py. -/
noncomputable def kb_L_least_0 : List (Nat × bO) := [(0, .aload 5, 0, 0, 0, 0), (2, .iconst 0, 0, 0, 0, 0), (3, .aload_n 0, 0, 0, 0, 0), (4, .iload_n 1, 0, 0, 0, 0), (5, .iload_n 2, 0, 0, 0, 0), (6, .iload_n 3, 0, 0, 0, 0), (7, .iload 4, 0, 0, 0, 0), (9, .invokevirtual 135, 8019, 3369, 4, 13), (12, .ifCond .eq 7, 0, 19, 0, 0), (15, .lconst 1, 0, 0, 0, 0), (16, .goto 4, 0, 20, 0, 0)]
noncomputable def kb_L_least_19 : List (Nat × bO) := [(19, .lconst 0, 0, 0, 0, 0)]
noncomputable def kb_L_least_20 : List (Nat × bO) := [(20, .lastore, 0, 0, 0, 0), (21, .goto 28, 0, 49, 0, 0)]
noncomputable def kb_L_least_24 : List (Nat × bO) := [(24, .astore 6, 0, 0, 0, 0), (26, .iconst 1, 0, 0, 0, 0), (27, .ireturn, 0, 0, 0, 0)]
noncomputable def kb_L_least_28 : List (Nat × bO) := [(28, .astore 6, 0, 0, 0, 0), (30, .iconst 2, 0, 0, 0, 0), (31, .ireturn, 0, 0, 0, 0)]
noncomputable def kb_L_least_32 : List (Nat × bO) := [(32, .astore 6, 0, 0, 0, 0), (34, .iconst 3, 0, 0, 0, 0), (35, .ireturn, 0, 0, 0, 0)]
noncomputable def kb_L_least_36 : List (Nat × bO) := [(36, .astore 6, 0, 0, 0, 0), (38, .iconst 4, 0, 0, 0, 0), (39, .ireturn, 0, 0, 0, 0)]
noncomputable def kb_L_least_40 : List (Nat × bO) := [(40, .astore 6, 0, 0, 0, 0), (42, .iconst 5, 0, 0, 0, 0), (43, .ireturn, 0, 0, 0, 0)]
noncomputable def kb_L_least_44 : List (Nat × bO) := [(44, .astore 6, 0, 0, 0, 0), (46, .bipush 6, 0, 0, 0, 0), (48, .ireturn, 0, 0, 0, 0)]
noncomputable def kb_L_least_49 : List (Nat × bO) := [(49, .iconst 0, 0, 0, 0, 0), (50, .ireturn, 0, 0, 0, 0)]
set_option maxRecDepth 16000 in
theorem kbl_L_least : tcode 3854 = List.flatten [kb_L_least_0, kb_L_least_19, kb_L_least_20, kb_L_least_24, kb_L_least_28, kb_L_least_32, kb_L_least_36, kb_L_least_40, kb_L_least_44, kb_L_least_49] := sorry
theorem kbs_L_least : ksort (tcode 3854) = true := sorry
theorem tb_L_least_0 {e : tE} {c : Bool} {d : Nat} {L : tL} {st : List tV} {M : tM} {n : Nat} {Q : tR → tM → Nat → Prop} (h : wB e c 0 d 3854 19 kb_L_least_0 L st M n Q) : tT e d 3854 0 L st M n Q := sorry
theorem tb_L_least_19 {e : tE} {c : Bool} {d : Nat} {L : tL} {st : List tV} {M : tM} {n : Nat} {Q : tR → tM → Nat → Prop} (h : wB e c 0 d 3854 20 kb_L_least_19 L st M n Q) : tT e d 3854 19 L st M n Q := sorry
theorem tb_L_least_20 {e : tE} {c : Bool} {d : Nat} {L : tL} {st : List tV} {M : tM} {n : Nat} {Q : tR → tM → Nat → Prop} (h : wB e c 0 d 3854 24 kb_L_least_20 L st M n Q) : tT e d 3854 20 L st M n Q := sorry
theorem tb_L_least_24 {e : tE} {c : Bool} {d : Nat} {L : tL} {st : List tV} {M : tM} {n : Nat} {Q : tR → tM → Nat → Prop} (h : wB e c 0 d 3854 28 kb_L_least_24 L st M n Q) : tT e d 3854 24 L st M n Q := sorry
theorem tb_L_least_28 {e : tE} {c : Bool} {d : Nat} {L : tL} {st : List tV} {M : tM} {n : Nat} {Q : tR → tM → Nat → Prop} (h : wB e c 0 d 3854 32 kb_L_least_28 L st M n Q) : tT e d 3854 28 L st M n Q := sorry
theorem tb_L_least_32 {e : tE} {c : Bool} {d : Nat} {L : tL} {st : List tV} {M : tM} {n : Nat} {Q : tR → tM → Nat → Prop} (h : wB e c 0 d 3854 36 kb_L_least_32 L st M n Q) : tT e d 3854 32 L st M n Q := sorry
theorem tb_L_least_36 {e : tE} {c : Bool} {d : Nat} {L : tL} {st : List tV} {M : tM} {n : Nat} {Q : tR → tM → Nat → Prop} (h : wB e c 0 d 3854 40 kb_L_least_36 L st M n Q) : tT e d 3854 36 L st M n Q := sorry
theorem tb_L_least_40 {e : tE} {c : Bool} {d : Nat} {L : tL} {st : List tV} {M : tM} {n : Nat} {Q : tR → tM → Nat → Prop} (h : wB e c 0 d 3854 44 kb_L_least_40 L st M n Q) : tT e d 3854 40 L st M n Q := sorry
theorem tb_L_least_44 {e : tE} {c : Bool} {d : Nat} {L : tL} {st : List tV} {M : tM} {n : Nat} {Q : tR → tM → Nat → Prop} (h : wB e c 0 d 3854 49 kb_L_least_44 L st M n Q) : tT e d 3854 44 L st M n Q := sorry
theorem tb_L_least_49 {e : tE} {c : Bool} {d : Nat} {L : tL} {st : List tV} {M : tM} {n : Nat} {Q : tR → tM → Nat → Prop} (h : wB e c 0 d 3854 51 kb_L_least_49 L st M n Q) : tT e d 3854 49 L st M n Q := sorry
theorem bmx_L_least : (bmeth 3854).2.2.1 = 7 := sorry
theorem tst_L_least {e : tE} {d : Nat} {M : tM} {n : Nat} {Q : tR → tM → Nat → Prop} {x1 : Nat ⊕ Nat} {x2 : Int} {x3 : Int} {x4 : Int} {x5 : Int} {x6 : Nat ⊕ Nat} (h : tT e d 3854 0 [some (.inr (.inr x1)), some (.inl x2), some (.inl x3), some (.inl x4), some (.inl x5), some (.inr (.inr x6)), none] [] M n Q) : tC e d 3854 [.inr (.inr x1), .inl x2, .inl x3, .inl x4, .inl x5, .inr (.inr x6)] M n Q := sorry
noncomputable def kb_L_low_0 : List (Nat × bO) := [(0, .aload_n 2, 0, 0, 0, 0), (1, .iconst 0, 0, 0, 0, 0), (2, .aload_n 0, 0, 0, 0, 0), (3, .iload_n 1, 0, 0, 0, 0), (4, .invokevirtual 48, 6024, 3370, 1, 13), (7, .i2l, 0, 0, 0, 0), (8, .lastore, 0, 0, 0, 0), (9, .goto 9, 0, 18, 0, 0)]
noncomputable def kb_L_low_12 : List (Nat × bO) := [(12, .astore_n 3, 0, 0, 0, 0), (13, .iconst 1, 0, 0, 0, 0), (14, .ireturn, 0, 0, 0, 0)]
noncomputable def kb_L_low_15 : List (Nat × bO) := [(15, .astore_n 3, 0, 0, 0, 0), (16, .iconst 2, 0, 0, 0, 0), (17, .ireturn, 0, 0, 0, 0)]
noncomputable def kb_L_low_18 : List (Nat × bO) := [(18, .iconst 0, 0, 0, 0, 0), (19, .ireturn, 0, 0, 0, 0)]
set_option maxRecDepth 16000 in
theorem kbl_L_low : tcode 3855 = List.flatten [kb_L_low_0, kb_L_low_12, kb_L_low_15, kb_L_low_18] := sorry
theorem kbs_L_low : ksort (tcode 3855) = true := sorry
theorem tb_L_low_0 {e : tE} {c : Bool} {d : Nat} {L : tL} {st : List tV} {M : tM} {n : Nat} {Q : tR → tM → Nat → Prop} (h : wB e c 0 d 3855 12 kb_L_low_0 L st M n Q) : tT e d 3855 0 L st M n Q := sorry
theorem tb_L_low_12 {e : tE} {c : Bool} {d : Nat} {L : tL} {st : List tV} {M : tM} {n : Nat} {Q : tR → tM → Nat → Prop} (h : wB e c 0 d 3855 15 kb_L_low_12 L st M n Q) : tT e d 3855 12 L st M n Q := sorry
theorem tb_L_low_15 {e : tE} {c : Bool} {d : Nat} {L : tL} {st : List tV} {M : tM} {n : Nat} {Q : tR → tM → Nat → Prop} (h : wB e c 0 d 3855 18 kb_L_low_15 L st M n Q) : tT e d 3855 15 L st M n Q := sorry
theorem tb_L_low_18 {e : tE} {c : Bool} {d : Nat} {L : tL} {st : List tV} {M : tM} {n : Nat} {Q : tR → tM → Nat → Prop} (h : wB e c 0 d 3855 20 kb_L_low_18 L st M n Q) : tT e d 3855 18 L st M n Q := sorry
theorem bmx_L_low : (bmeth 3855).2.2.1 = 4 := sorry
theorem tst_L_low {e : tE} {d : Nat} {M : tM} {n : Nat} {Q : tR → tM → Nat → Prop} {x1 : Nat ⊕ Nat} {x2 : Int} {x3 : Nat ⊕ Nat} (h : tT e d 3855 0 [some (.inr (.inr x1)), some (.inl x2), some (.inr (.inr x3)), none] [] M n Q) : tC e d 3855 [.inr (.inr x1), .inl x2, .inr (.inr x3)] M n Q := sorry
noncomputable def kb_L_meet_0 : List (Nat × bO) := [(0, .aload 4, 0, 0, 0, 0), (2, .iconst 0, 0, 0, 0, 0), (3, .aload_n 0, 0, 0, 0, 0), (4, .iload_n 1, 0, 0, 0, 0), (5, .iload_n 2, 0, 0, 0, 0), (6, .iload_n 3, 0, 0, 0, 0), (7, .invokevirtual 45, 6012, 3374, 3, 13), (10, .ifCond .eq 7, 0, 17, 0, 0), (13, .lconst 1, 0, 0, 0, 0), (14, .goto 4, 0, 18, 0, 0)]
noncomputable def kb_L_meet_17 : List (Nat × bO) := [(17, .lconst 0, 0, 0, 0, 0)]
noncomputable def kb_L_meet_18 : List (Nat × bO) := [(18, .lastore, 0, 0, 0, 0), (19, .goto 11, 0, 30, 0, 0)]
noncomputable def kb_L_meet_22 : List (Nat × bO) := [(22, .astore 5, 0, 0, 0, 0), (24, .iconst 1, 0, 0, 0, 0), (25, .ireturn, 0, 0, 0, 0)]
noncomputable def kb_L_meet_26 : List (Nat × bO) := [(26, .astore 5, 0, 0, 0, 0), (28, .iconst 2, 0, 0, 0, 0), (29, .ireturn, 0, 0, 0, 0)]
noncomputable def kb_L_meet_30 : List (Nat × bO) := [(30, .iconst 0, 0, 0, 0, 0), (31, .ireturn, 0, 0, 0, 0)]
set_option maxRecDepth 16000 in
theorem kbl_L_meet : tcode 3856 = List.flatten [kb_L_meet_0, kb_L_meet_17, kb_L_meet_18, kb_L_meet_22, kb_L_meet_26, kb_L_meet_30] := sorry
theorem kbs_L_meet : ksort (tcode 3856) = true := sorry
theorem tb_L_meet_0 {e : tE} {c : Bool} {d : Nat} {L : tL} {st : List tV} {M : tM} {n : Nat} {Q : tR → tM → Nat → Prop} (h : wB e c 0 d 3856 17 kb_L_meet_0 L st M n Q) : tT e d 3856 0 L st M n Q := sorry
theorem tb_L_meet_17 {e : tE} {c : Bool} {d : Nat} {L : tL} {st : List tV} {M : tM} {n : Nat} {Q : tR → tM → Nat → Prop} (h : wB e c 0 d 3856 18 kb_L_meet_17 L st M n Q) : tT e d 3856 17 L st M n Q := sorry
theorem tb_L_meet_18 {e : tE} {c : Bool} {d : Nat} {L : tL} {st : List tV} {M : tM} {n : Nat} {Q : tR → tM → Nat → Prop} (h : wB e c 0 d 3856 22 kb_L_meet_18 L st M n Q) : tT e d 3856 18 L st M n Q := sorry
theorem tb_L_meet_22 {e : tE} {c : Bool} {d : Nat} {L : tL} {st : List tV} {M : tM} {n : Nat} {Q : tR → tM → Nat → Prop} (h : wB e c 0 d 3856 26 kb_L_meet_22 L st M n Q) : tT e d 3856 22 L st M n Q := sorry
theorem tb_L_meet_26 {e : tE} {c : Bool} {d : Nat} {L : tL} {st : List tV} {M : tM} {n : Nat} {Q : tR → tM → Nat → Prop} (h : wB e c 0 d 3856 30 kb_L_meet_26 L st M n Q) : tT e d 3856 26 L st M n Q := sorry
theorem tb_L_meet_30 {e : tE} {c : Bool} {d : Nat} {L : tL} {st : List tV} {M : tM} {n : Nat} {Q : tR → tM → Nat → Prop} (h : wB e c 0 d 3856 32 kb_L_meet_30 L st M n Q) : tT e d 3856 30 L st M n Q := sorry
theorem bmx_L_meet : (bmeth 3856).2.2.1 = 6 := sorry
theorem tst_L_meet {e : tE} {d : Nat} {M : tM} {n : Nat} {Q : tR → tM → Nat → Prop} {x1 : Nat ⊕ Nat} {x2 : Int} {x3 : Int} {x4 : Int} {x5 : Nat ⊕ Nat} (h : tT e d 3856 0 [some (.inr (.inr x1)), some (.inl x2), some (.inl x3), some (.inl x4), some (.inr (.inr x5)), none] [] M n Q) : tC e d 3856 [.inr (.inr x1), .inl x2, .inl x3, .inl x4, .inr (.inr x5)] M n Q := sorry
noncomputable def kb_L_move_0 : List (Nat × bO) := [(0, .aload 5, 0, 0, 0, 0), (2, .iconst 0, 0, 0, 0, 0), (3, .aload_n 0, 0, 0, 0, 0), (4, .iload_n 1, 0, 0, 0, 0), (5, .iload_n 2, 0, 0, 0, 0), (6, .iload_n 3, 0, 0, 0, 0), (7, .iload 4, 0, 0, 0, 0), (9, .invokevirtual 144, 8056, 3375, 4, 13), (12, .ifCond .eq 7, 0, 19, 0, 0), (15, .lconst 1, 0, 0, 0, 0), (16, .goto 4, 0, 20, 0, 0)]
noncomputable def kb_L_move_19 : List (Nat × bO) := [(19, .lconst 0, 0, 0, 0, 0)]
noncomputable def kb_L_move_20 : List (Nat × bO) := [(20, .lastore, 0, 0, 0, 0), (21, .goto 28, 0, 49, 0, 0)]
noncomputable def kb_L_move_24 : List (Nat × bO) := [(24, .astore 6, 0, 0, 0, 0), (26, .iconst 1, 0, 0, 0, 0), (27, .ireturn, 0, 0, 0, 0)]
noncomputable def kb_L_move_28 : List (Nat × bO) := [(28, .astore 6, 0, 0, 0, 0), (30, .iconst 2, 0, 0, 0, 0), (31, .ireturn, 0, 0, 0, 0)]
noncomputable def kb_L_move_32 : List (Nat × bO) := [(32, .astore 6, 0, 0, 0, 0), (34, .iconst 3, 0, 0, 0, 0), (35, .ireturn, 0, 0, 0, 0)]
noncomputable def kb_L_move_36 : List (Nat × bO) := [(36, .astore 6, 0, 0, 0, 0), (38, .iconst 4, 0, 0, 0, 0), (39, .ireturn, 0, 0, 0, 0)]
noncomputable def kb_L_move_40 : List (Nat × bO) := [(40, .astore 6, 0, 0, 0, 0), (42, .iconst 5, 0, 0, 0, 0), (43, .ireturn, 0, 0, 0, 0)]
noncomputable def kb_L_move_44 : List (Nat × bO) := [(44, .astore 6, 0, 0, 0, 0), (46, .bipush 6, 0, 0, 0, 0), (48, .ireturn, 0, 0, 0, 0)]
noncomputable def kb_L_move_49 : List (Nat × bO) := [(49, .iconst 0, 0, 0, 0, 0), (50, .ireturn, 0, 0, 0, 0)]
set_option maxRecDepth 16000 in
theorem kbl_L_move : tcode 3857 = List.flatten [kb_L_move_0, kb_L_move_19, kb_L_move_20, kb_L_move_24, kb_L_move_28, kb_L_move_32, kb_L_move_36, kb_L_move_40, kb_L_move_44, kb_L_move_49] := sorry
theorem kbs_L_move : ksort (tcode 3857) = true := sorry
theorem tb_L_move_0 {e : tE} {c : Bool} {d : Nat} {L : tL} {st : List tV} {M : tM} {n : Nat} {Q : tR → tM → Nat → Prop} (h : wB e c 0 d 3857 19 kb_L_move_0 L st M n Q) : tT e d 3857 0 L st M n Q := sorry
theorem tb_L_move_19 {e : tE} {c : Bool} {d : Nat} {L : tL} {st : List tV} {M : tM} {n : Nat} {Q : tR → tM → Nat → Prop} (h : wB e c 0 d 3857 20 kb_L_move_19 L st M n Q) : tT e d 3857 19 L st M n Q := sorry
theorem tb_L_move_20 {e : tE} {c : Bool} {d : Nat} {L : tL} {st : List tV} {M : tM} {n : Nat} {Q : tR → tM → Nat → Prop} (h : wB e c 0 d 3857 24 kb_L_move_20 L st M n Q) : tT e d 3857 20 L st M n Q := sorry
theorem tb_L_move_24 {e : tE} {c : Bool} {d : Nat} {L : tL} {st : List tV} {M : tM} {n : Nat} {Q : tR → tM → Nat → Prop} (h : wB e c 0 d 3857 28 kb_L_move_24 L st M n Q) : tT e d 3857 24 L st M n Q := sorry
theorem tb_L_move_28 {e : tE} {c : Bool} {d : Nat} {L : tL} {st : List tV} {M : tM} {n : Nat} {Q : tR → tM → Nat → Prop} (h : wB e c 0 d 3857 32 kb_L_move_28 L st M n Q) : tT e d 3857 28 L st M n Q := sorry
theorem tb_L_move_32 {e : tE} {c : Bool} {d : Nat} {L : tL} {st : List tV} {M : tM} {n : Nat} {Q : tR → tM → Nat → Prop} (h : wB e c 0 d 3857 36 kb_L_move_32 L st M n Q) : tT e d 3857 32 L st M n Q := sorry
theorem tb_L_move_36 {e : tE} {c : Bool} {d : Nat} {L : tL} {st : List tV} {M : tM} {n : Nat} {Q : tR → tM → Nat → Prop} (h : wB e c 0 d 3857 40 kb_L_move_36 L st M n Q) : tT e d 3857 36 L st M n Q := sorry
theorem tb_L_move_40 {e : tE} {c : Bool} {d : Nat} {L : tL} {st : List tV} {M : tM} {n : Nat} {Q : tR → tM → Nat → Prop} (h : wB e c 0 d 3857 44 kb_L_move_40 L st M n Q) : tT e d 3857 40 L st M n Q := sorry
theorem tb_L_move_44 {e : tE} {c : Bool} {d : Nat} {L : tL} {st : List tV} {M : tM} {n : Nat} {Q : tR → tM → Nat → Prop} (h : wB e c 0 d 3857 49 kb_L_move_44 L st M n Q) : tT e d 3857 44 L st M n Q := sorry
theorem tb_L_move_49 {e : tE} {c : Bool} {d : Nat} {L : tL} {st : List tV} {M : tM} {n : Nat} {Q : tR → tM → Nat → Prop} (h : wB e c 0 d 3857 51 kb_L_move_49 L st M n Q) : tT e d 3857 49 L st M n Q := sorry
theorem bmx_L_move : (bmeth 3857).2.2.1 = 7 := sorry
theorem tst_L_move {e : tE} {d : Nat} {M : tM} {n : Nat} {Q : tR → tM → Nat → Prop} {x1 : Nat ⊕ Nat} {x2 : Int} {x3 : Int} {x4 : Int} {x5 : Int} {x6 : Nat ⊕ Nat} (h : tT e d 3857 0 [some (.inr (.inr x1)), some (.inl x2), some (.inl x3), some (.inl x4), some (.inl x5), some (.inr (.inr x6)), none] [] M n Q) : tC e d 3857 [.inr (.inr x1), .inl x2, .inl x3, .inl x4, .inl x5, .inr (.inr x6)] M n Q := sorry
noncomputable def kb_L_multiply_0 : List (Nat × bO) := [(0, .aload 4, 0, 0, 0, 0), (2, .iconst 0, 0, 0, 0, 0), (3, .aload_n 0, 0, 0, 0, 0), (4, .iload_n 1, 0, 0, 0, 0), (5, .iload_n 2, 0, 0, 0, 0), (6, .iload_n 3, 0, 0, 0, 0), (7, .invokevirtual 78, 6110, 3376, 3, 13), (10, .ifCond .eq 7, 0, 17, 0, 0), (13, .lconst 1, 0, 0, 0, 0), (14, .goto 4, 0, 18, 0, 0)]
noncomputable def kb_L_multiply_17 : List (Nat × bO) := [(17, .lconst 0, 0, 0, 0, 0)]
noncomputable def kb_L_multiply_18 : List (Nat × bO) := [(18, .lastore, 0, 0, 0, 0), (19, .goto 15, 0, 34, 0, 0)]
noncomputable def kb_L_multiply_22 : List (Nat × bO) := [(22, .astore 5, 0, 0, 0, 0), (24, .iconst 1, 0, 0, 0, 0), (25, .ireturn, 0, 0, 0, 0)]
noncomputable def kb_L_multiply_26 : List (Nat × bO) := [(26, .astore 5, 0, 0, 0, 0), (28, .iconst 2, 0, 0, 0, 0), (29, .ireturn, 0, 0, 0, 0)]
noncomputable def kb_L_multiply_30 : List (Nat × bO) := [(30, .astore 5, 0, 0, 0, 0), (32, .iconst 3, 0, 0, 0, 0), (33, .ireturn, 0, 0, 0, 0)]
noncomputable def kb_L_multiply_34 : List (Nat × bO) := [(34, .iconst 0, 0, 0, 0, 0), (35, .ireturn, 0, 0, 0, 0)]
set_option maxRecDepth 16000 in
theorem kbl_L_multiply : tcode 3858 = List.flatten [kb_L_multiply_0, kb_L_multiply_17, kb_L_multiply_18, kb_L_multiply_22, kb_L_multiply_26, kb_L_multiply_30, kb_L_multiply_34] := sorry
theorem kbs_L_multiply : ksort (tcode 3858) = true := sorry
theorem tb_L_multiply_0 {e : tE} {c : Bool} {d : Nat} {L : tL} {st : List tV} {M : tM} {n : Nat} {Q : tR → tM → Nat → Prop} (h : wB e c 0 d 3858 17 kb_L_multiply_0 L st M n Q) : tT e d 3858 0 L st M n Q := sorry
theorem tb_L_multiply_17 {e : tE} {c : Bool} {d : Nat} {L : tL} {st : List tV} {M : tM} {n : Nat} {Q : tR → tM → Nat → Prop} (h : wB e c 0 d 3858 18 kb_L_multiply_17 L st M n Q) : tT e d 3858 17 L st M n Q := sorry
theorem tb_L_multiply_18 {e : tE} {c : Bool} {d : Nat} {L : tL} {st : List tV} {M : tM} {n : Nat} {Q : tR → tM → Nat → Prop} (h : wB e c 0 d 3858 22 kb_L_multiply_18 L st M n Q) : tT e d 3858 18 L st M n Q := sorry
theorem tb_L_multiply_22 {e : tE} {c : Bool} {d : Nat} {L : tL} {st : List tV} {M : tM} {n : Nat} {Q : tR → tM → Nat → Prop} (h : wB e c 0 d 3858 26 kb_L_multiply_22 L st M n Q) : tT e d 3858 22 L st M n Q := sorry
theorem tb_L_multiply_26 {e : tE} {c : Bool} {d : Nat} {L : tL} {st : List tV} {M : tM} {n : Nat} {Q : tR → tM → Nat → Prop} (h : wB e c 0 d 3858 30 kb_L_multiply_26 L st M n Q) : tT e d 3858 26 L st M n Q := sorry
theorem tb_L_multiply_30 {e : tE} {c : Bool} {d : Nat} {L : tL} {st : List tV} {M : tM} {n : Nat} {Q : tR → tM → Nat → Prop} (h : wB e c 0 d 3858 34 kb_L_multiply_30 L st M n Q) : tT e d 3858 30 L st M n Q := sorry
theorem tb_L_multiply_34 {e : tE} {c : Bool} {d : Nat} {L : tL} {st : List tV} {M : tM} {n : Nat} {Q : tR → tM → Nat → Prop} (h : wB e c 0 d 3858 36 kb_L_multiply_34 L st M n Q) : tT e d 3858 34 L st M n Q := sorry
theorem bmx_L_multiply : (bmeth 3858).2.2.1 = 6 := sorry
theorem tst_L_multiply {e : tE} {d : Nat} {M : tM} {n : Nat} {Q : tR → tM → Nat → Prop} {x1 : Nat ⊕ Nat} {x2 : Int} {x3 : Int} {x4 : Int} {x5 : Nat ⊕ Nat} (h : tT e d 3858 0 [some (.inr (.inr x1)), some (.inl x2), some (.inl x3), some (.inl x4), some (.inr (.inr x5)), none] [] M n Q) : tC e d 3858 [.inr (.inr x1), .inl x2, .inl x3, .inl x4, .inr (.inr x5)] M n Q := sorry
noncomputable def kb_L_narrow_0 : List (Nat × bO) := [(0, .aload 4, 0, 0, 0, 0), (2, .iconst 0, 0, 0, 0, 0), (3, .aload_n 0, 0, 0, 0, 0), (4, .iload_n 1, 0, 0, 0, 0), (5, .iload_n 2, 0, 0, 0, 0), (6, .iload_n 3, 0, 0, 0, 0), (7, .invokevirtual 128, 7224, 3377, 3, 13), (10, .ifCond .eq 7, 0, 17, 0, 0), (13, .lconst 1, 0, 0, 0, 0), (14, .goto 4, 0, 18, 0, 0)]
noncomputable def kb_L_narrow_17 : List (Nat × bO) := [(17, .lconst 0, 0, 0, 0, 0)]
noncomputable def kb_L_narrow_18 : List (Nat × bO) := [(18, .lastore, 0, 0, 0, 0), (19, .goto 23, 0, 42, 0, 0)]
noncomputable def kb_L_narrow_22 : List (Nat × bO) := [(22, .astore 5, 0, 0, 0, 0), (24, .iconst 1, 0, 0, 0, 0), (25, .ireturn, 0, 0, 0, 0)]
noncomputable def kb_L_narrow_26 : List (Nat × bO) := [(26, .astore 5, 0, 0, 0, 0), (28, .iconst 2, 0, 0, 0, 0), (29, .ireturn, 0, 0, 0, 0)]
noncomputable def kb_L_narrow_30 : List (Nat × bO) := [(30, .astore 5, 0, 0, 0, 0), (32, .iconst 3, 0, 0, 0, 0), (33, .ireturn, 0, 0, 0, 0)]
noncomputable def kb_L_narrow_34 : List (Nat × bO) := [(34, .astore 5, 0, 0, 0, 0), (36, .iconst 4, 0, 0, 0, 0), (37, .ireturn, 0, 0, 0, 0)]
noncomputable def kb_L_narrow_38 : List (Nat × bO) := [(38, .astore 5, 0, 0, 0, 0), (40, .iconst 5, 0, 0, 0, 0), (41, .ireturn, 0, 0, 0, 0)]
noncomputable def kb_L_narrow_42 : List (Nat × bO) := [(42, .iconst 0, 0, 0, 0, 0), (43, .ireturn, 0, 0, 0, 0)]
set_option maxRecDepth 16000 in
theorem kbl_L_narrow : tcode 3859 = List.flatten [kb_L_narrow_0, kb_L_narrow_17, kb_L_narrow_18, kb_L_narrow_22, kb_L_narrow_26, kb_L_narrow_30, kb_L_narrow_34, kb_L_narrow_38, kb_L_narrow_42] := sorry
theorem kbs_L_narrow : ksort (tcode 3859) = true := sorry
theorem tb_L_narrow_0 {e : tE} {c : Bool} {d : Nat} {L : tL} {st : List tV} {M : tM} {n : Nat} {Q : tR → tM → Nat → Prop} (h : wB e c 0 d 3859 17 kb_L_narrow_0 L st M n Q) : tT e d 3859 0 L st M n Q := sorry
theorem tb_L_narrow_17 {e : tE} {c : Bool} {d : Nat} {L : tL} {st : List tV} {M : tM} {n : Nat} {Q : tR → tM → Nat → Prop} (h : wB e c 0 d 3859 18 kb_L_narrow_17 L st M n Q) : tT e d 3859 17 L st M n Q := sorry
theorem tb_L_narrow_18 {e : tE} {c : Bool} {d : Nat} {L : tL} {st : List tV} {M : tM} {n : Nat} {Q : tR → tM → Nat → Prop} (h : wB e c 0 d 3859 22 kb_L_narrow_18 L st M n Q) : tT e d 3859 18 L st M n Q := sorry
theorem tb_L_narrow_22 {e : tE} {c : Bool} {d : Nat} {L : tL} {st : List tV} {M : tM} {n : Nat} {Q : tR → tM → Nat → Prop} (h : wB e c 0 d 3859 26 kb_L_narrow_22 L st M n Q) : tT e d 3859 22 L st M n Q := sorry
theorem tb_L_narrow_26 {e : tE} {c : Bool} {d : Nat} {L : tL} {st : List tV} {M : tM} {n : Nat} {Q : tR → tM → Nat → Prop} (h : wB e c 0 d 3859 30 kb_L_narrow_26 L st M n Q) : tT e d 3859 26 L st M n Q := sorry
theorem tb_L_narrow_30 {e : tE} {c : Bool} {d : Nat} {L : tL} {st : List tV} {M : tM} {n : Nat} {Q : tR → tM → Nat → Prop} (h : wB e c 0 d 3859 34 kb_L_narrow_30 L st M n Q) : tT e d 3859 30 L st M n Q := sorry
theorem tb_L_narrow_34 {e : tE} {c : Bool} {d : Nat} {L : tL} {st : List tV} {M : tM} {n : Nat} {Q : tR → tM → Nat → Prop} (h : wB e c 0 d 3859 38 kb_L_narrow_34 L st M n Q) : tT e d 3859 34 L st M n Q := sorry
theorem tb_L_narrow_38 {e : tE} {c : Bool} {d : Nat} {L : tL} {st : List tV} {M : tM} {n : Nat} {Q : tR → tM → Nat → Prop} (h : wB e c 0 d 3859 42 kb_L_narrow_38 L st M n Q) : tT e d 3859 38 L st M n Q := sorry
theorem tb_L_narrow_42 {e : tE} {c : Bool} {d : Nat} {L : tL} {st : List tV} {M : tM} {n : Nat} {Q : tR → tM → Nat → Prop} (h : wB e c 0 d 3859 44 kb_L_narrow_42 L st M n Q) : tT e d 3859 42 L st M n Q := sorry
theorem bmx_L_narrow : (bmeth 3859).2.2.1 = 6 := sorry
theorem tst_L_narrow {e : tE} {d : Nat} {M : tM} {n : Nat} {Q : tR → tM → Nat → Prop} {x1 : Nat ⊕ Nat} {x2 : Int} {x3 : Int} {x4 : Int} {x5 : Nat ⊕ Nat} (h : tT e d 3859 0 [some (.inr (.inr x1)), some (.inl x2), some (.inl x3), some (.inl x4), some (.inr (.inr x5)), none] [] M n Q) : tC e d 3859 [.inr (.inr x1), .inl x2, .inl x3, .inl x4, .inr (.inr x5)] M n Q := sorry
noncomputable def kb_L_pairs_0 : List (Nat × bO) := [(0, .aload 6, 0, 0, 0, 0), (2, .iconst 0, 0, 0, 0, 0), (3, .aload_n 0, 0, 0, 0, 0), (4, .iload_n 1, 0, 0, 0, 0), (5, .iload_n 2, 0, 0, 0, 0), (6, .iload_n 3, 0, 0, 0, 0), (7, .iload 4, 0, 0, 0, 0), (9, .iload 5, 0, 0, 0, 0), (11, .invokevirtual 131, 7236, 3378, 5, 13), (14, .i2l, 0, 0, 0, 0), (15, .lastore, 0, 0, 0, 0), (16, .goto 15, 0, 31, 0, 0)]
noncomputable def kb_L_pairs_19 : List (Nat × bO) := [(19, .astore 7, 0, 0, 0, 0), (21, .iconst 1, 0, 0, 0, 0), (22, .ireturn, 0, 0, 0, 0)]
noncomputable def kb_L_pairs_23 : List (Nat × bO) := [(23, .astore 7, 0, 0, 0, 0), (25, .iconst 2, 0, 0, 0, 0), (26, .ireturn, 0, 0, 0, 0)]
noncomputable def kb_L_pairs_27 : List (Nat × bO) := [(27, .astore 7, 0, 0, 0, 0), (29, .iconst 3, 0, 0, 0, 0), (30, .ireturn, 0, 0, 0, 0)]
noncomputable def kb_L_pairs_31 : List (Nat × bO) := [(31, .iconst 0, 0, 0, 0, 0), (32, .ireturn, 0, 0, 0, 0)]
set_option maxRecDepth 16000 in
theorem kbl_L_pairs : tcode 3860 = List.flatten [kb_L_pairs_0, kb_L_pairs_19, kb_L_pairs_23, kb_L_pairs_27, kb_L_pairs_31] := sorry
theorem kbs_L_pairs : ksort (tcode 3860) = true := sorry
theorem tb_L_pairs_0 {e : tE} {c : Bool} {d : Nat} {L : tL} {st : List tV} {M : tM} {n : Nat} {Q : tR → tM → Nat → Prop} (h : wB e c 0 d 3860 19 kb_L_pairs_0 L st M n Q) : tT e d 3860 0 L st M n Q := sorry
theorem tb_L_pairs_19 {e : tE} {c : Bool} {d : Nat} {L : tL} {st : List tV} {M : tM} {n : Nat} {Q : tR → tM → Nat → Prop} (h : wB e c 0 d 3860 23 kb_L_pairs_19 L st M n Q) : tT e d 3860 19 L st M n Q := sorry
theorem tb_L_pairs_23 {e : tE} {c : Bool} {d : Nat} {L : tL} {st : List tV} {M : tM} {n : Nat} {Q : tR → tM → Nat → Prop} (h : wB e c 0 d 3860 27 kb_L_pairs_23 L st M n Q) : tT e d 3860 23 L st M n Q := sorry
theorem tb_L_pairs_27 {e : tE} {c : Bool} {d : Nat} {L : tL} {st : List tV} {M : tM} {n : Nat} {Q : tR → tM → Nat → Prop} (h : wB e c 0 d 3860 31 kb_L_pairs_27 L st M n Q) : tT e d 3860 27 L st M n Q := sorry
theorem tb_L_pairs_31 {e : tE} {c : Bool} {d : Nat} {L : tL} {st : List tV} {M : tM} {n : Nat} {Q : tR → tM → Nat → Prop} (h : wB e c 0 d 3860 33 kb_L_pairs_31 L st M n Q) : tT e d 3860 31 L st M n Q := sorry
theorem bmx_L_pairs : (bmeth 3860).2.2.1 = 8 := sorry
theorem tst_L_pairs {e : tE} {d : Nat} {M : tM} {n : Nat} {Q : tR → tM → Nat → Prop} {x1 : Nat ⊕ Nat} {x2 : Int} {x3 : Int} {x4 : Int} {x5 : Int} {x6 : Int} {x7 : Nat ⊕ Nat} (h : tT e d 3860 0 [some (.inr (.inr x1)), some (.inl x2), some (.inl x3), some (.inl x4), some (.inl x5), some (.inl x6), some (.inr (.inr x7)), none] [] M n Q) : tC e d 3860 [.inr (.inr x1), .inl x2, .inl x3, .inl x4, .inl x5, .inl x6, .inr (.inr x7)] M n Q := sorry
noncomputable def kb_L_piece_0 : List (Nat × bO) := [(0, .aload_n 3, 0, 0, 0, 0), (1, .iconst 0, 0, 0, 0, 0), (2, .aload_n 0, 0, 0, 0, 0), (3, .iload_n 1, 0, 0, 0, 0), (4, .iload_n 2, 0, 0, 0, 0), (5, .invokevirtual 125, 7213, 3379, 2, 13), (8, .ifCond .eq 7, 0, 15, 0, 0), (11, .lconst 1, 0, 0, 0, 0), (12, .goto 4, 0, 16, 0, 0)]
noncomputable def kb_L_piece_15 : List (Nat × bO) := [(15, .lconst 0, 0, 0, 0, 0)]
noncomputable def kb_L_piece_16 : List (Nat × bO) := [(16, .lastore, 0, 0, 0, 0), (17, .goto 11, 0, 28, 0, 0)]
noncomputable def kb_L_piece_20 : List (Nat × bO) := [(20, .astore 4, 0, 0, 0, 0), (22, .iconst 1, 0, 0, 0, 0), (23, .ireturn, 0, 0, 0, 0)]
noncomputable def kb_L_piece_24 : List (Nat × bO) := [(24, .astore 4, 0, 0, 0, 0), (26, .iconst 2, 0, 0, 0, 0), (27, .ireturn, 0, 0, 0, 0)]
noncomputable def kb_L_piece_28 : List (Nat × bO) := [(28, .iconst 0, 0, 0, 0, 0), (29, .ireturn, 0, 0, 0, 0)]
set_option maxRecDepth 16000 in
theorem kbl_L_piece : tcode 3861 = List.flatten [kb_L_piece_0, kb_L_piece_15, kb_L_piece_16, kb_L_piece_20, kb_L_piece_24, kb_L_piece_28] := sorry
theorem kbs_L_piece : ksort (tcode 3861) = true := sorry
theorem tb_L_piece_0 {e : tE} {c : Bool} {d : Nat} {L : tL} {st : List tV} {M : tM} {n : Nat} {Q : tR → tM → Nat → Prop} (h : wB e c 0 d 3861 15 kb_L_piece_0 L st M n Q) : tT e d 3861 0 L st M n Q := sorry
theorem tb_L_piece_15 {e : tE} {c : Bool} {d : Nat} {L : tL} {st : List tV} {M : tM} {n : Nat} {Q : tR → tM → Nat → Prop} (h : wB e c 0 d 3861 16 kb_L_piece_15 L st M n Q) : tT e d 3861 15 L st M n Q := sorry
theorem tb_L_piece_16 {e : tE} {c : Bool} {d : Nat} {L : tL} {st : List tV} {M : tM} {n : Nat} {Q : tR → tM → Nat → Prop} (h : wB e c 0 d 3861 20 kb_L_piece_16 L st M n Q) : tT e d 3861 16 L st M n Q := sorry
theorem tb_L_piece_20 {e : tE} {c : Bool} {d : Nat} {L : tL} {st : List tV} {M : tM} {n : Nat} {Q : tR → tM → Nat → Prop} (h : wB e c 0 d 3861 24 kb_L_piece_20 L st M n Q) : tT e d 3861 20 L st M n Q := sorry
theorem tb_L_piece_24 {e : tE} {c : Bool} {d : Nat} {L : tL} {st : List tV} {M : tM} {n : Nat} {Q : tR → tM → Nat → Prop} (h : wB e c 0 d 3861 28 kb_L_piece_24 L st M n Q) : tT e d 3861 24 L st M n Q := sorry
theorem tb_L_piece_28 {e : tE} {c : Bool} {d : Nat} {L : tL} {st : List tV} {M : tM} {n : Nat} {Q : tR → tM → Nat → Prop} (h : wB e c 0 d 3861 30 kb_L_piece_28 L st M n Q) : tT e d 3861 28 L st M n Q := sorry
theorem bmx_L_piece : (bmeth 3861).2.2.1 = 5 := sorry
theorem tst_L_piece {e : tE} {d : Nat} {M : tM} {n : Nat} {Q : tR → tM → Nat → Prop} {x1 : Nat ⊕ Nat} {x2 : Int} {x3 : Int} {x4 : Nat ⊕ Nat} (h : tT e d 3861 0 [some (.inr (.inr x1)), some (.inl x2), some (.inl x3), some (.inr (.inr x4)), none] [] M n Q) : tC e d 3861 [.inr (.inr x1), .inl x2, .inl x3, .inr (.inr x4)] M n Q := sorry
noncomputable def kb_L_pieceKind_0 : List (Nat × bO) := [(0, .aload_n 2, 0, 0, 0, 0), (1, .iconst 0, 0, 0, 0, 0), (2, .aload_n 0, 0, 0, 0, 0), (3, .iload_n 1, 0, 0, 0, 0), (4, .invokevirtual 122, 7193, 3380, 1, 13), (7, .i2l, 0, 0, 0, 0), (8, .lastore, 0, 0, 0, 0), (9, .goto 6, 0, 15, 0, 0)]
noncomputable def kb_L_pieceKind_12 : List (Nat × bO) := [(12, .astore_n 3, 0, 0, 0, 0), (13, .iconst 1, 0, 0, 0, 0), (14, .ireturn, 0, 0, 0, 0)]
noncomputable def kb_L_pieceKind_15 : List (Nat × bO) := [(15, .iconst 0, 0, 0, 0, 0), (16, .ireturn, 0, 0, 0, 0)]
set_option maxRecDepth 16000 in
theorem kbl_L_pieceKind : tcode 3862 = List.flatten [kb_L_pieceKind_0, kb_L_pieceKind_12, kb_L_pieceKind_15] := sorry
theorem kbs_L_pieceKind : ksort (tcode 3862) = true := sorry
theorem tb_L_pieceKind_0 {e : tE} {c : Bool} {d : Nat} {L : tL} {st : List tV} {M : tM} {n : Nat} {Q : tR → tM → Nat → Prop} (h : wB e c 0 d 3862 12 kb_L_pieceKind_0 L st M n Q) : tT e d 3862 0 L st M n Q := sorry
theorem tb_L_pieceKind_12 {e : tE} {c : Bool} {d : Nat} {L : tL} {st : List tV} {M : tM} {n : Nat} {Q : tR → tM → Nat → Prop} (h : wB e c 0 d 3862 15 kb_L_pieceKind_12 L st M n Q) : tT e d 3862 12 L st M n Q := sorry
theorem tb_L_pieceKind_15 {e : tE} {c : Bool} {d : Nat} {L : tL} {st : List tV} {M : tM} {n : Nat} {Q : tR → tM → Nat → Prop} (h : wB e c 0 d 3862 17 kb_L_pieceKind_15 L st M n Q) : tT e d 3862 15 L st M n Q := sorry
theorem bmx_L_pieceKind : (bmeth 3862).2.2.1 = 4 := sorry
theorem tst_L_pieceKind {e : tE} {d : Nat} {M : tM} {n : Nat} {Q : tR → tM → Nat → Prop} {x1 : Nat ⊕ Nat} {x2 : Int} {x3 : Nat ⊕ Nat} (h : tT e d 3862 0 [some (.inr (.inr x1)), some (.inl x2), some (.inr (.inr x3)), none] [] M n Q) : tC e d 3862 [.inr (.inr x1), .inl x2, .inr (.inr x3)] M n Q := sorry
noncomputable def kb_L_power_0 : List (Nat × bO) := [(0, .aload 4, 0, 0, 0, 0), (2, .iconst 0, 0, 0, 0, 0), (3, .aload_n 0, 0, 0, 0, 0), (4, .iload_n 1, 0, 0, 0, 0), (5, .iload_n 2, 0, 0, 0, 0), (6, .iload_n 3, 0, 0, 0, 0), (7, .invokevirtual 86, 6125, 3381, 3, 13), (10, .ifCond .eq 7, 0, 17, 0, 0), (13, .lconst 1, 0, 0, 0, 0), (14, .goto 4, 0, 18, 0, 0)]
noncomputable def kb_L_power_17 : List (Nat × bO) := [(17, .lconst 0, 0, 0, 0, 0)]
noncomputable def kb_L_power_18 : List (Nat × bO) := [(18, .lastore, 0, 0, 0, 0), (19, .goto 19, 0, 38, 0, 0)]
noncomputable def kb_L_power_22 : List (Nat × bO) := [(22, .astore 5, 0, 0, 0, 0), (24, .iconst 1, 0, 0, 0, 0), (25, .ireturn, 0, 0, 0, 0)]
noncomputable def kb_L_power_26 : List (Nat × bO) := [(26, .astore 5, 0, 0, 0, 0), (28, .iconst 2, 0, 0, 0, 0), (29, .ireturn, 0, 0, 0, 0)]
noncomputable def kb_L_power_30 : List (Nat × bO) := [(30, .astore 5, 0, 0, 0, 0), (32, .iconst 3, 0, 0, 0, 0), (33, .ireturn, 0, 0, 0, 0)]
noncomputable def kb_L_power_34 : List (Nat × bO) := [(34, .astore 5, 0, 0, 0, 0), (36, .iconst 4, 0, 0, 0, 0), (37, .ireturn, 0, 0, 0, 0)]
noncomputable def kb_L_power_38 : List (Nat × bO) := [(38, .iconst 0, 0, 0, 0, 0), (39, .ireturn, 0, 0, 0, 0)]
set_option maxRecDepth 16000 in
theorem kbl_L_power : tcode 3863 = List.flatten [kb_L_power_0, kb_L_power_17, kb_L_power_18, kb_L_power_22, kb_L_power_26, kb_L_power_30, kb_L_power_34, kb_L_power_38] := sorry
theorem kbs_L_power : ksort (tcode 3863) = true := sorry
theorem tb_L_power_0 {e : tE} {c : Bool} {d : Nat} {L : tL} {st : List tV} {M : tM} {n : Nat} {Q : tR → tM → Nat → Prop} (h : wB e c 0 d 3863 17 kb_L_power_0 L st M n Q) : tT e d 3863 0 L st M n Q := sorry
theorem tb_L_power_17 {e : tE} {c : Bool} {d : Nat} {L : tL} {st : List tV} {M : tM} {n : Nat} {Q : tR → tM → Nat → Prop} (h : wB e c 0 d 3863 18 kb_L_power_17 L st M n Q) : tT e d 3863 17 L st M n Q := sorry
theorem tb_L_power_18 {e : tE} {c : Bool} {d : Nat} {L : tL} {st : List tV} {M : tM} {n : Nat} {Q : tR → tM → Nat → Prop} (h : wB e c 0 d 3863 22 kb_L_power_18 L st M n Q) : tT e d 3863 18 L st M n Q := sorry
theorem tb_L_power_22 {e : tE} {c : Bool} {d : Nat} {L : tL} {st : List tV} {M : tM} {n : Nat} {Q : tR → tM → Nat → Prop} (h : wB e c 0 d 3863 26 kb_L_power_22 L st M n Q) : tT e d 3863 22 L st M n Q := sorry
theorem tb_L_power_26 {e : tE} {c : Bool} {d : Nat} {L : tL} {st : List tV} {M : tM} {n : Nat} {Q : tR → tM → Nat → Prop} (h : wB e c 0 d 3863 30 kb_L_power_26 L st M n Q) : tT e d 3863 26 L st M n Q := sorry
theorem tb_L_power_30 {e : tE} {c : Bool} {d : Nat} {L : tL} {st : List tV} {M : tM} {n : Nat} {Q : tR → tM → Nat → Prop} (h : wB e c 0 d 3863 34 kb_L_power_30 L st M n Q) : tT e d 3863 30 L st M n Q := sorry
theorem tb_L_power_34 {e : tE} {c : Bool} {d : Nat} {L : tL} {st : List tV} {M : tM} {n : Nat} {Q : tR → tM → Nat → Prop} (h : wB e c 0 d 3863 38 kb_L_power_34 L st M n Q) : tT e d 3863 34 L st M n Q := sorry
theorem tb_L_power_38 {e : tE} {c : Bool} {d : Nat} {L : tL} {st : List tV} {M : tM} {n : Nat} {Q : tR → tM → Nat → Prop} (h : wB e c 0 d 3863 40 kb_L_power_38 L st M n Q) : tT e d 3863 38 L st M n Q := sorry
theorem bmx_L_power : (bmeth 3863).2.2.1 = 6 := sorry
theorem tst_L_power {e : tE} {d : Nat} {M : tM} {n : Nat} {Q : tR → tM → Nat → Prop} {x1 : Nat ⊕ Nat} {x2 : Int} {x3 : Int} {x4 : Int} {x5 : Nat ⊕ Nat} (h : tT e d 3863 0 [some (.inr (.inr x1)), some (.inl x2), some (.inl x3), some (.inl x4), some (.inr (.inr x5)), none] [] M n Q) : tC e d 3863 [.inr (.inr x1), .inl x2, .inl x3, .inl x4, .inr (.inr x5)] M n Q := sorry
noncomputable def kb_L_put_0 : List (Nat × bO) := [(0, .aload 5, 0, 0, 0, 0), (2, .iconst 0, 0, 0, 0, 0), (3, .aload_n 0, 0, 0, 0, 0), (4, .iload_n 1, 0, 0, 0, 0), (5, .lload_n 2, 0, 0, 0, 0), (6, .iload 4, 0, 0, 0, 0), (8, .invokevirtual 25, 5112, 3382, 3, 13), (11, .ifCond .eq 7, 0, 18, 0, 0), (14, .lconst 1, 0, 0, 0, 0), (15, .goto 4, 0, 19, 0, 0)]
noncomputable def kb_L_put_18 : List (Nat × bO) := [(18, .lconst 0, 0, 0, 0, 0)]
noncomputable def kb_L_put_19 : List (Nat × bO) := [(19, .lastore, 0, 0, 0, 0), (20, .goto 15, 0, 35, 0, 0)]
noncomputable def kb_L_put_23 : List (Nat × bO) := [(23, .astore 6, 0, 0, 0, 0), (25, .iconst 1, 0, 0, 0, 0), (26, .ireturn, 0, 0, 0, 0)]
noncomputable def kb_L_put_27 : List (Nat × bO) := [(27, .astore 6, 0, 0, 0, 0), (29, .iconst 2, 0, 0, 0, 0), (30, .ireturn, 0, 0, 0, 0)]
noncomputable def kb_L_put_31 : List (Nat × bO) := [(31, .astore 6, 0, 0, 0, 0), (33, .iconst 3, 0, 0, 0, 0), (34, .ireturn, 0, 0, 0, 0)]
noncomputable def kb_L_put_35 : List (Nat × bO) := [(35, .iconst 0, 0, 0, 0, 0), (36, .ireturn, 0, 0, 0, 0)]
set_option maxRecDepth 16000 in
theorem kbl_L_put : tcode 3864 = List.flatten [kb_L_put_0, kb_L_put_18, kb_L_put_19, kb_L_put_23, kb_L_put_27, kb_L_put_31, kb_L_put_35] := sorry
theorem kbs_L_put : ksort (tcode 3864) = true := sorry
theorem tb_L_put_0 {e : tE} {c : Bool} {d : Nat} {L : tL} {st : List tV} {M : tM} {n : Nat} {Q : tR → tM → Nat → Prop} (h : wB e c 0 d 3864 18 kb_L_put_0 L st M n Q) : tT e d 3864 0 L st M n Q := sorry
theorem tb_L_put_18 {e : tE} {c : Bool} {d : Nat} {L : tL} {st : List tV} {M : tM} {n : Nat} {Q : tR → tM → Nat → Prop} (h : wB e c 0 d 3864 19 kb_L_put_18 L st M n Q) : tT e d 3864 18 L st M n Q := sorry
theorem tb_L_put_19 {e : tE} {c : Bool} {d : Nat} {L : tL} {st : List tV} {M : tM} {n : Nat} {Q : tR → tM → Nat → Prop} (h : wB e c 0 d 3864 23 kb_L_put_19 L st M n Q) : tT e d 3864 19 L st M n Q := sorry
theorem tb_L_put_23 {e : tE} {c : Bool} {d : Nat} {L : tL} {st : List tV} {M : tM} {n : Nat} {Q : tR → tM → Nat → Prop} (h : wB e c 0 d 3864 27 kb_L_put_23 L st M n Q) : tT e d 3864 23 L st M n Q := sorry
theorem tb_L_put_27 {e : tE} {c : Bool} {d : Nat} {L : tL} {st : List tV} {M : tM} {n : Nat} {Q : tR → tM → Nat → Prop} (h : wB e c 0 d 3864 31 kb_L_put_27 L st M n Q) : tT e d 3864 27 L st M n Q := sorry
theorem tb_L_put_31 {e : tE} {c : Bool} {d : Nat} {L : tL} {st : List tV} {M : tM} {n : Nat} {Q : tR → tM → Nat → Prop} (h : wB e c 0 d 3864 35 kb_L_put_31 L st M n Q) : tT e d 3864 31 L st M n Q := sorry
theorem tb_L_put_35 {e : tE} {c : Bool} {d : Nat} {L : tL} {st : List tV} {M : tM} {n : Nat} {Q : tR → tM → Nat → Prop} (h : wB e c 0 d 3864 37 kb_L_put_35 L st M n Q) : tT e d 3864 35 L st M n Q := sorry
theorem bmx_L_put : (bmeth 3864).2.2.1 = 7 := sorry
theorem tst_L_put {e : tE} {d : Nat} {M : tM} {n : Nat} {Q : tR → tM → Nat → Prop} {x1 : Nat ⊕ Nat} {x2 : Int} {x3 : Int} {x4 : Int} {x5 : Nat ⊕ Nat} (h : tT e d 3864 0 [some (.inr (.inr x1)), some (.inl x2), some (.inr (.inl x3)), none, some (.inl x4), some (.inr (.inr x5)), none] [] M n Q) : tC e d 3864 [.inr (.inr x1), .inl x2, .inr (.inl x3), .inl x4, .inr (.inr x5)] M n Q := sorry
noncomputable def kb_L_read_0 : List (Nat × bO) := [(0, .aload_n 2, 0, 0, 0, 0), (1, .iconst 0, 0, 0, 0, 0), (2, .aload_n 0, 0, 0, 0, 0), (3, .iload_n 1, 0, 0, 0, 0), (4, .invokevirtual 31, 5172, 3383, 1, 13), (7, .ifCond .eq 7, 0, 14, 0, 0), (10, .lconst 1, 0, 0, 0, 0), (11, .goto 4, 0, 15, 0, 0)]
noncomputable def kb_L_read_14 : List (Nat × bO) := [(14, .lconst 0, 0, 0, 0, 0)]
noncomputable def kb_L_read_15 : List (Nat × bO) := [(15, .lastore, 0, 0, 0, 0), (16, .goto 12, 0, 28, 0, 0)]
noncomputable def kb_L_read_19 : List (Nat × bO) := [(19, .astore_n 3, 0, 0, 0, 0), (20, .iconst 1, 0, 0, 0, 0), (21, .ireturn, 0, 0, 0, 0)]
noncomputable def kb_L_read_22 : List (Nat × bO) := [(22, .astore_n 3, 0, 0, 0, 0), (23, .iconst 2, 0, 0, 0, 0), (24, .ireturn, 0, 0, 0, 0)]
noncomputable def kb_L_read_25 : List (Nat × bO) := [(25, .astore_n 3, 0, 0, 0, 0), (26, .iconst 3, 0, 0, 0, 0), (27, .ireturn, 0, 0, 0, 0)]
noncomputable def kb_L_read_28 : List (Nat × bO) := [(28, .iconst 0, 0, 0, 0, 0), (29, .ireturn, 0, 0, 0, 0)]
set_option maxRecDepth 16000 in
theorem kbl_L_read : tcode 3865 = List.flatten [kb_L_read_0, kb_L_read_14, kb_L_read_15, kb_L_read_19, kb_L_read_22, kb_L_read_25, kb_L_read_28] := sorry
theorem kbs_L_read : ksort (tcode 3865) = true := sorry
theorem tb_L_read_0 {e : tE} {c : Bool} {d : Nat} {L : tL} {st : List tV} {M : tM} {n : Nat} {Q : tR → tM → Nat → Prop} (h : wB e c 0 d 3865 14 kb_L_read_0 L st M n Q) : tT e d 3865 0 L st M n Q := sorry
theorem tb_L_read_14 {e : tE} {c : Bool} {d : Nat} {L : tL} {st : List tV} {M : tM} {n : Nat} {Q : tR → tM → Nat → Prop} (h : wB e c 0 d 3865 15 kb_L_read_14 L st M n Q) : tT e d 3865 14 L st M n Q := sorry
theorem tb_L_read_15 {e : tE} {c : Bool} {d : Nat} {L : tL} {st : List tV} {M : tM} {n : Nat} {Q : tR → tM → Nat → Prop} (h : wB e c 0 d 3865 19 kb_L_read_15 L st M n Q) : tT e d 3865 15 L st M n Q := sorry
theorem tb_L_read_19 {e : tE} {c : Bool} {d : Nat} {L : tL} {st : List tV} {M : tM} {n : Nat} {Q : tR → tM → Nat → Prop} (h : wB e c 0 d 3865 22 kb_L_read_19 L st M n Q) : tT e d 3865 19 L st M n Q := sorry
theorem tb_L_read_22 {e : tE} {c : Bool} {d : Nat} {L : tL} {st : List tV} {M : tM} {n : Nat} {Q : tR → tM → Nat → Prop} (h : wB e c 0 d 3865 25 kb_L_read_22 L st M n Q) : tT e d 3865 22 L st M n Q := sorry
theorem tb_L_read_25 {e : tE} {c : Bool} {d : Nat} {L : tL} {st : List tV} {M : tM} {n : Nat} {Q : tR → tM → Nat → Prop} (h : wB e c 0 d 3865 28 kb_L_read_25 L st M n Q) : tT e d 3865 25 L st M n Q := sorry
theorem tb_L_read_28 {e : tE} {c : Bool} {d : Nat} {L : tL} {st : List tV} {M : tM} {n : Nat} {Q : tR → tM → Nat → Prop} (h : wB e c 0 d 3865 30 kb_L_read_28 L st M n Q) : tT e d 3865 28 L st M n Q := sorry
theorem bmx_L_read : (bmeth 3865).2.2.1 = 4 := sorry
theorem tst_L_read {e : tE} {d : Nat} {M : tM} {n : Nat} {Q : tR → tM → Nat → Prop} {x1 : Nat ⊕ Nat} {x2 : Int} {x3 : Nat ⊕ Nat} (h : tT e d 3865 0 [some (.inr (.inr x1)), some (.inl x2), some (.inr (.inr x3)), none] [] M n Q) : tC e d 3865 [.inr (.inr x1), .inl x2, .inr (.inr x3)] M n Q := sorry
noncomputable def kb_L_root_0 : List (Nat × bO) := [(0, .aload 4, 0, 0, 0, 0), (2, .iconst 0, 0, 0, 0, 0), (3, .aload_n 0, 0, 0, 0, 0), (4, .iload_n 1, 0, 0, 0, 0), (5, .iload_n 2, 0, 0, 0, 0), (6, .iload_n 3, 0, 0, 0, 0), (7, .invokevirtual 89, 6137, 3384, 3, 13), (10, .ifCond .eq 7, 0, 17, 0, 0), (13, .lconst 1, 0, 0, 0, 0), (14, .goto 4, 0, 18, 0, 0)]
noncomputable def kb_L_root_17 : List (Nat × bO) := [(17, .lconst 0, 0, 0, 0, 0)]
noncomputable def kb_L_root_18 : List (Nat × bO) := [(18, .lastore, 0, 0, 0, 0), (19, .goto 19, 0, 38, 0, 0)]
noncomputable def kb_L_root_22 : List (Nat × bO) := [(22, .astore 5, 0, 0, 0, 0), (24, .iconst 1, 0, 0, 0, 0), (25, .ireturn, 0, 0, 0, 0)]
noncomputable def kb_L_root_26 : List (Nat × bO) := [(26, .astore 5, 0, 0, 0, 0), (28, .iconst 2, 0, 0, 0, 0), (29, .ireturn, 0, 0, 0, 0)]
noncomputable def kb_L_root_30 : List (Nat × bO) := [(30, .astore 5, 0, 0, 0, 0), (32, .iconst 3, 0, 0, 0, 0), (33, .ireturn, 0, 0, 0, 0)]
noncomputable def kb_L_root_34 : List (Nat × bO) := [(34, .astore 5, 0, 0, 0, 0), (36, .iconst 4, 0, 0, 0, 0), (37, .ireturn, 0, 0, 0, 0)]
noncomputable def kb_L_root_38 : List (Nat × bO) := [(38, .iconst 0, 0, 0, 0, 0), (39, .ireturn, 0, 0, 0, 0)]
set_option maxRecDepth 16000 in
theorem kbl_L_root : tcode 3866 = List.flatten [kb_L_root_0, kb_L_root_17, kb_L_root_18, kb_L_root_22, kb_L_root_26, kb_L_root_30, kb_L_root_34, kb_L_root_38] := sorry
theorem kbs_L_root : ksort (tcode 3866) = true := sorry
theorem tb_L_root_0 {e : tE} {c : Bool} {d : Nat} {L : tL} {st : List tV} {M : tM} {n : Nat} {Q : tR → tM → Nat → Prop} (h : wB e c 0 d 3866 17 kb_L_root_0 L st M n Q) : tT e d 3866 0 L st M n Q := sorry
theorem tb_L_root_17 {e : tE} {c : Bool} {d : Nat} {L : tL} {st : List tV} {M : tM} {n : Nat} {Q : tR → tM → Nat → Prop} (h : wB e c 0 d 3866 18 kb_L_root_17 L st M n Q) : tT e d 3866 17 L st M n Q := sorry
theorem tb_L_root_18 {e : tE} {c : Bool} {d : Nat} {L : tL} {st : List tV} {M : tM} {n : Nat} {Q : tR → tM → Nat → Prop} (h : wB e c 0 d 3866 22 kb_L_root_18 L st M n Q) : tT e d 3866 18 L st M n Q := sorry
theorem tb_L_root_22 {e : tE} {c : Bool} {d : Nat} {L : tL} {st : List tV} {M : tM} {n : Nat} {Q : tR → tM → Nat → Prop} (h : wB e c 0 d 3866 26 kb_L_root_22 L st M n Q) : tT e d 3866 22 L st M n Q := sorry
theorem tb_L_root_26 {e : tE} {c : Bool} {d : Nat} {L : tL} {st : List tV} {M : tM} {n : Nat} {Q : tR → tM → Nat → Prop} (h : wB e c 0 d 3866 30 kb_L_root_26 L st M n Q) : tT e d 3866 26 L st M n Q := sorry
theorem tb_L_root_30 {e : tE} {c : Bool} {d : Nat} {L : tL} {st : List tV} {M : tM} {n : Nat} {Q : tR → tM → Nat → Prop} (h : wB e c 0 d 3866 34 kb_L_root_30 L st M n Q) : tT e d 3866 30 L st M n Q := sorry
theorem tb_L_root_34 {e : tE} {c : Bool} {d : Nat} {L : tL} {st : List tV} {M : tM} {n : Nat} {Q : tR → tM → Nat → Prop} (h : wB e c 0 d 3866 38 kb_L_root_34 L st M n Q) : tT e d 3866 34 L st M n Q := sorry
theorem tb_L_root_38 {e : tE} {c : Bool} {d : Nat} {L : tL} {st : List tV} {M : tM} {n : Nat} {Q : tR → tM → Nat → Prop} (h : wB e c 0 d 3866 40 kb_L_root_38 L st M n Q) : tT e d 3866 38 L st M n Q := sorry
theorem bmx_L_root : (bmeth 3866).2.2.1 = 6 := sorry
theorem tst_L_root {e : tE} {d : Nat} {M : tM} {n : Nat} {Q : tR → tM → Nat → Prop} {x1 : Nat ⊕ Nat} {x2 : Int} {x3 : Int} {x4 : Int} {x5 : Nat ⊕ Nat} (h : tT e d 3866 0 [some (.inr (.inr x1)), some (.inl x2), some (.inl x3), some (.inl x4), some (.inr (.inr x5)), none] [] M n Q) : tC e d 3866 [.inr (.inr x1), .inl x2, .inl x3, .inl x4, .inr (.inr x5)] M n Q := sorry
noncomputable def kb_L_setDigits_0 : List (Nat × bO) := [(0, .aload_n 2, 0, 0, 0, 0), (1, .iconst 0, 0, 0, 0, 0), (2, .aload_n 0, 0, 0, 0, 0), (3, .iload_n 1, 0, 0, 0, 0), (4, .invokevirtual 7, 4211, 3386, 1, 13), (7, .i2l, 0, 0, 0, 0), (8, .lastore, 0, 0, 0, 0), (9, .goto 6, 0, 15, 0, 0)]
noncomputable def kb_L_setDigits_12 : List (Nat × bO) := [(12, .astore_n 3, 0, 0, 0, 0), (13, .iconst 1, 0, 0, 0, 0), (14, .ireturn, 0, 0, 0, 0)]
noncomputable def kb_L_setDigits_15 : List (Nat × bO) := [(15, .iconst 0, 0, 0, 0, 0), (16, .ireturn, 0, 0, 0, 0)]
set_option maxRecDepth 16000 in
theorem kbl_L_setDigits : tcode 3867 = List.flatten [kb_L_setDigits_0, kb_L_setDigits_12, kb_L_setDigits_15] := sorry
theorem kbs_L_setDigits : ksort (tcode 3867) = true := sorry
theorem tb_L_setDigits_0 {e : tE} {c : Bool} {d : Nat} {L : tL} {st : List tV} {M : tM} {n : Nat} {Q : tR → tM → Nat → Prop} (h : wB e c 0 d 3867 12 kb_L_setDigits_0 L st M n Q) : tT e d 3867 0 L st M n Q := sorry
theorem tb_L_setDigits_12 {e : tE} {c : Bool} {d : Nat} {L : tL} {st : List tV} {M : tM} {n : Nat} {Q : tR → tM → Nat → Prop} (h : wB e c 0 d 3867 15 kb_L_setDigits_12 L st M n Q) : tT e d 3867 12 L st M n Q := sorry
theorem tb_L_setDigits_15 {e : tE} {c : Bool} {d : Nat} {L : tL} {st : List tV} {M : tM} {n : Nat} {Q : tR → tM → Nat → Prop} (h : wB e c 0 d 3867 17 kb_L_setDigits_15 L st M n Q) : tT e d 3867 15 L st M n Q := sorry
theorem bmx_L_setDigits : (bmeth 3867).2.2.1 = 4 := sorry
theorem tst_L_setDigits {e : tE} {d : Nat} {M : tM} {n : Nat} {Q : tR → tM → Nat → Prop} {x1 : Nat ⊕ Nat} {x2 : Int} {x3 : Nat ⊕ Nat} (h : tT e d 3867 0 [some (.inr (.inr x1)), some (.inl x2), some (.inr (.inr x3)), none] [] M n Q) : tC e d 3867 [.inr (.inr x1), .inl x2, .inr (.inr x3)] M n Q := sorry
noncomputable def kb_L_signAt_0 : List (Nat × bO) := [(0, .aload_n 2, 0, 0, 0, 0), (1, .iconst 0, 0, 0, 0, 0), (2, .aload_n 0, 0, 0, 0, 0), (3, .iload_n 1, 0, 0, 0, 0), (4, .invokevirtual 21, 5076, 3388, 1, 13), (7, .i2l, 0, 0, 0, 0), (8, .lastore, 0, 0, 0, 0), (9, .goto 6, 0, 15, 0, 0)]
noncomputable def kb_L_signAt_12 : List (Nat × bO) := [(12, .astore_n 3, 0, 0, 0, 0), (13, .iconst 1, 0, 0, 0, 0), (14, .ireturn, 0, 0, 0, 0)]
noncomputable def kb_L_signAt_15 : List (Nat × bO) := [(15, .iconst 0, 0, 0, 0, 0), (16, .ireturn, 0, 0, 0, 0)]
set_option maxRecDepth 16000 in
theorem kbl_L_signAt : tcode 3868 = List.flatten [kb_L_signAt_0, kb_L_signAt_12, kb_L_signAt_15] := sorry
theorem kbs_L_signAt : ksort (tcode 3868) = true := sorry
theorem tb_L_signAt_0 {e : tE} {c : Bool} {d : Nat} {L : tL} {st : List tV} {M : tM} {n : Nat} {Q : tR → tM → Nat → Prop} (h : wB e c 0 d 3868 12 kb_L_signAt_0 L st M n Q) : tT e d 3868 0 L st M n Q := sorry
theorem tb_L_signAt_12 {e : tE} {c : Bool} {d : Nat} {L : tL} {st : List tV} {M : tM} {n : Nat} {Q : tR → tM → Nat → Prop} (h : wB e c 0 d 3868 15 kb_L_signAt_12 L st M n Q) : tT e d 3868 12 L st M n Q := sorry
theorem tb_L_signAt_15 {e : tE} {c : Bool} {d : Nat} {L : tL} {st : List tV} {M : tM} {n : Nat} {Q : tR → tM → Nat → Prop} (h : wB e c 0 d 3868 17 kb_L_signAt_15 L st M n Q) : tT e d 3868 15 L st M n Q := sorry
theorem bmx_L_signAt : (bmeth 3868).2.2.1 = 4 := sorry
theorem tst_L_signAt {e : tE} {d : Nat} {M : tM} {n : Nat} {Q : tR → tM → Nat → Prop} {x1 : Nat ⊕ Nat} {x2 : Int} {x3 : Nat ⊕ Nat} (h : tT e d 3868 0 [some (.inr (.inr x1)), some (.inl x2), some (.inr (.inr x3)), none] [] M n Q) : tC e d 3868 [.inr (.inr x1), .inl x2, .inr (.inr x3)] M n Q := sorry
noncomputable def kb_L_slope_0 : List (Nat × bO) := [(0, .aload 5, 0, 0, 0, 0), (2, .iconst 0, 0, 0, 0, 0), (3, .aload_n 0, 0, 0, 0, 0), (4, .iload_n 1, 0, 0, 0, 0), (5, .iload_n 2, 0, 0, 0, 0), (6, .iload_n 3, 0, 0, 0, 0), (7, .iload 4, 0, 0, 0, 0), (9, .invokevirtual 110, 7027, 3389, 4, 13), (12, .ifCond .eq 7, 0, 19, 0, 0), (15, .lconst 1, 0, 0, 0, 0), (16, .goto 4, 0, 20, 0, 0)]
noncomputable def kb_L_slope_19 : List (Nat × bO) := [(19, .lconst 0, 0, 0, 0, 0)]
noncomputable def kb_L_slope_20 : List (Nat × bO) := [(20, .lastore, 0, 0, 0, 0), (21, .goto 19, 0, 40, 0, 0)]
noncomputable def kb_L_slope_24 : List (Nat × bO) := [(24, .astore 6, 0, 0, 0, 0), (26, .iconst 1, 0, 0, 0, 0), (27, .ireturn, 0, 0, 0, 0)]
noncomputable def kb_L_slope_28 : List (Nat × bO) := [(28, .astore 6, 0, 0, 0, 0), (30, .iconst 2, 0, 0, 0, 0), (31, .ireturn, 0, 0, 0, 0)]
noncomputable def kb_L_slope_32 : List (Nat × bO) := [(32, .astore 6, 0, 0, 0, 0), (34, .iconst 3, 0, 0, 0, 0), (35, .ireturn, 0, 0, 0, 0)]
noncomputable def kb_L_slope_36 : List (Nat × bO) := [(36, .astore 6, 0, 0, 0, 0), (38, .iconst 4, 0, 0, 0, 0), (39, .ireturn, 0, 0, 0, 0)]
noncomputable def kb_L_slope_40 : List (Nat × bO) := [(40, .iconst 0, 0, 0, 0, 0), (41, .ireturn, 0, 0, 0, 0)]
set_option maxRecDepth 16000 in
theorem kbl_L_slope : tcode 3869 = List.flatten [kb_L_slope_0, kb_L_slope_19, kb_L_slope_20, kb_L_slope_24, kb_L_slope_28, kb_L_slope_32, kb_L_slope_36, kb_L_slope_40] := sorry
theorem kbs_L_slope : ksort (tcode 3869) = true := sorry
theorem tb_L_slope_0 {e : tE} {c : Bool} {d : Nat} {L : tL} {st : List tV} {M : tM} {n : Nat} {Q : tR → tM → Nat → Prop} (h : wB e c 0 d 3869 19 kb_L_slope_0 L st M n Q) : tT e d 3869 0 L st M n Q := sorry
theorem tb_L_slope_19 {e : tE} {c : Bool} {d : Nat} {L : tL} {st : List tV} {M : tM} {n : Nat} {Q : tR → tM → Nat → Prop} (h : wB e c 0 d 3869 20 kb_L_slope_19 L st M n Q) : tT e d 3869 19 L st M n Q := sorry
theorem tb_L_slope_20 {e : tE} {c : Bool} {d : Nat} {L : tL} {st : List tV} {M : tM} {n : Nat} {Q : tR → tM → Nat → Prop} (h : wB e c 0 d 3869 24 kb_L_slope_20 L st M n Q) : tT e d 3869 20 L st M n Q := sorry
theorem tb_L_slope_24 {e : tE} {c : Bool} {d : Nat} {L : tL} {st : List tV} {M : tM} {n : Nat} {Q : tR → tM → Nat → Prop} (h : wB e c 0 d 3869 28 kb_L_slope_24 L st M n Q) : tT e d 3869 24 L st M n Q := sorry
theorem tb_L_slope_28 {e : tE} {c : Bool} {d : Nat} {L : tL} {st : List tV} {M : tM} {n : Nat} {Q : tR → tM → Nat → Prop} (h : wB e c 0 d 3869 32 kb_L_slope_28 L st M n Q) : tT e d 3869 28 L st M n Q := sorry
theorem tb_L_slope_32 {e : tE} {c : Bool} {d : Nat} {L : tL} {st : List tV} {M : tM} {n : Nat} {Q : tR → tM → Nat → Prop} (h : wB e c 0 d 3869 36 kb_L_slope_32 L st M n Q) : tT e d 3869 32 L st M n Q := sorry
theorem tb_L_slope_36 {e : tE} {c : Bool} {d : Nat} {L : tL} {st : List tV} {M : tM} {n : Nat} {Q : tR → tM → Nat → Prop} (h : wB e c 0 d 3869 40 kb_L_slope_36 L st M n Q) : tT e d 3869 36 L st M n Q := sorry
theorem tb_L_slope_40 {e : tE} {c : Bool} {d : Nat} {L : tL} {st : List tV} {M : tM} {n : Nat} {Q : tR → tM → Nat → Prop} (h : wB e c 0 d 3869 42 kb_L_slope_40 L st M n Q) : tT e d 3869 40 L st M n Q := sorry
theorem bmx_L_slope : (bmeth 3869).2.2.1 = 7 := sorry
theorem tst_L_slope {e : tE} {d : Nat} {M : tM} {n : Nat} {Q : tR → tM → Nat → Prop} {x1 : Nat ⊕ Nat} {x2 : Int} {x3 : Int} {x4 : Int} {x5 : Int} {x6 : Nat ⊕ Nat} (h : tT e d 3869 0 [some (.inr (.inr x1)), some (.inl x2), some (.inl x3), some (.inl x4), some (.inl x5), some (.inr (.inr x6)), none] [] M n Q) : tC e d 3869 [.inr (.inr x1), .inl x2, .inl x3, .inl x4, .inl x5, .inr (.inr x6)] M n Q := sorry
noncomputable def kb_L_solve_0 : List (Nat × bO) := [(0, .aload 4, 0, 0, 0, 0), (2, .iconst 0, 0, 0, 0, 0), (3, .aload_n 0, 0, 0, 0, 0), (4, .iload_n 1, 0, 0, 0, 0), (5, .iload_n 2, 0, 0, 0, 0), (6, .iload_n 3, 0, 0, 0, 0), (7, .invokevirtual 96, 6153, 3390, 3, 13), (10, .ifCond .eq 7, 0, 17, 0, 0), (13, .lconst 1, 0, 0, 0, 0), (14, .goto 4, 0, 18, 0, 0)]
noncomputable def kb_L_solve_17 : List (Nat × bO) := [(17, .lconst 0, 0, 0, 0, 0)]
noncomputable def kb_L_solve_18 : List (Nat × bO) := [(18, .lastore, 0, 0, 0, 0), (19, .goto 19, 0, 38, 0, 0)]
noncomputable def kb_L_solve_22 : List (Nat × bO) := [(22, .astore 5, 0, 0, 0, 0), (24, .iconst 1, 0, 0, 0, 0), (25, .ireturn, 0, 0, 0, 0)]
noncomputable def kb_L_solve_26 : List (Nat × bO) := [(26, .astore 5, 0, 0, 0, 0), (28, .iconst 2, 0, 0, 0, 0), (29, .ireturn, 0, 0, 0, 0)]
noncomputable def kb_L_solve_30 : List (Nat × bO) := [(30, .astore 5, 0, 0, 0, 0), (32, .iconst 3, 0, 0, 0, 0), (33, .ireturn, 0, 0, 0, 0)]
noncomputable def kb_L_solve_34 : List (Nat × bO) := [(34, .astore 5, 0, 0, 0, 0), (36, .iconst 4, 0, 0, 0, 0), (37, .ireturn, 0, 0, 0, 0)]
noncomputable def kb_L_solve_38 : List (Nat × bO) := [(38, .iconst 0, 0, 0, 0, 0), (39, .ireturn, 0, 0, 0, 0)]
set_option maxRecDepth 16000 in
theorem kbl_L_solve : tcode 3870 = List.flatten [kb_L_solve_0, kb_L_solve_17, kb_L_solve_18, kb_L_solve_22, kb_L_solve_26, kb_L_solve_30, kb_L_solve_34, kb_L_solve_38] := sorry
theorem kbs_L_solve : ksort (tcode 3870) = true := sorry
theorem tb_L_solve_0 {e : tE} {c : Bool} {d : Nat} {L : tL} {st : List tV} {M : tM} {n : Nat} {Q : tR → tM → Nat → Prop} (h : wB e c 0 d 3870 17 kb_L_solve_0 L st M n Q) : tT e d 3870 0 L st M n Q := sorry
theorem tb_L_solve_17 {e : tE} {c : Bool} {d : Nat} {L : tL} {st : List tV} {M : tM} {n : Nat} {Q : tR → tM → Nat → Prop} (h : wB e c 0 d 3870 18 kb_L_solve_17 L st M n Q) : tT e d 3870 17 L st M n Q := sorry
theorem tb_L_solve_18 {e : tE} {c : Bool} {d : Nat} {L : tL} {st : List tV} {M : tM} {n : Nat} {Q : tR → tM → Nat → Prop} (h : wB e c 0 d 3870 22 kb_L_solve_18 L st M n Q) : tT e d 3870 18 L st M n Q := sorry
theorem tb_L_solve_22 {e : tE} {c : Bool} {d : Nat} {L : tL} {st : List tV} {M : tM} {n : Nat} {Q : tR → tM → Nat → Prop} (h : wB e c 0 d 3870 26 kb_L_solve_22 L st M n Q) : tT e d 3870 22 L st M n Q := sorry
theorem tb_L_solve_26 {e : tE} {c : Bool} {d : Nat} {L : tL} {st : List tV} {M : tM} {n : Nat} {Q : tR → tM → Nat → Prop} (h : wB e c 0 d 3870 30 kb_L_solve_26 L st M n Q) : tT e d 3870 26 L st M n Q := sorry
theorem tb_L_solve_30 {e : tE} {c : Bool} {d : Nat} {L : tL} {st : List tV} {M : tM} {n : Nat} {Q : tR → tM → Nat → Prop} (h : wB e c 0 d 3870 34 kb_L_solve_30 L st M n Q) : tT e d 3870 30 L st M n Q := sorry
theorem tb_L_solve_34 {e : tE} {c : Bool} {d : Nat} {L : tL} {st : List tV} {M : tM} {n : Nat} {Q : tR → tM → Nat → Prop} (h : wB e c 0 d 3870 38 kb_L_solve_34 L st M n Q) : tT e d 3870 34 L st M n Q := sorry
theorem tb_L_solve_38 {e : tE} {c : Bool} {d : Nat} {L : tL} {st : List tV} {M : tM} {n : Nat} {Q : tR → tM → Nat → Prop} (h : wB e c 0 d 3870 40 kb_L_solve_38 L st M n Q) : tT e d 3870 38 L st M n Q := sorry
theorem bmx_L_solve : (bmeth 3870).2.2.1 = 6 := sorry
theorem tst_L_solve {e : tE} {d : Nat} {M : tM} {n : Nat} {Q : tR → tM → Nat → Prop} {x1 : Nat ⊕ Nat} {x2 : Int} {x3 : Int} {x4 : Int} {x5 : Nat ⊕ Nat} (h : tT e d 3870 0 [some (.inr (.inr x1)), some (.inl x2), some (.inl x3), some (.inl x4), some (.inr (.inr x5)), none] [] M n Q) : tC e d 3870 [.inr (.inr x1), .inl x2, .inl x3, .inl x4, .inr (.inr x5)] M n Q := sorry
noncomputable def kb_L_subtract_0 : List (Nat × bO) := [(0, .aload 4, 0, 0, 0, 0), (2, .iconst 0, 0, 0, 0, 0), (3, .aload_n 0, 0, 0, 0, 0), (4, .iload_n 1, 0, 0, 0, 0), (5, .iload_n 2, 0, 0, 0, 0), (6, .iload_n 3, 0, 0, 0, 0), (7, .invokevirtual 75, 6103, 3391, 3, 13), (10, .ifCond .eq 7, 0, 17, 0, 0), (13, .lconst 1, 0, 0, 0, 0), (14, .goto 4, 0, 18, 0, 0)]
noncomputable def kb_L_subtract_17 : List (Nat × bO) := [(17, .lconst 0, 0, 0, 0, 0)]
noncomputable def kb_L_subtract_18 : List (Nat × bO) := [(18, .lastore, 0, 0, 0, 0), (19, .goto 15, 0, 34, 0, 0)]
noncomputable def kb_L_subtract_22 : List (Nat × bO) := [(22, .astore 5, 0, 0, 0, 0), (24, .iconst 1, 0, 0, 0, 0), (25, .ireturn, 0, 0, 0, 0)]
noncomputable def kb_L_subtract_26 : List (Nat × bO) := [(26, .astore 5, 0, 0, 0, 0), (28, .iconst 2, 0, 0, 0, 0), (29, .ireturn, 0, 0, 0, 0)]
noncomputable def kb_L_subtract_30 : List (Nat × bO) := [(30, .astore 5, 0, 0, 0, 0), (32, .iconst 3, 0, 0, 0, 0), (33, .ireturn, 0, 0, 0, 0)]
noncomputable def kb_L_subtract_34 : List (Nat × bO) := [(34, .iconst 0, 0, 0, 0, 0), (35, .ireturn, 0, 0, 0, 0)]
set_option maxRecDepth 16000 in
theorem kbl_L_subtract : tcode 3871 = List.flatten [kb_L_subtract_0, kb_L_subtract_17, kb_L_subtract_18, kb_L_subtract_22, kb_L_subtract_26, kb_L_subtract_30, kb_L_subtract_34] := sorry
theorem kbs_L_subtract : ksort (tcode 3871) = true := sorry
theorem tb_L_subtract_0 {e : tE} {c : Bool} {d : Nat} {L : tL} {st : List tV} {M : tM} {n : Nat} {Q : tR → tM → Nat → Prop} (h : wB e c 0 d 3871 17 kb_L_subtract_0 L st M n Q) : tT e d 3871 0 L st M n Q := sorry
theorem tb_L_subtract_17 {e : tE} {c : Bool} {d : Nat} {L : tL} {st : List tV} {M : tM} {n : Nat} {Q : tR → tM → Nat → Prop} (h : wB e c 0 d 3871 18 kb_L_subtract_17 L st M n Q) : tT e d 3871 17 L st M n Q := sorry
theorem tb_L_subtract_18 {e : tE} {c : Bool} {d : Nat} {L : tL} {st : List tV} {M : tM} {n : Nat} {Q : tR → tM → Nat → Prop} (h : wB e c 0 d 3871 22 kb_L_subtract_18 L st M n Q) : tT e d 3871 18 L st M n Q := sorry
theorem tb_L_subtract_22 {e : tE} {c : Bool} {d : Nat} {L : tL} {st : List tV} {M : tM} {n : Nat} {Q : tR → tM → Nat → Prop} (h : wB e c 0 d 3871 26 kb_L_subtract_22 L st M n Q) : tT e d 3871 22 L st M n Q := sorry
theorem tb_L_subtract_26 {e : tE} {c : Bool} {d : Nat} {L : tL} {st : List tV} {M : tM} {n : Nat} {Q : tR → tM → Nat → Prop} (h : wB e c 0 d 3871 30 kb_L_subtract_26 L st M n Q) : tT e d 3871 26 L st M n Q := sorry
theorem tb_L_subtract_30 {e : tE} {c : Bool} {d : Nat} {L : tL} {st : List tV} {M : tM} {n : Nat} {Q : tR → tM → Nat → Prop} (h : wB e c 0 d 3871 34 kb_L_subtract_30 L st M n Q) : tT e d 3871 30 L st M n Q := sorry
theorem tb_L_subtract_34 {e : tE} {c : Bool} {d : Nat} {L : tL} {st : List tV} {M : tM} {n : Nat} {Q : tR → tM → Nat → Prop} (h : wB e c 0 d 3871 36 kb_L_subtract_34 L st M n Q) : tT e d 3871 34 L st M n Q := sorry
theorem bmx_L_subtract : (bmeth 3871).2.2.1 = 6 := sorry
theorem tst_L_subtract {e : tE} {d : Nat} {M : tM} {n : Nat} {Q : tR → tM → Nat → Prop} {x1 : Nat ⊕ Nat} {x2 : Int} {x3 : Int} {x4 : Int} {x5 : Nat ⊕ Nat} (h : tT e d 3871 0 [some (.inr (.inr x1)), some (.inl x2), some (.inl x3), some (.inl x4), some (.inr (.inr x5)), none] [] M n Q) : tC e d 3871 [.inr (.inr x1), .inl x2, .inl x3, .inl x4, .inr (.inr x5)] M n Q := sorry
noncomputable def kb_L_sure_0 : List (Nat × bO) := [(0, .aload_n 2, 0, 0, 0, 0), (1, .iconst 0, 0, 0, 0, 0), (2, .aload_n 0, 0, 0, 0, 0), (3, .iload_n 1, 0, 0, 0, 0), (4, .invokevirtual 65, 6065, 3393, 1, 13), (7, .i2l, 0, 0, 0, 0), (8, .lastore, 0, 0, 0, 0), (9, .goto 9, 0, 18, 0, 0)]
noncomputable def kb_L_sure_12 : List (Nat × bO) := [(12, .astore_n 3, 0, 0, 0, 0), (13, .iconst 1, 0, 0, 0, 0), (14, .ireturn, 0, 0, 0, 0)]
noncomputable def kb_L_sure_15 : List (Nat × bO) := [(15, .astore_n 3, 0, 0, 0, 0), (16, .iconst 2, 0, 0, 0, 0), (17, .ireturn, 0, 0, 0, 0)]
noncomputable def kb_L_sure_18 : List (Nat × bO) := [(18, .iconst 0, 0, 0, 0, 0), (19, .ireturn, 0, 0, 0, 0)]
set_option maxRecDepth 16000 in
theorem kbl_L_sure : tcode 3872 = List.flatten [kb_L_sure_0, kb_L_sure_12, kb_L_sure_15, kb_L_sure_18] := sorry
theorem kbs_L_sure : ksort (tcode 3872) = true := sorry
theorem tb_L_sure_0 {e : tE} {c : Bool} {d : Nat} {L : tL} {st : List tV} {M : tM} {n : Nat} {Q : tR → tM → Nat → Prop} (h : wB e c 0 d 3872 12 kb_L_sure_0 L st M n Q) : tT e d 3872 0 L st M n Q := sorry
theorem tb_L_sure_12 {e : tE} {c : Bool} {d : Nat} {L : tL} {st : List tV} {M : tM} {n : Nat} {Q : tR → tM → Nat → Prop} (h : wB e c 0 d 3872 15 kb_L_sure_12 L st M n Q) : tT e d 3872 12 L st M n Q := sorry
theorem tb_L_sure_15 {e : tE} {c : Bool} {d : Nat} {L : tL} {st : List tV} {M : tM} {n : Nat} {Q : tR → tM → Nat → Prop} (h : wB e c 0 d 3872 18 kb_L_sure_15 L st M n Q) : tT e d 3872 15 L st M n Q := sorry
theorem tb_L_sure_18 {e : tE} {c : Bool} {d : Nat} {L : tL} {st : List tV} {M : tM} {n : Nat} {Q : tR → tM → Nat → Prop} (h : wB e c 0 d 3872 20 kb_L_sure_18 L st M n Q) : tT e d 3872 18 L st M n Q := sorry
theorem bmx_L_sure : (bmeth 3872).2.2.1 = 4 := sorry
theorem tst_L_sure {e : tE} {d : Nat} {M : tM} {n : Nat} {Q : tR → tM → Nat → Prop} {x1 : Nat ⊕ Nat} {x2 : Int} {x3 : Nat ⊕ Nat} (h : tT e d 3872 0 [some (.inr (.inr x1)), some (.inl x2), some (.inr (.inr x3)), none] [] M n Q) : tC e d 3872 [.inr (.inr x1), .inl x2, .inr (.inr x3)] M n Q := sorry
noncomputable def kb_L_type_0 : List (Nat × bO) := [(0, .aload_n 2, 0, 0, 0, 0), (1, .iconst 0, 0, 0, 0, 0), (2, .aload_n 0, 0, 0, 0, 0), (3, .iload_n 1, 0, 0, 0, 0), (4, .invokevirtual 15, 5051, 3395, 1, 13), (7, .i2l, 0, 0, 0, 0), (8, .lastore, 0, 0, 0, 0), (9, .goto 9, 0, 18, 0, 0)]
noncomputable def kb_L_type_12 : List (Nat × bO) := [(12, .astore_n 3, 0, 0, 0, 0), (13, .iconst 1, 0, 0, 0, 0), (14, .ireturn, 0, 0, 0, 0)]
noncomputable def kb_L_type_15 : List (Nat × bO) := [(15, .astore_n 3, 0, 0, 0, 0), (16, .iconst 2, 0, 0, 0, 0), (17, .ireturn, 0, 0, 0, 0)]
noncomputable def kb_L_type_18 : List (Nat × bO) := [(18, .iconst 0, 0, 0, 0, 0), (19, .ireturn, 0, 0, 0, 0)]
set_option maxRecDepth 16000 in
theorem kbl_L_type : tcode 3873 = List.flatten [kb_L_type_0, kb_L_type_12, kb_L_type_15, kb_L_type_18] := sorry
theorem kbs_L_type : ksort (tcode 3873) = true := sorry
theorem tb_L_type_0 {e : tE} {c : Bool} {d : Nat} {L : tL} {st : List tV} {M : tM} {n : Nat} {Q : tR → tM → Nat → Prop} (h : wB e c 0 d 3873 12 kb_L_type_0 L st M n Q) : tT e d 3873 0 L st M n Q := sorry
theorem tb_L_type_12 {e : tE} {c : Bool} {d : Nat} {L : tL} {st : List tV} {M : tM} {n : Nat} {Q : tR → tM → Nat → Prop} (h : wB e c 0 d 3873 15 kb_L_type_12 L st M n Q) : tT e d 3873 12 L st M n Q := sorry
theorem tb_L_type_15 {e : tE} {c : Bool} {d : Nat} {L : tL} {st : List tV} {M : tM} {n : Nat} {Q : tR → tM → Nat → Prop} (h : wB e c 0 d 3873 18 kb_L_type_15 L st M n Q) : tT e d 3873 15 L st M n Q := sorry
theorem tb_L_type_18 {e : tE} {c : Bool} {d : Nat} {L : tL} {st : List tV} {M : tM} {n : Nat} {Q : tR → tM → Nat → Prop} (h : wB e c 0 d 3873 20 kb_L_type_18 L st M n Q) : tT e d 3873 18 L st M n Q := sorry
theorem bmx_L_type : (bmeth 3873).2.2.1 = 4 := sorry
theorem tst_L_type {e : tE} {d : Nat} {M : tM} {n : Nat} {Q : tR → tM → Nat → Prop} {x1 : Nat ⊕ Nat} {x2 : Int} {x3 : Nat ⊕ Nat} (h : tT e d 3873 0 [some (.inr (.inr x1)), some (.inl x2), some (.inr (.inr x3)), none] [] M n Q) : tC e d 3873 [.inr (.inr x1), .inl x2, .inr (.inr x3)] M n Q := sorry
noncomputable def kb_L_undo_0 : List (Nat × bO) := [(0, .aload_n 1, 0, 0, 0, 0), (1, .iconst 0, 0, 0, 0, 0), (2, .aload_n 0, 0, 0, 0, 0), (3, .invokevirtual 68, 6076, 3396, 0, 13), (6, .i2l, 0, 0, 0, 0), (7, .lastore, 0, 0, 0, 0), (8, .goto 6, 0, 14, 0, 0)]
noncomputable def kb_L_undo_11 : List (Nat × bO) := [(11, .astore_n 2, 0, 0, 0, 0), (12, .iconst 1, 0, 0, 0, 0), (13, .ireturn, 0, 0, 0, 0)]
noncomputable def kb_L_undo_14 : List (Nat × bO) := [(14, .iconst 0, 0, 0, 0, 0), (15, .ireturn, 0, 0, 0, 0)]
set_option maxRecDepth 16000 in
theorem kbl_L_undo : tcode 3874 = List.flatten [kb_L_undo_0, kb_L_undo_11, kb_L_undo_14] := sorry
theorem kbs_L_undo : ksort (tcode 3874) = true := sorry
theorem tb_L_undo_0 {e : tE} {c : Bool} {d : Nat} {L : tL} {st : List tV} {M : tM} {n : Nat} {Q : tR → tM → Nat → Prop} (h : wB e c 0 d 3874 11 kb_L_undo_0 L st M n Q) : tT e d 3874 0 L st M n Q := sorry
theorem tb_L_undo_11 {e : tE} {c : Bool} {d : Nat} {L : tL} {st : List tV} {M : tM} {n : Nat} {Q : tR → tM → Nat → Prop} (h : wB e c 0 d 3874 14 kb_L_undo_11 L st M n Q) : tT e d 3874 11 L st M n Q := sorry
theorem tb_L_undo_14 {e : tE} {c : Bool} {d : Nat} {L : tL} {st : List tV} {M : tM} {n : Nat} {Q : tR → tM → Nat → Prop} (h : wB e c 0 d 3874 16 kb_L_undo_14 L st M n Q) : tT e d 3874 14 L st M n Q := sorry
theorem bmx_L_undo : (bmeth 3874).2.2.1 = 3 := sorry
theorem tst_L_undo {e : tE} {d : Nat} {M : tM} {n : Nat} {Q : tR → tM → Nat → Prop} {x1 : Nat ⊕ Nat} {x2 : Nat ⊕ Nat} (h : tT e d 3874 0 [some (.inr (.inr x1)), some (.inr (.inr x2)), none] [] M n Q) : tC e d 3874 [.inr (.inr x1), .inr (.inr x2)] M n Q := sorry
noncomputable def kb_L_value_0 : List (Nat × bO) := [(0, .aload 5, 0, 0, 0, 0), (2, .iconst 0, 0, 0, 0, 0), (3, .aload_n 0, 0, 0, 0, 0), (4, .iload_n 1, 0, 0, 0, 0), (5, .iload_n 2, 0, 0, 0, 0), (6, .iload_n 3, 0, 0, 0, 0), (7, .iload 4, 0, 0, 0, 0), (9, .invokevirtual 106, 7016, 3398, 4, 13), (12, .ifCond .eq 7, 0, 19, 0, 0), (15, .lconst 1, 0, 0, 0, 0), (16, .goto 4, 0, 20, 0, 0)]
noncomputable def kb_L_value_19 : List (Nat × bO) := [(19, .lconst 0, 0, 0, 0, 0)]
noncomputable def kb_L_value_20 : List (Nat × bO) := [(20, .lastore, 0, 0, 0, 0), (21, .goto 19, 0, 40, 0, 0)]
noncomputable def kb_L_value_24 : List (Nat × bO) := [(24, .astore 6, 0, 0, 0, 0), (26, .iconst 1, 0, 0, 0, 0), (27, .ireturn, 0, 0, 0, 0)]
noncomputable def kb_L_value_28 : List (Nat × bO) := [(28, .astore 6, 0, 0, 0, 0), (30, .iconst 2, 0, 0, 0, 0), (31, .ireturn, 0, 0, 0, 0)]
noncomputable def kb_L_value_32 : List (Nat × bO) := [(32, .astore 6, 0, 0, 0, 0), (34, .iconst 3, 0, 0, 0, 0), (35, .ireturn, 0, 0, 0, 0)]
noncomputable def kb_L_value_36 : List (Nat × bO) := [(36, .astore 6, 0, 0, 0, 0), (38, .iconst 4, 0, 0, 0, 0), (39, .ireturn, 0, 0, 0, 0)]
noncomputable def kb_L_value_40 : List (Nat × bO) := [(40, .iconst 0, 0, 0, 0, 0), (41, .ireturn, 0, 0, 0, 0)]
set_option maxRecDepth 16000 in
theorem kbl_L_value : tcode 3875 = List.flatten [kb_L_value_0, kb_L_value_19, kb_L_value_20, kb_L_value_24, kb_L_value_28, kb_L_value_32, kb_L_value_36, kb_L_value_40] := sorry
theorem kbs_L_value : ksort (tcode 3875) = true := sorry
theorem tb_L_value_0 {e : tE} {c : Bool} {d : Nat} {L : tL} {st : List tV} {M : tM} {n : Nat} {Q : tR → tM → Nat → Prop} (h : wB e c 0 d 3875 19 kb_L_value_0 L st M n Q) : tT e d 3875 0 L st M n Q := sorry
theorem tb_L_value_19 {e : tE} {c : Bool} {d : Nat} {L : tL} {st : List tV} {M : tM} {n : Nat} {Q : tR → tM → Nat → Prop} (h : wB e c 0 d 3875 20 kb_L_value_19 L st M n Q) : tT e d 3875 19 L st M n Q := sorry
theorem tb_L_value_20 {e : tE} {c : Bool} {d : Nat} {L : tL} {st : List tV} {M : tM} {n : Nat} {Q : tR → tM → Nat → Prop} (h : wB e c 0 d 3875 24 kb_L_value_20 L st M n Q) : tT e d 3875 20 L st M n Q := sorry
theorem tb_L_value_24 {e : tE} {c : Bool} {d : Nat} {L : tL} {st : List tV} {M : tM} {n : Nat} {Q : tR → tM → Nat → Prop} (h : wB e c 0 d 3875 28 kb_L_value_24 L st M n Q) : tT e d 3875 24 L st M n Q := sorry
theorem tb_L_value_28 {e : tE} {c : Bool} {d : Nat} {L : tL} {st : List tV} {M : tM} {n : Nat} {Q : tR → tM → Nat → Prop} (h : wB e c 0 d 3875 32 kb_L_value_28 L st M n Q) : tT e d 3875 28 L st M n Q := sorry
theorem tb_L_value_32 {e : tE} {c : Bool} {d : Nat} {L : tL} {st : List tV} {M : tM} {n : Nat} {Q : tR → tM → Nat → Prop} (h : wB e c 0 d 3875 36 kb_L_value_32 L st M n Q) : tT e d 3875 32 L st M n Q := sorry
theorem tb_L_value_36 {e : tE} {c : Bool} {d : Nat} {L : tL} {st : List tV} {M : tM} {n : Nat} {Q : tR → tM → Nat → Prop} (h : wB e c 0 d 3875 40 kb_L_value_36 L st M n Q) : tT e d 3875 36 L st M n Q := sorry
theorem tb_L_value_40 {e : tE} {c : Bool} {d : Nat} {L : tL} {st : List tV} {M : tM} {n : Nat} {Q : tR → tM → Nat → Prop} (h : wB e c 0 d 3875 42 kb_L_value_40 L st M n Q) : tT e d 3875 40 L st M n Q := sorry
theorem bmx_L_value : (bmeth 3875).2.2.1 = 7 := sorry
theorem tst_L_value {e : tE} {d : Nat} {M : tM} {n : Nat} {Q : tR → tM → Nat → Prop} {x1 : Nat ⊕ Nat} {x2 : Int} {x3 : Int} {x4 : Int} {x5 : Int} {x6 : Nat ⊕ Nat} (h : tT e d 3875 0 [some (.inr (.inr x1)), some (.inl x2), some (.inl x3), some (.inl x4), some (.inl x5), some (.inr (.inr x6)), none] [] M n Q) : tC e d 3875 [.inr (.inr x1), .inl x2, .inl x3, .inl x4, .inl x5, .inr (.inr x6)] M n Q := sorry
noncomputable def kb_L_width_0 : List (Nat × bO) := [(0, .aload_n 2, 0, 0, 0, 0), (1, .iconst 0, 0, 0, 0, 0), (2, .aload_n 0, 0, 0, 0, 0), (3, .iload_n 1, 0, 0, 0, 0), (4, .invokevirtual 54, 6038, 3399, 1, 13), (7, .i2l, 0, 0, 0, 0), (8, .lastore, 0, 0, 0, 0), (9, .goto 9, 0, 18, 0, 0)]
noncomputable def kb_L_width_12 : List (Nat × bO) := [(12, .astore_n 3, 0, 0, 0, 0), (13, .iconst 1, 0, 0, 0, 0), (14, .ireturn, 0, 0, 0, 0)]
noncomputable def kb_L_width_15 : List (Nat × bO) := [(15, .astore_n 3, 0, 0, 0, 0), (16, .iconst 2, 0, 0, 0, 0), (17, .ireturn, 0, 0, 0, 0)]
noncomputable def kb_L_width_18 : List (Nat × bO) := [(18, .iconst 0, 0, 0, 0, 0), (19, .ireturn, 0, 0, 0, 0)]
set_option maxRecDepth 16000 in
theorem kbl_L_width : tcode 3876 = List.flatten [kb_L_width_0, kb_L_width_12, kb_L_width_15, kb_L_width_18] := sorry
theorem kbs_L_width : ksort (tcode 3876) = true := sorry
theorem tb_L_width_0 {e : tE} {c : Bool} {d : Nat} {L : tL} {st : List tV} {M : tM} {n : Nat} {Q : tR → tM → Nat → Prop} (h : wB e c 0 d 3876 12 kb_L_width_0 L st M n Q) : tT e d 3876 0 L st M n Q := sorry
theorem tb_L_width_12 {e : tE} {c : Bool} {d : Nat} {L : tL} {st : List tV} {M : tM} {n : Nat} {Q : tR → tM → Nat → Prop} (h : wB e c 0 d 3876 15 kb_L_width_12 L st M n Q) : tT e d 3876 12 L st M n Q := sorry
theorem tb_L_width_15 {e : tE} {c : Bool} {d : Nat} {L : tL} {st : List tV} {M : tM} {n : Nat} {Q : tR → tM → Nat → Prop} (h : wB e c 0 d 3876 18 kb_L_width_15 L st M n Q) : tT e d 3876 15 L st M n Q := sorry
theorem tb_L_width_18 {e : tE} {c : Bool} {d : Nat} {L : tL} {st : List tV} {M : tM} {n : Nat} {Q : tR → tM → Nat → Prop} (h : wB e c 0 d 3876 20 kb_L_width_18 L st M n Q) : tT e d 3876 18 L st M n Q := sorry
theorem bmx_L_width : (bmeth 3876).2.2.1 = 4 := sorry
theorem tst_L_width {e : tE} {d : Nat} {M : tM} {n : Nat} {Q : tR → tM → Nat → Prop} {x1 : Nat ⊕ Nat} {x2 : Int} {x3 : Nat ⊕ Nat} (h : tT e d 3876 0 [some (.inr (.inr x1)), some (.inl x2), some (.inr (.inr x3)), none] [] M n Q) : tC e d 3876 [.inr (.inr x1), .inl x2, .inr (.inr x3)] M n Q := sorry
noncomputable def kb_L_zeros_0 : List (Nat × bO) := [(0, .aload 4, 0, 0, 0, 0), (2, .iconst 0, 0, 0, 0, 0), (3, .aload_n 0, 0, 0, 0, 0), (4, .iload_n 1, 0, 0, 0, 0), (5, .iload_n 2, 0, 0, 0, 0), (6, .iload_n 3, 0, 0, 0, 0), (7, .invokevirtual 117, 7137, 3400, 3, 13), (10, .i2l, 0, 0, 0, 0), (11, .lastore, 0, 0, 0, 0), (12, .goto 19, 0, 31, 0, 0)]
noncomputable def kb_L_zeros_15 : List (Nat × bO) := [(15, .astore 5, 0, 0, 0, 0), (17, .iconst 1, 0, 0, 0, 0), (18, .ireturn, 0, 0, 0, 0)]
noncomputable def kb_L_zeros_19 : List (Nat × bO) := [(19, .astore 5, 0, 0, 0, 0), (21, .iconst 2, 0, 0, 0, 0), (22, .ireturn, 0, 0, 0, 0)]
noncomputable def kb_L_zeros_23 : List (Nat × bO) := [(23, .astore 5, 0, 0, 0, 0), (25, .iconst 3, 0, 0, 0, 0), (26, .ireturn, 0, 0, 0, 0)]
noncomputable def kb_L_zeros_27 : List (Nat × bO) := [(27, .astore 5, 0, 0, 0, 0), (29, .iconst 4, 0, 0, 0, 0), (30, .ireturn, 0, 0, 0, 0)]
noncomputable def kb_L_zeros_31 : List (Nat × bO) := [(31, .iconst 0, 0, 0, 0, 0), (32, .ireturn, 0, 0, 0, 0)]
set_option maxRecDepth 16000 in
theorem kbl_L_zeros : tcode 3877 = List.flatten [kb_L_zeros_0, kb_L_zeros_15, kb_L_zeros_19, kb_L_zeros_23, kb_L_zeros_27, kb_L_zeros_31] := sorry
theorem kbs_L_zeros : ksort (tcode 3877) = true := sorry
theorem tb_L_zeros_0 {e : tE} {c : Bool} {d : Nat} {L : tL} {st : List tV} {M : tM} {n : Nat} {Q : tR → tM → Nat → Prop} (h : wB e c 0 d 3877 15 kb_L_zeros_0 L st M n Q) : tT e d 3877 0 L st M n Q := sorry
theorem tb_L_zeros_15 {e : tE} {c : Bool} {d : Nat} {L : tL} {st : List tV} {M : tM} {n : Nat} {Q : tR → tM → Nat → Prop} (h : wB e c 0 d 3877 19 kb_L_zeros_15 L st M n Q) : tT e d 3877 15 L st M n Q := sorry
theorem tb_L_zeros_19 {e : tE} {c : Bool} {d : Nat} {L : tL} {st : List tV} {M : tM} {n : Nat} {Q : tR → tM → Nat → Prop} (h : wB e c 0 d 3877 23 kb_L_zeros_19 L st M n Q) : tT e d 3877 19 L st M n Q := sorry
theorem tb_L_zeros_23 {e : tE} {c : Bool} {d : Nat} {L : tL} {st : List tV} {M : tM} {n : Nat} {Q : tR → tM → Nat → Prop} (h : wB e c 0 d 3877 27 kb_L_zeros_23 L st M n Q) : tT e d 3877 23 L st M n Q := sorry
theorem tb_L_zeros_27 {e : tE} {c : Bool} {d : Nat} {L : tL} {st : List tV} {M : tM} {n : Nat} {Q : tR → tM → Nat → Prop} (h : wB e c 0 d 3877 31 kb_L_zeros_27 L st M n Q) : tT e d 3877 27 L st M n Q := sorry
theorem tb_L_zeros_31 {e : tE} {c : Bool} {d : Nat} {L : tL} {st : List tV} {M : tM} {n : Nat} {Q : tR → tM → Nat → Prop} (h : wB e c 0 d 3877 33 kb_L_zeros_31 L st M n Q) : tT e d 3877 31 L st M n Q := sorry
theorem bmx_L_zeros : (bmeth 3877).2.2.1 = 6 := sorry
theorem tst_L_zeros {e : tE} {d : Nat} {M : tM} {n : Nat} {Q : tR → tM → Nat → Prop} {x1 : Nat ⊕ Nat} {x2 : Int} {x3 : Int} {x4 : Int} {x5 : Nat ⊕ Nat} (h : tT e d 3877 0 [some (.inr (.inr x1)), some (.inl x2), some (.inl x3), some (.inl x4), some (.inr (.inr x5)), none] [] M n Q) : tC e d 3877 [.inr (.inr x1), .inl x2, .inl x3, .inl x4, .inr (.inr x5)] M n Q := sorry
