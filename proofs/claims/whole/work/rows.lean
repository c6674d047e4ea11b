section
-- ===== PART A: goes FIRST, ahead of the names: the tables' words, and 'selects' of the private methods out of them =====
/-- a private method of a class that the tables say can be made, by its rows of tables_1 -/
def lw_okq (q : MethodName × Nat) : Prop := (q.1.cls ≠ "java/lang/invoke/MethodHandle" ∧ q.1.cls ≠ "java/lang/invoke/VarHandle") ∧ Cond.instantiable q.1.cls q.2 ∈ tables_1 ∧ Cond.privateMethod q.1 ∈ tables_1 ∧ Cond.instanceMethod q.1 ∈ tables_1
theorem lw_p0 : lw_okq (⟨"Boxedvalue$Shelves", "isShelf", "(I)Z"⟩, 7) := ⟨⟨by decide +kernel, by decide +kernel⟩, List.mem_of_getElem? (i := 56) (by decide +kernel), List.mem_of_getElem? (i := 457) (by decide +kernel), List.mem_of_getElem? (i := 458) (by decide +kernel)⟩
theorem lw_p1 : lw_okq (⟨"Boxedvalue", "isConstantSound", "(C)Z"⟩, 17) := ⟨⟨by decide +kernel, by decide +kernel⟩, List.mem_of_getElem? (i := 31) (by decide +kernel), List.mem_of_getElem? (i := 493) (by decide +kernel), List.mem_of_getElem? (i := 494) (by decide +kernel)⟩
theorem lw_p2 : lw_okq (⟨"Boxedvalue$Machine", "at", "(I)LBoxedvalue$Box;"⟩, 8) := ⟨⟨by decide +kernel, by decide +kernel⟩, List.mem_of_getElem? (i := 127) (by decide +kernel), List.mem_of_getElem? (i := 505) (by decide +kernel), List.mem_of_getElem? (i := 506) (by decide +kernel)⟩
theorem lw_p3 : lw_okq (⟨"Boxedvalue$Acts", "told", "(LBoxedvalue$Box;)I"⟩, 6) := ⟨⟨by decide +kernel, by decide +kernel⟩, List.mem_of_getElem? (i := 133) (by decide +kernel), List.mem_of_getElem? (i := 531) (by decide +kernel), List.mem_of_getElem? (i := 532) (by decide +kernel)⟩
theorem lw_p4 : lw_okq (⟨"Boxedvalue$Reckoner", "widen", "()V"⟩, 13) := ⟨⟨by decide +kernel, by decide +kernel⟩, List.mem_of_getElem? (i := 139) (by decide +kernel), List.mem_of_getElem? (i := 639) (by decide +kernel), List.mem_of_getElem? (i := 640) (by decide +kernel)⟩
theorem lw_p5 : lw_okq (⟨"Boxedvalue$Reckoner", "settle", "()V"⟩, 13) := ⟨⟨by decide +kernel, by decide +kernel⟩, List.mem_of_getElem? (i := 139) (by decide +kernel), List.mem_of_getElem? (i := 643) (by decide +kernel), List.mem_of_getElem? (i := 644) (by decide +kernel)⟩
theorem lw_p6 : lw_okq (⟨"Boxedvalue$Reckoner", "wholeOfRow", "()J"⟩, 13) := ⟨⟨by decide +kernel, by decide +kernel⟩, List.mem_of_getElem? (i := 139) (by decide +kernel), List.mem_of_getElem? (i := 647) (by decide +kernel), List.mem_of_getElem? (i := 648) (by decide +kernel)⟩
theorem lw_p7 : lw_okq (⟨"Boxedvalue$Reckoner", "raise", "(I)V"⟩, 13) := ⟨⟨by decide +kernel, by decide +kernel⟩, List.mem_of_getElem? (i := 139) (by decide +kernel), List.mem_of_getElem? (i := 730) (by decide +kernel), List.mem_of_getElem? (i := 731) (by decide +kernel)⟩
theorem lw_p8 : lw_okq (⟨"Boxedvalue$Curves", "begin", "(Z)V"⟩, 13) := ⟨⟨by decide +kernel, by decide +kernel⟩, List.mem_of_getElem? (i := 188) (by decide +kernel), List.mem_of_getElem? (i := 757) (by decide +kernel), List.mem_of_getElem? (i := 758) (by decide +kernel)⟩
theorem lw_p9 : lw_okq (⟨"Boxedvalue$Curves", "sumPowers", "(LBoxedvalue$Bound;)V"⟩, 13) := ⟨⟨by decide +kernel, by decide +kernel⟩, List.mem_of_getElem? (i := 188) (by decide +kernel), List.mem_of_getElem? (i := 772) (by decide +kernel), List.mem_of_getElem? (i := 773) (by decide +kernel)⟩
theorem lw_p10 : lw_okq (⟨"Boxedvalue$Curves", "sumOddPowers", "(Z)V"⟩, 13) := ⟨⟨by decide +kernel, by decide +kernel⟩, List.mem_of_getElem? (i := 188) (by decide +kernel), List.mem_of_getElem? (i := 828) (by decide +kernel), List.mem_of_getElem? (i := 829) (by decide +kernel)⟩
theorem lw_p11 : lw_okq (⟨"Boxedvalue$Curves", "settle", "()V"⟩, 13) := ⟨⟨by decide +kernel, by decide +kernel⟩, List.mem_of_getElem? (i := 188) (by decide +kernel), List.mem_of_getElem? (i := 844) (by decide +kernel), List.mem_of_getElem? (i := 845) (by decide +kernel)⟩
theorem lw_p12 : lw_okq (⟨"Boxedvalue$Curves", "nearestEighth", "()I"⟩, 13) := ⟨⟨by decide +kernel, by decide +kernel⟩, List.mem_of_getElem? (i := 188) (by decide +kernel), List.mem_of_getElem? (i := 858) (by decide +kernel), List.mem_of_getElem? (i := 859) (by decide +kernel)⟩
theorem lw_p13 : lw_okq (⟨"Boxedvalue$Curves", "shiftToEighth", "(I)Z"⟩, 13) := ⟨⟨by decide +kernel, by decide +kernel⟩, List.mem_of_getElem? (i := 188) (by decide +kernel), List.mem_of_getElem? (i := 867) (by decide +kernel), List.mem_of_getElem? (i := 868) (by decide +kernel)⟩
theorem lw_p14 : lw_okq (⟨"Boxedvalue", "isValueSound", "(LBoxedvalue$Formula;LBoxedvalue$Box;)Z"⟩, 17) := ⟨⟨by decide +kernel, by decide +kernel⟩, List.mem_of_getElem? (i := 31) (by decide +kernel), List.mem_of_getElem? (i := 883) (by decide +kernel), List.mem_of_getElem? (i := 884) (by decide +kernel)⟩
theorem lw_p15 : lw_okq (⟨"Boxedvalue$Formula", "within", "(I)I"⟩, 12) := ⟨⟨by decide +kernel, by decide +kernel⟩, List.mem_of_getElem? (i := 312) (by decide +kernel), List.mem_of_getElem? (i := 900) (by decide +kernel), List.mem_of_getElem? (i := 901) (by decide +kernel)⟩
def lw_privs_1 : List (MethodName × Nat) := [(⟨"Boxedvalue$Shelves", "isShelf", "(I)Z"⟩, 7), (⟨"Boxedvalue", "isConstantSound", "(C)Z"⟩, 17), (⟨"Boxedvalue$Machine", "at", "(I)LBoxedvalue$Box;"⟩, 8), (⟨"Boxedvalue$Acts", "told", "(LBoxedvalue$Box;)I"⟩, 6), (⟨"Boxedvalue$Reckoner", "widen", "()V"⟩, 13), (⟨"Boxedvalue$Reckoner", "settle", "()V"⟩, 13), (⟨"Boxedvalue$Reckoner", "wholeOfRow", "()J"⟩, 13), (⟨"Boxedvalue$Reckoner", "raise", "(I)V"⟩, 13), (⟨"Boxedvalue$Curves", "begin", "(Z)V"⟩, 13), (⟨"Boxedvalue$Curves", "sumPowers", "(LBoxedvalue$Bound;)V"⟩, 13), (⟨"Boxedvalue$Curves", "sumOddPowers", "(Z)V"⟩, 13), (⟨"Boxedvalue$Curves", "settle", "()V"⟩, 13), (⟨"Boxedvalue$Curves", "nearestEighth", "()I"⟩, 13), (⟨"Boxedvalue$Curves", "shiftToEighth", "(I)Z"⟩, 13), (⟨"Boxedvalue", "isValueSound", "(LBoxedvalue$Formula;LBoxedvalue$Box;)Z"⟩, 17), (⟨"Boxedvalue$Formula", "within", "(I)I"⟩, 12)]
theorem lw_r1 : ∀ q ∈ lw_privs_1, lw_okq q := List.forall_mem_cons.mpr ⟨lw_p0, List.forall_mem_cons.mpr ⟨lw_p1, List.forall_mem_cons.mpr ⟨lw_p2, List.forall_mem_cons.mpr ⟨lw_p3, List.forall_mem_cons.mpr ⟨lw_p4, List.forall_mem_cons.mpr ⟨lw_p5, List.forall_mem_cons.mpr ⟨lw_p6, List.forall_mem_cons.mpr ⟨lw_p7, List.forall_mem_cons.mpr ⟨lw_p8, List.forall_mem_cons.mpr ⟨lw_p9, List.forall_mem_cons.mpr ⟨lw_p10, List.forall_mem_cons.mpr ⟨lw_p11, List.forall_mem_cons.mpr ⟨lw_p12, List.forall_mem_cons.mpr ⟨lw_p13, List.forall_mem_cons.mpr ⟨lw_p14, List.forall_mem_cons.mpr ⟨lw_p15, fun _ h => absurd h List.not_mem_nil⟩⟩⟩⟩⟩⟩⟩⟩⟩⟩⟩⟩⟩⟩⟩⟩
theorem lw_p16 : lw_okq (⟨"java/lang/Throwable", "fillInStackTrace", "(I)Ljava/lang/Throwable;"⟩, 6) := ⟨⟨by decide +kernel, by decide +kernel⟩, List.mem_of_getElem? (i := 978) (by decide +kernel), List.mem_of_getElem? (i := 976) (by decide +kernel), List.mem_of_getElem? (i := 977) (by decide +kernel)⟩
theorem lw_p17 : lw_okq (⟨"Boxedvalue", "checkShelf", "(I)V"⟩, 17) := ⟨⟨by decide +kernel, by decide +kernel⟩, List.mem_of_getElem? (i := 31) (by decide +kernel), List.mem_of_getElem? (i := 1077) (by decide +kernel), List.mem_of_getElem? (i := 1078) (by decide +kernel)⟩
theorem lw_p18 : lw_okq (⟨"Boxedvalue", "become", "(II)Z"⟩, 17) := ⟨⟨by decide +kernel, by decide +kernel⟩, List.mem_of_getElem? (i := 31) (by decide +kernel), List.mem_of_getElem? (i := 1095) (by decide +kernel), List.mem_of_getElem? (i := 1096) (by decide +kernel)⟩
theorem lw_p19 : lw_okq (⟨"Boxedvalue", "checkStatus", "(I)V"⟩, 17) := ⟨⟨by decide +kernel, by decide +kernel⟩, List.mem_of_getElem? (i := 31) (by decide +kernel), List.mem_of_getElem? (i := 1099) (by decide +kernel), List.mem_of_getElem? (i := 1100) (by decide +kernel)⟩
theorem lw_p20 : lw_okq (⟨"Boxedvalue", "fill", "(ILBoxedvalue$Box;)Z"⟩, 17) := ⟨⟨by decide +kernel, by decide +kernel⟩, List.mem_of_getElem? (i := 31) (by decide +kernel), List.mem_of_getElem? (i := 1120) (by decide +kernel), List.mem_of_getElem? (i := 1121) (by decide +kernel)⟩
theorem lw_p21 : lw_okq (⟨"Boxedvalue$Reckoner", "takeDigit", "(II)V"⟩, 13) := ⟨⟨by decide +kernel, by decide +kernel⟩, List.mem_of_getElem? (i := 139) (by decide +kernel), List.mem_of_getElem? (i := 1162) (by decide +kernel), List.mem_of_getElem? (i := 1163) (by decide +kernel)⟩
theorem lw_p22 : lw_okq (⟨"Boxedvalue", "checkShelves", "(III)V"⟩, 17) := ⟨⟨by decide +kernel, by decide +kernel⟩, List.mem_of_getElem? (i := 31) (by decide +kernel), List.mem_of_getElem? (i := 1182) (by decide +kernel), List.mem_of_getElem? (i := 1183) (by decide +kernel)⟩
theorem lw_p23 : lw_okq (⟨"Boxedvalue", "checkHeld", "(I)V"⟩, 17) := ⟨⟨by decide +kernel, by decide +kernel⟩, List.mem_of_getElem? (i := 31) (by decide +kernel), List.mem_of_getElem? (i := 1186) (by decide +kernel), List.mem_of_getElem? (i := 1187) (by decide +kernel)⟩
theorem lw_p24 : lw_okq (⟨"Boxedvalue", "checkPair", "(II)V"⟩, 17) := ⟨⟨by decide +kernel, by decide +kernel⟩, List.mem_of_getElem? (i := 31) (by decide +kernel), List.mem_of_getElem? (i := 1251) (by decide +kernel), List.mem_of_getElem? (i := 1252) (by decide +kernel)⟩
theorem lw_p25 : lw_okq (⟨"Boxedvalue", "combine", "(IIIC)Z"⟩, 17) := ⟨⟨by decide +kernel, by decide +kernel⟩, List.mem_of_getElem? (i := 31) (by decide +kernel), List.mem_of_getElem? (i := 1293) (by decide +kernel), List.mem_of_getElem? (i := 1294) (by decide +kernel)⟩
theorem lw_p26 : lw_okq (⟨"Boxedvalue", "change", "(IICI)Z"⟩, 17) := ⟨⟨by decide +kernel, by decide +kernel⟩, List.mem_of_getElem? (i := 31) (by decide +kernel), List.mem_of_getElem? (i := 1331) (by decide +kernel), List.mem_of_getElem? (i := 1332) (by decide +kernel)⟩
theorem lw_p27 : lw_okq (⟨"Boxedvalue", "crossed", "(IIII)I"⟩, 17) := ⟨⟨by decide +kernel, by decide +kernel⟩, List.mem_of_getElem? (i := 31) (by decide +kernel), List.mem_of_getElem? (i := 1359) (by decide +kernel), List.mem_of_getElem? (i := 1360) (by decide +kernel)⟩
theorem lw_p28 : lw_okq (⟨"Boxedvalue", "checkFormula", "(I)V"⟩, 17) := ⟨⟨by decide +kernel, by decide +kernel⟩, List.mem_of_getElem? (i := 31) (by decide +kernel), List.mem_of_getElem? (i := 1370) (by decide +kernel), List.mem_of_getElem? (i := 1371) (by decide +kernel)⟩
theorem lw_p29 : lw_okq (⟨"Boxedvalue$Formula", "takesAtom", "(LBoxedvalue$Text;)Z"⟩, 12) := ⟨⟨by decide +kernel, by decide +kernel⟩, List.mem_of_getElem? (i := 312) (by decide +kernel), List.mem_of_getElem? (i := 1379) (by decide +kernel), List.mem_of_getElem? (i := 1380) (by decide +kernel)⟩
theorem lw_p30 : lw_okq (⟨"Boxedvalue$Formula", "takesNumber", "(LBoxedvalue$Text;)Z"⟩, 12) := ⟨⟨by decide +kernel, by decide +kernel⟩, List.mem_of_getElem? (i := 312) (by decide +kernel), List.mem_of_getElem? (i := 1384) (by decide +kernel), List.mem_of_getElem? (i := 1385) (by decide +kernel)⟩
theorem lw_p31 : lw_okq (⟨"Boxedvalue$Formula", "append", "(CJI)V"⟩, 12) := ⟨⟨by decide +kernel, by decide +kernel⟩, List.mem_of_getElem? (i := 312) (by decide +kernel), List.mem_of_getElem? (i := 1390) (by decide +kernel), List.mem_of_getElem? (i := 1391) (by decide +kernel)⟩
def lw_privs_2 : List (MethodName × Nat) := [(⟨"java/lang/Throwable", "fillInStackTrace", "(I)Ljava/lang/Throwable;"⟩, 6), (⟨"Boxedvalue", "checkShelf", "(I)V"⟩, 17), (⟨"Boxedvalue", "become", "(II)Z"⟩, 17), (⟨"Boxedvalue", "checkStatus", "(I)V"⟩, 17), (⟨"Boxedvalue", "fill", "(ILBoxedvalue$Box;)Z"⟩, 17), (⟨"Boxedvalue$Reckoner", "takeDigit", "(II)V"⟩, 13), (⟨"Boxedvalue", "checkShelves", "(III)V"⟩, 17), (⟨"Boxedvalue", "checkHeld", "(I)V"⟩, 17), (⟨"Boxedvalue", "checkPair", "(II)V"⟩, 17), (⟨"Boxedvalue", "combine", "(IIIC)Z"⟩, 17), (⟨"Boxedvalue", "change", "(IICI)Z"⟩, 17), (⟨"Boxedvalue", "crossed", "(IIII)I"⟩, 17), (⟨"Boxedvalue", "checkFormula", "(I)V"⟩, 17), (⟨"Boxedvalue$Formula", "takesAtom", "(LBoxedvalue$Text;)Z"⟩, 12), (⟨"Boxedvalue$Formula", "takesNumber", "(LBoxedvalue$Text;)Z"⟩, 12), (⟨"Boxedvalue$Formula", "append", "(CJI)V"⟩, 12)]
theorem lw_r2 : ∀ q ∈ lw_privs_2, lw_okq q := List.forall_mem_cons.mpr ⟨lw_p16, List.forall_mem_cons.mpr ⟨lw_p17, List.forall_mem_cons.mpr ⟨lw_p18, List.forall_mem_cons.mpr ⟨lw_p19, List.forall_mem_cons.mpr ⟨lw_p20, List.forall_mem_cons.mpr ⟨lw_p21, List.forall_mem_cons.mpr ⟨lw_p22, List.forall_mem_cons.mpr ⟨lw_p23, List.forall_mem_cons.mpr ⟨lw_p24, List.forall_mem_cons.mpr ⟨lw_p25, List.forall_mem_cons.mpr ⟨lw_p26, List.forall_mem_cons.mpr ⟨lw_p27, List.forall_mem_cons.mpr ⟨lw_p28, List.forall_mem_cons.mpr ⟨lw_p29, List.forall_mem_cons.mpr ⟨lw_p30, List.forall_mem_cons.mpr ⟨lw_p31, fun _ h => absurd h List.not_mem_nil⟩⟩⟩⟩⟩⟩⟩⟩⟩⟩⟩⟩⟩⟩⟩⟩
theorem lw_p32 : lw_okq (⟨"Boxedvalue$Formula", "closeAtom", "()V"⟩, 12) := ⟨⟨by decide +kernel, by decide +kernel⟩, List.mem_of_getElem? (i := 312) (by decide +kernel), List.mem_of_getElem? (i := 1394) (by decide +kernel), List.mem_of_getElem? (i := 1395) (by decide +kernel)⟩
theorem lw_p33 : lw_okq (⟨"Boxedvalue$Formula", "lastHeld", "()C"⟩, 12) := ⟨⟨by decide +kernel, by decide +kernel⟩, List.mem_of_getElem? (i := 312) (by decide +kernel), List.mem_of_getElem? (i := 1398) (by decide +kernel), List.mem_of_getElem? (i := 1399) (by decide +kernel)⟩
theorem lw_p34 : lw_okq (⟨"Boxedvalue$Formula", "release", "()V"⟩, 12) := ⟨⟨by decide +kernel, by decide +kernel⟩, List.mem_of_getElem? (i := 312) (by decide +kernel), List.mem_of_getElem? (i := 1405) (by decide +kernel), List.mem_of_getElem? (i := 1406) (by decide +kernel)⟩
theorem lw_p35 : lw_okq (⟨"Boxedvalue$Formula", "hold", "(C)V"⟩, 12) := ⟨⟨by decide +kernel, by decide +kernel⟩, List.mem_of_getElem? (i := 312) (by decide +kernel), List.mem_of_getElem? (i := 1409) (by decide +kernel), List.mem_of_getElem? (i := 1410) (by decide +kernel)⟩
theorem lw_p36 : lw_okq (⟨"Boxedvalue$Formula", "takesAct", "(LBoxedvalue$Text;)Z"⟩, 12) := ⟨⟨by decide +kernel, by decide +kernel⟩, List.mem_of_getElem? (i := 312) (by decide +kernel), List.mem_of_getElem? (i := 1413) (by decide +kernel), List.mem_of_getElem? (i := 1414) (by decide +kernel)⟩
theorem lw_p37 : lw_okq (⟨"Boxedvalue$Formula", "takesExponent", "(LBoxedvalue$Text;)Z"⟩, 12) := ⟨⟨by decide +kernel, by decide +kernel⟩, List.mem_of_getElem? (i := 312) (by decide +kernel), List.mem_of_getElem? (i := 1417) (by decide +kernel), List.mem_of_getElem? (i := 1418) (by decide +kernel)⟩
theorem lw_p38 : lw_okq (⟨"Boxedvalue$Formula", "takesClosing", "()Z"⟩, 12) := ⟨⟨by decide +kernel, by decide +kernel⟩, List.mem_of_getElem? (i := 312) (by decide +kernel), List.mem_of_getElem? (i := 1421) (by decide +kernel), List.mem_of_getElem? (i := 1422) (by decide +kernel)⟩
theorem lw_p39 : lw_okq (⟨"Boxedvalue$Formula", "releaseProducts", "()V"⟩, 12) := ⟨⟨by decide +kernel, by decide +kernel⟩, List.mem_of_getElem? (i := 312) (by decide +kernel), List.mem_of_getElem? (i := 1425) (by decide +kernel), List.mem_of_getElem? (i := 1426) (by decide +kernel)⟩
theorem lw_p40 : lw_okq (⟨"Boxedvalue$Formula", "releaseSums", "()V"⟩, 12) := ⟨⟨by decide +kernel, by decide +kernel⟩, List.mem_of_getElem? (i := 312) (by decide +kernel), List.mem_of_getElem? (i := 1429) (by decide +kernel), List.mem_of_getElem? (i := 1430) (by decide +kernel)⟩
theorem lw_p41 : lw_okq (⟨"Boxedvalue$Formula", "findStarts", "()V"⟩, 12) := ⟨⟨by decide +kernel, by decide +kernel⟩, List.mem_of_getElem? (i := 312) (by decide +kernel), List.mem_of_getElem? (i := 1434) (by decide +kernel), List.mem_of_getElem? (i := 1435) (by decide +kernel)⟩
theorem lw_p42 : lw_okq (⟨"Boxedvalue", "checkDefined", "(I)V"⟩, 17) := ⟨⟨by decide +kernel, by decide +kernel⟩, List.mem_of_getElem? (i := 31) (by decide +kernel), List.mem_of_getElem? (i := 1449) (by decide +kernel), List.mem_of_getElem? (i := 1450) (by decide +kernel)⟩
theorem lw_p43 : lw_okq (⟨"Boxedvalue", "checkFormulaCall", "(IIII)V"⟩, 17) := ⟨⟨by decide +kernel, by decide +kernel⟩, List.mem_of_getElem? (i := 31) (by decide +kernel), List.mem_of_getElem? (i := 1461) (by decide +kernel), List.mem_of_getElem? (i := 1462) (by decide +kernel)⟩
theorem lw_p44 : lw_okq (⟨"Boxedvalue$Machine", "enter", "(I)I"⟩, 8) := ⟨⟨by decide +kernel, by decide +kernel⟩, List.mem_of_getElem? (i := 127) (by decide +kernel), List.mem_of_getElem? (i := 1476) (by decide +kernel), List.mem_of_getElem? (i := 1477) (by decide +kernel)⟩
theorem lw_p45 : lw_okq (⟨"Boxedvalue$Machine", "nextSign", "(Ljava/lang/String;)C"⟩, 8) := ⟨⟨by decide +kernel, by decide +kernel⟩, List.mem_of_getElem? (i := 127) (by decide +kernel), List.mem_of_getElem? (i := 1496) (by decide +kernel), List.mem_of_getElem? (i := 1497) (by decide +kernel)⟩
theorem lw_p46 : lw_okq (⟨"Boxedvalue", "sideOf", "(LBoxedvalue$Formula;LBoxedvalue$Formula;LBoxedvalue$Box;)I"⟩, 17) := ⟨⟨by decide +kernel, by decide +kernel⟩, List.mem_of_getElem? (i := 31) (by decide +kernel), List.mem_of_getElem? (i := 1570) (by decide +kernel), List.mem_of_getElem? (i := 1571) (by decide +kernel)⟩
theorem lw_p47 : lw_okq (⟨"Boxedvalue", "checkCuts", "(II)V"⟩, 17) := ⟨⟨by decide +kernel, by decide +kernel⟩, List.mem_of_getElem? (i := 31) (by decide +kernel), List.mem_of_getElem? (i := 1582) (by decide +kernel), List.mem_of_getElem? (i := 1583) (by decide +kernel)⟩
def lw_privs_3 : List (MethodName × Nat) := [(⟨"Boxedvalue$Formula", "closeAtom", "()V"⟩, 12), (⟨"Boxedvalue$Formula", "lastHeld", "()C"⟩, 12), (⟨"Boxedvalue$Formula", "release", "()V"⟩, 12), (⟨"Boxedvalue$Formula", "hold", "(C)V"⟩, 12), (⟨"Boxedvalue$Formula", "takesAct", "(LBoxedvalue$Text;)Z"⟩, 12), (⟨"Boxedvalue$Formula", "takesExponent", "(LBoxedvalue$Text;)Z"⟩, 12), (⟨"Boxedvalue$Formula", "takesClosing", "()Z"⟩, 12), (⟨"Boxedvalue$Formula", "releaseProducts", "()V"⟩, 12), (⟨"Boxedvalue$Formula", "releaseSums", "()V"⟩, 12), (⟨"Boxedvalue$Formula", "findStarts", "()V"⟩, 12), (⟨"Boxedvalue", "checkDefined", "(I)V"⟩, 17), (⟨"Boxedvalue", "checkFormulaCall", "(IIII)V"⟩, 17), (⟨"Boxedvalue$Machine", "enter", "(I)I"⟩, 8), (⟨"Boxedvalue$Machine", "nextSign", "(Ljava/lang/String;)C"⟩, 8), (⟨"Boxedvalue", "sideOf", "(LBoxedvalue$Formula;LBoxedvalue$Formula;LBoxedvalue$Box;)I"⟩, 17), (⟨"Boxedvalue", "checkCuts", "(II)V"⟩, 17)]
theorem lw_r3 : ∀ q ∈ lw_privs_3, lw_okq q := List.forall_mem_cons.mpr ⟨lw_p32, List.forall_mem_cons.mpr ⟨lw_p33, List.forall_mem_cons.mpr ⟨lw_p34, List.forall_mem_cons.mpr ⟨lw_p35, List.forall_mem_cons.mpr ⟨lw_p36, List.forall_mem_cons.mpr ⟨lw_p37, List.forall_mem_cons.mpr ⟨lw_p38, List.forall_mem_cons.mpr ⟨lw_p39, List.forall_mem_cons.mpr ⟨lw_p40, List.forall_mem_cons.mpr ⟨lw_p41, List.forall_mem_cons.mpr ⟨lw_p42, List.forall_mem_cons.mpr ⟨lw_p43, List.forall_mem_cons.mpr ⟨lw_p44, List.forall_mem_cons.mpr ⟨lw_p45, List.forall_mem_cons.mpr ⟨lw_p46, List.forall_mem_cons.mpr ⟨lw_p47, fun _ h => absurd h List.not_mem_nil⟩⟩⟩⟩⟩⟩⟩⟩⟩⟩⟩⟩⟩⟩⟩⟩
theorem lw_p48 : lw_okq (⟨"Boxedvalue", "checkNoY", "(I)V"⟩, 17) := ⟨⟨by decide +kernel, by decide +kernel⟩, List.mem_of_getElem? (i := 31) (by decide +kernel), List.mem_of_getElem? (i := 1587) (by decide +kernel), List.mem_of_getElem? (i := 1588) (by decide +kernel)⟩
theorem lw_p49 : lw_okq (⟨"Boxedvalue", "judge", "(LBoxedvalue$Formula;LBoxedvalue$Box;)C"⟩, 17) := ⟨⟨by decide +kernel, by decide +kernel⟩, List.mem_of_getElem? (i := 31) (by decide +kernel), List.mem_of_getElem? (i := 1620) (by decide +kernel), List.mem_of_getElem? (i := 1621) (by decide +kernel)⟩
theorem lw_p50 : lw_okq (⟨"Boxedvalue", "checkPiece", "(I)V"⟩, 17) := ⟨⟨by decide +kernel, by decide +kernel⟩, List.mem_of_getElem? (i := 31) (by decide +kernel), List.mem_of_getElem? (i := 1638) (by decide +kernel), List.mem_of_getElem? (i := 1639) (by decide +kernel)⟩
theorem lw_p51 : lw_okq (⟨"Boxedvalue$Pieces", "within", "(I)I"⟩, 4) := ⟨⟨by decide +kernel, by decide +kernel⟩, List.mem_of_getElem? (i := 359) (by decide +kernel), List.mem_of_getElem? (i := 1647) (by decide +kernel), List.mem_of_getElem? (i := 1648) (by decide +kernel)⟩
theorem lw_p52 : lw_okq (⟨"Boxedvalue", "makeNarrowed", "(LBoxedvalue$Formula;LBoxedvalue$Box;)I"⟩, 17) := ⟨⟨by decide +kernel, by decide +kernel⟩, List.mem_of_getElem? (i := 31) (by decide +kernel), List.mem_of_getElem? (i := 1669) (by decide +kernel), List.mem_of_getElem? (i := 1670) (by decide +kernel)⟩
theorem lw_p53 : lw_okq (⟨"Boxedvalue$Pieces", "split", "(I)V"⟩, 4) := ⟨⟨by decide +kernel, by decide +kernel⟩, List.mem_of_getElem? (i := 359) (by decide +kernel), List.mem_of_getElem? (i := 1688) (by decide +kernel), List.mem_of_getElem? (i := 1689) (by decide +kernel)⟩
theorem lw_p54 : lw_okq (⟨"Boxedvalue", "canBeZero", "(LBoxedvalue$Formula;)Z"⟩, 17) := ⟨⟨by decide +kernel, by decide +kernel⟩, List.mem_of_getElem? (i := 31) (by decide +kernel), List.mem_of_getElem? (i := 1693) (by decide +kernel), List.mem_of_getElem? (i := 1694) (by decide +kernel)⟩
theorem lw_p55 : lw_okq (⟨"Boxedvalue", "checkBoundsCall", "(IIII)V"⟩, 17) := ⟨⟨by decide +kernel, by decide +kernel⟩, List.mem_of_getElem? (i := 31) (by decide +kernel), List.mem_of_getElem? (i := 1704) (by decide +kernel), List.mem_of_getElem? (i := 1705) (by decide +kernel)⟩
theorem lw_p56 : lw_okq (⟨"Boxedvalue", "seekExtreme", "(LBoxedvalue$Formula;LBoxedvalue$Box;IZ)I"⟩, 17) := ⟨⟨by decide +kernel, by decide +kernel⟩, List.mem_of_getElem? (i := 31) (by decide +kernel), List.mem_of_getElem? (i := 1708) (by decide +kernel), List.mem_of_getElem? (i := 1709) (by decide +kernel)⟩
theorem lw_p57 : lw_okq (⟨"Boxedvalue", "takeExtreme", "(LBoxedvalue$Box;LBoxedvalue$Box;ZZ)V"⟩, 17) := ⟨⟨by decide +kernel, by decide +kernel⟩, List.mem_of_getElem? (i := 31) (by decide +kernel), List.mem_of_getElem? (i := 1712) (by decide +kernel), List.mem_of_getElem? (i := 1713) (by decide +kernel)⟩
theorem lw_p58 : lw_okq (⟨"Boxedvalue", "sumUp", "(LBoxedvalue$Formula;LBoxedvalue$Box;I)I"⟩, 17) := ⟨⟨by decide +kernel, by decide +kernel⟩, List.mem_of_getElem? (i := 31) (by decide +kernel), List.mem_of_getElem? (i := 1730) (by decide +kernel), List.mem_of_getElem? (i := 1731) (by decide +kernel)⟩
theorem lw_p59 : lw_okq (⟨"Boxedvalue", "makeMoved", "(LBoxedvalue$Formula;LBoxedvalue$Box;I)I"⟩, 17) := ⟨⟨by decide +kernel, by decide +kernel⟩, List.mem_of_getElem? (i := 31) (by decide +kernel), List.mem_of_getElem? (i := 1742) (by decide +kernel), List.mem_of_getElem? (i := 1743) (by decide +kernel)⟩
theorem lw_p60 : lw_okq (⟨"Boxedvalue", "makeAlong", "(LBoxedvalue$Box;LBoxedvalue$Box;LBoxedvalue$Box;)I"⟩, 17) := ⟨⟨by decide +kernel, by decide +kernel⟩, List.mem_of_getElem? (i := 31) (by decide +kernel), List.mem_of_getElem? (i := 1748) (by decide +kernel), List.mem_of_getElem? (i := 1749) (by decide +kernel)⟩
theorem lw_p61 : lw_okq (⟨"BoxedvalueModel", "fails", "(I)Z"⟩, 43) := ⟨⟨by decide +kernel, by decide +kernel⟩, List.mem_of_getElem? (i := 1754) (by decide +kernel), List.mem_of_getElem? (i := 1902) (by decide +kernel), List.mem_of_getElem? (i := 1903) (by decide +kernel)⟩
theorem lw_p62 : lw_okq (⟨"BoxedvalueModel", "low", "(IJJ)V"⟩, 43) := ⟨⟨by decide +kernel, by decide +kernel⟩, List.mem_of_getElem? (i := 1754) (by decide +kernel), List.mem_of_getElem? (i := 1926) (by decide +kernel), List.mem_of_getElem? (i := 1927) (by decide +kernel)⟩
theorem lw_p63 : lw_okq (⟨"BoxedvalueModel", "high", "(IJJ)V"⟩, 43) := ⟨⟨by decide +kernel, by decide +kernel⟩, List.mem_of_getElem? (i := 1754) (by decide +kernel), List.mem_of_getElem? (i := 1930) (by decide +kernel), List.mem_of_getElem? (i := 1931) (by decide +kernel)⟩
def lw_privs_4 : List (MethodName × Nat) := [(⟨"Boxedvalue", "checkNoY", "(I)V"⟩, 17), (⟨"Boxedvalue", "judge", "(LBoxedvalue$Formula;LBoxedvalue$Box;)C"⟩, 17), (⟨"Boxedvalue", "checkPiece", "(I)V"⟩, 17), (⟨"Boxedvalue$Pieces", "within", "(I)I"⟩, 4), (⟨"Boxedvalue", "makeNarrowed", "(LBoxedvalue$Formula;LBoxedvalue$Box;)I"⟩, 17), (⟨"Boxedvalue$Pieces", "split", "(I)V"⟩, 4), (⟨"Boxedvalue", "canBeZero", "(LBoxedvalue$Formula;)Z"⟩, 17), (⟨"Boxedvalue", "checkBoundsCall", "(IIII)V"⟩, 17), (⟨"Boxedvalue", "seekExtreme", "(LBoxedvalue$Formula;LBoxedvalue$Box;IZ)I"⟩, 17), (⟨"Boxedvalue", "takeExtreme", "(LBoxedvalue$Box;LBoxedvalue$Box;ZZ)V"⟩, 17), (⟨"Boxedvalue", "sumUp", "(LBoxedvalue$Formula;LBoxedvalue$Box;I)I"⟩, 17), (⟨"Boxedvalue", "makeMoved", "(LBoxedvalue$Formula;LBoxedvalue$Box;I)I"⟩, 17), (⟨"Boxedvalue", "makeAlong", "(LBoxedvalue$Box;LBoxedvalue$Box;LBoxedvalue$Box;)I"⟩, 17), (⟨"BoxedvalueModel", "fails", "(I)Z"⟩, 43), (⟨"BoxedvalueModel", "low", "(IJJ)V"⟩, 43), (⟨"BoxedvalueModel", "high", "(IJJ)V"⟩, 43)]
theorem lw_r4 : ∀ q ∈ lw_privs_4, lw_okq q := List.forall_mem_cons.mpr ⟨lw_p48, List.forall_mem_cons.mpr ⟨lw_p49, List.forall_mem_cons.mpr ⟨lw_p50, List.forall_mem_cons.mpr ⟨lw_p51, List.forall_mem_cons.mpr ⟨lw_p52, List.forall_mem_cons.mpr ⟨lw_p53, List.forall_mem_cons.mpr ⟨lw_p54, List.forall_mem_cons.mpr ⟨lw_p55, List.forall_mem_cons.mpr ⟨lw_p56, List.forall_mem_cons.mpr ⟨lw_p57, List.forall_mem_cons.mpr ⟨lw_p58, List.forall_mem_cons.mpr ⟨lw_p59, List.forall_mem_cons.mpr ⟨lw_p60, List.forall_mem_cons.mpr ⟨lw_p61, List.forall_mem_cons.mpr ⟨lw_p62, List.forall_mem_cons.mpr ⟨lw_p63, fun _ h => absurd h List.not_mem_nil⟩⟩⟩⟩⟩⟩⟩⟩⟩⟩⟩⟩⟩⟩⟩⟩
theorem lw_p64 : lw_okq (⟨"BoxedvalueModel", "sets", "(IJJ)V"⟩, 43) := ⟨⟨by decide +kernel, by decide +kernel⟩, List.mem_of_getElem? (i := 1754) (by decide +kernel), List.mem_of_getElem? (i := 1944) (by decide +kernel), List.mem_of_getElem? (i := 1945) (by decide +kernel)⟩
theorem lw_p65 : lw_okq (⟨"BoxedvalueModel", "lets", "(IIJ)V"⟩, 43) := ⟨⟨by decide +kernel, by decide +kernel⟩, List.mem_of_getElem? (i := 1754) (by decide +kernel), List.mem_of_getElem? (i := 1948) (by decide +kernel), List.mem_of_getElem? (i := 1949) (by decide +kernel)⟩
theorem lw_p66 : lw_okq (⟨"BoxedvalueModel", "trims", "(I)V"⟩, 43) := ⟨⟨by decide +kernel, by decide +kernel⟩, List.mem_of_getElem? (i := 1754) (by decide +kernel), List.mem_of_getElem? (i := 1952) (by decide +kernel), List.mem_of_getElem? (i := 1953) (by decide +kernel)⟩
theorem lw_p67 : lw_okq (⟨"BoxedvalueModel", "number", "(IIIZ)I"⟩, 43) := ⟨⟨by decide +kernel, by decide +kernel⟩, List.mem_of_getElem? (i := 1754) (by decide +kernel), List.mem_of_getElem? (i := 1956) (by decide +kernel), List.mem_of_getElem? (i := 1957) (by decide +kernel)⟩
theorem lw_p68 : lw_okq (⟨"BoxedvalueModel", "copies", "(II)V"⟩, 43) := ⟨⟨by decide +kernel, by decide +kernel⟩, List.mem_of_getElem? (i := 1754) (by decide +kernel), List.mem_of_getElem? (i := 1960) (by decide +kernel), List.mem_of_getElem? (i := 1961) (by decide +kernel)⟩
theorem lw_p69 : lw_okq (⟨"BoxedvalueModel", "limb", "(II)J"⟩, 43) := ⟨⟨by decide +kernel, by decide +kernel⟩, List.mem_of_getElem? (i := 1754) (by decide +kernel), List.mem_of_getElem? (i := 1964) (by decide +kernel), List.mem_of_getElem? (i := 1965) (by decide +kernel)⟩
theorem lw_p70 : lw_okq (⟨"BoxedvalueModel", "tens", "(II)Z"⟩, 43) := ⟨⟨by decide +kernel, by decide +kernel⟩, List.mem_of_getElem? (i := 1754) (by decide +kernel), List.mem_of_getElem? (i := 1968) (by decide +kernel), List.mem_of_getElem? (i := 1969) (by decide +kernel)⟩
theorem lw_p71 : lw_okq (⟨"BoxedvalueModel", "scales", "(IJ)V"⟩, 43) := ⟨⟨by decide +kernel, by decide +kernel⟩, List.mem_of_getElem? (i := 1754) (by decide +kernel), List.mem_of_getElem? (i := 1975) (by decide +kernel), List.mem_of_getElem? (i := 1976) (by decide +kernel)⟩
theorem lw_p72 : lw_okq (⟨"BoxedvalueModel", "parts", "(IJ)J"⟩, 43) := ⟨⟨by decide +kernel, by decide +kernel⟩, List.mem_of_getElem? (i := 1754) (by decide +kernel), List.mem_of_getElem? (i := 1979) (by decide +kernel), List.mem_of_getElem? (i := 1980) (by decide +kernel)⟩
theorem lw_p73 : lw_okq (⟨"BoxedvalueModel", "tells", "(IZZZ)Z"⟩, 43) := ⟨⟨by decide +kernel, by decide +kernel⟩, List.mem_of_getElem? (i := 1754) (by decide +kernel), List.mem_of_getElem? (i := 1983) (by decide +kernel), List.mem_of_getElem? (i := 1984) (by decide +kernel)⟩
theorem lw_p74 : lw_okq (⟨"BoxedvalueModel", "plus", "(II)V"⟩, 43) := ⟨⟨by decide +kernel, by decide +kernel⟩, List.mem_of_getElem? (i := 1754) (by decide +kernel), List.mem_of_getElem? (i := 1987) (by decide +kernel), List.mem_of_getElem? (i := 1988) (by decide +kernel)⟩
theorem lw_p75 : lw_okq (⟨"BoxedvalueModel", "turns", "()V"⟩, 43) := ⟨⟨by decide +kernel, by decide +kernel⟩, List.mem_of_getElem? (i := 1754) (by decide +kernel), List.mem_of_getElem? (i := 1992) (by decide +kernel), List.mem_of_getElem? (i := 1993) (by decide +kernel)⟩
theorem lw_p76 : lw_okq (⟨"BoxedvalueModel", "isTooGreat", "()Z"⟩, 43) := ⟨⟨by decide +kernel, by decide +kernel⟩, List.mem_of_getElem? (i := 1754) (by decide +kernel), List.mem_of_getElem? (i := 1996) (by decide +kernel), List.mem_of_getElem? (i := 1997) (by decide +kernel)⟩
theorem lw_p77 : lw_okq (⟨"BoxedvalueModel", "becomes", "(II)Z"⟩, 43) := ⟨⟨by decide +kernel, by decide +kernel⟩, List.mem_of_getElem? (i := 1754) (by decide +kernel), List.mem_of_getElem? (i := 2001) (by decide +kernel), List.mem_of_getElem? (i := 2002) (by decide +kernel)⟩
theorem lw_p78 : lw_okq (⟨"BoxedvalueModel", "takes", "(II)V"⟩, 43) := ⟨⟨by decide +kernel, by decide +kernel⟩, List.mem_of_getElem? (i := 1754) (by decide +kernel), List.mem_of_getElem? (i := 2005) (by decide +kernel), List.mem_of_getElem? (i := 2006) (by decide +kernel)⟩
theorem lw_p79 : lw_okq (⟨"BoxedvalueModel", "isSingle", "(I)Z"⟩, 43) := ⟨⟨by decide +kernel, by decide +kernel⟩, List.mem_of_getElem? (i := 1754) (by decide +kernel), List.mem_of_getElem? (i := 2009) (by decide +kernel), List.mem_of_getElem? (i := 2010) (by decide +kernel)⟩
def lw_privs_5 : List (MethodName × Nat) := [(⟨"BoxedvalueModel", "sets", "(IJJ)V"⟩, 43), (⟨"BoxedvalueModel", "lets", "(IIJ)V"⟩, 43), (⟨"BoxedvalueModel", "trims", "(I)V"⟩, 43), (⟨"BoxedvalueModel", "number", "(IIIZ)I"⟩, 43), (⟨"BoxedvalueModel", "copies", "(II)V"⟩, 43), (⟨"BoxedvalueModel", "limb", "(II)J"⟩, 43), (⟨"BoxedvalueModel", "tens", "(II)Z"⟩, 43), (⟨"BoxedvalueModel", "scales", "(IJ)V"⟩, 43), (⟨"BoxedvalueModel", "parts", "(IJ)J"⟩, 43), (⟨"BoxedvalueModel", "tells", "(IZZZ)Z"⟩, 43), (⟨"BoxedvalueModel", "plus", "(II)V"⟩, 43), (⟨"BoxedvalueModel", "turns", "()V"⟩, 43), (⟨"BoxedvalueModel", "isTooGreat", "()Z"⟩, 43), (⟨"BoxedvalueModel", "becomes", "(II)Z"⟩, 43), (⟨"BoxedvalueModel", "takes", "(II)V"⟩, 43), (⟨"BoxedvalueModel", "isSingle", "(I)Z"⟩, 43)]
theorem lw_r5 : ∀ q ∈ lw_privs_5, lw_okq q := List.forall_mem_cons.mpr ⟨lw_p64, List.forall_mem_cons.mpr ⟨lw_p65, List.forall_mem_cons.mpr ⟨lw_p66, List.forall_mem_cons.mpr ⟨lw_p67, List.forall_mem_cons.mpr ⟨lw_p68, List.forall_mem_cons.mpr ⟨lw_p69, List.forall_mem_cons.mpr ⟨lw_p70, List.forall_mem_cons.mpr ⟨lw_p71, List.forall_mem_cons.mpr ⟨lw_p72, List.forall_mem_cons.mpr ⟨lw_p73, List.forall_mem_cons.mpr ⟨lw_p74, List.forall_mem_cons.mpr ⟨lw_p75, List.forall_mem_cons.mpr ⟨lw_p76, List.forall_mem_cons.mpr ⟨lw_p77, List.forall_mem_cons.mpr ⟨lw_p78, List.forall_mem_cons.mpr ⟨lw_p79, fun _ h => absurd h List.not_mem_nil⟩⟩⟩⟩⟩⟩⟩⟩⟩⟩⟩⟩⟩⟩⟩⟩
theorem lw_p80 : lw_okq (⟨"BoxedvalueModel", "scaleOf", "()I"⟩, 43) := ⟨⟨by decide +kernel, by decide +kernel⟩, List.mem_of_getElem? (i := 1754) (by decide +kernel), List.mem_of_getElem? (i := 2017) (by decide +kernel), List.mem_of_getElem? (i := 2018) (by decide +kernel)⟩
theorem lw_p81 : lw_okq (⟨"BoxedvalueModel", "known", "(IZ)V"⟩, 43) := ⟨⟨by decide +kernel, by decide +kernel⟩, List.mem_of_getElem? (i := 1754) (by decide +kernel), List.mem_of_getElem? (i := 2028) (by decide +kernel), List.mem_of_getElem? (i := 2029) (by decide +kernel)⟩
theorem lw_p82 : lw_okq (⟨"BoxedvalueModel", "needsPi", "()V"⟩, 43) := ⟨⟨by decide +kernel, by decide +kernel⟩, List.mem_of_getElem? (i := 1754) (by decide +kernel), List.mem_of_getElem? (i := 2032) (by decide +kernel), List.mem_of_getElem? (i := 2033) (by decide +kernel)⟩
theorem lw_p83 : lw_okq (⟨"BoxedvalueModel", "odds", "(IJZ)V"⟩, 43) := ⟨⟨by decide +kernel, by decide +kernel⟩, List.mem_of_getElem? (i := 1754) (by decide +kernel), List.mem_of_getElem? (i := 2037) (by decide +kernel), List.mem_of_getElem? (i := 2038) (by decide +kernel)⟩
theorem lw_p84 : lw_okq (⟨"BoxedvalueModel", "unit", "(I)V"⟩, 43) := ⟨⟨by decide +kernel, by decide +kernel⟩, List.mem_of_getElem? (i := 1754) (by decide +kernel), List.mem_of_getElem? (i := 2041) (by decide +kernel), List.mem_of_getElem? (i := 2042) (by decide +kernel)⟩
theorem lw_p85 : lw_okq (⟨"BoxedvalueModel", "shifts", "(II)V"⟩, 43) := ⟨⟨by decide +kernel, by decide +kernel⟩, List.mem_of_getElem? (i := 1754) (by decide +kernel), List.mem_of_getElem? (i := 2045) (by decide +kernel), List.mem_of_getElem? (i := 2046) (by decide +kernel)⟩
theorem lw_p86 : lw_okq (⟨"BoxedvalueModel", "less", "(II)V"⟩, 43) := ⟨⟨by decide +kernel, by decide +kernel⟩, List.mem_of_getElem? (i := 1754) (by decide +kernel), List.mem_of_getElem? (i := 2051) (by decide +kernel), List.mem_of_getElem? (i := 2052) (by decide +kernel)⟩
theorem lw_p87 : lw_okq (⟨"BoxedvalueModel", "needsBase", "()V"⟩, 43) := ⟨⟨by decide +kernel, by decide +kernel⟩, List.mem_of_getElem? (i := 1754) (by decide +kernel), List.mem_of_getElem? (i := 2058) (by decide +kernel), List.mem_of_getElem? (i := 2059) (by decide +kernel)⟩
theorem lw_p88 : lw_okq (⟨"BoxedvalueModel", "series", "()V"⟩, 43) := ⟨⟨by decide +kernel, by decide +kernel⟩, List.mem_of_getElem? (i := 1754) (by decide +kernel), List.mem_of_getElem? (i := 2062) (by decide +kernel), List.mem_of_getElem? (i := 2063) (by decide +kernel)⟩
theorem lw_p89 : lw_okq (⟨"BoxedvalueModel", "times", "(II)V"⟩, 43) := ⟨⟨by decide +kernel, by decide +kernel⟩, List.mem_of_getElem? (i := 1754) (by decide +kernel), List.mem_of_getElem? (i := 2066) (by decide +kernel), List.mem_of_getElem? (i := 2067) (by decide +kernel)⟩
theorem lw_p90 : lw_okq (⟨"BoxedvalueModel", "deep", "(IZZ)Z"⟩, 43) := ⟨⟨by decide +kernel, by decide +kernel⟩, List.mem_of_getElem? (i := 1754) (by decide +kernel), List.mem_of_getElem? (i := 2070) (by decide +kernel), List.mem_of_getElem? (i := 2071) (by decide +kernel)⟩
theorem lw_p91 : lw_okq (⟨"BoxedvalueModel", "noPair", "(III)I"⟩, 43) := ⟨⟨by decide +kernel, by decide +kernel⟩, List.mem_of_getElem? (i := 1754) (by decide +kernel), List.mem_of_getElem? (i := 2078) (by decide +kernel), List.mem_of_getElem? (i := 2079) (by decide +kernel)⟩
theorem lw_p92 : lw_okq (⟨"BoxedvalueModel", "joins", "(IIIZ)Z"⟩, 43) := ⟨⟨by decide +kernel, by decide +kernel⟩, List.mem_of_getElem? (i := 1754) (by decide +kernel), List.mem_of_getElem? (i := 2082) (by decide +kernel), List.mem_of_getElem? (i := 2083) (by decide +kernel)⟩
theorem lw_p93 : lw_okq (⟨"BoxedvalueModel", "noBox", "(I)I"⟩, 43) := ⟨⟨by decide +kernel, by decide +kernel⟩, List.mem_of_getElem? (i := 1754) (by decide +kernel), List.mem_of_getElem? (i := 2097) (by decide +kernel), List.mem_of_getElem? (i := 2098) (by decide +kernel)⟩
theorem lw_p94 : lw_okq (⟨"BoxedvalueModel", "writes", "(JJ)I"⟩, 43) := ⟨⟨by decide +kernel, by decide +kernel⟩, List.mem_of_getElem? (i := 1754) (by decide +kernel), List.mem_of_getElem? (i := 2101) (by decide +kernel), List.mem_of_getElem? (i := 2102) (by decide +kernel)⟩
theorem lw_p95 : lw_okq (⟨"BoxedvalueModel", "spells", "(JJ)V"⟩, 43) := ⟨⟨by decide +kernel, by decide +kernel⟩, List.mem_of_getElem? (i := 1754) (by decide +kernel), List.mem_of_getElem? (i := 2105) (by decide +kernel), List.mem_of_getElem? (i := 2106) (by decide +kernel)⟩
def lw_privs_6 : List (MethodName × Nat) := [(⟨"BoxedvalueModel", "scaleOf", "()I"⟩, 43), (⟨"BoxedvalueModel", "known", "(IZ)V"⟩, 43), (⟨"BoxedvalueModel", "needsPi", "()V"⟩, 43), (⟨"BoxedvalueModel", "odds", "(IJZ)V"⟩, 43), (⟨"BoxedvalueModel", "unit", "(I)V"⟩, 43), (⟨"BoxedvalueModel", "shifts", "(II)V"⟩, 43), (⟨"BoxedvalueModel", "less", "(II)V"⟩, 43), (⟨"BoxedvalueModel", "needsBase", "()V"⟩, 43), (⟨"BoxedvalueModel", "series", "()V"⟩, 43), (⟨"BoxedvalueModel", "times", "(II)V"⟩, 43), (⟨"BoxedvalueModel", "deep", "(IZZ)Z"⟩, 43), (⟨"BoxedvalueModel", "noPair", "(III)I"⟩, 43), (⟨"BoxedvalueModel", "joins", "(IIIZ)Z"⟩, 43), (⟨"BoxedvalueModel", "noBox", "(I)I"⟩, 43), (⟨"BoxedvalueModel", "writes", "(JJ)I"⟩, 43), (⟨"BoxedvalueModel", "spells", "(JJ)V"⟩, 43)]
theorem lw_r6 : ∀ q ∈ lw_privs_6, lw_okq q := List.forall_mem_cons.mpr ⟨lw_p80, List.forall_mem_cons.mpr ⟨lw_p81, List.forall_mem_cons.mpr ⟨lw_p82, List.forall_mem_cons.mpr ⟨lw_p83, List.forall_mem_cons.mpr ⟨lw_p84, List.forall_mem_cons.mpr ⟨lw_p85, List.forall_mem_cons.mpr ⟨lw_p86, List.forall_mem_cons.mpr ⟨lw_p87, List.forall_mem_cons.mpr ⟨lw_p88, List.forall_mem_cons.mpr ⟨lw_p89, List.forall_mem_cons.mpr ⟨lw_p90, List.forall_mem_cons.mpr ⟨lw_p91, List.forall_mem_cons.mpr ⟨lw_p92, List.forall_mem_cons.mpr ⟨lw_p93, List.forall_mem_cons.mpr ⟨lw_p94, List.forall_mem_cons.mpr ⟨lw_p95, fun _ h => absurd h List.not_mem_nil⟩⟩⟩⟩⟩⟩⟩⟩⟩⟩⟩⟩⟩⟩⟩⟩
theorem lw_p96 : lw_okq (⟨"BoxedvalueModel", "spans", "(I)V"⟩, 43) := ⟨⟨by decide +kernel, by decide +kernel⟩, List.mem_of_getElem? (i := 1754) (by decide +kernel), List.mem_of_getElem? (i := 2118) (by decide +kernel), List.mem_of_getElem? (i := 2119) (by decide +kernel)⟩
theorem lw_p97 : lw_okq (⟨"BoxedvalueModel", "isWithinOf", "(II)Z"⟩, 43) := ⟨⟨by decide +kernel, by decide +kernel⟩, List.mem_of_getElem? (i := 1754) (by decide +kernel), List.mem_of_getElem? (i := 2126) (by decide +kernel), List.mem_of_getElem? (i := 2127) (by decide +kernel)⟩
theorem lw_p98 : lw_okq (⟨"BoxedvalueModel", "isLess", "(II)Z"⟩, 43) := ⟨⟨by decide +kernel, by decide +kernel⟩, List.mem_of_getElem? (i := 1754) (by decide +kernel), List.mem_of_getElem? (i := 2134) (by decide +kernel), List.mem_of_getElem? (i := 2135) (by decide +kernel)⟩
theorem lw_p99 : lw_okq (⟨"BoxedvalueModel", "rounds", "(IZ)V"⟩, 43) := ⟨⟨by decide +kernel, by decide +kernel⟩, List.mem_of_getElem? (i := 1754) (by decide +kernel), List.mem_of_getElem? (i := 2142) (by decide +kernel), List.mem_of_getElem? (i := 2143) (by decide +kernel)⟩
theorem lw_p100 : lw_okq (⟨"BoxedvalueModel", "made", "(ICII)Z"⟩, 43) := ⟨⟨by decide +kernel, by decide +kernel⟩, List.mem_of_getElem? (i := 1754) (by decide +kernel), List.mem_of_getElem? (i := 2153) (by decide +kernel), List.mem_of_getElem? (i := 2154) (by decide +kernel)⟩
theorem lw_p101 : lw_okq (⟨"BoxedvalueModel", "acts", "(ICII)I"⟩, 43) := ⟨⟨by decide +kernel, by decide +kernel⟩, List.mem_of_getElem? (i := 1754) (by decide +kernel), List.mem_of_getElem? (i := 2157) (by decide +kernel), List.mem_of_getElem? (i := 2158) (by decide +kernel)⟩
theorem lw_p102 : lw_okq (⟨"BoxedvalueModel", "sum", "(III)I"⟩, 43) := ⟨⟨by decide +kernel, by decide +kernel⟩, List.mem_of_getElem? (i := 1754) (by decide +kernel), List.mem_of_getElem? (i := 2161) (by decide +kernel), List.mem_of_getElem? (i := 2162) (by decide +kernel)⟩
theorem lw_p103 : lw_okq (⟨"BoxedvalueModel", "adds", "(JJJJZ)Z"⟩, 43) := ⟨⟨by decide +kernel, by decide +kernel⟩, List.mem_of_getElem? (i := 1754) (by decide +kernel), List.mem_of_getElem? (i := 2165) (by decide +kernel), List.mem_of_getElem? (i := 2166) (by decide +kernel)⟩
theorem lw_p104 : lw_okq (⟨"BoxedvalueModel", "difference", "(III)I"⟩, 43) := ⟨⟨by decide +kernel, by decide +kernel⟩, List.mem_of_getElem? (i := 1754) (by decide +kernel), List.mem_of_getElem? (i := 2169) (by decide +kernel), List.mem_of_getElem? (i := 2170) (by decide +kernel)⟩
theorem lw_p105 : lw_okq (⟨"BoxedvalueModel", "turned", "(II)V"⟩, 43) := ⟨⟨by decide +kernel, by decide +kernel⟩, List.mem_of_getElem? (i := 1754) (by decide +kernel), List.mem_of_getElem? (i := 2173) (by decide +kernel), List.mem_of_getElem? (i := 2174) (by decide +kernel)⟩
theorem lw_p106 : lw_okq (⟨"BoxedvalueModel", "product", "(III)I"⟩, 43) := ⟨⟨by decide +kernel, by decide +kernel⟩, List.mem_of_getElem? (i := 1754) (by decide +kernel), List.mem_of_getElem? (i := 2177) (by decide +kernel), List.mem_of_getElem? (i := 2178) (by decide +kernel)⟩
theorem lw_p107 : lw_okq (⟨"BoxedvalueModel", "four", "(IIIZ)I"⟩, 43) := ⟨⟨by decide +kernel, by decide +kernel⟩, List.mem_of_getElem? (i := 1754) (by decide +kernel), List.mem_of_getElem? (i := 2181) (by decide +kernel), List.mem_of_getElem? (i := 2182) (by decide +kernel)⟩
theorem lw_p108 : lw_okq (⟨"BoxedvalueModel", "pair", "(IZIZZZ)Z"⟩, 43) := ⟨⟨by decide +kernel, by decide +kernel⟩, List.mem_of_getElem? (i := 1754) (by decide +kernel), List.mem_of_getElem? (i := 2185) (by decide +kernel), List.mem_of_getElem? (i := 2186) (by decide +kernel)⟩
theorem lw_p109 : lw_okq (⟨"BoxedvalueModel", "size", "(IJJ)V"⟩, 43) := ⟨⟨by decide +kernel, by decide +kernel⟩, List.mem_of_getElem? (i := 1754) (by decide +kernel), List.mem_of_getElem? (i := 2189) (by decide +kernel), List.mem_of_getElem? (i := 2190) (by decide +kernel)⟩
theorem lw_p110 : lw_okq (⟨"BoxedvalueModel", "divides", "()V"⟩, 43) := ⟨⟨by decide +kernel, by decide +kernel⟩, List.mem_of_getElem? (i := 1754) (by decide +kernel), List.mem_of_getElem? (i := 2193) (by decide +kernel), List.mem_of_getElem? (i := 2194) (by decide +kernel)⟩
theorem lw_p111 : lw_okq (⟨"BoxedvalueModel", "compares", "(II)I"⟩, 43) := ⟨⟨by decide +kernel, by decide +kernel⟩, List.mem_of_getElem? (i := 1754) (by decide +kernel), List.mem_of_getElem? (i := 2198) (by decide +kernel), List.mem_of_getElem? (i := 2199) (by decide +kernel)⟩
def lw_privs_7 : List (MethodName × Nat) := [(⟨"BoxedvalueModel", "spans", "(I)V"⟩, 43), (⟨"BoxedvalueModel", "isWithinOf", "(II)Z"⟩, 43), (⟨"BoxedvalueModel", "isLess", "(II)Z"⟩, 43), (⟨"BoxedvalueModel", "rounds", "(IZ)V"⟩, 43), (⟨"BoxedvalueModel", "made", "(ICII)Z"⟩, 43), (⟨"BoxedvalueModel", "acts", "(ICII)I"⟩, 43), (⟨"BoxedvalueModel", "sum", "(III)I"⟩, 43), (⟨"BoxedvalueModel", "adds", "(JJJJZ)Z"⟩, 43), (⟨"BoxedvalueModel", "difference", "(III)I"⟩, 43), (⟨"BoxedvalueModel", "turned", "(II)V"⟩, 43), (⟨"BoxedvalueModel", "product", "(III)I"⟩, 43), (⟨"BoxedvalueModel", "four", "(IIIZ)I"⟩, 43), (⟨"BoxedvalueModel", "pair", "(IZIZZZ)Z"⟩, 43), (⟨"BoxedvalueModel", "size", "(IJJ)V"⟩, 43), (⟨"BoxedvalueModel", "divides", "()V"⟩, 43), (⟨"BoxedvalueModel", "compares", "(II)I"⟩, 43)]
theorem lw_r7 : ∀ q ∈ lw_privs_7, lw_okq q := List.forall_mem_cons.mpr ⟨lw_p96, List.forall_mem_cons.mpr ⟨lw_p97, List.forall_mem_cons.mpr ⟨lw_p98, List.forall_mem_cons.mpr ⟨lw_p99, List.forall_mem_cons.mpr ⟨lw_p100, List.forall_mem_cons.mpr ⟨lw_p101, List.forall_mem_cons.mpr ⟨lw_p102, List.forall_mem_cons.mpr ⟨lw_p103, List.forall_mem_cons.mpr ⟨lw_p104, List.forall_mem_cons.mpr ⟨lw_p105, List.forall_mem_cons.mpr ⟨lw_p106, List.forall_mem_cons.mpr ⟨lw_p107, List.forall_mem_cons.mpr ⟨lw_p108, List.forall_mem_cons.mpr ⟨lw_p109, List.forall_mem_cons.mpr ⟨lw_p110, List.forall_mem_cons.mpr ⟨lw_p111, fun _ h => absurd h List.not_mem_nil⟩⟩⟩⟩⟩⟩⟩⟩⟩⟩⟩⟩⟩⟩⟩⟩
theorem lw_p112 : lw_okq (⟨"BoxedvalueModel", "quotient", "(III)I"⟩, 43) := ⟨⟨by decide +kernel, by decide +kernel⟩, List.mem_of_getElem? (i := 1754) (by decide +kernel), List.mem_of_getElem? (i := 2202) (by decide +kernel), List.mem_of_getElem? (i := 2203) (by decide +kernel)⟩
theorem lw_p113 : lw_okq (⟨"BoxedvalueModel", "holds0", "(I)Z"⟩, 43) := ⟨⟨by decide +kernel, by decide +kernel⟩, List.mem_of_getElem? (i := 1754) (by decide +kernel), List.mem_of_getElem? (i := 2206) (by decide +kernel), List.mem_of_getElem? (i := 2207) (by decide +kernel)⟩
theorem lw_p114 : lw_okq (⟨"BoxedvalueModel", "holdsNothing", "(I)Z"⟩, 43) := ⟨⟨by decide +kernel, by decide +kernel⟩, List.mem_of_getElem? (i := 1754) (by decide +kernel), List.mem_of_getElem? (i := 2210) (by decide +kernel), List.mem_of_getElem? (i := 2211) (by decide +kernel)⟩
theorem lw_p115 : lw_okq (⟨"BoxedvalueModel", "makes", "(IIII)Z"⟩, 43) := ⟨⟨by decide +kernel, by decide +kernel⟩, List.mem_of_getElem? (i := 1754) (by decide +kernel), List.mem_of_getElem? (i := 2214) (by decide +kernel), List.mem_of_getElem? (i := 2215) (by decide +kernel)⟩
theorem lw_p116 : lw_okq (⟨"BoxedvalueModel", "lifted", "(III)I"⟩, 43) := ⟨⟨by decide +kernel, by decide +kernel⟩, List.mem_of_getElem? (i := 1754) (by decide +kernel), List.mem_of_getElem? (i := 2234) (by decide +kernel), List.mem_of_getElem? (i := 2235) (by decide +kernel)⟩
theorem lw_p117 : lw_okq (⟨"BoxedvalueModel", "single", "(IJJ)V"⟩, 43) := ⟨⟨by decide +kernel, by decide +kernel⟩, List.mem_of_getElem? (i := 1754) (by decide +kernel), List.mem_of_getElem? (i := 2238) (by decide +kernel), List.mem_of_getElem? (i := 2239) (by decide +kernel)⟩
theorem lw_p118 : lw_okq (⟨"BoxedvalueModel", "isBelow0", "(I)Z"⟩, 43) := ⟨⟨by decide +kernel, by decide +kernel⟩, List.mem_of_getElem? (i := 1754) (by decide +kernel), List.mem_of_getElem? (i := 2242) (by decide +kernel), List.mem_of_getElem? (i := 2243) (by decide +kernel)⟩
theorem lw_p119 : lw_okq (⟨"BoxedvalueModel", "isBelow", "(I)Z"⟩, 43) := ⟨⟨by decide +kernel, by decide +kernel⟩, List.mem_of_getElem? (i := 1754) (by decide +kernel), List.mem_of_getElem? (i := 2246) (by decide +kernel), List.mem_of_getElem? (i := 2247) (by decide +kernel)⟩
theorem lw_p120 : lw_okq (⟨"BoxedvalueModel", "powers", "(JJIZ)Z"⟩, 43) := ⟨⟨by decide +kernel, by decide +kernel⟩, List.mem_of_getElem? (i := 1754) (by decide +kernel), List.mem_of_getElem? (i := 2250) (by decide +kernel), List.mem_of_getElem? (i := 2251) (by decide +kernel)⟩
theorem lw_p121 : lw_okq (⟨"BoxedvalueModel", "rooted", "(III)I"⟩, 43) := ⟨⟨by decide +kernel, by decide +kernel⟩, List.mem_of_getElem? (i := 1754) (by decide +kernel), List.mem_of_getElem? (i := 2258) (by decide +kernel), List.mem_of_getElem? (i := 2259) (by decide +kernel)⟩
theorem lw_p122 : lw_okq (⟨"BoxedvalueModel", "roots", "(JJIZ)Z"⟩, 43) := ⟨⟨by decide +kernel, by decide +kernel⟩, List.mem_of_getElem? (i := 1754) (by decide +kernel), List.mem_of_getElem? (i := 2262) (by decide +kernel), List.mem_of_getElem? (i := 2263) (by decide +kernel)⟩
theorem lw_p123 : lw_okq (⟨"BoxedvalueModel", "negative", "(II)I"⟩, 43) := ⟨⟨by decide +kernel, by decide +kernel⟩, List.mem_of_getElem? (i := 1754) (by decide +kernel), List.mem_of_getElem? (i := 2271) (by decide +kernel), List.mem_of_getElem? (i := 2272) (by decide +kernel)⟩
theorem lw_p124 : lw_okq (⟨"BoxedvalueModel", "again", "(II)I"⟩, 43) := ⟨⟨by decide +kernel, by decide +kernel⟩, List.mem_of_getElem? (i := 1754) (by decide +kernel), List.mem_of_getElem? (i := 2275) (by decide +kernel), List.mem_of_getElem? (i := 2276) (by decide +kernel)⟩
theorem lw_p125 : lw_okq (⟨"BoxedvalueModel", "unsigned", "(II)I"⟩, 43) := ⟨⟨by decide +kernel, by decide +kernel⟩, List.mem_of_getElem? (i := 1754) (by decide +kernel), List.mem_of_getElem? (i := 2279) (by decide +kernel), List.mem_of_getElem? (i := 2280) (by decide +kernel)⟩
theorem lw_p126 : lw_okq (⟨"BoxedvalueModel", "rising", "(IIC)I"⟩, 43) := ⟨⟨by decide +kernel, by decide +kernel⟩, List.mem_of_getElem? (i := 1754) (by decide +kernel), List.mem_of_getElem? (i := 2283) (by decide +kernel), List.mem_of_getElem? (i := 2284) (by decide +kernel)⟩
theorem lw_p127 : lw_okq (⟨"BoxedvalueModel", "isAbove0", "(I)Z"⟩, 43) := ⟨⟨by decide +kernel, by decide +kernel⟩, List.mem_of_getElem? (i := 1754) (by decide +kernel), List.mem_of_getElem? (i := 2287) (by decide +kernel), List.mem_of_getElem? (i := 2288) (by decide +kernel)⟩
def lw_privs_8 : List (MethodName × Nat) := [(⟨"BoxedvalueModel", "quotient", "(III)I"⟩, 43), (⟨"BoxedvalueModel", "holds0", "(I)Z"⟩, 43), (⟨"BoxedvalueModel", "holdsNothing", "(I)Z"⟩, 43), (⟨"BoxedvalueModel", "makes", "(IIII)Z"⟩, 43), (⟨"BoxedvalueModel", "lifted", "(III)I"⟩, 43), (⟨"BoxedvalueModel", "single", "(IJJ)V"⟩, 43), (⟨"BoxedvalueModel", "isBelow0", "(I)Z"⟩, 43), (⟨"BoxedvalueModel", "isBelow", "(I)Z"⟩, 43), (⟨"BoxedvalueModel", "powers", "(JJIZ)Z"⟩, 43), (⟨"BoxedvalueModel", "rooted", "(III)I"⟩, 43), (⟨"BoxedvalueModel", "roots", "(JJIZ)Z"⟩, 43), (⟨"BoxedvalueModel", "negative", "(II)I"⟩, 43), (⟨"BoxedvalueModel", "again", "(II)I"⟩, 43), (⟨"BoxedvalueModel", "unsigned", "(II)I"⟩, 43), (⟨"BoxedvalueModel", "rising", "(IIC)I"⟩, 43), (⟨"BoxedvalueModel", "isAbove0", "(I)Z"⟩, 43)]
theorem lw_r8 : ∀ q ∈ lw_privs_8, lw_okq q := List.forall_mem_cons.mpr ⟨lw_p112, List.forall_mem_cons.mpr ⟨lw_p113, List.forall_mem_cons.mpr ⟨lw_p114, List.forall_mem_cons.mpr ⟨lw_p115, List.forall_mem_cons.mpr ⟨lw_p116, List.forall_mem_cons.mpr ⟨lw_p117, List.forall_mem_cons.mpr ⟨lw_p118, List.forall_mem_cons.mpr ⟨lw_p119, List.forall_mem_cons.mpr ⟨lw_p120, List.forall_mem_cons.mpr ⟨lw_p121, List.forall_mem_cons.mpr ⟨lw_p122, List.forall_mem_cons.mpr ⟨lw_p123, List.forall_mem_cons.mpr ⟨lw_p124, List.forall_mem_cons.mpr ⟨lw_p125, List.forall_mem_cons.mpr ⟨lw_p126, List.forall_mem_cons.mpr ⟨lw_p127, fun _ h => absurd h List.not_mem_nil⟩⟩⟩⟩⟩⟩⟩⟩⟩⟩⟩⟩⟩⟩⟩⟩
theorem lw_p128 : lw_okq (⟨"BoxedvalueModel", "rises", "(CJJZ)Z"⟩, 43) := ⟨⟨by decide +kernel, by decide +kernel⟩, List.mem_of_getElem? (i := 1754) (by decide +kernel), List.mem_of_getElem? (i := 2291) (by decide +kernel), List.mem_of_getElem? (i := 2292) (by decide +kernel)⟩
theorem lw_p129 : lw_okq (⟨"BoxedvalueModel", "raises", "(JJZ)Z"⟩, 43) := ⟨⟨by decide +kernel, by decide +kernel⟩, List.mem_of_getElem? (i := 1754) (by decide +kernel), List.mem_of_getElem? (i := 2295) (by decide +kernel), List.mem_of_getElem? (i := 2296) (by decide +kernel)⟩
theorem lw_p130 : lw_okq (⟨"BoxedvalueModel", "logs", "(JJZ)Z"⟩, 43) := ⟨⟨by decide +kernel, by decide +kernel⟩, List.mem_of_getElem? (i := 1754) (by decide +kernel), List.mem_of_getElem? (i := 2301) (by decide +kernel), List.mem_of_getElem? (i := 2302) (by decide +kernel)⟩
theorem lw_p131 : lw_okq (⟨"BoxedvalueModel", "needsLog", "()V"⟩, 43) := ⟨⟨by decide +kernel, by decide +kernel⟩, List.mem_of_getElem? (i := 1754) (by decide +kernel), List.mem_of_getElem? (i := 2305) (by decide +kernel), List.mem_of_getElem? (i := 2306) (by decide +kernel)⟩
theorem lw_p132 : lw_okq (⟨"BoxedvalueModel", "arcs", "(JJZ)Z"⟩, 43) := ⟨⟨by decide +kernel, by decide +kernel⟩, List.mem_of_getElem? (i := 1754) (by decide +kernel), List.mem_of_getElem? (i := 2309) (by decide +kernel), List.mem_of_getElem? (i := 2310) (by decide +kernel)⟩
theorem lw_p133 : lw_okq (⟨"BoxedvalueModel", "crossed", "(IIIII)I"⟩, 43) := ⟨⟨by decide +kernel, by decide +kernel⟩, List.mem_of_getElem? (i := 1754) (by decide +kernel), List.mem_of_getElem? (i := 2317) (by decide +kernel), List.mem_of_getElem? (i := 2318) (by decide +kernel)⟩
theorem lw_p134 : lw_okq (⟨"BoxedvalueModel", "readSum", "()I"⟩, 43) := ⟨⟨by decide +kernel, by decide +kernel⟩, List.mem_of_getElem? (i := 1754) (by decide +kernel), List.mem_of_getElem? (i := 2328) (by decide +kernel), List.mem_of_getElem? (i := 2329) (by decide +kernel)⟩
theorem lw_p135 : lw_okq (⟨"BoxedvalueModel", "readProduct", "()I"⟩, 43) := ⟨⟨by decide +kernel, by decide +kernel⟩, List.mem_of_getElem? (i := 1754) (by decide +kernel), List.mem_of_getElem? (i := 2332) (by decide +kernel), List.mem_of_getElem? (i := 2333) (by decide +kernel)⟩
theorem lw_p136 : lw_okq (⟨"BoxedvalueModel", "readPower", "()I"⟩, 43) := ⟨⟨by decide +kernel, by decide +kernel⟩, List.mem_of_getElem? (i := 1754) (by decide +kernel), List.mem_of_getElem? (i := 2336) (by decide +kernel), List.mem_of_getElem? (i := 2337) (by decide +kernel)⟩
theorem lw_p137 : lw_okq (⟨"BoxedvalueModel", "readAtom", "()I"⟩, 43) := ⟨⟨by decide +kernel, by decide +kernel⟩, List.mem_of_getElem? (i := 1754) (by decide +kernel), List.mem_of_getElem? (i := 2340) (by decide +kernel), List.mem_of_getElem? (i := 2341) (by decide +kernel)⟩
theorem lw_p138 : lw_okq (⟨"BoxedvalueModel", "sign", "()C"⟩, 43) := ⟨⟨by decide +kernel, by decide +kernel⟩, List.mem_of_getElem? (i := 1754) (by decide +kernel), List.mem_of_getElem? (i := 2344) (by decide +kernel), List.mem_of_getElem? (i := 2345) (by decide +kernel)⟩
theorem lw_p139 : lw_okq (⟨"BoxedvalueModel", "readNumber", "()I"⟩, 43) := ⟨⟨by decide +kernel, by decide +kernel⟩, List.mem_of_getElem? (i := 1754) (by decide +kernel), List.mem_of_getElem? (i := 2348) (by decide +kernel), List.mem_of_getElem? (i := 2349) (by decide +kernel)⟩
theorem lw_p140 : lw_okq (⟨"BoxedvalueModel", "faults", "()I"⟩, 43) := ⟨⟨by decide +kernel, by decide +kernel⟩, List.mem_of_getElem? (i := 1754) (by decide +kernel), List.mem_of_getElem? (i := 2352) (by decide +kernel), List.mem_of_getElem? (i := 2353) (by decide +kernel)⟩
theorem lw_p141 : lw_okq (⟨"BoxedvalueModel", "part", "(CII)I"⟩, 43) := ⟨⟨by decide +kernel, by decide +kernel⟩, List.mem_of_getElem? (i := 1754) (by decide +kernel), List.mem_of_getElem? (i := 2356) (by decide +kernel), List.mem_of_getElem? (i := 2357) (by decide +kernel)⟩
theorem lw_p142 : lw_okq (⟨"BoxedvalueModel", "hasYOf", "(I)Z"⟩, 43) := ⟨⟨by decide +kernel, by decide +kernel⟩, List.mem_of_getElem? (i := 1754) (by decide +kernel), List.mem_of_getElem? (i := 2364) (by decide +kernel), List.mem_of_getElem? (i := 2365) (by decide +kernel)⟩
theorem lw_p143 : lw_okq (⟨"BoxedvalueModel", "makes", "(IIIIZ)Z"⟩, 43) := ⟨⟨by decide +kernel, by decide +kernel⟩, List.mem_of_getElem? (i := 1754) (by decide +kernel), List.mem_of_getElem? (i := 2372) (by decide +kernel), List.mem_of_getElem? (i := 2373) (by decide +kernel)⟩
def lw_privs_9 : List (MethodName × Nat) := [(⟨"BoxedvalueModel", "rises", "(CJJZ)Z"⟩, 43), (⟨"BoxedvalueModel", "raises", "(JJZ)Z"⟩, 43), (⟨"BoxedvalueModel", "logs", "(JJZ)Z"⟩, 43), (⟨"BoxedvalueModel", "needsLog", "()V"⟩, 43), (⟨"BoxedvalueModel", "arcs", "(JJZ)Z"⟩, 43), (⟨"BoxedvalueModel", "crossed", "(IIIII)I"⟩, 43), (⟨"BoxedvalueModel", "readSum", "()I"⟩, 43), (⟨"BoxedvalueModel", "readProduct", "()I"⟩, 43), (⟨"BoxedvalueModel", "readPower", "()I"⟩, 43), (⟨"BoxedvalueModel", "readAtom", "()I"⟩, 43), (⟨"BoxedvalueModel", "sign", "()C"⟩, 43), (⟨"BoxedvalueModel", "readNumber", "()I"⟩, 43), (⟨"BoxedvalueModel", "faults", "()I"⟩, 43), (⟨"BoxedvalueModel", "part", "(CII)I"⟩, 43), (⟨"BoxedvalueModel", "hasYOf", "(I)Z"⟩, 43), (⟨"BoxedvalueModel", "makes", "(IIIIZ)Z"⟩, 43)]
theorem lw_r9 : ∀ q ∈ lw_privs_9, lw_okq q := List.forall_mem_cons.mpr ⟨lw_p128, List.forall_mem_cons.mpr ⟨lw_p129, List.forall_mem_cons.mpr ⟨lw_p130, List.forall_mem_cons.mpr ⟨lw_p131, List.forall_mem_cons.mpr ⟨lw_p132, List.forall_mem_cons.mpr ⟨lw_p133, List.forall_mem_cons.mpr ⟨lw_p134, List.forall_mem_cons.mpr ⟨lw_p135, List.forall_mem_cons.mpr ⟨lw_p136, List.forall_mem_cons.mpr ⟨lw_p137, List.forall_mem_cons.mpr ⟨lw_p138, List.forall_mem_cons.mpr ⟨lw_p139, List.forall_mem_cons.mpr ⟨lw_p140, List.forall_mem_cons.mpr ⟨lw_p141, List.forall_mem_cons.mpr ⟨lw_p142, List.forall_mem_cons.mpr ⟨lw_p143, fun _ h => absurd h List.not_mem_nil⟩⟩⟩⟩⟩⟩⟩⟩⟩⟩⟩⟩⟩⟩⟩⟩
theorem lw_p144 : lw_okq (⟨"BoxedvalueModel", "told", "(IIIIZ)I"⟩, 43) := ⟨⟨by decide +kernel, by decide +kernel⟩, List.mem_of_getElem? (i := 1754) (by decide +kernel), List.mem_of_getElem? (i := 2376) (by decide +kernel), List.mem_of_getElem? (i := 2377) (by decide +kernel)⟩
theorem lw_p145 : lw_okq (⟨"BoxedvalueModel", "slopes", "(II)I"⟩, 43) := ⟨⟨by decide +kernel, by decide +kernel⟩, List.mem_of_getElem? (i := 1754) (by decide +kernel), List.mem_of_getElem? (i := 2380) (by decide +kernel), List.mem_of_getElem? (i := 2381) (by decide +kernel)⟩
theorem lw_p146 : lw_okq (⟨"BoxedvalueModel", "values", "(II)I"⟩, 43) := ⟨⟨by decide +kernel, by decide +kernel⟩, List.mem_of_getElem? (i := 1754) (by decide +kernel), List.mem_of_getElem? (i := 2384) (by decide +kernel), List.mem_of_getElem? (i := 2385) (by decide +kernel)⟩
theorem lw_p147 : lw_okq (⟨"BoxedvalueModel", "whole", "(IJ)I"⟩, 43) := ⟨⟨by decide +kernel, by decide +kernel⟩, List.mem_of_getElem? (i := 1754) (by decide +kernel), List.mem_of_getElem? (i := 2388) (by decide +kernel), List.mem_of_getElem? (i := 2389) (by decide +kernel)⟩
theorem lw_p148 : lw_okq (⟨"BoxedvalueModel", "noLook", "(II)I"⟩, 43) := ⟨⟨by decide +kernel, by decide +kernel⟩, List.mem_of_getElem? (i := 1754) (by decide +kernel), List.mem_of_getElem? (i := 2404) (by decide +kernel), List.mem_of_getElem? (i := 2405) (by decide +kernel)⟩
theorem lw_p149 : lw_okq (⟨"BoxedvalueModel", "looks", "(III)V"⟩, 43) := ⟨⟨by decide +kernel, by decide +kernel⟩, List.mem_of_getElem? (i := 1754) (by decide +kernel), List.mem_of_getElem? (i := 2408) (by decide +kernel), List.mem_of_getElem? (i := 2409) (by decide +kernel)⟩
theorem lw_p150 : lw_okq (⟨"BoxedvalueModel", "tellsOf", "(II)C"⟩, 43) := ⟨⟨by decide +kernel, by decide +kernel⟩, List.mem_of_getElem? (i := 1754) (by decide +kernel), List.mem_of_getElem? (i := 2412) (by decide +kernel), List.mem_of_getElem? (i := 2413) (by decide +kernel)⟩
theorem lw_p151 : lw_okq (⟨"BoxedvalueModel", "ends", "(II)C"⟩, 43) := ⟨⟨by decide +kernel, by decide +kernel⟩, List.mem_of_getElem? (i := 1754) (by decide +kernel), List.mem_of_getElem? (i := 2416) (by decide +kernel), List.mem_of_getElem? (i := 2417) (by decide +kernel)⟩
theorem lw_p152 : lw_okq (⟨"BoxedvalueModel", "canCut", "(I)Z"⟩, 43) := ⟨⟨by decide +kernel, by decide +kernel⟩, List.mem_of_getElem? (i := 1754) (by decide +kernel), List.mem_of_getElem? (i := 2423) (by decide +kernel), List.mem_of_getElem? (i := 2424) (by decide +kernel)⟩
theorem lw_p153 : lw_okq (⟨"BoxedvalueModel", "middle", "(II)V"⟩, 43) := ⟨⟨by decide +kernel, by decide +kernel⟩, List.mem_of_getElem? (i := 1754) (by decide +kernel), List.mem_of_getElem? (i := 2427) (by decide +kernel), List.mem_of_getElem? (i := 2428) (by decide +kernel)⟩
theorem lw_p154 : lw_okq (⟨"BoxedvalueModel", "half", "(IIZ)V"⟩, 43) := ⟨⟨by decide +kernel, by decide +kernel⟩, List.mem_of_getElem? (i := 1754) (by decide +kernel), List.mem_of_getElem? (i := 2431) (by decide +kernel), List.mem_of_getElem? (i := 2432) (by decide +kernel)⟩
theorem lw_p155 : lw_okq (⟨"BoxedvalueModel", "cutsInto", "(III)I"⟩, 43) := ⟨⟨by decide +kernel, by decide +kernel⟩, List.mem_of_getElem? (i := 1754) (by decide +kernel), List.mem_of_getElem? (i := 2451) (by decide +kernel), List.mem_of_getElem? (i := 2452) (by decide +kernel)⟩
theorem lw_p156 : lw_okq (⟨"BoxedvalueModel", "canBe0", "(III)Z"⟩, 43) := ⟨⟨by decide +kernel, by decide +kernel⟩, List.mem_of_getElem? (i := 1754) (by decide +kernel), List.mem_of_getElem? (i := 2455) (by decide +kernel), List.mem_of_getElem? (i := 2456) (by decide +kernel)⟩
theorem lw_p157 : lw_okq (⟨"BoxedvalueModel", "bounds", "(IIIIZ)Z"⟩, 43) := ⟨⟨by decide +kernel, by decide +kernel⟩, List.mem_of_getElem? (i := 1754) (by decide +kernel), List.mem_of_getElem? (i := 2463) (by decide +kernel), List.mem_of_getElem? (i := 2464) (by decide +kernel)⟩
theorem lw_p158 : lw_okq (⟨"BoxedvalueModel", "noBounds", "(IIII)I"⟩, 43) := ⟨⟨by decide +kernel, by decide +kernel⟩, List.mem_of_getElem? (i := 1754) (by decide +kernel), List.mem_of_getElem? (i := 2467) (by decide +kernel), List.mem_of_getElem? (i := 2468) (by decide +kernel)⟩
theorem lw_p159 : lw_okq (⟨"BoxedvalueModel", "extreme", "(IIIIZ)I"⟩, 43) := ⟨⟨by decide +kernel, by decide +kernel⟩, List.mem_of_getElem? (i := 1754) (by decide +kernel), List.mem_of_getElem? (i := 2471) (by decide +kernel), List.mem_of_getElem? (i := 2472) (by decide +kernel)⟩
def lw_privs_10 : List (MethodName × Nat) := [(⟨"BoxedvalueModel", "told", "(IIIIZ)I"⟩, 43), (⟨"BoxedvalueModel", "slopes", "(II)I"⟩, 43), (⟨"BoxedvalueModel", "values", "(II)I"⟩, 43), (⟨"BoxedvalueModel", "whole", "(IJ)I"⟩, 43), (⟨"BoxedvalueModel", "noLook", "(II)I"⟩, 43), (⟨"BoxedvalueModel", "looks", "(III)V"⟩, 43), (⟨"BoxedvalueModel", "tellsOf", "(II)C"⟩, 43), (⟨"BoxedvalueModel", "ends", "(II)C"⟩, 43), (⟨"BoxedvalueModel", "canCut", "(I)Z"⟩, 43), (⟨"BoxedvalueModel", "middle", "(II)V"⟩, 43), (⟨"BoxedvalueModel", "half", "(IIZ)V"⟩, 43), (⟨"BoxedvalueModel", "cutsInto", "(III)I"⟩, 43), (⟨"BoxedvalueModel", "canBe0", "(III)Z"⟩, 43), (⟨"BoxedvalueModel", "bounds", "(IIIIZ)Z"⟩, 43), (⟨"BoxedvalueModel", "noBounds", "(IIII)I"⟩, 43), (⟨"BoxedvalueModel", "extreme", "(IIIIZ)I"⟩, 43)]
theorem lw_r10 : ∀ q ∈ lw_privs_10, lw_okq q := List.forall_mem_cons.mpr ⟨lw_p144, List.forall_mem_cons.mpr ⟨lw_p145, List.forall_mem_cons.mpr ⟨lw_p146, List.forall_mem_cons.mpr ⟨lw_p147, List.forall_mem_cons.mpr ⟨lw_p148, List.forall_mem_cons.mpr ⟨lw_p149, List.forall_mem_cons.mpr ⟨lw_p150, List.forall_mem_cons.mpr ⟨lw_p151, List.forall_mem_cons.mpr ⟨lw_p152, List.forall_mem_cons.mpr ⟨lw_p153, List.forall_mem_cons.mpr ⟨lw_p154, List.forall_mem_cons.mpr ⟨lw_p155, List.forall_mem_cons.mpr ⟨lw_p156, List.forall_mem_cons.mpr ⟨lw_p157, List.forall_mem_cons.mpr ⟨lw_p158, List.forall_mem_cons.mpr ⟨lw_p159, fun _ h => absurd h List.not_mem_nil⟩⟩⟩⟩⟩⟩⟩⟩⟩⟩⟩⟩⟩⟩⟩⟩
theorem lw_p160 : lw_okq (⟨"BoxedvalueModel", "areas", "(IIII)I"⟩, 43) := ⟨⟨by decide +kernel, by decide +kernel⟩, List.mem_of_getElem? (i := 1754) (by decide +kernel), List.mem_of_getElem? (i := 2483) (by decide +kernel), List.mem_of_getElem? (i := 2484) (by decide +kernel)⟩
theorem lw_p161 : lw_okq (⟨"BoxedvalueModel", "moves", "(IIII)I"⟩, 43) := ⟨⟨by decide +kernel, by decide +kernel⟩, List.mem_of_getElem? (i := 1754) (by decide +kernel), List.mem_of_getElem? (i := 2492) (by decide +kernel), List.mem_of_getElem? (i := 2493) (by decide +kernel)⟩
theorem lw_p162 : lw_okq (⟨"BoxedvalueModel", "outward", "(I)I"⟩, 43) := ⟨⟨by decide +kernel, by decide +kernel⟩, List.mem_of_getElem? (i := 1754) (by decide +kernel), List.mem_of_getElem? (i := 2497) (by decide +kernel), List.mem_of_getElem? (i := 2498) (by decide +kernel)⟩
theorem lw_p163 : lw_okq (⟨"BoxedvalueModel", "spelledInto", "(JJJ)J"⟩, 43) := ⟨⟨by decide +kernel, by decide +kernel⟩, List.mem_of_getElem? (i := 1754) (by decide +kernel), List.mem_of_getElem? (i := 2511) (by decide +kernel), List.mem_of_getElem? (i := 2512) (by decide +kernel)⟩
def lw_privs_11 : List (MethodName × Nat) := [(⟨"BoxedvalueModel", "areas", "(IIII)I"⟩, 43), (⟨"BoxedvalueModel", "moves", "(IIII)I"⟩, 43), (⟨"BoxedvalueModel", "outward", "(I)I"⟩, 43), (⟨"BoxedvalueModel", "spelledInto", "(JJJ)J"⟩, 43)]
theorem lw_r11 : ∀ q ∈ lw_privs_11, lw_okq q := List.forall_mem_cons.mpr ⟨lw_p160, List.forall_mem_cons.mpr ⟨lw_p161, List.forall_mem_cons.mpr ⟨lw_p162, List.forall_mem_cons.mpr ⟨lw_p163, fun _ h => absurd h List.not_mem_nil⟩⟩⟩⟩
def lw_privs : List (MethodName × Nat) := lw_privs_1 ++ (lw_privs_2 ++ (lw_privs_3 ++ (lw_privs_4 ++ (lw_privs_5 ++ (lw_privs_6 ++ (lw_privs_7 ++ (lw_privs_8 ++ (lw_privs_9 ++ (lw_privs_10 ++ (lw_privs_11))))))))))
def lw_tbl : List Cond := k2_sels lw_privs ++ tables_1
theorem lw_privs_ok : ∀ q ∈ lw_privs, lw_okq q := by
  show ∀ q ∈ lw_privs_1 ++ (lw_privs_2 ++ (lw_privs_3 ++ (lw_privs_4 ++ (lw_privs_5 ++ (lw_privs_6 ++ (lw_privs_7 ++ (lw_privs_8 ++ (lw_privs_9 ++ (lw_privs_10 ++ (lw_privs_11)))))))))), lw_okq q
  exact List.forall_mem_append.mpr ⟨lw_r1, List.forall_mem_append.mpr ⟨lw_r2, List.forall_mem_append.mpr ⟨lw_r3, List.forall_mem_append.mpr ⟨lw_r4, List.forall_mem_append.mpr ⟨lw_r5, List.forall_mem_append.mpr ⟨lw_r6, List.forall_mem_append.mpr ⟨lw_r7, List.forall_mem_append.mpr ⟨lw_r8, List.forall_mem_append.mpr ⟨lw_r9, List.forall_mem_append.mpr ⟨lw_r10, lw_r11⟩⟩⟩⟩⟩⟩⟩⟩⟩⟩
/-- the streams that the claim lets the run draw from -/
abbrev lw_cs : List Choice := [Jvm.Choice.named "NaN.bits"]
theorem lw_bits : nanBits ∈ lw_cs := by first | decide | exact List.mem_cons_self | simp [lw_cs, nanBits]
-- ===== end of PART A; then your names; then what follows =====
end
section
/-! ===== BEGIN words of one list among another's, by their places ===== -/
theorem goodIn_r {big : List Cond} (ws : List Cond) (ps : List Nat) (hp : ws = ps.filterMap (fun i => big[i]?)) (h : ws.all goodWord = true) : GoodIn big ws := by
  intro w hw
  have h1 := List.all_eq_true.mp h w hw
  rw [hp] at hw
  obtain ⟨i, -, hi⟩ := List.mem_filterMap.mp hw
  have hm : w ∈ big := by first | exact List.mem_of_getElem? hi | exact List.getElem?_mem hi
  exact ⟨hm, good_of_word h1⟩
theorem goodIn_app {big a b : List Cond} (ha : GoodIn big a) (hb : GoodIn big b) : GoodIn big (a ++ b) := fun w h => (List.mem_append.mp h).elim (ha w) (hb w)
theorem goodIn_ca {big a b : List Cond} {c : Cond} (ha : GoodIn big (c :: a)) (hb : GoodIn big b) : GoodIn big (c :: (a ++ b)) := fun w h => (List.mem_cons.mp h).elim (fun e => ha w (List.mem_cons.mpr (Or.inl e))) (fun h => (List.mem_append.mp h).elim (fun h => ha w (List.mem_cons.mpr (Or.inr h))) (hb w))
theorem goodIn_sub {big ws : List Cond} (hm : ∀ w ∈ ws, w ∈ big) (h : ws.all goodWord = true) : GoodIn big ws := fun w hw => ⟨hm w hw, good_of_word (List.all_eq_true.mp h w hw)⟩
/-! ===== END ===== -/

/-! ===== BEGIN exceptions that leave a method, and their catching by the caller (launches without stack traces) ===== -/
section VXA
/-! The laws vx_back, vx_callV, vx_callS, vx_callSW, vx_throw0, vx_throwS follow proofs of the library, with one case more: JvmDerived/Free/Laws.lean (Back.of_free), Shelf42/LK1.lean (callV, callS), Shelf/KitTraced.lean (throwNew0V, throwNewS). -/
/-- where a method has thrown q: the class by its name, the cell, what was written, the world -/
def vx_T (XC : String → State → State → Prop) (st : State) (q : Addr) (t : State) (mc ms : Nat) (free : Addr → Prop) : Prop :=
  ∃ (E : String) (ce : Cell) (L : List Loc), XC E st t ∧ t.heap[q]? = some ce ∧ ce.vm = .none ∧ st.vm.findClass E = some ce.cls ∧ st.WarmedH t.vm ∧ st.sameButNew ({ t with vm := st.vm } : State) L mc ms ∧ ∀ z ∈ L, free z.base
def vx_Q (Qc : Array Value → State → Outcome → State → Prop) (XC : String → State → State → Prop) (mc ms : Nat) (free : Addr → Prop) : Array Value → State → Outcome → State → Prop := fun a st o t =>
  (Qc a st o t ∧ ∃ L, FrameEnd st o t L mc ms ∧ ∀ q ∈ L, free q.base) ∨ ∃ q, o = .threw q ∧ vx_T XC st q t mc ms free
/-- a callee that returns or throws -/
def vx_Met (l : Launch) (y : MethodName) (ws : List Cond) (rm : Room) (Pc : Array Value → State → Prop) (Qc : Array Value → State → Outcome → State → Prop) (XC : String → State → State → Prop) (mc ms : Nat) (free : Addr → Prop) : Prop :=
  MetFree l y (headSpec ws rm) Pc (fun _ _ _ _ _ => True) (vx_Q Qc XC mc ms free)
def vx_Post (XC : String → State → State → Prop) (mc ms : Nat) (free : Addr → Prop) : Pt → Array Value → Addr → Pt → Prop := fun A a q B =>
  ∃ (g : JFrame) (mk : MethodId) (t : State) (L : List Loc) (E : String) (ce : Cell), B.U.heap = t.heap ∧ B.U.vm = t.vm ∧ XC E (A.U.calling g mk a) t ∧ t.heap[q]? = some ce ∧ ce.vm = .none ∧ A.U.vm.findClass E = some ce.cls ∧ B.locs = A.locs ++ L ∧ (∀ z ∈ L, free z.base) ∧ B.cells = A.cells + mc ∧ B.slots = A.slots + ms
def vx_Back (l : Launch) (R : Room) (p : Program) (e : Env) (below : List Frame) (s : State) (sargs : Array Value) (y : MethodName) (len W9 : Nat)
    (Pre : Pt → Array Value → Prop) (Post : Pt → Array Value → Option Value → Pt → Prop) (PostX : Pt → Array Value → Addr → Pt → Prop) : Prop :=
  ∀ (m : MethodId) (meth : Method) (c : Code) (A : Pt) (g : JFrame) (ig : Instr) (mk : MethodId) (a : Array Value),
    Stand p l e R s m sargs below meth c A.U A.locs A.cells A.slots → g.method = m → g.locals.size = c.maxLocals → decode c.code g.pc = .ok (ig, len) →
    2 * g.monitorRoom + (g.stack.map fun v => v.category).sum ≤ W9 → A.U.methodNamed? y = some mk → Pre A a →
    (∃ (v : Option Value) (B : Pt), Stand p l e R s m sargs below meth c B.U B.locs B.cells B.slots ∧ Post A a v B ∧
      Steps p.tables e below (doInvoke e (A.U.setTop g) [] mk a).1 (B.U.setTop { g with pc := g.pc + len, stack := v.toList ++ g.stack })) ∨
    (∃ (q : Addr) (B : Pt), Stand p l e R s m sargs below meth c B.U B.locs B.cells B.slots ∧ PostX A a q B ∧
      Steps p.tables e below (doInvoke e (A.U.setTop g) [] mk a).1 ((B.U.setTop g).pushFrame (.throwing q)))
section Payer
variable {l : Launch} {R : Room} {p : Program} {e : Env} {below : List Frame} {s : State} {sargs : Array Value} {y : MethodName} {len W9 : Nat}
theorem vx_back {ws : List Cond} {rm : Room} {Pc : Array Value → State → Prop} {Qc : Array Value → State → Outcome → State → Prop} {XC : String → State → State → Prop} {mc ms : Nat} {free : Addr → Prop} {bytes : ByteArray} {maxL : Nat} {ret : Option FieldType}
    (hM : vx_Met l y ws rm Pc Qc XC mc ms free) (hblind : FrameBlind Pc) (hrc : rm.cells = mc) (hrs : rm.slots = ms)
    (hframes : rm.frames + 1 ≤ R.frames) (hlocals : W9 + (maxL + 11) + rm.locals ≤ R.locals)
    (hws : ∀ w ∈ ws, ∀ a' U, s.WarmedH U.vm → w.before a' U = true) (hcode : Cond.code y bytes maxL ret ∈ ws) (hinit : ∀ a' U, s.WarmedH U.vm → (Cond.initialized y.cls).before a' U = true) :
    vx_Back l R p e below s sargs y len W9 (PreOf R mc ms Pc) (PostOf Qc mc ms free) (vx_Post XC mc ms free) := by
  intro m meth c A g ig mk a X hg hsize hdg hW hn hp
  have h1 : (headSpec ws rm).pre.before a A.U = true := atoms_intro fun w hw => hws w hw _ _ X.warmed
  have h2 : (Cond.code y bytes maxL ret).before a A.U = true := hws _ hcode _ _ X.warmed
  have h3 : (Cond.initialized y.cls).before a A.U = true := hinit _ _ X.warmed
  have h4 : A.cells + (headSpec ws rm).room.cells ≤ R.cells := by rw [show (headSpec ws rm).room.cells = mc from hrc]; exact hp.1
  have h5 : A.slots + (headSpec ws rm).room.slots ≤ R.slots := by rw [show (headSpec ws rm).room.slots = ms from hrs]; exact hp.2.1
  have hPc : Pc a (A.U.calling g mk a) := hblind _ _ _ _ hp.2.2
  obtain ⟨U, Ls, c0, s0⟩ := A
  dsimp only [Pt.U, Pt.locs, Pt.cells, Pt.slots] at h1 h2 h3 h4 h5 X hn hPc ⊢
  obtain ⟨methY, cY, hmY, hcY, -, hlY, -, -, -, -⟩ := Cond.code_spec hn h2
  obtain ⟨kY, hkY, -⟩ := className_of_methodNamed hn
  have hinitY : kY.init = .initialized := Cond.initialized_spec (findClass_of_methodNamed hn) hkY h3
  have h : At U g.method c below := by rw [hg]; exact X.here
  have hlocals9 : W9 + (maxL + 11) + (headSpec ws rm).room.locals ≤ R.locals := hlocals
  have happ : (headSpec ws rm).appliesLoose y e.platform (U.calling g mk a) = true :=
    Spec.appliesLoose_calling (g := g) h hdg hn hkY hinitY
      (X.room_calling (g := g) (R' := (headSpec ws rm).room) hsize hmY hcY hframes (by rw [hlY]; omega) h4 h5) h1
  obtain ⟨mid, hmid⟩ := h.above
  have hfr : (U.setTop g).frames = (.java g :: mid) ++ below := by rw [State.frames_setTop' g h.top, hmid]; rfl
  obtain ⟨o, s₂, hsteps, -, hend, hq⟩ := Steps.callFree hM p X.admits X.cas X.clock (acts := []) hfr happ hPc trivial
  have hq' : vx_Q Qc XC mc ms free a (U.calling g mk a) o s₂ := hq
  rw [State.frames_setTop' g h.top] at hend
  obtain ⟨g₀, hg0⟩ := Option.isSome_iff_exists.mp h.top
  obtain ⟨r, hr⟩ := State.topJava?_eq_some.mp hg0
  have hr' : (({ U with heap := s₂.heap, slotsUsed := s₂.slotsUsed } : State).setVm s₂.vm).frames = .java g₀ :: r := hr
  rcases hq' with ⟨hqc, L, hfe, hL⟩ | ⟨q, rfl, E, ce, L, hx, hce, hcv, hcl, hW₂, hsm, hL⟩
  · obtain ⟨⟨v, rfl⟩, hW₂, e2, q2, q3, q4, q5, q6⟩ := id hfe
    have e3 : s₂ = ({ (U.calling g mk a).setFrames s₂.frames with heap := s₂.heap, slotsUsed := s₂.slotsUsed } : State).setVm s₂.vm := by
      have : s₂ = ({ s₂ with vm := (U.calling g mk a).vm } : State).setVm s₂.vm := rfl
      rw [e2] at this
      exact this
    obtain ⟨c₂, i₂, len₂, hc₂, hd₂, hf₂⟩ := hend
    have hW' : U.WarmedH s₂.vm := hW₂
    have hcc : c₂ = c := by
      have h1 : s₂.code? g.method = U.code? g.method := by
        rw [State.code?_eq, State.code?_eq, hW'.alike.method?]
      exact Option.some.inj (hc₂.symm.trans (h1.trans h.code))
    subst hcc
    have hlen : len₂ = len := by rw [hdg] at hd₂; cases hd₂; rfl
    subst hlen
    have hs₂ : s₂ = (({ U with heap := s₂.heap, slotsUsed := s₂.slotsUsed } : State).setVm s₂.vm).setTop { g with pc := g.pc + len₂, stack := v.toList ++ g.stack } := by
      refine e3.trans ?_
      rw [hf₂, State.calling_eq h.top, State.setFrames_setFrames, State.setTop_of_frames _ hr', hr]
      rfl
    have hsame : U.sameButNew ({ U with heap := s₂.heap, slotsUsed := s₂.slotsUsed } : State) L mc ms := by
      refine ⟨?_, q2, q3, q4, q5, q6⟩
      obtain ⟨t, ht, -⟩ := State.frames_cons hr
      show ({ U with heap := s₂.heap, slotsUsed := s₂.slotsUsed } : State) = { U.setFrames U.frames with heap := s₂.heap, slotsUsed := s₂.slotsUsed }
      rw [State.setFrames_self ht]
    subst hg
    refine Or.inl ⟨v, ⟨(({ U with heap := s₂.heap, slotsUsed := s₂.slotsUsed } : State).setVm s₂.vm), Ls ++ L, c0 + mc, s0 + ms⟩,
      ⟨X.admits, X.cas, X.clock, X.frames, X.room, X.hears, X.method, X.code, (X.here.setHeapUsed s₂.heap s₂.slotsUsed).setVm hW'.alike, X.tail, State.WarmedH.trans X.warmed hW', X.limits, X.bytes, X.same.trans (hsame.setVm s.vm)⟩,
      ⟨g, mk, s₂, L, rfl, rfl, hqc, rfl, hL, rfl, rfl⟩, ?_⟩
    show Steps p.tables e below _ ((({ U with heap := s₂.heap, slotsUsed := s₂.slotsUsed } : State).setVm s₂.vm).setTop { g with pc := g.pc + len₂, stack := v.toList ++ g.stack })
    rw [← hs₂]
    exact hsteps
  · obtain ⟨e2, q2, q3, q4, q5, q6⟩ := id hsm
    have e3 : s₂ = ({ (U.calling g mk a).setFrames s₂.frames with heap := s₂.heap, slotsUsed := s₂.slotsUsed } : State).setVm s₂.vm := by
      have : s₂ = ({ s₂ with vm := (U.calling g mk a).vm } : State).setVm s₂.vm := rfl
      rw [e2] at this
      exact this
    have hf₂ : s₂.frames = .throwing q :: .java g :: U.frames.tail := hend
    have hW' : U.WarmedH s₂.vm := hW₂
    have hs₂ : s₂ = ((({ U with heap := s₂.heap, slotsUsed := s₂.slotsUsed } : State).setVm s₂.vm).setTop g).pushFrame (.throwing q) := by
      refine e3.trans ?_
      rw [hf₂, State.calling_eq h.top, State.setFrames_setFrames, State.pushFrame, State.frames_setTop _ hr', State.setTop_of_frames _ hr', State.setFrames_setFrames, hr]
      rfl
    have hsame : U.sameButNew ({ U with heap := s₂.heap, slotsUsed := s₂.slotsUsed } : State) L mc ms := by
      refine ⟨?_, q2, q3, q4, q5, q6⟩
      obtain ⟨t, ht, -⟩ := State.frames_cons hr
      show ({ U with heap := s₂.heap, slotsUsed := s₂.slotsUsed } : State) = { U.setFrames U.frames with heap := s₂.heap, slotsUsed := s₂.slotsUsed }
      rw [State.setFrames_self ht]
    subst hg
    refine Or.inr ⟨q, ⟨(({ U with heap := s₂.heap, slotsUsed := s₂.slotsUsed } : State).setVm s₂.vm), Ls ++ L, c0 + mc, s0 + ms⟩,
      ⟨X.admits, X.cas, X.clock, X.frames, X.room, X.hears, X.method, X.code, (X.here.setHeapUsed s₂.heap s₂.slotsUsed).setVm hW'.alike, X.tail, State.WarmedH.trans X.warmed hW', X.limits, X.bytes, X.same.trans (hsame.setVm s.vm)⟩,
      ⟨g, mk, s₂, L, E, ce, rfl, rfl, hx, hce, hcv, hcl, rfl, hL, rfl, rfl⟩, ?_⟩
    show Steps p.tables e below _ (((({ U with heap := s₂.heap, slotsUsed := s₂.slotsUsed } : State).setVm s₂.vm).setTop g).pushFrame (.throwing q))
    rw [← hs₂]
    exact hsteps
end Payer
section Calls
variable {p : Program} {l : Launch} {e : Env} {R : Room} {s : State} {m : MethodId} {args : Array Value} {below : List Frame} {meth : Method} {c : Code} {T : State} {locs : List Loc} {cells slots : Nat}
theorem vx_callV (X : Stand p l e R s m args below meth c T locs cells slots) (hexec : p.tables.exec = Jvm.exec) {own C : String} {index : Nat} {y : MethodName} {bytes : ByteArray} {maxL : Nat} {ret : Option FieldType}
    (hown : s.vm.findClass own = some m.cls) (hlink : (Cond.methodLink own index y).before args s = true) (hinst : (Cond.instanceMethod y).before args s = true) (hsel : (Cond.selects C y y).before args s = true)
    (hcode : (Cond.code y bytes maxL ret).before args s = true) (hy : y.cls ≠ "java/lang/invoke/MethodHandle" ∧ y.cls ≠ "java/lang/invoke/VarHandle")
    {W9 : Nat} {Pre : Pt → Array Value → Prop} {Post : Pt → Array Value → Option Value → Pt → Prop} {PostX : Pt → Array Value → Addr → Pt → Prop} (hK : vx_Back l R p e below s args y 3 W9 Pre Post PostX)
    {b : Addr} {cellB : Cell} (hcell : T.heap[b]? = some cellB) (hobj : cellB.vm.isStatics = false) (hcls : s.vm.findClass C = some cellB.cls)
    {g : JFrame} (hg : g.method = m) (hsize : g.locals.size = c.maxLocals) {argsL rest : List Value} (hlen : ∀ sig, parseMethodDescriptor y.desc = some sig → argsL.length = sig.parameters.length)
    (hstack : g.stack = argsL.reverse ++ .ref b :: rest) (hW : 2 * g.monitorRoom + (rest.map fun v => v.category).sum ≤ W9) (hdg : decode c.code g.pc = .ok (.invokevirtual index, 3))
    (hpre : ∀ vm₁, s.WarmedH vm₁ → Pre ⟨T.setVm vm₁, locs, cells, slots⟩ (Value.ref b :: argsL).toArray) :
    (∃ (v : Option Value) (vm₁ : Vm) (B : Pt), s.WarmedH vm₁ ∧ Stand p l e R s m args below meth c B.U B.locs B.cells B.slots ∧ Post ⟨T.setVm vm₁, locs, cells, slots⟩ (Value.ref b :: argsL).toArray v B ∧
      ∀ target, Steps p.tables e below (B.U.setTop { g with pc := g.pc + 3, stack := v.toList ++ rest }) target → Steps p.tables e below (T.setTop g) target) ∨
    (∃ (q : Addr) (vm₁ : Vm) (B : Pt), s.WarmedH vm₁ ∧ Stand p l e R s m args below meth c B.U B.locs B.cells B.slots ∧ PostX ⟨T.setVm vm₁, locs, cells, slots⟩ (Value.ref b :: argsL).toArray q B ∧
      Steps p.tables e below (T.setTop g) ((B.U.setTop { g with stack := rest }).pushFrame (.throwing q))) := by
  obtain ⟨mk, methM, hnamed, hmethM, hstM, habM⟩ := Cond.instanceMethod_spec hinst
  obtain ⟨methM', cM, hmethM', -, -, -, -, -, -, hsigM⟩ := Cond.code_spec hnamed hcode
  cases hmethM.symm.trans hmethM'
  obtain ⟨c2, r2, m2, q1, q2, q3, q4, kP, hkP, hkPi⟩ := Cond.selects_spec hsel
  cases hcls.symm.trans q1
  cases (State.methodFound?_of_named hnamed hy).symm.trans q2
  cases hnamed.symm.trans q3
  have hselP : selectMethod e.platform s.vm cellB.cls mk = .method mk := by rw [Launch.admits_selectMethod X.admits]; exact q4
  obtain ⟨vm₁, X₁, hstep₁⟩ := X.invokevirtual hexec hown hlink hnamed hmethM hstM hkP hkPi hy (a := b) (cell := cellB) hcell
    (fun z h => by rw [h] at hobj; cases hobj) hselP hmethM habM hkP hkPi (g := g) hg (argsL := argsL) (rest := rest) (hlen _ hsigM) hstack hdg
  rcases hK m meth c ⟨T.setVm vm₁, locs, cells, slots⟩ { g with stack := rest } (.invokevirtual index) mk (Value.ref b :: argsL).toArray X₁ hg hsize hdg hW (X₁.named hnamed) (hpre vm₁ X₁.warmed) with ⟨v, B, X', hpost, hsteps⟩ | ⟨q, B, X', hpost, hsteps⟩
  · exact Or.inl ⟨v, vm₁, B, X₁.warmed, X', hpost, fun target h => hstep₁ _ fun acts => by rw [doInvoke_state]; exact hsteps.trans h⟩
  · exact Or.inr ⟨q, vm₁, B, X₁.warmed, X', hpost, hstep₁ _ fun acts => by rw [doInvoke_state]; exact hsteps⟩
theorem vx_callS (X : Stand p l e R s m args below meth c T locs cells slots) (hexec : p.tables.exec = Jvm.exec) {own : String} {index : Nat} {y : MethodName} {bytes : ByteArray} {maxL : Nat} {ret : Option FieldType}
    (hown : s.vm.findClass own = some m.cls) (hlink : (Cond.methodLink own index y).before args s = true) (hstat : (Cond.static y).before args s = true) (hinit : (Cond.initialized y.cls).before args s = true)
    (hcode : (Cond.code y bytes maxL ret).before args s = true) (hy : y.cls ≠ "java/lang/invoke/MethodHandle" ∧ y.cls ≠ "java/lang/invoke/VarHandle")
    {W9 : Nat} {Pre : Pt → Array Value → Prop} {Post : Pt → Array Value → Option Value → Pt → Prop} {PostX : Pt → Array Value → Addr → Pt → Prop} (hK : vx_Back l R p e below s args y 3 W9 Pre Post PostX)
    {g : JFrame} (hg : g.method = m) (hsize : g.locals.size = c.maxLocals) {argsL rest : List Value} (hlen : ∀ sig, parseMethodDescriptor y.desc = some sig → argsL.length = sig.parameters.length)
    (hstack : g.stack = argsL.reverse ++ rest) (hW : 2 * g.monitorRoom + (rest.map fun v => v.category).sum ≤ W9) (hdg : decode c.code g.pc = .ok (.invokestatic index, 3))
    (hpre : ∀ vm₁, s.WarmedH vm₁ → Pre ⟨T.setVm vm₁, locs, cells, slots⟩ argsL.toArray) :
    (∃ (v : Option Value) (vm₁ : Vm) (B : Pt), s.WarmedH vm₁ ∧ Stand p l e R s m args below meth c B.U B.locs B.cells B.slots ∧ Post ⟨T.setVm vm₁, locs, cells, slots⟩ argsL.toArray v B ∧
      ∀ target, Steps p.tables e below (B.U.setTop { g with pc := g.pc + 3, stack := v.toList ++ rest }) target → Steps p.tables e below (T.setTop g) target) ∨
    (∃ (q : Addr) (vm₁ : Vm) (B : Pt), s.WarmedH vm₁ ∧ Stand p l e R s m args below meth c B.U B.locs B.cells B.slots ∧ PostX ⟨T.setVm vm₁, locs, cells, slots⟩ argsL.toArray q B ∧
      Steps p.tables e below (T.setTop g) ((B.U.setTop { g with stack := rest }).pushFrame (.throwing q))) := by
  obtain ⟨mk, hnamed⟩ := Cond.code_named hcode
  obtain ⟨methM, cM, hmethM, -, -, -, -, -, -, hsigM⟩ := Cond.code_spec hnamed hcode
  have hstatic : methM.isStatic = true := Cond.static_spec hnamed hmethM hstat
  obtain ⟨kP, hkP, -⟩ := className_of_methodNamed hnamed
  have hinitP : kP.init = .initialized := Cond.initialized_spec (findClass_of_methodNamed hnamed) hkP hinit
  obtain ⟨vm₁, X₁, hstep₁⟩ := X.invokestatic hexec hown hlink hnamed hmethM hstatic hkP hinitP hy (g := g) hg (argsL := argsL) (rest := rest) (hlen _ hsigM) hstack hdg
  rcases hK m meth c ⟨T.setVm vm₁, locs, cells, slots⟩ { g with stack := rest } (.invokestatic index) mk argsL.toArray X₁ hg hsize hdg hW (X₁.named hnamed) (hpre vm₁ X₁.warmed) with ⟨v, B, X', hpost, hsteps⟩ | ⟨q, B, X', hpost, hsteps⟩
  · exact Or.inl ⟨v, vm₁, B, X₁.warmed, X', hpost, fun target h => hstep₁ _ fun acts => by rw [doInvoke_state]; exact hsteps.trans h⟩
  · exact Or.inr ⟨q, vm₁, B, X₁.warmed, X', hpost, hstep₁ _ fun acts => by rw [doInvoke_state]; exact hsteps⟩
end Calls
theorem vx_cls {s : State} {T : State} {vm₁ : Vm} {E : String} {k : ClassId} (hW : s.WarmedH vm₁) (h : (T.setVm vm₁).vm.findClass E = some k) : s.vm.findClass E = some k := by
  have h1 : vm₁.findClass E = some k := h
  rw [hW.alike.findClass] at h1
  exact h1
/-- the method's frame g, with q thrown over it -/
def vx_W (p : Program) (l : Launch) (e : Env) (R : Room) (s : State) (m : MethodId) (args : Array Value) (below : List Frame) (meth : Method) (c : Code) (H : Heap) (locs : List Loc) (cells slots : Nat) (Q : State → Prop) (g : JFrame) (q : Addr) : Prop :=
  ∀ T : State, T.heap = H → Stand p l e R s m args below meth c T locs cells slots → ∃ t, Steps p.tables e below ((T.setTop g).pushFrame (.throwing q)) t ∧ Q t
def vx_Run (p : Program) (l : Launch) (e : Env) (R : Room) (s : State) (m : MethodId) (args : Array Value) (below : List Frame) (meth : Method) (c : Code) (H : Heap) (locs : List Loc) (cells slots mc ms : Nat) (g : JFrame) (rest : List Value) (Qa : State → Outcome → State → Prop) (XC : String → State → State → Prop) (free : Addr → Prop) : Prop :=
  ∀ T : State, T.heap = H → Stand p l e R s m args below meth c T locs cells slots →
    (∃ (v : Option Value) (st₀ t T' : State) (L : List Loc), st₀.heap = H ∧ Stand p l e R s m args below meth c T' (locs ++ L) (cells + mc) (slots + ms) ∧ (∀ q ∈ L, free q.base) ∧ T'.heap = t.heap ∧ T'.vm = t.vm ∧ Qa st₀ (.returned v) t ∧
      Goes p e below T g T' { g with pc := g.pc + 3, stack := v.toList ++ rest }) ∨
    (∃ (q : Addr) (st₀ t T' : State) (L : List Loc) (E : String) (ce : Cell), st₀.heap = H ∧ Stand p l e R s m args below meth c T' (locs ++ L) (cells + mc) (slots + ms) ∧ (∀ z ∈ L, free z.base) ∧ T'.heap = t.heap ∧ T'.vm = t.vm ∧ XC E st₀ t ∧ t.heap[q]? = some ce ∧ ce.vm = .none ∧ s.vm.findClass E = some ce.cls ∧
      Steps p.tables e below (T.setTop g) ((T'.setTop { g with stack := rest }).pushFrame (.throwing q)))
def vx_X {S : Type} (px : S → Prop) (B : String → S → State → Prop) (A : Nat → Prop) : String → State → State → Prop := fun E st t => ∃ u : S, px u ∧ B E u t ∧ va_F A st t
section Runs
variable {p : Program} {l : Launch} {e : Env} {R : Room} {s : State} {m : MethodId} {args : Array Value} {below : List Frame} {meth : Method} {c : Code} {H : Heap} {locs : List Loc} {cells slots : Nat}
variable {y : MethodName} {bytes cc : ByteArray} {maxL nL mc ms n index : Nat} {ret : Option FieldType} {ws : List Cond} {rm : Room} {Pc : Array Value → State → Prop} {Qc : Array Value → State → Outcome → State → Prop} {XC : String → State → State → Prop} {free : Addr → Prop} {Ts : List Cond} {own C : String} {b : Addr} {As rest : List Value} {g : JFrame}
theorem vx_callBack (cb : CallB R s args own index y bytes maxL ret ws rm mc ms n) (hM : vx_Met l y ws rm Pc Qc XC mc ms free) (hbl : FrameBlind Pc) : vx_Back l R p e below s args y 3 8 (PreOf R mc ms Pc) (PostOf Qc mc ms free) (vx_Post XC mc ms free) := by
  obtain ⟨hrc, hrs, hfr, hlo, hws, hcw, -, hini, -⟩ := cb
  exact vx_back (bytes := bytes) (maxL := maxL) (ret := ret) hM hbl hrc hrs hfr hlo hws hcw (fun a' U hW => word_at hW (Or.inl (by first | rfl | simp [Cond.onTables, Cond.keeps, Cond.steady])) hini)
theorem vx_runV (S : CallFix p m c cc nL s args Ts own) (hM : vx_Met l y ws rm Pc Qc XC mc ms free) (cw : CallW R s args own C index y bytes maxL ret ws rm mc ms n) (hp : PreV s H C b Pc As)
    (hg : g.method = m) (hn : As.length = n) (hsize : g.locals.size = nL) (hstack : g.stack = As.reverse ++ .ref b :: rest) (hW : 2 * g.monitorRoom + (rest.map fun v => v.category).sum ≤ 8) (hdg : decode cc g.pc = .ok (.invokevirtual index, 3)) (hf : cells + mc ≤ R.cells ∧ slots + ms ≤ R.slots) :
    vx_Run p l e R s m args below meth c H locs cells slots mc ms g rest (Qc (Value.ref b :: As).toArray) XC free := by
  have hK : vx_Back l R p e below s args y 3 8 (PreOf R mc ms Pc) (PostOf Qc mc ms free) (vx_Post XC mc ms free) := vx_callBack cw.1 hM hp.1
  obtain ⟨⟨-, -, -, -, -, -, hcode, -, hy, hlen, hl⟩, hin, hse⟩ := cw
  obtain ⟨hx, hb, hml, ho, -⟩ := S
  obtain ⟨-, ⟨cellB, hcB, hoB, hclB⟩, hPc⟩ := hp
  intro T hT X
  rcases vx_callV X hx (C := C) (bytes := bytes) (maxL := maxL) (ret := ret) ho hl hin hse hcode hy hK (by rw [hT]; exact hcB) hoB hclB hg (hsize.trans hml.symm) (argsL := As) (rest := rest) (fun sig h => hn.trans (hlen sig h)) hstack hW (by rw [hb]; exact hdg)
    (fun vm₁ hW₁ => ⟨hf.1, hf.2, hPc (T.setVm vm₁) hT hW₁⟩) with ⟨v, vm₁, ⟨U', l2, c2, s2⟩, hW₁, X', ⟨g', mk, t, L, e1, e2, hq, h1, hL, h2, h3⟩, st⟩ | ⟨q, vm₁, ⟨U', l2, c2, s2⟩, hW₁, X', ⟨g', mk, t, L, E, ce, e1, e2, hq, hce, hcv, hcl, h1, hL, h2, h3⟩, st⟩
  · dsimp only [Pt.U, Pt.locs, Pt.cells, Pt.slots] at X' e1 e2 h1 h2 h3 st
    subst h1; subst h2; subst h3
    exact Or.inl ⟨v, (T.setVm vm₁).calling g' mk (Value.ref b :: As).toArray, t, U', L, hT, X', hL, e1, e2, hq, st⟩
  · dsimp only [Pt.U, Pt.locs, Pt.cells, Pt.slots] at X' e1 e2 h1 h2 h3 st hcl
    subst h1; subst h2; subst h3
    exact Or.inr ⟨q, (T.setVm vm₁).calling g' mk (Value.ref b :: As).toArray, t, U', L, E, ce, hT, X', hL, e1, e2, hq, hce, hcv, vx_cls hW₁ hcl, st⟩
theorem vx_runS (S : CallFix p m c cc nL s args Ts own) (hM : vx_Met l y ws rm Pc Qc XC mc ms free) (cw : CallB R s args own index y bytes maxL ret ws rm mc ms n ∧ (Cond.static y).before args s = true) (hp : PreS s H Pc As)
    (hg : g.method = m) (hn : As.length = n) (hsize : g.locals.size = nL) (hstack : g.stack = As.reverse ++ rest) (hW : 2 * g.monitorRoom + (rest.map fun v => v.category).sum ≤ 8) (hdg : decode cc g.pc = .ok (.invokestatic index, 3)) (hf : cells + mc ≤ R.cells ∧ slots + ms ≤ R.slots) :
    vx_Run p l e R s m args below meth c H locs cells slots mc ms g rest (Qc As.toArray) XC free := by
  have hK : vx_Back l R p e below s args y 3 8 (PreOf R mc ms Pc) (PostOf Qc mc ms free) (vx_Post XC mc ms free) := vx_callBack cw.1 hM hp.1
  obtain ⟨⟨-, -, -, -, -, -, hcode, hini, hy, hlen, hl⟩, hstt⟩ := cw
  obtain ⟨hx, hb, hml, ho, -⟩ := S
  intro T hT X
  rcases vx_callS X hx (bytes := bytes) (maxL := maxL) (ret := ret) ho hl hstt hini hcode hy hK hg (hsize.trans hml.symm) (argsL := As) (rest := rest) (fun sig h => hn.trans (hlen sig h)) hstack hW (by rw [hb]; exact hdg)
    (fun vm₁ hW₁ => ⟨hf.1, hf.2, hp.2 (T.setVm vm₁) hT hW₁⟩) with ⟨v, vm₁, ⟨U', l2, c2, s2⟩, hW₁, X', ⟨g', mk, t, L, e1, e2, hq, h1, hL, h2, h3⟩, st⟩ | ⟨q, vm₁, ⟨U', l2, c2, s2⟩, hW₁, X', ⟨g', mk, t, L, E, ce, e1, e2, hq, hce, hcv, hcl, h1, hL, h2, h3⟩, st⟩
  · dsimp only [Pt.U, Pt.locs, Pt.cells, Pt.slots] at X' e1 e2 h1 h2 h3 st
    subst h1; subst h2; subst h3
    exact Or.inl ⟨v, (T.setVm vm₁).calling g' mk As.toArray, t, U', L, hT, X', hL, e1, e2, hq, st⟩
  · dsimp only [Pt.U, Pt.locs, Pt.cells, Pt.slots] at X' e1 e2 h1 h2 h3 st hcl
    subst h1; subst h2; subst h3
    exact Or.inr ⟨q, (T.setVm vm₁).calling g' mk As.toArray, t, U', L, E, ce, hT, X', hL, e1, e2, hq, hce, hcv, vx_cls hW₁ hcl, st⟩
end Runs
section Rows
variable {p : Program} {l : Launch} {e : Env} {R : Room} {s : State} {m : MethodId} {args : Array Value} {below : List Frame} {meth : Method} {c : Code} {H : Heap} {locs : List Loc} {cells slots : Nat} {Q : State → Prop}
variable {mc ms : Nat} {free : Addr → Prop} {A0 A1 : Nat → Prop} {H0 : Heap} {a : Array Value} {pc : Nat} {ls : Array Slot} {st0 rest : List Value}
theorem vx_keep {st₀ t T' : State} {L : List Loc} (h0 : st₀.heap = H) (e1 : T'.heap = t.heap) (hS : va_S A0 H0 H locs) (hA : ∀ q, q < H.size → A1 q → A0 q) (hf : ∀ q, free q → A0 q) (hL : ∀ q ∈ L, free q.base) (hF : va_F A1 st₀ t) :
    H.size ≤ T'.heap.size ∧ (∀ q : Nat, q < H.size → ¬ A1 q → T'.heap[q]? = H[q]?) ∧ va_S A0 H0 T'.heap (locs ++ L) := by
  obtain ⟨hz, hk⟩ := hF
  rw [h0] at hz hk
  exact ⟨by rw [e1]; exact hz, fun q h1 h2 => by rw [e1]; exact hk q h1 h2,
    ⟨Nat.le_trans hS.1 (by rw [e1]; exact hz), fun q h1 h2 => by rw [e1, hk q (Nat.lt_of_lt_of_le h1 hS.1) (fun z => h2 (hA q (Nat.lt_of_lt_of_le h1 hS.1) z))]; exact hS.2.1 q h1 h2, fun q hq => by
      rcases List.mem_append.mp hq with h | h
      · exact hS.2.2 q h
      · exact hf _ (hL q h)⟩⟩
theorem vx_calli {S SX : Type} {post : Int32 → S → Prop} {px : SX → Prop} {B : S → State → Prop} {BX : String → SX → State → Prop} {AX : Nat → Prop} (hr : vx_Run p l e R s m args below meth c H locs cells slots mc ms (F0 m pc ls st0) rest (va_Qi post B A1 a) (vx_X px BX AX) free) (hS : va_S A0 H0 H locs) (hA : ∀ q, q < H.size → A1 q → A0 q) (hf : ∀ q, free q → A0 q) (hAX : ∀ q, q < H.size → AX q → A0 q)
    (kx : ∀ (E : String) (ce : Cell) (q9 : Addr) (u : SX) (t : State) (H1 : Heap) (locs1 : List Loc), t.heap = H1 → s.vm.Alike t.vm → px u → BX E u t → H.size ≤ H1.size → (∀ q : Nat, q < H.size → ¬ AX q → H1[q]? = H[q]?) → va_S A0 H0 H1 locs1 → H1[q9]? = some ce → ce.vm = .none → s.vm.findClass E = some ce.cls → vx_W p l e R s m args below meth c H1 locs1 (cells + mc) (slots + ms) Q (F0 m pc ls rest) q9)
    (kk : ∀ (r : Int32) (u : S) (t : State) (H1 : Heap) (locs1 : List Loc), t.heap = H1 → s.vm.Alike t.vm → post r u → B u t → H.size ≤ H1.size → (∀ q : Nat, q < H.size → ¬ A1 q → H1[q]? = H[q]?) → va_S A0 H0 H1 locs1 → W p l e R s m args below meth c H1 locs1 (cells + mc) (slots + ms) Q (F0 m (pc + 3) ls (.int r :: rest))) : W p l e R s m args below meth c H locs cells slots Q (F0 m pc ls st0) := by
  intro T hT X
  rcases hr T hT X with ⟨v, st₀, t, T', L, h0, X', hL, e1, e2, ⟨⟨r, u, hv, hp, hb⟩, hF⟩, st⟩ | ⟨q, st₀, t, T', L, E, ce, h0, X', hL, e1, e2, ⟨u, hp, hb, hF⟩, hce, hcv, hcl, st⟩
  · cases hv
    obtain ⟨k1, k2, k3⟩ := vx_keep h0 e1 hS hA hf hL hF
    obtain ⟨t2, a1, b1⟩ := kk r u t T'.heap (locs ++ L) e1.symm (by rw [← e2]; exact X'.warmed.alike) hp hb k1 k2 k3 T' rfl X'
    exact ⟨t2, st t2 a1, b1⟩
  · obtain ⟨k1, k2, k3⟩ := vx_keep h0 e1 hS hAX hf hL hF
    obtain ⟨t2, a1, b1⟩ := kx E ce q u t T'.heap (locs ++ L) e1.symm (by rw [← e2]; exact X'.warmed.alike) hp hb k1 k2 k3 (by rw [e1]; exact hce) hcv hcl T' rfl X'
    exact ⟨t2, st.trans a1, b1⟩
theorem vx_calll {S SX : Type} {post : Int64 → S → Prop} {px : SX → Prop} {B : S → State → Prop} {BX : String → SX → State → Prop} {AX : Nat → Prop} (hr : vx_Run p l e R s m args below meth c H locs cells slots mc ms (F0 m pc ls st0) rest (va_Ql post B A1 a) (vx_X px BX AX) free) (hS : va_S A0 H0 H locs) (hA : ∀ q, q < H.size → A1 q → A0 q) (hf : ∀ q, free q → A0 q) (hAX : ∀ q, q < H.size → AX q → A0 q)
    (kx : ∀ (E : String) (ce : Cell) (q9 : Addr) (u : SX) (t : State) (H1 : Heap) (locs1 : List Loc), t.heap = H1 → s.vm.Alike t.vm → px u → BX E u t → H.size ≤ H1.size → (∀ q : Nat, q < H.size → ¬ AX q → H1[q]? = H[q]?) → va_S A0 H0 H1 locs1 → H1[q9]? = some ce → ce.vm = .none → s.vm.findClass E = some ce.cls → vx_W p l e R s m args below meth c H1 locs1 (cells + mc) (slots + ms) Q (F0 m pc ls rest) q9)
    (kk : ∀ (r : Int64) (u : S) (t : State) (H1 : Heap) (locs1 : List Loc), t.heap = H1 → s.vm.Alike t.vm → post r u → B u t → H.size ≤ H1.size → (∀ q : Nat, q < H.size → ¬ A1 q → H1[q]? = H[q]?) → va_S A0 H0 H1 locs1 → W p l e R s m args below meth c H1 locs1 (cells + mc) (slots + ms) Q (F0 m (pc + 3) ls (.long r :: rest))) : W p l e R s m args below meth c H locs cells slots Q (F0 m pc ls st0) := by
  intro T hT X
  rcases hr T hT X with ⟨v, st₀, t, T', L, h0, X', hL, e1, e2, ⟨⟨r, u, hv, hp, hb⟩, hF⟩, st⟩ | ⟨q, st₀, t, T', L, E, ce, h0, X', hL, e1, e2, ⟨u, hp, hb, hF⟩, hce, hcv, hcl, st⟩
  · cases hv
    obtain ⟨k1, k2, k3⟩ := vx_keep h0 e1 hS hA hf hL hF
    obtain ⟨t2, a1, b1⟩ := kk r u t T'.heap (locs ++ L) e1.symm (by rw [← e2]; exact X'.warmed.alike) hp hb k1 k2 k3 T' rfl X'
    exact ⟨t2, st t2 a1, b1⟩
  · obtain ⟨k1, k2, k3⟩ := vx_keep h0 e1 hS hAX hf hL hF
    obtain ⟨t2, a1, b1⟩ := kx E ce q u t T'.heap (locs ++ L) e1.symm (by rw [← e2]; exact X'.warmed.alike) hp hb k1 k2 k3 (by rw [e1]; exact hce) hcv hcl T' rfl X'
    exact ⟨t2, st.trans a1, b1⟩
theorem vx_callf {S SX : Type} {post : UInt32 → S → Prop} {px : SX → Prop} {B : S → State → Prop} {BX : String → SX → State → Prop} {AX : Nat → Prop} (hr : vx_Run p l e R s m args below meth c H locs cells slots mc ms (F0 m pc ls st0) rest (va_Qf post B A1 a) (vx_X px BX AX) free) (hS : va_S A0 H0 H locs) (hA : ∀ q, q < H.size → A1 q → A0 q) (hf : ∀ q, free q → A0 q) (hAX : ∀ q, q < H.size → AX q → A0 q)
    (kx : ∀ (E : String) (ce : Cell) (q9 : Addr) (u : SX) (t : State) (H1 : Heap) (locs1 : List Loc), t.heap = H1 → s.vm.Alike t.vm → px u → BX E u t → H.size ≤ H1.size → (∀ q : Nat, q < H.size → ¬ AX q → H1[q]? = H[q]?) → va_S A0 H0 H1 locs1 → H1[q9]? = some ce → ce.vm = .none → s.vm.findClass E = some ce.cls → vx_W p l e R s m args below meth c H1 locs1 (cells + mc) (slots + ms) Q (F0 m pc ls rest) q9)
    (kk : ∀ (r : UInt32) (u : S) (t : State) (H1 : Heap) (locs1 : List Loc), t.heap = H1 → s.vm.Alike t.vm → post r u → B u t → H.size ≤ H1.size → (∀ q : Nat, q < H.size → ¬ A1 q → H1[q]? = H[q]?) → va_S A0 H0 H1 locs1 → W p l e R s m args below meth c H1 locs1 (cells + mc) (slots + ms) Q (F0 m (pc + 3) ls (.float r :: rest))) : W p l e R s m args below meth c H locs cells slots Q (F0 m pc ls st0) := by
  intro T hT X
  rcases hr T hT X with ⟨v, st₀, t, T', L, h0, X', hL, e1, e2, ⟨⟨r, u, hv, hp, hb⟩, hF⟩, st⟩ | ⟨q, st₀, t, T', L, E, ce, h0, X', hL, e1, e2, ⟨u, hp, hb, hF⟩, hce, hcv, hcl, st⟩
  · cases hv
    obtain ⟨k1, k2, k3⟩ := vx_keep h0 e1 hS hA hf hL hF
    obtain ⟨t2, a1, b1⟩ := kk r u t T'.heap (locs ++ L) e1.symm (by rw [← e2]; exact X'.warmed.alike) hp hb k1 k2 k3 T' rfl X'
    exact ⟨t2, st t2 a1, b1⟩
  · obtain ⟨k1, k2, k3⟩ := vx_keep h0 e1 hS hAX hf hL hF
    obtain ⟨t2, a1, b1⟩ := kx E ce q u t T'.heap (locs ++ L) e1.symm (by rw [← e2]; exact X'.warmed.alike) hp hb k1 k2 k3 (by rw [e1]; exact hce) hcv hcl T' rfl X'
    exact ⟨t2, st.trans a1, b1⟩
theorem vx_calld {S SX : Type} {post : UInt64 → S → Prop} {px : SX → Prop} {B : S → State → Prop} {BX : String → SX → State → Prop} {AX : Nat → Prop} (hr : vx_Run p l e R s m args below meth c H locs cells slots mc ms (F0 m pc ls st0) rest (va_Qd post B A1 a) (vx_X px BX AX) free) (hS : va_S A0 H0 H locs) (hA : ∀ q, q < H.size → A1 q → A0 q) (hf : ∀ q, free q → A0 q) (hAX : ∀ q, q < H.size → AX q → A0 q)
    (kx : ∀ (E : String) (ce : Cell) (q9 : Addr) (u : SX) (t : State) (H1 : Heap) (locs1 : List Loc), t.heap = H1 → s.vm.Alike t.vm → px u → BX E u t → H.size ≤ H1.size → (∀ q : Nat, q < H.size → ¬ AX q → H1[q]? = H[q]?) → va_S A0 H0 H1 locs1 → H1[q9]? = some ce → ce.vm = .none → s.vm.findClass E = some ce.cls → vx_W p l e R s m args below meth c H1 locs1 (cells + mc) (slots + ms) Q (F0 m pc ls rest) q9)
    (kk : ∀ (r : UInt64) (u : S) (t : State) (H1 : Heap) (locs1 : List Loc), t.heap = H1 → s.vm.Alike t.vm → post r u → B u t → H.size ≤ H1.size → (∀ q : Nat, q < H.size → ¬ A1 q → H1[q]? = H[q]?) → va_S A0 H0 H1 locs1 → W p l e R s m args below meth c H1 locs1 (cells + mc) (slots + ms) Q (F0 m (pc + 3) ls (.double r :: rest))) : W p l e R s m args below meth c H locs cells slots Q (F0 m pc ls st0) := by
  intro T hT X
  rcases hr T hT X with ⟨v, st₀, t, T', L, h0, X', hL, e1, e2, ⟨⟨r, u, hv, hp, hb⟩, hF⟩, st⟩ | ⟨q, st₀, t, T', L, E, ce, h0, X', hL, e1, e2, ⟨u, hp, hb, hF⟩, hce, hcv, hcl, st⟩
  · cases hv
    obtain ⟨k1, k2, k3⟩ := vx_keep h0 e1 hS hA hf hL hF
    obtain ⟨t2, a1, b1⟩ := kk r u t T'.heap (locs ++ L) e1.symm (by rw [← e2]; exact X'.warmed.alike) hp hb k1 k2 k3 T' rfl X'
    exact ⟨t2, st t2 a1, b1⟩
  · obtain ⟨k1, k2, k3⟩ := vx_keep h0 e1 hS hAX hf hL hF
    obtain ⟨t2, a1, b1⟩ := kx E ce q u t T'.heap (locs ++ L) e1.symm (by rw [← e2]; exact X'.warmed.alike) hp hb k1 k2 k3 (by rw [e1]; exact hce) hcv hcl T' rfl X'
    exact ⟨t2, st.trans a1, b1⟩
theorem vx_callv {S SX : Type} {post : S → Prop} {px : SX → Prop} {B : S → State → Prop} {BX : String → SX → State → Prop} {AX : Nat → Prop} (hr : vx_Run p l e R s m args below meth c H locs cells slots mc ms (F0 m pc ls st0) rest (va_Qv post B A1 a) (vx_X px BX AX) free) (hS : va_S A0 H0 H locs) (hA : ∀ q, q < H.size → A1 q → A0 q) (hf : ∀ q, free q → A0 q) (hAX : ∀ q, q < H.size → AX q → A0 q)
    (kx : ∀ (E : String) (ce : Cell) (q9 : Addr) (u : SX) (t : State) (H1 : Heap) (locs1 : List Loc), t.heap = H1 → s.vm.Alike t.vm → px u → BX E u t → H.size ≤ H1.size → (∀ q : Nat, q < H.size → ¬ AX q → H1[q]? = H[q]?) → va_S A0 H0 H1 locs1 → H1[q9]? = some ce → ce.vm = .none → s.vm.findClass E = some ce.cls → vx_W p l e R s m args below meth c H1 locs1 (cells + mc) (slots + ms) Q (F0 m pc ls rest) q9)
    (kk : ∀ (u : S) (t : State) (H1 : Heap) (locs1 : List Loc), t.heap = H1 → s.vm.Alike t.vm → post u → B u t → H.size ≤ H1.size → (∀ q : Nat, q < H.size → ¬ A1 q → H1[q]? = H[q]?) → va_S A0 H0 H1 locs1 → W p l e R s m args below meth c H1 locs1 (cells + mc) (slots + ms) Q (F0 m (pc + 3) ls (rest))) : W p l e R s m args below meth c H locs cells slots Q (F0 m pc ls st0) := by
  intro T hT X
  rcases hr T hT X with ⟨v, st₀, t, T', L, h0, X', hL, e1, e2, ⟨⟨u, hv, hp, hb⟩, hF⟩, st⟩ | ⟨q, st₀, t, T', L, E, ce, h0, X', hL, e1, e2, ⟨u, hp, hb, hF⟩, hce, hcv, hcl, st⟩
  · cases hv
    obtain ⟨k1, k2, k3⟩ := vx_keep h0 e1 hS hA hf hL hF
    obtain ⟨t2, a1, b1⟩ := kk u t T'.heap (locs ++ L) e1.symm (by rw [← e2]; exact X'.warmed.alike) hp hb k1 k2 k3 T' rfl X'
    exact ⟨t2, st t2 a1, b1⟩
  · obtain ⟨k1, k2, k3⟩ := vx_keep h0 e1 hS hAX hf hL hF
    obtain ⟨t2, a1, b1⟩ := kx E ce q u t T'.heap (locs ++ L) e1.symm (by rw [← e2]; exact X'.warmed.alike) hp hb k1 k2 k3 (by rw [e1]; exact hce) hcv hcl T' rfl X'
    exact ⟨t2, st.trans a1, b1⟩
/-- caught by the row x of this method's table; the rows ahead don't take it -/
theorem vx_catch {own name : String} {E : String} {ce : Cell} {q : Addr} (hown : s.vm.findClass own = some m.cls) (pre : List ExceptionTableEntry) (x : ExceptionTableEntry) (suf : List ExceptionTableEntry) (hsplit : c.exceptionTable.toList = pre ++ x :: suf)
    (hpass : ∀ z ∈ pre, covers z pc = false ∨ (z.catchType ≠ 0 ∧ ∃ nm : String, (Cond.classLink own z.catchType nm).before args s = true ∧ va_Nc E nm s)) (hx : covers x pc = true) (h0 : x.catchType ≠ 0)
    (hlink : (Cond.classLink own x.catchType name).before args s = true) (hcast : (Cond.castable E name).before args s = true) (hcell : H[q]? = some ce) (hv : ce.vm = .none) (hcl : s.vm.findClass E = some ce.cls)
    (kk : W p l e R s m args below meth c H locs cells slots Q (F0 m x.handlerPc ls [.ref q])) : vx_W p l e R s m args below meth c H locs cells slots Q (F0 m pc ls rest) q := by
  intro T hT X
  have hpl : e.platform.magicAccessors = ({} : Platform).magicAccessors := by rw [X.admits.platform]
  obtain ⟨c3, c4, hc3, hc4, hasg⟩ := Cond.castable_spec hcast
  cases Option.some.inj (hc3.symm.trans hcl)
  obtain ⟨c5, hc5, hcl5⟩ := Cond.classLink_spec hown hlink e.platform hpl
  cases Option.some.inj (hc4.symm.trans hc5)
  obtain ⟨vm', X', st⟩ := X.thenCaughtThrough q (g := F0 m pc ls rest) rfl (Steps.refl _) (by rw [hT]; exact hcell) (by rw [hv]; rfl) (by obtain ⟨k9, h9, -⟩ := Vm.findClass_spec hcl; exact ⟨k9, h9⟩) pre x suf hsplit
    (fun z hz => by
      rcases hpass z hz with h | ⟨hz0, nm, hl1, hn1⟩
      · exact Or.inl h
      · obtain ⟨c6, hc6, hcl6⟩ := Cond.classLink_spec hown hl1 e.platform hpl
        obtain ⟨a8, b8, h1, h2, h3⟩ := hn1
        cases Option.some.inj (h1.symm.trans hcl)
        cases Option.some.inj (h2.symm.trans hc6)
        exact Or.inr ⟨hz0, _, hcl6, h3⟩) hx (Or.inr ⟨h0, c4, hcl5, hasg⟩)
  obtain ⟨t, a1, b1⟩ := kk (T.setVm vm') hT X'
  exact ⟨t, st.trans a1, b1⟩
end Rows
section Ends
variable {p : Program} {l : Launch} {e : Env} {R : Room} {s : State} {m : MethodId} {args : Array Value} {below : List Frame} {meth : Method} {c : Code} {H : Heap} {locs : List Loc} {cells slots : Nat} {Q : State → Prop}
variable {mc ms : Nat} {free : Addr → Prop} {A0 A1 : Nat → Prop} {H0 : Heap} {a : Array Value} {ls : Array Slot} {st0 rest : List Value}
variable {Qc : Array Value → State → Outcome → State → Prop} {XC : String → State → State → Prop}
/-- what a body that may throw owes at its end -/
def vx_MQ (below : List Frame) (Qc : Array Value → State → Outcome → State → Prop) (XC : String → State → State → Prop) (a : Array Value) (s : State) (mc ms : Nat) (free : Addr → Prop) : State → Prop := fun t =>
  ∃ o, t.status = .running ∧ Ended t below o ∧ vx_Q Qc XC mc ms free a s o t
theorem vx_ret {g : JFrame} {mc ms : Nat} (k : W p l e R s m args below meth c H locs cells slots (MQ below Qc args s mc ms free) g) : W p l e R s m args below meth c H locs cells slots (vx_MQ below Qc XC args s mc ms free) g := by
  intro T hT X
  obtain ⟨t, a1, o, b1, b2, b3, b4⟩ := k T hT X
  exact ⟨t, a1, o, b1, b2, Or.inl ⟨b3, b4⟩⟩
/-- not caught here: it goes on to the caller -/
theorem vx_widen {g : JFrame} {q : Addr} {k n : Nat} (h1 : cells ≤ k) (h2 : slots ≤ n) (kk : vx_W p l e R s m args below meth c H locs k n Q g q) : vx_W p l e R s m args below meth c H locs cells slots Q g q := fun T hT X => kk T hT (stand_widen X h1 h2)
theorem vx_out {pc : Nat} {E : String} {ce : Cell} {q : Addr} {mc ms : Nat} (hout : ∀ x ∈ c.exceptionTable.toList, covers x pc = false) (hlocks : meth.locks = false) (hcell : H[q]? = some ce) (hv : ce.vm = .none) (hcl : s.vm.findClass E = some ce.cls)
    (hx : ∀ t : State, t.heap = H → s.vm.Alike t.vm → XC E s t) (hf : ∀ z ∈ locs, free z.base) (hc : cells ≤ mc) (hs : slots ≤ ms) :
    vx_W p l e R s m args below meth c H locs cells slots (vx_MQ below Qc XC args s mc ms free) (F0 m pc ls rest) q := by
  intro T hT X
  obtain ⟨st1, hrun, hend, hW, hsm⟩ := X.leaveThrown q (g := F0 m pc ls rest) rfl rfl rfl hout hlocks
  have hcell9 : (T.setFrames (.throwing q :: below)).heap[q]? = some ce := by
    show T.heap[q]? = some ce
    rw [hT]; exact hcell
  exact ⟨_, st1, .threw q, hrun, hend, Or.inr ⟨q, rfl, E, ce, locs, hx _ hT hW.alike, hcell9, hv, hcl, hW, hsm.mono hc hs, hf⟩⟩
theorem vx_frame {U : State} {k n : Nat} (h : s.sameButNew ({ U with vm := s.vm } : State) locs k n) : s.heap.size ≤ U.heap.size ∧ ∀ q : Nat, q < s.heap.size → (∀ z ∈ locs, z.base ≠ q) → U.heap[q]? = s.heap[q]? := by
  obtain ⟨-, h2, -, -, -, h6⟩ := h
  refine ⟨h2, fun q hq hz => ?_⟩
  obtain ⟨c9, e1, e2, e3, e4⟩ := h6 q _ (Array.getElem?_eq_getElem hq)
  have hs : c9.slots = (s.heap[q]).slots := Array.ext_getElem? fun i => e4 i fun hm => hz _ hm rfl
  have h9 : c9 = s.heap[q] := by
    rw [hs] at e2
    exact e2
  have e5 : U.heap[q]? = some c9 := e1
  rw [e5, h9, Array.getElem?_eq_getElem hq]
/-- the words of a throw but the four that speak of the heap -/
def vx_no (w : Cond) : Bool := decide (w ≠ .isRef (.static Bundle.tN "UNASSIGNED_STACK" Bundle.steD)) && decide (w ≠ .isRef (.static Bundle.tN "SUPPRESSED_SENTINEL" Bundle.listD)) && decide (w ≠ .laysStatic Bundle.tN "UNASSIGNED_STACK" Bundle.steD) && decide (w ≠ .laysStatic Bundle.tN "SUPPRESSED_SENTINEL" Bundle.listD)
def vx_at0 (own : String) (ic : Nat) (X : String) (names : List String) : List Cond := (Bundle.ownAtoms0 own ic X names).filter vx_no
def vx_atS (own : String) (ic : Nat) (X : String) (names : List String) : List Cond := (Bundle.ownAtoms own ic X names).filter vx_no
/-- a word that the tables alone decide, or a good one -/
def vx_ot (w : Cond) : Bool := w.onTables || goodWord w
theorem vx_ot_at {args a' : Array Value} {s U : State} {w : Cond} (hW : s.WarmedH U.vm) (hvm : s.vm = U.vm) (hg : vx_ot w = true) (h : w.before args s = true) : w.before a' U = true := by
  simp only [vx_ot, Bool.or_eq_true] at hg
  rcases hg with hg | hg
  · exact va_tabs hg hvm h
  · exact word_at hW (good_of_word hg) h
/-- a list's words: the good ones out of the method's own list, the others by premises of their own -/
theorem vx_hat {args : Array Value} {s : State} {L B : List Cond} (h1 : ∀ w ∈ L.filter goodWord, w.before args s = true) (h2 : ∀ w ∈ L.filter (fun w => !goodWord w), w ∈ B) (h3 : ∀ w ∈ B, w.before args s = true) : ∀ w ∈ L, w.before args s = true := by
  intro w hw
  by_cases g : goodWord w = true
  · exact h1 w (List.mem_filter.mpr ⟨hw, g⟩)
  · refine h3 w (h2 w (List.mem_filter.mpr ⟨hw, ?_⟩))
    show (!goodWord w) = true
    cases hgw : goodWord w
    · rfl
    · exact absurd hgw g
theorem vx_c {args : Array Value} {s : State} {w : Cond} {B : List Cond} (h : w.before args s = true) (t : ∀ w ∈ B, w.before args s = true) : ∀ w' ∈ w :: B, w'.before args s = true := fun w' h' => (List.mem_cons.mp h').elim (fun e => by rw [e]; exact h) (t w')
theorem vx_n {args : Array Value} {s : State} : ∀ w ∈ ([] : List Cond), w.before args s = true := fun _ h => nomatch h
theorem vx_own {args : Array Value} {s : State} {L : List Cond} (h1 : ∀ w ∈ L.filter vx_no, w.before args s = true)
    (hU : (Cond.isRef (.static Bundle.tN "UNASSIGNED_STACK" Bundle.steD)).before args s = true) (hN : (Cond.isRef (.static Bundle.tN "SUPPRESSED_SENTINEL" Bundle.listD)).before args s = true)
    (lU : (Cond.laysStatic Bundle.tN "UNASSIGNED_STACK" Bundle.steD).before args s = true) (lN : (Cond.laysStatic Bundle.tN "SUPPRESSED_SENTINEL" Bundle.listD).before args s = true) : ∀ w ∈ L, w.before args s = true := by
  intro w hw
  by_cases e1 : w = .isRef (.static Bundle.tN "UNASSIGNED_STACK" Bundle.steD)
  · rw [e1]; exact hU
  · by_cases e2 : w = .isRef (.static Bundle.tN "SUPPRESSED_SENTINEL" Bundle.listD)
    · rw [e2]; exact hN
    · by_cases e3 : w = .laysStatic Bundle.tN "UNASSIGNED_STACK" Bundle.steD
      · rw [e3]; exact lU
      · by_cases e4 : w = .laysStatic Bundle.tN "SUPPRESSED_SENTINEL" Bundle.listD
        · rw [e4]; exact lN
        · exact h1 w (List.mem_filter.mpr ⟨hw, by unfold vx_no; rw [decide_eq_true e1, decide_eq_true e2, decide_eq_true e3, decide_eq_true e4]; rfl⟩)
/-- where a static field lies, its class's statics cell in H -/
def vx_L (C n d : String) (A : Nat → Prop) (U : State) (H : Heap) : Prop := ∃ (c : ClassId) (k : Class) (i : Nat) (f : Field) (a : Nat) (cell : Cell), U.vm.findClass C = some c ∧ U.fieldFound? C n d = some (c, k, i, f) ∧ f.isStatic = true ∧ k.statics = some a ∧ H[a]? = some cell ∧ cell.vm.isStatics = true ∧ cell.cls = c ∧ f.slot < cell.slots.size ∧ k.staticTypes[f.slot]? = some f.type ∧ ¬ A a
theorem vx_L.moved {C n d : String} {A : Nat → Prop} {u U : State} {H : Heap} (hvm : u.vm.Alike U.vm) (h : vx_L C n d A u H) : vx_L C n d A U H := by
  obtain ⟨c, k, i, f, a, cell, h1, h2, h3, h4, h5, h6, h7, h8, h9, h10⟩ := h
  obtain ⟨k', hi', he⟩ := State.fieldFound?_setVm hvm h2
  exact ⟨c, k', i, f, a, cell, by rw [hvm.findClass]; exact h1, hi', h3, by rw [he]; exact h4, h5, h6, h7, h8, by rw [he]; exact h9, h10⟩
theorem vx_L.kept {C n d : String} {A : Nat → Prop} {U : State} {H H1 : Heap} (h : vx_L C n d A U H) (hq : ∀ a : Nat, a < H.size → ¬ A a → H1[a]? = H[a]?) : vx_L C n d A U H1 := by
  obtain ⟨c, k, i, f, a, cell, h1, h2, h3, h4, h5, h6, h7, h8, h9, h10⟩ := h
  exact ⟨c, k, i, f, a, cell, h1, h2, h3, h4, by rw [hq a (Array.getElem?_eq_some_iff.mp h5).1 h10]; exact h5, h6, h7, h8, h9, h10⟩
theorem vx_L.narrow {C n d : String} {A B : Nat → Prop} {U : State} {H : Heap} (h : vx_L C n d A U H) (hAB : ∀ q, B q → A q) : vx_L C n d B U H := by
  obtain ⟨c, k, i, f, a, cell, h1, h2, h3, h4, h5, h6, h7, h8, h9, h10⟩ := h
  exact ⟨c, k, i, f, a, cell, h1, h2, h3, h4, h5, h6, h7, h8, h9, fun z => h10 (hAB _ z)⟩
theorem vx_L.word {C n d : String} {A : Nat → Prop} {s : State} {args : Array Value} (h : vx_L C n d A s s.heap) : (Cond.laysStatic C n d).before args s = true := by
  obtain ⟨c, k, i, f, a, cell, h1, h2, h3, h4, h5, h6, h7, h8, h9, -⟩ := h
  show (Cond.laysStatic C n d).holds args s none s [] = true
  exact Cond.laysStatic_of h1 h2 h3 h4 h5 h6 h7 h8 h9
/-- .. and what it holds: null or some reference -/
def vx_Zq (C n d : String) (A : Nat → Prop) (U : State) (H : Heap) : Prop := va_Zq C n d A U H ∧ vx_L C n d A U H
theorem vx_Zq.moved {C n d : String} {A : Nat → Prop} {u U : State} {H : Heap} (hvm : u.vm.Alike U.vm) (h : vx_Zq C n d A u H) : vx_Zq C n d A U H := ⟨va_Zq.moved hvm h.1, vx_L.moved hvm h.2⟩
theorem vx_Zq.kept {C n d : String} {A : Nat → Prop} {U : State} {H H1 : Heap} (h : vx_Zq C n d A U H) (hq : ∀ a : Nat, a < H.size → ¬ A a → H1[a]? = H[a]?) : vx_Zq C n d A U H1 := ⟨va_Zq.kept h.1 hq, vx_L.kept h.2 hq⟩
theorem vx_Zq.narrow {C n d : String} {A B : Nat → Prop} {U : State} {H : Heap} (h : vx_Zq C n d A U H) (hAB : ∀ q, B q → A q) : vx_Zq C n d B U H := ⟨va_Zq.narrow h.1 hAB, vx_L.narrow h.2 hAB⟩
theorem vx_Zqof {args : Array Value} {s : State} {C n d : String} {A : Nat → Prop} (hl : (Cond.laysStatic C n d).before args s = true) (hini : (Cond.initialized C).before args s = true) (h : (Cond.isRef (.static C n d)).before args s = true) (hA : ∀ a : Nat, a < s.heap.size → ¬ A a) : vx_Zq C n d A s s.heap := by
  refine ⟨va_Zqof hl hini h hA, ?_⟩
  obtain ⟨c, k, i, f, a, cell, h1, h2, h3, h4, h5, h6, h7, h8, h9⟩ := Cond.laysStatic_spec hl
  exact ⟨c, k, i, f, a, cell, h1, h2, h3, h4, h5, h6, h7, h8, h9, hA a (Array.getElem?_eq_some_iff.mp h5).1⟩
theorem vx_isRef {C n d : String} {v : Value} {A : Nat → Prop} {s : State} {args : Array Value} (h : va_Z C n d v A s s.heap) (hv : v.isRef = true) : (Cond.isRef (.static C n d)).before args s = true := by
  obtain ⟨cf, kf, fi, f, a, cell, h1, h2, h3, h4, h5, h6, h7, -⟩ := h
  have he : (Term.static C n d).eval args s none [] s = some v := by
    simp [Term.eval, State.fieldNamed?, h1, h2, h4, h5, h6, h7]
  simp only [Cond.before, Cond.holds, Cond.value, he]
  cases v <;> simp_all [Value.isRef]
theorem vx_isRefq {C n d : String} {A : Nat → Prop} {s : State} {args : Array Value} (h : va_Zq C n d A s s.heap) : (Cond.isRef (.static C n d)).before args s = true := by
  rcases h with h | ⟨t, h⟩
  · exact vx_isRef h rfl
  · exact vx_isRef h rfl
/-- the same frame, seen from here: as if the method were called anew in this heap -/
theorem vx_rebase {T : State} (X : Stand p l e R s m args below meth c T locs cells slots) {R' : Room} (hf : R'.frames ≤ R.frames) (hl : R'.locals ≤ R.locals) (hc : cells + R'.cells ≤ R.cells) (hs : slots + R'.slots ≤ R.slots) :
    Stand p l e R' ((T.setVm s.vm).setFrames (.invoking m args :: below)) m args below meth c T [] 0 0 := by
  have htop : (T.setVm s.vm).topJava?.isSome := X.here.top
  have hF : ((T.setVm s.vm).setFrames (.invoking m args :: below)).frames = .invoking m args :: below := State.frames_setFrames _ (State.cur_lt_of_top htop)
  obtain ⟨g₀, hg0⟩ := Option.isSome_iff_exists.mp htop
  obtain ⟨r, hr⟩ := State.topJava?_eq_some.mp hg0
  have hl9 : e.platform.stackLimits (T.setVm s.vm).me = e.platform.stackLimits s.me := X.limits
  have hb9 : (T.setVm s.vm).me.stackBytes = s.me.stackBytes := X.bytes
  refine ⟨X.admits, X.cas, X.clock, hF, ?_, X.hears, X.method, X.code, X.here, X.tail, X.warmed, ?_, ?_, ?_⟩
  · have h := X.room
    have hU : ((T.setVm s.vm).setFrames (.invoking m args :: below)).localsInUse = s.localsInUse := by
      rw [State.localsInUse_invoking hF (meth := meth) (c := c) X.method X.code, State.localsInUse_invoking X.frames X.method X.code]
    simp only [State.hasRoom, Bool.and_eq_true, decide_eq_true_eq] at h ⊢
    obtain ⟨⟨⟨⟨h1, h2, h3, h4, h5, h6⟩, h7⟩, h8⟩, h9⟩ := h
    rw [X.frames, List.length_cons] at h2 h3
    have q1 := X.heapSize
    have q2 := X.used
    simp only [hF, hU, List.length_cons, State.stackLimits_setFrames, State.stackBytes_setFrames, hl9, hb9]
    refine ⟨⟨⟨⟨by omega, by omega, by omega, by omega, by omega, h6⟩, ?_⟩, ?_⟩, X.book⟩
    · show T.heap.size + R'.cells ≤ e.platform.maxCells
      omega
    · show T.slotsUsed + R'.slots ≤ e.platform.maxSlots
      omega
  · rw [State.stackLimits_setFrames]; rfl
  · rw [State.stackBytes_setFrames]; rfl
  · refine ⟨?_, Nat.le_refl _, Nat.le_refl _, ?_, ?_, fun a c9 h9 => ⟨c9, h9, rfl, rfl, fun _ _ => rfl⟩⟩
    · obtain ⟨t, ht, -⟩ := State.frames_cons hr
      show T.setVm s.vm = { ((T.setVm s.vm).setFrames (.invoking m args :: below)).setFrames (T.setVm s.vm).frames with heap := T.heap, slotsUsed := T.slotsUsed }
      rw [State.setFrames_setFrames, State.setFrames_self ht]
      rfl
    · show T.slotsUsed = T.slotsUsed + ((T.heap.toList.drop T.heap.size).map (·.slots.size)).sum
      rw [List.drop_eq_nil_of_le (Nat.le_of_eq Array.length_toList)]
      rfl
    · show ((T.heap.toList.drop T.heap.size).map (·.slots.size)).sum ≤ 0
      rw [List.drop_eq_nil_of_le (Nat.le_of_eq Array.length_toList)]
      exact Nat.le_refl _
/-- 'throw new E()': new; dup; invokespecial; athrow -/
theorem vx_throw0 {cc : ByteArray} {pc : Nat} (hexec : p.tables.exec = Jvm.exec) (hb : c.code = cc) (hl : l.stackTraces = false) {own cls : String} {names : List String} {ik ic mc ms : Nat} {A : Nat → Prop}
    (hown : s.vm.findClass own = some m.cls) (hcls : Bundle.fit cls = true) (hnames : ∀ n ∈ names, Bundle.fit n = true)
    (hk : (Cond.classLink own ik cls).before args s = true) (hini : (Cond.initialized cls).before args s = true) (hat : ∀ w ∈ vx_at0 own ic cls names, w.before args s = true)
    (hgood : ∀ w ∈ Cond.classLink own ik cls :: Cond.initialized cls :: vx_at0 own ic cls names, vx_ot w = true)
    (hU : vx_Zq Bundle.tN "UNASSIGNED_STACK" Bundle.steD A s s.heap) (hN : vx_Zq Bundle.tN "SUPPRESSED_SENTINEL" Bundle.listD A s s.heap) (hS : va_S A s.heap H locs) (hsize : ls.size = c.maxLocals)
    (d0 : decode cc pc = .ok (.new ik, 3)) (d3 : decode cc (pc + 3) = .ok (.dup, 1)) (d4 : decode cc (pc + 4) = .ok (.invokespecial ic, 3)) (d7 : decode cc (pc + 7) = .ok (.athrow, 1))
    (hout : ∀ x ∈ c.exceptionTable.toList, covers x (pc + 7) = false)
    (hRframes : names.length + 3 < R.frames) (hRlocals : (rest.map fun v => v.category).sum + (13 * (names.length + 1) + 42) ≤ R.locals) (hRcells : cells + 1 ≤ R.cells) (hRslots : slots + 6 ≤ R.slots) (hlocks : meth.locks = false)
    (hx : ∀ t : State, s.vm.Alike t.vm → H.size ≤ t.heap.size → (∀ q : Nat, q < H.size → t.heap[q]? = H[q]?) → XC cls s t)
    (hf : ∀ z ∈ locs, free z.base) (hc : cells + 1 ≤ mc) (hs : slots + 6 ≤ ms) :
    W p l e R s m args below meth c H locs cells slots (vx_MQ below Qc XC args s mc ms free) (F0 m pc ls rest) := by
  intro T hT X
  have htr : e.platform.stackTraces = false := (show e.platform.stackTraces = l.stackTraces by rw [X.admits.platform]).trans hl
  have Y := vx_rebase X (R' := { frames := R.frames, locals := R.locals, cells := 1, slots := 6 }) (Nat.le_refl _) (Nat.le_refl _) hRcells hRslots
  obtain ⟨s', hA⟩ : ∃ z, z = (T.setVm s.vm).setFrames (.invoking m args :: below) := ⟨_, rfl⟩
  rw [← hA] at Y
  have hvm : s'.vm = s.vm := by rw [hA]; rfl
  have hhp : s'.heap = H := by rw [hA]; exact hT
  have hW0 : s.WarmedH s'.vm := by rw [hvm]; exact State.WarmedH.refl s
  have hat' : ∀ w ∈ vx_at0 own ic cls names, w.before args s' = true := fun w hw => vx_ot_at hW0 hvm.symm (hgood w (List.mem_cons_of_mem _ (List.mem_cons_of_mem _ hw))) (hat w hw)
  have hk' : (Cond.classLink own ik cls).before args s' = true := vx_ot_at hW0 hvm.symm (hgood _ List.mem_cons_self) hk
  have hini' : (Cond.initialized cls).before args s' = true := vx_ot_at hW0 hvm.symm (hgood _ (List.mem_cons_of_mem _ List.mem_cons_self)) hini
  have hU' : vx_Zq Bundle.tN "UNASSIGNED_STACK" Bundle.steD A s' s'.heap := by rw [hhp]; exact vx_Zq.moved hW0.alike (hU.kept hS.2.1)
  have hN' : vx_Zq Bundle.tN "SUPPRESSED_SENTINEL" Bundle.listD A s' s'.heap := by rw [hhp]; exact vx_Zq.moved hW0.alike (hN.kept hS.2.1)
  have h : ∀ w ∈ Bundle.ownAtoms0 own ic cls names, w.before args s' = true := vx_own hat' (vx_isRefq hU'.1) (vx_isRefq hN'.1) hU'.2.word hN'.2.word
  have hown' : s'.vm.findClass own = some m.cls := by rw [hvm]; exact hown
  have hins : (Cond.instantiable cls 6).before args s' = true := h _ (by simp [Bundle.ownAtoms0])
  obtain ⟨vm₁, cX, kX, hfX, hkX, -, -, X₁, st1⟩ := Y.newCold hexec (own := own) (C := cls) (index := ik) (n := 6) hown' hk' hins hini'
    (g := F0 m pc ls rest) rfl (by rw [hb]; exact d0) (Nat.le_refl _) (Nat.le_refl _)
  generalize hT1 : (T.setVm vm₁).pushCell { cls := cX, slots := kX.instanceTypes.map defaultValue, vm := .none } = T1 at X₁ st1
  have hcat : (Value.ref T.heap.size).category = 1 := rfl
  have hcellA : T1.heap[T.heap.size]? = some (freshCell cX kX) := by rw [← hT1]; exact State.heap_pushCell_size _ _
  have d3' : decode c.code (pc + 3) = .ok (.dup, 1) := by rw [hb]; exact d3
  obtain ⟨U, hsteps, hrun, hend, hW, hsame, ce, hce, hO⟩ := X₁.ctorThrow0 hexec htr (own := own) (cls := cls) (names := names) (ic := ic) hown' hcls hnames h (fun x hx => nomatch hx) hfX hkX hcellA (by rw [hhp, hT]; exact Nat.le_refl _)
    (g := { method := m, pc := pc + 4, locals := ls, stack := .ref T.heap.size :: .ref T.heap.size :: rest, locked := none }) rfl hsize rfl rfl (rest := rest) rfl
    (by rw [hb]; exact d4) (by rw [hb]; exact d7) hout hRframes (by simp only [List.map_cons, List.sum_cons, hcat]; omega) hlocks
  obtain ⟨f1, f2⟩ := vx_frame hsame
  rw [hhp] at f1 f2
  have hWs : s.WarmedH U.vm := State.WarmedH.trans hW0 hW
  have hcl : s.vm.findClass cls = some ce.cls := by
    have h9 := hO.cls
    rw [hvm] at h9
    exact h9
  have hall : s.sameButNew ({ U with vm := s.vm } : State) locs mc ms := by
    subst hA
    obtain ⟨e1, e2⟩ := hsame
    rw [State.setFrames_setFrames] at e1
    have h2 : (T.setVm s.vm).sameButNew ({ U with vm := s.vm } : State) [] (0 + 1) (0 + 6) := ⟨e1, e2⟩
    have h3 := X.same.trans h2
    rw [List.append_nil] at h3
    exact h3.mono hc hs
  refine ⟨U, ?_, .threw T.heap.size, hrun, hend, Or.inr ⟨T.heap.size, rfl, cls, ce, locs, hx U hWs.alike f1 (fun q hq => f2 q hq (fun z hz => nomatch hz)), hce, hO.vm, hcl, hWs, hall, hf⟩⟩
  refine st1 _ ?_
  show Steps p.tables e below (T1.setTop { method := m, pc := pc + 3, locals := ls, stack := .ref T.heap.size :: rest, locked := none }) _
  jvm_step X₁.here [X₁.here.top, hexec, d3', Value.category]
  exact hsteps
/-- 'throw new E("text")': new; dup; ldc; invokespecial; athrow -/
theorem vx_throwS {cc : ByteArray} {pc : Nat} (hexec : p.tables.exec = Jvm.exec) (hb : c.code = cc) (hl : l.stackTraces = false) {own cls text : String} {names : List String} {ik is ic mc ms sa : Nat} {A : Nat → Prop}
    (hown : s.vm.findClass own = some m.cls) (hcls : Bundle.fit cls = true) (hnames : ∀ n ∈ names, Bundle.fit n = true)
    (hk : (Cond.classLink own ik cls).before args s = true) (hini : (Cond.initialized cls).before args s = true) (hstr : vk_R own is text sa s) (hat : ∀ w ∈ vx_atS own ic cls names, w.before args s = true)
    (hgood : ∀ w ∈ Cond.classLink own ik cls :: Cond.initialized cls :: vx_atS own ic cls names, vx_ot w = true)
    (hU : vx_Zq Bundle.tN "UNASSIGNED_STACK" Bundle.steD A s s.heap) (hN : vx_Zq Bundle.tN "SUPPRESSED_SENTINEL" Bundle.listD A s s.heap) (hS : va_S A s.heap H locs) (hsize : ls.size = c.maxLocals)
    (d0 : decode cc pc = .ok (.new ik, 3)) (d3 : decode cc (pc + 3) = .ok (.dup, 1)) (d4 : decode cc (pc + 4) = .ok (.ldc is, 2)) (d6 : decode cc (pc + 6) = .ok (.invokespecial ic, 3)) (d9 : decode cc (pc + 9) = .ok (.athrow, 1))
    (hout : ∀ x ∈ c.exceptionTable.toList, covers x (pc + 9) = false)
    (hRframes : names.length + 3 < R.frames) (hRlocals : (rest.map fun v => v.category).sum + (13 * (names.length + 1) + 43) ≤ R.locals) (hRcells : cells + 1 ≤ R.cells) (hRslots : slots + 6 ≤ R.slots) (hlocks : meth.locks = false)
    (hx : ∀ t : State, s.vm.Alike t.vm → H.size ≤ t.heap.size → (∀ q : Nat, q < H.size → t.heap[q]? = H[q]?) → XC cls s t)
    (hf : ∀ z ∈ locs, free z.base) (hc : cells + 1 ≤ mc) (hs : slots + 6 ≤ ms) :
    W p l e R s m args below meth c H locs cells slots (vx_MQ below Qc XC args s mc ms free) (F0 m pc ls rest) := by
  intro T hT X
  have htr : e.platform.stackTraces = false := (show e.platform.stackTraces = l.stackTraces by rw [X.admits.platform]).trans hl
  have Y := vx_rebase X (R' := { frames := R.frames, locals := R.locals, cells := 1, slots := 6 }) (Nat.le_refl _) (Nat.le_refl _) hRcells hRslots
  obtain ⟨s', hA⟩ : ∃ z, z = (T.setVm s.vm).setFrames (.invoking m args :: below) := ⟨_, rfl⟩
  rw [← hA] at Y
  have hvm : s'.vm = s.vm := by rw [hA]; rfl
  have hhp : s'.heap = H := by rw [hA]; exact hT
  have hW0 : s.WarmedH s'.vm := by rw [hvm]; exact State.WarmedH.refl s
  have hat' : ∀ w ∈ vx_atS own ic cls names, w.before args s' = true := fun w hw => vx_ot_at hW0 hvm.symm (hgood w (List.mem_cons_of_mem _ (List.mem_cons_of_mem _ hw))) (hat w hw)
  have hk' : (Cond.classLink own ik cls).before args s' = true := vx_ot_at hW0 hvm.symm (hgood _ List.mem_cons_self) hk
  have hini' : (Cond.initialized cls).before args s' = true := vx_ot_at hW0 hvm.symm (hgood _ (List.mem_cons_of_mem _ List.mem_cons_self)) hini
  have hU' : vx_Zq Bundle.tN "UNASSIGNED_STACK" Bundle.steD A s' s'.heap := by rw [hhp]; exact vx_Zq.moved hW0.alike (hU.kept hS.2.1)
  have hN' : vx_Zq Bundle.tN "SUPPRESSED_SENTINEL" Bundle.listD A s' s'.heap := by rw [hhp]; exact vx_Zq.moved hW0.alike (hN.kept hS.2.1)
  have h : ∀ w ∈ Bundle.ownAtoms own ic cls names, w.before args s' = true := vx_own hat' (vx_isRefq hU'.1) (vx_isRefq hN'.1) hU'.2.word hN'.2.word
  have hown' : s'.vm.findClass own = some m.cls := by rw [hvm]; exact hown
  have hins : (Cond.instantiable cls 6).before args s' = true := h _ (by simp [Bundle.ownAtoms])
  obtain ⟨vm₁, cX, kX, hfX, hkX, -, -, X₁, st1⟩ := Y.newCold hexec (own := own) (C := cls) (index := ik) (n := 6) hown' hk' hins hini'
    (g := F0 m pc ls rest) rfl (by rw [hb]; exact d0) (Nat.le_refl _) (Nat.le_refl _)
  generalize hT1 : (T.setVm vm₁).pushCell { cls := cX, slots := kX.instanceTypes.map defaultValue, vm := .none } = T1 at X₁ st1
  have hcat : (Value.ref T.heap.size).category = 1 := rfl
  have hcellA : T1.heap[T.heap.size]? = some (freshCell cX kX) := by rw [← hT1]; exact State.heap_pushCell_size _ _
  have d3' : decode c.code (pc + 3) = .ok (.dup, 1) := by rw [hb]; exact d3
  have d4' : decode c.code (pc + 4) = .ok (.ldc is, 2) := by rw [hb]; exact d4
  have hstr' : vk_R own is text sa s' := vk_R.warm hW0 hstr
  obtain ⟨U, hsteps, hrun, hend, hW, hsame, ce, hce, hO⟩ := X₁.ctorThrowS hexec htr (own := own) (cls := cls) (names := names) (ic := ic) hown' hcls hnames h (fun x hx => nomatch hx) hfX hkX hcellA (by rw [hhp, hT]; exact Nat.le_refl _) (msg := .ref sa) rfl
    (g := { method := m, pc := pc + 6, locals := ls, stack := .ref sa :: .ref T.heap.size :: .ref T.heap.size :: rest, locked := none }) rfl hsize rfl rfl (rest := rest) rfl
    (by rw [hb]; exact d6) (by rw [hb]; exact d9) hout hRframes (by simp only [List.map_cons, List.sum_cons, hcat]; omega) hlocks
  obtain ⟨f1, f2⟩ := vx_frame hsame
  rw [hhp] at f1 f2
  have hWs : s.WarmedH U.vm := State.WarmedH.trans hW0 hW
  have hcl : s.vm.findClass cls = some ce.cls := by
    have h9 := hO.cls
    rw [hvm] at h9
    exact h9
  have hall : s.sameButNew ({ U with vm := s.vm } : State) locs mc ms := by
    subst hA
    obtain ⟨e1, e2⟩ := hsame
    rw [State.setFrames_setFrames] at e1
    have h2 : (T.setVm s.vm).sameButNew ({ U with vm := s.vm } : State) [] (0 + 1) (0 + 6) := ⟨e1, e2⟩
    have h3 := X.same.trans h2
    rw [List.append_nil] at h3
    exact h3.mono hc hs
  refine ⟨U, ?_, .threw T.heap.size, hrun, hend, Or.inr ⟨T.heap.size, rfl, cls, ce, locs, hx U hWs.alike f1 (fun q hq => f2 q hq (fun z hz => nomatch hz)), hce, hO.vm, hcl, hWs, hall, hf⟩⟩
  refine st1 _ ?_
  show Steps p.tables e below (T1.setTop { method := m, pc := pc + 3, locals := ls, stack := .ref T.heap.size :: rest, locked := none }) _
  jvm_step X₁.here [X₁.here.top, hexec, d3', Value.category]
  exact X₁.ldcString hexec (own := own) (text := text) (index := is) (a := sa) hown' hstr'.1 hstr'.2
    (g := { method := m, pc := pc + 4, locals := ls, stack := .ref T.heap.size :: .ref T.heap.size :: rest, locked := none }) rfl d4' _ hsteps
/-- 'throw new E("text")', the text by a wide index -/
theorem vx_throwSW {cc : ByteArray} {pc : Nat} (hexec : p.tables.exec = Jvm.exec) (hb : c.code = cc) (hl : l.stackTraces = false) {own cls text : String} {names : List String} {ik is ic mc ms sa : Nat} {A : Nat → Prop}
    (hown : s.vm.findClass own = some m.cls) (hcls : Bundle.fit cls = true) (hnames : ∀ n ∈ names, Bundle.fit n = true)
    (hk : (Cond.classLink own ik cls).before args s = true) (hini : (Cond.initialized cls).before args s = true) (hstr : vk_R own is text sa s) (hat : ∀ w ∈ vx_atS own ic cls names, w.before args s = true)
    (hgood : ∀ w ∈ Cond.classLink own ik cls :: Cond.initialized cls :: vx_atS own ic cls names, vx_ot w = true)
    (hU : vx_Zq Bundle.tN "UNASSIGNED_STACK" Bundle.steD A s s.heap) (hN : vx_Zq Bundle.tN "SUPPRESSED_SENTINEL" Bundle.listD A s s.heap) (hS : va_S A s.heap H locs) (hsize : ls.size = c.maxLocals)
    (d0 : decode cc pc = .ok (.new ik, 3)) (d3 : decode cc (pc + 3) = .ok (.dup, 1)) (d4 : decode cc (pc + 4) = .ok (.ldc_w is, 3)) (d7 : decode cc (pc + 7) = .ok (.invokespecial ic, 3)) (d10 : decode cc (pc + 10) = .ok (.athrow, 1))
    (hout : ∀ x ∈ c.exceptionTable.toList, covers x (pc + 10) = false)
    (hRframes : names.length + 3 < R.frames) (hRlocals : (rest.map fun v => v.category).sum + (13 * (names.length + 1) + 43) ≤ R.locals) (hRcells : cells + 1 ≤ R.cells) (hRslots : slots + 6 ≤ R.slots) (hlocks : meth.locks = false)
    (hx : ∀ t : State, s.vm.Alike t.vm → H.size ≤ t.heap.size → (∀ q : Nat, q < H.size → t.heap[q]? = H[q]?) → XC cls s t)
    (hf : ∀ z ∈ locs, free z.base) (hc : cells + 1 ≤ mc) (hs : slots + 6 ≤ ms) :
    W p l e R s m args below meth c H locs cells slots (vx_MQ below Qc XC args s mc ms free) (F0 m pc ls rest) := by
  intro T hT X
  have htr : e.platform.stackTraces = false := (show e.platform.stackTraces = l.stackTraces by rw [X.admits.platform]).trans hl
  have Y := vx_rebase X (R' := { frames := R.frames, locals := R.locals, cells := 1, slots := 6 }) (Nat.le_refl _) (Nat.le_refl _) hRcells hRslots
  obtain ⟨s', hA⟩ : ∃ z, z = (T.setVm s.vm).setFrames (.invoking m args :: below) := ⟨_, rfl⟩
  rw [← hA] at Y
  have hvm : s'.vm = s.vm := by rw [hA]; rfl
  have hhp : s'.heap = H := by rw [hA]; exact hT
  have hW0 : s.WarmedH s'.vm := by rw [hvm]; exact State.WarmedH.refl s
  have hat' : ∀ w ∈ vx_atS own ic cls names, w.before args s' = true := fun w hw => vx_ot_at hW0 hvm.symm (hgood w (List.mem_cons_of_mem _ (List.mem_cons_of_mem _ hw))) (hat w hw)
  have hk' : (Cond.classLink own ik cls).before args s' = true := vx_ot_at hW0 hvm.symm (hgood _ List.mem_cons_self) hk
  have hini' : (Cond.initialized cls).before args s' = true := vx_ot_at hW0 hvm.symm (hgood _ (List.mem_cons_of_mem _ List.mem_cons_self)) hini
  have hU' : vx_Zq Bundle.tN "UNASSIGNED_STACK" Bundle.steD A s' s'.heap := by rw [hhp]; exact vx_Zq.moved hW0.alike (hU.kept hS.2.1)
  have hN' : vx_Zq Bundle.tN "SUPPRESSED_SENTINEL" Bundle.listD A s' s'.heap := by rw [hhp]; exact vx_Zq.moved hW0.alike (hN.kept hS.2.1)
  have h : ∀ w ∈ Bundle.ownAtoms own ic cls names, w.before args s' = true := vx_own hat' (vx_isRefq hU'.1) (vx_isRefq hN'.1) hU'.2.word hN'.2.word
  have hown' : s'.vm.findClass own = some m.cls := by rw [hvm]; exact hown
  have hins : (Cond.instantiable cls 6).before args s' = true := h _ (by simp [Bundle.ownAtoms])
  obtain ⟨vm₁, cX, kX, hfX, hkX, -, -, X₁, st1⟩ := Y.newCold hexec (own := own) (C := cls) (index := ik) (n := 6) hown' hk' hins hini'
    (g := F0 m pc ls rest) rfl (by rw [hb]; exact d0) (Nat.le_refl _) (Nat.le_refl _)
  generalize hT1 : (T.setVm vm₁).pushCell { cls := cX, slots := kX.instanceTypes.map defaultValue, vm := .none } = T1 at X₁ st1
  have hcat : (Value.ref T.heap.size).category = 1 := rfl
  have hcellA : T1.heap[T.heap.size]? = some (freshCell cX kX) := by rw [← hT1]; exact State.heap_pushCell_size _ _
  have d3' : decode c.code (pc + 3) = .ok (.dup, 1) := by rw [hb]; exact d3
  have d4' : decode c.code (pc + 4) = .ok (.ldc_w is, 3) := by rw [hb]; exact d4
  have hstr' : vk_R own is text sa s' := vk_R.warm hW0 hstr
  obtain ⟨U, hsteps, hrun, hend, hW, hsame, ce, hce, hO⟩ := X₁.ctorThrowS hexec htr (own := own) (cls := cls) (names := names) (ic := ic) hown' hcls hnames h (fun x hx => nomatch hx) hfX hkX hcellA (by rw [hhp, hT]; exact Nat.le_refl _) (msg := .ref sa) rfl
    (g := { method := m, pc := pc + 7, locals := ls, stack := .ref sa :: .ref T.heap.size :: .ref T.heap.size :: rest, locked := none }) rfl hsize rfl rfl (rest := rest) rfl
    (by rw [hb]; exact d7) (by rw [hb]; exact d10) hout hRframes (by simp only [List.map_cons, List.sum_cons, hcat]; omega) hlocks
  obtain ⟨f1, f2⟩ := vx_frame hsame
  rw [hhp] at f1 f2
  have hWs : s.WarmedH U.vm := State.WarmedH.trans hW0 hW
  have hcl : s.vm.findClass cls = some ce.cls := by
    have h9 := hO.cls
    rw [hvm] at h9
    exact h9
  have hall : s.sameButNew ({ U with vm := s.vm } : State) locs mc ms := by
    subst hA
    obtain ⟨e1, e2⟩ := hsame
    rw [State.setFrames_setFrames] at e1
    have h2 : (T.setVm s.vm).sameButNew ({ U with vm := s.vm } : State) [] (0 + 1) (0 + 6) := ⟨e1, e2⟩
    have h3 := X.same.trans h2
    rw [List.append_nil] at h3
    exact h3.mono hc hs
  refine ⟨U, ?_, .threw T.heap.size, hrun, hend, Or.inr ⟨T.heap.size, rfl, cls, ce, locs, hx U hWs.alike f1 (fun q hq => f2 q hq (fun z hz => nomatch hz)), hce, hO.vm, hcl, hWs, hall, hf⟩⟩
  refine st1 _ ?_
  show Steps p.tables e below (T1.setTop { method := m, pc := pc + 3, locals := ls, stack := .ref T.heap.size :: rest, locked := none }) _
  jvm_step X₁.here [X₁.here.top, hexec, d3', Value.category]
  exact X₁.ldcStringW hexec (own := own) (text := text) (index := is) (a := sa) hown' hstr'.1 hstr'.2
    (g := { method := m, pc := pc + 4, locals := ls, stack := .ref T.heap.size :: .ref T.heap.size :: rest, locked := none }) rfl d4' _ hsteps
end Ends
section Bodies
variable {l : Launch}
theorem vx_ofW {y : MethodName} {ws ws' : List Cond} {rm : Room} {Pc : Array Value → State → Prop} {Qc : Array Value → State → Outcome → State → Prop} {XC : String → State → State → Prop} {mc ms : Nat} {free : Addr → Prop} {cc : ByteArray} {maxL : Nat} {ret : Option FieldType}
    (hy : plainName y.cls = true) (hw : ws = Cond.code y cc maxL ret :: ws')
    (body : ∀ p e s m args below meth c s₁, BodyLoose p l y (headSpec ws rm) cc maxL ret e s m args below meth c s₁ → c.maxLocals = maxL → (∀ x ∈ c.exceptionTable.toList, False) → Pc args s →
      W p l e (headSpec ws rm).room s m args below meth c s.heap [] 0 0 (vx_MQ below Qc XC args s mc ms free) (entryFrame m args maxL)) : vx_Met l y ws rm Pc Qc XC mc ms free := by
  refine MetFree.of_bodyS (code := cc) (maxLocals := maxL) (ret := ret) hy ?_ ?_
  · intro args s m h hn
    obtain ⟨meth, c, h1, h2, h3, h4, h5, h6, -, -⟩ := Cond.code_spec hn (atoms_spec (ws := ws) h _ (by rw [hw]; exact List.mem_cons_self))
    exact ⟨meth, c, h1, h2, h3, h4, h5, h6⟩
  · intro p e s m args below meth c s₁ B hml hP _
    have hh0 : s₁.heap = s.heap := by rw [B.state]; rfl
    have ht : ∀ x ∈ c.exceptionTable.toList, False := by
      obtain ⟨meth9, c9, h1, h2, -, -, -, -, h7, -⟩ := Cond.code_spec B.named (atoms_spec (ws := ws) B.pre _ (by rw [hw]; exact List.mem_cons_self))
      cases Option.some.inj (h1.symm.trans B.method)
      cases Option.some.inj (h2.symm.trans (Stand.of_body B).code)
      intro x hx
      rw [Array.isEmpty_iff.mp h7] at hx
      cases hx
    obtain ⟨t, a1, o, b1, b2, b3⟩ := body p e s m args below meth c s₁ B hml ht hP s₁ hh0 (Stand.of_body B)
    exact ⟨t, o, a1, b1, b2, b3⟩
/-- the table of a body with handlers -/
theorem vx_table {p : Program} {x y : MethodName} {S : Spec} {cc bytes : ByteArray} {maxL maxL' : Nat} {ret ret' : Option FieldType} {e : Env} {s s₁ : State} {m : MethodId} {args : Array Value} {below : List Frame} {meth : Method} {c : Code} {hh : List (Nat × Nat × Nat × Nat)}
    (B : BodyLoose p l y S cc maxL ret e s m args below meth c s₁) (h : (Cond.codeWith y bytes maxL' ret' hh).before args s = true) : c.exceptionTable.toList = tableOf hh := by
  obtain ⟨m9, meth9, c9, hn9, h1, h2, -, -, h6, -⟩ := Cond.codeWith_spec h
  cases Option.some.inj (hn9.symm.trans B.named)
  cases Option.some.inj (h1.symm.trans B.method)
  cases Option.some.inj (h2.symm.trans (Stand.of_body B).code)
  rw [← h6, table_eq]
end Bodies
end VXA
/-! ===== END ===== -/
/-! ===== BEGIN a static call of a method with an exception table ===== -/
section VXS
variable {p : Program} {l : Launch} {e : Env} {R : Room} {s : State} {m : MethodId} {args : Array Value} {below : List Frame} {meth : Method} {c : Code} {T : State} {H : Heap} {locs : List Loc} {cells slots : Nat}
abbrev vx_CSW (R : Room) (s : State) (args : Array Value) (own : String) (index : Nat) (y : MethodName) (bytes : ByteArray) (maxL : Nat) (ret : Option FieldType) (hh : List (Nat × Nat × Nat × Nat)) (ws : List Cond) (rm : Room) (mc ms n : Nat) : Prop :=
  (rm.cells = mc ∧ rm.slots = ms ∧ rm.frames + 1 ≤ R.frames ∧ 8 + (maxL + 11) + rm.locals ≤ R.locals ∧ (∀ w ∈ ws, ∀ (a' : Array Value) (U : State), s.WarmedH U.vm → w.before a' U = true) ∧ Cond.codeWith y bytes maxL ret hh ∈ ws) ∧
  (Cond.codeWith y bytes maxL ret hh).before args s = true ∧ (Cond.initialized y.cls).before args s = true ∧ (y.cls ≠ "java/lang/invoke/MethodHandle" ∧ y.cls ≠ "java/lang/invoke/VarHandle") ∧
  (∀ sig, parseMethodDescriptor y.desc = some sig → n = sig.parameters.length) ∧ (Cond.methodLink own index y).before args s = true ∧ (Cond.static y).before args s = true
theorem vx_cwSW {own : String} {index maxL mc ms : Nat} {y : MethodName} {bytes : ByteArray} {ret : Option FieldType} {hh : List (Nat × Nat × Nat × Nat)} {Ts ws ws' : List Cond} {rm : Room} (n : Nat) (ht : ∀ w ∈ Ts, w.before args s = true) (hT : GoodIn Ts (va_wsS own index y ws)) (hw : ws = Cond.codeWith y bytes maxL ret hh :: ws') (hrc : rm.cells = mc) (hrs : rm.slots = ms)
    (hd : y.cls ≠ "java/lang/invoke/MethodHandle" ∧ y.cls ≠ "java/lang/invoke/VarHandle" ∧ (parseMethodDescriptor y.desc).map (fun d => d.parameters.length) = some n) (hR : rm.frames + 1 ≤ R.frames ∧ 8 + (maxL + 11) + rm.locals ≤ R.locals) :
    vx_CSW R s args own index y bytes maxL ret hh ws rm mc ms n := by
  have ok : ∀ w ∈ va_wsS own index y ws, w.before args s = true := fun w h => ht w (hT w h).1
  have hG : GoodIn Ts ws := fun w h => hT w (by unfold va_wsS; exact List.mem_append_right _ h)
  have hc : Cond.codeWith y bytes maxL ret hh ∈ ws := by rw [hw]; exact List.mem_cons_self
  refine ⟨⟨hrc, hrs, hR.1, hR.2, pay_in ht hG, hc⟩, ht _ (hG _ hc).1, ok _ (by simp [va_wsS]), ⟨hd.1, hd.2.1⟩, fun sig h => ?_, ok _ (by simp [va_wsS]), ok _ (by simp [va_wsS])⟩
  have h2 := hd.2.2
  rw [h] at h2
  exact (Option.some.inj h2).symm
theorem vx_callSW (X : Stand p l e R s m args below meth c T locs cells slots) (hexec : p.tables.exec = Jvm.exec) {own : String} {index : Nat} {y : MethodName} {bytes : ByteArray} {maxL : Nat} {ret : Option FieldType} {hh : List (Nat × Nat × Nat × Nat)}
    (hown : s.vm.findClass own = some m.cls) (hlink : (Cond.methodLink own index y).before args s = true) (hstat : (Cond.static y).before args s = true) (hinit : (Cond.initialized y.cls).before args s = true)
    (hcode : (Cond.codeWith y bytes maxL ret hh).before args s = true) (hy : y.cls ≠ "java/lang/invoke/MethodHandle" ∧ y.cls ≠ "java/lang/invoke/VarHandle")
    {W9 : Nat} {Pre : Pt → Array Value → Prop} {Post : Pt → Array Value → Option Value → Pt → Prop} (hK : Back l R p e below s args y 3 W9 Pre Post)
    {g : JFrame} (hg : g.method = m) (hsize : g.locals.size = c.maxLocals) {argsL rest : List Value} (hlen : ∀ sig, parseMethodDescriptor y.desc = some sig → argsL.length = sig.parameters.length)
    (hstack : g.stack = argsL.reverse ++ rest) (hW : 2 * g.monitorRoom + (rest.map fun v => v.category).sum ≤ W9) (hdg : decode c.code g.pc = .ok (.invokestatic index, 3))
    (hpre : ∀ vm₁, s.WarmedH vm₁ → Pre ⟨T.setVm vm₁, locs, cells, slots⟩ argsL.toArray) :
    ∃ (v : Option Value) (vm₁ : Vm) (B : Pt), s.WarmedH vm₁ ∧ Stand p l e R s m args below meth c B.U B.locs B.cells B.slots ∧ Post ⟨T.setVm vm₁, locs, cells, slots⟩ argsL.toArray v B ∧
      ∀ target, Steps p.tables e below (B.U.setTop { g with pc := g.pc + 3, stack := v.toList ++ rest }) target → Steps p.tables e below (T.setTop g) target := by
  obtain ⟨mk, methM, cM, hnamed, hmethM, -, -, -, -, -, -, hsigM⟩ := Cond.codeWith_spec hcode
  have hstatic : methM.isStatic = true := Cond.static_spec hnamed hmethM hstat
  obtain ⟨kP, hkP, -⟩ := className_of_methodNamed hnamed
  have hinitP : kP.init = .initialized := Cond.initialized_spec (findClass_of_methodNamed hnamed) hkP hinit
  obtain ⟨vm₁, X₁, hstep₁⟩ := X.invokestatic hexec hown hlink hnamed hmethM hstatic hkP hinitP hy (g := g) hg (argsL := argsL) (rest := rest) (hlen _ hsigM) hstack hdg
  obtain ⟨v, B, X', hpost, hsteps⟩ := hK m meth c ⟨T.setVm vm₁, locs, cells, slots⟩ { g with stack := rest } (.invokestatic index) mk argsL.toArray X₁ hg hsize hdg hW (X₁.named hnamed) (hpre vm₁ X₁.warmed)
  exact ⟨v, vm₁, B, X₁.warmed, X', hpost, fun target h => hstep₁ _ fun acts => by rw [doInvoke_state]; exact hsteps.trans h⟩
theorem vx_runSW {y : MethodName} {bytes cc : ByteArray} {maxL nL mc ms n index : Nat} {ret : Option FieldType} {hh : List (Nat × Nat × Nat × Nat)} {ws : List Cond} {rm : Room} {Pc : Array Value → State → Prop} {Qc : Array Value → State → Outcome → State → Prop} {free : Addr → Prop} {Ts : List Cond} {own : String} {As rest : List Value} {g : JFrame}
    (S : CallFix p m c cc nL s args Ts own) (hM : Met l y ws rm Pc Qc mc ms free) (cw : vx_CSW R s args own index y bytes maxL ret hh ws rm mc ms n) (hp : PreS s H Pc As)
    (hg : g.method = m) (hn : As.length = n) (hsize : g.locals.size = nL) (hstack : g.stack = As.reverse ++ rest) (hW : 2 * g.monitorRoom + (rest.map fun v => v.category).sum ≤ 8) (hdg : decode cc g.pc = .ok (.invokestatic index, 3)) (hf : cells + mc ≤ R.cells ∧ slots + ms ≤ R.slots) :
    va_Run p l e R s m args below meth c H locs cells slots mc ms g rest (Qc As.toArray) (free) := by
  obtain ⟨⟨hrc, hrs, hfr, hlo, hws, hcw⟩, hcode, hini, hy, hlen, hl, hstt⟩ := cw
  have hK : Back l R p e below s args y 3 8 (PreOf R mc ms Pc) (PostOf Qc mc ms free) := va_backW (hh := hh) (bytes := bytes) (maxL := maxL) (ret := ret) hM hp.1 hrc hrs hfr hlo hws hcw (fun a' U hW => word_at hW (Or.inl (by first | rfl | simp [Cond.onTables, Cond.keeps, Cond.steady])) hini)
  obtain ⟨hx, hb, hml, ho, -⟩ := S
  intro T hT X
  obtain ⟨v, vm₁, ⟨U', l2, c2, s2⟩, hW₁, X', ⟨g', mk, t, L, e1, e2, hq, h1, hL, h2, h3⟩, st⟩ := vx_callSW X hx (hh := hh) (bytes := bytes) (maxL := maxL) (ret := ret) ho hl hstt hini hcode hy hK hg (hsize.trans hml.symm) (argsL := As) (rest := rest) (fun sig h => hn.trans (hlen sig h)) hstack hW (by rw [hb]; exact hdg)
    (fun vm₁ hW₁ => ⟨hf.1, hf.2, hp.2 (T.setVm vm₁) hT hW₁⟩)
  dsimp only [Pt.U, Pt.locs, Pt.cells, Pt.slots] at X' e1 e2 h1 h2 h3 st
  subst h1; subst h2; subst h3
  exact ⟨v, (T.setVm vm₁).calling g' mk As.toArray, t, U', L, hT, X', hL, e1, e2, hq, st⟩
/-- not caught here, past rows that name other classes: it goes on to the caller -/
theorem vx_outP {p : Program} {l : Launch} {e : Env} {R : Room} {s : State} {m : MethodId} {args : Array Value} {below : List Frame} {meth : Method} {c : Code} {H : Heap} {locs : List Loc} {cells slots : Nat} {free : Addr → Prop} {ls : Array Slot} {rest : List Value} {Qc : Array Value → State → Outcome → State → Prop} {XC : String → State → State → Prop}
    {pc : Nat} {own E : String} {ce : Cell} {q : Addr} {mc ms : Nat} (hown : s.vm.findClass own = some m.cls) (hlocks : meth.locks = false)
    (hpass : ∀ z ∈ c.exceptionTable.toList, covers z pc = false ∨ (z.catchType ≠ 0 ∧ ∃ nm : String, (Cond.classLink own z.catchType nm).before args s = true ∧ va_Nc E nm s)) (hcell : H[q]? = some ce) (hv : ce.vm = .none) (hcl : s.vm.findClass E = some ce.cls)
    (hx : ∀ t : State, t.heap = H → s.vm.Alike t.vm → XC E s t) (hf : ∀ z ∈ locs, free z.base) (hc : cells ≤ mc) (hs : slots ≤ ms) :
    vx_W p l e R s m args below meth c H locs cells slots (vx_MQ below Qc XC args s mc ms free) (F0 m pc ls rest) q := by
  intro T hT X
  have hpl : e.platform.magicAccessors = ({} : Platform).magicAccessors := by rw [X.admits.platform]
  obtain ⟨vm', hW', X', st⟩ := X.outThrough hlocks q (g := F0 m pc ls rest) rfl rfl rfl (cell := ce) (by rw [hT]; exact hcell) (by rw [hv]; rfl)
    (by obtain ⟨k9, h9, -⟩ := Vm.findClass_spec hcl; exact ⟨k9, h9⟩) (fun z hz => by
      rcases hpass z hz with h | ⟨hz0, nm, hl1, hn1⟩
      · exact Or.inl h
      · obtain ⟨c6, hc6, hcl6⟩ := Cond.classLink_spec hown hl1 e.platform hpl
        obtain ⟨a8, b8, h1, h2, h3⟩ := hn1
        cases Option.some.inj (h1.symm.trans hcl)
        cases Option.some.inj (h2.symm.trans hc6)
        exact Or.inr ⟨hz0, _, hcl6, h3⟩)
  obtain ⟨g₀, hfr⟩ := X'.frames_eq
  have hcell9 : ((T.setVm vm').setFrames (.throwing q :: below)).heap[q]? = some ce := by
    show T.heap[q]? = some ce
    rw [hT]; exact hcell
  have hend : Ended ((T.setVm vm').setFrames (.throwing q :: below)) below (.threw q) := State.frames_setFrames _ (State.cur_lt_of_frames hfr)
  refine ⟨(T.setVm vm').setFrames (.throwing q :: below), ?_, .threw q, X'.here.running, hend, Or.inr ⟨q, rfl, E, ce, locs, hx _ hT (X'.ends _).1.alike, hcell9, hv, hcl, (X'.ends _).1, (X'.ends _).2.mono hc hs, hf⟩⟩
  rw [X.pushThrowing_eq]
  exact st
/-- a thing of a world lies in the heap -/
theorem vx_lt {D : va_G} {cl : List vw_C} {ws : va_W} {H1 : Heap} (h : va_P D cl ws H1) {k : Nat} {q : Nat × va_E} (hk : ws[k]? = some q) : q.1 < H1.size := (h k q hk).lt
end VXS
/-! ===== END ===== -/
/-! ===== BEGIN methods with a table of their own: called by a name, returning or throwing ===== -/
section VXH
/-! vx_backW, vx_callVX, vx_callSX, vx_callVW, vx_runVW, vx_runVX, vx_runSX, vx_ofWH follow the same proofs as their sisters above (Free/Laws.lean, Shelf42/LK1.lean); vx_outP calls Shelf42/NT130.lean (outThrough). -/
section
variable {l : Launch} {R : Room} {p : Program} {e : Env} {below : List Frame} {s : State} {sargs : Array Value} {y : MethodName} {len W9 : Nat}
theorem vx_backW {ws : List Cond} {rm : Room} {Pc : Array Value → State → Prop} {Qc : Array Value → State → Outcome → State → Prop} {XC : String → State → State → Prop} {mc ms : Nat} {free : Addr → Prop} {bytes : ByteArray} {maxL : Nat} {ret : Option FieldType} {hh : List (Nat × Nat × Nat × Nat)}
    (hM : vx_Met l y ws rm Pc Qc XC mc ms free) (hblind : FrameBlind Pc) (hrc : rm.cells = mc) (hrs : rm.slots = ms)
    (hframes : rm.frames + 1 ≤ R.frames) (hlocals : W9 + (maxL + 11) + rm.locals ≤ R.locals)
    (hws : ∀ w ∈ ws, ∀ a' U, s.WarmedH U.vm → w.before a' U = true) (hcode : Cond.codeWith y bytes maxL ret hh ∈ ws) (hinit : ∀ a' U, s.WarmedH U.vm → (Cond.initialized y.cls).before a' U = true) :
    vx_Back l R p e below s sargs y len W9 (PreOf R mc ms Pc) (PostOf Qc mc ms free) (vx_Post XC mc ms free) := by
  intro m meth c A g ig mk a X hg hsize hdg hW hn hp
  have h1 : (headSpec ws rm).pre.before a A.U = true := atoms_intro fun w hw => hws w hw _ _ X.warmed
  have h2 : (Cond.codeWith y bytes maxL ret hh).before a A.U = true := hws _ hcode _ _ X.warmed
  have h3 : (Cond.initialized y.cls).before a A.U = true := hinit _ _ X.warmed
  have h4 : A.cells + (headSpec ws rm).room.cells ≤ R.cells := by rw [show (headSpec ws rm).room.cells = mc from hrc]; exact hp.1
  have h5 : A.slots + (headSpec ws rm).room.slots ≤ R.slots := by rw [show (headSpec ws rm).room.slots = ms from hrs]; exact hp.2.1
  have hPc : Pc a (A.U.calling g mk a) := hblind _ _ _ _ hp.2.2
  obtain ⟨U, Ls, c0, s0⟩ := A
  dsimp only [Pt.U, Pt.locs, Pt.cells, Pt.slots] at h1 h2 h3 h4 h5 X hn hPc ⊢
  obtain ⟨m9, methY, cY, hn9, hmY, hcY, -, hlY, -⟩ := Cond.codeWith_spec h2
  cases Option.some.inj (hn9.symm.trans hn)
  obtain ⟨kY, hkY, -⟩ := className_of_methodNamed hn
  have hinitY : kY.init = .initialized := Cond.initialized_spec (findClass_of_methodNamed hn) hkY h3
  have h : At U g.method c below := by rw [hg]; exact X.here
  have hlocals9 : W9 + (maxL + 11) + (headSpec ws rm).room.locals ≤ R.locals := hlocals
  have happ : (headSpec ws rm).appliesLoose y e.platform (U.calling g mk a) = true :=
    Spec.appliesLoose_calling (g := g) h hdg hn hkY hinitY
      (X.room_calling (g := g) (R' := (headSpec ws rm).room) hsize hmY hcY hframes (by rw [hlY]; omega) h4 h5) h1
  obtain ⟨mid, hmid⟩ := h.above
  have hfr : (U.setTop g).frames = (.java g :: mid) ++ below := by rw [State.frames_setTop' g h.top, hmid]; rfl
  obtain ⟨o, s₂, hsteps, -, hend, hq⟩ := Steps.callFree hM p X.admits X.cas X.clock (acts := []) hfr happ hPc trivial
  have hq' : vx_Q Qc XC mc ms free a (U.calling g mk a) o s₂ := hq
  rw [State.frames_setTop' g h.top] at hend
  obtain ⟨g₀, hg0⟩ := Option.isSome_iff_exists.mp h.top
  obtain ⟨r, hr⟩ := State.topJava?_eq_some.mp hg0
  have hr' : (({ U with heap := s₂.heap, slotsUsed := s₂.slotsUsed } : State).setVm s₂.vm).frames = .java g₀ :: r := hr
  rcases hq' with ⟨hqc, L, hfe, hL⟩ | ⟨q, rfl, E, ce, L, hx, hce, hcv, hcl, hW₂, hsm, hL⟩
  · obtain ⟨⟨v, rfl⟩, hW₂, e2, q2, q3, q4, q5, q6⟩ := id hfe
    have e3 : s₂ = ({ (U.calling g mk a).setFrames s₂.frames with heap := s₂.heap, slotsUsed := s₂.slotsUsed } : State).setVm s₂.vm := by
      have : s₂ = ({ s₂ with vm := (U.calling g mk a).vm } : State).setVm s₂.vm := rfl
      rw [e2] at this
      exact this
    obtain ⟨c₂, i₂, len₂, hc₂, hd₂, hf₂⟩ := hend
    have hW' : U.WarmedH s₂.vm := hW₂
    have hcc : c₂ = c := by
      have h1 : s₂.code? g.method = U.code? g.method := by
        rw [State.code?_eq, State.code?_eq, hW'.alike.method?]
      exact Option.some.inj (hc₂.symm.trans (h1.trans h.code))
    subst hcc
    have hlen : len₂ = len := by rw [hdg] at hd₂; cases hd₂; rfl
    subst hlen
    have hs₂ : s₂ = (({ U with heap := s₂.heap, slotsUsed := s₂.slotsUsed } : State).setVm s₂.vm).setTop { g with pc := g.pc + len₂, stack := v.toList ++ g.stack } := by
      refine e3.trans ?_
      rw [hf₂, State.calling_eq h.top, State.setFrames_setFrames, State.setTop_of_frames _ hr', hr]
      rfl
    have hsame : U.sameButNew ({ U with heap := s₂.heap, slotsUsed := s₂.slotsUsed } : State) L mc ms := by
      refine ⟨?_, q2, q3, q4, q5, q6⟩
      obtain ⟨t, ht, -⟩ := State.frames_cons hr
      show ({ U with heap := s₂.heap, slotsUsed := s₂.slotsUsed } : State) = { U.setFrames U.frames with heap := s₂.heap, slotsUsed := s₂.slotsUsed }
      rw [State.setFrames_self ht]
    subst hg
    refine Or.inl ⟨v, ⟨(({ U with heap := s₂.heap, slotsUsed := s₂.slotsUsed } : State).setVm s₂.vm), Ls ++ L, c0 + mc, s0 + ms⟩,
      ⟨X.admits, X.cas, X.clock, X.frames, X.room, X.hears, X.method, X.code, (X.here.setHeapUsed s₂.heap s₂.slotsUsed).setVm hW'.alike, X.tail, State.WarmedH.trans X.warmed hW', X.limits, X.bytes, X.same.trans (hsame.setVm s.vm)⟩,
      ⟨g, mk, s₂, L, rfl, rfl, hqc, rfl, hL, rfl, rfl⟩, ?_⟩
    show Steps p.tables e below _ ((({ U with heap := s₂.heap, slotsUsed := s₂.slotsUsed } : State).setVm s₂.vm).setTop { g with pc := g.pc + len₂, stack := v.toList ++ g.stack })
    rw [← hs₂]
    exact hsteps
  · obtain ⟨e2, q2, q3, q4, q5, q6⟩ := id hsm
    have e3 : s₂ = ({ (U.calling g mk a).setFrames s₂.frames with heap := s₂.heap, slotsUsed := s₂.slotsUsed } : State).setVm s₂.vm := by
      have : s₂ = ({ s₂ with vm := (U.calling g mk a).vm } : State).setVm s₂.vm := rfl
      rw [e2] at this
      exact this
    have hf₂ : s₂.frames = .throwing q :: .java g :: U.frames.tail := hend
    have hW' : U.WarmedH s₂.vm := hW₂
    have hs₂ : s₂ = ((({ U with heap := s₂.heap, slotsUsed := s₂.slotsUsed } : State).setVm s₂.vm).setTop g).pushFrame (.throwing q) := by
      refine e3.trans ?_
      rw [hf₂, State.calling_eq h.top, State.setFrames_setFrames, State.pushFrame, State.frames_setTop _ hr', State.setTop_of_frames _ hr', State.setFrames_setFrames, hr]
      rfl
    have hsame : U.sameButNew ({ U with heap := s₂.heap, slotsUsed := s₂.slotsUsed } : State) L mc ms := by
      refine ⟨?_, q2, q3, q4, q5, q6⟩
      obtain ⟨t, ht, -⟩ := State.frames_cons hr
      show ({ U with heap := s₂.heap, slotsUsed := s₂.slotsUsed } : State) = { U.setFrames U.frames with heap := s₂.heap, slotsUsed := s₂.slotsUsed }
      rw [State.setFrames_self ht]
    subst hg
    refine Or.inr ⟨q, ⟨(({ U with heap := s₂.heap, slotsUsed := s₂.slotsUsed } : State).setVm s₂.vm), Ls ++ L, c0 + mc, s0 + ms⟩,
      ⟨X.admits, X.cas, X.clock, X.frames, X.room, X.hears, X.method, X.code, (X.here.setHeapUsed s₂.heap s₂.slotsUsed).setVm hW'.alike, X.tail, State.WarmedH.trans X.warmed hW', X.limits, X.bytes, X.same.trans (hsame.setVm s.vm)⟩,
      ⟨g, mk, s₂, L, E, ce, rfl, rfl, hx, hce, hcv, hcl, rfl, hL, rfl, rfl⟩, ?_⟩
    show Steps p.tables e below _ (((({ U with heap := s₂.heap, slotsUsed := s₂.slotsUsed } : State).setVm s₂.vm).setTop g).pushFrame (.throwing q))
    rw [← hs₂]
    exact hsteps
end
variable {p : Program} {l : Launch} {e : Env} {R : Room} {s : State} {m : MethodId} {args : Array Value} {below : List Frame} {meth : Method} {c : Code} {T : State} {H : Heap} {locs : List Loc} {cells slots : Nat}
theorem vx_callVX (X : Stand p l e R s m args below meth c T locs cells slots) (hexec : p.tables.exec = Jvm.exec) {own C : String} {index : Nat} {y : MethodName} {bytes : ByteArray} {maxL : Nat} {ret : Option FieldType} {hh : List (Nat × Nat × Nat × Nat)}
    (hown : s.vm.findClass own = some m.cls) (hlink : (Cond.methodLink own index y).before args s = true) (hinst : (Cond.instanceMethod y).before args s = true) (hsel : (Cond.selects C y y).before args s = true)
    (hcode : (Cond.codeWith y bytes maxL ret hh).before args s = true) (hy : y.cls ≠ "java/lang/invoke/MethodHandle" ∧ y.cls ≠ "java/lang/invoke/VarHandle")
    {W9 : Nat} {Pre : Pt → Array Value → Prop} {Post : Pt → Array Value → Option Value → Pt → Prop} {PostX : Pt → Array Value → Addr → Pt → Prop} (hK : vx_Back l R p e below s args y 3 W9 Pre Post PostX)
    {b : Addr} {cellB : Cell} (hcell : T.heap[b]? = some cellB) (hobj : cellB.vm.isStatics = false) (hcls : s.vm.findClass C = some cellB.cls)
    {g : JFrame} (hg : g.method = m) (hsize : g.locals.size = c.maxLocals) {argsL rest : List Value} (hlen : ∀ sig, parseMethodDescriptor y.desc = some sig → argsL.length = sig.parameters.length)
    (hstack : g.stack = argsL.reverse ++ .ref b :: rest) (hW : 2 * g.monitorRoom + (rest.map fun v => v.category).sum ≤ W9) (hdg : decode c.code g.pc = .ok (.invokevirtual index, 3))
    (hpre : ∀ vm₁, s.WarmedH vm₁ → Pre ⟨T.setVm vm₁, locs, cells, slots⟩ (Value.ref b :: argsL).toArray) :
    (∃ (v : Option Value) (vm₁ : Vm) (B : Pt), s.WarmedH vm₁ ∧ Stand p l e R s m args below meth c B.U B.locs B.cells B.slots ∧ Post ⟨T.setVm vm₁, locs, cells, slots⟩ (Value.ref b :: argsL).toArray v B ∧
      ∀ target, Steps p.tables e below (B.U.setTop { g with pc := g.pc + 3, stack := v.toList ++ rest }) target → Steps p.tables e below (T.setTop g) target) ∨
    (∃ (q : Addr) (vm₁ : Vm) (B : Pt), s.WarmedH vm₁ ∧ Stand p l e R s m args below meth c B.U B.locs B.cells B.slots ∧ PostX ⟨T.setVm vm₁, locs, cells, slots⟩ (Value.ref b :: argsL).toArray q B ∧
      Steps p.tables e below (T.setTop g) ((B.U.setTop { g with stack := rest }).pushFrame (.throwing q))) := by
  obtain ⟨mk, methM, hnamed, hmethM, hstM, habM⟩ := Cond.instanceMethod_spec hinst
  obtain ⟨m8, methM', cM, hn8, hmethM', -, -, -, -, -, -, hsigM⟩ := Cond.codeWith_spec hcode
  cases Option.some.inj (hn8.symm.trans hnamed)
  cases hmethM.symm.trans hmethM'
  obtain ⟨c2, r2, m2, q1, q2, q3, q4, kP, hkP, hkPi⟩ := Cond.selects_spec hsel
  cases hcls.symm.trans q1
  cases (State.methodFound?_of_named hnamed hy).symm.trans q2
  cases hnamed.symm.trans q3
  have hselP : selectMethod e.platform s.vm cellB.cls mk = .method mk := by rw [Launch.admits_selectMethod X.admits]; exact q4
  obtain ⟨vm₁, X₁, hstep₁⟩ := X.invokevirtual hexec hown hlink hnamed hmethM hstM hkP hkPi hy (a := b) (cell := cellB) hcell
    (fun z h => by rw [h] at hobj; cases hobj) hselP hmethM habM hkP hkPi (g := g) hg (argsL := argsL) (rest := rest) (hlen _ hsigM) hstack hdg
  rcases hK m meth c ⟨T.setVm vm₁, locs, cells, slots⟩ { g with stack := rest } (.invokevirtual index) mk (Value.ref b :: argsL).toArray X₁ hg hsize hdg hW (X₁.named hnamed) (hpre vm₁ X₁.warmed) with ⟨v, B, X', hpost, hsteps⟩ | ⟨q, B, X', hpost, hsteps⟩
  · exact Or.inl ⟨v, vm₁, B, X₁.warmed, X', hpost, fun target h => hstep₁ _ fun acts => by rw [doInvoke_state]; exact hsteps.trans h⟩
  · exact Or.inr ⟨q, vm₁, B, X₁.warmed, X', hpost, hstep₁ _ fun acts => by rw [doInvoke_state]; exact hsteps⟩
theorem vx_callSX (X : Stand p l e R s m args below meth c T locs cells slots) (hexec : p.tables.exec = Jvm.exec) {own : String} {index : Nat} {y : MethodName} {bytes : ByteArray} {maxL : Nat} {ret : Option FieldType} {hh : List (Nat × Nat × Nat × Nat)}
    (hown : s.vm.findClass own = some m.cls) (hlink : (Cond.methodLink own index y).before args s = true) (hstat : (Cond.static y).before args s = true) (hinit : (Cond.initialized y.cls).before args s = true)
    (hcode : (Cond.codeWith y bytes maxL ret hh).before args s = true) (hy : y.cls ≠ "java/lang/invoke/MethodHandle" ∧ y.cls ≠ "java/lang/invoke/VarHandle")
    {W9 : Nat} {Pre : Pt → Array Value → Prop} {Post : Pt → Array Value → Option Value → Pt → Prop} {PostX : Pt → Array Value → Addr → Pt → Prop} (hK : vx_Back l R p e below s args y 3 W9 Pre Post PostX)
    {g : JFrame} (hg : g.method = m) (hsize : g.locals.size = c.maxLocals) {argsL rest : List Value} (hlen : ∀ sig, parseMethodDescriptor y.desc = some sig → argsL.length = sig.parameters.length)
    (hstack : g.stack = argsL.reverse ++ rest) (hW : 2 * g.monitorRoom + (rest.map fun v => v.category).sum ≤ W9) (hdg : decode c.code g.pc = .ok (.invokestatic index, 3))
    (hpre : ∀ vm₁, s.WarmedH vm₁ → Pre ⟨T.setVm vm₁, locs, cells, slots⟩ argsL.toArray) :
    (∃ (v : Option Value) (vm₁ : Vm) (B : Pt), s.WarmedH vm₁ ∧ Stand p l e R s m args below meth c B.U B.locs B.cells B.slots ∧ Post ⟨T.setVm vm₁, locs, cells, slots⟩ argsL.toArray v B ∧
      ∀ target, Steps p.tables e below (B.U.setTop { g with pc := g.pc + 3, stack := v.toList ++ rest }) target → Steps p.tables e below (T.setTop g) target) ∨
    (∃ (q : Addr) (vm₁ : Vm) (B : Pt), s.WarmedH vm₁ ∧ Stand p l e R s m args below meth c B.U B.locs B.cells B.slots ∧ PostX ⟨T.setVm vm₁, locs, cells, slots⟩ argsL.toArray q B ∧
      Steps p.tables e below (T.setTop g) ((B.U.setTop { g with stack := rest }).pushFrame (.throwing q))) := by
  obtain ⟨mk, methM, cM, hnamed, hmethM, -, -, -, -, -, -, hsigM⟩ := Cond.codeWith_spec hcode
  have hstatic : methM.isStatic = true := Cond.static_spec hnamed hmethM hstat
  obtain ⟨kP, hkP, -⟩ := className_of_methodNamed hnamed
  have hinitP : kP.init = .initialized := Cond.initialized_spec (findClass_of_methodNamed hnamed) hkP hinit
  obtain ⟨vm₁, X₁, hstep₁⟩ := X.invokestatic hexec hown hlink hnamed hmethM hstatic hkP hinitP hy (g := g) hg (argsL := argsL) (rest := rest) (hlen _ hsigM) hstack hdg
  rcases hK m meth c ⟨T.setVm vm₁, locs, cells, slots⟩ { g with stack := rest } (.invokestatic index) mk argsL.toArray X₁ hg hsize hdg hW (X₁.named hnamed) (hpre vm₁ X₁.warmed) with ⟨v, B, X', hpost, hsteps⟩ | ⟨q, B, X', hpost, hsteps⟩
  · exact Or.inl ⟨v, vm₁, B, X₁.warmed, X', hpost, fun target h => hstep₁ _ fun acts => by rw [doInvoke_state]; exact hsteps.trans h⟩
  · exact Or.inr ⟨q, vm₁, B, X₁.warmed, X', hpost, hstep₁ _ fun acts => by rw [doInvoke_state]; exact hsteps⟩
theorem vx_callVW (X : Stand p l e R s m args below meth c T locs cells slots) (hexec : p.tables.exec = Jvm.exec) {own C : String} {index : Nat} {y : MethodName} {bytes : ByteArray} {maxL : Nat} {ret : Option FieldType} {hh : List (Nat × Nat × Nat × Nat)}
    (hown : s.vm.findClass own = some m.cls) (hlink : (Cond.methodLink own index y).before args s = true) (hinst : (Cond.instanceMethod y).before args s = true) (hsel : (Cond.selects C y y).before args s = true)
    (hcode : (Cond.codeWith y bytes maxL ret hh).before args s = true) (hy : y.cls ≠ "java/lang/invoke/MethodHandle" ∧ y.cls ≠ "java/lang/invoke/VarHandle")
    {W9 : Nat} {Pre : Pt → Array Value → Prop} {Post : Pt → Array Value → Option Value → Pt → Prop} (hK : Back l R p e below s args y 3 W9 Pre Post)
    {b : Addr} {cellB : Cell} (hcell : T.heap[b]? = some cellB) (hobj : cellB.vm.isStatics = false) (hcls : s.vm.findClass C = some cellB.cls)
    {g : JFrame} (hg : g.method = m) (hsize : g.locals.size = c.maxLocals) {argsL rest : List Value} (hlen : ∀ sig, parseMethodDescriptor y.desc = some sig → argsL.length = sig.parameters.length)
    (hstack : g.stack = argsL.reverse ++ .ref b :: rest) (hW : 2 * g.monitorRoom + (rest.map fun v => v.category).sum ≤ W9) (hdg : decode c.code g.pc = .ok (.invokevirtual index, 3))
    (hpre : ∀ vm₁, s.WarmedH vm₁ → Pre ⟨T.setVm vm₁, locs, cells, slots⟩ (Value.ref b :: argsL).toArray) :
    ∃ (v : Option Value) (vm₁ : Vm) (B : Pt), s.WarmedH vm₁ ∧ Stand p l e R s m args below meth c B.U B.locs B.cells B.slots ∧ Post ⟨T.setVm vm₁, locs, cells, slots⟩ (Value.ref b :: argsL).toArray v B ∧
      ∀ target, Steps p.tables e below (B.U.setTop { g with pc := g.pc + 3, stack := v.toList ++ rest }) target → Steps p.tables e below (T.setTop g) target := by
  obtain ⟨mk, methM, hnamed, hmethM, hstM, habM⟩ := Cond.instanceMethod_spec hinst
  obtain ⟨m8, methM', cM, hn8, hmethM', -, -, -, -, -, -, hsigM⟩ := Cond.codeWith_spec hcode
  cases Option.some.inj (hn8.symm.trans hnamed)
  cases hmethM.symm.trans hmethM'
  obtain ⟨c2, r2, m2, q1, q2, q3, q4, kP, hkP, hkPi⟩ := Cond.selects_spec hsel
  cases hcls.symm.trans q1
  cases (State.methodFound?_of_named hnamed hy).symm.trans q2
  cases hnamed.symm.trans q3
  have hselP : selectMethod e.platform s.vm cellB.cls mk = .method mk := by rw [Launch.admits_selectMethod X.admits]; exact q4
  obtain ⟨vm₁, X₁, hstep₁⟩ := X.invokevirtual hexec hown hlink hnamed hmethM hstM hkP hkPi hy (a := b) (cell := cellB) hcell
    (fun z h => by rw [h] at hobj; cases hobj) hselP hmethM habM hkP hkPi (g := g) hg (argsL := argsL) (rest := rest) (hlen _ hsigM) hstack hdg
  obtain ⟨v, B, X', hpost, hsteps⟩ := hK m meth c ⟨T.setVm vm₁, locs, cells, slots⟩ { g with stack := rest } (.invokevirtual index) mk (Value.ref b :: argsL).toArray X₁ hg hsize hdg hW (X₁.named hnamed) (hpre vm₁ X₁.warmed)
  exact ⟨v, vm₁, B, X₁.warmed, X', hpost, fun target h => hstep₁ _ fun acts => by rw [doInvoke_state]; exact hsteps.trans h⟩
abbrev vx_CVW (R : Room) (s : State) (args : Array Value) (own C : String) (index : Nat) (y : MethodName) (bytes : ByteArray) (maxL : Nat) (ret : Option FieldType) (hh : List (Nat × Nat × Nat × Nat)) (ws : List Cond) (rm : Room) (mc ms n : Nat) : Prop :=
  (rm.cells = mc ∧ rm.slots = ms ∧ rm.frames + 1 ≤ R.frames ∧ 8 + (maxL + 11) + rm.locals ≤ R.locals ∧ (∀ w ∈ ws, ∀ (a' : Array Value) (U : State), s.WarmedH U.vm → w.before a' U = true) ∧ Cond.codeWith y bytes maxL ret hh ∈ ws) ∧
  (Cond.codeWith y bytes maxL ret hh).before args s = true ∧ (Cond.initialized y.cls).before args s = true ∧ (y.cls ≠ "java/lang/invoke/MethodHandle" ∧ y.cls ≠ "java/lang/invoke/VarHandle") ∧
  (∀ sig, parseMethodDescriptor y.desc = some sig → n = sig.parameters.length) ∧ (Cond.methodLink own index y).before args s = true ∧ (Cond.instanceMethod y).before args s = true ∧ (Cond.selects C y y).before args s = true
theorem vx_cwVW {own C : String} {index maxL mc ms : Nat} {y : MethodName} {bytes : ByteArray} {ret : Option FieldType} {hh : List (Nat × Nat × Nat × Nat)} {Ts ws ws' : List Cond} {rm : Room} (n : Nat) (ht : ∀ w ∈ Ts, w.before args s = true) (hT : GoodIn Ts (wsV own index C y ws)) (hw : ws = Cond.codeWith y bytes maxL ret hh :: ws') (hrc : rm.cells = mc) (hrs : rm.slots = ms)
    (hd : y.cls = C ∧ y.cls ≠ "java/lang/invoke/MethodHandle" ∧ y.cls ≠ "java/lang/invoke/VarHandle" ∧ (parseMethodDescriptor y.desc).map (fun d => d.parameters.length) = some n) (hR : rm.frames + 1 ≤ R.frames ∧ 8 + (maxL + 11) + rm.locals ≤ R.locals) :
    vx_CVW R s args own C index y bytes maxL ret hh ws rm mc ms n := by
  obtain ⟨hC, hd⟩ := hd
  subst hC
  have ok : ∀ w ∈ wsV own index y.cls y ws, w.before args s = true := fun w h => ht w (hT w h).1
  have hG : GoodIn Ts ws := fun w h => hT w (by unfold wsV; exact List.mem_append_right _ h)
  have hc : Cond.codeWith y bytes maxL ret hh ∈ ws := by rw [hw]; exact List.mem_cons_self
  refine ⟨⟨hrc, hrs, hR.1, hR.2, pay_in ht hG, hc⟩, ht _ (hG _ hc).1, ok _ (by simp [wsV]), ⟨hd.1, hd.2.1⟩, fun sig h => ?_, ok _ (by simp [wsV]), ok _ (by simp [wsV]), ok _ (by simp [wsV])⟩
  have h2 := hd.2.2
  rw [h] at h2
  exact (Option.some.inj h2).symm
theorem vx_runVW {y : MethodName} {bytes cc : ByteArray} {maxL nL mc ms n index : Nat} {ret : Option FieldType} {hh : List (Nat × Nat × Nat × Nat)} {ws : List Cond} {rm : Room} {Pc : Array Value → State → Prop} {Qc : Array Value → State → Outcome → State → Prop} {free : Addr → Prop} {Ts : List Cond} {own C : String} {b : Addr} {As rest : List Value} {g : JFrame}
    (S : CallFix p m c cc nL s args Ts own) (hM : Met l y ws rm Pc Qc mc ms free) (cw : vx_CVW R s args own C index y bytes maxL ret hh ws rm mc ms n) (hp : PreV s H C b Pc As)
    (hg : g.method = m) (hn : As.length = n) (hsize : g.locals.size = nL) (hstack : g.stack = As.reverse ++ .ref b :: rest) (hW : 2 * g.monitorRoom + (rest.map fun v => v.category).sum ≤ 8) (hdg : decode cc g.pc = .ok (.invokevirtual index, 3)) (hf : cells + mc ≤ R.cells ∧ slots + ms ≤ R.slots) :
    va_Run p l e R s m args below meth c H locs cells slots mc ms g rest (Qc (Value.ref b :: As).toArray) free := by
  obtain ⟨⟨hrc, hrs, hfr, hlo, hws, hcw⟩, hcode, hini, hy, hlen, hl, hin, hse⟩ := cw
  have hK : Back l R p e below s args y 3 8 (PreOf R mc ms Pc) (PostOf Qc mc ms free) := va_backW (hh := hh) (bytes := bytes) (maxL := maxL) (ret := ret) hM hp.1 hrc hrs hfr hlo hws hcw (fun a' U hW => word_at hW (Or.inl (by first | rfl | simp [Cond.onTables, Cond.keeps, Cond.steady])) hini)
  obtain ⟨hx, hb, hml, ho, -⟩ := S
  obtain ⟨-, ⟨cellB, hcB, hoB, hclB⟩, hPc⟩ := hp
  intro T hT X
  obtain ⟨v, vm₁, ⟨U', l2, c2, s2⟩, hW₁, X', ⟨g', mk, t, L, e1, e2, hq, h1, hL, h2, h3⟩, st⟩ := vx_callVW X hx (C := C) (hh := hh) (bytes := bytes) (maxL := maxL) (ret := ret) ho hl hin hse hcode hy hK (by rw [hT]; exact hcB) hoB hclB hg (hsize.trans hml.symm) (argsL := As) (rest := rest) (fun sig h => hn.trans (hlen sig h)) hstack hW (by rw [hb]; exact hdg)
    (fun vm₁ hW₁ => ⟨hf.1, hf.2, hPc (T.setVm vm₁) hT hW₁⟩)
  dsimp only [Pt.U, Pt.locs, Pt.cells, Pt.slots] at X' e1 e2 h1 h2 h3 st
  subst h1; subst h2; subst h3
  exact ⟨v, (T.setVm vm₁).calling g' mk (Value.ref b :: As).toArray, t, U', L, hT, X', hL, e1, e2, hq, st⟩
section
variable {y : MethodName} {bytes cc : ByteArray} {maxL nL mc ms n index : Nat} {ret : Option FieldType} {ws : List Cond} {rm : Room} {Pc : Array Value → State → Prop} {Qc : Array Value → State → Outcome → State → Prop} {XC : String → State → State → Prop} {free : Addr → Prop} {Ts : List Cond} {own C : String} {b : Addr} {As rest : List Value} {g : JFrame}
theorem vx_runVX {hh : List (Nat × Nat × Nat × Nat)} (S : CallFix p m c cc nL s args Ts own) (hM : vx_Met l y ws rm Pc Qc XC mc ms free) (cw : vx_CVW R s args own C index y bytes maxL ret hh ws rm mc ms n) (hp : PreV s H C b Pc As)
    (hg : g.method = m) (hn : As.length = n) (hsize : g.locals.size = nL) (hstack : g.stack = As.reverse ++ .ref b :: rest) (hW : 2 * g.monitorRoom + (rest.map fun v => v.category).sum ≤ 8) (hdg : decode cc g.pc = .ok (.invokevirtual index, 3)) (hf : cells + mc ≤ R.cells ∧ slots + ms ≤ R.slots) :
    vx_Run p l e R s m args below meth c H locs cells slots mc ms g rest (Qc (Value.ref b :: As).toArray) XC free := by
  obtain ⟨⟨hrc, hrs, hfr, hlo, hws, hcw⟩, hcode, hini, hy, hlen, hl, hin, hse⟩ := cw
  have hK : vx_Back l R p e below s args y 3 8 (PreOf R mc ms Pc) (PostOf Qc mc ms free) (vx_Post XC mc ms free) := vx_backW (hh := hh) (bytes := bytes) (maxL := maxL) (ret := ret) hM hp.1 hrc hrs hfr hlo hws hcw (fun a' U hW => word_at hW (Or.inl (by first | rfl | simp [Cond.onTables, Cond.keeps, Cond.steady])) hini)
  obtain ⟨hx, hb, hml, ho, -⟩ := S
  obtain ⟨-, ⟨cellB, hcB, hoB, hclB⟩, hPc⟩ := hp
  intro T hT X
  rcases vx_callVX X hx (C := C) (hh := hh) (bytes := bytes) (maxL := maxL) (ret := ret) ho hl hin hse hcode hy hK (by rw [hT]; exact hcB) hoB hclB hg (hsize.trans hml.symm) (argsL := As) (rest := rest) (fun sig h => hn.trans (hlen sig h)) hstack hW (by rw [hb]; exact hdg)
    (fun vm₁ hW₁ => ⟨hf.1, hf.2, hPc (T.setVm vm₁) hT hW₁⟩) with ⟨v, vm₁, ⟨U', l2, c2, s2⟩, hW₁, X', ⟨g', mk, t, L, e1, e2, hq, h1, hL, h2, h3⟩, st⟩ | ⟨q, vm₁, ⟨U', l2, c2, s2⟩, hW₁, X', ⟨g', mk, t, L, E, ce, e1, e2, hq, hce, hcv, hcl, h1, hL, h2, h3⟩, st⟩
  · dsimp only [Pt.U, Pt.locs, Pt.cells, Pt.slots] at X' e1 e2 h1 h2 h3 st
    subst h1; subst h2; subst h3
    exact Or.inl ⟨v, (T.setVm vm₁).calling g' mk (Value.ref b :: As).toArray, t, U', L, hT, X', hL, e1, e2, hq, st⟩
  · dsimp only [Pt.U, Pt.locs, Pt.cells, Pt.slots] at X' e1 e2 h1 h2 h3 st hcl
    subst h1; subst h2; subst h3
    exact Or.inr ⟨q, (T.setVm vm₁).calling g' mk (Value.ref b :: As).toArray, t, U', L, E, ce, hT, X', hL, e1, e2, hq, hce, hcv, vx_cls hW₁ hcl, st⟩
theorem vx_runSX {hh : List (Nat × Nat × Nat × Nat)} (S : CallFix p m c cc nL s args Ts own) (hM : vx_Met l y ws rm Pc Qc XC mc ms free) (cw : vx_CSW R s args own index y bytes maxL ret hh ws rm mc ms n) (hp : PreS s H Pc As)
    (hg : g.method = m) (hn : As.length = n) (hsize : g.locals.size = nL) (hstack : g.stack = As.reverse ++ rest) (hW : 2 * g.monitorRoom + (rest.map fun v => v.category).sum ≤ 8) (hdg : decode cc g.pc = .ok (.invokestatic index, 3)) (hf : cells + mc ≤ R.cells ∧ slots + ms ≤ R.slots) :
    vx_Run p l e R s m args below meth c H locs cells slots mc ms g rest (Qc As.toArray) XC free := by
  obtain ⟨⟨hrc, hrs, hfr, hlo, hws, hcw⟩, hcode, hini, hy, hlen, hl, hstt⟩ := cw
  have hK : vx_Back l R p e below s args y 3 8 (PreOf R mc ms Pc) (PostOf Qc mc ms free) (vx_Post XC mc ms free) := vx_backW (hh := hh) (bytes := bytes) (maxL := maxL) (ret := ret) hM hp.1 hrc hrs hfr hlo hws hcw (fun a' U hW => word_at hW (Or.inl (by first | rfl | simp [Cond.onTables, Cond.keeps, Cond.steady])) hini)
  obtain ⟨hx, hb, hml, ho, -⟩ := S
  intro T hT X
  rcases vx_callSX X hx (hh := hh) (bytes := bytes) (maxL := maxL) (ret := ret) ho hl hstt hini hcode hy hK hg (hsize.trans hml.symm) (argsL := As) (rest := rest) (fun sig h => hn.trans (hlen sig h)) hstack hW (by rw [hb]; exact hdg)
    (fun vm₁ hW₁ => ⟨hf.1, hf.2, hp.2 (T.setVm vm₁) hT hW₁⟩) with ⟨v, vm₁, ⟨U', l2, c2, s2⟩, hW₁, X', ⟨g', mk, t, L, e1, e2, hq, h1, hL, h2, h3⟩, st⟩ | ⟨q, vm₁, ⟨U', l2, c2, s2⟩, hW₁, X', ⟨g', mk, t, L, E, ce, e1, e2, hq, hce, hcv, hcl, h1, hL, h2, h3⟩, st⟩
  · dsimp only [Pt.U, Pt.locs, Pt.cells, Pt.slots] at X' e1 e2 h1 h2 h3 st
    subst h1; subst h2; subst h3
    exact Or.inl ⟨v, (T.setVm vm₁).calling g' mk As.toArray, t, U', L, hT, X', hL, e1, e2, hq, st⟩
  · dsimp only [Pt.U, Pt.locs, Pt.cells, Pt.slots] at X' e1 e2 h1 h2 h3 st hcl
    subst h1; subst h2; subst h3
    exact Or.inr ⟨q, (T.setVm vm₁).calling g' mk As.toArray, t, U', L, E, ce, hT, X', hL, e1, e2, hq, hce, hcv, vx_cls hW₁ hcl, st⟩
end
end VXH
theorem vx_ofWH {l : Launch} {y : MethodName} {ws ws' : List Cond} {rm : Room} {Pc : Array Value → State → Prop} {Qc : Array Value → State → Outcome → State → Prop} {XC : String → State → State → Prop} {mc ms : Nat} {free : Addr → Prop} {cc : ByteArray} {maxL : Nat} {ret : Option FieldType} {hh : List (Nat × Nat × Nat × Nat)}
    (hy : plainName y.cls = true) (hw : ws = Cond.codeWith y cc maxL ret hh :: ws')
    (body : ∀ p e s m args below meth c s₁, BodyLoose p l y (headSpec ws rm) cc maxL ret e s m args below meth c s₁ → c.maxLocals = maxL → Pc args s →
      W p l e (headSpec ws rm).room s m args below meth c s.heap [] 0 0 (vx_MQ below Qc XC args s mc ms free) (entryFrame m args maxL)) : vx_Met l y ws rm Pc Qc XC mc ms free := by
  refine MetFree.of_bodyS (code := cc) (maxLocals := maxL) (ret := ret) hy ?_ ?_
  · intro args s m h hn
    obtain ⟨m9, meth, c, hn9, h1, h2, h3, h4, -, h5, h6, -⟩ := Cond.codeWith_spec (atoms_spec (ws := ws) h _ (by rw [hw]; exact List.mem_cons_self))
    cases hn.symm.trans hn9
    exact ⟨meth, c, h1, h2, h3, h4, h5, h6⟩
  · intro p e s m args below meth c s₁ B hml hP _
    have hh0 : s₁.heap = s.heap := by rw [B.state]; rfl
    obtain ⟨t, a1, o, b1, b2, b3⟩ := body p e s m args below meth c s₁ B hml hP s₁ hh0 (Stand.of_body B)
    exact ⟨t, o, a1, b1, b2, b3⟩
/-! ===== END ===== -/

/-! ===== BEGIN what the machine throws by itself, no traces kept ===== -/
section VXM
set_option maxHeartbeats 1000000 in
/-- the machine throws cls with the message text, no traces kept: from its note over the frame g to 'throwing' over the same frame (follows the proofs of Stand.vmThrowsMessage, Shelf/KitTracedVmS.lean, and Stand.throwsMessageColdBareV, StandMessageColdV.lean, without the step out of the frame) -/
theorem vx_vmAt {p : Program} {l : Launch} {e : Env} {R : Room} {s : State} {m₀ : MethodId} {args : Array Value} {below : List Frame} {meth : Method} {c : Code} {W : State} {locs : List Loc} {cells slots : Nat}
    (X : Stand p l e R s m₀ args below meth c W locs cells slots) (hexec : p.tables.exec = Jvm.exec) (htr : e.platform.stackTraces = false) {cls : String} {names : List String} {text : String}
    (hcls : Bundle.fit cls = true) (hnames : ∀ n ∈ names, Bundle.fit n = true) (hsoe : (cls == "java/lang/StackOverflowError") = false) (hoom : (cls == "java/lang/OutOfMemoryError") = false)
    (h : ∀ a ∈ Bundle.messageArmAtoms cls names, a.before args s = true)
    (hlocs : ∀ x ∈ locs, ∀ cell, s.heap[x.base]? = some cell → cell.vm.isStatics = false)
    (htext : (text == notModelled) = false) (hlimit : ¬ (stringBytes (stringToUtf16 text)).size > e.platform.arrayLengthLimit) (hheap : ¬ (stringBytes (stringToUtf16 text)).size * componentBytes .byte > e.platform.maxHeapBytes)
    {g : JFrame} (hg : g.method = m₀) (hsize : g.locals.size = c.maxLocals)
    (hRframes : names.length + 4 < R.frames) (hRlocals : 2 * g.monitorRoom + (g.stack.map fun v => v.category).sum + 10240 ≤ R.locals) (hshort : 13 * names.length + 55 ≤ 10240)
    (hRcells : cells + 3 ≤ R.cells) (hRslots : slots + ((stringBytes (stringToUtf16 text)).size + 4 + 6) ≤ R.slots) (hlocks : meth.locks = false) :
    ∃ (S : State) (q : Addr) (ce : Cell), (∀ target, Steps p.tables e below ((S.setTop g).pushFrame (.throwing q)) target → Steps p.tables e below ((W.setTop g).pushFrame (.throwNew cls (some text) none)) target) ∧
      Stand p l e R s m₀ args below meth c S locs (cells + 3) (slots + ((stringBytes (stringToUtf16 text)).size + 4 + 6)) ∧ S.heap[q]? = some ce ∧ s.vm.findClass cls = some ce.cls ∧ ce.vm = .none := by
  have howns : e.platform.frameOwnsMonitors = true := by rw [X.admits.platform]
  have hfin : e.platform.finalization = false := by rw [X.admits.platform]
  have hpl : e.platform.magicAccessors = ({} : Platform).magicAccessors := by rw [X.admits.platform]
  have a : ∀ x, x ∈ Bundle.messageArmAtoms cls names → x.holds args s none s [] = true := fun x hx => h x hx
  obtain ⟨T, Z0, L, -, Y⟩ := ThrowableC.of_atoms (args := args) howns hfin hpl (fun x hx => h x (by simp [Bundle.messageArmAtoms, hx]))
  obtain ⟨Z, M, LZ, LM, hnZ⟩ := Init0T.ofS_atoms (args := args) hpl L Y (fun x hx => h x (by simp [Bundle.messageArmAtoms, hx]))
  obtain ⟨P1, Ps, hlen, L1, hL, hP1m, hlink1, hlink⟩ := Bundle.chainS (args := args) hpl hnZ names cls hcls hnames (fun x hx => h x (by simp [Bundle.messageArmAtoms, hx]))
  obtain ⟨Zs, LZs, hn4, hfitv, hfitc⟩ := StringT.of_atoms (args := args) (fun x hx => h x (by simp [Bundle.messageArmAtoms, hx]))
  have hfound : s.vm.findClass cls = some P1.m.cls := findClass_of_methodNamed hP1m
  obtain ⟨c1, kX, hc1, hk, hord, -, -, hn6⟩ := Cond.instantiable_spec (a (.instantiable cls 6) (by simp [Bundle.messageArmAtoms]))
  cases Option.some.inj (hc1.symm.trans hfound)
  have hinit := Cond.initialized_spec hfound hk (a (.initialized cls) (by simp [Bundle.messageArmAtoms]))
  have hctor : kX.findMethod "<init>" "(Ljava/lang/String;)V" = some P1.m.idx := findMethod_of_methodNamed hP1m hk
  have hsel0 : selectMethod e.platform s.vm P1.m.cls T.fill0 = .method T.fill0 := by
    obtain ⟨c2, r2, m2, q1, q2, q3, q4, -⟩ := Cond.selects_spec (a (.selects cls Bundle.tFill0 Bundle.tFill0) (by simp [Bundle.messageArmAtoms]))
    cases Option.some.inj (q1.symm.trans hfound)
    cases Option.some.inj (q2.symm.trans (State.methodFound?_of_named Y.fill0 (by decide)))
    cases Option.some.inj (q3.symm.trans Y.fill0)
    rw [Launch.admits_selectMethod X.admits]; exact q4
  have hselF : selectMethod e.platform s.vm P1.m.cls T.fill = .method T.fill := by
    obtain ⟨c2, r2, m2, q1, q2, q3, q4, -⟩ := Cond.selects_spec (a (.selects cls Bundle.tFill Bundle.tFill) (by simp [Bundle.messageArmAtoms]))
    cases Option.some.inj (q1.symm.trans hfound)
    cases Option.some.inj (q2.symm.trans (State.methodFound?_of_named Y.fill (by decide)))
    cases Option.some.inj (q3.symm.trans Y.fill)
    rw [Launch.admits_selectMethod X.admits]; exact q4
  obtain ⟨cellS0, hcS0, hiss⟩ := Y.statics
  obtain ⟨u0, hu0⟩ := Cond.staticRefV Y.unassigned L.unassignedStatic L.statics hcS0 hiss (a (.isRef (.static Bundle.tN "UNASSIGNED_STACK" Bundle.steD)) (by simp [Bundle.messageArmAtoms]))
  obtain ⟨sen, hsen⟩ := Cond.staticRefV Y.sentinel L.sentinelStatic L.statics hcS0 hiss (a (.isRef (.static Bundle.tN "SUPPRESSED_SENTINEL" Bundle.listD)) (by simp [Bundle.messageArmAtoms]))
  obtain ⟨ci198, i198, fB, hk198, hg198, ha198, hsB, -, hnB, htB, hffB⟩ := Cond.ownField (t := .object "java/lang/Object") Y.found L.cls (by decide +kernel) (a (.fieldLink Bundle.tN 198 Bundle.tN "backtrace" "Ljava/lang/Object;") (by simp [Bundle.messageArmAtoms])) (a (.lays Bundle.tN Bundle.tN "backtrace" "Ljava/lang/Object;") (by simp [Bundle.messageArmAtoms])) e.platform hpl
  obtain ⟨cellS, hcS', heS, -, hkeep⟩ := X.same.2.2.2.2.2 T.aS cellS0 hcS0
  have hcellS : W.heap[T.aS]? = some cellS := hcS'
  have hout' : ∀ i, (⟨T.aS, i⟩ : Loc) ∉ locs := fun i hmem => by
    have := hlocs _ hmem cellS0 hcS0
    rw [hiss] at this; cases this
  have hknownS : cellS.vm ≠ .unknown := by
    rw [heS]; intro hu
    rw [show cellS0.vm = .unknown from hu] at hiss
    cases hiss
  have hvU : cellS.slots[T.fUnassigned.slot]? = some u0.v := by rw [hkeep _ (hout' _)]; exact hu0
  have hvSen : cellS.slots[T.fSentinel.slot]? = some sen.v := by rw [hkeep _ (hout' _)]; exact hsen
  obtain ⟨iM, hffM⟩ := Y.msg
  obtain ⟨tyC, dC, hdC, hdnC⟩ := Cond.laysAt hfound hk Y.cause (a (.lays cls Bundle.tN "cause" "Ljava/lang/Throwable;") (by simp [Bundle.messageArmAtoms]))
  obtain ⟨tyS, dS, hdS, hdnS⟩ := Cond.laysAt hfound hk Y.stack (a (.lays cls Bundle.tN "stackTrace" Bundle.steD) (by simp [Bundle.messageArmAtoms]))
  obtain ⟨tyP, dP, hdP, hdnP⟩ := Cond.laysAt hfound hk Y.supp (a (.lays cls Bundle.tN "suppressedExceptions" Bundle.listD) (by simp [Bundle.messageArmAtoms]))
  obtain ⟨tyM, dM, hdM, hdnM⟩ := Cond.laysAt hfound hk hffM (a (.lays cls Bundle.tN "detailMessage" "Ljava/lang/String;") (by simp [Bundle.messageArmAtoms]))
  obtain ⟨tyB, dB, hdB, hdnB⟩ := Cond.laysAt hfound hk hffB (a (.lays cls Bundle.tN "backtrace" "Ljava/lang/Object;") (by simp [Bundle.messageArmAtoms]))
  have bC := Cond.laysApart hdB hdC hdnB hdnC (by rw [hnB, Y.causeName]; decide)
  have bS := Cond.laysApart hdB hdS hdnB hdnS (by rw [hnB, Y.stackName]; decide)
  have bP := Cond.laysApart hdB hdP hdnB hdnP (by rw [hnB, Y.suppName]; decide)
  have hbk : ((preparedCellV T.toThrowableT (freshCell P1.m.cls kX) (W.heap.size + 2) u0 sen).withEntry W.cur).slots[fB.slot]? = some .null := by
    have := fresh_default (c := P1.m.cls) tyB
    rw [htB] at this
    simpa [preparedCellV, Cell.setSlot, Cell.withEntry, Array.getElem?_setIfInBounds, bC, bS, bP, bC.symm, bS.symm, bP.symm, defaultValue] using this
  have tkC := Takes.of_laid (v := .ref (W.heap.size + 2)) hk hord tyC (by rw [Y.causeType]; rfl)
  have tkS := Takes.of_laid (v := u0.v) hk hord tyS (by rw [Y.stackType]; exact fits_refV_array _ u0)
  have tkP := Takes.of_laid (v := sen.v) hk hord tyP (by rw [Y.suppType]; exact fits_refV_object _ sen)
  have tkM := Takes.of_laid (v := .ref (W.heap.size + 1)) hk hord tyM (by rw [Y.msgType]; rfl)
  have hskip : SkipFacts T e.platform s (fun u => u) u0 ((preparedCellV T.toThrowableT (freshCell P1.m.cls kX) (W.heap.size + 2) u0 sen).withEntry W.cur) := ⟨{ ci198 := ci198, i198 := i198, fBack := fB }, ⟨hk198, hg198, ha198, hsB⟩, hbk, fun _ _ => rfl⟩
  have h0 : At W g.method c below := by rw [hg]; exact X.here
  obtain ⟨hbeyond, hfreeW⟩ := X.vmMayThrow hsize (.throwNew cls (some text) none) (fun f hf => by cases hf) rfl hRlocals
  have hfr' : W.frames.length + Ps.length + 4 < (e.platform.stackLimits W.me).1 := by have := X.framesAbove hRframes; omega
  have hwd' : (stackUse (.java g :: W.frames.tail)).2 + 13 * Ps.length + 55 ≤ (e.platform.stackLimits W.me).2 := by have := X.stackAbove hsize (K := 13 * Ps.length + 55) (by omega); omega
  have hslots : W.slotsUsed + (stringBytes (stringToUtf16 text)).size + Zs.kS.instanceTypes.size + kX.instanceTypes.size ≤ e.platform.maxSlots := by
    have := X.slotsAbove hRslots
    rw [hn4, hn6]
    omega
  obtain ⟨vm', hW', st⟩ := Steps.vmThrowsMessageColdByV p (s₀ := s) (S := W) (g := g) h0 hexec T L Z LZ M LM X.warmed (t := W.cur) rfl Zs LZs P1 L1 Ps hL hlink1 hlink hsoe hoom hfound hk hinit hord hctor
    (Launch.admits_hotImplicitExceptions X.admits) hbeyond hfreeW htext hlimit hheap (X.cellsAbove hRcells) hslots (hfitv _) (hfitc _)
    (Nn := fun u => u) heapOnly_id (fun _ _ => rfl) (fun _ => rfl) (fun u x y => setCell_twice _ _ _ _) (fun _ => Nat.le_refl _) (cN := ((preparedCellV T.toThrowableT (freshCell P1.m.cls kX) (W.heap.size + 2) u0 sen).withEntry W.cur))
    hsel0 hcellS hknownS hvU tkS (fun _ hu => hu) (fun _ hu => hu) rfl rfl rfl (by simp [preparedCellV, Cell.setSlot, Cell.withEntry]) hskip (fun _ _ hA hW _ hroom _ hrest => L.nativeOff p htr hA hW hroom hrest) hselF hvSen tkC tkP tkM Y.objLocals rfl hfr' hwd'
  rw [plainBareV_eq T.toThrowableT (W.heap.size + 2) u0 sen (.ref (W.heap.size + 1)) W.cur rfl rfl] at st
  obtain ⟨-, -, w3, w4, -, -, -⟩ := withThrown_facts e.platform W Zs text P1.m.cls kX
  have X3 := ((X.pushed (bytesOf Zs.cB (stringToUtf16 text))).pushed (stringAt Zs.cS Zs.kS Zs.fv Zs.fc (stringToUtf16 text) W.heap.size)).pushed (freshCell P1.m.cls kX)
  rw [← withString_eq] at X3
  have X4 := X3.noted hW'
  have ha : (W.heap.size + 2) < ((withThrown W Zs text P1.m.cls kX).setVm vm').heap.size := by show _ < (withThrown W Zs text P1.m.cls kX).heap.size; rw [w3]; omega
  have hcell : ((withThrown W Zs text P1.m.cls kX).setVm vm').heap[(W.heap.size + 2)]? = some (freshCell P1.m.cls kX) := w4
  have X5 := ((((X4.stored hcell T.fCause.slot (.ref (W.heap.size + 2))).storedAgain ha T.fStack.slot u0.v).storedAgain ha T.fSupp.slot sen.v).storedAgain ha T.fStack.slot u0.v).storedAgain ha T.fMsg.slot (.ref (W.heap.size + 1))
  obtain ⟨g₁, hfrM⟩ := X5.frames_eq
  have hU : ((((withThrown W Zs text P1.m.cls kX).setVm vm').setCell (W.heap.size + 2) (plainBareV T.toThrowableT (freshCell P1.m.cls kX) (W.heap.size + 2) u0 sen (.ref (W.heap.size + 1)))).setTop g).pushFrame (.throwing (W.heap.size + 2)) = (((withThrown W Zs text P1.m.cls kX).setVm vm').setCell (W.heap.size + 2) (plainBareV T.toThrowableT (freshCell P1.m.cls kX) (W.heap.size + 2) u0 sen (.ref (W.heap.size + 1)))).setFrames (.throwing (W.heap.size + 2) :: .java g :: below) := by
    rw [State.pushFrame, State.frames_setTop _ hfrM, State.setTop_of_frames _ hfrM, State.setFrames_setFrames]
  have b1 : (bytesOf Zs.cB (stringToUtf16 text)).slots.size = (stringBytes (stringToUtf16 text)).size := by
    rw [(Cell.writeAll_facts _ _).2.2]; simp [bytes0]
  have b2 : (stringAt Zs.cS Zs.kS Zs.fv Zs.fc (stringToUtf16 text) W.heap.size).slots.size = 4 := by simp [string0, Cell.setSlot, hn4]
  have b3 : (freshCell P1.m.cls kX).slots.size = 6 := by simp [hn6]
  rw [b1, b2, b3] at X5
  have e9 : slots + (stringBytes (stringToUtf16 text)).size + 4 + 6 = slots + ((stringBytes (stringToUtf16 text)).size + 4 + 6) := by omega
  rw [e9] at X5
  simp only [List.append_assoc, List.cons_append, List.nil_append] at X5
  refine ⟨((withThrown W Zs text P1.m.cls kX).setVm vm').setCell (W.heap.size + 2) (plainBareV T.toThrowableT (freshCell P1.m.cls kX) (W.heap.size + 2) u0 sen (.ref (W.heap.size + 1))), W.heap.size + 2, _, fun target ht => st _ (by rw [X.tail, ← hU]; exact ht),
    X5.forget (fun y hy => ?_), heapAt_setCell_self _ ha, hfound, rfl⟩
  simp only [List.mem_cons, List.not_mem_nil, or_false] at hy
  have hge : s.heap.size ≤ W.heap.size := X.same.2.1
  rcases hy with rfl | rfl | rfl | rfl | rfl <;> exact Nat.le_trans hge (Nat.le_add_right _ 2)
set_option maxHeartbeats 1000000 in
/-- the machine throws NullPointerException, no traces kept: from its note over the frame g to 'throwing' over the same frame (follows the proof of Stand.vmThrowsNpe, Shelf42/KT2.lean; throwsNpeColdBareVAt, Shelf42/NT91.lean, called) -/
theorem vx_npeAt {p : Program} {l : Launch} {e : Env} {R : Room} {s : State} {m₀ : MethodId} {args : Array Value} {below : List Frame} {meth : Method} {c : Code} {W : State} {locs : List Loc} {cells slots : Nat}
    (X : Stand p l e R s m₀ args below meth c W locs cells slots) (hexec : p.tables.exec = Jvm.exec) (htr : e.platform.stackTraces = false) {n : Nat}
    (h : ∀ a ∈ Bundle.npeArmAtoms n, a.before args s = true)
    (hlocs : ∀ x ∈ locs, ∀ cell, s.heap[x.base]? = some cell → cell.vm.isStatics = false)
    {g : JFrame} (hg : g.method = m₀) (hsize : g.locals.size = c.maxLocals)
    (hRframes : 7 < R.frames) (hRlocals : 2 * g.monitorRoom + (g.stack.map fun v => v.category).sum + 10240 ≤ R.locals)
    (hRcells : cells + 1 ≤ R.cells) (hRslots : slots + n ≤ R.slots) (hlocks : meth.locks = false) :
    ∃ (S : State) (q : Addr) (ce : Cell), (∀ target, Steps p.tables e below ((S.setTop g).pushFrame (.throwing q)) target → Steps p.tables e below ((W.setTop g).pushFrame (.throwNew "java/lang/NullPointerException" none none)) target) ∧
      Stand p l e R s m₀ args below meth c S locs (cells + 1) (slots + n) ∧ S.heap[q]? = some ce ∧ s.vm.findClass "java/lang/NullPointerException" = some ce.cls ∧ ce.vm = .none := by
  have howns : e.platform.frameOwnsMonitors = true := by rw [X.admits.platform]
  have hfin : e.platform.finalization = false := by rw [X.admits.platform]
  have hpl : e.platform.magicAccessors = ({} : Platform).magicAccessors := by rw [X.admits.platform]
  have hpl2 : e.platform.arrayCloneIsPublic = true := by rw [X.admits.platform]
  have a' : ∀ x, x ∈ Bundle.npeArmAtoms n → x.holds args s none s [] = true := fun x hx => h x hx
  obtain ⟨T, Z, L, LZ, Y⟩ := ThrowableC.of_atoms (args := args) howns hfin hpl (fun x hx => h x (by simp [Bundle.npeArmAtoms, hx]))
  obtain ⟨N, LN, hcN, hnNF, hordN, hffS⟩ := NpeC.of_atoms (args := args) hpl hpl2 L Y (fun x hx => h x (by simp [Bundle.npeArmAtoms, hx]))
  obtain ⟨P1, L1, hP1m, hP1s⟩ := PassC.of_atoms (args := args) (s := s) hpl (X := Bundle.nN) (Y := Bundle.rN) (by decide) (by decide) LibCode.NullPointerException.Init0.at_0 LibCode.NullPointerException.Init0.at_1 LibCode.NullPointerException.Init0.at_4 (fun x hx => h x (by simp [Bundle.npeArmAtoms, hx]))
  obtain ⟨PR, LR, hPRm, hPRs⟩ := PassC.of_atoms (args := args) (s := s) hpl (X := Bundle.rN) (Y := Bundle.eN) (by decide) (by decide) LibCode.RuntimeException.Init0.at_0 LibCode.RuntimeException.Init0.at_1 LibCode.RuntimeException.Init0.at_4 (fun x hx => h x (by simp [Bundle.npeArmAtoms, hx]))
  obtain ⟨PE, LEx, hPEm, hPEs⟩ := PassC.of_atoms (args := args) (s := s) hpl (X := Bundle.eN) (Y := Bundle.tN) (by decide) (by decide) LibCode.Exception.Init0.at_0 LibCode.Exception.Init0.at_1 LibCode.Exception.Init0.at_4 (fun x hx => h x (by simp [Bundle.npeArmAtoms, hx]))
  have hfound : s.vm.findClass Bundle.nN = some P1.m.cls := findClass_of_methodNamed hP1m
  have ecls : N.cN = P1.m.cls := Option.some.inj (hcN.symm.trans hfound)
  have hk : s.vm.classes[P1.m.cls]? = some N.kN := by rw [← ecls]; exact LN.cls
  have hinit := Cond.initialized_spec hfound hk (a' (.initialized Bundle.nN) (by simp [Bundle.npeArmAtoms]))
  have hctor : N.kN.findMethod "<init>" "()V" = some P1.m.idx := findMethod_of_methodNamed hP1m hk
  obtain ⟨c1, k1, hc1, hk1, -, -, -, hn⟩ := Cond.instantiable_spec (a' (.instantiable Bundle.nN n) (by simp [Bundle.npeArmAtoms]))
  cases Option.some.inj (hc1.symm.trans hfound)
  cases Option.some.inj (hk1.symm.trans hk)
  have hfsz : (freshCell P1.m.cls N.kN).slots.size = n := by simp [hn]
  have hlink1 : P1.sup = PR.m := Option.some.inj (hP1s.symm.trans hPRm)
  have hlinkR : PR.sup = PE.m := Option.some.inj (hPRs.symm.trans hPEm)
  have hlinkE : PE.sup = Z.m T.toThrowableT := Option.some.inj (hPEs.symm.trans Y.init0)
  have hLs : ∀ P, P ∈ [PR, PE] → P.Links0 e.platform s := fun P hP => by
    simp only [List.mem_cons, List.not_mem_nil, or_false] at hP
    rcases hP with rfl | rfl
    · exact LR
    · exact LEx
  have hsel0 : selectMethod e.platform s.vm P1.m.cls T.fill0 = .method T.fill0 := by
    obtain ⟨c2, r2, m2, q1, q2, q3, q4, -⟩ := Cond.selects_spec (a' (.selects Bundle.nN Bundle.tFill0 Bundle.tFill0) (by simp [Bundle.npeArmAtoms]))
    cases Option.some.inj (q1.symm.trans hfound)
    cases Option.some.inj (q2.symm.trans (State.methodFound?_of_named Y.fill0 (by decide)))
    cases Option.some.inj (q3.symm.trans Y.fill0)
    rw [Launch.admits_selectMethod X.admits]; exact q4
  have hselF : selectMethod e.platform s.vm P1.m.cls T.fill = .method N.fill := by
    obtain ⟨c2, r2, m2, q1, q2, q3, q4, -⟩ := Cond.selects_spec (a' (.selects Bundle.nN Bundle.tFill Bundle.nFill) (by simp [Bundle.npeArmAtoms]))
    cases Option.some.inj (q1.symm.trans hfound)
    cases Option.some.inj (q2.symm.trans (State.methodFound?_of_named Y.fill (by decide)))
    cases Option.some.inj (q3.symm.trans hnNF)
    rw [Launch.admits_selectMethod X.admits]; exact q4
  obtain ⟨cellS0, hcS0, hiss⟩ := Y.statics
  obtain ⟨u0, hu0⟩ := Cond.staticRefV Y.unassigned L.unassignedStatic L.statics hcS0 hiss (a' (.isRef (.static Bundle.tN "UNASSIGNED_STACK" Bundle.steD)) (by simp [Bundle.npeArmAtoms]))
  obtain ⟨sen, hsen⟩ := Cond.staticRefV Y.sentinel L.sentinelStatic L.statics hcS0 hiss (a' (.isRef (.static Bundle.tN "SUPPRESSED_SENTINEL" Bundle.listD)) (by simp [Bundle.npeArmAtoms]))
  obtain ⟨ci198, i198, fB, hk198, hg198, ha198, hsB, -, hnB, htB, hffB⟩ := Cond.ownField (t := .object "java/lang/Object") Y.found L.cls (by decide +kernel) (a' (.fieldLink Bundle.tN 198 Bundle.tN "backtrace" Bundle.objD) (by simp [Bundle.npeArmAtoms])) (a' (.lays Bundle.tN Bundle.tN "backtrace" Bundle.objD) (by simp [Bundle.npeArmAtoms])) e.platform hpl
  obtain ⟨cellS, hcS', heS, -, hkeep⟩ := X.same.2.2.2.2.2 T.aS cellS0 hcS0
  have hcellS : W.heap[T.aS]? = some cellS := hcS'
  have hout' : ∀ i, (⟨T.aS, i⟩ : Loc) ∉ locs := fun i hmem => by
    have := hlocs _ hmem cellS0 hcS0
    rw [hiss] at this; cases this
  have hknownS : cellS.vm ≠ .unknown := by
    rw [heS]; intro hu
    rw [show cellS0.vm = .unknown from hu] at hiss
    cases hiss
  have hvU : cellS.slots[T.fUnassigned.slot]? = some u0.v := by rw [hkeep _ (hout' _)]; exact hu0
  have hvSen : cellS.slots[T.fSentinel.slot]? = some sen.v := by rw [hkeep _ (hout' _)]; exact hsen
  obtain ⟨tyC, dC, hdC, hdnC⟩ := Cond.laysAt hfound hk Y.cause (a' (.lays Bundle.nN Bundle.tN "cause" "Ljava/lang/Throwable;") (by simp [Bundle.npeArmAtoms]))
  obtain ⟨tyS, dS, hdS, hdnS⟩ := Cond.laysAt hfound hk Y.stack (a' (.lays Bundle.nN Bundle.tN "stackTrace" Bundle.steD) (by simp [Bundle.npeArmAtoms]))
  obtain ⟨tyP, dP, hdP, hdnP⟩ := Cond.laysAt hfound hk Y.supp (a' (.lays Bundle.nN Bundle.tN "suppressedExceptions" Bundle.listD) (by simp [Bundle.npeArmAtoms]))
  obtain ⟨tyX, dX, hdX, hdnX⟩ := Cond.laysAt hfound hk hffS (a' (.lays Bundle.nN Bundle.nN "extendedMessageState" "I") (by simp [Bundle.npeArmAtoms, Bundle.npeAtoms]))
  obtain ⟨hnX, htX⟩ := State.fieldFound?_type hffS (t := .int) (by decide +kernel)
  have xC := Cond.laysApart hdC hdX hdnC hdnX (by rw [hnX, Y.causeName]; decide)
  have xS := Cond.laysApart hdS hdX hdnS hdnX (by rw [hnX, Y.stackName]; decide)
  have xP := Cond.laysApart hdP hdX hdnP hdnX (by rw [hnX, Y.suppName]; decide)
  have hv0 : (freshCell P1.m.cls N.kN).slots[N.fState.slot]? = some (.int 0) := by
    have := fresh_default (c := P1.m.cls) tyX
    rw [htX] at this; exact this
  obtain ⟨tyB, dB, hdB, hdnB⟩ := Cond.laysAt hfound hk hffB (a' (.lays Bundle.nN Bundle.tN "backtrace" Bundle.objD) (by simp [Bundle.npeArmAtoms]))
  have bC := Cond.laysApart hdB hdC hdnB hdnC (by rw [hnB, Y.causeName]; decide)
  have bS := Cond.laysApart hdB hdS hdnB hdnS (by rw [hnB, Y.stackName]; decide)
  have bP := Cond.laysApart hdB hdP hdnB hdnP (by rw [hnB, Y.suppName]; decide)
  have bX := Cond.laysApart hdB hdX hdnB hdnX (by rw [hnB, hnX]; decide)
  have hbk : ((npeCell N.toNpeT (preparedCellV T.toThrowableT (freshCell P1.m.cls N.kN) W.heap.size u0 sen) W.cur).withEntry W.cur).slots[fB.slot]? = some .null := by
    have := fresh_default (c := P1.m.cls) tyB
    rw [htB] at this
    simpa [npeCell, preparedCellV, Cell.setSlot, Cell.withEntry, Array.getElem?_setIfInBounds, bC, bS, bP, bX, bC.symm, bS.symm, bP.symm, bX.symm, defaultValue] using this
  have tkC := Takes.of_laid (v := .ref W.heap.size) hk hordN tyC (by rw [Y.causeType]; rfl)
  have tkS := Takes.of_laid (v := u0.v) hk hordN tyS (by rw [Y.stackType]; exact fits_refV_array _ u0)
  have tkP := Takes.of_laid (v := sen.v) hk hordN tyP (by rw [Y.suppType]; exact fits_refV_object _ sen)
  have tkX := Takes.of_laid (v := .int 1) hk hordN tyX (by rw [htX]; rfl)
  have hskip : SkipFacts T e.platform s (fun u => u) u0 ((npeCell N.toNpeT (preparedCellV T.toThrowableT (freshCell P1.m.cls N.kN) W.heap.size u0 sen) W.cur).withEntry W.cur) := ⟨{ ci198 := ci198, i198 := i198, fBack := fB }, ⟨hk198, hg198, ha198, hsB⟩, hbk, fun _ _ => rfl⟩
  obtain ⟨vm', X3, st, -⟩ := X.throwsNpeColdBareVAt hexec hg hsize T L Z LZ N LN P1 L1 [PR, PE] hLs hlink1 ⟨hlinkR, hlinkE, trivial⟩ hfound hk hinit hordN hctor hsel0 hselF hcellS hknownS hvU hvSen
    hv0 xC xS xP tkC tkS tkP tkX Y.objLocals hskip (fun _ _ hA hW _ hroom _ hrest => L.nativeOff p htr hA hW hroom hrest) (by simpa using hRframes) hRlocals (by simp) hRcells (by rw [hn]; exact hRslots)
  have hlt : W.heap.size < ((W.pushCell (freshCell P1.m.cls N.kN)).setVm vm').heap.size := by
    show W.heap.size < (W.pushCell (freshCell P1.m.cls N.kN)).heap.size
    rw [State.heap_size_pushCell]; omega
  rw [hfsz] at X3
  obtain ⟨g₁, hfrM⟩ := X3.frames_eq
  have hU : ((((W.pushCell (freshCell P1.m.cls N.kN)).setVm vm').setCell W.heap.size (npeBareV T.toThrowableT N.toNpeT (freshCell P1.m.cls N.kN) W.heap.size u0 sen)).setTop g).pushFrame (.throwing W.heap.size) = (((W.pushCell (freshCell P1.m.cls N.kN)).setVm vm').setCell W.heap.size (npeBareV T.toThrowableT N.toNpeT (freshCell P1.m.cls N.kN) W.heap.size u0 sen)).setFrames (.throwing W.heap.size :: .java g :: below) := by
    rw [State.pushFrame, State.frames_setTop _ hfrM, State.setTop_of_frames _ hfrM, State.setFrames_setFrames]
  refine ⟨_, W.heap.size, _, fun target ht => st.trans (by rw [← hU]; exact ht), X3.forget (fun y hy => ?_), heapAt_setCell_self _ hlt, hfound, rfl⟩
  simp only [List.mem_cons, List.not_mem_nil, or_false] at hy
  have hge : s.heap.size ≤ W.heap.size := X.same.2.1
  rcases hy with rfl | rfl | rfl | rfl | rfl <;> exact hge
/-- the words of a machine's NullPointerException, but the four that speak of the heap -/
def vx_atN (n : Nat) : List Cond := (Bundle.npeArmAtoms n).filter vx_no
/-- the words of a machine's throw with a message, but the four that speak of the heap -/
def vx_atM (X : String) (names : List String) : List Cond := (Bundle.messageArmAtoms X names).filter vx_no
section
variable {p : Program} {l : Launch} {e : Env} {R : Room} {s : State} {m : MethodId} {args : Array Value} {below : List Frame} {meth : Method} {c : Code} {H : Heap} {locs : List Loc} {cells slots : Nat}
/-- a frame seen from a rebased start, seen from the first start again -/
theorem vx_back9 {T S : State} {R' : Room} {k n : Nat} (X : Stand p l e R s m args below meth c T locs cells slots) (Y : Stand p l e R' ((T.setVm s.vm).setFrames (.invoking m args :: below)) m args below meth c T [] 0 0) (Z : Stand p l e R' ((T.setVm s.vm).setFrames (.invoking m args :: below)) m args below meth c S [] k n) :
    Stand p l e R s m args below meth c S locs (cells + k) (slots + n) := by
  have hW0 : s.WarmedH ((T.setVm s.vm).setFrames (.invoking m args :: below)).vm := State.WarmedH.refl s
  refine { admits := X.admits, cas := X.cas, clock := X.clock, frames := X.frames, room := X.room, hears := X.hears, method := X.method, code := X.code, here := Z.here, tail := Z.tail, warmed := State.WarmedH.trans hW0 Z.warmed, limits := Z.limits.trans (Y.limits.symm.trans X.limits), bytes := Z.bytes.trans (Y.bytes.symm.trans X.bytes), same := ?_ }
  obtain ⟨e1, e2⟩ := Z.same
  rw [State.setFrames_setFrames] at e1
  have h2 : (T.setVm s.vm).sameButNew (S.setVm s.vm) [] k n := ⟨e1, e2⟩
  have h3 := X.same.trans h2
  rw [List.append_nil] at h3
  exact h3
/-- from the machine's note that E is thrown here with this text -/
def vx_Note (p : Program) (l : Launch) (e : Env) (R : Room) (s : State) (m : MethodId) (args : Array Value) (below : List Frame) (meth : Method) (c : Code) (H : Heap) (locs : List Loc) (cells slots : Nat) (Q : State → Prop) (g : JFrame) (E text : String) : Prop :=
  ∀ T : State, T.heap = H → Stand p l e R s m args below meth c T locs cells slots → ∃ t, Steps p.tables e below ((T.setTop g).pushFrame (.throwNew E (some text) none)) t ∧ Q t
theorem vx_vm {pc : Nat} {ls : Array Slot} {rest : List Value} {Q : State → Prop} (hexec : p.tables.exec = Jvm.exec) (hl : l.stackTraces = false) {cls text : String} {names : List String} {nb : Nat} {A : Nat → Prop}
    (hcls : Bundle.fit cls = true) (hnames : ∀ n ∈ names, Bundle.fit n = true) (hsoe : (cls == "java/lang/StackOverflowError") = false) (hoom : (cls == "java/lang/OutOfMemoryError") = false)
    (hat : ∀ w ∈ vx_atM cls names, w.before args s = true) (hgood : ∀ w ∈ vx_atM cls names, vx_ot w = true)
    (hU : vx_Zq Bundle.tN "UNASSIGNED_STACK" Bundle.steD A s s.heap) (hN : vx_Zq Bundle.tN "SUPPRESSED_SENTINEL" Bundle.listD A s s.heap) (hS : va_S A s.heap H locs) (hsize : ls.size = c.maxLocals)
    (htext : (text == notModelled) = false) (hnb : (stringBytes (stringToUtf16 text)).size ≤ nb) (hnb1 : nb ≤ 1000)
    (hRframes : names.length + 4 < R.frames) (hRlocals : (rest.map fun v => v.category).sum + 10240 ≤ R.locals) (hshort : 13 * names.length + 55 ≤ 10240) (hRcells : cells + 3 ≤ R.cells) (hRslots : slots + (nb + 10) ≤ R.slots) (hlocks : meth.locks = false)
    (k : ∀ (H1 : Heap) (q9 : Addr) (ce : Cell), H.size ≤ H1.size → (∀ q : Nat, q < H.size → H1[q]? = H[q]?) → va_S A s.heap H1 locs → H1[q9]? = some ce → ce.vm = .none → s.vm.findClass cls = some ce.cls → vx_W p l e R s m args below meth c H1 locs (cells + 3) (slots + (nb + 10)) Q (F0 m pc ls rest) q9) :
    vx_Note p l e R s m args below meth c H locs cells slots Q (F0 m pc ls rest) cls text := by
  intro T hT X
  have htr : e.platform.stackTraces = false := (show e.platform.stackTraces = l.stackTraces by rw [X.admits.platform]).trans hl
  have Y := vx_rebase X (R' := { frames := R.frames, locals := R.locals, cells := 3, slots := nb + 10 }) (Nat.le_refl _) (Nat.le_refl _) hRcells hRslots
  have hhp : ((T.setVm s.vm).setFrames (.invoking m args :: below)).heap = H := hT
  have hW0 : s.WarmedH ((T.setVm s.vm).setFrames (.invoking m args :: below)).vm := State.WarmedH.refl s
  have hat' : ∀ w ∈ vx_atM cls names, w.before args ((T.setVm s.vm).setFrames (.invoking m args :: below)) = true := fun w hw => vx_ot_at hW0 rfl (hgood w hw) (hat w hw)
  have hU' : vx_Zq Bundle.tN "UNASSIGNED_STACK" Bundle.steD A ((T.setVm s.vm).setFrames (.invoking m args :: below)) ((T.setVm s.vm).setFrames (.invoking m args :: below)).heap := by rw [hhp]; exact vx_Zq.moved hW0.alike (hU.kept hS.2.1)
  have hN' : vx_Zq Bundle.tN "SUPPRESSED_SENTINEL" Bundle.listD A ((T.setVm s.vm).setFrames (.invoking m args :: below)) ((T.setVm s.vm).setFrames (.invoking m args :: below)).heap := by rw [hhp]; exact vx_Zq.moved hW0.alike (hN.kept hS.2.1)
  obtain ⟨S, q, ce, st, Z, hce, hcl', hv⟩ := vx_vmAt Y hexec htr (cls := cls) (names := names) (text := text) hcls hnames hsoe hoom (vx_own hat' (vx_isRefq hU'.1) (vx_isRefq hN'.1) hU'.2.word hN'.2.word) (fun x hx => nomatch hx) htext
    (by rw [Launch.admits_arrayLengthLimit X.admits]; omega) (by rw [Launch.admits_maxHeapBytes X.admits]; simp only [componentBytes]; omega)
    (g := F0 m pc ls rest) rfl hsize hRframes (by show 2 * 0 + (rest.map fun v => v.category).sum + 10240 ≤ R.locals; omega) hshort (by show 0 + 3 ≤ 3; omega) (by show 0 + (_ + 4 + 6) ≤ nb + 10; omega) hlocks
  obtain ⟨f1, f2⟩ := vx_frame Z.same
  have f1' : H.size ≤ S.heap.size := by rw [← hT]; exact f1
  have f2' : ∀ q : Nat, q < H.size → S.heap[q]? = H[q]? := fun q hq => by
    rw [← hT]
    exact f2 q (by rw [← hT] at hq; exact hq) (fun z hz => nomatch hz)
  have X5 := vx_back9 X Y Z
  have X6 : Stand p l e R s m args below meth c S locs (cells + 3) (slots + (nb + 10)) := { X5 with same := X5.same.mono (by omega) (by omega) }
  obtain ⟨t, a1, b1⟩ := k S.heap q ce f1' f2' ⟨Nat.le_trans hS.1 f1', fun q h1 h2 => (f2' q (Nat.lt_of_lt_of_le h1 hS.1)).trans (hS.2.1 q h1 h2), hS.2.2⟩ hce hv hcl' S rfl X6
  exact ⟨t, st t a1, b1⟩
/-- from the machine's note that NullPointerException is thrown here -/
def vx_NoteN (p : Program) (l : Launch) (e : Env) (R : Room) (s : State) (m : MethodId) (args : Array Value) (below : List Frame) (meth : Method) (c : Code) (H : Heap) (locs : List Loc) (cells slots : Nat) (Q : State → Prop) (g : JFrame) : Prop :=
  ∀ T : State, T.heap = H → Stand p l e R s m args below meth c T locs cells slots → ∃ t, Steps p.tables e below ((T.setTop g).pushFrame (.throwNew "java/lang/NullPointerException" none none)) t ∧ Q t
theorem vx_npe {pc : Nat} {ls : Array Slot} {rest : List Value} {Q : State → Prop} (hexec : p.tables.exec = Jvm.exec) (hl : l.stackTraces = false) {nb : Nat} {A : Nat → Prop}
    (hat : ∀ w ∈ vx_atN nb, w.before args s = true) (hgood : ∀ w ∈ vx_atN nb, vx_ot w = true)
    (hU : vx_Zq Bundle.tN "UNASSIGNED_STACK" Bundle.steD A s s.heap) (hN : vx_Zq Bundle.tN "SUPPRESSED_SENTINEL" Bundle.listD A s s.heap) (hS : va_S A s.heap H locs) (hsize : ls.size = c.maxLocals)
    (hRframes : 7 < R.frames) (hRlocals : (rest.map fun v => v.category).sum + 10240 ≤ R.locals) (hRcells : cells + 1 ≤ R.cells) (hRslots : slots + nb ≤ R.slots) (hlocks : meth.locks = false)
    (k : ∀ (H1 : Heap) (q9 : Addr) (ce : Cell), H.size ≤ H1.size → (∀ q : Nat, q < H.size → H1[q]? = H[q]?) → va_S A s.heap H1 locs → H1[q9]? = some ce → ce.vm = .none → s.vm.findClass "java/lang/NullPointerException" = some ce.cls → vx_W p l e R s m args below meth c H1 locs (cells + 1) (slots + nb) Q (F0 m pc ls rest) q9) :
    vx_NoteN p l e R s m args below meth c H locs cells slots Q (F0 m pc ls rest) := by
  intro T hT X
  have htr : e.platform.stackTraces = false := (show e.platform.stackTraces = l.stackTraces by rw [X.admits.platform]).trans hl
  have Y := vx_rebase X (R' := { frames := R.frames, locals := R.locals, cells := 1, slots := nb }) (Nat.le_refl _) (Nat.le_refl _) hRcells hRslots
  have hhp : ((T.setVm s.vm).setFrames (.invoking m args :: below)).heap = H := hT
  have hW0 : s.WarmedH ((T.setVm s.vm).setFrames (.invoking m args :: below)).vm := State.WarmedH.refl s
  have hat' : ∀ w ∈ vx_atN nb, w.before args ((T.setVm s.vm).setFrames (.invoking m args :: below)) = true := fun w hw => vx_ot_at hW0 rfl (hgood w hw) (hat w hw)
  have hU' : vx_Zq Bundle.tN "UNASSIGNED_STACK" Bundle.steD A ((T.setVm s.vm).setFrames (.invoking m args :: below)) ((T.setVm s.vm).setFrames (.invoking m args :: below)).heap := by rw [hhp]; exact vx_Zq.moved hW0.alike (hU.kept hS.2.1)
  have hN' : vx_Zq Bundle.tN "SUPPRESSED_SENTINEL" Bundle.listD A ((T.setVm s.vm).setFrames (.invoking m args :: below)) ((T.setVm s.vm).setFrames (.invoking m args :: below)).heap := by rw [hhp]; exact vx_Zq.moved hW0.alike (hN.kept hS.2.1)
  obtain ⟨S, q, ce, st, Z, hce, hcl', hv⟩ := vx_npeAt Y hexec htr (n := nb) (vx_own hat' (vx_isRefq hU'.1) (vx_isRefq hN'.1) hU'.2.word hN'.2.word) (fun x hx => nomatch hx)
    (g := F0 m pc ls rest) rfl hsize hRframes (by show 2 * 0 + (rest.map fun v => v.category).sum + 10240 ≤ R.locals; omega) (by show 0 + 1 ≤ 1; omega) (by show 0 + nb ≤ nb; omega) hlocks
  obtain ⟨f1, f2⟩ := vx_frame Z.same
  have f1' : H.size ≤ S.heap.size := by rw [← hT]; exact f1
  have f2' : ∀ q : Nat, q < H.size → S.heap[q]? = H[q]? := fun q hq => by
    rw [← hT]
    exact f2 q (by rw [← hT] at hq; exact hq) (fun z hz => nomatch hz)
  have X5 := vx_back9 X Y Z
  have X6 : Stand p l e R s m args below meth c S locs (cells + 1) (slots + nb) := { X5 with same := X5.same.mono (by omega) (by omega) }
  obtain ⟨t, a1, b1⟩ := k S.heap q ce f1' f2' ⟨Nat.le_trans hS.1 f1', fun q h1 h2 => (f2' q (Nat.lt_of_lt_of_le h1 hS.1)).trans (hS.2.1 q h1 h2), hS.2.2⟩ hce hv hcl' S rfl X6
  exact ⟨t, st t a1, b1⟩
variable {Q : State → Prop} {cc : ByteArray} {pc : Nat} {ls : Array Slot} {rest : List Value}
theorem vx_idivZ (hexec : p.tables.exec = Jvm.exec) (hb : c.code = cc) {a b : Int32} (h0 : b = 0) (d : decode cc pc = .ok (.idiv, 1)) (k : vx_Note p l e R s m args below meth c H locs cells slots Q (F0 m pc ls rest) "java/lang/ArithmeticException" "/ by zero") :
    W p l e R s m args below meth c H locs cells slots Q (F0 m pc ls (.int b :: .int a :: rest)) := by
  intro T hT X
  obtain ⟨t, st, q⟩ := k T hT X
  exact ⟨t, X.idivZero hexec (g := F0 m pc ls (.int b :: .int a :: rest)) rfl (a := a) (rest := rest) (by rw [h0]) (by rw [hb]; exact d) t st, q⟩
theorem vx_iremZ (hexec : p.tables.exec = Jvm.exec) (hb : c.code = cc) {a b : Int32} (h0 : b = 0) (d : decode cc pc = .ok (.irem, 1)) (k : vx_Note p l e R s m args below meth c H locs cells slots Q (F0 m pc ls rest) "java/lang/ArithmeticException" "/ by zero") :
    W p l e R s m args below meth c H locs cells slots Q (F0 m pc ls (.int b :: .int a :: rest)) := by
  intro T hT X
  obtain ⟨t, st, q⟩ := k T hT X
  exact ⟨t, X.iremZero hexec (g := F0 m pc ls (.int b :: .int a :: rest)) rfl (a := a) (rest := rest) (by rw [h0]) (by rw [hb]; exact d) t st, q⟩
theorem vx_ldivZ (hexec : p.tables.exec = Jvm.exec) (hb : c.code = cc) {a b : Int64} (h0 : b = 0) (d : decode cc pc = .ok (.ldiv, 1)) (k : vx_Note p l e R s m args below meth c H locs cells slots Q (F0 m pc ls rest) "java/lang/ArithmeticException" "/ by zero") :
    W p l e R s m args below meth c H locs cells slots Q (F0 m pc ls (.long b :: .long a :: rest)) := by
  intro T hT X
  obtain ⟨t, st, q⟩ := k T hT X
  exact ⟨t, X.ldivZero hexec (g := F0 m pc ls (.long b :: .long a :: rest)) rfl (a := a) (rest := rest) (by rw [h0]) (by rw [hb]; exact d) t st, q⟩
theorem vx_lremZ (hexec : p.tables.exec = Jvm.exec) (hb : c.code = cc) {a b : Int64} (h0 : b = 0) (d : decode cc pc = .ok (.lrem, 1)) (k : vx_Note p l e R s m args below meth c H locs cells slots Q (F0 m pc ls rest) "java/lang/ArithmeticException" "/ by zero") :
    W p l e R s m args below meth c H locs cells slots Q (F0 m pc ls (.long b :: .long a :: rest)) := by
  intro T hT X
  obtain ⟨t, st, q⟩ := k T hT X
  exact ⟨t, X.lremZero hexec (g := F0 m pc ls (.long b :: .long a :: rest)) rfl (a := a) (rest := rest) (by rw [h0]) (by rw [hb]; exact d) t st, q⟩
theorem vx_ialdZ {D : va_G} {cl : List vw_C} {ws : va_W} {tys : List (ClassId × FieldType)} {a : Nat} (hexec : p.tables.exec = Jvm.exec) (hb : c.code = cc) (hK : va_K D cl tys s) (hP : va_P D cl ws H) (q0 t0 : Nat) {cA : ClassId} {n : Nat} {f : Nat → Int32} (ha : ws[q0]? = some (a, .inl (cA, n, .inl f))) (ht : tys[t0]? = some (cA, .int)) {i : Int32} (hout : ¬ vp_in i n) (hdg : decode cc pc = .ok (.iaload, 1))
    (k : ∀ tx : String, tx = (toString "Index " ++ toString i ++ toString " out of bounds for length " ++ toString n : String) → vx_Note p l e R s m args below meth c H locs cells slots Q (F0 m pc ls rest) "java/lang/ArrayIndexOutOfBoundsException" tx) : W p l e R s m args below meth c H locs cells slots Q (F0 m pc ls (.int i :: .ref a :: rest)) := by
  intro T hT X
  obtain ⟨t, st, q⟩ := k _ rfl T hT X
  refine ⟨t, ?_, q⟩
  have h1 := X.ialoadOut hexec (by rw [hT]; exact hP q0 _ ha) ((hK.2 t0 _ ht).1 n (fun j => .int (f j))) (j := i) (by show (i < 0 ∨ (arrV _ _ _).slots.size ≤ _); rw [arrV_size]; exact Classical.byContradiction hout) (g := F0 m pc ls (.int i :: .ref a :: rest)) rfl (rest := rest) rfl (by rw [hb]; exact hdg) t
  simp only [arrV_size] at h1
  exact h1 st
theorem vx_iastZ {D : va_G} {cl : List vw_C} {ws : va_W} {tys : List (ClassId × FieldType)} {a : Nat} (hexec : p.tables.exec = Jvm.exec) (hb : c.code = cc) (hK : va_K D cl tys s) (hP : va_P D cl ws H) (q0 t0 : Nat) {cA : ClassId} {n : Nat} {f : Nat → Int32} (ha : ws[q0]? = some (a, .inl (cA, n, .inl f))) (ht : tys[t0]? = some (cA, .int)) {i : Int32} {x : Int32} (hout : ¬ vp_in i n) (hdg : decode cc pc = .ok (.iastore, 1))
    (k : ∀ tx : String, tx = (toString "Index " ++ toString i ++ toString " out of bounds for length " ++ toString n : String) → vx_Note p l e R s m args below meth c H locs cells slots Q (F0 m pc ls rest) "java/lang/ArrayIndexOutOfBoundsException" tx) : W p l e R s m args below meth c H locs cells slots Q (F0 m pc ls (.int x :: .int i :: .ref a :: rest)) := by
  intro T hT X
  obtain ⟨t, st, q⟩ := k _ rfl T hT X
  refine ⟨t, ?_, q⟩
  have h1 := X.iastoreOut hexec (by rw [hT]; exact hP q0 _ ha) ((hK.2 t0 _ ht).1 n (fun j => .int (f j))) (j := i) (by show (i < 0 ∨ (arrV _ _ _).slots.size ≤ _); rw [arrV_size]; exact Classical.byContradiction hout) (g := F0 m pc ls (.int x :: .int i :: .ref a :: rest)) rfl (rest := rest) rfl (by rw [hb]; exact hdg) t
  simp only [arrV_size] at h1
  exact h1 st
theorem vx_baldZ {D : va_G} {cl : List vw_C} {ws : va_W} {tys : List (ClassId × FieldType)} {a : Nat} (hexec : p.tables.exec = Jvm.exec) (hb : c.code = cc) (hK : va_K D cl tys s) (hP : va_P D cl ws H) (q0 t0 : Nat) {cA : ClassId} {n : Nat} {f : Nat → Int32} (ha : ws[q0]? = some (a, .inl (cA, n, .inl f))) (ht : tys[t0]? = some (cA, .byte)) {i : Int32} (hout : ¬ vp_in i n) (hdg : decode cc pc = .ok (.baload, 1))
    (k : ∀ tx : String, tx = (toString "Index " ++ toString i ++ toString " out of bounds for length " ++ toString n : String) → vx_Note p l e R s m args below meth c H locs cells slots Q (F0 m pc ls rest) "java/lang/ArrayIndexOutOfBoundsException" tx) : W p l e R s m args below meth c H locs cells slots Q (F0 m pc ls (.int i :: .ref a :: rest)) := by
  intro T hT X
  obtain ⟨t, st, q⟩ := k _ rfl T hT X
  refine ⟨t, ?_, q⟩
  have h1 := X.baloadOut hexec (by rw [hT]; exact hP q0 _ ha) ((hK.2 t0 _ ht).1 n (fun j => .int (f j))) (j := i) (by show (i < 0 ∨ (arrV _ _ _).slots.size ≤ _); rw [arrV_size]; exact Classical.byContradiction hout) (g := F0 m pc ls (.int i :: .ref a :: rest)) rfl (rest := rest) rfl (by rw [hb]; exact hdg) t
  simp only [arrV_size] at h1
  exact h1 st
theorem vx_bastZ {D : va_G} {cl : List vw_C} {ws : va_W} {tys : List (ClassId × FieldType)} {a : Nat} (hexec : p.tables.exec = Jvm.exec) (hb : c.code = cc) (hK : va_K D cl tys s) (hP : va_P D cl ws H) (q0 t0 : Nat) {cA : ClassId} {n : Nat} {f : Nat → Int32} (ha : ws[q0]? = some (a, .inl (cA, n, .inl f))) (ht : tys[t0]? = some (cA, .byte)) {i : Int32} {x : Int32} (hout : ¬ vp_in i n) (hdg : decode cc pc = .ok (.bastore, 1))
    (k : ∀ tx : String, tx = (toString "Index " ++ toString i ++ toString " out of bounds for length " ++ toString n : String) → vx_Note p l e R s m args below meth c H locs cells slots Q (F0 m pc ls rest) "java/lang/ArrayIndexOutOfBoundsException" tx) : W p l e R s m args below meth c H locs cells slots Q (F0 m pc ls (.int x :: .int i :: .ref a :: rest)) := by
  intro T hT X
  obtain ⟨t, st, q⟩ := k _ rfl T hT X
  refine ⟨t, ?_, q⟩
  have h1 := X.bastoreOut hexec (by rw [hT]; exact hP q0 _ ha) ((hK.2 t0 _ ht).1 n (fun j => .int (f j))) (j := i) (by show (i < 0 ∨ (arrV _ _ _).slots.size ≤ _); rw [arrV_size]; exact Classical.byContradiction hout) (g := F0 m pc ls (.int x :: .int i :: .ref a :: rest)) rfl (rest := rest) rfl (by rw [hb]; exact hdg) t
  simp only [arrV_size] at h1
  exact h1 st
theorem vx_zaldZ {D : va_G} {cl : List vw_C} {ws : va_W} {tys : List (ClassId × FieldType)} {a : Nat} (hexec : p.tables.exec = Jvm.exec) (hb : c.code = cc) (hK : va_K D cl tys s) (hP : va_P D cl ws H) (q0 t0 : Nat) {cA : ClassId} {n : Nat} {f : Nat → Int32} (ha : ws[q0]? = some (a, .inl (cA, n, .inl f))) (ht : tys[t0]? = some (cA, .boolean)) {i : Int32} (hout : ¬ vp_in i n) (hdg : decode cc pc = .ok (.baload, 1))
    (k : ∀ tx : String, tx = (toString "Index " ++ toString i ++ toString " out of bounds for length " ++ toString n : String) → vx_Note p l e R s m args below meth c H locs cells slots Q (F0 m pc ls rest) "java/lang/ArrayIndexOutOfBoundsException" tx) : W p l e R s m args below meth c H locs cells slots Q (F0 m pc ls (.int i :: .ref a :: rest)) := by
  intro T hT X
  obtain ⟨t, st, q⟩ := k _ rfl T hT X
  refine ⟨t, ?_, q⟩
  have h1 := X.baloadOut hexec (by rw [hT]; exact hP q0 _ ha) ((hK.2 t0 _ ht).1 n (fun j => .int (f j))) (j := i) (by show (i < 0 ∨ (arrV _ _ _).slots.size ≤ _); rw [arrV_size]; exact Classical.byContradiction hout) (g := F0 m pc ls (.int i :: .ref a :: rest)) rfl (rest := rest) rfl (by rw [hb]; exact hdg) t
  simp only [arrV_size] at h1
  exact h1 st
theorem vx_zastZ {D : va_G} {cl : List vw_C} {ws : va_W} {tys : List (ClassId × FieldType)} {a : Nat} (hexec : p.tables.exec = Jvm.exec) (hb : c.code = cc) (hK : va_K D cl tys s) (hP : va_P D cl ws H) (q0 t0 : Nat) {cA : ClassId} {n : Nat} {f : Nat → Int32} (ha : ws[q0]? = some (a, .inl (cA, n, .inl f))) (ht : tys[t0]? = some (cA, .boolean)) {i : Int32} {x : Int32} (hout : ¬ vp_in i n) (hdg : decode cc pc = .ok (.bastore, 1))
    (k : ∀ tx : String, tx = (toString "Index " ++ toString i ++ toString " out of bounds for length " ++ toString n : String) → vx_Note p l e R s m args below meth c H locs cells slots Q (F0 m pc ls rest) "java/lang/ArrayIndexOutOfBoundsException" tx) : W p l e R s m args below meth c H locs cells slots Q (F0 m pc ls (.int x :: .int i :: .ref a :: rest)) := by
  intro T hT X
  obtain ⟨t, st, q⟩ := k _ rfl T hT X
  refine ⟨t, ?_, q⟩
  have h1 := X.bastoreOut hexec (by rw [hT]; exact hP q0 _ ha) ((hK.2 t0 _ ht).1 n (fun j => .int (f j))) (j := i) (by show (i < 0 ∨ (arrV _ _ _).slots.size ≤ _); rw [arrV_size]; exact Classical.byContradiction hout) (g := F0 m pc ls (.int x :: .int i :: .ref a :: rest)) rfl (rest := rest) rfl (by rw [hb]; exact hdg) t
  simp only [arrV_size] at h1
  exact h1 st
theorem vx_caldZ {D : va_G} {cl : List vw_C} {ws : va_W} {tys : List (ClassId × FieldType)} {a : Nat} (hexec : p.tables.exec = Jvm.exec) (hb : c.code = cc) (hK : va_K D cl tys s) (hP : va_P D cl ws H) (q0 t0 : Nat) {cA : ClassId} {n : Nat} {f : Nat → Int32} (ha : ws[q0]? = some (a, .inl (cA, n, .inl f))) (ht : tys[t0]? = some (cA, .char)) {i : Int32} (hout : ¬ vp_in i n) (hdg : decode cc pc = .ok (.caload, 1))
    (k : ∀ tx : String, tx = (toString "Index " ++ toString i ++ toString " out of bounds for length " ++ toString n : String) → vx_Note p l e R s m args below meth c H locs cells slots Q (F0 m pc ls rest) "java/lang/ArrayIndexOutOfBoundsException" tx) : W p l e R s m args below meth c H locs cells slots Q (F0 m pc ls (.int i :: .ref a :: rest)) := by
  intro T hT X
  obtain ⟨t, st, q⟩ := k _ rfl T hT X
  refine ⟨t, ?_, q⟩
  have h1 := X.caloadOut hexec (by rw [hT]; exact hP q0 _ ha) ((hK.2 t0 _ ht).1 n (fun j => .int (f j))) (j := i) (by show (i < 0 ∨ (arrV _ _ _).slots.size ≤ _); rw [arrV_size]; exact Classical.byContradiction hout) (g := F0 m pc ls (.int i :: .ref a :: rest)) rfl (rest := rest) rfl (by rw [hb]; exact hdg) t
  simp only [arrV_size] at h1
  exact h1 st
theorem vx_castZ {D : va_G} {cl : List vw_C} {ws : va_W} {tys : List (ClassId × FieldType)} {a : Nat} (hexec : p.tables.exec = Jvm.exec) (hb : c.code = cc) (hK : va_K D cl tys s) (hP : va_P D cl ws H) (q0 t0 : Nat) {cA : ClassId} {n : Nat} {f : Nat → Int32} (ha : ws[q0]? = some (a, .inl (cA, n, .inl f))) (ht : tys[t0]? = some (cA, .char)) {i : Int32} {x : Int32} (hout : ¬ vp_in i n) (hdg : decode cc pc = .ok (.castore, 1))
    (k : ∀ tx : String, tx = (toString "Index " ++ toString i ++ toString " out of bounds for length " ++ toString n : String) → vx_Note p l e R s m args below meth c H locs cells slots Q (F0 m pc ls rest) "java/lang/ArrayIndexOutOfBoundsException" tx) : W p l e R s m args below meth c H locs cells slots Q (F0 m pc ls (.int x :: .int i :: .ref a :: rest)) := by
  intro T hT X
  obtain ⟨t, st, q⟩ := k _ rfl T hT X
  refine ⟨t, ?_, q⟩
  have h1 := X.castoreOut hexec (by rw [hT]; exact hP q0 _ ha) ((hK.2 t0 _ ht).1 n (fun j => .int (f j))) (j := i) (by show (i < 0 ∨ (arrV _ _ _).slots.size ≤ _); rw [arrV_size]; exact Classical.byContradiction hout) (g := F0 m pc ls (.int x :: .int i :: .ref a :: rest)) rfl (rest := rest) rfl (by rw [hb]; exact hdg) t
  simp only [arrV_size] at h1
  exact h1 st
theorem vx_saldZ {D : va_G} {cl : List vw_C} {ws : va_W} {tys : List (ClassId × FieldType)} {a : Nat} (hexec : p.tables.exec = Jvm.exec) (hb : c.code = cc) (hK : va_K D cl tys s) (hP : va_P D cl ws H) (q0 t0 : Nat) {cA : ClassId} {n : Nat} {f : Nat → Int32} (ha : ws[q0]? = some (a, .inl (cA, n, .inl f))) (ht : tys[t0]? = some (cA, .short)) {i : Int32} (hout : ¬ vp_in i n) (hdg : decode cc pc = .ok (.saload, 1))
    (k : ∀ tx : String, tx = (toString "Index " ++ toString i ++ toString " out of bounds for length " ++ toString n : String) → vx_Note p l e R s m args below meth c H locs cells slots Q (F0 m pc ls rest) "java/lang/ArrayIndexOutOfBoundsException" tx) : W p l e R s m args below meth c H locs cells slots Q (F0 m pc ls (.int i :: .ref a :: rest)) := by
  intro T hT X
  obtain ⟨t, st, q⟩ := k _ rfl T hT X
  refine ⟨t, ?_, q⟩
  have h1 := X.saloadOut hexec (by rw [hT]; exact hP q0 _ ha) ((hK.2 t0 _ ht).1 n (fun j => .int (f j))) (j := i) (by show (i < 0 ∨ (arrV _ _ _).slots.size ≤ _); rw [arrV_size]; exact Classical.byContradiction hout) (g := F0 m pc ls (.int i :: .ref a :: rest)) rfl (rest := rest) rfl (by rw [hb]; exact hdg) t
  simp only [arrV_size] at h1
  exact h1 st
theorem vx_sastZ {D : va_G} {cl : List vw_C} {ws : va_W} {tys : List (ClassId × FieldType)} {a : Nat} (hexec : p.tables.exec = Jvm.exec) (hb : c.code = cc) (hK : va_K D cl tys s) (hP : va_P D cl ws H) (q0 t0 : Nat) {cA : ClassId} {n : Nat} {f : Nat → Int32} (ha : ws[q0]? = some (a, .inl (cA, n, .inl f))) (ht : tys[t0]? = some (cA, .short)) {i : Int32} {x : Int32} (hout : ¬ vp_in i n) (hdg : decode cc pc = .ok (.sastore, 1))
    (k : ∀ tx : String, tx = (toString "Index " ++ toString i ++ toString " out of bounds for length " ++ toString n : String) → vx_Note p l e R s m args below meth c H locs cells slots Q (F0 m pc ls rest) "java/lang/ArrayIndexOutOfBoundsException" tx) : W p l e R s m args below meth c H locs cells slots Q (F0 m pc ls (.int x :: .int i :: .ref a :: rest)) := by
  intro T hT X
  obtain ⟨t, st, q⟩ := k _ rfl T hT X
  refine ⟨t, ?_, q⟩
  have h1 := X.sastoreOut hexec (by rw [hT]; exact hP q0 _ ha) ((hK.2 t0 _ ht).1 n (fun j => .int (f j))) (j := i) (by show (i < 0 ∨ (arrV _ _ _).slots.size ≤ _); rw [arrV_size]; exact Classical.byContradiction hout) (g := F0 m pc ls (.int x :: .int i :: .ref a :: rest)) rfl (rest := rest) rfl (by rw [hb]; exact hdg) t
  simp only [arrV_size] at h1
  exact h1 st
theorem vx_laldZ {D : va_G} {cl : List vw_C} {ws : va_W} {tys : List (ClassId × FieldType)} {a : Nat} (hexec : p.tables.exec = Jvm.exec) (hb : c.code = cc) (hK : va_K D cl tys s) (hP : va_P D cl ws H) (q0 t0 : Nat) {cA : ClassId} {n : Nat} {f : Nat → Int64} (ha : ws[q0]? = some (a, .inl (cA, n, .inr (.inl f)))) (ht : tys[t0]? = some (cA, .long)) {i : Int32} (hout : ¬ vp_in i n) (hdg : decode cc pc = .ok (.laload, 1))
    (k : ∀ tx : String, tx = (toString "Index " ++ toString i ++ toString " out of bounds for length " ++ toString n : String) → vx_Note p l e R s m args below meth c H locs cells slots Q (F0 m pc ls rest) "java/lang/ArrayIndexOutOfBoundsException" tx) : W p l e R s m args below meth c H locs cells slots Q (F0 m pc ls (.int i :: .ref a :: rest)) := by
  intro T hT X
  obtain ⟨t, st, q⟩ := k _ rfl T hT X
  refine ⟨t, ?_, q⟩
  have h1 := X.laloadOut hexec (by rw [hT]; exact hP q0 _ ha) ((hK.2 t0 _ ht).1 n (fun j => .long (f j))) (j := i) (by show (i < 0 ∨ (arrV _ _ _).slots.size ≤ _); rw [arrV_size]; exact Classical.byContradiction hout) (g := F0 m pc ls (.int i :: .ref a :: rest)) rfl (rest := rest) rfl (by rw [hb]; exact hdg) t
  simp only [arrV_size] at h1
  exact h1 st
theorem vx_lastZ {D : va_G} {cl : List vw_C} {ws : va_W} {tys : List (ClassId × FieldType)} {a : Nat} (hexec : p.tables.exec = Jvm.exec) (hb : c.code = cc) (hK : va_K D cl tys s) (hP : va_P D cl ws H) (q0 t0 : Nat) {cA : ClassId} {n : Nat} {f : Nat → Int64} (ha : ws[q0]? = some (a, .inl (cA, n, .inr (.inl f)))) (ht : tys[t0]? = some (cA, .long)) {i : Int32} {x : Int64} (hout : ¬ vp_in i n) (hdg : decode cc pc = .ok (.lastore, 1))
    (k : ∀ tx : String, tx = (toString "Index " ++ toString i ++ toString " out of bounds for length " ++ toString n : String) → vx_Note p l e R s m args below meth c H locs cells slots Q (F0 m pc ls rest) "java/lang/ArrayIndexOutOfBoundsException" tx) : W p l e R s m args below meth c H locs cells slots Q (F0 m pc ls (.long x :: .int i :: .ref a :: rest)) := by
  intro T hT X
  obtain ⟨t, st, q⟩ := k _ rfl T hT X
  refine ⟨t, ?_, q⟩
  have h1 := X.lastoreOut hexec (by rw [hT]; exact hP q0 _ ha) ((hK.2 t0 _ ht).1 n (fun j => .long (f j))) (j := i) (by show (i < 0 ∨ (arrV _ _ _).slots.size ≤ _); rw [arrV_size]; exact Classical.byContradiction hout) (g := F0 m pc ls (.long x :: .int i :: .ref a :: rest)) rfl (rest := rest) rfl (by rw [hb]; exact hdg) t
  simp only [arrV_size] at h1
  exact h1 st
theorem vx_faldZ {D : va_G} {cl : List vw_C} {ws : va_W} {tys : List (ClassId × FieldType)} {a : Nat} (hexec : p.tables.exec = Jvm.exec) (hb : c.code = cc) (hK : va_K D cl tys s) (hP : va_P D cl ws H) (q0 t0 : Nat) {cA : ClassId} {n : Nat} {f : Nat → UInt32} (ha : ws[q0]? = some (a, .inl (cA, n, .inr (.inr (.inl f))))) (ht : tys[t0]? = some (cA, .float)) {i : Int32} (hout : ¬ vp_in i n) (hdg : decode cc pc = .ok (.faload, 1))
    (k : ∀ tx : String, tx = (toString "Index " ++ toString i ++ toString " out of bounds for length " ++ toString n : String) → vx_Note p l e R s m args below meth c H locs cells slots Q (F0 m pc ls rest) "java/lang/ArrayIndexOutOfBoundsException" tx) : W p l e R s m args below meth c H locs cells slots Q (F0 m pc ls (.int i :: .ref a :: rest)) := by
  intro T hT X
  obtain ⟨t, st, q⟩ := k _ rfl T hT X
  refine ⟨t, ?_, q⟩
  have h1 := X.faloadOut hexec (by rw [hT]; exact hP q0 _ ha) ((hK.2 t0 _ ht).1 n (fun j => .float (f j))) (j := i) (by show (i < 0 ∨ (arrV _ _ _).slots.size ≤ _); rw [arrV_size]; exact Classical.byContradiction hout) (g := F0 m pc ls (.int i :: .ref a :: rest)) rfl (rest := rest) rfl (by rw [hb]; exact hdg) t
  simp only [arrV_size] at h1
  exact h1 st
theorem vx_fastZ {D : va_G} {cl : List vw_C} {ws : va_W} {tys : List (ClassId × FieldType)} {a : Nat} (hexec : p.tables.exec = Jvm.exec) (hb : c.code = cc) (hK : va_K D cl tys s) (hP : va_P D cl ws H) (q0 t0 : Nat) {cA : ClassId} {n : Nat} {f : Nat → UInt32} (ha : ws[q0]? = some (a, .inl (cA, n, .inr (.inr (.inl f))))) (ht : tys[t0]? = some (cA, .float)) {i : Int32} {x : UInt32} (hout : ¬ vp_in i n) (hdg : decode cc pc = .ok (.fastore, 1))
    (k : ∀ tx : String, tx = (toString "Index " ++ toString i ++ toString " out of bounds for length " ++ toString n : String) → vx_Note p l e R s m args below meth c H locs cells slots Q (F0 m pc ls rest) "java/lang/ArrayIndexOutOfBoundsException" tx) : W p l e R s m args below meth c H locs cells slots Q (F0 m pc ls (.float x :: .int i :: .ref a :: rest)) := by
  intro T hT X
  obtain ⟨t, st, q⟩ := k _ rfl T hT X
  refine ⟨t, ?_, q⟩
  have h1 := X.fastoreOut hexec (by rw [hT]; exact hP q0 _ ha) ((hK.2 t0 _ ht).1 n (fun j => .float (f j))) (j := i) (by show (i < 0 ∨ (arrV _ _ _).slots.size ≤ _); rw [arrV_size]; exact Classical.byContradiction hout) (g := F0 m pc ls (.float x :: .int i :: .ref a :: rest)) rfl (rest := rest) rfl (by rw [hb]; exact hdg) t
  simp only [arrV_size] at h1
  exact h1 st
theorem vx_daldZ {D : va_G} {cl : List vw_C} {ws : va_W} {tys : List (ClassId × FieldType)} {a : Nat} (hexec : p.tables.exec = Jvm.exec) (hb : c.code = cc) (hK : va_K D cl tys s) (hP : va_P D cl ws H) (q0 t0 : Nat) {cA : ClassId} {n : Nat} {f : Nat → UInt64} (ha : ws[q0]? = some (a, .inl (cA, n, .inr (.inr (.inr (.inl f)))))) (ht : tys[t0]? = some (cA, .double)) {i : Int32} (hout : ¬ vp_in i n) (hdg : decode cc pc = .ok (.daload, 1))
    (k : ∀ tx : String, tx = (toString "Index " ++ toString i ++ toString " out of bounds for length " ++ toString n : String) → vx_Note p l e R s m args below meth c H locs cells slots Q (F0 m pc ls rest) "java/lang/ArrayIndexOutOfBoundsException" tx) : W p l e R s m args below meth c H locs cells slots Q (F0 m pc ls (.int i :: .ref a :: rest)) := by
  intro T hT X
  obtain ⟨t, st, q⟩ := k _ rfl T hT X
  refine ⟨t, ?_, q⟩
  have h1 := X.daloadOut hexec (by rw [hT]; exact hP q0 _ ha) ((hK.2 t0 _ ht).1 n (fun j => .double (f j))) (j := i) (by show (i < 0 ∨ (arrV _ _ _).slots.size ≤ _); rw [arrV_size]; exact Classical.byContradiction hout) (g := F0 m pc ls (.int i :: .ref a :: rest)) rfl (rest := rest) rfl (by rw [hb]; exact hdg) t
  simp only [arrV_size] at h1
  exact h1 st
theorem vx_dastZ {D : va_G} {cl : List vw_C} {ws : va_W} {tys : List (ClassId × FieldType)} {a : Nat} (hexec : p.tables.exec = Jvm.exec) (hb : c.code = cc) (hK : va_K D cl tys s) (hP : va_P D cl ws H) (q0 t0 : Nat) {cA : ClassId} {n : Nat} {f : Nat → UInt64} (ha : ws[q0]? = some (a, .inl (cA, n, .inr (.inr (.inr (.inl f)))))) (ht : tys[t0]? = some (cA, .double)) {i : Int32} {x : UInt64} (hout : ¬ vp_in i n) (hdg : decode cc pc = .ok (.dastore, 1))
    (k : ∀ tx : String, tx = (toString "Index " ++ toString i ++ toString " out of bounds for length " ++ toString n : String) → vx_Note p l e R s m args below meth c H locs cells slots Q (F0 m pc ls rest) "java/lang/ArrayIndexOutOfBoundsException" tx) : W p l e R s m args below meth c H locs cells slots Q (F0 m pc ls (.double x :: .int i :: .ref a :: rest)) := by
  intro T hT X
  obtain ⟨t, st, q⟩ := k _ rfl T hT X
  refine ⟨t, ?_, q⟩
  have h1 := X.dastoreOut hexec (by rw [hT]; exact hP q0 _ ha) ((hK.2 t0 _ ht).1 n (fun j => .double (f j))) (j := i) (by show (i < 0 ∨ (arrV _ _ _).slots.size ≤ _); rw [arrV_size]; exact Classical.byContradiction hout) (g := F0 m pc ls (.double x :: .int i :: .ref a :: rest)) rfl (rest := rest) rfl (by rw [hb]; exact hdg) t
  simp only [arrV_size] at h1
  exact h1 st
theorem vx_arraylengthN (hexec : p.tables.exec = Jvm.exec) (hb : c.code = cc) (hdg : decode cc pc = .ok (.arraylength, 1)) (k : vx_NoteN p l e R s m args below meth c H locs cells slots Q (F0 m pc ls rest)) : W p l e R s m args below meth c H locs cells slots Q (F0 m pc ls (.null :: rest)) := by
  intro T hT X
  obtain ⟨t, st, q⟩ := k T hT X
  exact ⟨t, X.arraylengthNull hexec (g := F0 m pc ls (.null :: rest)) rfl (rest := rest) rfl (by rw [hb]; exact hdg) t st, q⟩
theorem vx_ialoadN (hexec : p.tables.exec = Jvm.exec) (hb : c.code = cc) {i : Int32} (hdg : decode cc pc = .ok (.iaload, 1)) (k : vx_NoteN p l e R s m args below meth c H locs cells slots Q (F0 m pc ls rest)) : W p l e R s m args below meth c H locs cells slots Q (F0 m pc ls (.int i :: .null :: rest)) := by
  intro T hT X
  obtain ⟨t, st, q⟩ := k T hT X
  exact ⟨t, X.ialoadNull hexec (g := F0 m pc ls (.int i :: .null :: rest)) rfl (rest := rest) rfl (by rw [hb]; exact hdg) t st, q⟩
theorem vx_laloadN (hexec : p.tables.exec = Jvm.exec) (hb : c.code = cc) {i : Int32} (hdg : decode cc pc = .ok (.laload, 1)) (k : vx_NoteN p l e R s m args below meth c H locs cells slots Q (F0 m pc ls rest)) : W p l e R s m args below meth c H locs cells slots Q (F0 m pc ls (.int i :: .null :: rest)) := by
  intro T hT X
  obtain ⟨t, st, q⟩ := k T hT X
  exact ⟨t, X.laloadNull hexec (g := F0 m pc ls (.int i :: .null :: rest)) rfl (rest := rest) rfl (by rw [hb]; exact hdg) t st, q⟩
theorem vx_faloadN (hexec : p.tables.exec = Jvm.exec) (hb : c.code = cc) {i : Int32} (hdg : decode cc pc = .ok (.faload, 1)) (k : vx_NoteN p l e R s m args below meth c H locs cells slots Q (F0 m pc ls rest)) : W p l e R s m args below meth c H locs cells slots Q (F0 m pc ls (.int i :: .null :: rest)) := by
  intro T hT X
  obtain ⟨t, st, q⟩ := k T hT X
  exact ⟨t, X.faloadNull hexec (g := F0 m pc ls (.int i :: .null :: rest)) rfl (rest := rest) rfl (by rw [hb]; exact hdg) t st, q⟩
theorem vx_daloadN (hexec : p.tables.exec = Jvm.exec) (hb : c.code = cc) {i : Int32} (hdg : decode cc pc = .ok (.daload, 1)) (k : vx_NoteN p l e R s m args below meth c H locs cells slots Q (F0 m pc ls rest)) : W p l e R s m args below meth c H locs cells slots Q (F0 m pc ls (.int i :: .null :: rest)) := by
  intro T hT X
  obtain ⟨t, st, q⟩ := k T hT X
  exact ⟨t, X.daloadNull hexec (g := F0 m pc ls (.int i :: .null :: rest)) rfl (rest := rest) rfl (by rw [hb]; exact hdg) t st, q⟩
theorem vx_aaloadN (hexec : p.tables.exec = Jvm.exec) (hb : c.code = cc) {i : Int32} (hdg : decode cc pc = .ok (.aaload, 1)) (k : vx_NoteN p l e R s m args below meth c H locs cells slots Q (F0 m pc ls rest)) : W p l e R s m args below meth c H locs cells slots Q (F0 m pc ls (.int i :: .null :: rest)) := by
  intro T hT X
  obtain ⟨t, st, q⟩ := k T hT X
  exact ⟨t, X.aaloadNull hexec (g := F0 m pc ls (.int i :: .null :: rest)) rfl (rest := rest) rfl (by rw [hb]; exact hdg) t st, q⟩
theorem vx_baloadN (hexec : p.tables.exec = Jvm.exec) (hb : c.code = cc) {i : Int32} (hdg : decode cc pc = .ok (.baload, 1)) (k : vx_NoteN p l e R s m args below meth c H locs cells slots Q (F0 m pc ls rest)) : W p l e R s m args below meth c H locs cells slots Q (F0 m pc ls (.int i :: .null :: rest)) := by
  intro T hT X
  obtain ⟨t, st, q⟩ := k T hT X
  exact ⟨t, X.baloadNull hexec (g := F0 m pc ls (.int i :: .null :: rest)) rfl (rest := rest) rfl (by rw [hb]; exact hdg) t st, q⟩
theorem vx_caloadN (hexec : p.tables.exec = Jvm.exec) (hb : c.code = cc) {i : Int32} (hdg : decode cc pc = .ok (.caload, 1)) (k : vx_NoteN p l e R s m args below meth c H locs cells slots Q (F0 m pc ls rest)) : W p l e R s m args below meth c H locs cells slots Q (F0 m pc ls (.int i :: .null :: rest)) := by
  intro T hT X
  obtain ⟨t, st, q⟩ := k T hT X
  exact ⟨t, X.caloadNull hexec (g := F0 m pc ls (.int i :: .null :: rest)) rfl (rest := rest) rfl (by rw [hb]; exact hdg) t st, q⟩
theorem vx_saloadN (hexec : p.tables.exec = Jvm.exec) (hb : c.code = cc) {i : Int32} (hdg : decode cc pc = .ok (.saload, 1)) (k : vx_NoteN p l e R s m args below meth c H locs cells slots Q (F0 m pc ls rest)) : W p l e R s m args below meth c H locs cells slots Q (F0 m pc ls (.int i :: .null :: rest)) := by
  intro T hT X
  obtain ⟨t, st, q⟩ := k T hT X
  exact ⟨t, X.saloadNull hexec (g := F0 m pc ls (.int i :: .null :: rest)) rfl (rest := rest) rfl (by rw [hb]; exact hdg) t st, q⟩
theorem vx_iastoreN (hexec : p.tables.exec = Jvm.exec) (hb : c.code = cc) {x : Int32} {i : Int32} (hdg : decode cc pc = .ok (.iastore, 1)) (k : vx_NoteN p l e R s m args below meth c H locs cells slots Q (F0 m pc ls rest)) : W p l e R s m args below meth c H locs cells slots Q (F0 m pc ls (.int x :: .int i :: .null :: rest)) := by
  intro T hT X
  obtain ⟨t, st, q⟩ := k T hT X
  exact ⟨t, X.iastoreNull hexec (g := F0 m pc ls (.int x :: .int i :: .null :: rest)) rfl (rest := rest) rfl (by rw [hb]; exact hdg) t st, q⟩
theorem vx_lastoreN (hexec : p.tables.exec = Jvm.exec) (hb : c.code = cc) {x : Int64} {i : Int32} (hdg : decode cc pc = .ok (.lastore, 1)) (k : vx_NoteN p l e R s m args below meth c H locs cells slots Q (F0 m pc ls rest)) : W p l e R s m args below meth c H locs cells slots Q (F0 m pc ls (.long x :: .int i :: .null :: rest)) := by
  intro T hT X
  obtain ⟨t, st, q⟩ := k T hT X
  exact ⟨t, X.lastoreNull hexec (g := F0 m pc ls (.long x :: .int i :: .null :: rest)) rfl (rest := rest) rfl (by rw [hb]; exact hdg) t st, q⟩
theorem vx_fastoreN (hexec : p.tables.exec = Jvm.exec) (hb : c.code = cc) {x : UInt32} {i : Int32} (hdg : decode cc pc = .ok (.fastore, 1)) (k : vx_NoteN p l e R s m args below meth c H locs cells slots Q (F0 m pc ls rest)) : W p l e R s m args below meth c H locs cells slots Q (F0 m pc ls (.float x :: .int i :: .null :: rest)) := by
  intro T hT X
  obtain ⟨t, st, q⟩ := k T hT X
  exact ⟨t, X.fastoreNull hexec (g := F0 m pc ls (.float x :: .int i :: .null :: rest)) rfl (rest := rest) rfl (by rw [hb]; exact hdg) t st, q⟩
theorem vx_dastoreN (hexec : p.tables.exec = Jvm.exec) (hb : c.code = cc) {x : UInt64} {i : Int32} (hdg : decode cc pc = .ok (.dastore, 1)) (k : vx_NoteN p l e R s m args below meth c H locs cells slots Q (F0 m pc ls rest)) : W p l e R s m args below meth c H locs cells slots Q (F0 m pc ls (.double x :: .int i :: .null :: rest)) := by
  intro T hT X
  obtain ⟨t, st, q⟩ := k T hT X
  exact ⟨t, X.dastoreNull hexec (g := F0 m pc ls (.double x :: .int i :: .null :: rest)) rfl (rest := rest) rfl (by rw [hb]; exact hdg) t st, q⟩
theorem vx_bastoreN (hexec : p.tables.exec = Jvm.exec) (hb : c.code = cc) {x : Int32} {i : Int32} (hdg : decode cc pc = .ok (.bastore, 1)) (k : vx_NoteN p l e R s m args below meth c H locs cells slots Q (F0 m pc ls rest)) : W p l e R s m args below meth c H locs cells slots Q (F0 m pc ls (.int x :: .int i :: .null :: rest)) := by
  intro T hT X
  obtain ⟨t, st, q⟩ := k T hT X
  exact ⟨t, X.bastoreNull hexec (g := F0 m pc ls (.int x :: .int i :: .null :: rest)) rfl (rest := rest) rfl (by rw [hb]; exact hdg) t st, q⟩
theorem vx_castoreN (hexec : p.tables.exec = Jvm.exec) (hb : c.code = cc) {x : Int32} {i : Int32} (hdg : decode cc pc = .ok (.castore, 1)) (k : vx_NoteN p l e R s m args below meth c H locs cells slots Q (F0 m pc ls rest)) : W p l e R s m args below meth c H locs cells slots Q (F0 m pc ls (.int x :: .int i :: .null :: rest)) := by
  intro T hT X
  obtain ⟨t, st, q⟩ := k T hT X
  exact ⟨t, X.castoreNull hexec (g := F0 m pc ls (.int x :: .int i :: .null :: rest)) rfl (rest := rest) rfl (by rw [hb]; exact hdg) t st, q⟩
theorem vx_sastoreN (hexec : p.tables.exec = Jvm.exec) (hb : c.code = cc) {x : Int32} {i : Int32} (hdg : decode cc pc = .ok (.sastore, 1)) (k : vx_NoteN p l e R s m args below meth c H locs cells slots Q (F0 m pc ls rest)) : W p l e R s m args below meth c H locs cells slots Q (F0 m pc ls (.int x :: .int i :: .null :: rest)) := by
  intro T hT X
  obtain ⟨t, st, q⟩ := k T hT X
  exact ⟨t, X.sastoreNull hexec (g := F0 m pc ls (.int x :: .int i :: .null :: rest)) rfl (rest := rest) rfl (by rw [hb]; exact hdg) t st, q⟩
theorem vx_invokeN {own C : String} {index maxL : Nat} {y : MethodName} {bytes : ByteArray} {ret : Option FieldType} (hexec : p.tables.exec = Jvm.exec) (hb : c.code = cc) (hown : s.vm.findClass own = some m.cls) (hlink : (Cond.methodLink own index y).before args s = true) (hinst : (Cond.instanceMethod y).before args s = true) (hcode : (Cond.code y bytes maxL ret).before args s = true) (hsel : (Cond.selects C y y).before args s = true)
    (hx : y.cls ≠ "java/lang/invoke/MethodHandle" ∧ y.cls ≠ "java/lang/invoke/VarHandle") {As : List Value} (hlen : (parseMethodDescriptor y.desc).map (fun d => d.parameters.length) = some As.length) (hdg : decode cc pc = .ok (.invokevirtual index, 3))
    (k : vx_NoteN p l e R s m args below meth c H locs cells slots Q (F0 m pc ls rest)) {st0 : List Value} (hst : st0 = As.reverse ++ .null :: rest) : W p l e R s m args below meth c H locs cells slots Q (F0 m pc ls st0) := by
  intro T hT X
  obtain ⟨r0, r, hn, hrm, hstR, hsigR⟩ := va_Decl.of hinst hcode
  obtain ⟨c2, r2, m2, q1, q2, q3, q4, kP, hkP, hkPi⟩ := Cond.selects_spec hsel
  cases hn.symm.trans q3
  have hl9 : As.length = r.sig.parameters.length := by
    rw [hsigR] at hlen
    exact (Option.some.inj hlen).symm
  obtain ⟨vm', X1, st1⟩ := X.invokevirtualNull hexec hown hlink hn hrm hstR hkP hkPi hx (g := F0 m pc ls st0) rfl (argsL := As) (rest := rest) hl9 hst (by rw [hb]; exact hdg)
  obtain ⟨t, st, q⟩ := k (T.setVm vm') hT X1
  exact ⟨t, st1 t st, q⟩
theorem vx_newarrayZ {atype : ArrayType} (hexec : p.tables.exec = Jvm.exec) (hb : c.code = cc) {n : Int32} (h0 : n < 0) (hdg : decode cc pc = .ok (.newarray atype, 2)) (k : ∀ tx : String, tx = toString n → vx_Note p l e R s m args below meth c H locs cells slots Q (F0 m pc ls rest) "java/lang/NegativeArraySizeException" tx) : W p l e R s m args below meth c H locs cells slots Q (F0 m pc ls (.int n :: rest)) := by
  intro T hT X
  obtain ⟨t, st, q⟩ := k _ rfl T hT X
  exact ⟨t, X.newarrayNegative hexec (g := F0 m pc ls (.int n :: rest)) rfl h0 (rest := rest) rfl (by rw [hb]; exact hdg) t st, q⟩
end
end VXM
/-! ===== END ===== -/
end
section
/-! ===== BEGIN printed: names, fields, word lists, decode rows ===== -/
def RX0 : String := "Boxedvalue$Acts"
def TX0 : u_T := fun k => match k with
  | 0 => ("Boxedvalue$Acts", "reckoner", "LBoxedvalue$Reckoner;", true)
  | 1 => ("Boxedvalue$Acts", "curves", "LBoxedvalue$Curves;", true)
  | 2 => ("Boxedvalue$Acts", "least", "LBoxedvalue$Bound;", true)
  | 3 => ("Boxedvalue$Acts", "most", "LBoxedvalue$Bound;", true)
  | 4 => ("Boxedvalue$Acts", "trial", "LBoxedvalue$Bound;", true)
  | _ => ("Boxedvalue$Acts", "unit", "J", false)
def tyX0 : Nat → FieldType := fun k => match k with
  | 0 => .object "Boxedvalue$Reckoner"
  | 1 => .object "Boxedvalue$Curves"
  | 2 => .object "Boxedvalue$Bound"
  | 3 => .object "Boxedvalue$Bound"
  | 4 => .object "Boxedvalue$Bound"
  | _ => .long
abbrev wsX00 : List Cond := u_ws RX0 TX0 6
theorem nmX0 : ∀ a, a < 6 → ∀ b, b < 6 → a ≠ b → (TX0 a).2.1 ≠ (TX0 b).2.1 := by decide +kernel
theorem tyX0_ok : ∀ k, k < 6 → parseFieldDescriptor (TX0 k).2.2.1 = some (tyX0 k) := by decide +kernel
abbrev cX0_init : ByteArray := prog_2_method_1_code
def yX0_init : MethodName := ⟨RX0, "<init>", "()V"⟩
abbrev cX0_useDigits : ByteArray := prog_2_method_2_code
def yX0_useDigits : MethodName := ⟨RX0, "useDigits", "(I)V"⟩
abbrev cX0_judged : ByteArray := prog_2_method_3_code
def yX0_judged : MethodName := ⟨RX0, "judged", "(LBoxedvalue$Box;)I"⟩
abbrev cX0_told : ByteArray := prog_2_method_4_code
def yX0_told : MethodName := ⟨RX0, "told", "(LBoxedvalue$Box;)I"⟩
abbrev cX0_tellNumber : ByteArray := prog_2_method_5_code
def yX0_tellNumber : MethodName := ⟨RX0, "tellNumber", "(LBoxedvalue$Box;JI)I"⟩
abbrev cX0_tellText : ByteArray := prog_2_method_6_code
def yX0_tellText : MethodName := ⟨RX0, "tellText", "(LBoxedvalue$Box;LBoxedvalue$Text;)I"⟩
abbrev cX0_tellConstant : ByteArray := prog_2_method_7_code
def yX0_tellConstant : MethodName := ⟨RX0, "tellConstant", "(LBoxedvalue$Box;C)I"⟩
abbrev cX0_negative : ByteArray := prog_2_method_8_code
def yX0_negative : MethodName := ⟨RX0, "negative", "(LBoxedvalue$Box;)I"⟩
abbrev cX0_size : ByteArray := prog_2_method_9_code
def yX0_size : MethodName := ⟨RX0, "size", "(LBoxedvalue$Box;)I"⟩
abbrev cX0_sum : ByteArray := prog_2_method_10_code
def yX0_sum : MethodName := ⟨RX0, "sum", "(LBoxedvalue$Box;LBoxedvalue$Box;)I"⟩
abbrev cX0_difference : ByteArray := prog_2_method_11_code
def yX0_difference : MethodName := ⟨RX0, "difference", "(LBoxedvalue$Box;LBoxedvalue$Box;)I"⟩
abbrev cX0_product : ByteArray := prog_2_method_12_code
def yX0_product : MethodName := ⟨RX0, "product", "(LBoxedvalue$Box;LBoxedvalue$Box;)I"⟩
abbrev cX0_quotient : ByteArray := prog_2_method_13_code
def yX0_quotient : MethodName := ⟨RX0, "quotient", "(LBoxedvalue$Box;LBoxedvalue$Box;)I"⟩
abbrev cX0_ofOne : ByteArray := prog_2_method_14_code
def yX0_ofOne : MethodName := ⟨RX0, "ofOne", "(LBoxedvalue$Box;CI)I"⟩
def RX1 : String := "Boxedvalue$Bound"
def TX1 : u_T := fun k => match k with
  | 0 => ("Boxedvalue$Bound", "whole", "J", false)
  | _ => ("Boxedvalue$Bound", "part", "J", false)
def tyX1 : Nat → FieldType := fun k => match k with
  | 0 => .long
  | _ => .long
abbrev wsX10 : List Cond := u_ws RX1 TX1 2
theorem nmX1 : ∀ a, a < 2 → ∀ b, b < 2 → a ≠ b → (TX1 a).2.1 ≠ (TX1 b).2.1 := by decide +kernel
theorem tyX1_ok : ∀ k, k < 2 → parseFieldDescriptor (TX1 k).2.2.1 = some (tyX1 k) := by decide +kernel
abbrev cX1_init : ByteArray := prog_3_method_1_code
def yX1_init : MethodName := ⟨RX1, "<init>", "()V"⟩
abbrev cX1_assign : ByteArray := prog_3_method_2_code
def yX1_assign : MethodName := ⟨RX1, "assign", "(JJ)V"⟩
abbrev cX1_copy : ByteArray := prog_3_method_3_code
def yX1_copy : MethodName := ⟨RX1, "copy", "(LBoxedvalue$Bound;)V"⟩
abbrev cX1_against : ByteArray := prog_3_method_4_code
def yX1_against : MethodName := ⟨RX1, "against", "(LBoxedvalue$Bound;)I"⟩
abbrev cX1_isBelow : ByteArray := prog_3_method_5_code
def yX1_isBelow : MethodName := ⟨RX1, "isBelow", "(LBoxedvalue$Bound;)Z"⟩
abbrev cX1_isNegative : ByteArray := prog_3_method_6_code
def yX1_isNegative : MethodName := ⟨RX1, "isNegative", "()Z"⟩
abbrev cX1_isZero : ByteArray := prog_3_method_7_code
def yX1_isZero : MethodName := ⟨RX1, "isZero", "()Z"⟩
abbrev cX1_isPositive : ByteArray := prog_3_method_8_code
def yX1_isPositive : MethodName := ⟨RX1, "isPositive", "()Z"⟩
abbrev cX1_isTooGreat : ByteArray := prog_3_method_9_code
def yX1_isTooGreat : MethodName := ⟨RX1, "isTooGreat", "()Z"⟩
abbrev cX1_turn : ByteArray := prog_3_method_10_code
def yX1_turn : MethodName := ⟨RX1, "turn", "()V"⟩
abbrev cX1_toSum : ByteArray := prog_3_method_11_code
def yX1_toSum : MethodName := ⟨RX1, "toSum", "(LBoxedvalue$Bound;LBoxedvalue$Bound;)V"⟩
abbrev cX1_toDifference : ByteArray := prog_3_method_12_code
def yX1_toDifference : MethodName := ⟨RX1, "toDifference", "(LBoxedvalue$Bound;LBoxedvalue$Bound;)V"⟩
abbrev cX1_toMultiple : ByteArray := prog_3_method_13_code
def yX1_toMultiple : MethodName := ⟨RX1, "toMultiple", "(LBoxedvalue$Bound;J)V"⟩
abbrev cX1_halve : ByteArray := prog_3_method_14_code
def yX1_halve : MethodName := ⟨RX1, "halve", "()V"⟩
abbrev cX1_shift : ByteArray := prog_3_method_15_code
def yX1_shift : MethodName := ⟨RX1, "shift", "(J)V"⟩
abbrev cX1_roundDown : ByteArray := prog_3_method_16_code
def yX1_roundDown : MethodName := ⟨RX1, "roundDown", "(J)V"⟩
abbrev cX1_roundUp : ByteArray := prog_3_method_17_code
def yX1_roundUp : MethodName := ⟨RX1, "roundUp", "(JZ)V"⟩
def RX2 : String := "Boxedvalue$Box"
def TX2 : u_T := fun k => match k with
  | 0 => ("Boxedvalue$Box", "low", "LBoxedvalue$Bound;", true)
  | _ => ("Boxedvalue$Box", "high", "LBoxedvalue$Bound;", true)
def tyX2 : Nat → FieldType := fun k => match k with
  | 0 => .object "Boxedvalue$Bound"
  | _ => .object "Boxedvalue$Bound"
abbrev wsX20 : List Cond := u_ws RX2 TX2 2
theorem nmX2 : ∀ a, a < 2 → ∀ b, b < 2 → a ≠ b → (TX2 a).2.1 ≠ (TX2 b).2.1 := by decide +kernel
theorem tyX2_ok : ∀ k, k < 2 → parseFieldDescriptor (TX2 k).2.2.1 = some (tyX2 k) := by decide +kernel
abbrev cX2_init : ByteArray := prog_4_method_1_code
def yX2_init : MethodName := ⟨RX2, "<init>", "()V"⟩
abbrev cX2_copy : ByteArray := prog_4_method_2_code
def yX2_copy : MethodName := ⟨RX2, "copy", "(LBoxedvalue$Box;)V"⟩
abbrev cX2_between : ByteArray := prog_4_method_3_code
def yX2_between : MethodName := ⟨RX2, "between", "(LBoxedvalue$Bound;LBoxedvalue$Bound;)V"⟩
abbrev cX2_isSingle : ByteArray := prog_4_method_4_code
def yX2_isSingle : MethodName := ⟨RX2, "isSingle", "()Z"⟩
abbrev cX2_holdsZero : ByteArray := prog_4_method_5_code
def yX2_holdsZero : MethodName := ⟨RX2, "holdsZero", "()Z"⟩
abbrev cX2_liesIn : ByteArray := prog_4_method_6_code
def yX2_liesIn : MethodName := ⟨RX2, "liesIn", "(LBoxedvalue$Box;)Z"⟩
abbrev cX2_isTooGreat : ByteArray := prog_4_method_7_code
def yX2_isTooGreat : MethodName := ⟨RX2, "isTooGreat", "()Z"⟩
abbrev cX2_turn : ByteArray := prog_4_method_8_code
def yX2_turn : MethodName := ⟨RX2, "turn", "()V"⟩
abbrev cX2_dropSigns : ByteArray := prog_4_method_9_code
def yX2_dropSigns : MethodName := ⟨RX2, "dropSigns", "()V"⟩
abbrev cX2_embrace : ByteArray := prog_4_method_10_code
def yX2_embrace : MethodName := ⟨RX2, "embrace", "(LBoxedvalue$Box;)V"⟩
abbrev cX2_cutDownTo : ByteArray := prog_4_method_11_code
def yX2_cutDownTo : MethodName := ⟨RX2, "cutDownTo", "(LBoxedvalue$Box;)Z"⟩
abbrev cX2_toMiddle : ByteArray := prog_4_method_12_code
def yX2_toMiddle : MethodName := ⟨RX2, "toMiddle", "(LBoxedvalue$Box;J)Z"⟩
abbrev cX2_roundOut : ByteArray := prog_4_method_13_code
def yX2_roundOut : MethodName := ⟨RX2, "roundOut", "(J)V"⟩
def RX3 : String := "Boxedvalue$Curves"
def TX3 : u_T := fun k => match k with
  | 0 => ("Boxedvalue$Curves", "reckoner", "LBoxedvalue$Reckoner;", true)
  | 1 => ("Boxedvalue$Curves", "isNegative", "Z", false)
  | 2 => ("Boxedvalue$Curves", "hasRest", "Z", false)
  | 3 => ("Boxedvalue$Curves", "power", "LBoxedvalue$Fixed;", true)
  | 4 => ("Boxedvalue$Curves", "step", "LBoxedvalue$Fixed;", true)
  | 5 => ("Boxedvalue$Curves", "term", "LBoxedvalue$Fixed;", true)
  | 6 => ("Boxedvalue$Curves", "sum", "LBoxedvalue$Fixed;", true)
  | 7 => ("Boxedvalue$Curves", "above", "LBoxedvalue$Fixed;", true)
  | 8 => ("Boxedvalue$Curves", "below", "LBoxedvalue$Fixed;", true)
  | 9 => ("Boxedvalue$Curves", "top", "LBoxedvalue$Bound;", true)
  | 10 => ("Boxedvalue$Curves", "bottom", "LBoxedvalue$Bound;", true)
  | 11 => ("Boxedvalue$Curves", "over", "LBoxedvalue$Bound;", true)
  | _ => ("Boxedvalue$Curves", "under", "LBoxedvalue$Bound;", true)
def tyX3 : Nat → FieldType := fun k => match k with
  | 0 => .object "Boxedvalue$Reckoner"
  | 1 => .boolean
  | 2 => .boolean
  | 3 => .object "Boxedvalue$Fixed"
  | 4 => .object "Boxedvalue$Fixed"
  | 5 => .object "Boxedvalue$Fixed"
  | 6 => .object "Boxedvalue$Fixed"
  | 7 => .object "Boxedvalue$Fixed"
  | 8 => .object "Boxedvalue$Fixed"
  | 9 => .object "Boxedvalue$Bound"
  | 10 => .object "Boxedvalue$Bound"
  | 11 => .object "Boxedvalue$Bound"
  | _ => .object "Boxedvalue$Bound"
abbrev wsX30 : List Cond := u_ws RX3 TX3 13
theorem nmX3 : ∀ a, a < 13 → ∀ b, b < 13 → a ≠ b → (TX3 a).2.1 ≠ (TX3 b).2.1 := by decide +kernel
theorem tyX3_ok : ∀ k, k < 13 → parseFieldDescriptor (TX3 k).2.2.1 = some (tyX3 k) := by decide +kernel
abbrev cX3_init : ByteArray := prog_5_method_1_code
def yX3_init : MethodName := ⟨RX3, "<init>", "(LBoxedvalue$Reckoner;)V"⟩
abbrev cX3_tell : ByteArray := prog_5_method_2_code
def yX3_tell : MethodName := ⟨RX3, "tell", "()V"⟩
abbrev cX3_begin : ByteArray := prog_5_method_3_code
def yX3_begin : MethodName := ⟨RX3, "begin", "(Z)V"⟩
abbrev cX3_exponential : ByteArray := prog_5_method_4_code
def yX3_exponential : MethodName := ⟨RX3, "exponential", "(LBoxedvalue$Bound;)V"⟩
abbrev cX3_sumPowers : ByteArray := prog_5_method_5_code
def yX3_sumPowers : MethodName := ⟨RX3, "sumPowers", "(LBoxedvalue$Bound;)V"⟩
abbrev cX3_logarithm : ByteArray := prog_5_method_6_code
def yX3_logarithm : MethodName := ⟨RX3, "logarithm", "(LBoxedvalue$Bound;)V"⟩
abbrev cX3_arc : ByteArray := prog_5_method_7_code
def yX3_arc : MethodName := ⟨RX3, "arc", "(LBoxedvalue$Bound;)V"⟩
abbrev cX3_nearestEighth : ByteArray := prog_5_method_8_code
def yX3_nearestEighth : MethodName := ⟨RX3, "nearestEighth", "()I"⟩
abbrev cX3_shiftToEighth : ByteArray := prog_5_method_9_code
def yX3_shiftToEighth : MethodName := ⟨RX3, "shiftToEighth", "(I)Z"⟩
abbrev cX3_sumOddPowers : ByteArray := prog_5_method_10_code
def yX3_sumOddPowers : MethodName := ⟨RX3, "sumOddPowers", "(Z)V"⟩
abbrev cX3_settle : ByteArray := prog_5_method_11_code
def yX3_settle : MethodName := ⟨RX3, "settle", "()V"⟩
def RX4 : String := "Boxedvalue$Fixed"
def TX4 : u_T := fun k => match k with
  | 0 => ("Boxedvalue$Fixed", "limbs", "[J", true)
  | _ => ("Boxedvalue$Fixed", "sums", "[J", true)
def tyX4 : Nat → FieldType := fun k => match k with
  | 0 => .array .long
  | _ => .array .long
abbrev wsX40 : List Cond := u_ws RX4 TX4 2
theorem nmX4 : ∀ a, a < 2 → ∀ b, b < 2 → a ≠ b → (TX4 a).2.1 ≠ (TX4 b).2.1 := by decide +kernel
theorem tyX4_ok : ∀ k, k < 2 → parseFieldDescriptor (TX4 k).2.2.1 = some (tyX4 k) := by decide +kernel
abbrev cX4_init : ByteArray := prog_6_method_1_code
def yX4_init : MethodName := ⟨RX4, "<init>", "()V"⟩
abbrev cX4_limbAt : ByteArray := prog_6_method_2_code
def yX4_limbAt : MethodName := ⟨RX4, "limbAt", "(I)J"⟩
abbrev cX4_setLimb : ByteArray := prog_6_method_3_code
def yX4_setLimb : MethodName := ⟨RX4, "setLimb", "(IJ)V"⟩
abbrev cX4_clear : ByteArray := prog_6_method_4_code
def yX4_clear : MethodName := ⟨RX4, "clear", "()V"⟩
abbrev cX4_copy : ByteArray := prog_6_method_5_code
def yX4_copy : MethodName := ⟨RX4, "copy", "(LBoxedvalue$Fixed;)V"⟩
abbrev cX4_load : ByteArray := prog_6_method_6_code
def yX4_load : MethodName := ⟨RX4, "load", "([III)V"⟩
abbrev cX4_isZero : ByteArray := prog_6_method_7_code
def yX4_isZero : MethodName := ⟨RX4, "isZero", "()Z"⟩
abbrev cX4_isBelow : ByteArray := prog_6_method_8_code
def yX4_isBelow : MethodName := ⟨RX4, "isBelow", "(LBoxedvalue$Fixed;)Z"⟩
abbrev cX4_plus : ByteArray := prog_6_method_9_code
def yX4_plus : MethodName := ⟨RX4, "plus", "(LBoxedvalue$Fixed;)V"⟩
abbrev cX4_minus : ByteArray := prog_6_method_10_code
def yX4_minus : MethodName := ⟨RX4, "minus", "(LBoxedvalue$Fixed;)V"⟩
abbrev cX4_over : ByteArray := prog_6_method_11_code
def yX4_over : MethodName := ⟨RX4, "over", "(I)V"⟩
abbrev cX4_toProduct : ByteArray := prog_6_method_12_code
def yX4_toProduct : MethodName := ⟨RX4, "toProduct", "(LBoxedvalue$Fixed;LBoxedvalue$Fixed;)V"⟩
def RX5 : String := "Boxedvalue$Formula"
def TX5 : u_T := fun k => match k with
  | 0 => ("Boxedvalue$Formula", "acts", "[C", true)
  | 1 => ("Boxedvalue$Formula", "numbers", "[J", true)
  | 2 => ("Boxedvalue$Formula", "scales", "[I", true)
  | 3 => ("Boxedvalue$Formula", "starts", "[I", true)
  | 4 => ("Boxedvalue$Formula", "count", "I", false)
  | 5 => ("Boxedvalue$Formula", "hasY", "Z", false)
  | 6 => ("Boxedvalue$Formula", "isDefined", "Z", false)
  | 7 => ("Boxedvalue$Formula", "waiting", "[C", true)
  | 8 => ("Boxedvalue$Formula", "waitingCount", "I", false)
  | 9 => ("Boxedvalue$Formula", "place", "I", false)
  | 10 => ("Boxedvalue$Formula", "wantsAtom", "Z", false)
  | _ => ("Boxedvalue$Formula", "mayRaise", "Z", false)
def tyX5 : Nat → FieldType := fun k => match k with
  | 0 => .array .char
  | 1 => .array .long
  | 2 => .array .int
  | 3 => .array .int
  | 4 => .int
  | 5 => .boolean
  | 6 => .boolean
  | 7 => .array .char
  | 8 => .int
  | 9 => .int
  | 10 => .boolean
  | _ => .boolean
abbrev wsX50 : List Cond := u_ws RX5 TX5 12
theorem nmX5 : ∀ a, a < 12 → ∀ b, b < 12 → a ≠ b → (TX5 a).2.1 ≠ (TX5 b).2.1 := by decide +kernel
theorem tyX5_ok : ∀ k, k < 12 → parseFieldDescriptor (TX5 k).2.2.1 = some (tyX5 k) := by decide +kernel
abbrev cX5_init : ByteArray := prog_7_method_1_code
def yX5_init : MethodName := ⟨RX5, "<init>", "()V"⟩
abbrev cX5_within : ByteArray := prog_7_method_2_code
def yX5_within : MethodName := ⟨RX5, "within", "(I)I"⟩
abbrev cX5_actAt : ByteArray := prog_7_method_3_code
def yX5_actAt : MethodName := ⟨RX5, "actAt", "(I)C"⟩
abbrev cX5_numberAt : ByteArray := prog_7_method_4_code
def yX5_numberAt : MethodName := ⟨RX5, "numberAt", "(I)J"⟩
abbrev cX5_scaleAt : ByteArray := prog_7_method_5_code
def yX5_scaleAt : MethodName := ⟨RX5, "scaleAt", "(I)I"⟩
abbrev cX5_startOf : ByteArray := prog_7_method_6_code
def yX5_startOf : MethodName := ⟨RX5, "startOf", "(I)I"⟩
abbrev cX5_leftOf : ByteArray := prog_7_method_7_code
def yX5_leftOf : MethodName := ⟨RX5, "leftOf", "(I)I"⟩
abbrev cX5_isPair : ByteArray := prog_7_method_8_code
def yX5_isPair : MethodName := ⟨RX5, "isPair", "(C)Z"⟩
abbrev cX5_isAhead : ByteArray := prog_7_method_9_code
def yX5_isAhead : MethodName := ⟨RX5, "isAhead", "(C)Z"⟩
abbrev cX5_append : ByteArray := prog_7_method_10_code
def yX5_append : MethodName := ⟨RX5, "append", "(CJI)V"⟩
abbrev cX5_findStarts : ByteArray := prog_7_method_11_code
def yX5_findStarts : MethodName := ⟨RX5, "findStarts", "()V"⟩
abbrev cX5_hold : ByteArray := prog_7_method_12_code
def yX5_hold : MethodName := ⟨RX5, "hold", "(C)V"⟩
abbrev cX5_lastHeld : ByteArray := prog_7_method_13_code
def yX5_lastHeld : MethodName := ⟨RX5, "lastHeld", "()C"⟩
abbrev cX5_release : ByteArray := prog_7_method_14_code
def yX5_release : MethodName := ⟨RX5, "release", "()V"⟩
abbrev cX5_parse : ByteArray := prog_7_method_15_code
def yX5_parse : MethodName := ⟨RX5, "parse", "(LBoxedvalue$Text;)I"⟩
abbrev cX5_takesAtom : ByteArray := prog_7_method_16_code
def yX5_takesAtom : MethodName := ⟨RX5, "takesAtom", "(LBoxedvalue$Text;)Z"⟩
abbrev cX5_takesNumber : ByteArray := prog_7_method_17_code
def yX5_takesNumber : MethodName := ⟨RX5, "takesNumber", "(LBoxedvalue$Text;)Z"⟩
abbrev cX5_closeAtom : ByteArray := prog_7_method_18_code
def yX5_closeAtom : MethodName := ⟨RX5, "closeAtom", "()V"⟩
abbrev cX5_releaseProducts : ByteArray := prog_7_method_19_code
def yX5_releaseProducts : MethodName := ⟨RX5, "releaseProducts", "()V"⟩
abbrev cX5_releaseSums : ByteArray := prog_7_method_20_code
def yX5_releaseSums : MethodName := ⟨RX5, "releaseSums", "()V"⟩
abbrev cX5_takesAct : ByteArray := prog_7_method_21_code
def yX5_takesAct : MethodName := ⟨RX5, "takesAct", "(LBoxedvalue$Text;)Z"⟩
abbrev cX5_takesExponent : ByteArray := prog_7_method_22_code
def yX5_takesExponent : MethodName := ⟨RX5, "takesExponent", "(LBoxedvalue$Text;)Z"⟩
abbrev cX5_takesClosing : ByteArray := prog_7_method_23_code
def yX5_takesClosing : MethodName := ⟨RX5, "takesClosing", "()Z"⟩
def RX6 : String := "Boxedvalue$Machine"
def TX6 : u_T := fun k => match k with
  | 0 => ("Boxedvalue$Machine", "maker", "LBoxedvalue$Acts;", true)
  | 1 => ("Boxedvalue$Machine", "stack", "[LBoxedvalue$Box;", true)
  | 2 => ("Boxedvalue$Machine", "top", "I", false)
  | 3 => ("Boxedvalue$Machine", "x", "LBoxedvalue$Box;", false)
  | 4 => ("Boxedvalue$Machine", "y", "LBoxedvalue$Box;", false)
  | 5 => ("Boxedvalue$Machine", "nodes", "[I", true)
  | 6 => ("Boxedvalue$Machine", "places", "[I", true)
  | _ => ("Boxedvalue$Machine", "depth", "I", false)
def tyX6 : Nat → FieldType := fun k => match k with
  | 0 => .object "Boxedvalue$Acts"
  | 1 => .array (.object "Boxedvalue$Box")
  | 2 => .int
  | 3 => .object "Boxedvalue$Box"
  | 4 => .object "Boxedvalue$Box"
  | 5 => .array .int
  | 6 => .array .int
  | _ => .int
abbrev wsX60 : List Cond := u_ws RX6 TX6 8
theorem nmX6 : ∀ a, a < 8 → ∀ b, b < 8 → a ≠ b → (TX6 a).2.1 ≠ (TX6 b).2.1 := by decide +kernel
theorem tyX6_ok : ∀ k, k < 8 → parseFieldDescriptor (TX6 k).2.2.1 = some (tyX6 k) := by decide +kernel
abbrev cX6_init : ByteArray := prog_8_method_1_code
def yX6_init : MethodName := ⟨RX6, "<init>", "()V"⟩
abbrev cX6_useDigits : ByteArray := prog_8_method_2_code
def yX6_useDigits : MethodName := ⟨RX6, "useDigits", "(I)V"⟩
abbrev cX6_unit : ByteArray := prog_8_method_3_code
def yX6_unit : MethodName := ⟨RX6, "unit", "()J"⟩
abbrev cX6_clear : ByteArray := prog_8_method_4_code
def yX6_clear : MethodName := ⟨RX6, "clear", "()V"⟩
abbrev cX6_at : ByteArray := prog_8_method_5_code
def yX6_at : MethodName := ⟨RX6, "at", "(I)LBoxedvalue$Box;"⟩
abbrev cX6_result : ByteArray := prog_8_method_6_code
def yX6_result : MethodName := ⟨RX6, "result", "()LBoxedvalue$Box;"⟩
abbrev cX6_push : ByteArray := prog_8_method_7_code
def yX6_push : MethodName := ⟨RX6, "push", "(LBoxedvalue$Box;)V"⟩
abbrev cX6_aim : ByteArray := prog_8_method_8_code
def yX6_aim : MethodName := ⟨RX6, "aim", "(LBoxedvalue$Box;LBoxedvalue$Box;)V"⟩
abbrev cX6_makeFrom : ByteArray := prog_8_method_9_code
def yX6_makeFrom : MethodName := ⟨RX6, "makeFrom", "(LBoxedvalue$Text;)I"⟩
abbrev cX6_make : ByteArray := prog_8_method_10_code
def yX6_make : MethodName := ⟨RX6, "make", "(CJI)I"⟩
abbrev cX6_makeValue : ByteArray := prog_8_method_11_code
def yX6_makeValue : MethodName := ⟨RX6, "makeValue", "(LBoxedvalue$Formula;)I"⟩
abbrev cX6_makeSlope : ByteArray := prog_8_method_12_code
def yX6_makeSlope : MethodName := ⟨RX6, "makeSlope", "(LBoxedvalue$Formula;)I"⟩
abbrev cX6_enter : ByteArray := prog_8_method_13_code
def yX6_enter : MethodName := ⟨RX6, "enter", "(I)I"⟩
abbrev cX6_nextSign : ByteArray := prog_8_method_14_code
def yX6_nextSign : MethodName := ⟨RX6, "nextSign", "(Ljava/lang/String;)C"⟩
abbrev cX6_actOf : ByteArray := prog_8_method_15_code
def yX6_actOf : MethodName := ⟨RX6, "actOf", "(C)C"⟩
abbrev cX6_numberOf : ByteArray := prog_8_method_16_code
def yX6_numberOf : MethodName := ⟨RX6, "numberOf", "(CI)J"⟩
abbrev cX6_byOf : ByteArray := prog_8_method_17_code
def yX6_byOf : MethodName := ⟨RX6, "byOf", "(CI)I"⟩
abbrev cX6_recipeOf : ByteArray := prog_8_method_18_code
def yX6_recipeOf : MethodName := ⟨RX6, "recipeOf", "(CI)Ljava/lang/String;"⟩
def RX7 : String := "Boxedvalue$Pieces"
def TX7 : u_T := fun k => match k with
  | 0 => ("Boxedvalue$Pieces", "boxes", "[LBoxedvalue$Box;", true)
  | 1 => ("Boxedvalue$Pieces", "marks", "[I", true)
  | 2 => ("Boxedvalue$Pieces", "middle", "LBoxedvalue$Box;", true)
  | _ => ("Boxedvalue$Pieces", "count", "I", false)
def tyX7 : Nat → FieldType := fun k => match k with
  | 0 => .array (.object "Boxedvalue$Box")
  | 1 => .array .int
  | 2 => .object "Boxedvalue$Box"
  | _ => .int
abbrev wsX70 : List Cond := u_ws RX7 TX7 4
theorem nmX7 : ∀ a, a < 4 → ∀ b, b < 4 → a ≠ b → (TX7 a).2.1 ≠ (TX7 b).2.1 := by decide +kernel
theorem tyX7_ok : ∀ k, k < 4 → parseFieldDescriptor (TX7 k).2.2.1 = some (tyX7 k) := by decide +kernel
abbrev cX7_init : ByteArray := prog_9_method_1_code
def yX7_init : MethodName := ⟨RX7, "<init>", "()V"⟩
abbrev cX7_clear : ByteArray := prog_9_method_2_code
def yX7_clear : MethodName := ⟨RX7, "clear", "()V"⟩
abbrev cX7_within : ByteArray := prog_9_method_3_code
def yX7_within : MethodName := ⟨RX7, "within", "(I)I"⟩
abbrev cX7_box : ByteArray := prog_9_method_4_code
def yX7_box : MethodName := ⟨RX7, "box", "(I)LBoxedvalue$Box;"⟩
abbrev cX7_markAt : ByteArray := prog_9_method_5_code
def yX7_markAt : MethodName := ⟨RX7, "markAt", "(I)I"⟩
abbrev cX7_append : ByteArray := prog_9_method_6_code
def yX7_append : MethodName := ⟨RX7, "append", "(LBoxedvalue$Box;I)V"⟩
abbrev cX7_takeLast : ByteArray := prog_9_method_7_code
def yX7_takeLast : MethodName := ⟨RX7, "takeLast", "(LBoxedvalue$Box;)I"⟩
abbrev cX7_cut : ByteArray := prog_9_method_8_code
def yX7_cut : MethodName := ⟨RX7, "cut", "(LBoxedvalue$Box;IJ)V"⟩
abbrev cX7_split : ByteArray := prog_9_method_9_code
def yX7_split : MethodName := ⟨RX7, "split", "(I)V"⟩
def RX8 : String := "Boxedvalue$Reckoner"
def TX8 : u_T := fun k => match k with
  | 0 => ("Boxedvalue$Reckoner", "floor", "LBoxedvalue$Bound;", true)
  | 1 => ("Boxedvalue$Reckoner", "hasRest", "Z", false)
  | 2 => ("Boxedvalue$Reckoner", "left", "LBoxedvalue$Bound;", true)
  | 3 => ("Boxedvalue$Reckoner", "right", "LBoxedvalue$Bound;", true)
  | 4 => ("Boxedvalue$Reckoner", "row", "[J", false)
  | 5 => ("Boxedvalue$Reckoner", "nextRow", "[J", false)
  | 6 => ("Boxedvalue$Reckoner", "factor", "[J", true)
  | 7 => ("Boxedvalue$Reckoner", "behind", "I", false)
  | 8 => ("Boxedvalue$Reckoner", "used", "I", false)
  | 9 => ("Boxedvalue$Reckoner", "leftWhole", "J", false)
  | 10 => ("Boxedvalue$Reckoner", "leftPart", "J", false)
  | 11 => ("Boxedvalue$Reckoner", "byWhole", "J", false)
  | _ => ("Boxedvalue$Reckoner", "byPart", "J", false)
def tyX8 : Nat → FieldType := fun k => match k with
  | 0 => .object "Boxedvalue$Bound"
  | 1 => .boolean
  | 2 => .object "Boxedvalue$Bound"
  | 3 => .object "Boxedvalue$Bound"
  | 4 => .array .long
  | 5 => .array .long
  | 6 => .array .long
  | 7 => .int
  | 8 => .int
  | 9 => .long
  | 10 => .long
  | 11 => .long
  | _ => .long
abbrev wsX80 : List Cond := u_ws RX8 TX8 13
theorem nmX8 : ∀ a, a < 13 → ∀ b, b < 13 → a ≠ b → (TX8 a).2.1 ≠ (TX8 b).2.1 := by decide +kernel
theorem tyX8_ok : ∀ k, k < 13 → parseFieldDescriptor (TX8 k).2.2.1 = some (tyX8 k) := by decide +kernel
abbrev cX8_init : ByteArray := prog_10_method_1_code
def yX8_init : MethodName := ⟨RX8, "<init>", "()V"⟩
abbrev cX8_tellDown : ByteArray := prog_10_method_2_code
def yX8_tellDown : MethodName := ⟨RX8, "tellDown", "(LBoxedvalue$Bound;J)V"⟩
abbrev cX8_tellUp : ByteArray := prog_10_method_3_code
def yX8_tellUp : MethodName := ⟨RX8, "tellUp", "(LBoxedvalue$Bound;J)V"⟩
abbrev cX8_assign : ByteArray := prog_10_method_4_code
def yX8_assign : MethodName := ⟨RX8, "assign", "(JJZ)V"⟩
abbrev cX8_turn : ByteArray := prog_10_method_5_code
def yX8_turn : MethodName := ⟨RX8, "turn", "()V"⟩
abbrev cX8_take : ByteArray := prog_10_method_6_code
def yX8_take : MethodName := ⟨RX8, "take", "(JI)V"⟩
abbrev cX8_takeText : ByteArray := prog_10_method_7_code
def yX8_takeText : MethodName := ⟨RX8, "takeText", "(LBoxedvalue$Text;)V"⟩
abbrev cX8_takeDigit : ByteArray := prog_10_method_8_code
def yX8_takeDigit : MethodName := ⟨RX8, "takeDigit", "(II)V"⟩
abbrev cX8_dropSign : ByteArray := prog_10_method_9_code
def yX8_dropSign : MethodName := ⟨RX8, "dropSign", "(LBoxedvalue$Bound;)Z"⟩
abbrev cX8_spread : ByteArray := prog_10_method_10_code
def yX8_spread : MethodName := ⟨RX8, "spread", "(LBoxedvalue$Bound;[J)V"⟩
abbrev cX8_product : ByteArray := prog_10_method_11_code
def yX8_product : MethodName := ⟨RX8, "product", "(LBoxedvalue$Bound;LBoxedvalue$Bound;)V"⟩
abbrev cX8_toPower : ByteArray := prog_10_method_12_code
def yX8_toPower : MethodName := ⟨RX8, "toPower", "(LBoxedvalue$Bound;I)V"⟩
abbrev cX8_raise : ByteArray := prog_10_method_13_code
def yX8_raise : MethodName := ⟨RX8, "raise", "(I)V"⟩
abbrev cX8_widen : ByteArray := prog_10_method_14_code
def yX8_widen : MethodName := ⟨RX8, "widen", "()V"⟩
abbrev cX8_wholeOfRow : ByteArray := prog_10_method_15_code
def yX8_wholeOfRow : MethodName := ⟨RX8, "wholeOfRow", "()J"⟩
abbrev cX8_settle : ByteArray := prog_10_method_16_code
def yX8_settle : MethodName := ⟨RX8, "settle", "()V"⟩
abbrev cX8_quotient : ByteArray := prog_10_method_17_code
def yX8_quotient : MethodName := ⟨RX8, "quotient", "(LBoxedvalue$Bound;LBoxedvalue$Bound;)V"⟩
abbrev cX8_align : ByteArray := prog_10_method_18_code
def yX8_align : MethodName := ⟨RX8, "align", "(LBoxedvalue$Bound;LBoxedvalue$Bound;)I"⟩
abbrev cX8_nextDigits : ByteArray := prog_10_method_19_code
def yX8_nextDigits : MethodName := ⟨RX8, "nextDigits", "(I)J"⟩
abbrev cX8_toRoot : ByteArray := prog_10_method_20_code
def yX8_toRoot : MethodName := ⟨RX8, "toRoot", "(LBoxedvalue$Bound;I)V"⟩
abbrev cX8_guessRoot : ByteArray := prog_10_method_21_code
def yX8_guessRoot : MethodName := ⟨RX8, "guessRoot", "(LBoxedvalue$Bound;I)J"⟩
abbrev cX8_powerOf : ByteArray := prog_10_method_22_code
def yX8_powerOf : MethodName := ⟨RX8, "powerOf", "(DI)D"⟩
def RX9 : String := "Boxedvalue$Shelves"
def TX9 : u_T := fun k => match k with
  | 0 => ("Boxedvalue$Shelves", "boxes", "[LBoxedvalue$Box;", true)
  | 1 => ("Boxedvalue$Shelves", "isHeld", "[Z", true)
  | 2 => ("Boxedvalue$Shelves", "keptBoxes", "[LBoxedvalue$Box;", true)
  | 3 => ("Boxedvalue$Shelves", "keptIsHeld", "[Z", true)
  | 4 => ("Boxedvalue$Shelves", "keptShelves", "[I", true)
  | 5 => ("Boxedvalue$Shelves", "oldest", "I", false)
  | _ => ("Boxedvalue$Shelves", "keptCount", "I", false)
def tyX9 : Nat → FieldType := fun k => match k with
  | 0 => .array (.object "Boxedvalue$Box")
  | 1 => .array .boolean
  | 2 => .array (.object "Boxedvalue$Box")
  | 3 => .array .boolean
  | 4 => .array .int
  | 5 => .int
  | _ => .int
abbrev wsX90 : List Cond := u_ws RX9 TX9 7
theorem nmX9 : ∀ a, a < 7 → ∀ b, b < 7 → a ≠ b → (TX9 a).2.1 ≠ (TX9 b).2.1 := by decide +kernel
theorem tyX9_ok : ∀ k, k < 7 → parseFieldDescriptor (TX9 k).2.2.1 = some (tyX9 k) := by decide +kernel
abbrev cX9_init : ByteArray := prog_11_method_1_code
def yX9_init : MethodName := ⟨RX9, "<init>", "()V"⟩
abbrev cX9_isShelf : ByteArray := prog_11_method_2_code
def yX9_isShelf : MethodName := ⟨RX9, "isShelf", "(I)Z"⟩
abbrev cX9_holds : ByteArray := prog_11_method_3_code
def yX9_holds : MethodName := ⟨RX9, "holds", "(I)Z"⟩
abbrev cX9_box : ByteArray := prog_11_method_4_code
def yX9_box : MethodName := ⟨RX9, "box", "(I)LBoxedvalue$Box;"⟩
abbrev cX9_fill : ByteArray := prog_11_method_5_code
def yX9_fill : MethodName := ⟨RX9, "fill", "(ILBoxedvalue$Box;)V"⟩
abbrev cX9_takeBack : ByteArray := prog_11_method_6_code
def yX9_takeBack : MethodName := ⟨RX9, "takeBack", "()I"⟩
def RX10 : String := "Boxedvalue$Text"
def TX10 : u_T := fun k => match k with
  | 0 => ("Boxedvalue$Text", "signs", "[C", true)
  | _ => ("Boxedvalue$Text", "count", "I", false)
def tyX10 : Nat → FieldType := fun k => match k with
  | 0 => .array .char
  | _ => .int
abbrev wsX100 : List Cond := u_ws RX10 TX10 2
theorem nmX10 : ∀ a, a < 2 → ∀ b, b < 2 → a ≠ b → (TX10 a).2.1 ≠ (TX10 b).2.1 := by decide +kernel
theorem tyX10_ok : ∀ k, k < 2 → parseFieldDescriptor (TX10 k).2.2.1 = some (tyX10 k) := by decide +kernel
abbrev cX10_init : ByteArray := prog_12_method_1_code
def yX10_init : MethodName := ⟨RX10, "<init>", "()V"⟩
abbrev cX10_clear : ByteArray := prog_12_method_2_code
def yX10_clear : MethodName := ⟨RX10, "clear", "()V"⟩
abbrev cX10_append : ByteArray := prog_12_method_3_code
def yX10_append : MethodName := ⟨RX10, "append", "(C)V"⟩
abbrev cX10_at : ByteArray := prog_12_method_4_code
def yX10_at : MethodName := ⟨RX10, "at", "(I)C"⟩
abbrev cX10_isDigitAt : ByteArray := prog_12_method_5_code
def yX10_isDigitAt : MethodName := ⟨RX10, "isDigitAt", "(I)Z"⟩
abbrev cX10_isNumber : ByteArray := prog_12_method_6_code
def yX10_isNumber : MethodName := ⟨RX10, "isNumber", "()Z"⟩
abbrev cX10_write : ByteArray := prog_12_method_7_code
def yX10_write : MethodName := ⟨RX10, "write", "(LBoxedvalue$Bound;)V"⟩
abbrev cX10_addedTo : ByteArray := prog_12_method_8_code
def yX10_addedTo : MethodName := ⟨RX10, "addedTo", "(J)J"⟩
def RX11 : String := "Boxedvalue"
def TX11 : u_T := fun k => match k with
  | 0 => ("Boxedvalue", "digits", "I", false)
  | 1 => ("Boxedvalue", "text", "LBoxedvalue$Text;", true)
  | 2 => ("Boxedvalue", "spareText", "LBoxedvalue$Text;", true)
  | 3 => ("Boxedvalue", "shelves", "LBoxedvalue$Shelves;", true)
  | 4 => ("Boxedvalue", "machine", "LBoxedvalue$Machine;", true)
  | 5 => ("Boxedvalue", "formulas", "[LBoxedvalue$Formula;", true)
  | 6 => ("Boxedvalue", "spareFormula", "LBoxedvalue$Formula;", false)
  | 7 => ("Boxedvalue", "found", "LBoxedvalue$Pieces;", true)
  | 8 => ("Boxedvalue", "pending", "LBoxedvalue$Pieces;", true)
  | 9 => ("Boxedvalue", "parts", "LBoxedvalue$Pieces;", true)
  | 10 => ("Boxedvalue", "otherParts", "LBoxedvalue$Pieces;", true)
  | 11 => ("Boxedvalue", "first", "LBoxedvalue$Box;", true)
  | 12 => ("Boxedvalue", "second", "LBoxedvalue$Box;", true)
  | 13 => ("Boxedvalue", "third", "LBoxedvalue$Box;", true)
  | 14 => ("Boxedvalue", "fourth", "LBoxedvalue$Box;", true)
  | 15 => ("Boxedvalue", "span", "LBoxedvalue$Bound;", true)
  | _ => ("Boxedvalue", "otherSpan", "LBoxedvalue$Bound;", true)
def tyX11 : Nat → FieldType := fun k => match k with
  | 0 => .int
  | 1 => .object "Boxedvalue$Text"
  | 2 => .object "Boxedvalue$Text"
  | 3 => .object "Boxedvalue$Shelves"
  | 4 => .object "Boxedvalue$Machine"
  | 5 => .array (.object "Boxedvalue$Formula")
  | 6 => .object "Boxedvalue$Formula"
  | 7 => .object "Boxedvalue$Pieces"
  | 8 => .object "Boxedvalue$Pieces"
  | 9 => .object "Boxedvalue$Pieces"
  | 10 => .object "Boxedvalue$Pieces"
  | 11 => .object "Boxedvalue$Box"
  | 12 => .object "Boxedvalue$Box"
  | 13 => .object "Boxedvalue$Box"
  | 14 => .object "Boxedvalue$Box"
  | 15 => .object "Boxedvalue$Bound"
  | _ => .object "Boxedvalue$Bound"
abbrev wsX110 : List Cond := u_ws RX11 TX11 17
theorem nmX11 : ∀ a, a < 17 → ∀ b, b < 17 → a ≠ b → (TX11 a).2.1 ≠ (TX11 b).2.1 := by decide +kernel
theorem tyX11_ok : ∀ k, k < 17 → parseFieldDescriptor (TX11 k).2.2.1 = some (tyX11 k) := by decide +kernel
abbrev cX11_init : ByteArray := prog_1_method_1_code
def yX11_init : MethodName := ⟨RX11, "<init>", "()V"⟩
abbrev cX11_setDigits : ByteArray := prog_1_method_2_code
def yX11_setDigits : MethodName := ⟨RX11, "setDigits", "(I)I"⟩
abbrev cX11_digits : ByteArray := prog_1_method_3_code
def yX11_digits : MethodName := ⟨RX11, "digits", "()I"⟩
abbrev cX11_type : ByteArray := prog_1_method_4_code
def yX11_type : MethodName := ⟨RX11, "type", "(C)I"⟩
abbrev cX11_erase : ByteArray := prog_1_method_5_code
def yX11_erase : MethodName := ⟨RX11, "erase", "()I"⟩
abbrev cX11_signAt : ByteArray := prog_1_method_6_code
def yX11_signAt : MethodName := ⟨RX11, "signAt", "(I)C"⟩
abbrev cX11_put : ByteArray := prog_1_method_7_code
def yX11_put : MethodName := ⟨RX11, "put", "(IJI)Z"⟩
abbrev cX11_read : ByteArray := prog_1_method_8_code
def yX11_read : MethodName := ⟨RX11, "read", "(I)Z"⟩
abbrev cX11_constant : ByteArray := prog_1_method_9_code
def yX11_constant : MethodName := ⟨RX11, "constant", "(IC)Z"⟩
abbrev cX11_join : ByteArray := prog_1_method_10_code
def yX11_join : MethodName := ⟨RX11, "join", "(III)Z"⟩
abbrev cX11_meet : ByteArray := prog_1_method_11_code
def yX11_meet : MethodName := ⟨RX11, "meet", "(III)Z"⟩
abbrev cX11_low : ByteArray := prog_1_method_12_code
def yX11_low : MethodName := ⟨RX11, "low", "(I)I"⟩
abbrev cX11_high : ByteArray := prog_1_method_13_code
def yX11_high : MethodName := ⟨RX11, "high", "(I)I"⟩
abbrev cX11_width : ByteArray := prog_1_method_14_code
def yX11_width : MethodName := ⟨RX11, "width", "(I)I"⟩
abbrev cX11_isWithin : ByteArray := prog_1_method_15_code
def yX11_isWithin : MethodName := ⟨RX11, "isWithin", "(II)Z"⟩
abbrev cX11_compare : ByteArray := prog_1_method_16_code
def yX11_compare : MethodName := ⟨RX11, "compare", "(II)I"⟩
abbrev cX11_sure : ByteArray := prog_1_method_17_code
def yX11_sure : MethodName := ⟨RX11, "sure", "(I)I"⟩
abbrev cX11_undo : ByteArray := prog_1_method_18_code
def yX11_undo : MethodName := ⟨RX11, "undo", "()I"⟩
abbrev cX11_add : ByteArray := prog_1_method_19_code
def yX11_add : MethodName := ⟨RX11, "add", "(III)Z"⟩
abbrev cX11_subtract : ByteArray := prog_1_method_20_code
def yX11_subtract : MethodName := ⟨RX11, "subtract", "(III)Z"⟩
abbrev cX11_multiply : ByteArray := prog_1_method_21_code
def yX11_multiply : MethodName := ⟨RX11, "multiply", "(III)Z"⟩
abbrev cX11_divide : ByteArray := prog_1_method_22_code
def yX11_divide : MethodName := ⟨RX11, "divide", "(III)Z"⟩
abbrev cX11_power : ByteArray := prog_1_method_23_code
def yX11_power : MethodName := ⟨RX11, "power", "(III)Z"⟩
abbrev cX11_root : ByteArray := prog_1_method_24_code
def yX11_root : MethodName := ⟨RX11, "root", "(III)Z"⟩
abbrev cX11_apply : ByteArray := prog_1_method_25_code
def yX11_apply : MethodName := ⟨RX11, "apply", "(IIC)Z"⟩
abbrev cX11_solve : ByteArray := prog_1_method_26_code
def yX11_solve : MethodName := ⟨RX11, "solve", "(IIZ)Z"⟩
abbrev cX11_define : ByteArray := prog_1_method_27_code
def yX11_define : MethodName := ⟨RX11, "define", "(I)I"⟩
abbrev cX11_hasY : ByteArray := prog_1_method_28_code
def yX11_hasY : MethodName := ⟨RX11, "hasY", "(I)Z"⟩
abbrev cX11_value : ByteArray := prog_1_method_29_code
def yX11_value : MethodName := ⟨RX11, "value", "(IIII)Z"⟩
abbrev cX11_slope : ByteArray := prog_1_method_30_code
def yX11_slope : MethodName := ⟨RX11, "slope", "(IIII)Z"⟩
abbrev cX11_decide : ByteArray := prog_1_method_31_code
def yX11_decide : MethodName := ⟨RX11, "decide", "(III)I"⟩
abbrev cX11_zeros : ByteArray := prog_1_method_32_code
def yX11_zeros : MethodName := ⟨RX11, "zeros", "(III)I"⟩
abbrev cX11_pieceKind : ByteArray := prog_1_method_33_code
def yX11_pieceKind : MethodName := ⟨RX11, "pieceKind", "(I)C"⟩
abbrev cX11_piece : ByteArray := prog_1_method_34_code
def yX11_piece : MethodName := ⟨RX11, "piece", "(II)Z"⟩
abbrev cX11_narrow : ByteArray := prog_1_method_35_code
def yX11_narrow : MethodName := ⟨RX11, "narrow", "(III)Z"⟩
abbrev cX11_pairs : ByteArray := prog_1_method_36_code
def yX11_pairs : MethodName := ⟨RX11, "pairs", "(IIIII)I"⟩
abbrev cX11_least : ByteArray := prog_1_method_37_code
def yX11_least : MethodName := ⟨RX11, "least", "(IIII)Z"⟩
abbrev cX11_greatest : ByteArray := prog_1_method_38_code
def yX11_greatest : MethodName := ⟨RX11, "greatest", "(IIII)Z"⟩
abbrev cX11_area : ByteArray := prog_1_method_39_code
def yX11_area : MethodName := ⟨RX11, "area", "(IIII)Z"⟩
abbrev cX11_move : ByteArray := prog_1_method_40_code
def yX11_move : MethodName := ⟨RX11, "move", "(IIII)Z"⟩
abbrev cX11_held : ByteArray := prog_1_method_41_code
def yX11_held : MethodName := ⟨RX11, "held", "()I"⟩
abbrev cX11_checksum : ByteArray := prog_1_method_42_code
def yX11_checksum : MethodName := ⟨RX11, "checksum", "()J"⟩
abbrev cX11_isSound : ByteArray := prog_1_method_43_code
def yX11_isSound : MethodName := ⟨RX11, "isSound", "()Z"⟩
abbrev cX11_checkShelf : ByteArray := prog_1_method_44_code
def yX11_checkShelf : MethodName := ⟨RX11, "checkShelf", "(I)V"⟩
abbrev cX11_checkShelves : ByteArray := prog_1_method_45_code
def yX11_checkShelves : MethodName := ⟨RX11, "checkShelves", "(III)V"⟩
abbrev cX11_checkHeld : ByteArray := prog_1_method_46_code
def yX11_checkHeld : MethodName := ⟨RX11, "checkHeld", "(I)V"⟩
abbrev cX11_checkPair : ByteArray := prog_1_method_47_code
def yX11_checkPair : MethodName := ⟨RX11, "checkPair", "(II)V"⟩
abbrev cX11_checkFormula : ByteArray := prog_1_method_48_code
def yX11_checkFormula : MethodName := ⟨RX11, "checkFormula", "(I)V"⟩
abbrev cX11_checkDefined : ByteArray := prog_1_method_49_code
def yX11_checkDefined : MethodName := ⟨RX11, "checkDefined", "(I)V"⟩
abbrev cX11_checkNoY : ByteArray := prog_1_method_50_code
def yX11_checkNoY : MethodName := ⟨RX11, "checkNoY", "(I)V"⟩
abbrev cX11_checkCuts : ByteArray := prog_1_method_51_code
def yX11_checkCuts : MethodName := ⟨RX11, "checkCuts", "(II)V"⟩
abbrev cX11_checkPiece : ByteArray := prog_1_method_52_code
def yX11_checkPiece : MethodName := ⟨RX11, "checkPiece", "(I)V"⟩
abbrev cX11_checkFormulaCall : ByteArray := prog_1_method_53_code
def yX11_checkFormulaCall : MethodName := ⟨RX11, "checkFormulaCall", "(IIII)V"⟩
abbrev cX11_checkBoundsCall : ByteArray := prog_1_method_54_code
def yX11_checkBoundsCall : MethodName := ⟨RX11, "checkBoundsCall", "(IIII)V"⟩
abbrev cX11_checkStatus : ByteArray := prog_1_method_55_code
def yX11_checkStatus : MethodName := ⟨RX11, "checkStatus", "(I)V"⟩
abbrev cX11_become : ByteArray := prog_1_method_56_code
def yX11_become : MethodName := ⟨RX11, "become", "(II)Z"⟩
abbrev cX11_fill : ByteArray := prog_1_method_57_code
def yX11_fill : MethodName := ⟨RX11, "fill", "(ILBoxedvalue$Box;)Z"⟩
abbrev cX11_combine : ByteArray := prog_1_method_58_code
def yX11_combine : MethodName := ⟨RX11, "combine", "(IIIC)Z"⟩
abbrev cX11_change : ByteArray := prog_1_method_59_code
def yX11_change : MethodName := ⟨RX11, "change", "(IICI)Z"⟩
abbrev cX11_crossed : ByteArray := prog_1_method_60_code
def yX11_crossed : MethodName := ⟨RX11, "crossed", "(IIII)I"⟩
abbrev cX11_sideOf : ByteArray := prog_1_method_61_code
def yX11_sideOf : MethodName := ⟨RX11, "sideOf", "(LBoxedvalue$Formula;LBoxedvalue$Formula;LBoxedvalue$Box;)I"⟩
abbrev cX11_canBeZero : ByteArray := prog_1_method_62_code
def yX11_canBeZero : MethodName := ⟨RX11, "canBeZero", "(LBoxedvalue$Formula;)Z"⟩
abbrev cX11_judge : ByteArray := prog_1_method_63_code
def yX11_judge : MethodName := ⟨RX11, "judge", "(LBoxedvalue$Formula;LBoxedvalue$Box;)C"⟩
abbrev cX11_kindByEnds : ByteArray := prog_1_method_64_code
def yX11_kindByEnds : MethodName := ⟨RX11, "kindByEnds", "(LBoxedvalue$Box;LBoxedvalue$Box;)C"⟩
abbrev cX11_makeNarrowed : ByteArray := prog_1_method_65_code
def yX11_makeNarrowed : MethodName := ⟨RX11, "makeNarrowed", "(LBoxedvalue$Formula;LBoxedvalue$Box;)I"⟩
abbrev cX11_seekExtreme : ByteArray := prog_1_method_66_code
def yX11_seekExtreme : MethodName := ⟨RX11, "seekExtreme", "(LBoxedvalue$Formula;LBoxedvalue$Box;IZ)I"⟩
abbrev cX11_takeExtreme : ByteArray := prog_1_method_67_code
def yX11_takeExtreme : MethodName := ⟨RX11, "takeExtreme", "(LBoxedvalue$Box;LBoxedvalue$Box;ZZ)V"⟩
abbrev cX11_sumUp : ByteArray := prog_1_method_68_code
def yX11_sumUp : MethodName := ⟨RX11, "sumUp", "(LBoxedvalue$Formula;LBoxedvalue$Box;I)I"⟩
abbrev cX11_makeMoved : ByteArray := prog_1_method_69_code
def yX11_makeMoved : MethodName := ⟨RX11, "makeMoved", "(LBoxedvalue$Formula;LBoxedvalue$Box;I)I"⟩
abbrev cX11_makeAlong : ByteArray := prog_1_method_70_code
def yX11_makeAlong : MethodName := ⟨RX11, "makeAlong", "(LBoxedvalue$Box;LBoxedvalue$Box;LBoxedvalue$Box;)I"⟩
abbrev cX11_isConstantSound : ByteArray := prog_1_method_71_code
def yX11_isConstantSound : MethodName := ⟨RX11, "isConstantSound", "(C)Z"⟩
abbrev cX11_isValueSound : ByteArray := prog_1_method_72_code
def yX11_isValueSound : MethodName := ⟨RX11, "isValueSound", "(LBoxedvalue$Formula;LBoxedvalue$Box;)Z"⟩
abbrev cX11_unitOf : ByteArray := prog_1_method_73_code
def yX11_unitOf : MethodName := ⟨RX11, "unitOf", "(I)J"⟩
def RX12 : String := "BoxedvalueModel"
def TX12 : u_T := fun k => match k with
  | 0 => ("BoxedvalueModel", "limbs", "[J", true)
  | 1 => ("BoxedvalueModel", "many", "[I", true)
  | 2 => ("BoxedvalueModel", "digits", "I", false)
  | 3 => ("BoxedvalueModel", "code", "I", false)
  | 4 => ("BoxedvalueModel", "upper", "J", false)
  | 5 => ("BoxedvalueModel", "lower", "J", false)
  | 6 => ("BoxedvalueModel", "lowUpper", "[J", true)
  | 7 => ("BoxedvalueModel", "lowLower", "[J", true)
  | 8 => ("BoxedvalueModel", "highUpper", "[J", true)
  | 9 => ("BoxedvalueModel", "highLower", "[J", true)
  | 10 => ("BoxedvalueModel", "has", "[Z", true)
  | 11 => ("BoxedvalueModel", "free", "I", false)
  | 12 => ("BoxedvalueModel", "hasPi", "Z", false)
  | 13 => ("BoxedvalueModel", "hasLog", "Z", false)
  | 14 => ("BoxedvalueModel", "hasBase", "Z", false)
  | 15 => ("BoxedvalueModel", "text", "[C", true)
  | 16 => ("BoxedvalueModel", "spelled", "[C", true)
  | 17 => ("BoxedvalueModel", "length", "I", false)
  | 18 => ("BoxedvalueModel", "letters", "I", false)
  | 19 => ("BoxedvalueModel", "keptShelves", "[I", true)
  | 20 => ("BoxedvalueModel", "keptHas", "[Z", true)
  | 21 => ("BoxedvalueModel", "keptLowUpper", "[J", true)
  | 22 => ("BoxedvalueModel", "keptLowLower", "[J", true)
  | 23 => ("BoxedvalueModel", "keptHighUpper", "[J", true)
  | 24 => ("BoxedvalueModel", "keptHighLower", "[J", true)
  | 25 => ("BoxedvalueModel", "kept", "I", false)
  | 26 => ("BoxedvalueModel", "kinds", "[C", true)
  | 27 => ("BoxedvalueModel", "lefts", "[I", true)
  | 28 => ("BoxedvalueModel", "rights", "[I", true)
  | 29 => ("BoxedvalueModel", "points", "[I", true)
  | 30 => ("BoxedvalueModel", "numbers", "[J", true)
  | 31 => ("BoxedvalueModel", "roots", "[I", true)
  | 32 => ("BoxedvalueModel", "sizes", "[I", true)
  | 33 => ("BoxedvalueModel", "isDefined", "[Z", true)
  | 34 => ("BoxedvalueModel", "at", "I", false)
  | 35 => ("BoxedvalueModel", "parts", "I", false)
  | 36 => ("BoxedvalueModel", "fault", "I", false)
  | 37 => ("BoxedvalueModel", "xBox", "I", false)
  | 38 => ("BoxedvalueModel", "yBox", "I", false)
  | 39 => ("BoxedvalueModel", "found", "[C", true)
  | 40 => ("BoxedvalueModel", "next", "[C", true)
  | 41 => ("BoxedvalueModel", "pieces", "I", false)
  | _ => ("BoxedvalueModel", "nexts", "I", false)
def tyX12 : Nat → FieldType := fun k => match k with
  | 0 => .array .long
  | 1 => .array .int
  | 2 => .int
  | 3 => .int
  | 4 => .long
  | 5 => .long
  | 6 => .array .long
  | 7 => .array .long
  | 8 => .array .long
  | 9 => .array .long
  | 10 => .array .boolean
  | 11 => .int
  | 12 => .boolean
  | 13 => .boolean
  | 14 => .boolean
  | 15 => .array .char
  | 16 => .array .char
  | 17 => .int
  | 18 => .int
  | 19 => .array .int
  | 20 => .array .boolean
  | 21 => .array .long
  | 22 => .array .long
  | 23 => .array .long
  | 24 => .array .long
  | 25 => .int
  | 26 => .array .char
  | 27 => .array .int
  | 28 => .array .int
  | 29 => .array .int
  | 30 => .array .long
  | 31 => .array .int
  | 32 => .array .int
  | 33 => .array .boolean
  | 34 => .int
  | 35 => .int
  | 36 => .int
  | 37 => .int
  | 38 => .int
  | 39 => .array .char
  | 40 => .array .char
  | 41 => .int
  | _ => .int
abbrev wsX120 : List Cond := u_ws RX12 TX12 43
theorem nmX12 : ∀ a, a < 43 → ∀ b, b < 43 → a ≠ b → (TX12 a).2.1 ≠ (TX12 b).2.1 := by decide +kernel
theorem tyX12_ok : ∀ k, k < 43 → parseFieldDescriptor (TX12 k).2.2.1 = some (tyX12 k) := by decide +kernel
abbrev cX12_init : ByteArray := prog_14_method_1_code
def yX12_init : MethodName := ⟨RX12, "<init>", "()V"⟩
abbrev cX12_limb : ByteArray := prog_14_method_2_code
def yX12_limb : MethodName := ⟨RX12, "limb", "(II)J"⟩
abbrev cX12_lets : ByteArray := prog_14_method_3_code
def yX12_lets : MethodName := ⟨RX12, "lets", "(IIJ)V"⟩
abbrev cX12_trims : ByteArray := prog_14_method_4_code
def yX12_trims : MethodName := ⟨RX12, "trims", "(I)V"⟩
abbrev cX12_sets : ByteArray := prog_14_method_5_code
def yX12_sets : MethodName := ⟨RX12, "sets", "(IJJ)V"⟩
abbrev cX12_copies : ByteArray := prog_14_method_6_code
def yX12_copies : MethodName := ⟨RX12, "copies", "(II)V"⟩
abbrev cX12_compares : ByteArray := prog_14_method_7_code
def yX12_compares : MethodName := ⟨RX12, "compares", "(II)I"⟩
abbrev cX12_plus : ByteArray := prog_14_method_8_code
def yX12_plus : MethodName := ⟨RX12, "plus", "(II)V"⟩
abbrev cX12_less : ByteArray := prog_14_method_9_code
def yX12_less : MethodName := ⟨RX12, "less", "(II)V"⟩
abbrev cX12_scales : ByteArray := prog_14_method_10_code
def yX12_scales : MethodName := ⟨RX12, "scales", "(IJ)V"⟩
abbrev cX12_parts : ByteArray := prog_14_method_11_code
def yX12_parts : MethodName := ⟨RX12, "parts", "(IJ)J"⟩
abbrev cX12_times : ByteArray := prog_14_method_12_code
def yX12_times : MethodName := ⟨RX12, "times", "(II)V"⟩
abbrev cX12_shifts : ByteArray := prog_14_method_13_code
def yX12_shifts : MethodName := ⟨RX12, "shifts", "(II)V"⟩
abbrev cX12_ten : ByteArray := prog_14_method_14_code
def yX12_ten : MethodName := ⟨RX12, "ten", "(I)J"⟩
abbrev cX12_tens : ByteArray := prog_14_method_15_code
def yX12_tens : MethodName := ⟨RX12, "tens", "(II)Z"⟩
abbrev cX12_divides : ByteArray := prog_14_method_16_code
def yX12_divides : MethodName := ⟨RX12, "divides", "()V"⟩
abbrev cX12_thrown : ByteArray := prog_14_method_17_code
def yX12_thrown : MethodName := ⟨RX12, "thrown", "()I"⟩
abbrev cX12_fails : ByteArray := prog_14_method_18_code
def yX12_fails : MethodName := ⟨RX12, "fails", "(I)Z"⟩
abbrev cX12_in : ByteArray := prog_14_method_19_code
def yX12_in : MethodName := ⟨RX12, "in", "(JJJ)Z"⟩
abbrev cX12_modulo : ByteArray := prog_14_method_20_code
def yX12_modulo : MethodName := ⟨RX12, "modulo", "(JJ)J"⟩
abbrev cX12_order : ByteArray := prog_14_method_21_code
def yX12_order : MethodName := ⟨RX12, "order", "(JJJJ)I"⟩
abbrev cX12_isTooGreat : ByteArray := prog_14_method_22_code
def yX12_isTooGreat : MethodName := ⟨RX12, "isTooGreat", "()Z"⟩
abbrev cX12_rounds : ByteArray := prog_14_method_23_code
def yX12_rounds : MethodName := ⟨RX12, "rounds", "(IZ)V"⟩
abbrev cX12_turns : ByteArray := prog_14_method_24_code
def yX12_turns : MethodName := ⟨RX12, "turns", "()V"⟩
abbrev cX12_tells : ByteArray := prog_14_method_25_code
def yX12_tells : MethodName := ⟨RX12, "tells", "(IZZZ)Z"⟩
abbrev cX12_isSingle : ByteArray := prog_14_method_26_code
def yX12_isSingle : MethodName := ⟨RX12, "isSingle", "(I)Z"⟩
abbrev cX12_takes : ByteArray := prog_14_method_27_code
def yX12_takes : MethodName := ⟨RX12, "takes", "(II)V"⟩
abbrev cX12_low : ByteArray := prog_14_method_28_code
def yX12_low : MethodName := ⟨RX12, "low", "(IJJ)V"⟩
abbrev cX12_high : ByteArray := prog_14_method_29_code
def yX12_high : MethodName := ⟨RX12, "high", "(IJJ)V"⟩
abbrev cX12_single : ByteArray := prog_14_method_30_code
def yX12_single : MethodName := ⟨RX12, "single", "(IJJ)V"⟩
abbrev cX12_isBelow : ByteArray := prog_14_method_31_code
def yX12_isBelow : MethodName := ⟨RX12, "isBelow", "(I)Z"⟩
abbrev cX12_holdsNothing : ByteArray := prog_14_method_32_code
def yX12_holdsNothing : MethodName := ⟨RX12, "holdsNothing", "(I)Z"⟩
abbrev cX12_holds0 : ByteArray := prog_14_method_33_code
def yX12_holds0 : MethodName := ⟨RX12, "holds0", "(I)Z"⟩
abbrev cX12_isAbove0 : ByteArray := prog_14_method_34_code
def yX12_isAbove0 : MethodName := ⟨RX12, "isAbove0", "(I)Z"⟩
abbrev cX12_isBelow0 : ByteArray := prog_14_method_35_code
def yX12_isBelow0 : MethodName := ⟨RX12, "isBelow0", "(I)Z"⟩
abbrev cX12_size : ByteArray := prog_14_method_36_code
def yX12_size : MethodName := ⟨RX12, "size", "(IJJ)V"⟩
abbrev cX12_adds : ByteArray := prog_14_method_37_code
def yX12_adds : MethodName := ⟨RX12, "adds", "(JJJJZ)Z"⟩
abbrev cX12_sum : ByteArray := prog_14_method_38_code
def yX12_sum : MethodName := ⟨RX12, "sum", "(III)I"⟩
abbrev cX12_turned : ByteArray := prog_14_method_39_code
def yX12_turned : MethodName := ⟨RX12, "turned", "(II)V"⟩
abbrev cX12_difference : ByteArray := prog_14_method_40_code
def yX12_difference : MethodName := ⟨RX12, "difference", "(III)I"⟩
abbrev cX12_again : ByteArray := prog_14_method_41_code
def yX12_again : MethodName := ⟨RX12, "again", "(II)I"⟩
abbrev cX12_negative : ByteArray := prog_14_method_42_code
def yX12_negative : MethodName := ⟨RX12, "negative", "(II)I"⟩
abbrev cX12_unsigned : ByteArray := prog_14_method_43_code
def yX12_unsigned : MethodName := ⟨RX12, "unsigned", "(II)I"⟩
abbrev cX12_pair : ByteArray := prog_14_method_44_code
def yX12_pair : MethodName := ⟨RX12, "pair", "(IZIZZZ)Z"⟩
abbrev cX12_four : ByteArray := prog_14_method_45_code
def yX12_four : MethodName := ⟨RX12, "four", "(IIIZ)I"⟩
abbrev cX12_product : ByteArray := prog_14_method_46_code
def yX12_product : MethodName := ⟨RX12, "product", "(III)I"⟩
abbrev cX12_quotient : ByteArray := prog_14_method_47_code
def yX12_quotient : MethodName := ⟨RX12, "quotient", "(III)I"⟩
abbrev cX12_powers : ByteArray := prog_14_method_48_code
def yX12_powers : MethodName := ⟨RX12, "powers", "(JJIZ)Z"⟩
abbrev cX12_lifted : ByteArray := prog_14_method_49_code
def yX12_lifted : MethodName := ⟨RX12, "lifted", "(III)I"⟩
abbrev cX12_roots : ByteArray := prog_14_method_50_code
def yX12_roots : MethodName := ⟨RX12, "roots", "(JJIZ)Z"⟩
abbrev cX12_rooted : ByteArray := prog_14_method_51_code
def yX12_rooted : MethodName := ⟨RX12, "rooted", "(III)I"⟩
abbrev cX12_unit : ByteArray := prog_14_method_52_code
def yX12_unit : MethodName := ⟨RX12, "unit", "(I)V"⟩
abbrev cX12_odds : ByteArray := prog_14_method_53_code
def yX12_odds : MethodName := ⟨RX12, "odds", "(IJZ)V"⟩
abbrev cX12_needsPi : ByteArray := prog_14_method_54_code
def yX12_needsPi : MethodName := ⟨RX12, "needsPi", "()V"⟩
abbrev cX12_needsLog : ByteArray := prog_14_method_55_code
def yX12_needsLog : MethodName := ⟨RX12, "needsLog", "()V"⟩
abbrev cX12_series : ByteArray := prog_14_method_56_code
def yX12_series : MethodName := ⟨RX12, "series", "()V"⟩
abbrev cX12_needsBase : ByteArray := prog_14_method_57_code
def yX12_needsBase : MethodName := ⟨RX12, "needsBase", "()V"⟩
abbrev cX12_deep : ByteArray := prog_14_method_58_code
def yX12_deep : MethodName := ⟨RX12, "deep", "(IZZ)Z"⟩
abbrev cX12_raises : ByteArray := prog_14_method_59_code
def yX12_raises : MethodName := ⟨RX12, "raises", "(JJZ)Z"⟩
abbrev cX12_logs : ByteArray := prog_14_method_60_code
def yX12_logs : MethodName := ⟨RX12, "logs", "(JJZ)Z"⟩
abbrev cX12_arcs : ByteArray := prog_14_method_61_code
def yX12_arcs : MethodName := ⟨RX12, "arcs", "(JJZ)Z"⟩
abbrev cX12_rises : ByteArray := prog_14_method_62_code
def yX12_rises : MethodName := ⟨RX12, "rises", "(CJJZ)Z"⟩
abbrev cX12_rising : ByteArray := prog_14_method_63_code
def yX12_rising : MethodName := ⟨RX12, "rising", "(IIC)I"⟩
abbrev cX12_known : ByteArray := prog_14_method_64_code
def yX12_known : MethodName := ⟨RX12, "known", "(IZ)V"⟩
abbrev cX12_number : ByteArray := prog_14_method_65_code
def yX12_number : MethodName := ⟨RX12, "number", "(IIIZ)I"⟩
abbrev cX12_setDigits : ByteArray := prog_14_method_66_code
def yX12_setDigits : MethodName := ⟨RX12, "setDigits", "(I)I"⟩
abbrev cX12_digits : ByteArray := prog_14_method_67_code
def yX12_digits : MethodName := ⟨RX12, "digits", "()I"⟩
abbrev cX12_type : ByteArray := prog_14_method_68_code
def yX12_type : MethodName := ⟨RX12, "type", "(C)I"⟩
abbrev cX12_erase : ByteArray := prog_14_method_69_code
def yX12_erase : MethodName := ⟨RX12, "erase", "()I"⟩
abbrev cX12_signAt : ByteArray := prog_14_method_70_code
def yX12_signAt : MethodName := ⟨RX12, "signAt", "(I)C"⟩
abbrev cX12_spells : ByteArray := prog_14_method_71_code
def yX12_spells : MethodName := ⟨RX12, "spells", "(JJ)V"⟩
abbrev cX12_writes : ByteArray := prog_14_method_72_code
def yX12_writes : MethodName := ⟨RX12, "writes", "(JJ)I"⟩
abbrev cX12_isDigit : ByteArray := prog_14_method_73_code
def yX12_isDigit : MethodName := ⟨RX12, "isDigit", "(C)Z"⟩
abbrev cX12_isShelf : ByteArray := prog_14_method_74_code
def yX12_isShelf : MethodName := ⟨RX12, "isShelf", "(I)Z"⟩
abbrev cX12_becomes : ByteArray := prog_14_method_75_code
def yX12_becomes : MethodName := ⟨RX12, "becomes", "(II)Z"⟩
abbrev cX12_undo : ByteArray := prog_14_method_76_code
def yX12_undo : MethodName := ⟨RX12, "undo", "()I"⟩
abbrev cX12_put : ByteArray := prog_14_method_77_code
def yX12_put : MethodName := ⟨RX12, "put", "(IJI)Z"⟩
abbrev cX12_scaleOf : ByteArray := prog_14_method_78_code
def yX12_scaleOf : MethodName := ⟨RX12, "scaleOf", "()I"⟩
abbrev cX12_read : ByteArray := prog_14_method_79_code
def yX12_read : MethodName := ⟨RX12, "read", "(I)Z"⟩
abbrev cX12_constant : ByteArray := prog_14_method_80_code
def yX12_constant : MethodName := ⟨RX12, "constant", "(IC)Z"⟩
abbrev cX12_noPair : ByteArray := prog_14_method_81_code
def yX12_noPair : MethodName := ⟨RX12, "noPair", "(III)I"⟩
abbrev cX12_joins : ByteArray := prog_14_method_82_code
def yX12_joins : MethodName := ⟨RX12, "joins", "(IIIZ)Z"⟩
abbrev cX12_join : ByteArray := prog_14_method_83_code
def yX12_join : MethodName := ⟨RX12, "join", "(III)Z"⟩
abbrev cX12_meet : ByteArray := prog_14_method_84_code
def yX12_meet : MethodName := ⟨RX12, "meet", "(III)Z"⟩
abbrev cX12_noBox : ByteArray := prog_14_method_85_code
def yX12_noBox : MethodName := ⟨RX12, "noBox", "(I)I"⟩
abbrev cX12_low_ : ByteArray := prog_14_method_86_code
def yX12_low_ : MethodName := ⟨RX12, "low", "(I)I"⟩
abbrev cX12_high_ : ByteArray := prog_14_method_87_code
def yX12_high_ : MethodName := ⟨RX12, "high", "(I)I"⟩
abbrev cX12_spans : ByteArray := prog_14_method_88_code
def yX12_spans : MethodName := ⟨RX12, "spans", "(I)V"⟩
abbrev cX12_width : ByteArray := prog_14_method_89_code
def yX12_width : MethodName := ⟨RX12, "width", "(I)I"⟩
abbrev cX12_isWithinOf : ByteArray := prog_14_method_90_code
def yX12_isWithinOf : MethodName := ⟨RX12, "isWithinOf", "(II)Z"⟩
abbrev cX12_isWithin : ByteArray := prog_14_method_91_code
def yX12_isWithin : MethodName := ⟨RX12, "isWithin", "(II)Z"⟩
abbrev cX12_isLess : ByteArray := prog_14_method_92_code
def yX12_isLess : MethodName := ⟨RX12, "isLess", "(II)Z"⟩
abbrev cX12_compare : ByteArray := prog_14_method_93_code
def yX12_compare : MethodName := ⟨RX12, "compare", "(II)I"⟩
abbrev cX12_sure : ByteArray := prog_14_method_94_code
def yX12_sure : MethodName := ⟨RX12, "sure", "(I)I"⟩
abbrev cX12_makes : ByteArray := prog_14_method_95_code
def yX12_makes : MethodName := ⟨RX12, "makes", "(IIII)Z"⟩
abbrev cX12_add : ByteArray := prog_14_method_96_code
def yX12_add : MethodName := ⟨RX12, "add", "(III)Z"⟩
abbrev cX12_subtract : ByteArray := prog_14_method_97_code
def yX12_subtract : MethodName := ⟨RX12, "subtract", "(III)Z"⟩
abbrev cX12_multiply : ByteArray := prog_14_method_98_code
def yX12_multiply : MethodName := ⟨RX12, "multiply", "(III)Z"⟩
abbrev cX12_divide : ByteArray := prog_14_method_99_code
def yX12_divide : MethodName := ⟨RX12, "divide", "(III)Z"⟩
abbrev cX12_acts : ByteArray := prog_14_method_100_code
def yX12_acts : MethodName := ⟨RX12, "acts", "(ICII)I"⟩
abbrev cX12_made : ByteArray := prog_14_method_101_code
def yX12_made : MethodName := ⟨RX12, "made", "(ICII)Z"⟩
abbrev cX12_power : ByteArray := prog_14_method_102_code
def yX12_power : MethodName := ⟨RX12, "power", "(III)Z"⟩
abbrev cX12_root : ByteArray := prog_14_method_103_code
def yX12_root : MethodName := ⟨RX12, "root", "(III)Z"⟩
abbrev cX12_apply : ByteArray := prog_14_method_104_code
def yX12_apply : MethodName := ⟨RX12, "apply", "(IIC)Z"⟩
abbrev cX12_crossed : ByteArray := prog_14_method_105_code
def yX12_crossed : MethodName := ⟨RX12, "crossed", "(IIIII)I"⟩
abbrev cX12_solve : ByteArray := prog_14_method_106_code
def yX12_solve : MethodName := ⟨RX12, "solve", "(IIZ)Z"⟩
abbrev cX12_isFormula : ByteArray := prog_14_method_107_code
def yX12_isFormula : MethodName := ⟨RX12, "isFormula", "(I)Z"⟩
abbrev cX12_sign : ByteArray := prog_14_method_108_code
def yX12_sign : MethodName := ⟨RX12, "sign", "()C"⟩
abbrev cX12_part : ByteArray := prog_14_method_109_code
def yX12_part : MethodName := ⟨RX12, "part", "(CII)I"⟩
abbrev cX12_faults : ByteArray := prog_14_method_110_code
def yX12_faults : MethodName := ⟨RX12, "faults", "()I"⟩
abbrev cX12_readSum : ByteArray := prog_14_method_111_code
def yX12_readSum : MethodName := ⟨RX12, "readSum", "()I"⟩
abbrev cX12_readProduct : ByteArray := prog_14_method_112_code
def yX12_readProduct : MethodName := ⟨RX12, "readProduct", "()I"⟩
abbrev cX12_readPower : ByteArray := prog_14_method_113_code
def yX12_readPower : MethodName := ⟨RX12, "readPower", "()I"⟩
abbrev cX12_readAtom : ByteArray := prog_14_method_114_code
def yX12_readAtom : MethodName := ⟨RX12, "readAtom", "()I"⟩
abbrev cX12_readNumber : ByteArray := prog_14_method_115_code
def yX12_readNumber : MethodName := ⟨RX12, "readNumber", "()I"⟩
abbrev cX12_define : ByteArray := prog_14_method_116_code
def yX12_define : MethodName := ⟨RX12, "define", "(I)I"⟩
abbrev cX12_hasYOf : ByteArray := prog_14_method_117_code
def yX12_hasYOf : MethodName := ⟨RX12, "hasYOf", "(I)Z"⟩
abbrev cX12_hasY : ByteArray := prog_14_method_118_code
def yX12_hasY : MethodName := ⟨RX12, "hasY", "(I)Z"⟩
abbrev cX12_whole : ByteArray := prog_14_method_119_code
def yX12_whole : MethodName := ⟨RX12, "whole", "(IJ)I"⟩
abbrev cX12_values : ByteArray := prog_14_method_120_code
def yX12_values : MethodName := ⟨RX12, "values", "(II)I"⟩
abbrev cX12_slopes : ByteArray := prog_14_method_121_code
def yX12_slopes : MethodName := ⟨RX12, "slopes", "(II)I"⟩
abbrev cX12_told : ByteArray := prog_14_method_122_code
def yX12_told : MethodName := ⟨RX12, "told", "(IIIIZ)I"⟩
abbrev cX12_makes_ : ByteArray := prog_14_method_123_code
def yX12_makes_ : MethodName := ⟨RX12, "makes", "(IIIIZ)Z"⟩
abbrev cX12_value : ByteArray := prog_14_method_124_code
def yX12_value : MethodName := ⟨RX12, "value", "(IIII)Z"⟩
abbrev cX12_slope : ByteArray := prog_14_method_125_code
def yX12_slope : MethodName := ⟨RX12, "slope", "(IIII)Z"⟩
abbrev cX12_decide : ByteArray := prog_14_method_126_code
def yX12_decide : MethodName := ⟨RX12, "decide", "(III)I"⟩
abbrev cX12_middle : ByteArray := prog_14_method_127_code
def yX12_middle : MethodName := ⟨RX12, "middle", "(II)V"⟩
abbrev cX12_canCut : ByteArray := prog_14_method_128_code
def yX12_canCut : MethodName := ⟨RX12, "canCut", "(I)Z"⟩
abbrev cX12_half : ByteArray := prog_14_method_129_code
def yX12_half : MethodName := ⟨RX12, "half", "(IIZ)V"⟩
abbrev cX12_tellsOf : ByteArray := prog_14_method_131_code
def yX12_tellsOf : MethodName := ⟨RX12, "tellsOf", "(II)C"⟩
abbrev cX12_signOf : ByteArray := prog_14_method_132_code
def yX12_signOf : MethodName := ⟨RX12, "signOf", "(JJ)I"⟩
abbrev cX12_ends : ByteArray := prog_14_method_133_code
def yX12_ends : MethodName := ⟨RX12, "ends", "(II)C"⟩
abbrev cX12_looks : ByteArray := prog_14_method_134_code
def yX12_looks : MethodName := ⟨RX12, "looks", "(III)V"⟩
abbrev cX12_noLook : ByteArray := prog_14_method_135_code
def yX12_noLook : MethodName := ⟨RX12, "noLook", "(II)I"⟩
abbrev cX12_zeros : ByteArray := prog_14_method_136_code
def yX12_zeros : MethodName := ⟨RX12, "zeros", "(III)I"⟩
abbrev cX12_pieceKind : ByteArray := prog_14_method_137_code
def yX12_pieceKind : MethodName := ⟨RX12, "pieceKind", "(I)C"⟩
abbrev cX12_piece : ByteArray := prog_14_method_138_code
def yX12_piece : MethodName := ⟨RX12, "piece", "(II)Z"⟩
abbrev cX12_narrow : ByteArray := prog_14_method_139_code
def yX12_narrow : MethodName := ⟨RX12, "narrow", "(III)Z"⟩
abbrev cX12_cutsInto : ByteArray := prog_14_method_140_code
def yX12_cutsInto : MethodName := ⟨RX12, "cutsInto", "(III)I"⟩
abbrev cX12_canBe0 : ByteArray := prog_14_method_141_code
def yX12_canBe0 : MethodName := ⟨RX12, "canBe0", "(III)Z"⟩
abbrev cX12_pairs : ByteArray := prog_14_method_142_code
def yX12_pairs : MethodName := ⟨RX12, "pairs", "(IIIII)I"⟩
abbrev cX12_noBounds : ByteArray := prog_14_method_143_code
def yX12_noBounds : MethodName := ⟨RX12, "noBounds", "(IIII)I"⟩
abbrev cX12_extreme : ByteArray := prog_14_method_144_code
def yX12_extreme : MethodName := ⟨RX12, "extreme", "(IIIIZ)I"⟩
abbrev cX12_bounds : ByteArray := prog_14_method_145_code
def yX12_bounds : MethodName := ⟨RX12, "bounds", "(IIIIZ)Z"⟩
abbrev cX12_least : ByteArray := prog_14_method_146_code
def yX12_least : MethodName := ⟨RX12, "least", "(IIII)Z"⟩
abbrev cX12_greatest : ByteArray := prog_14_method_147_code
def yX12_greatest : MethodName := ⟨RX12, "greatest", "(IIII)Z"⟩
abbrev cX12_areas : ByteArray := prog_14_method_148_code
def yX12_areas : MethodName := ⟨RX12, "areas", "(IIII)I"⟩
abbrev cX12_area : ByteArray := prog_14_method_149_code
def yX12_area : MethodName := ⟨RX12, "area", "(IIII)Z"⟩
abbrev cX12_outward : ByteArray := prog_14_method_150_code
def yX12_outward : MethodName := ⟨RX12, "outward", "(I)I"⟩
abbrev cX12_moves : ByteArray := prog_14_method_151_code
def yX12_moves : MethodName := ⟨RX12, "moves", "(IIII)I"⟩
abbrev cX12_move : ByteArray := prog_14_method_152_code
def yX12_move : MethodName := ⟨RX12, "move", "(IIII)Z"⟩
abbrev cX12_held : ByteArray := prog_14_method_153_code
def yX12_held : MethodName := ⟨RX12, "held", "()I"⟩
abbrev cX12_spelledInto : ByteArray := prog_14_method_154_code
def yX12_spelledInto : MethodName := ⟨RX12, "spelledInto", "(JJJ)J"⟩
abbrev cX12_checksum : ByteArray := prog_14_method_155_code
def yX12_checksum : MethodName := ⟨RX12, "checksum", "()J"⟩
abbrev cX12_isSound : ByteArray := prog_14_method_156_code
def yX12_isSound : MethodName := ⟨RX12, "isSound", "()Z"⟩
def RJx145de : String := "java/io/Serializable"
def TJx145de : u_T := fun k => match k with
  | _ => ("", "", "", false)
def tyJx145de : Nat → FieldType := fun k => match k with
  | _ => .int
abbrev wsJx145de0 : List Cond := u_ws RJx145de TJx145de 0
theorem nmJx145de : ∀ a, a < 0 → ∀ b, b < 0 → a ≠ b → (TJx145de a).2.1 ≠ (TJx145de b).2.1 := by decide +kernel
theorem tyJx145de_ok : ∀ k, k < 0 → parseFieldDescriptor (TJx145de k).2.2.1 = some (tyJx145de k) := by decide +kernel
def RJx00060 : String := "java/lang/ArrayIndexOutOfBoundsException"
def TJx00060 : u_T := fun k => match k with
  | 0 => ("java/lang/Throwable", "backtrace", "Ljava/lang/Object;", false)
  | 1 => ("java/lang/Throwable", "detailMessage", "Ljava/lang/String;", false)
  | 2 => ("java/lang/Throwable", "cause", "Ljava/lang/Throwable;", false)
  | 3 => ("java/lang/Throwable", "stackTrace", "[Ljava/lang/StackTraceElement;", false)
  | 4 => ("java/lang/Throwable", "depth", "I", false)
  | _ => ("java/lang/Throwable", "suppressedExceptions", "Ljava/util/List;", false)
def tyJx00060 : Nat → FieldType := fun k => match k with
  | 0 => .object "java/lang/Object"
  | 1 => .object "java/lang/String"
  | 2 => .object "java/lang/Throwable"
  | 3 => .array (.object "java/lang/StackTraceElement")
  | 4 => .int
  | _ => .object "java/util/List"
abbrev wsJx000600 : List Cond := u_ws RJx00060 TJx00060 6
theorem nmJx00060 : ∀ a, a < 6 → ∀ b, b < 6 → a ≠ b → (TJx00060 a).2.1 ≠ (TJx00060 b).2.1 := by decide +kernel
theorem tyJx00060_ok : ∀ k, k < 6 → parseFieldDescriptor (TJx00060 k).2.2.1 = some (tyJx00060 k) := by decide +kernel
abbrev cJx00060_init_a7421 : ByteArray := prog_17_method_2_code
def yJx00060_init_a7421 : MethodName := ⟨RJx00060, "<init>", "(Ljava/lang/String;)V"⟩
def RJx9f9b0 : String := "java/lang/CharSequence"
def TJx9f9b0 : u_T := fun k => match k with
  | _ => ("", "", "", false)
def tyJx9f9b0 : Nat → FieldType := fun k => match k with
  | _ => .int
abbrev wsJx9f9b00 : List Cond := u_ws RJx9f9b0 TJx9f9b0 0
theorem nmJx9f9b0 : ∀ a, a < 0 → ∀ b, b < 0 → a ≠ b → (TJx9f9b0 a).2.1 ≠ (TJx9f9b0 b).2.1 := by decide +kernel
theorem tyJx9f9b0_ok : ∀ k, k < 0 → parseFieldDescriptor (TJx9f9b0 k).2.2.1 = some (tyJx9f9b0 k) := by decide +kernel
def RJxb160c : String := "java/lang/Comparable"
def TJxb160c : u_T := fun k => match k with
  | _ => ("", "", "", false)
def tyJxb160c : Nat → FieldType := fun k => match k with
  | _ => .int
abbrev wsJxb160c0 : List Cond := u_ws RJxb160c TJxb160c 0
theorem nmJxb160c : ∀ a, a < 0 → ∀ b, b < 0 → a ≠ b → (TJxb160c a).2.1 ≠ (TJxb160c b).2.1 := by decide +kernel
theorem tyJxb160c_ok : ∀ k, k < 0 → parseFieldDescriptor (TJxb160c k).2.2.1 = some (tyJxb160c k) := by decide +kernel
def RJ13 : String := "java/lang/Long"
def TJ13 : u_T := fun k => match k with
  | _ => ("", "", "", false)
def tyJ13 : Nat → FieldType := fun k => match k with
  | _ => .int
abbrev wsJ130 : List Cond := u_ws RJ13 TJ13 0
theorem nmJ13 : ∀ a, a < 0 → ∀ b, b < 0 → a ≠ b → (TJ13 a).2.1 ≠ (TJ13 b).2.1 := by decide +kernel
theorem tyJ13_ok : ∀ k, k < 0 → parseFieldDescriptor (TJ13 k).2.2.1 = some (tyJ13 k) := by decide +kernel
abbrev cJ13_compare_74951 : ByteArray := prog_24_method_42_code
def yJ13_compare_74951 : MethodName := ⟨RJ13, "compare", "(JJ)I"⟩
def RJ9 : String := "java/lang/Math"
def TJ9 : u_T := fun k => match k with
  | _ => ("", "", "", false)
def tyJ9 : Nat → FieldType := fun k => match k with
  | _ => .int
abbrev wsJ90 : List Cond := u_ws RJ9 TJ9 0
theorem nmJ9 : ∀ a, a < 0 → ∀ b, b < 0 → a ≠ b → (TJ9 a).2.1 ≠ (TJ9 b).2.1 := by decide +kernel
theorem tyJ9_ok : ∀ k, k < 0 → parseFieldDescriptor (TJ9 k).2.2.1 = some (tyJ9 k) := by decide +kernel
abbrev cJ9_floorDiv_f86c9 : ByteArray := prog_25_method_49_code
def yJ9_floorDiv_f86c9 : MethodName := ⟨RJ9, "floorDiv", "(JJ)J"⟩
abbrev cJ9_floorMod_f86c9 : ByteArray := prog_25_method_52_code
def yJ9_floorMod_f86c9 : MethodName := ⟨RJ9, "floorMod", "(JJ)J"⟩
abbrev cJ9_abs_0f7a4 : ByteArray := prog_25_method_59_code
def yJ9_abs_0f7a4 : MethodName := ⟨RJ9, "abs", "(I)I"⟩
def RJ0 : String := "java/lang/String"
def TJ0 : u_T := fun k => match k with
  | 0 => ("java/lang/String", "value", "[B", true)
  | _ => ("java/lang/String", "coder", "B", true)
def tyJ0 : Nat → FieldType := fun k => match k with
  | 0 => .array .byte
  | _ => .byte
abbrev wsJ00 : List Cond := u_ws RJ0 TJ0 2
theorem nmJ0 : ∀ a, a < 2 → ∀ b, b < 2 → a ≠ b → (TJ0 a).2.1 ≠ (TJ0 b).2.1 := by decide +kernel
theorem tyJ0_ok : ∀ k, k < 2 → parseFieldDescriptor (TJ0 k).2.2.1 = some (tyJ0 k) := by decide +kernel
abbrev cJ0_length_8abf5 : ByteArray := prog_27_method_54_code
def yJ0_length_8abf5 : MethodName := ⟨RJ0, "length", "()I"⟩
abbrev cJ0_charAt_5068e : ByteArray := prog_27_method_56_code
def yJ0_charAt_5068e : MethodName := ⟨RJ0, "charAt", "(I)C"⟩
abbrev cJ0_coder_7d493 : ByteArray := prog_27_method_152_code
def yJ0_coder_7d493 : MethodName := ⟨RJ0, "coder", "()B"⟩
abbrev cJ0_isLatin1_aae02 : ByteArray := prog_27_method_154_code
def yJ0_isLatin1_aae02 : MethodName := ⟨RJ0, "isLatin1", "()Z"⟩
abbrev cJ0_checkIndex_df160 : ByteArray := prog_27_method_155_code
def yJ0_checkIndex_df160 : MethodName := ⟨RJ0, "checkIndex", "(II)V"⟩
def RJ1 : String := "java/lang/StringLatin1"
def TJ1 : u_T := fun k => match k with
  | _ => ("", "", "", false)
def tyJ1 : Nat → FieldType := fun k => match k with
  | _ => .int
abbrev wsJ10 : List Cond := u_ws RJ1 TJ1 0
theorem nmJ1 : ∀ a, a < 0 → ∀ b, b < 0 → a ≠ b → (TJ1 a).2.1 ≠ (TJ1 b).2.1 := by decide +kernel
theorem tyJ1_ok : ∀ k, k < 0 → parseFieldDescriptor (TJ1 k).2.2.1 = some (tyJ1 k) := by decide +kernel
abbrev cJ1_charAt_3b067 : ByteArray := prog_28_method_2_code
def yJ1_charAt_3b067 : MethodName := ⟨RJ1, "charAt", "([BI)C"⟩
def RJ2 : String := "java/lang/StringUTF16"
def TJ2 : u_T := fun k => match k with
  | _ => ("", "", "", false)
def tyJ2 : Nat → FieldType := fun k => match k with
  | _ => .int
abbrev wsJ20 : List Cond := u_ws RJ2 TJ2 0
theorem nmJ2 : ∀ a, a < 0 → ∀ b, b < 0 → a ≠ b → (TJ2 a).2.1 ≠ (TJ2 b).2.1 := by decide +kernel
theorem tyJ2_ok : ∀ k, k < 0 → parseFieldDescriptor (TJ2 k).2.2.1 = some (tyJ2 k) := by decide +kernel
abbrev cJ2_getChar_3b067 : ByteArray := prog_29_method_5_code
def yJ2_getChar_3b067 : MethodName := ⟨RJ2, "getChar", "([BI)C"⟩
abbrev cJ2_length_9d52b : ByteArray := prog_29_method_6_code
def yJ2_length_9d52b : MethodName := ⟨RJ2, "length", "([B)I"⟩
abbrev cJ2_charAt_3b067 : ByteArray := prog_29_method_83_code
def yJ2_charAt_3b067 : MethodName := ⟨RJ2, "charAt", "([BI)C"⟩
abbrev cJ2_checkIndex_2214a : ByteArray := prog_29_method_91_code
def yJ2_checkIndex_2214a : MethodName := ⟨RJ2, "checkIndex", "(I[B)V"⟩
def RJxfd54e : String := "java/lang/constant/Constable"
def TJxfd54e : u_T := fun k => match k with
  | _ => ("", "", "", false)
def tyJxfd54e : Nat → FieldType := fun k => match k with
  | _ => .int
abbrev wsJxfd54e0 : List Cond := u_ws RJxfd54e TJxfd54e 0
theorem nmJxfd54e : ∀ a, a < 0 → ∀ b, b < 0 → a ≠ b → (TJxfd54e a).2.1 ≠ (TJxfd54e b).2.1 := by decide +kernel
theorem tyJxfd54e_ok : ∀ k, k < 0 → parseFieldDescriptor (TJxfd54e k).2.2.1 = some (tyJxfd54e k) := by decide +kernel
def RJx3cf43 : String := "java/lang/constant/ConstantDesc"
def TJx3cf43 : u_T := fun k => match k with
  | _ => ("", "", "", false)
def tyJx3cf43 : Nat → FieldType := fun k => match k with
  | _ => .int
abbrev wsJx3cf430 : List Cond := u_ws RJx3cf43 TJx3cf43 0
theorem nmJx3cf43 : ∀ a, a < 0 → ∀ b, b < 0 → a ≠ b → (TJx3cf43 a).2.1 ≠ (TJx3cf43 b).2.1 := by decide +kernel
theorem tyJx3cf43_ok : ∀ k, k < 0 → parseFieldDescriptor (TJx3cf43 k).2.2.1 = some (tyJx3cf43 k) := by decide +kernel
def RJ3 : String := "jdk/internal/util/Preconditions"
def TJ3 : u_T := fun k => match k with
  | _ => ("", "", "", false)
def tyJ3 : Nat → FieldType := fun k => match k with
  | _ => .int
abbrev wsJ30 : List Cond := u_ws RJ3 TJ3 0
theorem nmJ3 : ∀ a, a < 0 → ∀ b, b < 0 → a ≠ b → (TJ3 a).2.1 ≠ (TJ3 b).2.1 := by decide +kernel
theorem tyJ3_ok : ∀ k, k < 0 → parseFieldDescriptor (TJ3 k).2.2.1 = some (tyJ3 k) := by decide +kernel
abbrev cJ3_checkIndex_8e157 : ByteArray := prog_35_method_11_code
def yJ3_checkIndex_8e157 : MethodName := ⟨RJ3, "checkIndex", "(IILjava/util/function/BiFunction;)I"⟩
def RL : String := "BoxedvalueLaw"
abbrev cL_setDigits : ByteArray := method_3_code
def yL_setDigits : MethodName := ⟨RL, "setDigits", "(LBoxedvalue;I[J)I"⟩
abbrev cL_type : ByteArray := method_4_code
def yL_type : MethodName := ⟨RL, "type", "(LBoxedvalue;C[J)I"⟩
abbrev cL_signAt : ByteArray := method_5_code
def yL_signAt : MethodName := ⟨RL, "signAt", "(LBoxedvalue;I[J)I"⟩
abbrev cL_put : ByteArray := method_6_code
def yL_put : MethodName := ⟨RL, "put", "(LBoxedvalue;IJI[J)I"⟩
abbrev cL_read : ByteArray := method_7_code
def yL_read : MethodName := ⟨RL, "read", "(LBoxedvalue;I[J)I"⟩
abbrev cL_constant : ByteArray := method_8_code
def yL_constant : MethodName := ⟨RL, "constant", "(LBoxedvalue;IC[J)I"⟩
abbrev cL_join : ByteArray := method_9_code
def yL_join : MethodName := ⟨RL, "join", "(LBoxedvalue;III[J)I"⟩
abbrev cL_meet : ByteArray := method_10_code
def yL_meet : MethodName := ⟨RL, "meet", "(LBoxedvalue;III[J)I"⟩
abbrev cL_low : ByteArray := method_11_code
def yL_low : MethodName := ⟨RL, "low", "(LBoxedvalue;I[J)I"⟩
abbrev cL_high : ByteArray := method_12_code
def yL_high : MethodName := ⟨RL, "high", "(LBoxedvalue;I[J)I"⟩
abbrev cL_width : ByteArray := method_13_code
def yL_width : MethodName := ⟨RL, "width", "(LBoxedvalue;I[J)I"⟩
abbrev cL_isWithin : ByteArray := method_14_code
def yL_isWithin : MethodName := ⟨RL, "isWithin", "(LBoxedvalue;II[J)I"⟩
abbrev cL_compare : ByteArray := method_15_code
def yL_compare : MethodName := ⟨RL, "compare", "(LBoxedvalue;II[J)I"⟩
abbrev cL_sure : ByteArray := method_16_code
def yL_sure : MethodName := ⟨RL, "sure", "(LBoxedvalue;I[J)I"⟩
abbrev cL_undo : ByteArray := method_17_code
def yL_undo : MethodName := ⟨RL, "undo", "(LBoxedvalue;[J)I"⟩
abbrev cL_add : ByteArray := method_18_code
def yL_add : MethodName := ⟨RL, "add", "(LBoxedvalue;III[J)I"⟩
abbrev cL_subtract : ByteArray := method_19_code
def yL_subtract : MethodName := ⟨RL, "subtract", "(LBoxedvalue;III[J)I"⟩
abbrev cL_multiply : ByteArray := method_20_code
def yL_multiply : MethodName := ⟨RL, "multiply", "(LBoxedvalue;III[J)I"⟩
abbrev cL_divide : ByteArray := method_21_code
def yL_divide : MethodName := ⟨RL, "divide", "(LBoxedvalue;III[J)I"⟩
abbrev cL_power : ByteArray := method_22_code
def yL_power : MethodName := ⟨RL, "power", "(LBoxedvalue;III[J)I"⟩
abbrev cL_root : ByteArray := method_23_code
def yL_root : MethodName := ⟨RL, "root", "(LBoxedvalue;III[J)I"⟩
abbrev cL_apply : ByteArray := method_24_code
def yL_apply : MethodName := ⟨RL, "apply", "(LBoxedvalue;IIC[J)I"⟩
abbrev cL_solve : ByteArray := method_25_code
def yL_solve : MethodName := ⟨RL, "solve", "(LBoxedvalue;IIZ[J)I"⟩
abbrev cL_define : ByteArray := method_26_code
def yL_define : MethodName := ⟨RL, "define", "(LBoxedvalue;I[J)I"⟩
abbrev cL_hasY : ByteArray := method_27_code
def yL_hasY : MethodName := ⟨RL, "hasY", "(LBoxedvalue;I[J)I"⟩
abbrev cL_value : ByteArray := method_28_code
def yL_value : MethodName := ⟨RL, "value", "(LBoxedvalue;IIII[J)I"⟩
abbrev cL_slope : ByteArray := method_29_code
def yL_slope : MethodName := ⟨RL, "slope", "(LBoxedvalue;IIII[J)I"⟩
abbrev cL_decide : ByteArray := method_30_code
def yL_decide : MethodName := ⟨RL, "decide", "(LBoxedvalue;III[J)I"⟩
abbrev cL_zeros : ByteArray := method_31_code
def yL_zeros : MethodName := ⟨RL, "zeros", "(LBoxedvalue;III[J)I"⟩
abbrev cL_pieceKind : ByteArray := method_32_code
def yL_pieceKind : MethodName := ⟨RL, "pieceKind", "(LBoxedvalue;I[J)I"⟩
abbrev cL_piece : ByteArray := method_33_code
def yL_piece : MethodName := ⟨RL, "piece", "(LBoxedvalue;II[J)I"⟩
abbrev cL_narrow : ByteArray := method_34_code
def yL_narrow : MethodName := ⟨RL, "narrow", "(LBoxedvalue;III[J)I"⟩
abbrev cL_pairs : ByteArray := method_35_code
def yL_pairs : MethodName := ⟨RL, "pairs", "(LBoxedvalue;IIIII[J)I"⟩
abbrev cL_least : ByteArray := method_36_code
def yL_least : MethodName := ⟨RL, "least", "(LBoxedvalue;IIII[J)I"⟩
abbrev cL_greatest : ByteArray := method_37_code
def yL_greatest : MethodName := ⟨RL, "greatest", "(LBoxedvalue;IIII[J)I"⟩
abbrev cL_area : ByteArray := method_38_code
def yL_area : MethodName := ⟨RL, "area", "(LBoxedvalue;IIII[J)I"⟩
abbrev cL_move : ByteArray := method_39_code
def yL_move : MethodName := ⟨RL, "move", "(LBoxedvalue;IIII[J)I"⟩
abbrev cL_law : ByteArray := code
def yL_law : MethodName := ⟨RL, "law", "([I)Z"⟩
abbrev vwCl : List vw_C := [(RJ0, TJ0, 2), (RJx00060, TJx00060, 6), (RX0, TX0, 6), (RX1, TX1, 2), (RX2, TX2, 2), (RX3, TX3, 13), (RX4, TX4, 2), (RX5, TX5, 12), (RX6, TX6, 8), (RX7, TX7, 4), (RX8, TX8, 13), (RX9, TX9, 7), (RX10, TX10, 2), (RX11, TX11, 17), (RX12, TX12, 43)]
end
section
/-! THE WORLD: cells in a row from the address B on; ct says what each holds (refs are B + k). Every contract passes the whole world through. -/
def bA (B : Nat) : Nat → Prop := fun q => B ≤ q
def bw_up (ct : Nat → va_E) (r : Nat) (v : va_E) : Nat → va_E := fun k => if k = r then v else ct k
theorem bw_eq (ct : Nat → va_E) (r : Nat) (v : va_E) : bw_up ct r v r = v := by simp [bw_up]
theorem bw_ne {ct : Nat → va_E} {r k : Nat} {v : va_E} (h : k ≠ r) : bw_up ct r v k = ct k := by simp [bw_up, h]
theorem bw_id {ct : Nat → va_E} {r : Nat} {v : va_E} (h : ct r = v) : bw_up ct r v = ct := by
  funext k
  by_cases hk : k = r
  · subst hk; rw [bw_eq, h]
  · rw [bw_ne hk]
theorem bw_tw (ct : Nat → va_E) (r : Nat) (v w : va_E) : bw_up (bw_up ct r v) r w = bw_up ct r w := by
  funext k
  by_cases hk : k = r
  · subst hk; rw [bw_eq, bw_eq]
  · rw [bw_ne hk, bw_ne hk, bw_ne hk]
abbrev b_tys (cy : Nat → ClassId) : List (ClassId × FieldType) := [(cy 0, .char), (cy 1, .int), (cy 2, .long), (cy 3, .boolean), (cy 4, .object "Boxedvalue$Box"), (cy 5, .object "Boxedvalue$Formula")]
def bw (D : va_G) (B n : Nat) (ct : Nat → va_E) (H : Heap) : Prop := B + n ≤ H.size ∧ ∀ k : Nat, k < n → va_at D vwCl (B + k, ct k) H
def bS (D : va_G) (B n : Nat) (ct : Nat → va_E) (s : State) (H : Heap) (locs : List Loc) : Prop := bw D B n ct H ∧ va_S (bA B) s.heap H locs
theorem bw.kept {D : va_G} {B n : Nat} {ct : Nat → va_E} {H H1 : Heap} (h : bw D B n ct H) (hz : H.size ≤ H1.size) (hq : ∀ q : Nat, q < H.size → H1[q]? = H[q]?) : bw D B n ct H1 :=
  ⟨Nat.le_trans h.1 hz, fun k hk => va_at.kept (h.2 k hk) (hq _ (by have := h.1; show B + k < _; omega))⟩
theorem bw.sing {D : va_G} {B n : Nat} {ct : Nat → va_E} {H : Heap} (h : bw D B n ct H) {r : Nat} (hr : r < n) {x : va_E} (he : ct r = x) : va_P D vwCl [(B + r, x)] H := by
  intro k q hk
  have hz : k < 1 := (List.getElem?_eq_some_iff.mp hk).1
  rw [show k = 0 by omega] at hk
  cases hk
  rw [← he]
  exact h.2 r hr
/-- one cell anew, the others as they were -/
theorem bw.upd {D : va_G} {B n : Nat} {ct : Nat → va_E} {H H1 : Heap} (h : bw D B n ct H) {r : Nat} (v : va_E) (h1 : va_at D vwCl (B + r, v) H1) (hz : H1.size = H.size) (hq : ∀ q : Nat, q ≠ B + r → H1[q]? = H[q]?) : bw D B n (bw_up ct r v) H1 := by
  refine ⟨by rw [hz]; exact h.1, fun k hk => ?_⟩
  by_cases hkr : k = r
  · subst hkr; rw [bw_eq]; exact h1
  · rw [bw_ne hkr]
    exact va_at.kept (h.2 k hk) (hq _ (by show B + k ≠ B + r; omega))
/-- a cell more -/
theorem bw.push {D : va_G} {B n : Nat} {ct : Nat → va_E} {H H1 : Heap} (h : bw D B n ct H) (hz0 : H.size = B + n) (v : va_E) (h1 : va_at D vwCl (B + n, v) H1) (hz : H1.size = H.size + 1) (hq : ∀ q : Nat, q < H.size → H1[q]? = H[q]?) : bw D B (n + 1) (bw_up ct n v) H1 := by
  refine ⟨by omega, fun k hk => ?_⟩
  by_cases hkr : k = n
  · subst hkr; rw [bw_eq]; exact h1
  · rw [bw_ne hkr]
    exact va_at.kept (h.2 k (by omega)) (hq _ (by show B + k < _; omega))
theorem bS.put {D : va_G} {B n : Nat} {ct : Nat → va_E} {s : State} {H H1 : Heap} {locs : List Loc} (h : bS D B n ct s H locs) {r i : Nat} (v : va_E) (h1 : va_at D vwCl (B + r, v) H1) (hz : H1.size = H.size) (hq : ∀ q : Nat, q ≠ B + r → H1[q]? = H[q]?) : bS D B n (bw_up ct r v) s H1 (locs ++ [⟨B + r, i⟩]) :=
  ⟨h.1.upd v h1 hz hq, h.2.put hz hq (show bA B (B + r) from Nat.le_add_right _ _)⟩
/-- what holds outside the world's cells, of the machine: the classes, the static arrays and the script (X j, their fields), strings of messages, casts that fail -/
abbrev KE : Type := va_G × (Nat → ClassId) × Nat × (Nat → Nat) × List (FieldType × Nat × (Nat → Value) × Option (String × String × String)) × List (String × Nat × String) × List (String × String)
abbrev KE.D (K : KE) : va_G := K.1
abbrev KE.cy (K : KE) : Nat → ClassId := K.2.1
abbrev KE.B (K : KE) : Nat := K.2.2.1
abbrev KE.X (K : KE) : Nat → Nat := K.2.2.2.1
abbrev KE.arr (K : KE) : List (FieldType × Nat × (Nat → Value) × Option (String × String × String)) := K.2.2.2.2.1
abbrev KE.str (K : KE) : List (String × Nat × String) := K.2.2.2.2.2.1
abbrev KE.nc (K : KE) : List (String × String) := K.2.2.2.2.2.2
/-- words that hold but don't keep: what the exceptions' constructors declare, the links to a nest mate's static field -/
def bwD : List MethodName := [Bundle.initS "java/lang/RuntimeException", Bundle.initS "java/lang/Exception", Bundle.initS Bundle.tN]
def bwN : List (String × Nat × String × String × String × String) := [("Boxedvalue$Text", 45, "Boxedvalue", "TENS", "[J", "Boxedvalue"), ("Boxedvalue$Reckoner", 84, "Boxedvalue", "TENS", "[J", "Boxedvalue")]
def bwM : List (String × Nat × MethodName × String) := [("Boxedvalue$Acts", 44, ⟨"Boxedvalue", "unitOf", "(I)J"⟩, "Boxedvalue"), ("Boxedvalue$Machine", 70, ⟨"Boxedvalue$Formula", "isPair", "(C)Z"⟩, "Boxedvalue")]
def bK (K : KE) (U : State) : Prop :=
  va_K K.D vwCl (b_tys K.cy) U ∧
  (∀ (j : Nat) (q : FieldType × Nat × (Nat → Value) × Option (String × String × String)), K.arr[j]? = some q → va_T q.1 (K.X j) q.2.1 q.2.2.1 (bA K.B) U U.heap ∧ ∀ f : String × String × String, q.2.2.2 = some f → va_Z f.1 f.2.1 f.2.2 (.ref (K.X j)) (bA K.B) U U.heap) ∧
  vx_Zq Bundle.tN "UNASSIGNED_STACK" Bundle.steD (bA K.B) U U.heap ∧ vx_Zq Bundle.tN "SUPPRESSED_SENTINEL" Bundle.listD (bA K.B) U U.heap ∧
  (∀ q ∈ K.str, ∃ sa : Nat, vk_R q.1 q.2.1 q.2.2 sa U) ∧ va_AO "Boxedvalue$Box" U ∧ va_AO "Boxedvalue$Formula" U ∧ (∀ q ∈ K.nc, va_Nc q.1 q.2 U) ∧ K.B ≤ U.heap.size ∧
  (∀ x ∈ bwD, va_Nw (.declares x) U) ∧ (∀ q ∈ bwN, va_Nw (.fieldLinkNest q.1 q.2.1 q.2.2.1 q.2.2.2.1 q.2.2.2.2.1 q.2.2.2.2.2) U) ∧ (∀ q ∈ bwM, va_Nw (.methodLinkNest q.1 q.2.1 q.2.2.1 q.2.2.2) U)
theorem bK.to {K : KE} {s U : State} {H : Heap} {locs : List Loc} (h : bK K s) (hS : va_S (bA K.B) s.heap H locs) (hU : U.heap = H) (hW : s.WarmedH U.vm) : bK K U := by
  obtain ⟨h1, h2, h4, h5, h6, h7, h8, h9, h10, h11, h12, h13⟩ := h
  subst hU
  refine ⟨va_K.moved hW.alike h1, fun j q hj => ⟨va_T.moved hW.alike ((h2 j q hj).1.kept hS.2.1), fun f hf => va_Z.moved hW.alike (((h2 j q hj).2 f hf).kept hS.2.1)⟩, vx_Zq.moved hW.alike (h4.kept hS.2.1), vx_Zq.moved hW.alike (h5.kept hS.2.1), fun q hq => ?_, h7.moved hW.alike, h8.moved hW.alike, fun q hq => (h9 q hq).moved hW.alike, Nat.le_trans h10 hS.1, fun x hx => (h11 x hx).warmD hW, fun q hq => (h12 q hq).warmF hW, fun q hq => (h13 q hq).warmM hW⟩
  obtain ⟨sa, h⟩ := h6 q hq
  exact ⟨sa, vk_R.warm hW h⟩
/-- the words that every contract has: all of the tables that keep -/
def bw_G : List Cond := lw_tbl.filter goodWord
theorem bw_in {w : Cond} (h : w ∈ lw_tbl) (hg : goodWord w = true) : w ∈ bw_G := List.mem_filter.mpr ⟨h, hg⟩
theorem bw_Gok : ∀ w ∈ bw_G, goodWord w = true := fun w h => (List.mem_filter.mp h).2
def bPc (K : KE) (n : Nat) (ct : Nat → va_E) (ex : Bool) (av : List Value) : Array Value → State → Prop :=
  va_Pc av (fun U => bw K.D K.B n ct U.heap ∧ bK K U ∧ (ex = true → U.heap.size = K.B + n))
end
section
/-! ROWS over the world: an instruction each. C0: machine and method; hw: world and frame. -/
theorem bK.calling {K : KE} {U : State} (g : JFrame) (mk : MethodId) (a : Array Value) (h : bK K U) : bK K (U.calling g mk a) := by
  obtain ⟨h1, h2, h4, h5, h6, h7, h8, h9, h10, h11, h12, h13⟩ := h
  have hv := Vm.Alike.refl U.vm
  refine ⟨va_K.moved (u := U) (U := U.calling g mk a) hv h1, fun j q hj => ⟨va_T.moved (u := U) (U := U.calling g mk a) hv (h2 j q hj).1, fun f hf => va_Z.moved (u := U) (U := U.calling g mk a) hv ((h2 j q hj).2 f hf)⟩, vx_Zq.moved (u := U) (U := U.calling g mk a) hv h4, vx_Zq.moved (u := U) (U := U.calling g mk a) hv h5, fun q hq => ?_, va_AO.moved (u := U) (U := U.calling g mk a) hv h7, va_AO.moved (u := U) (U := U.calling g mk a) hv h8, fun q hq => va_Nc.moved (u := U) (U := U.calling g mk a) hv (h9 q hq), h10, fun x hx => va_Nw.same (u := U) (U := U.calling g mk a) rfl rfl (h11 x hx), fun q hq => va_Nw.same (u := U) (U := U.calling g mk a) rfl rfl (h12 q hq), fun q hq => va_Nw.same (u := U) (U := U.calling g mk a) rfl rfl (h13 q hq)⟩
  obtain ⟨sa, h⟩ := h6 q hq
  exact ⟨sa, vk_R.same (u := U) (U := U.calling g mk a) rfl h⟩
theorem bPc.blind {K : KE} {n : Nat} {ct : Nat → va_E} {ex : Bool} {av : List Value} : FrameBlind (bPc K n ct ex av) := fun _ _ g mk q => ⟨q.1, q.2.1, q.2.2.1.calling g mk _, q.2.2.2⟩
section BR
variable {p : Program} {l : Launch} {e : Env} {R : Room} {s : State} {m : MethodId} {args : Array Value} {below : List Frame} {meth : Method} {c : Code} {H : Heap} {locs : List Loc} {cells slots : Nat} {Q : State → Prop}
variable {cc : ByteArray} {pc nL : Nat} {own : String} {ls : Array Slot} {rest : List Value} {K : KE} {n : Nat} {ct : Nat → va_E}
theorem br_get (C0 : CallFix p m c cc nL s args bw_G own) (hb : bK K s) (hw : bS K.D K.B n ct s H locs) {r : Nat} (hr : r < n) {ci : Nat} {fs : List Value} (he : ct r = .inr (ci, fs)) {C : String} {T : u_T} {N : Nat} (hc : vwCl[ci]? = some (C, T, N)) (hin : ∀ w ∈ u_ws C T N, w ∈ bw_G) (k : Nat) (hk : k < N) {index : Nat} (hlink : Cond.fieldLink own index (T k).1 (T k).2.1 (T k).2.2.1 ∈ bw_G) {v : Value} (hv : fs[k]? = some v) (hdg : decode cc pc = .ok (.getfield index, 3))
    (kk : W p l e R s m args below meth c H locs cells slots Q (F0 m (pc + 3) ls (v :: rest))) : W p l e R s m args below meth c H locs cells slots Q (F0 m pc ls (.ref (K.B + r) :: rest)) := by
  obtain ⟨hx, hcb, hml, hown, hts⟩ := C0
  exact va_get (ws := [(K.B + r, .inr (ci, fs))]) hx hcb hts hin hown hb.1 (hw.1.sing hr he) 0 rfl hc k hk (hts _ hlink) (fun _ h => h) hv hdg kk
theorem br_put (C0 : CallFix p m c cc nL s args bw_G own) (hb : bK K s) (hw : bS K.D K.B n ct s H locs) {r : Nat} (hr : r < n) {ci : Nat} {fs : List Value} (he : ct r = .inr (ci, fs)) {C : String} {T : u_T} {N : Nat} (hc : vwCl[ci]? = some (C, T, N)) (hin : ∀ w ∈ u_ws C T N, w ∈ bw_G) (ty0 : Nat → FieldType) (hty : ∀ k, k < N → parseFieldDescriptor (T k).2.2.1 = some (ty0 k)) (hnm : ∀ a, a < N → ∀ b, b < N → a ≠ b → (T a).2.1 ≠ (T b).2.1) (k : Nat) (hk : k < N) {index : Nat} (hlink : Cond.fieldLink own index (T k).1 (T k).2.1 (T k).2.2.1 ∈ bw_G) (hfin : (T k).2.2.2 = false ∨ ((T k).2.2.2 = true ∧ meth.name = "<init>" ∧ (T k).1 = own)) {v : Value} (hn : narrow (ty0 k) v = v) (hfit : fits (ty0 k) v = true) (hl : k < fs.length) (hdg : decode cc pc = .ok (.putfield index, 3))
    (kk : ∀ (H1 : Heap) (locs1 : List Loc), H1.size = H.size → bS K.D K.B n (bw_up ct r (.inr (ci, fs.set k v))) s H1 locs1 → W p l e R s m args below meth c H1 locs1 cells slots Q (F0 m (pc + 3) ls rest)) : W p l e R s m args below meth c H locs cells slots Q (F0 m pc ls (v :: .ref (K.B + r) :: rest)) := by
  obtain ⟨hx, hcb, hml, hown, hts⟩ := C0
  have hK := hb.1
  have hap := va_apart (own := own) hts hin ty0 hty hnm hK hc
  obtain ⟨r', h1, cell, q1, q2, q3, q4⟩ := (hw.1.sing hr he) 0 _ rfl
  have hr' : r' = (C, T, N) := Option.some.inj (h1.symm.trans hc)
  subst hr'
  obtain ⟨hS, hfc, kC, hkC, hkind⟩ := hK.1 ci _ hc
  obtain ⟨cf, kf, fi, f, hi, hsl⟩ := hS k hk
  have hlay := hts _ (hin _ (u_in_lay hk))
  unfold u_lay at hlay
  have hst' := (u_facts hfc hkC (u_lays hts hin hk) hi).1
  rcases hfin with hfin | ⟨hfin, hname, hdecl⟩
  · rw [if_neg (by rw [hfin]; decide)] at hlay
    have h6 := u_store hfc hkC hkind hlay hi (hty k hk) hn hfit
    refine W.putK hx hcb (f := f) ⟨hown, hts _ hlink, ⟨_, _, _, hi⟩, hst'⟩ (by rw [q2]; exact h6) q1 q3 (by rw [hsl]; exact k2_hasslot (q4 k hk)) rfl rfl hdg fun H' e1 e2 e3 => ?_
    rw [hsl] at e1 ⊢
    exact kk H' _ e2 (hw.put (.inr (ci, fs.set k v)) ⟨_, hc, t_OB.to (V := updV (vp_V fs) k v) ⟨_, e1, q2, q3, t_set q4 hap hk v⟩ (fun j _ => vp_updV_set hl v j)⟩ e2 e3)
  · rw [if_pos hfin] at hlay
    have hcf : m.cls = cf := by
      obtain ⟨_, _, c', _, _, _, -, -, hf', -, -, -, hown2, -⟩ := Cond.laysFinal_spec hlay
      have e1 : c' = cf := by have := hi.symm.trans hf'; simp at this; exact this.1.symm
      rw [hdecl] at hown2
      rw [← e1]; exact Option.some.inj (hown.symm.trans hown2)
    have h6 := u_fits hfc hkC hkind (Or.inr hlay) hi (hty k hk) hn hfit
    refine W.putFinK hx hcb hown (hts _ hlink) hi hst' hcf hname (by rw [q2]; exact h6) q1 q3 (by rw [hsl]; exact k2_hasslot (q4 k hk)) rfl rfl hdg fun H' e1 e2 e3 => ?_
    rw [hsl] at e1 ⊢
    exact kk H' _ e2 (hw.put (.inr (ci, fs.set k v)) ⟨_, hc, t_OB.to (V := updV (vp_V fs) k v) ⟨_, e1, q2, q3, t_set q4 hap hk v⟩ (fun j _ => vp_updV_set hl v j)⟩ e2 e3)
theorem br_new (C0 : CallFix p m c cc nL s args bw_G own) (hb : bK K s) (hB : K.B ≤ s.heap.size) (hw : bS K.D K.B n ct s H locs) (hz : H.size = K.B + n) {ci : Nat} {C : String} {T : u_T} {N : Nat} (hc : vwCl[ci]? = some (C, T, N)) (hin : ∀ w ∈ u_ws C T N, w ∈ bw_G) (ty : Nat → FieldType) (hty : ∀ k, k < N → parseFieldDescriptor (T k).2.2.1 = some (ty k)) {index : Nat} (hcl : Cond.classLink own index C ∈ bw_G) (hinst : Cond.instantiable C N ∈ bw_G) (hini : Cond.initialized C ∈ bw_G)
    {fs : List Value} (hfs : ∀ j, j < N → defaultValue (ty j) = vp_V fs j) (hcells : cells + 1 ≤ R.cells) (hslots : slots + N ≤ R.slots) (hdg : decode cc pc = .ok (.new index, 3))
    (kk : ∀ (H1 : Heap), H1.size = K.B + (n + 1) → bS K.D K.B (n + 1) (bw_up ct n (.inr (ci, fs))) s H1 locs → W p l e R s m args below meth c H1 locs (cells + 1) (slots + N) Q (F0 m (pc + 3) ls (.ref (K.B + n) :: rest))) : W p l e R s m args below meth c H locs cells slots Q (F0 m pc ls rest) := by
  obtain ⟨hx, hcb, hml, hown, hts⟩ := C0
  have hKn := hb.1.1 ci _ hc
  refine W.newcK hx hcb hown (hts _ hcl) (hts _ hinst) (hts _ hini) rfl hdg hcells hslots hKn.2.1 hz fun H1 kC hkC e1 z1 o1 => ?_
  have o2 : ∀ q : Nat, q < H.size → H1[q]? = H[q]? := fun q hq => o1 q (by rw [← hz]; exact hq)
  refine kk H1 z1 ⟨hw.1.push hz _ ⟨_, hc, (u_born ty hts hin hKn hkC e1 hty).to hfs⟩ (by rw [z1, hz]) o2, ?_⟩
  exact ⟨Nat.le_trans hw.2.1 (by omega), fun x h1 h2 => (o2 x (Nat.lt_of_lt_of_le h1 hw.2.1)).trans (hw.2.2.1 x h1 h2), hw.2.2.2⟩
theorem br_newa (C0 : CallFix p m c cc nL s args bw_G own) (hb : bK K s) (hw : bS K.D K.B n ct s H locs) (hz : H.size = K.B + n) {atype : ArrayType} {ty : FieldType} (hty : newarray.typeOf atype = ty) (harr : Cond.arrayClass ty ∈ bw_G) (t0 : Nat) {cA : ClassId} (ht : (b_tys K.cy)[t0]? = some (cA, ty)) (hno : ∀ U cB, va_RA U cB ty → U.vm.findClass ("[" ++ ty.toString) = some cB)
    {k : Int32} {N' : Nat} {a0 : vp_A} (ha : vp_cell cA a0 = arrV cA N' (fun _ => defaultValue ty)) (hn : ¬ k < 0) (hN : k.toNatClampNeg = N') (hbytes : N' * componentBytes ty ≤ 536870912) (hcells : cells + 1 ≤ R.cells) (hslots : slots + N' ≤ R.slots) (hdg : decode cc pc = .ok (.newarray atype, 2))
    (kk : ∀ (H1 : Heap), H1.size = K.B + (n + 1) → bS K.D K.B (n + 1) (bw_up ct n (.inl (cA, a0))) s H1 locs → W p l e R s m args below meth c H1 locs (cells + 1) (slots + N') Q (F0 m (pc + 2) ls (.ref (K.B + n) :: rest))) : W p l e R s m args below meth c H locs cells slots Q (F0 m pc ls (.int k :: rest)) := by
  obtain ⟨hx, hcb, hml, hown, hts⟩ := C0
  subst hty
  refine va_newaK hx hcb (hts _ harr) rfl hdg rfl hn hN hbytes hcells hslots hz fun H1 cB e1 z1 o1 hAr hNm => ?_
  have hAB : cB = cA := Option.some.inj (hNm.symm.trans (hno _ _ (hb.1.2 t0 _ ht).2))
  subst hAB
  have o2 : ∀ q : Nat, q < H.size → H1[q]? = H[q]? := fun q hq => o1 q (by rw [← hz]; exact hq)
  refine kk H1 z1 ⟨hw.1.push hz _ (show H1[K.B + n]? = some (vp_cell cB a0) by rw [ha]; exact e1) (by rw [z1, hz]) o2, ?_⟩
  exact ⟨Nat.le_trans hw.2.1 (by omega), fun x h1 h2 => (o2 x (Nat.lt_of_lt_of_le h1 hw.2.1)).trans (hw.2.2.1 x h1 h2), hw.2.2.2⟩
theorem br_newq (C0 : CallFix p m c cc nL s args bw_G own) (hb : bK K s) (hw : bS K.D K.B n ct s H locs) (hz : H.size = K.B + n) {C : String} {index : Nat} (hcl : Cond.classLink own index C ∈ bw_G) (hover : va_AO C s) (t0 : Nat) {cA : ClassId} (ht : (b_tys K.cy)[t0]? = some (cA, .object C))
    {k : Int32} {N' : Nat} (hn : ¬ k < 0) (hN : k.toNatClampNeg = N') (hbytes : N' * 4 ≤ 536870912) (hcells : cells + 1 ≤ R.cells) (hslots : slots + N' ≤ R.slots) (hdg : decode cc pc = .ok (.anewarray index, 3))
    (kk : ∀ (H1 : Heap), H1.size = K.B + (n + 1) → bS K.D K.B (n + 1) (bw_up ct n (.inl (cA, N', .inr (.inr (.inr (.inr (fun _ => none))))))) s H1 locs → W p l e R s m args below meth c H1 locs (cells + 1) (slots + N') Q (F0 m (pc + 3) ls (.ref (K.B + n) :: rest))) : W p l e R s m args below meth c H locs cells slots Q (F0 m pc ls (.int k :: rest)) := by
  obtain ⟨hx, hcb, hml, hown, hts⟩ := C0
  subst hN
  refine W.anew hx hcb hown (hts _ hcl) (va_AO.use hover) rfl hdg rfl hn hbytes hcells hslots fun cB kA comp f1 f2 f3 f4 => ?_
  obtain ⟨_, _, _, _, _, f5⟩ := (hb.1.2 t0 _ ht).2
  have hAB : cB = cA := Option.some.inj (f1.symm.trans f5)
  subst hAB
  generalize hH1 : H.push ({ cls := cB, slots := Array.replicate k.toNatClampNeg .null, vm := .none } : Cell) = H1
  have z1 : H1.size = H.size + 1 := by rw [← hH1, Array.size_push]
  have e1 : H1[H.size]? = some (arrV cB k.toNatClampNeg (fun _ => .null)) := by rw [← hH1, Array.getElem?_push_size, ← arrV_new]
  have o1 : ∀ q : Nat, q < H.size → H1[q]? = H[q]? := fun q hq => by rw [← hH1, Array.getElem?_push, if_neg (Nat.ne_of_lt hq)]
  rw [hz]
  refine kk H1 (by rw [z1, hz]; rfl) ⟨hw.1.push hz _ (show H1[K.B + n]? = some (vp_cell cB _) by rw [vp_cell_q, ← hz]; exact e1) z1 o1, ?_⟩
  exact ⟨Nat.le_trans hw.2.1 (by omega), fun x h1 h2 => (o1 x (Nat.lt_of_lt_of_le h1 hw.2.1)).trans (hw.2.2.1 x h1 h2), hw.2.2.2⟩
theorem br_iald (C0 : CallFix p m c cc nL s args bw_G own) (hb : bK K s) (hw : bS K.D K.B n ct s H locs) {r : Nat} (hr : r < n) {N : Nat} {f : Nat → Int32} (he : ct r = .inl (K.cy 1, N, .inl f)) {i : Int32} (hin : vp_in i N) (hdg : decode cc pc = .ok (.iaload, 1))
    (kk : W p l e R s m args below meth c H locs cells slots Q (F0 m (pc + 1) ls (.int (f i.toNatClampNeg) :: rest))) : W p l e R s m args below meth c H locs cells slots Q (F0 m pc ls (.int i :: .ref (K.B + r) :: rest)) :=
  va_iald C0.1 C0.2.1 hb.1 (hw.1.sing hr he) 0 1 rfl rfl hin hdg kk
theorem br_cald (C0 : CallFix p m c cc nL s args bw_G own) (hb : bK K s) (hw : bS K.D K.B n ct s H locs) {r : Nat} (hr : r < n) {N : Nat} {f : Nat → Int32} (he : ct r = .inl (K.cy 0, N, .inl f)) {i : Int32} (hin : vp_in i N) (hdg : decode cc pc = .ok (.caload, 1))
    (kk : W p l e R s m args below meth c H locs cells slots Q (F0 m (pc + 1) ls (.int (f i.toNatClampNeg) :: rest))) : W p l e R s m args below meth c H locs cells slots Q (F0 m pc ls (.int i :: .ref (K.B + r) :: rest)) :=
  va_cald C0.1 C0.2.1 hb.1 (hw.1.sing hr he) 0 0 rfl rfl hin hdg kk
theorem br_zald (C0 : CallFix p m c cc nL s args bw_G own) (hb : bK K s) (hw : bS K.D K.B n ct s H locs) {r : Nat} (hr : r < n) {N : Nat} {f : Nat → Int32} (he : ct r = .inl (K.cy 3, N, .inl f)) {i : Int32} (hin : vp_in i N) (hdg : decode cc pc = .ok (.baload, 1))
    (kk : W p l e R s m args below meth c H locs cells slots Q (F0 m (pc + 1) ls (.int (f i.toNatClampNeg) :: rest))) : W p l e R s m args below meth c H locs cells slots Q (F0 m pc ls (.int i :: .ref (K.B + r) :: rest)) :=
  va_zald C0.1 C0.2.1 hb.1 (hw.1.sing hr he) 0 3 rfl rfl hin hdg kk
theorem br_lald (C0 : CallFix p m c cc nL s args bw_G own) (hb : bK K s) (hw : bS K.D K.B n ct s H locs) {r : Nat} (hr : r < n) {N : Nat} {f : Nat → Int64} (he : ct r = .inl (K.cy 2, N, .inr (.inl f))) {i : Int32} (hin : vp_in i N) (hdg : decode cc pc = .ok (.laload, 1))
    (kk : W p l e R s m args below meth c H locs cells slots Q (F0 m (pc + 1) ls (.long (f i.toNatClampNeg) :: rest))) : W p l e R s m args below meth c H locs cells slots Q (F0 m pc ls (.int i :: .ref (K.B + r) :: rest)) :=
  va_lald C0.1 C0.2.1 hb.1 (hw.1.sing hr he) 0 2 rfl rfl hin hdg kk
theorem br_aald (C0 : CallFix p m c cc nL s args bw_G own) (hb : bK K s) (hw : bS K.D K.B n ct s H locs) {r : Nat} (hr : r < n) (t0 : Nat) {cA : ClassId} {C : String} (ht : (b_tys K.cy)[t0]? = some (cA, .object C)) {N : Nat} {f : Nat → Option Nat} (he : ct r = .inl (cA, N, .inr (.inr (.inr (.inr f))))) {i : Int32} (hin : vp_in i N) {v : Value} (hv : va_rf (f i.toNatClampNeg) = v) (hdg : decode cc pc = .ok (.aaload, 1))
    (kk : W p l e R s m args below meth c H locs cells slots Q (F0 m (pc + 1) ls (v :: rest))) : W p l e R s m args below meth c H locs cells slots Q (F0 m pc ls (.int i :: .ref (K.B + r) :: rest)) := by
  subst hv
  exact va_aldq C0.1 C0.2.1 hb.1 (hw.1.sing hr he) 0 t0 rfl ht hin hdg kk
theorem br_alen (C0 : CallFix p m c cc nL s args bw_G own) (hb : bK K s) (hw : bS K.D K.B n ct s H locs) {r : Nat} (hr : r < n) (t0 : Nat) {cA : ClassId} {ty : FieldType} (ht : (b_tys K.cy)[t0]? = some (cA, ty)) {x : vp_A} (he : ct r = .inl (cA, x)) {v : Int32} (hv : Int32.ofNat x.1 = v) (hdg : decode cc pc = .ok (.arraylength, 1))
    (kk : W p l e R s m args below meth c H locs cells slots Q (F0 m (pc + 1) ls (.int v :: rest))) : W p l e R s m args below meth c H locs cells slots Q (F0 m pc ls (.ref (K.B + r) :: rest)) :=
  va_alen C0.1 C0.2.1 hb.1 (hw.1.sing hr he) 0 t0 rfl ht hv hdg kk
end BR
end
section
/-! THE READER: the code read in big steps over a list of cells (this file); what it reads, the machine does (next file). -/
abbrev bV : Type := Int32 ⊕ Int64 ⊕ Nat ⊕ Option Nat
abbrev bC : Type := (Nat × List bV) ⊕ (Nat × List Int32) ⊕ List Int64 ⊕ (Nat × List (Option Nat))
abbrev bW : Type := List bC × Nat
abbrev bO : Type := Instr × Nat × Nat × Nat × Int
/-- the handlers of a throw: rows of the table with the name behind -/
abbrev bH : Type := List ((Nat × Nat × Nat × Nat) × String)
abbrev bM : Type := MethodName × ByteArray × Nat × Option FieldType × bH
abbrev bR : Type := Option bV ⊕ String
def bvc (v : bV) : Nat := match v with | .inr (.inl _) => 2 | _ => 1
def bvv (K : KE) (v : bV) : Value := match v with
  | .inl x => .int x
  | .inr (.inl x) => .long x
  | .inr (.inr (.inl k)) => .ref (K.B + k)
  | .inr (.inr (.inr none)) => .null
  | .inr (.inr (.inr (some j))) => .ref (K.X j)
theorem bvc_v (K : KE) (v : bV) : (bvv K v).category = bvc v := by
  rcases v with x | x | k | _ | j <;> rfl
def bce (K : KE) (c : bC) : va_E := match c with
  | .inl (ci, fs) => .inr (ci, fs.map (bvv K))
  | .inr (.inl (t, xs)) => .inl (K.cy t, xs.length, .inl (fun j => xs.getD j 0))
  | .inr (.inr (.inl xs)) => .inl (K.cy 2, xs.length, .inr (.inl (fun j => xs.getD j 0)))
  | .inr (.inr (.inr (t, xs))) => .inl (K.cy t, xs.length, .inr (.inr (.inr (.inr (fun j => (xs.getD j none).map (fun k => K.B + k))))))
def bcs (c : bC) : Nat := match c with
  | .inl (_, fs) => fs.length
  | .inr (.inl (_, xs)) => xs.length
  | .inr (.inr (.inl xs)) => xs.length
  | .inr (.inr (.inr (_, xs))) => xs.length
def bsz (cs : List bC) : Nat := (cs.map bcs).sum
def bct (K : KE) (cs : List bC) : Nat → va_E := fun k => match cs[k]? with
  | some c => bce K c
  | none => .inr (0, [])
theorem bct_at {K : KE} {cs : List bC} {r : Nat} {c : bC} (h : cs[r]? = some c) : bct K cs r = bce K c := by
  unfold bct; rw [h]
theorem bct_set {K : KE} {cs : List bC} {r : Nat} {c : bC} (h : r < cs.length) : bct K (cs.set r c) = bw_up (bct K cs) r (bce K c) := by
  funext k
  by_cases hk : k = r
  · subst hk
    rw [bw_eq]
    exact bct_at (by simp [h])
  · rw [bw_ne hk]
    unfold bct
    rw [List.getElem?_set_ne (fun q => hk q.symm)]
theorem bct_push {K : KE} {cs : List bC} {c : bC} : bct K (cs ++ [c]) = bw_up (bct K cs) cs.length (bce K c) := by
  funext k
  by_cases hk : k = cs.length
  · subst hk
    rw [bw_eq]
    exact bct_at (by simp)
  · rw [bw_ne hk]
    unfold bct
    by_cases h2 : k < cs.length
    · rw [List.getElem?_append_left h2]
    · rw [List.getElem?_eq_none (by simp; omega), List.getElem?_eq_none (by omega)]
theorem bsz_push (cs : List bC) (c : bC) : bsz (cs ++ [c]) = bsz cs + bcs c := by simp [bsz]
theorem bsz_set {cs : List bC} {r : Nat} {c c' : bC} (h : cs[r]? = some c') (hc : bcs c = bcs c') : bsz (cs.set r c) = bsz cs := by
  induction cs generalizing r with
  | nil => cases h
  | cons a t ih =>
    cases r with
    | zero => cases h; simp [bsz, hc]
    | succ r => have h1 := ih (r := r) h; simp only [bsz, List.map_set] at h1; simp [bsz, h1]
def bty (ci : Nat) : List FieldType := match ci with
  | 2 => (List.range 6).map tyX0
  | 3 => (List.range 2).map tyX1
  | 4 => (List.range 2).map tyX2
  | 5 => (List.range 13).map tyX3
  | 6 => (List.range 2).map tyX4
  | 7 => (List.range 12).map tyX5
  | 8 => (List.range 8).map tyX6
  | 9 => (List.range 4).map tyX7
  | 10 => (List.range 13).map tyX8
  | 11 => (List.range 7).map tyX9
  | 12 => (List.range 2).map tyX10
  | 13 => (List.range 17).map tyX11
  | 14 => (List.range 43).map tyX12
  | _ => []
def bdf (t : FieldType) : bV := match t with
  | .long => .inr (.inl 0)
  | .object _ => .inr (.inr (.inr none))
  | .array _ => .inr (.inr (.inr none))
  | _ => .inl 0
def bokf (t : FieldType) (v : bV) : Bool := match t, v with
  | .int, .inl _ => true
  | .long, .inr (.inl _) => true
  | .boolean, .inl x => decide (narrow .boolean (.int x) = .int x) && fits .boolean (.int x)
  | .char, .inl x => decide (narrow .char (.int x) = .int x) && fits .char (.int x)
  | .object _, .inr (.inr _) => true
  | .array _, .inr (.inr _) => true
  | _, _ => false
def bcmp (c : ClassFile.Cond) (x y : Int32) : Bool := match c with
  | .eq => decide (x = y)
  | .ne => decide (x ≠ y)
  | .lt => decide (x < y)
  | .ge => decide (x ≥ y)
  | .gt => decide (x > y)
  | .le => decide (x ≤ y)
def bin (i : Int32) (n : Nat) : Bool := decide (¬ i < 0) && decide (i.toNatClampNeg < n)
def blk (lv : List (Nat × bV)) (i : Nat) : Option bV := match lv with
  | [] => none
  | q :: t => if q.1 = i then some q.2 else blk t i
def bst1 (lv : List (Nat × bV)) (i : Nat) (v : bV) : List (Nat × bV) := (i, v) :: lv.filter (fun q => !(q.1 == i) && !(q.1 + 1 == i && bvc q.2 == 2))
def bst2 (lv : List (Nat × bV)) (i : Nat) (v : bV) : List (Nat × bV) := (i, v) :: lv.filter (fun q => !(q.1 == i) && (!(q.1 == i + 1) && !(q.1 + 1 == i && bvc q.2 == 2)))
abbrev bF : Type := Nat × List (Nat × bV) × List bV × bW
/-- an array cell, in the world or outside -/
def barr (E : Nat → bC) (w : bW) (v : bV) : Option bC := match v with
  | .inr (.inr (.inl r)) => w.1[r]?
  | .inr (.inr (.inr (some j))) => some (E j)
  | _ => none
def bload (i : Int32) (t : Nat) (c : Option bC) : Option bV := match c with
  | some (.inr (.inl (t', xs))) => if t' = t ∧ (t = 0 ∨ t = 1 ∨ t = 3) ∧ bin i xs.length = true then some (.inl (xs.getD i.toNatClampNeg 0)) else none
  | some (.inr (.inr (.inl xs))) => if t = 2 ∧ bin i xs.length = true then some (.inr (.inl (xs.getD i.toNatClampNeg 0))) else none
  | some (.inr (.inr (.inr (t', xs)))) => if t = 4 ∧ (t' = 4 ∨ t' = 5) ∧ bin i xs.length = true then some (match xs.getD i.toNatClampNeg none with | none => .inr (.inr (.inr none)) | some k => .inr (.inr (.inl k))) else none
  | _ => none
def bld (E : Nat → bC) (pc t : Nat) (lv : List (Nat × bV)) (st : List bV) (w : bW) : Option bF := match st with
  | .inl i :: a :: r => match bload i t (barr E w a) with
    | some v => some (pc + 1, lv, v :: r, w)
    | none => none
  | _ => none
def bast (pc t : Nat) (lv : List (Nat × bV)) (st : List bV) (w : bW) : Option bF := match st with
  | .inl x :: .inl i :: .inr (.inr (.inl r)) :: rest => match w.1[r]? with
    | some (.inr (.inl (t', xs))) => if t' = t ∧ bin i xs.length = true then some (pc + 1, lv, rest, (w.1.set r (.inr (.inl (t, xs.set i.toNatClampNeg (vp_nar (if t = 0 then .char else if t = 3 then .boolean else .int) x)))), w.2)) else none
    | _ => none
  | _ => none
def blast (pc : Nat) (lv : List (Nat × bV)) (st : List bV) (w : bW) : Option bF := match st with
  | .inr (.inl x) :: .inl i :: .inr (.inr (.inl r)) :: rest => match w.1[r]? with
    | some (.inr (.inr (.inl xs))) => if bin i xs.length = true then some (pc + 1, lv, rest, (w.1.set r (.inr (.inr (.inl (xs.set i.toNatClampNeg x)))), w.2)) else none
    | _ => none
  | _ => none
def bcls (t : Nat) : Nat := if t = 4 then 4 else 7
def baast (pc : Nat) (lv : List (Nat × bV)) (st : List bV) (w : bW) : Option bF := match st with
  | .inr (.inr (.inl v)) :: .inl i :: .inr (.inr (.inl r)) :: rest => match w.1[r]?, w.1[v]? with
    | some (.inr (.inr (.inr (t, xs)))), some (.inl (ci, _)) => if (t = 4 ∨ t = 5) ∧ ci = bcls t ∧ bin i xs.length = true then some (pc + 1, lv, rest, (w.1.set r (.inr (.inr (.inr (t, xs.set i.toNatClampNeg (some v))))), w.2)) else none
    | _, _ => none
  | _ => none
def blen (c : bC) : Option Nat := match c with
  | .inr (.inl (t, xs)) => if t = 0 ∨ t = 1 ∨ t = 3 then some xs.length else none
  | .inr (.inr (.inl xs)) => some xs.length
  | .inr (.inr (.inr (t, xs))) => if t = 4 ∨ t = 5 then some xs.length else none
  | _ => none
def bi1 (pc : Nat) (lv : List (Nat × bV)) (st : List bV) (w : bW) (f : Int32 → bV) : Option bF := match st with
  | .inl x :: r => some (pc + 1, lv, f x :: r, w)
  | _ => none
def bi2 (pc : Nat) (lv : List (Nat × bV)) (st : List bV) (w : bW) (f : Int32 → Int32 → Option Int32) : Option bF := match st with
  | .inl y :: .inl x :: r => match f x y with
    | some v => some (pc + 1, lv, .inl v :: r, w)
    | none => none
  | _ => none
def bl1 (pc : Nat) (lv : List (Nat × bV)) (st : List bV) (w : bW) (f : Int64 → bV) : Option bF := match st with
  | .inr (.inl x) :: r => some (pc + 1, lv, f x :: r, w)
  | _ => none
def bl2 (pc : Nat) (lv : List (Nat × bV)) (st : List bV) (w : bW) (f : Int64 → Int64 → Option bV) : Option bF := match st with
  | .inr (.inl y) :: .inr (.inl x) :: r => match f x y with
    | some v => some (pc + 1, lv, v :: r, w)
    | none => none
  | _ => none
def bls (pc : Nat) (lv : List (Nat × bV)) (st : List bV) (w : bW) (f : Int64 → Int32 → Int64) : Option bF := match st with
  | .inl y :: .inr (.inl x) :: r => some (pc + 1, lv, .inr (.inl (f x y)) :: r, w)
  | _ => none
def bldl (k : Nat) (pc n i : Nat) (lv : List (Nat × bV)) (st : List bV) (w : bW) : Option bF := match k, blk lv i with
  | 0, some (.inl x) => some (pc + n, lv, .inl x :: st, w)
  | 1, some (.inr (.inl x)) => some (pc + n, lv, .inr (.inl x) :: st, w)
  | 2, some (.inr (.inr (.inl x))) => some (pc + n, lv, .inr (.inr (.inl x)) :: st, w)
  | 2, some (.inr (.inr (.inr (some x)))) => some (pc + n, lv, .inr (.inr (.inr (some x))) :: st, w)
  | _, _ => none
/-- the locals' number nL bounds what is stored -/
def bstl (k nL : Nat) (pc n i : Nat) (lv : List (Nat × bV)) (st : List bV) (w : bW) : Option bF := match k, st with
  | 0, .inl x :: r => if i < nL then some (pc + n, bst1 lv i (.inl x), r, w) else none
  | 1, .inr (.inl x) :: r => if i + 1 < nL then some (pc + n, bst2 lv i (.inr (.inl x)), r, w) else none
  | 2, .inr (.inr (.inl x)) :: r => if i < nL then some (pc + n, bst1 lv i (.inr (.inr (.inl x))), r, w) else none
  | _, _ => none
def binc (nL pc i : Nat) (n : Int) (lv : List (Nat × bV)) (st : List bV) (w : bW) : Option bF := match blk lv i with
  | some (.inl x) => if i < nL then some (pc + 3, bst1 lv i (.inl (x + Int32.ofInt n)), st, w) else none
  | _ => none
def bdup (pc : Nat) (lv : List (Nat × bV)) (st : List bV) (w : bW) : Option bF := match st with
  | v :: r => if bvc v = 1 then some (pc + 1, lv, v :: v :: r, w) else none
  | _ => none
def bpop (pc : Nat) (lv : List (Nat × bV)) (st : List bV) (w : bW) : Option bF := match st with
  | v :: r => if bvc v = 1 then some (pc + 1, lv, r, w) else none
  | _ => none
def bdup2 (pc : Nat) (lv : List (Nat × bV)) (st : List bV) (w : bW) : Option bF := match st with
  | v :: r => if bvc v = 2 then some (pc + 1, lv, v :: v :: r, w) else (match r with
    | u :: r => if bvc v = 1 ∧ bvc u = 1 then some (pc + 1, lv, v :: u :: v :: u :: r, w) else none
    | _ => none)
  | _ => none
def bpop2 (pc : Nat) (lv : List (Nat × bV)) (st : List bV) (w : bW) : Option bF := match st with
  | v :: r => if bvc v = 2 then some (pc + 1, lv, r, w) else none
  | _ => none
def bjf (cd : ClassFile.Cond) (pc a : Nat) (lv : List (Nat × bV)) (st : List bV) (w : bW) : Option bF := match st with
  | .inl x :: r => some (if bcmp cd x 0 = true then a else pc + 3, lv, r, w)
  | _ => none
def bjc (cd : ClassFile.Cond) (pc a : Nat) (lv : List (Nat × bV)) (st : List bV) (w : bW) : Option bF := match st with
  | .inl y :: .inl x :: r => some (if bcmp cd x y = true then a else pc + 3, lv, r, w)
  | _ => none
def bgf (pc a b : Nat) (lv : List (Nat × bV)) (st : List bV) (w : bW) : Option bF := match st with
  | .inr (.inr (.inl r)) :: rest => match w.1[r]? with
    | some (.inl (ci, fs)) => if ci = a then (match fs[b]? with
      | some v => some (pc + 3, lv, v :: rest, w)
      | none => none) else none
    | _ => none
  | _ => none
def bpf (pc a b : Nat) (lv : List (Nat × bV)) (st : List bV) (w : bW) : Option bF := match st with
  | v :: .inr (.inr (.inl r)) :: rest => match w.1[r]? with
    | some (.inl (ci, fs)) => if ci = a ∧ b < fs.length ∧ bokf ((bty a).getD b .byte) v = true then some (pc + 3, lv, rest, (w.1.set r (.inl (ci, fs.set b v)), w.2)) else none
    | _ => none
  | _ => none
def balen (E : Nat → bC) (pc : Nat) (lv : List (Nat × bV)) (st : List bV) (w : bW) : Option bF := match st with
  | a :: r => match barr E w a with
    | some c => (match blen c with
      | some n => some (pc + 1, lv, .inl (Int32.ofNat n) :: r, w)
      | none => none)
    | none => none
  | _ => none
def bnew (pc a : Nat) (v : Int) (lv : List (Nat × bV)) (st : List bV) (w : bW) : Option bF :=
  if w.2 = 0 ∧ v = 0 then some (pc + 3, lv, .inr (.inr (.inl w.1.length)) :: st, (w.1 ++ [.inl (a, (bty a).map bdf)], w.2)) else none
def bnwa (pc a : Nat) (lv : List (Nat × bV)) (st : List bV) (w : bW) : Option bF := match st with
  | .inl n :: r => if w.2 = 0 ∧ ¬ n < 0 ∧ n.toNatClampNeg * 8 ≤ 536870912 then some (pc + 2, lv, .inr (.inr (.inl w.1.length)) :: r, (w.1 ++ [if a = 2 then .inr (.inr (.inl (List.replicate n.toNatClampNeg 0))) else .inr (.inl (a, List.replicate n.toNatClampNeg 0))], w.2)) else none
  | _ => none
def bnwq (pc a : Nat) (lv : List (Nat × bV)) (st : List bV) (w : bW) : Option bF := match st with
  | .inl n :: r => if w.2 = 0 ∧ ¬ n < 0 ∧ n.toNatClampNeg * 8 ≤ 536870912 then some (pc + 3, lv, .inr (.inr (.inl w.1.length)) :: r, (w.1 ++ [.inr (.inr (.inr (a, List.replicate n.toNatClampNeg none)))], w.2)) else none
  | _ => none
def bobj (pc : Nat) (v : Int) (lv : List (Nat × bV)) (st : List bV) (w : bW) : Option bF := match st with
  | .inr (.inr (.inl _)) :: r => if v = 1 ∧ (r.map bvc).sum ≤ 8 then some (pc + 3, lv, r, w) else none
  | _ => none
def blsw (pc : Nat) (d : Int) (ps : List (Int × Int)) (lv : List (Nat × bV)) (st : List bV) (w : bW) : Option bF := match st with
  | .inl x :: r => if 0 ≤ (pc : Int) + Op.lookupswitch.offset ps d x.toInt then some (((pc : Int) + Op.lookupswitch.offset ps d x.toInt).toNat, lv, r, w) else none
  | _ => none
def btsw (pc : Nat) (d lo hi : Int) (offs : Array Int) (lv : List (Nat × bV)) (st : List bV) (w : bW) : Option bF := match st with
  | .inl x :: r => if x.toInt < lo ∨ hi < x.toInt then (if 0 ≤ (pc : Int) + d then some (((pc : Int) + d).toNat, lv, r, w) else none) else (match offs[(x.toInt - lo).toNat]? with
    | some off => if 0 ≤ (pc : Int) + off then some (((pc : Int) + off).toNat, lv, r, w) else none
    | none => none)
  | _ => none
def bstep (E : Nat → bC) (nL : Nat) (o : bO) (pc : Nat) (lv : List (Nat × bV)) (st : List bV) (w : bW) : Option bF := match o.1 with
  | .iconst n => some (pc + 1, lv, .inl (Int32.ofInt n) :: st, w)
  | .bipush n => some (pc + 2, lv, .inl (Int8.ofInt n).toInt32 :: st, w)
  | .sipush n => some (pc + 3, lv, .inl (Int16.ofInt n).toInt32 :: st, w)
  | .ldc _ => some (pc + 2, lv, .inl (Int32.ofInt o.2.2.2.2) :: st, w)
  | .lconst n => some (pc + 1, lv, .inr (.inl (Int64.ofNat n)) :: st, w)
  | .ldc2_w _ => some (pc + 3, lv, .inr (.inl (Int64.ofInt o.2.2.2.2)) :: st, w)
  | .iload_n k => bldl 0 pc 1 k lv st w
  | .iload i => bldl 0 pc 2 i lv st w
  | .lload_n k => bldl 1 pc 1 k lv st w
  | .lload i => bldl 1 pc 2 i lv st w
  | .aload_n k => bldl 2 pc 1 k lv st w
  | .aload i => bldl 2 pc 2 i lv st w
  | .istore_n k => bstl 0 nL pc 1 k lv st w
  | .istore i => bstl 0 nL pc 2 i lv st w
  | .lstore_n k => bstl 1 nL pc 1 k lv st w
  | .lstore i => bstl 1 nL pc 2 i lv st w
  | .astore_n k => bstl 2 nL pc 1 k lv st w
  | .astore i => bstl 2 nL pc 2 i lv st w
  | .iinc i n => binc nL pc i n lv st w
  | .iadd => bi2 pc lv st w (fun x y => some (x + y))
  | .isub => bi2 pc lv st w (fun x y => some (x - y))
  | .imul => bi2 pc lv st w (fun x y => some (x * y))
  | .iand => bi2 pc lv st w (fun x y => some (x &&& y))
  | .ior => bi2 pc lv st w (fun x y => some (x ||| y))
  | .idiv => bi2 pc lv st w (fun x y => if y = 0 then none else some (x / y))
  | .irem => bi2 pc lv st w (fun x y => if y = 0 then none else some (x - x / y * y))
  | .ineg => bi1 pc lv st w (fun x => .inl (-x))
  | .ladd => bl2 pc lv st w (fun x y => some (.inr (.inl (x + y))))
  | .lsub => bl2 pc lv st w (fun x y => some (.inr (.inl (x - y))))
  | .lmul => bl2 pc lv st w (fun x y => some (.inr (.inl (x * y))))
  | .land => bl2 pc lv st w (fun x y => some (.inr (.inl (x &&& y))))
  | .lor => bl2 pc lv st w (fun x y => some (.inr (.inl (x ||| y))))
  | .lxor => bl2 pc lv st w (fun x y => some (.inr (.inl (x ^^^ y))))
  | .ldiv => bl2 pc lv st w (fun x y => if y = 0 then none else some (.inr (.inl (x / y))))
  | .lrem => bl2 pc lv st w (fun x y => if y = 0 then none else some (.inr (.inl (x - x / y * y))))
  | .lcmp => bl2 pc lv st w (fun x y => some (.inl (lg_cmp x y)))
  | .lneg => bl1 pc lv st w (fun x => .inr (.inl (-x)))
  | .l2i => bl1 pc lv st w (fun x => .inl x.toInt32)
  | .i2l => bi1 pc lv st w (fun x => .inr (.inl x.toInt64))
  | .i2c => bi1 pc lv st w (fun x => .inl (x.toUInt32 % 65536).toInt32)
  | .lshl => bls pc lv st w (fun x y => x <<< (y.toInt64 &&& 63))
  | .lshr => bls pc lv st w (fun x y => x >>> (y.toInt64 &&& 63))
  | .dup => bdup pc lv st w
  | .pop => bpop pc lv st w
  | .dup2 => bdup2 pc lv st w
  | .pop2 => bpop2 pc lv st w
  | .goto _ => some (o.2.2.1, lv, st, w)
  | .ifCond c _ => bjf c pc o.2.2.1 lv st w
  | .if_icmp c _ => bjc c pc o.2.2.1 lv st w
  | .getfield _ => bgf pc o.2.2.1 o.2.2.2.1 lv st w
  | .putfield _ => bpf pc o.2.2.1 o.2.2.2.1 lv st w
  | .iaload => bld E pc 1 lv st w
  | .caload => bld E pc 0 lv st w
  | .baload => bld E pc 3 lv st w
  | .laload => bld E pc 2 lv st w
  | .aaload => bld E pc 4 lv st w
  | .iastore => bast pc 1 lv st w
  | .castore => bast pc 0 lv st w
  | .bastore => bast pc 3 lv st w
  | .lastore => blast pc lv st w
  | .aastore => baast pc lv st w
  | .arraylength => balen E pc lv st w
  | .getstatic _ => some (pc + 3, lv, .inr (.inr (.inr (some o.2.2.1))) :: st, w)
  | .new _ => bnew pc o.2.2.1 o.2.2.2.2 lv st w
  | .newarray _ => bnwa pc o.2.2.1 lv st w
  | .anewarray _ => bnwq pc o.2.2.1 lv st w
  | .invokespecial _ => bobj pc o.2.2.2.2 lv st w
  | .lookupswitch d ps => blsw pc d ps.toList lv st w
  | .tableswitch d lo hi offs => btsw pc d lo hi offs lv st w
  | _ => none
def bret (o : bO) (ret : Option FieldType) (st : List bV) : Option (Option bV) := match o.1, ret, st with
  | .ireturn, some t, [.inl x] => if bokf t (.inl x) = true then some (some (.inl x)) else none
  | .lreturn, some .long, [.inr (.inl x)] => some (some (.inr (.inl x)))
  | .areturn, some (.object _), [.inr (.inr q)] => some (some (.inr (.inr q)))
  | .areturn, some (.array _), [.inr (.inr q)] => some (some (.inr (.inr q)))
  | .return_, none, [] => some none
  | _, _, _ => none
/-- a call: the method, what it is called with, what stays -/
def bcal (o : bO) (st : List bV) (w : bW) : Option (Nat × List bV × List bV) := match o.1 with
  | .invokestatic _ => if o.2.2.2.1 ≤ st.length ∧ ((st.drop o.2.2.2.1).map bvc).sum ≤ 8 then some (o.2.2.1, (st.take o.2.2.2.1).reverse, st.drop o.2.2.2.1) else none
  | .invokevirtual _ => match st.drop o.2.2.2.1 with
    | .inr (.inr (.inl r)) :: rest => (match w.1[r]? with
      | some (.inl (ci, _)) => if (ci : Int) = o.2.2.2.2 ∧ (rest.map bvc).sum ≤ 8 then some (o.2.2.1, .inr (.inr (.inl r)) :: (st.take o.2.2.2.1).reverse, rest) else none
      | _ => none)
    | _ => none
  | .invokespecial _ => match st.drop o.2.2.2.1 with
    | .inr (.inr (.inl r)) :: rest => if o.2.2.2.2 = 0 ∧ (rest.map bvc).sum ≤ 8 then some (o.2.2.1, .inr (.inr (.inl r)) :: (st.take o.2.2.2.1).reverse, rest) else none
    | _ => none
  | _ => none
def blva (i : Nat) (vs : List bV) : List (Nat × bV) := match vs with
  | [] => []
  | v :: t => (i, v) :: blva (i + bvc v) t
abbrev bP : Type := (Nat → Nat → Option bO) × (Nat → bM) × (Nat → bC) × (String → String → Option Bool) × (Nat → String × List String)
abbrev bEx : Type := Nat → Nat → Nat → List (Nat × bV) → List bV → bW → bR → bW → Prop
def bhand (H : bH) (pc : Nat) (E : String) (ok : String → String → Option Bool) : Option Nat := match H with
  | [] => none
  | (q, nm) :: t => if q.1 ≤ pc ∧ pc < q.2.1 then (match ok E nm with
    | some true => some q.2.2.1
    | some false => bhand t pc E ok
    | none => none) else bhand t pc E ok
/-- what a handler does first: it puts the throw into a local -/
def bastk (i : Instr) : Option (Nat × Nat) := match i with
  | .astore_n k => some (k, 1)
  | .astore k => some (k, 2)
  | _ => none
def blvx (lv : List (Nat × bV)) (i : Nat) : List (Nat × bV) := lv.filter (fun q => !(q.1 == i) && !(q.1 + 1 == i && bvc q.2 == 2))
/-- a callee that may throw: no constructor, no nest mate's static method -/
def bnsp (o : bO) : Bool := match o.1 with
  | .invokespecial _ => false
  | .invokestatic _ => decide (o.2.2.2.2 = 0)
  | _ => true
/-- closed under the rules of reading -/
def bClosed (P : bP) (R : bEx) : Prop :=
  (∀ (d mi pc : Nat) (lv : List (Nat × bV)) (st : List bV) (w : bW) (o : bO) (q : bF) (r : bR) (w2 : bW), P.1 mi pc = some o → bstep P.2.2.1 (P.2.1 mi).2.2.1 o pc lv st w = some q → R d mi q.1 q.2.1 q.2.2.1 q.2.2.2 r w2 → R d mi pc lv st w r w2) ∧
  (∀ (d mi pc : Nat) (lv : List (Nat × bV)) (st : List bV) (w : bW) (o : bO) (v : Option bV), P.1 mi pc = some o → bret o (P.2.1 mi).2.2.2.1 st = some v → R d mi pc lv st w (.inl v) w) ∧
  (∀ (d mi pc : Nat) (lv : List (Nat × bV)) (st : List bV) (w : bW) (o : bO) (q : Nat × List bV × List bV) (v : Option bV) (w1 : bW) (r : bR) (w2 : bW), P.1 mi pc = some o → bcal o st w = some q → (q.2.1.map bvc).sum ≤ (P.2.1 q.1).2.2.1 → R d q.1 0 (blva 0 q.2.1) [] w (.inl v) w1 → R (d + 1) mi (pc + 3) lv (v.toList ++ q.2.2) w1 r w2 → R (d + 1) mi pc lv st w r w2) ∧
  (∀ (d mi pc : Nat) (lv : List (Nat × bV)) (st : List bV) (w : bW) (o : bO) (q : Nat × List bV × List bV) (x : String) (w1 : bW), P.1 mi pc = some o → bcal o st w = some q → (q.2.1.map bvc).sum ≤ (P.2.1 q.1).2.2.1 → R d q.1 0 (blva 0 q.2.1) [] w (.inr x) w1 → (P.2.1 mi).2.2.2.2 = [] → bnsp o = true → R (d + 1) mi pc lv st w (.inr x) w1) ∧
  (∀ (d mi pc : Nat) (lv : List (Nat × bV)) (st : List bV) (w : bW) (o : bO) (q : Nat × List bV × List bV) (x : String) (w1 : bW) (hp : Nat) (o2 : bO) (ik : Nat × Nat) (r : bR) (w2 : bW), P.1 mi pc = some o → bcal o st w = some q → (q.2.1.map bvc).sum ≤ (P.2.1 q.1).2.2.1 → R d q.1 0 (blva 0 q.2.1) [] w (.inr x) w1 → bhand (P.2.1 mi).2.2.2.2 pc x P.2.2.2.1 = some hp → P.1 mi hp = some o2 → bnsp o = true → bastk o2.1 = some ik → ik.1 < (P.2.1 mi).2.2.1 → R (d + 1) mi (hp + ik.2) (blvx lv ik.1) [] w1 r w2 → R (d + 1) mi pc lv st w r w2) ∧
  (∀ (d mi pc : Nat) (lv : List (Nat × bV)) (w : bW) (o : bO) (ix : Nat), P.1 mi pc = some o → o.1 = .new ix → o.2.2.2.2 = 1 → (P.2.1 mi).2.2.2.2 = [] → R d mi pc lv [] w (.inr (P.2.2.2.2 o.2.2.1).1) (w.1, w.2 + 1))
/-- the least such -/
def bX (P : bP) : bEx := fun d mi pc lv st w r w2 => ∀ R : bEx, bClosed P R → R d mi pc lv st w r w2
end
section
/-! WHAT IS READ, THE MACHINE DOES: a step. -/
def bln (i : Instr) : Nat := match i with
  | .bipush _ => 2
  | .ldc _ => 2
  | .iload _ => 2
  | .lload _ => 2
  | .aload _ => 2
  | .istore _ => 2
  | .lstore _ => 2
  | .astore _ => 2
  | .newarray _ => 2
  | .sipush _ => 3
  | .ldc2_w _ => 3
  | .ldc_w _ => 3
  | .iinc _ _ => 3
  | .goto _ => 3
  | .ifCond _ _ => 3
  | .if_icmp _ _ => 3
  | .getfield _ => 3
  | .putfield _ => 3
  | .getstatic _ => 3
  | .new _ => 3
  | .anewarray _ => 3
  | .invokevirtual _ => 3
  | .invokestatic _ => 3
  | .invokespecial _ => 3
  | _ => 1
/-- the static fields of arrays, by their numbers -/
def bsf (j : Nat) : Option (String × String × String) := match j with
  | 0 => some ("Boxedvalue", "TENS", "[J")
  | 2 => some ("Boxedvalue$Curves", "LOGS", "[I")
  | 3 => some ("Boxedvalue$Curves", "ARCS", "[I")
  | _ => none
/-- what is owed of an instruction: it stands in the code, and the tables say what it links to -/
def bOkX (own nm : String) (pc : Nat) (o : bO) : Prop := match o.1 with
  | .ldc ix => Jvm.Cond.constant own ix (Int32.ofInt o.2.2.2.2) ∈ bw_G
  | .ldc2_w ix => Jvm.Cond.constantLong own ix (Int64.ofInt o.2.2.2.2) ∈ bw_G
  | .goto off => (pc : Int) + off = (o.2.2.1 : Int)
  | .ifCond _ off => (pc : Int) + off = (o.2.2.1 : Int)
  | .if_icmp _ off => (pc : Int) + off = (o.2.2.1 : Int)
  | .getfield ix => 2 ≤ o.2.2.1 ∧ ∃ (C : String) (T : u_T) (N : Nat), vwCl[o.2.2.1]? = some (C, T, N) ∧ o.2.2.2.1 < N ∧ Jvm.Cond.fieldLink own ix (T o.2.2.2.1).1 (T o.2.2.2.1).2.1 (T o.2.2.2.1).2.2.1 ∈ bw_G
  | .putfield ix => 2 ≤ o.2.2.1 ∧ ∃ (C : String) (T : u_T) (N : Nat), vwCl[o.2.2.1]? = some (C, T, N) ∧ o.2.2.2.1 < N ∧ Jvm.Cond.fieldLink own ix (T o.2.2.2.1).1 (T o.2.2.2.1).2.1 (T o.2.2.2.1).2.2.1 ∈ bw_G ∧ ((T o.2.2.2.1).2.2.2 = false ∨ ((T o.2.2.2.1).2.2.2 = true ∧ nm = "<init>" ∧ (T o.2.2.2.1).1 = own))
  | .getstatic ix => ∃ f : String × String × String, bsf o.2.2.1 = some f ∧ (Jvm.Cond.fieldLink own ix f.1 f.2.1 f.2.2 ∈ bw_G ∨ ∃ host : String, (own, ix, f.1, f.2.1, f.2.2, host) ∈ bwN)
  | .new ix => o.2.2.2.2 = 0 → 2 ≤ o.2.2.1 ∧ ∃ (C : String) (T : u_T) (N : Nat), vwCl[o.2.2.1]? = some (C, T, N) ∧ N = (bty o.2.2.1).length ∧ Jvm.Cond.classLink own ix C ∈ bw_G ∧ Jvm.Cond.instantiable C N ∈ bw_G ∧ Jvm.Cond.initialized C ∈ bw_G
  | .newarray t => Jvm.Cond.arrayClass (newarray.typeOf t) ∈ bw_G ∧ ((t = .char ∧ o.2.2.1 = 0) ∨ (t = .int ∧ o.2.2.1 = 1) ∨ (t = .long ∧ o.2.2.1 = 2) ∨ (t = .boolean ∧ o.2.2.1 = 3))
  | .anewarray ix => (Jvm.Cond.classLink own ix "Boxedvalue$Box" ∈ bw_G ∧ o.2.2.1 = 4) ∨ (Jvm.Cond.classLink own ix "Boxedvalue$Formula" ∈ bw_G ∧ o.2.2.1 = 5)
  | .invokespecial ix => o.2.2.2.2 = 1 → Jvm.Cond.methodLink own ix Lib.objectInit ∈ bw_G ∧ Jvm.Cond.instanceMethod Lib.objectInit ∈ bw_G ∧ Jvm.Cond.code Lib.objectInit ⟨#[0xb1]⟩ 1 none ∈ bw_G
  | _ => True
def bOkD (cc : ByteArray) (pc : Nat) (o : bO) : Prop := match o.1 with
  | .lookupswitch _ ps => decode cc pc = .ok (o.1, o.2.1) ∧ (ps.toList.zip (ps.toList.drop 1)).all (fun (a, next) => a.1 < next.1) = true
  | .tableswitch _ _ _ _ => decode cc pc = .ok (o.1, o.2.1)
  | _ => decode cc pc = .ok (o.1, bln o.1)
/-- the classes' fields -/
def bdok (t : FieldType) : Bool := match t with
  | .int => true
  | .long => true
  | .boolean => true
  | .char => true
  | .object _ => true
  | .array _ => true
  | _ => false
def bClsOk : Prop := ∀ (ci : Nat) (C : String) (T : u_T) (N : Nat), vwCl[ci]? = some (C, T, N) → 2 ≤ ci → N = (bty ci).length ∧ (∀ k, k < N → parseFieldDescriptor (T k).2.2.1 = some ((bty ci).getD k .byte)) ∧ (∀ w ∈ u_ws C T N, w ∈ bw_G) ∧ (∀ a, a < N → ∀ b, b < N → a ≠ b → (T a).2.1 ≠ (T b).2.1) ∧ (∀ k, k < N → bdok ((bty ci).getD k .byte) = true)
/-- the arrays outside are as the reader has them -/
def bEok (K : KE) (E : Nat → bC) : Prop := ∀ j : Nat, (∀ (t : Nat) (xs : List Int32), E j = .inr (.inl (t, xs)) → t = 1 ∧ ∃ (f : Nat → Value) (nm : Option (String × String × String)), K.arr[j]? = some (.int, xs.length, f, nm) ∧ (∀ i, i < xs.length → f i = .int (xs.getD i 0))) ∧
  (∀ xs : List Int64, E j = .inr (.inr (.inl xs)) → ∃ (f : Nat → Value) (nm : Option (String × String × String)), K.arr[j]? = some (.long, xs.length, f, nm) ∧ (∀ i, i < xs.length → f i = .long (xs.getD i 0))) ∧
  (∀ f : String × String × String, bsf j = some f → ∃ q, K.arr[j]? = some q ∧ q.2.2.2 = some f) ∧ (∀ (t : Nat) (xs : List (Option Nat)), E j ≠ .inr (.inr (.inr (t, xs))))
theorem bokf_v {K : KE} {t : FieldType} {v : bV} (h : bokf t v = true) : narrow t (bvv K v) = bvv K v ∧ fits t (bvv K v) = true := by
  cases t <;> rcases v with x | x | k | _ | j <;> first | exact ⟨rfl, rfl⟩ | cases h | exact ⟨of_decide_eq_true (Bool.and_eq_true_iff.mp h).1, (Bool.and_eq_true_iff.mp h).2⟩
theorem bdf_v {K : KE} {t : FieldType} (h : bdok t = true) : defaultValue t = bvv K (bdf t) := by
  cases t <;> first | rfl | cases h
theorem bin_of {i : Int32} {n : Nat} (h : bin i n = true) : vp_in i n ∧ i.toNatClampNeg < n := by
  simp only [bin, Bool.and_eq_true, decide_eq_true_eq] at h
  exact ⟨fun q => q.elim h.1 (fun q => by omega), h.2⟩
theorem b_getD_set {α : Type} {xs : List α} {i j : Nat} {x d : α} (h : i < xs.length) : (xs.set i x).getD j d = if j = i then x else xs.getD j d := by
  simp only [List.getD_eq_getElem?_getD]
  by_cases hj : j = i
  · subst hj; simp [h]
  · rw [if_neg hj, List.getElem?_set_ne (fun q => hj q.symm)]
theorem bat {K : KE} {cs : List bC} {H : Heap} {r : Nat} {c : bC} (h : bw K.D K.B cs.length (bct K cs) H) (hr : cs[r]? = some c) : va_at K.D vwCl (K.B + r, bce K c) H := by
  have h1 := h.2 r (List.getElem?_eq_some_iff.mp hr).1
  rw [bct_at hr] at h1
  exact h1
theorem bS.set {K : KE} {cs : List bC} {s : State} {H H1 : Heap} {locs : List Loc} (hw : bS K.D K.B cs.length (bct K cs) s H locs) {r i : Nat} {c : bC} (hr : r < cs.length) (h1 : va_at K.D vwCl (K.B + r, bce K c) H1) (hz : H1.size = H.size) (hq : ∀ q : Nat, q ≠ K.B + r → H1[q]? = H[q]?) : bS K.D K.B (cs.set r c).length (bct K (cs.set r c)) s H1 (locs ++ [⟨K.B + r, i⟩]) := by
  rw [List.length_set, bct_set hr]
  exact hw.put _ h1 hz hq
abbrev bvl (K : KE) (lv : List (Nat × bV)) : List (Nat × Value) := lv.map (fun q => (q.1, bvv K q.2))
theorem blk_in {lv : List (Nat × bV)} {i : Nat} {v : bV} (h : blk lv i = some v) : (i, v) ∈ lv := by
  induction lv with
  | nil => cases h
  | cons q t ih =>
    unfold blk at h
    by_cases hq : q.1 = i
    · rw [if_pos hq] at h
      cases h
      exact List.mem_cons.mpr (Or.inl (by rw [← hq]))
    · rw [if_neg hq] at h
      exact List.mem_cons_of_mem _ (ih h)
theorem blk_has {K : KE} {ls : Array Slot} {nL : Nat} {lv : List (Nat × bV)} {i : Nat} {v : bV} (hl : lv_has ls nL (bvl K lv)) (h : blk lv i = some v) : ls[i]? = some (.val (bvv K v)) :=
  hl.2.2 (i, bvv K v) (List.mem_map.mpr ⟨_, blk_in h, rfl⟩)
theorem bst1_v (K : KE) (lv : List (Nat × bV)) (i : Nat) (v : bV) : (i, bvv K v) :: (bvl K lv).filter (fun q => !(q.1 == i) && !(q.1 + 1 == i && q.2.category == 2)) = bvl K (bst1 lv i v) := by
  simp only [bst1, bvl, List.map_cons, List.filter_map, Function.comp_def, bvc_v]
theorem bst2_v (K : KE) (lv : List (Nat × bV)) (i : Nat) (v : bV) : (i, bvv K v) :: (bvl K lv).filter (fun q => !(q.1 == i) && (!(q.1 == i + 1) && !(q.1 + 1 == i && q.2.category == 2))) = bvl K (bst2 lv i v) := by
  simp only [bst2, bvl, List.map_cons, List.filter_map, Function.comp_def, bvc_v]
section BSTEP
variable {p : Program} {l : Launch} {e : Env} {R : Room} {s : State} {m : MethodId} {args : Array Value} {below : List Frame} {meth : Method} {c : Code} {H : Heap} {locs : List Loc} {cells slots : Nat} {Q : State → Prop}
variable {cc : ByteArray} {pc nL : Nat} {own : String} {ls : Array Slot} {K : KE} {E : Nat → bC} {lv lv' : List (Nat × bV)} {st st' : List bV} {w w' : bW} {pc' : Nat}
def bCont (p : Program) (l : Launch) (e : Env) (R : Room) (s : State) (m : MethodId) (args : Array Value) (below : List Frame) (meth : Method) (c : Code) (cells slots : Nat) (Q : State → Prop) (K : KE) (nL : Nat) (w : bW) (q : bF) : Prop :=
  ∀ (H1 : Heap) (locs1 : List Loc) (ls1 : Array Slot) (cells1 slots1 : Nat), bS K.D K.B q.2.2.2.1.length (bct K q.2.2.2.1) s H1 locs1 → (q.2.2.2.2 = 0 → H1.size = K.B + q.2.2.2.1.length) → lv_has ls1 nL (bvl K q.2.1) → cells1 + w.1.length = cells + q.2.2.2.1.length → slots1 + bsz w.1 = slots + bsz q.2.2.2.1 → W p l e R s m args below meth c H1 locs1 cells1 slots1 Q (F0 m q.1 ls1 (q.2.2.1.map (bvv K)))
theorem bp (hw : bS K.D K.B w.1.length (bct K w.1) s H locs) (hz : w.2 = 0 → H.size = K.B + w.1.length) (hl : lv_has ls nL (bvl K lv)) (k : bCont p l e R s m args below meth c cells slots Q K nL w (pc', lv, st', w)) : W p l e R s m args below meth c H locs cells slots Q (F0 m pc' ls (st'.map (bvv K))) :=
  k H locs ls cells slots hw hz hl rfl rfl
theorem bi2_inv {f : Int32 → Int32 → Option Int32} {q : bF} (h : bi2 pc lv st w f = some q) : ∃ (x y v : Int32) (r : List bV), st = .inl y :: .inl x :: r ∧ f x y = some v ∧ (pc + 1, lv, .inl v :: r, w) = q := by
  unfold bi2 at h
  split at h
  · split at h
    · rename_i v hv
      exact ⟨_, _, v, _, rfl, hv, Option.some.inj h⟩
    · cases h
  · cases h
theorem bl2_inv {f : Int64 → Int64 → Option bV} {q : bF} (h : bl2 pc lv st w f = some q) : ∃ (x y : Int64) (v : bV) (r : List bV), st = .inr (.inl y) :: .inr (.inl x) :: r ∧ f x y = some v ∧ (pc + 1, lv, v :: r, w) = q := by
  unfold bl2 at h
  split at h
  · split at h
    · rename_i v hv
      exact ⟨_, _, v, _, rfl, hv, Option.some.inj h⟩
    · cases h
  · cases h
theorem bi1_inv {f : Int32 → bV} {q : bF} (h : bi1 pc lv st w f = some q) : ∃ (x : Int32) (r : List bV), st = .inl x :: r ∧ (pc + 1, lv, f x :: r, w) = q := by
  unfold bi1 at h
  split at h
  · exact ⟨_, _, rfl, Option.some.inj h⟩
  · cases h
theorem bl1_inv {f : Int64 → bV} {q : bF} (h : bl1 pc lv st w f = some q) : ∃ (x : Int64) (r : List bV), st = .inr (.inl x) :: r ∧ (pc + 1, lv, f x :: r, w) = q := by
  unfold bl1 at h
  split at h
  · exact ⟨_, _, rfl, Option.some.inj h⟩
  · cases h
theorem bls_inv {f : Int64 → Int32 → Int64} {q : bF} (h : bls pc lv st w f = some q) : ∃ (x : Int64) (y : Int32) (r : List bV), st = .inl y :: .inr (.inl x) :: r ∧ (pc + 1, lv, .inr (.inl (f x y)) :: r, w) = q := by
  unfold bls at h
  split at h
  · exact ⟨_, _, _, rfl, Option.some.inj h⟩
  · cases h
theorem bldl0_inv {n i : Nat} {q : bF} (h : bldl 0 pc n i lv st w = some q) : ∃ x : Int32, blk lv i = some (.inl x) ∧ (pc + n, lv, .inl x :: st, w) = q := by
  unfold bldl at h
  split at h <;> first | exact ⟨_, by assumption, Option.some.inj h⟩ | (exfalso; omega) | cases h
theorem bldl1_inv {n i : Nat} {q : bF} (h : bldl 1 pc n i lv st w = some q) : ∃ x : Int64, blk lv i = some (.inr (.inl x)) ∧ (pc + n, lv, .inr (.inl x) :: st, w) = q := by
  unfold bldl at h
  split at h <;> first | exact ⟨_, by assumption, Option.some.inj h⟩ | (exfalso; omega) | cases h
theorem bldl2_inv {n i : Nat} {q : bF} (h : bldl 2 pc n i lv st w = some q) : (∃ x : Nat, blk lv i = some (.inr (.inr (.inl x))) ∧ (pc + n, lv, .inr (.inr (.inl x)) :: st, w) = q) ∨ ∃ x : Nat, blk lv i = some (.inr (.inr (.inr (some x)))) ∧ (pc + n, lv, .inr (.inr (.inr (some x))) :: st, w) = q := by
  unfold bldl at h
  split at h <;> first | exact Or.inl ⟨_, by assumption, Option.some.inj h⟩ | exact Or.inr ⟨_, by assumption, Option.some.inj h⟩ | (exfalso; omega) | cases h
theorem bstl0_inv {n i : Nat} {q : bF} (h : bstl 0 nL pc n i lv st w = some q) : ∃ (x : Int32) (r : List bV), st = .inl x :: r ∧ i < nL ∧ (pc + n, bst1 lv i (.inl x), r, w) = q := by
  unfold bstl at h
  split at h <;> first | (split at h <;> first | exact ⟨_, _, rfl, by assumption, Option.some.inj h⟩ | (exfalso; omega) | cases h) | (exfalso; omega) | cases h
theorem bstl1_inv {n i : Nat} {q : bF} (h : bstl 1 nL pc n i lv st w = some q) : ∃ (x : Int64) (r : List bV), st = .inr (.inl x) :: r ∧ i + 1 < nL ∧ (pc + n, bst2 lv i (.inr (.inl x)), r, w) = q := by
  unfold bstl at h
  split at h <;> first | (split at h <;> first | exact ⟨_, _, rfl, by assumption, Option.some.inj h⟩ | (exfalso; omega) | cases h) | (exfalso; omega) | cases h
theorem bstl2_inv {n i : Nat} {q : bF} (h : bstl 2 nL pc n i lv st w = some q) : ∃ (x : Nat) (r : List bV), st = .inr (.inr (.inl x)) :: r ∧ i < nL ∧ (pc + n, bst1 lv i (.inr (.inr (.inl x))), r, w) = q := by
  unfold bstl at h
  split at h <;> first | (split at h <;> first | exact ⟨_, _, rfl, by assumption, Option.some.inj h⟩ | (exfalso; omega) | cases h) | (exfalso; omega) | cases h
end BSTEP
end
section
/-! A step that reads or writes a cell. -/
section BHEAP
variable {p : Program} {l : Launch} {e : Env} {R : Room} {s : State} {m : MethodId} {args : Array Value} {below : List Frame} {meth : Method} {c : Code} {H : Heap} {locs : List Loc} {cells slots : Nat} {Q : State → Prop}
variable {cc : ByteArray} {pc nL : Nat} {own : String} {ls : Array Slot} {K : KE} {E : Nat → bC} {lv : List (Nat × bV)} {rest : List bV} {w : bW}
theorem bs_get (Cls : bClsOk) (C0 : CallFix p m c cc nL s args bw_G own) (hb : bK K s) (hw : bS K.D K.B w.1.length (bct K w.1) s H locs) (hz : w.2 = 0 → H.size = K.B + w.1.length) (hl : lv_has ls nL (bvl K lv)) {r ci b ix : Nat} {fs : List bV} {v : bV} (hr : w.1[r]? = some (.inl (ci, fs))) (hv : fs[b]? = some v) (h2 : 2 ≤ ci) {C : String} {T : u_T} {N : Nat} (hc : vwCl[ci]? = some (C, T, N)) (hbN : b < N) (hlink : Jvm.Cond.fieldLink own ix (T b).1 (T b).2.1 (T b).2.2.1 ∈ bw_G)
    (hd : decode cc pc = .ok (.getfield ix, 3)) (k : bCont p l e R s m args below meth c cells slots Q K nL w (pc + 3, lv, v :: rest, w)) : W p l e R s m args below meth c H locs cells slots Q (F0 m pc ls ((.inr (.inr (.inl r)) :: rest : List bV).map (bvv K))) := by
  obtain ⟨c1, c2, c3, c4, c5⟩ := Cls ci C T N hc h2
  exact br_get C0 hb hw (List.getElem?_eq_some_iff.mp hr).1 (bct_at hr) hc c3 b hbN hlink (v := bvv K v) (by rw [List.getElem?_map, hv]; rfl) hd (bp hw hz hl k)
theorem bs_put (Cls : bClsOk) (C0 : CallFix p m c cc nL s args bw_G own) (hb : bK K s) (hw : bS K.D K.B w.1.length (bct K w.1) s H locs) (hz : w.2 = 0 → H.size = K.B + w.1.length) (hl : lv_has ls nL (bvl K lv)) {r ci b ix : Nat} {fs : List bV} {v : bV} (hr : w.1[r]? = some (.inl (ci, fs))) (hbf : b < fs.length) (hok : bokf ((bty ci).getD b .byte) v = true) (h2 : 2 ≤ ci) {C : String} {T : u_T} {N : Nat} (hc : vwCl[ci]? = some (C, T, N)) (hbN : b < N) (hlink : Jvm.Cond.fieldLink own ix (T b).1 (T b).2.1 (T b).2.2.1 ∈ bw_G) (hfin : (T b).2.2.2 = false ∨ ((T b).2.2.2 = true ∧ meth.name = "<init>" ∧ (T b).1 = own))
    (hd : decode cc pc = .ok (.putfield ix, 3)) (k : bCont p l e R s m args below meth c cells slots Q K nL w (pc + 3, lv, rest, (w.1.set r (.inl (ci, fs.set b v)), w.2))) : W p l e R s m args below meth c H locs cells slots Q (F0 m pc ls ((v :: .inr (.inr (.inl r)) :: rest : List bV).map (bvv K))) := by
  obtain ⟨c1, c2, c3, c4, c5⟩ := Cls ci C T N hc h2
  have hr0 : r < w.1.length := (List.getElem?_eq_some_iff.mp hr).1
  refine br_put C0 hb hw hr0 (bct_at hr) hc c3 (fun k => (bty ci).getD k .byte) c2 c4 b hbN hlink hfin (v := bvv K v) (bokf_v hok).1 (bokf_v hok).2 (by rw [List.length_map]; exact hbf) hd fun H1 locs1 z1 hw1 => ?_
  refine k H1 locs1 ls cells slots ?_ (fun h => by rw [z1]; exact (hz h).trans (by simp)) hl (by simp) (by simp only []; rw [bsz_set hr (by simp [bcs])])
  have h9 : bw_up (bct K w.1) r (.inr (ci, (fs.map (bvv K)).set b (bvv K v))) = bct K (w.1.set r (.inl (ci, fs.set b v))) := by
    rw [bct_set hr0]
    show _ = bw_up _ r (.inr (ci, (fs.set b v).map (bvv K)))
    rw [List.map_set]
  simp only [List.length_set]
  rw [← h9]
  exact hw1
theorem bs_new (Cls : bClsOk) (C0 : CallFix p m c cc nL s args bw_G own) (hb : bK K s) (hw : bS K.D K.B w.1.length (bct K w.1) s H locs) (hz : w.2 = 0 → H.size = K.B + w.1.length) (hl : lv_has ls nL (bvl K lv)) {ci ix : Nat} (h0 : w.2 = 0) (h2 : 2 ≤ ci) {C : String} {T : u_T} {N : Nat} (hc : vwCl[ci]? = some (C, T, N)) (hcl : Jvm.Cond.classLink own ix C ∈ bw_G) (hinst : Jvm.Cond.instantiable C N ∈ bw_G) (hini : Jvm.Cond.initialized C ∈ bw_G)
    (hcells : cells + 1 ≤ R.cells) (hslots : slots + (bty ci).length ≤ R.slots)
    (hd : decode cc pc = .ok (.new ix, 3)) (k : bCont p l e R s m args below meth c cells slots Q K nL w (pc + 3, lv, .inr (.inr (.inl w.1.length)) :: rest, (w.1 ++ [.inl (ci, (bty ci).map bdf)], w.2))) : W p l e R s m args below meth c H locs cells slots Q (F0 m pc ls (rest.map (bvv K))) := by
  obtain ⟨c1, c2, c3, c4, c5⟩ := Cls ci C T N hc h2
  refine br_new C0 hb hb.2.2.2.2.2.2.2.2.1 hw (hz h0) hc c3 (fun k => (bty ci).getD k .byte) c2 hcl hinst hini (fs := ((bty ci).map bdf).map (bvv K)) (fun j hj => ?_) hcells (by rw [c1]; exact hslots) hd fun H1 z1 hw1 => ?_
  · rw [bdf_v (K := K) (c5 j hj)]
    show _ = List.getD _ _ _
    have hj' : j < (bty ci).length := by rw [← c1]; exact hj
    simp [List.getD_eq_getElem?_getD, hj']
  · refine k H1 locs ls (cells + 1) (slots + N) ?_ (fun _ => by rw [z1]; simp) hl (by simp; omega) (by simp only []; rw [bsz_push, c1]; simp [bcs]; omega)
    simp only [List.length_append, List.length_cons, List.length_nil]
    rw [bct_push]
    exact hw1
theorem bs_st (hw : bS K.D K.B w.1.length (bct K w.1) s H locs) (hz : w.2 = 0 → H.size = K.B + w.1.length) (hl : lv_has ls nL (bvl K lv)) {r j pc' : Nat} {c1 c0 : bC} (hr : w.1[r]? = some c0) (hcs : bcs c1 = bcs c0) {H1 : Heap} (h1 : va_at K.D vwCl (K.B + r, bce K c1) H1) (z : H1.size = H.size) (hq : ∀ q : Nat, q ≠ K.B + r → H1[q]? = H[q]?)
    (k : bCont p l e R s m args below meth c cells slots Q K nL w (pc', lv, rest, (w.1.set r c1, w.2))) : W p l e R s m args below meth c H1 (locs ++ [⟨K.B + r, j⟩]) cells slots Q (F0 m pc' ls (rest.map (bvv K))) := by
  have hr0 : r < w.1.length := (List.getElem?_eq_some_iff.mp hr).1
  exact k H1 _ ls cells slots (hw.set hr0 h1 z hq) (fun h => by rw [z]; exact (hz h).trans (by simp)) hl (by simp) (by simp only []; rw [bsz_set hr hcs])
theorem b_upi {xs : List Int32} {i : Nat} {y : Int32} (h : i < xs.length) : updV (fun j => Value.int (xs.getD j 0)) i (.int y) = fun j => Value.int ((xs.set i y).getD j 0) := by
  funext j
  rw [b_getD_set h]
  unfold updV
  by_cases hj : j = i
  · rw [if_pos hj, if_pos hj]
  · rw [if_neg hj, if_neg hj]
theorem b_upl {xs : List Int64} {i : Nat} {y : Int64} (h : i < xs.length) : updV (fun j => Value.long (xs.getD j 0)) i (.long y) = fun j => Value.long ((xs.set i y).getD j 0) := by
  funext j
  rw [b_getD_set h]
  unfold updV
  by_cases hj : j = i
  · rw [if_pos hj, if_pos hj]
  · rw [if_neg hj, if_neg hj]
theorem b_upq {B : Nat} {xs : List (Option Nat)} {i y : Nat} (h : i < xs.length) : updV (fun j => va_rf ((xs.getD j none).map (fun k => B + k))) i (.ref (B + y)) = fun j => va_rf (((xs.set i (some y)).getD j none).map (fun k => B + k)) := by
  funext j
  rw [b_getD_set h]
  unfold updV
  by_cases hj : j = i
  · rw [if_pos hj, if_pos hj]; rfl
  · rw [if_neg hj, if_neg hj]
theorem b_nar (t : FieldType) (x : Int32) (h : t = .int ∨ t = .char ∨ t = .boolean) : narrow t (.int x) = .int (vp_nar t x) := by
  rcases h with rfl | rfl | rfl <;> rfl
theorem bs_ist (C0 : CallFix p m c cc nL s args bw_G own) (hb : bK K s) (hw : bS K.D K.B w.1.length (bct K w.1) s H locs) (hz : w.2 = 0 → H.size = K.B + w.1.length) (hl : lv_has ls nL (bvl K lv)) {r t : Nat} {xs : List Int32} {i x : Int32} (hr : w.1[r]? = some (.inr (.inl (t, xs)))) (hi : bin i xs.length = true)
    (hd : (t = 1 ∧ decode cc pc = .ok (.iastore, 1)) ∨ (t = 0 ∧ decode cc pc = .ok (.castore, 1)) ∨ (t = 3 ∧ decode cc pc = .ok (.bastore, 1))) (k : bCont p l e R s m args below meth c cells slots Q K nL w (pc + 1, lv, rest, (w.1.set r (.inr (.inl (t, xs.set i.toNatClampNeg (vp_nar (if t = 0 then .char else if t = 3 then .boolean else .int) x)))), w.2))) : W p l e R s m args below meth c H locs cells slots Q (F0 m pc ls ((.inl x :: .inl i :: .inr (.inr (.inl r)) :: rest : List bV).map (bvv K))) := by
  obtain ⟨hx, hcb, hml, hown, hts⟩ := C0
  have hcell : H[K.B + r]? = some (arrV (K.cy t) xs.length (fun j => .int (xs.getD j 0))) := bat hw.1 hr
  have hin : ¬ (i < 0 ∨ (arrV (K.cy t) xs.length (fun j => Value.int (xs.getD j 0))).slots.size ≤ i.toNatClampNeg) := by rw [arrV_size]; exact (bin_of hi).1
  have hlt := (bin_of hi).2
  have fin : ∀ (H1 : Heap) (y : Int32), H1[K.B + r]? = some ((arrV (K.cy t) xs.length (fun j => .int (xs.getD j 0))).setSlot i.toNatClampNeg (.int y)) → va_at K.D vwCl (K.B + r, bce K (.inr (.inl (t, xs.set i.toNatClampNeg y)))) H1 := by
    intro H1 y e1
    show H1[K.B + r]? = some (arrV (K.cy t) (xs.set i.toNatClampNeg y).length (fun j => .int ((xs.set i.toNatClampNeg y).getD j 0)))
    rw [e1, arrV_store, b_upi hlt, List.length_set]
  rcases hd with ⟨rfl, hd⟩ | ⟨rfl, hd⟩ | ⟨rfl, hd⟩
  · exact W.iast hx hcb hcell ((hb.1.2 1 _ rfl).1 xs.length (fun j => .int (xs.getD j 0))) (fun q => by cases q) hin rfl rfl hd fun H1 e z oq => bs_st hw hz hl hr (by simp [bcs]) (fin H1 _ e) z oq k
  · exact W.cast hx hcb hcell ((hb.1.2 0 _ rfl).1 xs.length (fun j => .int (xs.getD j 0))) (fun q => by cases q) hin rfl rfl hd fun H1 e z oq => bs_st hw hz hl hr (by simp [bcs]) (fin H1 _ (by rw [e]; rfl)) z oq k
  · exact W.zast hx hcb hcell ((hb.1.2 3 _ rfl).1 xs.length (fun j => .int (xs.getD j 0))) (fun q => by cases q) hin rfl rfl hd fun H1 e z oq => bs_st hw hz hl hr (by simp [bcs]) (fin H1 _ (by rw [e]; rfl)) z oq k
theorem bs_lst (C0 : CallFix p m c cc nL s args bw_G own) (hb : bK K s) (hw : bS K.D K.B w.1.length (bct K w.1) s H locs) (hz : w.2 = 0 → H.size = K.B + w.1.length) (hl : lv_has ls nL (bvl K lv)) {r : Nat} {xs : List Int64} {i : Int32} {x : Int64} (hr : w.1[r]? = some (.inr (.inr (.inl xs)))) (hi : bin i xs.length = true)
    (hd : decode cc pc = .ok (.lastore, 1)) (k : bCont p l e R s m args below meth c cells slots Q K nL w (pc + 1, lv, rest, (w.1.set r (.inr (.inr (.inl (xs.set i.toNatClampNeg x)))), w.2))) : W p l e R s m args below meth c H locs cells slots Q (F0 m pc ls ((.inr (.inl x) :: .inl i :: .inr (.inr (.inl r)) :: rest : List bV).map (bvv K))) := by
  obtain ⟨hx, hcb, hml, hown, hts⟩ := C0
  have hcell : H[K.B + r]? = some (arrV (K.cy 2) xs.length (fun j => .long (xs.getD j 0))) := bat hw.1 hr
  have hlt := (bin_of hi).2
  refine W.last hx hcb hcell ((hb.1.2 2 _ rfl).1 xs.length (fun j => .long (xs.getD j 0))) (fun q => by cases q) (by rw [arrV_size]; exact (bin_of hi).1) rfl rfl hd fun H1 e z oq => bs_st hw hz hl hr (by simp [bcs]) ?_ z oq k
  show H1[K.B + r]? = some (arrV (K.cy 2) (xs.set i.toNatClampNeg x).length (fun j => .long ((xs.set i.toNatClampNeg x).getD j 0)))
  rw [e, arrV_store, b_upl hlt, List.length_set]
theorem bs_ast (C0 : CallFix p m c cc nL s args bw_G own) (hb : bK K s) (hw : bS K.D K.B w.1.length (bct K w.1) s H locs) (hz : w.2 = 0 → H.size = K.B + w.1.length) (hl : lv_has ls nL (bvl K lv)) {r v t ci : Nat} {xs : List (Option Nat)} {fs : List bV} {i : Int32} (hr : w.1[r]? = some (.inr (.inr (.inr (t, xs))))) (hv : w.1[v]? = some (.inl (ci, fs))) (ht : t = 4 ∨ t = 5) (hc : ci = bcls t) (hi : bin i xs.length = true)
    (hd : decode cc pc = .ok (.aastore, 1)) (k : bCont p l e R s m args below meth c cells slots Q K nL w (pc + 1, lv, rest, (w.1.set r (.inr (.inr (.inr (t, xs.set i.toNatClampNeg (some v))))), w.2))) : W p l e R s m args below meth c H locs cells slots Q (F0 m pc ls ((.inr (.inr (.inl v)) :: .inl i :: .inr (.inr (.inl r)) :: rest : List bV).map (bvv K))) := by
  obtain ⟨hx, hcb, hml, hown, hts⟩ := C0
  have hcell : H[K.B + r]? = some (arrV (K.cy t) xs.length (fun j => va_rf ((xs.getD j none).map (fun k => K.B + k)))) := bat hw.1 hr
  have hlt := (bin_of hi).2
  have h0 : ¬ i < 0 := fun q => (bin_of hi).1 (Or.inl q)
  obtain ⟨r', hr', cellV, g1, g2, g3, -⟩ := bat hw.1 hv
  have ht' : ∃ q : vw_C, vwCl[ci]? = some q ∧ (b_tys K.cy)[t]? = some (K.cy t, .object q.1) := by
    subst hc
    rcases ht with rfl | rfl
    · exact ⟨_, rfl, rfl⟩
    · exact ⟨_, rfl, rfl⟩
  obtain ⟨q, hq1, hq2⟩ := ht'
  have hcls := (hb.1.1 ci q hq1).2
  obtain ⟨kA, comp, k1, k2, k3, -⟩ := (hb.1.2 t _ hq2).2
  have hcomp : comp = K.D.1 ci := Option.some.inj (k3.symm.trans hcls.1)
  subst hcomp
  obtain ⟨kC, hkC, -⟩ := hcls.2
  refine W.aast hx hcb hcell (fun q h => by cases h) (fun h => by cases h) k1 k2 rfl hkC ⟨h0, by show _ < (arrV _ _ _).slots.size; rw [arrV_size]; exact hlt⟩ g1 (fun q h => by rw [g3] at h; cases h) (by rw [g2]; exact hkC) (by rw [g2]; exact va_assign hcls) rfl rfl hd fun H1 e z oq => bs_st hw hz hl hr (by simp [bcs]) ?_ z oq k
  show H1[K.B + r]? = some (arrV (K.cy t) (xs.set i.toNatClampNeg (some v)).length (fun j => va_rf (((xs.set i.toNatClampNeg (some v)).getD j none).map (fun k => K.B + k))))
  rw [e, arrV_store, b_upq hlt, List.length_set]
end BHEAP
end
section
/-! Steps that make arrays, read them, and the rest. -/
section BMORE
variable {p : Program} {l : Launch} {e : Env} {R : Room} {s : State} {m : MethodId} {args : Array Value} {below : List Frame} {meth : Method} {c : Code} {H : Heap} {locs : List Loc} {cells slots : Nat} {Q : State → Prop}
variable {cc : ByteArray} {pc nL : Nat} {own : String} {ls : Array Slot} {K : KE} {E : Nat → bC} {lv : List (Nat × bV)} {st rest : List bV} {w : bW}
theorem b_rep {α : Type} (n j : Nat) (d : α) : (List.replicate n d).getD j d = d := by
  simp only [List.getD_eq_getElem?_getD, List.getElem?_replicate]
  by_cases h : j < n
  · rw [if_pos h]; rfl
  · rw [if_neg h]; rfl
theorem bs_nw1 (C0 : CallFix p m c cc nL s args bw_G own) (hb : bK K s) (hw : bS K.D K.B w.1.length (bct K w.1) s H locs) (hz : w.2 = 0 → H.size = K.B + w.1.length) (hl : lv_has ls nL (bvl K lv)) {c1 : bC} {n : Nat} (hcs : bcs c1 = n) {H1 : Heap} {pc' : Nat} (z1 : H1.size = K.B + (w.1.length + 1)) (hw1 : bS K.D K.B (w.1.length + 1) (bw_up (bct K w.1) w.1.length (bce K c1)) s H1 locs)
    (k : bCont p l e R s m args below meth c cells slots Q K nL w (pc', lv, .inr (.inr (.inl w.1.length)) :: rest, (w.1 ++ [c1], w.2))) : W p l e R s m args below meth c H1 locs (cells + 1) (slots + n) Q (F0 m pc' ls (.ref (K.B + w.1.length) :: rest.map (bvv K))) := by
  refine k H1 locs ls (cells + 1) (slots + n) ?_ (fun _ => by rw [z1]; simp) hl (by simp; omega) (by simp only []; rw [bsz_push, hcs]; omega)
  simp only [List.length_append, List.length_cons, List.length_nil]
  rw [bct_push]
  exact hw1
theorem bs_nwa (C0 : CallFix p m c cc nL s args bw_G own) (hb : bK K s) (hw : bS K.D K.B w.1.length (bct K w.1) s H locs) (hz : w.2 = 0 → H.size = K.B + w.1.length) (hl : lv_has ls nL (bvl K lv)) (h0 : w.2 = 0) {n : Int32} {t : Nat} {ty : ArrayType} (hn : ¬ n < 0) (hN : n.toNatClampNeg * 8 ≤ 536870912) (harr : Jvm.Cond.arrayClass (newarray.typeOf ty) ∈ bw_G) (hty : (ty = .char ∧ t = 0) ∨ (ty = .int ∧ t = 1) ∨ (ty = .long ∧ t = 2) ∨ (ty = .boolean ∧ t = 3))
    (hcells : cells + 1 ≤ R.cells) (hslots : slots + n.toNatClampNeg ≤ R.slots)
    (hd : decode cc pc = .ok (.newarray ty, 2)) (k : bCont p l e R s m args below meth c cells slots Q K nL w (pc + 2, lv, .inr (.inr (.inl w.1.length)) :: rest, (w.1 ++ [if t = 2 then .inr (.inr (.inl (List.replicate n.toNatClampNeg 0))) else .inr (.inl (t, List.replicate n.toNatClampNeg 0))], w.2))) : W p l e R s m args below meth c H locs cells slots Q (F0 m pc ls ((.inl n :: rest : List bV).map (bvv K))) := by
  have hf : (fun j => (List.replicate n.toNatClampNeg (0 : Int32)).getD j 0) = fun _ => (0 : Int32) := by funext j; exact b_rep _ _ _
  have hg : (fun j => (List.replicate n.toNatClampNeg (0 : Int64)).getD j 0) = fun _ => (0 : Int64) := by funext j; exact b_rep _ _ _
  have e1 : ∀ t : Nat, bce K (.inr (.inl (t, List.replicate n.toNatClampNeg 0))) = .inl (K.cy t, n.toNatClampNeg, .inl (fun _ => 0)) := by
    intro t
    show Sum.inl (K.cy t, (List.replicate n.toNatClampNeg (0 : Int32)).length, Sum.inl _) = _
    rw [hf, List.length_replicate]
  have e2 : bce K (.inr (.inr (.inl (List.replicate n.toNatClampNeg 0)))) = .inl (K.cy 2, n.toNatClampNeg, .inr (.inl (fun _ => 0))) := by
    show Sum.inl (K.cy 2, (List.replicate n.toNatClampNeg (0 : Int64)).length, Sum.inr (Sum.inl _)) = _
    rw [hg, List.length_replicate]
  rcases hty with ⟨rfl, rfl⟩ | ⟨rfl, rfl⟩ | ⟨rfl, rfl⟩ | ⟨rfl, rfl⟩
  · exact br_newa C0 hb hw (hz h0) (ty := .char) rfl harr 0 rfl (fun U cB h => h) (a0 := (n.toNatClampNeg, .inl (fun _ => 0))) rfl hn rfl (by show _ * 2 ≤ _; omega) hcells hslots hd fun H1 z1 hw1 => bs_nw1 C0 hb hw hz hl (by simp [bcs]) z1 (by rw [if_neg (by decide), e1]; exact hw1) k
  · exact br_newa C0 hb hw (hz h0) (ty := .int) rfl harr 1 rfl (fun U cB h => h) (a0 := (n.toNatClampNeg, .inl (fun _ => 0))) rfl hn rfl (by show _ * 4 ≤ _; omega) hcells hslots hd fun H1 z1 hw1 => bs_nw1 C0 hb hw hz hl (by simp [bcs]) z1 (by rw [if_neg (by decide), e1]; exact hw1) k
  · exact br_newa C0 hb hw (hz h0) (ty := .long) rfl harr 2 rfl (fun U cB h => h) (a0 := (n.toNatClampNeg, .inr (.inl (fun _ => 0)))) rfl hn rfl (by show _ * 8 ≤ _; omega) hcells hslots hd fun H1 z1 hw1 => bs_nw1 C0 hb hw hz hl (by simp [bcs]) z1 (by rw [if_pos rfl, e2]; exact hw1) k
  · exact br_newa C0 hb hw (hz h0) (ty := .boolean) rfl harr 3 rfl (fun U cB h => h) (a0 := (n.toNatClampNeg, .inl (fun _ => 0))) rfl hn rfl (by show _ * 1 ≤ _; omega) hcells hslots hd fun H1 z1 hw1 => bs_nw1 C0 hb hw hz hl (by simp [bcs]) z1 (by rw [if_neg (by decide), e1]; exact hw1) k
theorem bs_nwq (C0 : CallFix p m c cc nL s args bw_G own) (hb : bK K s) (hw : bS K.D K.B w.1.length (bct K w.1) s H locs) (hz : w.2 = 0 → H.size = K.B + w.1.length) (hl : lv_has ls nL (bvl K lv)) (h0 : w.2 = 0) {n : Int32} {t ix : Nat} (hn : ¬ n < 0) (hN : n.toNatClampNeg * 8 ≤ 536870912) (hty : (Jvm.Cond.classLink own ix "Boxedvalue$Box" ∈ bw_G ∧ t = 4) ∨ (Jvm.Cond.classLink own ix "Boxedvalue$Formula" ∈ bw_G ∧ t = 5))
    (hcells : cells + 1 ≤ R.cells) (hslots : slots + n.toNatClampNeg ≤ R.slots)
    (hd : decode cc pc = .ok (.anewarray ix, 3)) (k : bCont p l e R s m args below meth c cells slots Q K nL w (pc + 3, lv, .inr (.inr (.inl w.1.length)) :: rest, (w.1 ++ [.inr (.inr (.inr (t, List.replicate n.toNatClampNeg none)))], w.2))) : W p l e R s m args below meth c H locs cells slots Q (F0 m pc ls ((.inl n :: rest : List bV).map (bvv K))) := by
  have e1 : ∀ t : Nat, bce K (.inr (.inr (.inr (t, List.replicate n.toNatClampNeg none)))) = .inl (K.cy t, n.toNatClampNeg, .inr (.inr (.inr (.inr (fun _ => none))))) := by
    intro t
    show Sum.inl (K.cy t, (List.replicate n.toNatClampNeg (none : Option Nat)).length, Sum.inr (Sum.inr (Sum.inr (Sum.inr (fun j => ((List.replicate n.toNatClampNeg none).getD j none).map (fun k => K.B + k)))))) = _
    rw [List.length_replicate]
    have h9 : (fun j => ((List.replicate n.toNatClampNeg (none : Option Nat)).getD j none).map (fun k => K.B + k)) = fun _ => none := by
      funext j; rw [b_rep]; rfl
    rw [h9]
  rcases hty with ⟨h1, rfl⟩ | ⟨h1, rfl⟩
  · exact br_newq C0 hb hw (hz h0) h1 hb.2.2.2.2.2.1 4 rfl hn rfl (by omega) hcells hslots hd fun H1 z1 hw1 => bs_nw1 C0 hb hw hz hl (by simp [bcs]) z1 (by rw [e1]; exact hw1) k
  · exact br_newq C0 hb hw (hz h0) h1 hb.2.2.2.2.2.2.1 5 rfl hn rfl (by omega) hcells hslots hd fun H1 z1 hw1 => bs_nw1 C0 hb hw hz hl (by simp [bcs]) z1 (by rw [e1]; exact hw1) k
theorem bld_inv {t : Nat} {q : bF} (h : bld E pc t lv st w = some q) : ∃ (i : Int32) (a v : bV) (r : List bV), st = .inl i :: a :: r ∧ bload i t (barr E w a) = some v ∧ (pc + 1, lv, v :: r, w) = q := by
  unfold bld at h
  split at h
  · split at h
    · rename_i v hv
      exact ⟨_, _, v, _, rfl, hv, Option.some.inj h⟩
    · cases h
  · cases h
theorem bload_inv {i : Int32} {t : Nat} {co : Option bC} {v : bV} (h : bload i t co = some v) : (∃ xs : List Int32, co = some (.inr (.inl (t, xs))) ∧ (t = 0 ∨ t = 1 ∨ t = 3) ∧ bin i xs.length = true ∧ v = .inl (xs.getD i.toNatClampNeg 0)) ∨ (∃ xs : List Int64, t = 2 ∧ co = some (.inr (.inr (.inl xs))) ∧ bin i xs.length = true ∧ v = .inr (.inl (xs.getD i.toNatClampNeg 0))) ∨
    (∃ (t' : Nat) (xs : List (Option Nat)), t = 4 ∧ co = some (.inr (.inr (.inr (t', xs)))) ∧ (t' = 4 ∨ t' = 5) ∧ bin i xs.length = true ∧ bvv K v = va_rf ((xs.getD i.toNatClampNeg none).map (fun k => K.B + k))) := by
  unfold bload at h
  split at h
  · split at h
    · rename_i h1
      obtain ⟨rfl, h0, h1⟩ := h1
      exact Or.inl ⟨_, rfl, h0, h1, (Option.some.inj h).symm⟩
    · cases h
  · split at h
    · rename_i h1
      exact Or.inr (Or.inl ⟨_, h1.1, rfl, h1.2, (Option.some.inj h).symm⟩)
    · cases h
  · split at h
    · rename_i t' xs h1
      refine Or.inr (Or.inr ⟨t', xs, h1.1, rfl, h1.2.1, h1.2.2, ?_⟩)
      have h2 := Option.some.inj h
      rw [← h2]
      cases xs.getD i.toNatClampNeg none <;> rfl
    · cases h
  · cases h
theorem barr_inv {a : bV} {c1 : bC} (h : barr E w a = some c1) : (∃ r : Nat, a = .inr (.inr (.inl r)) ∧ w.1[r]? = some c1) ∨ ∃ j : Nat, a = .inr (.inr (.inr (some j))) ∧ E j = c1 := by
  unfold barr at h
  split at h
  · exact Or.inl ⟨_, rfl, h⟩
  · exact Or.inr ⟨_, rfl, Option.some.inj h⟩
  · cases h
theorem bs_load (hE : bEok K E) (C0 : CallFix p m c cc nL s args bw_G own) (hb : bK K s) (hw : bS K.D K.B w.1.length (bct K w.1) s H locs) (hz : w.2 = 0 → H.size = K.B + w.1.length) (hl : lv_has ls nL (bvl K lv)) {t : Nat} {q : bF} (h : bld E pc t lv st w = some q)
    (hd : (t = 1 ∧ decode cc pc = .ok (.iaload, 1)) ∨ (t = 0 ∧ decode cc pc = .ok (.caload, 1)) ∨ (t = 3 ∧ decode cc pc = .ok (.baload, 1)) ∨ (t = 2 ∧ decode cc pc = .ok (.laload, 1)) ∨ (t = 4 ∧ decode cc pc = .ok (.aaload, 1))) (k : bCont p l e R s m args below meth c cells slots Q K nL w q) : W p l e R s m args below meth c H locs cells slots Q (F0 m pc ls (st.map (bvv K))) := by
  obtain ⟨i, a, v, r, rfl, hv, rfl⟩ := bld_inv h
  have kk := bp hw hz hl k
  cases hco : barr E w a with
  | none => rw [hco] at hv; cases hv
  | some c1 =>
    rw [hco] at hv
    rcases barr_inv hco with ⟨r0, rfl, hr⟩ | ⟨j, rfl, hj⟩
    · have hr0 : r0 < w.1.length := (List.getElem?_eq_some_iff.mp hr).1
      have he := bct_at (K := K) hr
      rcases bload_inv (K := K) hv with ⟨xs, h1, h0, h2, rfl⟩ | ⟨xs, rfl, h1, h2, rfl⟩ | ⟨t', xs, rfl, h1, h0, h2, h3⟩
      · cases h1
        rcases hd with ⟨rfl, hd⟩ | ⟨rfl, hd⟩ | ⟨rfl, hd⟩ | ⟨rfl, hd⟩ | ⟨rfl, hd⟩
        · exact br_iald C0 hb hw hr0 (N := xs.length) (f := fun j => xs.getD j 0) he (bin_of h2).1 hd kk
        · exact br_cald C0 hb hw hr0 (N := xs.length) (f := fun j => xs.getD j 0) he (bin_of h2).1 hd kk
        · exact br_zald C0 hb hw hr0 (N := xs.length) (f := fun j => xs.getD j 0) he (bin_of h2).1 hd kk
        · omega
        · omega
      · cases h1
        rcases hd with ⟨h9, hd⟩ | ⟨h9, hd⟩ | ⟨h9, hd⟩ | ⟨-, hd⟩ | ⟨h9, hd⟩ <;> first | omega | exact br_lald C0 hb hw hr0 (N := xs.length) (f := fun j => xs.getD j 0) he (bin_of h2).1 hd kk
      · cases h1
        have ht : ∃ C : String, (b_tys K.cy)[t']? = some (K.cy t', .object C) := by
          rcases h0 with rfl | rfl
          · exact ⟨_, rfl⟩
          · exact ⟨_, rfl⟩
        obtain ⟨C, ht⟩ := ht
        rcases hd with ⟨h9, hd⟩ | ⟨h9, hd⟩ | ⟨h9, hd⟩ | ⟨h9, hd⟩ | ⟨-, hd⟩ <;> first | omega | exact br_aald C0 hb hw hr0 t' ht (N := xs.length) (f := fun j => (xs.getD j none).map (fun k => K.B + k)) he (bin_of h2).1 h3.symm hd kk
    · obtain ⟨e1, e2, e3, e4⟩ := hE j
      rcases bload_inv (K := K) hv with ⟨xs, h1, h0, h2, rfl⟩ | ⟨xs, rfl, h1, h2, rfl⟩ | ⟨t', xs, rfl, h1, h0, h2, h3⟩
      · cases h1
        obtain ⟨rfl, f, nm, hj1, hf⟩ := e1 _ _ hj
        rcases hd with ⟨-, hd⟩ | ⟨h9, hd⟩ | ⟨h9, hd⟩ | ⟨h9, hd⟩ | ⟨h9, hd⟩ <;> first | omega | exact va_ti C0.1 C0.2.1 (hb.2.1 j _ hj1).1 hw.2 (bin_of h2).1 (hf _ (bin_of h2).2) hd kk
      · cases h1
        obtain ⟨f, nm, hj1, hf⟩ := e2 _ hj
        rcases hd with ⟨h9, hd⟩ | ⟨h9, hd⟩ | ⟨h9, hd⟩ | ⟨-, hd⟩ | ⟨h9, hd⟩ <;> first | omega | exact va_tl C0.1 C0.2.1 (hb.2.1 j _ hj1).1 hw.2 (bin_of h2).1 (hf _ (bin_of h2).2) hd kk
      · cases h1
        exact absurd hj (e4 _ _)
theorem bs_alen (hE : bEok K E) (C0 : CallFix p m c cc nL s args bw_G own) (hb : bK K s) (hw : bS K.D K.B w.1.length (bct K w.1) s H locs) (hz : w.2 = 0 → H.size = K.B + w.1.length) (hl : lv_has ls nL (bvl K lv)) {a : bV} {c1 : bC} {n : Nat} (h : barr E w a = some c1) (hn : blen c1 = some n)
    (hd : decode cc pc = .ok (.arraylength, 1)) (k : bCont p l e R s m args below meth c cells slots Q K nL w (pc + 1, lv, .inl (Int32.ofNat n) :: rest, w)) : W p l e R s m args below meth c H locs cells slots Q (F0 m pc ls ((a :: rest : List bV).map (bvv K))) := by
  have kk := bp hw hz hl k
  rcases barr_inv h with ⟨r0, rfl, hr⟩ | ⟨j, rfl, rfl⟩
  · have hr0 : r0 < w.1.length := (List.getElem?_eq_some_iff.mp hr).1
    have he := bct_at (K := K) hr
    rcases c1 with ⟨ci, fs⟩ | ⟨t, xs⟩ | xs | ⟨t, xs⟩
    · cases hn
    · have hn : (if t = 0 ∨ t = 1 ∨ t = 3 then some xs.length else none) = some n := hn
      split at hn
      · rename_i h7
        cases hn
        rcases h7 with rfl | rfl | rfl
        · exact br_alen C0 hb hw hr0 0 rfl he rfl hd kk
        · exact br_alen C0 hb hw hr0 1 rfl he rfl hd kk
        · exact br_alen C0 hb hw hr0 3 rfl he rfl hd kk
      · cases hn
    · cases hn
      exact br_alen C0 hb hw hr0 2 rfl he rfl hd kk
    · have hn : (if t = 4 ∨ t = 5 then some xs.length else none) = some n := hn
      split at hn
      · rename_i h7
        cases hn
        rcases h7 with rfl | rfl
        · exact br_alen C0 hb hw hr0 4 rfl he rfl hd kk
        · exact br_alen C0 hb hw hr0 5 rfl he rfl hd kk
      · cases hn
  · obtain ⟨e1, e2, e3, e4⟩ := hE j
    cases hj : E j with
    | inl q => rw [hj] at hn; cases hn
    | inr q =>
      rw [hj] at hn
      rcases q with ⟨t, xs⟩ | xs | ⟨t, xs⟩
      · obtain ⟨rfl, f, nm, hj1, hf⟩ := e1 _ _ hj
        have hn : (if 1 = 0 ∨ 1 = 1 ∨ 1 = 3 then some xs.length else none) = some n := hn
        rw [if_pos (by decide)] at hn
        cases hn
        exact va_tlen C0.1 C0.2.1 (hb.2.1 j _ hj1).1 hw.2 rfl hd kk
      · obtain ⟨f, nm, hj1, hf⟩ := e2 _ hj
        cases hn
        exact va_tlen C0.1 C0.2.1 (hb.2.1 j _ hj1).1 hw.2 rfl hd kk
      · exact absurd hj (e4 _ _)
theorem bs_gst (hE : bEok K E) (C0 : CallFix p m c cc nL s args bw_G own) (hb : bK K s) (hw : bS K.D K.B w.1.length (bct K w.1) s H locs) (hz : w.2 = 0 → H.size = K.B + w.1.length) (hl : lv_has ls nL (bvl K lv)) {a ix : Nat} (ok : ∃ f : String × String × String, bsf a = some f ∧ (Jvm.Cond.fieldLink own ix f.1 f.2.1 f.2.2 ∈ bw_G ∨ ∃ host : String, (own, ix, f.1, f.2.1, f.2.2, host) ∈ bwN))
    (hd : decode cc pc = .ok (.getstatic ix, 3)) (k : bCont p l e R s m args below meth c cells slots Q K nL w (pc + 3, lv, .inr (.inr (.inr (some a))) :: st, w)) : W p l e R s m args below meth c H locs cells slots Q (F0 m pc ls (st.map (bvv K))) := by
  have kk := bp hw hz hl k
  obtain ⟨f, hf, hlink⟩ := ok
  obtain ⟨q, hq, hqf⟩ := (hE a).2.2.1 f hf
  have hZ := (hb.2.1 a q hq).2 f hqf
  rcases hlink with hlink | ⟨host, hlink⟩
  · exact va_gets C0.1 C0.2.1 hZ hw.2 C0.2.2.2.1 (C0.2.2.2.2 _ hlink) (fun _ h => h) hd kk
  · exact va_getsN C0.1 C0.2.1 hZ hw.2 C0.2.2.2.1 ((hb.2.2.2.2.2.2.2.2.2.2.1 _ hlink).use rfl) (fun _ h => h) hd kk
theorem bs_obj (C0 : CallFix p m c cc nL s args bw_G own) (hw : bS K.D K.B w.1.length (bct K w.1) s H locs) (hz : w.2 = 0 → H.size = K.B + w.1.length) (hl : lv_has ls nL (bvl K lv)) {r ix : Nat} (h1 : Jvm.Cond.methodLink own ix Lib.objectInit ∈ bw_G ∧ Jvm.Cond.instanceMethod Lib.objectInit ∈ bw_G ∧ Jvm.Cond.code Lib.objectInit ⟨#[0xb1]⟩ 1 none ∈ bw_G) (hfr : 1 ≤ R.frames) (hlo : (rest.map bvc).sum + 12 ≤ R.locals)
    (hd : decode cc pc = .ok (.invokespecial ix, 3)) (k : bCont p l e R s m args below meth c cells slots Q K nL w (pc + 3, lv, rest, w)) : W p l e R s m args below meth c H locs cells slots Q (F0 m pc ls ((.inr (.inr (.inl r)) :: rest : List bV).map (bvv K))) := by
  have kk := bp hw hz hl k
  have hc : (rest.map bvc).sum = ((rest.map (bvv K)).map fun v => v.category).sum := by
    rw [List.map_map]
    congr 1
    apply List.map_congr_left
    intro v _
    exact (bvc_v K v).symm
  exact W.objInit C0.1 C0.2.1 C0.2.2.2.1 (C0.2.2.2.2 _ h1.1) (C0.2.2.2.2 _ h1.2.1) (C0.2.2.2.2 _ h1.2.2) rfl (by rw [C0.2.2.1]; exact hl.1) rfl hd hfr (by rw [hc] at hlo; show 2 * 0 + _ + 12 ≤ _; omega) kk
end BMORE
end
section
/-! THE STEP: every instruction that the reader reads. -/
section BSTEPS
variable {p : Program} {l : Launch} {e : Env} {R : Room} {s : State} {m : MethodId} {args : Array Value} {below : List Frame} {meth : Method} {c : Code} {H : Heap} {locs : List Loc} {cells slots : Nat} {Q : State → Prop}
variable {cc : ByteArray} {pc nL : Nat} {own : String} {ls : Array Slot} {K : KE} {E : Nat → bC} {lv : List (Nat × bV)} {st rest : List bV} {w : bW}
theorem bs_stl (C0 : CallFix p m c cc nL s args bw_G own) (hw : bS K.D K.B w.1.length (bct K w.1) s H locs) (hz : w.2 = 0 → H.size = K.B + w.1.length) {lv' : List (Nat × bV)} {pc' : Nat} (k : bCont p l e R s m args below meth c cells slots Q K nL w (pc', lv', rest, w)) : ∀ ls' : Array Slot, lv_has ls' nL (bvl K lv') → W p l e R s m args below meth c H locs cells slots Q (F0 m pc' ls' (rest.map (bvv K))) :=
  fun ls' h => k H locs ls' cells slots hw hz h rfl rfl
theorem bs_jf (C0 : CallFix p m c cc nL s args bw_G own) {cd : ClassFile.Cond} {off : Int} {tgt : Nat} {x : Int32} (hd : decode cc pc = .ok (.ifCond cd off, 3)) (ht : (pc : Int) + off = (tgt : Int)) {rs : List Value} (k : W p l e R s m args below meth c H locs cells slots Q (F0 m (if bcmp cd x 0 = true then tgt else pc + 3) ls rs)) : W p l e R s m args below meth c H locs cells slots Q (F0 m pc ls (.int x :: rs)) := by
  cases cd <;> simp only [bcmp, decide_eq_true_eq] at k
  · exact lv_if_eq C0.1 C0.2.1 hd ht (fun h => by rw [if_pos h] at k; exact k) (fun h => by rw [if_neg h] at k; exact k)
  · exact lv_if_ne C0.1 C0.2.1 hd ht (fun h => by rw [if_pos h] at k; exact k) (fun h => by rw [if_neg (fun q => q h)] at k; exact k)
  · exact lv_if_lt C0.1 C0.2.1 hd ht (fun h => by rw [if_pos h] at k; exact k) (fun h => by rw [if_neg h] at k; exact k)
  · exact lv_if_ge C0.1 C0.2.1 hd ht (fun h => by rw [if_pos h] at k; exact k) (fun h => by rw [if_neg h] at k; exact k)
  · exact lv_if_gt C0.1 C0.2.1 hd ht (fun h => by rw [if_pos h] at k; exact k) (fun h => by rw [if_neg h] at k; exact k)
  · exact lv_if_le C0.1 C0.2.1 hd ht (fun h => by rw [if_pos h] at k; exact k) (fun h => by rw [if_neg h] at k; exact k)
theorem bs_jc (C0 : CallFix p m c cc nL s args bw_G own) {cd : ClassFile.Cond} {off : Int} {tgt : Nat} {x y : Int32} (hd : decode cc pc = .ok (.if_icmp cd off, 3)) (ht : (pc : Int) + off = (tgt : Int)) {rs : List Value} (k : W p l e R s m args below meth c H locs cells slots Q (F0 m (if bcmp cd x y = true then tgt else pc + 3) ls rs)) : W p l e R s m args below meth c H locs cells slots Q (F0 m pc ls (.int y :: .int x :: rs)) := by
  cases cd <;> simp only [bcmp, decide_eq_true_eq] at k
  · exact lv_icmp_eq C0.1 C0.2.1 hd ht (fun h => by rw [if_pos h] at k; exact k) (fun h => by rw [if_neg h] at k; exact k)
  · exact lv_icmp_ne C0.1 C0.2.1 hd ht (fun h => by rw [if_pos h] at k; exact k) (fun h => by rw [if_neg (fun q => q h)] at k; exact k)
  · exact lv_icmp_lt C0.1 C0.2.1 hd ht (fun h => by rw [if_pos h] at k; exact k) (fun h => by rw [if_neg h] at k; exact k)
  · exact lv_icmp_ge C0.1 C0.2.1 hd ht (fun h => by rw [if_pos h] at k; exact k) (fun h => by rw [if_neg h] at k; exact k)
  · exact lv_icmp_gt C0.1 C0.2.1 hd ht (fun h => by rw [if_pos h] at k; exact k) (fun h => by rw [if_neg h] at k; exact k)
  · exact lv_icmp_le C0.1 C0.2.1 hd ht (fun h => by rw [if_pos h] at k; exact k) (fun h => by rw [if_neg h] at k; exact k)
theorem binc_inv {i : Nat} {n : Int} {q : bF} (h : binc nL pc i n lv st w = some q) : ∃ x : Int32, blk lv i = some (.inl x) ∧ i < nL ∧ (pc + 3, bst1 lv i (.inl (x + Int32.ofInt n)), st, w) = q := by
  unfold binc at h
  split at h
  · split at h
    · exact ⟨_, by assumption, by assumption, Option.some.inj h⟩
    · cases h
  · cases h
theorem bdup_inv {q : bF} (h : bdup pc lv st w = some q) : ∃ (v : bV) (r : List bV), st = v :: r ∧ bvc v = 1 ∧ (pc + 1, lv, v :: v :: r, w) = q := by
  unfold bdup at h
  split at h
  · split at h
    · exact ⟨_, _, rfl, by assumption, Option.some.inj h⟩
    · cases h
  · cases h
theorem bpop_inv {q : bF} (h : bpop pc lv st w = some q) : ∃ (v : bV) (r : List bV), st = v :: r ∧ bvc v = 1 ∧ (pc + 1, lv, r, w) = q := by
  unfold bpop at h
  split at h
  · split at h
    · exact ⟨_, _, rfl, by assumption, Option.some.inj h⟩
    · cases h
  · cases h
theorem bdup2_inv {q : bF} (h : bdup2 pc lv st w = some q) : (∃ (v : bV) (r : List bV), st = v :: r ∧ bvc v = 2 ∧ (pc + 1, lv, v :: v :: r, w) = q) ∨ ∃ (v u : bV) (r : List bV), st = v :: u :: r ∧ bvc v = 1 ∧ bvc u = 1 ∧ (pc + 1, lv, v :: u :: v :: u :: r, w) = q := by
  unfold bdup2 at h
  split at h
  · split at h
    · exact Or.inl ⟨_, _, rfl, by assumption, Option.some.inj h⟩
    · split at h
      · split at h
        · rename_i h9
          exact Or.inr ⟨_, _, _, rfl, h9.1, h9.2, Option.some.inj h⟩
        · cases h
      · cases h
  · cases h
theorem bpop2_inv {q : bF} (h : bpop2 pc lv st w = some q) : ∃ (v : bV) (r : List bV), st = v :: r ∧ bvc v = 2 ∧ (pc + 1, lv, r, w) = q := by
  unfold bpop2 at h
  split at h
  · split at h
    · exact ⟨_, _, rfl, by assumption, Option.some.inj h⟩
    · cases h
  · cases h
theorem bjf_inv {cd : ClassFile.Cond} {a : Nat} {q : bF} (h : bjf cd pc a lv st w = some q) : ∃ (x : Int32) (r : List bV), st = .inl x :: r ∧ (if bcmp cd x 0 = true then a else pc + 3, lv, r, w) = q := by
  unfold bjf at h
  split at h
  · exact ⟨_, _, rfl, Option.some.inj h⟩
  · cases h
theorem bjc_inv {cd : ClassFile.Cond} {a : Nat} {q : bF} (h : bjc cd pc a lv st w = some q) : ∃ (x y : Int32) (r : List bV), st = .inl y :: .inl x :: r ∧ (if bcmp cd x y = true then a else pc + 3, lv, r, w) = q := by
  unfold bjc at h
  split at h
  · exact ⟨_, _, _, rfl, Option.some.inj h⟩
  · cases h
theorem bgf_inv {a b : Nat} {q : bF} (h : bgf pc a b lv st w = some q) : ∃ (r : Nat) (rest fs : List bV) (v : bV), st = .inr (.inr (.inl r)) :: rest ∧ w.1[r]? = some (.inl (a, fs)) ∧ fs[b]? = some v ∧ (pc + 3, lv, v :: rest, w) = q := by
  unfold bgf at h
  split at h
  · split at h
    · split at h
      · rename_i hci
        subst hci
        split at h
        · exact ⟨_, _, _, _, rfl, by assumption, by assumption, Option.some.inj h⟩
        · cases h
      · cases h
    · cases h
  · cases h
theorem bpf_inv {a b : Nat} {q : bF} (h : bpf pc a b lv st w = some q) : ∃ (r : Nat) (v : bV) (rest fs : List bV), st = v :: .inr (.inr (.inl r)) :: rest ∧ w.1[r]? = some (.inl (a, fs)) ∧ b < fs.length ∧ bokf ((bty a).getD b .byte) v = true ∧ (pc + 3, lv, rest, (w.1.set r (.inl (a, fs.set b v)), w.2)) = q := by
  unfold bpf at h
  split at h
  · split at h
    · split at h
      · rename_i hci
        obtain ⟨rfl, h1, h2⟩ := hci
        exact ⟨_, _, _, _, rfl, by assumption, h1, h2, Option.some.inj h⟩
      · cases h
    · cases h
  · cases h
theorem balen_inv {q : bF} (h : balen E pc lv st w = some q) : ∃ (a : bV) (r : List bV) (c1 : bC) (n : Nat), st = a :: r ∧ barr E w a = some c1 ∧ blen c1 = some n ∧ (pc + 1, lv, .inl (Int32.ofNat n) :: r, w) = q := by
  unfold balen at h
  split at h
  · split at h
    · split at h
      · exact ⟨_, _, _, _, rfl, by assumption, by assumption, Option.some.inj h⟩
      · cases h
    · cases h
  · cases h
theorem bnwa_inv {a : Nat} {q : bF} (h : bnwa pc a lv st w = some q) : ∃ (n : Int32) (r : List bV), st = .inl n :: r ∧ w.2 = 0 ∧ ¬ n < 0 ∧ n.toNatClampNeg * 8 ≤ 536870912 ∧ (pc + 2, lv, .inr (.inr (.inl w.1.length)) :: r, (w.1 ++ [if a = 2 then .inr (.inr (.inl (List.replicate n.toNatClampNeg 0))) else .inr (.inl (a, List.replicate n.toNatClampNeg 0))], w.2)) = q := by
  unfold bnwa at h
  split at h
  · split at h
    · rename_i h9
      exact ⟨_, _, rfl, h9.1, h9.2.1, h9.2.2, Option.some.inj h⟩
    · cases h
  · cases h
theorem bnwq_inv {a : Nat} {q : bF} (h : bnwq pc a lv st w = some q) : ∃ (n : Int32) (r : List bV), st = .inl n :: r ∧ w.2 = 0 ∧ ¬ n < 0 ∧ n.toNatClampNeg * 8 ≤ 536870912 ∧ (pc + 3, lv, .inr (.inr (.inl w.1.length)) :: r, (w.1 ++ [.inr (.inr (.inr (a, List.replicate n.toNatClampNeg none)))], w.2)) = q := by
  unfold bnwq at h
  split at h
  · split at h
    · rename_i h9
      exact ⟨_, _, rfl, h9.1, h9.2.1, h9.2.2, Option.some.inj h⟩
    · cases h
  · cases h
theorem bnew_inv {a : Nat} {v : Int} {q : bF} (h : bnew pc a v lv st w = some q) : w.2 = 0 ∧ v = 0 ∧ (pc + 3, lv, .inr (.inr (.inl w.1.length)) :: st, (w.1 ++ [.inl (a, (bty a).map bdf)], w.2)) = q := by
  unfold bnew at h
  split at h
  · rename_i h9
    exact ⟨h9.1, h9.2, Option.some.inj h⟩
  · cases h
theorem bobj_inv {v : Int} {q : bF} (h : bobj pc v lv st w = some q) : ∃ (x : Nat) (r : List bV), st = .inr (.inr (.inl x)) :: r ∧ v = 1 ∧ (r.map bvc).sum ≤ 8 ∧ (pc + 3, lv, r, w) = q := by
  unfold bobj at h
  split at h
  · split at h
    · rename_i h9
      exact ⟨_, _, rfl, h9.1, h9.2, Option.some.inj h⟩
    · cases h
  · cases h
theorem blsw_inv {d : Int} {ps : List (Int × Int)} {q : bF} (h : blsw pc d ps lv st w = some q) : ∃ (x : Int32) (r : List bV), st = .inl x :: r ∧ 0 ≤ (pc : Int) + Op.lookupswitch.offset ps d x.toInt ∧ (((pc : Int) + Op.lookupswitch.offset ps d x.toInt).toNat, lv, r, w) = q := by
  unfold blsw at h
  split at h
  · split at h
    · exact ⟨_, _, rfl, by assumption, Option.some.inj h⟩
    · cases h
  · cases h
theorem btsw_inv {d lo hi : Int} {offs : Array Int} {q : bF} (h : btsw pc d lo hi offs lv st w = some q) : ∃ (x : Int32) (r : List bV) (off : Int), st = .inl x :: r ∧ 0 ≤ (pc : Int) + off ∧ (((x.toInt < lo ∨ hi < x.toInt) ∧ off = d) ∨ (¬ (x.toInt < lo ∨ hi < x.toInt) ∧ offs[(x.toInt - lo).toNat]? = some off)) ∧ (((pc : Int) + off).toNat, lv, r, w) = q := by
  unfold btsw at h
  split at h
  · split at h
    · split at h
      · exact ⟨_, _, _, rfl, by assumption, Or.inl ⟨by assumption, rfl⟩, Option.some.inj h⟩
      · cases h
    · split at h
      · split at h
        · exact ⟨_, _, _, rfl, by assumption, Or.inr ⟨by assumption, by assumption⟩, Option.some.inj h⟩
        · cases h
      · cases h
  · cases h
theorem bast_inv {t : Nat} {q : bF} (h : bast pc t lv st w = some q) : ∃ (x i : Int32) (r : Nat) (rest : List bV) (xs : List Int32), st = .inl x :: .inl i :: .inr (.inr (.inl r)) :: rest ∧ w.1[r]? = some (.inr (.inl (t, xs))) ∧ bin i xs.length = true ∧ (pc + 1, lv, rest, (w.1.set r (.inr (.inl (t, xs.set i.toNatClampNeg (vp_nar (if t = 0 then .char else if t = 3 then .boolean else .int) x)))), w.2)) = q := by
  unfold bast at h
  split at h
  · split at h
    · split at h
      · rename_i h9
        obtain ⟨rfl, h9⟩ := h9
        exact ⟨_, _, _, _, _, rfl, by assumption, h9, Option.some.inj h⟩
      · cases h
    · cases h
  · cases h
theorem blast_inv {q : bF} (h : blast pc lv st w = some q) : ∃ (x : Int64) (i : Int32) (r : Nat) (rest : List bV) (xs : List Int64), st = .inr (.inl x) :: .inl i :: .inr (.inr (.inl r)) :: rest ∧ w.1[r]? = some (.inr (.inr (.inl xs))) ∧ bin i xs.length = true ∧ (pc + 1, lv, rest, (w.1.set r (.inr (.inr (.inl (xs.set i.toNatClampNeg x)))), w.2)) = q := by
  unfold blast at h
  split at h
  · split at h
    · split at h
      · exact ⟨_, _, _, _, _, rfl, by assumption, by assumption, Option.some.inj h⟩
      · cases h
    · cases h
  · cases h
theorem baast_inv {q : bF} (h : baast pc lv st w = some q) : ∃ (v : Nat) (i : Int32) (r : Nat) (rest : List bV) (t ci : Nat) (xs : List (Option Nat)) (fs : List bV), st = .inr (.inr (.inl v)) :: .inl i :: .inr (.inr (.inl r)) :: rest ∧ w.1[r]? = some (.inr (.inr (.inr (t, xs)))) ∧ w.1[v]? = some (.inl (ci, fs)) ∧ (t = 4 ∨ t = 5) ∧ ci = bcls t ∧ bin i xs.length = true ∧ (pc + 1, lv, rest, (w.1.set r (.inr (.inr (.inr (t, xs.set i.toNatClampNeg (some v))))), w.2)) = q := by
  unfold baast at h
  split at h
  · split at h
    · split at h
      · rename_i h9
        exact ⟨_, _, _, _, _, _, _, _, rfl, by assumption, by assumption, h9.1, h9.2.1, h9.2.2, Option.some.inj h⟩
      · cases h
    · cases h
  · cases h
theorem bstep_snd (Cls : bClsOk) (hE : bEok K E) (C0 : CallFix p m c cc nL s args bw_G own) (hb : bK K s) (hw : bS K.D K.B w.1.length (bct K w.1) s H locs) (hz : w.2 = 0 → H.size = K.B + w.1.length) (hl : lv_has ls nL (bvl K lv)) (hRf : 16 ≤ R.frames) (hRl : 400 ≤ R.locals) {o : bO} {nm : String} (hnm : meth.name = nm) (ok1 : bOkD cc pc o) (ok2 : bOkX own nm pc o) {q : bF} (h : bstep E nL o pc lv st w = some q)
    (hcs : cells + q.2.2.2.1.length ≤ R.cells + w.1.length) (hsl : slots + bsz q.2.2.2.1 ≤ R.slots + bsz w.1) (k : bCont p l e R s m args below meth c cells slots Q K nL w q) : W p l e R s m args below meth c H locs cells slots Q (F0 m pc ls (st.map (bvv K))) := by
  obtain ⟨ins, ln, a, b, v⟩ := o
  have hx := C0.1
  have hcb := C0.2.1
  cases ins with
  | iconst n =>
    have hd : decode cc pc = .ok (.iconst n, 1) := ok1
    cases h
    exact lv_iconst hx hcb hd rfl (bp hw hz hl k)
  | bipush n =>
    have hd : decode cc pc = .ok (.bipush n, 2) := ok1
    cases h
    exact lv_bipush hx hcb hd rfl (bp hw hz hl k)
  | sipush n =>
    have hd : decode cc pc = .ok (.sipush n, 3) := ok1
    cases h
    exact lv_sipush hx hcb hd rfl (bp hw hz hl k)
  | ldc ix =>
    have hd : decode cc pc = .ok (.ldc ix, 2) := ok1
    cases h
    exact lv_ldc hx hcb C0.2.2.2.1 (C0.2.2.2.2 _ ok2) hd (bp hw hz hl k)
  | ldc2_w ix =>
    have hd : decode cc pc = .ok (.ldc2_w ix, 3) := ok1
    cases h
    exact lv_ldc2 hx hcb C0.2.2.2.1 (C0.2.2.2.2 _ ok2) hd (bp hw hz hl k)
  | lconst n =>
    have hd : decode cc pc = .ok (.lconst n, 1) := ok1
    cases h
    exact lv_lconst hx hcb hd rfl (bp hw hz hl k)
  | iload_n i =>
    have hd : decode cc pc = .ok (.iload_n i, 1) := ok1
    obtain ⟨x, hk, rfl⟩ := bldl0_inv h
    exact lv_iload_n hx hcb hd rfl (blk_has hl hk) (bp hw hz hl k)
  | iload i =>
    have hd : decode cc pc = .ok (.iload i, 2) := ok1
    obtain ⟨x, hk, rfl⟩ := bldl0_inv h
    exact lv_iload hx hcb hd (blk_has hl hk) (bp hw hz hl k)
  | lload_n i =>
    have hd : decode cc pc = .ok (.lload_n i, 1) := ok1
    obtain ⟨x, hk, rfl⟩ := bldl1_inv h
    exact lv_lload_n hx hcb hd rfl (blk_has hl hk) (bp hw hz hl k)
  | lload i =>
    have hd : decode cc pc = .ok (.lload i, 2) := ok1
    obtain ⟨x, hk, rfl⟩ := bldl1_inv h
    exact lv_lload hx hcb hd (blk_has hl hk) (bp hw hz hl k)
  | aload_n i =>
    have hd : decode cc pc = .ok (.aload_n i, 1) := ok1
    rcases bldl2_inv h with ⟨x, hk, rfl⟩ | ⟨x, hk, rfl⟩
    · exact lv_aload_n hx hcb hd rfl (blk_has hl hk) (bp hw hz hl k)
    · exact lv_aload_n hx hcb hd rfl (blk_has hl hk) (bp hw hz hl k)
  | aload i =>
    have hd : decode cc pc = .ok (.aload i, 2) := ok1
    rcases bldl2_inv h with ⟨x, hk, rfl⟩ | ⟨x, hk, rfl⟩
    · exact lv_aload hx hcb hd (blk_has hl hk) (bp hw hz hl k)
    · exact lv_aload hx hcb hd (blk_has hl hk) (bp hw hz hl k)
  | istore_n i =>
    have hd : decode cc pc = .ok (.istore_n i, 1) := ok1
    obtain ⟨x, r, rfl, hi, rfl⟩ := bstl0_inv h
    exact lv_istore_n hx hcb hd rfl hl hi (bst1_v K lv i (.inl x)) (bs_stl C0 hw hz k)
  | istore i =>
    have hd : decode cc pc = .ok (.istore i, 2) := ok1
    obtain ⟨x, r, rfl, hi, rfl⟩ := bstl0_inv h
    exact lv_istore hx hcb hd hl hi (bst1_v K lv i (.inl x)) (bs_stl C0 hw hz k)
  | lstore_n i =>
    have hd : decode cc pc = .ok (.lstore_n i, 1) := ok1
    obtain ⟨x, r, rfl, hi, rfl⟩ := bstl1_inv h
    exact lv_lstore_n hx hcb hd rfl hl hi (bst2_v K lv i (.inr (.inl x))) (bs_stl C0 hw hz k)
  | lstore i =>
    have hd : decode cc pc = .ok (.lstore i, 2) := ok1
    obtain ⟨x, r, rfl, hi, rfl⟩ := bstl1_inv h
    exact lv_lstore hx hcb hd hl hi (bst2_v K lv i (.inr (.inl x))) (bs_stl C0 hw hz k)
  | astore_n i =>
    have hd : decode cc pc = .ok (.astore_n i, 1) := ok1
    obtain ⟨x, r, rfl, hi, rfl⟩ := bstl2_inv h
    exact lv_astore_n hx hcb hd rfl hl hi (bst1_v K lv i (.inr (.inr (.inl x)))) (bs_stl C0 hw hz k)
  | astore i =>
    have hd : decode cc pc = .ok (.astore i, 2) := ok1
    obtain ⟨x, r, rfl, hi, rfl⟩ := bstl2_inv h
    exact lv_astore hx hcb hd hl hi (bst1_v K lv i (.inr (.inr (.inl x)))) (bs_stl C0 hw hz k)
  | iinc i n =>
    have hd : decode cc pc = .ok (.iinc i n, 3) := ok1
    obtain ⟨x, hk, hi, rfl⟩ := binc_inv h
    obtain ⟨j, hj⟩ := List.getElem?_of_mem (show (i, bvv K (.inl x)) ∈ bvl K lv from List.mem_map.mpr ⟨_, blk_in hk, rfl⟩)
    exact lv_iinc hx hcb hd hl hj rfl hi (bst1_v K lv i (.inl (x + Int32.ofInt n))) (bs_stl C0 hw hz k)
  | iadd =>
    have hd : decode cc pc = .ok (.iadd, 1) := ok1
    have h : bi2 pc lv st w (fun x y => some (x + y)) = some q := h
    obtain ⟨x, y, v, r, rfl, hf, rfl⟩ := bi2_inv h
    cases hf
    exact lv_iadd hx hcb hd (bp hw hz hl k)
  | isub =>
    have hd : decode cc pc = .ok (.isub, 1) := ok1
    have h : bi2 pc lv st w (fun x y => some (x - y)) = some q := h
    obtain ⟨x, y, v, r, rfl, hf, rfl⟩ := bi2_inv h
    cases hf
    exact lv_isub hx hcb hd (bp hw hz hl k)
  | imul =>
    have hd : decode cc pc = .ok (.imul, 1) := ok1
    have h : bi2 pc lv st w (fun x y => some (x * y)) = some q := h
    obtain ⟨x, y, v, r, rfl, hf, rfl⟩ := bi2_inv h
    cases hf
    exact lv_imul hx hcb hd (bp hw hz hl k)
  | iand =>
    have hd : decode cc pc = .ok (.iand, 1) := ok1
    have h : bi2 pc lv st w (fun x y => some (x &&& y)) = some q := h
    obtain ⟨x, y, v, r, rfl, hf, rfl⟩ := bi2_inv h
    cases hf
    exact lv_iand hx hcb hd (bp hw hz hl k)
  | ior =>
    have hd : decode cc pc = .ok (.ior, 1) := ok1
    have h : bi2 pc lv st w (fun x y => some (x ||| y)) = some q := h
    obtain ⟨x, y, v, r, rfl, hf, rfl⟩ := bi2_inv h
    cases hf
    exact lv_ior hx hcb hd (bp hw hz hl k)
  | idiv =>
    have hd : decode cc pc = .ok (.idiv, 1) := ok1
    have h : bi2 pc lv st w (fun x y => if y = 0 then none else some (x / y)) = some q := h
    obtain ⟨x, y, v, r, rfl, hf, rfl⟩ := bi2_inv h
    split at hf
    · cases hf
    · rename_i h0
      cases hf
      exact lv_idiv hx hcb hd h0 (bp hw hz hl k)
  | irem =>
    have hd : decode cc pc = .ok (.irem, 1) := ok1
    have h : bi2 pc lv st w (fun x y => if y = 0 then none else some (x - x / y * y)) = some q := h
    obtain ⟨x, y, v, r, rfl, hf, rfl⟩ := bi2_inv h
    split at hf
    · cases hf
    · rename_i h0
      cases hf
      exact lv_irem hx hcb hd h0 (bp hw hz hl k)
  | ineg =>
    have hd : decode cc pc = .ok (.ineg, 1) := ok1
    have h : bi1 pc lv st w (fun x => .inl (-x)) = some q := h
    obtain ⟨x, r, rfl, rfl⟩ := bi1_inv h
    exact lv_ineg hx hcb hd (bp hw hz hl k)
  | ladd =>
    have hd : decode cc pc = .ok (.ladd, 1) := ok1
    have h : bl2 pc lv st w (fun x y => some (.inr (.inl (x + y)))) = some q := h
    obtain ⟨x, y, v, r, rfl, hf, rfl⟩ := bl2_inv h
    cases hf
    exact lv_ladd hx hcb hd (bp hw hz hl k)
  | lsub =>
    have hd : decode cc pc = .ok (.lsub, 1) := ok1
    have h : bl2 pc lv st w (fun x y => some (.inr (.inl (x - y)))) = some q := h
    obtain ⟨x, y, v, r, rfl, hf, rfl⟩ := bl2_inv h
    cases hf
    exact lv_lsub hx hcb hd (bp hw hz hl k)
  | lmul =>
    have hd : decode cc pc = .ok (.lmul, 1) := ok1
    have h : bl2 pc lv st w (fun x y => some (.inr (.inl (x * y)))) = some q := h
    obtain ⟨x, y, v, r, rfl, hf, rfl⟩ := bl2_inv h
    cases hf
    exact lv_lmul hx hcb hd (bp hw hz hl k)
  | land =>
    have hd : decode cc pc = .ok (.land, 1) := ok1
    have h : bl2 pc lv st w (fun x y => some (.inr (.inl (x &&& y)))) = some q := h
    obtain ⟨x, y, v, r, rfl, hf, rfl⟩ := bl2_inv h
    cases hf
    exact lv_land hx hcb hd (bp hw hz hl k)
  | lor =>
    have hd : decode cc pc = .ok (.lor, 1) := ok1
    have h : bl2 pc lv st w (fun x y => some (.inr (.inl (x ||| y)))) = some q := h
    obtain ⟨x, y, v, r, rfl, hf, rfl⟩ := bl2_inv h
    cases hf
    exact lv_lor hx hcb hd (bp hw hz hl k)
  | lxor =>
    have hd : decode cc pc = .ok (.lxor, 1) := ok1
    have h : bl2 pc lv st w (fun x y => some (.inr (.inl (x ^^^ y)))) = some q := h
    obtain ⟨x, y, v, r, rfl, hf, rfl⟩ := bl2_inv h
    cases hf
    exact lv_lxor hx hcb hd (bp hw hz hl k)
  | ldiv =>
    have hd : decode cc pc = .ok (.ldiv, 1) := ok1
    have h : bl2 pc lv st w (fun x y => if y = 0 then none else some (.inr (.inl (x / y)))) = some q := h
    obtain ⟨x, y, v, r, rfl, hf, rfl⟩ := bl2_inv h
    split at hf
    · cases hf
    · rename_i h0
      cases hf
      exact lv_ldiv hx hcb hd h0 (bp hw hz hl k)
  | lrem =>
    have hd : decode cc pc = .ok (.lrem, 1) := ok1
    have h : bl2 pc lv st w (fun x y => if y = 0 then none else some (.inr (.inl (x - x / y * y)))) = some q := h
    obtain ⟨x, y, v, r, rfl, hf, rfl⟩ := bl2_inv h
    split at hf
    · cases hf
    · rename_i h0
      cases hf
      exact lv_lrem hx hcb hd h0 (bp hw hz hl k)
  | lcmp =>
    have hd : decode cc pc = .ok (.lcmp, 1) := ok1
    have h : bl2 pc lv st w (fun x y => some (.inl (lg_cmp x y))) = some q := h
    obtain ⟨x, y, v, r, rfl, hf, rfl⟩ := bl2_inv h
    cases hf
    exact W.lcmp hx hcb hd (bp hw hz hl k)
  | lneg =>
    have hd : decode cc pc = .ok (.lneg, 1) := ok1
    have h : bl1 pc lv st w (fun x => .inr (.inl (-x))) = some q := h
    obtain ⟨x, r, rfl, rfl⟩ := bl1_inv h
    exact lv_lneg hx hcb hd (bp hw hz hl k)
  | l2i =>
    have hd : decode cc pc = .ok (.l2i, 1) := ok1
    have h : bl1 pc lv st w (fun x => .inl x.toInt32) = some q := h
    obtain ⟨x, r, rfl, rfl⟩ := bl1_inv h
    exact lv_l2i hx hcb hd rfl (bp hw hz hl k)
  | i2l =>
    have hd : decode cc pc = .ok (.i2l, 1) := ok1
    have h : bi1 pc lv st w (fun x => .inr (.inl x.toInt64)) = some q := h
    obtain ⟨x, r, rfl, rfl⟩ := bi1_inv h
    exact lv_i2l hx hcb hd rfl (bp hw hz hl k)
  | i2c =>
    have hd : decode cc pc = .ok (.i2c, 1) := ok1
    have h : bi1 pc lv st w (fun x => .inl (x.toUInt32 % 65536).toInt32) = some q := h
    obtain ⟨x, r, rfl, rfl⟩ := bi1_inv h
    exact lv_i2c hx hcb hd rfl (bp hw hz hl k)
  | lshl =>
    have hd : decode cc pc = .ok (.lshl, 1) := ok1
    have h : bls pc lv st w (fun x y => x <<< (y.toInt64 &&& 63)) = some q := h
    obtain ⟨x, y, r, rfl, rfl⟩ := bls_inv h
    exact lv_lshl hx hcb hd rfl (bp hw hz hl k)
  | lshr =>
    have hd : decode cc pc = .ok (.lshr, 1) := ok1
    have h : bls pc lv st w (fun x y => x >>> (y.toInt64 &&& 63)) = some q := h
    obtain ⟨x, y, r, rfl, rfl⟩ := bls_inv h
    exact lv_lshr hx hcb hd rfl (bp hw hz hl k)
  | goto off =>
    have hd : decode cc pc = .ok (.goto off, 3) := ok1
    cases h
    exact lv_goto hx hcb hd ok2 (bp hw hz hl k)
  | ifCond cd off =>
    have hd : decode cc pc = .ok (.ifCond cd off, 3) := ok1
    obtain ⟨x, r, rfl, rfl⟩ := bjf_inv h
    exact bs_jf C0 hd ok2 (bp hw hz hl k)
  | if_icmp cd off =>
    have hd : decode cc pc = .ok (.if_icmp cd off, 3) := ok1
    obtain ⟨x, y, r, rfl, rfl⟩ := bjc_inv h
    exact bs_jc C0 hd ok2 (bp hw hz hl k)
  | iaload => exact bs_load hE C0 hb hw hz hl h (Or.inl ⟨rfl, ok1⟩) k
  | caload => exact bs_load hE C0 hb hw hz hl h (Or.inr (Or.inl ⟨rfl, ok1⟩)) k
  | baload => exact bs_load hE C0 hb hw hz hl h (Or.inr (Or.inr (Or.inl ⟨rfl, ok1⟩))) k
  | laload => exact bs_load hE C0 hb hw hz hl h (Or.inr (Or.inr (Or.inr (Or.inl ⟨rfl, ok1⟩)))) k
  | aaload => exact bs_load hE C0 hb hw hz hl h (Or.inr (Or.inr (Or.inr (Or.inr ⟨rfl, ok1⟩)))) k
  | iastore =>
    obtain ⟨x, i, r, rest, xs, rfl, h1, h2, rfl⟩ := bast_inv h
    exact bs_ist C0 hb hw hz hl h1 h2 (Or.inl ⟨rfl, ok1⟩) k
  | castore =>
    obtain ⟨x, i, r, rest, xs, rfl, h1, h2, rfl⟩ := bast_inv h
    exact bs_ist C0 hb hw hz hl h1 h2 (Or.inr (Or.inl ⟨rfl, ok1⟩)) k
  | bastore =>
    obtain ⟨x, i, r, rest, xs, rfl, h1, h2, rfl⟩ := bast_inv h
    exact bs_ist C0 hb hw hz hl h1 h2 (Or.inr (Or.inr ⟨rfl, ok1⟩)) k
  | lastore =>
    obtain ⟨x, i, r, rest, xs, rfl, h1, h2, rfl⟩ := blast_inv h
    exact bs_lst C0 hb hw hz hl h1 h2 ok1 k
  | aastore =>
    obtain ⟨v, i, r, rest, t, ci, xs, fs, rfl, h1, h2, h3, h4, h5, rfl⟩ := baast_inv h
    exact bs_ast C0 hb hw hz hl h1 h2 h3 h4 h5 ok1 k
  | dup =>
    obtain ⟨v, r, rfl, h1, rfl⟩ := bdup_inv h
    exact lv_dup hx hcb ok1 ((bvc_v K v).trans h1) (bp hw hz hl k)
  | pop =>
    obtain ⟨v, r, rfl, h1, rfl⟩ := bpop_inv h
    exact lv_pop hx hcb ok1 ((bvc_v K v).trans h1) (bp hw hz hl k)
  | dup2 =>
    rcases bdup2_inv h with ⟨v, r, rfl, h1, rfl⟩ | ⟨v, u, r, rfl, h1, h2, rfl⟩
    · exact lv_dup2_2 hx hcb ok1 ((bvc_v K v).trans h1) (bp hw hz hl k)
    · exact lv_dup2_11 hx hcb ok1 ((bvc_v K v).trans h1) ((bvc_v K u).trans h2) (bp hw hz hl k)
  | pop2 =>
    obtain ⟨v, r, rfl, h1, rfl⟩ := bpop2_inv h
    exact lv_pop2_2 hx hcb ok1 ((bvc_v K v).trans h1) (bp hw hz hl k)
  | getfield ix =>
    obtain ⟨r, rest, fs, v, rfl, h1, h2, rfl⟩ := bgf_inv h
    obtain ⟨g1, C, T, N, g2, g3, g4⟩ := ok2
    exact bs_get Cls C0 hb hw hz hl h1 h2 g1 g2 g3 g4 ok1 k
  | putfield ix =>
    obtain ⟨r, v, rest, fs, rfl, h1, h2, h3, rfl⟩ := bpf_inv h
    obtain ⟨g1, C, T, N, g2, g3, g4, g5⟩ := ok2
    exact bs_put Cls C0 hb hw hz hl h1 h2 h3 g1 g2 g3 g4 (by rw [hnm]; exact g5) ok1 k
  | arraylength =>
    obtain ⟨a, r, c1, n, rfl, h1, h2, rfl⟩ := balen_inv h
    exact bs_alen hE C0 hb hw hz hl h1 h2 ok1 k
  | getstatic ix =>
    cases h
    exact bs_gst hE C0 hb hw hz hl ok2 ok1 k
  | new ix =>
    obtain ⟨h0, h1, rfl⟩ := bnew_inv h
    obtain ⟨g1, C, T, N, g2, g3, g4, g5, g6⟩ := ok2 h1
    refine bs_new Cls C0 hb hw hz hl h0 g1 g2 g4 g5 g6 ?_ ?_ ok1 k
    · simp only [List.length_append, List.length_cons, List.length_nil] at hcs; omega
    · have h9 : slots + bsz (w.1 ++ [.inl (a, (bty a).map bdf)]) ≤ R.slots + bsz w.1 := hsl
      rw [bsz_push] at h9
      simp only [bcs, List.length_map] at h9
      show slots + (bty a).length ≤ R.slots
      omega
  | newarray ty =>
    obtain ⟨n, r, rfl, h0, h1, h2, rfl⟩ := bnwa_inv h
    refine bs_nwa C0 hb hw hz hl h0 h1 h2 ok2.1 ok2.2 ?_ ?_ ok1 k
    · simp only [List.length_append, List.length_cons, List.length_nil] at hcs; omega
    · rw [bsz_push] at hsl
      split at hsl <;> simp only [bcs, List.length_replicate] at hsl <;> omega
  | anewarray ix =>
    obtain ⟨n, r, rfl, h0, h1, h2, rfl⟩ := bnwq_inv h
    refine bs_nwq C0 hb hw hz hl h0 h1 h2 ok2 ?_ ?_ ok1 k
    · simp only [List.length_append, List.length_cons, List.length_nil] at hcs; omega
    · rw [bsz_push] at hsl; simp only [bcs, List.length_replicate] at hsl; omega
  | invokespecial ix =>
    obtain ⟨x, r, rfl, h1, h2, rfl⟩ := bobj_inv h
    exact bs_obj C0 hw hz hl (ok2 h1) (by omega) (by omega) ok1 k
  | lookupswitch d ps =>
    obtain ⟨x, r, rfl, h1, rfl⟩ := blsw_inv h
    exact lv_lookup hx hcb ok1.1 ok1.2 rfl (by show _ = ((Int.toNat _ : Nat) : Int); omega) (bp hw hz hl k)
  | tableswitch d lo hi offs =>
    obtain ⟨x, r, off, rfl, h1, h2, rfl⟩ := btsw_inv h
    rcases h2 with ⟨h2, rfl⟩ | ⟨h2, h3⟩
    · exact lv_tableOut hx hcb ok1 h2 (by show _ = ((Int.toNat _ : Nat) : Int); omega) (bp hw hz hl k)
    · exact lv_tableIn hx hcb ok1 (fun q => h2 (Or.inl q)) (fun q => h2 (Or.inr q)) h3 (by show _ = ((Int.toNat _ : Nat) : Int); omega) (bp hw hz hl k)
  | _ => cases h
end BSTEPS
end
section
/-! What a step leaves of the world's size. -/
section BMONO
variable {pc nL : Nat} {E : Nat → bC} {lv : List (Nat × bV)} {st : List bV} {w : bW}
def bmo (w w2 : bW) : Prop := w2.2 = w.2 ∧ w.1.length ≤ w2.1.length ∧ bsz w.1 ≤ bsz w2.1
theorem bmo_r (w : bW) : bmo w w := ⟨rfl, Nat.le_refl _, Nat.le_refl _⟩
theorem bmo_set {w : bW} {r : Nat} {c c0 : bC} (h : w.1[r]? = some c0) (hc : bcs c = bcs c0) : bmo w (w.1.set r c, w.2) := ⟨rfl, by simp, by rw [bsz_set h hc]; exact Nat.le_refl _⟩
theorem bmo_push {w : bW} {c : bC} : bmo w (w.1 ++ [c], w.2) := ⟨rfl, by simp, by rw [bsz_push]; exact Nat.le_add_right _ _⟩
theorem bstep_mo {o : bO} {q : bF} (h : bstep E nL o pc lv st w = some q) : bmo w q.2.2.2 := by
  obtain ⟨ins, ln, a, b, v⟩ := o
  cases ins with
  | iconst n =>
    cases h
    exact bmo_r w
  | bipush n =>
    cases h
    exact bmo_r w
  | sipush n =>
    cases h
    exact bmo_r w
  | ldc ix =>
    cases h
    exact bmo_r w
  | ldc2_w ix =>
    cases h
    exact bmo_r w
  | lconst n =>
    cases h
    exact bmo_r w
  | iload_n i =>
    obtain ⟨x, hk, rfl⟩ := bldl0_inv h
    exact bmo_r w
  | iload i =>
    obtain ⟨x, hk, rfl⟩ := bldl0_inv h
    exact bmo_r w
  | lload_n i =>
    obtain ⟨x, hk, rfl⟩ := bldl1_inv h
    exact bmo_r w
  | lload i =>
    obtain ⟨x, hk, rfl⟩ := bldl1_inv h
    exact bmo_r w
  | aload_n i =>
    rcases bldl2_inv h with ⟨x, hk, rfl⟩ | ⟨x, hk, rfl⟩
    · exact bmo_r w
    · exact bmo_r w
  | aload i =>
    rcases bldl2_inv h with ⟨x, hk, rfl⟩ | ⟨x, hk, rfl⟩
    · exact bmo_r w
    · exact bmo_r w
  | istore_n i =>
    obtain ⟨x, r, rfl, hi, rfl⟩ := bstl0_inv h
    exact bmo_r w
  | istore i =>
    obtain ⟨x, r, rfl, hi, rfl⟩ := bstl0_inv h
    exact bmo_r w
  | lstore_n i =>
    obtain ⟨x, r, rfl, hi, rfl⟩ := bstl1_inv h
    exact bmo_r w
  | lstore i =>
    obtain ⟨x, r, rfl, hi, rfl⟩ := bstl1_inv h
    exact bmo_r w
  | astore_n i =>
    obtain ⟨x, r, rfl, hi, rfl⟩ := bstl2_inv h
    exact bmo_r w
  | astore i =>
    obtain ⟨x, r, rfl, hi, rfl⟩ := bstl2_inv h
    exact bmo_r w
  | iinc i n =>
    obtain ⟨x, hk, hi, rfl⟩ := binc_inv h
    exact bmo_r w
  | iadd =>
    have h : bi2 pc lv st w (fun x y => some (x + y)) = some q := h
    obtain ⟨x, y, v, r, rfl, hf, rfl⟩ := bi2_inv h
    exact bmo_r w
  | isub =>
    have h : bi2 pc lv st w (fun x y => some (x - y)) = some q := h
    obtain ⟨x, y, v, r, rfl, hf, rfl⟩ := bi2_inv h
    exact bmo_r w
  | imul =>
    have h : bi2 pc lv st w (fun x y => some (x * y)) = some q := h
    obtain ⟨x, y, v, r, rfl, hf, rfl⟩ := bi2_inv h
    exact bmo_r w
  | iand =>
    have h : bi2 pc lv st w (fun x y => some (x &&& y)) = some q := h
    obtain ⟨x, y, v, r, rfl, hf, rfl⟩ := bi2_inv h
    exact bmo_r w
  | ior =>
    have h : bi2 pc lv st w (fun x y => some (x ||| y)) = some q := h
    obtain ⟨x, y, v, r, rfl, hf, rfl⟩ := bi2_inv h
    exact bmo_r w
  | idiv =>
    have h : bi2 pc lv st w (fun x y => if y = 0 then none else some (x / y)) = some q := h
    obtain ⟨x, y, v, r, rfl, hf, rfl⟩ := bi2_inv h
    exact bmo_r w
  | irem =>
    have h : bi2 pc lv st w (fun x y => if y = 0 then none else some (x - x / y * y)) = some q := h
    obtain ⟨x, y, v, r, rfl, hf, rfl⟩ := bi2_inv h
    exact bmo_r w
  | ineg =>
    have h : bi1 pc lv st w (fun x => .inl (-x)) = some q := h
    obtain ⟨x, r, rfl, rfl⟩ := bi1_inv h
    exact bmo_r w
  | ladd =>
    have h : bl2 pc lv st w (fun x y => some (.inr (.inl (x + y)))) = some q := h
    obtain ⟨x, y, v, r, rfl, hf, rfl⟩ := bl2_inv h
    exact bmo_r w
  | lsub =>
    have h : bl2 pc lv st w (fun x y => some (.inr (.inl (x - y)))) = some q := h
    obtain ⟨x, y, v, r, rfl, hf, rfl⟩ := bl2_inv h
    exact bmo_r w
  | lmul =>
    have h : bl2 pc lv st w (fun x y => some (.inr (.inl (x * y)))) = some q := h
    obtain ⟨x, y, v, r, rfl, hf, rfl⟩ := bl2_inv h
    exact bmo_r w
  | land =>
    have h : bl2 pc lv st w (fun x y => some (.inr (.inl (x &&& y)))) = some q := h
    obtain ⟨x, y, v, r, rfl, hf, rfl⟩ := bl2_inv h
    exact bmo_r w
  | lor =>
    have h : bl2 pc lv st w (fun x y => some (.inr (.inl (x ||| y)))) = some q := h
    obtain ⟨x, y, v, r, rfl, hf, rfl⟩ := bl2_inv h
    exact bmo_r w
  | lxor =>
    have h : bl2 pc lv st w (fun x y => some (.inr (.inl (x ^^^ y)))) = some q := h
    obtain ⟨x, y, v, r, rfl, hf, rfl⟩ := bl2_inv h
    exact bmo_r w
  | ldiv =>
    have h : bl2 pc lv st w (fun x y => if y = 0 then none else some (.inr (.inl (x / y)))) = some q := h
    obtain ⟨x, y, v, r, rfl, hf, rfl⟩ := bl2_inv h
    exact bmo_r w
  | lrem =>
    have h : bl2 pc lv st w (fun x y => if y = 0 then none else some (.inr (.inl (x - x / y * y)))) = some q := h
    obtain ⟨x, y, v, r, rfl, hf, rfl⟩ := bl2_inv h
    exact bmo_r w
  | lcmp =>
    have h : bl2 pc lv st w (fun x y => some (.inl (lg_cmp x y))) = some q := h
    obtain ⟨x, y, v, r, rfl, hf, rfl⟩ := bl2_inv h
    exact bmo_r w
  | lneg =>
    have h : bl1 pc lv st w (fun x => .inr (.inl (-x))) = some q := h
    obtain ⟨x, r, rfl, rfl⟩ := bl1_inv h
    exact bmo_r w
  | l2i =>
    have h : bl1 pc lv st w (fun x => .inl x.toInt32) = some q := h
    obtain ⟨x, r, rfl, rfl⟩ := bl1_inv h
    exact bmo_r w
  | i2l =>
    have h : bi1 pc lv st w (fun x => .inr (.inl x.toInt64)) = some q := h
    obtain ⟨x, r, rfl, rfl⟩ := bi1_inv h
    exact bmo_r w
  | i2c =>
    have h : bi1 pc lv st w (fun x => .inl (x.toUInt32 % 65536).toInt32) = some q := h
    obtain ⟨x, r, rfl, rfl⟩ := bi1_inv h
    exact bmo_r w
  | lshl =>
    have h : bls pc lv st w (fun x y => x <<< (y.toInt64 &&& 63)) = some q := h
    obtain ⟨x, y, r, rfl, rfl⟩ := bls_inv h
    exact bmo_r w
  | lshr =>
    have h : bls pc lv st w (fun x y => x >>> (y.toInt64 &&& 63)) = some q := h
    obtain ⟨x, y, r, rfl, rfl⟩ := bls_inv h
    exact bmo_r w
  | goto off =>
    cases h
    exact bmo_r w
  | ifCond cd off =>
    obtain ⟨x, r, rfl, rfl⟩ := bjf_inv h
    exact bmo_r w
  | if_icmp cd off =>
    obtain ⟨x, y, r, rfl, rfl⟩ := bjc_inv h
    exact bmo_r w
  | iaload =>
    obtain ⟨i, a, v, r, -, -, rfl⟩ := bld_inv h
    exact bmo_r w
  | caload =>
    obtain ⟨i, a, v, r, -, -, rfl⟩ := bld_inv h
    exact bmo_r w
  | baload =>
    obtain ⟨i, a, v, r, -, -, rfl⟩ := bld_inv h
    exact bmo_r w
  | laload =>
    obtain ⟨i, a, v, r, -, -, rfl⟩ := bld_inv h
    exact bmo_r w
  | aaload =>
    obtain ⟨i, a, v, r, -, -, rfl⟩ := bld_inv h
    exact bmo_r w
  | iastore =>
    obtain ⟨x, i, r, rest, xs, rfl, h1, h2, rfl⟩ := bast_inv h
    exact bmo_set h1 (by simp [bcs])
  | castore =>
    obtain ⟨x, i, r, rest, xs, rfl, h1, h2, rfl⟩ := bast_inv h
    exact bmo_set h1 (by simp [bcs])
  | bastore =>
    obtain ⟨x, i, r, rest, xs, rfl, h1, h2, rfl⟩ := bast_inv h
    exact bmo_set h1 (by simp [bcs])
  | lastore =>
    obtain ⟨x, i, r, rest, xs, rfl, h1, h2, rfl⟩ := blast_inv h
    exact bmo_set h1 (by simp [bcs])
  | aastore =>
    obtain ⟨v, i, r, rest, t, ci, xs, fs, rfl, h1, h2, h3, h4, h5, rfl⟩ := baast_inv h
    exact bmo_set h1 (by simp [bcs])
  | dup =>
    obtain ⟨v, r, rfl, h1, rfl⟩ := bdup_inv h
    exact bmo_r w
  | pop =>
    obtain ⟨v, r, rfl, h1, rfl⟩ := bpop_inv h
    exact bmo_r w
  | dup2 =>
    rcases bdup2_inv h with ⟨v, r, rfl, h1, rfl⟩ | ⟨v, u, r, rfl, h1, h2, rfl⟩
    · exact bmo_r w
    · exact bmo_r w
  | pop2 =>
    obtain ⟨v, r, rfl, h1, rfl⟩ := bpop2_inv h
    exact bmo_r w
  | getfield ix =>
    obtain ⟨r, rest, fs, v, rfl, h1, h2, rfl⟩ := bgf_inv h
    exact bmo_r w
  | putfield ix =>
    obtain ⟨r, v, rest, fs, rfl, h1, h2, h3, rfl⟩ := bpf_inv h
    exact bmo_set h1 (by simp [bcs])
  | arraylength =>
    obtain ⟨a, r, c1, n, rfl, h1, h2, rfl⟩ := balen_inv h
    exact bmo_r w
  | getstatic ix =>
    cases h
    exact bmo_r w
  | new ix =>
    obtain ⟨h0, h1, rfl⟩ := bnew_inv h
    exact bmo_push
  | newarray ty =>
    obtain ⟨n, r, rfl, h0, h1, h2, rfl⟩ := bnwa_inv h
    exact bmo_push
  | anewarray ix =>
    obtain ⟨n, r, rfl, h0, h1, h2, rfl⟩ := bnwq_inv h
    exact bmo_push
  | invokespecial ix =>
    obtain ⟨x, r, rfl, h1, h2, rfl⟩ := bobj_inv h
    exact bmo_r w
  | lookupswitch d ps =>
    obtain ⟨x, r, rfl, h1, rfl⟩ := blsw_inv h
    exact bmo_r w
  | tableswitch d lo hi offs =>
    obtain ⟨x, r, off, rfl, h1, h2, rfl⟩ := btsw_inv h
    exact bmo_r w
  | _ => cases h
end BMONO
end
section
/-! WHAT IS READ, THE MACHINE DOES: whole methods. -/
def bHead (M : bM) : Jvm.Cond := match M.2.2.2.2 with
  | [] => .code M.1 M.2.1 M.2.2.1 M.2.2.2.1
  | q :: t => .codeWith M.1 M.2.1 M.2.2.1 M.2.2.2.1 ((q :: t).map (fun x => x.1))
def bOkC (P : bP) (own : String) (o : bO) : Prop := match o.1 with
  | .invokevirtual ix => (P.2.1 o.2.2.1).1.cls ≠ "java/lang/invoke/MethodHandle" ∧ (P.2.1 o.2.2.1).1.cls ≠ "java/lang/invoke/VarHandle" ∧ (parseMethodDescriptor (P.2.1 o.2.2.1).1.desc).map (fun d => d.parameters.length) = some o.2.2.2.1 ∧ (∃ (T : u_T) (N : Nat), vwCl[o.2.2.2.2.toNat]? = some ((P.2.1 o.2.2.1).1.cls, T, N)) ∧
    Jvm.Cond.methodLink own ix (P.2.1 o.2.2.1).1 ∈ bw_G ∧ Jvm.Cond.instanceMethod (P.2.1 o.2.2.1).1 ∈ bw_G ∧ Jvm.Cond.selects (P.2.1 o.2.2.1).1.cls (P.2.1 o.2.2.1).1 (P.2.1 o.2.2.1).1 ∈ bw_G ∧ Jvm.Cond.initialized (P.2.1 o.2.2.1).1.cls ∈ bw_G ∧ (P.2.1 o.2.2.1).2.2.2.2 = [] ∧ bHead (P.2.1 o.2.2.1) ∈ bw_G
  | .invokestatic ix => (P.2.1 o.2.2.1).1.cls ≠ "java/lang/invoke/MethodHandle" ∧ (P.2.1 o.2.2.1).1.cls ≠ "java/lang/invoke/VarHandle" ∧ (parseMethodDescriptor (P.2.1 o.2.2.1).1.desc).map (fun d => d.parameters.length) = some o.2.2.2.1 ∧
    ((Jvm.Cond.methodLink own ix (P.2.1 o.2.2.1).1 ∈ bw_G ∧ o.2.2.2.2 = 0) ∨ ((∃ host : String, (own, ix, (P.2.1 o.2.2.1).1, host) ∈ bwM) ∧ o.2.2.2.2 ≠ 0 ∧ (P.2.1 o.2.2.1).2.2.2.2 = [])) ∧ Jvm.Cond.static (P.2.1 o.2.2.1).1 ∈ bw_G ∧ Jvm.Cond.initialized (P.2.1 o.2.2.1).1.cls ∈ bw_G ∧ bHead (P.2.1 o.2.2.1) ∈ bw_G
  | .invokespecial ix => o.2.2.2.2 = 0 → (P.2.1 o.2.2.1).1.name = "<init>" ∧ (P.2.1 o.2.2.1).2.2.2.1 = none ∧ (P.2.1 o.2.2.1).1.cls ≠ "java/lang/invoke/MethodHandle" ∧ (P.2.1 o.2.2.1).1.cls ≠ "java/lang/invoke/VarHandle" ∧ (parseMethodDescriptor (P.2.1 o.2.2.1).1.desc).map (fun d => d.parameters.length) = some o.2.2.2.1 ∧
    Jvm.Cond.methodLink own ix (P.2.1 o.2.2.1).1 ∈ bw_G ∧ Jvm.Cond.instanceMethod (P.2.1 o.2.2.1).1 ∈ bw_G ∧ Jvm.Cond.initialized (P.2.1 o.2.2.1).1.cls ∈ bw_G ∧ (P.2.1 o.2.2.1).2.2.2.2 = [] ∧ bHead (P.2.1 o.2.2.1) ∈ bw_G
  | _ => True
def bOkT (K : KE) (P : bP) (own : String) (cc : ByteArray) (pc : Nat) (o : bO) : Prop := match o.1 with
  | .new ik => o.2.2.2.2 = 1 → ∃ (is ic : Nat) (text : String), Bundle.fit (P.2.2.2.2 o.2.2.1).1 = true ∧ (∀ n ∈ (P.2.2.2.2 o.2.2.1).2, Bundle.fit n = true) ∧ (P.2.2.2.2 o.2.2.1).2.length ≤ 8 ∧ (own, is, text) ∈ K.str ∧
    (∀ w ∈ Jvm.Cond.classLink own ik (P.2.2.2.2 o.2.2.1).1 :: Jvm.Cond.initialized (P.2.2.2.2 o.2.2.1).1 :: vx_atS own ic (P.2.2.2.2 o.2.2.1).1 (P.2.2.2.2 o.2.2.1).2, w ∈ bw_G ∨ ∃ x ∈ bwD, w = .declares x) ∧
    decode cc (pc + 3) = .ok (.dup, 1) ∧ ((decode cc (pc + 4) = .ok (.ldc is, 2) ∧ decode cc (pc + 6) = .ok (.invokespecial ic, 3) ∧ decode cc (pc + 9) = .ok (.athrow, 1)) ∨ (decode cc (pc + 4) = .ok (.ldc_w is, 3) ∧ decode cc (pc + 7) = .ok (.invokespecial ic, 3) ∧ decode cc (pc + 10) = .ok (.athrow, 1)))
  | _ => True
/-- all that is owed of the code that is read -/
def bAll (K : KE) (P : bP) : Prop := bClsOk ∧ bEok K P.2.2.1 ∧
  (∀ (mi pc : Nat) (o : bO), P.1 mi pc = some o → bOkD (P.2.1 mi).2.1 pc o ∧ bOkX (P.2.1 mi).1.cls (P.2.1 mi).1.name pc o ∧ bOkC P (P.2.1 mi).1.cls o ∧ bOkT K P (P.2.1 mi).1.cls (P.2.1 mi).2.1 pc o ∧ (P.2.1 mi).2.2.1 ≤ 80 ∧ plainName (P.2.1 mi).1.cls = true) ∧
  (∀ (mi : Nat) (q : (Nat × Nat × Nat × Nat) × String), q ∈ (P.2.1 mi).2.2.2.2 → q.1.2.2.2 ≠ 0 ∧ Jvm.Cond.classLink (P.2.1 mi).1.cls q.1.2.2.2 q.2 ∈ bw_G) ∧
  (∀ x n : String, P.2.2.2.1 x n = some true → Jvm.Cond.castable x n ∈ bw_G) ∧ (∀ x n : String, P.2.2.2.1 x n = some false → (x, n) ∈ K.nc)
def bTop (K : KE) (w : bW) (t : State) : Prop := bw K.D K.B w.1.length (bct K w.1) t.heap ∧ (w.2 = 0 → t.heap.size = K.B + w.1.length)
def bQc (K : KE) (r : bR) (w : bW) : Array Value → State → Outcome → State → Prop := fun _ st oc t => (∃ v : Option bV, r = .inl v ∧ oc = .returned (v.map (bvv K))) ∧ bTop K w t ∧ va_F (bA K.B) st t
def bXC (K : KE) (r : bR) (w : bW) : String → State → State → Prop := fun x st t => r = .inr x ∧ bTop K w t ∧ va_F (bA K.B) st t
/-- what is read from here on, the machine does -/
def bSnd (l : Launch) (K : KE) (P : bP) : bEx := fun d mi pc lv st w r w2 =>
  w.1.length ≤ w2.1.length ∧ w.2 ≤ w2.2 ∧ bsz w.1 ≤ bsz w2.1 ∧ (∃ o, P.1 mi pc = some o) ∧
  ∀ (p : Program) (e : Env) (R : Room) (s : State) (m : MethodId) (args : Array Value) (below : List Frame) (meth : Method) (c : Code) (H : Heap) (locs : List Loc) (cells slots : Nat) (ls : Array Slot) (w0 : bW) (mc ms : Nat),
    CallFix p m c (P.2.1 mi).2.1 (P.2.1 mi).2.2.1 s args bw_G (P.2.1 mi).1.cls → bK K s → bS K.D K.B w.1.length (bct K w.1) s H locs → (w.2 = 0 → H.size = K.B + w.1.length) →
    meth.sig.returnType = (P.2.1 mi).2.2.2.1 → meth.name = (P.2.1 mi).1.name → meth.locks = false → c.exceptionTable.toList = tableOf ((P.2.1 mi).2.2.2.2.map (fun x => x.1)) →
    d + 16 ≤ R.frames → 400 + 100 * d ≤ R.locals → mc ≤ R.cells → ms ≤ R.slots →
    cells + w0.1.length + w0.2 = w.1.length + w.2 → slots + bsz w0.1 + 6 * w0.2 = bsz w.1 + 6 * w.2 →
    mc + w0.1.length + w0.2 = w2.1.length + w2.2 → ms + bsz w0.1 + 6 * w0.2 = bsz w2.1 + 6 * w2.2 →
    lv_has ls (P.2.1 mi).2.2.1 (bvl K lv) →
    W p l e R s m args below meth c H locs cells slots (vx_MQ below (bQc K r w2) (bXC K r w2) args s mc ms (bA K.B)) (F0 m pc ls (st.map (bvv K)))
section BSOUND
variable {l : Launch} {K : KE} {P : bP}
theorem bsnd_step (A : bAll K P) (d mi pc : Nat) (lv : List (Nat × bV)) (st : List bV) (w : bW) (o : bO) (q : bF) (r : bR) (w2 : bW) (ho : P.1 mi pc = some o) (hs : bstep P.2.2.1 (P.2.1 mi).2.2.1 o pc lv st w = some q) (ih : bSnd l K P d mi q.1 q.2.1 q.2.2.1 q.2.2.2 r w2) : bSnd l K P d mi pc lv st w r w2 := by
  obtain ⟨i1, i2, i3, i4, ih⟩ := ih
  obtain ⟨m1, m2, m3⟩ := bstep_mo hs
  obtain ⟨a1, a2, a3, a4, a5, a6⟩ := A
  obtain ⟨b1, b2, b3, b4, b5, b6⟩ := a3 mi pc o ho
  refine ⟨Nat.le_trans m2 i1, by omega, Nat.le_trans m3 i3, ⟨o, ho⟩, ?_⟩
  intro p e R s m args below meth c H locs cells slots ls w0 mc ms C0 hb hw hz hret hnm hlk htab hRf hRl hRc hRs hc hsl hmc hms hl
  refine bstep_snd a1 a2 C0 hb hw hz hl (by omega) (by omega) hnm b1 b2 hs (by omega) (by omega) ?_
  intro H1 locs1 ls1 cells1 slots1 hw1 hz1 hl1 hc1 hs1
  exact ih p e R s m args below meth c H1 locs1 cells1 slots1 ls1 w0 mc ms C0 hb hw1 hz1 hret hnm hlk htab hRf hRl hRc hRs (by omega) (by omega) hmc hms hl1
theorem bret_inv {o : bO} {ret : Option FieldType} {st : List bV} {v : Option bV} (h : bret o ret st = some v) : (∃ (t : FieldType) (x : Int32), o.1 = .ireturn ∧ ret = some t ∧ st = [.inl x] ∧ bokf t (.inl x) = true ∧ v = some (.inl x)) ∨ (∃ x : Int64, o.1 = .lreturn ∧ ret = some .long ∧ st = [.inr (.inl x)] ∧ v = some (.inr (.inl x))) ∨ (∃ (t : FieldType) (x : Nat ⊕ Option Nat), o.1 = .areturn ∧ ret = some t ∧ ((∃ n, t = .object n) ∨ ∃ u, t = .array u) ∧ st = [.inr (.inr x)] ∧ v = some (.inr (.inr x))) ∨ (o.1 = .return_ ∧ ret = none ∧ st = [] ∧ v = none) := by
  unfold bret at h
  split at h
  · split at h
    · rename_i h2
      exact Or.inl ⟨_, _, by assumption, rfl, rfl, h2, (Option.some.inj h).symm⟩
    · cases h
  · exact Or.inr (Or.inl ⟨_, by assumption, rfl, rfl, (Option.some.inj h).symm⟩)
  · exact Or.inr (Or.inr (Or.inl ⟨_, _, by assumption, rfl, Or.inl ⟨_, rfl⟩, rfl, (Option.some.inj h).symm⟩))
  · exact Or.inr (Or.inr (Or.inl ⟨_, _, by assumption, rfl, Or.inr ⟨_, rfl⟩, rfl, (Option.some.inj h).symm⟩))
  · exact Or.inr (Or.inr (Or.inr ⟨by assumption, rfl, rfl, (Option.some.inj h).symm⟩))
  · cases h
theorem bsnd_ret (A : bAll K P) (d mi pc : Nat) (lv : List (Nat × bV)) (st : List bV) (w : bW) (o : bO) (v : Option bV) (ho : P.1 mi pc = some o) (hs : bret o (P.2.1 mi).2.2.2.1 st = some v) : bSnd l K P d mi pc lv st w (.inl v) w := by
  obtain ⟨a1, a2, a3, a4, a5, a6⟩ := A
  obtain ⟨b1, b2, b3, b4, b5, b6⟩ := a3 mi pc o ho
  refine ⟨Nat.le_refl _, Nat.le_refl _, Nat.le_refl _, ⟨o, ho⟩, ?_⟩
  intro p e R s m args below meth c H locs cells slots ls w0 mc ms C0 hb hw hz hret hnm hlk htab hRf hRl hRc hRs hc hsl hmc hms hl
  have e1 : mc = cells := by omega
  have e2 : ms = slots := by omega
  subst e1
  subst e2
  have fin : ∀ t : State, t.heap = H → bTop K w t ∧ va_F (bA K.B) s t := fun t ht => ⟨⟨by rw [ht]; exact hw.1, fun h => by rw [ht]; exact hz h⟩, hw.2.F ht⟩
  obtain ⟨ins, ln, a, b, vv⟩ := o
  rcases bret_inv hs with ⟨t, x, h1, h2, rfl, h3, rfl⟩ | ⟨x, h1, h2, rfl, rfl⟩ | ⟨t, x, h1, h2, h3, rfl, rfl⟩ | ⟨h1, h2, rfl, rfl⟩
  · have h1 : ins = .ireturn := h1
    subst h1
    exact vx_ret (W.zret (v := x) C0.1 C0.2.1 (hret.trans h2) (bokf_v (K := K) h3).1 (fun t ht hW => ⟨⟨_, rfl, rfl⟩, fin t ht⟩) hw.2.2.2 b1)
  · have h1 : ins = .lreturn := h1
    subst h1
    exact vx_ret (W.lret (v := x) C0.1 C0.2.1 (hret.trans h2) (fun t ht hW => ⟨⟨_, rfl, rfl⟩, fin t ht⟩) hw.2.2.2 b1)
  · have h1 : ins = .areturn := h1
    subst h1
    exact vx_ret (W.aret (v := bvv K (.inr (.inr x))) C0.1 C0.2.1 (hret.trans h2) h3 (by rcases x with k | _ | j <;> first | exact Or.inl rfl | exact Or.inr ⟨_, rfl⟩) (fun t ht hW => ⟨⟨_, rfl, rfl⟩, fin t ht⟩) hw.2.2.2 b1)
  · have h1 : ins = .return_ := h1
    subst h1
    exact vx_ret (W.vret C0.1 C0.2.1 (hret.trans h2) (fun t ht hW => ⟨⟨_, rfl, rfl⟩, fin t ht⟩) hw.2.2.2 b1)
theorem bsnd_thr (hst : l.stackTraces = false) (A : bAll K P) (d mi pc : Nat) (lv : List (Nat × bV)) (w : bW) (o : bO) (ix : Nat) (ho : P.1 mi pc = some o) (h1 : o.1 = .new ix) (h2 : o.2.2.2.2 = 1) (h3 : (P.2.1 mi).2.2.2.2 = []) : bSnd l K P d mi pc lv [] w (.inr (P.2.2.2.2 o.2.2.1).1) (w.1, w.2 + 1) := by
  obtain ⟨a1, a2, a3, a4, a5, a6⟩ := A
  obtain ⟨b1, b2, b3, b4, b5, b6⟩ := a3 mi pc o ho
  refine ⟨Nat.le_refl _, Nat.le_succ _, Nat.le_refl _, ⟨o, ho⟩, ?_⟩
  intro p e R s m args below meth c H locs cells slots ls w0 mc ms C0 hb hw hz hret hnm hlk htab hRf hRl hRc hRs hc hsl hmc hms hl
  obtain ⟨ins, ln, a, b, vv⟩ := o
  have h1 : ins = .new ix := h1
  subst h1
  have hd : decode (P.2.1 mi).2.1 pc = .ok (.new ix, 3) := b1
  obtain ⟨is, ic, text, c1, c2, c3, c4, c5, c6, c7⟩ := b4 h2
  have c3 : (P.2.2.2.2 a).2.length ≤ 8 := c3
  obtain ⟨sa, hsa⟩ := hb.2.2.2.2.1 _ c4
  have hout : ∀ x ∈ c.exceptionTable.toList, ∀ z : Nat, covers x z = false := by
    intro x hx z
    rw [htab, h3] at hx
    cases hx
  have hgood : ∀ w' ∈ Jvm.Cond.classLink (P.2.1 mi).1.cls ix (P.2.2.2.2 a).1 :: Jvm.Cond.initialized (P.2.2.2.2 a).1 :: vx_atS (P.2.1 mi).1.cls ic (P.2.2.2.2 a).1 (P.2.2.2.2 a).2, vx_ot w' = true := fun w' hw' => by
    rcases c5 w' hw' with h9 | ⟨x, -, rfl⟩
    · unfold vx_ot
      rw [bw_Gok _ h9]
      exact Bool.or_true _
    · rfl
  have c5 : ∀ w' ∈ Jvm.Cond.classLink (P.2.1 mi).1.cls ix (P.2.2.2.2 a).1 :: Jvm.Cond.initialized (P.2.2.2.2 a).1 :: vx_atS (P.2.1 mi).1.cls ic (P.2.2.2.2 a).1 (P.2.2.2.2 a).2, w'.before args s = true := fun w' hw' => by
    rcases c5 w' hw' with h9 | ⟨x, hx, rfl⟩
    · exact C0.2.2.2.2 _ h9
    · exact (hb.2.2.2.2.2.2.2.2.2.1 x hx).use rfl
  have hfin : ∀ t : State, s.vm.Alike t.vm → H.size ≤ t.heap.size → (∀ q : Nat, q < H.size → t.heap[q]? = H[q]?) → bXC K (.inr (P.2.2.2.2 a).1) (w.1, w.2 + 1) (P.2.2.2.2 a).1 s t := fun t _ f1 f2 =>
    ⟨rfl, ⟨hw.1.kept f1 f2, fun h => absurd h (Nat.succ_ne_zero _)⟩, ⟨Nat.le_trans hw.2.1 f1, fun q g1 g2 => (f2 q (Nat.lt_of_lt_of_le g1 hw.2.1)).trans (hw.2.2.1 q g1 g2)⟩⟩
  simp only [] at hmc hms
  rcases c7 with ⟨c7, c8, c9⟩ | ⟨c7, c8, c9⟩
  · exact vx_throwS C0.1 C0.2.1 hst C0.2.2.2.1 c1 c2 (c5 _ List.mem_cons_self) (c5 _ (List.mem_cons_of_mem _ List.mem_cons_self)) hsa (fun w' hw' => c5 _ (List.mem_cons_of_mem _ (List.mem_cons_of_mem _ hw'))) hgood hb.2.2.1 hb.2.2.2.1 hw.2 (by rw [C0.2.2.1]; exact hl.1) hd c6 c7 c8 c9 (fun x hx => hout x hx _) (by omega) (by simp only [List.map_nil, List.sum_nil]; omega) (by omega) (by omega) hlk hfin hw.2.2.2 (by omega) (by omega)
  · exact vx_throwSW C0.1 C0.2.1 hst C0.2.2.2.1 c1 c2 (c5 _ List.mem_cons_self) (c5 _ (List.mem_cons_of_mem _ List.mem_cons_self)) hsa (fun w' hw' => c5 _ (List.mem_cons_of_mem _ (List.mem_cons_of_mem _ hw'))) hgood hb.2.2.1 hb.2.2.2.1 hw.2 (by rw [C0.2.2.1]; exact hl.1) hd c6 c7 c8 c9 (fun x hx => hout x hx _) (by omega) (by simp only [List.map_nil, List.sum_nil]; omega) (by omega) (by omega) hlk hfin hw.2.2.2 (by omega) (by omega)
end BSOUND
end
section
/-! WHAT IS READ, THE MACHINE DOES: calls. -/
section BCALLS
variable {l : Launch} {K : KE} {P : bP}
theorem bgood {w : Jvm.Cond} (h : w ∈ bw_G) : w ∈ bw_G ∧ ((w.onTables && w.keeps) = true ∨ ∃ ty, w = .arrayClass ty) := ⟨h, good_of_word (bw_Gok w h)⟩
theorem b_sl (as : List bV) : (lg_sl (as.map (bvv K))).length = (as.map bvc).sum := by
  induction as with
  | nil => rfl
  | cons v t ih =>
    simp only [lg_sl, List.map_cons, List.flatMap_cons, List.length_append, List.sum_cons, bvc_v] at ih ⊢
    rw [ih]
    rcases v with x | x | k | _ | j <;> simp [bvc]
theorem b_args (as : List bV) : ∀ i : Nat, lv_args i (as.map (bvv K)) = bvl K (blva i as) := by
  induction as with
  | nil => intro i; rfl
  | cons v t ih =>
    intro i
    simp only [List.map_cons, lv_args, blva, bvl, bvc_v]
    have h : (if bvc v = 2 then i + 2 else i + 1) = i + bvc v := by
      rcases v with x | x | k | _ | j <;> rfl
    rw [h, ih]
theorem bHead_nil {M : bM} (h : M.2.2.2.2 = []) : bHead M = .code M.1 M.2.1 M.2.2.1 M.2.2.2.1 := by
  unfold bHead; rw [h]
theorem bHead_cons {M : bM} (h : M.2.2.2.2 ≠ []) : bHead M = .codeWith M.1 M.2.1 M.2.2.1 M.2.2.2.1 (M.2.2.2.2.map (fun x => x.1)) := by
  unfold bHead
  split
  · rename_i h1; exact absurd h1 h
  · rename_i q t h1; rw [h1]
theorem bmet (A : bAll K P) {d mj : Nat} {as : List bV} {w w2 : bW} {r : bR} (h : bSnd l K P d mj 0 (blva 0 as) [] w r w2) (hlen : (as.map bvc).sum ≤ (P.2.1 mj).2.2.1) {mc ms : Nat} (hmc : mc + w.1.length + w.2 = w2.1.length + w2.2) (hms : ms + bsz w.1 + 6 * w.2 = bsz w2.1 + 6 * w2.2) :
    vx_Met l (P.2.1 mj).1 (bHead (P.2.1 mj) :: bw_G) ({ frames := d + 16, cells := mc, slots := ms, locals := 400 + 100 * d }) (bPc K w.1.length (bct K w.1) (decide (w.2 = 0)) (as.map (bvv K))) (bQc K r w2) (bXC K r w2) mc ms (bA K.B) := by
  obtain ⟨-, -, -, ⟨o, ho⟩, h⟩ := h
  obtain ⟨a1, a2, a3, a4, a5, a6⟩ := A
  obtain ⟨b1, b2, b3, b4, b5, b6⟩ := a3 mj 0 o ho
  have go : ∀ (p : Program) (e : Env) (s : State) (m : MethodId) (args : Array Value) (below : List Frame) (meth : Method) (c : Code) (s₁ : State), BodyLoose p l (P.2.1 mj).1 (headSpec (bHead (P.2.1 mj) :: bw_G) { frames := d + 16, cells := mc, slots := ms, locals := 400 + 100 * d }) (P.2.1 mj).2.1 (P.2.1 mj).2.2.1 (P.2.1 mj).2.2.2.1 e s m args below meth c s₁ → c.maxLocals = (P.2.1 mj).2.2.1 → c.exceptionTable.toList = tableOf ((P.2.1 mj).2.2.2.2.map (fun x => x.1)) → bPc K w.1.length (bct K w.1) (decide (w.2 = 0)) (as.map (bvv K)) args s →
      W p l e (headSpec (bHead (P.2.1 mj) :: bw_G) { frames := d + 16, cells := mc, slots := ms, locals := 400 + 100 * d }).room s m args below meth c s.heap [] 0 0 (vx_MQ below (bQc K r w2) (bXC K r w2) args s mc ms (bA K.B)) (entryFrame m args (P.2.1 mj).2.2.1) := by
    intro p e s m args below meth c s₁ B hml htab hv
    obtain ⟨rfl, hbw, hK, hsz⟩ := hv
    have hl := lv_entry (as.map (bvv K)) (n := (P.2.1 mj).2.2.1) (by rw [b_sl]; exact hlen)
    rw [lg_entry_eq]
    rw [b_args] at hl
    exact h p e _ s m _ below meth c s.heap [] 0 0 _ w mc ms ⟨B.exec, B.bytes, hml, findClass_of_methodNamed B.named, fun w' hw' => atoms_spec (ws := bHead (P.2.1 mj) :: bw_G) B.pre w' (List.mem_cons_of_mem _ hw')⟩ hK ⟨hbw, va_S.rf⟩ (fun h0 => hsz (by simp [h0])) B.returns (name_of_methodNamed B.named B.method).1 B.notSynchronized htab (Nat.le_refl _) (Nat.le_refl _) (Nat.le_refl _) (Nat.le_refl _) (by omega) (by omega) hmc hms hl
  by_cases hH : (P.2.1 mj).2.2.2.2 = []
  · refine vx_ofW (cc := (P.2.1 mj).2.1) (maxL := (P.2.1 mj).2.2.1) (ret := (P.2.1 mj).2.2.2.1) b6 (by rw [bHead_nil hH]) ?_
    intro p e s m args below meth c s₁ B hml ht hv
    refine go p e s m args below meth c s₁ B hml ?_ hv
    rw [hH]
    exact List.eq_nil_iff_forall_not_mem.mpr fun x hx => ht x hx
  · refine vx_ofWH (cc := (P.2.1 mj).2.1) (maxL := (P.2.1 mj).2.2.1) (ret := (P.2.1 mj).2.2.2.1) (hh := (P.2.1 mj).2.2.2.2.map (fun x => x.1)) b6 (by rw [bHead_cons hH]) ?_
    intro p e s m args below meth c s₁ B hml hv
    refine go p e s m args below meth c s₁ B hml ?_ hv
    have h9 := atoms_spec (ws := bHead (P.2.1 mj) :: bw_G) B.pre _ List.mem_cons_self
    rw [bHead_cons hH] at h9
    exact vx_table (x := (P.2.1 mj).1) B h9
section BRUN
variable {p : Program} {e : Env} {R : Room} {s : State} {m : MethodId} {args : Array Value} {below : List Frame} {meth : Method} {c : Code} {H : Heap} {locs : List Loc} {cells slots mc ms : Nat} {Q : State → Prop} {cc : ByteArray} {pc nL : Nat} {own : String} {ls : Array Slot} {st : List bV} {w w1 : bW} {r : bR}
theorem bcal_inv {o : bO} {q : Nat × List bV × List bV} (h : bcal o st w = some q) : q.1 = o.2.2.1 ∧ o.2.2.2.1 ≤ st.length ∧ (q.2.2.map bvc).sum ≤ 8 ∧ ((∃ ix, o.1 = .invokestatic ix ∧ q.2.1 = (st.take o.2.2.2.1).reverse ∧ q.2.2 = st.drop o.2.2.2.1) ∨ (∃ (k : Nat), q.2.1 = .inr (.inr (.inl k)) :: (st.take o.2.2.2.1).reverse ∧ st.drop o.2.2.2.1 = .inr (.inr (.inl k)) :: q.2.2 ∧ ((∃ (ix ci : Nat) (fs : List bV), o.1 = .invokevirtual ix ∧ w.1[k]? = some (.inl (ci, fs)) ∧ (ci : Int) = o.2.2.2.2) ∨ (∃ ix, o.1 = .invokespecial ix ∧ o.2.2.2.2 = 0)))) := by
  have hd : ∀ (n : Nat) (x : bV) (t : List bV), st.drop n = x :: t → n ≤ st.length := fun n x t h1 => by
    have h2 := congrArg List.length h1
    simp only [List.length_drop, List.length_cons] at h2
    omega
  unfold bcal at h
  split at h
  · rename_i ix hix
    split at h
    · rename_i h1
      cases h
      exact ⟨rfl, h1.1, h1.2, Or.inl ⟨_, hix, rfl, rfl⟩⟩
    · cases h
  · rename_i ix hix
    split at h
    · rename_i h3
      split at h
      · rename_i h4
        split at h
        · rename_i h1
          cases h
          exact ⟨rfl, hd _ _ _ h3, h1.2, Or.inr ⟨_, rfl, h3, Or.inl ⟨_, _, _, hix, h4, h1.1⟩⟩⟩
        · cases h
      · cases h
    · cases h
  · rename_i ix hix
    split at h
    · rename_i h3
      split at h
      · rename_i h1
        cases h
        exact ⟨rfl, hd _ _ _ h3, h1.2, Or.inr ⟨_, rfl, h3, Or.inr ⟨_, hix, h1.1⟩⟩⟩
      · cases h
    · cases h
  · cases h
theorem b_cat (xs : List bV) : ((xs.map (bvv K)).map fun v => v.category).sum = (xs.map bvc).sum := by
  rw [List.map_map]
  congr 1
  exact List.map_congr_left fun v _ => bvc_v K v
theorem bmetR {y : MethodName} {ws : List Jvm.Cond} {rm : Room} {Pc : Array Value → State → Prop} {v : Option bV} {w2 : bW} {free : Addr → Prop} (hM : vx_Met l y ws rm Pc (bQc K (.inl v) w2) (bXC K (.inl v) w2) mc ms free) : Met l y ws rm Pc (bQc K (.inl v) w2) mc ms free := by
  intro p e a b c s m args below f ap hP k
  obtain ⟨n, o, h1, h2, h3, h4⟩ := hM p e a b c s m args below f ap hP k
  refine ⟨n, o, h1, h2, h3, ?_⟩
  rcases h4 with h4 | ⟨q, _, x, ce, L, ⟨h5, _⟩, _⟩
  · exact h4
  · cases h5
theorem brun (A : bAll K P) {o : bO} {d : Nat} (b1 : bOkD cc pc o) (b3 : bOkC P own o) (C0 : CallFix p m c cc nL s args bw_G own) (hb : bK K s) (hw : bS K.D K.B w.1.length (bct K w.1) s H locs) (hz : w.2 = 0 → H.size = K.B + w.1.length) {lv : List (Nat × Value)} (hl : lv_has ls nL lv) (hRf : d + 17 ≤ R.frames) (hRl : 500 + 100 * d ≤ R.locals)
    {q : Nat × List bV × List bV} (hq : bcal o st w = some q) (hlen : (q.2.1.map bvc).sum ≤ (P.2.1 q.1).2.2.1) (h : bSnd l K P d q.1 0 (blva 0 q.2.1) [] w r w1) (hmc : mc + w.1.length + w.2 = w1.1.length + w1.2) (hms : ms + bsz w.1 + 6 * w.2 = bsz w1.1 + 6 * w1.2) (hc : cells + mc ≤ R.cells) (hs : slots + ms ≤ R.slots) (hsp : bnsp o = true ∨ ∃ v, r = .inl v) :
    vx_Run p l e R s m args below meth c H locs cells slots mc ms (F0 m pc ls (st.map (bvv K))) (q.2.2.map (bvv K)) (bQc K r w1 (q.2.1.map (bvv K)).toArray) (bXC K r w1) (bA K.B) := by
  have hM := bmet A h hlen hmc hms
  have hmax : (P.2.1 q.1).2.2.1 ≤ 80 := by
    obtain ⟨-, -, -, ⟨o', ho'⟩, -⟩ := h
    exact (A.2.2.1 _ _ _ ho').2.2.2.2.1
  have hws : bHead (P.2.1 q.1) ∈ bw_G → ∀ w' ∈ bHead (P.2.1 q.1) :: bw_G, w' ∈ bw_G := fun hhead w' hw' => (List.mem_cons.mp hw').elim (fun h => by rw [h]; exact hhead) (fun h => h)
  have hpre : ∀ U : State, U.heap = H → s.WarmedH U.vm → bPc K w.1.length (bct K w.1) (decide (w.2 = 0)) (q.2.1.map (bvv K)) (q.2.1.map (bvv K)).toArray U := fun U hU hW =>
    ⟨rfl, by rw [hU]; exact hw.1, hb.to hw.2 hU hW, fun h0 => by rw [hU]; exact hz (of_decide_eq_true h0)⟩
  obtain ⟨e0, e1, e2, e3⟩ := bcal_inv hq
  obtain ⟨ins, ln, a, b, v⟩ := o
  have f0 : q.1 = a := e0
  have f1 : b ≤ st.length := e1
  have hcat : 2 * (F0 m pc ls (st.map (bvv K))).monitorRoom + ((q.2.2.map (bvv K)).map fun v => v.category).sum ≤ 8 := by
    exact lv_room (by rw [b_cat]; exact e2)
  have hrev : (((st.take b).reverse).map (bvv K)).reverse = (st.take b).map (bvv K) := by rw [← List.map_reverse, List.reverse_reverse]
  have hlenb : (((st.take b).reverse).map (bvv K)).length = b := by simp; omega
  rcases e3 with ⟨ix, h1, h2, h3⟩ | ⟨k, h2, h3, h4⟩
  · have h1 : ins = .invokestatic ix := h1
    subst h1
    have hd : decode cc pc = .ok (.invokestatic ix, 3) := b1
    obtain ⟨c1, c2, c3, c4, c5, c6, ch⟩ := b3
    simp only [] at c1 c2 c3 c4 c5 c6 ch
    rw [← f0] at c1 c2 c3 c4 c5 c6 ch
    have hst : st.map (bvv K) = (q.2.1.map (bvv K)).reverse ++ q.2.2.map (bvv K) := by
      rw [h2, h3]
      show _ = (((st.take b).reverse).map (bvv K)).reverse ++ (st.drop b).map (bvv K)
      rw [hrev, ← List.map_append, List.take_append_drop]
    have hn : (q.2.1.map (bvv K)).length = b := by rw [h2]; exact hlenb
    rcases c4 with ⟨c4, hv0⟩ | ⟨⟨host, c4⟩, hv0, hH⟩
    · have hG : GoodIn bw_G (va_wsS own ix (P.2.1 q.1).1 (bHead (P.2.1 q.1) :: bw_G)) := fun w' hw' => bgood (by
        rcases List.mem_append.mp hw' with h5 | h5
        · simp only [List.mem_cons, List.not_mem_nil, or_false] at h5
          rcases h5 with rfl | rfl | rfl
          · exact c4
          · exact c5
          · exact c6
        · exact hws ch w' h5)
      by_cases hH : (P.2.1 q.1).2.2.2.2 = []
      · exact vx_runS C0 hM (va_cwS (bytes := (P.2.1 q.1).2.1) (maxL := (P.2.1 q.1).2.2.1) (ret := (P.2.1 q.1).2.2.2.1) b C0.2.2.2.2 hG (by rw [bHead_nil hH]) rfl rfl ⟨c1, c2, c3⟩ ⟨by show d + 16 + 1 ≤ _; omega, by show 8 + (_ + 11) + (400 + 100 * d) ≤ _; omega⟩) ⟨bPc.blind, hpre⟩ rfl hn hl.1 hst hcat hd ⟨hc, hs⟩
      · exact vx_runSX C0 hM (vx_cwSW (bytes := (P.2.1 q.1).2.1) (maxL := (P.2.1 q.1).2.2.1) (ret := (P.2.1 q.1).2.2.2.1) (hh := (P.2.1 q.1).2.2.2.2.map (fun x => x.1)) b C0.2.2.2.2 hG (by rw [bHead_cons hH]) rfl rfl ⟨c1, c2, c3⟩ ⟨by show d + 16 + 1 ≤ _; omega, by show 8 + (_ + 11) + (400 + 100 * d) ≤ _; omega⟩) ⟨bPc.blind, hpre⟩ rfl hn hl.1 hst hcat hd ⟨hc, hs⟩
    · have hv9 : v ≠ 0 := hv0
      obtain ⟨v', hv'⟩ : ∃ v', r = .inl v' := hsp.resolve_left (fun h => hv9 (of_decide_eq_true h))
      subst hv'
      have hG : GoodIn bw_G (bHead (P.2.1 q.1) :: bw_G) := fun w' hw' => bgood (hws ch w' hw')
      have hr : va_Run p l e R s m args below meth c H locs cells slots mc ms (F0 m pc ls (st.map (bvv K))) (q.2.2.map (bvv K)) (bQc K (.inl v') w1 (q.2.1.map (bvv K)).toArray) (bA K.B) :=
        va_runSN C0 (bmetR hM) ⟨va_cnB (bytes := (P.2.1 q.1).2.1) (maxL := (P.2.1 q.1).2.2.1) (ret := (P.2.1 q.1).2.2.2.1) b C0.2.2.2.2 hG (by rw [bHead_nil hH]) rfl rfl (hb.2.2.2.2.2.2.2.2.2.2.2 _ c4) (C0.2.2.2.2 _ c6) ⟨c1, c2, c3⟩ ⟨by show d + 16 + 1 ≤ _; omega, by show 8 + (_ + 11) + (400 + 100 * d) ≤ _; omega⟩, C0.2.2.2.2 _ c5, trivial⟩ ⟨bPc.blind, hpre⟩ rfl hn hl.1 hst hcat hd ⟨hc, hs⟩
      exact fun T hT X => Or.inl (hr T hT X)
  · have hst : st.map (bvv K) = (((st.take b).reverse).map (bvv K)).reverse ++ .ref (K.B + k) :: q.2.2.map (bvv K) := by
      have h3 : st.drop b = .inr (.inr (.inl k)) :: q.2.2 := h3
      rw [hrev]
      show _ = (st.take b).map (bvv K) ++ ((.inr (.inr (.inl k)) :: q.2.2 : List bV).map (bvv K))
      rw [← h3, ← List.map_append, List.take_append_drop]
    have hargs : q.2.1.map (bvv K) = .ref (K.B + k) :: ((st.take b).reverse).map (bvv K) := by rw [h2]; rfl
    rw [hargs] at hM hpre ⊢
    rcases h4 with ⟨ix, ci, fs, h1, h5, h6⟩ | ⟨ix, h1, h5⟩
    · have h1 : ins = .invokevirtual ix := h1
      subst h1
      have hd : decode cc pc = .ok (.invokevirtual ix, 3) := b1
      obtain ⟨c1, c2, c3, ⟨T, N, c4⟩, c5, c6, c7, c8, c9, ch⟩ := b3
      simp only [] at c1 c2 c3 c4 c5 c6 c7 c8 c9 ch h6
      rw [← h6] at c4
      rw [← f0] at c1 c2 c3 c4 c5 c6 c7 c8 c9 ch
      have hG : GoodIn bw_G (wsV own ix (P.2.1 q.1).1.cls (P.2.1 q.1).1 (bHead (P.2.1 q.1) :: bw_G)) := fun w' hw' => bgood (by
        rcases List.mem_append.mp hw' with h7 | h7
        · simp only [List.mem_cons, List.not_mem_nil, or_false] at h7
          rcases h7 with rfl | rfl | rfl | rfl
          · exact c5
          · exact c6
          · exact c7
          · exact c8
        · exact hws ch w' h7)
      have hk0 : k < w.1.length := (List.getElem?_eq_some_iff.mp h5).1
      exact vx_runV C0 hM (cwV (bytes := (P.2.1 q.1).2.1) (maxL := (P.2.1 q.1).2.2.1) (ret := (P.2.1 q.1).2.2.2.1) b C0.2.2.2.2 hG (by rw [bHead_nil c9]) rfl rfl ⟨rfl, c1, c2, c3⟩ ⟨by show d + 16 + 1 ≤ _; omega, by show 8 + (_ + 11) + (400 + 100 * d) ≤ _; omega⟩) ⟨bPc.blind, va_recv hb.1 (hw.1.sing hk0 (bct_at h5)) c4 (q0 := 0) rfl, hpre⟩ rfl hlenb hl.1 hst hcat hd ⟨hc, hs⟩
    · have h1 : ins = .invokespecial ix := h1
      subst h1
      have hd : decode cc pc = .ok (.invokespecial ix, 3) := b1
      obtain ⟨c0, cr, c1, c2, c3, c5, c6, c8, c9, ch⟩ := b3 h5
      simp only [] at c0 cr c1 c2 c3 c5 c6 c8 c9 ch
      rw [← f0] at c0 cr c1 c2 c3 c5 c6 c8 c9 ch
      obtain ⟨v', hv'⟩ : ∃ v', r = .inl v' := hsp.resolve_left (fun h => Bool.false_ne_true h)
      subst hv'
      have hG : GoodIn bw_G (bHead (P.2.1 q.1) :: bw_G) := fun w' hw' => bgood (hws ch w' hw')
      have hr : va_Run p l e R s m args below meth c H locs cells slots mc ms (F0 m pc ls (st.map (bvv K))) (q.2.2.map (bvv K)) (bQc K (.inl v') w1 (Value.ref (K.B + k) :: ((st.take b).reverse).map (bvv K)).toArray) (bA K.B) :=
        va_runI C0 (bmetR hM) (cwI (bytes := (P.2.1 q.1).2.1) (maxL := (P.2.1 q.1).2.2.1) b C0.2.2.2.2 hG (by rw [bHead_nil c9, cr]) rfl rfl (C0.2.2.2.2 _ c8) (C0.2.2.2.2 _ c5) (C0.2.2.2.2 _ c6) c0 ⟨c1, c2, c3⟩ ⟨by show d + 16 + 1 ≤ _; omega, by show 8 + (_ + 11) + (400 + 100 * d) ≤ _; omega⟩) ⟨bPc.blind, hpre⟩ rfl hlenb hl.1 hst hcat hd ⟨hc, hs⟩
      exact fun T hT X => Or.inl (hr T hT X)
/-- behind a call: it has returned, or thrown -/
theorem bafter (hw : bS K.D K.B w.1.length (bct K w.1) s H locs) {st0 rest' : List Value} {av : Array Value}
    (hr : vx_Run p l e R s m args below meth c H locs cells slots mc ms (F0 m pc ls st0) rest' (bQc K r w1 av) (bXC K r w1) (bA K.B))
    (kr : ∀ (v : Option bV) (H1 : Heap) (locs1 : List Loc), r = .inl v → bS K.D K.B w1.1.length (bct K w1.1) s H1 locs1 → (w1.2 = 0 → H1.size = K.B + w1.1.length) → W p l e R s m args below meth c H1 locs1 (cells + mc) (slots + ms) Q (F0 m (pc + 3) ls ((v.map (bvv K)).toList ++ rest')))
    (kx : ∀ (x : String) (a : Addr) (ce : Cell) (H1 : Heap) (locs1 : List Loc), r = .inr x → bS K.D K.B w1.1.length (bct K w1.1) s H1 locs1 → (w1.2 = 0 → H1.size = K.B + w1.1.length) → H1[a]? = some ce → ce.vm = .none → s.vm.findClass x = some ce.cls → vx_W p l e R s m args below meth c H1 locs1 (cells + mc) (slots + ms) Q (F0 m pc ls rest') a) :
    W p l e R s m args below meth c H locs cells slots Q (F0 m pc ls st0) := by
  intro T hT X
  rcases hr T hT X with ⟨v, st₀, t, T', L, h0, X', hL, e1, e2, ⟨⟨v', hv', ho⟩, hb, hF⟩, st⟩ | ⟨q, st₀, t, T', L, x, ce, h0, X', hL, e1, e2, ⟨hx, hb, hF⟩, hce, hcv, hcl, st⟩
  · obtain ⟨k1, k2, k3⟩ := vx_keep h0 e1 hw.2 (fun _ _ h => h) (fun _ h => h) hL hF
    cases ho
    obtain ⟨t2, g1, g2⟩ := kr v' T'.heap (locs ++ L) hv' ⟨by rw [e1]; exact hb.1, k3⟩ (fun h => by rw [e1]; exact hb.2 h) T' rfl X'
    exact ⟨t2, st t2 g1, g2⟩
  · obtain ⟨k1, k2, k3⟩ := vx_keep h0 e1 hw.2 (fun _ _ h => h) (fun _ h => h) hL hF
    obtain ⟨t2, g1, g2⟩ := kx x q ce T'.heap (locs ++ L) hx ⟨by rw [e1]; exact hb.1, k3⟩ (fun h => by rw [e1]; exact hb.2 h) (by rw [e1]; exact hce) hcv hcl T' rfl X'
    exact ⟨t2, st.trans g1, g2⟩
end BRUN
theorem bsnd_call (A : bAll K P) (d mi pc : Nat) (lv : List (Nat × bV)) (st : List bV) (w : bW) (o : bO) (q : Nat × List bV × List bV) (v : Option bV) (w1 : bW) (r : bR) (w2 : bW) (ho : P.1 mi pc = some o) (hq : bcal o st w = some q) (hlen : (q.2.1.map bvc).sum ≤ (P.2.1 q.1).2.2.1) (h1 : bSnd l K P d q.1 0 (blva 0 q.2.1) [] w (.inl v) w1) (h2 : bSnd l K P (d + 1) mi (pc + 3) lv (v.toList ++ q.2.2) w1 r w2) : bSnd l K P (d + 1) mi pc lv st w r w2 := by
  obtain ⟨b1, b2, b3, b4, b5, b6⟩ := A.2.2.1 mi pc o ho
  have h1' := h1
  obtain ⟨i1, i2, i3, -, -⟩ := h1'
  obtain ⟨j1, j2, j3, -, ih⟩ := h2
  refine ⟨Nat.le_trans i1 j1, Nat.le_trans i2 j2, Nat.le_trans i3 j3, ⟨o, ho⟩, ?_⟩
  intro p e R s m args below meth c H locs cells slots ls w0 mc ms C0 hb hw hz hret hnm hlk htab hRf hRl hRc hRs hc hsl hmc hms hl
  have g1 : (w1.1.length - w.1.length) + (w1.2 - w.2) + w.1.length + w.2 = w1.1.length + w1.2 := by omega
  have g2 : (bsz w1.1 - bsz w.1) + 6 * (w1.2 - w.2) + bsz w.1 + 6 * w.2 = bsz w1.1 + 6 * w1.2 := by omega
  refine bafter hw (brun A b1 b3 C0 hb hw hz hl (by omega) (by omega) hq hlen h1 g1 g2 (by omega) (by omega) (Or.inr ⟨v, rfl⟩)) ?_ ?_
  · intro v' H1 locs1 hv' hw1 hz1
    cases hv'
    have e9 : (v.map (bvv K)).toList ++ q.2.2.map (bvv K) = (v.toList ++ q.2.2).map (bvv K) := by cases v <;> rfl
    rw [e9]
    exact ih p e R s m args below meth c H1 locs1 _ _ ls w0 mc ms C0 hb hw1 hz1 hret hnm hlk htab hRf hRl hRc hRs (by omega) (by omega) hmc hms hl
  · intro x a ce H1 locs1 hx
    cases hx
theorem bsnd_callO (A : bAll K P) (d mi pc : Nat) (lv : List (Nat × bV)) (st : List bV) (w : bW) (o : bO) (q : Nat × List bV × List bV) (x : String) (w1 : bW) (ho : P.1 mi pc = some o) (hq : bcal o st w = some q) (hlen : (q.2.1.map bvc).sum ≤ (P.2.1 q.1).2.2.1) (h1 : bSnd l K P d q.1 0 (blva 0 q.2.1) [] w (.inr x) w1) (hH : (P.2.1 mi).2.2.2.2 = []) (hsp : bnsp o = true) : bSnd l K P (d + 1) mi pc lv st w (.inr x) w1 := by
  obtain ⟨b1, b2, b3, b4, b5, b6⟩ := A.2.2.1 mi pc o ho
  have h1' := h1
  obtain ⟨i1, i2, i3, -, -⟩ := h1'
  refine ⟨i1, i2, i3, ⟨o, ho⟩, ?_⟩
  intro p e R s m args below meth c H locs cells slots ls w0 mc ms C0 hb hw hz hret hnm hlk htab hRf hRl hRc hRs hc hsl hmc hms hl
  have g1 : (w1.1.length - w.1.length) + (w1.2 - w.2) + w.1.length + w.2 = w1.1.length + w1.2 := by omega
  have g2 : (bsz w1.1 - bsz w.1) + 6 * (w1.2 - w.2) + bsz w.1 + 6 * w.2 = bsz w1.1 + 6 * w1.2 := by omega
  refine bafter hw (brun A b1 b3 C0 hb hw hz hl (by omega) (by omega) hq hlen h1 g1 g2 (by omega) (by omega) (Or.inl hsp)) ?_ ?_
  · intro v' H1 locs1 hv'
    cases hv'
  · intro x' a ce H1 locs1 hx hw1 hz1 g3 g4 g5
    cases hx
    refine vx_out (fun z hz' => ?_) hlk g3 g4 g5 (fun t ht _ => ⟨rfl, ⟨by rw [ht]; exact hw1.1, fun h => by rw [ht]; exact hz1 h⟩, hw1.2.F ht⟩) hw1.2.2.2 (by omega) (by omega)
    rw [htab, hH] at hz'
    cases hz'
theorem bhand_inv {M : bH} {pc : Nat} {x : String} {ok : String → String → Option Bool} {hp : Nat} (h : bhand M pc x ok = some hp) : ∃ (pre suf : bH) (z : (Nat × Nat × Nat × Nat) × String), M = pre ++ z :: suf ∧ z.1.1 ≤ pc ∧ pc < z.1.2.1 ∧ z.1.2.2.1 = hp ∧ ok x z.2 = some true ∧ ∀ y ∈ pre, ¬ (y.1.1 ≤ pc ∧ pc < y.1.2.1) ∨ ok x y.2 = some false := by
  induction M with
  | nil => cases h
  | cons z t ih =>
    obtain ⟨q, nm⟩ := z
    unfold bhand at h
    split at h
    · rename_i hcov
      split at h
      · rename_i hk
        exact ⟨[], t, (q, nm), rfl, hcov.1, hcov.2, Option.some.inj h, hk, fun y hy => by cases hy⟩
      · rename_i hk
        obtain ⟨pre, suf, z, g1, g2, g3, g4, g5, g6⟩ := ih h
        refine ⟨(q, nm) :: pre, suf, z, by rw [g1]; rfl, g2, g3, g4, g5, fun y hy => ?_⟩
        rcases List.mem_cons.mp hy with rfl | hy
        · exact Or.inr hk
        · exact g6 y hy
      · cases h
    · rename_i hcov
      obtain ⟨pre, suf, z, g1, g2, g3, g4, g5, g6⟩ := ih h
      refine ⟨(q, nm) :: pre, suf, z, by rw [g1]; rfl, g2, g3, g4, g5, fun y hy => ?_⟩
      rcases List.mem_cons.mp hy with rfl | hy
      · exact Or.inl hcov
      · exact g6 y hy
theorem bsnd_catch (A : bAll K P) (d mi pc : Nat) (lv : List (Nat × bV)) (st : List bV) (w : bW) (o : bO) (q : Nat × List bV × List bV) (x : String) (w1 : bW) (hp : Nat) (o2 : bO) (ik : Nat × Nat) (r : bR) (w2 : bW) (ho : P.1 mi pc = some o) (hq : bcal o st w = some q) (hlen : (q.2.1.map bvc).sum ≤ (P.2.1 q.1).2.2.1) (h1 : bSnd l K P d q.1 0 (blva 0 q.2.1) [] w (.inr x) w1) (hh : bhand (P.2.1 mi).2.2.2.2 pc x P.2.2.2.1 = some hp) (ho2 : P.1 mi hp = some o2) (hsp : bnsp o = true) (hk : bastk o2.1 = some ik) (hik : ik.1 < (P.2.1 mi).2.2.1) (h2 : bSnd l K P (d + 1) mi (hp + ik.2) (blvx lv ik.1) [] w1 r w2) : bSnd l K P (d + 1) mi pc lv st w r w2 := by
  obtain ⟨b1, b2, b3, b4, b5, b6⟩ := A.2.2.1 mi pc o ho
  have h1' := h1
  obtain ⟨i1, i2, i3, -, -⟩ := h1'
  obtain ⟨j1, j2, j3, -, ih⟩ := h2
  refine ⟨Nat.le_trans i1 j1, Nat.le_trans i2 j2, Nat.le_trans i3 j3, ⟨o, ho⟩, ?_⟩
  intro p e R s m args below meth c H locs cells slots ls w0 mc ms C0 hb hw hz hret hnm hlk htab hRf hRl hRc hRs hc hsl hmc hms hl
  have g1 : (w1.1.length - w.1.length) + (w1.2 - w.2) + w.1.length + w.2 = w1.1.length + w1.2 := by omega
  have g2 : (bsz w1.1 - bsz w.1) + 6 * (w1.2 - w.2) + bsz w.1 + 6 * w.2 = bsz w1.1 + 6 * w1.2 := by omega
  refine bafter hw (brun A b1 b3 C0 hb hw hz hl (by omega) (by omega) hq hlen h1 g1 g2 (by omega) (by omega) (Or.inl hsp)) ?_ ?_
  · intro v' H1 locs1 hv'
    cases hv'
  · intro x' a ce H1 locs1 hx hw1 hz1 g3 g4 g5
    cases hx
    obtain ⟨pre, suf, z, f1, f2, f3, f4, f5, f6⟩ := bhand_inv hh
    have hmem : ∀ y : (Nat × Nat × Nat × Nat) × String, y ∈ pre ++ z :: suf → y.1.2.2.2 ≠ 0 ∧ Jvm.Cond.classLink (P.2.1 mi).1.cls y.1.2.2.2 y.2 ∈ bw_G := fun y hy => A.2.2.2.1 mi y (by rw [f1]; exact hy)
    have hz9 := hmem z (by simp)
    refine vx_catch C0.2.2.2.1 (tableOf (pre.map (fun x => x.1))) ⟨z.1.1, z.1.2.1, z.1.2.2.1, z.1.2.2.2⟩ (tableOf (suf.map (fun x => x.1))) ?_ ?_ ?_ hz9.1 (C0.2.2.2.2 _ hz9.2) (C0.2.2.2.2 _ (A.2.2.2.2.1 _ _ f5)) g3 g4 g5 ?_
    · rw [htab, f1]
      simp [tableOf]
    · intro y hy
      simp only [tableOf, List.map_map, List.mem_map] at hy
      obtain ⟨y0, hy0, rfl⟩ := hy
      rcases f6 y0 hy0 with h9 | h9
      · refine Or.inl ?_
        simp only [Function.comp, covers, Bool.and_eq_false_iff, decide_eq_false_iff_not]
        by_cases h8 : y0.1.1 ≤ pc
        · exact Or.inr fun h7 => h9 ⟨h8, h7⟩
        · exact Or.inl h8
      · have h8 := hmem y0 (List.mem_append_left _ hy0)
        exact Or.inr ⟨h8.1, y0.2, C0.2.2.2.2 _ h8.2, hb.2.2.2.2.2.2.2.1 _ (A.2.2.2.2.2 _ _ h9)⟩
    · simp only [covers, Bool.and_eq_true, decide_eq_true_eq]
      exact ⟨f2, f3⟩
    · obtain ⟨e1, e2, -⟩ := A.2.2.1 mi hp o2 ho2
      have hfil : ∀ ls' : Array Slot, lv_has ls' (P.2.1 mi).2.2.1 ((ik.1, Value.ref a) :: (bvl K lv).filter (fun q => !(q.1 == ik.1) && !(q.1 + 1 == ik.1 && q.2.category == 2))) → lv_has ls' (P.2.1 mi).2.2.1 (bvl K (blvx lv ik.1)) := fun ls' h9 => by
        refine ⟨h9.1, h9.2.1, fun q hq => h9.2.2 q (List.mem_cons_of_mem _ ?_)⟩
        have h8 : (bvl K lv).filter (fun q => !(q.1 == ik.1) && !(q.1 + 1 == ik.1 && q.2.category == 2)) = bvl K (blvx lv ik.1) := by
          simp only [blvx, bvl, List.filter_map, Function.comp_def, bvc_v]
        rw [h8]
        exact hq
      have fin : ∀ ls' : Array Slot, lv_has ls' (P.2.1 mi).2.2.1 ((ik.1, Value.ref a) :: (bvl K lv).filter (fun q => !(q.1 == ik.1) && !(q.1 + 1 == ik.1 && q.2.category == 2))) → W p l e R s m args below meth c H1 locs1 (cells + (w1.1.length - w.1.length + (w1.2 - w.2))) (slots + (bsz w1.1 - bsz w.1 + 6 * (w1.2 - w.2))) (vx_MQ below (bQc K r w2) (bXC K r w2) args s mc ms (bA K.B)) (F0 m (hp + ik.2) ls' ([] : List Value)) := fun ls' h9 =>
        ih p e R s m args below meth c H1 locs1 _ _ ls' w0 mc ms C0 hb hw1 hz1 hret hnm hlk htab hRf hRl hRc hRs (by omega) (by omega) hmc hms (hfil ls' h9)
      show W _ _ _ _ _ _ _ _ _ _ _ _ _ _ _ (F0 m z.1.2.2.1 ls [.ref a])
      rw [f4]
      obtain ⟨ins2, ln2, a2, b2', v2⟩ := o2
      cases ins2 with
      | astore_n k =>
        cases hk
        exact lv_astore_n C0.1 C0.2.1 e1 rfl hl hik rfl fin
      | astore k =>
        cases hk
        exact lv_astore C0.1 C0.2.1 e1 hl hik rfl fin
      | _ => cases hk
/-- what is read, the machine does -/
theorem bsound (hst : l.stackTraces = false) (A : bAll K P) : bClosed P (bSnd l K P) :=
  ⟨bsnd_step A, bsnd_ret A, bsnd_call A, bsnd_callO A, bsnd_catch A, bsnd_thr hst A⟩
end BCALLS
end
section
/-! THE CHECKS of the code tables, for the kernel. Words of the tables by their places: 1000 * (part of the tables) + (place there); part 0: the private methods' selects. -/
def bprog : Nat → List Jvm.Cond := fun k => match k with
  | 0 => k2_sels lw_privs
  | 1 => tables_1_1
  | 2 => tables_1_2
  | 3 => tables_1_3
  | 4 => tables_1_4
  | 5 => tables_1_5
  | 6 => tables_1_6
  | 7 => tables_1_7
  | 8 => tables_1_8
  | 9 => tables_1_9
  | 10 => tables_1_10
  | 11 => tables_1_11
  | _ => []
def bwk (j : Nat) (w : Jvm.Cond) : Bool := decide ((bprog (j / 1000))[j % 1000]? = some w) && goodWord w
theorem bprog_in (k : Nat) : ∀ w ∈ bprog k, w ∈ lw_tbl := by
  intro w hw
  unfold bprog at hw
  unfold lw_tbl tables_1
  split at hw <;> first | (simp only [List.mem_append]; simp only [hw, true_or, or_true]; done) | cases hw
theorem bwk_in {j : Nat} {w : Jvm.Cond} (h : bwk j w = true) : w ∈ bw_G := by
  unfold bwk at h
  simp only [Bool.and_eq_true, decide_eq_true_eq] at h
  exact bw_in (bprog_in _ w (List.mem_of_getElem? h.1)) h.2
/-- of a class: the words that it can be made, that it stands ready -/
abbrev bcj : Type := Nat → Nat × Nat
/-- of a method: its code's word, what it is (of an object, static), how it is selected, its class's start; how many it takes -/
abbrev bmj : Type := Nat → Nat × Nat × Nat × Nat × Nat
def bchkX (cj : bcj) (own nm : String) (pc : Nat) (o : bO) : Bool := match o.1 with
  | .ldc ix => bwk o.2.1 (.constant own ix (Int32.ofInt o.2.2.2.2))
  | .ldc2_w ix => bwk o.2.1 (.constantLong own ix (Int64.ofInt o.2.2.2.2))
  | .goto off => decide ((pc : Int) + off = (o.2.2.1 : Int))
  | .ifCond _ off => decide ((pc : Int) + off = (o.2.2.1 : Int))
  | .if_icmp _ off => decide ((pc : Int) + off = (o.2.2.1 : Int))
  | .getfield ix => decide (2 ≤ o.2.2.1) && (match vwCl[o.2.2.1]? with
    | some q => decide (o.2.2.2.1 < q.2.2) && bwk o.2.1 (.fieldLink own ix (q.2.1 o.2.2.2.1).1 (q.2.1 o.2.2.2.1).2.1 (q.2.1 o.2.2.2.1).2.2.1)
    | none => false)
  | .putfield ix => decide (2 ≤ o.2.2.1) && (match vwCl[o.2.2.1]? with
    | some q => decide (o.2.2.2.1 < q.2.2) && bwk o.2.1 (.fieldLink own ix (q.2.1 o.2.2.2.1).1 (q.2.1 o.2.2.2.1).2.1 (q.2.1 o.2.2.2.1).2.2.1) && (!(q.2.1 o.2.2.2.1).2.2.2 || (decide (nm = "<init>") && decide ((q.2.1 o.2.2.2.1).1 = own)))
    | none => false)
  | .getstatic ix => (match bsf o.2.2.1 with
    | some f => bwk o.2.1 (.fieldLink own ix f.1 f.2.1 f.2.2) || decide ((own, ix, f.1, f.2.1, f.2.2, "Boxedvalue") ∈ bwN)
    | none => false)
  | .new ix => if o.2.2.2.2 = 0 then decide (2 ≤ o.2.2.1) && (match vwCl[o.2.2.1]? with
    | some q => decide (q.2.2 = (bty o.2.2.1).length) && bwk o.2.1 (.classLink own ix q.1) && bwk (cj o.2.2.1).1 (.instantiable q.1 q.2.2) && bwk (cj o.2.2.1).2 (.initialized q.1)
    | none => false) else true
  | .newarray t => bwk o.2.1 (.arrayClass (newarray.typeOf t)) && (match t with
    | .char => decide (o.2.2.1 = 0)
    | .int => decide (o.2.2.1 = 1)
    | .long => decide (o.2.2.1 = 2)
    | .boolean => decide (o.2.2.1 = 3)
    | _ => false)
  | .anewarray ix => if o.2.2.1 = 4 then bwk o.2.1 (.classLink own ix "Boxedvalue$Box") else decide (o.2.2.1 = 5) && bwk o.2.1 (.classLink own ix "Boxedvalue$Formula")
  | .invokespecial ix => if o.2.2.2.2 = 1 then bwk o.2.1 (.methodLink own ix Lib.objectInit) else true
  | _ => true
def bchkD (cc : ByteArray) (pc : Nat) (o : bO) : Bool := match o.1 with
  | .lookupswitch _ ps => decide (decode cc pc = .ok (o.1, o.2.1)) && (ps.toList.zip (ps.toList.drop 1)).all (fun (a, next) => a.1 < next.1)
  | .tableswitch _ _ _ _ => decide (decode cc pc = .ok (o.1, o.2.1))
  | _ => decide (decode cc pc = .ok (o.1, bln o.1))
/-- of a method that is called: its class, how many it takes, its words -/
def bchkM (M : Nat → bM) (mj : bmj) (mi : Nat) : Bool := decide ((M mi).1.cls ≠ "java/lang/invoke/MethodHandle") && decide ((M mi).1.cls ≠ "java/lang/invoke/VarHandle") && decide ((parseMethodDescriptor (M mi).1.desc).map (fun d => d.parameters.length) = some (mj mi).2.2.2.2) && bwk (mj mi).1 (bHead (M mi)) && bwk (mj mi).2.2.2.1 (.initialized (M mi).1.cls)
def bchkV (M : Nat → bM) (mj : bmj) (own : String) (ix j a b : Nat) (v : Int) : Bool := decide ((mj a).1 ≠ 0) && decide ((mj a).2.2.2.2 = b) && (match vwCl[v.toNat]? with
    | some q => decide (q.1 = (M a).1.cls)
    | none => false) && bwk j (.methodLink own ix (M a).1) && bwk (mj a).2.1 (.instanceMethod (M a).1) && bwk (mj a).2.2.1 (.selects (M a).1.cls (M a).1 (M a).1) && (M a).2.2.2.2.isEmpty
def bchkS (M : Nat → bM) (mj : bmj) (own : String) (ix j a b : Nat) (v : Int) : Bool := decide ((mj a).1 ≠ 0) && decide ((mj a).2.2.2.2 = b) && ((bwk j (.methodLink own ix (M a).1) && decide (v = 0)) || (decide ((own, ix, (M a).1, "Boxedvalue") ∈ bwM) && decide (v ≠ 0) && (M a).2.2.2.2.isEmpty)) && bwk (mj a).2.1 (.static (M a).1)
def bchkI (M : Nat → bM) (mj : bmj) (own : String) (ix j a b : Nat) : Bool := decide ((mj a).1 ≠ 0) && decide ((mj a).2.2.2.2 = b) && decide ((M a).1.name = "<init>") && decide ((M a).2.2.2.1 = none) && bwk j (.methodLink own ix (M a).1) && bwk (mj a).2.1 (.instanceMethod (M a).1) && (M a).2.2.2.2.isEmpty
def bchkC (M : Nat → bM) (mj : bmj) (own : String) (o : bO) : Bool := match o.1 with
  | .invokevirtual ix => bchkV M mj own ix o.2.1 o.2.2.1 o.2.2.2.1 o.2.2.2.2
  | .invokestatic ix => bchkS M mj own ix o.2.1 o.2.2.1 o.2.2.2.1 o.2.2.2.2
  | .invokespecial ix => if o.2.2.2.2 = 0 then bchkI M mj own ix o.2.1 o.2.2.1 o.2.2.2.1 else true
  | _ => true
theorem bchkD_ok {cc : ByteArray} {pc : Nat} {o : bO} (h : bchkD cc pc o = true) : bOkD cc pc o := by
  unfold bchkD at h
  unfold bOkD
  split at h
  · rename_i d ps hi
    rw [hi] at h ⊢
    simp only [Bool.and_eq_true, decide_eq_true_eq] at h
    exact h
  · rename_i a b c d hi
    rw [hi] at h ⊢
    exact of_decide_eq_true h
  · rename_i h1 h2
    split
    · rename_i d ps hi
      exact absurd hi (h1 d ps)
    · rename_i a b c d hi
      exact absurd hi (h2 a b c d)
    · exact of_decide_eq_true h
theorem bchkX_ok {cj : bcj} {own nm : String} {pc : Nat} {o : bO} (hobj : Jvm.Cond.instanceMethod Lib.objectInit ∈ bw_G ∧ Jvm.Cond.code Lib.objectInit ⟨#[0xb1]⟩ 1 none ∈ bw_G) (h : bchkX cj own nm pc o = true) : bOkX own nm pc o := by
  obtain ⟨ins, ln, a, b, v⟩ := o
  cases ins with
  | ldc ix => exact bwk_in h
  | ldc2_w ix => exact bwk_in h
  | goto off =>
    show (pc : Int) + off = (a : Int)
    exact of_decide_eq_true h
  | ifCond cd off =>
    show (pc : Int) + off = (a : Int)
    exact of_decide_eq_true h
  | if_icmp cd off =>
    show (pc : Int) + off = (a : Int)
    exact of_decide_eq_true h
  | getfield ix =>
    obtain ⟨h1, h2⟩ := Bool.and_eq_true_iff.mp h
    refine ⟨of_decide_eq_true h1, ?_⟩
    simp only [] at h2 ⊢
    split at h2
    · rename_i q hq
      obtain ⟨C, T, N⟩ := q
      obtain ⟨h3, h4⟩ := Bool.and_eq_true_iff.mp h2
      exact ⟨C, T, N, hq, of_decide_eq_true h3, bwk_in h4⟩
    · cases h2
  | putfield ix =>
    obtain ⟨h1, h2⟩ := Bool.and_eq_true_iff.mp h
    refine ⟨of_decide_eq_true h1, ?_⟩
    simp only [] at h2 ⊢
    split at h2
    · rename_i q hq
      obtain ⟨C, T, N⟩ := q
      obtain ⟨h3, h4⟩ := Bool.and_eq_true_iff.mp h2
      obtain ⟨h5, h6⟩ := Bool.and_eq_true_iff.mp h3
      refine ⟨C, T, N, hq, of_decide_eq_true h5, bwk_in h6, ?_⟩
      simp only [] at h4
      cases hf : (T b).2.2.2 with
      | false => exact Or.inl rfl
      | true =>
        rw [hf] at h4
        obtain ⟨h7, h8⟩ := Bool.and_eq_true_iff.mp h4
        exact Or.inr ⟨rfl, of_decide_eq_true h7, of_decide_eq_true h8⟩
    · cases h2
  | getstatic ix =>
    have h : (match bsf a with
      | some f => bwk ln (.fieldLink own ix f.1 f.2.1 f.2.2) || decide ((own, ix, f.1, f.2.1, f.2.2, "Boxedvalue") ∈ bwN)
      | none => false) = true := h
    split at h
    · rename_i f hf
      refine ⟨f, hf, ?_⟩
      rcases Bool.or_eq_true_iff.mp h with h1 | h1
      · exact Or.inl (bwk_in h1)
      · exact Or.inr ⟨_, of_decide_eq_true h1⟩
    · cases h
  | new ix =>
    intro hv
    have hv : v = 0 := hv
    subst hv
    have h : (decide (2 ≤ a) && (match vwCl[a]? with
      | some q => decide (q.2.2 = (bty a).length) && bwk ln (.classLink own ix q.1) && bwk (cj a).1 (.instantiable q.1 q.2.2) && bwk (cj a).2 (.initialized q.1)
      | none => false)) = true := h
    obtain ⟨h1, h2⟩ := Bool.and_eq_true_iff.mp h
    refine ⟨of_decide_eq_true h1, ?_⟩
    split at h2
    · rename_i q hq
      obtain ⟨C, T, N⟩ := q
      simp only [Bool.and_eq_true, decide_eq_true_eq] at h2
      exact ⟨C, T, N, hq, h2.1.1.1, bwk_in h2.1.1.2, bwk_in h2.1.2, bwk_in h2.2⟩
    · cases h2
  | newarray t =>
    obtain ⟨h1, h2⟩ := Bool.and_eq_true_iff.mp h
    refine ⟨bwk_in h1, ?_⟩
    cases t <;> first | cases h2 | (have h3 := of_decide_eq_true h2; simp [h3]; done) | (simp at h2; simp [h2]; done)
  | anewarray ix =>
    have h : (if a = 4 then bwk ln (.classLink own ix "Boxedvalue$Box") else decide (a = 5) && bwk ln (.classLink own ix "Boxedvalue$Formula")) = true := h
    split at h
    · rename_i ha
      exact Or.inl ⟨bwk_in h, ha⟩
    · obtain ⟨h1, h2⟩ := Bool.and_eq_true_iff.mp h
      exact Or.inr ⟨bwk_in h2, of_decide_eq_true h1⟩
  | invokespecial ix =>
    intro hv
    have hv : v = 1 := hv
    subst hv
    exact ⟨bwk_in h, hobj.1, hobj.2⟩
  | _ => trivial
theorem bchkM_ok {M : Nat → bM} {mj : bmj} {mi : Nat} (h : bchkM M mj mi = true) : (M mi).1.cls ≠ "java/lang/invoke/MethodHandle" ∧ (M mi).1.cls ≠ "java/lang/invoke/VarHandle" ∧ (parseMethodDescriptor (M mi).1.desc).map (fun d => d.parameters.length) = some (mj mi).2.2.2.2 ∧ bHead (M mi) ∈ bw_G ∧ Jvm.Cond.initialized (M mi).1.cls ∈ bw_G := by
  unfold bchkM at h
  simp only [Bool.and_eq_true, decide_eq_true_eq] at h
  exact ⟨h.1.1.1.1, h.1.1.1.2, h.1.1.2, bwk_in h.1.2, bwk_in h.2⟩
theorem bchkC_ok {P : bP} {mj : bmj} {own : String} {o : bO} (hM : ∀ a, (mj a).1 ≠ 0 → bchkM P.2.1 mj a = true) (h : bchkC P.2.1 mj own o = true) : bOkC P own o := by
  obtain ⟨ins, ln, a, b, v⟩ := o
  cases ins with
  | invokevirtual ix =>
    have h : bchkV P.2.1 mj own ix ln a b v = true := h
    unfold bchkV at h
    simp only [Bool.and_eq_true, decide_eq_true_eq] at h
    obtain ⟨⟨⟨⟨⟨⟨h1, h2⟩, h3⟩, h4⟩, h5⟩, h6⟩, h7⟩ := h
    obtain ⟨m1, m2, m3, m4, m5⟩ := bchkM_ok (hM _ h1)
    refine ⟨m1, m2, by rw [m3, h2], ?_, bwk_in h4, bwk_in h5, bwk_in h6, m5, List.isEmpty_iff.mp h7, m4⟩
    split at h3
    · rename_i q hq
      obtain ⟨C, T, N⟩ := q
      have h3 : C = (P.2.1 a).1.cls := of_decide_eq_true h3
      subst h3
      exact ⟨T, N, hq⟩
    · cases h3
  | invokestatic ix =>
    have h : bchkS P.2.1 mj own ix ln a b v = true := h
    unfold bchkS at h
    simp only [Bool.and_eq_true, Bool.or_eq_true, decide_eq_true_eq] at h
    obtain ⟨⟨⟨h1, h2⟩, h3⟩, h4⟩ := h
    obtain ⟨m1, m2, m3, m4, m5⟩ := bchkM_ok (hM _ h1)
    refine ⟨m1, m2, by rw [m3, h2], ?_, bwk_in h4, m5, m4⟩
    rcases h3 with ⟨h5, h6⟩ | ⟨⟨h5, h6⟩, h7⟩
    · exact Or.inl ⟨bwk_in h5, h6⟩
    · exact Or.inr ⟨⟨_, h5⟩, h6, List.isEmpty_iff.mp h7⟩
  | invokespecial ix =>
    intro hv
    have hv : v = 0 := hv
    subst hv
    have h : bchkI P.2.1 mj own ix ln a b = true := h
    unfold bchkI at h
    simp only [Bool.and_eq_true, decide_eq_true_eq] at h
    obtain ⟨⟨⟨⟨⟨⟨h1, h2⟩, h3⟩, h4⟩, h5⟩, h6⟩, h7⟩ := h
    obtain ⟨m1, m2, m3, m4, m5⟩ := bchkM_ok (hM _ h1)
    exact ⟨h3, h4, m1, m2, by rw [m3, h2], bwk_in h5, bwk_in h6, m5, List.isEmpty_iff.mp h7, m4⟩
  | _ => trivial
/-- a throw: the five instructions, the message, the exception's links -/
def bchkT (xx : Nat → String × List String × Nat × Nat) (strs : List (String × Nat × String)) (own : String) (cc : ByteArray) (pc : Nat) (o : bO) : Bool := match o.1 with
  | .new ik => if o.2.2.2.2 = 1 then decide (own = "Boxedvalue") && decide (o.2.2.1 < 6) && decide (ik = (xx o.2.2.1).2.2.1) && decide (o.2.1 = (xx o.2.2.1).2.2.2) && strs.any (fun q => decide (q.1 = own) && decide (q.2.1 = o.2.2.2.1)) && decide (decode cc (pc + 3) = .ok (.dup, 1)) &&
    ((decide (decode cc (pc + 4) = .ok (.ldc o.2.2.2.1, 2)) && decide (decode cc (pc + 6) = .ok (.invokespecial o.2.1, 3)) && decide (decode cc (pc + 9) = .ok (.athrow, 1))) || (decide (decode cc (pc + 4) = .ok (.ldc_w o.2.2.2.1, 3)) && decide (decode cc (pc + 7) = .ok (.invokespecial o.2.1, 3)) && decide (decode cc (pc + 10) = .ok (.athrow, 1)))) else true
  | _ => true
theorem bchkT_ok {K : KE} {P : bP} {xx : Nat → String × List String × Nat × Nat} {strs : List (String × Nat × String)} {own : String} {cc : ByteArray} {pc : Nat} {o : bO} (hP : ∀ a, P.2.2.2.2 a = ((xx a).1, (xx a).2.1)) (hs : K.str = strs)
    (hx : ∀ a, a < 6 → Bundle.fit (xx a).1 = true ∧ (∀ n ∈ (xx a).2.1, Bundle.fit n = true) ∧ (xx a).2.1.length ≤ 8 ∧ ∀ w ∈ Jvm.Cond.classLink "Boxedvalue" (xx a).2.2.1 (xx a).1 :: Jvm.Cond.initialized (xx a).1 :: vx_atS "Boxedvalue" (xx a).2.2.2 (xx a).1 (xx a).2.1, w ∈ bw_G ∨ ∃ x ∈ bwD, w = .declares x)
    (h : bchkT xx strs own cc pc o = true) : bOkT K P own cc pc o := by
  obtain ⟨ins, ln, a, b, v⟩ := o
  cases ins with
  | new ik =>
    intro hv
    have hv : v = 1 := hv
    subst hv
    have h : (decide (own = "Boxedvalue") && decide (a < 6) && decide (ik = (xx a).2.2.1) && decide (ln = (xx a).2.2.2) && strs.any (fun q => decide (q.1 = own) && decide (q.2.1 = b)) && decide (decode cc (pc + 3) = .ok (.dup, 1)) &&
      ((decide (decode cc (pc + 4) = .ok (.ldc b, 2)) && decide (decode cc (pc + 6) = .ok (.invokespecial ln, 3)) && decide (decode cc (pc + 9) = .ok (.athrow, 1))) || (decide (decode cc (pc + 4) = .ok (.ldc_w b, 3)) && decide (decode cc (pc + 7) = .ok (.invokespecial ln, 3)) && decide (decode cc (pc + 10) = .ok (.athrow, 1))))) = true := h
    simp only [Bool.and_eq_true, Bool.or_eq_true, decide_eq_true_eq, List.any_eq_true] at h
    obtain ⟨⟨⟨⟨⟨⟨h1, h2⟩, h3⟩, h4⟩, ⟨q, hq, hq1, hq2⟩⟩, h6⟩, h7⟩ := h
    obtain ⟨x1, x2, x3, x4⟩ := hx a h2
    subst h1
    subst h3
    obtain ⟨q1, q2, q3⟩ := q
    have hq1 : q1 = "Boxedvalue" := hq1
    have hq2 : q2 = b := hq2
    subst hq1
    subst hq2
    have e : P.2.2.2.2 a = ((xx a).1, (xx a).2.1) := hP a
    refine ⟨q2, ln, q3, by rw [e]; exact x1, by rw [e]; exact x2, by rw [e]; exact x3, by rw [hs]; exact hq, ?_, h6, ?_⟩
    · rw [e, h4]; exact x4
    · rcases h7 with ⟨⟨g1, g2⟩, g3⟩ | ⟨⟨g1, g2⟩, g3⟩
      · exact Or.inl ⟨g1, g2, g3⟩
      · exact Or.inr ⟨g1, g2, g3⟩
  | _ => trivial
end
section
/-! THE CODE as the reader reads it: of each method its instructions (place, instruction, word, operands). Printed by wip/whole/gencode.py from the printed names. -/
noncomputable def bk_X0_init : List (Nat × bO) := [(0, .aload_n 0, 0, 0, 0, 0), (1, .invokespecial 3, 1137, 0, 0, 1), (4, .aload_n 0, 0, 0, 0, 0), (5, .new 9, 1138, 10, 0, 0), (8, .dup, 0, 0, 0, 0), (9, .invokespecial 11, 1140, 2560, 0, 0), (12, .putfield 12, 2010, 2, 0, 0), (15, .aload_n 0, 0, 0, 0, 0), (16, .new 18, 1187, 5, 0, 0), (19, .dup, 0, 0, 0, 0), (20, .aload_n 0, 0, 0, 0, 0), (21, .getfield 12, 2010, 2, 0, 0), (24, .invokespecial 20, 1189, 1280, 1, 0), (27, .putfield 23, 2011, 2, 1, 0), (30, .aload_n 0, 0, 0, 0, 0), (31, .new 27, 2008, 3, 0, 0), (34, .dup, 0, 0, 0, 0), (35, .invokespecial 29, 2009, 768, 0, 0), (38, .putfield 30, 2012, 2, 2, 0), (41, .aload_n 0, 0, 0, 0, 0), (42, .new 27, 2008, 3, 0, 0), (45, .dup, 0, 0, 0, 0), (46, .invokespecial 29, 2009, 768, 0, 0), (49, .putfield 34, 2013, 2, 3, 0), (52, .aload_n 0, 0, 0, 0, 0), (53, .new 27, 2008, 3, 0, 0), (56, .dup, 0, 0, 0, 0), (57, .invokespecial 29, 2009, 768, 0, 0), (60, .putfield 37, 2014, 2, 4, 0), (63, .aload_n 0, 0, 0, 0, 0), (64, .lconst 1, 0, 0, 0, 0), (65, .putfield 40, 2015, 2, 5, 0), (68, .return_, 0, 0, 0, 0)]
noncomputable def bk_X0_difference : List (Nat × bO) := []
noncomputable def bk_X0_judged : List (Nat × bO) := []
noncomputable def bk_X0_negative : List (Nat × bO) := []
noncomputable def bk_X0_ofOne : List (Nat × bO) := []
noncomputable def bk_X0_product : List (Nat × bO) := []
noncomputable def bk_X0_quotient : List (Nat × bO) := []
noncomputable def bk_X0_size : List (Nat × bO) := []
noncomputable def bk_X0_sum : List (Nat × bO) := []
noncomputable def bk_X0_tellConstant : List (Nat × bO) := [(0, .iload_n 2, 0, 0, 0, 0), (1, .bipush 112, 0, 0, 0, 0), (3, .if_icmp .ne 20, 0, 23, 0, 0), (6, .aload_n 0, 0, 0, 0, 0), (7, .getfield 12, 2010, 2, 0, 0), (10, .ldc2_w 79, 3089, 0, 0, 3), (13, .ldc2_w 81, 3090, 0, 0, 1415926535), (16, .iconst 1, 0, 0, 0, 0), (17, .invokevirtual 83, 3091, 2562, 3, 10), (20, .goto 17, 0, 37, 0, 0), (23, .aload_n 0, 0, 0, 0, 0), (24, .getfield 12, 2010, 2, 0, 0), (27, .ldc2_w 87, 3092, 0, 0, 2), (30, .ldc2_w 89, 3093, 0, 0, 7182818284), (33, .iconst 1, 0, 0, 0, 0), (34, .invokevirtual 83, 3091, 2562, 3, 10), (37, .aload_n 0, 0, 0, 0, 0), (38, .aload_n 1, 0, 0, 0, 0), (39, .invokevirtual 71, 3050, 524, 1, 2), (42, .ireturn, 0, 0, 0, 0)]
noncomputable def bk_X0_tellNumber : List (Nat × bO) := [(0, .aload_n 0, 0, 0, 0, 0), (1, .getfield 12, 2010, 2, 0, 0), (4, .lload_n 2, 0, 0, 0, 0), (5, .iload 4, 0, 0, 0, 0), (7, .invokevirtual 67, 3035, 2572, 2, 10), (10, .aload_n 0, 0, 0, 0, 0), (11, .aload_n 1, 0, 0, 0, 0), (12, .invokevirtual 71, 3050, 524, 1, 2), (15, .ireturn, 0, 0, 0, 0)]
noncomputable def bk_X0_tellText : List (Nat × bO) := []
noncomputable def bk_X0_told : List (Nat × bO) := [(0, .aload_n 0, 0, 0, 0, 0), (1, .getfield 12, 2010, 2, 0, 0), (4, .aload_n 1, 0, 0, 0, 0), (5, .getfield 54, 1091, 4, 0, 0), (8, .aload_n 0, 0, 0, 0, 0), (9, .getfield 40, 2015, 2, 5, 0), (12, .invokevirtual 57, 3054, 2575, 2, 10), (15, .aload_n 0, 0, 0, 0, 0), (16, .getfield 12, 2010, 2, 0, 0), (19, .aload_n 1, 0, 0, 0, 0), (20, .getfield 61, 1095, 4, 1, 0), (23, .aload_n 0, 0, 0, 0, 0), (24, .getfield 40, 2015, 2, 5, 0), (27, .invokevirtual 64, 3066, 2576, 2, 10), (30, .aload_n 1, 0, 0, 0, 0), (31, .invokevirtual 48, 3075, 1032, 0, 4), (34, .ifCond .eq 7, 0, 41, 0, 0), (37, .iconst 2, 0, 0, 0, 0), (38, .goto 4, 0, 42, 0, 0), (41, .iconst 0, 0, 0, 0, 0), (42, .ireturn, 0, 0, 0, 0)]
noncomputable def bk_X0_useDigits : List (Nat × bO) := [(0, .aload_n 0, 0, 0, 0, 0), (1, .iload_n 1, 0, 0, 0, 0), (2, .invokestatic 44, 2065, 3397, 1, 2), (5, .putfield 40, 2015, 2, 5, 0), (8, .return_, 0, 0, 0, 0)]
noncomputable def bkc_2 : List (List (Nat × bO)) := [bk_X0_init, bk_X0_difference, bk_X0_judged, bk_X0_negative, bk_X0_ofOne, bk_X0_product, bk_X0_quotient, bk_X0_size, bk_X0_sum, bk_X0_tellConstant, bk_X0_tellNumber, bk_X0_tellText, bk_X0_told, bk_X0_useDigits]
noncomputable def bmc_2 : List bM := [(yX0_init, cX0_init, 1, none, []), (yX0_difference, cX0_difference, 3, (some .int), []), (yX0_judged, cX0_judged, 1, (some .int), []), (yX0_negative, cX0_negative, 2, (some .int), []), (yX0_ofOne, cX0_ofOne, 7, (some .int), []), (yX0_product, cX0_product, 6, (some .int), []), (yX0_quotient, cX0_quotient, 3, (some .int), []), (yX0_size, cX0_size, 2, (some .int), []), (yX0_sum, cX0_sum, 3, (some .int), []), (yX0_tellConstant, cX0_tellConstant, 3, (some .int), []), (yX0_tellNumber, cX0_tellNumber, 5, (some .int), []), (yX0_tellText, cX0_tellText, 3, (some .int), []), (yX0_told, cX0_told, 2, (some .int), []), (yX0_useDigits, cX0_useDigits, 2, none, [])]
noncomputable def bjc_2 : List (Nat × Nat × Nat × Nat × Nat) := [(1136, 1135, 0, 1007, 0), (3119, 3117, 3118, 1007, 2), (3115, 3114, 0, 1007, 1), (3229, 3227, 3228, 1007, 1), (4003, 4001, 4002, 1007, 3), (3127, 3125, 3126, 1007, 2), (3192, 3190, 3191, 1007, 2), (3233, 3231, 3232, 1007, 1), (3102, 3100, 3101, 1007, 2), (3088, 3086, 3087, 1007, 2), (3034, 3032, 3033, 1007, 3), (5194, 5192, 5193, 1007, 2), (3053, 3052, 3, 1007, 1), (2064, 2062, 2063, 1007, 1)]
noncomputable def bk_X1_init : List (Nat × bO) := [(0, .aload_n 0, 0, 0, 0, 0), (1, .invokespecial 3, 1073, 0, 0, 1), (4, .aload_n 0, 0, 0, 0, 0), (5, .lconst 0, 0, 0, 0, 0), (6, .putfield 9, 1074, 3, 0, 0), (9, .aload_n 0, 0, 0, 0, 0), (10, .lconst 0, 0, 0, 0, 0), (11, .putfield 15, 1079, 3, 1, 0), (14, .return_, 0, 0, 0, 0)]
noncomputable def bk_X1_against : List (Nat × bO) := [(0, .aload_n 0, 0, 0, 0, 0), (1, .getfield 9, 1074, 3, 0, 0), (4, .aload_n 1, 0, 0, 0, 0), (5, .getfield 9, 1074, 3, 0, 0), (8, .lcmp, 0, 0, 0, 0), (9, .ifCond .eq 17, 0, 26, 0, 0), (12, .aload_n 0, 0, 0, 0, 0), (13, .getfield 9, 1074, 3, 0, 0), (16, .aload_n 1, 0, 0, 0, 0), (17, .getfield 9, 1074, 3, 0, 0), (20, .invokestatic 18, 3136, 4096, 2, 0), (23, .goto 14, 0, 37, 0, 0), (26, .aload_n 0, 0, 0, 0, 0), (27, .getfield 15, 1079, 3, 1, 0), (30, .aload_n 1, 0, 0, 0, 0), (31, .getfield 15, 1079, 3, 1, 0), (34, .invokestatic 18, 3136, 4096, 2, 0), (37, .ireturn, 0, 0, 0, 0)]
noncomputable def bk_X1_assign : List (Nat × bO) := []
noncomputable def bk_X1_copy : List (Nat × bO) := [(0, .aload_n 0, 0, 0, 0, 0), (1, .aload_n 1, 0, 0, 0, 0), (2, .getfield 9, 1074, 3, 0, 0), (5, .putfield 9, 1074, 3, 0, 0), (8, .aload_n 0, 0, 0, 0, 0), (9, .aload_n 1, 0, 0, 0, 0), (10, .getfield 15, 1079, 3, 1, 0), (13, .putfield 15, 1079, 3, 1, 0), (16, .return_, 0, 0, 0, 0)]
noncomputable def bk_X1_halve : List (Nat × bO) := []
noncomputable def bk_X1_isBelow : List (Nat × bO) := [(0, .aload_n 0, 0, 0, 0, 0), (1, .getfield 9, 1074, 3, 0, 0), (4, .aload_n 1, 0, 0, 0, 0), (5, .getfield 9, 1074, 3, 0, 0), (8, .lcmp, 0, 0, 0, 0), (9, .ifCond .lt 27, 0, 36, 0, 0), (12, .aload_n 0, 0, 0, 0, 0), (13, .getfield 9, 1074, 3, 0, 0), (16, .aload_n 1, 0, 0, 0, 0), (17, .getfield 9, 1074, 3, 0, 0), (20, .lcmp, 0, 0, 0, 0), (21, .ifCond .ne 19, 0, 40, 0, 0), (24, .aload_n 0, 0, 0, 0, 0), (25, .getfield 15, 1079, 3, 1, 0), (28, .aload_n 1, 0, 0, 0, 0), (29, .getfield 15, 1079, 3, 1, 0), (32, .lcmp, 0, 0, 0, 0), (33, .ifCond .ge 7, 0, 40, 0, 0), (36, .iconst 1, 0, 0, 0, 0), (37, .goto 4, 0, 41, 0, 0), (40, .iconst 0, 0, 0, 0, 0), (41, .ireturn, 0, 0, 0, 0)]
noncomputable def bk_X1_isNegative : List (Nat × bO) := []
noncomputable def bk_X1_isPositive : List (Nat × bO) := []
noncomputable def bk_X1_isTooGreat : List (Nat × bO) := [(0, .aload_n 0, 0, 0, 0, 0), (1, .getfield 9, 1074, 3, 0, 0), (4, .ldc2_w 24, 3083, 0, 0, 1000000000000), (7, .lcmp, 0, 0, 0, 0), (8, .ifCond .ge 34, 0, 42, 0, 0), (11, .aload_n 0, 0, 0, 0, 0), (12, .getfield 9, 1074, 3, 0, 0), (15, .ldc2_w 26, 3084, 0, 0, -1000000000000), (18, .lcmp, 0, 0, 0, 0), (19, .ifCond .lt 23, 0, 42, 0, 0), (22, .aload_n 0, 0, 0, 0, 0), (23, .getfield 9, 1074, 3, 0, 0), (26, .ldc2_w 26, 3084, 0, 0, -1000000000000), (29, .lcmp, 0, 0, 0, 0), (30, .ifCond .ne 16, 0, 46, 0, 0), (33, .aload_n 0, 0, 0, 0, 0), (34, .getfield 15, 1079, 3, 1, 0), (37, .lconst 0, 0, 0, 0, 0), (38, .lcmp, 0, 0, 0, 0), (39, .ifCond .ne 7, 0, 46, 0, 0), (42, .iconst 1, 0, 0, 0, 0), (43, .goto 4, 0, 47, 0, 0), (46, .iconst 0, 0, 0, 0, 0), (47, .ireturn, 0, 0, 0, 0)]
noncomputable def bk_X1_isZero : List (Nat × bO) := []
noncomputable def bk_X1_roundDown : List (Nat × bO) := [(0, .lload_n 1, 0, 0, 0, 0), (1, .lconst 1, 0, 0, 0, 0), (2, .lcmp, 0, 0, 0, 0), (3, .ifCond .le 18, 0, 21, 0, 0), (6, .aload_n 0, 0, 0, 0, 0), (7, .dup, 0, 0, 0, 0), (8, .getfield 15, 1079, 3, 1, 0), (11, .aload_n 0, 0, 0, 0, 0), (12, .getfield 15, 1079, 3, 1, 0), (15, .lload_n 1, 0, 0, 0, 0), (16, .lrem, 0, 0, 0, 0), (17, .lsub, 0, 0, 0, 0), (18, .putfield 15, 1079, 3, 1, 0), (21, .return_, 0, 0, 0, 0)]
noncomputable def bk_X1_roundUp : List (Nat × bO) := [(0, .lload_n 1, 0, 0, 0, 0), (1, .lconst 1, 0, 0, 0, 0), (2, .lcmp, 0, 0, 0, 0), (3, .ifCond .le 12, 0, 15, 0, 0), (6, .aload_n 0, 0, 0, 0, 0), (7, .getfield 15, 1079, 3, 1, 0), (10, .lload_n 1, 0, 0, 0, 0), (11, .lrem, 0, 0, 0, 0), (12, .goto 4, 0, 16, 0, 0), (15, .lconst 0, 0, 0, 0, 0), (16, .lstore 4, 0, 0, 0, 0), (18, .lload 4, 0, 0, 0, 0), (20, .lconst 0, 0, 0, 0, 0), (21, .lcmp, 0, 0, 0, 0), (22, .ifCond .gt 7, 0, 29, 0, 0), (25, .iload_n 3, 0, 0, 0, 0), (26, .ifCond .eq 16, 0, 42, 0, 0), (29, .aload_n 0, 0, 0, 0, 0), (30, .dup, 0, 0, 0, 0), (31, .getfield 15, 1079, 3, 1, 0), (34, .lload_n 1, 0, 0, 0, 0), (35, .lload 4, 0, 0, 0, 0), (37, .lsub, 0, 0, 0, 0), (38, .ladd, 0, 0, 0, 0), (39, .putfield 15, 1079, 3, 1, 0), (42, .aload_n 0, 0, 0, 0, 0), (43, .getfield 15, 1079, 3, 1, 0), (46, .ldc2_w 28, 3074, 0, 0, 10000000000), (49, .lcmp, 0, 0, 0, 0), (50, .ifCond .lt 25, 0, 75, 0, 0), (53, .aload_n 0, 0, 0, 0, 0), (54, .dup, 0, 0, 0, 0), (55, .getfield 15, 1079, 3, 1, 0), (58, .ldc2_w 28, 3074, 0, 0, 10000000000), (61, .lsub, 0, 0, 0, 0), (62, .putfield 15, 1079, 3, 1, 0), (65, .aload_n 0, 0, 0, 0, 0), (66, .dup, 0, 0, 0, 0), (67, .getfield 9, 1074, 3, 0, 0), (70, .lconst 1, 0, 0, 0, 0), (71, .ladd, 0, 0, 0, 0), (72, .putfield 9, 1074, 3, 0, 0), (75, .return_, 0, 0, 0, 0)]
noncomputable def bk_X1_shift : List (Nat × bO) := []
noncomputable def bk_X1_toDifference : List (Nat × bO) := []
noncomputable def bk_X1_toMultiple : List (Nat × bO) := []
noncomputable def bk_X1_toSum : List (Nat × bO) := []
noncomputable def bk_X1_turn : List (Nat × bO) := []
noncomputable def bkc_3 : List (List (Nat × bO)) := [bk_X1_init, bk_X1_against, bk_X1_assign, bk_X1_copy, bk_X1_halve, bk_X1_isBelow, bk_X1_isNegative, bk_X1_isPositive, bk_X1_isTooGreat, bk_X1_isZero, bk_X1_roundDown, bk_X1_roundUp, bk_X1_shift, bk_X1_toDifference, bk_X1_toMultiple, bk_X1_toSum, bk_X1_turn]
noncomputable def bmc_3 : List bM := [(yX1_init, cX1_init, 1, none, []), (yX1_against, cX1_against, 2, (some .int), []), (yX1_assign, cX1_assign, 5, none, []), (yX1_copy, cX1_copy, 2, none, []), (yX1_halve, cX1_halve, 3, none, []), (yX1_isBelow, cX1_isBelow, 2, (some .boolean), []), (yX1_isNegative, cX1_isNegative, 1, (some .boolean), []), (yX1_isPositive, cX1_isPositive, 1, (some .boolean), []), (yX1_isTooGreat, cX1_isTooGreat, 1, (some .boolean), []), (yX1_isZero, cX1_isZero, 1, (some .boolean), []), (yX1_roundDown, cX1_roundDown, 3, none, []), (yX1_roundUp, cX1_roundUp, 6, none, []), (yX1_shift, cX1_shift, 3, none, []), (yX1_toDifference, cX1_toDifference, 5, none, []), (yX1_toMultiple, cX1_toMultiple, 6, none, []), (yX1_toSum, cX1_toSum, 5, none, []), (yX1_turn, cX1_turn, 1, none, [])]
noncomputable def bjc_3 : List (Nat × Nat × Nat × Nat × Nat) := [(1072, 1071, 0, 1005, 0), (3135, 3133, 3134, 1005, 1), (3211, 3209, 3210, 1005, 2), (3061, 3059, 3060, 1005, 1), (4204, 4202, 4203, 1005, 0), (3183, 3181, 3182, 1005, 1), (3149, 3147, 3148, 1005, 0), (3200, 3198, 3199, 1005, 0), (3082, 3080, 3081, 1005, 0), (4035, 4033, 4034, 1005, 0), (3065, 3063, 3064, 1005, 1), (3073, 3071, 3072, 1005, 2), (3179, 3177, 3178, 1005, 1), (3123, 3121, 3122, 1005, 2), (4145, 4143, 4144, 1005, 2), (3106, 3104, 3105, 1005, 2), (3153, 3151, 3152, 1005, 0)]
noncomputable def bk_X2_init : List (Nat × bO) := [(0, .aload_n 0, 0, 0, 0, 0), (1, .invokespecial 1, 1067, 0, 0, 1), (4, .aload_n 0, 0, 0, 0, 0), (5, .new 7, 1068, 3, 0, 0), (8, .dup, 0, 0, 0, 0), (9, .invokespecial 9, 1070, 768, 0, 0), (12, .putfield 10, 1090, 4, 0, 0), (15, .aload_n 0, 0, 0, 0, 0), (16, .new 7, 1068, 3, 0, 0), (19, .dup, 0, 0, 0, 0), (20, .invokespecial 9, 1070, 768, 0, 0), (23, .putfield 16, 1094, 4, 1, 0), (26, .return_, 0, 0, 0, 0)]
noncomputable def bk_X2_between : List (Nat × bO) := []
noncomputable def bk_X2_copy : List (Nat × bO) := [(0, .aload_n 0, 0, 0, 0, 0), (1, .getfield 10, 1090, 4, 0, 0), (4, .aload_n 1, 0, 0, 0, 0), (5, .getfield 10, 1090, 4, 0, 0), (8, .invokevirtual 19, 3098, 771, 1, 3), (11, .aload_n 0, 0, 0, 0, 0), (12, .getfield 16, 1094, 4, 1, 0), (15, .aload_n 1, 0, 0, 0, 0), (16, .getfield 16, 1094, 4, 1, 0), (19, .invokevirtual 19, 3098, 771, 1, 3), (22, .return_, 0, 0, 0, 0)]
noncomputable def bk_X2_cutDownTo : List (Nat × bO) := []
noncomputable def bk_X2_dropSigns : List (Nat × bO) := []
noncomputable def bk_X2_embrace : List (Nat × bO) := []
noncomputable def bk_X2_holdsZero : List (Nat × bO) := []
noncomputable def bk_X2_isSingle : List (Nat × bO) := [(0, .aload_n 0, 0, 0, 0, 0), (1, .getfield 10, 1090, 4, 0, 0), (4, .aload_n 0, 0, 0, 0, 0), (5, .getfield 16, 1094, 4, 1, 0), (8, .invokevirtual 23, 3132, 769, 1, 3), (11, .ifCond .ne 7, 0, 18, 0, 0), (14, .iconst 1, 0, 0, 0, 0), (15, .goto 4, 0, 19, 0, 0), (18, .iconst 0, 0, 0, 0, 0), (19, .ireturn, 0, 0, 0, 0)]
noncomputable def bk_X2_isTooGreat : List (Nat × bO) := [(0, .aload_n 0, 0, 0, 0, 0), (1, .getfield 10, 1090, 4, 0, 0), (4, .invokevirtual 38, 3079, 776, 0, 3), (7, .ifCond .ne 13, 0, 20, 0, 0), (10, .aload_n 0, 0, 0, 0, 0), (11, .getfield 16, 1094, 4, 1, 0), (14, .invokevirtual 38, 3079, 776, 0, 3), (17, .ifCond .eq 7, 0, 24, 0, 0), (20, .iconst 1, 0, 0, 0, 0), (21, .goto 4, 0, 25, 0, 0), (24, .iconst 0, 0, 0, 0, 0), (25, .ireturn, 0, 0, 0, 0)]
noncomputable def bk_X2_liesIn : List (Nat × bO) := [(0, .aload_n 0, 0, 0, 0, 0), (1, .getfield 10, 1090, 4, 0, 0), (4, .aload_n 1, 0, 0, 0, 0), (5, .getfield 10, 1090, 4, 0, 0), (8, .invokevirtual 34, 3239, 773, 1, 3), (11, .ifCond .ne 21, 0, 32, 0, 0), (14, .aload_n 1, 0, 0, 0, 0), (15, .getfield 16, 1094, 4, 1, 0), (18, .aload_n 0, 0, 0, 0, 0), (19, .getfield 16, 1094, 4, 1, 0), (22, .invokevirtual 34, 3239, 773, 1, 3), (25, .ifCond .ne 7, 0, 32, 0, 0), (28, .iconst 1, 0, 0, 0, 0), (29, .goto 4, 0, 33, 0, 0), (32, .iconst 0, 0, 0, 0, 0), (33, .ireturn, 0, 0, 0, 0)]
noncomputable def bk_X2_roundOut : List (Nat × bO) := []
noncomputable def bk_X2_toMiddle : List (Nat × bO) := []
noncomputable def bk_X2_turn : List (Nat × bO) := []
noncomputable def bkc_4 : List (List (Nat × bO)) := [bk_X2_init, bk_X2_between, bk_X2_copy, bk_X2_cutDownTo, bk_X2_dropSigns, bk_X2_embrace, bk_X2_holdsZero, bk_X2_isSingle, bk_X2_isTooGreat, bk_X2_liesIn, bk_X2_roundOut, bk_X2_toMiddle, bk_X2_turn]
noncomputable def bmc_4 : List bM := [(yX2_init, cX2_init, 1, none, []), (yX2_between, cX2_between, 3, none, []), (yX2_copy, cX2_copy, 2, none, []), (yX2_cutDownTo, cX2_cutDownTo, 2, (some .boolean), []), (yX2_dropSigns, cX2_dropSigns, 1, none, []), (yX2_embrace, cX2_embrace, 2, none, []), (yX2_holdsZero, cX2_holdsZero, 1, (some .boolean), []), (yX2_isSingle, cX2_isSingle, 1, (some .boolean), []), (yX2_isTooGreat, cX2_isTooGreat, 1, (some .boolean), []), (yX2_liesIn, cX2_liesIn, 2, (some .boolean), []), (yX2_roundOut, cX2_roundOut, 3, none, []), (yX2_toMiddle, cX2_toMiddle, 5, (some .boolean), []), (yX2_turn, cX2_turn, 5, none, [])]
noncomputable def bjc_4 : List (Nat × Nat × Nat × Nat × Nat) := [(1066, 1065, 0, 1004, 0), (3188, 3186, 3187, 1004, 2), (3097, 3095, 3096, 1004, 1), (6019, 6017, 6018, 1004, 1), (3237, 3235, 3236, 1004, 0), (6008, 6006, 6007, 1004, 1), (3196, 3194, 3195, 1004, 0), (3131, 3129, 3130, 1004, 0), (3078, 3076, 3077, 1004, 0), (4161, 4159, 4160, 1004, 1), (3110, 3108, 3109, 1004, 1), (4199, 4197, 4198, 1004, 2), (3206, 3204, 3205, 1004, 0)]
noncomputable def bk_X3_init : List (Nat × bO) := [(0, .aload_n 0, 0, 0, 0, 0), (1, .invokespecial 3, 1192, 0, 0, 1), (4, .aload_n 0, 0, 0, 0, 0), (5, .aload_n 1, 0, 0, 0, 0), (6, .putfield 9, 1208, 5, 0, 0), (9, .aload_n 0, 0, 0, 0, 0), (10, .iconst 0, 0, 0, 0, 0), (11, .putfield 15, 1209, 5, 1, 0), (14, .aload_n 0, 0, 0, 0, 0), (15, .iconst 0, 0, 0, 0, 0), (16, .putfield 19, 1210, 5, 2, 0), (19, .aload_n 0, 0, 0, 0, 0), (20, .new 22, 1193, 6, 0, 0), (23, .dup, 0, 0, 0, 0), (24, .invokespecial 24, 1195, 1536, 0, 0), (27, .putfield 25, 1211, 5, 3, 0), (30, .aload_n 0, 0, 0, 0, 0), (31, .new 22, 1193, 6, 0, 0), (34, .dup, 0, 0, 0, 0), (35, .invokespecial 24, 1195, 1536, 0, 0), (38, .putfield 29, 1212, 5, 4, 0), (41, .aload_n 0, 0, 0, 0, 0), (42, .new 22, 1193, 6, 0, 0), (45, .dup, 0, 0, 0, 0), (46, .invokespecial 24, 1195, 1536, 0, 0), (49, .putfield 32, 1213, 5, 5, 0), (52, .aload_n 0, 0, 0, 0, 0), (53, .new 22, 1193, 6, 0, 0), (56, .dup, 0, 0, 0, 0), (57, .invokespecial 24, 1195, 1536, 0, 0), (60, .putfield 35, 1214, 5, 6, 0), (63, .aload_n 0, 0, 0, 0, 0), (64, .new 22, 1193, 6, 0, 0), (67, .dup, 0, 0, 0, 0), (68, .invokespecial 24, 1195, 1536, 0, 0), (71, .putfield 38, 1215, 5, 7, 0), (74, .aload_n 0, 0, 0, 0, 0), (75, .new 22, 1193, 6, 0, 0), (78, .dup, 0, 0, 0, 0), (79, .invokespecial 24, 1195, 1536, 0, 0), (82, .putfield 41, 1216, 5, 8, 0), (85, .aload_n 0, 0, 0, 0, 0), (86, .new 44, 1206, 3, 0, 0), (89, .dup, 0, 0, 0, 0), (90, .invokespecial 46, 1207, 768, 0, 0), (93, .putfield 47, 1217, 5, 9, 0), (96, .aload_n 0, 0, 0, 0, 0), (97, .new 44, 1206, 3, 0, 0), (100, .dup, 0, 0, 0, 0), (101, .invokespecial 46, 1207, 768, 0, 0), (104, .putfield 51, 1218, 5, 10, 0), (107, .aload_n 0, 0, 0, 0, 0), (108, .new 44, 1206, 3, 0, 0), (111, .dup, 0, 0, 0, 0), (112, .invokespecial 46, 1207, 768, 0, 0), (115, .putfield 54, 1219, 5, 11, 0), (118, .aload_n 0, 0, 0, 0, 0), (119, .new 44, 1206, 3, 0, 0), (122, .dup, 0, 0, 0, 0), (123, .invokespecial 46, 1207, 768, 0, 0), (126, .putfield 57, 1220, 5, 12, 0), (129, .return_, 0, 0, 0, 0)]
noncomputable def bk_X3_arc : List (Nat × bO) := []
noncomputable def bk_X3_begin : List (Nat × bO) := []
noncomputable def bk_X3_exponential : List (Nat × bO) := []
noncomputable def bk_X3_logarithm : List (Nat × bO) := []
noncomputable def bk_X3_nearestEighth : List (Nat × bO) := []
noncomputable def bk_X3_settle : List (Nat × bO) := []
noncomputable def bk_X3_shiftToEighth : List (Nat × bO) := []
noncomputable def bk_X3_sumOddPowers : List (Nat × bO) := []
noncomputable def bk_X3_sumPowers : List (Nat × bO) := []
noncomputable def bk_X3_tell : List (Nat × bO) := []
noncomputable def bkc_5 : List (List (Nat × bO)) := [bk_X3_init, bk_X3_arc, bk_X3_begin, bk_X3_exponential, bk_X3_logarithm, bk_X3_nearestEighth, bk_X3_settle, bk_X3_shiftToEighth, bk_X3_sumOddPowers, bk_X3_sumPowers, bk_X3_tell]
noncomputable def bmc_5 : List bM := [(yX3_init, cX3_init, 2, none, []), (yX3_arc, cX3_arc, 5, none, []), (yX3_begin, cX3_begin, 2, none, []), (yX3_exponential, cX3_exponential, 3, none, []), (yX3_logarithm, cX3_logarithm, 6, none, []), (yX3_nearestEighth, cX3_nearestEighth, 2, (some .int), []), (yX3_settle, cX3_settle, 1, none, []), (yX3_shiftToEighth, cX3_shiftToEighth, 3, (some .boolean), []), (yX3_sumOddPowers, cX3_sumOddPowers, 3, none, []), (yX3_sumPowers, cX3_sumPowers, 8, none, []), (yX3_tell, cX3_tell, 5, none, [])]
noncomputable def bjc_5 : List (Nat × Nat × Nat × Nat × Nat) := [(1191, 1190, 0, 1009, 1), (4134, 4132, 4133, 1009, 1), (4039, 4038, 8, 1009, 1), (4031, 4029, 4030, 1009, 1), (4098, 4096, 4097, 1009, 1), (4140, 4139, 12, 1009, 0), (4126, 4125, 11, 1009, 0), (4149, 4148, 13, 1009, 1), (4110, 4109, 10, 1009, 1), (4054, 4053, 9, 1009, 1), (4086, 4084, 4085, 1009, 0)]
noncomputable def bk_X4_init : List (Nat × bO) := [(0, .aload_n 0, 0, 0, 0, 0), (1, .invokespecial 1, 1198, 0, 0, 1), (4, .aload_n 0, 0, 0, 0, 0), (5, .bipush 8, 0, 0, 0, 0), (7, .newarray .long, 1186, 2, 0, 0), (9, .putfield 9, 1199, 6, 0, 0), (12, .aload_n 0, 0, 0, 0, 0), (13, .bipush 10, 0, 0, 0, 0), (15, .newarray .long, 1186, 2, 0, 0), (17, .putfield 13, 1200, 6, 1, 0), (20, .return_, 0, 0, 0, 0)]
noncomputable def bk_X4_clear : List (Nat × bO) := []
noncomputable def bk_X4_copy : List (Nat × bO) := []
noncomputable def bk_X4_isBelow : List (Nat × bO) := []
noncomputable def bk_X4_isZero : List (Nat × bO) := []
noncomputable def bk_X4_limbAt : List (Nat × bO) := []
noncomputable def bk_X4_load : List (Nat × bO) := []
noncomputable def bk_X4_minus : List (Nat × bO) := []
noncomputable def bk_X4_over : List (Nat × bO) := []
noncomputable def bk_X4_plus : List (Nat × bO) := []
noncomputable def bk_X4_setLimb : List (Nat × bO) := []
noncomputable def bk_X4_toProduct : List (Nat × bO) := []
noncomputable def bkc_6 : List (List (Nat × bO)) := [bk_X4_init, bk_X4_clear, bk_X4_copy, bk_X4_isBelow, bk_X4_isZero, bk_X4_limbAt, bk_X4_load, bk_X4_minus, bk_X4_over, bk_X4_plus, bk_X4_setLimb, bk_X4_toProduct]
noncomputable def bmc_6 : List bM := [(yX4_init, cX4_init, 1, none, []), (yX4_clear, cX4_clear, 2, none, []), (yX4_copy, cX4_copy, 3, none, []), (yX4_isBelow, cX4_isBelow, 3, (some .boolean), []), (yX4_isZero, cX4_isZero, 3, (some .boolean), []), (yX4_limbAt, cX4_limbAt, 2, (some .long), []), (yX4_load, cX4_load, 10, none, []), (yX4_minus, cX4_minus, 7, none, []), (yX4_over, cX4_over, 7, none, []), (yX4_plus, cX4_plus, 7, none, []), (yX4_setLimb, cX4_setLimb, 4, none, []), (yX4_toProduct, cX4_toProduct, 8, none, [])]
noncomputable def bjc_6 : List (Nat × Nat × Nat × Nat × Nat) := [(1197, 1196, 0, 1010, 0), (4043, 4041, 4042, 1010, 0), (4061, 4059, 4060, 1010, 1), (4130, 4128, 4129, 1010, 1), (4074, 4072, 4073, 1010, 0), (4090, 4088, 4089, 1010, 1), (4118, 4116, 4117, 1010, 3), (4078, 4076, 4077, 1010, 1), (4070, 4068, 4069, 1010, 1), (4082, 4080, 4081, 1010, 1), (4047, 4045, 4046, 1010, 2), (4065, 4063, 4064, 1010, 2)]
noncomputable def bk_X5_init : List (Nat × bO) := [(0, .aload_n 0, 0, 0, 0, 0), (1, .invokespecial 3, 2076, 0, 0, 1), (4, .aload_n 0, 0, 0, 0, 0), (5, .bipush 60, 0, 0, 0, 0), (7, .newarray .char, 1054, 0, 0, 0), (9, .putfield 9, 2077, 7, 0, 0), (12, .aload_n 0, 0, 0, 0, 0), (13, .bipush 60, 0, 0, 0, 0), (15, .newarray .long, 1186, 2, 0, 0), (17, .putfield 15, 2078, 7, 1, 0), (20, .aload_n 0, 0, 0, 0, 0), (21, .bipush 60, 0, 0, 0, 0), (23, .newarray .int, 1125, 1, 0, 0), (25, .putfield 19, 2079, 7, 2, 0), (28, .aload_n 0, 0, 0, 0, 0), (29, .bipush 60, 0, 0, 0, 0), (31, .newarray .int, 1125, 1, 0, 0), (33, .putfield 23, 2080, 7, 3, 0), (36, .aload_n 0, 0, 0, 0, 0), (37, .iconst 0, 0, 0, 0, 0), (38, .putfield 26, 2081, 7, 4, 0), (41, .aload_n 0, 0, 0, 0, 0), (42, .iconst 0, 0, 0, 0, 0), (43, .putfield 30, 2084, 7, 5, 0), (46, .aload_n 0, 0, 0, 0, 0), (47, .iconst 0, 0, 0, 0, 0), (48, .putfield 34, 2086, 7, 6, 0), (51, .aload_n 0, 0, 0, 0, 0), (52, .bipush 60, 0, 0, 0, 0), (54, .newarray .char, 1054, 0, 0, 0), (56, .putfield 37, 2088, 7, 7, 0), (59, .aload_n 0, 0, 0, 0, 0), (60, .iconst 0, 0, 0, 0, 0), (61, .putfield 40, 2089, 7, 8, 0), (64, .aload_n 0, 0, 0, 0, 0), (65, .iconst 0, 0, 0, 0, 0), (66, .putfield 43, 2090, 7, 9, 0), (69, .aload_n 0, 0, 0, 0, 0), (70, .iconst 1, 0, 0, 0, 0), (71, .putfield 46, 2091, 7, 10, 0), (74, .aload_n 0, 0, 0, 0, 0), (75, .iconst 0, 0, 0, 0, 0), (76, .putfield 49, 2092, 7, 11, 0), (79, .return_, 0, 0, 0, 0)]
noncomputable def bk_X5_actAt : List (Nat × bO) := []
noncomputable def bk_X5_append : List (Nat × bO) := []
noncomputable def bk_X5_closeAtom : List (Nat × bO) := []
noncomputable def bk_X5_findStarts : List (Nat × bO) := []
noncomputable def bk_X5_hold : List (Nat × bO) := []
noncomputable def bk_X5_isAhead : List (Nat × bO) := []
noncomputable def bk_X5_isPair : List (Nat × bO) := [(0, .iload_n 0, 0, 0, 0, 0), (1, .bipush 43, 0, 0, 0, 0), (3, .if_icmp .eq 21, 0, 24, 0, 0), (6, .iload_n 0, 0, 0, 0, 0), (7, .bipush 45, 0, 0, 0, 0), (9, .if_icmp .eq 15, 0, 24, 0, 0), (12, .iload_n 0, 0, 0, 0, 0), (13, .bipush 42, 0, 0, 0, 0), (15, .if_icmp .eq 9, 0, 24, 0, 0), (18, .iload_n 0, 0, 0, 0, 0), (19, .bipush 47, 0, 0, 0, 0), (21, .if_icmp .ne 7, 0, 28, 0, 0), (24, .iconst 1, 0, 0, 0, 0), (25, .goto 4, 0, 29, 0, 0), (28, .iconst 0, 0, 0, 0, 0), (29, .ireturn, 0, 0, 0, 0)]
noncomputable def bk_X5_lastHeld : List (Nat × bO) := []
noncomputable def bk_X5_leftOf : List (Nat × bO) := []
noncomputable def bk_X5_numberAt : List (Nat × bO) := []
noncomputable def bk_X5_parse : List (Nat × bO) := [(0, .aload_n 0, 0, 0, 0, 0), (1, .iconst 0, 0, 0, 0, 0), (2, .putfield 26, 2081, 7, 4, 0), (5, .aload_n 0, 0, 0, 0, 0), (6, .iconst 0, 0, 0, 0, 0), (7, .putfield 30, 2084, 7, 5, 0), (10, .aload_n 0, 0, 0, 0, 0), (11, .iconst 0, 0, 0, 0, 0), (12, .putfield 34, 2086, 7, 6, 0), (15, .aload_n 0, 0, 0, 0, 0), (16, .iconst 0, 0, 0, 0, 0), (17, .putfield 40, 2089, 7, 8, 0), (20, .aload_n 0, 0, 0, 0, 0), (21, .iconst 0, 0, 0, 0, 0), (22, .putfield 43, 2090, 7, 9, 0), (25, .aload_n 0, 0, 0, 0, 0), (26, .iconst 1, 0, 0, 0, 0), (27, .putfield 46, 2091, 7, 10, 0), (30, .aload_n 0, 0, 0, 0, 0), (31, .iconst 0, 0, 0, 0, 0), (32, .putfield 49, 2092, 7, 11, 0), (35, .iconst 0, 0, 0, 0, 0), (36, .istore_n 2, 0, 0, 0, 0), (37, .iload_n 2, 0, 0, 0, 0), (38, .bipush 60, 0, 0, 0, 0), (40, .if_icmp .ge 50, 0, 90, 0, 0), (43, .aload_n 0, 0, 0, 0, 0), (44, .getfield 43, 2090, 7, 9, 0), (47, .aload_n 1, 0, 0, 0, 0), (48, .getfield 78, 1048, 12, 1, 0), (51, .if_icmp .ge 39, 0, 90, 0, 0), (54, .aload_n 0, 0, 0, 0, 0), (55, .getfield 46, 2091, 7, 10, 0), (58, .ifCond .eq 11, 0, 69, 0, 0), (61, .aload_n 0, 0, 0, 0, 0), (62, .aload_n 1, 0, 0, 0, 0), (63, .invokevirtual 81, 6178, 1810, 1, 7), (66, .goto 8, 0, 74, 0, 0), (69, .aload_n 0, 0, 0, 0, 0), (70, .aload_n 1, 0, 0, 0, 0), (71, .invokevirtual 85, 6212, 1809, 1, 7), (74, .istore_n 3, 0, 0, 0, 0), (75, .iload_n 3, 0, 0, 0, 0), (76, .ifCond .ne 8, 0, 84, 0, 0), (79, .aload_n 0, 0, 0, 0, 0), (80, .getfield 43, 2090, 7, 9, 0), (83, .ireturn, 0, 0, 0, 0), (84, .iinc 2 1, 0, 0, 0, 0), (87, .goto (-50), 0, 37, 0, 0), (90, .aload_n 0, 0, 0, 0, 0), (91, .getfield 46, 2091, 7, 10, 0), (94, .ifCond .eq 8, 0, 102, 0, 0), (97, .aload_n 0, 0, 0, 0, 0), (98, .getfield 43, 2090, 7, 9, 0), (101, .ireturn, 0, 0, 0, 0), (102, .aload_n 0, 0, 0, 0, 0), (103, .invokevirtual 88, 6224, 1805, 0, 7), (106, .aload_n 0, 0, 0, 0, 0), (107, .invokevirtual 91, 6228, 1806, 0, 7), (110, .aload_n 0, 0, 0, 0, 0), (111, .getfield 40, 2089, 7, 8, 0), (114, .ifCond .le 8, 0, 122, 0, 0), (117, .aload_n 0, 0, 0, 0, 0), (118, .getfield 43, 2090, 7, 9, 0), (121, .ireturn, 0, 0, 0, 0), (122, .aload_n 0, 0, 0, 0, 0), (123, .invokevirtual 94, 6233, 1796, 0, 7), (126, .aload_n 0, 0, 0, 0, 0), (127, .iconst 1, 0, 0, 0, 0), (128, .putfield 34, 2086, 7, 6, 0), (131, .iconst (-1), 0, 0, 0, 0), (132, .ireturn, 0, 0, 0, 0)]
noncomputable def bk_X5_release : List (Nat × bO) := []
noncomputable def bk_X5_releaseProducts : List (Nat × bO) := []
noncomputable def bk_X5_releaseSums : List (Nat × bO) := []
noncomputable def bk_X5_scaleAt : List (Nat × bO) := []
noncomputable def bk_X5_startOf : List (Nat × bO) := []
noncomputable def bk_X5_takesAct : List (Nat × bO) := []
noncomputable def bk_X5_takesAtom : List (Nat × bO) := []
noncomputable def bk_X5_takesClosing : List (Nat × bO) := []
noncomputable def bk_X5_takesExponent : List (Nat × bO) := []
noncomputable def bk_X5_takesNumber : List (Nat × bO) := []
noncomputable def bk_X5_within : List (Nat × bO) := []
noncomputable def bkc_7 : List (List (Nat × bO)) := [bk_X5_init, bk_X5_actAt, bk_X5_append, bk_X5_closeAtom, bk_X5_findStarts, bk_X5_hold, bk_X5_isAhead, bk_X5_isPair, bk_X5_lastHeld, bk_X5_leftOf, bk_X5_numberAt, bk_X5_parse, bk_X5_release, bk_X5_releaseProducts, bk_X5_releaseSums, bk_X5_scaleAt, bk_X5_startOf, bk_X5_takesAct, bk_X5_takesAtom, bk_X5_takesClosing, bk_X5_takesExponent, bk_X5_takesNumber, bk_X5_within]
noncomputable def bmc_7 : List bM := [(yX5_init, cX5_init, 1, none, []), (yX5_actAt, cX5_actAt, 2, (some .char), []), (yX5_append, cX5_append, 5, none, []), (yX5_closeAtom, cX5_closeAtom, 2, none, []), (yX5_findStarts, cX5_findStarts, 2, none, []), (yX5_hold, cX5_hold, 2, none, []), (yX5_isAhead, cX5_isAhead, 1, (some .boolean), []), (yX5_isPair, cX5_isPair, 1, (some .boolean), []), (yX5_lastHeld, cX5_lastHeld, 1, (some .char), []), (yX5_leftOf, cX5_leftOf, 2, (some .int), []), (yX5_numberAt, cX5_numberAt, 2, (some .long), []), (yX5_parse, cX5_parse, 4, (some .int), []), (yX5_release, cX5_release, 1, none, []), (yX5_releaseProducts, cX5_releaseProducts, 2, none, []), (yX5_releaseSums, cX5_releaseSums, 2, none, []), (yX5_scaleAt, cX5_scaleAt, 2, (some .int), []), (yX5_startOf, cX5_startOf, 2, (some .int), []), (yX5_takesAct, cX5_takesAct, 3, (some .boolean), []), (yX5_takesAtom, cX5_takesAtom, 3, (some .boolean), []), (yX5_takesClosing, cX5_takesClosing, 1, (some .boolean), []), (yX5_takesExponent, cX5_takesExponent, 2, (some .boolean), []), (yX5_takesNumber, cX5_takesNumber, 8, (some .boolean), []), (yX5_within, cX5_within, 2, (some .int), [])]
noncomputable def bjc_7 : List (Nat × Nat × Nat × Nat × Nat) := [(2075, 2074, 0, 1011, 0), (4178, 4176, 4177, 1011, 1), (6192, 6191, 31, 1011, 3), (6196, 6195, 32, 1011, 0), (6236, 6235, 41, 1011, 0), (6211, 6210, 35, 1011, 1), (6203, 6202, 0, 1011, 1), (3030, 3029, 0, 1011, 1), (6200, 6199, 33, 1011, 0), (7110, 7108, 7109, 1011, 1), (4186, 4184, 4185, 1011, 1), (6177, 6175, 6176, 1011, 1), (6207, 6206, 34, 1011, 0), (6227, 6226, 39, 1011, 0), (6231, 6230, 40, 1011, 0), (4190, 4188, 4189, 1011, 1), (7000, 6238, 6239, 1011, 1), (6215, 6214, 36, 1011, 1), (6181, 6180, 29, 1011, 1), (6223, 6222, 38, 1011, 0), (6219, 6218, 37, 1011, 1), (6186, 6185, 30, 1011, 1), (4182, 4181, 15, 1011, 1)]
noncomputable def bk_X6_init : List (Nat × bO) := [(0, .aload_n 0, 0, 0, 0, 0), (1, .invokespecial 3, 1131, 0, 0, 1), (4, .aload_n 0, 0, 0, 0, 0), (5, .new 9, 1132, 2, 0, 0), (8, .dup, 0, 0, 0, 0), (9, .invokespecial 11, 1134, 512, 0, 0), (12, .putfield 12, 2032, 8, 0, 0), (15, .aload_n 0, 0, 0, 0, 0), (16, .sipush 128, 0, 0, 0, 0), (19, .anewarray 18, 2030, 4, 0, 0), (22, .putfield 20, 2033, 8, 1, 0), (25, .iconst 0, 0, 0, 0, 0), (26, .istore_n 1, 0, 0, 0, 0), (27, .iload_n 1, 0, 0, 0, 0), (28, .sipush 128, 0, 0, 0, 0), (31, .if_icmp .ge 22, 0, 53, 0, 0), (34, .aload_n 0, 0, 0, 0, 0), (35, .getfield 20, 2033, 8, 1, 0), (38, .iload_n 1, 0, 0, 0, 0), (39, .new 18, 2030, 4, 0, 0), (42, .dup, 0, 0, 0, 0), (43, .invokespecial 24, 2031, 1024, 0, 0), (46, .aastore, 0, 0, 0, 0), (47, .iinc 1 1, 0, 0, 0, 0), (50, .goto (-23), 0, 27, 0, 0), (53, .aload_n 0, 0, 0, 0, 0), (54, .iconst 0, 0, 0, 0, 0), (55, .putfield 25, 2034, 8, 2, 0), (58, .aload_n 0, 0, 0, 0, 0), (59, .aload_n 0, 0, 0, 0, 0), (60, .getfield 20, 2033, 8, 1, 0), (63, .iconst 0, 0, 0, 0, 0), (64, .aaload, 0, 0, 0, 0), (65, .putfield 29, 2035, 8, 3, 0), (68, .aload_n 0, 0, 0, 0, 0), (69, .aload_n 0, 0, 0, 0, 0), (70, .getfield 20, 2033, 8, 1, 0), (73, .iconst 0, 0, 0, 0, 0), (74, .aaload, 0, 0, 0, 0), (75, .putfield 33, 2036, 8, 4, 0), (78, .aload_n 0, 0, 0, 0, 0), (79, .bipush 60, 0, 0, 0, 0), (81, .newarray .int, 1125, 1, 0, 0), (83, .putfield 36, 2037, 8, 5, 0), (86, .aload_n 0, 0, 0, 0, 0), (87, .bipush 60, 0, 0, 0, 0), (89, .newarray .int, 1125, 1, 0, 0), (91, .putfield 40, 2038, 8, 6, 0), (94, .aload_n 0, 0, 0, 0, 0), (95, .iconst 0, 0, 0, 0, 0), (96, .putfield 43, 2039, 8, 7, 0), (99, .return_, 0, 0, 0, 0)]
noncomputable def bk_X6_actOf : List (Nat × bO) := []
noncomputable def bk_X6_aim : List (Nat × bO) := []
noncomputable def bk_X6_at : List (Nat × bO) := [(0, .aload_n 0, 0, 0, 0, 0), (1, .getfield 20, 2033, 8, 1, 0), (4, .iload_n 1, 0, 0, 0, 0), (5, .ifCond .lt 10, 0, 15, 0, 0), (8, .iload_n 1, 0, 0, 0, 0), (9, .sipush 128, 0, 0, 0, 0), (12, .if_icmp .lt 7, 0, 19, 0, 0), (15, .iconst 0, 0, 0, 0, 0), (16, .goto 4, 0, 20, 0, 0), (19, .iload_n 1, 0, 0, 0, 0), (20, .aaload, 0, 0, 0, 0), (21, .areturn, 0, 0, 0, 0)]
noncomputable def bk_X6_byOf : List (Nat × bO) := []
noncomputable def bk_X6_clear : List (Nat × bO) := [(0, .aload_n 0, 0, 0, 0, 0), (1, .iconst 0, 0, 0, 0, 0), (2, .putfield 25, 2034, 8, 2, 0), (5, .return_, 0, 0, 0, 0)]
noncomputable def bk_X6_enter : List (Nat × bO) := []
noncomputable def bk_X6_make : List (Nat × bO) := [(0, .aload_n 0, 0, 0, 0, 0), (1, .getfield 25, 2034, 8, 2, 0), (4, .sipush 128, 0, 0, 0, 0), (7, .if_icmp .lt 5, 0, 12, 0, 0), (10, .iconst 2, 0, 0, 0, 0), (11, .ireturn, 0, 0, 0, 0), (12, .aload_n 0, 0, 0, 0, 0), (13, .aload_n 0, 0, 0, 0, 0), (14, .getfield 25, 2034, 8, 2, 0), (17, .iconst 2, 0, 0, 0, 0), (18, .isub, 0, 0, 0, 0), (19, .invokevirtual 54, 3024, 2051, 1, 8), (22, .astore 5, 0, 0, 0, 0), (24, .aload_n 0, 0, 0, 0, 0), (25, .aload_n 0, 0, 0, 0, 0), (26, .getfield 25, 2034, 8, 2, 0), (29, .iconst 1, 0, 0, 0, 0), (30, .isub, 0, 0, 0, 0), (31, .invokevirtual 54, 3024, 2051, 1, 8), (34, .astore 6, 0, 0, 0, 0), (36, .aload_n 0, 0, 0, 0, 0), (37, .aload_n 0, 0, 0, 0, 0), (38, .getfield 25, 2034, 8, 2, 0), (41, .invokevirtual 54, 3024, 2051, 1, 8), (44, .astore 7, 0, 0, 0, 0), (46, .iload_n 1, 0, 0, 0, 0), (47, .invokestatic 70, 3028, 1799, 1, 2), (50, .ifCond .eq 21, 0, 71, 0, 0), (53, .aload_n 0, 0, 0, 0, 0), (54, .getfield 25, 2034, 8, 2, 0), (57, .iconst 1, 0, 0, 0, 0), (58, .if_icmp .le 13, 0, 71, 0, 0), (61, .aload_n 0, 0, 0, 0, 0), (62, .dup, 0, 0, 0, 0), (63, .getfield 25, 2034, 8, 2, 0), (66, .iconst 1, 0, 0, 0, 0), (67, .isub, 0, 0, 0, 0), (68, .putfield 25, 2034, 8, 2, 0), (71, .iload_n 1, 0, 0, 0, 0), (72, .lookupswitch 246 #[(35, 100), (42, 202), (43, 178), (45, 190), (47, 214), (69, 123), (98, 236), (112, 123), (120, 144), (121, 144), (126, 226)], 100, 0, 0, 0), (172, .aload_n 0, 0, 0, 0, 0), (173, .dup, 0, 0, 0, 0), (174, .getfield 25, 2034, 8, 2, 0), (177, .iconst 1, 0, 0, 0, 0), (178, .iadd, 0, 0, 0, 0), (179, .putfield 25, 2034, 8, 2, 0), (182, .aload_n 0, 0, 0, 0, 0), (183, .getfield 12, 2032, 8, 0, 0), (186, .aload 7, 0, 0, 0, 0), (188, .lload_n 2, 0, 0, 0, 0), (189, .iload 4, 0, 0, 0, 0), (191, .invokevirtual 76, 3031, 522, 3, 2), (194, .ireturn, 0, 0, 0, 0), (195, .aload_n 0, 0, 0, 0, 0), (196, .dup, 0, 0, 0, 0), (197, .getfield 25, 2034, 8, 2, 0), (200, .iconst 1, 0, 0, 0, 0), (201, .iadd, 0, 0, 0, 0), (202, .putfield 25, 2034, 8, 2, 0), (205, .aload_n 0, 0, 0, 0, 0), (206, .getfield 12, 2032, 8, 0, 0), (209, .aload 7, 0, 0, 0, 0), (211, .iload_n 1, 0, 0, 0, 0), (212, .invokevirtual 80, 3085, 521, 2, 2), (215, .ireturn, 0, 0, 0, 0), (216, .aload_n 0, 0, 0, 0, 0), (217, .dup, 0, 0, 0, 0), (218, .getfield 25, 2034, 8, 2, 0), (221, .iconst 1, 0, 0, 0, 0), (222, .iadd, 0, 0, 0, 0), (223, .putfield 25, 2034, 8, 2, 0), (226, .aload 7, 0, 0, 0, 0), (228, .iload_n 1, 0, 0, 0, 0), (229, .bipush 120, 0, 0, 0, 0), (231, .if_icmp .ne 10, 0, 241, 0, 0), (234, .aload_n 0, 0, 0, 0, 0), (235, .getfield 29, 2035, 8, 3, 0), (238, .goto 7, 0, 245, 0, 0), (241, .aload_n 0, 0, 0, 0, 0), (242, .getfield 33, 2036, 8, 4, 0), (245, .invokevirtual 58, 3094, 1026, 1, 4), (248, .iconst 0, 0, 0, 0, 0), (249, .ireturn, 0, 0, 0, 0), (250, .aload_n 0, 0, 0, 0, 0), (251, .getfield 12, 2032, 8, 0, 0), (254, .aload 5, 0, 0, 0, 0), (256, .aload 6, 0, 0, 0, 0), (258, .invokevirtual 84, 3099, 520, 2, 2), (261, .ireturn, 0, 0, 0, 0), (262, .aload_n 0, 0, 0, 0, 0), (263, .getfield 12, 2032, 8, 0, 0), (266, .aload 5, 0, 0, 0, 0), (268, .aload 6, 0, 0, 0, 0), (270, .invokevirtual 88, 3116, 513, 2, 2), (273, .ireturn, 0, 0, 0, 0), (274, .aload_n 0, 0, 0, 0, 0), (275, .getfield 12, 2032, 8, 0, 0), (278, .aload 5, 0, 0, 0, 0), (280, .aload 6, 0, 0, 0, 0), (282, .invokevirtual 91, 3124, 517, 2, 2), (285, .ireturn, 0, 0, 0, 0), (286, .aload_n 0, 0, 0, 0, 0), (287, .getfield 12, 2032, 8, 0, 0), (290, .aload 5, 0, 0, 0, 0), (292, .aload 6, 0, 0, 0, 0), (294, .invokevirtual 94, 3189, 518, 2, 2), (297, .ireturn, 0, 0, 0, 0), (298, .aload_n 0, 0, 0, 0, 0), (299, .getfield 12, 2032, 8, 0, 0), (302, .aload 6, 0, 0, 0, 0), (304, .invokevirtual 97, 3226, 515, 1, 2), (307, .ireturn, 0, 0, 0, 0), (308, .aload_n 0, 0, 0, 0, 0), (309, .getfield 12, 2032, 8, 0, 0), (312, .aload 6, 0, 0, 0, 0), (314, .invokevirtual 101, 3230, 519, 1, 2), (317, .ireturn, 0, 0, 0, 0), (318, .aload_n 0, 0, 0, 0, 0), (319, .getfield 12, 2032, 8, 0, 0), (322, .aload 6, 0, 0, 0, 0), (324, .iload_n 1, 0, 0, 0, 0), (325, .iload 4, 0, 0, 0, 0), (327, .invokevirtual 104, 4000, 516, 3, 2), (330, .ireturn, 0, 0, 0, 0)]
noncomputable def bk_X6_makeFrom : List (Nat × bO) := []
noncomputable def bk_X6_makeSlope : List (Nat × bO) := []
noncomputable def bk_X6_makeValue : List (Nat × bO) := []
noncomputable def bk_X6_nextSign : List (Nat × bO) := []
noncomputable def bk_X6_numberOf : List (Nat × bO) := []
noncomputable def bk_X6_push : List (Nat × bO) := []
noncomputable def bk_X6_recipeOf : List (Nat × bO) := []
noncomputable def bk_X6_result : List (Nat × bO) := [(0, .aload_n 0, 0, 0, 0, 0), (1, .aload_n 0, 0, 0, 0, 0), (2, .getfield 25, 2034, 8, 2, 0), (5, .iconst 1, 0, 0, 0, 0), (6, .isub, 0, 0, 0, 0), (7, .invokevirtual 54, 3024, 2051, 1, 8), (10, .areturn, 0, 0, 0, 0)]
noncomputable def bk_X6_unit : List (Nat × bO) := []
noncomputable def bk_X6_useDigits : List (Nat × bO) := [(0, .aload_n 0, 0, 0, 0, 0), (1, .getfield 12, 2032, 8, 0, 0), (4, .iload_n 1, 0, 0, 0, 0), (5, .invokevirtual 46, 2061, 525, 1, 2), (8, .return_, 0, 0, 0, 0)]
noncomputable def bkc_8 : List (List (Nat × bO)) := [bk_X6_init, bk_X6_actOf, bk_X6_aim, bk_X6_at, bk_X6_byOf, bk_X6_clear, bk_X6_enter, bk_X6_make, bk_X6_makeFrom, bk_X6_makeSlope, bk_X6_makeValue, bk_X6_nextSign, bk_X6_numberOf, bk_X6_push, bk_X6_recipeOf, bk_X6_result, bk_X6_unit, bk_X6_useDigits]
noncomputable def bmc_8 : List bM := [(yX6_init, cX6_init, 2, none, []), (yX6_actOf, cX6_actOf, 1, (some .char), []), (yX6_aim, cX6_aim, 3, none, []), (yX6_at, cX6_at, 2, (some (.object "Boxedvalue$Box")), []), (yX6_byOf, cX6_byOf, 2, (some .int), []), (yX6_clear, cX6_clear, 1, none, []), (yX6_enter, cX6_enter, 2, (some .int), []), (yX6_make, cX6_make, 8, (some .int), []), (yX6_makeFrom, cX6_makeFrom, 2, (some .int), []), (yX6_makeSlope, cX6_makeSlope, 9, (some .int), []), (yX6_makeValue, cX6_makeValue, 4, (some .int), []), (yX6_nextSign, cX6_nextSign, 3, (some .char), []), (yX6_numberOf, cX6_numberOf, 2, (some .long), []), (yX6_push, cX6_push, 2, none, []), (yX6_recipeOf, cX6_recipeOf, 2, (some (.object "java/lang/String")), []), (yX6_result, cX6_result, 1, (some (.object "Boxedvalue$Box")), []), (yX6_unit, cX6_unit, 1, (some .long), []), (yX6_useDigits, cX6_useDigits, 2, none, [])]
noncomputable def bjc_8 : List (Nat × Nat × Nat × Nat × Nat) := [(1130, 1129, 0, 1006, 0), (7115, 7114, 0, 1006, 1), (4169, 4167, 4168, 1006, 2), (3027, 3026, 2, 1006, 1), (7121, 7120, 0, 1006, 2), (3019, 3017, 3018, 1006, 0), (7038, 7037, 44, 1006, 1), (3023, 3021, 3022, 1006, 3), (5189, 5187, 5188, 1006, 1), (7034, 7032, 7033, 1006, 1), (4173, 4171, 4172, 1006, 1), (7058, 7057, 45, 1006, 1), (7118, 7117, 0, 1006, 2), (6099, 6097, 6098, 1006, 1), (7042, 7041, 0, 1006, 2), (4156, 4154, 4155, 1006, 0), (4195, 4193, 4194, 1006, 0), (2060, 2058, 2059, 1006, 1)]
noncomputable def bk_X7_init : List (Nat × bO) := [(0, .aload_n 0, 0, 0, 0, 0), (1, .invokespecial 3, 2123, 0, 0, 1), (4, .aload_n 0, 0, 0, 0, 0), (5, .bipush 8, 0, 0, 0, 0), (7, .anewarray 9, 2124, 4, 0, 0), (10, .putfield 11, 2126, 9, 0, 0), (13, .iconst 0, 0, 0, 0, 0), (14, .istore_n 1, 0, 0, 0, 0), (15, .iload_n 1, 0, 0, 0, 0), (16, .bipush 8, 0, 0, 0, 0), (18, .if_icmp .ge 22, 0, 40, 0, 0), (21, .aload_n 0, 0, 0, 0, 0), (22, .getfield 11, 2126, 9, 0, 0), (25, .iload_n 1, 0, 0, 0, 0), (26, .new 9, 2124, 4, 0, 0), (29, .dup, 0, 0, 0, 0), (30, .invokespecial 17, 2125, 1024, 0, 0), (33, .aastore, 0, 0, 0, 0), (34, .iinc 1 1, 0, 0, 0, 0), (37, .goto (-22), 0, 15, 0, 0), (40, .aload_n 0, 0, 0, 0, 0), (41, .bipush 8, 0, 0, 0, 0), (43, .newarray .int, 1125, 1, 0, 0), (45, .putfield 18, 2127, 9, 1, 0), (48, .aload_n 0, 0, 0, 0, 0), (49, .new 9, 2124, 4, 0, 0), (52, .dup, 0, 0, 0, 0), (53, .invokespecial 17, 2125, 1024, 0, 0), (56, .putfield 22, 2128, 9, 2, 0), (59, .aload_n 0, 0, 0, 0, 0), (60, .iconst 0, 0, 0, 0, 0), (61, .putfield 26, 2129, 9, 3, 0), (64, .return_, 0, 0, 0, 0)]
noncomputable def bk_X7_append : List (Nat × bO) := []
noncomputable def bk_X7_box : List (Nat × bO) := []
noncomputable def bk_X7_clear : List (Nat × bO) := []
noncomputable def bk_X7_cut : List (Nat × bO) := []
noncomputable def bk_X7_markAt : List (Nat × bO) := []
noncomputable def bk_X7_split : List (Nat × bO) := []
noncomputable def bk_X7_takeLast : List (Nat × bO) := []
noncomputable def bk_X7_within : List (Nat × bO) := []
noncomputable def bkc_9 : List (List (Nat × bO)) := [bk_X7_init, bk_X7_append, bk_X7_box, bk_X7_clear, bk_X7_cut, bk_X7_markAt, bk_X7_split, bk_X7_takeLast, bk_X7_within]
noncomputable def bmc_9 : List bM := [(yX7_init, cX7_init, 2, none, []), (yX7_append, cX7_append, 3, none, []), (yX7_box, cX7_box, 2, (some (.object "Boxedvalue$Box")), []), (yX7_clear, cX7_clear, 1, none, []), (yX7_cut, cX7_cut, 8, none, []), (yX7_markAt, cX7_markAt, 2, (some .int), []), (yX7_split, cX7_split, 3, none, []), (yX7_takeLast, cX7_takeLast, 2, (some .int), []), (yX7_within, cX7_within, 2, (some .int), [])]
noncomputable def bjc_9 : List (Nat × Nat × Nat × Nat × Nat) := [(2122, 2121, 0, 1012, 0), (7173, 7171, 7172, 1012, 2), (7220, 7218, 7219, 1012, 1), (7169, 7167, 7168, 1012, 0), (8003, 8001, 8002, 1012, 3), (7205, 7203, 7204, 1012, 1), (8010, 8009, 53, 1012, 1), (7178, 7176, 7177, 1012, 1), (7209, 7208, 51, 1012, 1)]
noncomputable def bk_X8_init : List (Nat × bO) := [(0, .aload_n 0, 0, 0, 0, 0), (1, .invokespecial 3, 1143, 0, 0, 1), (4, .aload_n 0, 0, 0, 0, 0), (5, .new 9, 1144, 3, 0, 0), (8, .dup, 0, 0, 0, 0), (9, .invokespecial 11, 1145, 768, 0, 0), (12, .putfield 12, 1146, 10, 0, 0), (15, .aload_n 0, 0, 0, 0, 0), (16, .iconst 0, 0, 0, 0, 0), (17, .putfield 18, 1147, 10, 1, 0), (20, .aload_n 0, 0, 0, 0, 0), (21, .new 9, 1144, 3, 0, 0), (24, .dup, 0, 0, 0, 0), (25, .invokespecial 11, 1145, 768, 0, 0), (28, .putfield 22, 1148, 10, 2, 0), (31, .aload_n 0, 0, 0, 0, 0), (32, .new 9, 1144, 3, 0, 0), (35, .dup, 0, 0, 0, 0), (36, .invokespecial 11, 1145, 768, 0, 0), (39, .putfield 25, 1149, 10, 3, 0), (42, .aload_n 0, 0, 0, 0, 0), (43, .bipush 32, 0, 0, 0, 0), (45, .newarray .long, 1186, 2, 0, 0), (47, .putfield 28, 1150, 10, 4, 0), (50, .aload_n 0, 0, 0, 0, 0), (51, .bipush 32, 0, 0, 0, 0), (53, .newarray .long, 1186, 2, 0, 0), (55, .putfield 32, 1151, 10, 5, 0), (58, .aload_n 0, 0, 0, 0, 0), (59, .iconst 5, 0, 0, 0, 0), (60, .newarray .long, 1186, 2, 0, 0), (62, .putfield 35, 1152, 10, 6, 0), (65, .aload_n 0, 0, 0, 0, 0), (66, .iconst 0, 0, 0, 0, 0), (67, .putfield 38, 1153, 10, 7, 0), (70, .aload_n 0, 0, 0, 0, 0), (71, .iconst 0, 0, 0, 0, 0), (72, .putfield 42, 1154, 10, 8, 0), (75, .aload_n 0, 0, 0, 0, 0), (76, .lconst 0, 0, 0, 0, 0), (77, .putfield 45, 1155, 10, 9, 0), (80, .aload_n 0, 0, 0, 0, 0), (81, .lconst 0, 0, 0, 0, 0), (82, .putfield 49, 1156, 10, 10, 0), (85, .aload_n 0, 0, 0, 0, 0), (86, .lconst 1, 0, 0, 0, 0), (87, .putfield 52, 1157, 10, 11, 0), (90, .aload_n 0, 0, 0, 0, 0), (91, .lconst 0, 0, 0, 0, 0), (92, .putfield 55, 1158, 10, 12, 0), (95, .return_, 0, 0, 0, 0)]
noncomputable def bk_X8_align : List (Nat × bO) := []
noncomputable def bk_X8_assign : List (Nat × bO) := [(0, .aload_n 0, 0, 0, 0, 0), (1, .getfield 12, 1146, 10, 0, 0), (4, .lload_n 1, 0, 0, 0, 0), (5, .putfield 70, 1075, 3, 0, 0), (8, .aload_n 0, 0, 0, 0, 0), (9, .getfield 12, 1146, 10, 0, 0), (12, .lload_n 3, 0, 0, 0, 0), (13, .putfield 73, 1080, 3, 1, 0), (16, .aload_n 0, 0, 0, 0, 0), (17, .iload 5, 0, 0, 0, 0), (19, .putfield 18, 1147, 10, 1, 0), (22, .return_, 0, 0, 0, 0)]
noncomputable def bk_X8_dropSign : List (Nat × bO) := []
noncomputable def bk_X8_guessRoot : List (Nat × bO) := []
noncomputable def bk_X8_nextDigits : List (Nat × bO) := []
noncomputable def bk_X8_powerOf : List (Nat × bO) := []
noncomputable def bk_X8_product : List (Nat × bO) := []
noncomputable def bk_X8_quotient : List (Nat × bO) := []
noncomputable def bk_X8_raise : List (Nat × bO) := []
noncomputable def bk_X8_settle : List (Nat × bO) := []
noncomputable def bk_X8_spread : List (Nat × bO) := []
noncomputable def bk_X8_take : List (Nat × bO) := [(0, .iload_n 3, 0, 0, 0, 0), (1, .ifCond .lt 9, 0, 10, 0, 0), (4, .iload_n 3, 0, 0, 0, 0), (5, .bipush 18, 0, 0, 0, 0), (7, .if_icmp .le 7, 0, 14, 0, 0), (10, .iconst 0, 0, 0, 0, 0), (11, .goto 4, 0, 15, 0, 0), (14, .iload_n 3, 0, 0, 0, 0), (15, .istore 4, 0, 0, 0, 0), (17, .getstatic 84, 0, 0, 0, 0), (20, .iload 4, 0, 0, 0, 0), (22, .laload, 0, 0, 0, 0), (23, .lstore 5, 0, 0, 0, 0), (25, .lload_n 1, 0, 0, 0, 0), (26, .lload 5, 0, 0, 0, 0), (28, .invokestatic 87, 3040, 4353, 2, 0), (31, .lstore 7, 0, 0, 0, 0), (33, .lload_n 1, 0, 0, 0, 0), (34, .lload 5, 0, 0, 0, 0), (36, .invokestatic 93, 3043, 4354, 2, 0), (39, .lstore 9, 0, 0, 0, 0), (41, .iload 4, 0, 0, 0, 0), (43, .bipush 10, 0, 0, 0, 0), (45, .if_icmp .gt 25, 0, 70, 0, 0), (48, .aload_n 0, 0, 0, 0, 0), (49, .lload 7, 0, 0, 0, 0), (51, .lload 9, 0, 0, 0, 0), (53, .getstatic 84, 0, 0, 0, 0), (56, .bipush 10, 0, 0, 0, 0), (58, .iload 4, 0, 0, 0, 0), (60, .isub, 0, 0, 0, 0), (61, .laload, 0, 0, 0, 0), (62, .lmul, 0, 0, 0, 0), (63, .iconst 0, 0, 0, 0, 0), (64, .invokevirtual 96, 3046, 2562, 3, 10), (67, .goto 40, 0, 107, 0, 0), (70, .getstatic 84, 0, 0, 0, 0), (73, .iload 4, 0, 0, 0, 0), (75, .bipush 10, 0, 0, 0, 0), (77, .isub, 0, 0, 0, 0), (78, .laload, 0, 0, 0, 0), (79, .lstore 11, 0, 0, 0, 0), (81, .aload_n 0, 0, 0, 0, 0), (82, .lload 7, 0, 0, 0, 0), (84, .lload 9, 0, 0, 0, 0), (86, .lload 11, 0, 0, 0, 0), (88, .ldiv, 0, 0, 0, 0), (89, .lload 9, 0, 0, 0, 0), (91, .lload 11, 0, 0, 0, 0), (93, .lrem, 0, 0, 0, 0), (94, .lconst 0, 0, 0, 0, 0), (95, .lcmp, 0, 0, 0, 0), (96, .ifCond .eq 7, 0, 103, 0, 0), (99, .iconst 1, 0, 0, 0, 0), (100, .goto 4, 0, 104, 0, 0), (103, .iconst 0, 0, 0, 0, 0), (104, .invokevirtual 96, 3046, 2562, 3, 10), (107, .return_, 0, 0, 0, 0)]
noncomputable def bk_X8_takeDigit : List (Nat × bO) := []
noncomputable def bk_X8_takeText : List (Nat × bO) := []
noncomputable def bk_X8_tellDown : List (Nat × bO) := [(0, .aload_n 1, 0, 0, 0, 0), (1, .aload_n 0, 0, 0, 0, 0), (2, .getfield 12, 1146, 10, 0, 0), (5, .invokevirtual 58, 3058, 771, 1, 3), (8, .aload_n 1, 0, 0, 0, 0), (9, .lload_n 2, 0, 0, 0, 0), (10, .invokevirtual 62, 3062, 778, 1, 3), (13, .return_, 0, 0, 0, 0)]
noncomputable def bk_X8_tellUp : List (Nat × bO) := [(0, .aload_n 1, 0, 0, 0, 0), (1, .aload_n 0, 0, 0, 0, 0), (2, .getfield 12, 1146, 10, 0, 0), (5, .invokevirtual 58, 3058, 771, 1, 3), (8, .aload_n 1, 0, 0, 0, 0), (9, .lload_n 2, 0, 0, 0, 0), (10, .aload_n 0, 0, 0, 0, 0), (11, .getfield 18, 1147, 10, 1, 0), (14, .invokevirtual 66, 3070, 779, 2, 3), (17, .return_, 0, 0, 0, 0)]
noncomputable def bk_X8_toPower : List (Nat × bO) := []
noncomputable def bk_X8_toRoot : List (Nat × bO) := []
noncomputable def bk_X8_turn : List (Nat × bO) := []
noncomputable def bk_X8_wholeOfRow : List (Nat × bO) := []
noncomputable def bk_X8_widen : List (Nat × bO) := []
noncomputable def bkc_10 : List (List (Nat × bO)) := [bk_X8_init, bk_X8_align, bk_X8_assign, bk_X8_dropSign, bk_X8_guessRoot, bk_X8_nextDigits, bk_X8_powerOf, bk_X8_product, bk_X8_quotient, bk_X8_raise, bk_X8_settle, bk_X8_spread, bk_X8_take, bk_X8_takeDigit, bk_X8_takeText, bk_X8_tellDown, bk_X8_tellUp, bk_X8_toPower, bk_X8_toRoot, bk_X8_turn, bk_X8_wholeOfRow, bk_X8_widen]
noncomputable def bmc_10 : List bM := [(yX8_init, cX8_init, 1, none, []), (yX8_align, cX8_align, 9, (some .int), []), (yX8_assign, cX8_assign, 6, none, []), (yX8_dropSign, cX8_dropSign, 2, (some .boolean), []), (yX8_guessRoot, cX8_guessRoot, 7, (some .long), []), (yX8_nextDigits, cX8_nextDigits, 6, (some .long), []), (yX8_powerOf, cX8_powerOf, 6, (some .double), []), (yX8_product, cX8_product, 4, none, []), (yX8_quotient, cX8_quotient, 9, none, []), (yX8_raise, cX8_raise, 3, none, []), (yX8_settle, cX8_settle, 5, none, []), (yX8_spread, cX8_spread, 2, none, []), (yX8_take, cX8_take, 13, none, []), (yX8_takeDigit, cX8_takeDigit, 3, none, []), (yX8_takeText, cX8_takeText, 4, none, []), (yX8_tellDown, cX8_tellDown, 4, none, []), (yX8_tellUp, cX8_tellUp, 4, none, []), (yX8_toPower, cX8_toPower, 4, none, []), (yX8_toRoot, cX8_toRoot, 8, none, []), (yX8_turn, cX8_turn, 1, none, []), (yX8_wholeOfRow, cX8_wholeOfRow, 4, (some .long), []), (yX8_widen, cX8_widen, 7, none, [])]
noncomputable def bjc_10 : List (Nat × Nat × Nat × Nat × Nat) := [(1142, 1141, 0, 1008, 0), (3219, 3217, 3218, 1008, 2), (3049, 3047, 3048, 1008, 3), (3145, 3144, 0, 1008, 1), (4021, 4020, 0, 1008, 2), (3225, 3223, 3224, 1008, 1), (4025, 4024, 0, 1008, 2), (3142, 3140, 3141, 1008, 2), (3215, 3213, 3214, 1008, 2), (4012, 4011, 7, 1008, 1), (3165, 3164, 5, 1008, 0), (3156, 3155, 0, 1008, 2), (3038, 3036, 3037, 1008, 2), (5204, 5203, 21, 1008, 2), (5198, 5196, 5197, 1008, 1), (3057, 3055, 3056, 1008, 2), (3069, 3067, 3068, 1008, 2), (4008, 4006, 4007, 1008, 2), (4018, 4016, 4017, 1008, 2), (3174, 3172, 3173, 1008, 0), (3169, 3168, 6, 1008, 0), (3161, 3160, 4, 1008, 0)]
noncomputable def bk_X9_init : List (Nat × bO) := [(0, .aload_n 0, 0, 0, 0, 0), (1, .invokespecial 3, 1060, 0, 0, 1), (4, .aload_n 0, 0, 0, 0, 0), (5, .bipush 10, 0, 0, 0, 0), (7, .anewarray 9, 1061, 4, 0, 0), (10, .putfield 11, 1103, 11, 0, 0), (13, .aload_n 0, 0, 0, 0, 0), (14, .bipush 10, 0, 0, 0, 0), (16, .newarray .boolean, 1089, 3, 0, 0), (18, .putfield 17, 1104, 11, 1, 0), (21, .iconst 0, 0, 0, 0, 0), (22, .istore_n 1, 0, 0, 0, 0), (23, .iload_n 1, 0, 0, 0, 0), (24, .bipush 10, 0, 0, 0, 0), (26, .if_icmp .ge 22, 0, 48, 0, 0), (29, .aload_n 0, 0, 0, 0, 0), (30, .getfield 11, 1103, 11, 0, 0), (33, .iload_n 1, 0, 0, 0, 0), (34, .new 9, 1061, 4, 0, 0), (37, .dup, 0, 0, 0, 0), (38, .invokespecial 21, 1064, 1024, 0, 0), (41, .aastore, 0, 0, 0, 0), (42, .iinc 1 1, 0, 0, 0, 0), (45, .goto (-22), 0, 23, 0, 0), (48, .aload_n 0, 0, 0, 0, 0), (49, .bipush 12, 0, 0, 0, 0), (51, .anewarray 9, 1061, 4, 0, 0), (54, .putfield 22, 1105, 11, 2, 0), (57, .aload_n 0, 0, 0, 0, 0), (58, .bipush 12, 0, 0, 0, 0), (60, .newarray .boolean, 1089, 3, 0, 0), (62, .putfield 25, 1106, 11, 3, 0), (65, .aload_n 0, 0, 0, 0, 0), (66, .bipush 12, 0, 0, 0, 0), (68, .newarray .int, 1125, 1, 0, 0), (70, .putfield 28, 1107, 11, 4, 0), (73, .iconst 0, 0, 0, 0, 0), (74, .istore_n 1, 0, 0, 0, 0), (75, .iload_n 1, 0, 0, 0, 0), (76, .bipush 12, 0, 0, 0, 0), (78, .if_icmp .ge 22, 0, 100, 0, 0), (81, .aload_n 0, 0, 0, 0, 0), (82, .getfield 22, 1105, 11, 2, 0), (85, .iload_n 1, 0, 0, 0, 0), (86, .new 9, 1061, 4, 0, 0), (89, .dup, 0, 0, 0, 0), (90, .invokespecial 21, 1064, 1024, 0, 0), (93, .aastore, 0, 0, 0, 0), (94, .iinc 1 1, 0, 0, 0, 0), (97, .goto (-22), 0, 75, 0, 0), (100, .aload_n 0, 0, 0, 0, 0), (101, .iconst 0, 0, 0, 0, 0), (102, .putfield 32, 1108, 11, 5, 0), (105, .aload_n 0, 0, 0, 0, 0), (106, .iconst 0, 0, 0, 0, 0), (107, .putfield 36, 1109, 11, 6, 0), (110, .return_, 0, 0, 0, 0)]
noncomputable def bk_X9_box : List (Nat × bO) := []
noncomputable def bk_X9_fill : List (Nat × bO) := [(0, .aload_n 0, 0, 0, 0, 0), (1, .iload_n 1, 0, 0, 0, 0), (2, .invokevirtual 39, 2216, 2820, 1, 11), (5, .ifCond .ne 4, 0, 9, 0, 0), (8, .return_, 0, 0, 0, 0), (9, .aload_n 0, 0, 0, 0, 0), (10, .getfield 32, 1108, 11, 5, 0), (13, .aload_n 0, 0, 0, 0, 0), (14, .getfield 36, 1109, 11, 6, 0), (17, .iadd, 0, 0, 0, 0), (18, .bipush 12, 0, 0, 0, 0), (20, .irem, 0, 0, 0, 0), (21, .istore_n 3, 0, 0, 0, 0), (22, .aload_n 0, 0, 0, 0, 0), (23, .getfield 36, 1109, 11, 6, 0), (26, .bipush 12, 0, 0, 0, 0), (28, .if_icmp .ne 19, 0, 47, 0, 0), (31, .aload_n 0, 0, 0, 0, 0), (32, .aload_n 0, 0, 0, 0, 0), (33, .getfield 32, 1108, 11, 5, 0), (36, .iconst 1, 0, 0, 0, 0), (37, .iadd, 0, 0, 0, 0), (38, .bipush 12, 0, 0, 0, 0), (40, .irem, 0, 0, 0, 0), (41, .putfield 32, 1108, 11, 5, 0), (44, .goto 13, 0, 57, 0, 0), (47, .aload_n 0, 0, 0, 0, 0), (48, .dup, 0, 0, 0, 0), (49, .getfield 36, 1109, 11, 6, 0), (52, .iconst 1, 0, 0, 0, 0), (53, .iadd, 0, 0, 0, 0), (54, .putfield 36, 1109, 11, 6, 0), (57, .aload_n 0, 0, 0, 0, 0), (58, .getfield 28, 1107, 11, 4, 0), (61, .iload_n 3, 0, 0, 0, 0), (62, .iload_n 1, 0, 0, 0, 0), (63, .iastore, 0, 0, 0, 0), (64, .aload_n 0, 0, 0, 0, 0), (65, .getfield 25, 1106, 11, 3, 0), (68, .iload_n 3, 0, 0, 0, 0), (69, .aload_n 0, 0, 0, 0, 0), (70, .getfield 17, 1104, 11, 1, 0), (73, .iload_n 1, 0, 0, 0, 0), (74, .baload, 0, 0, 0, 0), (75, .bastore, 0, 0, 0, 0), (76, .aload_n 0, 0, 0, 0, 0), (77, .getfield 22, 1105, 11, 2, 0), (80, .iload_n 3, 0, 0, 0, 0), (81, .aaload, 0, 0, 0, 0), (82, .aload_n 0, 0, 0, 0, 0), (83, .getfield 11, 1103, 11, 0, 0), (86, .iload_n 1, 0, 0, 0, 0), (87, .aaload, 0, 0, 0, 0), (88, .invokevirtual 43, 5167, 1026, 1, 4), (91, .aload_n 0, 0, 0, 0, 0), (92, .getfield 11, 1103, 11, 0, 0), (95, .iload_n 1, 0, 0, 0, 0), (96, .aaload, 0, 0, 0, 0), (97, .aload_n 2, 0, 0, 0, 0), (98, .invokevirtual 43, 5167, 1026, 1, 4), (101, .aload_n 0, 0, 0, 0, 0), (102, .getfield 17, 1104, 11, 1, 0), (105, .iload_n 1, 0, 0, 0, 0), (106, .iconst 1, 0, 0, 0, 0), (107, .bastore, 0, 0, 0, 0), (108, .return_, 0, 0, 0, 0)]
noncomputable def bk_X9_holds : List (Nat × bO) := [(0, .aload_n 0, 0, 0, 0, 0), (1, .iload_n 1, 0, 0, 0, 0), (2, .invokevirtual 39, 2216, 2820, 1, 11), (5, .ifCond .eq 16, 0, 21, 0, 0), (8, .aload_n 0, 0, 0, 0, 0), (9, .getfield 17, 1104, 11, 1, 0), (12, .iload_n 1, 0, 0, 0, 0), (13, .baload, 0, 0, 0, 0), (14, .ifCond .eq 7, 0, 21, 0, 0), (17, .iconst 1, 0, 0, 0, 0), (18, .goto 4, 0, 22, 0, 0), (21, .iconst 0, 0, 0, 0, 0), (22, .ireturn, 0, 0, 0, 0)]
noncomputable def bk_X9_isShelf : List (Nat × bO) := [(0, .iload_n 1, 0, 0, 0, 0), (1, .ifCond .lt 13, 0, 14, 0, 0), (4, .iload_n 1, 0, 0, 0, 0), (5, .bipush 10, 0, 0, 0, 0), (7, .if_icmp .ge 7, 0, 14, 0, 0), (10, .iconst 1, 0, 0, 0, 0), (11, .goto 4, 0, 15, 0, 0), (14, .iconst 0, 0, 0, 0, 0), (15, .ireturn, 0, 0, 0, 0)]
noncomputable def bk_X9_takeBack : List (Nat × bO) := [(0, .aload_n 0, 0, 0, 0, 0), (1, .getfield 36, 1109, 11, 6, 0), (4, .ifCond .ne 5, 0, 9, 0, 0), (7, .iconst (-1), 0, 0, 0, 0), (8, .ireturn, 0, 0, 0, 0), (9, .aload_n 0, 0, 0, 0, 0), (10, .dup, 0, 0, 0, 0), (11, .getfield 36, 1109, 11, 6, 0), (14, .iconst 1, 0, 0, 0, 0), (15, .isub, 0, 0, 0, 0), (16, .putfield 36, 1109, 11, 6, 0), (19, .aload_n 0, 0, 0, 0, 0), (20, .getfield 32, 1108, 11, 5, 0), (23, .aload_n 0, 0, 0, 0, 0), (24, .getfield 36, 1109, 11, 6, 0), (27, .iadd, 0, 0, 0, 0), (28, .bipush 12, 0, 0, 0, 0), (30, .irem, 0, 0, 0, 0), (31, .istore_n 1, 0, 0, 0, 0), (32, .aload_n 0, 0, 0, 0, 0), (33, .getfield 28, 1107, 11, 4, 0), (36, .iload_n 1, 0, 0, 0, 0), (37, .iaload, 0, 0, 0, 0), (38, .istore_n 2, 0, 0, 0, 0), (39, .aload_n 0, 0, 0, 0, 0), (40, .getfield 17, 1104, 11, 1, 0), (43, .iload_n 2, 0, 0, 0, 0), (44, .aload_n 0, 0, 0, 0, 0), (45, .getfield 25, 1106, 11, 3, 0), (48, .iload_n 1, 0, 0, 0, 0), (49, .baload, 0, 0, 0, 0), (50, .bastore, 0, 0, 0, 0), (51, .aload_n 0, 0, 0, 0, 0), (52, .getfield 11, 1103, 11, 0, 0), (55, .iload_n 2, 0, 0, 0, 0), (56, .aaload, 0, 0, 0, 0), (57, .aload_n 0, 0, 0, 0, 0), (58, .getfield 22, 1105, 11, 2, 0), (61, .iload_n 1, 0, 0, 0, 0), (62, .aaload, 0, 0, 0, 0), (63, .invokevirtual 43, 5167, 1026, 1, 4), (66, .iload_n 2, 0, 0, 0, 0), (67, .ireturn, 0, 0, 0, 0)]
noncomputable def bkc_11 : List (List (Nat × bO)) := [bk_X9_init, bk_X9_box, bk_X9_fill, bk_X9_holds, bk_X9_isShelf, bk_X9_takeBack]
noncomputable def bmc_11 : List bM := [(yX9_init, cX9_init, 2, none, []), (yX9_box, cX9_box, 2, (some (.object "Boxedvalue$Box")), []), (yX9_fill, cX9_fill, 4, none, []), (yX9_holds, cX9_holds, 2, (some .boolean), []), (yX9_isShelf, cX9_isShelf, 2, (some .boolean), []), (yX9_takeBack, cX9_takeBack, 3, (some .int), [])]
noncomputable def bjc_11 : List (Nat × Nat × Nat × Nat × Nat) := [(1059, 1058, 0, 1003, 0), (2228, 2226, 2227, 1003, 1), (5166, 5164, 5165, 1003, 2), (2215, 2213, 2214, 1003, 1), (2219, 2218, 0, 1003, 1), (6083, 6081, 6082, 1003, 0)]
noncomputable def bk_X10_init : List (Nat × bO) := [(0, .aload_n 0, 0, 0, 0, 0), (1, .invokespecial 3, 1043, 0, 0, 1), (4, .aload_n 0, 0, 0, 0, 0), (5, .bipush 60, 0, 0, 0, 0), (7, .newarray .char, 1054, 0, 0, 0), (9, .putfield 9, 1044, 12, 0, 0), (12, .aload_n 0, 0, 0, 0, 0), (13, .iconst 0, 0, 0, 0, 0), (14, .putfield 15, 1045, 12, 1, 0), (17, .return_, 0, 0, 0, 0)]
noncomputable def bk_X10_addedTo : List (Nat × bO) := [(0, .lload_n 1, 0, 0, 0, 0), (1, .lstore_n 3, 0, 0, 0, 0), (2, .iconst 0, 0, 0, 0, 0), (3, .istore 5, 0, 0, 0, 0), (5, .iload 5, 0, 0, 0, 0), (7, .aload_n 0, 0, 0, 0, 0), (8, .getfield 15, 1045, 12, 1, 0), (11, .if_icmp .ge 24, 0, 35, 0, 0), (14, .lload_n 3, 0, 0, 0, 0), (15, .ldc2_w 53, 3007, 0, 0, 31), (18, .lmul, 0, 0, 0, 0), (19, .aload_n 0, 0, 0, 0, 0), (20, .getfield 9, 1044, 12, 0, 0), (23, .iload 5, 0, 0, 0, 0), (25, .caload, 0, 0, 0, 0), (26, .i2l, 0, 0, 0, 0), (27, .ladd, 0, 0, 0, 0), (28, .lstore_n 3, 0, 0, 0, 0), (29, .iinc 5 1, 0, 0, 0, 0), (32, .goto (-27), 0, 5, 0, 0), (35, .lload_n 3, 0, 0, 0, 0), (36, .lreturn, 0, 0, 0, 0)]
noncomputable def bk_X10_append : List (Nat × bO) := [(0, .aload_n 0, 0, 0, 0, 0), (1, .getfield 15, 1045, 12, 1, 0), (4, .bipush 60, 0, 0, 0, 0), (6, .if_icmp .ge 23, 0, 29, 0, 0), (9, .aload_n 0, 0, 0, 0, 0), (10, .getfield 9, 1044, 12, 0, 0), (13, .aload_n 0, 0, 0, 0, 0), (14, .getfield 15, 1045, 12, 1, 0), (17, .iload_n 1, 0, 0, 0, 0), (18, .castore, 0, 0, 0, 0), (19, .aload_n 0, 0, 0, 0, 0), (20, .dup, 0, 0, 0, 0), (21, .getfield 15, 1045, 12, 1, 0), (24, .iconst 1, 0, 0, 0, 0), (25, .iadd, 0, 0, 0, 0), (26, .putfield 15, 1045, 12, 1, 0), (29, .return_, 0, 0, 0, 0)]
noncomputable def bk_X10_at : List (Nat × bO) := [(0, .iload_n 1, 0, 0, 0, 0), (1, .ifCond .lt 11, 0, 12, 0, 0), (4, .iload_n 1, 0, 0, 0, 0), (5, .aload_n 0, 0, 0, 0, 0), (6, .getfield 15, 1045, 12, 1, 0), (9, .if_icmp .lt 7, 0, 16, 0, 0), (12, .iconst 0, 0, 0, 0, 0), (13, .goto 9, 0, 22, 0, 0), (16, .aload_n 0, 0, 0, 0, 0), (17, .getfield 9, 1044, 12, 0, 0), (20, .iload_n 1, 0, 0, 0, 0), (21, .caload, 0, 0, 0, 0), (22, .ireturn, 0, 0, 0, 0)]
noncomputable def bk_X10_clear : List (Nat × bO) := [(0, .aload_n 0, 0, 0, 0, 0), (1, .iconst 0, 0, 0, 0, 0), (2, .putfield 15, 1045, 12, 1, 0), (5, .return_, 0, 0, 0, 0)]
noncomputable def bk_X10_isDigitAt : List (Nat × bO) := []
noncomputable def bk_X10_isNumber : List (Nat × bO) := [(0, .aload_n 0, 0, 0, 0, 0), (1, .iconst 0, 0, 0, 0, 0), (2, .invokevirtual 19, 5180, 3075, 1, 12), (5, .bipush 43, 0, 0, 0, 0), (7, .if_icmp .eq 13, 0, 20, 0, 0), (10, .aload_n 0, 0, 0, 0, 0), (11, .iconst 0, 0, 0, 0, 0), (12, .invokevirtual 19, 5180, 3075, 1, 12), (15, .bipush 45, 0, 0, 0, 0), (17, .if_icmp .ne 7, 0, 24, 0, 0), (20, .iconst 1, 0, 0, 0, 0), (21, .goto 4, 0, 25, 0, 0), (24, .iconst 0, 0, 0, 0, 0), (25, .istore_n 1, 0, 0, 0, 0), (26, .iconst 0, 0, 0, 0, 0), (27, .istore_n 2, 0, 0, 0, 0), (28, .iconst 0, 0, 0, 0, 0), (29, .istore_n 3, 0, 0, 0, 0), (30, .iload_n 1, 0, 0, 0, 0), (31, .istore 4, 0, 0, 0, 0), (33, .iload 4, 0, 0, 0, 0), (35, .aload_n 0, 0, 0, 0, 0), (36, .getfield 15, 1045, 12, 1, 0), (39, .if_icmp .ge 44, 0, 83, 0, 0), (42, .aload_n 0, 0, 0, 0, 0), (43, .iload 4, 0, 0, 0, 0), (45, .invokevirtual 23, 5181, 3077, 1, 12), (48, .ifCond .eq 9, 0, 57, 0, 0), (51, .iinc 2 1, 0, 0, 0, 0), (54, .goto 23, 0, 77, 0, 0), (57, .aload_n 0, 0, 0, 0, 0), (58, .getfield 9, 1044, 12, 0, 0), (61, .iload 4, 0, 0, 0, 0), (63, .caload, 0, 0, 0, 0), (64, .bipush 46, 0, 0, 0, 0), (66, .if_icmp .ne 9, 0, 75, 0, 0), (69, .iinc 3 1, 0, 0, 0, 0), (72, .goto 5, 0, 77, 0, 0), (75, .iconst 0, 0, 0, 0, 0), (76, .ireturn, 0, 0, 0, 0), (77, .iinc 4 1, 0, 0, 0, 0), (80, .goto (-47), 0, 33, 0, 0), (83, .iload_n 2, 0, 0, 0, 0), (84, .iconst 1, 0, 0, 0, 0), (85, .if_icmp .lt 18, 0, 103, 0, 0), (88, .iload_n 2, 0, 0, 0, 0), (89, .bipush 22, 0, 0, 0, 0), (91, .if_icmp .gt 12, 0, 103, 0, 0), (94, .iload_n 3, 0, 0, 0, 0), (95, .iconst 1, 0, 0, 0, 0), (96, .if_icmp .gt 7, 0, 103, 0, 0), (99, .iconst 1, 0, 0, 0, 0), (100, .goto 4, 0, 104, 0, 0), (103, .iconst 0, 0, 0, 0, 0), (104, .ireturn, 0, 0, 0, 0)]
noncomputable def bk_X10_write : List (Nat × bO) := []
noncomputable def bkc_12 : List (List (Nat × bO)) := [bk_X10_init, bk_X10_addedTo, bk_X10_append, bk_X10_at, bk_X10_clear, bk_X10_isDigitAt, bk_X10_isNumber, bk_X10_write]
noncomputable def bmc_12 : List bM := [(yX10_init, cX10_init, 1, none, []), (yX10_addedTo, cX10_addedTo, 6, (some .long), []), (yX10_append, cX10_append, 2, none, []), (yX10_at, cX10_at, 2, (some .char), []), (yX10_clear, cX10_clear, 1, none, []), (yX10_isDigitAt, cX10_isDigitAt, 3, (some .boolean), []), (yX10_isNumber, cX10_isNumber, 5, (some .boolean), []), (yX10_write, cX10_write, 8, none, [])]
noncomputable def bjc_12 : List (Nat × Nat × Nat × Nat × Nat) := [(1042, 1041, 0, 1002, 0), (3006, 3004, 3005, 1002, 1), (2237, 2235, 2236, 1002, 1), (5084, 5082, 5083, 1002, 1), (2207, 2205, 2206, 1002, 0), (5184, 5182, 5183, 1002, 1), (5179, 5177, 5178, 1002, 0), (2232, 2230, 2231, 1002, 1)]
noncomputable def bk_X11_init : List (Nat × bO) := [(0, .aload_n 0, 0, 0, 0, 0), (1, .invokespecial 3, 1035, 0, 0, 1), (4, .aload_n 0, 0, 0, 0, 0), (5, .bipush 6, 0, 0, 0, 0), (7, .putfield 9, 2144, 13, 0, 0), (10, .aload_n 0, 0, 0, 0, 0), (11, .new 13, 1038, 12, 0, 0), (14, .dup, 0, 0, 0, 0), (15, .invokespecial 15, 1040, 3072, 0, 0), (18, .putfield 16, 2145, 13, 1, 0), (21, .aload_n 0, 0, 0, 0, 0), (22, .new 13, 1038, 12, 0, 0), (25, .dup, 0, 0, 0, 0), (26, .invokespecial 15, 1040, 3072, 0, 0), (29, .putfield 20, 2146, 13, 2, 0), (32, .aload_n 0, 0, 0, 0, 0), (33, .new 23, 1055, 11, 0, 0), (36, .dup, 0, 0, 0, 0), (37, .invokespecial 25, 1057, 2816, 0, 0), (40, .putfield 26, 2147, 13, 3, 0), (43, .aload_n 0, 0, 0, 0, 0), (44, .new 30, 1126, 8, 0, 0), (47, .dup, 0, 0, 0, 0), (48, .invokespecial 32, 1128, 2048, 0, 0), (51, .putfield 33, 2148, 13, 4, 0), (54, .aload_n 0, 0, 0, 0, 0), (55, .getfield 33, 2148, 13, 4, 0), (58, .bipush 6, 0, 0, 0, 0), (60, .invokevirtual 37, 2057, 2065, 1, 8), (63, .aload_n 0, 0, 0, 0, 0), (64, .iconst 4, 0, 0, 0, 0), (65, .anewarray 41, 2070, 5, 0, 0), (68, .putfield 43, 2149, 13, 5, 0), (71, .iconst 0, 0, 0, 0, 0), (72, .istore_n 1, 0, 0, 0, 0), (73, .iload_n 1, 0, 0, 0, 0), (74, .iconst 4, 0, 0, 0, 0), (75, .if_icmp .ge 22, 0, 97, 0, 0), (78, .aload_n 0, 0, 0, 0, 0), (79, .getfield 43, 2149, 13, 5, 0), (82, .iload_n 1, 0, 0, 0, 0), (83, .new 41, 2070, 7, 0, 0), (86, .dup, 0, 0, 0, 0), (87, .invokespecial 47, 2073, 1792, 0, 0), (90, .aastore, 0, 0, 0, 0), (91, .iinc 1 1, 0, 0, 0, 0), (94, .goto (-21), 0, 73, 0, 0), (97, .aload_n 0, 0, 0, 0, 0), (98, .new 41, 2070, 7, 0, 0), (101, .dup, 0, 0, 0, 0), (102, .invokespecial 47, 2073, 1792, 0, 0), (105, .putfield 48, 2150, 13, 6, 0), (108, .aload_n 0, 0, 0, 0, 0), (109, .new 52, 2118, 9, 0, 0), (112, .dup, 0, 0, 0, 0), (113, .invokespecial 54, 2120, 2304, 0, 0), (116, .putfield 55, 2151, 13, 7, 0), (119, .aload_n 0, 0, 0, 0, 0), (120, .new 52, 2118, 9, 0, 0), (123, .dup, 0, 0, 0, 0), (124, .invokespecial 54, 2120, 2304, 0, 0), (127, .putfield 59, 2152, 13, 8, 0), (130, .aload_n 0, 0, 0, 0, 0), (131, .new 52, 2118, 9, 0, 0), (134, .dup, 0, 0, 0, 0), (135, .invokespecial 54, 2120, 2304, 0, 0), (138, .putfield 62, 2153, 13, 9, 0), (141, .aload_n 0, 0, 0, 0, 0), (142, .new 52, 2118, 9, 0, 0), (145, .dup, 0, 0, 0, 0), (146, .invokespecial 54, 2120, 2304, 0, 0), (149, .putfield 65, 2154, 13, 10, 0), (152, .aload_n 0, 0, 0, 0, 0), (153, .new 68, 2140, 4, 0, 0), (156, .dup, 0, 0, 0, 0), (157, .invokespecial 70, 2141, 1024, 0, 0), (160, .putfield 71, 2155, 13, 11, 0), (163, .aload_n 0, 0, 0, 0, 0), (164, .new 68, 2140, 4, 0, 0), (167, .dup, 0, 0, 0, 0), (168, .invokespecial 70, 2141, 1024, 0, 0), (171, .putfield 75, 2156, 13, 12, 0), (174, .aload_n 0, 0, 0, 0, 0), (175, .new 68, 2140, 4, 0, 0), (178, .dup, 0, 0, 0, 0), (179, .invokespecial 70, 2141, 1024, 0, 0), (182, .putfield 78, 2157, 13, 13, 0), (185, .aload_n 0, 0, 0, 0, 0), (186, .new 68, 2140, 4, 0, 0), (189, .dup, 0, 0, 0, 0), (190, .invokespecial 70, 2141, 1024, 0, 0), (193, .putfield 81, 2158, 13, 14, 0), (196, .aload_n 0, 0, 0, 0, 0), (197, .new 84, 2142, 3, 0, 0), (200, .dup, 0, 0, 0, 0), (201, .invokespecial 86, 2143, 768, 0, 0), (204, .putfield 87, 2159, 13, 15, 0), (207, .aload_n 0, 0, 0, 0, 0), (208, .new 84, 2142, 3, 0, 0), (211, .dup, 0, 0, 0, 0), (212, .invokespecial 86, 2143, 768, 0, 0), (215, .putfield 91, 2160, 13, 16, 0), (218, .return_, 0, 0, 0, 0)]
noncomputable def bk_X11_add : List (Nat × bO) := [(0, .aload_n 0, 0, 0, 0, 0), (1, .iload_n 1, 0, 0, 0, 0), (2, .iload_n 2, 0, 0, 0, 0), (3, .iload_n 3, 0, 0, 0, 0), (4, .bipush 43, 0, 0, 0, 0), (6, .invokevirtual 229, 6092, 3348, 4, 13), (9, .ireturn, 0, 0, 0, 0)]
noncomputable def bk_X11_apply : List (Nat × bO) := [(0, .aload_n 0, 0, 0, 0, 0), (1, .iload_n 1, 0, 0, 0, 0), (2, .invokevirtual 124, 5116, 3344, 1, 13), (5, .aload_n 0, 0, 0, 0, 0), (6, .iload_n 2, 0, 0, 0, 0), (7, .invokevirtual 124, 5116, 3344, 1, 13), (10, .iload_n 3, 0, 0, 0, 0), (11, .bipush 45, 0, 0, 0, 0), (13, .if_icmp .eq 37, 0, 50, 0, 0), (16, .iload_n 3, 0, 0, 0, 0), (17, .bipush 98, 0, 0, 0, 0), (19, .if_icmp .eq 31, 0, 50, 0, 0), (22, .iload_n 3, 0, 0, 0, 0), (23, .bipush 101, 0, 0, 0, 0), (25, .if_icmp .eq 25, 0, 50, 0, 0), (28, .iload_n 3, 0, 0, 0, 0), (29, .bipush 108, 0, 0, 0, 0), (31, .if_icmp .eq 19, 0, 50, 0, 0), (34, .iload_n 3, 0, 0, 0, 0), (35, .bipush 97, 0, 0, 0, 0), (37, .if_icmp .eq 13, 0, 50, 0, 0), (40, .new 94, 98, 0, 241, 1), (43, .dup, 0, 0, 0, 0), (50, .aload_n 0, 0, 0, 0, 0), (51, .iload_n 1, 0, 0, 0, 0), (52, .iload_n 2, 0, 0, 0, 0), (53, .iload_n 3, 0, 0, 0, 0), (54, .bipush 45, 0, 0, 0, 0), (56, .if_icmp .ne 8, 0, 64, 0, 0), (59, .bipush 126, 0, 0, 0, 0), (61, .goto 4, 0, 65, 0, 0), (64, .iload_n 3, 0, 0, 0, 0), (65, .iconst 0, 0, 0, 0, 0), (66, .invokevirtual 235, 6130, 3334, 4, 13), (69, .ireturn, 0, 0, 0, 0)]
noncomputable def bk_X11_area : List (Nat × bO) := [(0, .aload_n 0, 0, 0, 0, 0), (1, .iload_n 1, 0, 0, 0, 0), (2, .iload_n 2, 0, 0, 0, 0), (3, .iload_n 3, 0, 0, 0, 0), (4, .iload 4, 0, 0, 0, 0), (6, .invokevirtual 344, 8023, 3335, 4, 13), (9, .aload_n 0, 0, 0, 0, 0), (10, .aload_n 0, 0, 0, 0, 0), (11, .aload_n 0, 0, 0, 0, 0), (12, .getfield 43, 2149, 13, 5, 0), (15, .iload_n 2, 0, 0, 0, 0), (16, .aaload, 0, 0, 0, 0), (17, .aload_n 0, 0, 0, 0, 0), (18, .getfield 26, 2147, 13, 3, 0), (21, .iload_n 3, 0, 0, 0, 0), (22, .invokevirtual 157, 2225, 2817, 1, 11), (25, .iload 4, 0, 0, 0, 0), (27, .invokevirtual 351, 8049, 3392, 3, 13), (30, .invokevirtual 327, 5138, 3346, 1, 13), (33, .aload_n 0, 0, 0, 0, 0), (34, .iload_n 1, 0, 0, 0, 0), (35, .aload_n 0, 0, 0, 0, 0), (36, .getfield 71, 2155, 13, 11, 0), (39, .invokevirtual 168, 5159, 3357, 2, 13), (42, .ireturn, 0, 0, 0, 0)]
noncomputable def bk_X11_become : List (Nat × bO) := [(0, .aload_n 0, 0, 0, 0, 0), (1, .iload_n 2, 0, 0, 0, 0), (2, .invokevirtual 327, 5138, 3346, 1, 13), (5, .aload_n 0, 0, 0, 0, 0), (6, .iload_n 1, 0, 0, 0, 0), (7, .aload_n 0, 0, 0, 0, 0), (8, .getfield 33, 2148, 13, 4, 0), (11, .invokevirtual 330, 4153, 2063, 0, 8), (14, .invokevirtual 168, 5159, 3357, 2, 13), (17, .ireturn, 0, 0, 0, 0)]
noncomputable def bk_X11_canBeZero : List (Nat × bO) := []
noncomputable def bk_X11_change : List (Nat × bO) := [(0, .aload_n 0, 0, 0, 0, 0), (1, .iload_n 2, 0, 0, 0, 0), (2, .invokevirtual 154, 5225, 3340, 1, 13), (5, .aload_n 0, 0, 0, 0, 0), (6, .getfield 33, 2148, 13, 4, 0), (9, .invokevirtual 129, 3016, 2053, 0, 8), (12, .aload_n 0, 0, 0, 0, 0), (13, .getfield 33, 2148, 13, 4, 0), (16, .aload_n 0, 0, 0, 0, 0), (17, .getfield 26, 2147, 13, 3, 0), (20, .iload_n 2, 0, 0, 0, 0), (21, .invokevirtual 157, 2225, 2817, 1, 11), (24, .invokevirtual 410, 6096, 2061, 1, 8), (27, .aload_n 0, 0, 0, 0, 0), (28, .iload_n 1, 0, 0, 0, 0), (29, .aload_n 0, 0, 0, 0, 0), (30, .getfield 33, 2148, 13, 4, 0), (33, .iload_n 3, 0, 0, 0, 0), (34, .lconst 0, 0, 0, 0, 0), (35, .iload 4, 0, 0, 0, 0), (37, .invokevirtual 130, 3020, 2055, 3, 8), (40, .invokevirtual 134, 5134, 3332, 2, 13), (43, .ireturn, 0, 0, 0, 0)]
noncomputable def bk_X11_checkBoundsCall : List (Nat × bO) := [(0, .aload_n 0, 0, 0, 0, 0), (1, .iload_n 1, 0, 0, 0, 0), (2, .invokevirtual 124, 5116, 3344, 1, 13), (5, .aload_n 0, 0, 0, 0, 0), (6, .iload_n 3, 0, 0, 0, 0), (7, .invokevirtual 124, 5116, 3344, 1, 13), (10, .aload_n 0, 0, 0, 0, 0), (11, .iload_n 2, 0, 0, 0, 0), (12, .invokevirtual 252, 6169, 3338, 1, 13), (15, .aload_n 0, 0, 0, 0, 0), (16, .iload 4, 0, 0, 0, 0), (18, .iconst 3, 0, 0, 0, 0), (19, .invokevirtual 285, 7141, 3336, 2, 13), (22, .aload_n 0, 0, 0, 0, 0), (23, .iload_n 2, 0, 0, 0, 0), (24, .invokevirtual 259, 7008, 3337, 1, 13), (27, .aload_n 0, 0, 0, 0, 0), (28, .iload_n 3, 0, 0, 0, 0), (29, .invokevirtual 154, 5225, 3340, 1, 13), (32, .aload_n 0, 0, 0, 0, 0), (33, .iload_n 2, 0, 0, 0, 0), (34, .invokevirtual 288, 7146, 3341, 1, 13), (37, .return_, 0, 0, 0, 0)]
noncomputable def bk_X11_checkCuts : List (Nat × bO) := [(0, .iload_n 1, 0, 0, 0, 0), (1, .ifCond .lt 8, 0, 9, 0, 0), (4, .iload_n 1, 0, 0, 0, 0), (5, .iload_n 2, 0, 0, 0, 0), (6, .if_icmp .le 14, 0, 20, 0, 0), (9, .new 94, 98, 0, 396, 1), (12, .dup, 0, 0, 0, 0), (20, .return_, 0, 0, 0, 0)]
noncomputable def bk_X11_checkDefined : List (Nat × bO) := [(0, .aload_n 0, 0, 0, 0, 0), (1, .getfield 43, 2149, 13, 5, 0), (4, .iload_n 1, 0, 0, 0, 0), (5, .aaload, 0, 0, 0, 0), (6, .getfield 376, 2087, 7, 6, 0), (9, .ifCond .ne 14, 0, 23, 0, 0), (12, .new 176, 180, 3, 389, 1), (15, .dup, 0, 0, 0, 0), (23, .return_, 0, 0, 0, 0)]
noncomputable def bk_X11_checkFormula : List (Nat × bO) := [(0, .iload_n 1, 0, 0, 0, 0), (1, .ifCond .lt 8, 0, 9, 0, 0), (4, .iload_n 1, 0, 0, 0, 0), (5, .iconst 4, 0, 0, 0, 0), (6, .if_icmp .lt 14, 0, 20, 0, 0), (9, .new 243, 247, 2, 387, 1), (12, .dup, 0, 0, 0, 0), (20, .return_, 0, 0, 0, 0)]
noncomputable def bk_X11_checkFormulaCall : List (Nat × bO) := [(0, .aload_n 0, 0, 0, 0, 0), (1, .iload_n 1, 0, 0, 0, 0), (2, .iload_n 3, 0, 0, 0, 0), (3, .iload 4, 0, 0, 0, 0), (5, .invokevirtual 150, 5221, 3345, 3, 13), (8, .aload_n 0, 0, 0, 0, 0), (9, .iload_n 2, 0, 0, 0, 0), (10, .invokevirtual 252, 6169, 3338, 1, 13), (13, .aload_n 0, 0, 0, 0, 0), (14, .iload_n 2, 0, 0, 0, 0), (15, .invokevirtual 259, 7008, 3337, 1, 13), (18, .aload_n 0, 0, 0, 0, 0), (19, .iload_n 3, 0, 0, 0, 0), (20, .invokevirtual 154, 5225, 3340, 1, 13), (23, .aload_n 0, 0, 0, 0, 0), (24, .iload 4, 0, 0, 0, 0), (26, .invokevirtual 154, 5225, 3340, 1, 13), (29, .return_, 0, 0, 0, 0)]
noncomputable def bk_X11_checkHeld : List (Nat × bO) := [(0, .aload_n 0, 0, 0, 0, 0), (1, .getfield 26, 2147, 13, 3, 0), (4, .iload_n 1, 0, 0, 0, 0), (5, .invokevirtual 360, 2212, 2819, 1, 11), (8, .ifCond .ne 14, 0, 22, 0, 0), (11, .new 176, 180, 3, 385, 1), (14, .dup, 0, 0, 0, 0), (22, .return_, 0, 0, 0, 0)]
noncomputable def bk_X11_checkNoY : List (Nat × bO) := []
noncomputable def bk_X11_checkPair : List (Nat × bO) := [(0, .aload_n 0, 0, 0, 0, 0), (1, .iload_n 1, 0, 0, 0, 0), (2, .invokevirtual 124, 5116, 3344, 1, 13), (5, .aload_n 0, 0, 0, 0, 0), (6, .iload_n 2, 0, 0, 0, 0), (7, .invokevirtual 124, 5116, 3344, 1, 13), (10, .aload_n 0, 0, 0, 0, 0), (11, .iload_n 1, 0, 0, 0, 0), (12, .invokevirtual 154, 5225, 3340, 1, 13), (15, .aload_n 0, 0, 0, 0, 0), (16, .iload_n 2, 0, 0, 0, 0), (17, .invokevirtual 154, 5225, 3340, 1, 13), (20, .return_, 0, 0, 0, 0)]
noncomputable def bk_X11_checkPiece : List (Nat × bO) := [(0, .iload_n 1, 0, 0, 0, 0), (1, .ifCond .lt 14, 0, 15, 0, 0), (4, .iload_n 1, 0, 0, 0, 0), (5, .aload_n 0, 0, 0, 0, 0), (6, .getfield 55, 2151, 13, 7, 0), (9, .getfield 295, 2130, 9, 3, 0), (12, .if_icmp .lt 14, 0, 26, 0, 0), (15, .new 176, 180, 3, 398, 1), (18, .dup, 0, 0, 0, 0), (26, .return_, 0, 0, 0, 0)]
noncomputable def bk_X11_checkShelf : List (Nat × bO) := [(0, .iload_n 1, 0, 0, 0, 0), (1, .ifCond .lt 9, 0, 10, 0, 0), (4, .iload_n 1, 0, 0, 0, 0), (5, .bipush 10, 0, 0, 0, 0), (7, .if_icmp .lt 14, 0, 21, 0, 0), (10, .new 243, 247, 2, 383, 1), (13, .dup, 0, 0, 0, 0), (21, .return_, 0, 0, 0, 0)]
noncomputable def bk_X11_checkShelves : List (Nat × bO) := [(0, .aload_n 0, 0, 0, 0, 0), (1, .iload_n 1, 0, 0, 0, 0), (2, .invokevirtual 124, 5116, 3344, 1, 13), (5, .aload_n 0, 0, 0, 0, 0), (6, .iload_n 2, 0, 0, 0, 0), (7, .invokevirtual 124, 5116, 3344, 1, 13), (10, .aload_n 0, 0, 0, 0, 0), (11, .iload_n 3, 0, 0, 0, 0), (12, .invokevirtual 124, 5116, 3344, 1, 13), (15, .return_, 0, 0, 0, 0)]
noncomputable def bk_X11_checkStatus : List (Nat × bO) := [(0, .iload_n 1, 0, 0, 0, 0), (1, .iconst 1, 0, 0, 0, 0), (2, .if_icmp .ne 14, 0, 16, 0, 0), (5, .new 400, 404, 4, 402, 1), (8, .dup, 0, 0, 0, 0), (16, .iload_n 1, 0, 0, 0, 0), (17, .ifCond .eq 14, 0, 31, 0, 0), (20, .new 106, 110, 1, 405, 1), (23, .dup, 0, 0, 0, 0), (31, .return_, 0, 0, 0, 0)]
noncomputable def bk_X11_checksum : List (Nat × bO) := [(0, .ldc2_w 364, 2224, 0, 0, 217), (3, .aload_n 0, 0, 0, 0, 0), (4, .getfield 9, 2144, 13, 0, 0), (7, .i2l, 0, 0, 0, 0), (8, .ladd, 0, 0, 0, 0), (9, .lstore_n 1, 0, 0, 0, 0), (10, .iconst 0, 0, 0, 0, 0), (11, .istore_n 3, 0, 0, 0, 0), (12, .iload_n 3, 0, 0, 0, 0), (13, .bipush 10, 0, 0, 0, 0), (15, .if_icmp .ge 89, 0, 104, 0, 0), (18, .aload_n 0, 0, 0, 0, 0), (19, .getfield 26, 2147, 13, 3, 0), (22, .iload_n 3, 0, 0, 0, 0), (23, .invokevirtual 360, 2212, 2819, 1, 11), (26, .ifCond .eq 66, 0, 92, 0, 0), (29, .aload_n 0, 0, 0, 0, 0), (30, .getfield 20, 2146, 13, 2, 0), (33, .aload_n 0, 0, 0, 0, 0), (34, .getfield 26, 2147, 13, 3, 0), (37, .iload_n 3, 0, 0, 0, 0), (38, .invokevirtual 157, 2225, 2817, 1, 11), (41, .getfield 181, 1093, 4, 0, 0), (44, .invokevirtual 184, 2229, 3079, 1, 12), (47, .aload_n 0, 0, 0, 0, 0), (48, .getfield 20, 2146, 13, 2, 0), (51, .lload_n 1, 0, 0, 0, 0), (52, .ldc2_w 366, 3002, 0, 0, 31), (55, .lmul, 0, 0, 0, 0), (56, .lconst 1, 0, 0, 0, 0), (57, .ladd, 0, 0, 0, 0), (58, .invokevirtual 368, 3003, 3073, 1, 12), (61, .lstore_n 1, 0, 0, 0, 0), (62, .aload_n 0, 0, 0, 0, 0), (63, .getfield 20, 2146, 13, 2, 0), (66, .aload_n 0, 0, 0, 0, 0), (67, .getfield 26, 2147, 13, 3, 0), (70, .iload_n 3, 0, 0, 0, 0), (71, .invokevirtual 157, 2225, 2817, 1, 11), (74, .getfield 188, 1097, 4, 1, 0), (77, .invokevirtual 184, 2229, 3079, 1, 12), (80, .aload_n 0, 0, 0, 0, 0), (81, .getfield 20, 2146, 13, 2, 0), (84, .lload_n 1, 0, 0, 0, 0), (85, .invokevirtual 368, 3003, 3073, 1, 12), (88, .lstore_n 1, 0, 0, 0, 0), (89, .goto 9, 0, 98, 0, 0), (92, .lload_n 1, 0, 0, 0, 0), (93, .ldc2_w 366, 3002, 0, 0, 31), (96, .lmul, 0, 0, 0, 0), (97, .lstore_n 1, 0, 0, 0, 0), (98, .iinc 3 1, 0, 0, 0, 0), (101, .goto (-89), 0, 12, 0, 0), (104, .aload_n 0, 0, 0, 0, 0), (105, .getfield 16, 2145, 13, 1, 0), (108, .lload_n 1, 0, 0, 0, 0), (109, .invokevirtual 368, 3003, 3073, 1, 12), (112, .lreturn, 0, 0, 0, 0)]
noncomputable def bk_X11_combine : List (Nat × bO) := [(0, .aload_n 0, 0, 0, 0, 0), (1, .iload_n 1, 0, 0, 0, 0), (2, .iload_n 2, 0, 0, 0, 0), (3, .iload_n 3, 0, 0, 0, 0), (4, .invokevirtual 150, 5221, 3345, 3, 13), (7, .aload_n 0, 0, 0, 0, 0), (8, .iload_n 2, 0, 0, 0, 0), (9, .invokevirtual 154, 5225, 3340, 1, 13), (12, .aload_n 0, 0, 0, 0, 0), (13, .iload_n 3, 0, 0, 0, 0), (14, .invokevirtual 154, 5225, 3340, 1, 13), (17, .aload_n 0, 0, 0, 0, 0), (18, .getfield 33, 2148, 13, 4, 0), (21, .invokevirtual 129, 3016, 2053, 0, 8), (24, .aload_n 0, 0, 0, 0, 0), (25, .getfield 33, 2148, 13, 4, 0), (28, .aload_n 0, 0, 0, 0, 0), (29, .getfield 26, 2147, 13, 3, 0), (32, .iload_n 2, 0, 0, 0, 0), (33, .invokevirtual 157, 2225, 2817, 1, 11), (36, .invokevirtual 410, 6096, 2061, 1, 8), (39, .aload_n 0, 0, 0, 0, 0), (40, .getfield 33, 2148, 13, 4, 0), (43, .aload_n 0, 0, 0, 0, 0), (44, .getfield 26, 2147, 13, 3, 0), (47, .iload_n 3, 0, 0, 0, 0), (48, .invokevirtual 157, 2225, 2817, 1, 11), (51, .invokevirtual 410, 6096, 2061, 1, 8), (54, .aload_n 0, 0, 0, 0, 0), (55, .iload_n 1, 0, 0, 0, 0), (56, .aload_n 0, 0, 0, 0, 0), (57, .getfield 33, 2148, 13, 4, 0), (60, .iload 4, 0, 0, 0, 0), (62, .lconst 0, 0, 0, 0, 0), (63, .iconst 0, 0, 0, 0, 0), (64, .invokevirtual 130, 3020, 2055, 3, 8), (67, .invokevirtual 134, 5134, 3332, 2, 13), (70, .ireturn, 0, 0, 0, 0)]
noncomputable def bk_X11_compare : List (Nat × bO) := [(0, .aload_n 0, 0, 0, 0, 0), (1, .iload_n 1, 0, 0, 0, 0), (2, .iload_n 2, 0, 0, 0, 0), (3, .invokevirtual 195, 6050, 3342, 2, 13), (6, .aload_n 0, 0, 0, 0, 0), (7, .getfield 26, 2147, 13, 3, 0), (10, .iload_n 1, 0, 0, 0, 0), (11, .invokevirtual 157, 2225, 2817, 1, 11), (14, .astore_n 3, 0, 0, 0, 0), (15, .aload_n 0, 0, 0, 0, 0), (16, .getfield 26, 2147, 13, 3, 0), (19, .iload_n 2, 0, 0, 0, 0), (20, .invokevirtual 157, 2225, 2817, 1, 11), (23, .astore 4, 0, 0, 0, 0), (25, .aload_n 3, 0, 0, 0, 0), (26, .getfield 188, 1097, 4, 1, 0), (29, .aload 4, 0, 0, 0, 0), (31, .getfield 181, 1093, 4, 0, 0), (34, .invokevirtual 202, 6061, 773, 1, 3), (37, .ifCond .eq 5, 0, 42, 0, 0), (40, .iconst (-1), 0, 0, 0, 0), (41, .ireturn, 0, 0, 0, 0), (42, .aload 4, 0, 0, 0, 0), (44, .getfield 188, 1097, 4, 1, 0), (47, .aload_n 3, 0, 0, 0, 0), (48, .getfield 181, 1093, 4, 0, 0), (51, .invokevirtual 202, 6061, 773, 1, 3), (54, .ifCond .eq 5, 0, 59, 0, 0), (57, .iconst 1, 0, 0, 0, 0), (58, .ireturn, 0, 0, 0, 0), (59, .aload_n 3, 0, 0, 0, 0), (60, .invokevirtual 206, 5168, 1031, 0, 4), (63, .ifCond .eq 15, 0, 78, 0, 0), (66, .aload 4, 0, 0, 0, 0), (68, .invokevirtual 206, 5168, 1031, 0, 4), (71, .ifCond .eq 7, 0, 78, 0, 0), (74, .iconst 1, 0, 0, 0, 0), (75, .goto 4, 0, 79, 0, 0), (78, .iconst 0, 0, 0, 0, 0), (79, .istore 5, 0, 0, 0, 0), (81, .iload 5, 0, 0, 0, 0), (83, .ifCond .eq 7, 0, 90, 0, 0), (86, .iconst 0, 0, 0, 0, 0), (87, .goto 4, 0, 91, 0, 0), (90, .iconst 2, 0, 0, 0, 0), (91, .ireturn, 0, 0, 0, 0)]
noncomputable def bk_X11_constant : List (Nat × bO) := [(0, .aload_n 0, 0, 0, 0, 0), (1, .iload_n 1, 0, 0, 0, 0), (2, .invokevirtual 124, 5116, 3344, 1, 13), (5, .iload_n 2, 0, 0, 0, 0), (6, .bipush 112, 0, 0, 0, 0), (8, .if_icmp .eq 19, 0, 27, 0, 0), (11, .iload_n 2, 0, 0, 0, 0), (12, .bipush 101, 0, 0, 0, 0), (14, .if_icmp .eq 13, 0, 27, 0, 0), (17, .new 94, 98, 0, 148, 1), (20, .dup, 0, 0, 0, 0), (27, .aload_n 0, 0, 0, 0, 0), (28, .getfield 33, 2148, 13, 4, 0), (31, .invokevirtual 129, 3016, 2053, 0, 8), (34, .aload_n 0, 0, 0, 0, 0), (35, .iload_n 1, 0, 0, 0, 0), (36, .aload_n 0, 0, 0, 0, 0), (37, .getfield 33, 2148, 13, 4, 0), (40, .iload_n 2, 0, 0, 0, 0), (41, .bipush 112, 0, 0, 0, 0), (43, .if_icmp .ne 8, 0, 51, 0, 0), (46, .bipush 112, 0, 0, 0, 0), (48, .goto 5, 0, 53, 0, 0), (51, .bipush 69, 0, 0, 0, 0), (53, .lconst 0, 0, 0, 0, 0), (54, .iconst 0, 0, 0, 0, 0), (55, .invokevirtual 130, 3020, 2055, 3, 8), (58, .invokevirtual 134, 5134, 3332, 2, 13), (61, .ireturn, 0, 0, 0, 0)]
noncomputable def bk_X11_crossed : List (Nat × bO) := []
noncomputable def bk_X11_decide : List (Nat × bO) := [(0, .aload_n 0, 0, 0, 0, 0), (1, .iload_n 1, 0, 0, 0, 0), (2, .invokevirtual 252, 6169, 3338, 1, 13), (5, .aload_n 0, 0, 0, 0, 0), (6, .iload_n 2, 0, 0, 0, 0), (7, .invokevirtual 252, 6169, 3338, 1, 13), (10, .aload_n 0, 0, 0, 0, 0), (11, .iload_n 3, 0, 0, 0, 0), (12, .invokevirtual 124, 5116, 3344, 1, 13), (15, .aload_n 0, 0, 0, 0, 0), (16, .iload_n 1, 0, 0, 0, 0), (17, .invokevirtual 259, 7008, 3337, 1, 13), (20, .aload_n 0, 0, 0, 0, 0), (21, .iload_n 2, 0, 0, 0, 0), (22, .invokevirtual 259, 7008, 3337, 1, 13), (25, .aload_n 0, 0, 0, 0, 0), (26, .iload_n 3, 0, 0, 0, 0), (27, .invokevirtual 154, 5225, 3340, 1, 13), (30, .iconst (-1), 0, 0, 0, 0), (31, .istore 4, 0, 0, 0, 0), (33, .iconst 0, 0, 0, 0, 0), (34, .istore 5, 0, 0, 0, 0), (36, .iload 5, 0, 0, 0, 0), (38, .bipush 10, 0, 0, 0, 0), (40, .if_icmp .gt 71, 0, 111, 0, 0), (43, .iload 4, 0, 0, 0, 0), (45, .ifCond .ge 66, 0, 111, 0, 0), (48, .aload_n 0, 0, 0, 0, 0), (49, .getfield 33, 2148, 13, 4, 0), (52, .iload 5, 0, 0, 0, 0), (54, .invokevirtual 37, 2057, 2065, 1, 8), (57, .aload_n 0, 0, 0, 0, 0), (58, .aload_n 0, 0, 0, 0, 0), (59, .getfield 43, 2149, 13, 5, 0), (62, .iload_n 1, 0, 0, 0, 0), (63, .aaload, 0, 0, 0, 0), (64, .aload_n 0, 0, 0, 0, 0), (65, .getfield 43, 2149, 13, 5, 0), (68, .iload_n 2, 0, 0, 0, 0), (69, .aaload, 0, 0, 0, 0), (70, .aload_n 0, 0, 0, 0, 0), (71, .getfield 26, 2147, 13, 3, 0), (74, .iload_n 3, 0, 0, 0, 0), (75, .invokevirtual 157, 2225, 2817, 1, 11), (78, .invokevirtual 281, 7129, 3387, 3, 13), (81, .istore 6, 0, 0, 0, 0), (83, .iload 6, 0, 0, 0, 0), (85, .ifCond .eq 20, 0, 105, 0, 0), (88, .iload 6, 0, 0, 0, 0), (90, .ifCond .ge 8, 0, 98, 0, 0), (93, .iload 5, 0, 0, 0, 0), (95, .goto 8, 0, 103, 0, 0), (98, .bipush 20, 0, 0, 0, 0), (100, .iload 5, 0, 0, 0, 0), (102, .iadd, 0, 0, 0, 0), (103, .istore 4, 0, 0, 0, 0), (105, .iinc 5 1, 0, 0, 0, 0), (108, .goto (-72), 0, 36, 0, 0), (111, .aload_n 0, 0, 0, 0, 0), (112, .getfield 33, 2148, 13, 4, 0), (115, .aload_n 0, 0, 0, 0, 0), (116, .getfield 9, 2144, 13, 0, 0), (119, .invokevirtual 37, 2057, 2065, 1, 8), (122, .iload 4, 0, 0, 0, 0), (124, .ireturn, 0, 0, 0, 0)]
noncomputable def bk_X11_define : List (Nat × bO) := [(0, .aload_n 0, 0, 0, 0, 0), (1, .iload_n 1, 0, 0, 0, 0), (2, .invokevirtual 252, 6169, 3338, 1, 13), (5, .aload_n 0, 0, 0, 0, 0), (6, .getfield 48, 2150, 13, 6, 0), (9, .aload_n 0, 0, 0, 0, 0), (10, .getfield 16, 2145, 13, 1, 0), (13, .invokevirtual 255, 6174, 1803, 1, 7), (16, .istore_n 2, 0, 0, 0, 0), (17, .aload_n 0, 0, 0, 0, 0), (18, .getfield 16, 2145, 13, 1, 0), (21, .invokevirtual 115, 2204, 3076, 0, 12), (24, .iload_n 2, 0, 0, 0, 0), (25, .ifCond .lt 7, 0, 32, 0, 0), (28, .iconst (-1), 0, 0, 0, 0), (29, .iload_n 2, 0, 0, 0, 0), (30, .isub, 0, 0, 0, 0), (31, .ireturn, 0, 0, 0, 0), (32, .aload_n 0, 0, 0, 0, 0), (33, .getfield 43, 2149, 13, 5, 0), (36, .iload_n 1, 0, 0, 0, 0), (37, .aaload, 0, 0, 0, 0), (38, .astore_n 3, 0, 0, 0, 0), (39, .aload_n 0, 0, 0, 0, 0), (40, .getfield 43, 2149, 13, 5, 0), (43, .iload_n 1, 0, 0, 0, 0), (44, .aload_n 0, 0, 0, 0, 0), (45, .getfield 48, 2150, 13, 6, 0), (48, .aastore, 0, 0, 0, 0), (49, .aload_n 0, 0, 0, 0, 0), (50, .aload_n 3, 0, 0, 0, 0), (51, .putfield 48, 2150, 13, 6, 0), (54, .aload_n 0, 0, 0, 0, 0), (55, .getfield 43, 2149, 13, 5, 0), (58, .iload_n 1, 0, 0, 0, 0), (59, .aaload, 0, 0, 0, 0), (60, .getfield 258, 2083, 7, 4, 0), (63, .ireturn, 0, 0, 0, 0)]
noncomputable def bk_X11_digits : List (Nat × bO) := [(0, .aload_n 0, 0, 0, 0, 0), (1, .getfield 9, 2144, 13, 0, 0), (4, .ireturn, 0, 0, 0, 0)]
noncomputable def bk_X11_divide : List (Nat × bO) := [(0, .aload_n 0, 0, 0, 0, 0), (1, .iload_n 1, 0, 0, 0, 0), (2, .iload_n 2, 0, 0, 0, 0), (3, .iload_n 3, 0, 0, 0, 0), (4, .bipush 47, 0, 0, 0, 0), (6, .invokevirtual 229, 6092, 3348, 4, 13), (9, .ireturn, 0, 0, 0, 0)]
noncomputable def bk_X11_erase : List (Nat × bO) := [(0, .aload_n 0, 0, 0, 0, 0), (1, .getfield 16, 2145, 13, 1, 0), (4, .getfield 103, 1046, 12, 1, 0), (7, .istore_n 1, 0, 0, 0, 0), (8, .aload_n 0, 0, 0, 0, 0), (9, .getfield 16, 2145, 13, 1, 0), (12, .invokevirtual 115, 2204, 3076, 0, 12), (15, .iload_n 1, 0, 0, 0, 0), (16, .ireturn, 0, 0, 0, 0)]
noncomputable def bk_X11_fill : List (Nat × bO) := [(0, .aload_n 0, 0, 0, 0, 0), (1, .getfield 26, 2147, 13, 3, 0), (4, .iload_n 1, 0, 0, 0, 0), (5, .aload_n 2, 0, 0, 0, 0), (6, .invokevirtual 407, 5163, 2818, 2, 11), (9, .aload_n 2, 0, 0, 0, 0), (10, .invokevirtual 206, 5168, 1031, 0, 4), (13, .ireturn, 0, 0, 0, 0)]
noncomputable def bk_X11_greatest : List (Nat × bO) := [(0, .aload_n 0, 0, 0, 0, 0), (1, .iload_n 1, 0, 0, 0, 0), (2, .iload_n 2, 0, 0, 0, 0), (3, .iload_n 3, 0, 0, 0, 0), (4, .iload 4, 0, 0, 0, 0), (6, .invokevirtual 344, 8023, 3335, 4, 13), (9, .aload_n 0, 0, 0, 0, 0), (10, .aload_n 0, 0, 0, 0, 0), (11, .aload_n 0, 0, 0, 0, 0), (12, .getfield 43, 2149, 13, 5, 0), (15, .iload_n 2, 0, 0, 0, 0), (16, .aaload, 0, 0, 0, 0), (17, .aload_n 0, 0, 0, 0, 0), (18, .getfield 26, 2147, 13, 3, 0), (21, .iload_n 3, 0, 0, 0, 0), (22, .invokevirtual 157, 2225, 2817, 1, 11), (25, .iload 4, 0, 0, 0, 0), (27, .iconst 1, 0, 0, 0, 0), (28, .invokevirtual 347, 8027, 3385, 4, 13), (31, .invokevirtual 327, 5138, 3346, 1, 13), (34, .aload_n 0, 0, 0, 0, 0), (35, .iload_n 1, 0, 0, 0, 0), (36, .aload_n 0, 0, 0, 0, 0), (37, .getfield 71, 2155, 13, 11, 0), (40, .invokevirtual 168, 5159, 3357, 2, 13), (43, .ireturn, 0, 0, 0, 0)]
noncomputable def bk_X11_hasY : List (Nat × bO) := [(0, .aload_n 0, 0, 0, 0, 0), (1, .iload_n 1, 0, 0, 0, 0), (2, .invokevirtual 252, 6169, 3338, 1, 13), (5, .aload_n 0, 0, 0, 0, 0), (6, .iload_n 1, 0, 0, 0, 0), (7, .invokevirtual 259, 7008, 3337, 1, 13), (10, .aload_n 0, 0, 0, 0, 0), (11, .getfield 43, 2149, 13, 5, 0), (14, .iload_n 1, 0, 0, 0, 0), (15, .aaload, 0, 0, 0, 0), (16, .getfield 262, 2085, 7, 5, 0), (19, .ireturn, 0, 0, 0, 0)]
noncomputable def bk_X11_held : List (Nat × bO) := [(0, .iconst 0, 0, 0, 0, 0), (1, .istore_n 1, 0, 0, 0, 0), (2, .iconst 0, 0, 0, 0, 0), (3, .istore_n 2, 0, 0, 0, 0), (4, .iload_n 2, 0, 0, 0, 0), (5, .bipush 10, 0, 0, 0, 0), (7, .if_icmp .ge 23, 0, 30, 0, 0), (10, .aload_n 0, 0, 0, 0, 0), (11, .getfield 26, 2147, 13, 3, 0), (14, .iload_n 2, 0, 0, 0, 0), (15, .invokevirtual 360, 2212, 2819, 1, 11), (18, .ifCond .eq 6, 0, 24, 0, 0), (21, .iinc 1 1, 0, 0, 0, 0), (24, .iinc 2 1, 0, 0, 0, 0), (27, .goto (-23), 0, 4, 0, 0), (30, .iload_n 1, 0, 0, 0, 0), (31, .ireturn, 0, 0, 0, 0)]
noncomputable def bk_X11_high : List (Nat × bO) := [(0, .aload_n 0, 0, 0, 0, 0), (1, .iload_n 1, 0, 0, 0, 0), (2, .invokevirtual 124, 5116, 3344, 1, 13), (5, .aload_n 0, 0, 0, 0, 0), (6, .iload_n 1, 0, 0, 0, 0), (7, .invokevirtual 154, 5225, 3340, 1, 13), (10, .aload_n 0, 0, 0, 0, 0), (11, .getfield 16, 2145, 13, 1, 0), (14, .aload_n 0, 0, 0, 0, 0), (15, .getfield 26, 2147, 13, 3, 0), (18, .iload_n 1, 0, 0, 0, 0), (19, .invokevirtual 157, 2225, 2817, 1, 11), (22, .getfield 188, 1097, 4, 1, 0), (25, .invokevirtual 184, 2229, 3079, 1, 12), (28, .aload_n 0, 0, 0, 0, 0), (29, .getfield 16, 2145, 13, 1, 0), (32, .getfield 103, 1046, 12, 1, 0), (35, .ireturn, 0, 0, 0, 0)]
noncomputable def bk_X11_isConstantSound : List (Nat × bO) := [(0, .aload_n 0, 0, 0, 0, 0), (1, .getfield 9, 2144, 13, 0, 0), (4, .bipush 10, 0, 0, 0, 0), (6, .if_icmp .lt 5, 0, 11, 0, 0), (9, .iconst 1, 0, 0, 0, 0), (10, .ireturn, 0, 0, 0, 0), (11, .aload_n 0, 0, 0, 0, 0), (12, .getfield 33, 2148, 13, 4, 0), (15, .invokevirtual 129, 3016, 2053, 0, 8), (18, .aload_n 0, 0, 0, 0, 0), (19, .getfield 33, 2148, 13, 4, 0), (22, .iload_n 1, 0, 0, 0, 0), (23, .lconst 0, 0, 0, 0, 0), (24, .iconst 0, 0, 0, 0, 0), (25, .invokevirtual 130, 3020, 2055, 3, 8), (28, .istore_n 2, 0, 0, 0, 0), (29, .aload_n 0, 0, 0, 0, 0), (30, .getfield 71, 2155, 13, 11, 0), (33, .aload_n 0, 0, 0, 0, 0), (34, .getfield 33, 2148, 13, 4, 0), (37, .invokevirtual 330, 4153, 2063, 0, 8), (40, .invokevirtual 161, 4157, 1026, 1, 4), (43, .aload_n 0, 0, 0, 0, 0), (44, .getfield 33, 2148, 13, 4, 0), (47, .aload_n 0, 0, 0, 0, 0), (48, .getfield 9, 2144, 13, 0, 0), (51, .iconst 1, 0, 0, 0, 0), (52, .iadd, 0, 0, 0, 0), (53, .invokevirtual 37, 2057, 2065, 1, 8), (56, .iload_n 2, 0, 0, 0, 0), (57, .ifCond .ne 14, 0, 71, 0, 0), (60, .aload_n 0, 0, 0, 0, 0), (61, .getfield 33, 2148, 13, 4, 0), (64, .iload_n 1, 0, 0, 0, 0), (65, .lconst 0, 0, 0, 0, 0), (66, .iconst 0, 0, 0, 0, 0), (67, .invokevirtual 130, 3020, 2055, 3, 8), (70, .istore_n 2, 0, 0, 0, 0), (71, .aload_n 0, 0, 0, 0, 0), (72, .getfield 33, 2148, 13, 4, 0), (75, .aload_n 0, 0, 0, 0, 0), (76, .getfield 9, 2144, 13, 0, 0), (79, .invokevirtual 37, 2057, 2065, 1, 8), (82, .iload_n 2, 0, 0, 0, 0), (83, .ifCond .ne 20, 0, 103, 0, 0), (86, .aload_n 0, 0, 0, 0, 0), (87, .getfield 33, 2148, 13, 4, 0), (90, .invokevirtual 330, 4153, 2063, 0, 8), (93, .aload_n 0, 0, 0, 0, 0), (94, .getfield 71, 2155, 13, 11, 0), (97, .invokevirtual 199, 4158, 1033, 1, 4), (100, .ifCond .eq 7, 0, 107, 0, 0), (103, .iconst 1, 0, 0, 0, 0), (104, .goto 4, 0, 108, 0, 0), (107, .iconst 0, 0, 0, 0, 0), (108, .ireturn, 0, 0, 0, 0)]
noncomputable def bk_X11_isSound : List (Nat × bO) := [(0, .aload_n 0, 0, 0, 0, 0), (1, .bipush 112, 0, 0, 0, 0), (3, .invokevirtual 372, 3012, 3362, 1, 13), (6, .ifCond .eq 16, 0, 22, 0, 0), (9, .aload_n 0, 0, 0, 0, 0), (10, .bipush 69, 0, 0, 0, 0), (12, .invokevirtual 372, 3012, 3362, 1, 13), (15, .ifCond .eq 7, 0, 22, 0, 0), (18, .iconst 1, 0, 0, 0, 0), (19, .goto 4, 0, 23, 0, 0), (22, .iconst 0, 0, 0, 0, 0), (23, .istore_n 1, 0, 0, 0, 0), (24, .iconst 0, 0, 0, 0, 0), (25, .istore_n 2, 0, 0, 0, 0), (26, .iload_n 2, 0, 0, 0, 0), (27, .iconst 4, 0, 0, 0, 0), (28, .if_icmp .ge 73, 0, 101, 0, 0), (31, .iload_n 1, 0, 0, 0, 0), (32, .ifCond .eq 69, 0, 101, 0, 0), (35, .iconst 0, 0, 0, 0, 0), (36, .istore_n 3, 0, 0, 0, 0), (37, .iload_n 3, 0, 0, 0, 0), (38, .bipush 10, 0, 0, 0, 0), (40, .if_icmp .ge 55, 0, 95, 0, 0), (43, .iload_n 1, 0, 0, 0, 0), (44, .ifCond .eq 51, 0, 95, 0, 0), (47, .aload_n 0, 0, 0, 0, 0), (48, .getfield 43, 2149, 13, 5, 0), (51, .iload_n 2, 0, 0, 0, 0), (52, .aaload, 0, 0, 0, 0), (53, .getfield 376, 2087, 7, 6, 0), (56, .ifCond .eq 33, 0, 89, 0, 0), (59, .aload_n 0, 0, 0, 0, 0), (60, .getfield 26, 2147, 13, 3, 0), (63, .iload_n 3, 0, 0, 0, 0), (64, .invokevirtual 360, 2212, 2819, 1, 11), (67, .ifCond .eq 22, 0, 89, 0, 0), (70, .aload_n 0, 0, 0, 0, 0), (71, .aload_n 0, 0, 0, 0, 0), (72, .getfield 43, 2149, 13, 5, 0), (75, .iload_n 2, 0, 0, 0, 0), (76, .aaload, 0, 0, 0, 0), (77, .aload_n 0, 0, 0, 0, 0), (78, .getfield 26, 2147, 13, 3, 0), (81, .iload_n 3, 0, 0, 0, 0), (82, .invokevirtual 157, 2225, 2817, 1, 11), (85, .invokevirtual 379, 4162, 3364, 2, 13), (88, .istore_n 1, 0, 0, 0, 0), (89, .iinc 3 1, 0, 0, 0, 0), (92, .goto (-55), 0, 37, 0, 0), (95, .iinc 2 1, 0, 0, 0, 0), (98, .goto (-72), 0, 26, 0, 0), (101, .iload_n 1, 0, 0, 0, 0), (102, .ireturn, 0, 0, 0, 0)]
noncomputable def bk_X11_isValueSound : List (Nat × bO) := []
noncomputable def bk_X11_isWithin : List (Nat × bO) := [(0, .aload_n 0, 0, 0, 0, 0), (1, .iload_n 1, 0, 0, 0, 0), (2, .iload_n 2, 0, 0, 0, 0), (3, .invokevirtual 195, 6050, 3342, 2, 13), (6, .aload_n 0, 0, 0, 0, 0), (7, .getfield 26, 2147, 13, 3, 0), (10, .iload_n 1, 0, 0, 0, 0), (11, .invokevirtual 157, 2225, 2817, 1, 11), (14, .aload_n 0, 0, 0, 0, 0), (15, .getfield 26, 2147, 13, 3, 0), (18, .iload_n 2, 0, 0, 0, 0), (19, .invokevirtual 157, 2225, 2817, 1, 11), (22, .invokevirtual 199, 4158, 1033, 1, 4), (25, .ireturn, 0, 0, 0, 0)]
noncomputable def bk_X11_join : List (Nat × bO) := [(0, .aload_n 0, 0, 0, 0, 0), (1, .iload_n 1, 0, 0, 0, 0), (2, .iload_n 2, 0, 0, 0, 0), (3, .iload_n 3, 0, 0, 0, 0), (4, .invokevirtual 150, 5221, 3345, 3, 13), (7, .aload_n 0, 0, 0, 0, 0), (8, .iload_n 2, 0, 0, 0, 0), (9, .invokevirtual 154, 5225, 3340, 1, 13), (12, .aload_n 0, 0, 0, 0, 0), (13, .iload_n 3, 0, 0, 0, 0), (14, .invokevirtual 154, 5225, 3340, 1, 13), (17, .aload_n 0, 0, 0, 0, 0), (18, .getfield 71, 2155, 13, 11, 0), (21, .aload_n 0, 0, 0, 0, 0), (22, .getfield 26, 2147, 13, 3, 0), (25, .iload_n 2, 0, 0, 0, 0), (26, .invokevirtual 157, 2225, 2817, 1, 11), (29, .invokevirtual 161, 4157, 1026, 1, 4), (32, .aload_n 0, 0, 0, 0, 0), (33, .getfield 71, 2155, 13, 11, 0), (36, .aload_n 0, 0, 0, 0, 0), (37, .getfield 26, 2147, 13, 3, 0), (40, .iload_n 3, 0, 0, 0, 0), (41, .invokevirtual 157, 2225, 2817, 1, 11), (44, .invokevirtual 165, 6005, 1029, 1, 4), (47, .aload_n 0, 0, 0, 0, 0), (48, .iload_n 1, 0, 0, 0, 0), (49, .aload_n 0, 0, 0, 0, 0), (50, .getfield 71, 2155, 13, 11, 0), (53, .invokevirtual 168, 5159, 3357, 2, 13), (56, .ireturn, 0, 0, 0, 0)]
noncomputable def bk_X11_judge : List (Nat × bO) := []
noncomputable def bk_X11_kindByEnds : List (Nat × bO) := []
noncomputable def bk_X11_least : List (Nat × bO) := [(0, .aload_n 0, 0, 0, 0, 0), (1, .iload_n 1, 0, 0, 0, 0), (2, .iload_n 2, 0, 0, 0, 0), (3, .iload_n 3, 0, 0, 0, 0), (4, .iload 4, 0, 0, 0, 0), (6, .invokevirtual 344, 8023, 3335, 4, 13), (9, .aload_n 0, 0, 0, 0, 0), (10, .aload_n 0, 0, 0, 0, 0), (11, .aload_n 0, 0, 0, 0, 0), (12, .getfield 43, 2149, 13, 5, 0), (15, .iload_n 2, 0, 0, 0, 0), (16, .aaload, 0, 0, 0, 0), (17, .aload_n 0, 0, 0, 0, 0), (18, .getfield 26, 2147, 13, 3, 0), (21, .iload_n 3, 0, 0, 0, 0), (22, .invokevirtual 157, 2225, 2817, 1, 11), (25, .iload 4, 0, 0, 0, 0), (27, .iconst 0, 0, 0, 0, 0), (28, .invokevirtual 347, 8027, 3385, 4, 13), (31, .invokevirtual 327, 5138, 3346, 1, 13), (34, .aload_n 0, 0, 0, 0, 0), (35, .iload_n 1, 0, 0, 0, 0), (36, .aload_n 0, 0, 0, 0, 0), (37, .getfield 71, 2155, 13, 11, 0), (40, .invokevirtual 168, 5159, 3357, 2, 13), (43, .ireturn, 0, 0, 0, 0)]
noncomputable def bk_X11_low : List (Nat × bO) := [(0, .aload_n 0, 0, 0, 0, 0), (1, .iload_n 1, 0, 0, 0, 0), (2, .invokevirtual 124, 5116, 3344, 1, 13), (5, .aload_n 0, 0, 0, 0, 0), (6, .iload_n 1, 0, 0, 0, 0), (7, .invokevirtual 154, 5225, 3340, 1, 13), (10, .aload_n 0, 0, 0, 0, 0), (11, .getfield 16, 2145, 13, 1, 0), (14, .aload_n 0, 0, 0, 0, 0), (15, .getfield 26, 2147, 13, 3, 0), (18, .iload_n 1, 0, 0, 0, 0), (19, .invokevirtual 157, 2225, 2817, 1, 11), (22, .getfield 181, 1093, 4, 0, 0), (25, .invokevirtual 184, 2229, 3079, 1, 12), (28, .aload_n 0, 0, 0, 0, 0), (29, .getfield 16, 2145, 13, 1, 0), (32, .getfield 103, 1046, 12, 1, 0), (35, .ireturn, 0, 0, 0, 0)]
noncomputable def bk_X11_makeAlong : List (Nat × bO) := []
noncomputable def bk_X11_makeMoved : List (Nat × bO) := []
noncomputable def bk_X11_makeNarrowed : List (Nat × bO) := []
noncomputable def bk_X11_meet : List (Nat × bO) := [(0, .aload_n 0, 0, 0, 0, 0), (1, .iload_n 1, 0, 0, 0, 0), (2, .iload_n 2, 0, 0, 0, 0), (3, .iload_n 3, 0, 0, 0, 0), (4, .invokevirtual 150, 5221, 3345, 3, 13), (7, .aload_n 0, 0, 0, 0, 0), (8, .iload_n 2, 0, 0, 0, 0), (9, .invokevirtual 154, 5225, 3340, 1, 13), (12, .aload_n 0, 0, 0, 0, 0), (13, .iload_n 3, 0, 0, 0, 0), (14, .invokevirtual 154, 5225, 3340, 1, 13), (17, .aload_n 0, 0, 0, 0, 0), (18, .getfield 71, 2155, 13, 11, 0), (21, .aload_n 0, 0, 0, 0, 0), (22, .getfield 26, 2147, 13, 3, 0), (25, .iload_n 2, 0, 0, 0, 0), (26, .invokevirtual 157, 2225, 2817, 1, 11), (29, .invokevirtual 161, 4157, 1026, 1, 4), (32, .aload_n 0, 0, 0, 0, 0), (33, .getfield 71, 2155, 13, 11, 0), (36, .aload_n 0, 0, 0, 0, 0), (37, .getfield 26, 2147, 13, 3, 0), (40, .iload_n 3, 0, 0, 0, 0), (41, .invokevirtual 157, 2225, 2817, 1, 11), (44, .invokevirtual 172, 6016, 1027, 1, 4), (47, .ifCond .ne 13, 0, 60, 0, 0), (50, .new 176, 180, 3, 178, 1), (53, .dup, 0, 0, 0, 0), (60, .aload_n 0, 0, 0, 0, 0), (61, .iload_n 1, 0, 0, 0, 0), (62, .aload_n 0, 0, 0, 0, 0), (63, .getfield 71, 2155, 13, 11, 0), (66, .invokevirtual 168, 5159, 3357, 2, 13), (69, .ireturn, 0, 0, 0, 0)]
noncomputable def bk_X11_move : List (Nat × bO) := [(0, .aload_n 0, 0, 0, 0, 0), (1, .iload_n 1, 0, 0, 0, 0), (2, .invokevirtual 124, 5116, 3344, 1, 13), (5, .aload_n 0, 0, 0, 0, 0), (6, .iload_n 3, 0, 0, 0, 0), (7, .invokevirtual 124, 5116, 3344, 1, 13), (10, .aload_n 0, 0, 0, 0, 0), (11, .iload_n 2, 0, 0, 0, 0), (12, .invokevirtual 252, 6169, 3338, 1, 13), (15, .iload 4, 0, 0, 0, 0), (17, .iconst 1, 0, 0, 0, 0), (18, .if_icmp .lt 11, 0, 29, 0, 0), (21, .iload 4, 0, 0, 0, 0), (23, .sipush 1000, 0, 0, 0, 0), (26, .if_icmp .le 14, 0, 40, 0, 0), (29, .new 94, 98, 0, 355, 1), (32, .dup, 0, 0, 0, 0), (40, .aload_n 0, 0, 0, 0, 0), (41, .iload_n 2, 0, 0, 0, 0), (42, .invokevirtual 259, 7008, 3337, 1, 13), (45, .aload_n 0, 0, 0, 0, 0), (46, .iload_n 3, 0, 0, 0, 0), (47, .invokevirtual 154, 5225, 3340, 1, 13), (50, .aload_n 0, 0, 0, 0, 0), (51, .iload_n 2, 0, 0, 0, 0), (52, .invokevirtual 288, 7146, 3341, 1, 13), (55, .aload_n 0, 0, 0, 0, 0), (56, .iload_n 1, 0, 0, 0, 0), (57, .aload_n 0, 0, 0, 0, 0), (58, .aload_n 0, 0, 0, 0, 0), (59, .getfield 43, 2149, 13, 5, 0), (62, .iload_n 2, 0, 0, 0, 0), (63, .aaload, 0, 0, 0, 0), (64, .aload_n 0, 0, 0, 0, 0), (65, .getfield 26, 2147, 13, 3, 0), (68, .iload_n 3, 0, 0, 0, 0), (69, .invokevirtual 157, 2225, 2817, 1, 11), (72, .iload 4, 0, 0, 0, 0), (74, .invokevirtual 357, 8061, 3372, 3, 13), (77, .invokevirtual 134, 5134, 3332, 2, 13), (80, .ireturn, 0, 0, 0, 0)]
noncomputable def bk_X11_multiply : List (Nat × bO) := [(0, .aload_n 0, 0, 0, 0, 0), (1, .iload_n 1, 0, 0, 0, 0), (2, .iload_n 2, 0, 0, 0, 0), (3, .iload_n 3, 0, 0, 0, 0), (4, .bipush 42, 0, 0, 0, 0), (6, .invokevirtual 229, 6092, 3348, 4, 13), (9, .ireturn, 0, 0, 0, 0)]
noncomputable def bk_X11_narrow : List (Nat × bO) := [(0, .aload_n 0, 0, 0, 0, 0), (1, .iload_n 1, 0, 0, 0, 0), (2, .invokevirtual 124, 5116, 3344, 1, 13), (5, .aload_n 0, 0, 0, 0, 0), (6, .iload_n 3, 0, 0, 0, 0), (7, .invokevirtual 124, 5116, 3344, 1, 13), (10, .aload_n 0, 0, 0, 0, 0), (11, .iload_n 2, 0, 0, 0, 0), (12, .invokevirtual 252, 6169, 3338, 1, 13), (15, .aload_n 0, 0, 0, 0, 0), (16, .iload_n 2, 0, 0, 0, 0), (17, .invokevirtual 259, 7008, 3337, 1, 13), (20, .aload_n 0, 0, 0, 0, 0), (21, .iload_n 3, 0, 0, 0, 0), (22, .invokevirtual 154, 5225, 3340, 1, 13), (25, .aload_n 0, 0, 0, 0, 0), (26, .iload_n 2, 0, 0, 0, 0), (27, .invokevirtual 288, 7146, 3341, 1, 13), (30, .aload_n 0, 0, 0, 0, 0), (31, .aload_n 0, 0, 0, 0, 0), (32, .getfield 43, 2149, 13, 5, 0), (35, .iload_n 2, 0, 0, 0, 0), (36, .aaload, 0, 0, 0, 0), (37, .aload_n 0, 0, 0, 0, 0), (38, .getfield 26, 2147, 13, 3, 0), (41, .iload_n 3, 0, 0, 0, 0), (42, .invokevirtual 157, 2225, 2817, 1, 11), (45, .invokevirtual 323, 7228, 3373, 2, 13), (48, .istore 4, 0, 0, 0, 0), (50, .aload_n 0, 0, 0, 0, 0), (51, .iload 4, 0, 0, 0, 0), (53, .invokevirtual 327, 5138, 3346, 1, 13), (56, .aload_n 0, 0, 0, 0, 0), (57, .getfield 71, 2155, 13, 11, 0), (60, .aload_n 0, 0, 0, 0, 0), (61, .getfield 26, 2147, 13, 3, 0), (64, .iload_n 3, 0, 0, 0, 0), (65, .invokevirtual 157, 2225, 2817, 1, 11), (68, .invokevirtual 161, 4157, 1026, 1, 4), (71, .aload_n 0, 0, 0, 0, 0), (72, .getfield 71, 2155, 13, 11, 0), (75, .aload_n 0, 0, 0, 0, 0), (76, .getfield 33, 2148, 13, 4, 0), (79, .invokevirtual 330, 4153, 2063, 0, 8), (82, .invokevirtual 172, 6016, 1027, 1, 4), (85, .ifCond .ne 14, 0, 99, 0, 0), (88, .new 106, 110, 1, 334, 1), (91, .dup, 0, 0, 0, 0), (99, .aload_n 0, 0, 0, 0, 0), (100, .iload_n 1, 0, 0, 0, 0), (101, .aload_n 0, 0, 0, 0, 0), (102, .getfield 71, 2155, 13, 11, 0), (105, .invokevirtual 168, 5159, 3357, 2, 13), (108, .ireturn, 0, 0, 0, 0)]
noncomputable def bk_X11_pairs : List (Nat × bO) := [(0, .aload_n 0, 0, 0, 0, 0), (1, .iload_n 3, 0, 0, 0, 0), (2, .invokevirtual 124, 5116, 3344, 1, 13), (5, .aload_n 0, 0, 0, 0, 0), (6, .iload 4, 0, 0, 0, 0), (8, .invokevirtual 124, 5116, 3344, 1, 13), (11, .aload_n 0, 0, 0, 0, 0), (12, .iload_n 1, 0, 0, 0, 0), (13, .invokevirtual 252, 6169, 3338, 1, 13), (16, .aload_n 0, 0, 0, 0, 0), (17, .iload_n 2, 0, 0, 0, 0), (18, .invokevirtual 252, 6169, 3338, 1, 13), (21, .aload_n 0, 0, 0, 0, 0), (22, .iload 5, 0, 0, 0, 0), (24, .iconst 2, 0, 0, 0, 0), (25, .invokevirtual 285, 7141, 3336, 2, 13), (28, .aload_n 0, 0, 0, 0, 0), (29, .iload_n 1, 0, 0, 0, 0), (30, .invokevirtual 259, 7008, 3337, 1, 13), (33, .aload_n 0, 0, 0, 0, 0), (34, .iload_n 2, 0, 0, 0, 0), (35, .invokevirtual 259, 7008, 3337, 1, 13), (38, .aload_n 0, 0, 0, 0, 0), (39, .iload_n 3, 0, 0, 0, 0), (40, .invokevirtual 154, 5225, 3340, 1, 13), (43, .aload_n 0, 0, 0, 0, 0), (44, .iload 4, 0, 0, 0, 0), (46, .invokevirtual 154, 5225, 3340, 1, 13), (49, .aload_n 0, 0, 0, 0, 0), (50, .getfield 62, 2153, 13, 9, 0), (53, .aload_n 0, 0, 0, 0, 0), (54, .getfield 26, 2147, 13, 3, 0), (57, .iload_n 3, 0, 0, 0, 0), (58, .invokevirtual 157, 2225, 2817, 1, 11), (61, .iload 5, 0, 0, 0, 0), (63, .aload_n 0, 0, 0, 0, 0), (64, .getfield 33, 2148, 13, 4, 0), (67, .invokevirtual 304, 4192, 2064, 0, 8), (70, .invokevirtual 336, 8000, 2308, 3, 9), (73, .aload_n 0, 0, 0, 0, 0), (74, .getfield 65, 2154, 13, 10, 0), (77, .aload_n 0, 0, 0, 0, 0), (78, .getfield 26, 2147, 13, 3, 0), (81, .iload 4, 0, 0, 0, 0), (83, .invokevirtual 157, 2225, 2817, 1, 11), (86, .iload 5, 0, 0, 0, 0), (88, .aload_n 0, 0, 0, 0, 0), (89, .getfield 33, 2148, 13, 4, 0), (92, .invokevirtual 304, 4192, 2064, 0, 8), (95, .invokevirtual 336, 8000, 2308, 3, 9), (98, .iconst 0, 0, 0, 0, 0), (99, .istore 6, 0, 0, 0, 0), (101, .iconst 0, 0, 0, 0, 0), (102, .istore 7, 0, 0, 0, 0), (104, .iload 7, 0, 0, 0, 0), (106, .aload_n 0, 0, 0, 0, 0), (107, .getfield 62, 2153, 13, 9, 0), (110, .getfield 295, 2130, 9, 3, 0), (113, .if_icmp .ge 84, 0, 197, 0, 0), (116, .iconst 0, 0, 0, 0, 0), (117, .istore 8, 0, 0, 0, 0), (119, .iload 8, 0, 0, 0, 0), (121, .aload_n 0, 0, 0, 0, 0), (122, .getfield 65, 2154, 13, 10, 0), (125, .getfield 295, 2130, 9, 3, 0), (128, .if_icmp .ge 63, 0, 191, 0, 0), (131, .aload_n 0, 0, 0, 0, 0), (132, .getfield 33, 2148, 13, 4, 0), (135, .aload_n 0, 0, 0, 0, 0), (136, .getfield 62, 2153, 13, 9, 0), (139, .iload 7, 0, 0, 0, 0), (141, .invokevirtual 322, 7217, 2306, 1, 9), (144, .aload_n 0, 0, 0, 0, 0), (145, .getfield 65, 2154, 13, 10, 0), (148, .iload 8, 0, 0, 0, 0), (150, .invokevirtual 322, 7217, 2306, 1, 9), (153, .invokevirtual 270, 4166, 2050, 2, 8), (156, .aload_n 0, 0, 0, 0, 0), (157, .aload_n 0, 0, 0, 0, 0), (158, .getfield 43, 2149, 13, 5, 0), (161, .iload_n 1, 0, 0, 0, 0), (162, .aaload, 0, 0, 0, 0), (163, .invokevirtual 340, 8012, 3333, 1, 13), (166, .ifCond .eq 19, 0, 185, 0, 0), (169, .aload_n 0, 0, 0, 0, 0), (170, .aload_n 0, 0, 0, 0, 0), (171, .getfield 43, 2149, 13, 5, 0), (174, .iload_n 2, 0, 0, 0, 0), (175, .aaload, 0, 0, 0, 0), (176, .invokevirtual 340, 8012, 3333, 1, 13), (179, .ifCond .eq 6, 0, 185, 0, 0), (182, .iinc 6 1, 0, 0, 0, 0), (185, .iinc 8 1, 0, 0, 0, 0), (188, .goto (-69), 0, 119, 0, 0), (191, .iinc 7 1, 0, 0, 0, 0), (194, .goto (-90), 0, 104, 0, 0), (197, .iload 6, 0, 0, 0, 0), (199, .ireturn, 0, 0, 0, 0)]
noncomputable def bk_X11_piece : List (Nat × bO) := [(0, .aload_n 0, 0, 0, 0, 0), (1, .iload_n 1, 0, 0, 0, 0), (2, .invokevirtual 124, 5116, 3344, 1, 13), (5, .aload_n 0, 0, 0, 0, 0), (6, .iload_n 2, 0, 0, 0, 0), (7, .invokevirtual 315, 7197, 3343, 1, 13), (10, .aload_n 0, 0, 0, 0, 0), (11, .iload_n 1, 0, 0, 0, 0), (12, .aload_n 0, 0, 0, 0, 0), (13, .getfield 55, 2151, 13, 7, 0), (16, .iload_n 2, 0, 0, 0, 0), (17, .invokevirtual 322, 7217, 2306, 1, 9), (20, .invokevirtual 168, 5159, 3357, 2, 13), (23, .ireturn, 0, 0, 0, 0)]
noncomputable def bk_X11_pieceKind : List (Nat × bO) := [(0, .aload_n 0, 0, 0, 0, 0), (1, .iload_n 1, 0, 0, 0, 0), (2, .invokevirtual 315, 7197, 3343, 1, 13), (5, .aload_n 0, 0, 0, 0, 0), (6, .getfield 55, 2151, 13, 7, 0), (9, .iload_n 1, 0, 0, 0, 0), (10, .invokevirtual 318, 7202, 2309, 1, 9), (13, .i2c, 0, 0, 0, 0), (14, .ireturn, 0, 0, 0, 0)]
noncomputable def bk_X11_power : List (Nat × bO) := [(0, .aload_n 0, 0, 0, 0, 0), (1, .iload_n 1, 0, 0, 0, 0), (2, .invokevirtual 124, 5116, 3344, 1, 13), (5, .aload_n 0, 0, 0, 0, 0), (6, .iload_n 2, 0, 0, 0, 0), (7, .invokevirtual 124, 5116, 3344, 1, 13), (10, .iload_n 3, 0, 0, 0, 0), (11, .ifCond .lt 9, 0, 20, 0, 0), (14, .iload_n 3, 0, 0, 0, 0), (15, .bipush 9, 0, 0, 0, 0), (17, .if_icmp .le 13, 0, 30, 0, 0), (20, .new 94, 98, 0, 233, 1), (23, .dup, 0, 0, 0, 0), (30, .aload_n 0, 0, 0, 0, 0), (31, .iload_n 1, 0, 0, 0, 0), (32, .iload_n 2, 0, 0, 0, 0), (33, .bipush 94, 0, 0, 0, 0), (35, .iload_n 3, 0, 0, 0, 0), (36, .invokevirtual 235, 6130, 3334, 4, 13), (39, .ireturn, 0, 0, 0, 0)]
noncomputable def bk_X11_put : List (Nat × bO) := [(0, .aload_n 0, 0, 0, 0, 0), (1, .iload_n 1, 0, 0, 0, 0), (2, .invokevirtual 124, 5116, 3344, 1, 13), (5, .iload 4, 0, 0, 0, 0), (7, .ifCond .lt 10, 0, 17, 0, 0), (10, .iload 4, 0, 0, 0, 0), (12, .bipush 18, 0, 0, 0, 0), (14, .if_icmp .le 13, 0, 27, 0, 0), (17, .new 94, 98, 0, 127, 1), (20, .dup, 0, 0, 0, 0), (27, .aload_n 0, 0, 0, 0, 0), (28, .getfield 33, 2148, 13, 4, 0), (31, .invokevirtual 129, 3016, 2053, 0, 8), (34, .aload_n 0, 0, 0, 0, 0), (35, .iload_n 1, 0, 0, 0, 0), (36, .aload_n 0, 0, 0, 0, 0), (37, .getfield 33, 2148, 13, 4, 0), (40, .bipush 35, 0, 0, 0, 0), (42, .lload_n 2, 0, 0, 0, 0), (43, .iload 4, 0, 0, 0, 0), (45, .invokevirtual 130, 3020, 2055, 3, 8), (48, .invokevirtual 134, 5134, 3332, 2, 13), (51, .ireturn, 0, 0, 0, 0)]
noncomputable def bk_X11_read : List (Nat × bO) := [(0, .aload_n 0, 0, 0, 0, 0), (1, .iload_n 1, 0, 0, 0, 0), (2, .invokevirtual 124, 5116, 3344, 1, 13), (5, .aload_n 0, 0, 0, 0, 0), (6, .getfield 16, 2145, 13, 1, 0), (9, .invokevirtual 138, 5176, 3078, 0, 12), (12, .ifCond .ne 13, 0, 25, 0, 0), (15, .new 94, 98, 0, 142, 1), (18, .dup, 0, 0, 0, 0), (25, .aload_n 0, 0, 0, 0, 0), (26, .getfield 33, 2148, 13, 4, 0), (29, .invokevirtual 129, 3016, 2053, 0, 8), (32, .aload_n 0, 0, 0, 0, 0), (33, .iload_n 1, 0, 0, 0, 0), (34, .aload_n 0, 0, 0, 0, 0), (35, .getfield 33, 2148, 13, 4, 0), (38, .aload_n 0, 0, 0, 0, 0), (39, .getfield 16, 2145, 13, 1, 0), (42, .invokevirtual 144, 5186, 2056, 1, 8), (45, .invokevirtual 134, 5134, 3332, 2, 13), (48, .istore_n 2, 0, 0, 0, 0), (49, .aload_n 0, 0, 0, 0, 0), (50, .getfield 16, 2145, 13, 1, 0), (53, .invokevirtual 115, 2204, 3076, 0, 12), (56, .iload_n 2, 0, 0, 0, 0), (57, .ireturn, 0, 0, 0, 0)]
noncomputable def bk_X11_root : List (Nat × bO) := [(0, .aload_n 0, 0, 0, 0, 0), (1, .iload_n 1, 0, 0, 0, 0), (2, .invokevirtual 124, 5116, 3344, 1, 13), (5, .aload_n 0, 0, 0, 0, 0), (6, .iload_n 2, 0, 0, 0, 0), (7, .invokevirtual 124, 5116, 3344, 1, 13), (10, .iload_n 3, 0, 0, 0, 0), (11, .iconst 2, 0, 0, 0, 0), (12, .if_icmp .lt 8, 0, 20, 0, 0), (15, .iload_n 3, 0, 0, 0, 0), (16, .iconst 4, 0, 0, 0, 0), (17, .if_icmp .le 13, 0, 30, 0, 0), (20, .new 94, 98, 0, 239, 1), (23, .dup, 0, 0, 0, 0), (30, .aload_n 0, 0, 0, 0, 0), (31, .iload_n 1, 0, 0, 0, 0), (32, .iload_n 2, 0, 0, 0, 0), (33, .bipush 114, 0, 0, 0, 0), (35, .iload_n 3, 0, 0, 0, 0), (36, .invokevirtual 235, 6130, 3334, 4, 13), (39, .ireturn, 0, 0, 0, 0)]
noncomputable def bk_X11_seekExtreme : List (Nat × bO) := []
noncomputable def bk_X11_setDigits : List (Nat × bO) := [(0, .iload_n 1, 0, 0, 0, 0), (1, .ifCond .lt 9, 0, 10, 0, 0), (4, .iload_n 1, 0, 0, 0, 0), (5, .bipush 10, 0, 0, 0, 0), (7, .if_icmp .le 13, 0, 20, 0, 0), (10, .new 94, 98, 0, 96, 1), (13, .dup, 0, 0, 0, 0), (20, .aload_n 0, 0, 0, 0, 0), (21, .getfield 9, 2144, 13, 0, 0), (24, .istore_n 2, 0, 0, 0, 0), (25, .aload_n 0, 0, 0, 0, 0), (26, .iload_n 1, 0, 0, 0, 0), (27, .putfield 9, 2144, 13, 0, 0), (30, .aload_n 0, 0, 0, 0, 0), (31, .getfield 33, 2148, 13, 4, 0), (34, .iload_n 1, 0, 0, 0, 0), (35, .invokevirtual 37, 2057, 2065, 1, 8), (38, .iload_n 2, 0, 0, 0, 0), (39, .ireturn, 0, 0, 0, 0)]
noncomputable def bk_X11_sideOf : List (Nat × bO) := []
noncomputable def bk_X11_signAt : List (Nat × bO) := [(0, .iload_n 1, 0, 0, 0, 0), (1, .ifCond .lt 14, 0, 15, 0, 0), (4, .iload_n 1, 0, 0, 0, 0), (5, .aload_n 0, 0, 0, 0, 0), (6, .getfield 16, 2145, 13, 1, 0), (9, .getfield 103, 1046, 12, 1, 0), (12, .if_icmp .lt 13, 0, 25, 0, 0), (15, .new 94, 98, 0, 118, 1), (18, .dup, 0, 0, 0, 0), (25, .aload_n 0, 0, 0, 0, 0), (26, .getfield 16, 2145, 13, 1, 0), (29, .iload_n 1, 0, 0, 0, 0), (30, .invokevirtual 120, 5081, 3075, 1, 12), (33, .ireturn, 0, 0, 0, 0)]
noncomputable def bk_X11_slope : List (Nat × bO) := [(0, .aload_n 0, 0, 0, 0, 0), (1, .iload_n 1, 0, 0, 0, 0), (2, .iload_n 2, 0, 0, 0, 0), (3, .iload_n 3, 0, 0, 0, 0), (4, .iload 4, 0, 0, 0, 0), (6, .invokevirtual 266, 7020, 3339, 4, 13), (9, .aload_n 0, 0, 0, 0, 0), (10, .getfield 33, 2148, 13, 4, 0), (13, .aload_n 0, 0, 0, 0, 0), (14, .getfield 26, 2147, 13, 3, 0), (17, .iload_n 3, 0, 0, 0, 0), (18, .invokevirtual 157, 2225, 2817, 1, 11), (21, .aload_n 0, 0, 0, 0, 0), (22, .getfield 26, 2147, 13, 3, 0), (25, .iload 4, 0, 0, 0, 0), (27, .invokevirtual 157, 2225, 2817, 1, 11), (30, .invokevirtual 270, 4166, 2050, 2, 8), (33, .aload_n 0, 0, 0, 0, 0), (34, .iload_n 1, 0, 0, 0, 0), (35, .aload_n 0, 0, 0, 0, 0), (36, .getfield 33, 2148, 13, 4, 0), (39, .aload_n 0, 0, 0, 0, 0), (40, .getfield 43, 2149, 13, 5, 0), (43, .iload_n 2, 0, 0, 0, 0), (44, .aaload, 0, 0, 0, 0), (45, .invokevirtual 278, 7031, 2057, 1, 8), (48, .invokevirtual 134, 5134, 3332, 2, 13), (51, .ireturn, 0, 0, 0, 0)]
noncomputable def bk_X11_solve : List (Nat × bO) := [(0, .aload_n 0, 0, 0, 0, 0), (1, .iload_n 1, 0, 0, 0, 0), (2, .invokevirtual 124, 5116, 3344, 1, 13), (5, .iload_n 2, 0, 0, 0, 0), (6, .ifCond .lt 8, 0, 14, 0, 0), (9, .iload_n 2, 0, 0, 0, 0), (10, .iconst 4, 0, 0, 0, 0), (11, .if_icmp .le 13, 0, 24, 0, 0), (14, .new 243, 247, 2, 245, 1), (17, .dup, 0, 0, 0, 0), (24, .iconst 0, 0, 0, 0, 0), (25, .istore 4, 0, 0, 0, 0), (27, .iload 4, 0, 0, 0, 0), (29, .bipush 6, 0, 0, 0, 0), (31, .if_icmp .ge 17, 0, 48, 0, 0), (34, .aload_n 0, 0, 0, 0, 0), (35, .iload_n 2, 0, 0, 0, 0), (36, .iload 4, 0, 0, 0, 0), (38, .iadd, 0, 0, 0, 0), (39, .invokevirtual 154, 5225, 3340, 1, 13), (42, .iinc 4 1, 0, 0, 0, 0), (45, .goto (-18), 0, 27, 0, 0), (48, .aload_n 0, 0, 0, 0, 0), (49, .getfield 33, 2148, 13, 4, 0), (52, .invokevirtual 129, 3016, 2053, 0, 8), (55, .iload_n 3, 0, 0, 0, 0), (56, .ifCond .eq 20, 0, 76, 0, 0), (59, .aload_n 0, 0, 0, 0, 0), (60, .iload_n 2, 0, 0, 0, 0), (61, .iload_n 2, 0, 0, 0, 0), (62, .iconst 5, 0, 0, 0, 0), (63, .iadd, 0, 0, 0, 0), (64, .iload_n 2, 0, 0, 0, 0), (65, .iconst 2, 0, 0, 0, 0), (66, .iadd, 0, 0, 0, 0), (67, .iload_n 2, 0, 0, 0, 0), (68, .iconst 3, 0, 0, 0, 0), (69, .iadd, 0, 0, 0, 0), (70, .invokevirtual 248, 6158, 3351, 4, 13), (73, .goto 19, 0, 92, 0, 0), (76, .aload_n 0, 0, 0, 0, 0), (77, .iload_n 2, 0, 0, 0, 0), (78, .iconst 2, 0, 0, 0, 0), (79, .iadd, 0, 0, 0, 0), (80, .iload_n 2, 0, 0, 0, 0), (81, .iconst 4, 0, 0, 0, 0), (82, .iadd, 0, 0, 0, 0), (83, .iload_n 2, 0, 0, 0, 0), (84, .iconst 1, 0, 0, 0, 0), (85, .iadd, 0, 0, 0, 0), (86, .iload_n 2, 0, 0, 0, 0), (87, .iconst 5, 0, 0, 0, 0), (88, .iadd, 0, 0, 0, 0), (89, .invokevirtual 248, 6158, 3351, 4, 13), (92, .istore 4, 0, 0, 0, 0), (94, .iload 4, 0, 0, 0, 0), (96, .ifCond .ne 19, 0, 115, 0, 0), (99, .aload_n 0, 0, 0, 0, 0), (100, .iload_n 2, 0, 0, 0, 0), (101, .iload_n 2, 0, 0, 0, 0), (102, .iconst 4, 0, 0, 0, 0), (103, .iadd, 0, 0, 0, 0), (104, .iload_n 2, 0, 0, 0, 0), (105, .iconst 1, 0, 0, 0, 0), (106, .iadd, 0, 0, 0, 0), (107, .iload_n 2, 0, 0, 0, 0), (108, .iconst 3, 0, 0, 0, 0), (109, .iadd, 0, 0, 0, 0), (110, .invokevirtual 248, 6158, 3351, 4, 13), (113, .istore 4, 0, 0, 0, 0), (115, .iload 4, 0, 0, 0, 0), (117, .ifCond .ne 16, 0, 133, 0, 0), (120, .aload_n 0, 0, 0, 0, 0), (121, .getfield 33, 2148, 13, 4, 0), (124, .bipush 47, 0, 0, 0, 0), (126, .lconst 0, 0, 0, 0, 0), (127, .iconst 0, 0, 0, 0, 0), (128, .invokevirtual 130, 3020, 2055, 3, 8), (131, .istore 4, 0, 0, 0, 0), (133, .aload_n 0, 0, 0, 0, 0), (134, .iload_n 1, 0, 0, 0, 0), (135, .iload 4, 0, 0, 0, 0), (137, .invokevirtual 134, 5134, 3332, 2, 13), (140, .ireturn, 0, 0, 0, 0)]
noncomputable def bk_X11_subtract : List (Nat × bO) := [(0, .aload_n 0, 0, 0, 0, 0), (1, .iload_n 1, 0, 0, 0, 0), (2, .iload_n 2, 0, 0, 0, 0), (3, .iload_n 3, 0, 0, 0, 0), (4, .bipush 45, 0, 0, 0, 0), (6, .invokevirtual 229, 6092, 3348, 4, 13), (9, .ireturn, 0, 0, 0, 0)]
noncomputable def bk_X11_sumUp : List (Nat × bO) := []
noncomputable def bk_X11_sure : List (Nat × bO) := [(0, .aload_n 0, 0, 0, 0, 0), (1, .iload_n 1, 0, 0, 0, 0), (2, .invokevirtual 124, 5116, 3344, 1, 13), (5, .aload_n 0, 0, 0, 0, 0), (6, .iload_n 1, 0, 0, 0, 0), (7, .invokevirtual 154, 5225, 3340, 1, 13), (10, .aload_n 0, 0, 0, 0, 0), (11, .getfield 26, 2147, 13, 3, 0), (14, .iload_n 1, 0, 0, 0, 0), (15, .invokevirtual 157, 2225, 2817, 1, 11), (18, .astore_n 2, 0, 0, 0, 0), (19, .bipush 10, 0, 0, 0, 0), (21, .istore_n 3, 0, 0, 0, 0), (22, .iload_n 3, 0, 0, 0, 0), (23, .ifCond .lt 69, 0, 92, 0, 0), (26, .aload_n 0, 0, 0, 0, 0), (27, .getfield 87, 2159, 13, 15, 0), (30, .aload_n 2, 0, 0, 0, 0), (31, .getfield 181, 1093, 4, 0, 0), (34, .invokevirtual 209, 6069, 771, 1, 3), (37, .aload_n 0, 0, 0, 0, 0), (38, .getfield 87, 2159, 13, 15, 0), (41, .iload_n 3, 0, 0, 0, 0), (42, .invokestatic 211, 6070, 3397, 1, 0), (45, .invokevirtual 215, 6071, 778, 1, 3), (48, .aload_n 0, 0, 0, 0, 0), (49, .getfield 91, 2160, 13, 16, 0), (52, .aload_n 2, 0, 0, 0, 0), (53, .getfield 188, 1097, 4, 1, 0), (56, .invokevirtual 209, 6069, 771, 1, 3), (59, .aload_n 0, 0, 0, 0, 0), (60, .getfield 91, 2160, 13, 16, 0), (63, .iload_n 3, 0, 0, 0, 0), (64, .invokestatic 211, 6070, 3397, 1, 0), (67, .invokevirtual 215, 6071, 778, 1, 3), (70, .aload_n 0, 0, 0, 0, 0), (71, .getfield 87, 2159, 13, 15, 0), (74, .aload_n 0, 0, 0, 0, 0), (75, .getfield 91, 2160, 13, 16, 0), (78, .invokevirtual 219, 6072, 769, 1, 3), (81, .ifCond .ne 5, 0, 86, 0, 0), (84, .iload_n 3, 0, 0, 0, 0), (85, .ireturn, 0, 0, 0, 0), (86, .iinc 3 (-1), 0, 0, 0, 0), (89, .goto (-67), 0, 22, 0, 0), (92, .iconst (-1), 0, 0, 0, 0), (93, .ireturn, 0, 0, 0, 0)]
noncomputable def bk_X11_takeExtreme : List (Nat × bO) := []
noncomputable def bk_X11_type : List (Nat × bO) := [(0, .iload_n 1, 0, 0, 0, 0), (1, .bipush 32, 0, 0, 0, 0), (3, .if_icmp .lt 9, 0, 12, 0, 0), (6, .iload_n 1, 0, 0, 0, 0), (7, .bipush 126, 0, 0, 0, 0), (9, .if_icmp .le 13, 0, 22, 0, 0), (12, .new 94, 98, 0, 101, 1), (15, .dup, 0, 0, 0, 0), (22, .aload_n 0, 0, 0, 0, 0), (23, .getfield 16, 2145, 13, 1, 0), (26, .getfield 103, 1046, 12, 1, 0), (29, .bipush 60, 0, 0, 0, 0), (31, .if_icmp .lt 13, 0, 44, 0, 0), (34, .new 106, 110, 1, 108, 1), (37, .dup, 0, 0, 0, 0), (44, .aload_n 0, 0, 0, 0, 0), (45, .getfield 16, 2145, 13, 1, 0), (48, .iload_n 1, 0, 0, 0, 0), (49, .invokevirtual 111, 5072, 3074, 1, 12), (52, .aload_n 0, 0, 0, 0, 0), (53, .getfield 16, 2145, 13, 1, 0), (56, .getfield 103, 1046, 12, 1, 0), (59, .ireturn, 0, 0, 0, 0)]
noncomputable def bk_X11_undo : List (Nat × bO) := [(0, .aload_n 0, 0, 0, 0, 0), (1, .getfield 26, 2147, 13, 3, 0), (4, .invokevirtual 223, 6080, 2821, 0, 11), (7, .istore_n 1, 0, 0, 0, 0), (8, .iload_n 1, 0, 0, 0, 0), (9, .ifCond .ge 13, 0, 22, 0, 0), (12, .new 176, 180, 3, 227, 1), (15, .dup, 0, 0, 0, 0), (22, .iload_n 1, 0, 0, 0, 0), (23, .ireturn, 0, 0, 0, 0)]
noncomputable def bk_X11_unitOf : List (Nat × bO) := [(0, .iload_n 0, 0, 0, 0, 0), (1, .ifCond .lt 9, 0, 10, 0, 0), (4, .iload_n 0, 0, 0, 0, 0), (5, .bipush 10, 0, 0, 0, 0), (7, .if_icmp .le 7, 0, 14, 0, 0), (10, .lconst 1, 0, 0, 0, 0), (11, .goto 11, 0, 22, 0, 0), (14, .getstatic 446, 2068, 0, 0, 0), (17, .bipush 10, 0, 0, 0, 0), (19, .iload_n 0, 0, 0, 0, 0), (20, .isub, 0, 0, 0, 0), (21, .laload, 0, 0, 0, 0), (22, .lreturn, 0, 0, 0, 0)]
noncomputable def bk_X11_value : List (Nat × bO) := [(0, .aload_n 0, 0, 0, 0, 0), (1, .iload_n 1, 0, 0, 0, 0), (2, .iload_n 2, 0, 0, 0, 0), (3, .iload_n 3, 0, 0, 0, 0), (4, .iload 4, 0, 0, 0, 0), (6, .invokevirtual 266, 7020, 3339, 4, 13), (9, .aload_n 0, 0, 0, 0, 0), (10, .getfield 33, 2148, 13, 4, 0), (13, .aload_n 0, 0, 0, 0, 0), (14, .getfield 26, 2147, 13, 3, 0), (17, .iload_n 3, 0, 0, 0, 0), (18, .invokevirtual 157, 2225, 2817, 1, 11), (21, .aload_n 0, 0, 0, 0, 0), (22, .getfield 26, 2147, 13, 3, 0), (25, .iload 4, 0, 0, 0, 0), (27, .invokevirtual 157, 2225, 2817, 1, 11), (30, .invokevirtual 270, 4166, 2050, 2, 8), (33, .aload_n 0, 0, 0, 0, 0), (34, .iload_n 1, 0, 0, 0, 0), (35, .aload_n 0, 0, 0, 0, 0), (36, .getfield 33, 2148, 13, 4, 0), (39, .aload_n 0, 0, 0, 0, 0), (40, .getfield 43, 2149, 13, 5, 0), (43, .iload_n 2, 0, 0, 0, 0), (44, .aaload, 0, 0, 0, 0), (45, .invokevirtual 274, 4170, 2058, 1, 8), (48, .invokevirtual 134, 5134, 3332, 2, 13), (51, .ireturn, 0, 0, 0, 0)]
noncomputable def bk_X11_width : List (Nat × bO) := [(0, .aload_n 0, 0, 0, 0, 0), (1, .iload_n 1, 0, 0, 0, 0), (2, .invokevirtual 124, 5116, 3344, 1, 13), (5, .aload_n 0, 0, 0, 0, 0), (6, .iload_n 1, 0, 0, 0, 0), (7, .invokevirtual 154, 5225, 3340, 1, 13), (10, .aload_n 0, 0, 0, 0, 0), (11, .getfield 26, 2147, 13, 3, 0), (14, .iload_n 1, 0, 0, 0, 0), (15, .invokevirtual 157, 2225, 2817, 1, 11), (18, .astore_n 2, 0, 0, 0, 0), (19, .aload_n 0, 0, 0, 0, 0), (20, .getfield 87, 2159, 13, 15, 0), (23, .aload_n 2, 0, 0, 0, 0), (24, .getfield 188, 1097, 4, 1, 0), (27, .aload_n 2, 0, 0, 0, 0), (28, .getfield 181, 1093, 4, 0, 0), (31, .invokevirtual 191, 6042, 781, 2, 3), (34, .aload_n 0, 0, 0, 0, 0), (35, .getfield 16, 2145, 13, 1, 0), (38, .aload_n 0, 0, 0, 0, 0), (39, .getfield 87, 2159, 13, 15, 0), (42, .invokevirtual 184, 2229, 3079, 1, 12), (45, .aload_n 0, 0, 0, 0, 0), (46, .getfield 16, 2145, 13, 1, 0), (49, .getfield 103, 1046, 12, 1, 0), (52, .ireturn, 0, 0, 0, 0)]
noncomputable def bk_X11_zeros : List (Nat × bO) := [(0, .aload_n 0, 0, 0, 0, 0), (1, .iload_n 2, 0, 0, 0, 0), (2, .invokevirtual 124, 5116, 3344, 1, 13), (5, .aload_n 0, 0, 0, 0, 0), (6, .iload_n 1, 0, 0, 0, 0), (7, .invokevirtual 252, 6169, 3338, 1, 13), (10, .aload_n 0, 0, 0, 0, 0), (11, .iload_n 3, 0, 0, 0, 0), (12, .iconst 3, 0, 0, 0, 0), (13, .invokevirtual 285, 7141, 3336, 2, 13), (16, .aload_n 0, 0, 0, 0, 0), (17, .iload_n 1, 0, 0, 0, 0), (18, .invokevirtual 259, 7008, 3337, 1, 13), (21, .aload_n 0, 0, 0, 0, 0), (22, .iload_n 2, 0, 0, 0, 0), (23, .invokevirtual 154, 5225, 3340, 1, 13), (26, .aload_n 0, 0, 0, 0, 0), (27, .iload_n 1, 0, 0, 0, 0), (28, .invokevirtual 288, 7146, 3341, 1, 13), (31, .aload_n 0, 0, 0, 0, 0), (32, .getfield 55, 2151, 13, 7, 0), (35, .invokevirtual 291, 7166, 2307, 0, 9), (38, .aload_n 0, 0, 0, 0, 0), (39, .getfield 59, 2152, 13, 8, 0), (42, .invokevirtual 291, 7166, 2307, 0, 9), (45, .aload_n 0, 0, 0, 0, 0), (46, .getfield 59, 2152, 13, 8, 0), (49, .aload_n 0, 0, 0, 0, 0), (50, .getfield 26, 2147, 13, 3, 0), (53, .iload_n 2, 0, 0, 0, 0), (54, .invokevirtual 157, 2225, 2817, 1, 11), (57, .iconst 0, 0, 0, 0, 0), (58, .invokevirtual 292, 7170, 2305, 2, 9), (61, .iconst 0, 0, 0, 0, 0), (62, .istore 4, 0, 0, 0, 0), (64, .iload 4, 0, 0, 0, 0), (66, .bipush 16, 0, 0, 0, 0), (68, .if_icmp .ge 185, 0, 253, 0, 0), (71, .aload_n 0, 0, 0, 0, 0), (72, .getfield 59, 2152, 13, 8, 0), (75, .getfield 295, 2130, 9, 3, 0), (78, .ifCond .le 175, 0, 253, 0, 0), (81, .aload_n 0, 0, 0, 0, 0), (82, .getfield 59, 2152, 13, 8, 0), (85, .aload_n 0, 0, 0, 0, 0), (86, .getfield 71, 2155, 13, 11, 0), (89, .invokevirtual 296, 7175, 2311, 1, 9), (92, .istore 5, 0, 0, 0, 0), (94, .aload_n 0, 0, 0, 0, 0), (95, .aload_n 0, 0, 0, 0, 0), (96, .getfield 43, 2149, 13, 5, 0), (99, .iload_n 1, 0, 0, 0, 0), (100, .aaload, 0, 0, 0, 0), (101, .aload_n 0, 0, 0, 0, 0), (102, .getfield 71, 2155, 13, 11, 0), (105, .invokevirtual 300, 7179, 3367, 2, 13), (108, .istore 6, 0, 0, 0, 0), (110, .iload 6, 0, 0, 0, 0), (112, .bipush 63, 0, 0, 0, 0), (114, .if_icmp .ne 113, 0, 227, 0, 0), (117, .iload 5, 0, 0, 0, 0), (119, .iload_n 3, 0, 0, 0, 0), (120, .if_icmp .ge 107, 0, 227, 0, 0), (123, .aload_n 0, 0, 0, 0, 0), (124, .getfield 75, 2156, 13, 12, 0), (127, .aload_n 0, 0, 0, 0, 0), (128, .getfield 71, 2155, 13, 11, 0), (131, .aload_n 0, 0, 0, 0, 0), (132, .getfield 33, 2148, 13, 4, 0), (135, .invokevirtual 304, 4192, 2064, 0, 8), (138, .invokevirtual 308, 4196, 1035, 2, 4), (141, .ifCond .eq 86, 0, 227, 0, 0), (144, .aload_n 0, 0, 0, 0, 0), (145, .getfield 87, 2159, 13, 15, 0), (148, .aload_n 0, 0, 0, 0, 0), (149, .getfield 75, 2156, 13, 12, 0), (152, .getfield 181, 1093, 4, 0, 0), (155, .invokevirtual 209, 6069, 771, 1, 3), (158, .aload_n 0, 0, 0, 0, 0), (159, .getfield 75, 2156, 13, 12, 0), (162, .aload_n 0, 0, 0, 0, 0), (163, .getfield 87, 2159, 13, 15, 0), (166, .aload_n 0, 0, 0, 0, 0), (167, .getfield 71, 2155, 13, 11, 0), (170, .getfield 188, 1097, 4, 1, 0), (173, .invokevirtual 312, 7184, 1025, 2, 4), (176, .aload_n 0, 0, 0, 0, 0), (177, .getfield 59, 2152, 13, 8, 0), (180, .aload_n 0, 0, 0, 0, 0), (181, .getfield 75, 2156, 13, 12, 0), (184, .iload 5, 0, 0, 0, 0), (186, .iconst 1, 0, 0, 0, 0), (187, .iadd, 0, 0, 0, 0), (188, .invokevirtual 292, 7170, 2305, 2, 9), (191, .aload_n 0, 0, 0, 0, 0), (192, .getfield 75, 2156, 13, 12, 0), (195, .aload_n 0, 0, 0, 0, 0), (196, .getfield 71, 2155, 13, 11, 0), (199, .getfield 181, 1093, 4, 0, 0), (202, .aload_n 0, 0, 0, 0, 0), (203, .getfield 87, 2159, 13, 15, 0), (206, .invokevirtual 312, 7184, 1025, 2, 4), (209, .aload_n 0, 0, 0, 0, 0), (210, .getfield 59, 2152, 13, 8, 0), (213, .aload_n 0, 0, 0, 0, 0), (214, .getfield 75, 2156, 13, 12, 0), (217, .iload 5, 0, 0, 0, 0), (219, .iconst 1, 0, 0, 0, 0), (220, .iadd, 0, 0, 0, 0), (221, .invokevirtual 292, 7170, 2305, 2, 9), (224, .goto 23, 0, 247, 0, 0), (227, .iload 6, 0, 0, 0, 0), (229, .bipush 32, 0, 0, 0, 0), (231, .if_icmp .eq 16, 0, 247, 0, 0), (234, .aload_n 0, 0, 0, 0, 0), (235, .getfield 55, 2151, 13, 7, 0), (238, .aload_n 0, 0, 0, 0, 0), (239, .getfield 71, 2155, 13, 11, 0), (242, .iload 6, 0, 0, 0, 0), (244, .invokevirtual 292, 7170, 2305, 2, 9), (247, .iinc 4 1, 0, 0, 0, 0), (250, .goto (-186), 0, 64, 0, 0), (253, .aload_n 0, 0, 0, 0, 0), (254, .getfield 55, 2151, 13, 7, 0), (257, .getfield 295, 2130, 9, 3, 0), (260, .ireturn, 0, 0, 0, 0)]
noncomputable def bkc_13 : List (List (Nat × bO)) := [bk_X11_init, bk_X11_add, bk_X11_apply, bk_X11_area, bk_X11_become, bk_X11_canBeZero, bk_X11_change, bk_X11_checkBoundsCall, bk_X11_checkCuts, bk_X11_checkDefined, bk_X11_checkFormula, bk_X11_checkFormulaCall, bk_X11_checkHeld, bk_X11_checkNoY, bk_X11_checkPair, bk_X11_checkPiece, bk_X11_checkShelf, bk_X11_checkShelves, bk_X11_checkStatus, bk_X11_checksum, bk_X11_combine, bk_X11_compare, bk_X11_constant, bk_X11_crossed, bk_X11_decide, bk_X11_define, bk_X11_digits, bk_X11_divide, bk_X11_erase, bk_X11_fill, bk_X11_greatest, bk_X11_hasY, bk_X11_held, bk_X11_high, bk_X11_isConstantSound, bk_X11_isSound, bk_X11_isValueSound, bk_X11_isWithin, bk_X11_join, bk_X11_judge, bk_X11_kindByEnds, bk_X11_least, bk_X11_low, bk_X11_makeAlong, bk_X11_makeMoved, bk_X11_makeNarrowed, bk_X11_meet, bk_X11_move, bk_X11_multiply, bk_X11_narrow, bk_X11_pairs, bk_X11_piece, bk_X11_pieceKind, bk_X11_power, bk_X11_put, bk_X11_read, bk_X11_root, bk_X11_seekExtreme, bk_X11_setDigits, bk_X11_sideOf, bk_X11_signAt, bk_X11_slope, bk_X11_solve, bk_X11_subtract, bk_X11_sumUp, bk_X11_sure, bk_X11_takeExtreme, bk_X11_type, bk_X11_undo, bk_X11_unitOf, bk_X11_value, bk_X11_width, bk_X11_zeros]
noncomputable def bmc_13 : List bM := [(yX11_init, cX11_init, 2, none, []), (yX11_add, cX11_add, 4, (some .boolean), []), (yX11_apply, cX11_apply, 4, (some .boolean), []), (yX11_area, cX11_area, 5, (some .boolean), []), (yX11_become, cX11_become, 3, (some .boolean), []), (yX11_canBeZero, cX11_canBeZero, 2, (some .boolean), []), (yX11_change, cX11_change, 5, (some .boolean), []), (yX11_checkBoundsCall, cX11_checkBoundsCall, 5, none, []), (yX11_checkCuts, cX11_checkCuts, 3, none, []), (yX11_checkDefined, cX11_checkDefined, 2, none, []), (yX11_checkFormula, cX11_checkFormula, 2, none, []), (yX11_checkFormulaCall, cX11_checkFormulaCall, 5, none, []), (yX11_checkHeld, cX11_checkHeld, 2, none, []), (yX11_checkNoY, cX11_checkNoY, 2, none, []), (yX11_checkPair, cX11_checkPair, 3, none, []), (yX11_checkPiece, cX11_checkPiece, 2, none, []), (yX11_checkShelf, cX11_checkShelf, 2, none, []), (yX11_checkShelves, cX11_checkShelves, 4, none, []), (yX11_checkStatus, cX11_checkStatus, 2, none, []), (yX11_checksum, cX11_checksum, 4, (some .long), []), (yX11_combine, cX11_combine, 5, (some .boolean), []), (yX11_compare, cX11_compare, 6, (some .int), []), (yX11_constant, cX11_constant, 3, (some .boolean), []), (yX11_crossed, cX11_crossed, 6, (some .int), []), (yX11_decide, cX11_decide, 7, (some .int), []), (yX11_define, cX11_define, 4, (some .int), []), (yX11_digits, cX11_digits, 1, (some .int), []), (yX11_divide, cX11_divide, 4, (some .boolean), []), (yX11_erase, cX11_erase, 2, (some .int), []), (yX11_fill, cX11_fill, 3, (some .boolean), []), (yX11_greatest, cX11_greatest, 5, (some .boolean), []), (yX11_hasY, cX11_hasY, 2, (some .boolean), []), (yX11_held, cX11_held, 3, (some .int), []), (yX11_high, cX11_high, 2, (some .int), []), (yX11_isConstantSound, cX11_isConstantSound, 3, (some .boolean), []), (yX11_isSound, cX11_isSound, 4, (some .boolean), []), (yX11_isValueSound, cX11_isValueSound, 5, (some .boolean), []), (yX11_isWithin, cX11_isWithin, 3, (some .boolean), []), (yX11_join, cX11_join, 4, (some .boolean), []), (yX11_judge, cX11_judge, 3, (some .char), []), (yX11_kindByEnds, cX11_kindByEnds, 6, (some .char), []), (yX11_least, cX11_least, 5, (some .boolean), []), (yX11_low, cX11_low, 2, (some .int), []), (yX11_makeAlong, cX11_makeAlong, 5, (some .int), []), (yX11_makeMoved, cX11_makeMoved, 8, (some .int), []), (yX11_makeNarrowed, cX11_makeNarrowed, 4, (some .int), []), (yX11_meet, cX11_meet, 4, (some .boolean), []), (yX11_move, cX11_move, 5, (some .boolean), []), (yX11_multiply, cX11_multiply, 4, (some .boolean), []), (yX11_narrow, cX11_narrow, 5, (some .boolean), []), (yX11_pairs, cX11_pairs, 9, (some .int), []), (yX11_piece, cX11_piece, 3, (some .boolean), []), (yX11_pieceKind, cX11_pieceKind, 2, (some .char), []), (yX11_power, cX11_power, 4, (some .boolean), []), (yX11_put, cX11_put, 5, (some .boolean), []), (yX11_read, cX11_read, 3, (some .boolean), []), (yX11_root, cX11_root, 4, (some .boolean), []), (yX11_seekExtreme, cX11_seekExtreme, 7, (some .int), []), (yX11_setDigits, cX11_setDigits, 3, (some .int), []), (yX11_sideOf, cX11_sideOf, 4, (some .int), []), (yX11_signAt, cX11_signAt, 2, (some .char), []), (yX11_slope, cX11_slope, 5, (some .boolean), []), (yX11_solve, cX11_solve, 5, (some .boolean), []), (yX11_subtract, cX11_subtract, 4, (some .boolean), []), (yX11_sumUp, cX11_sumUp, 7, (some .int), []), (yX11_sure, cX11_sure, 4, (some .int), []), (yX11_takeExtreme, cX11_takeExtreme, 5, none, []), (yX11_type, cX11_type, 2, (some .int), []), (yX11_undo, cX11_undo, 2, (some .int), []), (yX11_unitOf, cX11_unitOf, 1, (some .long), []), (yX11_value, cX11_value, 5, (some .boolean), []), (yX11_width, cX11_width, 3, (some .int), []), (yX11_zeros, cX11_zeros, 7, (some .int), [])]
noncomputable def bjc_13 : List (Nat × Nat × Nat × Nat × Nat) := [(1034, 1033, 0, 1001, 0), (6091, 6089, 6090, 1001, 3), (6148, 6146, 6147, 1001, 3), (8048, 8046, 8047, 1001, 4), (5137, 5136, 18, 1001, 2), (8015, 8014, 54, 1001, 1), (6133, 6132, 26, 1001, 4), (8026, 8025, 55, 1001, 4), (7144, 7143, 47, 1001, 2), (7011, 7010, 42, 1001, 1), (6172, 6171, 28, 1001, 1), (7023, 7022, 43, 1001, 4), (5228, 5227, 23, 1001, 1), (7149, 7148, 48, 1001, 1), (6053, 6052, 24, 1001, 2), (7200, 7199, 50, 1001, 1), (5119, 5118, 17, 1001, 1), (5224, 5223, 22, 1001, 3), (5141, 5140, 19, 1001, 1), (2223, 2221, 2222, 1001, 0), (6095, 6094, 25, 1001, 4), (6060, 6058, 6059, 1001, 2), (5211, 5209, 5210, 1001, 2), (6161, 6160, 27, 1001, 4), (7128, 7126, 7127, 1001, 3), (6168, 6166, 6167, 1001, 1), (2199, 2197, 2198, 1001, 0), (6121, 6119, 6120, 1001, 3), (2203, 2201, 2202, 1001, 0), (5162, 5161, 20, 1001, 2), (8041, 8039, 8040, 1001, 4), (7007, 7005, 7006, 1001, 1), (2211, 2209, 2210, 1001, 0), (6034, 6032, 6033, 1001, 1), (3015, 3014, 1, 1001, 1), (3011, 3009, 3010, 1001, 0), (4165, 4164, 14, 1001, 2), (6049, 6047, 6048, 1001, 2), (5220, 5218, 5219, 1001, 3), (7182, 7181, 49, 1001, 2), (7187, 7186, 0, 1001, 2), (8022, 8020, 8021, 1001, 4), (6027, 6025, 6026, 1001, 1), (8070, 8069, 60, 1001, 3), (8064, 8063, 59, 1001, 3), (7231, 7230, 52, 1001, 2), (6015, 6013, 6014, 1001, 3), (8059, 8057, 8058, 1001, 4), (6113, 6111, 6112, 1001, 3), (7227, 7225, 7226, 1001, 3), (7239, 7237, 7238, 1001, 5), (7216, 7214, 7215, 1001, 2), (7196, 7194, 7195, 1001, 1), (6128, 6126, 6127, 1001, 3), (5115, 5113, 5114, 1001, 3), (5175, 5173, 5174, 1001, 1), (6140, 6138, 6139, 1001, 3), (8030, 8029, 56, 1001, 4), (4214, 4212, 4213, 1001, 1), (7132, 7131, 46, 1001, 3), (5079, 5077, 5078, 1001, 1), (7030, 7028, 7029, 1001, 4), (6156, 6154, 6155, 1001, 3), (6106, 6104, 6105, 1001, 3), (8052, 8051, 58, 1001, 3), (6068, 6066, 6067, 1001, 1), (8034, 8033, 57, 1001, 4), (5054, 5052, 5053, 1001, 1), (6079, 6077, 6078, 1001, 0), (2067, 2066, 0, 1001, 1), (7019, 7017, 7018, 1001, 4), (6041, 6039, 6040, 1001, 1), (7140, 7138, 7139, 1001, 3)]
noncomputable def bk_X12_init : List (Nat × bO) := [(0, .aload_n 0, 0, 0, 0, 0), (1, .invokespecial 1, 8078, 0, 0, 1), (4, .aload_n 0, 0, 0, 0, 0), (5, .sipush 960, 0, 0, 0, 0), (8, .newarray .long, 1186, 2, 0, 0), (10, .putfield 7, 8079, 14, 0, 0), (13, .aload_n 0, 0, 0, 0, 0), (14, .bipush 15, 0, 0, 0, 0), (16, .newarray .int, 1125, 1, 0, 0), (18, .putfield 13, 8080, 14, 1, 0), (21, .aload_n 0, 0, 0, 0, 0), (22, .bipush 6, 0, 0, 0, 0), (24, .putfield 17, 8081, 14, 2, 0), (27, .aload_n 0, 0, 0, 0, 0), (28, .sipush 700, 0, 0, 0, 0), (31, .newarray .long, 1186, 2, 0, 0), (33, .putfield 21, 8085, 14, 6, 0), (36, .aload_n 0, 0, 0, 0, 0), (37, .sipush 700, 0, 0, 0, 0), (40, .newarray .long, 1186, 2, 0, 0), (42, .putfield 24, 8086, 14, 7, 0), (45, .aload_n 0, 0, 0, 0, 0), (46, .sipush 700, 0, 0, 0, 0), (49, .newarray .long, 1186, 2, 0, 0), (51, .putfield 27, 8087, 14, 8, 0), (54, .aload_n 0, 0, 0, 0, 0), (55, .sipush 700, 0, 0, 0, 0), (58, .newarray .long, 1186, 2, 0, 0), (60, .putfield 30, 8088, 14, 9, 0), (63, .aload_n 0, 0, 0, 0, 0), (64, .bipush 10, 0, 0, 0, 0), (66, .newarray .boolean, 1089, 3, 0, 0), (68, .putfield 33, 8089, 14, 10, 0), (71, .aload_n 0, 0, 0, 0, 0), (72, .bipush 60, 0, 0, 0, 0), (74, .putfield 37, 8090, 14, 11, 0), (77, .aload_n 0, 0, 0, 0, 0), (78, .bipush 60, 0, 0, 0, 0), (80, .newarray .char, 1054, 0, 0, 0), (82, .putfield 40, 8094, 14, 15, 0), (85, .aload_n 0, 0, 0, 0, 0), (86, .bipush 60, 0, 0, 0, 0), (88, .newarray .char, 1054, 0, 0, 0), (90, .putfield 44, 8095, 14, 16, 0), (93, .aload_n 0, 0, 0, 0, 0), (94, .bipush 12, 0, 0, 0, 0), (96, .newarray .int, 1125, 1, 0, 0), (98, .putfield 47, 8098, 14, 19, 0), (101, .aload_n 0, 0, 0, 0, 0), (102, .bipush 12, 0, 0, 0, 0), (104, .newarray .boolean, 1089, 3, 0, 0), (106, .putfield 50, 8099, 14, 20, 0), (109, .aload_n 0, 0, 0, 0, 0), (110, .bipush 12, 0, 0, 0, 0), (112, .newarray .long, 1186, 2, 0, 0), (114, .putfield 53, 8100, 14, 21, 0), (117, .aload_n 0, 0, 0, 0, 0), (118, .bipush 12, 0, 0, 0, 0), (120, .newarray .long, 1186, 2, 0, 0), (122, .putfield 56, 8101, 14, 22, 0), (125, .aload_n 0, 0, 0, 0, 0), (126, .bipush 12, 0, 0, 0, 0), (128, .newarray .long, 1186, 2, 0, 0), (130, .putfield 59, 8102, 14, 23, 0), (133, .aload_n 0, 0, 0, 0, 0), (134, .bipush 12, 0, 0, 0, 0), (136, .newarray .long, 1186, 2, 0, 0), (138, .putfield 62, 8103, 14, 24, 0), (141, .aload_n 0, 0, 0, 0, 0), (142, .sipush 320, 0, 0, 0, 0), (145, .newarray .char, 1054, 0, 0, 0), (147, .putfield 65, 8105, 14, 26, 0), (150, .aload_n 0, 0, 0, 0, 0), (151, .sipush 320, 0, 0, 0, 0), (154, .newarray .int, 1125, 1, 0, 0), (156, .putfield 68, 8106, 14, 27, 0), (159, .aload_n 0, 0, 0, 0, 0), (160, .sipush 320, 0, 0, 0, 0), (163, .newarray .int, 1125, 1, 0, 0), (165, .putfield 71, 8107, 14, 28, 0), (168, .aload_n 0, 0, 0, 0, 0), (169, .sipush 320, 0, 0, 0, 0), (172, .newarray .int, 1125, 1, 0, 0), (174, .putfield 74, 8108, 14, 29, 0), (177, .aload_n 0, 0, 0, 0, 0), (178, .sipush 320, 0, 0, 0, 0), (181, .newarray .long, 1186, 2, 0, 0), (183, .putfield 77, 8109, 14, 30, 0), (186, .aload_n 0, 0, 0, 0, 0), (187, .iconst 5, 0, 0, 0, 0), (188, .newarray .int, 1125, 1, 0, 0), (190, .putfield 80, 8110, 14, 31, 0), (193, .aload_n 0, 0, 0, 0, 0), (194, .iconst 5, 0, 0, 0, 0), (195, .newarray .int, 1125, 1, 0, 0), (197, .putfield 83, 8111, 14, 32, 0), (200, .aload_n 0, 0, 0, 0, 0), (201, .iconst 4, 0, 0, 0, 0), (202, .newarray .boolean, 1089, 3, 0, 0), (204, .putfield 86, 8112, 14, 33, 0), (207, .aload_n 0, 0, 0, 0, 0), (208, .bipush 8, 0, 0, 0, 0), (210, .newarray .char, 1054, 0, 0, 0), (212, .putfield 89, 8118, 14, 39, 0), (215, .aload_n 0, 0, 0, 0, 0), (216, .bipush 8, 0, 0, 0, 0), (218, .newarray .char, 1054, 0, 0, 0), (220, .putfield 92, 8119, 14, 40, 0), (223, .return_, 0, 0, 0, 0)]
noncomputable def bk_X12_acts : List (Nat × bO) := []
noncomputable def bk_X12_add : List (Nat × bO) := [(0, .aload_n 0, 0, 0, 0, 0), (1, .aload_n 0, 0, 0, 0, 0), (2, .iload_n 1, 0, 0, 0, 0), (3, .iload_n 2, 0, 0, 0, 0), (4, .iload_n 3, 0, 0, 0, 0), (5, .invokevirtual 369, 9157, 3668, 3, 14), (8, .invokevirtual 324, 8221, 3614, 1, 14), (11, .ifCond .ne 19, 0, 30, 0, 0), (14, .aload_n 0, 0, 0, 0, 0), (15, .iload_n 1, 0, 0, 0, 0), (16, .bipush 43, 0, 0, 0, 0), (18, .iload_n 2, 0, 0, 0, 0), (19, .iload_n 3, 0, 0, 0, 0), (20, .invokevirtual 393, 9232, 3651, 4, 14), (23, .ifCond .eq 7, 0, 30, 0, 0), (26, .iconst 1, 0, 0, 0, 0), (27, .goto 4, 0, 31, 0, 0), (30, .iconst 0, 0, 0, 0, 0), (31, .ireturn, 0, 0, 0, 0)]
noncomputable def bk_X12_adds : List (Nat × bO) := []
noncomputable def bk_X12_again : List (Nat × bO) := []
noncomputable def bk_X12_apply : List (Nat × bO) := [(0, .iload_n 3, 0, 0, 0, 0), (1, .bipush 45, 0, 0, 0, 0), (3, .if_icmp .eq 27, 0, 30, 0, 0), (6, .iload_n 3, 0, 0, 0, 0), (7, .bipush 98, 0, 0, 0, 0), (9, .if_icmp .eq 21, 0, 30, 0, 0), (12, .iload_n 3, 0, 0, 0, 0), (13, .bipush 101, 0, 0, 0, 0), (15, .if_icmp .eq 15, 0, 30, 0, 0), (18, .iload_n 3, 0, 0, 0, 0), (19, .bipush 108, 0, 0, 0, 0), (21, .if_icmp .eq 9, 0, 30, 0, 0), (24, .iload_n 3, 0, 0, 0, 0), (25, .bipush 97, 0, 0, 0, 0), (27, .if_icmp .ne 7, 0, 34, 0, 0), (30, .iconst 1, 0, 0, 0, 0), (31, .goto 4, 0, 35, 0, 0), (34, .iconst 0, 0, 0, 0, 0), (35, .istore 4, 0, 0, 0, 0), (37, .aload_n 0, 0, 0, 0, 0), (38, .iload_n 1, 0, 0, 0, 0), (39, .invokestatic 347, 9017, 3633, 1, 0), (42, .ifCond .eq 10, 0, 52, 0, 0), (45, .iload_n 2, 0, 0, 0, 0), (46, .invokestatic 347, 9017, 3633, 1, 0), (49, .ifCond .ne 7, 0, 56, 0, 0), (52, .iconst 1, 0, 0, 0, 0), (53, .goto 26, 0, 79, 0, 0), (56, .iload 4, 0, 0, 0, 0), (58, .ifCond .ne 7, 0, 65, 0, 0), (61, .iconst 2, 0, 0, 0, 0), (62, .goto 17, 0, 79, 0, 0), (65, .aload_n 0, 0, 0, 0, 0), (66, .getfield 33, 8089, 14, 10, 0), (69, .iload_n 2, 0, 0, 0, 0), (70, .baload, 0, 0, 0, 0), (71, .ifCond .ne 7, 0, 78, 0, 0), (74, .iconst 3, 0, 0, 0, 0), (75, .goto 4, 0, 79, 0, 0), (78, .iconst 0, 0, 0, 0, 0), (79, .invokevirtual 324, 8221, 3614, 1, 14), (82, .ifCond .eq 5, 0, 87, 0, 0), (85, .iconst 0, 0, 0, 0, 0), (86, .ireturn, 0, 0, 0, 0), (87, .aload_n 0, 0, 0, 0, 0), (88, .bipush 61, 0, 0, 0, 0), (90, .putfield 37, 8090, 14, 11, 0), (93, .iload_n 3, 0, 0, 0, 0), (94, .bipush 45, 0, 0, 0, 0), (96, .if_icmp .ne 13, 0, 109, 0, 0), (99, .aload_n 0, 0, 0, 0, 0), (100, .bipush 60, 0, 0, 0, 0), (102, .iload_n 2, 0, 0, 0, 0), (103, .invokevirtual 208, 10110, 3664, 2, 14), (106, .goto 27, 0, 133, 0, 0), (109, .iload_n 3, 0, 0, 0, 0), (110, .bipush 98, 0, 0, 0, 0), (112, .if_icmp .ne 13, 0, 125, 0, 0), (115, .aload_n 0, 0, 0, 0, 0), (116, .bipush 60, 0, 0, 0, 0), (118, .iload_n 2, 0, 0, 0, 0), (119, .invokevirtual 420, 10118, 3732, 2, 14), (122, .goto 11, 0, 133, 0, 0), (125, .aload_n 0, 0, 0, 0, 0), (126, .bipush 60, 0, 0, 0, 0), (128, .iload_n 2, 0, 0, 0, 0), (129, .iload_n 3, 0, 0, 0, 0), (130, .invokevirtual 423, 10122, 3693, 3, 14), (133, .istore 5, 0, 0, 0, 0), (135, .aload_n 0, 0, 0, 0, 0), (136, .bipush 60, 0, 0, 0, 0), (138, .putfield 37, 8090, 14, 11, 0), (141, .aload_n 0, 0, 0, 0, 0), (142, .iload_n 1, 0, 0, 0, 0), (143, .iload 5, 0, 0, 0, 0), (145, .iconst 4, 0, 0, 0, 0), (146, .iconst 5, 0, 0, 0, 0), (147, .invokevirtual 410, 10053, 3652, 4, 14), (150, .ireturn, 0, 0, 0, 0)]
noncomputable def bk_X12_arcs : List (Nat × bO) := []
noncomputable def bk_X12_area : List (Nat × bO) := [(0, .aload_n 0, 0, 0, 0, 0), (1, .aload_n 0, 0, 0, 0, 0), (2, .iload_n 1, 0, 0, 0, 0), (3, .iload_n 2, 0, 0, 0, 0), (4, .iload_n 3, 0, 0, 0, 0), (5, .iload 4, 0, 0, 0, 0), (7, .invokevirtual 534, 11066, 3665, 4, 14), (10, .invokevirtual 324, 8221, 3614, 1, 14), (13, .ifCond .eq 5, 0, 18, 0, 0), (16, .iconst 0, 0, 0, 0, 0), (17, .ireturn, 0, 0, 0, 0), (18, .aload_n 0, 0, 0, 0, 0), (19, .bipush 60, 0, 0, 0, 0), (21, .iload_n 2, 0, 0, 0, 0), (22, .iload_n 3, 0, 0, 0, 0), (23, .iload 4, 0, 0, 0, 0), (25, .invokevirtual 544, 11082, 3592, 4, 14), (28, .istore 5, 0, 0, 0, 0), (30, .aload_n 0, 0, 0, 0, 0), (31, .bipush 60, 0, 0, 0, 0), (33, .putfield 37, 8090, 14, 11, 0), (36, .aload_n 0, 0, 0, 0, 0), (37, .iload_n 1, 0, 0, 0, 0), (38, .iload 5, 0, 0, 0, 0), (40, .iconst 5, 0, 0, 0, 0), (41, .bipush 6, 0, 0, 0, 0), (43, .invokevirtual 410, 10053, 3652, 4, 14), (46, .ireturn, 0, 0, 0, 0)]
noncomputable def bk_X12_areas : List (Nat × bO) := []
noncomputable def bk_X12_becomes : List (Nat × bO) := [(0, .aload_n 0, 0, 0, 0, 0), (1, .getfield 341, 8104, 14, 25, 0), (4, .bipush 12, 0, 0, 0, 0), (6, .if_icmp .ne 113, 0, 119, 0, 0), (9, .aload_n 0, 0, 0, 0, 0), (10, .dup, 0, 0, 0, 0), (11, .getfield 341, 8104, 14, 25, 0), (14, .iconst 1, 0, 0, 0, 0), (15, .isub, 0, 0, 0, 0), (16, .putfield 341, 8104, 14, 25, 0), (19, .iconst 0, 0, 0, 0, 0), (20, .istore_n 3, 0, 0, 0, 0), (21, .iload_n 3, 0, 0, 0, 0), (22, .aload_n 0, 0, 0, 0, 0), (23, .getfield 341, 8104, 14, 25, 0), (26, .if_icmp .ge 93, 0, 119, 0, 0), (29, .aload_n 0, 0, 0, 0, 0), (30, .getfield 47, 8098, 14, 19, 0), (33, .iload_n 3, 0, 0, 0, 0), (34, .aload_n 0, 0, 0, 0, 0), (35, .getfield 47, 8098, 14, 19, 0), (38, .iload_n 3, 0, 0, 0, 0), (39, .iconst 1, 0, 0, 0, 0), (40, .iadd, 0, 0, 0, 0), (41, .iaload, 0, 0, 0, 0), (42, .iastore, 0, 0, 0, 0), (43, .aload_n 0, 0, 0, 0, 0), (44, .getfield 50, 8099, 14, 20, 0), (47, .iload_n 3, 0, 0, 0, 0), (48, .aload_n 0, 0, 0, 0, 0), (49, .getfield 50, 8099, 14, 20, 0), (52, .iload_n 3, 0, 0, 0, 0), (53, .iconst 1, 0, 0, 0, 0), (54, .iadd, 0, 0, 0, 0), (55, .baload, 0, 0, 0, 0), (56, .bastore, 0, 0, 0, 0), (57, .aload_n 0, 0, 0, 0, 0), (58, .getfield 53, 8100, 14, 21, 0), (61, .iload_n 3, 0, 0, 0, 0), (62, .aload_n 0, 0, 0, 0, 0), (63, .getfield 53, 8100, 14, 21, 0), (66, .iload_n 3, 0, 0, 0, 0), (67, .iconst 1, 0, 0, 0, 0), (68, .iadd, 0, 0, 0, 0), (69, .laload, 0, 0, 0, 0), (70, .lastore, 0, 0, 0, 0), (71, .aload_n 0, 0, 0, 0, 0), (72, .getfield 56, 8101, 14, 22, 0), (75, .iload_n 3, 0, 0, 0, 0), (76, .aload_n 0, 0, 0, 0, 0), (77, .getfield 56, 8101, 14, 22, 0), (80, .iload_n 3, 0, 0, 0, 0), (81, .iconst 1, 0, 0, 0, 0), (82, .iadd, 0, 0, 0, 0), (83, .laload, 0, 0, 0, 0), (84, .lastore, 0, 0, 0, 0), (85, .aload_n 0, 0, 0, 0, 0), (86, .getfield 59, 8102, 14, 23, 0), (89, .iload_n 3, 0, 0, 0, 0), (90, .aload_n 0, 0, 0, 0, 0), (91, .getfield 59, 8102, 14, 23, 0), (94, .iload_n 3, 0, 0, 0, 0), (95, .iconst 1, 0, 0, 0, 0), (96, .iadd, 0, 0, 0, 0), (97, .laload, 0, 0, 0, 0), (98, .lastore, 0, 0, 0, 0), (99, .aload_n 0, 0, 0, 0, 0), (100, .getfield 62, 8103, 14, 24, 0), (103, .iload_n 3, 0, 0, 0, 0), (104, .aload_n 0, 0, 0, 0, 0), (105, .getfield 62, 8103, 14, 24, 0), (108, .iload_n 3, 0, 0, 0, 0), (109, .iconst 1, 0, 0, 0, 0), (110, .iadd, 0, 0, 0, 0), (111, .laload, 0, 0, 0, 0), (112, .lastore, 0, 0, 0, 0), (113, .iinc 3 1, 0, 0, 0, 0), (116, .goto (-95), 0, 21, 0, 0), (119, .aload_n 0, 0, 0, 0, 0), (120, .getfield 47, 8098, 14, 19, 0), (123, .aload_n 0, 0, 0, 0, 0), (124, .getfield 341, 8104, 14, 25, 0), (127, .iload_n 1, 0, 0, 0, 0), (128, .iastore, 0, 0, 0, 0), (129, .aload_n 0, 0, 0, 0, 0), (130, .getfield 50, 8099, 14, 20, 0), (133, .aload_n 0, 0, 0, 0, 0), (134, .getfield 341, 8104, 14, 25, 0), (137, .aload_n 0, 0, 0, 0, 0), (138, .getfield 33, 8089, 14, 10, 0), (141, .iload_n 1, 0, 0, 0, 0), (142, .baload, 0, 0, 0, 0), (143, .bastore, 0, 0, 0, 0), (144, .aload_n 0, 0, 0, 0, 0), (145, .getfield 53, 8100, 14, 21, 0), (148, .aload_n 0, 0, 0, 0, 0), (149, .getfield 341, 8104, 14, 25, 0), (152, .aload_n 0, 0, 0, 0, 0), (153, .getfield 21, 8085, 14, 6, 0), (156, .iload_n 1, 0, 0, 0, 0), (157, .laload, 0, 0, 0, 0), (158, .lastore, 0, 0, 0, 0), (159, .aload_n 0, 0, 0, 0, 0), (160, .getfield 56, 8101, 14, 22, 0), (163, .aload_n 0, 0, 0, 0, 0), (164, .getfield 341, 8104, 14, 25, 0), (167, .aload_n 0, 0, 0, 0, 0), (168, .getfield 24, 8086, 14, 7, 0), (171, .iload_n 1, 0, 0, 0, 0), (172, .laload, 0, 0, 0, 0), (173, .lastore, 0, 0, 0, 0), (174, .aload_n 0, 0, 0, 0, 0), (175, .getfield 59, 8102, 14, 23, 0), (178, .aload_n 0, 0, 0, 0, 0), (179, .getfield 341, 8104, 14, 25, 0), (182, .aload_n 0, 0, 0, 0, 0), (183, .getfield 27, 8087, 14, 8, 0), (186, .iload_n 1, 0, 0, 0, 0), (187, .laload, 0, 0, 0, 0), (188, .lastore, 0, 0, 0, 0), (189, .aload_n 0, 0, 0, 0, 0), (190, .getfield 62, 8103, 14, 24, 0), (193, .aload_n 0, 0, 0, 0, 0), (194, .getfield 341, 8104, 14, 25, 0), (197, .aload_n 0, 0, 0, 0, 0), (198, .getfield 30, 8088, 14, 9, 0), (201, .iload_n 1, 0, 0, 0, 0), (202, .laload, 0, 0, 0, 0), (203, .lastore, 0, 0, 0, 0), (204, .aload_n 0, 0, 0, 0, 0), (205, .dup, 0, 0, 0, 0), (206, .getfield 341, 8104, 14, 25, 0), (209, .iconst 1, 0, 0, 0, 0), (210, .iadd, 0, 0, 0, 0), (211, .putfield 341, 8104, 14, 25, 0), (214, .aload_n 0, 0, 0, 0, 0), (215, .getfield 33, 8089, 14, 10, 0), (218, .iload_n 1, 0, 0, 0, 0), (219, .iconst 1, 0, 0, 0, 0), (220, .bastore, 0, 0, 0, 0), (221, .aload_n 0, 0, 0, 0, 0), (222, .iload_n 2, 0, 0, 0, 0), (223, .iload_n 1, 0, 0, 0, 0), (224, .invokevirtual 235, 9084, 3718, 2, 14), (227, .aload_n 0, 0, 0, 0, 0), (228, .iload_n 1, 0, 0, 0, 0), (229, .invokevirtual 344, 9088, 3634, 1, 14), (232, .ireturn, 0, 0, 0, 0)]
noncomputable def bk_X12_bounds : List (Nat × bO) := [(0, .aload_n 0, 0, 0, 0, 0), (1, .aload_n 0, 0, 0, 0, 0), (2, .iload_n 1, 0, 0, 0, 0), (3, .iload_n 2, 0, 0, 0, 0), (4, .iload_n 3, 0, 0, 0, 0), (5, .iload 4, 0, 0, 0, 0), (7, .invokevirtual 534, 11066, 3665, 4, 14), (10, .invokevirtual 324, 8221, 3614, 1, 14), (13, .ifCond .eq 5, 0, 18, 0, 0), (16, .iconst 0, 0, 0, 0, 0), (17, .ireturn, 0, 0, 0, 0), (18, .aload_n 0, 0, 0, 0, 0), (19, .bipush 60, 0, 0, 0, 0), (21, .iload_n 2, 0, 0, 0, 0), (22, .iload_n 3, 0, 0, 0, 0), (23, .iload 4, 0, 0, 0, 0), (25, .iload 5, 0, 0, 0, 0), (27, .invokevirtual 538, 11070, 3613, 5, 14), (30, .istore 6, 0, 0, 0, 0), (32, .aload_n 0, 0, 0, 0, 0), (33, .bipush 60, 0, 0, 0, 0), (35, .putfield 37, 8090, 14, 11, 0), (38, .aload_n 0, 0, 0, 0, 0), (39, .iload_n 1, 0, 0, 0, 0), (40, .iload 6, 0, 0, 0, 0), (42, .iconst 5, 0, 0, 0, 0), (43, .bipush 6, 0, 0, 0, 0), (45, .invokevirtual 410, 10053, 3652, 4, 14), (48, .ireturn, 0, 0, 0, 0)]
noncomputable def bk_X12_canBe0 : List (Nat × bO) := []
noncomputable def bk_X12_canCut : List (Nat × bO) := []
noncomputable def bk_X12_checksum : List (Nat × bO) := [(0, .aload_n 0, 0, 0, 0, 0), (1, .iconst 0, 0, 0, 0, 0), (2, .putfield 141, 8082, 14, 3, 0), (5, .ldc2_w 559, 11108, 0, 0, 217), (8, .aload_n 0, 0, 0, 0, 0), (9, .getfield 17, 8081, 14, 2, 0), (12, .i2l, 0, 0, 0, 0), (13, .ladd, 0, 0, 0, 0), (14, .lstore_n 1, 0, 0, 0, 0), (15, .iconst 0, 0, 0, 0, 0), (16, .istore_n 3, 0, 0, 0, 0), (17, .iload_n 3, 0, 0, 0, 0), (18, .bipush 10, 0, 0, 0, 0), (20, .if_icmp .ge 78, 0, 98, 0, 0), (23, .ldc2_w 557, 11109, 0, 0, 31), (26, .lload_n 1, 0, 0, 0, 0), (27, .lmul, 0, 0, 0, 0), (28, .aload_n 0, 0, 0, 0, 0), (29, .getfield 33, 8089, 14, 10, 0), (32, .iload_n 3, 0, 0, 0, 0), (33, .baload, 0, 0, 0, 0), (34, .ifCond .eq 7, 0, 41, 0, 0), (37, .lconst 1, 0, 0, 0, 0), (38, .goto 4, 0, 42, 0, 0), (41, .lconst 0, 0, 0, 0, 0), (42, .ladd, 0, 0, 0, 0), (43, .lstore_n 1, 0, 0, 0, 0), (44, .aload_n 0, 0, 0, 0, 0), (45, .getfield 33, 8089, 14, 10, 0), (48, .iload_n 3, 0, 0, 0, 0), (49, .baload, 0, 0, 0, 0), (50, .ifCond .ne 6, 0, 56, 0, 0), (53, .goto 39, 0, 92, 0, 0), (56, .aload_n 0, 0, 0, 0, 0), (57, .lload_n 1, 0, 0, 0, 0), (58, .aload_n 0, 0, 0, 0, 0), (59, .getfield 21, 8085, 14, 6, 0), (62, .iload_n 3, 0, 0, 0, 0), (63, .laload, 0, 0, 0, 0), (64, .aload_n 0, 0, 0, 0, 0), (65, .getfield 24, 8086, 14, 7, 0), (68, .iload_n 3, 0, 0, 0, 0), (69, .laload, 0, 0, 0, 0), (70, .invokevirtual 561, 11110, 3713, 3, 14), (73, .lstore_n 1, 0, 0, 0, 0), (74, .aload_n 0, 0, 0, 0, 0), (75, .lload_n 1, 0, 0, 0, 0), (76, .aload_n 0, 0, 0, 0, 0), (77, .getfield 27, 8087, 14, 8, 0), (80, .iload_n 3, 0, 0, 0, 0), (81, .laload, 0, 0, 0, 0), (82, .aload_n 0, 0, 0, 0, 0), (83, .getfield 30, 8088, 14, 9, 0), (86, .iload_n 3, 0, 0, 0, 0), (87, .laload, 0, 0, 0, 0), (88, .invokevirtual 561, 11110, 3713, 3, 14), (91, .lstore_n 1, 0, 0, 0, 0), (92, .iinc 3 1, 0, 0, 0, 0), (95, .goto (-78), 0, 17, 0, 0), (98, .iconst 0, 0, 0, 0, 0), (99, .istore_n 3, 0, 0, 0, 0), (100, .iload_n 3, 0, 0, 0, 0), (101, .aload_n 0, 0, 0, 0, 0), (102, .getfield 327, 8096, 14, 17, 0), (105, .if_icmp .ge 23, 0, 128, 0, 0), (108, .ldc2_w 557, 11109, 0, 0, 31), (111, .lload_n 1, 0, 0, 0, 0), (112, .lmul, 0, 0, 0, 0), (113, .aload_n 0, 0, 0, 0, 0), (114, .getfield 40, 8094, 14, 15, 0), (117, .iload_n 3, 0, 0, 0, 0), (118, .caload, 0, 0, 0, 0), (119, .i2l, 0, 0, 0, 0), (120, .ladd, 0, 0, 0, 0), (121, .lstore_n 1, 0, 0, 0, 0), (122, .iinc 3 1, 0, 0, 0, 0), (125, .goto (-25), 0, 100, 0, 0), (128, .lload_n 1, 0, 0, 0, 0), (129, .lreturn, 0, 0, 0, 0)]
noncomputable def bk_X12_compare : List (Nat × bO) := [(0, .aload_n 0, 0, 0, 0, 0), (1, .aload_n 0, 0, 0, 0, 0), (2, .iload_n 1, 0, 0, 0, 0), (3, .iload_n 1, 0, 0, 0, 0), (4, .iload_n 2, 0, 0, 0, 0), (5, .invokevirtual 369, 9157, 3668, 3, 14), (8, .invokevirtual 324, 8221, 3614, 1, 14), (11, .ifCond .eq 5, 0, 16, 0, 0), (14, .iconst 0, 0, 0, 0, 0), (15, .ireturn, 0, 0, 0, 0), (16, .aload_n 0, 0, 0, 0, 0), (17, .iload_n 1, 0, 0, 0, 0), (18, .invokevirtual 344, 9088, 3634, 1, 14), (21, .ifCond .eq 45, 0, 66, 0, 0), (24, .aload_n 0, 0, 0, 0, 0), (25, .iload_n 2, 0, 0, 0, 0), (26, .invokevirtual 344, 9088, 3634, 1, 14), (29, .ifCond .eq 37, 0, 66, 0, 0), (32, .aload_n 0, 0, 0, 0, 0), (33, .getfield 21, 8085, 14, 6, 0), (36, .iload_n 1, 0, 0, 0, 0), (37, .laload, 0, 0, 0, 0), (38, .aload_n 0, 0, 0, 0, 0), (39, .getfield 24, 8086, 14, 7, 0), (42, .iload_n 1, 0, 0, 0, 0), (43, .laload, 0, 0, 0, 0), (44, .aload_n 0, 0, 0, 0, 0), (45, .getfield 21, 8085, 14, 6, 0), (48, .iload_n 2, 0, 0, 0, 0), (49, .laload, 0, 0, 0, 0), (50, .aload_n 0, 0, 0, 0, 0), (51, .getfield 24, 8086, 14, 7, 0), (54, .iload_n 2, 0, 0, 0, 0), (55, .laload, 0, 0, 0, 0), (56, .invokestatic 214, 9165, 3671, 4, 0), (59, .ifCond .ne 7, 0, 66, 0, 0), (62, .iconst 1, 0, 0, 0, 0), (63, .goto 4, 0, 67, 0, 0), (66, .iconst 0, 0, 0, 0, 0), (67, .istore_n 3, 0, 0, 0, 0), (68, .aload_n 0, 0, 0, 0, 0), (69, .iload_n 1, 0, 0, 0, 0), (70, .iload_n 2, 0, 0, 0, 0), (71, .invokevirtual 390, 9213, 3632, 2, 14), (74, .ifCond .eq 7, 0, 81, 0, 0), (77, .iconst (-1), 0, 0, 0, 0), (78, .goto 25, 0, 103, 0, 0), (81, .aload_n 0, 0, 0, 0, 0), (82, .iload_n 2, 0, 0, 0, 0), (83, .iload_n 1, 0, 0, 0, 0), (84, .invokevirtual 390, 9213, 3632, 2, 14), (87, .ifCond .eq 7, 0, 94, 0, 0), (90, .iconst 1, 0, 0, 0, 0), (91, .goto 12, 0, 103, 0, 0), (94, .iload_n 3, 0, 0, 0, 0), (95, .ifCond .eq 7, 0, 102, 0, 0), (98, .iconst 0, 0, 0, 0, 0), (99, .goto 4, 0, 103, 0, 0), (102, .iconst 2, 0, 0, 0, 0), (103, .ireturn, 0, 0, 0, 0)]
noncomputable def bk_X12_compares : List (Nat × bO) := []
noncomputable def bk_X12_constant : List (Nat × bO) := [(0, .aload_n 0, 0, 0, 0, 0), (1, .iload_n 1, 0, 0, 0, 0), (2, .invokestatic 347, 9017, 3633, 1, 0), (5, .ifCond .ne 7, 0, 12, 0, 0), (8, .iconst 1, 0, 0, 0, 0), (9, .goto 20, 0, 29, 0, 0), (12, .iload_n 2, 0, 0, 0, 0), (13, .bipush 112, 0, 0, 0, 0), (15, .if_icmp .eq 13, 0, 28, 0, 0), (18, .iload_n 2, 0, 0, 0, 0), (19, .bipush 101, 0, 0, 0, 0), (21, .if_icmp .eq 7, 0, 28, 0, 0), (24, .iconst 2, 0, 0, 0, 0), (25, .goto 4, 0, 29, 0, 0), (28, .iconst 0, 0, 0, 0, 0), (29, .invokevirtual 324, 8221, 3614, 1, 14), (32, .ifCond .eq 5, 0, 37, 0, 0), (35, .iconst 0, 0, 0, 0, 0), (36, .ireturn, 0, 0, 0, 0), (37, .aload_n 0, 0, 0, 0, 0), (38, .bipush 60, 0, 0, 0, 0), (40, .iload_n 2, 0, 0, 0, 0), (41, .bipush 112, 0, 0, 0, 0), (43, .if_icmp .ne 7, 0, 50, 0, 0), (46, .iconst 1, 0, 0, 0, 0), (47, .goto 4, 0, 51, 0, 0), (50, .iconst 0, 0, 0, 0, 0), (51, .invokevirtual 366, 9107, 3641, 2, 14), (54, .aload_n 0, 0, 0, 0, 0), (55, .iload_n 1, 0, 0, 0, 0), (56, .bipush 60, 0, 0, 0, 0), (58, .invokevirtual 355, 9080, 3593, 2, 14), (61, .ireturn, 0, 0, 0, 0)]
noncomputable def bk_X12_copies : List (Nat × bO) := [(0, .iconst 0, 0, 0, 0, 0), (1, .istore_n 3, 0, 0, 0, 0), (2, .iload_n 3, 0, 0, 0, 0), (3, .aload_n 0, 0, 0, 0, 0), (4, .getfield 13, 8080, 14, 1, 0), (7, .iload_n 1, 0, 0, 0, 0), (8, .iaload, 0, 0, 0, 0), (9, .if_icmp .ge 21, 0, 30, 0, 0), (12, .aload_n 0, 0, 0, 0, 0), (13, .iload_n 2, 0, 0, 0, 0), (14, .iload_n 3, 0, 0, 0, 0), (15, .aload_n 0, 0, 0, 0, 0), (16, .iload_n 1, 0, 0, 0, 0), (17, .iload_n 3, 0, 0, 0, 0), (18, .invokevirtual 105, 9043, 3646, 2, 14), (21, .invokevirtual 95, 9027, 3644, 3, 14), (24, .iinc 3 1, 0, 0, 0, 0), (27, .goto (-25), 0, 2, 0, 0), (30, .aload_n 0, 0, 0, 0, 0), (31, .getfield 13, 8080, 14, 1, 0), (34, .iload_n 2, 0, 0, 0, 0), (35, .aload_n 0, 0, 0, 0, 0), (36, .getfield 13, 8080, 14, 1, 0), (39, .iload_n 1, 0, 0, 0, 0), (40, .iaload, 0, 0, 0, 0), (41, .iastore, 0, 0, 0, 0), (42, .return_, 0, 0, 0, 0)]
noncomputable def bk_X12_crossed : List (Nat × bO) := []
noncomputable def bk_X12_cutsInto : List (Nat × bO) := []
noncomputable def bk_X12_decide : List (Nat × bO) := [(0, .iload_n 3, 0, 0, 0, 0), (1, .invokestatic 347, 9017, 3633, 1, 0), (4, .ifCond .eq 21, 0, 25, 0, 0), (7, .iload_n 1, 0, 0, 0, 0), (8, .invokestatic 465, 10164, 3631, 1, 0), (11, .ifCond .eq 14, 0, 25, 0, 0), (14, .iload_n 2, 0, 0, 0, 0), (15, .invokestatic 465, 10164, 3631, 1, 0), (18, .ifCond .eq 7, 0, 25, 0, 0), (21, .iconst 1, 0, 0, 0, 0), (22, .goto 4, 0, 26, 0, 0), (25, .iconst 0, 0, 0, 0, 0), (26, .istore 4, 0, 0, 0, 0), (28, .aload_n 0, 0, 0, 0, 0), (29, .iload 4, 0, 0, 0, 0), (31, .ifCond .ne 7, 0, 38, 0, 0), (34, .iconst 1, 0, 0, 0, 0), (35, .goto 35, 0, 70, 0, 0), (38, .aload_n 0, 0, 0, 0, 0), (39, .getfield 86, 8112, 14, 33, 0), (42, .iload_n 1, 0, 0, 0, 0), (43, .baload, 0, 0, 0, 0), (44, .ifCond .eq 21, 0, 65, 0, 0), (47, .aload_n 0, 0, 0, 0, 0), (48, .getfield 86, 8112, 14, 33, 0), (51, .iload_n 2, 0, 0, 0, 0), (52, .baload, 0, 0, 0, 0), (53, .ifCond .eq 12, 0, 65, 0, 0), (56, .aload_n 0, 0, 0, 0, 0), (57, .getfield 33, 8089, 14, 10, 0), (60, .iload_n 3, 0, 0, 0, 0), (61, .baload, 0, 0, 0, 0), (62, .ifCond .ne 7, 0, 69, 0, 0), (65, .iconst 2, 0, 0, 0, 0), (66, .goto 4, 0, 70, 0, 0), (69, .iconst 0, 0, 0, 0, 0), (70, .invokevirtual 324, 8221, 3614, 1, 14), (73, .ifCond .eq 5, 0, 78, 0, 0), (76, .iconst 0, 0, 0, 0, 0), (77, .ireturn, 0, 0, 0, 0), (78, .aload_n 0, 0, 0, 0, 0), (79, .getfield 17, 8081, 14, 2, 0), (82, .istore 5, 0, 0, 0, 0), (84, .iconst (-1), 0, 0, 0, 0), (85, .istore 6, 0, 0, 0, 0), (87, .iconst 0, 0, 0, 0, 0), (88, .istore 7, 0, 0, 0, 0), (90, .iload 7, 0, 0, 0, 0), (92, .bipush 10, 0, 0, 0, 0), (94, .if_icmp .gt 120, 0, 214, 0, 0), (97, .iload 6, 0, 0, 0, 0), (99, .ifCond .ge 115, 0, 214, 0, 0), (102, .aload_n 0, 0, 0, 0, 0), (103, .iload 7, 0, 0, 0, 0), (105, .putfield 17, 8081, 14, 2, 0), (108, .aload_n 0, 0, 0, 0, 0), (109, .bipush 62, 0, 0, 0, 0), (111, .putfield 37, 8090, 14, 11, 0), (114, .aload_n 0, 0, 0, 0, 0), (115, .bipush 60, 0, 0, 0, 0), (117, .iload_n 1, 0, 0, 0, 0), (118, .iload_n 3, 0, 0, 0, 0), (119, .iload_n 3, 0, 0, 0, 0), (120, .iconst 0, 0, 0, 0, 0), (121, .invokevirtual 487, 10215, 3725, 5, 14), (124, .ifCond .ne 7, 0, 131, 0, 0), (127, .iconst 1, 0, 0, 0, 0), (128, .goto 4, 0, 132, 0, 0), (131, .iconst 0, 0, 0, 0, 0), (132, .istore 8, 0, 0, 0, 0), (134, .aload_n 0, 0, 0, 0, 0), (135, .bipush 62, 0, 0, 0, 0), (137, .putfield 37, 8090, 14, 11, 0), (140, .aload_n 0, 0, 0, 0, 0), (141, .bipush 61, 0, 0, 0, 0), (143, .iload_n 2, 0, 0, 0, 0), (144, .iload_n 3, 0, 0, 0, 0), (145, .iload_n 3, 0, 0, 0, 0), (146, .iconst 0, 0, 0, 0, 0), (147, .invokevirtual 487, 10215, 3725, 5, 14), (150, .ifCond .ne 12, 0, 162, 0, 0), (153, .iload 8, 0, 0, 0, 0), (155, .ifCond .eq 7, 0, 162, 0, 0), (158, .iconst 1, 0, 0, 0, 0), (159, .goto 4, 0, 163, 0, 0), (162, .iconst 0, 0, 0, 0, 0), (163, .istore 8, 0, 0, 0, 0), (165, .iload 8, 0, 0, 0, 0), (167, .ifCond .eq 41, 0, 208, 0, 0), (170, .aload_n 0, 0, 0, 0, 0), (171, .bipush 60, 0, 0, 0, 0), (173, .bipush 61, 0, 0, 0, 0), (175, .invokevirtual 390, 9213, 3632, 2, 14), (178, .ifCond .eq 8, 0, 186, 0, 0), (181, .iload 7, 0, 0, 0, 0), (183, .goto 23, 0, 206, 0, 0), (186, .aload_n 0, 0, 0, 0, 0), (187, .bipush 61, 0, 0, 0, 0), (189, .bipush 60, 0, 0, 0, 0), (191, .invokevirtual 390, 9213, 3632, 2, 14), (194, .ifCond .eq 11, 0, 205, 0, 0), (197, .bipush 20, 0, 0, 0, 0), (199, .iload 7, 0, 0, 0, 0), (201, .iadd, 0, 0, 0, 0), (202, .goto 4, 0, 206, 0, 0), (205, .iconst (-1), 0, 0, 0, 0), (206, .istore 6, 0, 0, 0, 0), (208, .iinc 7 1, 0, 0, 0, 0), (211, .goto (-121), 0, 90, 0, 0), (214, .aload_n 0, 0, 0, 0, 0), (215, .iload 5, 0, 0, 0, 0), (217, .putfield 17, 8081, 14, 2, 0), (220, .aload_n 0, 0, 0, 0, 0), (221, .bipush 60, 0, 0, 0, 0), (223, .putfield 37, 8090, 14, 11, 0), (226, .iload 6, 0, 0, 0, 0), (228, .ireturn, 0, 0, 0, 0)]
noncomputable def bk_X12_deep : List (Nat × bO) := [(0, .aload_n 0, 0, 0, 0, 0), (1, .iload_n 1, 0, 0, 0, 0), (2, .aload_n 0, 0, 0, 0, 0), (3, .getfield 17, 8081, 14, 2, 0), (6, .bipush 54, 0, 0, 0, 0), (8, .isub, 0, 0, 0, 0), (9, .invokevirtual 166, 9047, 3722, 2, 14), (12, .istore 4, 0, 0, 0, 0), (14, .aload_n 0, 0, 0, 0, 0), (15, .iload_n 1, 0, 0, 0, 0), (16, .iconst 1, 0, 0, 0, 0), (17, .iload_n 2, 0, 0, 0, 0), (18, .iload_n 3, 0, 0, 0, 0), (19, .invokevirtual 224, 9062, 3719, 4, 14), (22, .ireturn, 0, 0, 0, 0)]
noncomputable def bk_X12_define_0 : List (Nat × bO) := [(0, .aload_n 0, 0, 0, 0, 0), (1, .iload_n 1, 0, 0, 0, 0), (2, .invokestatic 465, 10164, 3631, 1, 0), (5, .ifCond .eq 7, 0, 12, 0, 0), (8, .iconst 0, 0, 0, 0, 0), (9, .goto 4, 0, 13, 0, 0), (12, .iconst 1, 0, 0, 0, 0), (13, .invokevirtual 324, 8221, 3614, 1, 14), (16, .ifCond .eq 5, 0, 21, 0, 0), (19, .iconst 0, 0, 0, 0, 0), (20, .ireturn, 0, 0, 0, 0), (21, .aload_n 0, 0, 0, 0, 0), (22, .iconst 0, 0, 0, 0, 0), (23, .putfield 431, 8113, 14, 34, 0), (26, .aload_n 0, 0, 0, 0, 0), (27, .iconst 0, 0, 0, 0, 0), (28, .putfield 444, 8114, 14, 35, 0), (31, .aload_n 0, 0, 0, 0, 0), (32, .iconst (-1), 0, 0, 0, 0), (33, .putfield 434, 8115, 14, 36, 0), (36, .aload_n 0, 0, 0, 0, 0), (37, .getfield 83, 8111, 14, 32, 0), (40, .iconst 4, 0, 0, 0, 0), (41, .iconst 0, 0, 0, 0, 0), (42, .iastore, 0, 0, 0, 0), (43, .aload_n 0, 0, 0, 0, 0), (44, .invokevirtual 462, 10167, 3691, 0, 14), (47, .istore_n 2, 0, 0, 0, 0), (48, .iload_n 2, 0, 0, 0, 0), (49, .ifCond .lt 19, 0, 68, 0, 0), (52, .aload_n 0, 0, 0, 0, 0), (53, .getfield 431, 8113, 14, 34, 0), (56, .aload_n 0, 0, 0, 0, 0), (57, .getfield 327, 8096, 14, 17, 0), (60, .if_icmp .ge 8, 0, 68, 0, 0), (63, .aload_n 0, 0, 0, 0, 0), (64, .invokevirtual 456, 10191, 3615, 0, 14), (67, .istore_n 2, 0, 0, 0, 0), (68, .aload_n 0, 0, 0, 0, 0), (69, .iconst 0, 0, 0, 0, 0), (70, .putfield 327, 8096, 14, 17, 0), (73, .iload_n 2, 0, 0, 0, 0), (74, .ifCond .ge 10, 0, 84, 0, 0), (77, .iconst (-1), 0, 0, 0, 0), (78, .aload_n 0, 0, 0, 0, 0), (79, .getfield 434, 8115, 14, 36, 0), (82, .isub, 0, 0, 0, 0), (83, .ireturn, 0, 0, 0, 0), (84, .sipush 256, 0, 0, 0, 0), (87, .istore_n 3, 0, 0, 0, 0), (88, .bipush 64, 0, 0, 0, 0), (90, .iload_n 1, 0, 0, 0, 0), (91, .imul, 0, 0, 0, 0), (92, .istore 4, 0, 0, 0, 0), (94, .iconst 0, 0, 0, 0, 0), (95, .istore 5, 0, 0, 0, 0), (97, .iload 5, 0, 0, 0, 0), (99, .aload_n 0, 0, 0, 0, 0), (100, .getfield 83, 8111, 14, 32, 0), (103, .iconst 4, 0, 0, 0, 0), (104, .iaload, 0, 0, 0, 0), (105, .if_icmp .ge 140, 0, 245, 0, 0), (108, .aload_n 0, 0, 0, 0, 0), (109, .getfield 65, 8105, 14, 26, 0), (112, .iload 4, 0, 0, 0, 0), (114, .iload 5, 0, 0, 0, 0), (116, .iadd, 0, 0, 0, 0), (117, .aload_n 0, 0, 0, 0, 0), (118, .getfield 65, 8105, 14, 26, 0), (121, .iload_n 3, 0, 0, 0, 0), (122, .iload 5, 0, 0, 0, 0), (124, .iadd, 0, 0, 0, 0), (125, .caload, 0, 0, 0, 0), (126, .castore, 0, 0, 0, 0), (127, .aload_n 0, 0, 0, 0, 0), (128, .getfield 68, 8106, 14, 27, 0), (131, .iload 4, 0, 0, 0, 0), (133, .iload 5, 0, 0, 0, 0), (135, .iadd, 0, 0, 0, 0), (136, .aload_n 0, 0, 0, 0, 0), (137, .getfield 68, 8106, 14, 27, 0), (140, .iload_n 3, 0, 0, 0, 0), (141, .iload 5, 0, 0, 0, 0), (143, .iadd, 0, 0, 0, 0), (144, .iaload, 0, 0, 0, 0), (145, .iload_n 3, 0, 0, 0, 0), (146, .isub, 0, 0, 0, 0), (147, .iload 4, 0, 0, 0, 0), (149, .iadd, 0, 0, 0, 0), (150, .iastore, 0, 0, 0, 0), (151, .aload_n 0, 0, 0, 0, 0), (152, .getfield 71, 8107, 14, 28, 0), (155, .iload 4, 0, 0, 0, 0), (157, .iload 5, 0, 0, 0, 0), (159, .iadd, 0, 0, 0, 0), (160, .aload_n 0, 0, 0, 0, 0), (161, .getfield 65, 8105, 14, 26, 0), (164, .iload_n 3, 0, 0, 0, 0), (165, .iload 5, 0, 0, 0, 0), (167, .iadd, 0, 0, 0, 0), (168, .caload, 0, 0, 0, 0), (169, .bipush 94, 0, 0, 0, 0), (171, .if_icmp .ne 15, 0, 186, 0, 0), (174, .aload_n 0, 0, 0, 0, 0), (175, .getfield 71, 8107, 14, 28, 0), (178, .iload_n 3, 0, 0, 0, 0), (179, .iload 5, 0, 0, 0, 0), (181, .iadd, 0, 0, 0, 0), (182, .iaload, 0, 0, 0, 0), (183, .goto 17, 0, 200, 0, 0), (186, .aload_n 0, 0, 0, 0, 0), (187, .getfield 71, 8107, 14, 28, 0), (190, .iload_n 3, 0, 0, 0, 0), (191, .iload 5, 0, 0, 0, 0), (193, .iadd, 0, 0, 0, 0), (194, .iaload, 0, 0, 0, 0), (195, .iload_n 3, 0, 0, 0, 0), (196, .isub, 0, 0, 0, 0), (197, .iload 4, 0, 0, 0, 0), (199, .iadd, 0, 0, 0, 0), (200, .iastore, 0, 0, 0, 0), (201, .aload_n 0, 0, 0, 0, 0), (202, .getfield 77, 8109, 14, 30, 0), (205, .iload 4, 0, 0, 0, 0), (207, .iload 5, 0, 0, 0, 0), (209, .iadd, 0, 0, 0, 0), (210, .aload_n 0, 0, 0, 0, 0), (211, .getfield 77, 8109, 14, 30, 0), (214, .iload_n 3, 0, 0, 0, 0), (215, .iload 5, 0, 0, 0, 0), (217, .iadd, 0, 0, 0, 0), (218, .laload, 0, 0, 0, 0), (219, .lastore, 0, 0, 0, 0), (220, .aload_n 0, 0, 0, 0, 0), (221, .getfield 74, 8108, 14, 29, 0), (224, .iload 4, 0, 0, 0, 0), (226, .iload 5, 0, 0, 0, 0), (228, .iadd, 0, 0, 0, 0), (229, .aload_n 0, 0, 0, 0, 0), (230, .getfield 74, 8108, 14, 29, 0), (233, .iload_n 3, 0, 0, 0, 0), (234, .iload 5, 0, 0, 0, 0), (236, .iadd, 0, 0, 0, 0), (237, .iaload, 0, 0, 0, 0), (238, .iastore, 0, 0, 0, 0), (239, .iinc 5 1, 0, 0, 0, 0), (242, .goto (-145), 0, 97, 0, 0), (245, .aload_n 0, 0, 0, 0, 0), (246, .getfield 83, 8111, 14, 32, 0), (249, .iload_n 1, 0, 0, 0, 0)]
noncomputable def bk_X12_define_1 : List (Nat × bO) := [(250, .aload_n 0, 0, 0, 0, 0), (251, .getfield 83, 8111, 14, 32, 0), (254, .iconst 4, 0, 0, 0, 0), (255, .iaload, 0, 0, 0, 0), (256, .iastore, 0, 0, 0, 0), (257, .aload_n 0, 0, 0, 0, 0), (258, .getfield 80, 8110, 14, 31, 0), (261, .iload_n 1, 0, 0, 0, 0), (262, .iload_n 2, 0, 0, 0, 0), (263, .iload_n 3, 0, 0, 0, 0), (264, .isub, 0, 0, 0, 0), (265, .iload 4, 0, 0, 0, 0), (267, .iadd, 0, 0, 0, 0), (268, .iastore, 0, 0, 0, 0), (269, .aload_n 0, 0, 0, 0, 0), (270, .getfield 86, 8112, 14, 33, 0), (273, .iload_n 1, 0, 0, 0, 0), (274, .iconst 1, 0, 0, 0, 0), (275, .bastore, 0, 0, 0, 0), (276, .aload_n 0, 0, 0, 0, 0), (277, .getfield 444, 8114, 14, 35, 0), (280, .ireturn, 0, 0, 0, 0)]
noncomputable def bk_X12_define : List (Nat × bO) := bk_X12_define_0 ++ (bk_X12_define_1)
noncomputable def bk_X12_difference : List (Nat × bO) := []
noncomputable def bk_X12_digits : List (Nat × bO) := [(0, .aload_n 0, 0, 0, 0, 0), (1, .iconst 0, 0, 0, 0, 0), (2, .putfield 141, 8082, 14, 3, 0), (5, .aload_n 0, 0, 0, 0, 0), (6, .getfield 17, 8081, 14, 2, 0), (9, .ireturn, 0, 0, 0, 0)]
noncomputable def bk_X12_divide : List (Nat × bO) := [(0, .aload_n 0, 0, 0, 0, 0), (1, .aload_n 0, 0, 0, 0, 0), (2, .iload_n 1, 0, 0, 0, 0), (3, .iload_n 2, 0, 0, 0, 0), (4, .iload_n 3, 0, 0, 0, 0), (5, .invokevirtual 369, 9157, 3668, 3, 14), (8, .invokevirtual 324, 8221, 3614, 1, 14), (11, .ifCond .ne 19, 0, 30, 0, 0), (14, .aload_n 0, 0, 0, 0, 0), (15, .iload_n 1, 0, 0, 0, 0), (16, .bipush 47, 0, 0, 0, 0), (18, .iload_n 2, 0, 0, 0, 0), (19, .iload_n 3, 0, 0, 0, 0), (20, .invokevirtual 393, 9232, 3651, 4, 14), (23, .ifCond .eq 7, 0, 30, 0, 0), (26, .iconst 1, 0, 0, 0, 0), (27, .goto 4, 0, 31, 0, 0), (30, .iconst 0, 0, 0, 0, 0), (31, .ireturn, 0, 0, 0, 0)]
noncomputable def bk_X12_divides : List (Nat × bO) := []
noncomputable def bk_X12_ends : List (Nat × bO) := []
noncomputable def bk_X12_erase : List (Nat × bO) := [(0, .aload_n 0, 0, 0, 0, 0), (1, .iconst 0, 0, 0, 0, 0), (2, .putfield 141, 8082, 14, 3, 0), (5, .aload_n 0, 0, 0, 0, 0), (6, .getfield 327, 8096, 14, 17, 0), (9, .istore_n 1, 0, 0, 0, 0), (10, .aload_n 0, 0, 0, 0, 0), (11, .iconst 0, 0, 0, 0, 0), (12, .putfield 327, 8096, 14, 17, 0), (15, .iload_n 1, 0, 0, 0, 0), (16, .ireturn, 0, 0, 0, 0)]
noncomputable def bk_X12_extreme : List (Nat × bO) := []
noncomputable def bk_X12_fails : List (Nat × bO) := [(0, .aload_n 0, 0, 0, 0, 0), (1, .iload_n 1, 0, 0, 0, 0), (2, .putfield 141, 8082, 14, 3, 0), (5, .iload_n 1, 0, 0, 0, 0), (6, .ifCond .le 7, 0, 13, 0, 0), (9, .iconst 1, 0, 0, 0, 0), (10, .goto 4, 0, 14, 0, 0), (13, .iconst 0, 0, 0, 0, 0), (14, .ireturn, 0, 0, 0, 0)]
noncomputable def bk_X12_faults : List (Nat × bO) := [(0, .aload_n 0, 0, 0, 0, 0), (1, .getfield 434, 8115, 14, 36, 0), (4, .ifCond .ge 11, 0, 15, 0, 0), (7, .aload_n 0, 0, 0, 0, 0), (8, .aload_n 0, 0, 0, 0, 0), (9, .getfield 431, 8113, 14, 34, 0), (12, .putfield 434, 8115, 14, 36, 0), (15, .iconst (-1), 0, 0, 0, 0), (16, .ireturn, 0, 0, 0, 0)]
noncomputable def bk_X12_four : List (Nat × bO) := []
noncomputable def bk_X12_greatest : List (Nat × bO) := [(0, .aload_n 0, 0, 0, 0, 0), (1, .iload_n 1, 0, 0, 0, 0), (2, .iload_n 2, 0, 0, 0, 0), (3, .iload_n 3, 0, 0, 0, 0), (4, .iload 4, 0, 0, 0, 0), (6, .iconst 1, 0, 0, 0, 0), (7, .invokevirtual 541, 11062, 3594, 5, 14), (10, .ireturn, 0, 0, 0, 0)]
noncomputable def bk_X12_half : List (Nat × bO) := []
noncomputable def bk_X12_hasY : List (Nat × bO) := [(0, .aload_n 0, 0, 0, 0, 0), (1, .iload_n 1, 0, 0, 0, 0), (2, .invokestatic 465, 10164, 3631, 1, 0), (5, .ifCond .ne 7, 0, 12, 0, 0), (8, .iconst 1, 0, 0, 0, 0), (9, .goto 17, 0, 26, 0, 0), (12, .aload_n 0, 0, 0, 0, 0), (13, .getfield 86, 8112, 14, 33, 0), (16, .iload_n 1, 0, 0, 0, 0), (17, .baload, 0, 0, 0, 0), (18, .ifCond .eq 7, 0, 25, 0, 0), (21, .iconst 0, 0, 0, 0, 0), (22, .goto 4, 0, 26, 0, 0), (25, .iconst 2, 0, 0, 0, 0), (26, .invokevirtual 324, 8221, 3614, 1, 14), (29, .ifCond .ne 15, 0, 44, 0, 0), (32, .aload_n 0, 0, 0, 0, 0), (33, .iload_n 1, 0, 0, 0, 0), (34, .invokevirtual 468, 10203, 3620, 1, 14), (37, .ifCond .eq 7, 0, 44, 0, 0), (40, .iconst 1, 0, 0, 0, 0), (41, .goto 4, 0, 45, 0, 0), (44, .iconst 0, 0, 0, 0, 0), (45, .ireturn, 0, 0, 0, 0)]
noncomputable def bk_X12_hasYOf : List (Nat × bO) := []
noncomputable def bk_X12_held : List (Nat × bO) := [(0, .aload_n 0, 0, 0, 0, 0), (1, .iconst 0, 0, 0, 0, 0), (2, .putfield 141, 8082, 14, 3, 0), (5, .iconst 0, 0, 0, 0, 0), (6, .istore_n 1, 0, 0, 0, 0), (7, .iconst 0, 0, 0, 0, 0), (8, .istore_n 2, 0, 0, 0, 0), (9, .iload_n 2, 0, 0, 0, 0), (10, .bipush 10, 0, 0, 0, 0), (12, .if_icmp .ge 26, 0, 38, 0, 0), (15, .iload_n 1, 0, 0, 0, 0), (16, .aload_n 0, 0, 0, 0, 0), (17, .getfield 33, 8089, 14, 10, 0), (20, .iload_n 2, 0, 0, 0, 0), (21, .baload, 0, 0, 0, 0), (22, .ifCond .eq 7, 0, 29, 0, 0), (25, .iconst 1, 0, 0, 0, 0), (26, .goto 4, 0, 30, 0, 0), (29, .iconst 0, 0, 0, 0, 0), (30, .iadd, 0, 0, 0, 0), (31, .istore_n 1, 0, 0, 0, 0), (32, .iinc 2 1, 0, 0, 0, 0), (35, .goto (-26), 0, 9, 0, 0), (38, .iload_n 1, 0, 0, 0, 0), (39, .ireturn, 0, 0, 0, 0)]
noncomputable def bk_X12_high_ : List (Nat × bO) := [(0, .aload_n 0, 0, 0, 0, 0), (1, .aload_n 0, 0, 0, 0, 0), (2, .iload_n 1, 0, 0, 0, 0), (3, .invokevirtual 376, 9176, 3666, 1, 14), (6, .invokevirtual 324, 8221, 3614, 1, 14), (9, .ifCond .eq 7, 0, 16, 0, 0), (12, .iconst 0, 0, 0, 0, 0), (13, .goto 19, 0, 32, 0, 0), (16, .aload_n 0, 0, 0, 0, 0), (17, .aload_n 0, 0, 0, 0, 0), (18, .getfield 27, 8087, 14, 8, 0), (21, .iload_n 1, 0, 0, 0, 0), (22, .laload, 0, 0, 0, 0), (23, .aload_n 0, 0, 0, 0, 0), (24, .getfield 30, 8088, 14, 9, 0), (27, .iload_n 1, 0, 0, 0, 0), (28, .laload, 0, 0, 0, 0), (29, .invokevirtual 380, 9180, 3737, 2, 14), (32, .ireturn, 0, 0, 0, 0)]
noncomputable def bk_X12_high : List (Nat × bO) := [(0, .aload_n 0, 0, 0, 0, 0), (1, .getfield 27, 8087, 14, 8, 0), (4, .iload_n 1, 0, 0, 0, 0), (5, .lload_n 2, 0, 0, 0, 0), (6, .lastore, 0, 0, 0, 0), (7, .aload_n 0, 0, 0, 0, 0), (8, .getfield 30, 8088, 14, 9, 0), (11, .iload_n 1, 0, 0, 0, 0), (12, .lload 4, 0, 0, 0, 0), (14, .lastore, 0, 0, 0, 0), (15, .return_, 0, 0, 0, 0)]
noncomputable def bk_X12_holds0 : List (Nat × bO) := []
noncomputable def bk_X12_holdsNothing : List (Nat × bO) := []
noncomputable def bk_X12_in : List (Nat × bO) := [(0, .lload_n 0, 0, 0, 0, 0), (1, .lload_n 2, 0, 0, 0, 0), (2, .lcmp, 0, 0, 0, 0), (3, .ifCond .lt 14, 0, 17, 0, 0), (6, .lload_n 0, 0, 0, 0, 0), (7, .lload 4, 0, 0, 0, 0), (9, .lcmp, 0, 0, 0, 0), (10, .ifCond .gt 7, 0, 17, 0, 0), (13, .iconst 1, 0, 0, 0, 0), (14, .goto 4, 0, 18, 0, 0), (17, .iconst 0, 0, 0, 0, 0), (18, .ireturn, 0, 0, 0, 0)]
noncomputable def bk_X12_isAbove0 : List (Nat × bO) := []
noncomputable def bk_X12_isBelow : List (Nat × bO) := []
noncomputable def bk_X12_isBelow0 : List (Nat × bO) := []
noncomputable def bk_X12_isDigit : List (Nat × bO) := [(0, .iload_n 0, 0, 0, 0, 0), (1, .bipush 48, 0, 0, 0, 0), (3, .if_icmp .lt 13, 0, 16, 0, 0), (6, .iload_n 0, 0, 0, 0, 0), (7, .bipush 57, 0, 0, 0, 0), (9, .if_icmp .gt 7, 0, 16, 0, 0), (12, .iconst 1, 0, 0, 0, 0), (13, .goto 4, 0, 17, 0, 0), (16, .iconst 0, 0, 0, 0, 0), (17, .ireturn, 0, 0, 0, 0)]
noncomputable def bk_X12_isFormula : List (Nat × bO) := [(0, .iload_n 0, 0, 0, 0, 0), (1, .i2l, 0, 0, 0, 0), (2, .lconst 0, 0, 0, 0, 0), (3, .ldc2_w 259, 9128, 0, 0, 3), (6, .invokestatic 320, 8218, 3626, 3, 0), (9, .ireturn, 0, 0, 0, 0)]
noncomputable def bk_X12_isLess : List (Nat × bO) := []
noncomputable def bk_X12_isShelf : List (Nat × bO) := [(0, .iload_n 0, 0, 0, 0, 0), (1, .i2l, 0, 0, 0, 0), (2, .lconst 0, 0, 0, 0, 0), (3, .ldc2_w 339, 9020, 0, 0, 9), (6, .invokestatic 320, 8218, 3626, 3, 0), (9, .ireturn, 0, 0, 0, 0)]
noncomputable def bk_X12_isSingle : List (Nat × bO) := [(0, .aload_n 0, 0, 0, 0, 0), (1, .getfield 21, 8085, 14, 6, 0), (4, .iload_n 1, 0, 0, 0, 0), (5, .laload, 0, 0, 0, 0), (6, .aload_n 0, 0, 0, 0, 0), (7, .getfield 27, 8087, 14, 8, 0), (10, .iload_n 1, 0, 0, 0, 0), (11, .laload, 0, 0, 0, 0), (12, .lcmp, 0, 0, 0, 0), (13, .ifCond .ne 23, 0, 36, 0, 0), (16, .aload_n 0, 0, 0, 0, 0), (17, .getfield 24, 8086, 14, 7, 0), (20, .iload_n 1, 0, 0, 0, 0), (21, .laload, 0, 0, 0, 0), (22, .aload_n 0, 0, 0, 0, 0), (23, .getfield 30, 8088, 14, 9, 0), (26, .iload_n 1, 0, 0, 0, 0), (27, .laload, 0, 0, 0, 0), (28, .lcmp, 0, 0, 0, 0), (29, .ifCond .ne 7, 0, 36, 0, 0), (32, .iconst 1, 0, 0, 0, 0), (33, .goto 4, 0, 37, 0, 0), (36, .iconst 0, 0, 0, 0, 0), (37, .ireturn, 0, 0, 0, 0)]
noncomputable def bk_X12_isSound : List (Nat × bO) := [(0, .aload_n 0, 0, 0, 0, 0), (1, .iconst 0, 0, 0, 0, 0), (2, .putfield 141, 8082, 14, 3, 0), (5, .iconst 1, 0, 0, 0, 0), (6, .ireturn, 0, 0, 0, 0)]
noncomputable def bk_X12_isTooGreat : List (Nat × bO) := [(0, .aload_n 0, 0, 0, 0, 0), (1, .getfield 144, 8083, 14, 4, 0), (4, .ldc2_w 148, 9070, 0, 0, 10000000000000), (7, .lcmp, 0, 0, 0, 0), (8, .ifCond .ge 34, 0, 42, 0, 0), (11, .aload_n 0, 0, 0, 0, 0), (12, .getfield 144, 8083, 14, 4, 0), (15, .ldc2_w 150, 9079, 0, 0, -10000000000000), (18, .lcmp, 0, 0, 0, 0), (19, .ifCond .lt 23, 0, 42, 0, 0), (22, .aload_n 0, 0, 0, 0, 0), (23, .getfield 144, 8083, 14, 4, 0), (26, .ldc2_w 150, 9079, 0, 0, -10000000000000), (29, .lcmp, 0, 0, 0, 0), (30, .ifCond .ne 16, 0, 46, 0, 0), (33, .aload_n 0, 0, 0, 0, 0), (34, .getfield 152, 8084, 14, 5, 0), (37, .lconst 0, 0, 0, 0, 0), (38, .lcmp, 0, 0, 0, 0), (39, .ifCond .ne 7, 0, 46, 0, 0), (42, .iconst 1, 0, 0, 0, 0), (43, .goto 4, 0, 47, 0, 0), (46, .iconst 0, 0, 0, 0, 0), (47, .ireturn, 0, 0, 0, 0)]
noncomputable def bk_X12_isWithin : List (Nat × bO) := [(0, .aload_n 0, 0, 0, 0, 0), (1, .aload_n 0, 0, 0, 0, 0), (2, .iload_n 1, 0, 0, 0, 0), (3, .iload_n 1, 0, 0, 0, 0), (4, .iload_n 2, 0, 0, 0, 0), (5, .invokevirtual 369, 9157, 3668, 3, 14), (8, .invokevirtual 324, 8221, 3614, 1, 14), (11, .ifCond .ne 16, 0, 27, 0, 0), (14, .aload_n 0, 0, 0, 0, 0), (15, .iload_n 1, 0, 0, 0, 0), (16, .iload_n 2, 0, 0, 0, 0), (17, .invokevirtual 387, 9205, 3638, 2, 14), (20, .ifCond .eq 7, 0, 27, 0, 0), (23, .iconst 1, 0, 0, 0, 0), (24, .goto 4, 0, 28, 0, 0), (27, .iconst 0, 0, 0, 0, 0), (28, .ireturn, 0, 0, 0, 0)]
noncomputable def bk_X12_isWithinOf : List (Nat × bO) := []
noncomputable def bk_X12_join : List (Nat × bO) := [(0, .aload_n 0, 0, 0, 0, 0), (1, .aload_n 0, 0, 0, 0, 0), (2, .iload_n 1, 0, 0, 0, 0), (3, .iload_n 2, 0, 0, 0, 0), (4, .iload_n 3, 0, 0, 0, 0), (5, .invokevirtual 369, 9157, 3668, 3, 14), (8, .invokevirtual 324, 8221, 3614, 1, 14), (11, .ifCond .eq 5, 0, 16, 0, 0), (14, .iconst 0, 0, 0, 0, 0), (15, .ireturn, 0, 0, 0, 0), (16, .aload_n 0, 0, 0, 0, 0), (17, .bipush 60, 0, 0, 0, 0), (19, .iload_n 2, 0, 0, 0, 0), (20, .iload_n 3, 0, 0, 0, 0), (21, .iconst 0, 0, 0, 0, 0), (22, .invokevirtual 372, 9161, 3640, 4, 14), (25, .istore 4, 0, 0, 0, 0), (27, .aload_n 0, 0, 0, 0, 0), (28, .iload_n 1, 0, 0, 0, 0), (29, .bipush 60, 0, 0, 0, 0), (31, .invokevirtual 355, 9080, 3593, 2, 14), (34, .ireturn, 0, 0, 0, 0)]
noncomputable def bk_X12_joins : List (Nat × bO) := []
noncomputable def bk_X12_known : List (Nat × bO) := [(0, .aload_n 0, 0, 0, 0, 0), (1, .invokevirtual 300, 9111, 3663, 0, 14), (4, .aload_n 0, 0, 0, 0, 0), (5, .invokevirtual 290, 9137, 3661, 0, 14), (8, .aload_n 0, 0, 0, 0, 0), (9, .iload_n 2, 0, 0, 0, 0), (10, .ifCond .eq 8, 0, 18, 0, 0), (13, .bipush 11, 0, 0, 0, 0), (15, .goto 5, 0, 20, 0, 0), (18, .bipush 13, 0, 0, 0, 0), (20, .bipush 8, 0, 0, 0, 0), (22, .invokevirtual 109, 9039, 3601, 2, 14), (25, .aload_n 0, 0, 0, 0, 0), (26, .bipush 8, 0, 0, 0, 0), (28, .iconst 0, 0, 0, 0, 0), (29, .iconst 0, 0, 0, 0, 0), (30, .invokevirtual 293, 9149, 3605, 3, 14), (33, .istore_n 3, 0, 0, 0, 0), (34, .aload_n 0, 0, 0, 0, 0), (35, .iload_n 1, 0, 0, 0, 0), (36, .aload_n 0, 0, 0, 0, 0), (37, .getfield 144, 8083, 14, 4, 0), (40, .aload_n 0, 0, 0, 0, 0), (41, .getfield 152, 8084, 14, 5, 0), (44, .invokevirtual 177, 9005, 3650, 3, 14), (47, .aload_n 0, 0, 0, 0, 0), (48, .iload_n 2, 0, 0, 0, 0), (49, .ifCond .eq 8, 0, 57, 0, 0), (52, .bipush 11, 0, 0, 0, 0), (54, .goto 5, 0, 59, 0, 0), (57, .bipush 13, 0, 0, 0, 0), (59, .bipush 8, 0, 0, 0, 0), (61, .invokevirtual 109, 9039, 3601, 2, 14), (64, .iload_n 3, 0, 0, 0, 0), (65, .aload_n 0, 0, 0, 0, 0), (66, .bipush 8, 0, 0, 0, 0), (68, .iconst 0, 0, 0, 0, 0), (69, .iconst 1, 0, 0, 0, 0), (70, .invokevirtual 293, 9149, 3605, 3, 14), (73, .iand, 0, 0, 0, 0), (74, .istore_n 3, 0, 0, 0, 0), (75, .aload_n 0, 0, 0, 0, 0), (76, .iload_n 1, 0, 0, 0, 0), (77, .aload_n 0, 0, 0, 0, 0), (78, .getfield 144, 8083, 14, 4, 0), (81, .aload_n 0, 0, 0, 0, 0), (82, .getfield 152, 8084, 14, 5, 0), (85, .invokevirtual 180, 9009, 3623, 3, 14), (88, .return_, 0, 0, 0, 0)]
noncomputable def bk_X12_least : List (Nat × bO) := [(0, .aload_n 0, 0, 0, 0, 0), (1, .iload_n 1, 0, 0, 0, 0), (2, .iload_n 2, 0, 0, 0, 0), (3, .iload_n 3, 0, 0, 0, 0), (4, .iload 4, 0, 0, 0, 0), (6, .iconst 0, 0, 0, 0, 0), (7, .invokevirtual 541, 11062, 3594, 5, 14), (10, .ireturn, 0, 0, 0, 0)]
noncomputable def bk_X12_less : List (Nat × bO) := [(0, .lconst 0, 0, 0, 0, 0), (1, .lstore_n 3, 0, 0, 0, 0), (2, .iconst 0, 0, 0, 0, 0), (3, .istore 5, 0, 0, 0, 0), (5, .iload 5, 0, 0, 0, 0), (7, .aload_n 0, 0, 0, 0, 0), (8, .getfield 13, 8080, 14, 1, 0), (11, .iload_n 1, 0, 0, 0, 0), (12, .iaload, 0, 0, 0, 0), (13, .if_icmp .ge 66, 0, 79, 0, 0), (16, .aload_n 0, 0, 0, 0, 0), (17, .iload_n 1, 0, 0, 0, 0), (18, .iload 5, 0, 0, 0, 0), (20, .invokevirtual 105, 9043, 3646, 2, 14), (23, .aload_n 0, 0, 0, 0, 0), (24, .iload_n 2, 0, 0, 0, 0), (25, .iload 5, 0, 0, 0, 0), (27, .invokevirtual 105, 9043, 3646, 2, 14), (30, .lsub, 0, 0, 0, 0), (31, .lload_n 3, 0, 0, 0, 0), (32, .lsub, 0, 0, 0, 0), (33, .lstore 6, 0, 0, 0, 0), (35, .lload 6, 0, 0, 0, 0), (37, .lconst 0, 0, 0, 0, 0), (38, .lcmp, 0, 0, 0, 0), (39, .ifCond .ge 7, 0, 46, 0, 0), (42, .lconst 1, 0, 0, 0, 0), (43, .goto 4, 0, 47, 0, 0), (46, .lconst 0, 0, 0, 0, 0), (47, .lstore_n 3, 0, 0, 0, 0), (48, .aload_n 0, 0, 0, 0, 0), (49, .iload_n 1, 0, 0, 0, 0), (50, .iload 5, 0, 0, 0, 0), (52, .lload 6, 0, 0, 0, 0), (54, .lconst 0, 0, 0, 0, 0), (55, .lcmp, 0, 0, 0, 0), (56, .ifCond .ge 12, 0, 68, 0, 0), (59, .lload 6, 0, 0, 0, 0), (61, .ldc2_w 99, 9022, 0, 0, 1000000000), (64, .ladd, 0, 0, 0, 0), (65, .goto 5, 0, 70, 0, 0), (68, .lload 6, 0, 0, 0, 0), (70, .invokevirtual 95, 9027, 3644, 3, 14), (73, .iinc 5 1, 0, 0, 0, 0), (76, .goto (-71), 0, 5, 0, 0), (79, .aload_n 0, 0, 0, 0, 0), (80, .iload_n 1, 0, 0, 0, 0), (81, .invokevirtual 101, 9031, 3726, 1, 14), (84, .return_, 0, 0, 0, 0)]
noncomputable def bk_X12_lets : List (Nat × bO) := [(0, .aload_n 0, 0, 0, 0, 0), (1, .getfield 7, 8079, 14, 0, 0), (4, .bipush 64, 0, 0, 0, 0), (6, .iload_n 1, 0, 0, 0, 0), (7, .imul, 0, 0, 0, 0), (8, .iload_n 2, 0, 0, 0, 0), (9, .iadd, 0, 0, 0, 0), (10, .lload_n 3, 0, 0, 0, 0), (11, .lastore, 0, 0, 0, 0), (12, .return_, 0, 0, 0, 0)]
noncomputable def bk_X12_lifted : List (Nat × bO) := []
noncomputable def bk_X12_limb : List (Nat × bO) := [(0, .iload_n 2, 0, 0, 0, 0), (1, .aload_n 0, 0, 0, 0, 0), (2, .getfield 13, 8080, 14, 1, 0), (5, .iload_n 1, 0, 0, 0, 0), (6, .iaload, 0, 0, 0, 0), (7, .if_icmp .ge 17, 0, 24, 0, 0), (10, .aload_n 0, 0, 0, 0, 0), (11, .getfield 7, 8079, 14, 0, 0), (14, .bipush 64, 0, 0, 0, 0), (16, .iload_n 1, 0, 0, 0, 0), (17, .imul, 0, 0, 0, 0), (18, .iload_n 2, 0, 0, 0, 0), (19, .iadd, 0, 0, 0, 0), (20, .laload, 0, 0, 0, 0), (21, .goto 4, 0, 25, 0, 0), (24, .lconst 0, 0, 0, 0, 0), (25, .lreturn, 0, 0, 0, 0)]
noncomputable def bk_X12_logs : List (Nat × bO) := []
noncomputable def bk_X12_looks : List (Nat × bO) := []
noncomputable def bk_X12_low_ : List (Nat × bO) := [(0, .aload_n 0, 0, 0, 0, 0), (1, .aload_n 0, 0, 0, 0, 0), (2, .iload_n 1, 0, 0, 0, 0), (3, .invokevirtual 376, 9176, 3666, 1, 14), (6, .invokevirtual 324, 8221, 3614, 1, 14), (9, .ifCond .eq 7, 0, 16, 0, 0), (12, .iconst 0, 0, 0, 0, 0), (13, .goto 19, 0, 32, 0, 0), (16, .aload_n 0, 0, 0, 0, 0), (17, .aload_n 0, 0, 0, 0, 0), (18, .getfield 21, 8085, 14, 6, 0), (21, .iload_n 1, 0, 0, 0, 0), (22, .laload, 0, 0, 0, 0), (23, .aload_n 0, 0, 0, 0, 0), (24, .getfield 24, 8086, 14, 7, 0), (27, .iload_n 1, 0, 0, 0, 0), (28, .laload, 0, 0, 0, 0), (29, .invokevirtual 380, 9180, 3737, 2, 14), (32, .ireturn, 0, 0, 0, 0)]
noncomputable def bk_X12_low : List (Nat × bO) := [(0, .aload_n 0, 0, 0, 0, 0), (1, .getfield 21, 8085, 14, 6, 0), (4, .iload_n 1, 0, 0, 0, 0), (5, .lload_n 2, 0, 0, 0, 0), (6, .lastore, 0, 0, 0, 0), (7, .aload_n 0, 0, 0, 0, 0), (8, .getfield 24, 8086, 14, 7, 0), (11, .iload_n 1, 0, 0, 0, 0), (12, .lload 4, 0, 0, 0, 0), (14, .lastore, 0, 0, 0, 0), (15, .return_, 0, 0, 0, 0)]
noncomputable def bk_X12_made : List (Nat × bO) := []
noncomputable def bk_X12_makes : List (Nat × bO) := []
noncomputable def bk_X12_makes_ : List (Nat × bO) := [(0, .iload_n 1, 0, 0, 0, 0), (1, .invokestatic 347, 9017, 3633, 1, 0), (4, .ifCond .eq 29, 0, 33, 0, 0), (7, .iload_n 3, 0, 0, 0, 0), (8, .invokestatic 347, 9017, 3633, 1, 0), (11, .ifCond .eq 22, 0, 33, 0, 0), (14, .iload 4, 0, 0, 0, 0), (16, .invokestatic 347, 9017, 3633, 1, 0), (19, .ifCond .eq 14, 0, 33, 0, 0), (22, .iload_n 2, 0, 0, 0, 0), (23, .invokestatic 465, 10164, 3631, 1, 0), (26, .ifCond .eq 7, 0, 33, 0, 0), (29, .iconst 1, 0, 0, 0, 0), (30, .goto 4, 0, 34, 0, 0), (33, .iconst 0, 0, 0, 0, 0), (34, .istore 6, 0, 0, 0, 0), (36, .aload_n 0, 0, 0, 0, 0), (37, .iload 6, 0, 0, 0, 0), (39, .ifCond .ne 7, 0, 46, 0, 0), (42, .iconst 1, 0, 0, 0, 0), (43, .goto 36, 0, 79, 0, 0), (46, .aload_n 0, 0, 0, 0, 0), (47, .getfield 86, 8112, 14, 33, 0), (50, .iload_n 2, 0, 0, 0, 0), (51, .baload, 0, 0, 0, 0), (52, .ifCond .eq 22, 0, 74, 0, 0), (55, .aload_n 0, 0, 0, 0, 0), (56, .getfield 33, 8089, 14, 10, 0), (59, .iload_n 3, 0, 0, 0, 0), (60, .baload, 0, 0, 0, 0), (61, .ifCond .eq 13, 0, 74, 0, 0), (64, .aload_n 0, 0, 0, 0, 0), (65, .getfield 33, 8089, 14, 10, 0), (68, .iload 4, 0, 0, 0, 0), (70, .baload, 0, 0, 0, 0), (71, .ifCond .ne 7, 0, 78, 0, 0), (74, .iconst 2, 0, 0, 0, 0), (75, .goto 4, 0, 79, 0, 0), (78, .iconst 0, 0, 0, 0, 0), (79, .invokevirtual 324, 8221, 3614, 1, 14), (82, .ifCond .eq 5, 0, 87, 0, 0), (85, .iconst 0, 0, 0, 0, 0), (86, .ireturn, 0, 0, 0, 0), (87, .aload_n 0, 0, 0, 0, 0), (88, .bipush 61, 0, 0, 0, 0), (90, .putfield 37, 8090, 14, 11, 0), (93, .aload_n 0, 0, 0, 0, 0), (94, .bipush 60, 0, 0, 0, 0), (96, .iload_n 2, 0, 0, 0, 0), (97, .iload_n 3, 0, 0, 0, 0), (98, .iload 4, 0, 0, 0, 0), (100, .iload 5, 0, 0, 0, 0), (102, .invokevirtual 487, 10215, 3725, 5, 14), (105, .istore 7, 0, 0, 0, 0), (107, .aload_n 0, 0, 0, 0, 0), (108, .bipush 60, 0, 0, 0, 0), (110, .putfield 37, 8090, 14, 11, 0), (113, .aload_n 0, 0, 0, 0, 0), (114, .iload_n 1, 0, 0, 0, 0), (115, .iload 7, 0, 0, 0, 0), (117, .iconst 3, 0, 0, 0, 0), (118, .iconst 4, 0, 0, 0, 0), (119, .invokevirtual 410, 10053, 3652, 4, 14), (122, .ireturn, 0, 0, 0, 0)]
noncomputable def bk_X12_meet : List (Nat × bO) := [(0, .aload_n 0, 0, 0, 0, 0), (1, .aload_n 0, 0, 0, 0, 0), (2, .iload_n 1, 0, 0, 0, 0), (3, .iload_n 2, 0, 0, 0, 0), (4, .iload_n 3, 0, 0, 0, 0), (5, .invokevirtual 369, 9157, 3668, 3, 14), (8, .invokevirtual 324, 8221, 3614, 1, 14), (11, .ifCond .eq 5, 0, 16, 0, 0), (14, .iconst 0, 0, 0, 0, 0), (15, .ireturn, 0, 0, 0, 0), (16, .aload_n 0, 0, 0, 0, 0), (17, .bipush 60, 0, 0, 0, 0), (19, .iload_n 2, 0, 0, 0, 0), (20, .iload_n 3, 0, 0, 0, 0), (21, .iconst 1, 0, 0, 0, 0), (22, .invokevirtual 372, 9161, 3640, 4, 14), (25, .istore 4, 0, 0, 0, 0), (27, .aload_n 0, 0, 0, 0, 0), (28, .iload 4, 0, 0, 0, 0), (30, .ifCond .eq 7, 0, 37, 0, 0), (33, .iconst 0, 0, 0, 0, 0), (34, .goto 4, 0, 38, 0, 0), (37, .iconst 2, 0, 0, 0, 0), (38, .invokevirtual 324, 8221, 3614, 1, 14), (41, .ifCond .ne 17, 0, 58, 0, 0), (44, .aload_n 0, 0, 0, 0, 0), (45, .iload_n 1, 0, 0, 0, 0), (46, .bipush 60, 0, 0, 0, 0), (48, .invokevirtual 355, 9080, 3593, 2, 14), (51, .ifCond .eq 7, 0, 58, 0, 0), (54, .iconst 1, 0, 0, 0, 0), (55, .goto 4, 0, 59, 0, 0), (58, .iconst 0, 0, 0, 0, 0), (59, .ireturn, 0, 0, 0, 0)]
noncomputable def bk_X12_middle : List (Nat × bO) := []
noncomputable def bk_X12_modulo : List (Nat × bO) := []
noncomputable def bk_X12_move : List (Nat × bO) := [(0, .aload_n 0, 0, 0, 0, 0), (1, .iload_n 1, 0, 0, 0, 0), (2, .invokestatic 347, 9017, 3633, 1, 0), (5, .ifCond .eq 12, 0, 17, 0, 0), (8, .aload_n 0, 0, 0, 0, 0), (9, .iload_n 2, 0, 0, 0, 0), (10, .iload_n 3, 0, 0, 0, 0), (11, .invokevirtual 521, 11003, 3667, 2, 14), (14, .ifCond .le 7, 0, 21, 0, 0), (17, .iconst 1, 0, 0, 0, 0), (18, .goto 55, 0, 73, 0, 0), (21, .iload 4, 0, 0, 0, 0), (23, .i2l, 0, 0, 0, 0), (24, .lconst 1, 0, 0, 0, 0), (25, .ldc2_w 552, 11090, 0, 0, 1000), (28, .invokestatic 320, 8218, 3626, 3, 0), (31, .ifCond .ne 7, 0, 38, 0, 0), (34, .iconst 2, 0, 0, 0, 0), (35, .goto 38, 0, 73, 0, 0), (38, .aload_n 0, 0, 0, 0, 0), (39, .getfield 86, 8112, 14, 33, 0), (42, .iload_n 2, 0, 0, 0, 0), (43, .baload, 0, 0, 0, 0), (44, .ifCond .eq 12, 0, 56, 0, 0), (47, .aload_n 0, 0, 0, 0, 0), (48, .getfield 33, 8089, 14, 10, 0), (51, .iload_n 3, 0, 0, 0, 0), (52, .baload, 0, 0, 0, 0), (53, .ifCond .ne 7, 0, 60, 0, 0), (56, .iconst 3, 0, 0, 0, 0), (57, .goto 16, 0, 73, 0, 0), (60, .aload_n 0, 0, 0, 0, 0), (61, .iload_n 2, 0, 0, 0, 0), (62, .invokevirtual 468, 10203, 3620, 1, 14), (65, .ifCond .eq 7, 0, 72, 0, 0), (68, .iconst 4, 0, 0, 0, 0), (69, .goto 4, 0, 73, 0, 0), (72, .iconst 0, 0, 0, 0, 0), (73, .invokevirtual 324, 8221, 3614, 1, 14), (76, .ifCond .eq 5, 0, 81, 0, 0), (79, .iconst 0, 0, 0, 0, 0), (80, .ireturn, 0, 0, 0, 0), (81, .aload_n 0, 0, 0, 0, 0), (82, .bipush 60, 0, 0, 0, 0), (84, .iload_n 2, 0, 0, 0, 0), (85, .iload_n 3, 0, 0, 0, 0), (86, .iload 4, 0, 0, 0, 0), (88, .invokevirtual 554, 11091, 3658, 4, 14), (91, .istore 5, 0, 0, 0, 0), (93, .aload_n 0, 0, 0, 0, 0), (94, .bipush 60, 0, 0, 0, 0), (96, .putfield 37, 8090, 14, 11, 0), (99, .aload_n 0, 0, 0, 0, 0), (100, .iload_n 1, 0, 0, 0, 0), (101, .iload 5, 0, 0, 0, 0), (103, .iconst 5, 0, 0, 0, 0), (104, .bipush 6, 0, 0, 0, 0), (106, .invokevirtual 410, 10053, 3652, 4, 14), (109, .ireturn, 0, 0, 0, 0)]
noncomputable def bk_X12_moves : List (Nat × bO) := []
noncomputable def bk_X12_multiply : List (Nat × bO) := [(0, .aload_n 0, 0, 0, 0, 0), (1, .aload_n 0, 0, 0, 0, 0), (2, .iload_n 1, 0, 0, 0, 0), (3, .iload_n 2, 0, 0, 0, 0), (4, .iload_n 3, 0, 0, 0, 0), (5, .invokevirtual 369, 9157, 3668, 3, 14), (8, .invokevirtual 324, 8221, 3614, 1, 14), (11, .ifCond .ne 19, 0, 30, 0, 0), (14, .aload_n 0, 0, 0, 0, 0), (15, .iload_n 1, 0, 0, 0, 0), (16, .bipush 42, 0, 0, 0, 0), (18, .iload_n 2, 0, 0, 0, 0), (19, .iload_n 3, 0, 0, 0, 0), (20, .invokevirtual 393, 9232, 3651, 4, 14), (23, .ifCond .eq 7, 0, 30, 0, 0), (26, .iconst 1, 0, 0, 0, 0), (27, .goto 4, 0, 31, 0, 0), (30, .iconst 0, 0, 0, 0, 0), (31, .ireturn, 0, 0, 0, 0)]
noncomputable def bk_X12_narrow : List (Nat × bO) := [(0, .aload_n 0, 0, 0, 0, 0), (1, .iload_n 1, 0, 0, 0, 0), (2, .invokestatic 347, 9017, 3633, 1, 0), (5, .ifCond .eq 12, 0, 17, 0, 0), (8, .aload_n 0, 0, 0, 0, 0), (9, .iload_n 2, 0, 0, 0, 0), (10, .iload_n 3, 0, 0, 0, 0), (11, .invokevirtual 521, 11003, 3667, 2, 14), (14, .ifCond .le 7, 0, 21, 0, 0), (17, .iconst 1, 0, 0, 0, 0), (18, .goto 38, 0, 56, 0, 0), (21, .aload_n 0, 0, 0, 0, 0), (22, .getfield 86, 8112, 14, 33, 0), (25, .iload_n 2, 0, 0, 0, 0), (26, .baload, 0, 0, 0, 0), (27, .ifCond .eq 12, 0, 39, 0, 0), (30, .aload_n 0, 0, 0, 0, 0), (31, .getfield 33, 8089, 14, 10, 0), (34, .iload_n 3, 0, 0, 0, 0), (35, .baload, 0, 0, 0, 0), (36, .ifCond .ne 7, 0, 43, 0, 0), (39, .iconst 2, 0, 0, 0, 0), (40, .goto 16, 0, 56, 0, 0), (43, .aload_n 0, 0, 0, 0, 0), (44, .iload_n 2, 0, 0, 0, 0), (45, .invokevirtual 468, 10203, 3620, 1, 14), (48, .ifCond .eq 7, 0, 55, 0, 0), (51, .iconst 3, 0, 0, 0, 0), (52, .goto 4, 0, 56, 0, 0), (55, .iconst 0, 0, 0, 0, 0), (56, .invokevirtual 324, 8221, 3614, 1, 14), (59, .ifCond .eq 5, 0, 64, 0, 0), (62, .iconst 0, 0, 0, 0, 0), (63, .ireturn, 0, 0, 0, 0), (64, .bipush 61, 0, 0, 0, 0), (66, .istore 4, 0, 0, 0, 0), (68, .bipush 62, 0, 0, 0, 0), (70, .istore 5, 0, 0, 0, 0), (72, .bipush 63, 0, 0, 0, 0), (74, .istore 6, 0, 0, 0, 0), (76, .aload_n 0, 0, 0, 0, 0), (77, .bipush 64, 0, 0, 0, 0), (79, .putfield 37, 8090, 14, 11, 0), (82, .aload_n 0, 0, 0, 0, 0), (83, .iload 4, 0, 0, 0, 0), (85, .iload_n 3, 0, 0, 0, 0), (86, .invokevirtual 494, 11026, 3655, 2, 14), (89, .aload_n 0, 0, 0, 0, 0), (90, .iload 5, 0, 0, 0, 0), (92, .iload_n 2, 0, 0, 0, 0), (93, .iload 4, 0, 0, 0, 0), (95, .iload 4, 0, 0, 0, 0), (97, .iconst 0, 0, 0, 0, 0), (98, .invokevirtual 487, 10215, 3725, 5, 14), (101, .istore 7, 0, 0, 0, 0), (103, .iload 7, 0, 0, 0, 0), (105, .ifCond .ne 15, 0, 120, 0, 0), (108, .aload_n 0, 0, 0, 0, 0), (109, .iload 6, 0, 0, 0, 0), (111, .iload_n 2, 0, 0, 0, 0), (112, .iload_n 3, 0, 0, 0, 0), (113, .iload_n 3, 0, 0, 0, 0), (114, .iconst 1, 0, 0, 0, 0), (115, .invokevirtual 487, 10215, 3725, 5, 14), (118, .istore 7, 0, 0, 0, 0), (120, .iload 7, 0, 0, 0, 0), (122, .ifCond .ne 15, 0, 137, 0, 0), (125, .aload_n 0, 0, 0, 0, 0), (126, .iload 5, 0, 0, 0, 0), (128, .iload 5, 0, 0, 0, 0), (130, .iload 6, 0, 0, 0, 0), (132, .invokevirtual 403, 10041, 3684, 3, 14), (135, .istore 7, 0, 0, 0, 0), (137, .iload 7, 0, 0, 0, 0), (139, .ifCond .ne 15, 0, 154, 0, 0), (142, .aload_n 0, 0, 0, 0, 0), (143, .bipush 60, 0, 0, 0, 0), (145, .iload 4, 0, 0, 0, 0), (147, .iload 5, 0, 0, 0, 0), (149, .invokevirtual 397, 10008, 3607, 3, 14), (152, .istore 7, 0, 0, 0, 0), (154, .iload 7, 0, 0, 0, 0), (156, .ifCond .ne 19, 0, 175, 0, 0), (159, .aload_n 0, 0, 0, 0, 0), (160, .bipush 60, 0, 0, 0, 0), (162, .bipush 60, 0, 0, 0, 0), (164, .iload_n 3, 0, 0, 0, 0), (165, .iconst 1, 0, 0, 0, 0), (166, .invokevirtual 372, 9161, 3640, 4, 14), (169, .ifCond .ne 6, 0, 175, 0, 0), (172, .iconst 2, 0, 0, 0, 0), (173, .istore 7, 0, 0, 0, 0), (175, .aload_n 0, 0, 0, 0, 0), (176, .bipush 60, 0, 0, 0, 0), (178, .putfield 37, 8090, 14, 11, 0), (181, .aload_n 0, 0, 0, 0, 0), (182, .iload_n 1, 0, 0, 0, 0), (183, .iload 7, 0, 0, 0, 0), (185, .iconst 4, 0, 0, 0, 0), (186, .iconst 5, 0, 0, 0, 0), (187, .invokevirtual 410, 10053, 3652, 4, 14), (190, .ireturn, 0, 0, 0, 0)]
noncomputable def bk_X12_needsBase : List (Nat × bO) := [(0, .aload_n 0, 0, 0, 0, 0), (1, .getfield 280, 8093, 14, 14, 0), (4, .ifCond .eq 4, 0, 8, 0, 0), (7, .return_, 0, 0, 0, 0), (8, .aload_n 0, 0, 0, 0, 0), (9, .iconst 1, 0, 0, 0, 0), (10, .putfield 280, 8093, 14, 14, 0), (13, .aload_n 0, 0, 0, 0, 0), (14, .bipush 9, 0, 0, 0, 0), (16, .invokevirtual 256, 9120, 3731, 1, 14), (19, .aload_n 0, 0, 0, 0, 0), (20, .invokevirtual 283, 9141, 3700, 0, 14), (23, .aload_n 0, 0, 0, 0, 0), (24, .bipush 8, 0, 0, 0, 0), (26, .bipush 13, 0, 0, 0, 0), (28, .invokevirtual 109, 9039, 3601, 2, 14), (31, .return_, 0, 0, 0, 0)]
noncomputable def bk_X12_needsLog : List (Nat × bO) := []
noncomputable def bk_X12_needsPi : List (Nat × bO) := [(0, .aload_n 0, 0, 0, 0, 0), (1, .getfield 263, 8091, 14, 12, 0), (4, .ifCond .eq 4, 0, 8, 0, 0), (7, .return_, 0, 0, 0, 0), (8, .aload_n 0, 0, 0, 0, 0), (9, .iconst 1, 0, 0, 0, 0), (10, .putfield 263, 8091, 14, 12, 0), (13, .aload_n 0, 0, 0, 0, 0), (14, .bipush 11, 0, 0, 0, 0), (16, .ldc2_w 267, 9115, 0, 0, 5), (19, .iconst 1, 0, 0, 0, 0), (20, .invokevirtual 269, 9116, 3670, 3, 14), (23, .aload_n 0, 0, 0, 0, 0), (24, .bipush 11, 0, 0, 0, 0), (26, .ldc2_w 273, 9135, 0, 0, 16), (29, .invokevirtual 119, 9054, 3699, 2, 14), (32, .aload_n 0, 0, 0, 0, 0), (33, .bipush 8, 0, 0, 0, 0), (35, .ldc2_w 275, 9136, 0, 0, 239), (38, .iconst 1, 0, 0, 0, 0), (39, .invokevirtual 269, 9116, 3670, 3, 14), (42, .aload_n 0, 0, 0, 0, 0), (43, .bipush 8, 0, 0, 0, 0), (45, .ldc2_w 261, 9129, 0, 0, 4), (48, .invokevirtual 119, 9054, 3699, 2, 14), (51, .aload_n 0, 0, 0, 0, 0), (52, .bipush 11, 0, 0, 0, 0), (54, .bipush 8, 0, 0, 0, 0), (56, .invokevirtual 138, 9130, 3643, 2, 14), (59, .return_, 0, 0, 0, 0)]
noncomputable def bk_X12_negative : List (Nat × bO) := []
noncomputable def bk_X12_noBounds : List (Nat × bO) := [(0, .iload_n 1, 0, 0, 0, 0), (1, .invokestatic 347, 9017, 3633, 1, 0), (4, .ifCond .eq 12, 0, 16, 0, 0), (7, .aload_n 0, 0, 0, 0, 0), (8, .iload_n 2, 0, 0, 0, 0), (9, .iload_n 3, 0, 0, 0, 0), (10, .invokevirtual 521, 11003, 3667, 2, 14), (13, .ifCond .le 7, 0, 20, 0, 0), (16, .iconst 1, 0, 0, 0, 0), (17, .goto 55, 0, 72, 0, 0), (20, .iload 4, 0, 0, 0, 0), (22, .i2l, 0, 0, 0, 0), (23, .lconst 0, 0, 0, 0, 0), (24, .ldc2_w 259, 9128, 0, 0, 3), (27, .invokestatic 320, 8218, 3626, 3, 0), (30, .ifCond .ne 7, 0, 37, 0, 0), (33, .iconst 2, 0, 0, 0, 0), (34, .goto 38, 0, 72, 0, 0), (37, .aload_n 0, 0, 0, 0, 0), (38, .getfield 86, 8112, 14, 33, 0), (41, .iload_n 2, 0, 0, 0, 0), (42, .baload, 0, 0, 0, 0), (43, .ifCond .eq 12, 0, 55, 0, 0), (46, .aload_n 0, 0, 0, 0, 0), (47, .getfield 33, 8089, 14, 10, 0), (50, .iload_n 3, 0, 0, 0, 0), (51, .baload, 0, 0, 0, 0), (52, .ifCond .ne 7, 0, 59, 0, 0), (55, .iconst 3, 0, 0, 0, 0), (56, .goto 16, 0, 72, 0, 0), (59, .aload_n 0, 0, 0, 0, 0), (60, .iload_n 2, 0, 0, 0, 0), (61, .invokevirtual 468, 10203, 3620, 1, 14), (64, .ifCond .eq 7, 0, 71, 0, 0), (67, .iconst 4, 0, 0, 0, 0), (68, .goto 4, 0, 72, 0, 0), (71, .iconst 0, 0, 0, 0, 0), (72, .ireturn, 0, 0, 0, 0)]
noncomputable def bk_X12_noBox : List (Nat × bO) := [(0, .iload_n 1, 0, 0, 0, 0), (1, .invokestatic 347, 9017, 3633, 1, 0), (4, .ifCond .ne 7, 0, 11, 0, 0), (7, .iconst 1, 0, 0, 0, 0), (8, .goto 17, 0, 25, 0, 0), (11, .aload_n 0, 0, 0, 0, 0), (12, .getfield 33, 8089, 14, 10, 0), (15, .iload_n 1, 0, 0, 0, 0), (16, .baload, 0, 0, 0, 0), (17, .ifCond .eq 7, 0, 24, 0, 0), (20, .iconst 0, 0, 0, 0, 0), (21, .goto 4, 0, 25, 0, 0), (24, .iconst 2, 0, 0, 0, 0), (25, .ireturn, 0, 0, 0, 0)]
noncomputable def bk_X12_noLook : List (Nat × bO) := [(0, .iload_n 2, 0, 0, 0, 0), (1, .invokestatic 347, 9017, 3633, 1, 0), (4, .ifCond .eq 10, 0, 14, 0, 0), (7, .iload_n 1, 0, 0, 0, 0), (8, .invokestatic 465, 10164, 3631, 1, 0), (11, .ifCond .ne 7, 0, 18, 0, 0), (14, .iconst 1, 0, 0, 0, 0), (15, .goto 4, 0, 19, 0, 0), (18, .iconst 0, 0, 0, 0, 0), (19, .ireturn, 0, 0, 0, 0)]
noncomputable def bk_X12_noPair : List (Nat × bO) := [(0, .iload_n 1, 0, 0, 0, 0), (1, .invokestatic 347, 9017, 3633, 1, 0), (4, .ifCond .eq 17, 0, 21, 0, 0), (7, .iload_n 2, 0, 0, 0, 0), (8, .invokestatic 347, 9017, 3633, 1, 0), (11, .ifCond .eq 10, 0, 21, 0, 0), (14, .iload_n 3, 0, 0, 0, 0), (15, .invokestatic 347, 9017, 3633, 1, 0), (18, .ifCond .ne 7, 0, 25, 0, 0), (21, .iconst 1, 0, 0, 0, 0), (22, .goto 26, 0, 48, 0, 0), (25, .aload_n 0, 0, 0, 0, 0), (26, .getfield 33, 8089, 14, 10, 0), (29, .iload_n 2, 0, 0, 0, 0), (30, .baload, 0, 0, 0, 0), (31, .ifCond .eq 16, 0, 47, 0, 0), (34, .aload_n 0, 0, 0, 0, 0), (35, .getfield 33, 8089, 14, 10, 0), (38, .iload_n 3, 0, 0, 0, 0), (39, .baload, 0, 0, 0, 0), (40, .ifCond .eq 7, 0, 47, 0, 0), (43, .iconst 0, 0, 0, 0, 0), (44, .goto 4, 0, 48, 0, 0), (47, .iconst 2, 0, 0, 0, 0), (48, .ireturn, 0, 0, 0, 0)]
noncomputable def bk_X12_number : List (Nat × bO) := [(0, .aload_n 0, 0, 0, 0, 0), (1, .iload_n 2, 0, 0, 0, 0), (2, .iconst 0, 0, 0, 0, 0), (3, .invokevirtual 109, 9039, 3601, 2, 14), (6, .aload_n 0, 0, 0, 0, 0), (7, .iconst 0, 0, 0, 0, 0), (8, .aload_n 0, 0, 0, 0, 0), (9, .getfield 17, 8081, 14, 2, 0), (12, .iload_n 3, 0, 0, 0, 0), (13, .isub, 0, 0, 0, 0), (14, .invokevirtual 166, 9047, 3722, 2, 14), (17, .istore 5, 0, 0, 0, 0), (19, .aload_n 0, 0, 0, 0, 0), (20, .iconst 0, 0, 0, 0, 0), (21, .bipush 8, 0, 0, 0, 0), (23, .invokevirtual 109, 9039, 3601, 2, 14), (26, .aload_n 0, 0, 0, 0, 0), (27, .iconst 0, 0, 0, 0, 0), (28, .iload 5, 0, 0, 0, 0), (30, .iload 4, 0, 0, 0, 0), (32, .iconst 0, 0, 0, 0, 0), (33, .invokevirtual 224, 9062, 3719, 4, 14), (36, .ifCond .ne 5, 0, 41, 0, 0), (39, .iconst 2, 0, 0, 0, 0), (40, .ireturn, 0, 0, 0, 0), (41, .aload_n 0, 0, 0, 0, 0), (42, .getfield 144, 8083, 14, 4, 0), (45, .lstore 6, 0, 0, 0, 0), (47, .aload_n 0, 0, 0, 0, 0), (48, .getfield 152, 8084, 14, 5, 0), (51, .lstore 8, 0, 0, 0, 0), (53, .aload_n 0, 0, 0, 0, 0), (54, .bipush 8, 0, 0, 0, 0), (56, .iload 5, 0, 0, 0, 0), (58, .iload 4, 0, 0, 0, 0), (60, .iconst 1, 0, 0, 0, 0), (61, .invokevirtual 224, 9062, 3719, 4, 14), (64, .ifCond .ne 5, 0, 69, 0, 0), (67, .iconst 2, 0, 0, 0, 0), (68, .ireturn, 0, 0, 0, 0), (69, .aload_n 0, 0, 0, 0, 0), (70, .iload_n 1, 0, 0, 0, 0), (71, .lload 6, 0, 0, 0, 0), (73, .lload 8, 0, 0, 0, 0), (75, .invokevirtual 177, 9005, 3650, 3, 14), (78, .aload_n 0, 0, 0, 0, 0), (79, .iload_n 1, 0, 0, 0, 0), (80, .aload_n 0, 0, 0, 0, 0), (81, .getfield 144, 8083, 14, 4, 0), (84, .aload_n 0, 0, 0, 0, 0), (85, .getfield 152, 8084, 14, 5, 0), (88, .invokevirtual 180, 9009, 3623, 3, 14), (91, .iconst 0, 0, 0, 0, 0), (92, .ireturn, 0, 0, 0, 0)]
noncomputable def bk_X12_odds : List (Nat × bO) := [(0, .aload_n 0, 0, 0, 0, 0), (1, .bipush 7, 0, 0, 0, 0), (3, .invokevirtual 256, 9120, 3731, 1, 14), (6, .aload_n 0, 0, 0, 0, 0), (7, .bipush 7, 0, 0, 0, 0), (9, .lload_n 2, 0, 0, 0, 0), (10, .invokevirtual 123, 9058, 3676, 2, 14), (13, .lstore 5, 0, 0, 0, 0), (15, .aload_n 0, 0, 0, 0, 0), (16, .bipush 7, 0, 0, 0, 0), (18, .iload_n 1, 0, 0, 0, 0), (19, .invokevirtual 109, 9039, 3601, 2, 14), (22, .ldc2_w 259, 9128, 0, 0, 3), (25, .lstore 7, 0, 0, 0, 0), (27, .aload_n 0, 0, 0, 0, 0), (28, .getfield 13, 8080, 14, 1, 0), (31, .bipush 7, 0, 0, 0, 0), (33, .iaload, 0, 0, 0, 0), (34, .ifCond .le 78, 0, 112, 0, 0), (37, .aload_n 0, 0, 0, 0, 0), (38, .bipush 7, 0, 0, 0, 0), (40, .lload_n 2, 0, 0, 0, 0), (41, .lload_n 2, 0, 0, 0, 0), (42, .lmul, 0, 0, 0, 0), (43, .invokevirtual 123, 9058, 3676, 2, 14), (46, .lstore 5, 0, 0, 0, 0), (48, .aload_n 0, 0, 0, 0, 0), (49, .bipush 7, 0, 0, 0, 0), (51, .bipush 6, 0, 0, 0, 0), (53, .invokevirtual 109, 9039, 3601, 2, 14), (56, .aload_n 0, 0, 0, 0, 0), (57, .bipush 6, 0, 0, 0, 0), (59, .lload 7, 0, 0, 0, 0), (61, .invokevirtual 123, 9058, 3676, 2, 14), (64, .lstore 5, 0, 0, 0, 0), (66, .iload 4, 0, 0, 0, 0), (68, .ifCond .eq 26, 0, 94, 0, 0), (71, .lload 7, 0, 0, 0, 0), (73, .ldc2_w 261, 9129, 0, 0, 4), (76, .lrem, 0, 0, 0, 0), (77, .ldc2_w 259, 9128, 0, 0, 3), (80, .lcmp, 0, 0, 0, 0), (81, .ifCond .ne 13, 0, 94, 0, 0), (84, .aload_n 0, 0, 0, 0, 0), (85, .iload_n 1, 0, 0, 0, 0), (86, .bipush 6, 0, 0, 0, 0), (88, .invokevirtual 138, 9130, 3643, 2, 14), (91, .goto 10, 0, 101, 0, 0), (94, .aload_n 0, 0, 0, 0, 0), (95, .iload_n 1, 0, 0, 0, 0), (96, .bipush 6, 0, 0, 0, 0), (98, .invokevirtual 163, 9066, 3679, 2, 14), (101, .lload 7, 0, 0, 0, 0), (103, .ldc2_w 132, 9134, 0, 0, 2), (106, .ladd, 0, 0, 0, 0), (107, .lstore 7, 0, 0, 0, 0), (109, .goto (-82), 0, 27, 0, 0), (112, .return_, 0, 0, 0, 0)]
noncomputable def bk_X12_order : List (Nat × bO) := []
noncomputable def bk_X12_outward : List (Nat × bO) := []
noncomputable def bk_X12_pair : List (Nat × bO) := []
noncomputable def bk_X12_pairs : List (Nat × bO) := [(0, .iload_n 3, 0, 0, 0, 0), (1, .invokestatic 347, 9017, 3633, 1, 0), (4, .ifCond .eq 29, 0, 33, 0, 0), (7, .iload 4, 0, 0, 0, 0), (9, .invokestatic 347, 9017, 3633, 1, 0), (12, .ifCond .eq 21, 0, 33, 0, 0), (15, .iload_n 1, 0, 0, 0, 0), (16, .invokestatic 465, 10164, 3631, 1, 0), (19, .ifCond .eq 14, 0, 33, 0, 0), (22, .iload_n 2, 0, 0, 0, 0), (23, .invokestatic 465, 10164, 3631, 1, 0), (26, .ifCond .eq 7, 0, 33, 0, 0), (29, .iconst 1, 0, 0, 0, 0), (30, .goto 4, 0, 34, 0, 0), (33, .iconst 0, 0, 0, 0, 0), (34, .istore 6, 0, 0, 0, 0), (36, .aload_n 0, 0, 0, 0, 0), (37, .iload 6, 0, 0, 0, 0), (39, .ifCond .ne 7, 0, 46, 0, 0), (42, .iconst 1, 0, 0, 0, 0), (43, .goto 62, 0, 105, 0, 0), (46, .iload 5, 0, 0, 0, 0), (48, .i2l, 0, 0, 0, 0), (49, .lconst 0, 0, 0, 0, 0), (50, .ldc2_w 132, 9134, 0, 0, 2), (53, .invokestatic 320, 8218, 3626, 3, 0), (56, .ifCond .ne 7, 0, 63, 0, 0), (59, .iconst 2, 0, 0, 0, 0), (60, .goto 45, 0, 105, 0, 0), (63, .aload_n 0, 0, 0, 0, 0), (64, .getfield 86, 8112, 14, 33, 0), (67, .iload_n 1, 0, 0, 0, 0), (68, .baload, 0, 0, 0, 0), (69, .ifCond .eq 31, 0, 100, 0, 0), (72, .aload_n 0, 0, 0, 0, 0), (73, .getfield 86, 8112, 14, 33, 0), (76, .iload_n 2, 0, 0, 0, 0), (77, .baload, 0, 0, 0, 0), (78, .ifCond .eq 22, 0, 100, 0, 0), (81, .aload_n 0, 0, 0, 0, 0), (82, .getfield 33, 8089, 14, 10, 0), (85, .iload_n 3, 0, 0, 0, 0), (86, .baload, 0, 0, 0, 0), (87, .ifCond .eq 13, 0, 100, 0, 0), (90, .aload_n 0, 0, 0, 0, 0), (91, .getfield 33, 8089, 14, 10, 0), (94, .iload 4, 0, 0, 0, 0), (96, .baload, 0, 0, 0, 0), (97, .ifCond .ne 7, 0, 104, 0, 0), (100, .iconst 3, 0, 0, 0, 0), (101, .goto 4, 0, 105, 0, 0), (104, .iconst 0, 0, 0, 0, 0), (105, .invokevirtual 324, 8221, 3614, 1, 14), (108, .ifCond .eq 5, 0, 113, 0, 0), (111, .iconst 0, 0, 0, 0, 0), (112, .ireturn, 0, 0, 0, 0), (113, .aload_n 0, 0, 0, 0, 0), (114, .bipush 60, 0, 0, 0, 0), (116, .putfield 37, 8090, 14, 11, 0), (119, .aload_n 0, 0, 0, 0, 0), (120, .bipush 30, 0, 0, 0, 0), (122, .iload_n 3, 0, 0, 0, 0), (123, .iload 5, 0, 0, 0, 0), (125, .invokevirtual 527, 11050, 3603, 3, 14), (128, .istore 7, 0, 0, 0, 0), (130, .aload_n 0, 0, 0, 0, 0), (131, .bipush 40, 0, 0, 0, 0), (133, .iload 4, 0, 0, 0, 0), (135, .iload 5, 0, 0, 0, 0), (137, .invokevirtual 527, 11050, 3603, 3, 14), (140, .istore 8, 0, 0, 0, 0), (142, .iconst 0, 0, 0, 0, 0), (143, .istore 9, 0, 0, 0, 0), (145, .iconst 0, 0, 0, 0, 0), (146, .istore 10, 0, 0, 0, 0), (148, .iload 10, 0, 0, 0, 0), (150, .iload 7, 0, 0, 0, 0), (152, .if_icmp .ge 71, 0, 223, 0, 0), (155, .iconst 0, 0, 0, 0, 0), (156, .istore 11, 0, 0, 0, 0), (158, .iload 11, 0, 0, 0, 0), (160, .iload 8, 0, 0, 0, 0), (162, .if_icmp .ge 55, 0, 217, 0, 0), (165, .iload 9, 0, 0, 0, 0), (167, .aload_n 0, 0, 0, 0, 0), (168, .iload_n 1, 0, 0, 0, 0), (169, .bipush 30, 0, 0, 0, 0), (171, .iload 10, 0, 0, 0, 0), (173, .iadd, 0, 0, 0, 0), (174, .bipush 40, 0, 0, 0, 0), (176, .iload 11, 0, 0, 0, 0), (178, .iadd, 0, 0, 0, 0), (179, .invokevirtual 530, 11054, 3595, 3, 14), (182, .ifCond .eq 25, 0, 207, 0, 0), (185, .aload_n 0, 0, 0, 0, 0), (186, .iload_n 2, 0, 0, 0, 0), (187, .bipush 30, 0, 0, 0, 0), (189, .iload 10, 0, 0, 0, 0), (191, .iadd, 0, 0, 0, 0), (192, .bipush 40, 0, 0, 0, 0), (194, .iload 11, 0, 0, 0, 0), (196, .iadd, 0, 0, 0, 0), (197, .invokevirtual 530, 11054, 3595, 3, 14), (200, .ifCond .eq 7, 0, 207, 0, 0), (203, .iconst 1, 0, 0, 0, 0), (204, .goto 4, 0, 208, 0, 0), (207, .iconst 0, 0, 0, 0, 0), (208, .iadd, 0, 0, 0, 0), (209, .istore 9, 0, 0, 0, 0), (211, .iinc 11 1, 0, 0, 0, 0), (214, .goto (-56), 0, 158, 0, 0), (217, .iinc 10 1, 0, 0, 0, 0), (220, .goto (-72), 0, 148, 0, 0), (223, .aload_n 0, 0, 0, 0, 0), (224, .bipush 60, 0, 0, 0, 0), (226, .putfield 37, 8090, 14, 11, 0), (229, .iload 9, 0, 0, 0, 0), (231, .ireturn, 0, 0, 0, 0)]
noncomputable def bk_X12_part : List (Nat × bO) := []
noncomputable def bk_X12_parts : List (Nat × bO) := [(0, .lconst 0, 0, 0, 0, 0), (1, .lstore 4, 0, 0, 0, 0), (3, .aload_n 0, 0, 0, 0, 0), (4, .getfield 13, 8080, 14, 1, 0), (7, .iload_n 1, 0, 0, 0, 0), (8, .iaload, 0, 0, 0, 0), (9, .iconst 1, 0, 0, 0, 0), (10, .isub, 0, 0, 0, 0), (11, .istore 6, 0, 0, 0, 0), (13, .iload 6, 0, 0, 0, 0), (15, .ifCond .lt 42, 0, 57, 0, 0), (18, .lload 4, 0, 0, 0, 0), (20, .ldc2_w 99, 9022, 0, 0, 1000000000), (23, .lmul, 0, 0, 0, 0), (24, .aload_n 0, 0, 0, 0, 0), (25, .iload_n 1, 0, 0, 0, 0), (26, .iload 6, 0, 0, 0, 0), (28, .invokevirtual 105, 9043, 3646, 2, 14), (31, .ladd, 0, 0, 0, 0), (32, .lstore 7, 0, 0, 0, 0), (34, .aload_n 0, 0, 0, 0, 0), (35, .iload_n 1, 0, 0, 0, 0), (36, .iload 6, 0, 0, 0, 0), (38, .lload 7, 0, 0, 0, 0), (40, .lload_n 2, 0, 0, 0, 0), (41, .ldiv, 0, 0, 0, 0), (42, .invokevirtual 95, 9027, 3644, 3, 14), (45, .lload 7, 0, 0, 0, 0), (47, .lload_n 2, 0, 0, 0, 0), (48, .lrem, 0, 0, 0, 0), (49, .lstore 4, 0, 0, 0, 0), (51, .iinc 6 (-1), 0, 0, 0, 0), (54, .goto (-41), 0, 13, 0, 0), (57, .aload_n 0, 0, 0, 0, 0), (58, .iload_n 1, 0, 0, 0, 0), (59, .invokevirtual 101, 9031, 3726, 1, 14), (62, .lload 4, 0, 0, 0, 0), (64, .lreturn, 0, 0, 0, 0)]
noncomputable def bk_X12_piece : List (Nat × bO) := [(0, .aload_n 0, 0, 0, 0, 0), (1, .iload_n 1, 0, 0, 0, 0), (2, .invokestatic 347, 9017, 3633, 1, 0), (5, .ifCond .ne 7, 0, 12, 0, 0), (8, .iconst 1, 0, 0, 0, 0), (9, .goto 24, 0, 33, 0, 0), (12, .iload_n 2, 0, 0, 0, 0), (13, .i2l, 0, 0, 0, 0), (14, .lconst 0, 0, 0, 0, 0), (15, .aload_n 0, 0, 0, 0, 0), (16, .getfield 524, 8120, 14, 41, 0), (19, .iconst 1, 0, 0, 0, 0), (20, .isub, 0, 0, 0, 0), (21, .i2l, 0, 0, 0, 0), (22, .invokestatic 320, 8218, 3626, 3, 0), (25, .ifCond .eq 7, 0, 32, 0, 0), (28, .iconst 0, 0, 0, 0, 0), (29, .goto 4, 0, 33, 0, 0), (32, .iconst 2, 0, 0, 0, 0), (33, .invokevirtual 324, 8221, 3614, 1, 14), (36, .ifCond .eq 5, 0, 41, 0, 0), (39, .iconst 0, 0, 0, 0, 0), (40, .ireturn, 0, 0, 0, 0), (41, .aload_n 0, 0, 0, 0, 0), (42, .iload_n 1, 0, 0, 0, 0), (43, .bipush 10, 0, 0, 0, 0), (45, .iload_n 2, 0, 0, 0, 0), (46, .iadd, 0, 0, 0, 0), (47, .invokevirtual 355, 9080, 3593, 2, 14), (50, .ireturn, 0, 0, 0, 0)]
noncomputable def bk_X12_pieceKind : List (Nat × bO) := [(0, .aload_n 0, 0, 0, 0, 0), (1, .iload_n 1, 0, 0, 0, 0), (2, .i2l, 0, 0, 0, 0), (3, .lconst 0, 0, 0, 0, 0), (4, .aload_n 0, 0, 0, 0, 0), (5, .getfield 524, 8120, 14, 41, 0), (8, .iconst 1, 0, 0, 0, 0), (9, .isub, 0, 0, 0, 0), (10, .i2l, 0, 0, 0, 0), (11, .invokestatic 320, 8218, 3626, 3, 0), (14, .ifCond .eq 7, 0, 21, 0, 0), (17, .iconst 0, 0, 0, 0, 0), (18, .goto 4, 0, 22, 0, 0), (21, .iconst 1, 0, 0, 0, 0), (22, .invokevirtual 324, 8221, 3614, 1, 14), (25, .ifCond .eq 8, 0, 33, 0, 0), (28, .bipush 32, 0, 0, 0, 0), (30, .goto 9, 0, 39, 0, 0), (33, .aload_n 0, 0, 0, 0, 0), (34, .getfield 89, 8118, 14, 39, 0), (37, .iload_n 1, 0, 0, 0, 0), (38, .caload, 0, 0, 0, 0), (39, .ireturn, 0, 0, 0, 0)]
noncomputable def bk_X12_plus : List (Nat × bO) := [(0, .aload_n 0, 0, 0, 0, 0), (1, .getfield 13, 8080, 14, 1, 0), (4, .iload_n 1, 0, 0, 0, 0), (5, .iaload, 0, 0, 0, 0), (6, .aload_n 0, 0, 0, 0, 0), (7, .getfield 13, 8080, 14, 1, 0), (10, .iload_n 2, 0, 0, 0, 0), (11, .iaload, 0, 0, 0, 0), (12, .if_icmp .le 12, 0, 24, 0, 0), (15, .aload_n 0, 0, 0, 0, 0), (16, .getfield 13, 8080, 14, 1, 0), (19, .iload_n 1, 0, 0, 0, 0), (20, .iaload, 0, 0, 0, 0), (21, .goto 9, 0, 30, 0, 0), (24, .aload_n 0, 0, 0, 0, 0), (25, .getfield 13, 8080, 14, 1, 0), (28, .iload_n 2, 0, 0, 0, 0), (29, .iaload, 0, 0, 0, 0), (30, .istore_n 3, 0, 0, 0, 0), (31, .lconst 0, 0, 0, 0, 0), (32, .lstore 4, 0, 0, 0, 0), (34, .iconst 0, 0, 0, 0, 0), (35, .istore 6, 0, 0, 0, 0), (37, .iload 6, 0, 0, 0, 0), (39, .iload_n 3, 0, 0, 0, 0), (40, .if_icmp .lt 10, 0, 50, 0, 0), (43, .lload 4, 0, 0, 0, 0), (45, .lconst 0, 0, 0, 0, 0), (46, .lcmp, 0, 0, 0, 0), (47, .ifCond .le 71, 0, 118, 0, 0), (50, .aload_n 0, 0, 0, 0, 0), (51, .iload_n 1, 0, 0, 0, 0), (52, .iload 6, 0, 0, 0, 0), (54, .invokevirtual 105, 9043, 3646, 2, 14), (57, .aload_n 0, 0, 0, 0, 0), (58, .iload_n 2, 0, 0, 0, 0), (59, .iload 6, 0, 0, 0, 0), (61, .invokevirtual 105, 9043, 3646, 2, 14), (64, .ladd, 0, 0, 0, 0), (65, .lload 4, 0, 0, 0, 0), (67, .ladd, 0, 0, 0, 0), (68, .lstore 7, 0, 0, 0, 0), (70, .lload 7, 0, 0, 0, 0), (72, .ldc2_w 99, 9022, 0, 0, 1000000000), (75, .ldiv, 0, 0, 0, 0), (76, .lstore 4, 0, 0, 0, 0), (78, .iload 6, 0, 0, 0, 0), (80, .aload_n 0, 0, 0, 0, 0), (81, .getfield 13, 8080, 14, 1, 0), (84, .iload_n 1, 0, 0, 0, 0), (85, .iaload, 0, 0, 0, 0), (86, .if_icmp .lt 13, 0, 99, 0, 0), (89, .aload_n 0, 0, 0, 0, 0), (90, .getfield 13, 8080, 14, 1, 0), (93, .iload_n 1, 0, 0, 0, 0), (94, .iload 6, 0, 0, 0, 0), (96, .iconst 1, 0, 0, 0, 0), (97, .iadd, 0, 0, 0, 0), (98, .iastore, 0, 0, 0, 0), (99, .aload_n 0, 0, 0, 0, 0), (100, .iload_n 1, 0, 0, 0, 0), (101, .iload 6, 0, 0, 0, 0), (103, .lload 7, 0, 0, 0, 0), (105, .ldc2_w 99, 9022, 0, 0, 1000000000), (108, .lrem, 0, 0, 0, 0), (109, .invokevirtual 95, 9027, 3644, 3, 14), (112, .iinc 6 1, 0, 0, 0, 0), (115, .goto (-78), 0, 37, 0, 0), (118, .return_, 0, 0, 0, 0)]
noncomputable def bk_X12_power : List (Nat × bO) := [(0, .aload_n 0, 0, 0, 0, 0), (1, .iload_n 1, 0, 0, 0, 0), (2, .invokestatic 347, 9017, 3633, 1, 0), (5, .ifCond .eq 10, 0, 15, 0, 0), (8, .iload_n 2, 0, 0, 0, 0), (9, .invokestatic 347, 9017, 3633, 1, 0), (12, .ifCond .ne 7, 0, 19, 0, 0), (15, .iconst 1, 0, 0, 0, 0), (16, .goto 33, 0, 49, 0, 0), (19, .iload_n 3, 0, 0, 0, 0), (20, .i2l, 0, 0, 0, 0), (21, .lconst 0, 0, 0, 0, 0), (22, .ldc2_w 339, 9020, 0, 0, 9), (25, .invokestatic 320, 8218, 3626, 3, 0), (28, .ifCond .ne 7, 0, 35, 0, 0), (31, .iconst 2, 0, 0, 0, 0), (32, .goto 17, 0, 49, 0, 0), (35, .aload_n 0, 0, 0, 0, 0), (36, .getfield 33, 8089, 14, 10, 0), (39, .iload_n 2, 0, 0, 0, 0), (40, .baload, 0, 0, 0, 0), (41, .ifCond .ne 7, 0, 48, 0, 0), (44, .iconst 3, 0, 0, 0, 0), (45, .goto 4, 0, 49, 0, 0), (48, .iconst 0, 0, 0, 0, 0), (49, .invokevirtual 324, 8221, 3614, 1, 14), (52, .ifCond .eq 5, 0, 57, 0, 0), (55, .iconst 0, 0, 0, 0, 0), (56, .ireturn, 0, 0, 0, 0), (57, .aload_n 0, 0, 0, 0, 0), (58, .iload_n 1, 0, 0, 0, 0), (59, .aload_n 0, 0, 0, 0, 0), (60, .bipush 60, 0, 0, 0, 0), (62, .iload_n 2, 0, 0, 0, 0), (63, .iload_n 3, 0, 0, 0, 0), (64, .invokevirtual 414, 10073, 3645, 3, 14), (67, .iconst 4, 0, 0, 0, 0), (68, .iconst 4, 0, 0, 0, 0), (69, .invokevirtual 410, 10053, 3652, 4, 14), (72, .ireturn, 0, 0, 0, 0)]
noncomputable def bk_X12_powers : List (Nat × bO) := []
noncomputable def bk_X12_product : List (Nat × bO) := []
noncomputable def bk_X12_put : List (Nat × bO) := [(0, .aload_n 0, 0, 0, 0, 0), (1, .iload_n 1, 0, 0, 0, 0), (2, .invokestatic 347, 9017, 3633, 1, 0), (5, .ifCond .ne 7, 0, 12, 0, 0), (8, .iconst 1, 0, 0, 0, 0), (9, .goto 21, 0, 30, 0, 0), (12, .iload 4, 0, 0, 0, 0), (14, .i2l, 0, 0, 0, 0), (15, .lconst 0, 0, 0, 0, 0), (16, .ldc2_w 350, 9021, 0, 0, 18), (19, .invokestatic 320, 8218, 3626, 3, 0), (22, .ifCond .ne 7, 0, 29, 0, 0), (25, .iconst 2, 0, 0, 0, 0), (26, .goto 4, 0, 30, 0, 0), (29, .iconst 0, 0, 0, 0, 0), (30, .invokevirtual 324, 8221, 3614, 1, 14), (33, .ifCond .eq 5, 0, 38, 0, 0), (36, .iconst 0, 0, 0, 0, 0), (37, .ireturn, 0, 0, 0, 0), (38, .lload_n 2, 0, 0, 0, 0), (39, .ldc2_w 99, 9022, 0, 0, 1000000000), (42, .ldiv, 0, 0, 0, 0), (43, .lstore 5, 0, 0, 0, 0), (45, .lload_n 2, 0, 0, 0, 0), (46, .ldc2_w 99, 9022, 0, 0, 1000000000), (49, .lrem, 0, 0, 0, 0), (50, .lstore 7, 0, 0, 0, 0), (52, .aload_n 0, 0, 0, 0, 0), (53, .bipush 9, 0, 0, 0, 0), (55, .lload 5, 0, 0, 0, 0), (57, .lconst 0, 0, 0, 0, 0), (58, .lcmp, 0, 0, 0, 0), (59, .ifCond .ge 9, 0, 68, 0, 0), (62, .lload 5, 0, 0, 0, 0), (64, .lneg, 0, 0, 0, 0), (65, .goto 5, 0, 70, 0, 0), (68, .lload 5, 0, 0, 0, 0), (70, .lload 7, 0, 0, 0, 0), (72, .lconst 0, 0, 0, 0, 0), (73, .lcmp, 0, 0, 0, 0), (74, .ifCond .ge 9, 0, 83, 0, 0), (77, .lload 7, 0, 0, 0, 0), (79, .lneg, 0, 0, 0, 0), (80, .goto 5, 0, 85, 0, 0), (83, .lload 7, 0, 0, 0, 0), (85, .invokevirtual 159, 9023, 3702, 3, 14), (88, .aload_n 0, 0, 0, 0, 0), (89, .aload_n 0, 0, 0, 0, 0), (90, .bipush 60, 0, 0, 0, 0), (92, .bipush 9, 0, 0, 0, 0), (94, .iload 4, 0, 0, 0, 0), (96, .lload_n 2, 0, 0, 0, 0), (97, .lconst 0, 0, 0, 0, 0), (98, .lcmp, 0, 0, 0, 0), (99, .ifCond .ge 7, 0, 106, 0, 0), (102, .iconst 1, 0, 0, 0, 0), (103, .goto 4, 0, 107, 0, 0), (106, .iconst 0, 0, 0, 0, 0), (107, .invokevirtual 352, 9035, 3669, 4, 14), (110, .ifCond .le 7, 0, 117, 0, 0), (113, .iconst 3, 0, 0, 0, 0), (114, .goto 4, 0, 118, 0, 0), (117, .iconst 0, 0, 0, 0, 0), (118, .invokevirtual 324, 8221, 3614, 1, 14), (121, .ifCond .ne 17, 0, 138, 0, 0), (124, .aload_n 0, 0, 0, 0, 0), (125, .iload_n 1, 0, 0, 0, 0), (126, .bipush 60, 0, 0, 0, 0), (128, .invokevirtual 355, 9080, 3593, 2, 14), (131, .ifCond .eq 7, 0, 138, 0, 0), (134, .iconst 1, 0, 0, 0, 0), (135, .goto 4, 0, 139, 0, 0), (138, .iconst 0, 0, 0, 0, 0), (139, .ireturn, 0, 0, 0, 0)]
noncomputable def bk_X12_quotient : List (Nat × bO) := []
noncomputable def bk_X12_raises : List (Nat × bO) := []
noncomputable def bk_X12_read : List (Nat × bO) := [(0, .aload_n 0, 0, 0, 0, 0), (1, .iload_n 1, 0, 0, 0, 0), (2, .invokestatic 347, 9017, 3633, 1, 0), (5, .ifCond .eq 7, 0, 12, 0, 0), (8, .iconst 0, 0, 0, 0, 0), (9, .goto 4, 0, 13, 0, 0), (12, .iconst 1, 0, 0, 0, 0), (13, .invokevirtual 324, 8221, 3614, 1, 14), (16, .ifCond .eq 5, 0, 21, 0, 0), (19, .iconst 0, 0, 0, 0, 0), (20, .ireturn, 0, 0, 0, 0), (21, .aload_n 0, 0, 0, 0, 0), (22, .invokevirtual 362, 9096, 3698, 0, 14), (25, .istore_n 2, 0, 0, 0, 0), (26, .aload_n 0, 0, 0, 0, 0), (27, .iload_n 2, 0, 0, 0, 0), (28, .ifCond .ge 7, 0, 35, 0, 0), (31, .iconst 2, 0, 0, 0, 0), (32, .goto 4, 0, 36, 0, 0), (35, .iconst 0, 0, 0, 0, 0), (36, .invokevirtual 324, 8221, 3614, 1, 14), (39, .ifCond .eq 5, 0, 44, 0, 0), (42, .iconst 0, 0, 0, 0, 0), (43, .ireturn, 0, 0, 0, 0), (44, .aload_n 0, 0, 0, 0, 0), (45, .aload_n 0, 0, 0, 0, 0), (46, .bipush 60, 0, 0, 0, 0), (48, .bipush 9, 0, 0, 0, 0), (50, .iload_n 2, 0, 0, 0, 0), (51, .aload_n 0, 0, 0, 0, 0), (52, .getfield 40, 8094, 14, 15, 0), (55, .iconst 0, 0, 0, 0, 0), (56, .caload, 0, 0, 0, 0), (57, .bipush 45, 0, 0, 0, 0), (59, .if_icmp .ne 7, 0, 66, 0, 0), (62, .iconst 1, 0, 0, 0, 0), (63, .goto 4, 0, 67, 0, 0), (66, .iconst 0, 0, 0, 0, 0), (67, .invokevirtual 352, 9035, 3669, 4, 14), (70, .ifCond .le 7, 0, 77, 0, 0), (73, .iconst 3, 0, 0, 0, 0), (74, .goto 4, 0, 78, 0, 0), (77, .iconst 0, 0, 0, 0, 0), (78, .invokevirtual 324, 8221, 3614, 1, 14), (81, .ifCond .eq 5, 0, 86, 0, 0), (84, .iconst 0, 0, 0, 0, 0), (85, .ireturn, 0, 0, 0, 0), (86, .aload_n 0, 0, 0, 0, 0), (87, .iconst 0, 0, 0, 0, 0), (88, .putfield 327, 8096, 14, 17, 0), (91, .aload_n 0, 0, 0, 0, 0), (92, .iload_n 1, 0, 0, 0, 0), (93, .bipush 60, 0, 0, 0, 0), (95, .invokevirtual 355, 9080, 3593, 2, 14), (98, .ireturn, 0, 0, 0, 0)]
noncomputable def bk_X12_readAtom : List (Nat × bO) := [(0, .aload_n 0, 0, 0, 0, 0), (1, .invokevirtual 440, 10183, 3704, 0, 14), (4, .istore_n 1, 0, 0, 0, 0), (5, .iload_n 1, 0, 0, 0, 0), (6, .invokestatic 358, 9100, 3630, 1, 0), (9, .ifCond .eq 8, 0, 17, 0, 0), (12, .aload_n 0, 0, 0, 0, 0), (13, .invokevirtual 459, 10187, 3688, 0, 14), (16, .ireturn, 0, 0, 0, 0), (17, .iload_n 1, 0, 0, 0, 0), (18, .bipush 120, 0, 0, 0, 0), (20, .if_icmp .eq 15, 0, 35, 0, 0), (23, .iload_n 1, 0, 0, 0, 0), (24, .bipush 121, 0, 0, 0, 0), (26, .if_icmp .eq 9, 0, 35, 0, 0), (29, .iload_n 1, 0, 0, 0, 0), (30, .bipush 112, 0, 0, 0, 0), (32, .if_icmp .ne 31, 0, 63, 0, 0), (35, .aload_n 0, 0, 0, 0, 0), (36, .dup, 0, 0, 0, 0), (37, .getfield 431, 8113, 14, 34, 0), (40, .iconst 1, 0, 0, 0, 0), (41, .iadd, 0, 0, 0, 0), (42, .putfield 431, 8113, 14, 34, 0), (45, .aload_n 0, 0, 0, 0, 0), (46, .dup, 0, 0, 0, 0), (47, .getfield 444, 8114, 14, 35, 0), (50, .iconst 1, 0, 0, 0, 0), (51, .iadd, 0, 0, 0, 0), (52, .putfield 444, 8114, 14, 35, 0), (55, .aload_n 0, 0, 0, 0, 0), (56, .iload_n 1, 0, 0, 0, 0), (57, .iconst 0, 0, 0, 0, 0), (58, .iconst 0, 0, 0, 0, 0), (59, .invokevirtual 446, 10195, 3675, 3, 14), (62, .ireturn, 0, 0, 0, 0), (63, .iload_n 1, 0, 0, 0, 0), (64, .bipush 45, 0, 0, 0, 0), (66, .if_icmp .eq 27, 0, 93, 0, 0), (69, .iload_n 1, 0, 0, 0, 0), (70, .bipush 114, 0, 0, 0, 0), (72, .if_icmp .eq 21, 0, 93, 0, 0), (75, .iload_n 1, 0, 0, 0, 0), (76, .bipush 101, 0, 0, 0, 0), (78, .if_icmp .eq 15, 0, 93, 0, 0), (81, .iload_n 1, 0, 0, 0, 0), (82, .bipush 108, 0, 0, 0, 0), (84, .if_icmp .eq 9, 0, 93, 0, 0), (87, .iload_n 1, 0, 0, 0, 0), (88, .bipush 97, 0, 0, 0, 0), (90, .if_icmp .ne 55, 0, 145, 0, 0), (93, .aload_n 0, 0, 0, 0, 0), (94, .dup, 0, 0, 0, 0), (95, .getfield 431, 8113, 14, 34, 0), (98, .iconst 1, 0, 0, 0, 0), (99, .iadd, 0, 0, 0, 0), (100, .putfield 431, 8113, 14, 34, 0), (103, .aload_n 0, 0, 0, 0, 0), (104, .dup, 0, 0, 0, 0), (105, .getfield 444, 8114, 14, 35, 0), (108, .iconst 1, 0, 0, 0, 0), (109, .iadd, 0, 0, 0, 0), (110, .putfield 444, 8114, 14, 35, 0), (113, .aload_n 0, 0, 0, 0, 0), (114, .invokevirtual 453, 10179, 3687, 0, 14), (117, .istore_n 2, 0, 0, 0, 0), (118, .iload_n 2, 0, 0, 0, 0), (119, .ifCond .ge 7, 0, 126, 0, 0), (122, .iconst (-1), 0, 0, 0, 0), (123, .goto 21, 0, 144, 0, 0), (126, .aload_n 0, 0, 0, 0, 0), (127, .iload_n 1, 0, 0, 0, 0), (128, .bipush 45, 0, 0, 0, 0), (130, .if_icmp .ne 8, 0, 138, 0, 0), (133, .bipush 110, 0, 0, 0, 0), (135, .goto 4, 0, 139, 0, 0), (138, .iload_n 1, 0, 0, 0, 0), (139, .iload_n 2, 0, 0, 0, 0), (140, .iconst 0, 0, 0, 0, 0), (141, .invokevirtual 446, 10195, 3675, 3, 14), (144, .ireturn, 0, 0, 0, 0), (145, .iload_n 1, 0, 0, 0, 0), (146, .bipush 40, 0, 0, 0, 0), (148, .if_icmp .eq 8, 0, 156, 0, 0), (151, .aload_n 0, 0, 0, 0, 0), (152, .invokevirtual 456, 10191, 3615, 0, 14), (155, .ireturn, 0, 0, 0, 0), (156, .aload_n 0, 0, 0, 0, 0), (157, .dup, 0, 0, 0, 0), (158, .getfield 431, 8113, 14, 34, 0), (161, .iconst 1, 0, 0, 0, 0), (162, .iadd, 0, 0, 0, 0), (163, .putfield 431, 8113, 14, 34, 0), (166, .aload_n 0, 0, 0, 0, 0), (167, .invokevirtual 462, 10167, 3691, 0, 14), (170, .istore_n 2, 0, 0, 0, 0), (171, .iload_n 2, 0, 0, 0, 0), (172, .ifCond .ge 5, 0, 177, 0, 0), (175, .iconst (-1), 0, 0, 0, 0), (176, .ireturn, 0, 0, 0, 0), (177, .aload_n 0, 0, 0, 0, 0), (178, .invokevirtual 440, 10183, 3704, 0, 14), (181, .bipush 41, 0, 0, 0, 0), (183, .if_icmp .eq 8, 0, 191, 0, 0), (186, .aload_n 0, 0, 0, 0, 0), (187, .invokevirtual 456, 10191, 3615, 0, 14), (190, .ireturn, 0, 0, 0, 0), (191, .aload_n 0, 0, 0, 0, 0), (192, .dup, 0, 0, 0, 0), (193, .getfield 431, 8113, 14, 34, 0), (196, .iconst 1, 0, 0, 0, 0), (197, .iadd, 0, 0, 0, 0), (198, .putfield 431, 8113, 14, 34, 0), (201, .iload_n 2, 0, 0, 0, 0), (202, .ireturn, 0, 0, 0, 0)]
noncomputable def bk_X12_readNumber : List (Nat × bO) := []
noncomputable def bk_X12_readPower : List (Nat × bO) := [(0, .aload_n 0, 0, 0, 0, 0), (1, .invokevirtual 453, 10179, 3687, 0, 14), (4, .istore_n 1, 0, 0, 0, 0), (5, .iload_n 1, 0, 0, 0, 0), (6, .ifCond .lt 12, 0, 18, 0, 0), (9, .aload_n 0, 0, 0, 0, 0), (10, .invokevirtual 440, 10183, 3704, 0, 14), (13, .bipush 94, 0, 0, 0, 0), (15, .if_icmp .eq 5, 0, 20, 0, 0), (18, .iload_n 1, 0, 0, 0, 0), (19, .ireturn, 0, 0, 0, 0), (20, .aload_n 0, 0, 0, 0, 0), (21, .dup, 0, 0, 0, 0), (22, .getfield 431, 8113, 14, 34, 0), (25, .iconst 1, 0, 0, 0, 0), (26, .iadd, 0, 0, 0, 0), (27, .putfield 431, 8113, 14, 34, 0), (30, .aload_n 0, 0, 0, 0, 0), (31, .dup, 0, 0, 0, 0), (32, .getfield 444, 8114, 14, 35, 0), (35, .iconst 1, 0, 0, 0, 0), (36, .iadd, 0, 0, 0, 0), (37, .putfield 444, 8114, 14, 35, 0), (40, .aload_n 0, 0, 0, 0, 0), (41, .invokevirtual 440, 10183, 3704, 0, 14), (44, .invokestatic 358, 9100, 3630, 1, 0), (47, .ifCond .ne 8, 0, 55, 0, 0), (50, .aload_n 0, 0, 0, 0, 0), (51, .invokevirtual 456, 10191, 3615, 0, 14), (54, .ireturn, 0, 0, 0, 0), (55, .aload_n 0, 0, 0, 0, 0), (56, .bipush 94, 0, 0, 0, 0), (58, .iload_n 1, 0, 0, 0, 0), (59, .aload_n 0, 0, 0, 0, 0), (60, .invokevirtual 440, 10183, 3704, 0, 14), (63, .bipush 48, 0, 0, 0, 0), (65, .isub, 0, 0, 0, 0), (66, .invokevirtual 446, 10195, 3675, 3, 14), (69, .istore_n 2, 0, 0, 0, 0), (70, .aload_n 0, 0, 0, 0, 0), (71, .dup, 0, 0, 0, 0), (72, .getfield 431, 8113, 14, 34, 0), (75, .iconst 1, 0, 0, 0, 0), (76, .iadd, 0, 0, 0, 0), (77, .putfield 431, 8113, 14, 34, 0), (80, .iload_n 2, 0, 0, 0, 0), (81, .ireturn, 0, 0, 0, 0)]
noncomputable def bk_X12_readProduct : List (Nat × bO) := [(0, .aload_n 0, 0, 0, 0, 0), (1, .invokevirtual 450, 10175, 3689, 0, 14), (4, .istore_n 1, 0, 0, 0, 0), (5, .iload_n 1, 0, 0, 0, 0), (6, .ifCond .lt 70, 0, 76, 0, 0), (9, .aload_n 0, 0, 0, 0, 0), (10, .invokevirtual 440, 10183, 3704, 0, 14), (13, .bipush 42, 0, 0, 0, 0), (15, .if_icmp .eq 12, 0, 27, 0, 0), (18, .aload_n 0, 0, 0, 0, 0), (19, .invokevirtual 440, 10183, 3704, 0, 14), (22, .bipush 47, 0, 0, 0, 0), (24, .if_icmp .ne 52, 0, 76, 0, 0), (27, .aload_n 0, 0, 0, 0, 0), (28, .invokevirtual 440, 10183, 3704, 0, 14), (31, .istore_n 2, 0, 0, 0, 0), (32, .aload_n 0, 0, 0, 0, 0), (33, .dup, 0, 0, 0, 0), (34, .getfield 431, 8113, 14, 34, 0), (37, .iconst 1, 0, 0, 0, 0), (38, .iadd, 0, 0, 0, 0), (39, .putfield 431, 8113, 14, 34, 0), (42, .aload_n 0, 0, 0, 0, 0), (43, .dup, 0, 0, 0, 0), (44, .getfield 444, 8114, 14, 35, 0), (47, .iconst 1, 0, 0, 0, 0), (48, .iadd, 0, 0, 0, 0), (49, .putfield 444, 8114, 14, 35, 0), (52, .aload_n 0, 0, 0, 0, 0), (53, .invokevirtual 450, 10175, 3689, 0, 14), (56, .istore_n 3, 0, 0, 0, 0), (57, .iload_n 3, 0, 0, 0, 0), (58, .ifCond .ge 7, 0, 65, 0, 0), (61, .iconst (-1), 0, 0, 0, 0), (62, .goto 10, 0, 72, 0, 0), (65, .aload_n 0, 0, 0, 0, 0), (66, .iload_n 2, 0, 0, 0, 0), (67, .iload_n 1, 0, 0, 0, 0), (68, .iload_n 3, 0, 0, 0, 0), (69, .invokevirtual 446, 10195, 3675, 3, 14), (72, .istore_n 1, 0, 0, 0, 0), (73, .goto (-68), 0, 5, 0, 0), (76, .iload_n 1, 0, 0, 0, 0), (77, .ireturn, 0, 0, 0, 0)]
noncomputable def bk_X12_readSum : List (Nat × bO) := [(0, .aload_n 0, 0, 0, 0, 0), (1, .invokevirtual 437, 10171, 3690, 0, 14), (4, .istore_n 1, 0, 0, 0, 0), (5, .iload_n 1, 0, 0, 0, 0), (6, .ifCond .lt 70, 0, 76, 0, 0), (9, .aload_n 0, 0, 0, 0, 0), (10, .invokevirtual 440, 10183, 3704, 0, 14), (13, .bipush 43, 0, 0, 0, 0), (15, .if_icmp .eq 12, 0, 27, 0, 0), (18, .aload_n 0, 0, 0, 0, 0), (19, .invokevirtual 440, 10183, 3704, 0, 14), (22, .bipush 45, 0, 0, 0, 0), (24, .if_icmp .ne 52, 0, 76, 0, 0), (27, .aload_n 0, 0, 0, 0, 0), (28, .invokevirtual 440, 10183, 3704, 0, 14), (31, .istore_n 2, 0, 0, 0, 0), (32, .aload_n 0, 0, 0, 0, 0), (33, .dup, 0, 0, 0, 0), (34, .getfield 431, 8113, 14, 34, 0), (37, .iconst 1, 0, 0, 0, 0), (38, .iadd, 0, 0, 0, 0), (39, .putfield 431, 8113, 14, 34, 0), (42, .aload_n 0, 0, 0, 0, 0), (43, .dup, 0, 0, 0, 0), (44, .getfield 444, 8114, 14, 35, 0), (47, .iconst 1, 0, 0, 0, 0), (48, .iadd, 0, 0, 0, 0), (49, .putfield 444, 8114, 14, 35, 0), (52, .aload_n 0, 0, 0, 0, 0), (53, .invokevirtual 437, 10171, 3690, 0, 14), (56, .istore_n 3, 0, 0, 0, 0), (57, .iload_n 3, 0, 0, 0, 0), (58, .ifCond .ge 7, 0, 65, 0, 0), (61, .iconst (-1), 0, 0, 0, 0), (62, .goto 10, 0, 72, 0, 0), (65, .aload_n 0, 0, 0, 0, 0), (66, .iload_n 2, 0, 0, 0, 0), (67, .iload_n 1, 0, 0, 0, 0), (68, .iload_n 3, 0, 0, 0, 0), (69, .invokevirtual 446, 10195, 3675, 3, 14), (72, .istore_n 1, 0, 0, 0, 0), (73, .goto (-68), 0, 5, 0, 0), (76, .iload_n 1, 0, 0, 0, 0), (77, .ireturn, 0, 0, 0, 0)]
noncomputable def bk_X12_rises : List (Nat × bO) := []
noncomputable def bk_X12_rising : List (Nat × bO) := []
noncomputable def bk_X12_root : List (Nat × bO) := [(0, .aload_n 0, 0, 0, 0, 0), (1, .iload_n 1, 0, 0, 0, 0), (2, .invokestatic 347, 9017, 3633, 1, 0), (5, .ifCond .eq 10, 0, 15, 0, 0), (8, .iload_n 2, 0, 0, 0, 0), (9, .invokestatic 347, 9017, 3633, 1, 0), (12, .ifCond .ne 7, 0, 19, 0, 0), (15, .iconst 1, 0, 0, 0, 0), (16, .goto 35, 0, 51, 0, 0), (19, .iload_n 3, 0, 0, 0, 0), (20, .i2l, 0, 0, 0, 0), (21, .ldc2_w 132, 9134, 0, 0, 2), (24, .ldc2_w 261, 9129, 0, 0, 4), (27, .invokestatic 320, 8218, 3626, 3, 0), (30, .ifCond .ne 7, 0, 37, 0, 0), (33, .iconst 2, 0, 0, 0, 0), (34, .goto 17, 0, 51, 0, 0), (37, .aload_n 0, 0, 0, 0, 0), (38, .getfield 33, 8089, 14, 10, 0), (41, .iload_n 2, 0, 0, 0, 0), (42, .baload, 0, 0, 0, 0), (43, .ifCond .ne 7, 0, 50, 0, 0), (46, .iconst 3, 0, 0, 0, 0), (47, .goto 4, 0, 51, 0, 0), (50, .iconst 0, 0, 0, 0, 0), (51, .invokevirtual 324, 8221, 3614, 1, 14), (54, .ifCond .eq 5, 0, 59, 0, 0), (57, .iconst 0, 0, 0, 0, 0), (58, .ireturn, 0, 0, 0, 0), (59, .aload_n 0, 0, 0, 0, 0), (60, .iload_n 1, 0, 0, 0, 0), (61, .aload_n 0, 0, 0, 0, 0), (62, .bipush 60, 0, 0, 0, 0), (64, .iload_n 2, 0, 0, 0, 0), (65, .iload_n 3, 0, 0, 0, 0), (66, .invokevirtual 417, 10097, 3695, 3, 14), (69, .iconst 4, 0, 0, 0, 0), (70, .iconst 4, 0, 0, 0, 0), (71, .invokevirtual 410, 10053, 3652, 4, 14), (74, .ireturn, 0, 0, 0, 0)]
noncomputable def bk_X12_rooted : List (Nat × bO) := []
noncomputable def bk_X12_roots : List (Nat × bO) := []
noncomputable def bk_X12_rounds : List (Nat × bO) := []
noncomputable def bk_X12_scaleOf : List (Nat × bO) := [(0, .aload_n 0, 0, 0, 0, 0), (1, .getfield 327, 8096, 14, 17, 0), (4, .ifCond .le 29, 0, 33, 0, 0), (7, .aload_n 0, 0, 0, 0, 0), (8, .getfield 40, 8094, 14, 15, 0), (11, .iconst 0, 0, 0, 0, 0), (12, .caload, 0, 0, 0, 0), (13, .bipush 43, 0, 0, 0, 0), (15, .if_icmp .eq 14, 0, 29, 0, 0), (18, .aload_n 0, 0, 0, 0, 0), (19, .getfield 40, 8094, 14, 15, 0), (22, .iconst 0, 0, 0, 0, 0), (23, .caload, 0, 0, 0, 0), (24, .bipush 45, 0, 0, 0, 0), (26, .if_icmp .ne 7, 0, 33, 0, 0), (29, .iconst 1, 0, 0, 0, 0), (30, .goto 4, 0, 34, 0, 0), (33, .iconst 0, 0, 0, 0, 0), (34, .istore_n 1, 0, 0, 0, 0), (35, .iconst 0, 0, 0, 0, 0), (36, .istore_n 2, 0, 0, 0, 0), (37, .iconst (-1), 0, 0, 0, 0), (38, .istore_n 3, 0, 0, 0, 0), (39, .aload_n 0, 0, 0, 0, 0), (40, .getfield 13, 8080, 14, 1, 0), (43, .bipush 9, 0, 0, 0, 0), (45, .iconst 0, 0, 0, 0, 0), (46, .iastore, 0, 0, 0, 0), (47, .iload_n 1, 0, 0, 0, 0), (48, .istore 4, 0, 0, 0, 0), (50, .iload 4, 0, 0, 0, 0), (52, .aload_n 0, 0, 0, 0, 0), (53, .getfield 327, 8096, 14, 17, 0), (56, .if_icmp .ge 101, 0, 157, 0, 0), (59, .aload_n 0, 0, 0, 0, 0), (60, .getfield 40, 8094, 14, 15, 0), (63, .iload 4, 0, 0, 0, 0), (65, .caload, 0, 0, 0, 0), (66, .bipush 46, 0, 0, 0, 0), (68, .if_icmp .ne 12, 0, 80, 0, 0), (71, .iload_n 3, 0, 0, 0, 0), (72, .ifCond .ge 8, 0, 80, 0, 0), (75, .iconst 0, 0, 0, 0, 0), (76, .istore_n 3, 0, 0, 0, 0), (77, .goto 74, 0, 151, 0, 0), (80, .aload_n 0, 0, 0, 0, 0), (81, .getfield 40, 8094, 14, 15, 0), (84, .iload 4, 0, 0, 0, 0), (86, .caload, 0, 0, 0, 0), (87, .invokestatic 358, 9100, 3630, 1, 0), (90, .ifCond .eq 9, 0, 99, 0, 0), (93, .iload_n 2, 0, 0, 0, 0), (94, .bipush 22, 0, 0, 0, 0), (96, .if_icmp .ne 5, 0, 101, 0, 0), (99, .iconst (-1), 0, 0, 0, 0), (100, .ireturn, 0, 0, 0, 0), (101, .aload_n 0, 0, 0, 0, 0), (102, .bipush 9, 0, 0, 0, 0), (104, .ldc2_w 113, 8217, 0, 0, 10), (107, .invokevirtual 119, 9054, 3699, 2, 14), (110, .aload_n 0, 0, 0, 0, 0), (111, .bipush 14, 0, 0, 0, 0), (113, .lconst 0, 0, 0, 0, 0), (114, .aload_n 0, 0, 0, 0, 0), (115, .getfield 40, 8094, 14, 15, 0), (118, .iload 4, 0, 0, 0, 0), (120, .caload, 0, 0, 0, 0), (121, .bipush 48, 0, 0, 0, 0), (123, .isub, 0, 0, 0, 0), (124, .i2l, 0, 0, 0, 0), (125, .invokevirtual 159, 9023, 3702, 3, 14), (128, .aload_n 0, 0, 0, 0, 0), (129, .bipush 9, 0, 0, 0, 0), (131, .bipush 14, 0, 0, 0, 0), (133, .invokevirtual 163, 9066, 3679, 2, 14), (136, .iinc 2 1, 0, 0, 0, 0), (139, .iload_n 3, 0, 0, 0, 0), (140, .iload_n 3, 0, 0, 0, 0), (141, .ifCond .ge 7, 0, 148, 0, 0), (144, .iconst 0, 0, 0, 0, 0), (145, .goto 4, 0, 149, 0, 0), (148, .iconst 1, 0, 0, 0, 0), (149, .iadd, 0, 0, 0, 0), (150, .istore_n 3, 0, 0, 0, 0), (151, .iinc 4 1, 0, 0, 0, 0), (154, .goto (-104), 0, 50, 0, 0), (157, .iload_n 2, 0, 0, 0, 0), (158, .ifCond .ne 7, 0, 165, 0, 0), (161, .iconst (-1), 0, 0, 0, 0), (162, .goto 12, 0, 174, 0, 0), (165, .iload_n 3, 0, 0, 0, 0), (166, .ifCond .ge 7, 0, 173, 0, 0), (169, .iconst 0, 0, 0, 0, 0), (170, .goto 4, 0, 174, 0, 0), (173, .iload_n 3, 0, 0, 0, 0), (174, .ireturn, 0, 0, 0, 0)]
noncomputable def bk_X12_scales : List (Nat × bO) := [(0, .lconst 0, 0, 0, 0, 0), (1, .lstore 4, 0, 0, 0, 0), (3, .aload_n 0, 0, 0, 0, 0), (4, .getfield 13, 8080, 14, 1, 0), (7, .iload_n 1, 0, 0, 0, 0), (8, .iaload, 0, 0, 0, 0), (9, .istore 6, 0, 0, 0, 0), (11, .iconst 0, 0, 0, 0, 0), (12, .istore 7, 0, 0, 0, 0), (14, .iload 7, 0, 0, 0, 0), (16, .iload 6, 0, 0, 0, 0), (18, .if_icmp .lt 10, 0, 28, 0, 0), (21, .lload 4, 0, 0, 0, 0), (23, .lconst 0, 0, 0, 0, 0), (24, .lcmp, 0, 0, 0, 0), (25, .ifCond .le 65, 0, 90, 0, 0), (28, .aload_n 0, 0, 0, 0, 0), (29, .iload_n 1, 0, 0, 0, 0), (30, .iload 7, 0, 0, 0, 0), (32, .invokevirtual 105, 9043, 3646, 2, 14), (35, .lload_n 2, 0, 0, 0, 0), (36, .lmul, 0, 0, 0, 0), (37, .lload 4, 0, 0, 0, 0), (39, .ladd, 0, 0, 0, 0), (40, .lstore 8, 0, 0, 0, 0), (42, .lload 8, 0, 0, 0, 0), (44, .ldc2_w 99, 9022, 0, 0, 1000000000), (47, .ldiv, 0, 0, 0, 0), (48, .lstore 4, 0, 0, 0, 0), (50, .iload 7, 0, 0, 0, 0), (52, .aload_n 0, 0, 0, 0, 0), (53, .getfield 13, 8080, 14, 1, 0), (56, .iload_n 1, 0, 0, 0, 0), (57, .iaload, 0, 0, 0, 0), (58, .if_icmp .lt 13, 0, 71, 0, 0), (61, .aload_n 0, 0, 0, 0, 0), (62, .getfield 13, 8080, 14, 1, 0), (65, .iload_n 1, 0, 0, 0, 0), (66, .iload 7, 0, 0, 0, 0), (68, .iconst 1, 0, 0, 0, 0), (69, .iadd, 0, 0, 0, 0), (70, .iastore, 0, 0, 0, 0), (71, .aload_n 0, 0, 0, 0, 0), (72, .iload_n 1, 0, 0, 0, 0), (73, .iload 7, 0, 0, 0, 0), (75, .lload 8, 0, 0, 0, 0), (77, .ldc2_w 99, 9022, 0, 0, 1000000000), (80, .lrem, 0, 0, 0, 0), (81, .invokevirtual 95, 9027, 3644, 3, 14), (84, .iinc 7 1, 0, 0, 0, 0), (87, .goto (-73), 0, 14, 0, 0), (90, .aload_n 0, 0, 0, 0, 0), (91, .iload_n 1, 0, 0, 0, 0), (92, .invokevirtual 101, 9031, 3726, 1, 14), (95, .return_, 0, 0, 0, 0)]
noncomputable def bk_X12_series : List (Nat × bO) := [(0, .aload_n 0, 0, 0, 0, 0), (1, .bipush 7, 0, 0, 0, 0), (3, .invokevirtual 256, 9120, 3731, 1, 14), (6, .aload_n 0, 0, 0, 0, 0), (7, .bipush 7, 0, 0, 0, 0), (9, .bipush 8, 0, 0, 0, 0), (11, .invokevirtual 109, 9039, 3601, 2, 14), (14, .lconst 1, 0, 0, 0, 0), (15, .lstore_n 1, 0, 0, 0, 0), (16, .aload_n 0, 0, 0, 0, 0), (17, .getfield 13, 8080, 14, 1, 0), (20, .bipush 7, 0, 0, 0, 0), (22, .iaload, 0, 0, 0, 0), (23, .ifCond .le 42, 0, 65, 0, 0), (26, .aload_n 0, 0, 0, 0, 0), (27, .bipush 7, 0, 0, 0, 0), (29, .bipush 9, 0, 0, 0, 0), (31, .invokevirtual 228, 9145, 3724, 2, 14), (34, .aload_n 0, 0, 0, 0, 0), (35, .bipush 7, 0, 0, 0, 0), (37, .bipush (-6), 0, 0, 0, 0), (39, .invokevirtual 127, 9124, 3703, 2, 14), (42, .aload_n 0, 0, 0, 0, 0), (43, .bipush 7, 0, 0, 0, 0), (45, .lload_n 1, 0, 0, 0, 0), (46, .invokevirtual 123, 9058, 3676, 2, 14), (49, .lstore_n 3, 0, 0, 0, 0), (50, .aload_n 0, 0, 0, 0, 0), (51, .bipush 8, 0, 0, 0, 0), (53, .bipush 7, 0, 0, 0, 0), (55, .invokevirtual 163, 9066, 3679, 2, 14), (58, .lload_n 1, 0, 0, 0, 0), (59, .lconst 1, 0, 0, 0, 0), (60, .ladd, 0, 0, 0, 0), (61, .lstore_n 1, 0, 0, 0, 0), (62, .goto (-46), 0, 16, 0, 0), (65, .return_, 0, 0, 0, 0)]
noncomputable def bk_X12_setDigits : List (Nat × bO) := [(0, .aload_n 0, 0, 0, 0, 0), (1, .iload_n 1, 0, 0, 0, 0), (2, .i2l, 0, 0, 0, 0), (3, .lconst 0, 0, 0, 0, 0), (4, .ldc2_w 113, 8217, 0, 0, 10), (7, .invokestatic 320, 8218, 3626, 3, 0), (10, .ifCond .eq 7, 0, 17, 0, 0), (13, .iconst 0, 0, 0, 0, 0), (14, .goto 4, 0, 18, 0, 0), (17, .iconst 1, 0, 0, 0, 0), (18, .invokevirtual 324, 8221, 3614, 1, 14), (21, .ifCond .eq 5, 0, 26, 0, 0), (24, .iconst 0, 0, 0, 0, 0), (25, .ireturn, 0, 0, 0, 0), (26, .aload_n 0, 0, 0, 0, 0), (27, .getfield 17, 8081, 14, 2, 0), (30, .istore_n 2, 0, 0, 0, 0), (31, .aload_n 0, 0, 0, 0, 0), (32, .iload_n 1, 0, 0, 0, 0), (33, .putfield 17, 8081, 14, 2, 0), (36, .iload_n 2, 0, 0, 0, 0), (37, .ireturn, 0, 0, 0, 0)]
noncomputable def bk_X12_sets : List (Nat × bO) := [(0, .aload_n 0, 0, 0, 0, 0), (1, .iload_n 1, 0, 0, 0, 0), (2, .iconst 0, 0, 0, 0, 0), (3, .lload 4, 0, 0, 0, 0), (5, .invokevirtual 95, 9027, 3644, 3, 14), (8, .aload_n 0, 0, 0, 0, 0), (9, .iload_n 1, 0, 0, 0, 0), (10, .iconst 1, 0, 0, 0, 0), (11, .lload_n 2, 0, 0, 0, 0), (12, .ldc2_w 99, 9022, 0, 0, 1000000000), (15, .lrem, 0, 0, 0, 0), (16, .invokevirtual 95, 9027, 3644, 3, 14), (19, .aload_n 0, 0, 0, 0, 0), (20, .iload_n 1, 0, 0, 0, 0), (21, .iconst 2, 0, 0, 0, 0), (22, .lload_n 2, 0, 0, 0, 0), (23, .ldc2_w 99, 9022, 0, 0, 1000000000), (26, .ldiv, 0, 0, 0, 0), (27, .ldc2_w 99, 9022, 0, 0, 1000000000), (30, .lrem, 0, 0, 0, 0), (31, .invokevirtual 95, 9027, 3644, 3, 14), (34, .aload_n 0, 0, 0, 0, 0), (35, .iload_n 1, 0, 0, 0, 0), (36, .iconst 3, 0, 0, 0, 0), (37, .lload_n 2, 0, 0, 0, 0), (38, .ldc2_w 99, 9022, 0, 0, 1000000000), (41, .ldiv, 0, 0, 0, 0), (42, .ldc2_w 99, 9022, 0, 0, 1000000000), (45, .ldiv, 0, 0, 0, 0), (46, .invokevirtual 95, 9027, 3644, 3, 14), (49, .aload_n 0, 0, 0, 0, 0), (50, .getfield 13, 8080, 14, 1, 0), (53, .iload_n 1, 0, 0, 0, 0), (54, .iconst 4, 0, 0, 0, 0), (55, .iastore, 0, 0, 0, 0), (56, .aload_n 0, 0, 0, 0, 0), (57, .iload_n 1, 0, 0, 0, 0), (58, .invokevirtual 101, 9031, 3726, 1, 14), (61, .return_, 0, 0, 0, 0)]
noncomputable def bk_X12_shifts : List (Nat × bO) := [(0, .aload_n 0, 0, 0, 0, 0), (1, .getfield 13, 8080, 14, 1, 0), (4, .iload_n 1, 0, 0, 0, 0), (5, .iaload, 0, 0, 0, 0), (6, .ifCond .ne 4, 0, 10, 0, 0), (9, .return_, 0, 0, 0, 0), (10, .iload_n 2, 0, 0, 0, 0), (11, .ifCond .lt 67, 0, 78, 0, 0), (14, .aload_n 0, 0, 0, 0, 0), (15, .getfield 13, 8080, 14, 1, 0), (18, .iload_n 1, 0, 0, 0, 0), (19, .iaload, 0, 0, 0, 0), (20, .iconst 1, 0, 0, 0, 0), (21, .isub, 0, 0, 0, 0), (22, .istore_n 3, 0, 0, 0, 0), (23, .iload_n 3, 0, 0, 0, 0), (24, .ifCond .lt 23, 0, 47, 0, 0), (27, .aload_n 0, 0, 0, 0, 0), (28, .iload_n 1, 0, 0, 0, 0), (29, .iload_n 3, 0, 0, 0, 0), (30, .iload_n 2, 0, 0, 0, 0), (31, .iadd, 0, 0, 0, 0), (32, .aload_n 0, 0, 0, 0, 0), (33, .iload_n 1, 0, 0, 0, 0), (34, .iload_n 3, 0, 0, 0, 0), (35, .invokevirtual 105, 9043, 3646, 2, 14), (38, .invokevirtual 95, 9027, 3644, 3, 14), (41, .iinc 3 (-1), 0, 0, 0, 0), (44, .goto (-21), 0, 23, 0, 0), (47, .iconst 0, 0, 0, 0, 0), (48, .istore_n 3, 0, 0, 0, 0), (49, .iload_n 3, 0, 0, 0, 0), (50, .iload_n 2, 0, 0, 0, 0), (51, .if_icmp .ge 16, 0, 67, 0, 0), (54, .aload_n 0, 0, 0, 0, 0), (55, .iload_n 1, 0, 0, 0, 0), (56, .iload_n 3, 0, 0, 0, 0), (57, .lconst 0, 0, 0, 0, 0), (58, .invokevirtual 95, 9027, 3644, 3, 14), (61, .iinc 3 1, 0, 0, 0, 0), (64, .goto (-15), 0, 49, 0, 0), (67, .aload_n 0, 0, 0, 0, 0), (68, .getfield 13, 8080, 14, 1, 0), (71, .iload_n 1, 0, 0, 0, 0), (72, .dup2, 0, 0, 0, 0), (73, .iaload, 0, 0, 0, 0), (74, .iload_n 2, 0, 0, 0, 0), (75, .iadd, 0, 0, 0, 0), (76, .iastore, 0, 0, 0, 0), (77, .return_, 0, 0, 0, 0), (78, .iconst 0, 0, 0, 0, 0), (79, .istore_n 3, 0, 0, 0, 0), (80, .iload_n 3, 0, 0, 0, 0), (81, .aload_n 0, 0, 0, 0, 0), (82, .getfield 13, 8080, 14, 1, 0), (85, .iload_n 1, 0, 0, 0, 0), (86, .iaload, 0, 0, 0, 0), (87, .iload_n 2, 0, 0, 0, 0), (88, .iadd, 0, 0, 0, 0), (89, .if_icmp .ge 23, 0, 112, 0, 0), (92, .aload_n 0, 0, 0, 0, 0), (93, .iload_n 1, 0, 0, 0, 0), (94, .iload_n 3, 0, 0, 0, 0), (95, .aload_n 0, 0, 0, 0, 0), (96, .iload_n 1, 0, 0, 0, 0), (97, .iload_n 3, 0, 0, 0, 0), (98, .iload_n 2, 0, 0, 0, 0), (99, .isub, 0, 0, 0, 0), (100, .invokevirtual 105, 9043, 3646, 2, 14), (103, .invokevirtual 95, 9027, 3644, 3, 14), (106, .iinc 3 1, 0, 0, 0, 0), (109, .goto (-29), 0, 80, 0, 0), (112, .aload_n 0, 0, 0, 0, 0), (113, .getfield 13, 8080, 14, 1, 0), (116, .iload_n 1, 0, 0, 0, 0), (117, .aload_n 0, 0, 0, 0, 0), (118, .getfield 13, 8080, 14, 1, 0), (121, .iload_n 1, 0, 0, 0, 0), (122, .iaload, 0, 0, 0, 0), (123, .iload_n 2, 0, 0, 0, 0), (124, .iadd, 0, 0, 0, 0), (125, .ifCond .ge 7, 0, 132, 0, 0), (128, .iconst 0, 0, 0, 0, 0), (129, .goto 11, 0, 140, 0, 0), (132, .aload_n 0, 0, 0, 0, 0), (133, .getfield 13, 8080, 14, 1, 0), (136, .iload_n 1, 0, 0, 0, 0), (137, .iaload, 0, 0, 0, 0), (138, .iload_n 2, 0, 0, 0, 0), (139, .iadd, 0, 0, 0, 0), (140, .iastore, 0, 0, 0, 0), (141, .return_, 0, 0, 0, 0)]
noncomputable def bk_X12_sign : List (Nat × bO) := [(0, .aload_n 0, 0, 0, 0, 0), (1, .getfield 431, 8113, 14, 34, 0), (4, .aload_n 0, 0, 0, 0, 0), (5, .getfield 327, 8096, 14, 17, 0), (8, .if_icmp .ge 15, 0, 23, 0, 0), (11, .aload_n 0, 0, 0, 0, 0), (12, .getfield 40, 8094, 14, 15, 0), (15, .aload_n 0, 0, 0, 0, 0), (16, .getfield 431, 8113, 14, 34, 0), (19, .caload, 0, 0, 0, 0), (20, .goto 5, 0, 25, 0, 0), (23, .bipush 32, 0, 0, 0, 0), (25, .ireturn, 0, 0, 0, 0)]
noncomputable def bk_X12_signAt : List (Nat × bO) := [(0, .aload_n 0, 0, 0, 0, 0), (1, .iload_n 1, 0, 0, 0, 0), (2, .i2l, 0, 0, 0, 0), (3, .lconst 0, 0, 0, 0, 0), (4, .aload_n 0, 0, 0, 0, 0), (5, .getfield 327, 8096, 14, 17, 0), (8, .iconst 1, 0, 0, 0, 0), (9, .isub, 0, 0, 0, 0), (10, .i2l, 0, 0, 0, 0), (11, .invokestatic 320, 8218, 3626, 3, 0), (14, .ifCond .eq 7, 0, 21, 0, 0), (17, .iconst 0, 0, 0, 0, 0), (18, .goto 4, 0, 22, 0, 0), (21, .iconst 1, 0, 0, 0, 0), (22, .invokevirtual 324, 8221, 3614, 1, 14), (25, .ifCond .eq 8, 0, 33, 0, 0), (28, .bipush 32, 0, 0, 0, 0), (30, .goto 9, 0, 39, 0, 0), (33, .aload_n 0, 0, 0, 0, 0), (34, .getfield 40, 8094, 14, 15, 0), (37, .iload_n 1, 0, 0, 0, 0), (38, .caload, 0, 0, 0, 0), (39, .ireturn, 0, 0, 0, 0)]
noncomputable def bk_X12_signOf : List (Nat × bO) := []
noncomputable def bk_X12_single : List (Nat × bO) := []
noncomputable def bk_X12_size : List (Nat × bO) := []
noncomputable def bk_X12_slope : List (Nat × bO) := [(0, .aload_n 0, 0, 0, 0, 0), (1, .iload_n 1, 0, 0, 0, 0), (2, .iload_n 2, 0, 0, 0, 0), (3, .iload_n 3, 0, 0, 0, 0), (4, .iload 4, 0, 0, 0, 0), (6, .iconst 1, 0, 0, 0, 0), (7, .invokevirtual 491, 10211, 3653, 5, 14), (10, .ireturn, 0, 0, 0, 0)]
noncomputable def bk_X12_slopes : List (Nat × bO) := []
noncomputable def bk_X12_solve : List (Nat × bO) := [(0, .iload_n 1, 0, 0, 0, 0), (1, .invokestatic 347, 9017, 3633, 1, 0), (4, .ifCond .eq 19, 0, 23, 0, 0), (7, .iload_n 2, 0, 0, 0, 0), (8, .i2l, 0, 0, 0, 0), (9, .lconst 0, 0, 0, 0, 0), (10, .ldc2_w 261, 9129, 0, 0, 4), (13, .invokestatic 320, 8218, 3626, 3, 0), (16, .ifCond .eq 7, 0, 23, 0, 0), (19, .iconst 1, 0, 0, 0, 0), (20, .goto 4, 0, 24, 0, 0), (23, .iconst 0, 0, 0, 0, 0), (24, .istore 4, 0, 0, 0, 0), (26, .iload 4, 0, 0, 0, 0), (28, .istore 5, 0, 0, 0, 0), (30, .iconst 0, 0, 0, 0, 0), (31, .istore 6, 0, 0, 0, 0), (33, .iload 6, 0, 0, 0, 0), (35, .bipush 6, 0, 0, 0, 0), (37, .if_icmp .ge 33, 0, 70, 0, 0), (40, .iload 5, 0, 0, 0, 0), (42, .ifCond .eq 19, 0, 61, 0, 0), (45, .aload_n 0, 0, 0, 0, 0), (46, .getfield 33, 8089, 14, 10, 0), (49, .iload_n 2, 0, 0, 0, 0), (50, .iload 6, 0, 0, 0, 0), (52, .iadd, 0, 0, 0, 0), (53, .baload, 0, 0, 0, 0), (54, .ifCond .eq 7, 0, 61, 0, 0), (57, .iconst 1, 0, 0, 0, 0), (58, .goto 4, 0, 62, 0, 0), (61, .iconst 0, 0, 0, 0, 0), (62, .istore 5, 0, 0, 0, 0), (64, .iinc 6 1, 0, 0, 0, 0), (67, .goto (-34), 0, 33, 0, 0), (70, .aload_n 0, 0, 0, 0, 0), (71, .iload 4, 0, 0, 0, 0), (73, .ifCond .ne 7, 0, 80, 0, 0), (76, .iconst 1, 0, 0, 0, 0), (77, .goto 13, 0, 90, 0, 0), (80, .iload 5, 0, 0, 0, 0), (82, .ifCond .ne 7, 0, 89, 0, 0), (85, .iconst 2, 0, 0, 0, 0), (86, .goto 4, 0, 90, 0, 0), (89, .iconst 0, 0, 0, 0, 0), (90, .invokevirtual 324, 8221, 3614, 1, 14), (93, .ifCond .eq 5, 0, 98, 0, 0), (96, .iconst 0, 0, 0, 0, 0), (97, .ireturn, 0, 0, 0, 0), (98, .iload_n 2, 0, 0, 0, 0), (99, .istore 6, 0, 0, 0, 0), (101, .iload_n 2, 0, 0, 0, 0), (102, .iconst 3, 0, 0, 0, 0), (103, .iadd, 0, 0, 0, 0), (104, .istore 7, 0, 0, 0, 0), (106, .aload_n 0, 0, 0, 0, 0), (107, .bipush 62, 0, 0, 0, 0), (109, .putfield 37, 8090, 14, 11, 0), (112, .iload_n 3, 0, 0, 0, 0), (113, .ifCond .eq 22, 0, 135, 0, 0), (116, .aload_n 0, 0, 0, 0, 0), (117, .bipush 60, 0, 0, 0, 0), (119, .iload 6, 0, 0, 0, 0), (121, .iload_n 2, 0, 0, 0, 0), (122, .iconst 5, 0, 0, 0, 0), (123, .iadd, 0, 0, 0, 0), (124, .iload_n 2, 0, 0, 0, 0), (125, .iconst 2, 0, 0, 0, 0), (126, .iadd, 0, 0, 0, 0), (127, .iload 7, 0, 0, 0, 0), (129, .invokevirtual 427, 10156, 3602, 5, 14), (132, .goto 21, 0, 153, 0, 0), (135, .aload_n 0, 0, 0, 0, 0), (136, .bipush 60, 0, 0, 0, 0), (138, .iload_n 2, 0, 0, 0, 0), (139, .iconst 2, 0, 0, 0, 0), (140, .iadd, 0, 0, 0, 0), (141, .iload_n 2, 0, 0, 0, 0), (142, .iconst 4, 0, 0, 0, 0), (143, .iadd, 0, 0, 0, 0), (144, .iload_n 2, 0, 0, 0, 0), (145, .iconst 1, 0, 0, 0, 0), (146, .iadd, 0, 0, 0, 0), (147, .iload_n 2, 0, 0, 0, 0), (148, .iconst 5, 0, 0, 0, 0), (149, .iadd, 0, 0, 0, 0), (150, .invokevirtual 427, 10156, 3602, 5, 14), (153, .istore 8, 0, 0, 0, 0), (155, .iload 8, 0, 0, 0, 0), (157, .ifCond .ne 21, 0, 178, 0, 0), (160, .aload_n 0, 0, 0, 0, 0), (161, .bipush 61, 0, 0, 0, 0), (163, .iload 6, 0, 0, 0, 0), (165, .iload_n 2, 0, 0, 0, 0), (166, .iconst 4, 0, 0, 0, 0), (167, .iadd, 0, 0, 0, 0), (168, .iload_n 2, 0, 0, 0, 0), (169, .iconst 1, 0, 0, 0, 0), (170, .iadd, 0, 0, 0, 0), (171, .iload 7, 0, 0, 0, 0), (173, .invokevirtual 427, 10156, 3602, 5, 14), (176, .istore 8, 0, 0, 0, 0), (178, .iload 8, 0, 0, 0, 0), (180, .ifCond .ne 15, 0, 195, 0, 0), (183, .aload_n 0, 0, 0, 0, 0), (184, .bipush 60, 0, 0, 0, 0), (186, .bipush 60, 0, 0, 0, 0), (188, .bipush 61, 0, 0, 0, 0), (190, .invokevirtual 403, 10041, 3684, 3, 14), (193, .istore 8, 0, 0, 0, 0), (195, .aload_n 0, 0, 0, 0, 0), (196, .bipush 60, 0, 0, 0, 0), (198, .putfield 37, 8090, 14, 11, 0), (201, .aload_n 0, 0, 0, 0, 0), (202, .iload_n 1, 0, 0, 0, 0), (203, .iload 8, 0, 0, 0, 0), (205, .iconst 3, 0, 0, 0, 0), (206, .iconst 4, 0, 0, 0, 0), (207, .invokevirtual 410, 10053, 3652, 4, 14), (210, .ireturn, 0, 0, 0, 0)]
noncomputable def bk_X12_spans : List (Nat × bO) := []
noncomputable def bk_X12_spelledInto : List (Nat × bO) := []
noncomputable def bk_X12_spells : List (Nat × bO) := []
noncomputable def bk_X12_subtract : List (Nat × bO) := [(0, .aload_n 0, 0, 0, 0, 0), (1, .aload_n 0, 0, 0, 0, 0), (2, .iload_n 1, 0, 0, 0, 0), (3, .iload_n 2, 0, 0, 0, 0), (4, .iload_n 3, 0, 0, 0, 0), (5, .invokevirtual 369, 9157, 3668, 3, 14), (8, .invokevirtual 324, 8221, 3614, 1, 14), (11, .ifCond .ne 19, 0, 30, 0, 0), (14, .aload_n 0, 0, 0, 0, 0), (15, .iload_n 1, 0, 0, 0, 0), (16, .bipush 45, 0, 0, 0, 0), (18, .iload_n 2, 0, 0, 0, 0), (19, .iload_n 3, 0, 0, 0, 0), (20, .invokevirtual 393, 9232, 3651, 4, 14), (23, .ifCond .eq 7, 0, 30, 0, 0), (26, .iconst 1, 0, 0, 0, 0), (27, .goto 4, 0, 31, 0, 0), (30, .iconst 0, 0, 0, 0, 0), (31, .ireturn, 0, 0, 0, 0)]
noncomputable def bk_X12_sum : List (Nat × bO) := []
noncomputable def bk_X12_sure : List (Nat × bO) := [(0, .aload_n 0, 0, 0, 0, 0), (1, .aload_n 0, 0, 0, 0, 0), (2, .iload_n 1, 0, 0, 0, 0), (3, .invokevirtual 376, 9176, 3666, 1, 14), (6, .invokevirtual 324, 8221, 3614, 1, 14), (9, .ifCond .eq 5, 0, 14, 0, 0), (12, .iconst 0, 0, 0, 0, 0), (13, .ireturn, 0, 0, 0, 0), (14, .bipush 10, 0, 0, 0, 0), (16, .istore_n 2, 0, 0, 0, 0), (17, .iload_n 2, 0, 0, 0, 0), (18, .ifCond .lt 93, 0, 111, 0, 0), (21, .aload_n 0, 0, 0, 0, 0), (22, .aload_n 0, 0, 0, 0, 0), (23, .getfield 21, 8085, 14, 6, 0), (26, .iload_n 1, 0, 0, 0, 0), (27, .laload, 0, 0, 0, 0), (28, .putfield 144, 8083, 14, 4, 0), (31, .aload_n 0, 0, 0, 0, 0), (32, .aload_n 0, 0, 0, 0, 0), (33, .getfield 24, 8086, 14, 7, 0), (36, .iload_n 1, 0, 0, 0, 0), (37, .laload, 0, 0, 0, 0), (38, .putfield 152, 8084, 14, 5, 0), (41, .aload_n 0, 0, 0, 0, 0), (42, .iload_n 2, 0, 0, 0, 0), (43, .iconst 0, 0, 0, 0, 0), (44, .invokevirtual 187, 9221, 3697, 2, 14), (47, .aload_n 0, 0, 0, 0, 0), (48, .getfield 144, 8083, 14, 4, 0), (51, .lstore_n 3, 0, 0, 0, 0), (52, .aload_n 0, 0, 0, 0, 0), (53, .getfield 152, 8084, 14, 5, 0), (56, .lstore 5, 0, 0, 0, 0), (58, .aload_n 0, 0, 0, 0, 0), (59, .aload_n 0, 0, 0, 0, 0), (60, .getfield 27, 8087, 14, 8, 0), (63, .iload_n 1, 0, 0, 0, 0), (64, .laload, 0, 0, 0, 0), (65, .putfield 144, 8083, 14, 4, 0), (68, .aload_n 0, 0, 0, 0, 0), (69, .aload_n 0, 0, 0, 0, 0), (70, .getfield 30, 8088, 14, 9, 0), (73, .iload_n 1, 0, 0, 0, 0), (74, .laload, 0, 0, 0, 0), (75, .putfield 152, 8084, 14, 5, 0), (78, .aload_n 0, 0, 0, 0, 0), (79, .iload_n 2, 0, 0, 0, 0), (80, .iconst 0, 0, 0, 0, 0), (81, .invokevirtual 187, 9221, 3697, 2, 14), (84, .lload_n 3, 0, 0, 0, 0), (85, .aload_n 0, 0, 0, 0, 0), (86, .getfield 144, 8083, 14, 4, 0), (89, .lcmp, 0, 0, 0, 0), (90, .ifCond .ne 15, 0, 105, 0, 0), (93, .lload 5, 0, 0, 0, 0), (95, .aload_n 0, 0, 0, 0, 0), (96, .getfield 152, 8084, 14, 5, 0), (99, .lcmp, 0, 0, 0, 0), (100, .ifCond .ne 5, 0, 105, 0, 0), (103, .iload_n 2, 0, 0, 0, 0), (104, .ireturn, 0, 0, 0, 0), (105, .iinc 2 (-1), 0, 0, 0, 0), (108, .goto (-91), 0, 17, 0, 0), (111, .iconst (-1), 0, 0, 0, 0), (112, .ireturn, 0, 0, 0, 0)]
noncomputable def bk_X12_takes : List (Nat × bO) := [(0, .aload_n 0, 0, 0, 0, 0), (1, .getfield 21, 8085, 14, 6, 0), (4, .iload_n 2, 0, 0, 0, 0), (5, .aload_n 0, 0, 0, 0, 0), (6, .getfield 21, 8085, 14, 6, 0), (9, .iload_n 1, 0, 0, 0, 0), (10, .laload, 0, 0, 0, 0), (11, .lastore, 0, 0, 0, 0), (12, .aload_n 0, 0, 0, 0, 0), (13, .getfield 24, 8086, 14, 7, 0), (16, .iload_n 2, 0, 0, 0, 0), (17, .aload_n 0, 0, 0, 0, 0), (18, .getfield 24, 8086, 14, 7, 0), (21, .iload_n 1, 0, 0, 0, 0), (22, .laload, 0, 0, 0, 0), (23, .lastore, 0, 0, 0, 0), (24, .aload_n 0, 0, 0, 0, 0), (25, .getfield 27, 8087, 14, 8, 0), (28, .iload_n 2, 0, 0, 0, 0), (29, .aload_n 0, 0, 0, 0, 0), (30, .getfield 27, 8087, 14, 8, 0), (33, .iload_n 1, 0, 0, 0, 0), (34, .laload, 0, 0, 0, 0), (35, .lastore, 0, 0, 0, 0), (36, .aload_n 0, 0, 0, 0, 0), (37, .getfield 30, 8088, 14, 9, 0), (40, .iload_n 2, 0, 0, 0, 0), (41, .aload_n 0, 0, 0, 0, 0), (42, .getfield 30, 8088, 14, 9, 0), (45, .iload_n 1, 0, 0, 0, 0), (46, .laload, 0, 0, 0, 0), (47, .lastore, 0, 0, 0, 0), (48, .return_, 0, 0, 0, 0)]
noncomputable def bk_X12_tells : List (Nat × bO) := [(0, .aload_n 0, 0, 0, 0, 0), (1, .bipush 14, 0, 0, 0, 0), (3, .lconst 0, 0, 0, 0, 0), (4, .lconst 1, 0, 0, 0, 0), (5, .invokevirtual 159, 9023, 3702, 3, 14), (8, .iload_n 2, 0, 0, 0, 0), (9, .ifCond .eq 16, 0, 25, 0, 0), (12, .iload 4, 0, 0, 0, 0), (14, .iload_n 3, 0, 0, 0, 0), (15, .if_icmp .eq 10, 0, 25, 0, 0), (18, .aload_n 0, 0, 0, 0, 0), (19, .iload_n 1, 0, 0, 0, 0), (20, .bipush 14, 0, 0, 0, 0), (22, .invokevirtual 163, 9066, 3679, 2, 14), (25, .iload_n 1, 0, 0, 0, 0), (26, .iconst 4, 0, 0, 0, 0), (27, .if_icmp .eq 9, 0, 36, 0, 0), (30, .aload_n 0, 0, 0, 0, 0), (31, .iload_n 1, 0, 0, 0, 0), (32, .iconst 4, 0, 0, 0, 0), (33, .invokevirtual 109, 9039, 3601, 2, 14), (36, .aload_n 0, 0, 0, 0, 0), (37, .iconst 4, 0, 0, 0, 0), (38, .bipush 10, 0, 0, 0, 0), (40, .aload_n 0, 0, 0, 0, 0), (41, .getfield 17, 8081, 14, 2, 0), (44, .isub, 0, 0, 0, 0), (45, .invokevirtual 166, 9047, 3722, 2, 14), (48, .istore 5, 0, 0, 0, 0), (50, .aload_n 0, 0, 0, 0, 0), (51, .getfield 13, 8080, 14, 1, 0), (54, .iconst 4, 0, 0, 0, 0), (55, .iaload, 0, 0, 0, 0), (56, .iconst 3, 0, 0, 0, 0), (57, .if_icmp .le 5, 0, 62, 0, 0), (60, .iconst 0, 0, 0, 0, 0), (61, .ireturn, 0, 0, 0, 0), (62, .aload_n 0, 0, 0, 0, 0), (63, .aload_n 0, 0, 0, 0, 0), (64, .iconst 4, 0, 0, 0, 0), (65, .iconst 0, 0, 0, 0, 0), (66, .invokevirtual 105, 9043, 3646, 2, 14), (69, .putfield 152, 8084, 14, 5, 0), (72, .aload_n 0, 0, 0, 0, 0), (73, .aload_n 0, 0, 0, 0, 0), (74, .iconst 4, 0, 0, 0, 0), (75, .iconst 1, 0, 0, 0, 0), (76, .invokevirtual 105, 9043, 3646, 2, 14), (79, .aload_n 0, 0, 0, 0, 0), (80, .iconst 4, 0, 0, 0, 0), (81, .iconst 2, 0, 0, 0, 0), (82, .invokevirtual 105, 9043, 3646, 2, 14), (85, .ldc2_w 99, 9022, 0, 0, 1000000000), (88, .lmul, 0, 0, 0, 0), (89, .ladd, 0, 0, 0, 0), (90, .putfield 144, 8083, 14, 4, 0), (93, .aload_n 0, 0, 0, 0, 0), (94, .getfield 144, 8083, 14, 4, 0), (97, .ldc2_w 148, 9070, 0, 0, 10000000000000), (100, .lcmp, 0, 0, 0, 0), (101, .ifCond .lt 5, 0, 106, 0, 0), (104, .iconst 0, 0, 0, 0, 0), (105, .ireturn, 0, 0, 0, 0), (106, .iload_n 3, 0, 0, 0, 0), (107, .ifCond .eq 7, 0, 114, 0, 0), (110, .aload_n 0, 0, 0, 0, 0), (111, .invokevirtual 170, 9071, 3728, 0, 14), (114, .aload_n 0, 0, 0, 0, 0), (115, .invokevirtual 173, 9075, 3636, 0, 14), (118, .ifCond .ne 7, 0, 125, 0, 0), (121, .iconst 1, 0, 0, 0, 0), (122, .goto 4, 0, 126, 0, 0), (125, .iconst 0, 0, 0, 0, 0), (126, .ireturn, 0, 0, 0, 0)]
noncomputable def bk_X12_tellsOf : List (Nat × bO) := []
noncomputable def bk_X12_ten : List (Nat × bO) := [(0, .lconst 1, 0, 0, 0, 0), (1, .lstore_n 1, 0, 0, 0, 0), (2, .iconst 0, 0, 0, 0, 0), (3, .istore_n 3, 0, 0, 0, 0), (4, .iload_n 3, 0, 0, 0, 0), (5, .iload_n 0, 0, 0, 0, 0), (6, .if_icmp .ge 15, 0, 21, 0, 0), (9, .lload_n 1, 0, 0, 0, 0), (10, .ldc2_w 113, 8217, 0, 0, 10), (13, .lmul, 0, 0, 0, 0), (14, .lstore_n 1, 0, 0, 0, 0), (15, .iinc 3 1, 0, 0, 0, 0), (18, .goto (-14), 0, 4, 0, 0), (21, .lload_n 1, 0, 0, 0, 0), (22, .lreturn, 0, 0, 0, 0)]
noncomputable def bk_X12_tens : List (Nat × bO) := [(0, .iconst 0, 0, 0, 0, 0), (1, .istore_n 3, 0, 0, 0, 0), (2, .iload_n 2, 0, 0, 0, 0), (3, .istore 4, 0, 0, 0, 0), (5, .iload 4, 0, 0, 0, 0), (7, .ifCond .le 31, 0, 38, 0, 0), (10, .aload_n 0, 0, 0, 0, 0), (11, .iload_n 1, 0, 0, 0, 0), (12, .iload 4, 0, 0, 0, 0), (14, .bipush 9, 0, 0, 0, 0), (16, .if_icmp .le 8, 0, 24, 0, 0), (19, .bipush 9, 0, 0, 0, 0), (21, .goto 5, 0, 26, 0, 0), (24, .iload 4, 0, 0, 0, 0), (26, .invokestatic 115, 9051, 3721, 1, 0), (29, .invokevirtual 119, 9054, 3699, 2, 14), (32, .iinc 4 (-9), 0, 0, 0, 0), (35, .goto (-30), 0, 5, 0, 0), (38, .iload_n 2, 0, 0, 0, 0), (39, .ineg, 0, 0, 0, 0), (40, .istore 4, 0, 0, 0, 0), (42, .iload 4, 0, 0, 0, 0), (44, .ifCond .le 44, 0, 88, 0, 0), (47, .iload_n 3, 0, 0, 0, 0), (48, .aload_n 0, 0, 0, 0, 0), (49, .iload_n 1, 0, 0, 0, 0), (50, .iload 4, 0, 0, 0, 0), (52, .bipush 9, 0, 0, 0, 0), (54, .if_icmp .le 8, 0, 62, 0, 0), (57, .bipush 9, 0, 0, 0, 0), (59, .goto 5, 0, 64, 0, 0), (62, .iload 4, 0, 0, 0, 0), (64, .invokestatic 115, 9051, 3721, 1, 0), (67, .invokevirtual 123, 9058, 3676, 2, 14), (70, .lconst 0, 0, 0, 0, 0), (71, .lcmp, 0, 0, 0, 0), (72, .ifCond .le 7, 0, 79, 0, 0), (75, .iconst 1, 0, 0, 0, 0), (76, .goto 4, 0, 80, 0, 0), (79, .iconst 0, 0, 0, 0, 0), (80, .ior, 0, 0, 0, 0), (81, .istore_n 3, 0, 0, 0, 0), (82, .iinc 4 (-9), 0, 0, 0, 0), (85, .goto (-43), 0, 42, 0, 0), (88, .iload_n 3, 0, 0, 0, 0), (89, .ireturn, 0, 0, 0, 0)]
noncomputable def bk_X12_thrown : List (Nat × bO) := [(0, .aload_n 0, 0, 0, 0, 0), (1, .getfield 141, 8082, 14, 3, 0), (4, .ireturn, 0, 0, 0, 0)]
noncomputable def bk_X12_times : List (Nat × bO) := [(0, .aload_n 0, 0, 0, 0, 0), (1, .getfield 13, 8080, 14, 1, 0), (4, .iconst 5, 0, 0, 0, 0), (5, .iconst 0, 0, 0, 0, 0), (6, .iastore, 0, 0, 0, 0), (7, .iconst 0, 0, 0, 0, 0), (8, .istore_n 3, 0, 0, 0, 0), (9, .iload_n 3, 0, 0, 0, 0), (10, .aload_n 0, 0, 0, 0, 0), (11, .getfield 13, 8080, 14, 1, 0), (14, .iload_n 1, 0, 0, 0, 0), (15, .iaload, 0, 0, 0, 0), (16, .aload_n 0, 0, 0, 0, 0), (17, .getfield 13, 8080, 14, 1, 0), (20, .iload_n 2, 0, 0, 0, 0), (21, .iaload, 0, 0, 0, 0), (22, .iadd, 0, 0, 0, 0), (23, .if_icmp .ge 16, 0, 39, 0, 0), (26, .aload_n 0, 0, 0, 0, 0), (27, .iconst 5, 0, 0, 0, 0), (28, .iload_n 3, 0, 0, 0, 0), (29, .lconst 0, 0, 0, 0, 0), (30, .invokevirtual 95, 9027, 3644, 3, 14), (33, .iinc 3 1, 0, 0, 0, 0), (36, .goto (-27), 0, 9, 0, 0), (39, .iconst 0, 0, 0, 0, 0), (40, .istore_n 3, 0, 0, 0, 0), (41, .iload_n 3, 0, 0, 0, 0), (42, .aload_n 0, 0, 0, 0, 0), (43, .getfield 13, 8080, 14, 1, 0), (46, .iload_n 1, 0, 0, 0, 0), (47, .iaload, 0, 0, 0, 0), (48, .if_icmp .ge 95, 0, 143, 0, 0), (51, .lconst 0, 0, 0, 0, 0), (52, .lstore 4, 0, 0, 0, 0), (54, .iconst 0, 0, 0, 0, 0), (55, .istore 6, 0, 0, 0, 0), (57, .iload 6, 0, 0, 0, 0), (59, .aload_n 0, 0, 0, 0, 0), (60, .getfield 13, 8080, 14, 1, 0), (63, .iload_n 2, 0, 0, 0, 0), (64, .iaload, 0, 0, 0, 0), (65, .if_icmp .lt 10, 0, 75, 0, 0), (68, .lload 4, 0, 0, 0, 0), (70, .lconst 0, 0, 0, 0, 0), (71, .lcmp, 0, 0, 0, 0), (72, .ifCond .le 65, 0, 137, 0, 0), (75, .aload_n 0, 0, 0, 0, 0), (76, .getfield 7, 8079, 14, 0, 0), (79, .sipush 320, 0, 0, 0, 0), (82, .iload_n 3, 0, 0, 0, 0), (83, .iadd, 0, 0, 0, 0), (84, .iload 6, 0, 0, 0, 0), (86, .iadd, 0, 0, 0, 0), (87, .laload, 0, 0, 0, 0), (88, .aload_n 0, 0, 0, 0, 0), (89, .iload_n 1, 0, 0, 0, 0), (90, .iload_n 3, 0, 0, 0, 0), (91, .invokevirtual 105, 9043, 3646, 2, 14), (94, .aload_n 0, 0, 0, 0, 0), (95, .iload_n 2, 0, 0, 0, 0), (96, .iload 6, 0, 0, 0, 0), (98, .invokevirtual 105, 9043, 3646, 2, 14), (101, .lmul, 0, 0, 0, 0), (102, .ladd, 0, 0, 0, 0), (103, .lload 4, 0, 0, 0, 0), (105, .ladd, 0, 0, 0, 0), (106, .lstore 7, 0, 0, 0, 0), (108, .lload 7, 0, 0, 0, 0), (110, .ldc2_w 99, 9022, 0, 0, 1000000000), (113, .ldiv, 0, 0, 0, 0), (114, .lstore 4, 0, 0, 0, 0), (116, .aload_n 0, 0, 0, 0, 0), (117, .iconst 5, 0, 0, 0, 0), (118, .iload_n 3, 0, 0, 0, 0), (119, .iload 6, 0, 0, 0, 0), (121, .iadd, 0, 0, 0, 0), (122, .lload 7, 0, 0, 0, 0), (124, .ldc2_w 99, 9022, 0, 0, 1000000000), (127, .lrem, 0, 0, 0, 0), (128, .invokevirtual 95, 9027, 3644, 3, 14), (131, .iinc 6 1, 0, 0, 0, 0), (134, .goto (-77), 0, 57, 0, 0), (137, .iinc 3 1, 0, 0, 0, 0), (140, .goto (-99), 0, 41, 0, 0), (143, .aload_n 0, 0, 0, 0, 0), (144, .getfield 13, 8080, 14, 1, 0), (147, .iconst 5, 0, 0, 0, 0), (148, .aload_n 0, 0, 0, 0, 0), (149, .getfield 13, 8080, 14, 1, 0), (152, .iload_n 1, 0, 0, 0, 0), (153, .iaload, 0, 0, 0, 0), (154, .aload_n 0, 0, 0, 0, 0), (155, .getfield 13, 8080, 14, 1, 0), (158, .iload_n 2, 0, 0, 0, 0), (159, .iaload, 0, 0, 0, 0), (160, .iadd, 0, 0, 0, 0), (161, .iastore, 0, 0, 0, 0), (162, .aload_n 0, 0, 0, 0, 0), (163, .iconst 5, 0, 0, 0, 0), (164, .invokevirtual 101, 9031, 3726, 1, 14), (167, .aload_n 0, 0, 0, 0, 0), (168, .iconst 5, 0, 0, 0, 0), (169, .iload_n 1, 0, 0, 0, 0), (170, .invokevirtual 109, 9039, 3601, 2, 14), (173, .return_, 0, 0, 0, 0)]
noncomputable def bk_X12_told : List (Nat × bO) := []
noncomputable def bk_X12_trims : List (Nat × bO) := [(0, .aload_n 0, 0, 0, 0, 0), (1, .getfield 13, 8080, 14, 1, 0), (4, .iload_n 1, 0, 0, 0, 0), (5, .iaload, 0, 0, 0, 0), (6, .ifCond .le 39, 0, 45, 0, 0), (9, .aload_n 0, 0, 0, 0, 0), (10, .getfield 7, 8079, 14, 0, 0), (13, .bipush 64, 0, 0, 0, 0), (15, .iload_n 1, 0, 0, 0, 0), (16, .imul, 0, 0, 0, 0), (17, .aload_n 0, 0, 0, 0, 0), (18, .getfield 13, 8080, 14, 1, 0), (21, .iload_n 1, 0, 0, 0, 0), (22, .iaload, 0, 0, 0, 0), (23, .iadd, 0, 0, 0, 0), (24, .iconst 1, 0, 0, 0, 0), (25, .isub, 0, 0, 0, 0), (26, .laload, 0, 0, 0, 0), (27, .lconst 0, 0, 0, 0, 0), (28, .lcmp, 0, 0, 0, 0), (29, .ifCond .ne 16, 0, 45, 0, 0), (32, .aload_n 0, 0, 0, 0, 0), (33, .getfield 13, 8080, 14, 1, 0), (36, .iload_n 1, 0, 0, 0, 0), (37, .dup2, 0, 0, 0, 0), (38, .iaload, 0, 0, 0, 0), (39, .iconst 1, 0, 0, 0, 0), (40, .isub, 0, 0, 0, 0), (41, .iastore, 0, 0, 0, 0), (42, .goto (-42), 0, 0, 0, 0), (45, .return_, 0, 0, 0, 0)]
noncomputable def bk_X12_turned : List (Nat × bO) := []
noncomputable def bk_X12_turns : List (Nat × bO) := [(0, .aload_n 0, 0, 0, 0, 0), (1, .aload_n 0, 0, 0, 0, 0), (2, .getfield 152, 8084, 14, 5, 0), (5, .lconst 0, 0, 0, 0, 0), (6, .lcmp, 0, 0, 0, 0), (7, .ifCond .ne 11, 0, 18, 0, 0), (10, .aload_n 0, 0, 0, 0, 0), (11, .getfield 144, 8083, 14, 4, 0), (14, .lneg, 0, 0, 0, 0), (15, .goto 10, 0, 25, 0, 0), (18, .aload_n 0, 0, 0, 0, 0), (19, .getfield 144, 8083, 14, 4, 0), (22, .lneg, 0, 0, 0, 0), (23, .lconst 1, 0, 0, 0, 0), (24, .lsub, 0, 0, 0, 0), (25, .putfield 144, 8083, 14, 4, 0), (28, .aload_n 0, 0, 0, 0, 0), (29, .aload_n 0, 0, 0, 0, 0), (30, .getfield 152, 8084, 14, 5, 0), (33, .lconst 0, 0, 0, 0, 0), (34, .lcmp, 0, 0, 0, 0), (35, .ifCond .ne 7, 0, 42, 0, 0), (38, .lconst 0, 0, 0, 0, 0), (39, .goto 11, 0, 50, 0, 0), (42, .ldc2_w 99, 9022, 0, 0, 1000000000), (45, .aload_n 0, 0, 0, 0, 0), (46, .getfield 152, 8084, 14, 5, 0), (49, .lsub, 0, 0, 0, 0), (50, .putfield 152, 8084, 14, 5, 0), (53, .return_, 0, 0, 0, 0)]
noncomputable def bk_X12_type : List (Nat × bO) := [(0, .aload_n 0, 0, 0, 0, 0), (1, .iload_n 1, 0, 0, 0, 0), (2, .bipush 32, 0, 0, 0, 0), (4, .if_icmp .lt 9, 0, 13, 0, 0), (7, .iload_n 1, 0, 0, 0, 0), (8, .bipush 126, 0, 0, 0, 0), (10, .if_icmp .le 7, 0, 17, 0, 0), (13, .iconst 1, 0, 0, 0, 0), (14, .goto 17, 0, 31, 0, 0), (17, .aload_n 0, 0, 0, 0, 0), (18, .getfield 327, 8096, 14, 17, 0), (21, .bipush 60, 0, 0, 0, 0), (23, .if_icmp .ne 7, 0, 30, 0, 0), (26, .iconst 2, 0, 0, 0, 0), (27, .goto 4, 0, 31, 0, 0), (30, .iconst 0, 0, 0, 0, 0), (31, .invokevirtual 324, 8221, 3614, 1, 14), (34, .ifCond .eq 5, 0, 39, 0, 0), (37, .iconst 0, 0, 0, 0, 0), (38, .ireturn, 0, 0, 0, 0), (39, .aload_n 0, 0, 0, 0, 0), (40, .getfield 40, 8094, 14, 15, 0), (43, .aload_n 0, 0, 0, 0, 0), (44, .getfield 327, 8096, 14, 17, 0), (47, .iload_n 1, 0, 0, 0, 0), (48, .castore, 0, 0, 0, 0), (49, .aload_n 0, 0, 0, 0, 0), (50, .dup, 0, 0, 0, 0), (51, .getfield 327, 8096, 14, 17, 0), (54, .iconst 1, 0, 0, 0, 0), (55, .iadd, 0, 0, 0, 0), (56, .putfield 327, 8096, 14, 17, 0), (59, .aload_n 0, 0, 0, 0, 0), (60, .getfield 327, 8096, 14, 17, 0), (63, .ireturn, 0, 0, 0, 0)]
noncomputable def bk_X12_undo : List (Nat × bO) := [(0, .aload_n 0, 0, 0, 0, 0), (1, .aload_n 0, 0, 0, 0, 0), (2, .getfield 341, 8104, 14, 25, 0), (5, .ifCond .ne 7, 0, 12, 0, 0), (8, .iconst 1, 0, 0, 0, 0), (9, .goto 4, 0, 13, 0, 0), (12, .iconst 0, 0, 0, 0, 0), (13, .invokevirtual 324, 8221, 3614, 1, 14), (16, .ifCond .eq 5, 0, 21, 0, 0), (19, .iconst 0, 0, 0, 0, 0), (20, .ireturn, 0, 0, 0, 0), (21, .aload_n 0, 0, 0, 0, 0), (22, .dup, 0, 0, 0, 0), (23, .getfield 341, 8104, 14, 25, 0), (26, .iconst 1, 0, 0, 0, 0), (27, .isub, 0, 0, 0, 0), (28, .putfield 341, 8104, 14, 25, 0), (31, .aload_n 0, 0, 0, 0, 0), (32, .getfield 47, 8098, 14, 19, 0), (35, .aload_n 0, 0, 0, 0, 0), (36, .getfield 341, 8104, 14, 25, 0), (39, .iaload, 0, 0, 0, 0), (40, .istore_n 1, 0, 0, 0, 0), (41, .aload_n 0, 0, 0, 0, 0), (42, .getfield 33, 8089, 14, 10, 0), (45, .iload_n 1, 0, 0, 0, 0), (46, .aload_n 0, 0, 0, 0, 0), (47, .getfield 50, 8099, 14, 20, 0), (50, .aload_n 0, 0, 0, 0, 0), (51, .getfield 341, 8104, 14, 25, 0), (54, .baload, 0, 0, 0, 0), (55, .bastore, 0, 0, 0, 0), (56, .aload_n 0, 0, 0, 0, 0), (57, .iload_n 1, 0, 0, 0, 0), (58, .aload_n 0, 0, 0, 0, 0), (59, .getfield 53, 8100, 14, 21, 0), (62, .aload_n 0, 0, 0, 0, 0), (63, .getfield 341, 8104, 14, 25, 0), (66, .laload, 0, 0, 0, 0), (67, .aload_n 0, 0, 0, 0, 0), (68, .getfield 56, 8101, 14, 22, 0), (71, .aload_n 0, 0, 0, 0, 0), (72, .getfield 341, 8104, 14, 25, 0), (75, .laload, 0, 0, 0, 0), (76, .invokevirtual 177, 9005, 3650, 3, 14), (79, .aload_n 0, 0, 0, 0, 0), (80, .iload_n 1, 0, 0, 0, 0), (81, .aload_n 0, 0, 0, 0, 0), (82, .getfield 59, 8102, 14, 23, 0), (85, .aload_n 0, 0, 0, 0, 0), (86, .getfield 341, 8104, 14, 25, 0), (89, .laload, 0, 0, 0, 0), (90, .aload_n 0, 0, 0, 0, 0), (91, .getfield 62, 8103, 14, 24, 0), (94, .aload_n 0, 0, 0, 0, 0), (95, .getfield 341, 8104, 14, 25, 0), (98, .laload, 0, 0, 0, 0), (99, .invokevirtual 180, 9009, 3623, 3, 14), (102, .iload_n 1, 0, 0, 0, 0), (103, .ireturn, 0, 0, 0, 0)]
noncomputable def bk_X12_unit : List (Nat × bO) := [(0, .aload_n 0, 0, 0, 0, 0), (1, .iload_n 1, 0, 0, 0, 0), (2, .lconst 0, 0, 0, 0, 0), (3, .lconst 1, 0, 0, 0, 0), (4, .invokevirtual 159, 9023, 3702, 3, 14), (7, .aload_n 0, 0, 0, 0, 0), (8, .iload_n 1, 0, 0, 0, 0), (9, .bipush 6, 0, 0, 0, 0), (11, .invokevirtual 127, 9124, 3703, 2, 14), (14, .return_, 0, 0, 0, 0)]
noncomputable def bk_X12_unsigned : List (Nat × bO) := []
noncomputable def bk_X12_value : List (Nat × bO) := [(0, .aload_n 0, 0, 0, 0, 0), (1, .iload_n 1, 0, 0, 0, 0), (2, .iload_n 2, 0, 0, 0, 0), (3, .iload_n 3, 0, 0, 0, 0), (4, .iload 4, 0, 0, 0, 0), (6, .iconst 0, 0, 0, 0, 0), (7, .invokevirtual 491, 10211, 3653, 5, 14), (10, .ireturn, 0, 0, 0, 0)]
noncomputable def bk_X12_values : List (Nat × bO) := []
noncomputable def bk_X12_whole : List (Nat × bO) := []
noncomputable def bk_X12_width : List (Nat × bO) := [(0, .aload_n 0, 0, 0, 0, 0), (1, .aload_n 0, 0, 0, 0, 0), (2, .iload_n 1, 0, 0, 0, 0), (3, .invokevirtual 376, 9176, 3666, 1, 14), (6, .invokevirtual 324, 8221, 3614, 1, 14), (9, .ifCond .eq 5, 0, 14, 0, 0), (12, .iconst 0, 0, 0, 0, 0), (13, .ireturn, 0, 0, 0, 0), (14, .aload_n 0, 0, 0, 0, 0), (15, .iload_n 1, 0, 0, 0, 0), (16, .invokevirtual 384, 9197, 3712, 1, 14), (19, .aload_n 0, 0, 0, 0, 0), (20, .aload_n 0, 0, 0, 0, 0), (21, .getfield 144, 8083, 14, 4, 0), (24, .aload_n 0, 0, 0, 0, 0), (25, .getfield 152, 8084, 14, 5, 0), (28, .invokevirtual 380, 9180, 3737, 2, 14), (31, .ireturn, 0, 0, 0, 0)]
noncomputable def bk_X12_writes : List (Nat × bO) := []
noncomputable def bk_X12_zeros : List (Nat × bO) := [(0, .aload_n 0, 0, 0, 0, 0), (1, .aload_n 0, 0, 0, 0, 0), (2, .iload_n 1, 0, 0, 0, 0), (3, .iload_n 2, 0, 0, 0, 0), (4, .invokevirtual 521, 11003, 3667, 2, 14), (7, .ifCond .le 7, 0, 14, 0, 0), (10, .iconst 1, 0, 0, 0, 0), (11, .goto 54, 0, 65, 0, 0), (14, .iload_n 3, 0, 0, 0, 0), (15, .i2l, 0, 0, 0, 0), (16, .lconst 0, 0, 0, 0, 0), (17, .ldc2_w 259, 9128, 0, 0, 3), (20, .invokestatic 320, 8218, 3626, 3, 0), (23, .ifCond .ne 7, 0, 30, 0, 0), (26, .iconst 2, 0, 0, 0, 0), (27, .goto 38, 0, 65, 0, 0), (30, .aload_n 0, 0, 0, 0, 0), (31, .getfield 86, 8112, 14, 33, 0), (34, .iload_n 1, 0, 0, 0, 0), (35, .baload, 0, 0, 0, 0), (36, .ifCond .eq 12, 0, 48, 0, 0), (39, .aload_n 0, 0, 0, 0, 0), (40, .getfield 33, 8089, 14, 10, 0), (43, .iload_n 2, 0, 0, 0, 0), (44, .baload, 0, 0, 0, 0), (45, .ifCond .ne 7, 0, 52, 0, 0), (48, .iconst 3, 0, 0, 0, 0), (49, .goto 16, 0, 65, 0, 0), (52, .aload_n 0, 0, 0, 0, 0), (53, .iload_n 1, 0, 0, 0, 0), (54, .invokevirtual 468, 10203, 3620, 1, 14), (57, .ifCond .eq 7, 0, 64, 0, 0), (60, .iconst 4, 0, 0, 0, 0), (61, .goto 4, 0, 65, 0, 0), (64, .iconst 0, 0, 0, 0, 0), (65, .invokevirtual 324, 8221, 3614, 1, 14), (68, .ifCond .eq 5, 0, 73, 0, 0), (71, .iconst 0, 0, 0, 0, 0), (72, .ireturn, 0, 0, 0, 0), (73, .aload_n 0, 0, 0, 0, 0), (74, .iconst 0, 0, 0, 0, 0), (75, .putfield 510, 8121, 14, 42, 0), (78, .aload_n 0, 0, 0, 0, 0), (79, .bipush 60, 0, 0, 0, 0), (81, .putfield 37, 8090, 14, 11, 0), (84, .aload_n 0, 0, 0, 0, 0), (85, .iload_n 1, 0, 0, 0, 0), (86, .iload_n 2, 0, 0, 0, 0), (87, .iload_n 3, 0, 0, 0, 0), (88, .invokevirtual 517, 11007, 3648, 3, 14), (91, .aload_n 0, 0, 0, 0, 0), (92, .aload_n 0, 0, 0, 0, 0), (93, .getfield 510, 8121, 14, 42, 0), (96, .putfield 524, 8120, 14, 41, 0), (99, .iconst 0, 0, 0, 0, 0), (100, .istore 4, 0, 0, 0, 0), (102, .iload 4, 0, 0, 0, 0), (104, .aload_n 0, 0, 0, 0, 0), (105, .getfield 524, 8120, 14, 41, 0), (108, .if_icmp .ge 37, 0, 145, 0, 0), (111, .aload_n 0, 0, 0, 0, 0), (112, .getfield 89, 8118, 14, 39, 0), (115, .iload 4, 0, 0, 0, 0), (117, .aload_n 0, 0, 0, 0, 0), (118, .getfield 92, 8119, 14, 40, 0), (121, .iload 4, 0, 0, 0, 0), (123, .caload, 0, 0, 0, 0), (124, .castore, 0, 0, 0, 0), (125, .aload_n 0, 0, 0, 0, 0), (126, .bipush 20, 0, 0, 0, 0), (128, .iload 4, 0, 0, 0, 0), (130, .iadd, 0, 0, 0, 0), (131, .bipush 10, 0, 0, 0, 0), (133, .iload 4, 0, 0, 0, 0), (135, .iadd, 0, 0, 0, 0), (136, .invokevirtual 235, 9084, 3718, 2, 14), (139, .iinc 4 1, 0, 0, 0, 0), (142, .goto (-40), 0, 102, 0, 0), (145, .aload_n 0, 0, 0, 0, 0), (146, .getfield 524, 8120, 14, 41, 0), (149, .ireturn, 0, 0, 0, 0)]
noncomputable def bkc_14 : List (List (Nat × bO)) := [bk_X12_init, bk_X12_acts, bk_X12_add, bk_X12_adds, bk_X12_again, bk_X12_apply, bk_X12_arcs, bk_X12_area, bk_X12_areas, bk_X12_becomes, bk_X12_bounds, bk_X12_canBe0, bk_X12_canCut, bk_X12_checksum, bk_X12_compare, bk_X12_compares, bk_X12_constant, bk_X12_copies, bk_X12_crossed, bk_X12_cutsInto, bk_X12_decide, bk_X12_deep, bk_X12_define, bk_X12_difference, bk_X12_digits, bk_X12_divide, bk_X12_divides, bk_X12_ends, bk_X12_erase, bk_X12_extreme, bk_X12_fails, bk_X12_faults, bk_X12_four, bk_X12_greatest, bk_X12_half, bk_X12_hasY, bk_X12_hasYOf, bk_X12_held, bk_X12_high_, bk_X12_high, bk_X12_holds0, bk_X12_holdsNothing, bk_X12_in, bk_X12_isAbove0, bk_X12_isBelow, bk_X12_isBelow0, bk_X12_isDigit, bk_X12_isFormula, bk_X12_isLess, bk_X12_isShelf, bk_X12_isSingle, bk_X12_isSound, bk_X12_isTooGreat, bk_X12_isWithin, bk_X12_isWithinOf, bk_X12_join, bk_X12_joins, bk_X12_known, bk_X12_least, bk_X12_less, bk_X12_lets, bk_X12_lifted, bk_X12_limb, bk_X12_logs, bk_X12_looks, bk_X12_low_, bk_X12_low, bk_X12_made, bk_X12_makes, bk_X12_makes_, bk_X12_meet, bk_X12_middle, bk_X12_modulo, bk_X12_move, bk_X12_moves, bk_X12_multiply, bk_X12_narrow, bk_X12_needsBase, bk_X12_needsLog, bk_X12_needsPi, bk_X12_negative, bk_X12_noBounds, bk_X12_noBox, bk_X12_noLook, bk_X12_noPair, bk_X12_number, bk_X12_odds, bk_X12_order, bk_X12_outward, bk_X12_pair, bk_X12_pairs, bk_X12_part, bk_X12_parts, bk_X12_piece, bk_X12_pieceKind, bk_X12_plus, bk_X12_power, bk_X12_powers, bk_X12_product, bk_X12_put, bk_X12_quotient, bk_X12_raises, bk_X12_read, bk_X12_readAtom, bk_X12_readNumber, bk_X12_readPower, bk_X12_readProduct, bk_X12_readSum, bk_X12_rises, bk_X12_rising, bk_X12_root, bk_X12_rooted, bk_X12_roots, bk_X12_rounds, bk_X12_scaleOf, bk_X12_scales, bk_X12_series, bk_X12_setDigits, bk_X12_sets, bk_X12_shifts, bk_X12_sign, bk_X12_signAt, bk_X12_signOf, bk_X12_single, bk_X12_size, bk_X12_slope, bk_X12_slopes, bk_X12_solve, bk_X12_spans, bk_X12_spelledInto, bk_X12_spells, bk_X12_subtract, bk_X12_sum, bk_X12_sure, bk_X12_takes, bk_X12_tells, bk_X12_tellsOf, bk_X12_ten, bk_X12_tens, bk_X12_thrown, bk_X12_times, bk_X12_told, bk_X12_trims, bk_X12_turned, bk_X12_turns, bk_X12_type, bk_X12_undo, bk_X12_unit, bk_X12_unsigned, bk_X12_value, bk_X12_values, bk_X12_whole, bk_X12_width, bk_X12_writes, bk_X12_zeros]
noncomputable def bmc_14 : List bM := [(yX12_init, cX12_init, 1, none, []), (yX12_acts, cX12_acts, 5, (some .int), []), (yX12_add, cX12_add, 4, (some .boolean), []), (yX12_adds, cX12_adds, 10, (some .boolean), []), (yX12_again, cX12_again, 7, (some .int), []), (yX12_apply, cX12_apply, 6, (some .boolean), []), (yX12_arcs, cX12_arcs, 11, (some .boolean), []), (yX12_area, cX12_area, 6, (some .boolean), []), (yX12_areas, cX12_areas, 10, (some .int), []), (yX12_becomes, cX12_becomes, 4, (some .boolean), []), (yX12_bounds, cX12_bounds, 7, (some .boolean), []), (yX12_canBe0, cX12_canBe0, 4, (some .boolean), []), (yX12_canCut, cX12_canCut, 2, (some .boolean), []), (yX12_checksum, cX12_checksum, 4, (some .long), []), (yX12_compare, cX12_compare, 4, (some .int), []), (yX12_compares, cX12_compares, 4, (some .int), []), (yX12_constant, cX12_constant, 3, (some .boolean), []), (yX12_copies, cX12_copies, 4, none, []), (yX12_crossed, cX12_crossed, 8, (some .int), []), (yX12_cutsInto, cX12_cutsInto, 8, (some .int), []), (yX12_decide, cX12_decide, 9, (some .int), []), (yX12_deep, cX12_deep, 5, (some .boolean), []), (yX12_define, cX12_define, 6, (some .int), []), (yX12_difference, cX12_difference, 6, (some .int), []), (yX12_digits, cX12_digits, 1, (some .int), []), (yX12_divide, cX12_divide, 4, (some .boolean), []), (yX12_divides, cX12_divides, 8, none, []), (yX12_ends, cX12_ends, 7, (some .char), []), (yX12_erase, cX12_erase, 2, (some .int), []), (yX12_extreme, cX12_extreme, 12, (some .int), []), (yX12_fails, cX12_fails, 2, (some .boolean), []), (yX12_faults, cX12_faults, 1, (some .int), []), (yX12_four, cX12_four, 7, (some .int), []), (yX12_greatest, cX12_greatest, 5, (some .boolean), []), (yX12_half, cX12_half, 8, none, []), (yX12_hasY, cX12_hasY, 2, (some .boolean), []), (yX12_hasYOf, cX12_hasYOf, 4, (some .boolean), []), (yX12_held, cX12_held, 3, (some .int), []), (yX12_high_, cX12_high_, 2, (some .int), []), (yX12_high, cX12_high, 6, none, []), (yX12_holds0, cX12_holds0, 2, (some .boolean), []), (yX12_holdsNothing, cX12_holdsNothing, 2, (some .boolean), []), (yX12_in, cX12_in, 6, (some .boolean), []), (yX12_isAbove0, cX12_isAbove0, 2, (some .boolean), []), (yX12_isBelow, cX12_isBelow, 2, (some .boolean), []), (yX12_isBelow0, cX12_isBelow0, 2, (some .boolean), []), (yX12_isDigit, cX12_isDigit, 1, (some .boolean), []), (yX12_isFormula, cX12_isFormula, 1, (some .boolean), []), (yX12_isLess, cX12_isLess, 3, (some .boolean), []), (yX12_isShelf, cX12_isShelf, 1, (some .boolean), []), (yX12_isSingle, cX12_isSingle, 2, (some .boolean), []), (yX12_isSound, cX12_isSound, 1, (some .boolean), []), (yX12_isTooGreat, cX12_isTooGreat, 1, (some .boolean), []), (yX12_isWithin, cX12_isWithin, 3, (some .boolean), []), (yX12_isWithinOf, cX12_isWithinOf, 3, (some .boolean), []), (yX12_join, cX12_join, 5, (some .boolean), []), (yX12_joins, cX12_joins, 13, (some .boolean), []), (yX12_known, cX12_known, 4, none, []), (yX12_least, cX12_least, 5, (some .boolean), []), (yX12_less, cX12_less, 8, none, []), (yX12_lets, cX12_lets, 5, none, []), (yX12_lifted, cX12_lifted, 19, (some .int), []), (yX12_limb, cX12_limb, 3, (some .long), []), (yX12_logs, cX12_logs, 13, (some .boolean), []), (yX12_looks, cX12_looks, 6, none, []), (yX12_low_, cX12_low_, 2, (some .int), []), (yX12_low, cX12_low, 6, none, []), (yX12_made, cX12_made, 6, (some .boolean), []), (yX12_makes, cX12_makes, 5, (some .boolean), []), (yX12_makes_, cX12_makes_, 8, (some .boolean), []), (yX12_meet, cX12_meet, 5, (some .boolean), []), (yX12_middle, cX12_middle, 10, none, []), (yX12_modulo, cX12_modulo, 6, (some .long), []), (yX12_move, cX12_move, 6, (some .boolean), []), (yX12_moves, cX12_moves, 14, (some .int), []), (yX12_multiply, cX12_multiply, 4, (some .boolean), []), (yX12_narrow, cX12_narrow, 8, (some .boolean), []), (yX12_needsBase, cX12_needsBase, 1, none, []), (yX12_needsLog, cX12_needsLog, 1, none, []), (yX12_needsPi, cX12_needsPi, 1, none, []), (yX12_negative, cX12_negative, 3, (some .int), []), (yX12_noBounds, cX12_noBounds, 5, (some .int), []), (yX12_noBox, cX12_noBox, 2, (some .int), []), (yX12_noLook, cX12_noLook, 3, (some .int), []), (yX12_noPair, cX12_noPair, 4, (some .int), []), (yX12_number, cX12_number, 10, (some .int), []), (yX12_odds, cX12_odds, 9, none, []), (yX12_order, cX12_order, 8, (some .int), []), (yX12_outward, cX12_outward, 6, (some .int), []), (yX12_pair, cX12_pair, 17, (some .boolean), []), (yX12_pairs, cX12_pairs, 12, (some .int), []), (yX12_part, cX12_part, 5, (some .int), []), (yX12_parts, cX12_parts, 9, (some .long), []), (yX12_piece, cX12_piece, 3, (some .boolean), []), (yX12_pieceKind, cX12_pieceKind, 2, (some .char), []), (yX12_plus, cX12_plus, 9, none, []), (yX12_power, cX12_power, 4, (some .boolean), []), (yX12_powers, cX12_powers, 8, (some .boolean), []), (yX12_product, cX12_product, 4, (some .int), []), (yX12_put, cX12_put, 9, (some .boolean), []), (yX12_quotient, cX12_quotient, 4, (some .int), []), (yX12_raises, cX12_raises, 9, (some .boolean), []), (yX12_read, cX12_read, 3, (some .boolean), []), (yX12_readAtom, cX12_readAtom, 3, (some .int), []), (yX12_readNumber, cX12_readNumber, 7, (some .int), []), (yX12_readPower, cX12_readPower, 3, (some .int), []), (yX12_readProduct, cX12_readProduct, 4, (some .int), []), (yX12_readSum, cX12_readSum, 4, (some .int), []), (yX12_rises, cX12_rises, 7, (some .boolean), []), (yX12_rising, cX12_rising, 8, (some .int), []), (yX12_root, cX12_root, 4, (some .boolean), []), (yX12_rooted, cX12_rooted, 8, (some .int), []), (yX12_roots, cX12_roots, 15, (some .boolean), []), (yX12_rounds, cX12_rounds, 7, none, []), (yX12_scaleOf, cX12_scaleOf, 5, (some .int), []), (yX12_scales, cX12_scales, 10, none, []), (yX12_series, cX12_series, 5, none, []), (yX12_setDigits, cX12_setDigits, 3, (some .int), []), (yX12_sets, cX12_sets, 6, none, []), (yX12_shifts, cX12_shifts, 4, none, []), (yX12_sign, cX12_sign, 1, (some .char), []), (yX12_signAt, cX12_signAt, 2, (some .char), []), (yX12_signOf, cX12_signOf, 4, (some .int), []), (yX12_single, cX12_single, 6, none, []), (yX12_size, cX12_size, 6, none, []), (yX12_slope, cX12_slope, 5, (some .boolean), []), (yX12_slopes, cX12_slopes, 9, (some .int), []), (yX12_solve, cX12_solve, 9, (some .boolean), []), (yX12_spans, cX12_spans, 2, none, []), (yX12_spelledInto, cX12_spelledInto, 10, (some .long), []), (yX12_spells, cX12_spells, 12, none, []), (yX12_subtract, cX12_subtract, 4, (some .boolean), []), (yX12_sum, cX12_sum, 8, (some .int), []), (yX12_sure, cX12_sure, 7, (some .int), []), (yX12_takes, cX12_takes, 3, none, []), (yX12_tells, cX12_tells, 6, (some .boolean), []), (yX12_tellsOf, cX12_tellsOf, 8, (some .char), []), (yX12_ten, cX12_ten, 4, (some .long), []), (yX12_tens, cX12_tens, 5, (some .boolean), []), (yX12_thrown, cX12_thrown, 1, (some .int), []), (yX12_times, cX12_times, 9, none, []), (yX12_told, cX12_told, 6, (some .int), []), (yX12_trims, cX12_trims, 2, none, []), (yX12_turned, cX12_turned, 7, none, []), (yX12_turns, cX12_turns, 1, none, []), (yX12_type, cX12_type, 2, (some .int), []), (yX12_undo, cX12_undo, 2, (some .int), []), (yX12_unit, cX12_unit, 2, none, []), (yX12_unsigned, cX12_unsigned, 6, (some .int), []), (yX12_value, cX12_value, 5, (some .boolean), []), (yX12_values, cX12_values, 7, (some .int), []), (yX12_whole, cX12_whole, 4, (some .int), []), (yX12_width, cX12_width, 2, (some .int), []), (yX12_writes, cX12_writes, 6, (some .int), []), (yX12_zeros, cX12_zeros, 5, (some .int), [])]
noncomputable def bjc_14 : List (Nat × Nat × Nat × Nat × Nat) := [(8077, 8076, 0, 1013, 0), (9239, 9238, 101, 1013, 4), (9231, 9229, 9230, 1013, 3), (10007, 10006, 103, 1013, 5), (10117, 10116, 124, 1013, 2), (10109, 10107, 10108, 1013, 3), (10151, 10150, 132, 1013, 3), (11081, 11079, 11080, 1013, 4), (11085, 11084, 160, 1013, 4), (9083, 9082, 77, 1013, 2), (11065, 11064, 157, 1013, 5), (11057, 11056, 156, 1013, 3), (11025, 11024, 152, 1013, 1), (11107, 11105, 11106, 1013, 0), (9212, 9210, 9211, 1013, 2), (10040, 10039, 111, 1013, 2), (9106, 9104, 9105, 1013, 2), (9042, 9041, 68, 1013, 2), (10159, 10158, 133, 1013, 5), (11053, 11052, 155, 1013, 3), (10238, 10236, 10237, 1013, 3), (9152, 9151, 90, 1013, 3), (10163, 10161, 10162, 1013, 1), (10011, 10010, 104, 1013, 3), (8228, 8226, 8227, 1013, 0), (10068, 10066, 10067, 1013, 3), (10035, 10034, 110, 1013, 0), (11018, 11017, 151, 1013, 2), (8236, 8234, 8235, 1013, 0), (11073, 11072, 159, 1013, 5), (8224, 8223, 61, 1013, 1), (10194, 10193, 140, 1013, 0), (10023, 10022, 107, 1013, 4), (11077, 11075, 11076, 1013, 4), (11033, 11032, 154, 1013, 3), (10202, 10200, 10201, 1013, 1), (10206, 10205, 142, 1013, 1), (11103, 11101, 11102, 1013, 0), (9192, 9190, 9191, 1013, 1), (9012, 9011, 63, 1013, 3), (10048, 10047, 113, 1013, 1), (10052, 10051, 114, 1013, 1), (8220, 8219, 0, 1013, 3), (10129, 10128, 127, 1013, 1), (10088, 10087, 119, 1013, 1), (10084, 10083, 118, 1013, 1), (9102, 9101, 0, 1013, 1), (10166, 10165, 0, 1013, 1), (9216, 9215, 98, 1013, 2), (9019, 9018, 0, 1013, 1), (9091, 9090, 79, 1013, 1), (11117, 11115, 11116, 1013, 0), (9078, 9077, 76, 1013, 0), (9204, 9202, 9203, 1013, 2), (9208, 9207, 97, 1013, 2), (9156, 9154, 9155, 1013, 3), (9164, 9163, 92, 1013, 4), (9110, 9109, 81, 1013, 2), (11061, 11059, 11060, 1013, 4), (9133, 9132, 86, 1013, 2), (9030, 9029, 65, 1013, 3), (10076, 10075, 116, 1013, 3), (9046, 9045, 69, 1013, 2), (10143, 10142, 130, 1013, 3), (11010, 11009, 149, 1013, 3), (9175, 9173, 9174, 1013, 1), (9008, 9007, 62, 1013, 3), (9235, 9234, 100, 1013, 4), (10056, 10055, 115, 1013, 4), (10214, 10213, 143, 1013, 5), (9171, 9169, 9170, 1013, 3), (11029, 11028, 153, 1013, 2), (9227, 9226, 0, 1013, 2), (11089, 11087, 11088, 1013, 4), (11094, 11093, 161, 1013, 4), (10064, 10062, 10063, 1013, 3), (11045, 11043, 11044, 1013, 3), (9140, 9139, 87, 1013, 0), (10147, 10146, 131, 1013, 0), (9114, 9113, 82, 1013, 0), (10113, 10112, 123, 1013, 2), (11069, 11068, 158, 1013, 4), (9179, 9178, 93, 1013, 1), (11006, 11005, 148, 1013, 2), (9160, 9159, 91, 1013, 3), (9038, 9037, 67, 1013, 4), (9119, 9118, 83, 1013, 3), (9167, 9166, 0, 1013, 4), (11099, 11098, 162, 1013, 1), (10027, 10026, 108, 1013, 6), (11049, 11047, 11048, 1013, 5), (10198, 10197, 141, 1013, 3), (9061, 9060, 72, 1013, 2), (11041, 11039, 11040, 1013, 2), (11037, 11035, 11036, 1013, 1), (9069, 9068, 74, 1013, 2), (10072, 10070, 10071, 1013, 3), (10092, 10091, 120, 1013, 4), (10019, 10018, 106, 1013, 3), (9016, 9014, 9015, 1013, 3), (10044, 10043, 112, 1013, 3), (10137, 10136, 129, 1013, 3), (9095, 9093, 9094, 1013, 1), (10182, 10181, 137, 1013, 0), (10190, 10189, 139, 1013, 0), (10178, 10177, 136, 1013, 0), (10174, 10173, 135, 1013, 0), (10170, 10169, 134, 1013, 0), (10133, 10132, 128, 1013, 4), (10125, 10124, 126, 1013, 3), (10096, 10094, 10095, 1013, 3), (10100, 10099, 121, 1013, 3), (10104, 10103, 122, 1013, 4), (9224, 9223, 99, 1013, 2), (9099, 9098, 80, 1013, 0), (9057, 9056, 71, 1013, 2), (9144, 9143, 88, 1013, 0), (8216, 8214, 8215, 1013, 1), (9026, 9025, 64, 1013, 3), (9127, 9126, 85, 1013, 2), (10186, 10185, 138, 1013, 0), (9000, 8238, 8239, 1013, 1), (11021, 11020, 0, 1013, 2), (10080, 10079, 117, 1013, 3), (10031, 10030, 109, 1013, 3), (10234, 10232, 10233, 1013, 4), (10222, 10221, 145, 1013, 2), (10155, 10153, 10154, 1013, 3), (9200, 9199, 96, 1013, 1), (11113, 11112, 163, 1013, 3), (9187, 9186, 95, 1013, 2), (10060, 10058, 10059, 1013, 3), (10003, 10002, 102, 1013, 3), (9220, 9218, 9219, 1013, 1), (9087, 9086, 78, 1013, 2), (9065, 9064, 73, 1013, 4), (11014, 11013, 150, 1013, 2), (9053, 9052, 0, 1013, 1), (9050, 9049, 70, 1013, 2), (8212, 8210, 8211, 1013, 0), (9148, 9147, 89, 1013, 2), (10218, 10217, 144, 1013, 5), (9034, 9033, 66, 1013, 1), (10015, 10014, 105, 1013, 2), (9074, 9073, 75, 1013, 0), (8232, 8230, 8231, 1013, 1), (9004, 9002, 9003, 1013, 0), (9123, 9122, 84, 1013, 1), (10121, 10120, 125, 1013, 2), (10210, 10208, 10209, 1013, 4), (10226, 10225, 146, 1013, 2), (10230, 10229, 147, 1013, 2), (9196, 9194, 9195, 1013, 1), (9183, 9182, 94, 1013, 2), (11002, 11000, 11001, 1013, 3)]
noncomputable def bk_L_add : List (Nat × bO) := [(0, .aload 4, 0, 0, 0, 0), (2, .iconst 0, 0, 0, 0, 0), (3, .aload_n 0, 0, 0, 0, 0), (4, .iload_n 1, 0, 0, 0, 0), (5, .iload_n 2, 0, 0, 0, 0), (6, .iload_n 3, 0, 0, 0, 0), (7, .invokevirtual 72, 6088, 3329, 3, 13), (10, .ifCond .eq 7, 0, 17, 0, 0), (13, .lconst 1, 0, 0, 0, 0), (14, .goto 4, 0, 18, 0, 0), (17, .lconst 0, 0, 0, 0, 0), (18, .lastore, 0, 0, 0, 0), (19, .goto 15, 0, 34, 0, 0), (22, .astore 5, 0, 0, 0, 0), (24, .iconst 1, 0, 0, 0, 0), (25, .ireturn, 0, 0, 0, 0), (26, .astore 5, 0, 0, 0, 0), (28, .iconst 2, 0, 0, 0, 0), (29, .ireturn, 0, 0, 0, 0), (30, .astore 5, 0, 0, 0, 0), (32, .iconst 3, 0, 0, 0, 0), (33, .ireturn, 0, 0, 0, 0), (34, .iconst 0, 0, 0, 0, 0), (35, .ireturn, 0, 0, 0, 0)]
noncomputable def bk_L_apply : List (Nat × bO) := [(0, .aload 4, 0, 0, 0, 0), (2, .iconst 0, 0, 0, 0, 0), (3, .aload_n 0, 0, 0, 0, 0), (4, .iload_n 1, 0, 0, 0, 0), (5, .iload_n 2, 0, 0, 0, 0), (6, .iload_n 3, 0, 0, 0, 0), (7, .invokevirtual 92, 6145, 3330, 3, 13), (10, .ifCond .eq 7, 0, 17, 0, 0), (13, .lconst 1, 0, 0, 0, 0), (14, .goto 4, 0, 18, 0, 0), (17, .lconst 0, 0, 0, 0, 0), (18, .lastore, 0, 0, 0, 0), (19, .goto 23, 0, 42, 0, 0), (22, .astore 5, 0, 0, 0, 0), (24, .iconst 1, 0, 0, 0, 0), (25, .ireturn, 0, 0, 0, 0), (26, .astore 5, 0, 0, 0, 0), (28, .iconst 2, 0, 0, 0, 0), (29, .ireturn, 0, 0, 0, 0), (30, .astore 5, 0, 0, 0, 0), (32, .iconst 3, 0, 0, 0, 0), (33, .ireturn, 0, 0, 0, 0), (34, .astore 5, 0, 0, 0, 0), (36, .iconst 4, 0, 0, 0, 0), (37, .ireturn, 0, 0, 0, 0), (38, .astore 5, 0, 0, 0, 0), (40, .iconst 5, 0, 0, 0, 0), (41, .ireturn, 0, 0, 0, 0), (42, .iconst 0, 0, 0, 0, 0), (43, .ireturn, 0, 0, 0, 0)]
noncomputable def bk_L_area : List (Nat × bO) := [(0, .aload 5, 0, 0, 0, 0), (2, .iconst 0, 0, 0, 0, 0), (3, .aload_n 0, 0, 0, 0, 0), (4, .iload_n 1, 0, 0, 0, 0), (5, .iload_n 2, 0, 0, 0, 0), (6, .iload_n 3, 0, 0, 0, 0), (7, .iload 4, 0, 0, 0, 0), (9, .invokevirtual 141, 8045, 3331, 4, 13), (12, .ifCond .eq 7, 0, 19, 0, 0), (15, .lconst 1, 0, 0, 0, 0), (16, .goto 4, 0, 20, 0, 0), (19, .lconst 0, 0, 0, 0, 0), (20, .lastore, 0, 0, 0, 0), (21, .goto 28, 0, 49, 0, 0), (24, .astore 6, 0, 0, 0, 0), (26, .iconst 1, 0, 0, 0, 0), (27, .ireturn, 0, 0, 0, 0), (28, .astore 6, 0, 0, 0, 0), (30, .iconst 2, 0, 0, 0, 0), (31, .ireturn, 0, 0, 0, 0), (32, .astore 6, 0, 0, 0, 0), (34, .iconst 3, 0, 0, 0, 0), (35, .ireturn, 0, 0, 0, 0), (36, .astore 6, 0, 0, 0, 0), (38, .iconst 4, 0, 0, 0, 0), (39, .ireturn, 0, 0, 0, 0), (40, .astore 6, 0, 0, 0, 0), (42, .iconst 5, 0, 0, 0, 0), (43, .ireturn, 0, 0, 0, 0), (44, .astore 6, 0, 0, 0, 0), (46, .bipush 6, 0, 0, 0, 0), (48, .ireturn, 0, 0, 0, 0), (49, .iconst 0, 0, 0, 0, 0), (50, .ireturn, 0, 0, 0, 0)]
noncomputable def bk_L_compare : List (Nat × bO) := [(0, .aload_n 3, 0, 0, 0, 0), (1, .iconst 0, 0, 0, 0, 0), (2, .aload_n 0, 0, 0, 0, 0), (3, .iload_n 1, 0, 0, 0, 0), (4, .iload_n 2, 0, 0, 0, 0), (5, .invokevirtual 61, 6057, 3349, 2, 13), (8, .i2l, 0, 0, 0, 0), (9, .lastore, 0, 0, 0, 0), (10, .goto 11, 0, 21, 0, 0), (13, .astore 4, 0, 0, 0, 0), (15, .iconst 1, 0, 0, 0, 0), (16, .ireturn, 0, 0, 0, 0), (17, .astore 4, 0, 0, 0, 0), (19, .iconst 2, 0, 0, 0, 0), (20, .ireturn, 0, 0, 0, 0), (21, .iconst 0, 0, 0, 0, 0), (22, .ireturn, 0, 0, 0, 0)]
noncomputable def bk_L_constant : List (Nat × bO) := [(0, .aload_n 3, 0, 0, 0, 0), (1, .iconst 0, 0, 0, 0, 0), (2, .aload_n 0, 0, 0, 0, 0), (3, .iload_n 1, 0, 0, 0, 0), (4, .iload_n 2, 0, 0, 0, 0), (5, .invokevirtual 35, 5208, 3350, 2, 13), (8, .ifCond .eq 7, 0, 15, 0, 0), (11, .lconst 1, 0, 0, 0, 0), (12, .goto 4, 0, 16, 0, 0), (15, .lconst 0, 0, 0, 0, 0), (16, .lastore, 0, 0, 0, 0), (17, .goto 11, 0, 28, 0, 0), (20, .astore 4, 0, 0, 0, 0), (22, .iconst 1, 0, 0, 0, 0), (23, .ireturn, 0, 0, 0, 0), (24, .astore 4, 0, 0, 0, 0), (26, .iconst 2, 0, 0, 0, 0), (27, .ireturn, 0, 0, 0, 0), (28, .iconst 0, 0, 0, 0, 0), (29, .ireturn, 0, 0, 0, 0)]
noncomputable def bk_L_decide : List (Nat × bO) := [(0, .aload 4, 0, 0, 0, 0), (2, .iconst 0, 0, 0, 0, 0), (3, .aload_n 0, 0, 0, 0, 0), (4, .iload_n 1, 0, 0, 0, 0), (5, .iload_n 2, 0, 0, 0, 0), (6, .iload_n 3, 0, 0, 0, 0), (7, .invokevirtual 113, 7125, 3352, 3, 13), (10, .i2l, 0, 0, 0, 0), (11, .lastore, 0, 0, 0, 0), (12, .goto 11, 0, 23, 0, 0), (15, .astore 5, 0, 0, 0, 0), (17, .iconst 1, 0, 0, 0, 0), (18, .ireturn, 0, 0, 0, 0), (19, .astore 5, 0, 0, 0, 0), (21, .iconst 2, 0, 0, 0, 0), (22, .ireturn, 0, 0, 0, 0), (23, .iconst 0, 0, 0, 0, 0), (24, .ireturn, 0, 0, 0, 0)]
noncomputable def bk_L_define : List (Nat × bO) := [(0, .aload_n 2, 0, 0, 0, 0), (1, .iconst 0, 0, 0, 0, 0), (2, .aload_n 0, 0, 0, 0, 0), (3, .iload_n 1, 0, 0, 0, 0), (4, .invokevirtual 100, 6165, 3353, 1, 13), (7, .i2l, 0, 0, 0, 0), (8, .lastore, 0, 0, 0, 0), (9, .goto 6, 0, 15, 0, 0), (12, .astore_n 3, 0, 0, 0, 0), (13, .iconst 1, 0, 0, 0, 0), (14, .ireturn, 0, 0, 0, 0), (15, .iconst 0, 0, 0, 0, 0), (16, .ireturn, 0, 0, 0, 0)]
noncomputable def bk_L_divide : List (Nat × bO) := [(0, .aload 4, 0, 0, 0, 0), (2, .iconst 0, 0, 0, 0, 0), (3, .aload_n 0, 0, 0, 0, 0), (4, .iload_n 1, 0, 0, 0, 0), (5, .iload_n 2, 0, 0, 0, 0), (6, .iload_n 3, 0, 0, 0, 0), (7, .invokevirtual 81, 6118, 3355, 3, 13), (10, .ifCond .eq 7, 0, 17, 0, 0), (13, .lconst 1, 0, 0, 0, 0), (14, .goto 4, 0, 18, 0, 0), (17, .lconst 0, 0, 0, 0, 0), (18, .lastore, 0, 0, 0, 0), (19, .goto 19, 0, 38, 0, 0), (22, .astore 5, 0, 0, 0, 0), (24, .iconst 1, 0, 0, 0, 0), (25, .ireturn, 0, 0, 0, 0), (26, .astore 5, 0, 0, 0, 0), (28, .iconst 2, 0, 0, 0, 0), (29, .ireturn, 0, 0, 0, 0), (30, .astore 5, 0, 0, 0, 0), (32, .iconst 3, 0, 0, 0, 0), (33, .ireturn, 0, 0, 0, 0), (34, .astore 5, 0, 0, 0, 0), (36, .iconst 4, 0, 0, 0, 0), (37, .ireturn, 0, 0, 0, 0), (38, .iconst 0, 0, 0, 0, 0), (39, .ireturn, 0, 0, 0, 0)]
noncomputable def bk_L_greatest : List (Nat × bO) := [(0, .aload 5, 0, 0, 0, 0), (2, .iconst 0, 0, 0, 0, 0), (3, .aload_n 0, 0, 0, 0, 0), (4, .iload_n 1, 0, 0, 0, 0), (5, .iload_n 2, 0, 0, 0, 0), (6, .iload_n 3, 0, 0, 0, 0), (7, .iload 4, 0, 0, 0, 0), (9, .invokevirtual 138, 8038, 3358, 4, 13), (12, .ifCond .eq 7, 0, 19, 0, 0), (15, .lconst 1, 0, 0, 0, 0), (16, .goto 4, 0, 20, 0, 0), (19, .lconst 0, 0, 0, 0, 0), (20, .lastore, 0, 0, 0, 0), (21, .goto 28, 0, 49, 0, 0), (24, .astore 6, 0, 0, 0, 0), (26, .iconst 1, 0, 0, 0, 0), (27, .ireturn, 0, 0, 0, 0), (28, .astore 6, 0, 0, 0, 0), (30, .iconst 2, 0, 0, 0, 0), (31, .ireturn, 0, 0, 0, 0), (32, .astore 6, 0, 0, 0, 0), (34, .iconst 3, 0, 0, 0, 0), (35, .ireturn, 0, 0, 0, 0), (36, .astore 6, 0, 0, 0, 0), (38, .iconst 4, 0, 0, 0, 0), (39, .ireturn, 0, 0, 0, 0), (40, .astore 6, 0, 0, 0, 0), (42, .iconst 5, 0, 0, 0, 0), (43, .ireturn, 0, 0, 0, 0), (44, .astore 6, 0, 0, 0, 0), (46, .bipush 6, 0, 0, 0, 0), (48, .ireturn, 0, 0, 0, 0), (49, .iconst 0, 0, 0, 0, 0), (50, .ireturn, 0, 0, 0, 0)]
noncomputable def bk_L_hasY : List (Nat × bO) := [(0, .aload_n 2, 0, 0, 0, 0), (1, .iconst 0, 0, 0, 0, 0), (2, .aload_n 0, 0, 0, 0, 0), (3, .iload_n 1, 0, 0, 0, 0), (4, .invokevirtual 103, 7004, 3359, 1, 13), (7, .ifCond .eq 7, 0, 14, 0, 0), (10, .lconst 1, 0, 0, 0, 0), (11, .goto 4, 0, 15, 0, 0), (14, .lconst 0, 0, 0, 0, 0), (15, .lastore, 0, 0, 0, 0), (16, .goto 9, 0, 25, 0, 0), (19, .astore_n 3, 0, 0, 0, 0), (20, .iconst 1, 0, 0, 0, 0), (21, .ireturn, 0, 0, 0, 0), (22, .astore_n 3, 0, 0, 0, 0), (23, .iconst 2, 0, 0, 0, 0), (24, .ireturn, 0, 0, 0, 0), (25, .iconst 0, 0, 0, 0, 0), (26, .ireturn, 0, 0, 0, 0)]
noncomputable def bk_L_high : List (Nat × bO) := [(0, .aload_n 2, 0, 0, 0, 0), (1, .iconst 0, 0, 0, 0, 0), (2, .aload_n 0, 0, 0, 0, 0), (3, .iload_n 1, 0, 0, 0, 0), (4, .invokevirtual 51, 6031, 3361, 1, 13), (7, .i2l, 0, 0, 0, 0), (8, .lastore, 0, 0, 0, 0), (9, .goto 9, 0, 18, 0, 0), (12, .astore_n 3, 0, 0, 0, 0), (13, .iconst 1, 0, 0, 0, 0), (14, .ireturn, 0, 0, 0, 0), (15, .astore_n 3, 0, 0, 0, 0), (16, .iconst 2, 0, 0, 0, 0), (17, .ireturn, 0, 0, 0, 0), (18, .iconst 0, 0, 0, 0, 0), (19, .ireturn, 0, 0, 0, 0)]
noncomputable def bk_L_isWithin : List (Nat × bO) := [(0, .aload_n 3, 0, 0, 0, 0), (1, .iconst 0, 0, 0, 0, 0), (2, .aload_n 0, 0, 0, 0, 0), (3, .iload_n 1, 0, 0, 0, 0), (4, .iload_n 2, 0, 0, 0, 0), (5, .invokevirtual 57, 6046, 3365, 2, 13), (8, .ifCond .eq 7, 0, 15, 0, 0), (11, .lconst 1, 0, 0, 0, 0), (12, .goto 4, 0, 16, 0, 0), (15, .lconst 0, 0, 0, 0, 0), (16, .lastore, 0, 0, 0, 0), (17, .goto 11, 0, 28, 0, 0), (20, .astore 4, 0, 0, 0, 0), (22, .iconst 1, 0, 0, 0, 0), (23, .ireturn, 0, 0, 0, 0), (24, .astore 4, 0, 0, 0, 0), (26, .iconst 2, 0, 0, 0, 0), (27, .ireturn, 0, 0, 0, 0), (28, .iconst 0, 0, 0, 0, 0), (29, .ireturn, 0, 0, 0, 0)]
noncomputable def bk_L_join : List (Nat × bO) := [(0, .aload 4, 0, 0, 0, 0), (2, .iconst 0, 0, 0, 0, 0), (3, .aload_n 0, 0, 0, 0, 0), (4, .iload_n 1, 0, 0, 0, 0), (5, .iload_n 2, 0, 0, 0, 0), (6, .iload_n 3, 0, 0, 0, 0), (7, .invokevirtual 39, 5217, 3366, 3, 13), (10, .ifCond .eq 7, 0, 17, 0, 0), (13, .lconst 1, 0, 0, 0, 0), (14, .goto 4, 0, 18, 0, 0), (17, .lconst 0, 0, 0, 0, 0), (18, .lastore, 0, 0, 0, 0), (19, .goto 11, 0, 30, 0, 0), (22, .astore 5, 0, 0, 0, 0), (24, .iconst 1, 0, 0, 0, 0), (25, .ireturn, 0, 0, 0, 0), (26, .astore 5, 0, 0, 0, 0), (28, .iconst 2, 0, 0, 0, 0), (29, .ireturn, 0, 0, 0, 0), (30, .iconst 0, 0, 0, 0, 0), (31, .ireturn, 0, 0, 0, 0)]
noncomputable def bk_L_law_0 : List (Nat × bO) := [(0, .new 8, 1030, 13, 0, 0), (3, .dup, 0, 0, 0, 0), (4, .invokespecial 147, 1032, 3328, 0, 0), (7, .astore_n 1, 0, 0, 0, 0), (8, .new 148, 8073, 14, 0, 0), (11, .dup, 0, 0, 0, 0), (12, .invokespecial 150, 8075, 3584, 0, 0), (15, .astore_n 2, 0, 0, 0, 0), (16, .iconst 1, 0, 0, 0, 0), (17, .newarray .long, 1186, 2, 0, 0), (19, .astore_n 3, 0, 0, 0, 0), (20, .iconst 0, 0, 0, 0, 0), (21, .istore 4, 0, 0, 0, 0), (23, .iload 4, 0, 0, 0, 0), (25, .aload_n 0, 0, 0, 0, 0), (26, .arraylength, 0, 0, 0, 0), (27, .bipush 6, 0, 0, 0, 0), (29, .isub, 0, 0, 0, 0), (30, .if_icmp .gt 3189, 0, 3219, 0, 0), (33, .aload_n 0, 0, 0, 0, 0), (34, .iload 4, 0, 0, 0, 0), (36, .iaload, 0, 0, 0, 0), (37, .bipush 63, 0, 0, 0, 0), (39, .iand, 0, 0, 0, 0), (40, .tableswitch 3173 0 41 #[184, 240, 253, 311, 324, 380, 499, 562, 639, 726, 813, 869, 925, 981, 1056, 1124, 1180, 1224, 1311, 1398, 1485, 1572, 1659, 1746, 1835, 1938, 1994, 2057, 2156, 2255, 2335, 2415, 2471, 2546, 2633, 2737, 2836, 2935, 3034, 3133, 3146, 3160], 184, 0, 0, 0), (224, .aload_n 1, 0, 0, 0, 0), (225, .aload_n 0, 0, 0, 0, 0), (226, .iload 4, 0, 0, 0, 0), (228, .iconst 1, 0, 0, 0, 0), (229, .iadd, 0, 0, 0, 0), (230, .iaload, 0, 0, 0, 0), (231, .aload_n 3, 0, 0, 0, 0), (232, .invokestatic 151, 4207, 3867, 3, 0), (235, .istore 5, 0, 0, 0, 0), (237, .aload_n 2, 0, 0, 0, 0), (238, .aload_n 0, 0, 0, 0, 0), (239, .iload 4, 0, 0, 0, 0), (241, .iconst 1, 0, 0, 0, 0), (242, .iadd, 0, 0, 0, 0), (243, .iaload, 0, 0, 0, 0), (244, .invokevirtual 156, 8213, 3701, 1, 14), (247, .istore 6, 0, 0, 0, 0), (249, .aload_n 2, 0, 0, 0, 0), (250, .invokevirtual 157, 8209, 3723, 0, 14), (253, .iload 5, 0, 0, 0, 0), (255, .if_icmp .eq 5, 0, 260, 0, 0), (258, .iconst 0, 0, 0, 0, 0), (259, .ireturn, 0, 0, 0, 0), (260, .iload 5, 0, 0, 0, 0), (262, .ifCond .ne 15, 0, 277, 0, 0), (265, .aload_n 3, 0, 0, 0, 0), (266, .iconst 0, 0, 0, 0, 0), (267, .laload, 0, 0, 0, 0), (268, .iload 6, 0, 0, 0, 0), (270, .i2l, 0, 0, 0, 0), (271, .lcmp, 0, 0, 0, 0), (272, .ifCond .eq 5, 0, 277, 0, 0), (275, .iconst 0, 0, 0, 0, 0), (276, .ireturn, 0, 0, 0, 0), (277, .goto 2936, 0, 3213, 0, 0), (280, .aload_n 1, 0, 0, 0, 0), (281, .invokevirtual 160, 2196, 3354, 0, 13), (284, .aload_n 2, 0, 0, 0, 0), (285, .invokevirtual 163, 8225, 3608, 0, 14), (288, .if_icmp .eq 2925, 0, 3213, 0, 0), (291, .iconst 0, 0, 0, 0, 0), (292, .ireturn, 0, 0, 0, 0), (293, .aload_n 1, 0, 0, 0, 0), (294, .aload_n 0, 0, 0, 0, 0), (295, .iload 4, 0, 0, 0, 0), (297, .iconst 1, 0, 0, 0, 0), (298, .iadd, 0, 0, 0, 0), (299, .iaload, 0, 0, 0, 0), (300, .i2c, 0, 0, 0, 0), (301, .aload_n 3, 0, 0, 0, 0), (302, .invokestatic 164, 5047, 3873, 3, 0), (305, .istore 5, 0, 0, 0, 0), (307, .aload_n 2, 0, 0, 0, 0), (308, .aload_n 0, 0, 0, 0, 0), (309, .iload 4, 0, 0, 0, 0), (311, .iconst 1, 0, 0, 0, 0), (312, .iadd, 0, 0, 0, 0), (313, .iaload, 0, 0, 0, 0), (314, .i2c, 0, 0, 0, 0), (315, .invokevirtual 167, 8229, 3729, 1, 14), (318, .istore 6, 0, 0, 0, 0), (320, .aload_n 2, 0, 0, 0, 0), (321, .invokevirtual 157, 8209, 3723, 0, 14), (324, .iload 5, 0, 0, 0, 0), (326, .if_icmp .eq 5, 0, 331, 0, 0), (329, .iconst 0, 0, 0, 0, 0), (330, .ireturn, 0, 0, 0, 0), (331, .iload 5, 0, 0, 0, 0), (333, .ifCond .ne 15, 0, 348, 0, 0), (336, .aload_n 3, 0, 0, 0, 0), (337, .iconst 0, 0, 0, 0, 0), (338, .laload, 0, 0, 0, 0), (339, .iload 6, 0, 0, 0, 0), (341, .i2l, 0, 0, 0, 0), (342, .lcmp, 0, 0, 0, 0), (343, .ifCond .eq 5, 0, 348, 0, 0), (346, .iconst 0, 0, 0, 0, 0), (347, .ireturn, 0, 0, 0, 0), (348, .goto 2865, 0, 3213, 0, 0), (351, .aload_n 1, 0, 0, 0, 0), (352, .invokevirtual 168, 2200, 3356, 0, 13), (355, .aload_n 2, 0, 0, 0, 0), (356, .invokevirtual 171, 8233, 3612, 0, 14), (359, .if_icmp .eq 2854, 0, 3213, 0, 0), (362, .iconst 0, 0, 0, 0, 0), (363, .ireturn, 0, 0, 0, 0), (364, .aload_n 1, 0, 0, 0, 0), (365, .aload_n 0, 0, 0, 0, 0), (366, .iload 4, 0, 0, 0, 0), (368, .iconst 1, 0, 0, 0, 0), (369, .iadd, 0, 0, 0, 0), (370, .iaload, 0, 0, 0, 0), (371, .aload_n 3, 0, 0, 0, 0), (372, .invokestatic 172, 5073, 3868, 3, 0), (375, .istore 5, 0, 0, 0, 0), (377, .aload_n 2, 0, 0, 0, 0), (378, .aload_n 0, 0, 0, 0, 0), (379, .iload 4, 0, 0, 0, 0), (381, .iconst 1, 0, 0, 0, 0), (382, .iadd, 0, 0, 0, 0), (383, .iaload, 0, 0, 0, 0), (384, .invokevirtual 174, 8237, 3705, 1, 14), (387, .istore 6, 0, 0, 0, 0), (389, .aload_n 2, 0, 0, 0, 0), (390, .invokevirtual 157, 8209, 3723, 0, 14), (393, .iload 5, 0, 0, 0, 0), (395, .if_icmp .eq 5, 0, 400, 0, 0), (398, .iconst 0, 0, 0, 0, 0), (399, .ireturn, 0, 0, 0, 0), (400, .iload 5, 0, 0, 0, 0), (402, .ifCond .ne 15, 0, 417, 0, 0), (405, .aload_n 3, 0, 0, 0, 0), (406, .iconst 0, 0, 0, 0, 0), (407, .laload, 0, 0, 0, 0), (408, .iload 6, 0, 0, 0, 0), (410, .i2l, 0, 0, 0, 0), (411, .lcmp, 0, 0, 0, 0), (412, .ifCond .eq 5, 0, 417, 0, 0), (415, .iconst 0, 0, 0, 0, 0), (416, .ireturn, 0, 0, 0, 0), (417, .goto 2796, 0, 3213, 0, 0), (420, .aload_n 1, 0, 0, 0, 0), (421, .aload_n 0, 0, 0, 0, 0), (422, .iload 4, 0, 0, 0, 0), (424, .iconst 1, 0, 0, 0, 0)]
noncomputable def bk_L_law_1 : List (Nat × bO) := [(425, .iadd, 0, 0, 0, 0), (426, .iaload, 0, 0, 0, 0), (427, .aload_n 0, 0, 0, 0, 0), (428, .iload 4, 0, 0, 0, 0), (430, .iconst 2, 0, 0, 0, 0), (431, .iadd, 0, 0, 0, 0), (432, .iaload, 0, 0, 0, 0), (433, .i2l, 0, 0, 0, 0), (434, .bipush 32, 0, 0, 0, 0), (436, .lshl, 0, 0, 0, 0), (437, .aload_n 0, 0, 0, 0, 0), (438, .iload 4, 0, 0, 0, 0), (440, .iconst 3, 0, 0, 0, 0), (441, .iadd, 0, 0, 0, 0), (442, .iaload, 0, 0, 0, 0), (443, .i2l, 0, 0, 0, 0), (444, .ldc2_w 175, 11118, 0, 0, 4294967295), (447, .land, 0, 0, 0, 0), (448, .lor, 0, 0, 0, 0), (449, .aload_n 0, 0, 0, 0, 0), (450, .iload 4, 0, 0, 0, 0), (452, .iconst 4, 0, 0, 0, 0), (453, .iadd, 0, 0, 0, 0), (454, .iaload, 0, 0, 0, 0), (455, .aload_n 3, 0, 0, 0, 0), (456, .invokestatic 177, 5085, 3864, 5, 0), (459, .istore 5, 0, 0, 0, 0), (461, .aload_n 2, 0, 0, 0, 0), (462, .aload_n 0, 0, 0, 0, 0), (463, .iload 4, 0, 0, 0, 0), (465, .iconst 1, 0, 0, 0, 0), (466, .iadd, 0, 0, 0, 0), (467, .iaload, 0, 0, 0, 0), (468, .aload_n 0, 0, 0, 0, 0), (469, .iload 4, 0, 0, 0, 0), (471, .iconst 2, 0, 0, 0, 0), (472, .iadd, 0, 0, 0, 0), (473, .iaload, 0, 0, 0, 0), (474, .i2l, 0, 0, 0, 0), (475, .bipush 32, 0, 0, 0, 0), (477, .lshl, 0, 0, 0, 0), (478, .aload_n 0, 0, 0, 0, 0), (479, .iload 4, 0, 0, 0, 0), (481, .iconst 3, 0, 0, 0, 0), (482, .iadd, 0, 0, 0, 0), (483, .iaload, 0, 0, 0, 0), (484, .i2l, 0, 0, 0, 0), (485, .ldc2_w 175, 11118, 0, 0, 4294967295), (488, .land, 0, 0, 0, 0), (489, .lor, 0, 0, 0, 0), (490, .aload_n 0, 0, 0, 0, 0), (491, .iload 4, 0, 0, 0, 0), (493, .iconst 4, 0, 0, 0, 0), (494, .iadd, 0, 0, 0, 0), (495, .iaload, 0, 0, 0, 0), (496, .invokevirtual 180, 9013, 3683, 3, 14), (499, .istore 6, 0, 0, 0, 0), (501, .aload_n 2, 0, 0, 0, 0), (502, .invokevirtual 157, 8209, 3723, 0, 14), (505, .iload 5, 0, 0, 0, 0), (507, .if_icmp .eq 5, 0, 512, 0, 0), (510, .iconst 0, 0, 0, 0, 0), (511, .ireturn, 0, 0, 0, 0), (512, .iload 5, 0, 0, 0, 0), (514, .ifCond .ne 22, 0, 536, 0, 0), (517, .aload_n 3, 0, 0, 0, 0), (518, .iconst 0, 0, 0, 0, 0), (519, .laload, 0, 0, 0, 0), (520, .iload 6, 0, 0, 0, 0), (522, .ifCond .eq 7, 0, 529, 0, 0), (525, .lconst 1, 0, 0, 0, 0), (526, .goto 4, 0, 530, 0, 0), (529, .lconst 0, 0, 0, 0, 0), (530, .lcmp, 0, 0, 0, 0), (531, .ifCond .eq 5, 0, 536, 0, 0), (534, .iconst 0, 0, 0, 0, 0), (535, .ireturn, 0, 0, 0, 0), (536, .goto 2677, 0, 3213, 0, 0), (539, .aload_n 1, 0, 0, 0, 0), (540, .aload_n 0, 0, 0, 0, 0), (541, .iload 4, 0, 0, 0, 0), (543, .iconst 1, 0, 0, 0, 0), (544, .iadd, 0, 0, 0, 0), (545, .iaload, 0, 0, 0, 0), (546, .aload_n 3, 0, 0, 0, 0), (547, .invokestatic 181, 5169, 3865, 3, 0), (550, .istore 5, 0, 0, 0, 0), (552, .aload_n 2, 0, 0, 0, 0), (553, .aload_n 0, 0, 0, 0, 0), (554, .iload 4, 0, 0, 0, 0), (556, .iconst 1, 0, 0, 0, 0), (557, .iadd, 0, 0, 0, 0), (558, .iaload, 0, 0, 0, 0), (559, .invokevirtual 183, 9092, 3686, 1, 14), (562, .istore 6, 0, 0, 0, 0), (564, .aload_n 2, 0, 0, 0, 0), (565, .invokevirtual 157, 8209, 3723, 0, 14), (568, .iload 5, 0, 0, 0, 0), (570, .if_icmp .eq 5, 0, 575, 0, 0), (573, .iconst 0, 0, 0, 0, 0), (574, .ireturn, 0, 0, 0, 0), (575, .iload 5, 0, 0, 0, 0), (577, .ifCond .ne 22, 0, 599, 0, 0), (580, .aload_n 3, 0, 0, 0, 0), (581, .iconst 0, 0, 0, 0, 0), (582, .laload, 0, 0, 0, 0), (583, .iload 6, 0, 0, 0, 0), (585, .ifCond .eq 7, 0, 592, 0, 0), (588, .lconst 1, 0, 0, 0, 0), (589, .goto 4, 0, 593, 0, 0), (592, .lconst 0, 0, 0, 0, 0), (593, .lcmp, 0, 0, 0, 0), (594, .ifCond .eq 5, 0, 599, 0, 0), (597, .iconst 0, 0, 0, 0, 0), (598, .ireturn, 0, 0, 0, 0), (599, .goto 2614, 0, 3213, 0, 0), (602, .aload_n 1, 0, 0, 0, 0), (603, .aload_n 0, 0, 0, 0, 0), (604, .iload 4, 0, 0, 0, 0), (606, .iconst 1, 0, 0, 0, 0), (607, .iadd, 0, 0, 0, 0), (608, .iaload, 0, 0, 0, 0), (609, .aload_n 0, 0, 0, 0, 0), (610, .iload 4, 0, 0, 0, 0), (612, .iconst 2, 0, 0, 0, 0), (613, .iadd, 0, 0, 0, 0), (614, .iaload, 0, 0, 0, 0), (615, .i2c, 0, 0, 0, 0), (616, .aload_n 3, 0, 0, 0, 0), (617, .invokestatic 184, 5205, 3844, 4, 0), (620, .istore 5, 0, 0, 0, 0), (622, .aload_n 2, 0, 0, 0, 0), (623, .aload_n 0, 0, 0, 0, 0), (624, .iload 4, 0, 0, 0, 0), (626, .iconst 1, 0, 0, 0, 0), (627, .iadd, 0, 0, 0, 0), (628, .iaload, 0, 0, 0, 0), (629, .aload_n 0, 0, 0, 0, 0), (630, .iload 4, 0, 0, 0, 0), (632, .iconst 2, 0, 0, 0, 0), (633, .iadd, 0, 0, 0, 0), (634, .iaload, 0, 0, 0, 0), (635, .i2c, 0, 0, 0, 0), (636, .invokevirtual 187, 9103, 3600, 2, 14), (639, .istore 6, 0, 0, 0, 0), (641, .aload_n 2, 0, 0, 0, 0), (642, .invokevirtual 157, 8209, 3723, 0, 14), (645, .iload 5, 0, 0, 0, 0), (647, .if_icmp .eq 5, 0, 652, 0, 0), (650, .iconst 0, 0, 0, 0, 0)]
noncomputable def bk_L_law_2 : List (Nat × bO) := [(651, .ireturn, 0, 0, 0, 0), (652, .iload 5, 0, 0, 0, 0), (654, .ifCond .ne 22, 0, 676, 0, 0), (657, .aload_n 3, 0, 0, 0, 0), (658, .iconst 0, 0, 0, 0, 0), (659, .laload, 0, 0, 0, 0), (660, .iload 6, 0, 0, 0, 0), (662, .ifCond .eq 7, 0, 669, 0, 0), (665, .lconst 1, 0, 0, 0, 0), (666, .goto 4, 0, 670, 0, 0), (669, .lconst 0, 0, 0, 0, 0), (670, .lcmp, 0, 0, 0, 0), (671, .ifCond .eq 5, 0, 676, 0, 0), (674, .iconst 0, 0, 0, 0, 0), (675, .ireturn, 0, 0, 0, 0), (676, .goto 2537, 0, 3213, 0, 0), (679, .aload_n 1, 0, 0, 0, 0), (680, .aload_n 0, 0, 0, 0, 0), (681, .iload 4, 0, 0, 0, 0), (683, .iconst 1, 0, 0, 0, 0), (684, .iadd, 0, 0, 0, 0), (685, .iaload, 0, 0, 0, 0), (686, .aload_n 0, 0, 0, 0, 0), (687, .iload 4, 0, 0, 0, 0), (689, .iconst 2, 0, 0, 0, 0), (690, .iadd, 0, 0, 0, 0), (691, .iaload, 0, 0, 0, 0), (692, .aload_n 0, 0, 0, 0, 0), (693, .iload 4, 0, 0, 0, 0), (695, .iconst 3, 0, 0, 0, 0), (696, .iadd, 0, 0, 0, 0), (697, .iaload, 0, 0, 0, 0), (698, .aload_n 3, 0, 0, 0, 0), (699, .invokestatic 188, 5213, 3852, 5, 0), (702, .istore 5, 0, 0, 0, 0), (704, .aload_n 2, 0, 0, 0, 0), (705, .aload_n 0, 0, 0, 0, 0), (706, .iload 4, 0, 0, 0, 0), (708, .iconst 1, 0, 0, 0, 0), (709, .iadd, 0, 0, 0, 0), (710, .iaload, 0, 0, 0, 0), (711, .aload_n 0, 0, 0, 0, 0), (712, .iload 4, 0, 0, 0, 0), (714, .iconst 2, 0, 0, 0, 0), (715, .iadd, 0, 0, 0, 0), (716, .iaload, 0, 0, 0, 0), (717, .aload_n 0, 0, 0, 0, 0), (718, .iload 4, 0, 0, 0, 0), (720, .iconst 3, 0, 0, 0, 0), (721, .iadd, 0, 0, 0, 0), (722, .iaload, 0, 0, 0, 0), (723, .invokevirtual 191, 9153, 3639, 3, 14), (726, .istore 6, 0, 0, 0, 0), (728, .aload_n 2, 0, 0, 0, 0), (729, .invokevirtual 157, 8209, 3723, 0, 14), (732, .iload 5, 0, 0, 0, 0), (734, .if_icmp .eq 5, 0, 739, 0, 0), (737, .iconst 0, 0, 0, 0, 0), (738, .ireturn, 0, 0, 0, 0), (739, .iload 5, 0, 0, 0, 0), (741, .ifCond .ne 22, 0, 763, 0, 0), (744, .aload_n 3, 0, 0, 0, 0), (745, .iconst 0, 0, 0, 0, 0), (746, .laload, 0, 0, 0, 0), (747, .iload 6, 0, 0, 0, 0), (749, .ifCond .eq 7, 0, 756, 0, 0), (752, .lconst 1, 0, 0, 0, 0), (753, .goto 4, 0, 757, 0, 0), (756, .lconst 0, 0, 0, 0, 0), (757, .lcmp, 0, 0, 0, 0), (758, .ifCond .eq 5, 0, 763, 0, 0), (761, .iconst 0, 0, 0, 0, 0), (762, .ireturn, 0, 0, 0, 0), (763, .goto 2450, 0, 3213, 0, 0), (766, .aload_n 1, 0, 0, 0, 0), (767, .aload_n 0, 0, 0, 0, 0), (768, .iload 4, 0, 0, 0, 0), (770, .iconst 1, 0, 0, 0, 0), (771, .iadd, 0, 0, 0, 0), (772, .iaload, 0, 0, 0, 0), (773, .aload_n 0, 0, 0, 0, 0), (774, .iload 4, 0, 0, 0, 0), (776, .iconst 2, 0, 0, 0, 0), (777, .iadd, 0, 0, 0, 0), (778, .iaload, 0, 0, 0, 0), (779, .aload_n 0, 0, 0, 0, 0), (780, .iload 4, 0, 0, 0, 0), (782, .iconst 3, 0, 0, 0, 0), (783, .iadd, 0, 0, 0, 0), (784, .iaload, 0, 0, 0, 0), (785, .aload_n 3, 0, 0, 0, 0), (786, .invokestatic 192, 6009, 3856, 5, 0), (789, .istore 5, 0, 0, 0, 0), (791, .aload_n 2, 0, 0, 0, 0), (792, .aload_n 0, 0, 0, 0, 0), (793, .iload 4, 0, 0, 0, 0), (795, .iconst 1, 0, 0, 0, 0), (796, .iadd, 0, 0, 0, 0), (797, .iaload, 0, 0, 0, 0), (798, .aload_n 0, 0, 0, 0, 0), (799, .iload 4, 0, 0, 0, 0), (801, .iconst 2, 0, 0, 0, 0), (802, .iadd, 0, 0, 0, 0), (803, .iaload, 0, 0, 0, 0), (804, .aload_n 0, 0, 0, 0, 0), (805, .iload 4, 0, 0, 0, 0), (807, .iconst 3, 0, 0, 0, 0), (808, .iadd, 0, 0, 0, 0), (809, .iaload, 0, 0, 0, 0), (810, .invokevirtual 194, 9168, 3654, 3, 14), (813, .istore 6, 0, 0, 0, 0), (815, .aload_n 2, 0, 0, 0, 0), (816, .invokevirtual 157, 8209, 3723, 0, 14), (819, .iload 5, 0, 0, 0, 0), (821, .if_icmp .eq 5, 0, 826, 0, 0), (824, .iconst 0, 0, 0, 0, 0), (825, .ireturn, 0, 0, 0, 0), (826, .iload 5, 0, 0, 0, 0), (828, .ifCond .ne 22, 0, 850, 0, 0), (831, .aload_n 3, 0, 0, 0, 0), (832, .iconst 0, 0, 0, 0, 0), (833, .laload, 0, 0, 0, 0), (834, .iload 6, 0, 0, 0, 0), (836, .ifCond .eq 7, 0, 843, 0, 0), (839, .lconst 1, 0, 0, 0, 0), (840, .goto 4, 0, 844, 0, 0), (843, .lconst 0, 0, 0, 0, 0), (844, .lcmp, 0, 0, 0, 0), (845, .ifCond .eq 5, 0, 850, 0, 0), (848, .iconst 0, 0, 0, 0, 0), (849, .ireturn, 0, 0, 0, 0), (850, .goto 2363, 0, 3213, 0, 0), (853, .aload_n 1, 0, 0, 0, 0), (854, .aload_n 0, 0, 0, 0, 0), (855, .iload 4, 0, 0, 0, 0), (857, .iconst 1, 0, 0, 0, 0), (858, .iadd, 0, 0, 0, 0), (859, .iaload, 0, 0, 0, 0), (860, .aload_n 3, 0, 0, 0, 0), (861, .invokestatic 195, 6021, 3855, 3, 0), (864, .istore 5, 0, 0, 0, 0), (866, .aload_n 2, 0, 0, 0, 0), (867, .aload_n 0, 0, 0, 0, 0), (868, .iload 4, 0, 0, 0, 0), (870, .iconst 1, 0, 0, 0, 0), (871, .iadd, 0, 0, 0, 0), (872, .iaload, 0, 0, 0, 0), (873, .invokevirtual 197, 9172, 3649, 1, 14), (876, .istore 6, 0, 0, 0, 0), (878, .aload_n 2, 0, 0, 0, 0)]
noncomputable def bk_L_law_3 : List (Nat × bO) := [(879, .invokevirtual 157, 8209, 3723, 0, 14), (882, .iload 5, 0, 0, 0, 0), (884, .if_icmp .eq 5, 0, 889, 0, 0), (887, .iconst 0, 0, 0, 0, 0), (888, .ireturn, 0, 0, 0, 0), (889, .iload 5, 0, 0, 0, 0), (891, .ifCond .ne 15, 0, 906, 0, 0), (894, .aload_n 3, 0, 0, 0, 0), (895, .iconst 0, 0, 0, 0, 0), (896, .laload, 0, 0, 0, 0), (897, .iload 6, 0, 0, 0, 0), (899, .i2l, 0, 0, 0, 0), (900, .lcmp, 0, 0, 0, 0), (901, .ifCond .eq 5, 0, 906, 0, 0), (904, .iconst 0, 0, 0, 0, 0), (905, .ireturn, 0, 0, 0, 0), (906, .goto 2307, 0, 3213, 0, 0), (909, .aload_n 1, 0, 0, 0, 0), (910, .aload_n 0, 0, 0, 0, 0), (911, .iload 4, 0, 0, 0, 0), (913, .iconst 1, 0, 0, 0, 0), (914, .iadd, 0, 0, 0, 0), (915, .iaload, 0, 0, 0, 0), (916, .aload_n 3, 0, 0, 0, 0), (917, .invokestatic 198, 6028, 3850, 3, 0), (920, .istore 5, 0, 0, 0, 0), (922, .aload_n 2, 0, 0, 0, 0), (923, .aload_n 0, 0, 0, 0, 0), (924, .iload 4, 0, 0, 0, 0), (926, .iconst 1, 0, 0, 0, 0), (927, .iadd, 0, 0, 0, 0), (928, .iaload, 0, 0, 0, 0), (929, .invokevirtual 200, 9189, 3622, 1, 14), (932, .istore 6, 0, 0, 0, 0), (934, .aload_n 2, 0, 0, 0, 0), (935, .invokevirtual 157, 8209, 3723, 0, 14), (938, .iload 5, 0, 0, 0, 0), (940, .if_icmp .eq 5, 0, 945, 0, 0), (943, .iconst 0, 0, 0, 0, 0), (944, .ireturn, 0, 0, 0, 0), (945, .iload 5, 0, 0, 0, 0), (947, .ifCond .ne 15, 0, 962, 0, 0), (950, .aload_n 3, 0, 0, 0, 0), (951, .iconst 0, 0, 0, 0, 0), (952, .laload, 0, 0, 0, 0), (953, .iload 6, 0, 0, 0, 0), (955, .i2l, 0, 0, 0, 0), (956, .lcmp, 0, 0, 0, 0), (957, .ifCond .eq 5, 0, 962, 0, 0), (960, .iconst 0, 0, 0, 0, 0), (961, .ireturn, 0, 0, 0, 0), (962, .goto 2251, 0, 3213, 0, 0), (965, .aload_n 1, 0, 0, 0, 0), (966, .aload_n 0, 0, 0, 0, 0), (967, .iload 4, 0, 0, 0, 0), (969, .iconst 1, 0, 0, 0, 0), (970, .iadd, 0, 0, 0, 0), (971, .iaload, 0, 0, 0, 0), (972, .aload_n 3, 0, 0, 0, 0), (973, .invokestatic 201, 6035, 3876, 3, 0), (976, .istore 5, 0, 0, 0, 0), (978, .aload_n 2, 0, 0, 0, 0), (979, .aload_n 0, 0, 0, 0, 0), (980, .iload 4, 0, 0, 0, 0), (982, .iconst 1, 0, 0, 0, 0), (983, .iadd, 0, 0, 0, 0), (984, .iaload, 0, 0, 0, 0), (985, .invokevirtual 203, 9193, 3736, 1, 14), (988, .istore 6, 0, 0, 0, 0), (990, .aload_n 2, 0, 0, 0, 0), (991, .invokevirtual 157, 8209, 3723, 0, 14), (994, .iload 5, 0, 0, 0, 0), (996, .if_icmp .eq 5, 0, 1001, 0, 0), (999, .iconst 0, 0, 0, 0, 0), (1000, .ireturn, 0, 0, 0, 0), (1001, .iload 5, 0, 0, 0, 0), (1003, .ifCond .ne 15, 0, 1018, 0, 0), (1006, .aload_n 3, 0, 0, 0, 0), (1007, .iconst 0, 0, 0, 0, 0), (1008, .laload, 0, 0, 0, 0), (1009, .iload 6, 0, 0, 0, 0), (1011, .i2l, 0, 0, 0, 0), (1012, .lcmp, 0, 0, 0, 0), (1013, .ifCond .eq 5, 0, 1018, 0, 0), (1016, .iconst 0, 0, 0, 0, 0), (1017, .ireturn, 0, 0, 0, 0), (1018, .goto 2195, 0, 3213, 0, 0), (1021, .aload_n 1, 0, 0, 0, 0), (1022, .aload_n 0, 0, 0, 0, 0), (1023, .iload 4, 0, 0, 0, 0), (1025, .iconst 1, 0, 0, 0, 0), (1026, .iadd, 0, 0, 0, 0), (1027, .iaload, 0, 0, 0, 0), (1028, .aload_n 0, 0, 0, 0, 0), (1029, .iload 4, 0, 0, 0, 0), (1031, .iconst 2, 0, 0, 0, 0), (1032, .iadd, 0, 0, 0, 0), (1033, .iaload, 0, 0, 0, 0), (1034, .aload_n 3, 0, 0, 0, 0), (1035, .invokestatic 204, 6043, 3851, 4, 0), (1038, .istore 5, 0, 0, 0, 0), (1040, .aload_n 2, 0, 0, 0, 0), (1041, .aload_n 0, 0, 0, 0, 0), (1042, .iload 4, 0, 0, 0, 0), (1044, .iconst 1, 0, 0, 0, 0), (1045, .iadd, 0, 0, 0, 0), (1046, .iaload, 0, 0, 0, 0), (1047, .aload_n 0, 0, 0, 0, 0), (1048, .iload 4, 0, 0, 0, 0), (1050, .iconst 2, 0, 0, 0, 0), (1051, .iadd, 0, 0, 0, 0), (1052, .iaload, 0, 0, 0, 0), (1053, .invokevirtual 207, 9201, 3637, 2, 14), (1056, .istore 6, 0, 0, 0, 0), (1058, .aload_n 2, 0, 0, 0, 0), (1059, .invokevirtual 157, 8209, 3723, 0, 14), (1062, .iload 5, 0, 0, 0, 0), (1064, .if_icmp .eq 5, 0, 1069, 0, 0), (1067, .iconst 0, 0, 0, 0, 0), (1068, .ireturn, 0, 0, 0, 0), (1069, .iload 5, 0, 0, 0, 0), (1071, .ifCond .ne 22, 0, 1093, 0, 0), (1074, .aload_n 3, 0, 0, 0, 0), (1075, .iconst 0, 0, 0, 0, 0), (1076, .laload, 0, 0, 0, 0), (1077, .iload 6, 0, 0, 0, 0), (1079, .ifCond .eq 7, 0, 1086, 0, 0), (1082, .lconst 1, 0, 0, 0, 0), (1083, .goto 4, 0, 1087, 0, 0), (1086, .lconst 0, 0, 0, 0, 0), (1087, .lcmp, 0, 0, 0, 0), (1088, .ifCond .eq 5, 0, 1093, 0, 0), (1091, .iconst 0, 0, 0, 0, 0), (1092, .ireturn, 0, 0, 0, 0), (1093, .goto 2120, 0, 3213, 0, 0), (1096, .aload_n 1, 0, 0, 0, 0), (1097, .aload_n 0, 0, 0, 0, 0), (1098, .iload 4, 0, 0, 0, 0), (1100, .iconst 1, 0, 0, 0, 0), (1101, .iadd, 0, 0, 0, 0), (1102, .iaload, 0, 0, 0, 0), (1103, .aload_n 0, 0, 0, 0, 0), (1104, .iload 4, 0, 0, 0, 0), (1106, .iconst 2, 0, 0, 0, 0), (1107, .iadd, 0, 0, 0, 0), (1108, .iaload, 0, 0, 0, 0), (1109, .aload_n 3, 0, 0, 0, 0), (1110, .invokestatic 208, 6054, 3843, 4, 0), (1113, .istore 5, 0, 0, 0, 0), (1115, .aload_n 2, 0, 0, 0, 0)]
noncomputable def bk_L_law_4 : List (Nat × bO) := [(1116, .aload_n 0, 0, 0, 0, 0), (1117, .iload 4, 0, 0, 0, 0), (1119, .iconst 1, 0, 0, 0, 0), (1120, .iadd, 0, 0, 0, 0), (1121, .iaload, 0, 0, 0, 0), (1122, .aload_n 0, 0, 0, 0, 0), (1123, .iload 4, 0, 0, 0, 0), (1125, .iconst 2, 0, 0, 0, 0), (1126, .iadd, 0, 0, 0, 0), (1127, .iaload, 0, 0, 0, 0), (1128, .invokevirtual 210, 9209, 3598, 2, 14), (1131, .istore 6, 0, 0, 0, 0), (1133, .aload_n 2, 0, 0, 0, 0), (1134, .invokevirtual 157, 8209, 3723, 0, 14), (1137, .iload 5, 0, 0, 0, 0), (1139, .if_icmp .eq 5, 0, 1144, 0, 0), (1142, .iconst 0, 0, 0, 0, 0), (1143, .ireturn, 0, 0, 0, 0), (1144, .iload 5, 0, 0, 0, 0), (1146, .ifCond .ne 15, 0, 1161, 0, 0), (1149, .aload_n 3, 0, 0, 0, 0), (1150, .iconst 0, 0, 0, 0, 0), (1151, .laload, 0, 0, 0, 0), (1152, .iload 6, 0, 0, 0, 0), (1154, .i2l, 0, 0, 0, 0), (1155, .lcmp, 0, 0, 0, 0), (1156, .ifCond .eq 5, 0, 1161, 0, 0), (1159, .iconst 0, 0, 0, 0, 0), (1160, .ireturn, 0, 0, 0, 0), (1161, .goto 2052, 0, 3213, 0, 0), (1164, .aload_n 1, 0, 0, 0, 0), (1165, .aload_n 0, 0, 0, 0, 0), (1166, .iload 4, 0, 0, 0, 0), (1168, .iconst 1, 0, 0, 0, 0), (1169, .iadd, 0, 0, 0, 0), (1170, .iaload, 0, 0, 0, 0), (1171, .aload_n 3, 0, 0, 0, 0), (1172, .invokestatic 211, 6062, 3872, 3, 0), (1175, .istore 5, 0, 0, 0, 0), (1177, .aload_n 2, 0, 0, 0, 0), (1178, .aload_n 0, 0, 0, 0, 0), (1179, .iload 4, 0, 0, 0, 0), (1181, .iconst 1, 0, 0, 0, 0), (1182, .iadd, 0, 0, 0, 0), (1183, .iaload, 0, 0, 0, 0), (1184, .invokevirtual 213, 9217, 3717, 1, 14), (1187, .istore 6, 0, 0, 0, 0), (1189, .aload_n 2, 0, 0, 0, 0), (1190, .invokevirtual 157, 8209, 3723, 0, 14), (1193, .iload 5, 0, 0, 0, 0), (1195, .if_icmp .eq 5, 0, 1200, 0, 0), (1198, .iconst 0, 0, 0, 0, 0), (1199, .ireturn, 0, 0, 0, 0), (1200, .iload 5, 0, 0, 0, 0), (1202, .ifCond .ne 15, 0, 1217, 0, 0), (1205, .aload_n 3, 0, 0, 0, 0), (1206, .iconst 0, 0, 0, 0, 0), (1207, .laload, 0, 0, 0, 0), (1208, .iload 6, 0, 0, 0, 0), (1210, .i2l, 0, 0, 0, 0), (1211, .lcmp, 0, 0, 0, 0), (1212, .ifCond .eq 5, 0, 1217, 0, 0), (1215, .iconst 0, 0, 0, 0, 0), (1216, .ireturn, 0, 0, 0, 0), (1217, .goto 1996, 0, 3213, 0, 0), (1220, .aload_n 1, 0, 0, 0, 0), (1221, .aload_n 3, 0, 0, 0, 0), (1222, .invokestatic 214, 6073, 3874, 2, 0), (1225, .istore 5, 0, 0, 0, 0), (1227, .aload_n 2, 0, 0, 0, 0), (1228, .invokevirtual 217, 9001, 3730, 0, 14), (1231, .istore 6, 0, 0, 0, 0), (1233, .aload_n 2, 0, 0, 0, 0), (1234, .invokevirtual 157, 8209, 3723, 0, 14), (1237, .iload 5, 0, 0, 0, 0), (1239, .if_icmp .eq 5, 0, 1244, 0, 0), (1242, .iconst 0, 0, 0, 0, 0), (1243, .ireturn, 0, 0, 0, 0), (1244, .iload 5, 0, 0, 0, 0), (1246, .ifCond .ne 15, 0, 1261, 0, 0), (1249, .aload_n 3, 0, 0, 0, 0), (1250, .iconst 0, 0, 0, 0, 0), (1251, .laload, 0, 0, 0, 0), (1252, .iload 6, 0, 0, 0, 0), (1254, .i2l, 0, 0, 0, 0), (1255, .lcmp, 0, 0, 0, 0), (1256, .ifCond .eq 5, 0, 1261, 0, 0), (1259, .iconst 0, 0, 0, 0, 0), (1260, .ireturn, 0, 0, 0, 0), (1261, .goto 1952, 0, 3213, 0, 0), (1264, .aload_n 1, 0, 0, 0, 0), (1265, .aload_n 0, 0, 0, 0, 0), (1266, .iload 4, 0, 0, 0, 0), (1268, .iconst 1, 0, 0, 0, 0), (1269, .iadd, 0, 0, 0, 0), (1270, .iaload, 0, 0, 0, 0), (1271, .aload_n 0, 0, 0, 0, 0), (1272, .iload 4, 0, 0, 0, 0), (1274, .iconst 2, 0, 0, 0, 0), (1275, .iadd, 0, 0, 0, 0), (1276, .iaload, 0, 0, 0, 0), (1277, .aload_n 0, 0, 0, 0, 0), (1278, .iload 4, 0, 0, 0, 0), (1280, .iconst 3, 0, 0, 0, 0), (1281, .iadd, 0, 0, 0, 0), (1282, .iaload, 0, 0, 0, 0), (1283, .aload_n 3, 0, 0, 0, 0), (1284, .invokestatic 218, 6085, 3840, 5, 0), (1287, .istore 5, 0, 0, 0, 0), (1289, .aload_n 2, 0, 0, 0, 0), (1290, .aload_n 0, 0, 0, 0, 0), (1291, .iload 4, 0, 0, 0, 0), (1293, .iconst 1, 0, 0, 0, 0), (1294, .iadd, 0, 0, 0, 0), (1295, .iaload, 0, 0, 0, 0), (1296, .aload_n 0, 0, 0, 0, 0), (1297, .iload 4, 0, 0, 0, 0), (1299, .iconst 2, 0, 0, 0, 0), (1300, .iadd, 0, 0, 0, 0), (1301, .iaload, 0, 0, 0, 0), (1302, .aload_n 0, 0, 0, 0, 0), (1303, .iload 4, 0, 0, 0, 0), (1305, .iconst 3, 0, 0, 0, 0), (1306, .iadd, 0, 0, 0, 0), (1307, .iaload, 0, 0, 0, 0), (1308, .invokevirtual 220, 9228, 3586, 3, 14), (1311, .istore 6, 0, 0, 0, 0), (1313, .aload_n 2, 0, 0, 0, 0), (1314, .invokevirtual 157, 8209, 3723, 0, 14), (1317, .iload 5, 0, 0, 0, 0), (1319, .if_icmp .eq 5, 0, 1324, 0, 0), (1322, .iconst 0, 0, 0, 0, 0), (1323, .ireturn, 0, 0, 0, 0), (1324, .iload 5, 0, 0, 0, 0), (1326, .ifCond .ne 22, 0, 1348, 0, 0), (1329, .aload_n 3, 0, 0, 0, 0), (1330, .iconst 0, 0, 0, 0, 0), (1331, .laload, 0, 0, 0, 0), (1332, .iload 6, 0, 0, 0, 0), (1334, .ifCond .eq 7, 0, 1341, 0, 0), (1337, .lconst 1, 0, 0, 0, 0), (1338, .goto 4, 0, 1342, 0, 0), (1341, .lconst 0, 0, 0, 0, 0), (1342, .lcmp, 0, 0, 0, 0), (1343, .ifCond .eq 5, 0, 1348, 0, 0), (1346, .iconst 0, 0, 0, 0, 0), (1347, .ireturn, 0, 0, 0, 0), (1348, .goto 1865, 0, 3213, 0, 0), (1351, .aload_n 1, 0, 0, 0, 0), (1352, .aload_n 0, 0, 0, 0, 0)]
noncomputable def bk_L_law_5 : List (Nat × bO) := [(1353, .iload 4, 0, 0, 0, 0), (1355, .iconst 1, 0, 0, 0, 0), (1356, .iadd, 0, 0, 0, 0), (1357, .iaload, 0, 0, 0, 0), (1358, .aload_n 0, 0, 0, 0, 0), (1359, .iload 4, 0, 0, 0, 0), (1361, .iconst 2, 0, 0, 0, 0), (1362, .iadd, 0, 0, 0, 0), (1363, .iaload, 0, 0, 0, 0), (1364, .aload_n 0, 0, 0, 0, 0), (1365, .iload 4, 0, 0, 0, 0), (1367, .iconst 3, 0, 0, 0, 0), (1368, .iadd, 0, 0, 0, 0), (1369, .iaload, 0, 0, 0, 0), (1370, .aload_n 3, 0, 0, 0, 0), (1371, .invokestatic 221, 6100, 3871, 5, 0), (1374, .istore 5, 0, 0, 0, 0), (1376, .aload_n 2, 0, 0, 0, 0), (1377, .aload_n 0, 0, 0, 0, 0), (1378, .iload 4, 0, 0, 0, 0), (1380, .iconst 1, 0, 0, 0, 0), (1381, .iadd, 0, 0, 0, 0), (1382, .iaload, 0, 0, 0, 0), (1383, .aload_n 0, 0, 0, 0, 0), (1384, .iload 4, 0, 0, 0, 0), (1386, .iconst 2, 0, 0, 0, 0), (1387, .iadd, 0, 0, 0, 0), (1388, .iaload, 0, 0, 0, 0), (1389, .aload_n 0, 0, 0, 0, 0), (1390, .iload 4, 0, 0, 0, 0), (1392, .iconst 3, 0, 0, 0, 0), (1393, .iadd, 0, 0, 0, 0), (1394, .iaload, 0, 0, 0, 0), (1395, .invokevirtual 223, 10057, 3715, 3, 14), (1398, .istore 6, 0, 0, 0, 0), (1400, .aload_n 2, 0, 0, 0, 0), (1401, .invokevirtual 157, 8209, 3723, 0, 14), (1404, .iload 5, 0, 0, 0, 0), (1406, .if_icmp .eq 5, 0, 1411, 0, 0), (1409, .iconst 0, 0, 0, 0, 0), (1410, .ireturn, 0, 0, 0, 0), (1411, .iload 5, 0, 0, 0, 0), (1413, .ifCond .ne 22, 0, 1435, 0, 0), (1416, .aload_n 3, 0, 0, 0, 0), (1417, .iconst 0, 0, 0, 0, 0), (1418, .laload, 0, 0, 0, 0), (1419, .iload 6, 0, 0, 0, 0), (1421, .ifCond .eq 7, 0, 1428, 0, 0), (1424, .lconst 1, 0, 0, 0, 0), (1425, .goto 4, 0, 1429, 0, 0), (1428, .lconst 0, 0, 0, 0, 0), (1429, .lcmp, 0, 0, 0, 0), (1430, .ifCond .eq 5, 0, 1435, 0, 0), (1433, .iconst 0, 0, 0, 0, 0), (1434, .ireturn, 0, 0, 0, 0), (1435, .goto 1778, 0, 3213, 0, 0), (1438, .aload_n 1, 0, 0, 0, 0), (1439, .aload_n 0, 0, 0, 0, 0), (1440, .iload 4, 0, 0, 0, 0), (1442, .iconst 1, 0, 0, 0, 0), (1443, .iadd, 0, 0, 0, 0), (1444, .iaload, 0, 0, 0, 0), (1445, .aload_n 0, 0, 0, 0, 0), (1446, .iload 4, 0, 0, 0, 0), (1448, .iconst 2, 0, 0, 0, 0), (1449, .iadd, 0, 0, 0, 0), (1450, .iaload, 0, 0, 0, 0), (1451, .aload_n 0, 0, 0, 0, 0), (1452, .iload 4, 0, 0, 0, 0), (1454, .iconst 3, 0, 0, 0, 0), (1455, .iadd, 0, 0, 0, 0), (1456, .iaload, 0, 0, 0, 0), (1457, .aload_n 3, 0, 0, 0, 0), (1458, .invokestatic 224, 6107, 3858, 5, 0), (1461, .istore 5, 0, 0, 0, 0), (1463, .aload_n 2, 0, 0, 0, 0), (1464, .aload_n 0, 0, 0, 0, 0), (1465, .iload 4, 0, 0, 0, 0), (1467, .iconst 1, 0, 0, 0, 0), (1468, .iadd, 0, 0, 0, 0), (1469, .iaload, 0, 0, 0, 0), (1470, .aload_n 0, 0, 0, 0, 0), (1471, .iload 4, 0, 0, 0, 0), (1473, .iconst 2, 0, 0, 0, 0), (1474, .iadd, 0, 0, 0, 0), (1475, .iaload, 0, 0, 0, 0), (1476, .aload_n 0, 0, 0, 0, 0), (1477, .iload 4, 0, 0, 0, 0), (1479, .iconst 3, 0, 0, 0, 0), (1480, .iadd, 0, 0, 0, 0), (1481, .iaload, 0, 0, 0, 0), (1482, .invokevirtual 226, 10061, 3659, 3, 14), (1485, .istore 6, 0, 0, 0, 0), (1487, .aload_n 2, 0, 0, 0, 0), (1488, .invokevirtual 157, 8209, 3723, 0, 14), (1491, .iload 5, 0, 0, 0, 0), (1493, .if_icmp .eq 5, 0, 1498, 0, 0), (1496, .iconst 0, 0, 0, 0, 0), (1497, .ireturn, 0, 0, 0, 0), (1498, .iload 5, 0, 0, 0, 0), (1500, .ifCond .ne 22, 0, 1522, 0, 0), (1503, .aload_n 3, 0, 0, 0, 0), (1504, .iconst 0, 0, 0, 0, 0), (1505, .laload, 0, 0, 0, 0), (1506, .iload 6, 0, 0, 0, 0), (1508, .ifCond .eq 7, 0, 1515, 0, 0), (1511, .lconst 1, 0, 0, 0, 0), (1512, .goto 4, 0, 1516, 0, 0), (1515, .lconst 0, 0, 0, 0, 0), (1516, .lcmp, 0, 0, 0, 0), (1517, .ifCond .eq 5, 0, 1522, 0, 0), (1520, .iconst 0, 0, 0, 0, 0), (1521, .ireturn, 0, 0, 0, 0), (1522, .goto 1691, 0, 3213, 0, 0), (1525, .aload_n 1, 0, 0, 0, 0), (1526, .aload_n 0, 0, 0, 0, 0), (1527, .iload 4, 0, 0, 0, 0), (1529, .iconst 1, 0, 0, 0, 0), (1530, .iadd, 0, 0, 0, 0), (1531, .iaload, 0, 0, 0, 0), (1532, .aload_n 0, 0, 0, 0, 0), (1533, .iload 4, 0, 0, 0, 0), (1535, .iconst 2, 0, 0, 0, 0), (1536, .iadd, 0, 0, 0, 0), (1537, .iaload, 0, 0, 0, 0), (1538, .aload_n 0, 0, 0, 0, 0), (1539, .iload 4, 0, 0, 0, 0), (1541, .iconst 3, 0, 0, 0, 0), (1542, .iadd, 0, 0, 0, 0), (1543, .iaload, 0, 0, 0, 0), (1544, .aload_n 3, 0, 0, 0, 0), (1545, .invokestatic 227, 6114, 3847, 5, 0), (1548, .istore 5, 0, 0, 0, 0), (1550, .aload_n 2, 0, 0, 0, 0), (1551, .aload_n 0, 0, 0, 0, 0), (1552, .iload 4, 0, 0, 0, 0), (1554, .iconst 1, 0, 0, 0, 0), (1555, .iadd, 0, 0, 0, 0), (1556, .iaload, 0, 0, 0, 0), (1557, .aload_n 0, 0, 0, 0, 0), (1558, .iload 4, 0, 0, 0, 0), (1560, .iconst 2, 0, 0, 0, 0), (1561, .iadd, 0, 0, 0, 0), (1562, .iaload, 0, 0, 0, 0), (1563, .aload_n 0, 0, 0, 0, 0), (1564, .iload 4, 0, 0, 0, 0), (1566, .iconst 3, 0, 0, 0, 0), (1567, .iadd, 0, 0, 0, 0), (1568, .iaload, 0, 0, 0, 0), (1569, .invokevirtual 229, 10065, 3609, 3, 14)]
noncomputable def bk_L_law_6 : List (Nat × bO) := [(1572, .istore 6, 0, 0, 0, 0), (1574, .aload_n 2, 0, 0, 0, 0), (1575, .invokevirtual 157, 8209, 3723, 0, 14), (1578, .iload 5, 0, 0, 0, 0), (1580, .if_icmp .eq 5, 0, 1585, 0, 0), (1583, .iconst 0, 0, 0, 0, 0), (1584, .ireturn, 0, 0, 0, 0), (1585, .iload 5, 0, 0, 0, 0), (1587, .ifCond .ne 22, 0, 1609, 0, 0), (1590, .aload_n 3, 0, 0, 0, 0), (1591, .iconst 0, 0, 0, 0, 0), (1592, .laload, 0, 0, 0, 0), (1593, .iload 6, 0, 0, 0, 0), (1595, .ifCond .eq 7, 0, 1602, 0, 0), (1598, .lconst 1, 0, 0, 0, 0), (1599, .goto 4, 0, 1603, 0, 0), (1602, .lconst 0, 0, 0, 0, 0), (1603, .lcmp, 0, 0, 0, 0), (1604, .ifCond .eq 5, 0, 1609, 0, 0), (1607, .iconst 0, 0, 0, 0, 0), (1608, .ireturn, 0, 0, 0, 0), (1609, .goto 1604, 0, 3213, 0, 0), (1612, .aload_n 1, 0, 0, 0, 0), (1613, .aload_n 0, 0, 0, 0, 0), (1614, .iload 4, 0, 0, 0, 0), (1616, .iconst 1, 0, 0, 0, 0), (1617, .iadd, 0, 0, 0, 0), (1618, .iaload, 0, 0, 0, 0), (1619, .aload_n 0, 0, 0, 0, 0), (1620, .iload 4, 0, 0, 0, 0), (1622, .iconst 2, 0, 0, 0, 0), (1623, .iadd, 0, 0, 0, 0), (1624, .iaload, 0, 0, 0, 0), (1625, .aload_n 0, 0, 0, 0, 0), (1626, .iload 4, 0, 0, 0, 0), (1628, .iconst 3, 0, 0, 0, 0), (1629, .iadd, 0, 0, 0, 0), (1630, .iaload, 0, 0, 0, 0), (1631, .aload_n 3, 0, 0, 0, 0), (1632, .invokestatic 230, 6122, 3863, 5, 0), (1635, .istore 5, 0, 0, 0, 0), (1637, .aload_n 2, 0, 0, 0, 0), (1638, .aload_n 0, 0, 0, 0, 0), (1639, .iload 4, 0, 0, 0, 0), (1641, .iconst 1, 0, 0, 0, 0), (1642, .iadd, 0, 0, 0, 0), (1643, .iaload, 0, 0, 0, 0), (1644, .aload_n 0, 0, 0, 0, 0), (1645, .iload 4, 0, 0, 0, 0), (1647, .iconst 2, 0, 0, 0, 0), (1648, .iadd, 0, 0, 0, 0), (1649, .iaload, 0, 0, 0, 0), (1650, .aload_n 0, 0, 0, 0, 0), (1651, .iload 4, 0, 0, 0, 0), (1653, .iconst 3, 0, 0, 0, 0), (1654, .iadd, 0, 0, 0, 0), (1655, .iaload, 0, 0, 0, 0), (1656, .invokevirtual 232, 10069, 3680, 3, 14), (1659, .istore 6, 0, 0, 0, 0), (1661, .aload_n 2, 0, 0, 0, 0), (1662, .invokevirtual 157, 8209, 3723, 0, 14), (1665, .iload 5, 0, 0, 0, 0), (1667, .if_icmp .eq 5, 0, 1672, 0, 0), (1670, .iconst 0, 0, 0, 0, 0), (1671, .ireturn, 0, 0, 0, 0), (1672, .iload 5, 0, 0, 0, 0), (1674, .ifCond .ne 22, 0, 1696, 0, 0), (1677, .aload_n 3, 0, 0, 0, 0), (1678, .iconst 0, 0, 0, 0, 0), (1679, .laload, 0, 0, 0, 0), (1680, .iload 6, 0, 0, 0, 0), (1682, .ifCond .eq 7, 0, 1689, 0, 0), (1685, .lconst 1, 0, 0, 0, 0), (1686, .goto 4, 0, 1690, 0, 0), (1689, .lconst 0, 0, 0, 0, 0), (1690, .lcmp, 0, 0, 0, 0), (1691, .ifCond .eq 5, 0, 1696, 0, 0), (1694, .iconst 0, 0, 0, 0, 0), (1695, .ireturn, 0, 0, 0, 0), (1696, .goto 1517, 0, 3213, 0, 0), (1699, .aload_n 1, 0, 0, 0, 0), (1700, .aload_n 0, 0, 0, 0, 0), (1701, .iload 4, 0, 0, 0, 0), (1703, .iconst 1, 0, 0, 0, 0), (1704, .iadd, 0, 0, 0, 0), (1705, .iaload, 0, 0, 0, 0), (1706, .aload_n 0, 0, 0, 0, 0), (1707, .iload 4, 0, 0, 0, 0), (1709, .iconst 2, 0, 0, 0, 0), (1710, .iadd, 0, 0, 0, 0), (1711, .iaload, 0, 0, 0, 0), (1712, .aload_n 0, 0, 0, 0, 0), (1713, .iload 4, 0, 0, 0, 0), (1715, .iconst 3, 0, 0, 0, 0), (1716, .iadd, 0, 0, 0, 0), (1717, .iaload, 0, 0, 0, 0), (1718, .aload_n 3, 0, 0, 0, 0), (1719, .invokestatic 233, 6134, 3866, 5, 0), (1722, .istore 5, 0, 0, 0, 0), (1724, .aload_n 2, 0, 0, 0, 0), (1725, .aload_n 0, 0, 0, 0, 0), (1726, .iload 4, 0, 0, 0, 0), (1728, .iconst 1, 0, 0, 0, 0), (1729, .iadd, 0, 0, 0, 0), (1730, .iaload, 0, 0, 0, 0), (1731, .aload_n 0, 0, 0, 0, 0), (1732, .iload 4, 0, 0, 0, 0), (1734, .iconst 2, 0, 0, 0, 0), (1735, .iadd, 0, 0, 0, 0), (1736, .iaload, 0, 0, 0, 0), (1737, .aload_n 0, 0, 0, 0, 0), (1738, .iload 4, 0, 0, 0, 0), (1740, .iconst 3, 0, 0, 0, 0), (1741, .iadd, 0, 0, 0, 0), (1742, .iaload, 0, 0, 0, 0), (1743, .invokevirtual 235, 10093, 3694, 3, 14), (1746, .istore 6, 0, 0, 0, 0), (1748, .aload_n 2, 0, 0, 0, 0), (1749, .invokevirtual 157, 8209, 3723, 0, 14), (1752, .iload 5, 0, 0, 0, 0), (1754, .if_icmp .eq 5, 0, 1759, 0, 0), (1757, .iconst 0, 0, 0, 0, 0), (1758, .ireturn, 0, 0, 0, 0), (1759, .iload 5, 0, 0, 0, 0), (1761, .ifCond .ne 22, 0, 1783, 0, 0), (1764, .aload_n 3, 0, 0, 0, 0), (1765, .iconst 0, 0, 0, 0, 0), (1766, .laload, 0, 0, 0, 0), (1767, .iload 6, 0, 0, 0, 0), (1769, .ifCond .eq 7, 0, 1776, 0, 0), (1772, .lconst 1, 0, 0, 0, 0), (1773, .goto 4, 0, 1777, 0, 0), (1776, .lconst 0, 0, 0, 0, 0), (1777, .lcmp, 0, 0, 0, 0), (1778, .ifCond .eq 5, 0, 1783, 0, 0), (1781, .iconst 0, 0, 0, 0, 0), (1782, .ireturn, 0, 0, 0, 0), (1783, .goto 1430, 0, 3213, 0, 0), (1786, .aload_n 1, 0, 0, 0, 0), (1787, .aload_n 0, 0, 0, 0, 0), (1788, .iload 4, 0, 0, 0, 0), (1790, .iconst 1, 0, 0, 0, 0), (1791, .iadd, 0, 0, 0, 0), (1792, .iaload, 0, 0, 0, 0), (1793, .aload_n 0, 0, 0, 0, 0), (1794, .iload 4, 0, 0, 0, 0), (1796, .iconst 2, 0, 0, 0, 0), (1797, .iadd, 0, 0, 0, 0), (1798, .iaload, 0, 0, 0, 0), (1799, .aload_n 0, 0, 0, 0, 0)]
noncomputable def bk_L_law_7 : List (Nat × bO) := [(1800, .iload 4, 0, 0, 0, 0), (1802, .iconst 3, 0, 0, 0, 0), (1803, .iadd, 0, 0, 0, 0), (1804, .iaload, 0, 0, 0, 0), (1805, .i2c, 0, 0, 0, 0), (1806, .aload_n 3, 0, 0, 0, 0), (1807, .invokestatic 236, 6142, 3841, 5, 0), (1810, .istore 5, 0, 0, 0, 0), (1812, .aload_n 2, 0, 0, 0, 0), (1813, .aload_n 0, 0, 0, 0, 0), (1814, .iload 4, 0, 0, 0, 0), (1816, .iconst 1, 0, 0, 0, 0), (1817, .iadd, 0, 0, 0, 0), (1818, .iaload, 0, 0, 0, 0), (1819, .aload_n 0, 0, 0, 0, 0), (1820, .iload 4, 0, 0, 0, 0), (1822, .iconst 2, 0, 0, 0, 0), (1823, .iadd, 0, 0, 0, 0), (1824, .iaload, 0, 0, 0, 0), (1825, .aload_n 0, 0, 0, 0, 0), (1826, .iload 4, 0, 0, 0, 0), (1828, .iconst 3, 0, 0, 0, 0), (1829, .iadd, 0, 0, 0, 0), (1830, .iaload, 0, 0, 0, 0), (1831, .i2c, 0, 0, 0, 0), (1832, .invokevirtual 239, 10106, 3589, 3, 14), (1835, .istore 6, 0, 0, 0, 0), (1837, .aload_n 2, 0, 0, 0, 0), (1838, .invokevirtual 157, 8209, 3723, 0, 14), (1841, .iload 5, 0, 0, 0, 0), (1843, .if_icmp .eq 5, 0, 1848, 0, 0), (1846, .iconst 0, 0, 0, 0, 0), (1847, .ireturn, 0, 0, 0, 0), (1848, .iload 5, 0, 0, 0, 0), (1850, .ifCond .ne 22, 0, 1872, 0, 0), (1853, .aload_n 3, 0, 0, 0, 0), (1854, .iconst 0, 0, 0, 0, 0), (1855, .laload, 0, 0, 0, 0), (1856, .iload 6, 0, 0, 0, 0), (1858, .ifCond .eq 7, 0, 1865, 0, 0), (1861, .lconst 1, 0, 0, 0, 0), (1862, .goto 4, 0, 1866, 0, 0), (1865, .lconst 0, 0, 0, 0, 0), (1866, .lcmp, 0, 0, 0, 0), (1867, .ifCond .eq 5, 0, 1872, 0, 0), (1870, .iconst 0, 0, 0, 0, 0), (1871, .ireturn, 0, 0, 0, 0), (1872, .goto 1341, 0, 3213, 0, 0), (1875, .aload_n 1, 0, 0, 0, 0), (1876, .aload_n 0, 0, 0, 0, 0), (1877, .iload 4, 0, 0, 0, 0), (1879, .iconst 1, 0, 0, 0, 0), (1880, .iadd, 0, 0, 0, 0), (1881, .iaload, 0, 0, 0, 0), (1882, .aload_n 0, 0, 0, 0, 0), (1883, .iload 4, 0, 0, 0, 0), (1885, .iconst 2, 0, 0, 0, 0), (1886, .iadd, 0, 0, 0, 0), (1887, .iaload, 0, 0, 0, 0), (1888, .aload_n 0, 0, 0, 0, 0), (1889, .iload 4, 0, 0, 0, 0), (1891, .iconst 3, 0, 0, 0, 0), (1892, .iadd, 0, 0, 0, 0), (1893, .iaload, 0, 0, 0, 0), (1894, .ifCond .eq 7, 0, 1901, 0, 0), (1897, .iconst 1, 0, 0, 0, 0), (1898, .goto 4, 0, 1902, 0, 0), (1901, .iconst 0, 0, 0, 0, 0), (1902, .aload_n 3, 0, 0, 0, 0), (1903, .invokestatic 240, 6150, 3870, 5, 0), (1906, .istore 5, 0, 0, 0, 0), (1908, .aload_n 2, 0, 0, 0, 0), (1909, .aload_n 0, 0, 0, 0, 0), (1910, .iload 4, 0, 0, 0, 0), (1912, .iconst 1, 0, 0, 0, 0), (1913, .iadd, 0, 0, 0, 0), (1914, .iaload, 0, 0, 0, 0), (1915, .aload_n 0, 0, 0, 0, 0), (1916, .iload 4, 0, 0, 0, 0), (1918, .iconst 2, 0, 0, 0, 0), (1919, .iadd, 0, 0, 0, 0), (1920, .iaload, 0, 0, 0, 0), (1921, .aload_n 0, 0, 0, 0, 0), (1922, .iload 4, 0, 0, 0, 0), (1924, .iconst 3, 0, 0, 0, 0), (1925, .iadd, 0, 0, 0, 0), (1926, .iaload, 0, 0, 0, 0), (1927, .ifCond .eq 7, 0, 1934, 0, 0), (1930, .iconst 1, 0, 0, 0, 0), (1931, .goto 4, 0, 1935, 0, 0), (1934, .iconst 0, 0, 0, 0, 0), (1935, .invokevirtual 243, 10152, 3711, 3, 14), (1938, .istore 6, 0, 0, 0, 0), (1940, .aload_n 2, 0, 0, 0, 0), (1941, .invokevirtual 157, 8209, 3723, 0, 14), (1944, .iload 5, 0, 0, 0, 0), (1946, .if_icmp .eq 5, 0, 1951, 0, 0), (1949, .iconst 0, 0, 0, 0, 0), (1950, .ireturn, 0, 0, 0, 0), (1951, .iload 5, 0, 0, 0, 0), (1953, .ifCond .ne 22, 0, 1975, 0, 0), (1956, .aload_n 3, 0, 0, 0, 0), (1957, .iconst 0, 0, 0, 0, 0), (1958, .laload, 0, 0, 0, 0), (1959, .iload 6, 0, 0, 0, 0), (1961, .ifCond .eq 7, 0, 1968, 0, 0), (1964, .lconst 1, 0, 0, 0, 0), (1965, .goto 4, 0, 1969, 0, 0), (1968, .lconst 0, 0, 0, 0, 0), (1969, .lcmp, 0, 0, 0, 0), (1970, .ifCond .eq 5, 0, 1975, 0, 0), (1973, .iconst 0, 0, 0, 0, 0), (1974, .ireturn, 0, 0, 0, 0), (1975, .goto 1238, 0, 3213, 0, 0), (1978, .aload_n 1, 0, 0, 0, 0), (1979, .aload_n 0, 0, 0, 0, 0), (1980, .iload 4, 0, 0, 0, 0), (1982, .iconst 1, 0, 0, 0, 0), (1983, .iadd, 0, 0, 0, 0), (1984, .iaload, 0, 0, 0, 0), (1985, .aload_n 3, 0, 0, 0, 0), (1986, .invokestatic 244, 6162, 3846, 3, 0), (1989, .istore 5, 0, 0, 0, 0), (1991, .aload_n 2, 0, 0, 0, 0), (1992, .aload_n 0, 0, 0, 0, 0), (1993, .iload 4, 0, 0, 0, 0), (1995, .iconst 1, 0, 0, 0, 0), (1996, .iadd, 0, 0, 0, 0), (1997, .iaload, 0, 0, 0, 0), (1998, .invokevirtual 246, 10160, 3606, 1, 14), (2001, .istore 6, 0, 0, 0, 0), (2003, .aload_n 2, 0, 0, 0, 0), (2004, .invokevirtual 157, 8209, 3723, 0, 14), (2007, .iload 5, 0, 0, 0, 0), (2009, .if_icmp .eq 5, 0, 2014, 0, 0), (2012, .iconst 0, 0, 0, 0, 0), (2013, .ireturn, 0, 0, 0, 0), (2014, .iload 5, 0, 0, 0, 0), (2016, .ifCond .ne 15, 0, 2031, 0, 0), (2019, .aload_n 3, 0, 0, 0, 0), (2020, .iconst 0, 0, 0, 0, 0), (2021, .laload, 0, 0, 0, 0), (2022, .iload 6, 0, 0, 0, 0), (2024, .i2l, 0, 0, 0, 0), (2025, .lcmp, 0, 0, 0, 0), (2026, .ifCond .eq 5, 0, 2031, 0, 0), (2029, .iconst 0, 0, 0, 0, 0), (2030, .ireturn, 0, 0, 0, 0), (2031, .goto 1182, 0, 3213, 0, 0), (2034, .aload_n 1, 0, 0, 0, 0)]
noncomputable def bk_L_law_8 : List (Nat × bO) := [(2035, .aload_n 0, 0, 0, 0, 0), (2036, .iload 4, 0, 0, 0, 0), (2038, .iconst 1, 0, 0, 0, 0), (2039, .iadd, 0, 0, 0, 0), (2040, .iaload, 0, 0, 0, 0), (2041, .aload_n 3, 0, 0, 0, 0), (2042, .invokestatic 247, 7001, 3849, 3, 0), (2045, .istore 5, 0, 0, 0, 0), (2047, .aload_n 2, 0, 0, 0, 0), (2048, .aload_n 0, 0, 0, 0, 0), (2049, .iload 4, 0, 0, 0, 0), (2051, .iconst 1, 0, 0, 0, 0), (2052, .iadd, 0, 0, 0, 0), (2053, .iaload, 0, 0, 0, 0), (2054, .invokevirtual 249, 10199, 3619, 1, 14), (2057, .istore 6, 0, 0, 0, 0), (2059, .aload_n 2, 0, 0, 0, 0), (2060, .invokevirtual 157, 8209, 3723, 0, 14), (2063, .iload 5, 0, 0, 0, 0), (2065, .if_icmp .eq 5, 0, 2070, 0, 0), (2068, .iconst 0, 0, 0, 0, 0), (2069, .ireturn, 0, 0, 0, 0), (2070, .iload 5, 0, 0, 0, 0), (2072, .ifCond .ne 22, 0, 2094, 0, 0), (2075, .aload_n 3, 0, 0, 0, 0), (2076, .iconst 0, 0, 0, 0, 0), (2077, .laload, 0, 0, 0, 0), (2078, .iload 6, 0, 0, 0, 0), (2080, .ifCond .eq 7, 0, 2087, 0, 0), (2083, .lconst 1, 0, 0, 0, 0), (2084, .goto 4, 0, 2088, 0, 0), (2087, .lconst 0, 0, 0, 0, 0), (2088, .lcmp, 0, 0, 0, 0), (2089, .ifCond .eq 5, 0, 2094, 0, 0), (2092, .iconst 0, 0, 0, 0, 0), (2093, .ireturn, 0, 0, 0, 0), (2094, .goto 1119, 0, 3213, 0, 0), (2097, .aload_n 1, 0, 0, 0, 0), (2098, .aload_n 0, 0, 0, 0, 0), (2099, .iload 4, 0, 0, 0, 0), (2101, .iconst 1, 0, 0, 0, 0), (2102, .iadd, 0, 0, 0, 0), (2103, .iaload, 0, 0, 0, 0), (2104, .aload_n 0, 0, 0, 0, 0), (2105, .iload 4, 0, 0, 0, 0), (2107, .iconst 2, 0, 0, 0, 0), (2108, .iadd, 0, 0, 0, 0), (2109, .iaload, 0, 0, 0, 0), (2110, .aload_n 0, 0, 0, 0, 0), (2111, .iload 4, 0, 0, 0, 0), (2113, .iconst 3, 0, 0, 0, 0), (2114, .iadd, 0, 0, 0, 0), (2115, .iaload, 0, 0, 0, 0), (2116, .aload_n 0, 0, 0, 0, 0), (2117, .iload 4, 0, 0, 0, 0), (2119, .iconst 4, 0, 0, 0, 0), (2120, .iadd, 0, 0, 0, 0), (2121, .iaload, 0, 0, 0, 0), (2122, .aload_n 3, 0, 0, 0, 0), (2123, .invokestatic 250, 7013, 3875, 6, 0), (2126, .istore 5, 0, 0, 0, 0), (2128, .aload_n 2, 0, 0, 0, 0), (2129, .aload_n 0, 0, 0, 0, 0), (2130, .iload 4, 0, 0, 0, 0), (2132, .iconst 1, 0, 0, 0, 0), (2133, .iadd, 0, 0, 0, 0), (2134, .iaload, 0, 0, 0, 0), (2135, .aload_n 0, 0, 0, 0, 0), (2136, .iload 4, 0, 0, 0, 0), (2138, .iconst 2, 0, 0, 0, 0), (2139, .iadd, 0, 0, 0, 0), (2140, .iaload, 0, 0, 0, 0), (2141, .aload_n 0, 0, 0, 0, 0), (2142, .iload 4, 0, 0, 0, 0), (2144, .iconst 3, 0, 0, 0, 0), (2145, .iadd, 0, 0, 0, 0), (2146, .iaload, 0, 0, 0, 0), (2147, .aload_n 0, 0, 0, 0, 0), (2148, .iload 4, 0, 0, 0, 0), (2150, .iconst 4, 0, 0, 0, 0), (2151, .iadd, 0, 0, 0, 0), (2152, .iaload, 0, 0, 0, 0), (2153, .invokevirtual 253, 10207, 3733, 4, 14), (2156, .istore 6, 0, 0, 0, 0), (2158, .aload_n 2, 0, 0, 0, 0), (2159, .invokevirtual 157, 8209, 3723, 0, 14), (2162, .iload 5, 0, 0, 0, 0), (2164, .if_icmp .eq 5, 0, 2169, 0, 0), (2167, .iconst 0, 0, 0, 0, 0), (2168, .ireturn, 0, 0, 0, 0), (2169, .iload 5, 0, 0, 0, 0), (2171, .ifCond .ne 22, 0, 2193, 0, 0), (2174, .aload_n 3, 0, 0, 0, 0), (2175, .iconst 0, 0, 0, 0, 0), (2176, .laload, 0, 0, 0, 0), (2177, .iload 6, 0, 0, 0, 0), (2179, .ifCond .eq 7, 0, 2186, 0, 0), (2182, .lconst 1, 0, 0, 0, 0), (2183, .goto 4, 0, 2187, 0, 0), (2186, .lconst 0, 0, 0, 0, 0), (2187, .lcmp, 0, 0, 0, 0), (2188, .ifCond .eq 5, 0, 2193, 0, 0), (2191, .iconst 0, 0, 0, 0, 0), (2192, .ireturn, 0, 0, 0, 0), (2193, .goto 1020, 0, 3213, 0, 0), (2196, .aload_n 1, 0, 0, 0, 0), (2197, .aload_n 0, 0, 0, 0, 0), (2198, .iload 4, 0, 0, 0, 0), (2200, .iconst 1, 0, 0, 0, 0), (2201, .iadd, 0, 0, 0, 0), (2202, .iaload, 0, 0, 0, 0), (2203, .aload_n 0, 0, 0, 0, 0), (2204, .iload 4, 0, 0, 0, 0), (2206, .iconst 2, 0, 0, 0, 0), (2207, .iadd, 0, 0, 0, 0), (2208, .iaload, 0, 0, 0, 0), (2209, .aload_n 0, 0, 0, 0, 0), (2210, .iload 4, 0, 0, 0, 0), (2212, .iconst 3, 0, 0, 0, 0), (2213, .iadd, 0, 0, 0, 0), (2214, .iaload, 0, 0, 0, 0), (2215, .aload_n 0, 0, 0, 0, 0), (2216, .iload 4, 0, 0, 0, 0), (2218, .iconst 4, 0, 0, 0, 0), (2219, .iadd, 0, 0, 0, 0), (2220, .iaload, 0, 0, 0, 0), (2221, .aload_n 3, 0, 0, 0, 0), (2222, .invokestatic 254, 7024, 3869, 6, 0), (2225, .istore 5, 0, 0, 0, 0), (2227, .aload_n 2, 0, 0, 0, 0), (2228, .aload_n 0, 0, 0, 0, 0), (2229, .iload 4, 0, 0, 0, 0), (2231, .iconst 1, 0, 0, 0, 0), (2232, .iadd, 0, 0, 0, 0), (2233, .iaload, 0, 0, 0, 0), (2234, .aload_n 0, 0, 0, 0, 0), (2235, .iload 4, 0, 0, 0, 0), (2237, .iconst 2, 0, 0, 0, 0), (2238, .iadd, 0, 0, 0, 0), (2239, .iaload, 0, 0, 0, 0), (2240, .aload_n 0, 0, 0, 0, 0), (2241, .iload 4, 0, 0, 0, 0), (2243, .iconst 3, 0, 0, 0, 0), (2244, .iadd, 0, 0, 0, 0), (2245, .iaload, 0, 0, 0, 0), (2246, .aload_n 0, 0, 0, 0, 0), (2247, .iload 4, 0, 0, 0, 0), (2249, .iconst 4, 0, 0, 0, 0), (2250, .iadd, 0, 0, 0, 0), (2251, .iaload, 0, 0, 0, 0)]
noncomputable def bk_L_law_9 : List (Nat × bO) := [(2252, .invokevirtual 256, 10231, 3709, 4, 14), (2255, .istore 6, 0, 0, 0, 0), (2257, .aload_n 2, 0, 0, 0, 0), (2258, .invokevirtual 157, 8209, 3723, 0, 14), (2261, .iload 5, 0, 0, 0, 0), (2263, .if_icmp .eq 5, 0, 2268, 0, 0), (2266, .iconst 0, 0, 0, 0, 0), (2267, .ireturn, 0, 0, 0, 0), (2268, .iload 5, 0, 0, 0, 0), (2270, .ifCond .ne 22, 0, 2292, 0, 0), (2273, .aload_n 3, 0, 0, 0, 0), (2274, .iconst 0, 0, 0, 0, 0), (2275, .laload, 0, 0, 0, 0), (2276, .iload 6, 0, 0, 0, 0), (2278, .ifCond .eq 7, 0, 2285, 0, 0), (2281, .lconst 1, 0, 0, 0, 0), (2282, .goto 4, 0, 2286, 0, 0), (2285, .lconst 0, 0, 0, 0, 0), (2286, .lcmp, 0, 0, 0, 0), (2287, .ifCond .eq 5, 0, 2292, 0, 0), (2290, .iconst 0, 0, 0, 0, 0), (2291, .ireturn, 0, 0, 0, 0), (2292, .goto 921, 0, 3213, 0, 0), (2295, .aload_n 1, 0, 0, 0, 0), (2296, .aload_n 0, 0, 0, 0, 0), (2297, .iload 4, 0, 0, 0, 0), (2299, .iconst 1, 0, 0, 0, 0), (2300, .iadd, 0, 0, 0, 0), (2301, .iaload, 0, 0, 0, 0), (2302, .aload_n 0, 0, 0, 0, 0), (2303, .iload 4, 0, 0, 0, 0), (2305, .iconst 2, 0, 0, 0, 0), (2306, .iadd, 0, 0, 0, 0), (2307, .iaload, 0, 0, 0, 0), (2308, .aload_n 0, 0, 0, 0, 0), (2309, .iload 4, 0, 0, 0, 0), (2311, .iconst 3, 0, 0, 0, 0), (2312, .iadd, 0, 0, 0, 0), (2313, .iaload, 0, 0, 0, 0), (2314, .aload_n 3, 0, 0, 0, 0), (2315, .invokestatic 257, 7122, 3845, 5, 0), (2318, .istore 5, 0, 0, 0, 0), (2320, .aload_n 2, 0, 0, 0, 0), (2321, .aload_n 0, 0, 0, 0, 0), (2322, .iload 4, 0, 0, 0, 0), (2324, .iconst 1, 0, 0, 0, 0), (2325, .iadd, 0, 0, 0, 0), (2326, .iaload, 0, 0, 0, 0), (2327, .aload_n 0, 0, 0, 0, 0), (2328, .iload 4, 0, 0, 0, 0), (2330, .iconst 2, 0, 0, 0, 0), (2331, .iadd, 0, 0, 0, 0), (2332, .iaload, 0, 0, 0, 0), (2333, .aload_n 0, 0, 0, 0, 0), (2334, .iload 4, 0, 0, 0, 0), (2336, .iconst 3, 0, 0, 0, 0), (2337, .iadd, 0, 0, 0, 0), (2338, .iaload, 0, 0, 0, 0), (2339, .invokevirtual 259, 10235, 3604, 3, 14), (2342, .istore 6, 0, 0, 0, 0), (2344, .aload_n 2, 0, 0, 0, 0), (2345, .invokevirtual 157, 8209, 3723, 0, 14), (2348, .iload 5, 0, 0, 0, 0), (2350, .if_icmp .eq 5, 0, 2355, 0, 0), (2353, .iconst 0, 0, 0, 0, 0), (2354, .ireturn, 0, 0, 0, 0), (2355, .iload 5, 0, 0, 0, 0), (2357, .ifCond .ne 15, 0, 2372, 0, 0), (2360, .aload_n 3, 0, 0, 0, 0), (2361, .iconst 0, 0, 0, 0, 0), (2362, .laload, 0, 0, 0, 0), (2363, .iload 6, 0, 0, 0, 0), (2365, .i2l, 0, 0, 0, 0), (2366, .lcmp, 0, 0, 0, 0), (2367, .ifCond .eq 5, 0, 2372, 0, 0), (2370, .iconst 0, 0, 0, 0, 0), (2371, .ireturn, 0, 0, 0, 0), (2372, .goto 841, 0, 3213, 0, 0), (2375, .aload_n 1, 0, 0, 0, 0), (2376, .aload_n 0, 0, 0, 0, 0), (2377, .iload 4, 0, 0, 0, 0), (2379, .iconst 1, 0, 0, 0, 0), (2380, .iadd, 0, 0, 0, 0), (2381, .iaload, 0, 0, 0, 0), (2382, .aload_n 0, 0, 0, 0, 0), (2383, .iload 4, 0, 0, 0, 0), (2385, .iconst 2, 0, 0, 0, 0), (2386, .iadd, 0, 0, 0, 0), (2387, .iaload, 0, 0, 0, 0), (2388, .aload_n 0, 0, 0, 0, 0), (2389, .iload 4, 0, 0, 0, 0), (2391, .iconst 3, 0, 0, 0, 0), (2392, .iadd, 0, 0, 0, 0), (2393, .iaload, 0, 0, 0, 0), (2394, .aload_n 3, 0, 0, 0, 0), (2395, .invokestatic 260, 7133, 3877, 5, 0), (2398, .istore 5, 0, 0, 0, 0), (2400, .aload_n 2, 0, 0, 0, 0), (2401, .aload_n 0, 0, 0, 0, 0), (2402, .iload 4, 0, 0, 0, 0), (2404, .iconst 1, 0, 0, 0, 0), (2405, .iadd, 0, 0, 0, 0), (2406, .iaload, 0, 0, 0, 0), (2407, .aload_n 0, 0, 0, 0, 0), (2408, .iload 4, 0, 0, 0, 0), (2410, .iconst 2, 0, 0, 0, 0), (2411, .iadd, 0, 0, 0, 0), (2412, .iaload, 0, 0, 0, 0), (2413, .aload_n 0, 0, 0, 0, 0), (2414, .iload 4, 0, 0, 0, 0), (2416, .iconst 3, 0, 0, 0, 0), (2417, .iadd, 0, 0, 0, 0), (2418, .iaload, 0, 0, 0, 0), (2419, .invokevirtual 262, 10239, 3738, 3, 14), (2422, .istore 6, 0, 0, 0, 0), (2424, .aload_n 2, 0, 0, 0, 0), (2425, .invokevirtual 157, 8209, 3723, 0, 14), (2428, .iload 5, 0, 0, 0, 0), (2430, .if_icmp .eq 5, 0, 2435, 0, 0), (2433, .iconst 0, 0, 0, 0, 0), (2434, .ireturn, 0, 0, 0, 0), (2435, .iload 5, 0, 0, 0, 0), (2437, .ifCond .ne 15, 0, 2452, 0, 0), (2440, .aload_n 3, 0, 0, 0, 0), (2441, .iconst 0, 0, 0, 0, 0), (2442, .laload, 0, 0, 0, 0), (2443, .iload 6, 0, 0, 0, 0), (2445, .i2l, 0, 0, 0, 0), (2446, .lcmp, 0, 0, 0, 0), (2447, .ifCond .eq 5, 0, 2452, 0, 0), (2450, .iconst 0, 0, 0, 0, 0), (2451, .ireturn, 0, 0, 0, 0), (2452, .goto 761, 0, 3213, 0, 0), (2455, .aload_n 1, 0, 0, 0, 0), (2456, .aload_n 0, 0, 0, 0, 0), (2457, .iload 4, 0, 0, 0, 0), (2459, .iconst 1, 0, 0, 0, 0), (2460, .iadd, 0, 0, 0, 0), (2461, .iaload, 0, 0, 0, 0), (2462, .aload_n 3, 0, 0, 0, 0), (2463, .invokestatic 263, 7190, 3862, 3, 0), (2466, .istore 5, 0, 0, 0, 0), (2468, .aload_n 2, 0, 0, 0, 0), (2469, .aload_n 0, 0, 0, 0, 0), (2470, .iload 4, 0, 0, 0, 0), (2472, .iconst 1, 0, 0, 0, 0), (2473, .iadd, 0, 0, 0, 0), (2474, .iaload, 0, 0, 0, 0), (2475, .invokevirtual 265, 11034, 3678, 1, 14), (2478, .istore 6, 0, 0, 0, 0)]
noncomputable def bk_L_law_10 : List (Nat × bO) := [(2480, .aload_n 2, 0, 0, 0, 0), (2481, .invokevirtual 157, 8209, 3723, 0, 14), (2484, .iload 5, 0, 0, 0, 0), (2486, .if_icmp .eq 5, 0, 2491, 0, 0), (2489, .iconst 0, 0, 0, 0, 0), (2490, .ireturn, 0, 0, 0, 0), (2491, .iload 5, 0, 0, 0, 0), (2493, .ifCond .ne 15, 0, 2508, 0, 0), (2496, .aload_n 3, 0, 0, 0, 0), (2497, .iconst 0, 0, 0, 0, 0), (2498, .laload, 0, 0, 0, 0), (2499, .iload 6, 0, 0, 0, 0), (2501, .i2l, 0, 0, 0, 0), (2502, .lcmp, 0, 0, 0, 0), (2503, .ifCond .eq 5, 0, 2508, 0, 0), (2506, .iconst 0, 0, 0, 0, 0), (2507, .ireturn, 0, 0, 0, 0), (2508, .goto 705, 0, 3213, 0, 0), (2511, .aload_n 1, 0, 0, 0, 0), (2512, .aload_n 0, 0, 0, 0, 0), (2513, .iload 4, 0, 0, 0, 0), (2515, .iconst 1, 0, 0, 0, 0), (2516, .iadd, 0, 0, 0, 0), (2517, .iaload, 0, 0, 0, 0), (2518, .aload_n 0, 0, 0, 0, 0), (2519, .iload 4, 0, 0, 0, 0), (2521, .iconst 2, 0, 0, 0, 0), (2522, .iadd, 0, 0, 0, 0), (2523, .iaload, 0, 0, 0, 0), (2524, .aload_n 3, 0, 0, 0, 0), (2525, .invokestatic 266, 7210, 3861, 4, 0), (2528, .istore 5, 0, 0, 0, 0), (2530, .aload_n 2, 0, 0, 0, 0), (2531, .aload_n 0, 0, 0, 0, 0), (2532, .iload 4, 0, 0, 0, 0), (2534, .iconst 1, 0, 0, 0, 0), (2535, .iadd, 0, 0, 0, 0), (2536, .iaload, 0, 0, 0, 0), (2537, .aload_n 0, 0, 0, 0, 0), (2538, .iload 4, 0, 0, 0, 0), (2540, .iconst 2, 0, 0, 0, 0), (2541, .iadd, 0, 0, 0, 0), (2542, .iaload, 0, 0, 0, 0), (2543, .invokevirtual 268, 11038, 3677, 2, 14), (2546, .istore 6, 0, 0, 0, 0), (2548, .aload_n 2, 0, 0, 0, 0), (2549, .invokevirtual 157, 8209, 3723, 0, 14), (2552, .iload 5, 0, 0, 0, 0), (2554, .if_icmp .eq 5, 0, 2559, 0, 0), (2557, .iconst 0, 0, 0, 0, 0), (2558, .ireturn, 0, 0, 0, 0), (2559, .iload 5, 0, 0, 0, 0), (2561, .ifCond .ne 22, 0, 2583, 0, 0), (2564, .aload_n 3, 0, 0, 0, 0), (2565, .iconst 0, 0, 0, 0, 0), (2566, .laload, 0, 0, 0, 0), (2567, .iload 6, 0, 0, 0, 0), (2569, .ifCond .eq 7, 0, 2576, 0, 0), (2572, .lconst 1, 0, 0, 0, 0), (2573, .goto 4, 0, 2577, 0, 0), (2576, .lconst 0, 0, 0, 0, 0), (2577, .lcmp, 0, 0, 0, 0), (2578, .ifCond .eq 5, 0, 2583, 0, 0), (2581, .iconst 0, 0, 0, 0, 0), (2582, .ireturn, 0, 0, 0, 0), (2583, .goto 630, 0, 3213, 0, 0), (2586, .aload_n 1, 0, 0, 0, 0), (2587, .aload_n 0, 0, 0, 0, 0), (2588, .iload 4, 0, 0, 0, 0), (2590, .iconst 1, 0, 0, 0, 0), (2591, .iadd, 0, 0, 0, 0), (2592, .iaload, 0, 0, 0, 0), (2593, .aload_n 0, 0, 0, 0, 0), (2594, .iload 4, 0, 0, 0, 0), (2596, .iconst 2, 0, 0, 0, 0), (2597, .iadd, 0, 0, 0, 0), (2598, .iaload, 0, 0, 0, 0), (2599, .aload_n 0, 0, 0, 0, 0), (2600, .iload 4, 0, 0, 0, 0), (2602, .iconst 3, 0, 0, 0, 0), (2603, .iadd, 0, 0, 0, 0), (2604, .iaload, 0, 0, 0, 0), (2605, .aload_n 3, 0, 0, 0, 0), (2606, .invokestatic 269, 7221, 3859, 5, 0), (2609, .istore 5, 0, 0, 0, 0), (2611, .aload_n 2, 0, 0, 0, 0), (2612, .aload_n 0, 0, 0, 0, 0), (2613, .iload 4, 0, 0, 0, 0), (2615, .iconst 1, 0, 0, 0, 0), (2616, .iadd, 0, 0, 0, 0), (2617, .iaload, 0, 0, 0, 0), (2618, .aload_n 0, 0, 0, 0, 0), (2619, .iload 4, 0, 0, 0, 0), (2621, .iconst 2, 0, 0, 0, 0), (2622, .iadd, 0, 0, 0, 0), (2623, .iaload, 0, 0, 0, 0), (2624, .aload_n 0, 0, 0, 0, 0), (2625, .iload 4, 0, 0, 0, 0), (2627, .iconst 3, 0, 0, 0, 0), (2628, .iadd, 0, 0, 0, 0), (2629, .iaload, 0, 0, 0, 0), (2630, .invokevirtual 271, 11042, 3660, 3, 14), (2633, .istore 6, 0, 0, 0, 0), (2635, .aload_n 2, 0, 0, 0, 0), (2636, .invokevirtual 157, 8209, 3723, 0, 14), (2639, .iload 5, 0, 0, 0, 0), (2641, .if_icmp .eq 5, 0, 2646, 0, 0), (2644, .iconst 0, 0, 0, 0, 0), (2645, .ireturn, 0, 0, 0, 0), (2646, .iload 5, 0, 0, 0, 0), (2648, .ifCond .ne 22, 0, 2670, 0, 0), (2651, .aload_n 3, 0, 0, 0, 0), (2652, .iconst 0, 0, 0, 0, 0), (2653, .laload, 0, 0, 0, 0), (2654, .iload 6, 0, 0, 0, 0), (2656, .ifCond .eq 7, 0, 2663, 0, 0), (2659, .lconst 1, 0, 0, 0, 0), (2660, .goto 4, 0, 2664, 0, 0), (2663, .lconst 0, 0, 0, 0, 0), (2664, .lcmp, 0, 0, 0, 0), (2665, .ifCond .eq 5, 0, 2670, 0, 0), (2668, .iconst 0, 0, 0, 0, 0), (2669, .ireturn, 0, 0, 0, 0), (2670, .goto 543, 0, 3213, 0, 0), (2673, .aload_n 1, 0, 0, 0, 0), (2674, .aload_n 0, 0, 0, 0, 0), (2675, .iload 4, 0, 0, 0, 0), (2677, .iconst 1, 0, 0, 0, 0), (2678, .iadd, 0, 0, 0, 0), (2679, .iaload, 0, 0, 0, 0), (2680, .aload_n 0, 0, 0, 0, 0), (2681, .iload 4, 0, 0, 0, 0), (2683, .iconst 2, 0, 0, 0, 0), (2684, .iadd, 0, 0, 0, 0), (2685, .iaload, 0, 0, 0, 0), (2686, .aload_n 0, 0, 0, 0, 0), (2687, .iload 4, 0, 0, 0, 0), (2689, .iconst 3, 0, 0, 0, 0), (2690, .iadd, 0, 0, 0, 0), (2691, .iaload, 0, 0, 0, 0), (2692, .aload_n 0, 0, 0, 0, 0), (2693, .iload 4, 0, 0, 0, 0), (2695, .iconst 4, 0, 0, 0, 0), (2696, .iadd, 0, 0, 0, 0), (2697, .iaload, 0, 0, 0, 0), (2698, .aload_n 0, 0, 0, 0, 0), (2699, .iload 4, 0, 0, 0, 0), (2701, .iconst 5, 0, 0, 0, 0), (2702, .iadd, 0, 0, 0, 0), (2703, .iaload, 0, 0, 0, 0)]
noncomputable def bk_L_law_11 : List (Nat × bO) := [(2704, .aload_n 3, 0, 0, 0, 0), (2705, .invokestatic 272, 7233, 3860, 7, 0), (2708, .istore 5, 0, 0, 0, 0), (2710, .aload_n 2, 0, 0, 0, 0), (2711, .aload_n 0, 0, 0, 0, 0), (2712, .iload 4, 0, 0, 0, 0), (2714, .iconst 1, 0, 0, 0, 0), (2715, .iadd, 0, 0, 0, 0), (2716, .iaload, 0, 0, 0, 0), (2717, .aload_n 0, 0, 0, 0, 0), (2718, .iload 4, 0, 0, 0, 0), (2720, .iconst 2, 0, 0, 0, 0), (2721, .iadd, 0, 0, 0, 0), (2722, .iaload, 0, 0, 0, 0), (2723, .aload_n 0, 0, 0, 0, 0), (2724, .iload 4, 0, 0, 0, 0), (2726, .iconst 3, 0, 0, 0, 0), (2727, .iadd, 0, 0, 0, 0), (2728, .iaload, 0, 0, 0, 0), (2729, .aload_n 0, 0, 0, 0, 0), (2730, .iload 4, 0, 0, 0, 0), (2732, .iconst 4, 0, 0, 0, 0), (2733, .iadd, 0, 0, 0, 0), (2734, .iaload, 0, 0, 0, 0), (2735, .aload_n 0, 0, 0, 0, 0), (2736, .iload 4, 0, 0, 0, 0), (2738, .iconst 5, 0, 0, 0, 0), (2739, .iadd, 0, 0, 0, 0), (2740, .iaload, 0, 0, 0, 0), (2741, .invokevirtual 275, 11046, 3674, 5, 14), (2744, .istore 6, 0, 0, 0, 0), (2746, .aload_n 2, 0, 0, 0, 0), (2747, .invokevirtual 157, 8209, 3723, 0, 14), (2750, .iload 5, 0, 0, 0, 0), (2752, .if_icmp .eq 5, 0, 2757, 0, 0), (2755, .iconst 0, 0, 0, 0, 0), (2756, .ireturn, 0, 0, 0, 0), (2757, .iload 5, 0, 0, 0, 0), (2759, .ifCond .ne 15, 0, 2774, 0, 0), (2762, .aload_n 3, 0, 0, 0, 0), (2763, .iconst 0, 0, 0, 0, 0), (2764, .laload, 0, 0, 0, 0), (2765, .iload 6, 0, 0, 0, 0), (2767, .i2l, 0, 0, 0, 0), (2768, .lcmp, 0, 0, 0, 0), (2769, .ifCond .eq 5, 0, 2774, 0, 0), (2772, .iconst 0, 0, 0, 0, 0), (2773, .ireturn, 0, 0, 0, 0), (2774, .goto 439, 0, 3213, 0, 0), (2777, .aload_n 1, 0, 0, 0, 0), (2778, .aload_n 0, 0, 0, 0, 0), (2779, .iload 4, 0, 0, 0, 0), (2781, .iconst 1, 0, 0, 0, 0), (2782, .iadd, 0, 0, 0, 0), (2783, .iaload, 0, 0, 0, 0), (2784, .aload_n 0, 0, 0, 0, 0), (2785, .iload 4, 0, 0, 0, 0), (2787, .iconst 2, 0, 0, 0, 0), (2788, .iadd, 0, 0, 0, 0), (2789, .iaload, 0, 0, 0, 0), (2790, .aload_n 0, 0, 0, 0, 0), (2791, .iload 4, 0, 0, 0, 0), (2793, .iconst 3, 0, 0, 0, 0), (2794, .iadd, 0, 0, 0, 0), (2795, .iaload, 0, 0, 0, 0), (2796, .aload_n 0, 0, 0, 0, 0), (2797, .iload 4, 0, 0, 0, 0), (2799, .iconst 4, 0, 0, 0, 0), (2800, .iadd, 0, 0, 0, 0), (2801, .iaload, 0, 0, 0, 0), (2802, .aload_n 3, 0, 0, 0, 0), (2803, .invokestatic 276, 8016, 3854, 6, 0), (2806, .istore 5, 0, 0, 0, 0), (2808, .aload_n 2, 0, 0, 0, 0), (2809, .aload_n 0, 0, 0, 0, 0), (2810, .iload 4, 0, 0, 0, 0), (2812, .iconst 1, 0, 0, 0, 0), (2813, .iadd, 0, 0, 0, 0), (2814, .iaload, 0, 0, 0, 0), (2815, .aload_n 0, 0, 0, 0, 0), (2816, .iload 4, 0, 0, 0, 0), (2818, .iconst 2, 0, 0, 0, 0), (2819, .iadd, 0, 0, 0, 0), (2820, .iaload, 0, 0, 0, 0), (2821, .aload_n 0, 0, 0, 0, 0), (2822, .iload 4, 0, 0, 0, 0), (2824, .iconst 3, 0, 0, 0, 0), (2825, .iadd, 0, 0, 0, 0), (2826, .iaload, 0, 0, 0, 0), (2827, .aload_n 0, 0, 0, 0, 0), (2828, .iload 4, 0, 0, 0, 0), (2830, .iconst 4, 0, 0, 0, 0), (2831, .iadd, 0, 0, 0, 0), (2832, .iaload, 0, 0, 0, 0), (2833, .invokevirtual 278, 11058, 3642, 4, 14), (2836, .istore 6, 0, 0, 0, 0), (2838, .aload_n 2, 0, 0, 0, 0), (2839, .invokevirtual 157, 8209, 3723, 0, 14), (2842, .iload 5, 0, 0, 0, 0), (2844, .if_icmp .eq 5, 0, 2849, 0, 0), (2847, .iconst 0, 0, 0, 0, 0), (2848, .ireturn, 0, 0, 0, 0), (2849, .iload 5, 0, 0, 0, 0), (2851, .ifCond .ne 22, 0, 2873, 0, 0), (2854, .aload_n 3, 0, 0, 0, 0), (2855, .iconst 0, 0, 0, 0, 0), (2856, .laload, 0, 0, 0, 0), (2857, .iload 6, 0, 0, 0, 0), (2859, .ifCond .eq 7, 0, 2866, 0, 0), (2862, .lconst 1, 0, 0, 0, 0), (2863, .goto 4, 0, 2867, 0, 0), (2866, .lconst 0, 0, 0, 0, 0), (2867, .lcmp, 0, 0, 0, 0), (2868, .ifCond .eq 5, 0, 2873, 0, 0), (2871, .iconst 0, 0, 0, 0, 0), (2872, .ireturn, 0, 0, 0, 0), (2873, .goto 340, 0, 3213, 0, 0), (2876, .aload_n 1, 0, 0, 0, 0), (2877, .aload_n 0, 0, 0, 0, 0), (2878, .iload 4, 0, 0, 0, 0), (2880, .iconst 1, 0, 0, 0, 0), (2881, .iadd, 0, 0, 0, 0), (2882, .iaload, 0, 0, 0, 0), (2883, .aload_n 0, 0, 0, 0, 0), (2884, .iload 4, 0, 0, 0, 0), (2886, .iconst 2, 0, 0, 0, 0), (2887, .iadd, 0, 0, 0, 0), (2888, .iaload, 0, 0, 0, 0), (2889, .aload_n 0, 0, 0, 0, 0), (2890, .iload 4, 0, 0, 0, 0), (2892, .iconst 3, 0, 0, 0, 0), (2893, .iadd, 0, 0, 0, 0), (2894, .iaload, 0, 0, 0, 0), (2895, .aload_n 0, 0, 0, 0, 0), (2896, .iload 4, 0, 0, 0, 0), (2898, .iconst 4, 0, 0, 0, 0), (2899, .iadd, 0, 0, 0, 0), (2900, .iaload, 0, 0, 0, 0), (2901, .aload_n 3, 0, 0, 0, 0), (2902, .invokestatic 279, 8035, 3848, 6, 0), (2905, .istore 5, 0, 0, 0, 0), (2907, .aload_n 2, 0, 0, 0, 0), (2908, .aload_n 0, 0, 0, 0, 0), (2909, .iload 4, 0, 0, 0, 0), (2911, .iconst 1, 0, 0, 0, 0), (2912, .iadd, 0, 0, 0, 0), (2913, .iaload, 0, 0, 0, 0), (2914, .aload_n 0, 0, 0, 0, 0), (2915, .iload 4, 0, 0, 0, 0), (2917, .iconst 2, 0, 0, 0, 0)]
noncomputable def bk_L_law_12 : List (Nat × bO) := [(2918, .iadd, 0, 0, 0, 0), (2919, .iaload, 0, 0, 0, 0), (2920, .aload_n 0, 0, 0, 0, 0), (2921, .iload 4, 0, 0, 0, 0), (2923, .iconst 3, 0, 0, 0, 0), (2924, .iadd, 0, 0, 0, 0), (2925, .iaload, 0, 0, 0, 0), (2926, .aload_n 0, 0, 0, 0, 0), (2927, .iload 4, 0, 0, 0, 0), (2929, .iconst 4, 0, 0, 0, 0), (2930, .iadd, 0, 0, 0, 0), (2931, .iaload, 0, 0, 0, 0), (2932, .invokevirtual 281, 11074, 3617, 4, 14), (2935, .istore 6, 0, 0, 0, 0), (2937, .aload_n 2, 0, 0, 0, 0), (2938, .invokevirtual 157, 8209, 3723, 0, 14), (2941, .iload 5, 0, 0, 0, 0), (2943, .if_icmp .eq 5, 0, 2948, 0, 0), (2946, .iconst 0, 0, 0, 0, 0), (2947, .ireturn, 0, 0, 0, 0), (2948, .iload 5, 0, 0, 0, 0), (2950, .ifCond .ne 22, 0, 2972, 0, 0), (2953, .aload_n 3, 0, 0, 0, 0), (2954, .iconst 0, 0, 0, 0, 0), (2955, .laload, 0, 0, 0, 0), (2956, .iload 6, 0, 0, 0, 0), (2958, .ifCond .eq 7, 0, 2965, 0, 0), (2961, .lconst 1, 0, 0, 0, 0), (2962, .goto 4, 0, 2966, 0, 0), (2965, .lconst 0, 0, 0, 0, 0), (2966, .lcmp, 0, 0, 0, 0), (2967, .ifCond .eq 5, 0, 2972, 0, 0), (2970, .iconst 0, 0, 0, 0, 0), (2971, .ireturn, 0, 0, 0, 0), (2972, .goto 241, 0, 3213, 0, 0), (2975, .aload_n 1, 0, 0, 0, 0), (2976, .aload_n 0, 0, 0, 0, 0), (2977, .iload 4, 0, 0, 0, 0), (2979, .iconst 1, 0, 0, 0, 0), (2980, .iadd, 0, 0, 0, 0), (2981, .iaload, 0, 0, 0, 0), (2982, .aload_n 0, 0, 0, 0, 0), (2983, .iload 4, 0, 0, 0, 0), (2985, .iconst 2, 0, 0, 0, 0), (2986, .iadd, 0, 0, 0, 0), (2987, .iaload, 0, 0, 0, 0), (2988, .aload_n 0, 0, 0, 0, 0), (2989, .iload 4, 0, 0, 0, 0), (2991, .iconst 3, 0, 0, 0, 0), (2992, .iadd, 0, 0, 0, 0), (2993, .iaload, 0, 0, 0, 0), (2994, .aload_n 0, 0, 0, 0, 0), (2995, .iload 4, 0, 0, 0, 0), (2997, .iconst 4, 0, 0, 0, 0), (2998, .iadd, 0, 0, 0, 0), (2999, .iaload, 0, 0, 0, 0), (3000, .aload_n 3, 0, 0, 0, 0), (3001, .invokestatic 282, 8042, 3842, 6, 0), (3004, .istore 5, 0, 0, 0, 0), (3006, .aload_n 2, 0, 0, 0, 0), (3007, .aload_n 0, 0, 0, 0, 0), (3008, .iload 4, 0, 0, 0, 0), (3010, .iconst 1, 0, 0, 0, 0), (3011, .iadd, 0, 0, 0, 0), (3012, .iaload, 0, 0, 0, 0), (3013, .aload_n 0, 0, 0, 0, 0), (3014, .iload 4, 0, 0, 0, 0), (3016, .iconst 2, 0, 0, 0, 0), (3017, .iadd, 0, 0, 0, 0), (3018, .iaload, 0, 0, 0, 0), (3019, .aload_n 0, 0, 0, 0, 0), (3020, .iload 4, 0, 0, 0, 0), (3022, .iconst 3, 0, 0, 0, 0), (3023, .iadd, 0, 0, 0, 0), (3024, .iaload, 0, 0, 0, 0), (3025, .aload_n 0, 0, 0, 0, 0), (3026, .iload 4, 0, 0, 0, 0), (3028, .iconst 4, 0, 0, 0, 0), (3029, .iadd, 0, 0, 0, 0), (3030, .iaload, 0, 0, 0, 0), (3031, .invokevirtual 284, 11078, 3591, 4, 14), (3034, .istore 6, 0, 0, 0, 0), (3036, .aload_n 2, 0, 0, 0, 0), (3037, .invokevirtual 157, 8209, 3723, 0, 14), (3040, .iload 5, 0, 0, 0, 0), (3042, .if_icmp .eq 5, 0, 3047, 0, 0), (3045, .iconst 0, 0, 0, 0, 0), (3046, .ireturn, 0, 0, 0, 0), (3047, .iload 5, 0, 0, 0, 0), (3049, .ifCond .ne 22, 0, 3071, 0, 0), (3052, .aload_n 3, 0, 0, 0, 0), (3053, .iconst 0, 0, 0, 0, 0), (3054, .laload, 0, 0, 0, 0), (3055, .iload 6, 0, 0, 0, 0), (3057, .ifCond .eq 7, 0, 3064, 0, 0), (3060, .lconst 1, 0, 0, 0, 0), (3061, .goto 4, 0, 3065, 0, 0), (3064, .lconst 0, 0, 0, 0, 0), (3065, .lcmp, 0, 0, 0, 0), (3066, .ifCond .eq 5, 0, 3071, 0, 0), (3069, .iconst 0, 0, 0, 0, 0), (3070, .ireturn, 0, 0, 0, 0), (3071, .goto 142, 0, 3213, 0, 0), (3074, .aload_n 1, 0, 0, 0, 0), (3075, .aload_n 0, 0, 0, 0, 0), (3076, .iload 4, 0, 0, 0, 0), (3078, .iconst 1, 0, 0, 0, 0), (3079, .iadd, 0, 0, 0, 0), (3080, .iaload, 0, 0, 0, 0), (3081, .aload_n 0, 0, 0, 0, 0), (3082, .iload 4, 0, 0, 0, 0), (3084, .iconst 2, 0, 0, 0, 0), (3085, .iadd, 0, 0, 0, 0), (3086, .iaload, 0, 0, 0, 0), (3087, .aload_n 0, 0, 0, 0, 0), (3088, .iload 4, 0, 0, 0, 0), (3090, .iconst 3, 0, 0, 0, 0), (3091, .iadd, 0, 0, 0, 0), (3092, .iaload, 0, 0, 0, 0), (3093, .aload_n 0, 0, 0, 0, 0), (3094, .iload 4, 0, 0, 0, 0), (3096, .iconst 4, 0, 0, 0, 0), (3097, .iadd, 0, 0, 0, 0), (3098, .iaload, 0, 0, 0, 0), (3099, .aload_n 3, 0, 0, 0, 0), (3100, .invokestatic 285, 8053, 3857, 6, 0), (3103, .istore 5, 0, 0, 0, 0), (3105, .aload_n 2, 0, 0, 0, 0), (3106, .aload_n 0, 0, 0, 0, 0), (3107, .iload 4, 0, 0, 0, 0), (3109, .iconst 1, 0, 0, 0, 0), (3110, .iadd, 0, 0, 0, 0), (3111, .iaload, 0, 0, 0, 0), (3112, .aload_n 0, 0, 0, 0, 0), (3113, .iload 4, 0, 0, 0, 0), (3115, .iconst 2, 0, 0, 0, 0), (3116, .iadd, 0, 0, 0, 0), (3117, .iaload, 0, 0, 0, 0), (3118, .aload_n 0, 0, 0, 0, 0), (3119, .iload 4, 0, 0, 0, 0), (3121, .iconst 3, 0, 0, 0, 0), (3122, .iadd, 0, 0, 0, 0), (3123, .iaload, 0, 0, 0, 0), (3124, .aload_n 0, 0, 0, 0, 0), (3125, .iload 4, 0, 0, 0, 0), (3127, .iconst 4, 0, 0, 0, 0), (3128, .iadd, 0, 0, 0, 0), (3129, .iaload, 0, 0, 0, 0), (3130, .invokevirtual 287, 11086, 3657, 4, 14), (3133, .istore 6, 0, 0, 0, 0)]
noncomputable def bk_L_law_13 : List (Nat × bO) := [(3135, .aload_n 2, 0, 0, 0, 0), (3136, .invokevirtual 157, 8209, 3723, 0, 14), (3139, .iload 5, 0, 0, 0, 0), (3141, .if_icmp .eq 5, 0, 3146, 0, 0), (3144, .iconst 0, 0, 0, 0, 0), (3145, .ireturn, 0, 0, 0, 0), (3146, .iload 5, 0, 0, 0, 0), (3148, .ifCond .ne 22, 0, 3170, 0, 0), (3151, .aload_n 3, 0, 0, 0, 0), (3152, .iconst 0, 0, 0, 0, 0), (3153, .laload, 0, 0, 0, 0), (3154, .iload 6, 0, 0, 0, 0), (3156, .ifCond .eq 7, 0, 3163, 0, 0), (3159, .lconst 1, 0, 0, 0, 0), (3160, .goto 4, 0, 3164, 0, 0), (3163, .lconst 0, 0, 0, 0, 0), (3164, .lcmp, 0, 0, 0, 0), (3165, .ifCond .eq 5, 0, 3170, 0, 0), (3168, .iconst 0, 0, 0, 0, 0), (3169, .ireturn, 0, 0, 0, 0), (3170, .goto 43, 0, 3213, 0, 0), (3173, .aload_n 1, 0, 0, 0, 0), (3174, .invokevirtual 288, 2208, 3360, 0, 13), (3177, .aload_n 2, 0, 0, 0, 0), (3178, .invokevirtual 291, 11100, 3621, 0, 14), (3181, .if_icmp .eq 32, 0, 3213, 0, 0), (3184, .iconst 0, 0, 0, 0, 0), (3185, .ireturn, 0, 0, 0, 0), (3186, .aload_n 1, 0, 0, 0, 0), (3187, .invokevirtual 292, 2220, 3347, 0, 13), (3190, .aload_n 2, 0, 0, 0, 0), (3191, .invokevirtual 296, 11104, 3597, 0, 14), (3194, .lcmp, 0, 0, 0, 0), (3195, .ifCond .eq 18, 0, 3213, 0, 0), (3198, .iconst 0, 0, 0, 0, 0), (3199, .ireturn, 0, 0, 0, 0), (3200, .aload_n 1, 0, 0, 0, 0), (3201, .invokevirtual 297, 3008, 3363, 0, 13), (3204, .aload_n 2, 0, 0, 0, 0), (3205, .invokevirtual 301, 11114, 3635, 0, 14), (3208, .if_icmp .eq 5, 0, 3213, 0, 0), (3211, .iconst 0, 0, 0, 0, 0), (3212, .ireturn, 0, 0, 0, 0), (3213, .iinc 4 6, 0, 0, 0, 0), (3216, .goto (-3193), 0, 23, 0, 0), (3219, .iconst 1, 0, 0, 0, 0), (3220, .ireturn, 0, 0, 0, 0)]
noncomputable def bk_L_law : List (Nat × bO) := bk_L_law_0 ++ (bk_L_law_1 ++ (bk_L_law_2 ++ (bk_L_law_3 ++ (bk_L_law_4 ++ (bk_L_law_5 ++ (bk_L_law_6 ++ (bk_L_law_7 ++ (bk_L_law_8 ++ (bk_L_law_9 ++ (bk_L_law_10 ++ (bk_L_law_11 ++ (bk_L_law_12 ++ (bk_L_law_13)))))))))))))
noncomputable def bk_L_least : List (Nat × bO) := [(0, .aload 5, 0, 0, 0, 0), (2, .iconst 0, 0, 0, 0, 0), (3, .aload_n 0, 0, 0, 0, 0), (4, .iload_n 1, 0, 0, 0, 0), (5, .iload_n 2, 0, 0, 0, 0), (6, .iload_n 3, 0, 0, 0, 0), (7, .iload 4, 0, 0, 0, 0), (9, .invokevirtual 135, 8019, 3369, 4, 13), (12, .ifCond .eq 7, 0, 19, 0, 0), (15, .lconst 1, 0, 0, 0, 0), (16, .goto 4, 0, 20, 0, 0), (19, .lconst 0, 0, 0, 0, 0), (20, .lastore, 0, 0, 0, 0), (21, .goto 28, 0, 49, 0, 0), (24, .astore 6, 0, 0, 0, 0), (26, .iconst 1, 0, 0, 0, 0), (27, .ireturn, 0, 0, 0, 0), (28, .astore 6, 0, 0, 0, 0), (30, .iconst 2, 0, 0, 0, 0), (31, .ireturn, 0, 0, 0, 0), (32, .astore 6, 0, 0, 0, 0), (34, .iconst 3, 0, 0, 0, 0), (35, .ireturn, 0, 0, 0, 0), (36, .astore 6, 0, 0, 0, 0), (38, .iconst 4, 0, 0, 0, 0), (39, .ireturn, 0, 0, 0, 0), (40, .astore 6, 0, 0, 0, 0), (42, .iconst 5, 0, 0, 0, 0), (43, .ireturn, 0, 0, 0, 0), (44, .astore 6, 0, 0, 0, 0), (46, .bipush 6, 0, 0, 0, 0), (48, .ireturn, 0, 0, 0, 0), (49, .iconst 0, 0, 0, 0, 0), (50, .ireturn, 0, 0, 0, 0)]
noncomputable def bk_L_low : List (Nat × bO) := [(0, .aload_n 2, 0, 0, 0, 0), (1, .iconst 0, 0, 0, 0, 0), (2, .aload_n 0, 0, 0, 0, 0), (3, .iload_n 1, 0, 0, 0, 0), (4, .invokevirtual 48, 6024, 3370, 1, 13), (7, .i2l, 0, 0, 0, 0), (8, .lastore, 0, 0, 0, 0), (9, .goto 9, 0, 18, 0, 0), (12, .astore_n 3, 0, 0, 0, 0), (13, .iconst 1, 0, 0, 0, 0), (14, .ireturn, 0, 0, 0, 0), (15, .astore_n 3, 0, 0, 0, 0), (16, .iconst 2, 0, 0, 0, 0), (17, .ireturn, 0, 0, 0, 0), (18, .iconst 0, 0, 0, 0, 0), (19, .ireturn, 0, 0, 0, 0)]
noncomputable def bk_L_meet : List (Nat × bO) := [(0, .aload 4, 0, 0, 0, 0), (2, .iconst 0, 0, 0, 0, 0), (3, .aload_n 0, 0, 0, 0, 0), (4, .iload_n 1, 0, 0, 0, 0), (5, .iload_n 2, 0, 0, 0, 0), (6, .iload_n 3, 0, 0, 0, 0), (7, .invokevirtual 45, 6012, 3374, 3, 13), (10, .ifCond .eq 7, 0, 17, 0, 0), (13, .lconst 1, 0, 0, 0, 0), (14, .goto 4, 0, 18, 0, 0), (17, .lconst 0, 0, 0, 0, 0), (18, .lastore, 0, 0, 0, 0), (19, .goto 11, 0, 30, 0, 0), (22, .astore 5, 0, 0, 0, 0), (24, .iconst 1, 0, 0, 0, 0), (25, .ireturn, 0, 0, 0, 0), (26, .astore 5, 0, 0, 0, 0), (28, .iconst 2, 0, 0, 0, 0), (29, .ireturn, 0, 0, 0, 0), (30, .iconst 0, 0, 0, 0, 0), (31, .ireturn, 0, 0, 0, 0)]
noncomputable def bk_L_move : List (Nat × bO) := [(0, .aload 5, 0, 0, 0, 0), (2, .iconst 0, 0, 0, 0, 0), (3, .aload_n 0, 0, 0, 0, 0), (4, .iload_n 1, 0, 0, 0, 0), (5, .iload_n 2, 0, 0, 0, 0), (6, .iload_n 3, 0, 0, 0, 0), (7, .iload 4, 0, 0, 0, 0), (9, .invokevirtual 144, 8056, 3375, 4, 13), (12, .ifCond .eq 7, 0, 19, 0, 0), (15, .lconst 1, 0, 0, 0, 0), (16, .goto 4, 0, 20, 0, 0), (19, .lconst 0, 0, 0, 0, 0), (20, .lastore, 0, 0, 0, 0), (21, .goto 28, 0, 49, 0, 0), (24, .astore 6, 0, 0, 0, 0), (26, .iconst 1, 0, 0, 0, 0), (27, .ireturn, 0, 0, 0, 0), (28, .astore 6, 0, 0, 0, 0), (30, .iconst 2, 0, 0, 0, 0), (31, .ireturn, 0, 0, 0, 0), (32, .astore 6, 0, 0, 0, 0), (34, .iconst 3, 0, 0, 0, 0), (35, .ireturn, 0, 0, 0, 0), (36, .astore 6, 0, 0, 0, 0), (38, .iconst 4, 0, 0, 0, 0), (39, .ireturn, 0, 0, 0, 0), (40, .astore 6, 0, 0, 0, 0), (42, .iconst 5, 0, 0, 0, 0), (43, .ireturn, 0, 0, 0, 0), (44, .astore 6, 0, 0, 0, 0), (46, .bipush 6, 0, 0, 0, 0), (48, .ireturn, 0, 0, 0, 0), (49, .iconst 0, 0, 0, 0, 0), (50, .ireturn, 0, 0, 0, 0)]
noncomputable def bk_L_multiply : List (Nat × bO) := [(0, .aload 4, 0, 0, 0, 0), (2, .iconst 0, 0, 0, 0, 0), (3, .aload_n 0, 0, 0, 0, 0), (4, .iload_n 1, 0, 0, 0, 0), (5, .iload_n 2, 0, 0, 0, 0), (6, .iload_n 3, 0, 0, 0, 0), (7, .invokevirtual 78, 6110, 3376, 3, 13), (10, .ifCond .eq 7, 0, 17, 0, 0), (13, .lconst 1, 0, 0, 0, 0), (14, .goto 4, 0, 18, 0, 0), (17, .lconst 0, 0, 0, 0, 0), (18, .lastore, 0, 0, 0, 0), (19, .goto 15, 0, 34, 0, 0), (22, .astore 5, 0, 0, 0, 0), (24, .iconst 1, 0, 0, 0, 0), (25, .ireturn, 0, 0, 0, 0), (26, .astore 5, 0, 0, 0, 0), (28, .iconst 2, 0, 0, 0, 0), (29, .ireturn, 0, 0, 0, 0), (30, .astore 5, 0, 0, 0, 0), (32, .iconst 3, 0, 0, 0, 0), (33, .ireturn, 0, 0, 0, 0), (34, .iconst 0, 0, 0, 0, 0), (35, .ireturn, 0, 0, 0, 0)]
noncomputable def bk_L_narrow : List (Nat × bO) := [(0, .aload 4, 0, 0, 0, 0), (2, .iconst 0, 0, 0, 0, 0), (3, .aload_n 0, 0, 0, 0, 0), (4, .iload_n 1, 0, 0, 0, 0), (5, .iload_n 2, 0, 0, 0, 0), (6, .iload_n 3, 0, 0, 0, 0), (7, .invokevirtual 128, 7224, 3377, 3, 13), (10, .ifCond .eq 7, 0, 17, 0, 0), (13, .lconst 1, 0, 0, 0, 0), (14, .goto 4, 0, 18, 0, 0), (17, .lconst 0, 0, 0, 0, 0), (18, .lastore, 0, 0, 0, 0), (19, .goto 23, 0, 42, 0, 0), (22, .astore 5, 0, 0, 0, 0), (24, .iconst 1, 0, 0, 0, 0), (25, .ireturn, 0, 0, 0, 0), (26, .astore 5, 0, 0, 0, 0), (28, .iconst 2, 0, 0, 0, 0), (29, .ireturn, 0, 0, 0, 0), (30, .astore 5, 0, 0, 0, 0), (32, .iconst 3, 0, 0, 0, 0), (33, .ireturn, 0, 0, 0, 0), (34, .astore 5, 0, 0, 0, 0), (36, .iconst 4, 0, 0, 0, 0), (37, .ireturn, 0, 0, 0, 0), (38, .astore 5, 0, 0, 0, 0), (40, .iconst 5, 0, 0, 0, 0), (41, .ireturn, 0, 0, 0, 0), (42, .iconst 0, 0, 0, 0, 0), (43, .ireturn, 0, 0, 0, 0)]
noncomputable def bk_L_pairs : List (Nat × bO) := [(0, .aload 6, 0, 0, 0, 0), (2, .iconst 0, 0, 0, 0, 0), (3, .aload_n 0, 0, 0, 0, 0), (4, .iload_n 1, 0, 0, 0, 0), (5, .iload_n 2, 0, 0, 0, 0), (6, .iload_n 3, 0, 0, 0, 0), (7, .iload 4, 0, 0, 0, 0), (9, .iload 5, 0, 0, 0, 0), (11, .invokevirtual 131, 7236, 3378, 5, 13), (14, .i2l, 0, 0, 0, 0), (15, .lastore, 0, 0, 0, 0), (16, .goto 15, 0, 31, 0, 0), (19, .astore 7, 0, 0, 0, 0), (21, .iconst 1, 0, 0, 0, 0), (22, .ireturn, 0, 0, 0, 0), (23, .astore 7, 0, 0, 0, 0), (25, .iconst 2, 0, 0, 0, 0), (26, .ireturn, 0, 0, 0, 0), (27, .astore 7, 0, 0, 0, 0), (29, .iconst 3, 0, 0, 0, 0), (30, .ireturn, 0, 0, 0, 0), (31, .iconst 0, 0, 0, 0, 0), (32, .ireturn, 0, 0, 0, 0)]
noncomputable def bk_L_piece : List (Nat × bO) := [(0, .aload_n 3, 0, 0, 0, 0), (1, .iconst 0, 0, 0, 0, 0), (2, .aload_n 0, 0, 0, 0, 0), (3, .iload_n 1, 0, 0, 0, 0), (4, .iload_n 2, 0, 0, 0, 0), (5, .invokevirtual 125, 7213, 3379, 2, 13), (8, .ifCond .eq 7, 0, 15, 0, 0), (11, .lconst 1, 0, 0, 0, 0), (12, .goto 4, 0, 16, 0, 0), (15, .lconst 0, 0, 0, 0, 0), (16, .lastore, 0, 0, 0, 0), (17, .goto 11, 0, 28, 0, 0), (20, .astore 4, 0, 0, 0, 0), (22, .iconst 1, 0, 0, 0, 0), (23, .ireturn, 0, 0, 0, 0), (24, .astore 4, 0, 0, 0, 0), (26, .iconst 2, 0, 0, 0, 0), (27, .ireturn, 0, 0, 0, 0), (28, .iconst 0, 0, 0, 0, 0), (29, .ireturn, 0, 0, 0, 0)]
noncomputable def bk_L_pieceKind : List (Nat × bO) := [(0, .aload_n 2, 0, 0, 0, 0), (1, .iconst 0, 0, 0, 0, 0), (2, .aload_n 0, 0, 0, 0, 0), (3, .iload_n 1, 0, 0, 0, 0), (4, .invokevirtual 122, 7193, 3380, 1, 13), (7, .i2l, 0, 0, 0, 0), (8, .lastore, 0, 0, 0, 0), (9, .goto 6, 0, 15, 0, 0), (12, .astore_n 3, 0, 0, 0, 0), (13, .iconst 1, 0, 0, 0, 0), (14, .ireturn, 0, 0, 0, 0), (15, .iconst 0, 0, 0, 0, 0), (16, .ireturn, 0, 0, 0, 0)]
noncomputable def bk_L_power : List (Nat × bO) := [(0, .aload 4, 0, 0, 0, 0), (2, .iconst 0, 0, 0, 0, 0), (3, .aload_n 0, 0, 0, 0, 0), (4, .iload_n 1, 0, 0, 0, 0), (5, .iload_n 2, 0, 0, 0, 0), (6, .iload_n 3, 0, 0, 0, 0), (7, .invokevirtual 86, 6125, 3381, 3, 13), (10, .ifCond .eq 7, 0, 17, 0, 0), (13, .lconst 1, 0, 0, 0, 0), (14, .goto 4, 0, 18, 0, 0), (17, .lconst 0, 0, 0, 0, 0), (18, .lastore, 0, 0, 0, 0), (19, .goto 19, 0, 38, 0, 0), (22, .astore 5, 0, 0, 0, 0), (24, .iconst 1, 0, 0, 0, 0), (25, .ireturn, 0, 0, 0, 0), (26, .astore 5, 0, 0, 0, 0), (28, .iconst 2, 0, 0, 0, 0), (29, .ireturn, 0, 0, 0, 0), (30, .astore 5, 0, 0, 0, 0), (32, .iconst 3, 0, 0, 0, 0), (33, .ireturn, 0, 0, 0, 0), (34, .astore 5, 0, 0, 0, 0), (36, .iconst 4, 0, 0, 0, 0), (37, .ireturn, 0, 0, 0, 0), (38, .iconst 0, 0, 0, 0, 0), (39, .ireturn, 0, 0, 0, 0)]
noncomputable def bk_L_put : List (Nat × bO) := [(0, .aload 5, 0, 0, 0, 0), (2, .iconst 0, 0, 0, 0, 0), (3, .aload_n 0, 0, 0, 0, 0), (4, .iload_n 1, 0, 0, 0, 0), (5, .lload_n 2, 0, 0, 0, 0), (6, .iload 4, 0, 0, 0, 0), (8, .invokevirtual 25, 5112, 3382, 3, 13), (11, .ifCond .eq 7, 0, 18, 0, 0), (14, .lconst 1, 0, 0, 0, 0), (15, .goto 4, 0, 19, 0, 0), (18, .lconst 0, 0, 0, 0, 0), (19, .lastore, 0, 0, 0, 0), (20, .goto 15, 0, 35, 0, 0), (23, .astore 6, 0, 0, 0, 0), (25, .iconst 1, 0, 0, 0, 0), (26, .ireturn, 0, 0, 0, 0), (27, .astore 6, 0, 0, 0, 0), (29, .iconst 2, 0, 0, 0, 0), (30, .ireturn, 0, 0, 0, 0), (31, .astore 6, 0, 0, 0, 0), (33, .iconst 3, 0, 0, 0, 0), (34, .ireturn, 0, 0, 0, 0), (35, .iconst 0, 0, 0, 0, 0), (36, .ireturn, 0, 0, 0, 0)]
noncomputable def bk_L_read : List (Nat × bO) := [(0, .aload_n 2, 0, 0, 0, 0), (1, .iconst 0, 0, 0, 0, 0), (2, .aload_n 0, 0, 0, 0, 0), (3, .iload_n 1, 0, 0, 0, 0), (4, .invokevirtual 31, 5172, 3383, 1, 13), (7, .ifCond .eq 7, 0, 14, 0, 0), (10, .lconst 1, 0, 0, 0, 0), (11, .goto 4, 0, 15, 0, 0), (14, .lconst 0, 0, 0, 0, 0), (15, .lastore, 0, 0, 0, 0), (16, .goto 12, 0, 28, 0, 0), (19, .astore_n 3, 0, 0, 0, 0), (20, .iconst 1, 0, 0, 0, 0), (21, .ireturn, 0, 0, 0, 0), (22, .astore_n 3, 0, 0, 0, 0), (23, .iconst 2, 0, 0, 0, 0), (24, .ireturn, 0, 0, 0, 0), (25, .astore_n 3, 0, 0, 0, 0), (26, .iconst 3, 0, 0, 0, 0), (27, .ireturn, 0, 0, 0, 0), (28, .iconst 0, 0, 0, 0, 0), (29, .ireturn, 0, 0, 0, 0)]
noncomputable def bk_L_root : List (Nat × bO) := [(0, .aload 4, 0, 0, 0, 0), (2, .iconst 0, 0, 0, 0, 0), (3, .aload_n 0, 0, 0, 0, 0), (4, .iload_n 1, 0, 0, 0, 0), (5, .iload_n 2, 0, 0, 0, 0), (6, .iload_n 3, 0, 0, 0, 0), (7, .invokevirtual 89, 6137, 3384, 3, 13), (10, .ifCond .eq 7, 0, 17, 0, 0), (13, .lconst 1, 0, 0, 0, 0), (14, .goto 4, 0, 18, 0, 0), (17, .lconst 0, 0, 0, 0, 0), (18, .lastore, 0, 0, 0, 0), (19, .goto 19, 0, 38, 0, 0), (22, .astore 5, 0, 0, 0, 0), (24, .iconst 1, 0, 0, 0, 0), (25, .ireturn, 0, 0, 0, 0), (26, .astore 5, 0, 0, 0, 0), (28, .iconst 2, 0, 0, 0, 0), (29, .ireturn, 0, 0, 0, 0), (30, .astore 5, 0, 0, 0, 0), (32, .iconst 3, 0, 0, 0, 0), (33, .ireturn, 0, 0, 0, 0), (34, .astore 5, 0, 0, 0, 0), (36, .iconst 4, 0, 0, 0, 0), (37, .ireturn, 0, 0, 0, 0), (38, .iconst 0, 0, 0, 0, 0), (39, .ireturn, 0, 0, 0, 0)]
noncomputable def bk_L_setDigits : List (Nat × bO) := [(0, .aload_n 2, 0, 0, 0, 0), (1, .iconst 0, 0, 0, 0, 0), (2, .aload_n 0, 0, 0, 0, 0), (3, .iload_n 1, 0, 0, 0, 0), (4, .invokevirtual 7, 4211, 3386, 1, 13), (7, .i2l, 0, 0, 0, 0), (8, .lastore, 0, 0, 0, 0), (9, .goto 6, 0, 15, 0, 0), (12, .astore_n 3, 0, 0, 0, 0), (13, .iconst 1, 0, 0, 0, 0), (14, .ireturn, 0, 0, 0, 0), (15, .iconst 0, 0, 0, 0, 0), (16, .ireturn, 0, 0, 0, 0)]
noncomputable def bk_L_signAt : List (Nat × bO) := [(0, .aload_n 2, 0, 0, 0, 0), (1, .iconst 0, 0, 0, 0, 0), (2, .aload_n 0, 0, 0, 0, 0), (3, .iload_n 1, 0, 0, 0, 0), (4, .invokevirtual 21, 5076, 3388, 1, 13), (7, .i2l, 0, 0, 0, 0), (8, .lastore, 0, 0, 0, 0), (9, .goto 6, 0, 15, 0, 0), (12, .astore_n 3, 0, 0, 0, 0), (13, .iconst 1, 0, 0, 0, 0), (14, .ireturn, 0, 0, 0, 0), (15, .iconst 0, 0, 0, 0, 0), (16, .ireturn, 0, 0, 0, 0)]
noncomputable def bk_L_slope : List (Nat × bO) := [(0, .aload 5, 0, 0, 0, 0), (2, .iconst 0, 0, 0, 0, 0), (3, .aload_n 0, 0, 0, 0, 0), (4, .iload_n 1, 0, 0, 0, 0), (5, .iload_n 2, 0, 0, 0, 0), (6, .iload_n 3, 0, 0, 0, 0), (7, .iload 4, 0, 0, 0, 0), (9, .invokevirtual 110, 7027, 3389, 4, 13), (12, .ifCond .eq 7, 0, 19, 0, 0), (15, .lconst 1, 0, 0, 0, 0), (16, .goto 4, 0, 20, 0, 0), (19, .lconst 0, 0, 0, 0, 0), (20, .lastore, 0, 0, 0, 0), (21, .goto 19, 0, 40, 0, 0), (24, .astore 6, 0, 0, 0, 0), (26, .iconst 1, 0, 0, 0, 0), (27, .ireturn, 0, 0, 0, 0), (28, .astore 6, 0, 0, 0, 0), (30, .iconst 2, 0, 0, 0, 0), (31, .ireturn, 0, 0, 0, 0), (32, .astore 6, 0, 0, 0, 0), (34, .iconst 3, 0, 0, 0, 0), (35, .ireturn, 0, 0, 0, 0), (36, .astore 6, 0, 0, 0, 0), (38, .iconst 4, 0, 0, 0, 0), (39, .ireturn, 0, 0, 0, 0), (40, .iconst 0, 0, 0, 0, 0), (41, .ireturn, 0, 0, 0, 0)]
noncomputable def bk_L_solve : List (Nat × bO) := [(0, .aload 4, 0, 0, 0, 0), (2, .iconst 0, 0, 0, 0, 0), (3, .aload_n 0, 0, 0, 0, 0), (4, .iload_n 1, 0, 0, 0, 0), (5, .iload_n 2, 0, 0, 0, 0), (6, .iload_n 3, 0, 0, 0, 0), (7, .invokevirtual 96, 6153, 3390, 3, 13), (10, .ifCond .eq 7, 0, 17, 0, 0), (13, .lconst 1, 0, 0, 0, 0), (14, .goto 4, 0, 18, 0, 0), (17, .lconst 0, 0, 0, 0, 0), (18, .lastore, 0, 0, 0, 0), (19, .goto 19, 0, 38, 0, 0), (22, .astore 5, 0, 0, 0, 0), (24, .iconst 1, 0, 0, 0, 0), (25, .ireturn, 0, 0, 0, 0), (26, .astore 5, 0, 0, 0, 0), (28, .iconst 2, 0, 0, 0, 0), (29, .ireturn, 0, 0, 0, 0), (30, .astore 5, 0, 0, 0, 0), (32, .iconst 3, 0, 0, 0, 0), (33, .ireturn, 0, 0, 0, 0), (34, .astore 5, 0, 0, 0, 0), (36, .iconst 4, 0, 0, 0, 0), (37, .ireturn, 0, 0, 0, 0), (38, .iconst 0, 0, 0, 0, 0), (39, .ireturn, 0, 0, 0, 0)]
noncomputable def bk_L_subtract : List (Nat × bO) := [(0, .aload 4, 0, 0, 0, 0), (2, .iconst 0, 0, 0, 0, 0), (3, .aload_n 0, 0, 0, 0, 0), (4, .iload_n 1, 0, 0, 0, 0), (5, .iload_n 2, 0, 0, 0, 0), (6, .iload_n 3, 0, 0, 0, 0), (7, .invokevirtual 75, 6103, 3391, 3, 13), (10, .ifCond .eq 7, 0, 17, 0, 0), (13, .lconst 1, 0, 0, 0, 0), (14, .goto 4, 0, 18, 0, 0), (17, .lconst 0, 0, 0, 0, 0), (18, .lastore, 0, 0, 0, 0), (19, .goto 15, 0, 34, 0, 0), (22, .astore 5, 0, 0, 0, 0), (24, .iconst 1, 0, 0, 0, 0), (25, .ireturn, 0, 0, 0, 0), (26, .astore 5, 0, 0, 0, 0), (28, .iconst 2, 0, 0, 0, 0), (29, .ireturn, 0, 0, 0, 0), (30, .astore 5, 0, 0, 0, 0), (32, .iconst 3, 0, 0, 0, 0), (33, .ireturn, 0, 0, 0, 0), (34, .iconst 0, 0, 0, 0, 0), (35, .ireturn, 0, 0, 0, 0)]
noncomputable def bk_L_sure : List (Nat × bO) := [(0, .aload_n 2, 0, 0, 0, 0), (1, .iconst 0, 0, 0, 0, 0), (2, .aload_n 0, 0, 0, 0, 0), (3, .iload_n 1, 0, 0, 0, 0), (4, .invokevirtual 65, 6065, 3393, 1, 13), (7, .i2l, 0, 0, 0, 0), (8, .lastore, 0, 0, 0, 0), (9, .goto 9, 0, 18, 0, 0), (12, .astore_n 3, 0, 0, 0, 0), (13, .iconst 1, 0, 0, 0, 0), (14, .ireturn, 0, 0, 0, 0), (15, .astore_n 3, 0, 0, 0, 0), (16, .iconst 2, 0, 0, 0, 0), (17, .ireturn, 0, 0, 0, 0), (18, .iconst 0, 0, 0, 0, 0), (19, .ireturn, 0, 0, 0, 0)]
noncomputable def bk_L_type : List (Nat × bO) := [(0, .aload_n 2, 0, 0, 0, 0), (1, .iconst 0, 0, 0, 0, 0), (2, .aload_n 0, 0, 0, 0, 0), (3, .iload_n 1, 0, 0, 0, 0), (4, .invokevirtual 15, 5051, 3395, 1, 13), (7, .i2l, 0, 0, 0, 0), (8, .lastore, 0, 0, 0, 0), (9, .goto 9, 0, 18, 0, 0), (12, .astore_n 3, 0, 0, 0, 0), (13, .iconst 1, 0, 0, 0, 0), (14, .ireturn, 0, 0, 0, 0), (15, .astore_n 3, 0, 0, 0, 0), (16, .iconst 2, 0, 0, 0, 0), (17, .ireturn, 0, 0, 0, 0), (18, .iconst 0, 0, 0, 0, 0), (19, .ireturn, 0, 0, 0, 0)]
noncomputable def bk_L_undo : List (Nat × bO) := [(0, .aload_n 1, 0, 0, 0, 0), (1, .iconst 0, 0, 0, 0, 0), (2, .aload_n 0, 0, 0, 0, 0), (3, .invokevirtual 68, 6076, 3396, 0, 13), (6, .i2l, 0, 0, 0, 0), (7, .lastore, 0, 0, 0, 0), (8, .goto 6, 0, 14, 0, 0), (11, .astore_n 2, 0, 0, 0, 0), (12, .iconst 1, 0, 0, 0, 0), (13, .ireturn, 0, 0, 0, 0), (14, .iconst 0, 0, 0, 0, 0), (15, .ireturn, 0, 0, 0, 0)]
noncomputable def bk_L_value : List (Nat × bO) := [(0, .aload 5, 0, 0, 0, 0), (2, .iconst 0, 0, 0, 0, 0), (3, .aload_n 0, 0, 0, 0, 0), (4, .iload_n 1, 0, 0, 0, 0), (5, .iload_n 2, 0, 0, 0, 0), (6, .iload_n 3, 0, 0, 0, 0), (7, .iload 4, 0, 0, 0, 0), (9, .invokevirtual 106, 7016, 3398, 4, 13), (12, .ifCond .eq 7, 0, 19, 0, 0), (15, .lconst 1, 0, 0, 0, 0), (16, .goto 4, 0, 20, 0, 0), (19, .lconst 0, 0, 0, 0, 0), (20, .lastore, 0, 0, 0, 0), (21, .goto 19, 0, 40, 0, 0), (24, .astore 6, 0, 0, 0, 0), (26, .iconst 1, 0, 0, 0, 0), (27, .ireturn, 0, 0, 0, 0), (28, .astore 6, 0, 0, 0, 0), (30, .iconst 2, 0, 0, 0, 0), (31, .ireturn, 0, 0, 0, 0), (32, .astore 6, 0, 0, 0, 0), (34, .iconst 3, 0, 0, 0, 0), (35, .ireturn, 0, 0, 0, 0), (36, .astore 6, 0, 0, 0, 0), (38, .iconst 4, 0, 0, 0, 0), (39, .ireturn, 0, 0, 0, 0), (40, .iconst 0, 0, 0, 0, 0), (41, .ireturn, 0, 0, 0, 0)]
noncomputable def bk_L_width : List (Nat × bO) := [(0, .aload_n 2, 0, 0, 0, 0), (1, .iconst 0, 0, 0, 0, 0), (2, .aload_n 0, 0, 0, 0, 0), (3, .iload_n 1, 0, 0, 0, 0), (4, .invokevirtual 54, 6038, 3399, 1, 13), (7, .i2l, 0, 0, 0, 0), (8, .lastore, 0, 0, 0, 0), (9, .goto 9, 0, 18, 0, 0), (12, .astore_n 3, 0, 0, 0, 0), (13, .iconst 1, 0, 0, 0, 0), (14, .ireturn, 0, 0, 0, 0), (15, .astore_n 3, 0, 0, 0, 0), (16, .iconst 2, 0, 0, 0, 0), (17, .ireturn, 0, 0, 0, 0), (18, .iconst 0, 0, 0, 0, 0), (19, .ireturn, 0, 0, 0, 0)]
noncomputable def bk_L_zeros : List (Nat × bO) := [(0, .aload 4, 0, 0, 0, 0), (2, .iconst 0, 0, 0, 0, 0), (3, .aload_n 0, 0, 0, 0, 0), (4, .iload_n 1, 0, 0, 0, 0), (5, .iload_n 2, 0, 0, 0, 0), (6, .iload_n 3, 0, 0, 0, 0), (7, .invokevirtual 117, 7137, 3400, 3, 13), (10, .i2l, 0, 0, 0, 0), (11, .lastore, 0, 0, 0, 0), (12, .goto 19, 0, 31, 0, 0), (15, .astore 5, 0, 0, 0, 0), (17, .iconst 1, 0, 0, 0, 0), (18, .ireturn, 0, 0, 0, 0), (19, .astore 5, 0, 0, 0, 0), (21, .iconst 2, 0, 0, 0, 0), (22, .ireturn, 0, 0, 0, 0), (23, .astore 5, 0, 0, 0, 0), (25, .iconst 3, 0, 0, 0, 0), (26, .ireturn, 0, 0, 0, 0), (27, .astore 5, 0, 0, 0, 0), (29, .iconst 4, 0, 0, 0, 0), (30, .ireturn, 0, 0, 0, 0), (31, .iconst 0, 0, 0, 0, 0), (32, .ireturn, 0, 0, 0, 0)]
noncomputable def bkc_15 : List (List (Nat × bO)) := [bk_L_add, bk_L_apply, bk_L_area, bk_L_compare, bk_L_constant, bk_L_decide, bk_L_define, bk_L_divide, bk_L_greatest, bk_L_hasY, bk_L_high, bk_L_isWithin, bk_L_join, bk_L_law, bk_L_least, bk_L_low, bk_L_meet, bk_L_move, bk_L_multiply, bk_L_narrow, bk_L_pairs, bk_L_piece, bk_L_pieceKind, bk_L_power, bk_L_put, bk_L_read, bk_L_root, bk_L_setDigits, bk_L_signAt, bk_L_slope, bk_L_solve, bk_L_subtract, bk_L_sure, bk_L_type, bk_L_undo, bk_L_value, bk_L_width, bk_L_zeros]
noncomputable def bmc_15 : List bM := [(yL_add, cL_add, 6, (some .int), [((0, 19, 22, 29), "java/lang/IndexOutOfBoundsException"), ((0, 19, 26, 43), "java/util/NoSuchElementException"), ((0, 19, 30, 19), "java/lang/IllegalStateException")]), (yL_apply, cL_apply, 6, (some .int), [((0, 19, 22, 29), "java/lang/IndexOutOfBoundsException"), ((0, 19, 26, 13), "java/lang/IllegalArgumentException"), ((0, 19, 30, 43), "java/util/NoSuchElementException"), ((0, 19, 34, 84), "java/lang/ArithmeticException"), ((0, 19, 38, 19), "java/lang/IllegalStateException")]), (yL_area, cL_area, 7, (some .int), [((0, 21, 24, 29), "java/lang/IndexOutOfBoundsException"), ((0, 21, 28, 13), "java/lang/IllegalArgumentException"), ((0, 21, 32, 43), "java/util/NoSuchElementException"), ((0, 21, 36, 120), "java/lang/UnsupportedOperationException"), ((0, 21, 40, 84), "java/lang/ArithmeticException"), ((0, 21, 44, 19), "java/lang/IllegalStateException")]), (yL_compare, cL_compare, 5, (some .int), [((0, 10, 13, 29), "java/lang/IndexOutOfBoundsException"), ((0, 10, 17, 43), "java/util/NoSuchElementException")]), (yL_constant, cL_constant, 5, (some .int), [((0, 17, 20, 29), "java/lang/IndexOutOfBoundsException"), ((0, 17, 24, 13), "java/lang/IllegalArgumentException")]), (yL_decide, cL_decide, 6, (some .int), [((0, 12, 15, 29), "java/lang/IndexOutOfBoundsException"), ((0, 12, 19, 43), "java/util/NoSuchElementException")]), (yL_define, cL_define, 4, (some .int), [((0, 9, 12, 29), "java/lang/IndexOutOfBoundsException")]), (yL_divide, cL_divide, 6, (some .int), [((0, 19, 22, 29), "java/lang/IndexOutOfBoundsException"), ((0, 19, 26, 43), "java/util/NoSuchElementException"), ((0, 19, 30, 84), "java/lang/ArithmeticException"), ((0, 19, 34, 19), "java/lang/IllegalStateException")]), (yL_greatest, cL_greatest, 7, (some .int), [((0, 21, 24, 29), "java/lang/IndexOutOfBoundsException"), ((0, 21, 28, 13), "java/lang/IllegalArgumentException"), ((0, 21, 32, 43), "java/util/NoSuchElementException"), ((0, 21, 36, 120), "java/lang/UnsupportedOperationException"), ((0, 21, 40, 84), "java/lang/ArithmeticException"), ((0, 21, 44, 19), "java/lang/IllegalStateException")]), (yL_hasY, cL_hasY, 4, (some .int), [((0, 16, 19, 29), "java/lang/IndexOutOfBoundsException"), ((0, 16, 22, 43), "java/util/NoSuchElementException")]), (yL_high, cL_high, 4, (some .int), [((0, 9, 12, 29), "java/lang/IndexOutOfBoundsException"), ((0, 9, 15, 43), "java/util/NoSuchElementException")]), (yL_isWithin, cL_isWithin, 5, (some .int), [((0, 17, 20, 29), "java/lang/IndexOutOfBoundsException"), ((0, 17, 24, 43), "java/util/NoSuchElementException")]), (yL_join, cL_join, 6, (some .int), [((0, 19, 22, 29), "java/lang/IndexOutOfBoundsException"), ((0, 19, 26, 43), "java/util/NoSuchElementException")]), (yL_law, cL_law, 7, (some .boolean), []), (yL_least, cL_least, 7, (some .int), [((0, 21, 24, 29), "java/lang/IndexOutOfBoundsException"), ((0, 21, 28, 13), "java/lang/IllegalArgumentException"), ((0, 21, 32, 43), "java/util/NoSuchElementException"), ((0, 21, 36, 120), "java/lang/UnsupportedOperationException"), ((0, 21, 40, 84), "java/lang/ArithmeticException"), ((0, 21, 44, 19), "java/lang/IllegalStateException")]), (yL_low, cL_low, 4, (some .int), [((0, 9, 12, 29), "java/lang/IndexOutOfBoundsException"), ((0, 9, 15, 43), "java/util/NoSuchElementException")]), (yL_meet, cL_meet, 6, (some .int), [((0, 19, 22, 29), "java/lang/IndexOutOfBoundsException"), ((0, 19, 26, 43), "java/util/NoSuchElementException")]), (yL_move, cL_move, 7, (some .int), [((0, 21, 24, 29), "java/lang/IndexOutOfBoundsException"), ((0, 21, 28, 13), "java/lang/IllegalArgumentException"), ((0, 21, 32, 43), "java/util/NoSuchElementException"), ((0, 21, 36, 120), "java/lang/UnsupportedOperationException"), ((0, 21, 40, 84), "java/lang/ArithmeticException"), ((0, 21, 44, 19), "java/lang/IllegalStateException")]), (yL_multiply, cL_multiply, 6, (some .int), [((0, 19, 22, 29), "java/lang/IndexOutOfBoundsException"), ((0, 19, 26, 43), "java/util/NoSuchElementException"), ((0, 19, 30, 19), "java/lang/IllegalStateException")]), (yL_narrow, cL_narrow, 6, (some .int), [((0, 19, 22, 29), "java/lang/IndexOutOfBoundsException"), ((0, 19, 26, 43), "java/util/NoSuchElementException"), ((0, 19, 30, 120), "java/lang/UnsupportedOperationException"), ((0, 19, 34, 84), "java/lang/ArithmeticException"), ((0, 19, 38, 19), "java/lang/IllegalStateException")]), (yL_pairs, cL_pairs, 8, (some .int), [((0, 16, 19, 29), "java/lang/IndexOutOfBoundsException"), ((0, 16, 23, 13), "java/lang/IllegalArgumentException"), ((0, 16, 27, 43), "java/util/NoSuchElementException")]), (yL_piece, cL_piece, 5, (some .int), [((0, 17, 20, 29), "java/lang/IndexOutOfBoundsException"), ((0, 17, 24, 43), "java/util/NoSuchElementException")]), (yL_pieceKind, cL_pieceKind, 4, (some .int), [((0, 9, 12, 43), "java/util/NoSuchElementException")]), (yL_power, cL_power, 6, (some .int), [((0, 19, 22, 29), "java/lang/IndexOutOfBoundsException"), ((0, 19, 26, 13), "java/lang/IllegalArgumentException"), ((0, 19, 30, 43), "java/util/NoSuchElementException"), ((0, 19, 34, 19), "java/lang/IllegalStateException")]), (yL_put, cL_put, 7, (some .int), [((0, 20, 23, 29), "java/lang/IndexOutOfBoundsException"), ((0, 20, 27, 13), "java/lang/IllegalArgumentException"), ((0, 20, 31, 19), "java/lang/IllegalStateException")]), (yL_read, cL_read, 4, (some .int), [((0, 16, 19, 29), "java/lang/IndexOutOfBoundsException"), ((0, 16, 22, 13), "java/lang/IllegalArgumentException"), ((0, 16, 25, 19), "java/lang/IllegalStateException")]), (yL_root, cL_root, 6, (some .int), [((0, 19, 22, 29), "java/lang/IndexOutOfBoundsException"), ((0, 19, 26, 13), "java/lang/IllegalArgumentException"), ((0, 19, 30, 43), "java/util/NoSuchElementException"), ((0, 19, 34, 84), "java/lang/ArithmeticException")]), (yL_setDigits, cL_setDigits, 4, (some .int), [((0, 9, 12, 13), "java/lang/IllegalArgumentException")]), (yL_signAt, cL_signAt, 4, (some .int), [((0, 9, 12, 13), "java/lang/IllegalArgumentException")]), (yL_slope, cL_slope, 7, (some .int), [((0, 21, 24, 29), "java/lang/IndexOutOfBoundsException"), ((0, 21, 28, 43), "java/util/NoSuchElementException"), ((0, 21, 32, 84), "java/lang/ArithmeticException"), ((0, 21, 36, 19), "java/lang/IllegalStateException")]), (yL_solve, cL_solve, 6, (some .int), [((0, 19, 22, 29), "java/lang/IndexOutOfBoundsException"), ((0, 19, 26, 43), "java/util/NoSuchElementException"), ((0, 19, 30, 84), "java/lang/ArithmeticException"), ((0, 19, 34, 19), "java/lang/IllegalStateException")]), (yL_subtract, cL_subtract, 6, (some .int), [((0, 19, 22, 29), "java/lang/IndexOutOfBoundsException"), ((0, 19, 26, 43), "java/util/NoSuchElementException"), ((0, 19, 30, 19), "java/lang/IllegalStateException")]), (yL_sure, cL_sure, 4, (some .int), [((0, 9, 12, 29), "java/lang/IndexOutOfBoundsException"), ((0, 9, 15, 43), "java/util/NoSuchElementException")]), (yL_type, cL_type, 4, (some .int), [((0, 9, 12, 13), "java/lang/IllegalArgumentException"), ((0, 9, 15, 19), "java/lang/IllegalStateException")]), (yL_undo, cL_undo, 3, (some .int), [((0, 8, 11, 43), "java/util/NoSuchElementException")]), (yL_value, cL_value, 7, (some .int), [((0, 21, 24, 29), "java/lang/IndexOutOfBoundsException"), ((0, 21, 28, 43), "java/util/NoSuchElementException"), ((0, 21, 32, 84), "java/lang/ArithmeticException"), ((0, 21, 36, 19), "java/lang/IllegalStateException")]), (yL_width, cL_width, 4, (some .int), [((0, 9, 12, 29), "java/lang/IndexOutOfBoundsException"), ((0, 9, 15, 43), "java/util/NoSuchElementException")]), (yL_zeros, cL_zeros, 6, (some .int), [((0, 12, 15, 29), "java/lang/IndexOutOfBoundsException"), ((0, 12, 19, 13), "java/lang/IllegalArgumentException"), ((0, 12, 23, 43), "java/util/NoSuchElementException"), ((0, 12, 27, 120), "java/lang/UnsupportedOperationException")])]
noncomputable def bjc_15 : List (Nat × Nat × Nat × Nat × Nat) := [(6087, 6086, 0, 1000, 5), (6144, 6143, 0, 1000, 5), (8044, 8043, 0, 1000, 6), (6056, 6055, 0, 1000, 4), (5207, 5206, 0, 1000, 4), (7124, 7123, 0, 1000, 5), (6164, 6163, 0, 1000, 3), (6116, 6115, 0, 1000, 5), (8037, 8036, 0, 1000, 6), (7003, 7002, 0, 1000, 3), (6030, 6029, 0, 1000, 3), (6045, 6044, 0, 1000, 4), (5215, 5214, 0, 1000, 5), (0, 0, 0, 1000, 1), (8018, 8017, 0, 1000, 6), (6023, 6022, 0, 1000, 3), (6011, 6010, 0, 1000, 5), (8055, 8054, 0, 1000, 6), (6109, 6108, 0, 1000, 5), (7223, 7222, 0, 1000, 5), (7235, 7234, 0, 1000, 7), (7212, 7211, 0, 1000, 4), (7192, 7191, 0, 1000, 3), (6124, 6123, 0, 1000, 5), (5087, 5086, 0, 1000, 5), (5171, 5170, 0, 1000, 3), (6136, 6135, 0, 1000, 5), (4209, 4208, 0, 1000, 3), (5075, 5074, 0, 1000, 3), (7026, 7025, 0, 1000, 6), (6152, 6151, 0, 1000, 5), (6102, 6101, 0, 1000, 5), (6064, 6063, 0, 1000, 3), (5049, 5048, 0, 1000, 3), (6075, 6074, 0, 1000, 2), (7015, 7014, 0, 1000, 6), (6037, 6036, 0, 1000, 3), (7135, 7134, 0, 1000, 5)]
noncomputable def bk_J13_compare_74951 : List (Nat × bO) := [(0, .lload_n 0, 0, 0, 0, 0), (1, .lload_n 2, 0, 0, 0, 0), (2, .lcmp, 0, 0, 0, 0), (3, .ifCond .ge 7, 0, 10, 0, 0), (6, .iconst (-1), 0, 0, 0, 0), (7, .goto 14, 0, 21, 0, 0), (10, .lload_n 0, 0, 0, 0, 0), (11, .lload_n 2, 0, 0, 0, 0), (12, .lcmp, 0, 0, 0, 0), (13, .ifCond .ne 7, 0, 20, 0, 0), (16, .iconst 0, 0, 0, 0, 0), (17, .goto 4, 0, 21, 0, 0), (20, .iconst 1, 0, 0, 0, 0), (21, .ireturn, 0, 0, 0, 0)]
noncomputable def bkc_16 : List (List (Nat × bO)) := [bk_J13_compare_74951]
noncomputable def bmc_16 : List bM := [(yJ13_compare_74951, cJ13_compare_74951, 4, (some .int), [])]
noncomputable def bjc_16 : List (Nat × Nat × Nat × Nat × Nat) := [(3138, 3137, 0, 1023, 2)]
noncomputable def bk_J9_abs_0f7a4 : List (Nat × bO) := []
noncomputable def bk_J9_floorDiv_f86c9 : List (Nat × bO) := [(0, .lload_n 0, 0, 0, 0, 0), (1, .lload_n 2, 0, 0, 0, 0), (2, .ldiv, 0, 0, 0, 0), (3, .lstore 4, 0, 0, 0, 0), (5, .lload_n 0, 0, 0, 0, 0), (6, .lload_n 2, 0, 0, 0, 0), (7, .lxor, 0, 0, 0, 0), (8, .lconst 0, 0, 0, 0, 0), (9, .lcmp, 0, 0, 0, 0), (10, .ifCond .ge 17, 0, 27, 0, 0), (13, .lload 4, 0, 0, 0, 0), (15, .lload_n 2, 0, 0, 0, 0), (16, .lmul, 0, 0, 0, 0), (17, .lload_n 0, 0, 0, 0, 0), (18, .lcmp, 0, 0, 0, 0), (19, .ifCond .eq 8, 0, 27, 0, 0), (22, .lload 4, 0, 0, 0, 0), (24, .lconst 1, 0, 0, 0, 0), (25, .lsub, 0, 0, 0, 0), (26, .lreturn, 0, 0, 0, 0), (27, .lload 4, 0, 0, 0, 0), (29, .lreturn, 0, 0, 0, 0)]
noncomputable def bk_J9_floorMod_f86c9 : List (Nat × bO) := [(0, .lload_n 0, 0, 0, 0, 0), (1, .lload_n 2, 0, 0, 0, 0), (2, .lrem, 0, 0, 0, 0), (3, .lstore 4, 0, 0, 0, 0), (5, .lload_n 0, 0, 0, 0, 0), (6, .lload_n 2, 0, 0, 0, 0), (7, .lxor, 0, 0, 0, 0), (8, .lconst 0, 0, 0, 0, 0), (9, .lcmp, 0, 0, 0, 0), (10, .ifCond .ge 15, 0, 25, 0, 0), (13, .lload 4, 0, 0, 0, 0), (15, .lconst 0, 0, 0, 0, 0), (16, .lcmp, 0, 0, 0, 0), (17, .ifCond .eq 8, 0, 25, 0, 0), (20, .lload 4, 0, 0, 0, 0), (22, .lload_n 2, 0, 0, 0, 0), (23, .ladd, 0, 0, 0, 0), (24, .lreturn, 0, 0, 0, 0), (25, .lload 4, 0, 0, 0, 0), (27, .lreturn, 0, 0, 0, 0)]
noncomputable def bkc_17 : List (List (Nat × bO)) := [bk_J9_abs_0f7a4, bk_J9_floorDiv_f86c9, bk_J9_floorMod_f86c9]
noncomputable def bmc_17 : List bM := [(yJ9_abs_0f7a4, cJ9_abs_0f7a4, 1, (some .int), []), (yJ9_floorDiv_f86c9, cJ9_floorDiv_f86c9, 6, (some .long), []), (yJ9_floorMod_f86c9, cJ9_floorMod_f86c9, 6, (some .long), [])]
noncomputable def bjc_17 : List (Nat × Nat × Nat × Nat × Nat) := [(4122, 4121, 0, 1022, 1), (3042, 3041, 0, 1022, 2), (3045, 3044, 0, 1022, 2)]
noncomputable def bkcs (c : Nat) : List (List (Nat × bO)) := match c with
  | 2 => bkc_2
  | 3 => bkc_3
  | 4 => bkc_4
  | 5 => bkc_5
  | 6 => bkc_6
  | 7 => bkc_7
  | 8 => bkc_8
  | 9 => bkc_9
  | 10 => bkc_10
  | 11 => bkc_11
  | 12 => bkc_12
  | 13 => bkc_13
  | 14 => bkc_14
  | 15 => bkc_15
  | 16 => bkc_16
  | 17 => bkc_17
  | _ => []
noncomputable def bmcs (c : Nat) : List bM := match c with
  | 2 => bmc_2
  | 3 => bmc_3
  | 4 => bmc_4
  | 5 => bmc_5
  | 6 => bmc_6
  | 7 => bmc_7
  | 8 => bmc_8
  | 9 => bmc_9
  | 10 => bmc_10
  | 11 => bmc_11
  | 12 => bmc_12
  | 13 => bmc_13
  | 14 => bmc_14
  | 15 => bmc_15
  | 16 => bmc_16
  | 17 => bmc_17
  | _ => []
noncomputable def bjcs (c : Nat) : List (Nat × Nat × Nat × Nat × Nat) := match c with
  | 2 => bjc_2
  | 3 => bjc_3
  | 4 => bjc_4
  | 5 => bjc_5
  | 6 => bjc_6
  | 7 => bjc_7
  | 8 => bjc_8
  | 9 => bjc_9
  | 10 => bjc_10
  | 11 => bjc_11
  | 12 => bjc_12
  | 13 => bjc_13
  | 14 => bjc_14
  | 15 => bjc_15
  | 16 => bjc_16
  | 17 => bjc_17
  | _ => []
def bfind (l : List (Nat × bO)) (pc : Nat) : Option bO := match l with
  | [] => none
  | q :: t => if q.1 = pc then some q.2 else bfind t pc
noncomputable def bop (mi pc : Nat) : Option bO := bfind ((bkcs (mi / 256)).getD (mi % 256) []) pc
noncomputable def bnoM : bM := (yL_law, cL_law, 0, none, [])
noncomputable def bmeth (mi : Nat) : bM := (bmcs (mi / 256)).getD (mi % 256) bnoM
noncomputable def bmjs (mi : Nat) : Nat × Nat × Nat × Nat × Nat := (bjcs (mi / 256)).getD (mi % 256) (0, 0, 0, 0, 0)
def bcjs (ci : Nat) : Nat × Nat := match ci with
  | 1 => (5089, 1020)
  | 2 => (1133, 1007)
  | 3 => (1069, 1005)
  | 4 => (1063, 1004)
  | 5 => (1188, 1009)
  | 6 => (1194, 1010)
  | 7 => (2072, 1011)
  | 8 => (1127, 1006)
  | 9 => (2119, 1012)
  | 10 => (1139, 1008)
  | 11 => (1056, 1003)
  | 12 => (1039, 1002)
  | 13 => (1031, 1001)
  | 14 => (8074, 1013)
  | _ => (0, 0)
/-- the exceptions: name, constructors above, the class's link, the constructor's link -/
def bexx (x : Nat) : String × List String × Nat × Nat := match x with
  | 0 => ("java/lang/IllegalArgumentException", ["java/lang/RuntimeException", "java/lang/Exception"], 94, 98)
  | 1 => ("java/lang/IllegalStateException", ["java/lang/RuntimeException", "java/lang/Exception"], 106, 110)
  | 2 => ("java/lang/IndexOutOfBoundsException", ["java/lang/RuntimeException", "java/lang/Exception"], 243, 247)
  | 3 => ("java/util/NoSuchElementException", ["java/lang/RuntimeException", "java/lang/Exception"], 176, 180)
  | 4 => ("java/lang/ArithmeticException", ["java/lang/RuntimeException", "java/lang/Exception"], 400, 404)
  | 5 => ("java/lang/UnsupportedOperationException", ["java/lang/RuntimeException", "java/lang/Exception"], 391, 395)
  | _ => ("", [], 0, 0)
def bstr : List (String × Nat × String) := [("Boxedvalue", 96, "digits are 0 to 10"), ("Boxedvalue", 101, "no such sign"), ("Boxedvalue", 118, "no such place"), ("Boxedvalue", 127, "the scale is 0 to 18"), ("Boxedvalue", 142, "the text is no number"), ("Boxedvalue", 148, "the constants are p and e"), ("Boxedvalue", 233, "the exponent is 0 to 9"), ("Boxedvalue", 239, "a root is by 2 to 4"), ("Boxedvalue", 241, "no such act"), ("Boxedvalue", 355, "the step is 1 to 1000"), ("Boxedvalue", 396, "too many cuts, or too few"), ("Boxedvalue", 108, "the text is full"), ("Boxedvalue", 334, "there are no such numbers"), ("Boxedvalue", 405, "too great"), ("Boxedvalue", 245, "no such six shelves"), ("Boxedvalue", 383, "no such shelf"), ("Boxedvalue", 387, "no such formula"), ("Boxedvalue", 178, "the boxes have no number in common"), ("Boxedvalue", 227, "no call is kept"), ("Boxedvalue", 385, "the shelf holds no box"), ("Boxedvalue", 389, "the formula is not defined"), ("Boxedvalue", 398, "no such piece"), ("Boxedvalue", 402, "refused"), ("Boxedvalue", 393, "the formula has an y")]
end
section
/-! The checks, method by method. -/
def bchk1 (y : bM) (z : Nat × bO) : Bool := bchkD y.2.1 z.1 z.2 && bchkX bcjs y.1.cls y.1.name z.1 z.2
noncomputable def bchk2 (y : bM) (z : Nat × bO) : Bool := bchk1 y z && bchkC bmeth bmjs y.1.cls z.2 && bchkT bexx bstr y.1.cls y.2.1 z.1 z.2
noncomputable def bchk3 (y : bM) (l : List (Nat × bO)) : Bool := decide (y.2.2.1 ≤ 80) && plainName y.1.cls && l.all (bchk2 y)
def bAllOk (ok : bM → List (Nat × bO) → Prop) (L : List (List (Nat × bO))) (Ms : List bM) : Prop := match L, Ms with
  | [], _ => True
  | l :: t, m :: u => ok m l ∧ bAllOk ok t u
  | _ :: _, [] => False
theorem bchk3_app {y : bM} {a b : List (Nat × bO)} (h1 : bchk3 y a = true) (h2 : bchk3 y b = true) : bchk3 y (a ++ b) = true := by
  unfold bchk3 at h1 h2 ⊢
  rw [List.all_append, Bool.and_eq_true_iff] at *
  rw [h1.1, h1.2, h2.2]
  exact ⟨rfl, rfl⟩
noncomputable def bm_2 (k : Nat) : bM := bmc_2.getD k bnoM
theorem bkD_X0_init : bchk3 (bm_2 0) bk_X0_init = true := by decide +kernel
theorem bkD_X0_difference : bchk3 (bm_2 1) bk_X0_difference = true := by decide +kernel
theorem bkD_X0_judged : bchk3 (bm_2 2) bk_X0_judged = true := by decide +kernel
theorem bkD_X0_negative : bchk3 (bm_2 3) bk_X0_negative = true := by decide +kernel
theorem bkD_X0_ofOne : bchk3 (bm_2 4) bk_X0_ofOne = true := by decide +kernel
theorem bkD_X0_product : bchk3 (bm_2 5) bk_X0_product = true := by decide +kernel
theorem bkD_X0_quotient : bchk3 (bm_2 6) bk_X0_quotient = true := by decide +kernel
theorem bkD_X0_size : bchk3 (bm_2 7) bk_X0_size = true := by decide +kernel
theorem bkD_X0_sum : bchk3 (bm_2 8) bk_X0_sum = true := by decide +kernel
theorem bkD_X0_tellConstant : bchk3 (bm_2 9) bk_X0_tellConstant = true := by decide +kernel
theorem bkD_X0_tellNumber : bchk3 (bm_2 10) bk_X0_tellNumber = true := by decide +kernel
theorem bkD_X0_tellText : bchk3 (bm_2 11) bk_X0_tellText = true := by decide +kernel
theorem bkD_X0_told : bchk3 (bm_2 12) bk_X0_told = true := by decide +kernel
theorem bkD_X0_useDigits : bchk3 (bm_2 13) bk_X0_useDigits = true := by decide +kernel
theorem bkA_2 : bAllOk (fun y l => bchk3 y l = true) bkc_2 bmc_2 := ⟨bkD_X0_init, bkD_X0_difference, bkD_X0_judged, bkD_X0_negative, bkD_X0_ofOne, bkD_X0_product, bkD_X0_quotient, bkD_X0_size, bkD_X0_sum, bkD_X0_tellConstant, bkD_X0_tellNumber, bkD_X0_tellText, bkD_X0_told, bkD_X0_useDigits, trivial⟩
theorem bkM_X0_init : bchkM bmeth bmjs 512 = true := by decide +kernel
theorem bkM_X0_difference : bchkM bmeth bmjs 513 = true := by decide +kernel
theorem bkM_X0_judged : bchkM bmeth bmjs 514 = true := by decide +kernel
theorem bkM_X0_negative : bchkM bmeth bmjs 515 = true := by decide +kernel
theorem bkM_X0_ofOne : bchkM bmeth bmjs 516 = true := by decide +kernel
theorem bkM_X0_product : bchkM bmeth bmjs 517 = true := by decide +kernel
theorem bkM_X0_quotient : bchkM bmeth bmjs 518 = true := by decide +kernel
theorem bkM_X0_size : bchkM bmeth bmjs 519 = true := by decide +kernel
theorem bkM_X0_sum : bchkM bmeth bmjs 520 = true := by decide +kernel
theorem bkM_X0_tellConstant : bchkM bmeth bmjs 521 = true := by decide +kernel
theorem bkM_X0_tellNumber : bchkM bmeth bmjs 522 = true := by decide +kernel
theorem bkM_X0_tellText : bchkM bmeth bmjs 523 = true := by decide +kernel
theorem bkM_X0_told : bchkM bmeth bmjs 524 = true := by decide +kernel
theorem bkM_X0_useDigits : bchkM bmeth bmjs 525 = true := by decide +kernel
theorem bkMA_2 : ∀ k, k < 14 → (bmjs (512 + k)).1 ≠ 0 → bchkM bmeth bmjs (512 + k) = true := by
  intro k hk h0
  match k, hk with
  | 0, _ => exact bkM_X0_init
  | 1, _ => exact bkM_X0_difference
  | 2, _ => exact bkM_X0_judged
  | 3, _ => exact bkM_X0_negative
  | 4, _ => exact bkM_X0_ofOne
  | 5, _ => exact bkM_X0_product
  | 6, _ => exact bkM_X0_quotient
  | 7, _ => exact bkM_X0_size
  | 8, _ => exact bkM_X0_sum
  | 9, _ => exact bkM_X0_tellConstant
  | 10, _ => exact bkM_X0_tellNumber
  | 11, _ => exact bkM_X0_tellText
  | 12, _ => exact bkM_X0_told
  | 13, _ => exact bkM_X0_useDigits
  | k + 14, h => omega
noncomputable def bm_3 (k : Nat) : bM := bmc_3.getD k bnoM
theorem bkD_X1_init : bchk3 (bm_3 0) bk_X1_init = true := by decide +kernel
theorem bkD_X1_against : bchk3 (bm_3 1) bk_X1_against = true := by decide +kernel
theorem bkD_X1_assign : bchk3 (bm_3 2) bk_X1_assign = true := by decide +kernel
theorem bkD_X1_copy : bchk3 (bm_3 3) bk_X1_copy = true := by decide +kernel
theorem bkD_X1_halve : bchk3 (bm_3 4) bk_X1_halve = true := by decide +kernel
theorem bkD_X1_isBelow : bchk3 (bm_3 5) bk_X1_isBelow = true := by decide +kernel
theorem bkD_X1_isNegative : bchk3 (bm_3 6) bk_X1_isNegative = true := by decide +kernel
theorem bkD_X1_isPositive : bchk3 (bm_3 7) bk_X1_isPositive = true := by decide +kernel
theorem bkD_X1_isTooGreat : bchk3 (bm_3 8) bk_X1_isTooGreat = true := by decide +kernel
theorem bkD_X1_isZero : bchk3 (bm_3 9) bk_X1_isZero = true := by decide +kernel
theorem bkD_X1_roundDown : bchk3 (bm_3 10) bk_X1_roundDown = true := by decide +kernel
theorem bkD_X1_roundUp : bchk3 (bm_3 11) bk_X1_roundUp = true := by decide +kernel
theorem bkD_X1_shift : bchk3 (bm_3 12) bk_X1_shift = true := by decide +kernel
theorem bkD_X1_toDifference : bchk3 (bm_3 13) bk_X1_toDifference = true := by decide +kernel
theorem bkD_X1_toMultiple : bchk3 (bm_3 14) bk_X1_toMultiple = true := by decide +kernel
theorem bkD_X1_toSum : bchk3 (bm_3 15) bk_X1_toSum = true := by decide +kernel
theorem bkD_X1_turn : bchk3 (bm_3 16) bk_X1_turn = true := by decide +kernel
theorem bkA_3 : bAllOk (fun y l => bchk3 y l = true) bkc_3 bmc_3 := ⟨bkD_X1_init, bkD_X1_against, bkD_X1_assign, bkD_X1_copy, bkD_X1_halve, bkD_X1_isBelow, bkD_X1_isNegative, bkD_X1_isPositive, bkD_X1_isTooGreat, bkD_X1_isZero, bkD_X1_roundDown, bkD_X1_roundUp, bkD_X1_shift, bkD_X1_toDifference, bkD_X1_toMultiple, bkD_X1_toSum, bkD_X1_turn, trivial⟩
theorem bkM_X1_init : bchkM bmeth bmjs 768 = true := by decide +kernel
theorem bkM_X1_against : bchkM bmeth bmjs 769 = true := by decide +kernel
theorem bkM_X1_assign : bchkM bmeth bmjs 770 = true := by decide +kernel
theorem bkM_X1_copy : bchkM bmeth bmjs 771 = true := by decide +kernel
theorem bkM_X1_halve : bchkM bmeth bmjs 772 = true := by decide +kernel
theorem bkM_X1_isBelow : bchkM bmeth bmjs 773 = true := by decide +kernel
theorem bkM_X1_isNegative : bchkM bmeth bmjs 774 = true := by decide +kernel
theorem bkM_X1_isPositive : bchkM bmeth bmjs 775 = true := by decide +kernel
theorem bkM_X1_isTooGreat : bchkM bmeth bmjs 776 = true := by decide +kernel
theorem bkM_X1_isZero : bchkM bmeth bmjs 777 = true := by decide +kernel
theorem bkM_X1_roundDown : bchkM bmeth bmjs 778 = true := by decide +kernel
theorem bkM_X1_roundUp : bchkM bmeth bmjs 779 = true := by decide +kernel
theorem bkM_X1_shift : bchkM bmeth bmjs 780 = true := by decide +kernel
theorem bkM_X1_toDifference : bchkM bmeth bmjs 781 = true := by decide +kernel
theorem bkM_X1_toMultiple : bchkM bmeth bmjs 782 = true := by decide +kernel
theorem bkM_X1_toSum : bchkM bmeth bmjs 783 = true := by decide +kernel
theorem bkM_X1_turn : bchkM bmeth bmjs 784 = true := by decide +kernel
theorem bkMA_3 : ∀ k, k < 17 → (bmjs (768 + k)).1 ≠ 0 → bchkM bmeth bmjs (768 + k) = true := by
  intro k hk h0
  match k, hk with
  | 0, _ => exact bkM_X1_init
  | 1, _ => exact bkM_X1_against
  | 2, _ => exact bkM_X1_assign
  | 3, _ => exact bkM_X1_copy
  | 4, _ => exact bkM_X1_halve
  | 5, _ => exact bkM_X1_isBelow
  | 6, _ => exact bkM_X1_isNegative
  | 7, _ => exact bkM_X1_isPositive
  | 8, _ => exact bkM_X1_isTooGreat
  | 9, _ => exact bkM_X1_isZero
  | 10, _ => exact bkM_X1_roundDown
  | 11, _ => exact bkM_X1_roundUp
  | 12, _ => exact bkM_X1_shift
  | 13, _ => exact bkM_X1_toDifference
  | 14, _ => exact bkM_X1_toMultiple
  | 15, _ => exact bkM_X1_toSum
  | 16, _ => exact bkM_X1_turn
  | k + 17, h => omega
noncomputable def bm_4 (k : Nat) : bM := bmc_4.getD k bnoM
theorem bkD_X2_init : bchk3 (bm_4 0) bk_X2_init = true := by decide +kernel
theorem bkD_X2_between : bchk3 (bm_4 1) bk_X2_between = true := by decide +kernel
theorem bkD_X2_copy : bchk3 (bm_4 2) bk_X2_copy = true := by decide +kernel
theorem bkD_X2_cutDownTo : bchk3 (bm_4 3) bk_X2_cutDownTo = true := by decide +kernel
theorem bkD_X2_dropSigns : bchk3 (bm_4 4) bk_X2_dropSigns = true := by decide +kernel
theorem bkD_X2_embrace : bchk3 (bm_4 5) bk_X2_embrace = true := by decide +kernel
theorem bkD_X2_holdsZero : bchk3 (bm_4 6) bk_X2_holdsZero = true := by decide +kernel
theorem bkD_X2_isSingle : bchk3 (bm_4 7) bk_X2_isSingle = true := by decide +kernel
theorem bkD_X2_isTooGreat : bchk3 (bm_4 8) bk_X2_isTooGreat = true := by decide +kernel
theorem bkD_X2_liesIn : bchk3 (bm_4 9) bk_X2_liesIn = true := by decide +kernel
theorem bkD_X2_roundOut : bchk3 (bm_4 10) bk_X2_roundOut = true := by decide +kernel
theorem bkD_X2_toMiddle : bchk3 (bm_4 11) bk_X2_toMiddle = true := by decide +kernel
theorem bkD_X2_turn : bchk3 (bm_4 12) bk_X2_turn = true := by decide +kernel
theorem bkA_4 : bAllOk (fun y l => bchk3 y l = true) bkc_4 bmc_4 := ⟨bkD_X2_init, bkD_X2_between, bkD_X2_copy, bkD_X2_cutDownTo, bkD_X2_dropSigns, bkD_X2_embrace, bkD_X2_holdsZero, bkD_X2_isSingle, bkD_X2_isTooGreat, bkD_X2_liesIn, bkD_X2_roundOut, bkD_X2_toMiddle, bkD_X2_turn, trivial⟩
theorem bkM_X2_init : bchkM bmeth bmjs 1024 = true := by decide +kernel
theorem bkM_X2_between : bchkM bmeth bmjs 1025 = true := by decide +kernel
theorem bkM_X2_copy : bchkM bmeth bmjs 1026 = true := by decide +kernel
theorem bkM_X2_cutDownTo : bchkM bmeth bmjs 1027 = true := by decide +kernel
theorem bkM_X2_dropSigns : bchkM bmeth bmjs 1028 = true := by decide +kernel
theorem bkM_X2_embrace : bchkM bmeth bmjs 1029 = true := by decide +kernel
theorem bkM_X2_holdsZero : bchkM bmeth bmjs 1030 = true := by decide +kernel
theorem bkM_X2_isSingle : bchkM bmeth bmjs 1031 = true := by decide +kernel
theorem bkM_X2_isTooGreat : bchkM bmeth bmjs 1032 = true := by decide +kernel
theorem bkM_X2_liesIn : bchkM bmeth bmjs 1033 = true := by decide +kernel
theorem bkM_X2_roundOut : bchkM bmeth bmjs 1034 = true := by decide +kernel
theorem bkM_X2_toMiddle : bchkM bmeth bmjs 1035 = true := by decide +kernel
theorem bkM_X2_turn : bchkM bmeth bmjs 1036 = true := by decide +kernel
theorem bkMA_4 : ∀ k, k < 13 → (bmjs (1024 + k)).1 ≠ 0 → bchkM bmeth bmjs (1024 + k) = true := by
  intro k hk h0
  match k, hk with
  | 0, _ => exact bkM_X2_init
  | 1, _ => exact bkM_X2_between
  | 2, _ => exact bkM_X2_copy
  | 3, _ => exact bkM_X2_cutDownTo
  | 4, _ => exact bkM_X2_dropSigns
  | 5, _ => exact bkM_X2_embrace
  | 6, _ => exact bkM_X2_holdsZero
  | 7, _ => exact bkM_X2_isSingle
  | 8, _ => exact bkM_X2_isTooGreat
  | 9, _ => exact bkM_X2_liesIn
  | 10, _ => exact bkM_X2_roundOut
  | 11, _ => exact bkM_X2_toMiddle
  | 12, _ => exact bkM_X2_turn
  | k + 13, h => omega
noncomputable def bm_5 (k : Nat) : bM := bmc_5.getD k bnoM
theorem bkD_X3_init : bchk3 (bm_5 0) bk_X3_init = true := by decide +kernel
theorem bkD_X3_arc : bchk3 (bm_5 1) bk_X3_arc = true := by decide +kernel
theorem bkD_X3_begin : bchk3 (bm_5 2) bk_X3_begin = true := by decide +kernel
theorem bkD_X3_exponential : bchk3 (bm_5 3) bk_X3_exponential = true := by decide +kernel
theorem bkD_X3_logarithm : bchk3 (bm_5 4) bk_X3_logarithm = true := by decide +kernel
theorem bkD_X3_nearestEighth : bchk3 (bm_5 5) bk_X3_nearestEighth = true := by decide +kernel
theorem bkD_X3_settle : bchk3 (bm_5 6) bk_X3_settle = true := by decide +kernel
theorem bkD_X3_shiftToEighth : bchk3 (bm_5 7) bk_X3_shiftToEighth = true := by decide +kernel
theorem bkD_X3_sumOddPowers : bchk3 (bm_5 8) bk_X3_sumOddPowers = true := by decide +kernel
theorem bkD_X3_sumPowers : bchk3 (bm_5 9) bk_X3_sumPowers = true := by decide +kernel
theorem bkD_X3_tell : bchk3 (bm_5 10) bk_X3_tell = true := by decide +kernel
theorem bkA_5 : bAllOk (fun y l => bchk3 y l = true) bkc_5 bmc_5 := ⟨bkD_X3_init, bkD_X3_arc, bkD_X3_begin, bkD_X3_exponential, bkD_X3_logarithm, bkD_X3_nearestEighth, bkD_X3_settle, bkD_X3_shiftToEighth, bkD_X3_sumOddPowers, bkD_X3_sumPowers, bkD_X3_tell, trivial⟩
theorem bkM_X3_init : bchkM bmeth bmjs 1280 = true := by decide +kernel
theorem bkM_X3_arc : bchkM bmeth bmjs 1281 = true := by decide +kernel
theorem bkM_X3_begin : bchkM bmeth bmjs 1282 = true := by decide +kernel
theorem bkM_X3_exponential : bchkM bmeth bmjs 1283 = true := by decide +kernel
theorem bkM_X3_logarithm : bchkM bmeth bmjs 1284 = true := by decide +kernel
theorem bkM_X3_nearestEighth : bchkM bmeth bmjs 1285 = true := by decide +kernel
theorem bkM_X3_settle : bchkM bmeth bmjs 1286 = true := by decide +kernel
theorem bkM_X3_shiftToEighth : bchkM bmeth bmjs 1287 = true := by decide +kernel
theorem bkM_X3_sumOddPowers : bchkM bmeth bmjs 1288 = true := by decide +kernel
theorem bkM_X3_sumPowers : bchkM bmeth bmjs 1289 = true := by decide +kernel
theorem bkM_X3_tell : bchkM bmeth bmjs 1290 = true := by decide +kernel
theorem bkMA_5 : ∀ k, k < 11 → (bmjs (1280 + k)).1 ≠ 0 → bchkM bmeth bmjs (1280 + k) = true := by
  intro k hk h0
  match k, hk with
  | 0, _ => exact bkM_X3_init
  | 1, _ => exact bkM_X3_arc
  | 2, _ => exact bkM_X3_begin
  | 3, _ => exact bkM_X3_exponential
  | 4, _ => exact bkM_X3_logarithm
  | 5, _ => exact bkM_X3_nearestEighth
  | 6, _ => exact bkM_X3_settle
  | 7, _ => exact bkM_X3_shiftToEighth
  | 8, _ => exact bkM_X3_sumOddPowers
  | 9, _ => exact bkM_X3_sumPowers
  | 10, _ => exact bkM_X3_tell
  | k + 11, h => omega
noncomputable def bm_6 (k : Nat) : bM := bmc_6.getD k bnoM
theorem bkD_X4_init : bchk3 (bm_6 0) bk_X4_init = true := by decide +kernel
theorem bkD_X4_clear : bchk3 (bm_6 1) bk_X4_clear = true := by decide +kernel
theorem bkD_X4_copy : bchk3 (bm_6 2) bk_X4_copy = true := by decide +kernel
theorem bkD_X4_isBelow : bchk3 (bm_6 3) bk_X4_isBelow = true := by decide +kernel
theorem bkD_X4_isZero : bchk3 (bm_6 4) bk_X4_isZero = true := by decide +kernel
theorem bkD_X4_limbAt : bchk3 (bm_6 5) bk_X4_limbAt = true := by decide +kernel
theorem bkD_X4_load : bchk3 (bm_6 6) bk_X4_load = true := by decide +kernel
theorem bkD_X4_minus : bchk3 (bm_6 7) bk_X4_minus = true := by decide +kernel
theorem bkD_X4_over : bchk3 (bm_6 8) bk_X4_over = true := by decide +kernel
theorem bkD_X4_plus : bchk3 (bm_6 9) bk_X4_plus = true := by decide +kernel
theorem bkD_X4_setLimb : bchk3 (bm_6 10) bk_X4_setLimb = true := by decide +kernel
theorem bkD_X4_toProduct : bchk3 (bm_6 11) bk_X4_toProduct = true := by decide +kernel
theorem bkA_6 : bAllOk (fun y l => bchk3 y l = true) bkc_6 bmc_6 := ⟨bkD_X4_init, bkD_X4_clear, bkD_X4_copy, bkD_X4_isBelow, bkD_X4_isZero, bkD_X4_limbAt, bkD_X4_load, bkD_X4_minus, bkD_X4_over, bkD_X4_plus, bkD_X4_setLimb, bkD_X4_toProduct, trivial⟩
theorem bkM_X4_init : bchkM bmeth bmjs 1536 = true := by decide +kernel
theorem bkM_X4_clear : bchkM bmeth bmjs 1537 = true := by decide +kernel
theorem bkM_X4_copy : bchkM bmeth bmjs 1538 = true := by decide +kernel
theorem bkM_X4_isBelow : bchkM bmeth bmjs 1539 = true := by decide +kernel
theorem bkM_X4_isZero : bchkM bmeth bmjs 1540 = true := by decide +kernel
theorem bkM_X4_limbAt : bchkM bmeth bmjs 1541 = true := by decide +kernel
theorem bkM_X4_load : bchkM bmeth bmjs 1542 = true := by decide +kernel
theorem bkM_X4_minus : bchkM bmeth bmjs 1543 = true := by decide +kernel
theorem bkM_X4_over : bchkM bmeth bmjs 1544 = true := by decide +kernel
theorem bkM_X4_plus : bchkM bmeth bmjs 1545 = true := by decide +kernel
theorem bkM_X4_setLimb : bchkM bmeth bmjs 1546 = true := by decide +kernel
theorem bkM_X4_toProduct : bchkM bmeth bmjs 1547 = true := by decide +kernel
theorem bkMA_6 : ∀ k, k < 12 → (bmjs (1536 + k)).1 ≠ 0 → bchkM bmeth bmjs (1536 + k) = true := by
  intro k hk h0
  match k, hk with
  | 0, _ => exact bkM_X4_init
  | 1, _ => exact bkM_X4_clear
  | 2, _ => exact bkM_X4_copy
  | 3, _ => exact bkM_X4_isBelow
  | 4, _ => exact bkM_X4_isZero
  | 5, _ => exact bkM_X4_limbAt
  | 6, _ => exact bkM_X4_load
  | 7, _ => exact bkM_X4_minus
  | 8, _ => exact bkM_X4_over
  | 9, _ => exact bkM_X4_plus
  | 10, _ => exact bkM_X4_setLimb
  | 11, _ => exact bkM_X4_toProduct
  | k + 12, h => omega
noncomputable def bm_7 (k : Nat) : bM := bmc_7.getD k bnoM
theorem bkD_X5_init : bchk3 (bm_7 0) bk_X5_init = true := by decide +kernel
theorem bkD_X5_actAt : bchk3 (bm_7 1) bk_X5_actAt = true := by decide +kernel
theorem bkD_X5_append : bchk3 (bm_7 2) bk_X5_append = true := by decide +kernel
theorem bkD_X5_closeAtom : bchk3 (bm_7 3) bk_X5_closeAtom = true := by decide +kernel
theorem bkD_X5_findStarts : bchk3 (bm_7 4) bk_X5_findStarts = true := by decide +kernel
theorem bkD_X5_hold : bchk3 (bm_7 5) bk_X5_hold = true := by decide +kernel
theorem bkD_X5_isAhead : bchk3 (bm_7 6) bk_X5_isAhead = true := by decide +kernel
theorem bkD_X5_isPair : bchk3 (bm_7 7) bk_X5_isPair = true := by decide +kernel
theorem bkD_X5_lastHeld : bchk3 (bm_7 8) bk_X5_lastHeld = true := by decide +kernel
theorem bkD_X5_leftOf : bchk3 (bm_7 9) bk_X5_leftOf = true := by decide +kernel
theorem bkD_X5_numberAt : bchk3 (bm_7 10) bk_X5_numberAt = true := by decide +kernel
theorem bkD_X5_parse : bchk3 (bm_7 11) bk_X5_parse = true := by decide +kernel
theorem bkD_X5_release : bchk3 (bm_7 12) bk_X5_release = true := by decide +kernel
theorem bkD_X5_releaseProducts : bchk3 (bm_7 13) bk_X5_releaseProducts = true := by decide +kernel
theorem bkD_X5_releaseSums : bchk3 (bm_7 14) bk_X5_releaseSums = true := by decide +kernel
theorem bkD_X5_scaleAt : bchk3 (bm_7 15) bk_X5_scaleAt = true := by decide +kernel
theorem bkD_X5_startOf : bchk3 (bm_7 16) bk_X5_startOf = true := by decide +kernel
theorem bkD_X5_takesAct : bchk3 (bm_7 17) bk_X5_takesAct = true := by decide +kernel
theorem bkD_X5_takesAtom : bchk3 (bm_7 18) bk_X5_takesAtom = true := by decide +kernel
theorem bkD_X5_takesClosing : bchk3 (bm_7 19) bk_X5_takesClosing = true := by decide +kernel
theorem bkD_X5_takesExponent : bchk3 (bm_7 20) bk_X5_takesExponent = true := by decide +kernel
theorem bkD_X5_takesNumber : bchk3 (bm_7 21) bk_X5_takesNumber = true := by decide +kernel
theorem bkD_X5_within : bchk3 (bm_7 22) bk_X5_within = true := by decide +kernel
theorem bkA_7 : bAllOk (fun y l => bchk3 y l = true) bkc_7 bmc_7 := ⟨bkD_X5_init, bkD_X5_actAt, bkD_X5_append, bkD_X5_closeAtom, bkD_X5_findStarts, bkD_X5_hold, bkD_X5_isAhead, bkD_X5_isPair, bkD_X5_lastHeld, bkD_X5_leftOf, bkD_X5_numberAt, bkD_X5_parse, bkD_X5_release, bkD_X5_releaseProducts, bkD_X5_releaseSums, bkD_X5_scaleAt, bkD_X5_startOf, bkD_X5_takesAct, bkD_X5_takesAtom, bkD_X5_takesClosing, bkD_X5_takesExponent, bkD_X5_takesNumber, bkD_X5_within, trivial⟩
theorem bkM_X5_init : bchkM bmeth bmjs 1792 = true := by decide +kernel
theorem bkM_X5_actAt : bchkM bmeth bmjs 1793 = true := by decide +kernel
theorem bkM_X5_append : bchkM bmeth bmjs 1794 = true := by decide +kernel
theorem bkM_X5_closeAtom : bchkM bmeth bmjs 1795 = true := by decide +kernel
theorem bkM_X5_findStarts : bchkM bmeth bmjs 1796 = true := by decide +kernel
theorem bkM_X5_hold : bchkM bmeth bmjs 1797 = true := by decide +kernel
theorem bkM_X5_isAhead : bchkM bmeth bmjs 1798 = true := by decide +kernel
theorem bkM_X5_isPair : bchkM bmeth bmjs 1799 = true := by decide +kernel
theorem bkM_X5_lastHeld : bchkM bmeth bmjs 1800 = true := by decide +kernel
theorem bkM_X5_leftOf : bchkM bmeth bmjs 1801 = true := by decide +kernel
theorem bkM_X5_numberAt : bchkM bmeth bmjs 1802 = true := by decide +kernel
theorem bkM_X5_parse : bchkM bmeth bmjs 1803 = true := by decide +kernel
theorem bkM_X5_release : bchkM bmeth bmjs 1804 = true := by decide +kernel
theorem bkM_X5_releaseProducts : bchkM bmeth bmjs 1805 = true := by decide +kernel
theorem bkM_X5_releaseSums : bchkM bmeth bmjs 1806 = true := by decide +kernel
theorem bkM_X5_scaleAt : bchkM bmeth bmjs 1807 = true := by decide +kernel
theorem bkM_X5_startOf : bchkM bmeth bmjs 1808 = true := by decide +kernel
theorem bkM_X5_takesAct : bchkM bmeth bmjs 1809 = true := by decide +kernel
theorem bkM_X5_takesAtom : bchkM bmeth bmjs 1810 = true := by decide +kernel
theorem bkM_X5_takesClosing : bchkM bmeth bmjs 1811 = true := by decide +kernel
theorem bkM_X5_takesExponent : bchkM bmeth bmjs 1812 = true := by decide +kernel
theorem bkM_X5_takesNumber : bchkM bmeth bmjs 1813 = true := by decide +kernel
theorem bkM_X5_within : bchkM bmeth bmjs 1814 = true := by decide +kernel
theorem bkMA_7 : ∀ k, k < 23 → (bmjs (1792 + k)).1 ≠ 0 → bchkM bmeth bmjs (1792 + k) = true := by
  intro k hk h0
  match k, hk with
  | 0, _ => exact bkM_X5_init
  | 1, _ => exact bkM_X5_actAt
  | 2, _ => exact bkM_X5_append
  | 3, _ => exact bkM_X5_closeAtom
  | 4, _ => exact bkM_X5_findStarts
  | 5, _ => exact bkM_X5_hold
  | 6, _ => exact bkM_X5_isAhead
  | 7, _ => exact bkM_X5_isPair
  | 8, _ => exact bkM_X5_lastHeld
  | 9, _ => exact bkM_X5_leftOf
  | 10, _ => exact bkM_X5_numberAt
  | 11, _ => exact bkM_X5_parse
  | 12, _ => exact bkM_X5_release
  | 13, _ => exact bkM_X5_releaseProducts
  | 14, _ => exact bkM_X5_releaseSums
  | 15, _ => exact bkM_X5_scaleAt
  | 16, _ => exact bkM_X5_startOf
  | 17, _ => exact bkM_X5_takesAct
  | 18, _ => exact bkM_X5_takesAtom
  | 19, _ => exact bkM_X5_takesClosing
  | 20, _ => exact bkM_X5_takesExponent
  | 21, _ => exact bkM_X5_takesNumber
  | 22, _ => exact bkM_X5_within
  | k + 23, h => omega
noncomputable def bm_8 (k : Nat) : bM := bmc_8.getD k bnoM
theorem bkD_X6_init : bchk3 (bm_8 0) bk_X6_init = true := by decide +kernel
theorem bkD_X6_actOf : bchk3 (bm_8 1) bk_X6_actOf = true := by decide +kernel
theorem bkD_X6_aim : bchk3 (bm_8 2) bk_X6_aim = true := by decide +kernel
theorem bkD_X6_at : bchk3 (bm_8 3) bk_X6_at = true := by decide +kernel
theorem bkD_X6_byOf : bchk3 (bm_8 4) bk_X6_byOf = true := by decide +kernel
theorem bkD_X6_clear : bchk3 (bm_8 5) bk_X6_clear = true := by decide +kernel
theorem bkD_X6_enter : bchk3 (bm_8 6) bk_X6_enter = true := by decide +kernel
theorem bkD_X6_make : bchk3 (bm_8 7) bk_X6_make = true := by decide +kernel
theorem bkD_X6_makeFrom : bchk3 (bm_8 8) bk_X6_makeFrom = true := by decide +kernel
theorem bkD_X6_makeSlope : bchk3 (bm_8 9) bk_X6_makeSlope = true := by decide +kernel
theorem bkD_X6_makeValue : bchk3 (bm_8 10) bk_X6_makeValue = true := by decide +kernel
theorem bkD_X6_nextSign : bchk3 (bm_8 11) bk_X6_nextSign = true := by decide +kernel
theorem bkD_X6_numberOf : bchk3 (bm_8 12) bk_X6_numberOf = true := by decide +kernel
theorem bkD_X6_push : bchk3 (bm_8 13) bk_X6_push = true := by decide +kernel
theorem bkD_X6_recipeOf : bchk3 (bm_8 14) bk_X6_recipeOf = true := by decide +kernel
theorem bkD_X6_result : bchk3 (bm_8 15) bk_X6_result = true := by decide +kernel
theorem bkD_X6_unit : bchk3 (bm_8 16) bk_X6_unit = true := by decide +kernel
theorem bkD_X6_useDigits : bchk3 (bm_8 17) bk_X6_useDigits = true := by decide +kernel
theorem bkA_8 : bAllOk (fun y l => bchk3 y l = true) bkc_8 bmc_8 := ⟨bkD_X6_init, bkD_X6_actOf, bkD_X6_aim, bkD_X6_at, bkD_X6_byOf, bkD_X6_clear, bkD_X6_enter, bkD_X6_make, bkD_X6_makeFrom, bkD_X6_makeSlope, bkD_X6_makeValue, bkD_X6_nextSign, bkD_X6_numberOf, bkD_X6_push, bkD_X6_recipeOf, bkD_X6_result, bkD_X6_unit, bkD_X6_useDigits, trivial⟩
theorem bkM_X6_init : bchkM bmeth bmjs 2048 = true := by decide +kernel
theorem bkM_X6_actOf : bchkM bmeth bmjs 2049 = true := by decide +kernel
theorem bkM_X6_aim : bchkM bmeth bmjs 2050 = true := by decide +kernel
theorem bkM_X6_at : bchkM bmeth bmjs 2051 = true := by decide +kernel
theorem bkM_X6_byOf : bchkM bmeth bmjs 2052 = true := by decide +kernel
theorem bkM_X6_clear : bchkM bmeth bmjs 2053 = true := by decide +kernel
theorem bkM_X6_enter : bchkM bmeth bmjs 2054 = true := by decide +kernel
theorem bkM_X6_make : bchkM bmeth bmjs 2055 = true := by decide +kernel
theorem bkM_X6_makeFrom : bchkM bmeth bmjs 2056 = true := by decide +kernel
theorem bkM_X6_makeSlope : bchkM bmeth bmjs 2057 = true := by decide +kernel
theorem bkM_X6_makeValue : bchkM bmeth bmjs 2058 = true := by decide +kernel
theorem bkM_X6_nextSign : bchkM bmeth bmjs 2059 = true := by decide +kernel
theorem bkM_X6_numberOf : bchkM bmeth bmjs 2060 = true := by decide +kernel
theorem bkM_X6_push : bchkM bmeth bmjs 2061 = true := by decide +kernel
theorem bkM_X6_recipeOf : bchkM bmeth bmjs 2062 = true := by decide +kernel
theorem bkM_X6_result : bchkM bmeth bmjs 2063 = true := by decide +kernel
theorem bkM_X6_unit : bchkM bmeth bmjs 2064 = true := by decide +kernel
theorem bkM_X6_useDigits : bchkM bmeth bmjs 2065 = true := by decide +kernel
theorem bkMA_8 : ∀ k, k < 18 → (bmjs (2048 + k)).1 ≠ 0 → bchkM bmeth bmjs (2048 + k) = true := by
  intro k hk h0
  match k, hk with
  | 0, _ => exact bkM_X6_init
  | 1, _ => exact bkM_X6_actOf
  | 2, _ => exact bkM_X6_aim
  | 3, _ => exact bkM_X6_at
  | 4, _ => exact bkM_X6_byOf
  | 5, _ => exact bkM_X6_clear
  | 6, _ => exact bkM_X6_enter
  | 7, _ => exact bkM_X6_make
  | 8, _ => exact bkM_X6_makeFrom
  | 9, _ => exact bkM_X6_makeSlope
  | 10, _ => exact bkM_X6_makeValue
  | 11, _ => exact bkM_X6_nextSign
  | 12, _ => exact bkM_X6_numberOf
  | 13, _ => exact bkM_X6_push
  | 14, _ => exact bkM_X6_recipeOf
  | 15, _ => exact bkM_X6_result
  | 16, _ => exact bkM_X6_unit
  | 17, _ => exact bkM_X6_useDigits
  | k + 18, h => omega
noncomputable def bm_9 (k : Nat) : bM := bmc_9.getD k bnoM
theorem bkD_X7_init : bchk3 (bm_9 0) bk_X7_init = true := by decide +kernel
theorem bkD_X7_append : bchk3 (bm_9 1) bk_X7_append = true := by decide +kernel
theorem bkD_X7_box : bchk3 (bm_9 2) bk_X7_box = true := by decide +kernel
theorem bkD_X7_clear : bchk3 (bm_9 3) bk_X7_clear = true := by decide +kernel
theorem bkD_X7_cut : bchk3 (bm_9 4) bk_X7_cut = true := by decide +kernel
theorem bkD_X7_markAt : bchk3 (bm_9 5) bk_X7_markAt = true := by decide +kernel
theorem bkD_X7_split : bchk3 (bm_9 6) bk_X7_split = true := by decide +kernel
theorem bkD_X7_takeLast : bchk3 (bm_9 7) bk_X7_takeLast = true := by decide +kernel
theorem bkD_X7_within : bchk3 (bm_9 8) bk_X7_within = true := by decide +kernel
theorem bkA_9 : bAllOk (fun y l => bchk3 y l = true) bkc_9 bmc_9 := ⟨bkD_X7_init, bkD_X7_append, bkD_X7_box, bkD_X7_clear, bkD_X7_cut, bkD_X7_markAt, bkD_X7_split, bkD_X7_takeLast, bkD_X7_within, trivial⟩
theorem bkM_X7_init : bchkM bmeth bmjs 2304 = true := by decide +kernel
theorem bkM_X7_append : bchkM bmeth bmjs 2305 = true := by decide +kernel
theorem bkM_X7_box : bchkM bmeth bmjs 2306 = true := by decide +kernel
theorem bkM_X7_clear : bchkM bmeth bmjs 2307 = true := by decide +kernel
theorem bkM_X7_cut : bchkM bmeth bmjs 2308 = true := by decide +kernel
theorem bkM_X7_markAt : bchkM bmeth bmjs 2309 = true := by decide +kernel
theorem bkM_X7_split : bchkM bmeth bmjs 2310 = true := by decide +kernel
theorem bkM_X7_takeLast : bchkM bmeth bmjs 2311 = true := by decide +kernel
theorem bkM_X7_within : bchkM bmeth bmjs 2312 = true := by decide +kernel
theorem bkMA_9 : ∀ k, k < 9 → (bmjs (2304 + k)).1 ≠ 0 → bchkM bmeth bmjs (2304 + k) = true := by
  intro k hk h0
  match k, hk with
  | 0, _ => exact bkM_X7_init
  | 1, _ => exact bkM_X7_append
  | 2, _ => exact bkM_X7_box
  | 3, _ => exact bkM_X7_clear
  | 4, _ => exact bkM_X7_cut
  | 5, _ => exact bkM_X7_markAt
  | 6, _ => exact bkM_X7_split
  | 7, _ => exact bkM_X7_takeLast
  | 8, _ => exact bkM_X7_within
  | k + 9, h => omega
noncomputable def bm_10 (k : Nat) : bM := bmc_10.getD k bnoM
theorem bkD_X8_init : bchk3 (bm_10 0) bk_X8_init = true := by decide +kernel
theorem bkD_X8_align : bchk3 (bm_10 1) bk_X8_align = true := by decide +kernel
theorem bkD_X8_assign : bchk3 (bm_10 2) bk_X8_assign = true := by decide +kernel
theorem bkD_X8_dropSign : bchk3 (bm_10 3) bk_X8_dropSign = true := by decide +kernel
theorem bkD_X8_guessRoot : bchk3 (bm_10 4) bk_X8_guessRoot = true := by decide +kernel
theorem bkD_X8_nextDigits : bchk3 (bm_10 5) bk_X8_nextDigits = true := by decide +kernel
theorem bkD_X8_powerOf : bchk3 (bm_10 6) bk_X8_powerOf = true := by decide +kernel
theorem bkD_X8_product : bchk3 (bm_10 7) bk_X8_product = true := by decide +kernel
theorem bkD_X8_quotient : bchk3 (bm_10 8) bk_X8_quotient = true := by decide +kernel
theorem bkD_X8_raise : bchk3 (bm_10 9) bk_X8_raise = true := by decide +kernel
theorem bkD_X8_settle : bchk3 (bm_10 10) bk_X8_settle = true := by decide +kernel
theorem bkD_X8_spread : bchk3 (bm_10 11) bk_X8_spread = true := by decide +kernel
theorem bkD_X8_take : bchk3 (bm_10 12) bk_X8_take = true := by decide +kernel
theorem bkD_X8_takeDigit : bchk3 (bm_10 13) bk_X8_takeDigit = true := by decide +kernel
theorem bkD_X8_takeText : bchk3 (bm_10 14) bk_X8_takeText = true := by decide +kernel
theorem bkD_X8_tellDown : bchk3 (bm_10 15) bk_X8_tellDown = true := by decide +kernel
theorem bkD_X8_tellUp : bchk3 (bm_10 16) bk_X8_tellUp = true := by decide +kernel
theorem bkD_X8_toPower : bchk3 (bm_10 17) bk_X8_toPower = true := by decide +kernel
theorem bkD_X8_toRoot : bchk3 (bm_10 18) bk_X8_toRoot = true := by decide +kernel
theorem bkD_X8_turn : bchk3 (bm_10 19) bk_X8_turn = true := by decide +kernel
theorem bkD_X8_wholeOfRow : bchk3 (bm_10 20) bk_X8_wholeOfRow = true := by decide +kernel
theorem bkD_X8_widen : bchk3 (bm_10 21) bk_X8_widen = true := by decide +kernel
theorem bkA_10 : bAllOk (fun y l => bchk3 y l = true) bkc_10 bmc_10 := ⟨bkD_X8_init, bkD_X8_align, bkD_X8_assign, bkD_X8_dropSign, bkD_X8_guessRoot, bkD_X8_nextDigits, bkD_X8_powerOf, bkD_X8_product, bkD_X8_quotient, bkD_X8_raise, bkD_X8_settle, bkD_X8_spread, bkD_X8_take, bkD_X8_takeDigit, bkD_X8_takeText, bkD_X8_tellDown, bkD_X8_tellUp, bkD_X8_toPower, bkD_X8_toRoot, bkD_X8_turn, bkD_X8_wholeOfRow, bkD_X8_widen, trivial⟩
theorem bkM_X8_init : bchkM bmeth bmjs 2560 = true := by decide +kernel
theorem bkM_X8_align : bchkM bmeth bmjs 2561 = true := by decide +kernel
theorem bkM_X8_assign : bchkM bmeth bmjs 2562 = true := by decide +kernel
theorem bkM_X8_dropSign : bchkM bmeth bmjs 2563 = true := by decide +kernel
theorem bkM_X8_guessRoot : bchkM bmeth bmjs 2564 = true := by decide +kernel
theorem bkM_X8_nextDigits : bchkM bmeth bmjs 2565 = true := by decide +kernel
theorem bkM_X8_powerOf : bchkM bmeth bmjs 2566 = true := by decide +kernel
theorem bkM_X8_product : bchkM bmeth bmjs 2567 = true := by decide +kernel
theorem bkM_X8_quotient : bchkM bmeth bmjs 2568 = true := by decide +kernel
theorem bkM_X8_raise : bchkM bmeth bmjs 2569 = true := by decide +kernel
theorem bkM_X8_settle : bchkM bmeth bmjs 2570 = true := by decide +kernel
theorem bkM_X8_spread : bchkM bmeth bmjs 2571 = true := by decide +kernel
theorem bkM_X8_take : bchkM bmeth bmjs 2572 = true := by decide +kernel
theorem bkM_X8_takeDigit : bchkM bmeth bmjs 2573 = true := by decide +kernel
theorem bkM_X8_takeText : bchkM bmeth bmjs 2574 = true := by decide +kernel
theorem bkM_X8_tellDown : bchkM bmeth bmjs 2575 = true := by decide +kernel
theorem bkM_X8_tellUp : bchkM bmeth bmjs 2576 = true := by decide +kernel
theorem bkM_X8_toPower : bchkM bmeth bmjs 2577 = true := by decide +kernel
theorem bkM_X8_toRoot : bchkM bmeth bmjs 2578 = true := by decide +kernel
theorem bkM_X8_turn : bchkM bmeth bmjs 2579 = true := by decide +kernel
theorem bkM_X8_wholeOfRow : bchkM bmeth bmjs 2580 = true := by decide +kernel
theorem bkM_X8_widen : bchkM bmeth bmjs 2581 = true := by decide +kernel
theorem bkMA_10 : ∀ k, k < 22 → (bmjs (2560 + k)).1 ≠ 0 → bchkM bmeth bmjs (2560 + k) = true := by
  intro k hk h0
  match k, hk with
  | 0, _ => exact bkM_X8_init
  | 1, _ => exact bkM_X8_align
  | 2, _ => exact bkM_X8_assign
  | 3, _ => exact bkM_X8_dropSign
  | 4, _ => exact bkM_X8_guessRoot
  | 5, _ => exact bkM_X8_nextDigits
  | 6, _ => exact bkM_X8_powerOf
  | 7, _ => exact bkM_X8_product
  | 8, _ => exact bkM_X8_quotient
  | 9, _ => exact bkM_X8_raise
  | 10, _ => exact bkM_X8_settle
  | 11, _ => exact bkM_X8_spread
  | 12, _ => exact bkM_X8_take
  | 13, _ => exact bkM_X8_takeDigit
  | 14, _ => exact bkM_X8_takeText
  | 15, _ => exact bkM_X8_tellDown
  | 16, _ => exact bkM_X8_tellUp
  | 17, _ => exact bkM_X8_toPower
  | 18, _ => exact bkM_X8_toRoot
  | 19, _ => exact bkM_X8_turn
  | 20, _ => exact bkM_X8_wholeOfRow
  | 21, _ => exact bkM_X8_widen
  | k + 22, h => omega
noncomputable def bm_11 (k : Nat) : bM := bmc_11.getD k bnoM
theorem bkD_X9_init : bchk3 (bm_11 0) bk_X9_init = true := by decide +kernel
theorem bkD_X9_box : bchk3 (bm_11 1) bk_X9_box = true := by decide +kernel
theorem bkD_X9_fill : bchk3 (bm_11 2) bk_X9_fill = true := by decide +kernel
theorem bkD_X9_holds : bchk3 (bm_11 3) bk_X9_holds = true := by decide +kernel
theorem bkD_X9_isShelf : bchk3 (bm_11 4) bk_X9_isShelf = true := by decide +kernel
theorem bkD_X9_takeBack : bchk3 (bm_11 5) bk_X9_takeBack = true := by decide +kernel
theorem bkA_11 : bAllOk (fun y l => bchk3 y l = true) bkc_11 bmc_11 := ⟨bkD_X9_init, bkD_X9_box, bkD_X9_fill, bkD_X9_holds, bkD_X9_isShelf, bkD_X9_takeBack, trivial⟩
theorem bkM_X9_init : bchkM bmeth bmjs 2816 = true := by decide +kernel
theorem bkM_X9_box : bchkM bmeth bmjs 2817 = true := by decide +kernel
theorem bkM_X9_fill : bchkM bmeth bmjs 2818 = true := by decide +kernel
theorem bkM_X9_holds : bchkM bmeth bmjs 2819 = true := by decide +kernel
theorem bkM_X9_isShelf : bchkM bmeth bmjs 2820 = true := by decide +kernel
theorem bkM_X9_takeBack : bchkM bmeth bmjs 2821 = true := by decide +kernel
theorem bkMA_11 : ∀ k, k < 6 → (bmjs (2816 + k)).1 ≠ 0 → bchkM bmeth bmjs (2816 + k) = true := by
  intro k hk h0
  match k, hk with
  | 0, _ => exact bkM_X9_init
  | 1, _ => exact bkM_X9_box
  | 2, _ => exact bkM_X9_fill
  | 3, _ => exact bkM_X9_holds
  | 4, _ => exact bkM_X9_isShelf
  | 5, _ => exact bkM_X9_takeBack
  | k + 6, h => omega
noncomputable def bm_12 (k : Nat) : bM := bmc_12.getD k bnoM
theorem bkD_X10_init : bchk3 (bm_12 0) bk_X10_init = true := by decide +kernel
theorem bkD_X10_addedTo : bchk3 (bm_12 1) bk_X10_addedTo = true := by decide +kernel
theorem bkD_X10_append : bchk3 (bm_12 2) bk_X10_append = true := by decide +kernel
theorem bkD_X10_at : bchk3 (bm_12 3) bk_X10_at = true := by decide +kernel
theorem bkD_X10_clear : bchk3 (bm_12 4) bk_X10_clear = true := by decide +kernel
theorem bkD_X10_isDigitAt : bchk3 (bm_12 5) bk_X10_isDigitAt = true := by decide +kernel
theorem bkD_X10_isNumber : bchk3 (bm_12 6) bk_X10_isNumber = true := by decide +kernel
theorem bkD_X10_write : bchk3 (bm_12 7) bk_X10_write = true := by decide +kernel
theorem bkA_12 : bAllOk (fun y l => bchk3 y l = true) bkc_12 bmc_12 := ⟨bkD_X10_init, bkD_X10_addedTo, bkD_X10_append, bkD_X10_at, bkD_X10_clear, bkD_X10_isDigitAt, bkD_X10_isNumber, bkD_X10_write, trivial⟩
theorem bkM_X10_init : bchkM bmeth bmjs 3072 = true := by decide +kernel
theorem bkM_X10_addedTo : bchkM bmeth bmjs 3073 = true := by decide +kernel
theorem bkM_X10_append : bchkM bmeth bmjs 3074 = true := by decide +kernel
theorem bkM_X10_at : bchkM bmeth bmjs 3075 = true := by decide +kernel
theorem bkM_X10_clear : bchkM bmeth bmjs 3076 = true := by decide +kernel
theorem bkM_X10_isDigitAt : bchkM bmeth bmjs 3077 = true := by decide +kernel
theorem bkM_X10_isNumber : bchkM bmeth bmjs 3078 = true := by decide +kernel
theorem bkM_X10_write : bchkM bmeth bmjs 3079 = true := by decide +kernel
theorem bkMA_12 : ∀ k, k < 8 → (bmjs (3072 + k)).1 ≠ 0 → bchkM bmeth bmjs (3072 + k) = true := by
  intro k hk h0
  match k, hk with
  | 0, _ => exact bkM_X10_init
  | 1, _ => exact bkM_X10_addedTo
  | 2, _ => exact bkM_X10_append
  | 3, _ => exact bkM_X10_at
  | 4, _ => exact bkM_X10_clear
  | 5, _ => exact bkM_X10_isDigitAt
  | 6, _ => exact bkM_X10_isNumber
  | 7, _ => exact bkM_X10_write
  | k + 8, h => omega
noncomputable def bm_13 (k : Nat) : bM := bmc_13.getD k bnoM
theorem bkD_X11_init : bchk3 (bm_13 0) bk_X11_init = true := by decide +kernel
theorem bkD_X11_add : bchk3 (bm_13 1) bk_X11_add = true := by decide +kernel
theorem bkD_X11_apply : bchk3 (bm_13 2) bk_X11_apply = true := by decide +kernel
theorem bkD_X11_area : bchk3 (bm_13 3) bk_X11_area = true := by decide +kernel
theorem bkD_X11_become : bchk3 (bm_13 4) bk_X11_become = true := by decide +kernel
theorem bkD_X11_canBeZero : bchk3 (bm_13 5) bk_X11_canBeZero = true := by decide +kernel
theorem bkD_X11_change : bchk3 (bm_13 6) bk_X11_change = true := by decide +kernel
theorem bkD_X11_checkBoundsCall : bchk3 (bm_13 7) bk_X11_checkBoundsCall = true := by decide +kernel
theorem bkD_X11_checkCuts : bchk3 (bm_13 8) bk_X11_checkCuts = true := by decide +kernel
theorem bkD_X11_checkDefined : bchk3 (bm_13 9) bk_X11_checkDefined = true := by decide +kernel
theorem bkD_X11_checkFormula : bchk3 (bm_13 10) bk_X11_checkFormula = true := by decide +kernel
theorem bkD_X11_checkFormulaCall : bchk3 (bm_13 11) bk_X11_checkFormulaCall = true := by decide +kernel
theorem bkD_X11_checkHeld : bchk3 (bm_13 12) bk_X11_checkHeld = true := by decide +kernel
theorem bkD_X11_checkNoY : bchk3 (bm_13 13) bk_X11_checkNoY = true := by decide +kernel
theorem bkD_X11_checkPair : bchk3 (bm_13 14) bk_X11_checkPair = true := by decide +kernel
theorem bkD_X11_checkPiece : bchk3 (bm_13 15) bk_X11_checkPiece = true := by decide +kernel
theorem bkD_X11_checkShelf : bchk3 (bm_13 16) bk_X11_checkShelf = true := by decide +kernel
theorem bkD_X11_checkShelves : bchk3 (bm_13 17) bk_X11_checkShelves = true := by decide +kernel
theorem bkD_X11_checkStatus : bchk3 (bm_13 18) bk_X11_checkStatus = true := by decide +kernel
theorem bkD_X11_checksum : bchk3 (bm_13 19) bk_X11_checksum = true := by decide +kernel
theorem bkD_X11_combine : bchk3 (bm_13 20) bk_X11_combine = true := by decide +kernel
theorem bkD_X11_compare : bchk3 (bm_13 21) bk_X11_compare = true := by decide +kernel
theorem bkD_X11_constant : bchk3 (bm_13 22) bk_X11_constant = true := by decide +kernel
theorem bkD_X11_crossed : bchk3 (bm_13 23) bk_X11_crossed = true := by decide +kernel
theorem bkD_X11_decide : bchk3 (bm_13 24) bk_X11_decide = true := by decide +kernel
theorem bkD_X11_define : bchk3 (bm_13 25) bk_X11_define = true := by decide +kernel
theorem bkD_X11_digits : bchk3 (bm_13 26) bk_X11_digits = true := by decide +kernel
theorem bkD_X11_divide : bchk3 (bm_13 27) bk_X11_divide = true := by decide +kernel
theorem bkD_X11_erase : bchk3 (bm_13 28) bk_X11_erase = true := by decide +kernel
theorem bkD_X11_fill : bchk3 (bm_13 29) bk_X11_fill = true := by decide +kernel
theorem bkD_X11_greatest : bchk3 (bm_13 30) bk_X11_greatest = true := by decide +kernel
theorem bkD_X11_hasY : bchk3 (bm_13 31) bk_X11_hasY = true := by decide +kernel
theorem bkD_X11_held : bchk3 (bm_13 32) bk_X11_held = true := by decide +kernel
theorem bkD_X11_high : bchk3 (bm_13 33) bk_X11_high = true := by decide +kernel
theorem bkD_X11_isConstantSound : bchk3 (bm_13 34) bk_X11_isConstantSound = true := by decide +kernel
theorem bkD_X11_isSound : bchk3 (bm_13 35) bk_X11_isSound = true := by decide +kernel
theorem bkD_X11_isValueSound : bchk3 (bm_13 36) bk_X11_isValueSound = true := by decide +kernel
theorem bkD_X11_isWithin : bchk3 (bm_13 37) bk_X11_isWithin = true := by decide +kernel
theorem bkD_X11_join : bchk3 (bm_13 38) bk_X11_join = true := by decide +kernel
theorem bkD_X11_judge : bchk3 (bm_13 39) bk_X11_judge = true := by decide +kernel
theorem bkD_X11_kindByEnds : bchk3 (bm_13 40) bk_X11_kindByEnds = true := by decide +kernel
theorem bkD_X11_least : bchk3 (bm_13 41) bk_X11_least = true := by decide +kernel
theorem bkD_X11_low : bchk3 (bm_13 42) bk_X11_low = true := by decide +kernel
theorem bkD_X11_makeAlong : bchk3 (bm_13 43) bk_X11_makeAlong = true := by decide +kernel
theorem bkD_X11_makeMoved : bchk3 (bm_13 44) bk_X11_makeMoved = true := by decide +kernel
theorem bkD_X11_makeNarrowed : bchk3 (bm_13 45) bk_X11_makeNarrowed = true := by decide +kernel
theorem bkD_X11_meet : bchk3 (bm_13 46) bk_X11_meet = true := by decide +kernel
theorem bkD_X11_move : bchk3 (bm_13 47) bk_X11_move = true := by decide +kernel
theorem bkD_X11_multiply : bchk3 (bm_13 48) bk_X11_multiply = true := by decide +kernel
theorem bkD_X11_narrow : bchk3 (bm_13 49) bk_X11_narrow = true := by decide +kernel
theorem bkD_X11_pairs : bchk3 (bm_13 50) bk_X11_pairs = true := by decide +kernel
theorem bkD_X11_piece : bchk3 (bm_13 51) bk_X11_piece = true := by decide +kernel
theorem bkD_X11_pieceKind : bchk3 (bm_13 52) bk_X11_pieceKind = true := by decide +kernel
theorem bkD_X11_power : bchk3 (bm_13 53) bk_X11_power = true := by decide +kernel
theorem bkD_X11_put : bchk3 (bm_13 54) bk_X11_put = true := by decide +kernel
theorem bkD_X11_read : bchk3 (bm_13 55) bk_X11_read = true := by decide +kernel
theorem bkD_X11_root : bchk3 (bm_13 56) bk_X11_root = true := by decide +kernel
theorem bkD_X11_seekExtreme : bchk3 (bm_13 57) bk_X11_seekExtreme = true := by decide +kernel
theorem bkD_X11_setDigits : bchk3 (bm_13 58) bk_X11_setDigits = true := by decide +kernel
theorem bkD_X11_sideOf : bchk3 (bm_13 59) bk_X11_sideOf = true := by decide +kernel
theorem bkD_X11_signAt : bchk3 (bm_13 60) bk_X11_signAt = true := by decide +kernel
theorem bkD_X11_slope : bchk3 (bm_13 61) bk_X11_slope = true := by decide +kernel
theorem bkD_X11_solve : bchk3 (bm_13 62) bk_X11_solve = true := by decide +kernel
theorem bkD_X11_subtract : bchk3 (bm_13 63) bk_X11_subtract = true := by decide +kernel
theorem bkD_X11_sumUp : bchk3 (bm_13 64) bk_X11_sumUp = true := by decide +kernel
theorem bkD_X11_sure : bchk3 (bm_13 65) bk_X11_sure = true := by decide +kernel
theorem bkD_X11_takeExtreme : bchk3 (bm_13 66) bk_X11_takeExtreme = true := by decide +kernel
theorem bkD_X11_type : bchk3 (bm_13 67) bk_X11_type = true := by decide +kernel
theorem bkD_X11_undo : bchk3 (bm_13 68) bk_X11_undo = true := by decide +kernel
theorem bkD_X11_unitOf : bchk3 (bm_13 69) bk_X11_unitOf = true := by decide +kernel
theorem bkD_X11_value : bchk3 (bm_13 70) bk_X11_value = true := by decide +kernel
theorem bkD_X11_width : bchk3 (bm_13 71) bk_X11_width = true := by decide +kernel
theorem bkD_X11_zeros : bchk3 (bm_13 72) bk_X11_zeros = true := by decide +kernel
theorem bkA_13 : bAllOk (fun y l => bchk3 y l = true) bkc_13 bmc_13 := ⟨bkD_X11_init, bkD_X11_add, bkD_X11_apply, bkD_X11_area, bkD_X11_become, bkD_X11_canBeZero, bkD_X11_change, bkD_X11_checkBoundsCall, bkD_X11_checkCuts, bkD_X11_checkDefined, bkD_X11_checkFormula, bkD_X11_checkFormulaCall, bkD_X11_checkHeld, bkD_X11_checkNoY, bkD_X11_checkPair, bkD_X11_checkPiece, bkD_X11_checkShelf, bkD_X11_checkShelves, bkD_X11_checkStatus, bkD_X11_checksum, bkD_X11_combine, bkD_X11_compare, bkD_X11_constant, bkD_X11_crossed, bkD_X11_decide, bkD_X11_define, bkD_X11_digits, bkD_X11_divide, bkD_X11_erase, bkD_X11_fill, bkD_X11_greatest, bkD_X11_hasY, bkD_X11_held, bkD_X11_high, bkD_X11_isConstantSound, bkD_X11_isSound, bkD_X11_isValueSound, bkD_X11_isWithin, bkD_X11_join, bkD_X11_judge, bkD_X11_kindByEnds, bkD_X11_least, bkD_X11_low, bkD_X11_makeAlong, bkD_X11_makeMoved, bkD_X11_makeNarrowed, bkD_X11_meet, bkD_X11_move, bkD_X11_multiply, bkD_X11_narrow, bkD_X11_pairs, bkD_X11_piece, bkD_X11_pieceKind, bkD_X11_power, bkD_X11_put, bkD_X11_read, bkD_X11_root, bkD_X11_seekExtreme, bkD_X11_setDigits, bkD_X11_sideOf, bkD_X11_signAt, bkD_X11_slope, bkD_X11_solve, bkD_X11_subtract, bkD_X11_sumUp, bkD_X11_sure, bkD_X11_takeExtreme, bkD_X11_type, bkD_X11_undo, bkD_X11_unitOf, bkD_X11_value, bkD_X11_width, bkD_X11_zeros, trivial⟩
theorem bkM_X11_init : bchkM bmeth bmjs 3328 = true := by decide +kernel
theorem bkM_X11_add : bchkM bmeth bmjs 3329 = true := by decide +kernel
theorem bkM_X11_apply : bchkM bmeth bmjs 3330 = true := by decide +kernel
theorem bkM_X11_area : bchkM bmeth bmjs 3331 = true := by decide +kernel
theorem bkM_X11_become : bchkM bmeth bmjs 3332 = true := by decide +kernel
theorem bkM_X11_canBeZero : bchkM bmeth bmjs 3333 = true := by decide +kernel
theorem bkM_X11_change : bchkM bmeth bmjs 3334 = true := by decide +kernel
theorem bkM_X11_checkBoundsCall : bchkM bmeth bmjs 3335 = true := by decide +kernel
theorem bkM_X11_checkCuts : bchkM bmeth bmjs 3336 = true := by decide +kernel
theorem bkM_X11_checkDefined : bchkM bmeth bmjs 3337 = true := by decide +kernel
theorem bkM_X11_checkFormula : bchkM bmeth bmjs 3338 = true := by decide +kernel
theorem bkM_X11_checkFormulaCall : bchkM bmeth bmjs 3339 = true := by decide +kernel
theorem bkM_X11_checkHeld : bchkM bmeth bmjs 3340 = true := by decide +kernel
theorem bkM_X11_checkNoY : bchkM bmeth bmjs 3341 = true := by decide +kernel
theorem bkM_X11_checkPair : bchkM bmeth bmjs 3342 = true := by decide +kernel
theorem bkM_X11_checkPiece : bchkM bmeth bmjs 3343 = true := by decide +kernel
theorem bkM_X11_checkShelf : bchkM bmeth bmjs 3344 = true := by decide +kernel
theorem bkM_X11_checkShelves : bchkM bmeth bmjs 3345 = true := by decide +kernel
theorem bkM_X11_checkStatus : bchkM bmeth bmjs 3346 = true := by decide +kernel
theorem bkM_X11_checksum : bchkM bmeth bmjs 3347 = true := by decide +kernel
theorem bkM_X11_combine : bchkM bmeth bmjs 3348 = true := by decide +kernel
theorem bkM_X11_compare : bchkM bmeth bmjs 3349 = true := by decide +kernel
theorem bkM_X11_constant : bchkM bmeth bmjs 3350 = true := by decide +kernel
theorem bkM_X11_crossed : bchkM bmeth bmjs 3351 = true := by decide +kernel
theorem bkM_X11_decide : bchkM bmeth bmjs 3352 = true := by decide +kernel
theorem bkM_X11_define : bchkM bmeth bmjs 3353 = true := by decide +kernel
theorem bkM_X11_digits : bchkM bmeth bmjs 3354 = true := by decide +kernel
theorem bkM_X11_divide : bchkM bmeth bmjs 3355 = true := by decide +kernel
theorem bkM_X11_erase : bchkM bmeth bmjs 3356 = true := by decide +kernel
theorem bkM_X11_fill : bchkM bmeth bmjs 3357 = true := by decide +kernel
theorem bkM_X11_greatest : bchkM bmeth bmjs 3358 = true := by decide +kernel
theorem bkM_X11_hasY : bchkM bmeth bmjs 3359 = true := by decide +kernel
theorem bkM_X11_held : bchkM bmeth bmjs 3360 = true := by decide +kernel
theorem bkM_X11_high : bchkM bmeth bmjs 3361 = true := by decide +kernel
theorem bkM_X11_isConstantSound : bchkM bmeth bmjs 3362 = true := by decide +kernel
theorem bkM_X11_isSound : bchkM bmeth bmjs 3363 = true := by decide +kernel
theorem bkM_X11_isValueSound : bchkM bmeth bmjs 3364 = true := by decide +kernel
theorem bkM_X11_isWithin : bchkM bmeth bmjs 3365 = true := by decide +kernel
theorem bkM_X11_join : bchkM bmeth bmjs 3366 = true := by decide +kernel
theorem bkM_X11_judge : bchkM bmeth bmjs 3367 = true := by decide +kernel
theorem bkM_X11_kindByEnds : bchkM bmeth bmjs 3368 = true := by decide +kernel
theorem bkM_X11_least : bchkM bmeth bmjs 3369 = true := by decide +kernel
theorem bkM_X11_low : bchkM bmeth bmjs 3370 = true := by decide +kernel
theorem bkM_X11_makeAlong : bchkM bmeth bmjs 3371 = true := by decide +kernel
theorem bkM_X11_makeMoved : bchkM bmeth bmjs 3372 = true := by decide +kernel
theorem bkM_X11_makeNarrowed : bchkM bmeth bmjs 3373 = true := by decide +kernel
theorem bkM_X11_meet : bchkM bmeth bmjs 3374 = true := by decide +kernel
theorem bkM_X11_move : bchkM bmeth bmjs 3375 = true := by decide +kernel
theorem bkM_X11_multiply : bchkM bmeth bmjs 3376 = true := by decide +kernel
theorem bkM_X11_narrow : bchkM bmeth bmjs 3377 = true := by decide +kernel
theorem bkM_X11_pairs : bchkM bmeth bmjs 3378 = true := by decide +kernel
theorem bkM_X11_piece : bchkM bmeth bmjs 3379 = true := by decide +kernel
theorem bkM_X11_pieceKind : bchkM bmeth bmjs 3380 = true := by decide +kernel
theorem bkM_X11_power : bchkM bmeth bmjs 3381 = true := by decide +kernel
theorem bkM_X11_put : bchkM bmeth bmjs 3382 = true := by decide +kernel
theorem bkM_X11_read : bchkM bmeth bmjs 3383 = true := by decide +kernel
theorem bkM_X11_root : bchkM bmeth bmjs 3384 = true := by decide +kernel
theorem bkM_X11_seekExtreme : bchkM bmeth bmjs 3385 = true := by decide +kernel
theorem bkM_X11_setDigits : bchkM bmeth bmjs 3386 = true := by decide +kernel
theorem bkM_X11_sideOf : bchkM bmeth bmjs 3387 = true := by decide +kernel
theorem bkM_X11_signAt : bchkM bmeth bmjs 3388 = true := by decide +kernel
theorem bkM_X11_slope : bchkM bmeth bmjs 3389 = true := by decide +kernel
theorem bkM_X11_solve : bchkM bmeth bmjs 3390 = true := by decide +kernel
theorem bkM_X11_subtract : bchkM bmeth bmjs 3391 = true := by decide +kernel
theorem bkM_X11_sumUp : bchkM bmeth bmjs 3392 = true := by decide +kernel
theorem bkM_X11_sure : bchkM bmeth bmjs 3393 = true := by decide +kernel
theorem bkM_X11_takeExtreme : bchkM bmeth bmjs 3394 = true := by decide +kernel
theorem bkM_X11_type : bchkM bmeth bmjs 3395 = true := by decide +kernel
theorem bkM_X11_undo : bchkM bmeth bmjs 3396 = true := by decide +kernel
theorem bkM_X11_unitOf : bchkM bmeth bmjs 3397 = true := by decide +kernel
theorem bkM_X11_value : bchkM bmeth bmjs 3398 = true := by decide +kernel
theorem bkM_X11_width : bchkM bmeth bmjs 3399 = true := by decide +kernel
theorem bkM_X11_zeros : bchkM bmeth bmjs 3400 = true := by decide +kernel
theorem bkMA_13 : ∀ k, k < 73 → (bmjs (3328 + k)).1 ≠ 0 → bchkM bmeth bmjs (3328 + k) = true := by
  intro k hk h0
  match k, hk with
  | 0, _ => exact bkM_X11_init
  | 1, _ => exact bkM_X11_add
  | 2, _ => exact bkM_X11_apply
  | 3, _ => exact bkM_X11_area
  | 4, _ => exact bkM_X11_become
  | 5, _ => exact bkM_X11_canBeZero
  | 6, _ => exact bkM_X11_change
  | 7, _ => exact bkM_X11_checkBoundsCall
  | 8, _ => exact bkM_X11_checkCuts
  | 9, _ => exact bkM_X11_checkDefined
  | 10, _ => exact bkM_X11_checkFormula
  | 11, _ => exact bkM_X11_checkFormulaCall
  | 12, _ => exact bkM_X11_checkHeld
  | 13, _ => exact bkM_X11_checkNoY
  | 14, _ => exact bkM_X11_checkPair
  | 15, _ => exact bkM_X11_checkPiece
  | 16, _ => exact bkM_X11_checkShelf
  | 17, _ => exact bkM_X11_checkShelves
  | 18, _ => exact bkM_X11_checkStatus
  | 19, _ => exact bkM_X11_checksum
  | 20, _ => exact bkM_X11_combine
  | 21, _ => exact bkM_X11_compare
  | 22, _ => exact bkM_X11_constant
  | 23, _ => exact bkM_X11_crossed
  | 24, _ => exact bkM_X11_decide
  | 25, _ => exact bkM_X11_define
  | 26, _ => exact bkM_X11_digits
  | 27, _ => exact bkM_X11_divide
  | 28, _ => exact bkM_X11_erase
  | 29, _ => exact bkM_X11_fill
  | 30, _ => exact bkM_X11_greatest
  | 31, _ => exact bkM_X11_hasY
  | 32, _ => exact bkM_X11_held
  | 33, _ => exact bkM_X11_high
  | 34, _ => exact bkM_X11_isConstantSound
  | 35, _ => exact bkM_X11_isSound
  | 36, _ => exact bkM_X11_isValueSound
  | 37, _ => exact bkM_X11_isWithin
  | 38, _ => exact bkM_X11_join
  | 39, _ => exact bkM_X11_judge
  | 40, _ => exact bkM_X11_kindByEnds
  | 41, _ => exact bkM_X11_least
  | 42, _ => exact bkM_X11_low
  | 43, _ => exact bkM_X11_makeAlong
  | 44, _ => exact bkM_X11_makeMoved
  | 45, _ => exact bkM_X11_makeNarrowed
  | 46, _ => exact bkM_X11_meet
  | 47, _ => exact bkM_X11_move
  | 48, _ => exact bkM_X11_multiply
  | 49, _ => exact bkM_X11_narrow
  | 50, _ => exact bkM_X11_pairs
  | 51, _ => exact bkM_X11_piece
  | 52, _ => exact bkM_X11_pieceKind
  | 53, _ => exact bkM_X11_power
  | 54, _ => exact bkM_X11_put
  | 55, _ => exact bkM_X11_read
  | 56, _ => exact bkM_X11_root
  | 57, _ => exact bkM_X11_seekExtreme
  | 58, _ => exact bkM_X11_setDigits
  | 59, _ => exact bkM_X11_sideOf
  | 60, _ => exact bkM_X11_signAt
  | 61, _ => exact bkM_X11_slope
  | 62, _ => exact bkM_X11_solve
  | 63, _ => exact bkM_X11_subtract
  | 64, _ => exact bkM_X11_sumUp
  | 65, _ => exact bkM_X11_sure
  | 66, _ => exact bkM_X11_takeExtreme
  | 67, _ => exact bkM_X11_type
  | 68, _ => exact bkM_X11_undo
  | 69, _ => exact bkM_X11_unitOf
  | 70, _ => exact bkM_X11_value
  | 71, _ => exact bkM_X11_width
  | 72, _ => exact bkM_X11_zeros
  | k + 73, h => omega
end
section
/-! ROWS of the reader: an instruction each. -/
section BROWS
variable {P : bP} {d mi pc pc' j a b : Nat} {v : Int} {lv lv' : List (Nat × bV)} {st : List bV} {w w1 w2 : bW} {r : bR}
theorem x_step {o : bO} {q : bF} (ho : P.1 mi pc = some o) (hs : bstep P.2.2.1 (P.2.1 mi).2.2.1 o pc lv st w = some q) (k : bX P d mi q.1 q.2.1 q.2.2.1 q.2.2.2 r w2) : bX P d mi pc lv st w r w2 :=
  fun R hR => hR.1 d mi pc lv st w o q r w2 ho hs (k R hR)
theorem x_ret {o : bO} {z : Option bV} (ho : P.1 mi pc = some o) (hs : bret o (P.2.1 mi).2.2.2.1 st = some z) : bX P d mi pc lv st w (.inl z) w :=
  fun R hR => hR.2.1 d mi pc lv st w o z ho hs
theorem x_call {o : bO} {q : Nat × List bV × List bV} {z : Option bV} (ho : P.1 mi pc = some o) (hq : bcal o st w = some q) (hl : (q.2.1.map bvc).sum ≤ (P.2.1 q.1).2.2.1) (h : bX P d q.1 0 (blva 0 q.2.1) [] w (.inl z) w1) (k : bX P (d + 1) mi (pc + 3) lv (z.toList ++ q.2.2) w1 r w2) : bX P (d + 1) mi pc lv st w r w2 :=
  fun R hR => hR.2.2.1 d mi pc lv st w o q z w1 r w2 ho hq hl (h R hR) (k R hR)
theorem x_callO {o : bO} {q : Nat × List bV × List bV} {x : String} (ho : P.1 mi pc = some o) (hq : bcal o st w = some q) (hl : (q.2.1.map bvc).sum ≤ (P.2.1 q.1).2.2.1) (h : bX P d q.1 0 (blva 0 q.2.1) [] w (.inr x) w1) (hH : (P.2.1 mi).2.2.2.2 = []) (hn : bnsp o = true) : bX P (d + 1) mi pc lv st w (.inr x) w1 :=
  fun R hR => hR.2.2.2.1 d mi pc lv st w o q x w1 ho hq hl (h R hR) hH hn
theorem x_catch {o : bO} {q : Nat × List bV × List bV} {x : String} {hp : Nat} {o2 : bO} {ik : Nat × Nat} (ho : P.1 mi pc = some o) (hq : bcal o st w = some q) (hl : (q.2.1.map bvc).sum ≤ (P.2.1 q.1).2.2.1) (h : bX P d q.1 0 (blva 0 q.2.1) [] w (.inr x) w1) (hh : bhand (P.2.1 mi).2.2.2.2 pc x P.2.2.2.1 = some hp) (ho2 : P.1 mi hp = some o2) (hn : bnsp o = true) (hk : bastk o2.1 = some ik) (hi : ik.1 < (P.2.1 mi).2.2.1) (k : bX P (d + 1) mi (hp + ik.2) (blvx lv ik.1) [] w1 r w2) : bX P (d + 1) mi pc lv st w r w2 :=
  fun R hR => hR.2.2.2.2.1 d mi pc lv st w o q x w1 hp o2 ik r w2 ho hq hl (h R hR) hh ho2 hn hk hi (k R hR)
theorem x_thr {o : bO} {ix : Nat} {x : String} (ho : P.1 mi pc = some o) (h1 : o.1 = .new ix) (h2 : o.2.2.2.2 = 1) (h3 : (P.2.1 mi).2.2.2.2 = []) (hx : (P.2.2.2.2 o.2.2.1).1 = x) : bX P d mi pc lv [] w (.inr x) (w.1, w.2 + 1) := by
  subst hx
  exact fun R hR => hR.2.2.2.2.2 d mi pc lv w o ix ho h1 h2 h3
theorem x_ic {n : Int} {x : Int32} (ho : P.1 mi pc = some (.iconst n, j, a, b, v)) (hv : Int32.ofInt n = x) (hp : pc + 1 = pc') (k : bX P d mi pc' lv (.inl x :: st) w r w2) : bX P d mi pc lv st w r w2 := by
  subst hp
  subst hv
  exact x_step ho rfl k
theorem x_bi {n : Int} {x : Int32} (ho : P.1 mi pc = some (.bipush n, j, a, b, v)) (hv : (Int8.ofInt n).toInt32 = x) (hp : pc + 2 = pc') (k : bX P d mi pc' lv (.inl x :: st) w r w2) : bX P d mi pc lv st w r w2 := by
  subst hp
  subst hv
  exact x_step ho rfl k
theorem x_si {n : Int} {x : Int32} (ho : P.1 mi pc = some (.sipush n, j, a, b, v)) (hv : (Int16.ofInt n).toInt32 = x) (hp : pc + 3 = pc') (k : bX P d mi pc' lv (.inl x :: st) w r w2) : bX P d mi pc lv st w r w2 := by
  subst hp
  subst hv
  exact x_step ho rfl k
theorem x_ldc {ix : Nat} {x : Int32} (ho : P.1 mi pc = some (.ldc ix, j, a, b, v)) (hv : Int32.ofInt v = x) (hp : pc + 2 = pc') (k : bX P d mi pc' lv (.inl x :: st) w r w2) : bX P d mi pc lv st w r w2 := by
  subst hp
  subst hv
  exact x_step ho rfl k
theorem x_lc {n : Fin 2} {x : Int64} (ho : P.1 mi pc = some (.lconst n, j, a, b, v)) (hv : Int64.ofNat n = x) (hp : pc + 1 = pc') (k : bX P d mi pc' lv (.inr (.inl x) :: st) w r w2) : bX P d mi pc lv st w r w2 := by
  subst hp
  subst hv
  exact x_step ho rfl k
theorem x_ldl {ix : Nat} {x : Int64} (ho : P.1 mi pc = some (.ldc2_w ix, j, a, b, v)) (hv : Int64.ofInt v = x) (hp : pc + 3 = pc') (k : bX P d mi pc' lv (.inr (.inl x) :: st) w r w2) : bX P d mi pc lv st w r w2 := by
  subst hp
  subst hv
  exact x_step ho rfl k
theorem x_ildn {i : Fin 4} {x : Int32} (ho : P.1 mi pc = some (.iload_n i, j, a, b, v)) (hk : blk lv i = some (.inl x)) (hp : pc + 1 = pc') (k : bX P d mi pc' lv (.inl x :: st) w r w2) : bX P d mi pc lv st w r w2 := by
  subst hp
  refine x_step ho (q := (_, _, _, _)) ?_ k
  simp only [bstep, bldl, hk]
  all_goals rfl
theorem x_ild {i : Nat} {x : Int32} (ho : P.1 mi pc = some (.iload i, j, a, b, v)) (hk : blk lv i = some (.inl x)) (hp : pc + 2 = pc') (k : bX P d mi pc' lv (.inl x :: st) w r w2) : bX P d mi pc lv st w r w2 := by
  subst hp
  refine x_step ho (q := (_, _, _, _)) ?_ k
  simp only [bstep, bldl, hk]
  all_goals rfl
theorem x_lldn {i : Fin 4} {x : Int64} (ho : P.1 mi pc = some (.lload_n i, j, a, b, v)) (hk : blk lv i = some (.inr (.inl x))) (hp : pc + 1 = pc') (k : bX P d mi pc' lv (.inr (.inl x) :: st) w r w2) : bX P d mi pc lv st w r w2 := by
  subst hp
  refine x_step ho (q := (_, _, _, _)) ?_ k
  simp only [bstep, bldl, hk]
  all_goals rfl
theorem x_lld {i : Nat} {x : Int64} (ho : P.1 mi pc = some (.lload i, j, a, b, v)) (hk : blk lv i = some (.inr (.inl x))) (hp : pc + 2 = pc') (k : bX P d mi pc' lv (.inr (.inl x) :: st) w r w2) : bX P d mi pc lv st w r w2 := by
  subst hp
  refine x_step ho (q := (_, _, _, _)) ?_ k
  simp only [bstep, bldl, hk]
  all_goals rfl
theorem x_aldn {i : Fin 4} {x : Nat} (ho : P.1 mi pc = some (.aload_n i, j, a, b, v)) (hk : blk lv i = some (.inr (.inr (.inl x)))) (hp : pc + 1 = pc') (k : bX P d mi pc' lv (.inr (.inr (.inl x)) :: st) w r w2) : bX P d mi pc lv st w r w2 := by
  subst hp
  refine x_step ho (q := (_, _, _, _)) ?_ k
  simp only [bstep, bldl, hk]
  all_goals rfl
theorem x_ald {i : Nat} {x : Nat} (ho : P.1 mi pc = some (.aload i, j, a, b, v)) (hk : blk lv i = some (.inr (.inr (.inl x)))) (hp : pc + 2 = pc') (k : bX P d mi pc' lv (.inr (.inr (.inl x)) :: st) w r w2) : bX P d mi pc lv st w r w2 := by
  subst hp
  refine x_step ho (q := (_, _, _, _)) ?_ k
  simp only [bstep, bldl, hk]
  all_goals rfl
theorem x_xldn {i : Fin 4} {x : Nat} (ho : P.1 mi pc = some (.aload_n i, j, a, b, v)) (hk : blk lv i = some (.inr (.inr (.inr (some x))))) (hp : pc + 1 = pc') (k : bX P d mi pc' lv (.inr (.inr (.inr (some x))) :: st) w r w2) : bX P d mi pc lv st w r w2 := by
  subst hp
  refine x_step ho (q := (_, _, _, _)) ?_ k
  simp only [bstep, bldl, hk]
  all_goals rfl
theorem x_xld {i : Nat} {x : Nat} (ho : P.1 mi pc = some (.aload i, j, a, b, v)) (hk : blk lv i = some (.inr (.inr (.inr (some x))))) (hp : pc + 2 = pc') (k : bX P d mi pc' lv (.inr (.inr (.inr (some x))) :: st) w r w2) : bX P d mi pc lv st w r w2 := by
  subst hp
  refine x_step ho (q := (_, _, _, _)) ?_ k
  simp only [bstep, bldl, hk]
  all_goals rfl
theorem x_istn {i : Fin 4} {x : Int32} (ho : P.1 mi pc = some (.istore_n i, j, a, b, v)) (hn : (i : Nat) < (P.2.1 mi).2.2.1) (hl : bst1 lv (i : Nat) (.inl x) = lv') (hp : pc + 1 = pc') (k : bX P d mi pc' lv' st w r w2) : bX P d mi pc lv (.inl x :: st) w r w2 := by
  subst hp
  subst hl
  refine x_step ho (q := (_, _, _, _)) ?_ k
  exact if_pos hn
  all_goals rfl
theorem x_ist {i : Nat} {x : Int32} (ho : P.1 mi pc = some (.istore i, j, a, b, v)) (hn : i < (P.2.1 mi).2.2.1) (hl : bst1 lv i (.inl x) = lv') (hp : pc + 2 = pc') (k : bX P d mi pc' lv' st w r w2) : bX P d mi pc lv (.inl x :: st) w r w2 := by
  subst hp
  subst hl
  refine x_step ho (q := (_, _, _, _)) ?_ k
  exact if_pos hn
  all_goals rfl
theorem x_lstn {i : Fin 4} {x : Int64} (ho : P.1 mi pc = some (.lstore_n i, j, a, b, v)) (hn : (i : Nat) + 1 < (P.2.1 mi).2.2.1) (hl : bst2 lv (i : Nat) (.inr (.inl x)) = lv') (hp : pc + 1 = pc') (k : bX P d mi pc' lv' st w r w2) : bX P d mi pc lv (.inr (.inl x) :: st) w r w2 := by
  subst hp
  subst hl
  refine x_step ho (q := (_, _, _, _)) ?_ k
  exact if_pos hn
  all_goals rfl
theorem x_lst {i : Nat} {x : Int64} (ho : P.1 mi pc = some (.lstore i, j, a, b, v)) (hn : i + 1 < (P.2.1 mi).2.2.1) (hl : bst2 lv i (.inr (.inl x)) = lv') (hp : pc + 2 = pc') (k : bX P d mi pc' lv' st w r w2) : bX P d mi pc lv (.inr (.inl x) :: st) w r w2 := by
  subst hp
  subst hl
  refine x_step ho (q := (_, _, _, _)) ?_ k
  exact if_pos hn
  all_goals rfl
theorem x_astn {i : Fin 4} {x : Nat} (ho : P.1 mi pc = some (.astore_n i, j, a, b, v)) (hn : (i : Nat) < (P.2.1 mi).2.2.1) (hl : bst1 lv (i : Nat) (.inr (.inr (.inl x))) = lv') (hp : pc + 1 = pc') (k : bX P d mi pc' lv' st w r w2) : bX P d mi pc lv (.inr (.inr (.inl x)) :: st) w r w2 := by
  subst hp
  subst hl
  refine x_step ho (q := (_, _, _, _)) ?_ k
  exact if_pos hn
  all_goals rfl
theorem x_ast {i : Nat} {x : Nat} (ho : P.1 mi pc = some (.astore i, j, a, b, v)) (hn : i < (P.2.1 mi).2.2.1) (hl : bst1 lv i (.inr (.inr (.inl x))) = lv') (hp : pc + 2 = pc') (k : bX P d mi pc' lv' st w r w2) : bX P d mi pc lv (.inr (.inr (.inl x)) :: st) w r w2 := by
  subst hp
  subst hl
  refine x_step ho (q := (_, _, _, _)) ?_ k
  exact if_pos hn
  all_goals rfl
theorem x_inc {i : Nat} {n : Int} {x y : Int32} (ho : P.1 mi pc = some (.iinc i n, j, a, b, v)) (hk : blk lv i = some (.inl x)) (hn : i < (P.2.1 mi).2.2.1) (hv : x + Int32.ofInt n = y) (hl : bst1 lv i (.inl y) = lv') (hp : pc + 3 = pc') (k : bX P d mi pc' lv' st w r w2) : bX P d mi pc lv st w r w2 := by
  subst hp
  subst hv
  subst hl
  refine x_step ho (q := (_, _, _, _)) ?_ k
  simp only [bstep, binc, hk]
  exact if_pos hn
  all_goals rfl
theorem x_iadd {x y : Int32} (ho : P.1 mi pc = some (.iadd, j, a, b, v))  (hp : pc + 1 = pc') (k : bX P d mi pc' lv (.inl (x + y) :: st) w r w2) : bX P d mi pc lv (.inl y :: .inl x :: st) w r w2 := by
  subst hp
  exact x_step ho rfl k
theorem x_isub {x y : Int32} (ho : P.1 mi pc = some (.isub, j, a, b, v))  (hp : pc + 1 = pc') (k : bX P d mi pc' lv (.inl (x - y) :: st) w r w2) : bX P d mi pc lv (.inl y :: .inl x :: st) w r w2 := by
  subst hp
  exact x_step ho rfl k
theorem x_imul {x y : Int32} (ho : P.1 mi pc = some (.imul, j, a, b, v))  (hp : pc + 1 = pc') (k : bX P d mi pc' lv (.inl (x * y) :: st) w r w2) : bX P d mi pc lv (.inl y :: .inl x :: st) w r w2 := by
  subst hp
  exact x_step ho rfl k
theorem x_iand {x y : Int32} (ho : P.1 mi pc = some (.iand, j, a, b, v))  (hp : pc + 1 = pc') (k : bX P d mi pc' lv (.inl (x &&& y) :: st) w r w2) : bX P d mi pc lv (.inl y :: .inl x :: st) w r w2 := by
  subst hp
  exact x_step ho rfl k
theorem x_ior {x y : Int32} (ho : P.1 mi pc = some (.ior, j, a, b, v))  (hp : pc + 1 = pc') (k : bX P d mi pc' lv (.inl (x ||| y) :: st) w r w2) : bX P d mi pc lv (.inl y :: .inl x :: st) w r w2 := by
  subst hp
  exact x_step ho rfl k
theorem x_idiv {x y : Int32} (ho : P.1 mi pc = some (.idiv, j, a, b, v)) (h0 : ¬ y = 0) (hp : pc + 1 = pc') (k : bX P d mi pc' lv (.inl (x / y) :: st) w r w2) : bX P d mi pc lv (.inl y :: .inl x :: st) w r w2 := by
  subst hp
  refine x_step ho (q := (_, _, _, _)) ?_ k
  simp only [bstep, bi2, if_neg h0]
  all_goals rfl
theorem x_irem {x y : Int32} (ho : P.1 mi pc = some (.irem, j, a, b, v)) (h0 : ¬ y = 0) (hp : pc + 1 = pc') (k : bX P d mi pc' lv (.inl (x - x / y * y) :: st) w r w2) : bX P d mi pc lv (.inl y :: .inl x :: st) w r w2 := by
  subst hp
  refine x_step ho (q := (_, _, _, _)) ?_ k
  simp only [bstep, bi2, if_neg h0]
  all_goals rfl
theorem x_ineg {x : Int32} (ho : P.1 mi pc = some (.ineg, j, a, b, v))  (hp : pc + 1 = pc') (k : bX P d mi pc' lv (.inl (-x) :: st) w r w2) : bX P d mi pc lv (.inl x :: st) w r w2 := by
  subst hp
  exact x_step ho rfl k
theorem x_ladd {x y : Int64} (ho : P.1 mi pc = some (.ladd, j, a, b, v))  (hp : pc + 1 = pc') (k : bX P d mi pc' lv (.inr (.inl (x + y)) :: st) w r w2) : bX P d mi pc lv (.inr (.inl y) :: .inr (.inl x) :: st) w r w2 := by
  subst hp
  exact x_step ho rfl k
theorem x_lsub {x y : Int64} (ho : P.1 mi pc = some (.lsub, j, a, b, v))  (hp : pc + 1 = pc') (k : bX P d mi pc' lv (.inr (.inl (x - y)) :: st) w r w2) : bX P d mi pc lv (.inr (.inl y) :: .inr (.inl x) :: st) w r w2 := by
  subst hp
  exact x_step ho rfl k
theorem x_lmul {x y : Int64} (ho : P.1 mi pc = some (.lmul, j, a, b, v))  (hp : pc + 1 = pc') (k : bX P d mi pc' lv (.inr (.inl (x * y)) :: st) w r w2) : bX P d mi pc lv (.inr (.inl y) :: .inr (.inl x) :: st) w r w2 := by
  subst hp
  exact x_step ho rfl k
theorem x_land {x y : Int64} (ho : P.1 mi pc = some (.land, j, a, b, v))  (hp : pc + 1 = pc') (k : bX P d mi pc' lv (.inr (.inl (x &&& y)) :: st) w r w2) : bX P d mi pc lv (.inr (.inl y) :: .inr (.inl x) :: st) w r w2 := by
  subst hp
  exact x_step ho rfl k
theorem x_lor {x y : Int64} (ho : P.1 mi pc = some (.lor, j, a, b, v))  (hp : pc + 1 = pc') (k : bX P d mi pc' lv (.inr (.inl (x ||| y)) :: st) w r w2) : bX P d mi pc lv (.inr (.inl y) :: .inr (.inl x) :: st) w r w2 := by
  subst hp
  exact x_step ho rfl k
theorem x_lxor {x y : Int64} (ho : P.1 mi pc = some (.lxor, j, a, b, v))  (hp : pc + 1 = pc') (k : bX P d mi pc' lv (.inr (.inl (x ^^^ y)) :: st) w r w2) : bX P d mi pc lv (.inr (.inl y) :: .inr (.inl x) :: st) w r w2 := by
  subst hp
  exact x_step ho rfl k
theorem x_ldiv {x y : Int64} (ho : P.1 mi pc = some (.ldiv, j, a, b, v)) (h0 : ¬ y = 0) (hp : pc + 1 = pc') (k : bX P d mi pc' lv (.inr (.inl (x / y)) :: st) w r w2) : bX P d mi pc lv (.inr (.inl y) :: .inr (.inl x) :: st) w r w2 := by
  subst hp
  refine x_step ho (q := (_, _, _, _)) ?_ k
  simp only [bstep, bl2, if_neg h0]
  all_goals rfl
theorem x_lrem {x y : Int64} (ho : P.1 mi pc = some (.lrem, j, a, b, v)) (h0 : ¬ y = 0) (hp : pc + 1 = pc') (k : bX P d mi pc' lv (.inr (.inl (x - x / y * y)) :: st) w r w2) : bX P d mi pc lv (.inr (.inl y) :: .inr (.inl x) :: st) w r w2 := by
  subst hp
  refine x_step ho (q := (_, _, _, _)) ?_ k
  simp only [bstep, bl2, if_neg h0]
  all_goals rfl
theorem x_lcmp {x y : Int64} {z : Int32} (ho : P.1 mi pc = some (.lcmp, j, a, b, v)) (hv : lg_cmp x y = z) (hp : pc + 1 = pc') (k : bX P d mi pc' lv (.inl z :: st) w r w2) : bX P d mi pc lv (.inr (.inl y) :: .inr (.inl x) :: st) w r w2 := by
  subst hp
  subst hv
  exact x_step ho rfl k
theorem x_lneg {x : Int64} (ho : P.1 mi pc = some (.lneg, j, a, b, v))  (hp : pc + 1 = pc') (k : bX P d mi pc' lv (.inr (.inl (-x)) :: st) w r w2) : bX P d mi pc lv (.inr (.inl x) :: st) w r w2 := by
  subst hp
  exact x_step ho rfl k
theorem x_l2i {x : Int64} (ho : P.1 mi pc = some (.l2i, j, a, b, v))  (hp : pc + 1 = pc') (k : bX P d mi pc' lv (.inl x.toInt32 :: st) w r w2) : bX P d mi pc lv (.inr (.inl x) :: st) w r w2 := by
  subst hp
  exact x_step ho rfl k
theorem x_i2l {x : Int32} (ho : P.1 mi pc = some (.i2l, j, a, b, v))  (hp : pc + 1 = pc') (k : bX P d mi pc' lv (.inr (.inl x.toInt64) :: st) w r w2) : bX P d mi pc lv (.inl x :: st) w r w2 := by
  subst hp
  exact x_step ho rfl k
theorem x_i2c {x : Int32} (ho : P.1 mi pc = some (.i2c, j, a, b, v))  (hp : pc + 1 = pc') (k : bX P d mi pc' lv (.inl (x.toUInt32 % 65536).toInt32 :: st) w r w2) : bX P d mi pc lv (.inl x :: st) w r w2 := by
  subst hp
  exact x_step ho rfl k
theorem x_lshl {x : Int64} {y : Int32} (ho : P.1 mi pc = some (.lshl, j, a, b, v))  (hp : pc + 1 = pc') (k : bX P d mi pc' lv (.inr (.inl (x <<< (y.toInt64 &&& 63))) :: st) w r w2) : bX P d mi pc lv (.inl y :: .inr (.inl x) :: st) w r w2 := by
  subst hp
  exact x_step ho rfl k
theorem x_lshr {x : Int64} {y : Int32} (ho : P.1 mi pc = some (.lshr, j, a, b, v))  (hp : pc + 1 = pc') (k : bX P d mi pc' lv (.inr (.inl (x >>> (y.toInt64 &&& 63))) :: st) w r w2) : bX P d mi pc lv (.inl y :: .inr (.inl x) :: st) w r w2 := by
  subst hp
  exact x_step ho rfl k
theorem x_dup {u : bV} (ho : P.1 mi pc = some (.dup, j, a, b, v)) (hc : bvc u = 1) (hp : pc + 1 = pc') (k : bX P d mi pc' lv (u :: u :: st) w r w2) : bX P d mi pc lv (u :: st) w r w2 := by
  subst hp
  refine x_step ho (q := (_, _, _, _)) ?_ k
  exact if_pos hc
  all_goals rfl
theorem x_pop {u : bV} (ho : P.1 mi pc = some (.pop, j, a, b, v)) (hc : bvc u = 1) (hp : pc + 1 = pc') (k : bX P d mi pc' lv st w r w2) : bX P d mi pc lv (u :: st) w r w2 := by
  subst hp
  refine x_step ho (q := (_, _, _, _)) ?_ k
  exact if_pos hc
  all_goals rfl
theorem x_dup22 {u : bV} (ho : P.1 mi pc = some (.dup2, j, a, b, v)) (hc : bvc u = 2) (hp : pc + 1 = pc') (k : bX P d mi pc' lv (u :: u :: st) w r w2) : bX P d mi pc lv (u :: st) w r w2 := by
  subst hp
  refine x_step ho (q := (_, _, _, _)) ?_ k
  exact if_pos hc
  all_goals rfl
theorem x_dup211 {u z : bV} (ho : P.1 mi pc = some (.dup2, j, a, b, v)) (hc : bvc u = 1) (hz : bvc z = 1) (hp : pc + 1 = pc') (k : bX P d mi pc' lv (u :: z :: u :: z :: st) w r w2) : bX P d mi pc lv (u :: z :: st) w r w2 := by
  subst hp
  refine x_step ho (q := (_, _, _, _)) ?_ k
  simp only [bstep, bdup2]
  rw [if_neg (show ¬ bvc u = 2 from fun h => absurd (hc.symm.trans h) (by decide)), if_pos ⟨hc, hz⟩]
  all_goals rfl
theorem x_pop2 {u : bV} (ho : P.1 mi pc = some (.pop2, j, a, b, v)) (hc : bvc u = 2) (hp : pc + 1 = pc') (k : bX P d mi pc' lv st w r w2) : bX P d mi pc lv (u :: st) w r w2 := by
  subst hp
  refine x_step ho (q := (_, _, _, _)) ?_ k
  exact if_pos hc
  all_goals rfl
theorem x_go {n : Int} (ho : P.1 mi pc = some (.goto n, j, a, b, v))   (k : bX P d mi a lv st w r w2) : bX P d mi pc lv st w r w2 := by
  exact x_step ho rfl k
theorem x_jt {c : ClassFile.Cond} {n : Int} {x : Int32} (ho : P.1 mi pc = some (.ifCond c n, j, a, b, v)) (hc : bcmp c x 0 = true)  (k : bX P d mi a lv st w r w2) : bX P d mi pc lv (.inl x :: st) w r w2 := by
  refine x_step ho rfl ?_
  simp only [hc, if_true]
  exact k
theorem x_jf {c : ClassFile.Cond} {n : Int} {x : Int32} (ho : P.1 mi pc = some (.ifCond c n, j, a, b, v)) (hc : bcmp c x 0 = false) (hp : pc + 3 = pc') (k : bX P d mi pc' lv st w r w2) : bX P d mi pc lv (.inl x :: st) w r w2 := by
  subst hp
  refine x_step ho rfl ?_
  simp only [hc]
  exact k
theorem x_ct {c : ClassFile.Cond} {n : Int} {x y : Int32} (ho : P.1 mi pc = some (.if_icmp c n, j, a, b, v)) (hc : bcmp c x y = true)  (k : bX P d mi a lv st w r w2) : bX P d mi pc lv (.inl y :: .inl x :: st) w r w2 := by
  refine x_step ho rfl ?_
  simp only [hc, if_true]
  exact k
theorem x_cf {c : ClassFile.Cond} {n : Int} {x y : Int32} (ho : P.1 mi pc = some (.if_icmp c n, j, a, b, v)) (hc : bcmp c x y = false) (hp : pc + 3 = pc') (k : bX P d mi pc' lv st w r w2) : bX P d mi pc lv (.inl y :: .inl x :: st) w r w2 := by
  subst hp
  refine x_step ho rfl ?_
  simp only [hc]
  exact k
theorem x_gf {ix z : Nat} {fs : List bV} {y : bV} (ho : P.1 mi pc = some (.getfield ix, j, a, b, v)) (hr : w.1[z]? = some (.inl (a, fs))) (hv : fs[b]? = some y) (hp : pc + 3 = pc') (k : bX P d mi pc' lv (y :: st) w r w2) : bX P d mi pc lv (.inr (.inr (.inl z)) :: st) w r w2 := by
  subst hp
  refine x_step ho (q := (_, _, _, _)) ?_ k
  simp only [bstep, bgf, hr, if_true, hv]
  all_goals rfl
theorem x_pf {ix z : Nat} {fs fs2 : List bV} {y : bV} (ho : P.1 mi pc = some (.putfield ix, j, a, b, v)) (hr : w.1[z]? = some (.inl (a, fs))) (hb : b < fs.length) (hy : bokf ((bty a).getD b .byte) y = true) (hf : fs.set b y = fs2) (hp : pc + 3 = pc') (k : bX P d mi pc' lv st (w.1.set z (.inl (a, fs2)), w.2) r w2) : bX P d mi pc lv (y :: .inr (.inr (.inl z)) :: st) w r w2 := by
  subst hp
  subst hf
  refine x_step ho (q := (_, _, _, _)) ?_ k
  simp only [bstep, bpf, hr, hb, hy, and_self, if_true]
  all_goals rfl
theorem x_ial {z : Nat} {xs : List Int32} {i y : Int32} (ho : P.1 mi pc = some (.iaload, j, a, b, v)) (hr : w.1[z]? = some (.inr (.inl (1, xs)))) (hi : bin i xs.length = true) (hv : xs.getD i.toNatClampNeg 0 = y) (hp : pc + 1 = pc') (k : bX P d mi pc' lv (.inl y :: st) w r w2) : bX P d mi pc lv (.inl i :: .inr (.inr (.inl z)) :: st) w r w2 := by
  subst hp
  subst hv
  refine x_step ho (q := (_, _, _, _)) ?_ k
  simp only [bstep, bld, bld, barr, hr, bload, hi, and_self, or_true, true_or, if_true]
  all_goals rfl
theorem x_cal {z : Nat} {xs : List Int32} {i y : Int32} (ho : P.1 mi pc = some (.caload, j, a, b, v)) (hr : w.1[z]? = some (.inr (.inl (0, xs)))) (hi : bin i xs.length = true) (hv : xs.getD i.toNatClampNeg 0 = y) (hp : pc + 1 = pc') (k : bX P d mi pc' lv (.inl y :: st) w r w2) : bX P d mi pc lv (.inl i :: .inr (.inr (.inl z)) :: st) w r w2 := by
  subst hp
  subst hv
  refine x_step ho (q := (_, _, _, _)) ?_ k
  simp only [bstep, bld, bld, barr, hr, bload, hi, and_self, or_true, true_or, if_true]
  all_goals rfl
theorem x_zal {z : Nat} {xs : List Int32} {i y : Int32} (ho : P.1 mi pc = some (.baload, j, a, b, v)) (hr : w.1[z]? = some (.inr (.inl (3, xs)))) (hi : bin i xs.length = true) (hv : xs.getD i.toNatClampNeg 0 = y) (hp : pc + 1 = pc') (k : bX P d mi pc' lv (.inl y :: st) w r w2) : bX P d mi pc lv (.inl i :: .inr (.inr (.inl z)) :: st) w r w2 := by
  subst hp
  subst hv
  refine x_step ho (q := (_, _, _, _)) ?_ k
  simp only [bstep, bld, bld, barr, hr, bload, hi, and_self, or_true, true_or, if_true]
  all_goals rfl
theorem x_xal {z : Nat} {xs : List Int32} {i y : Int32} (ho : P.1 mi pc = some (.iaload, j, a, b, v)) (hr : P.2.2.1 z = .inr (.inl (1, xs))) (hi : bin i xs.length = true) (hv : xs.getD i.toNatClampNeg 0 = y) (hp : pc + 1 = pc') (k : bX P d mi pc' lv (.inl y :: st) w r w2) : bX P d mi pc lv (.inl i :: .inr (.inr (.inr (some z))) :: st) w r w2 := by
  subst hp
  subst hv
  refine x_step ho (q := (_, _, _, _)) ?_ k
  simp only [bstep, bld, bld, barr, hr, bload, hi, and_self, or_true, true_or, if_true]
  all_goals rfl
theorem x_lal {z : Nat} {xs : List Int64} {i : Int32} {y : Int64} (ho : P.1 mi pc = some (.laload, j, a, b, v)) (hr : w.1[z]? = some (.inr (.inr (.inl xs)))) (hi : bin i xs.length = true) (hv : xs.getD i.toNatClampNeg 0 = y) (hp : pc + 1 = pc') (k : bX P d mi pc' lv (.inr (.inl y) :: st) w r w2) : bX P d mi pc lv (.inl i :: .inr (.inr (.inl z)) :: st) w r w2 := by
  subst hp
  subst hv
  refine x_step ho (q := (_, _, _, _)) ?_ k
  simp only [bstep, bld, bld, barr, hr, bload, hi, and_self, if_true]
  all_goals rfl
theorem x_xlal {z : Nat} {xs : List Int64} {i : Int32} {y : Int64} (ho : P.1 mi pc = some (.laload, j, a, b, v)) (hr : P.2.2.1 z = .inr (.inr (.inl xs))) (hi : bin i xs.length = true) (hv : xs.getD i.toNatClampNeg 0 = y) (hp : pc + 1 = pc') (k : bX P d mi pc' lv (.inr (.inl y) :: st) w r w2) : bX P d mi pc lv (.inl i :: .inr (.inr (.inr (some z))) :: st) w r w2 := by
  subst hp
  subst hv
  refine x_step ho (q := (_, _, _, _)) ?_ k
  simp only [bstep, bld, bld, barr, hr, bload, hi, and_self, if_true]
  all_goals rfl
theorem x_aal {z t q : Nat} {xs : List (Option Nat)} {i : Int32} (ho : P.1 mi pc = some (.aaload, j, a, b, v)) (hr : w.1[z]? = some (.inr (.inr (.inr (t, xs))))) (ht : t = 4 ∨ t = 5) (hi : bin i xs.length = true) (hv : xs.getD i.toNatClampNeg none = some q) (hp : pc + 1 = pc') (k : bX P d mi pc' lv (.inr (.inr (.inl q)) :: st) w r w2) : bX P d mi pc lv (.inl i :: .inr (.inr (.inl z)) :: st) w r w2 := by
  subst hp
  refine x_step ho (q := (_, _, _, _)) ?_ k
  simp only [bstep, bld, bld, barr, hr, bload, hi, ht, and_self, if_true, hv]
  all_goals rfl
theorem x_ias {z : Nat} {xs xs2 : List Int32} {i y : Int32} (ho : P.1 mi pc = some (.iastore, j, a, b, v)) (hr : w.1[z]? = some (.inr (.inl (1, xs)))) (hi : bin i xs.length = true) (hv : xs.set i.toNatClampNeg (vp_nar .int y) = xs2) (hp : pc + 1 = pc') (k : bX P d mi pc' lv st (w.1.set z (.inr (.inl (1, xs2))), w.2) r w2) : bX P d mi pc lv (.inl y :: .inl i :: .inr (.inr (.inl z)) :: st) w r w2 := by
  subst hp
  subst hv
  refine x_step ho (q := (_, _, _, _)) ?_ k
  simp only [bstep, bast, bast, hr, hi, and_self, if_true]
  all_goals rfl
theorem x_cas {z : Nat} {xs xs2 : List Int32} {i y : Int32} (ho : P.1 mi pc = some (.castore, j, a, b, v)) (hr : w.1[z]? = some (.inr (.inl (0, xs)))) (hi : bin i xs.length = true) (hv : xs.set i.toNatClampNeg (vp_nar .char y) = xs2) (hp : pc + 1 = pc') (k : bX P d mi pc' lv st (w.1.set z (.inr (.inl (0, xs2))), w.2) r w2) : bX P d mi pc lv (.inl y :: .inl i :: .inr (.inr (.inl z)) :: st) w r w2 := by
  subst hp
  subst hv
  refine x_step ho (q := (_, _, _, _)) ?_ k
  simp only [bstep, bast, bast, hr, hi, and_self, if_true]
  all_goals rfl
theorem x_zas {z : Nat} {xs xs2 : List Int32} {i y : Int32} (ho : P.1 mi pc = some (.bastore, j, a, b, v)) (hr : w.1[z]? = some (.inr (.inl (3, xs)))) (hi : bin i xs.length = true) (hv : xs.set i.toNatClampNeg (vp_nar .boolean y) = xs2) (hp : pc + 1 = pc') (k : bX P d mi pc' lv st (w.1.set z (.inr (.inl (3, xs2))), w.2) r w2) : bX P d mi pc lv (.inl y :: .inl i :: .inr (.inr (.inl z)) :: st) w r w2 := by
  subst hp
  subst hv
  refine x_step ho (q := (_, _, _, _)) ?_ k
  simp only [bstep, bast, bast, hr, hi, and_self, if_true]
  all_goals rfl
theorem x_las {z : Nat} {xs xs2 : List Int64} {i : Int32} {y : Int64} (ho : P.1 mi pc = some (.lastore, j, a, b, v)) (hr : w.1[z]? = some (.inr (.inr (.inl xs)))) (hi : bin i xs.length = true) (hv : xs.set i.toNatClampNeg y = xs2) (hp : pc + 1 = pc') (k : bX P d mi pc' lv st (w.1.set z (.inr (.inr (.inl xs2))), w.2) r w2) : bX P d mi pc lv (.inr (.inl y) :: .inl i :: .inr (.inr (.inl z)) :: st) w r w2 := by
  subst hp
  subst hv
  refine x_step ho (q := (_, _, _, _)) ?_ k
  simp only [bstep, blast, blast, hr, hi, if_true]
  all_goals rfl
theorem x_aas {z t y ci : Nat} {xs xs2 : List (Option Nat)} {fs : List bV} {i : Int32} (ho : P.1 mi pc = some (.aastore, j, a, b, v)) (hr : w.1[z]? = some (.inr (.inr (.inr (t, xs))))) (hy : w.1[y]? = some (.inl (ci, fs))) (ht : t = 4 ∨ t = 5) (hc : ci = bcls t) (hi : bin i xs.length = true) (hv : xs.set i.toNatClampNeg (some y) = xs2) (hp : pc + 1 = pc') (k : bX P d mi pc' lv st (w.1.set z (.inr (.inr (.inr (t, xs2)))), w.2) r w2) : bX P d mi pc lv (.inr (.inr (.inl y)) :: .inl i :: .inr (.inr (.inl z)) :: st) w r w2 := by
  subst hp
  subst hv
  refine x_step ho (q := (_, _, _, _)) ?_ k
  simp only [bstep, baast, hr, hy]
  exact if_pos ⟨ht, hc, hi⟩
  all_goals rfl
theorem x_alen {c : bC} {u : bV} {n : Nat} {x : Int32} (ho : P.1 mi pc = some (.arraylength, j, a, b, v)) (hr : barr P.2.2.1 w u = some c) (hn : blen c = some n) (hv : Int32.ofNat n = x) (hp : pc + 1 = pc') (k : bX P d mi pc' lv (.inl x :: st) w r w2) : bX P d mi pc lv (u :: st) w r w2 := by
  subst hp
  subst hv
  refine x_step ho (q := (_, _, _, _)) ?_ k
  simp only [bstep, balen, balen, hr, hn]
  all_goals rfl
theorem x_gs {ix : Nat} (ho : P.1 mi pc = some (.getstatic ix, j, a, b, v))  (hp : pc + 3 = pc') (k : bX P d mi pc' lv (.inr (.inr (.inr (some a))) :: st) w r w2) : bX P d mi pc lv st w r w2 := by
  subst hp
  exact x_step ho rfl k
theorem x_new {ix n : Nat} {fs : List bV} (ho : P.1 mi pc = some (.new ix, j, a, b, v)) (hw : w.2 = 0) (hv : v = 0) (hf : (bty a).map bdf = fs) (hn : w.1.length = n) (hp : pc + 3 = pc') (k : bX P d mi pc' lv (.inr (.inr (.inl n)) :: st) (w.1 ++ [.inl (a, fs)], w.2) r w2) : bX P d mi pc lv st w r w2 := by
  subst hp
  subst hf
  subst hn
  refine x_step ho (q := (_, _, _, _)) ?_ k
  exact if_pos ⟨hw, hv⟩
  all_goals rfl
theorem x_nwi {t : ArrayType} {n : Nat} {m : Int32} (ho : P.1 mi pc = some (.newarray t, j, a, b, v)) (hw : w.2 = 0) (hm : ¬ m < 0) (hq : m.toNatClampNeg * 8 ≤ 536870912) (ha : ¬ a = 2) (hn : w.1.length = n) (hp : pc + 2 = pc') (k : bX P d mi pc' lv (.inr (.inr (.inl n)) :: st) (w.1 ++ [.inr (.inl (a, List.replicate m.toNatClampNeg 0))], w.2) r w2) : bX P d mi pc lv (.inl m :: st) w r w2 := by
  subst hp
  subst hn
  refine x_step ho (q := (_, _, _, _)) ?_ k
  simp only [bstep, bnwa]
  rw [if_neg ha]
  exact if_pos ⟨hw, hm, hq⟩
  all_goals rfl
theorem x_nwl {t : ArrayType} {n : Nat} {m : Int32} (ho : P.1 mi pc = some (.newarray t, j, a, b, v)) (hw : w.2 = 0) (hm : ¬ m < 0) (hq : m.toNatClampNeg * 8 ≤ 536870912) (ha : a = 2) (hn : w.1.length = n) (hp : pc + 2 = pc') (k : bX P d mi pc' lv (.inr (.inr (.inl n)) :: st) (w.1 ++ [.inr (.inr (.inl (List.replicate m.toNatClampNeg 0)))], w.2) r w2) : bX P d mi pc lv (.inl m :: st) w r w2 := by
  subst hp
  subst hn
  refine x_step ho (q := (_, _, _, _)) ?_ k
  simp only [bstep, bnwa]
  rw [if_pos ha]
  exact if_pos ⟨hw, hm, hq⟩
  all_goals rfl
theorem x_nwq {ix n : Nat} {m : Int32} (ho : P.1 mi pc = some (.anewarray ix, j, a, b, v)) (hw : w.2 = 0) (hm : ¬ m < 0) (hq : m.toNatClampNeg * 8 ≤ 536870912) (hn : w.1.length = n) (hp : pc + 3 = pc') (k : bX P d mi pc' lv (.inr (.inr (.inl n)) :: st) (w.1 ++ [.inr (.inr (.inr (a, List.replicate m.toNatClampNeg none)))], w.2) r w2) : bX P d mi pc lv (.inl m :: st) w r w2 := by
  subst hp
  subst hn
  refine x_step ho (q := (_, _, _, _)) ?_ k
  exact if_pos ⟨hw, hm, hq⟩
  all_goals rfl
theorem x_obj {ix z : Nat} (ho : P.1 mi pc = some (.invokespecial ix, j, a, b, v)) (hv : v = 1) (hs : (st.map bvc).sum ≤ 8) (hp : pc + 3 = pc') (k : bX P d mi pc' lv st w r w2) : bX P d mi pc lv (.inr (.inr (.inl z)) :: st) w r w2 := by
  subst hp
  refine x_step ho (q := (_, _, _, _)) ?_ k
  exact if_pos ⟨hv, hs⟩
  all_goals rfl
theorem x_tswi {dflt lo hi off : Int} {offs : Array Int} {x : Int32} (ho : P.1 mi pc = some (.tableswitch dflt lo hi offs, j, a, b, v)) (h1 : ¬ (x.toInt < lo ∨ hi < x.toInt)) (h2 : offs[(x.toInt - lo).toNat]? = some off) (h3 : (pc : Int) + off = (pc' : Int)) (k : bX P d mi pc' lv st w r w2) : bX P d mi pc lv (.inl x :: st) w r w2 := by
  refine x_step ho (q := (pc', lv, st, w)) ?_ k
  simp only [bstep, btsw, if_neg h1, h2]
  rw [if_pos (by omega), h3]
  rfl
theorem x_tswo {dflt lo hi : Int} {offs : Array Int} {x : Int32} (ho : P.1 mi pc = some (.tableswitch dflt lo hi offs, j, a, b, v)) (h1 : x.toInt < lo ∨ hi < x.toInt) (h3 : (pc : Int) + dflt = (pc' : Int)) (k : bX P d mi pc' lv st w r w2) : bX P d mi pc lv (.inl x :: st) w r w2 := by
  refine x_step ho (q := (pc', lv, st, w)) ?_ k
  simp only [bstep, btsw, if_pos h1]
  rw [if_pos (by omega), h3]
  rfl
theorem x_lsw {dflt off : Int} {ps : Array (Int × Int)} {x : Int32} (ho : P.1 mi pc = some (.lookupswitch dflt ps, j, a, b, v)) (h2 : Op.lookupswitch.offset ps.toList dflt x.toInt = off) (h3 : (pc : Int) + off = (pc' : Int)) (k : bX P d mi pc' lv st w r w2) : bX P d mi pc lv (.inl x :: st) w r w2 := by
  refine x_step ho (q := (pc', lv, st, w)) ?_ k
  simp only [bstep, blsw, h2]
  rw [if_pos (by omega), h3]
  rfl
theorem x_iret {x : Int32} {t : FieldType} (ho : P.1 mi pc = some (.ireturn, j, a, b, v)) (ht : (P.2.1 mi).2.2.2.1 = some t) (hk : bokf t (.inl x) = true) : bX P d mi pc lv [.inl x] w (.inl (some (.inl x))) w :=
  x_ret ho (by rw [ht]; show (if bokf t (.inl x) = true then _ else none) = _; exact if_pos hk)
theorem x_lret {x : Int64} (ho : P.1 mi pc = some (.lreturn, j, a, b, v)) (ht : (P.2.1 mi).2.2.2.1 = some .long) : bX P d mi pc lv [.inr (.inl x)] w (.inl (some (.inr (.inl x)))) w :=
  x_ret ho (by rw [ht]; rfl)
theorem x_aret {x : Nat} {n : String} (ho : P.1 mi pc = some (.areturn, j, a, b, v)) (ht : (P.2.1 mi).2.2.2.1 = some (.object n)) : bX P d mi pc lv [.inr (.inr (.inl x))] w (.inl (some (.inr (.inr (.inl x))))) w :=
  x_ret ho (by rw [ht]; rfl)
theorem x_vret (ho : P.1 mi pc = some (.return_, j, a, b, v)) (ht : (P.2.1 mi).2.2.2.1 = none) : bX P d mi pc lv [] w (.inl none) w :=
  x_ret ho (by rw [ht]; rfl)
theorem x_cs0 {ix : Nat}  {z : Option bV} {st2 : List bV} (ho : P.1 mi pc = some (.invokestatic ix, j, a, 0, v)) (hs : (st.map bvc).sum ≤ 8) (hl : ([].map bvc).sum ≤ (P.2.1 a).2.2.1) (h : bX P d a 0 (blva 0 []) [] w (.inl z) w1) (hp : pc + 3 = pc') (hz : z.toList ++ st = st2) (k : bX P (d + 1) mi pc' lv st2 w1 r w2) : bX P (d + 1) mi pc lv (st) w r w2 := by
  subst hp
  subst hz
  exact x_call ho (q := (a, [], st)) (if_pos ⟨by simp, hs⟩) hl h k
theorem x_cv0 {ix q c : Nat} {fs : List bV}  {z : Option bV} {st2 : List bV} (ho : P.1 mi pc = some (.invokevirtual ix, j, a, 0, v)) (hq : w.1[q]? = some (.inl (c, fs))) (hc : (c : Int) = v) (hs : (st.map bvc).sum ≤ 8) (hl : ((.inr (.inr (.inl q)) :: [] : List bV).map bvc).sum ≤ (P.2.1 a).2.2.1) (h : bX P d a 0 (blva 0 (.inr (.inr (.inl q)) :: [])) [] w (.inl z) w1) (hp : pc + 3 = pc') (hz : z.toList ++ st = st2) (k : bX P (d + 1) mi pc' lv st2 w1 r w2) : bX P (d + 1) mi pc lv (.inr (.inr (.inl q)) :: st) w r w2 := by
  subst hp
  subst hz
  exact x_call ho (q := (a, .inr (.inr (.inl q)) :: [], st)) (by show (match w.1[q]? with | some (.inl (ci, _)) => _ | _ => none) = _; rw [hq]; exact if_pos ⟨hc, hs⟩) hl h k
theorem x_ov0 {ix q c : Nat} {fs : List bV}  {x : String} (ho : P.1 mi pc = some (.invokevirtual ix, j, a, 0, v)) (hq : w.1[q]? = some (.inl (c, fs))) (hc : (c : Int) = v) (hs : (st.map bvc).sum ≤ 8) (hl : ((.inr (.inr (.inl q)) :: [] : List bV).map bvc).sum ≤ (P.2.1 a).2.2.1) (h : bX P d a 0 (blva 0 (.inr (.inr (.inl q)) :: [])) [] w (.inr x) w1) (hH : (P.2.1 mi).2.2.2.2 = []) : bX P (d + 1) mi pc lv (.inr (.inr (.inl q)) :: st) w (.inr x) w1 :=
  x_callO ho (q := (a, .inr (.inr (.inl q)) :: [], st)) (by show (match w.1[q]? with | some (.inl (ci, _)) => _ | _ => none) = _; rw [hq]; exact if_pos ⟨hc, hs⟩) hl h hH rfl
theorem x_ci0 {ix q : Nat}  {z : Option bV} {st2 : List bV} (ho : P.1 mi pc = some (.invokespecial ix, j, a, 0, 0)) (hs : (st.map bvc).sum ≤ 8) (hl : ((.inr (.inr (.inl q)) :: [] : List bV).map bvc).sum ≤ (P.2.1 a).2.2.1) (h : bX P d a 0 (blva 0 (.inr (.inr (.inl q)) :: [])) [] w (.inl z) w1) (hp : pc + 3 = pc') (hz : z.toList ++ st = st2) (k : bX P (d + 1) mi pc' lv st2 w1 r w2) : bX P (d + 1) mi pc lv (.inr (.inr (.inl q)) :: st) w r w2 := by
  subst hp
  subst hz
  exact x_call ho (q := (a, .inr (.inr (.inl q)) :: [], st)) (if_pos ⟨rfl, hs⟩) hl h k
theorem x_cs1 {ix : Nat} {u1 : bV} {z : Option bV} {st2 : List bV} (ho : P.1 mi pc = some (.invokestatic ix, j, a, 1, v)) (hs : (st.map bvc).sum ≤ 8) (hl : ([u1].map bvc).sum ≤ (P.2.1 a).2.2.1) (h : bX P d a 0 (blva 0 [u1]) [] w (.inl z) w1) (hp : pc + 3 = pc') (hz : z.toList ++ st = st2) (k : bX P (d + 1) mi pc' lv st2 w1 r w2) : bX P (d + 1) mi pc lv (u1 :: st) w r w2 := by
  subst hp
  subst hz
  exact x_call ho (q := (a, [u1], st)) (if_pos ⟨by simp, hs⟩) hl h k
theorem x_cv1 {ix q c : Nat} {fs : List bV} {u1 : bV} {z : Option bV} {st2 : List bV} (ho : P.1 mi pc = some (.invokevirtual ix, j, a, 1, v)) (hq : w.1[q]? = some (.inl (c, fs))) (hc : (c : Int) = v) (hs : (st.map bvc).sum ≤ 8) (hl : ((.inr (.inr (.inl q)) :: [u1] : List bV).map bvc).sum ≤ (P.2.1 a).2.2.1) (h : bX P d a 0 (blva 0 (.inr (.inr (.inl q)) :: [u1])) [] w (.inl z) w1) (hp : pc + 3 = pc') (hz : z.toList ++ st = st2) (k : bX P (d + 1) mi pc' lv st2 w1 r w2) : bX P (d + 1) mi pc lv (u1 :: .inr (.inr (.inl q)) :: st) w r w2 := by
  subst hp
  subst hz
  exact x_call ho (q := (a, .inr (.inr (.inl q)) :: [u1], st)) (by show (match w.1[q]? with | some (.inl (ci, _)) => _ | _ => none) = _; rw [hq]; exact if_pos ⟨hc, hs⟩) hl h k
theorem x_ov1 {ix q c : Nat} {fs : List bV} {u1 : bV} {x : String} (ho : P.1 mi pc = some (.invokevirtual ix, j, a, 1, v)) (hq : w.1[q]? = some (.inl (c, fs))) (hc : (c : Int) = v) (hs : (st.map bvc).sum ≤ 8) (hl : ((.inr (.inr (.inl q)) :: [u1] : List bV).map bvc).sum ≤ (P.2.1 a).2.2.1) (h : bX P d a 0 (blva 0 (.inr (.inr (.inl q)) :: [u1])) [] w (.inr x) w1) (hH : (P.2.1 mi).2.2.2.2 = []) : bX P (d + 1) mi pc lv (u1 :: .inr (.inr (.inl q)) :: st) w (.inr x) w1 :=
  x_callO ho (q := (a, .inr (.inr (.inl q)) :: [u1], st)) (by show (match w.1[q]? with | some (.inl (ci, _)) => _ | _ => none) = _; rw [hq]; exact if_pos ⟨hc, hs⟩) hl h hH rfl
theorem x_ci1 {ix q : Nat} {u1 : bV} {z : Option bV} {st2 : List bV} (ho : P.1 mi pc = some (.invokespecial ix, j, a, 1, 0)) (hs : (st.map bvc).sum ≤ 8) (hl : ((.inr (.inr (.inl q)) :: [u1] : List bV).map bvc).sum ≤ (P.2.1 a).2.2.1) (h : bX P d a 0 (blva 0 (.inr (.inr (.inl q)) :: [u1])) [] w (.inl z) w1) (hp : pc + 3 = pc') (hz : z.toList ++ st = st2) (k : bX P (d + 1) mi pc' lv st2 w1 r w2) : bX P (d + 1) mi pc lv (u1 :: .inr (.inr (.inl q)) :: st) w r w2 := by
  subst hp
  subst hz
  exact x_call ho (q := (a, .inr (.inr (.inl q)) :: [u1], st)) (if_pos ⟨rfl, hs⟩) hl h k
theorem x_cs2 {ix : Nat} {u1 u2 : bV} {z : Option bV} {st2 : List bV} (ho : P.1 mi pc = some (.invokestatic ix, j, a, 2, v)) (hs : (st.map bvc).sum ≤ 8) (hl : ([u1, u2].map bvc).sum ≤ (P.2.1 a).2.2.1) (h : bX P d a 0 (blva 0 [u1, u2]) [] w (.inl z) w1) (hp : pc + 3 = pc') (hz : z.toList ++ st = st2) (k : bX P (d + 1) mi pc' lv st2 w1 r w2) : bX P (d + 1) mi pc lv (u2 :: u1 :: st) w r w2 := by
  subst hp
  subst hz
  exact x_call ho (q := (a, [u1, u2], st)) (if_pos ⟨by simp, hs⟩) hl h k
theorem x_cv2 {ix q c : Nat} {fs : List bV} {u1 u2 : bV} {z : Option bV} {st2 : List bV} (ho : P.1 mi pc = some (.invokevirtual ix, j, a, 2, v)) (hq : w.1[q]? = some (.inl (c, fs))) (hc : (c : Int) = v) (hs : (st.map bvc).sum ≤ 8) (hl : ((.inr (.inr (.inl q)) :: [u1, u2] : List bV).map bvc).sum ≤ (P.2.1 a).2.2.1) (h : bX P d a 0 (blva 0 (.inr (.inr (.inl q)) :: [u1, u2])) [] w (.inl z) w1) (hp : pc + 3 = pc') (hz : z.toList ++ st = st2) (k : bX P (d + 1) mi pc' lv st2 w1 r w2) : bX P (d + 1) mi pc lv (u2 :: u1 :: .inr (.inr (.inl q)) :: st) w r w2 := by
  subst hp
  subst hz
  exact x_call ho (q := (a, .inr (.inr (.inl q)) :: [u1, u2], st)) (by show (match w.1[q]? with | some (.inl (ci, _)) => _ | _ => none) = _; rw [hq]; exact if_pos ⟨hc, hs⟩) hl h k
theorem x_ov2 {ix q c : Nat} {fs : List bV} {u1 u2 : bV} {x : String} (ho : P.1 mi pc = some (.invokevirtual ix, j, a, 2, v)) (hq : w.1[q]? = some (.inl (c, fs))) (hc : (c : Int) = v) (hs : (st.map bvc).sum ≤ 8) (hl : ((.inr (.inr (.inl q)) :: [u1, u2] : List bV).map bvc).sum ≤ (P.2.1 a).2.2.1) (h : bX P d a 0 (blva 0 (.inr (.inr (.inl q)) :: [u1, u2])) [] w (.inr x) w1) (hH : (P.2.1 mi).2.2.2.2 = []) : bX P (d + 1) mi pc lv (u2 :: u1 :: .inr (.inr (.inl q)) :: st) w (.inr x) w1 :=
  x_callO ho (q := (a, .inr (.inr (.inl q)) :: [u1, u2], st)) (by show (match w.1[q]? with | some (.inl (ci, _)) => _ | _ => none) = _; rw [hq]; exact if_pos ⟨hc, hs⟩) hl h hH rfl
theorem x_ci2 {ix q : Nat} {u1 u2 : bV} {z : Option bV} {st2 : List bV} (ho : P.1 mi pc = some (.invokespecial ix, j, a, 2, 0)) (hs : (st.map bvc).sum ≤ 8) (hl : ((.inr (.inr (.inl q)) :: [u1, u2] : List bV).map bvc).sum ≤ (P.2.1 a).2.2.1) (h : bX P d a 0 (blva 0 (.inr (.inr (.inl q)) :: [u1, u2])) [] w (.inl z) w1) (hp : pc + 3 = pc') (hz : z.toList ++ st = st2) (k : bX P (d + 1) mi pc' lv st2 w1 r w2) : bX P (d + 1) mi pc lv (u2 :: u1 :: .inr (.inr (.inl q)) :: st) w r w2 := by
  subst hp
  subst hz
  exact x_call ho (q := (a, .inr (.inr (.inl q)) :: [u1, u2], st)) (if_pos ⟨rfl, hs⟩) hl h k
theorem x_cs3 {ix : Nat} {u1 u2 u3 : bV} {z : Option bV} {st2 : List bV} (ho : P.1 mi pc = some (.invokestatic ix, j, a, 3, v)) (hs : (st.map bvc).sum ≤ 8) (hl : ([u1, u2, u3].map bvc).sum ≤ (P.2.1 a).2.2.1) (h : bX P d a 0 (blva 0 [u1, u2, u3]) [] w (.inl z) w1) (hp : pc + 3 = pc') (hz : z.toList ++ st = st2) (k : bX P (d + 1) mi pc' lv st2 w1 r w2) : bX P (d + 1) mi pc lv (u3 :: u2 :: u1 :: st) w r w2 := by
  subst hp
  subst hz
  exact x_call ho (q := (a, [u1, u2, u3], st)) (if_pos ⟨by simp, hs⟩) hl h k
theorem x_cv3 {ix q c : Nat} {fs : List bV} {u1 u2 u3 : bV} {z : Option bV} {st2 : List bV} (ho : P.1 mi pc = some (.invokevirtual ix, j, a, 3, v)) (hq : w.1[q]? = some (.inl (c, fs))) (hc : (c : Int) = v) (hs : (st.map bvc).sum ≤ 8) (hl : ((.inr (.inr (.inl q)) :: [u1, u2, u3] : List bV).map bvc).sum ≤ (P.2.1 a).2.2.1) (h : bX P d a 0 (blva 0 (.inr (.inr (.inl q)) :: [u1, u2, u3])) [] w (.inl z) w1) (hp : pc + 3 = pc') (hz : z.toList ++ st = st2) (k : bX P (d + 1) mi pc' lv st2 w1 r w2) : bX P (d + 1) mi pc lv (u3 :: u2 :: u1 :: .inr (.inr (.inl q)) :: st) w r w2 := by
  subst hp
  subst hz
  exact x_call ho (q := (a, .inr (.inr (.inl q)) :: [u1, u2, u3], st)) (by show (match w.1[q]? with | some (.inl (ci, _)) => _ | _ => none) = _; rw [hq]; exact if_pos ⟨hc, hs⟩) hl h k
theorem x_ov3 {ix q c : Nat} {fs : List bV} {u1 u2 u3 : bV} {x : String} (ho : P.1 mi pc = some (.invokevirtual ix, j, a, 3, v)) (hq : w.1[q]? = some (.inl (c, fs))) (hc : (c : Int) = v) (hs : (st.map bvc).sum ≤ 8) (hl : ((.inr (.inr (.inl q)) :: [u1, u2, u3] : List bV).map bvc).sum ≤ (P.2.1 a).2.2.1) (h : bX P d a 0 (blva 0 (.inr (.inr (.inl q)) :: [u1, u2, u3])) [] w (.inr x) w1) (hH : (P.2.1 mi).2.2.2.2 = []) : bX P (d + 1) mi pc lv (u3 :: u2 :: u1 :: .inr (.inr (.inl q)) :: st) w (.inr x) w1 :=
  x_callO ho (q := (a, .inr (.inr (.inl q)) :: [u1, u2, u3], st)) (by show (match w.1[q]? with | some (.inl (ci, _)) => _ | _ => none) = _; rw [hq]; exact if_pos ⟨hc, hs⟩) hl h hH rfl
theorem x_ci3 {ix q : Nat} {u1 u2 u3 : bV} {z : Option bV} {st2 : List bV} (ho : P.1 mi pc = some (.invokespecial ix, j, a, 3, 0)) (hs : (st.map bvc).sum ≤ 8) (hl : ((.inr (.inr (.inl q)) :: [u1, u2, u3] : List bV).map bvc).sum ≤ (P.2.1 a).2.2.1) (h : bX P d a 0 (blva 0 (.inr (.inr (.inl q)) :: [u1, u2, u3])) [] w (.inl z) w1) (hp : pc + 3 = pc') (hz : z.toList ++ st = st2) (k : bX P (d + 1) mi pc' lv st2 w1 r w2) : bX P (d + 1) mi pc lv (u3 :: u2 :: u1 :: .inr (.inr (.inl q)) :: st) w r w2 := by
  subst hp
  subst hz
  exact x_call ho (q := (a, .inr (.inr (.inl q)) :: [u1, u2, u3], st)) (if_pos ⟨rfl, hs⟩) hl h k
theorem x_cs4 {ix : Nat} {u1 u2 u3 u4 : bV} {z : Option bV} {st2 : List bV} (ho : P.1 mi pc = some (.invokestatic ix, j, a, 4, v)) (hs : (st.map bvc).sum ≤ 8) (hl : ([u1, u2, u3, u4].map bvc).sum ≤ (P.2.1 a).2.2.1) (h : bX P d a 0 (blva 0 [u1, u2, u3, u4]) [] w (.inl z) w1) (hp : pc + 3 = pc') (hz : z.toList ++ st = st2) (k : bX P (d + 1) mi pc' lv st2 w1 r w2) : bX P (d + 1) mi pc lv (u4 :: u3 :: u2 :: u1 :: st) w r w2 := by
  subst hp
  subst hz
  exact x_call ho (q := (a, [u1, u2, u3, u4], st)) (if_pos ⟨by simp, hs⟩) hl h k
theorem x_cv4 {ix q c : Nat} {fs : List bV} {u1 u2 u3 u4 : bV} {z : Option bV} {st2 : List bV} (ho : P.1 mi pc = some (.invokevirtual ix, j, a, 4, v)) (hq : w.1[q]? = some (.inl (c, fs))) (hc : (c : Int) = v) (hs : (st.map bvc).sum ≤ 8) (hl : ((.inr (.inr (.inl q)) :: [u1, u2, u3, u4] : List bV).map bvc).sum ≤ (P.2.1 a).2.2.1) (h : bX P d a 0 (blva 0 (.inr (.inr (.inl q)) :: [u1, u2, u3, u4])) [] w (.inl z) w1) (hp : pc + 3 = pc') (hz : z.toList ++ st = st2) (k : bX P (d + 1) mi pc' lv st2 w1 r w2) : bX P (d + 1) mi pc lv (u4 :: u3 :: u2 :: u1 :: .inr (.inr (.inl q)) :: st) w r w2 := by
  subst hp
  subst hz
  exact x_call ho (q := (a, .inr (.inr (.inl q)) :: [u1, u2, u3, u4], st)) (by show (match w.1[q]? with | some (.inl (ci, _)) => _ | _ => none) = _; rw [hq]; exact if_pos ⟨hc, hs⟩) hl h k
theorem x_ov4 {ix q c : Nat} {fs : List bV} {u1 u2 u3 u4 : bV} {x : String} (ho : P.1 mi pc = some (.invokevirtual ix, j, a, 4, v)) (hq : w.1[q]? = some (.inl (c, fs))) (hc : (c : Int) = v) (hs : (st.map bvc).sum ≤ 8) (hl : ((.inr (.inr (.inl q)) :: [u1, u2, u3, u4] : List bV).map bvc).sum ≤ (P.2.1 a).2.2.1) (h : bX P d a 0 (blva 0 (.inr (.inr (.inl q)) :: [u1, u2, u3, u4])) [] w (.inr x) w1) (hH : (P.2.1 mi).2.2.2.2 = []) : bX P (d + 1) mi pc lv (u4 :: u3 :: u2 :: u1 :: .inr (.inr (.inl q)) :: st) w (.inr x) w1 :=
  x_callO ho (q := (a, .inr (.inr (.inl q)) :: [u1, u2, u3, u4], st)) (by show (match w.1[q]? with | some (.inl (ci, _)) => _ | _ => none) = _; rw [hq]; exact if_pos ⟨hc, hs⟩) hl h hH rfl
theorem x_ci4 {ix q : Nat} {u1 u2 u3 u4 : bV} {z : Option bV} {st2 : List bV} (ho : P.1 mi pc = some (.invokespecial ix, j, a, 4, 0)) (hs : (st.map bvc).sum ≤ 8) (hl : ((.inr (.inr (.inl q)) :: [u1, u2, u3, u4] : List bV).map bvc).sum ≤ (P.2.1 a).2.2.1) (h : bX P d a 0 (blva 0 (.inr (.inr (.inl q)) :: [u1, u2, u3, u4])) [] w (.inl z) w1) (hp : pc + 3 = pc') (hz : z.toList ++ st = st2) (k : bX P (d + 1) mi pc' lv st2 w1 r w2) : bX P (d + 1) mi pc lv (u4 :: u3 :: u2 :: u1 :: .inr (.inr (.inl q)) :: st) w r w2 := by
  subst hp
  subst hz
  exact x_call ho (q := (a, .inr (.inr (.inl q)) :: [u1, u2, u3, u4], st)) (if_pos ⟨rfl, hs⟩) hl h k
theorem x_cs5 {ix : Nat} {u1 u2 u3 u4 u5 : bV} {z : Option bV} {st2 : List bV} (ho : P.1 mi pc = some (.invokestatic ix, j, a, 5, v)) (hs : (st.map bvc).sum ≤ 8) (hl : ([u1, u2, u3, u4, u5].map bvc).sum ≤ (P.2.1 a).2.2.1) (h : bX P d a 0 (blva 0 [u1, u2, u3, u4, u5]) [] w (.inl z) w1) (hp : pc + 3 = pc') (hz : z.toList ++ st = st2) (k : bX P (d + 1) mi pc' lv st2 w1 r w2) : bX P (d + 1) mi pc lv (u5 :: u4 :: u3 :: u2 :: u1 :: st) w r w2 := by
  subst hp
  subst hz
  exact x_call ho (q := (a, [u1, u2, u3, u4, u5], st)) (if_pos ⟨by simp, hs⟩) hl h k
theorem x_cv5 {ix q c : Nat} {fs : List bV} {u1 u2 u3 u4 u5 : bV} {z : Option bV} {st2 : List bV} (ho : P.1 mi pc = some (.invokevirtual ix, j, a, 5, v)) (hq : w.1[q]? = some (.inl (c, fs))) (hc : (c : Int) = v) (hs : (st.map bvc).sum ≤ 8) (hl : ((.inr (.inr (.inl q)) :: [u1, u2, u3, u4, u5] : List bV).map bvc).sum ≤ (P.2.1 a).2.2.1) (h : bX P d a 0 (blva 0 (.inr (.inr (.inl q)) :: [u1, u2, u3, u4, u5])) [] w (.inl z) w1) (hp : pc + 3 = pc') (hz : z.toList ++ st = st2) (k : bX P (d + 1) mi pc' lv st2 w1 r w2) : bX P (d + 1) mi pc lv (u5 :: u4 :: u3 :: u2 :: u1 :: .inr (.inr (.inl q)) :: st) w r w2 := by
  subst hp
  subst hz
  exact x_call ho (q := (a, .inr (.inr (.inl q)) :: [u1, u2, u3, u4, u5], st)) (by show (match w.1[q]? with | some (.inl (ci, _)) => _ | _ => none) = _; rw [hq]; exact if_pos ⟨hc, hs⟩) hl h k
theorem x_ov5 {ix q c : Nat} {fs : List bV} {u1 u2 u3 u4 u5 : bV} {x : String} (ho : P.1 mi pc = some (.invokevirtual ix, j, a, 5, v)) (hq : w.1[q]? = some (.inl (c, fs))) (hc : (c : Int) = v) (hs : (st.map bvc).sum ≤ 8) (hl : ((.inr (.inr (.inl q)) :: [u1, u2, u3, u4, u5] : List bV).map bvc).sum ≤ (P.2.1 a).2.2.1) (h : bX P d a 0 (blva 0 (.inr (.inr (.inl q)) :: [u1, u2, u3, u4, u5])) [] w (.inr x) w1) (hH : (P.2.1 mi).2.2.2.2 = []) : bX P (d + 1) mi pc lv (u5 :: u4 :: u3 :: u2 :: u1 :: .inr (.inr (.inl q)) :: st) w (.inr x) w1 :=
  x_callO ho (q := (a, .inr (.inr (.inl q)) :: [u1, u2, u3, u4, u5], st)) (by show (match w.1[q]? with | some (.inl (ci, _)) => _ | _ => none) = _; rw [hq]; exact if_pos ⟨hc, hs⟩) hl h hH rfl
theorem x_ci5 {ix q : Nat} {u1 u2 u3 u4 u5 : bV} {z : Option bV} {st2 : List bV} (ho : P.1 mi pc = some (.invokespecial ix, j, a, 5, 0)) (hs : (st.map bvc).sum ≤ 8) (hl : ((.inr (.inr (.inl q)) :: [u1, u2, u3, u4, u5] : List bV).map bvc).sum ≤ (P.2.1 a).2.2.1) (h : bX P d a 0 (blva 0 (.inr (.inr (.inl q)) :: [u1, u2, u3, u4, u5])) [] w (.inl z) w1) (hp : pc + 3 = pc') (hz : z.toList ++ st = st2) (k : bX P (d + 1) mi pc' lv st2 w1 r w2) : bX P (d + 1) mi pc lv (u5 :: u4 :: u3 :: u2 :: u1 :: .inr (.inr (.inl q)) :: st) w r w2 := by
  subst hp
  subst hz
  exact x_call ho (q := (a, .inr (.inr (.inl q)) :: [u1, u2, u3, u4, u5], st)) (if_pos ⟨rfl, hs⟩) hl h k
theorem x_cs6 {ix : Nat} {u1 u2 u3 u4 u5 u6 : bV} {z : Option bV} {st2 : List bV} (ho : P.1 mi pc = some (.invokestatic ix, j, a, 6, v)) (hs : (st.map bvc).sum ≤ 8) (hl : ([u1, u2, u3, u4, u5, u6].map bvc).sum ≤ (P.2.1 a).2.2.1) (h : bX P d a 0 (blva 0 [u1, u2, u3, u4, u5, u6]) [] w (.inl z) w1) (hp : pc + 3 = pc') (hz : z.toList ++ st = st2) (k : bX P (d + 1) mi pc' lv st2 w1 r w2) : bX P (d + 1) mi pc lv (u6 :: u5 :: u4 :: u3 :: u2 :: u1 :: st) w r w2 := by
  subst hp
  subst hz
  exact x_call ho (q := (a, [u1, u2, u3, u4, u5, u6], st)) (if_pos ⟨by simp, hs⟩) hl h k
theorem x_cv6 {ix q c : Nat} {fs : List bV} {u1 u2 u3 u4 u5 u6 : bV} {z : Option bV} {st2 : List bV} (ho : P.1 mi pc = some (.invokevirtual ix, j, a, 6, v)) (hq : w.1[q]? = some (.inl (c, fs))) (hc : (c : Int) = v) (hs : (st.map bvc).sum ≤ 8) (hl : ((.inr (.inr (.inl q)) :: [u1, u2, u3, u4, u5, u6] : List bV).map bvc).sum ≤ (P.2.1 a).2.2.1) (h : bX P d a 0 (blva 0 (.inr (.inr (.inl q)) :: [u1, u2, u3, u4, u5, u6])) [] w (.inl z) w1) (hp : pc + 3 = pc') (hz : z.toList ++ st = st2) (k : bX P (d + 1) mi pc' lv st2 w1 r w2) : bX P (d + 1) mi pc lv (u6 :: u5 :: u4 :: u3 :: u2 :: u1 :: .inr (.inr (.inl q)) :: st) w r w2 := by
  subst hp
  subst hz
  exact x_call ho (q := (a, .inr (.inr (.inl q)) :: [u1, u2, u3, u4, u5, u6], st)) (by show (match w.1[q]? with | some (.inl (ci, _)) => _ | _ => none) = _; rw [hq]; exact if_pos ⟨hc, hs⟩) hl h k
theorem x_ov6 {ix q c : Nat} {fs : List bV} {u1 u2 u3 u4 u5 u6 : bV} {x : String} (ho : P.1 mi pc = some (.invokevirtual ix, j, a, 6, v)) (hq : w.1[q]? = some (.inl (c, fs))) (hc : (c : Int) = v) (hs : (st.map bvc).sum ≤ 8) (hl : ((.inr (.inr (.inl q)) :: [u1, u2, u3, u4, u5, u6] : List bV).map bvc).sum ≤ (P.2.1 a).2.2.1) (h : bX P d a 0 (blva 0 (.inr (.inr (.inl q)) :: [u1, u2, u3, u4, u5, u6])) [] w (.inr x) w1) (hH : (P.2.1 mi).2.2.2.2 = []) : bX P (d + 1) mi pc lv (u6 :: u5 :: u4 :: u3 :: u2 :: u1 :: .inr (.inr (.inl q)) :: st) w (.inr x) w1 :=
  x_callO ho (q := (a, .inr (.inr (.inl q)) :: [u1, u2, u3, u4, u5, u6], st)) (by show (match w.1[q]? with | some (.inl (ci, _)) => _ | _ => none) = _; rw [hq]; exact if_pos ⟨hc, hs⟩) hl h hH rfl
theorem x_ci6 {ix q : Nat} {u1 u2 u3 u4 u5 u6 : bV} {z : Option bV} {st2 : List bV} (ho : P.1 mi pc = some (.invokespecial ix, j, a, 6, 0)) (hs : (st.map bvc).sum ≤ 8) (hl : ((.inr (.inr (.inl q)) :: [u1, u2, u3, u4, u5, u6] : List bV).map bvc).sum ≤ (P.2.1 a).2.2.1) (h : bX P d a 0 (blva 0 (.inr (.inr (.inl q)) :: [u1, u2, u3, u4, u5, u6])) [] w (.inl z) w1) (hp : pc + 3 = pc') (hz : z.toList ++ st = st2) (k : bX P (d + 1) mi pc' lv st2 w1 r w2) : bX P (d + 1) mi pc lv (u6 :: u5 :: u4 :: u3 :: u2 :: u1 :: .inr (.inr (.inl q)) :: st) w r w2 := by
  subst hp
  subst hz
  exact x_call ho (q := (a, .inr (.inr (.inl q)) :: [u1, u2, u3, u4, u5, u6], st)) (if_pos ⟨rfl, hs⟩) hl h k
end BROWS
end
section
/-! READING BY COMPUTING, for the kernel: what comes out is read. -/
def bexec (P : bP) (f d mi pc : Nat) (lv : List (Nat × bV)) (st : List bV) (w : bW) : Option (bR × bW) := match f with
  | 0 => none
  | f + 1 => match P.1 mi pc with
    | none => none
    | some o => match bstep P.2.2.1 (P.2.1 mi).2.2.1 o pc lv st w with
      | some q => bexec P f d mi q.1 q.2.1 q.2.2.1 q.2.2.2
      | none => match bret o (P.2.1 mi).2.2.2.1 st with
        | some v => some (.inl v, w)
        | none => match d, bcal o st w with
          | d + 1, some q => if (q.2.1.map bvc).sum ≤ (P.2.1 q.1).2.2.1 then (match bexec P f d q.1 0 (blva 0 q.2.1) [] w with
            | some (.inl v, w1) => bexec P f (d + 1) mi (pc + 3) lv (v.toList ++ q.2.2) w1
            | _ => none) else none
          | _, _ => none
theorem bexec_X {P : bP} (f : Nat) : ∀ {d mi pc : Nat} {lv : List (Nat × bV)} {st : List bV} {w : bW} {q : bR × bW}, bexec P f d mi pc lv st w = some q → bX P d mi pc lv st w q.1 q.2 := by
  induction f with
  | zero => intro d mi pc lv st w q h; cases h
  | succ f ih =>
    intro d mi pc lv st w q h
    unfold bexec at h
    split at h
    · cases h
    · rename_i o ho
      split at h
      · rename_i z hz
        exact x_step ho hz (ih h)
      · split at h
        · rename_i v hv
          cases h
          exact x_ret ho hv
        · split at h
          · rename_i d' z hz
            split at h
            · rename_i hl
              split at h
              · rename_i v w1 hc
                exact x_call ho hz hl (ih hc) (ih h)
              · cases h
            · cases h
          · cases h
/-- so many instructions of a frame -/
def bgo (P : bP) (f n d mi pc : Nat) (lv : List (Nat × bV)) (st : List bV) (w : bW) : Option bF := match n with
  | 0 => some (pc, lv, st, w)
  | n + 1 => match P.1 mi pc with
    | none => none
    | some o => match bstep P.2.2.1 (P.2.1 mi).2.2.1 o pc lv st w with
      | some q => bgo P f n d mi q.1 q.2.1 q.2.2.1 q.2.2.2
      | none => match d, bcal o st w with
        | d + 1, some q => if (q.2.1.map bvc).sum ≤ (P.2.1 q.1).2.2.1 then (match bexec P f d q.1 0 (blva 0 q.2.1) [] w with
          | some (.inl v, w1) => bgo P f n (d + 1) mi (pc + 3) lv (v.toList ++ q.2.2) w1
          | _ => none) else none
        | _, _ => none
theorem bgo_X {P : bP} {f : Nat} (n : Nat) : ∀ {d mi pc : Nat} {lv : List (Nat × bV)} {st : List bV} {w : bW} {q : bF} {r : bR} {w2 : bW}, bgo P f n d mi pc lv st w = some q → bX P d mi q.1 q.2.1 q.2.2.1 q.2.2.2 r w2 → bX P d mi pc lv st w r w2 := by
  induction n with
  | zero => intro d mi pc lv st w q r w2 h k; cases h; exact k
  | succ n ih =>
    intro d mi pc lv st w q r w2 h k
    unfold bgo at h
    split at h
    · cases h
    · rename_i o ho
      split at h
      · rename_i z hz
        exact x_step ho hz (ih h k)
      · split at h
        · rename_i d' z hz
          split at h
          · rename_i hl
            split at h
            · rename_i v w1 hc
              exact x_call ho hz hl (bexec_X f hc) (ih h k)
            · cases h
          · cases h
        · cases h
end
section
/-! THE START: what holds at the law's entry, for the reader. -/
def bTENS : List Int64 := [1, 10, 100, 1000, 10000, 100000, 1000000, 10000000, 100000000, 1000000000, 10000000000, 100000000000, 1000000000000, 10000000000000, 100000000000000, 1000000000000000, 10000000000000000, 100000000000000000, 1000000000000000000]
def bLOGS : List Int32 := [144723770, 286202475, 40420263, 580606132, 816434842, 60624621, 858107802, 935378723, 55147264, 340098946, 926659222, 171850256, 963589623, 982574749, 532999161, 831669494, 483641758, 271933715, 399414725, 140379777, 977489846, 137824345, 689368453, 362905493, 96014427, 749202171, 619669006, 532590180, 628419511, 446287102, 27227338, 640471136, 934870841, 516807224, 764547836, 523248143, 481723062, 192512376, 529205333, 514343546, 746692789, 594707107, 39570955, 147938393, 709650938, 260235838, 245365008, 661398482, 360255254, 75500134, 458176568, 417232121, 559945309, 693147180]
def bARCS : List Int32 := [0, 0, 0, 0, 0, 0, 769804089, 573170191, 163871025, 31354849, 546761435, 124354994, 381184067, 914144098, 211275810, 172082481, 126864154, 244978663, 880915779, 776975655, 926460499, 395920063, 270572220, 358770670, 286120263, 28537054, 461214402, 214256231, 806116, 463647609, 534014806, 346447582, 401661270, 971508216, 343562435, 558599315, 115312382, 41510591, 717322638, 802809228, 793284386, 643501108, 18317085, 951419120, 525904653, 417014151, 621624505, 718829999, 843776455, 49292349, 819875721, 615660845, 397448309, 785398163]
def bE (scr : List Int32) (j : Nat) : bC := match j with
  | 0 => .inr (.inr (.inl bTENS))
  | 1 => .inr (.inl (1, scr))
  | 2 => .inr (.inl (1, bLOGS))
  | 3 => .inr (.inl (1, bARCS))
  | _ => .inl (0, [])
def bexs : List String := ["java/lang/IllegalArgumentException", "java/lang/IllegalStateException", "java/lang/IndexOutOfBoundsException", "java/util/NoSuchElementException", "java/lang/ArithmeticException", "java/lang/UnsupportedOperationException"]
def bcok (x n : String) : Option Bool := if x ∈ bexs ∧ n ∈ bexs then some (decide (x = n)) else none
def bncs : List (String × String) := bexs.flatMap (fun x => (bexs.filter (fun n => decide (x ≠ n))).map (fun n => (x, n)))
noncomputable def bPr (scr : List Int32) : bP := (bop, bmeth, bE scr, bcok, fun x => ((bexx x).1, (bexx x).2.1))
theorem bstart_in0 : ∀ w ∈ u_ws RJ0 TJ0 2, w ∈ lw_tbl := by decide +kernel
theorem bstart_inst0 : (Jvm.Cond.instantiable RJ0 4) ∈ lw_tbl := by decide +kernel
theorem bstart_in1 : ∀ w ∈ u_ws RJx00060 TJx00060 6, w ∈ lw_tbl := by decide +kernel
theorem bstart_inst1 : (Jvm.Cond.instantiable RJx00060 6) ∈ lw_tbl := by decide +kernel
theorem bstart_in2 : ∀ w ∈ u_ws RX0 TX0 6, w ∈ lw_tbl := by decide +kernel
theorem bstart_inst2 : (Jvm.Cond.instantiable RX0 6) ∈ lw_tbl := by decide +kernel
theorem bstart_in3 : ∀ w ∈ u_ws RX1 TX1 2, w ∈ lw_tbl := by decide +kernel
theorem bstart_inst3 : (Jvm.Cond.instantiable RX1 2) ∈ lw_tbl := by decide +kernel
theorem bstart_in4 : ∀ w ∈ u_ws RX2 TX2 2, w ∈ lw_tbl := by decide +kernel
theorem bstart_inst4 : (Jvm.Cond.instantiable RX2 2) ∈ lw_tbl := by decide +kernel
theorem bstart_in5 : ∀ w ∈ u_ws RX3 TX3 13, w ∈ lw_tbl := by decide +kernel
theorem bstart_inst5 : (Jvm.Cond.instantiable RX3 13) ∈ lw_tbl := by decide +kernel
theorem bstart_in6 : ∀ w ∈ u_ws RX4 TX4 2, w ∈ lw_tbl := by decide +kernel
theorem bstart_inst6 : (Jvm.Cond.instantiable RX4 2) ∈ lw_tbl := by decide +kernel
theorem bstart_in7 : ∀ w ∈ u_ws RX5 TX5 12, w ∈ lw_tbl := by decide +kernel
theorem bstart_inst7 : (Jvm.Cond.instantiable RX5 12) ∈ lw_tbl := by decide +kernel
theorem bstart_in8 : ∀ w ∈ u_ws RX6 TX6 8, w ∈ lw_tbl := by decide +kernel
theorem bstart_inst8 : (Jvm.Cond.instantiable RX6 8) ∈ lw_tbl := by decide +kernel
theorem bstart_in9 : ∀ w ∈ u_ws RX7 TX7 4, w ∈ lw_tbl := by decide +kernel
theorem bstart_inst9 : (Jvm.Cond.instantiable RX7 4) ∈ lw_tbl := by decide +kernel
theorem bstart_in10 : ∀ w ∈ u_ws RX8 TX8 13, w ∈ lw_tbl := by decide +kernel
theorem bstart_inst10 : (Jvm.Cond.instantiable RX8 13) ∈ lw_tbl := by decide +kernel
theorem bstart_in11 : ∀ w ∈ u_ws RX9 TX9 7, w ∈ lw_tbl := by decide +kernel
theorem bstart_inst11 : (Jvm.Cond.instantiable RX9 7) ∈ lw_tbl := by decide +kernel
theorem bstart_in12 : ∀ w ∈ u_ws RX10 TX10 2, w ∈ lw_tbl := by decide +kernel
theorem bstart_inst12 : (Jvm.Cond.instantiable RX10 2) ∈ lw_tbl := by decide +kernel
theorem bstart_in13 : ∀ w ∈ u_ws RX11 TX11 17, w ∈ lw_tbl := by decide +kernel
theorem bstart_inst13 : (Jvm.Cond.instantiable RX11 17) ∈ lw_tbl := by decide +kernel
theorem bstart_in14 : ∀ w ∈ u_ws RX12 TX12 43, w ∈ lw_tbl := by decide +kernel
theorem bstart_inst14 : (Jvm.Cond.instantiable RX12 43) ∈ lw_tbl := by decide +kernel
theorem bstart_known {s : State} {args : Array Value} (hts : ∀ w ∈ lw_tbl, w.before args s = true) : ∃ D : va_G, ∀ (k : Nat) (q : vw_C), vwCl[k]? = some q → u_Kn s q.1 q.2.1 q.2.2 (D.1 k) (D.2 k) := by
  obtain ⟨c0, s0, h0⟩ := u_known hts bstart_in0 (hts _ bstart_inst0)
  obtain ⟨c1, s1, h1⟩ := u_known hts bstart_in1 (hts _ bstart_inst1)
  obtain ⟨c2, s2, h2⟩ := u_known hts bstart_in2 (hts _ bstart_inst2)
  obtain ⟨c3, s3, h3⟩ := u_known hts bstart_in3 (hts _ bstart_inst3)
  obtain ⟨c4, s4, h4⟩ := u_known hts bstart_in4 (hts _ bstart_inst4)
  obtain ⟨c5, s5, h5⟩ := u_known hts bstart_in5 (hts _ bstart_inst5)
  obtain ⟨c6, s6, h6⟩ := u_known hts bstart_in6 (hts _ bstart_inst6)
  obtain ⟨c7, s7, h7⟩ := u_known hts bstart_in7 (hts _ bstart_inst7)
  obtain ⟨c8, s8, h8⟩ := u_known hts bstart_in8 (hts _ bstart_inst8)
  obtain ⟨c9, s9, h9⟩ := u_known hts bstart_in9 (hts _ bstart_inst9)
  obtain ⟨c10, s10, h10⟩ := u_known hts bstart_in10 (hts _ bstart_inst10)
  obtain ⟨c11, s11, h11⟩ := u_known hts bstart_in11 (hts _ bstart_inst11)
  obtain ⟨c12, s12, h12⟩ := u_known hts bstart_in12 (hts _ bstart_inst12)
  obtain ⟨c13, s13, h13⟩ := u_known hts bstart_in13 (hts _ bstart_inst13)
  obtain ⟨c14, s14, h14⟩ := u_known hts bstart_in14 (hts _ bstart_inst14)
  refine ⟨(fun k => if k = 0 then c0 else if k = 1 then c1 else if k = 2 then c2 else if k = 3 then c3 else if k = 4 then c4 else if k = 5 then c5 else if k = 6 then c6 else if k = 7 then c7 else if k = 8 then c8 else if k = 9 then c9 else if k = 10 then c10 else if k = 11 then c11 else if k = 12 then c12 else if k = 13 then c13 else c14, fun k => if k = 0 then s0 else if k = 1 then s1 else if k = 2 then s2 else if k = 3 then s3 else if k = 4 then s4 else if k = 5 then s5 else if k = 6 then s6 else if k = 7 then s7 else if k = 8 then s8 else if k = 9 then s9 else if k = 10 then s10 else if k = 11 then s11 else if k = 12 then s12 else if k = 13 then s13 else s14), ?_⟩
  intro k q hq
  match k, hq with
  | 0, hq => cases hq; exact h0
  | 1, hq => cases hq; exact h1
  | 2, hq => cases hq; exact h2
  | 3, hq => cases hq; exact h3
  | 4, hq => cases hq; exact h4
  | 5, hq => cases hq; exact h5
  | 6, hq => cases hq; exact h6
  | 7, hq => cases hq; exact h7
  | 8, hq => cases hq; exact h8
  | 9, hq => cases hq; exact h9
  | 10, hq => cases hq; exact h10
  | 11, hq => cases hq; exact h11
  | 12, hq => cases hq; exact h12
  | 13, hq => cases hq; exact h13
  | 14, hq => cases hq; exact h14
  | k + 15, hq => simp [vwCl] at hq
theorem bstart_prim {s : State} {args : Array Value} {ty : FieldType} (h : (Jvm.Cond.arrayClass ty).before args s = true) (hty : va_RA s 0 ty = (s.vm.findClass ("[" ++ ty.toString) = some 0)) : True := trivial
theorem bstart_arr {s : State} {args : Array Value} (hts : ∀ w ∈ lw_tbl, w.before args s = true) : ∃ cy : Nat → ClassId, ∀ (k : Nat) (q : ClassId × FieldType), (b_tys cy)[k]? = some q → ArrOfT s q.1 q.2 ∧ va_RA s q.1 q.2 := by
  obtain ⟨c0, k0, p0, n0, g0, e0⟩ := Cond.arrayClass_spec (hts (.arrayClass .char) (by decide +kernel))
  obtain ⟨c1, k1, p1, n1, g1, e1⟩ := Cond.arrayClass_spec (hts (.arrayClass .int) (by decide +kernel))
  obtain ⟨c2, k2, p2, n2, g2, e2⟩ := Cond.arrayClass_spec (hts (.arrayClass .long) (by decide +kernel))
  obtain ⟨c3, k3, p3, n3, g3, e3⟩ := Cond.arrayClass_spec (hts (.arrayClass .boolean) (by decide +kernel))
  obtain ⟨p4, c4, k4, m4, -, g4, e4, n4⟩ := Cond.arrayOver_spec (hts (.arrayOver (.object "Boxedvalue$Box")) (by decide +kernel))
  obtain ⟨p5, c5, k5, m5, -, g5, e5, n5⟩ := Cond.arrayOver_spec (hts (.arrayOver (.object "Boxedvalue$Formula")) (by decide +kernel))
  refine ⟨fun k => if k = 0 then c0 else if k = 1 then c1 else if k = 2 then c2 else if k = 3 then c3 else if k = 4 then c4 else c5, ?_⟩
  intro k q hq
  match k, hq with
  | 0, hq => cases hq; exact ⟨fun n z => ⟨fun k h => (by cases h), k0, g0, p0, e0⟩, n0⟩
  | 1, hq => cases hq; exact ⟨fun n z => ⟨fun k h => (by cases h), k1, g1, p1, e1⟩, n1⟩
  | 2, hq => cases hq; exact ⟨fun n z => ⟨fun k h => (by cases h), k2, g2, p2, e2⟩, n2⟩
  | 3, hq => cases hq; exact ⟨fun n z => ⟨fun k h => (by cases h), k3, g3, p3, e3⟩, n3⟩
  | 4, hq => cases hq; exact ⟨fun n z => ⟨fun k h => (by cases h), k4, g4, p4, e4⟩, k4, p4, g4, e4, m4, n4⟩
  | 5, hq => cases hq; exact ⟨fun n z => ⟨fun k h => (by cases h), k5, g5, p5, e5⟩, k5, p5, g5, e5, m5, n5⟩
  | k + 6, hq => simp [b_tys] at hq
theorem bstart_bTENS : ((List.range 19).all (fun j => decide (Jvm.Cond.eq (.elem (.static "Boxedvalue" "TENS" "[J") (.int (Int32.ofNat j))) (.long (bTENS.getD j 0)) ∈ flatC narrow_1))) = true := by decide +kernel
theorem bstart_bLOGS : ((List.range 54).all (fun j => decide (Jvm.Cond.eq (.elem (.static "Boxedvalue$Curves" "LOGS" "[I") (.int (Int32.ofNat j))) (.int (bLOGS.getD j 0)) ∈ flatC narrow_1))) = true := by decide +kernel
theorem bstart_bARCS : ((List.range 54).all (fun j => decide (Jvm.Cond.eq (.elem (.static "Boxedvalue$Curves" "ARCS" "[I") (.int (Int32.ofNat j))) (.int (bARCS.getD j 0)) ∈ flatC narrow_1))) = true := by decide +kernel
theorem bstart_nc : ((bncs).all (fun q => decide (Jvm.Cond.not (.castable q.1 q.2) ∈ flatC narrow_1))) = true := by decide +kernel
theorem bstart_str : (bstr.all (fun q => decide (Jvm.Cond.stringRef q.1 q.2.1 q.2.2 ∈ lw_tbl) && decide (q.1 = RX11))) = true := by decide +kernel
theorem bstart_D : (bwD.all (fun x => decide (Jvm.Cond.declares x ∈ lw_tbl))) = true := by decide +kernel
theorem bstart_N : (bwN.all (fun q => decide (Jvm.Cond.fieldLinkNest q.1 q.2.1 q.2.2.1 q.2.2.2.1 q.2.2.2.2.1 q.2.2.2.2.2 ∈ lw_tbl))) = true := by decide +kernel
theorem bstart_M : (bwM.all (fun q => decide (Jvm.Cond.methodLinkNest q.1 q.2.1 q.2.2.1 q.2.2.2 ∈ lw_tbl))) = true := by decide +kernel
theorem bstart_K {s : State} {args : Array Value} {b L : Nat} {xs : Nat → Int32} (hL : L < 2 ^ 31) (hts : ∀ w ∈ lw_tbl, w.before args s = true) (hfl : ∀ w ∈ flatC narrow_1, w.before args s = true) (hX : va_X b L xs s s.heap) (hbl : b < s.heap.size) :
    ∃ K : KE, K.B = s.heap.size ∧ K.X 1 = b ∧ K.str = bstr ∧ K.nc = bncs ∧ bK K s ∧ bEok K (bE ((List.range L).map xs)) := by
  have hA : ∀ a : Nat, a < s.heap.size → ¬ bA s.heap.size a := fun a h h2 => Nat.not_le.mpr h h2
  obtain ⟨D, hD⟩ := bstart_known hts
  obtain ⟨cy, hcy⟩ := bstart_arr hts
  obtain ⟨t0, et0, ht0⟩ := va_Tof (args := args) (s := s) (tm := .static "Boxedvalue" "TENS" "[J") (ty := .long) (N := 19) (f := fun j => .long (bTENS.getD j 0)) (A := bA s.heap.size) (by decide) (hfl _ (by decide +kernel)) (va_eqt (hfl (.eq (.length (.static "Boxedvalue" "TENS" "[J")) (.int 19)) (by decide +kernel))) (fun j hj => va_eqtl (hfl _ (of_decide_eq_true (List.all_eq_true.mp bstart_bTENS j (List.mem_range.mpr hj))))) hA
  have hz0 : va_Z "Boxedvalue" "TENS" "[J" (.ref t0) (bA s.heap.size) s s.heap := va_Zof (hts (.laysStatic "Boxedvalue" "TENS" "[J") (by decide +kernel)) (hts (.initialized "Boxedvalue") (by decide +kernel)) et0 hA
  obtain ⟨t2, et2, ht2⟩ := va_Tof (args := args) (s := s) (tm := .static "Boxedvalue$Curves" "LOGS" "[I") (ty := .int) (N := 54) (f := fun j => .int (bLOGS.getD j 0)) (A := bA s.heap.size) (by decide) (hfl _ (by decide +kernel)) (va_eqt (hfl (.eq (.length (.static "Boxedvalue$Curves" "LOGS" "[I")) (.int 54)) (by decide +kernel))) (fun j hj => va_eqt (hfl _ (of_decide_eq_true (List.all_eq_true.mp bstart_bLOGS j (List.mem_range.mpr hj))))) hA
  have hz2 : va_Z "Boxedvalue$Curves" "LOGS" "[I" (.ref t2) (bA s.heap.size) s s.heap := va_Zof (hts (.laysStatic "Boxedvalue$Curves" "LOGS" "[I") (by decide +kernel)) (hts (.initialized "Boxedvalue$Curves") (by decide +kernel)) et2 hA
  obtain ⟨t3, et3, ht3⟩ := va_Tof (args := args) (s := s) (tm := .static "Boxedvalue$Curves" "ARCS" "[I") (ty := .int) (N := 54) (f := fun j => .int (bARCS.getD j 0)) (A := bA s.heap.size) (by decide) (hfl _ (by decide +kernel)) (va_eqt (hfl (.eq (.length (.static "Boxedvalue$Curves" "ARCS" "[I")) (.int 54)) (by decide +kernel))) (fun j hj => va_eqt (hfl _ (of_decide_eq_true (List.all_eq_true.mp bstart_bARCS j (List.mem_range.mpr hj))))) hA
  have hz3 : va_Z "Boxedvalue$Curves" "ARCS" "[I" (.ref t3) (bA s.heap.size) s s.heap := va_Zof (hts (.laysStatic "Boxedvalue$Curves" "ARCS" "[I") (by decide +kernel)) (hts (.initialized "Boxedvalue$Curves") (by decide +kernel)) et3 hA
  have hx : va_T .int b L (fun j => .int (xs j)) (bA s.heap.size) s s.heap := by
    obtain ⟨scr, h1, h2, h3, h4, h5⟩ := hX
    refine ⟨scr, h1, h2, h3, by omega, ?_, h5, hA b hbl⟩
    rw [h4]
  refine ⟨(D, cy, s.heap.size, fun j => if j = 0 then t0 else if j = 1 then b else if j = 2 then t2 else t3, [(.long, 19, fun j => .long (bTENS.getD j 0), some ("Boxedvalue", "TENS", "[J")), (.int, L, fun j => .int (xs j), none), (.int, 54, fun j => .int (bLOGS.getD j 0), some ("Boxedvalue$Curves", "LOGS", "[I")), (.int, 54, fun j => .int (bARCS.getD j 0), some ("Boxedvalue$Curves", "ARCS", "[I"))], bstr, bncs), rfl, rfl, rfl, rfl, ?_, ?_⟩
  · refine ⟨⟨hD, hcy⟩, ?_, vx_Zqof (hts _ (by decide +kernel)) (hts _ (by decide +kernel)) (hfl _ (by decide +kernel)) hA, vx_Zqof (hts _ (by decide +kernel)) (hts _ (by decide +kernel)) (hfl _ (by decide +kernel)) hA, ?_, va_AO.of (hts (.arrayOver (.object "Boxedvalue$Box")) (by decide +kernel)), va_AO.of (hts (.arrayOver (.object "Boxedvalue$Formula")) (by decide +kernel)), ?_, Nat.le_refl _, ?_, ?_, ?_⟩
    · intro j q hj
      match j, hj with
      | 0, hj => cases hj; exact ⟨ht0, fun f hf => by cases hf; exact hz0⟩
      | 1, hj => cases hj; exact ⟨hx, fun f hf => by cases hf⟩
      | 2, hj => cases hj; exact ⟨ht2, fun f hf => by cases hf; exact hz2⟩
      | 3, hj => cases hj; exact ⟨ht3, fun f hf => by cases hf; exact hz3⟩
      | j + 4, hj => simp [KE.arr] at hj
    · intro q hq
      have h9 := List.all_eq_true.mp bstart_str q hq
      simp only [Bool.and_eq_true, decide_eq_true_eq] at h9
      have h8 := hts _ h9.1
      obtain ⟨q1, q2, q3⟩ := q
      have h7 : q1 = RX11 := h9.2
      subst h7
      have hcur := (hD 13 _ rfl).2.1
      obtain ⟨k, cf, i, a, -, -, -, -, -, ha⟩ := Cond.stringRef_spec hcur h8
      exact ⟨a, vk_R.of h8 ha⟩
    · intro q hq
      exact va_Nc.of (hfl _ (of_decide_eq_true (List.all_eq_true.mp bstart_nc q hq)))
    · intro x hx
      exact va_Nw.of rfl (hts _ (of_decide_eq_true (List.all_eq_true.mp bstart_D x hx)))
    · intro q hq
      exact va_Nw.of rfl (hts _ (of_decide_eq_true (List.all_eq_true.mp bstart_N q hq)))
    · intro q hq
      exact va_Nw.of rfl (hts _ (of_decide_eq_true (List.all_eq_true.mp bstart_M q hq)))
  · intro j
    match j with
    | 0 => exact ⟨fun t xs h => (by cases h), fun xs h => (by cases h; exact ⟨_, _, rfl, fun i hi => rfl⟩), fun f hf => ⟨_, rfl, hf⟩, fun t xs h => (by cases h)⟩
    | 1 =>
      refine ⟨fun t ys h => ?_, fun ys h => (by cases h), fun f hf => (by cases hf), fun t ys h => (by cases h)⟩
      cases h
      refine ⟨rfl, fun j => .int (xs j), none, by simp [KE.arr], fun i hi => ?_⟩
      simp only [List.length_map, List.length_range] at hi
      simp [List.getD_eq_getElem?_getD, hi]
    | 2 => exact ⟨fun t xs h => (by cases h; exact ⟨rfl, _, _, rfl, fun i hi => rfl⟩), fun xs h => (by cases h), fun f hf => ⟨_, rfl, hf⟩, fun t xs h => (by cases h)⟩
    | 3 => exact ⟨fun t xs h => (by cases h; exact ⟨rfl, _, _, rfl, fun i hi => rfl⟩), fun xs h => (by cases h), fun f hf => ⟨_, rfl, hf⟩, fun t xs h => (by cases h)⟩
    | j + 4 => exact ⟨fun t xs h => (by cases h), fun xs h => (by cases h), fun f hf => (by cases hf), fun t xs h => (by cases h)⟩
end
