section
-- ===== PART A: goes FIRST, ahead of the names: the tables' words, and 'selects' of the private methods out of them =====
/-- a private method of a class that the tables say can be made, by its rows of tables_1 -/
def lw_okq (q : MethodName × Nat) : Prop := (q.1.cls ≠ "java/lang/invoke/MethodHandle" ∧ q.1.cls ≠ "java/lang/invoke/VarHandle") ∧ Cond.instantiable q.1.cls q.2 ∈ tables_1 ∧ Cond.privateMethod q.1 ∈ tables_1 ∧ Cond.instanceMethod q.1 ∈ tables_1
theorem lw_p0 : lw_okq (⟨"Boxedvalue$Shelves", "isShelf", "(I)Z"⟩, 7) := ⟨⟨by decide +kernel, by decide +kernel⟩, List.mem_of_getElem? (i := 56) (by decide +kernel), List.mem_of_getElem? (i := 457) (by decide +kernel), List.mem_of_getElem? (i := 458) (by decide +kernel)⟩
theorem lw_p1 : lw_okq (⟨"Boxedvalue", "isConstantSound", "(C)Z"⟩, 17) := ⟨⟨by decide +kernel, by decide +kernel⟩, List.mem_of_getElem? (i := 31) (by decide +kernel), List.mem_of_getElem? (i := 493) (by decide +kernel), List.mem_of_getElem? (i := 494) (by decide +kernel)⟩
theorem lw_p2 : lw_okq (⟨"Boxedvalue$Machine", "at", "(I)LBoxedvalue$Box;"⟩, 8) := ⟨⟨by decide +kernel, by decide +kernel⟩, List.mem_of_getElem? (i := 127) (by decide +kernel), List.mem_of_getElem? (i := 505) (by decide +kernel), List.mem_of_getElem? (i := 506) (by decide +kernel)⟩
theorem lw_p3 : lw_okq (⟨"Boxedvalue$Acts", "told", "(LBoxedvalue$Box;)I"⟩, 6) := ⟨⟨by decide +kernel, by decide +kernel⟩, List.mem_of_getElem? (i := 133) (by decide +kernel), List.mem_of_getElem? (i := 531) (by decide +kernel), List.mem_of_getElem? (i := 532) (by decide +kernel)⟩
theorem lw_p4 : lw_okq (⟨"Boxedvalue$Reckoner", "widen", "()V"⟩, 13) := ⟨⟨by decide +kernel, by decide +kernel⟩, List.mem_of_getElem? (i := 139) (by decide +kernel), List.mem_of_getElem? (i := 639) (by decide +kernel), List.mem_of_getElem? (i := 640) (by decide +kernel)⟩
theorem lw_p5 : lw_okq (⟨"Boxedvalue$Reckoner", "settle", "()V"⟩, 13) := ⟨⟨by decide +kernel, by decide +kernel⟩, List.mem_of_getElem? (i := 139) (by decide +kernel), List.mem_of_getElem? (i := 643) (by decide +kernel), List.mem_of_getElem? (i := 644) (by decide +kernel)⟩
theorem lw_p6 : lw_okq (⟨"Boxedvalue$Reckoner", "wholeOfRow", "()J"⟩, 13) := ⟨⟨by decide +kernel, by decide +kernel⟩, List.mem_of_getElem? (i := 139) (by decide +kernel), List.mem_of_getElem? (i := 647) (by decide +kernel), List.mem_of_getElem? (i := 648) (by decide +kernel)⟩
theorem lw_p7 : lw_okq (⟨"Boxedvalue$Reckoner", "raise", "(I)V"⟩, 13) := ⟨⟨by decide +kernel, by decide +kernel⟩, List.mem_of_getElem? (i := 139) (by decide +kernel), List.mem_of_getElem? (i := 730) (by decide +kernel), List.mem_of_getElem? (i := 731) (by decide +kernel)⟩
theorem lw_p8 : lw_okq (⟨"Boxedvalue$Curves", "begin", "(Z)V"⟩, 13) := ⟨⟨by decide +kernel, by decide +kernel⟩, List.mem_of_getElem? (i := 188) (by decide +kernel), List.mem_of_getElem? (i := 757) (by decide +kernel), List.mem_of_getElem? (i := 758) (by decide +kernel)⟩
theorem lw_p9 : lw_okq (⟨"Boxedvalue$Curves", "sumPowers", "(LBoxedvalue$Bound;)V"⟩, 13) := ⟨⟨by decide +kernel, by decide +kernel⟩, List.mem_of_getElem? (i := 188) (by decide +kernel), List.mem_of_getElem? (i := 772) (by decide +kernel), List.mem_of_getElem? (i := 773) (by decide +kernel)⟩
theorem lw_p10 : lw_okq (⟨"Boxedvalue$Curves", "sumOddPowers", "(Z)V"⟩, 13) := ⟨⟨by decide +kernel, by decide +kernel⟩, List.mem_of_getElem? (i := 188) (by decide +kernel), List.mem_of_getElem? (i := 828) (by decide +kernel), List.mem_of_getElem? (i := 829) (by decide +kernel)⟩
theorem lw_p11 : lw_okq (⟨"Boxedvalue$Curves", "settle", "()V"⟩, 13) := ⟨⟨by decide +kernel, by decide +kernel⟩, List.mem_of_getElem? (i := 188) (by decide +kernel), List.mem_of_getElem? (i := 844) (by decide +kernel), List.mem_of_getElem? (i := 845) (by decide +kernel)⟩
theorem lw_p12 : lw_okq (⟨"Boxedvalue$Curves", "nearestEighth", "()I"⟩, 13) := ⟨⟨by decide +kernel, by decide +kernel⟩, List.mem_of_getElem? (i := 188) (by decide +kernel), List.mem_of_getElem? (i := 858) (by decide +kernel), List.mem_of_getElem? (i := 859) (by decide +kernel)⟩
theorem lw_p13 : lw_okq (⟨"Boxedvalue$Curves", "shiftToEighth", "(I)Z"⟩, 13) := ⟨⟨by decide +kernel, by decide +kernel⟩, List.mem_of_getElem? (i := 188) (by decide +kernel), List.mem_of_getElem? (i := 867) (by decide +kernel), List.mem_of_getElem? (i := 868) (by decide +kernel)⟩
theorem lw_p14 : lw_okq (⟨"Boxedvalue", "isValueSound", "(LBoxedvalue$Formula;LBoxedvalue$Box;)Z"⟩, 17) := ⟨⟨by decide +kernel, by decide +kernel⟩, List.mem_of_getElem? (i := 31) (by decide +kernel), List.mem_of_getElem? (i := 883) (by decide +kernel), List.mem_of_getElem? (i := 884) (by decide +kernel)⟩
theorem lw_p15 : lw_okq (⟨"Boxedvalue$Formula", "within", "(I)I"⟩, 12) := ⟨⟨by decide +kernel, by decide +kernel⟩, List.mem_of_getElem? (i := 312) (by decide +kernel), List.mem_of_getElem? (i := 900) (by decide +kernel), List.mem_of_getElem? (i := 901) (by decide +kernel)⟩
def lw_privs_1 : List (MethodName × Nat) := [(⟨"Boxedvalue$Shelves", "isShelf", "(I)Z"⟩, 7), (⟨"Boxedvalue", "isConstantSound", "(C)Z"⟩, 17), (⟨"Boxedvalue$Machine", "at", "(I)LBoxedvalue$Box;"⟩, 8), (⟨"Boxedvalue$Acts", "told", "(LBoxedvalue$Box;)I"⟩, 6), (⟨"Boxedvalue$Reckoner", "widen", "()V"⟩, 13), (⟨"Boxedvalue$Reckoner", "settle", "()V"⟩, 13), (⟨"Boxedvalue$Reckoner", "wholeOfRow", "()J"⟩, 13), (⟨"Boxedvalue$Reckoner", "raise", "(I)V"⟩, 13), (⟨"Boxedvalue$Curves", "begin", "(Z)V"⟩, 13), (⟨"Boxedvalue$Curves", "sumPowers", "(LBoxedvalue$Bound;)V"⟩, 13), (⟨"Boxedvalue$Curves", "sumOddPowers", "(Z)V"⟩, 13), (⟨"Boxedvalue$Curves", "settle", "()V"⟩, 13), (⟨"Boxedvalue$Curves", "nearestEighth", "()I"⟩, 13), (⟨"Boxedvalue$Curves", "shiftToEighth", "(I)Z"⟩, 13), (⟨"Boxedvalue", "isValueSound", "(LBoxedvalue$Formula;LBoxedvalue$Box;)Z"⟩, 17), (⟨"Boxedvalue$Formula", "within", "(I)I"⟩, 12)]
theorem lw_r1 : ∀ q ∈ lw_privs_1, lw_okq q := List.forall_mem_cons.mpr ⟨lw_p0, List.forall_mem_cons.mpr ⟨lw_p1, List.forall_mem_cons.mpr ⟨lw_p2, List.forall_mem_cons.mpr ⟨lw_p3, List.forall_mem_cons.mpr ⟨lw_p4, List.forall_mem_cons.mpr ⟨lw_p5, List.forall_mem_cons.mpr ⟨lw_p6, List.forall_mem_cons.mpr ⟨lw_p7, List.forall_mem_cons.mpr ⟨lw_p8, List.forall_mem_cons.mpr ⟨lw_p9, List.forall_mem_cons.mpr ⟨lw_p10, List.forall_mem_cons.mpr ⟨lw_p11, List.forall_mem_cons.mpr ⟨lw_p12, List.forall_mem_cons.mpr ⟨lw_p13, List.forall_mem_cons.mpr ⟨lw_p14, List.forall_mem_cons.mpr ⟨lw_p15, fun _ h => absurd h List.not_mem_nil⟩⟩⟩⟩⟩⟩⟩⟩⟩⟩⟩⟩⟩⟩⟩⟩
theorem lw_p16 : lw_okq (⟨"java/lang/Throwable", "fillInStackTrace", "(I)Ljava/lang/Throwable;"⟩, 6) := ⟨⟨by decide +kernel, by decide +kernel⟩, List.mem_of_getElem? (i := 978) (by decide +kernel), List.mem_of_getElem? (i := 976) (by decide +kernel), List.mem_of_getElem? (i := 977) (by decide +kernel)⟩
theorem lw_p17 : lw_okq (⟨"Boxedvalue", "checkShelf", "(I)V"⟩, 17) := ⟨⟨by decide +kernel, by decide +kernel⟩, List.mem_of_getElem? (i := 31) (by decide +kernel), List.mem_of_getElem? (i := 1077) (by decide +kernel), List.mem_of_getElem? (i := 1078) (by decide +kernel)⟩
theorem lw_p18 : lw_okq (⟨"Boxedvalue", "become", "(II)Z"⟩, 17) := ⟨⟨by decide +kernel, by decide +kernel⟩, List.mem_of_getElem? (i := 31) (by decide +kernel), List.mem_of_getElem? (i := 1095) (by decide +kernel), List.mem_of_getElem? (i := 1096) (by decide +kernel)⟩
theorem lw_p19 : lw_okq (⟨"Boxedvalue", "checkStatus", "(I)V"⟩, 17) := ⟨⟨by decide +kernel, by decide +kernel⟩, List.mem_of_getElem? (i := 31) (by decide +kernel), List.mem_of_getElem? (i := 1099) (by decide +kernel), List.mem_of_getElem? (i := 1100) (by decide +kernel)⟩
theorem lw_p20 : lw_okq (⟨"Boxedvalue", "fill", "(ILBoxedvalue$Box;)Z"⟩, 17) := ⟨⟨by decide +kernel, by decide +kernel⟩, List.mem_of_getElem? (i := 31) (by decide +kernel), List.mem_of_getElem? (i := 1120) (by decide +kernel), List.mem_of_getElem? (i := 1121) (by decide +kernel)⟩
theorem lw_p21 : lw_okq (⟨"Boxedvalue$Reckoner", "takeDigit", "(II)V"⟩, 13) := ⟨⟨by decide +kernel, by decide +kernel⟩, List.mem_of_getElem? (i := 139) (by decide +kernel), List.mem_of_getElem? (i := 1162) (by decide +kernel), List.mem_of_getElem? (i := 1163) (by decide +kernel)⟩
theorem lw_p22 : lw_okq (⟨"Boxedvalue", "checkShelves", "(III)V"⟩, 17) := ⟨⟨by decide +kernel, by decide +kernel⟩, List.mem_of_getElem? (i := 31) (by decide +kernel), List.mem_of_getElem? (i := 1182) (by decide +kernel), List.mem_of_getElem? (i := 1183) (by decide +kernel)⟩
theorem lw_p23 : lw_okq (⟨"Boxedvalue", "checkHeld", "(I)V"⟩, 17) := ⟨⟨by decide +kernel, by decide +kernel⟩, List.mem_of_getElem? (i := 31) (by decide +kernel), List.mem_of_getElem? (i := 1186) (by decide +kernel), List.mem_of_getElem? (i := 1187) (by decide +kernel)⟩
theorem lw_p24 : lw_okq (⟨"Boxedvalue", "checkPair", "(II)V"⟩, 17) := ⟨⟨by decide +kernel, by decide +kernel⟩, List.mem_of_getElem? (i := 31) (by decide +kernel), List.mem_of_getElem? (i := 1251) (by decide +kernel), List.mem_of_getElem? (i := 1252) (by decide +kernel)⟩
theorem lw_p25 : lw_okq (⟨"Boxedvalue", "combine", "(IIIC)Z"⟩, 17) := ⟨⟨by decide +kernel, by decide +kernel⟩, List.mem_of_getElem? (i := 31) (by decide +kernel), List.mem_of_getElem? (i := 1293) (by decide +kernel), List.mem_of_getElem? (i := 1294) (by decide +kernel)⟩
theorem lw_p26 : lw_okq (⟨"Boxedvalue", "change", "(IICI)Z"⟩, 17) := ⟨⟨by decide +kernel, by decide +kernel⟩, List.mem_of_getElem? (i := 31) (by decide +kernel), List.mem_of_getElem? (i := 1331) (by decide +kernel), List.mem_of_getElem? (i := 1332) (by decide +kernel)⟩
theorem lw_p27 : lw_okq (⟨"Boxedvalue", "crossed", "(IIII)I"⟩, 17) := ⟨⟨by decide +kernel, by decide +kernel⟩, List.mem_of_getElem? (i := 31) (by decide +kernel), List.mem_of_getElem? (i := 1359) (by decide +kernel), List.mem_of_getElem? (i := 1360) (by decide +kernel)⟩
theorem lw_p28 : lw_okq (⟨"Boxedvalue", "checkFormula", "(I)V"⟩, 17) := ⟨⟨by decide +kernel, by decide +kernel⟩, List.mem_of_getElem? (i := 31) (by decide +kernel), List.mem_of_getElem? (i := 1370) (by decide +kernel), List.mem_of_getElem? (i := 1371) (by decide +kernel)⟩
theorem lw_p29 : lw_okq (⟨"Boxedvalue$Formula", "takesAtom", "(LBoxedvalue$Text;)Z"⟩, 12) := ⟨⟨by decide +kernel, by decide +kernel⟩, List.mem_of_getElem? (i := 312) (by decide +kernel), List.mem_of_getElem? (i := 1379) (by decide +kernel), List.mem_of_getElem? (i := 1380) (by decide +kernel)⟩
theorem lw_p30 : lw_okq (⟨"Boxedvalue$Formula", "takesNumber", "(LBoxedvalue$Text;)Z"⟩, 12) := ⟨⟨by decide +kernel, by decide +kernel⟩, List.mem_of_getElem? (i := 312) (by decide +kernel), List.mem_of_getElem? (i := 1384) (by decide +kernel), List.mem_of_getElem? (i := 1385) (by decide +kernel)⟩
theorem lw_p31 : lw_okq (⟨"Boxedvalue$Formula", "append", "(CJI)V"⟩, 12) := ⟨⟨by decide +kernel, by decide +kernel⟩, List.mem_of_getElem? (i := 312) (by decide +kernel), List.mem_of_getElem? (i := 1390) (by decide +kernel), List.mem_of_getElem? (i := 1391) (by decide +kernel)⟩
def lw_privs_2 : List (MethodName × Nat) := [(⟨"java/lang/Throwable", "fillInStackTrace", "(I)Ljava/lang/Throwable;"⟩, 6), (⟨"Boxedvalue", "checkShelf", "(I)V"⟩, 17), (⟨"Boxedvalue", "become", "(II)Z"⟩, 17), (⟨"Boxedvalue", "checkStatus", "(I)V"⟩, 17), (⟨"Boxedvalue", "fill", "(ILBoxedvalue$Box;)Z"⟩, 17), (⟨"Boxedvalue$Reckoner", "takeDigit", "(II)V"⟩, 13), (⟨"Boxedvalue", "checkShelves", "(III)V"⟩, 17), (⟨"Boxedvalue", "checkHeld", "(I)V"⟩, 17), (⟨"Boxedvalue", "checkPair", "(II)V"⟩, 17), (⟨"Boxedvalue", "combine", "(IIIC)Z"⟩, 17), (⟨"Boxedvalue", "change", "(IICI)Z"⟩, 17), (⟨"Boxedvalue", "crossed", "(IIII)I"⟩, 17), (⟨"Boxedvalue", "checkFormula", "(I)V"⟩, 17), (⟨"Boxedvalue$Formula", "takesAtom", "(LBoxedvalue$Text;)Z"⟩, 12), (⟨"Boxedvalue$Formula", "takesNumber", "(LBoxedvalue$Text;)Z"⟩, 12), (⟨"Boxedvalue$Formula", "append", "(CJI)V"⟩, 12)]
theorem lw_r2 : ∀ q ∈ lw_privs_2, lw_okq q := List.forall_mem_cons.mpr ⟨lw_p16, List.forall_mem_cons.mpr ⟨lw_p17, List.forall_mem_cons.mpr ⟨lw_p18, List.forall_mem_cons.mpr ⟨lw_p19, List.forall_mem_cons.mpr ⟨lw_p20, List.forall_mem_cons.mpr ⟨lw_p21, List.forall_mem_cons.mpr ⟨lw_p22, List.forall_mem_cons.mpr ⟨lw_p23, List.forall_mem_cons.mpr ⟨lw_p24, List.forall_mem_cons.mpr ⟨lw_p25, List.forall_mem_cons.mpr ⟨lw_p26, List.forall_mem_cons.mpr ⟨lw_p27, List.forall_mem_cons.mpr ⟨lw_p28, List.forall_mem_cons.mpr ⟨lw_p29, List.forall_mem_cons.mpr ⟨lw_p30, List.forall_mem_cons.mpr ⟨lw_p31, fun _ h => absurd h List.not_mem_nil⟩⟩⟩⟩⟩⟩⟩⟩⟩⟩⟩⟩⟩⟩⟩⟩
theorem lw_p32 : lw_okq (⟨"Boxedvalue$Formula", "closeAtom", "()V"⟩, 12) := ⟨⟨by decide +kernel, by decide +kernel⟩, List.mem_of_getElem? (i := 312) (by decide +kernel), List.mem_of_getElem? (i := 1394) (by decide +kernel), List.mem_of_getElem? (i := 1395) (by decide +kernel)⟩
theorem lw_p33 : lw_okq (⟨"Boxedvalue$Formula", "lastHeld", "()C"⟩, 12) := ⟨⟨by decide +kernel, by decide +kernel⟩, List.mem_of_getElem? (i := 312) (by decide +kernel), List.mem_of_getElem? (i := 1398) (by decide +kernel), List.mem_of_getElem? (i := 1399) (by decide +kernel)⟩
theorem lw_p34 : lw_okq (⟨"Boxedvalue$Formula", "release", "()V"⟩, 12) := ⟨⟨by decide +kernel, by decide +kernel⟩, List.mem_of_getElem? (i := 312) (by decide +kernel), List.mem_of_getElem? (i := 1405) (by decide +kernel), List.mem_of_getElem? (i := 1406) (by decide +kernel)⟩
theorem lw_p35 : lw_okq (⟨"Boxedvalue$Formula", "hold", "(C)V"⟩, 12) := ⟨⟨by decide +kernel, by decide +kernel⟩, List.mem_of_getElem? (i := 312) (by decide +kernel), List.mem_of_getElem? (i := 1409) (by decide +kernel), List.mem_of_getElem? (i := 1410) (by decide +kernel)⟩
theorem lw_p36 : lw_okq (⟨"Boxedvalue$Formula", "takesAct", "(LBoxedvalue$Text;)Z"⟩, 12) := ⟨⟨by decide +kernel, by decide +kernel⟩, List.mem_of_getElem? (i := 312) (by decide +kernel), List.mem_of_getElem? (i := 1413) (by decide +kernel), List.mem_of_getElem? (i := 1414) (by decide +kernel)⟩
theorem lw_p37 : lw_okq (⟨"Boxedvalue$Formula", "takesExponent", "(LBoxedvalue$Text;)Z"⟩, 12) := ⟨⟨by decide +kernel, by decide +kernel⟩, List.mem_of_getElem? (i := 312) (by decide +kernel), List.mem_of_getElem? (i := 1417) (by decide +kernel), List.mem_of_getElem? (i := 1418) (by decide +kernel)⟩
theorem lw_p38 : lw_okq (⟨"Boxedvalue$Formula", "takesClosing", "()Z"⟩, 12) := ⟨⟨by decide +kernel, by decide +kernel⟩, List.mem_of_getElem? (i := 312) (by decide +kernel), List.mem_of_getElem? (i := 1421) (by decide +kernel), List.mem_of_getElem? (i := 1422) (by decide +kernel)⟩
theorem lw_p39 : lw_okq (⟨"Boxedvalue$Formula", "releaseProducts", "()V"⟩, 12) := ⟨⟨by decide +kernel, by decide +kernel⟩, List.mem_of_getElem? (i := 312) (by decide +kernel), List.mem_of_getElem? (i := 1425) (by decide +kernel), List.mem_of_getElem? (i := 1426) (by decide +kernel)⟩
theorem lw_p40 : lw_okq (⟨"Boxedvalue$Formula", "releaseSums", "()V"⟩, 12) := ⟨⟨by decide +kernel, by decide +kernel⟩, List.mem_of_getElem? (i := 312) (by decide +kernel), List.mem_of_getElem? (i := 1429) (by decide +kernel), List.mem_of_getElem? (i := 1430) (by decide +kernel)⟩
theorem lw_p41 : lw_okq (⟨"Boxedvalue$Formula", "findStarts", "()V"⟩, 12) := ⟨⟨by decide +kernel, by decide +kernel⟩, List.mem_of_getElem? (i := 312) (by decide +kernel), List.mem_of_getElem? (i := 1434) (by decide +kernel), List.mem_of_getElem? (i := 1435) (by decide +kernel)⟩
theorem lw_p42 : lw_okq (⟨"Boxedvalue", "checkDefined", "(I)V"⟩, 17) := ⟨⟨by decide +kernel, by decide +kernel⟩, List.mem_of_getElem? (i := 31) (by decide +kernel), List.mem_of_getElem? (i := 1449) (by decide +kernel), List.mem_of_getElem? (i := 1450) (by decide +kernel)⟩
theorem lw_p43 : lw_okq (⟨"Boxedvalue", "checkFormulaCall", "(IIII)V"⟩, 17) := ⟨⟨by decide +kernel, by decide +kernel⟩, List.mem_of_getElem? (i := 31) (by decide +kernel), List.mem_of_getElem? (i := 1461) (by decide +kernel), List.mem_of_getElem? (i := 1462) (by decide +kernel)⟩
theorem lw_p44 : lw_okq (⟨"Boxedvalue$Machine", "enter", "(I)I"⟩, 8) := ⟨⟨by decide +kernel, by decide +kernel⟩, List.mem_of_getElem? (i := 127) (by decide +kernel), List.mem_of_getElem? (i := 1476) (by decide +kernel), List.mem_of_getElem? (i := 1477) (by decide +kernel)⟩
theorem lw_p45 : lw_okq (⟨"Boxedvalue$Machine", "nextSign", "(Ljava/lang/String;)C"⟩, 8) := ⟨⟨by decide +kernel, by decide +kernel⟩, List.mem_of_getElem? (i := 127) (by decide +kernel), List.mem_of_getElem? (i := 1496) (by decide +kernel), List.mem_of_getElem? (i := 1497) (by decide +kernel)⟩
theorem lw_p46 : lw_okq (⟨"Boxedvalue", "sideOf", "(LBoxedvalue$Formula;LBoxedvalue$Formula;LBoxedvalue$Box;)I"⟩, 17) := ⟨⟨by decide +kernel, by decide +kernel⟩, List.mem_of_getElem? (i := 31) (by decide +kernel), List.mem_of_getElem? (i := 1570) (by decide +kernel), List.mem_of_getElem? (i := 1571) (by decide +kernel)⟩
theorem lw_p47 : lw_okq (⟨"Boxedvalue", "checkCuts", "(II)V"⟩, 17) := ⟨⟨by decide +kernel, by decide +kernel⟩, List.mem_of_getElem? (i := 31) (by decide +kernel), List.mem_of_getElem? (i := 1582) (by decide +kernel), List.mem_of_getElem? (i := 1583) (by decide +kernel)⟩
def lw_privs_3 : List (MethodName × Nat) := [(⟨"Boxedvalue$Formula", "closeAtom", "()V"⟩, 12), (⟨"Boxedvalue$Formula", "lastHeld", "()C"⟩, 12), (⟨"Boxedvalue$Formula", "release", "()V"⟩, 12), (⟨"Boxedvalue$Formula", "hold", "(C)V"⟩, 12), (⟨"Boxedvalue$Formula", "takesAct", "(LBoxedvalue$Text;)Z"⟩, 12), (⟨"Boxedvalue$Formula", "takesExponent", "(LBoxedvalue$Text;)Z"⟩, 12), (⟨"Boxedvalue$Formula", "takesClosing", "()Z"⟩, 12), (⟨"Boxedvalue$Formula", "releaseProducts", "()V"⟩, 12), (⟨"Boxedvalue$Formula", "releaseSums", "()V"⟩, 12), (⟨"Boxedvalue$Formula", "findStarts", "()V"⟩, 12), (⟨"Boxedvalue", "checkDefined", "(I)V"⟩, 17), (⟨"Boxedvalue", "checkFormulaCall", "(IIII)V"⟩, 17), (⟨"Boxedvalue$Machine", "enter", "(I)I"⟩, 8), (⟨"Boxedvalue$Machine", "nextSign", "(Ljava/lang/String;)C"⟩, 8), (⟨"Boxedvalue", "sideOf", "(LBoxedvalue$Formula;LBoxedvalue$Formula;LBoxedvalue$Box;)I"⟩, 17), (⟨"Boxedvalue", "checkCuts", "(II)V"⟩, 17)]
theorem lw_r3 : ∀ q ∈ lw_privs_3, lw_okq q := List.forall_mem_cons.mpr ⟨lw_p32, List.forall_mem_cons.mpr ⟨lw_p33, List.forall_mem_cons.mpr ⟨lw_p34, List.forall_mem_cons.mpr ⟨lw_p35, List.forall_mem_cons.mpr ⟨lw_p36, List.forall_mem_cons.mpr ⟨lw_p37, List.forall_mem_cons.mpr ⟨lw_p38, List.forall_mem_cons.mpr ⟨lw_p39, List.forall_mem_cons.mpr ⟨lw_p40, List.forall_mem_cons.mpr ⟨lw_p41, List.forall_mem_cons.mpr ⟨lw_p42, List.forall_mem_cons.mpr ⟨lw_p43, List.forall_mem_cons.mpr ⟨lw_p44, List.forall_mem_cons.mpr ⟨lw_p45, List.forall_mem_cons.mpr ⟨lw_p46, List.forall_mem_cons.mpr ⟨lw_p47, fun _ h => absurd h List.not_mem_nil⟩⟩⟩⟩⟩⟩⟩⟩⟩⟩⟩⟩⟩⟩⟩⟩
theorem lw_p48 : lw_okq (⟨"Boxedvalue", "checkNoY", "(I)V"⟩, 17) := ⟨⟨by decide +kernel, by decide +kernel⟩, List.mem_of_getElem? (i := 31) (by decide +kernel), List.mem_of_getElem? (i := 1587) (by decide +kernel), List.mem_of_getElem? (i := 1588) (by decide +kernel)⟩
theorem lw_p49 : lw_okq (⟨"Boxedvalue", "judge", "(LBoxedvalue$Formula;LBoxedvalue$Box;)C"⟩, 17) := ⟨⟨by decide +kernel, by decide +kernel⟩, List.mem_of_getElem? (i := 31) (by decide +kernel), List.mem_of_getElem? (i := 1620) (by decide +kernel), List.mem_of_getElem? (i := 1621) (by decide +kernel)⟩
theorem lw_p50 : lw_okq (⟨"Boxedvalue", "checkPiece", "(I)V"⟩, 17) := ⟨⟨by decide +kernel, by decide +kernel⟩, List.mem_of_getElem? (i := 31) (by decide +kernel), List.mem_of_getElem? (i := 1638) (by decide +kernel), List.mem_of_getElem? (i := 1639) (by decide +kernel)⟩
theorem lw_p51 : lw_okq (⟨"Boxedvalue$Pieces", "within", "(I)I"⟩, 4) := ⟨⟨by decide +kernel, by decide +kernel⟩, List.mem_of_getElem? (i := 359) (by decide +kernel), List.mem_of_getElem? (i := 1647) (by decide +kernel), List.mem_of_getElem? (i := 1648) (by decide +kernel)⟩
theorem lw_p52 : lw_okq (⟨"Boxedvalue", "makeNarrowed", "(LBoxedvalue$Formula;LBoxedvalue$Box;)I"⟩, 17) := ⟨⟨by decide +kernel, by decide +kernel⟩, List.mem_of_getElem? (i := 31) (by decide +kernel), List.mem_of_getElem? (i := 1669) (by decide +kernel), List.mem_of_getElem? (i := 1670) (by decide +kernel)⟩
theorem lw_p53 : lw_okq (⟨"Boxedvalue$Pieces", "split", "(I)V"⟩, 4) := ⟨⟨by decide +kernel, by decide +kernel⟩, List.mem_of_getElem? (i := 359) (by decide +kernel), List.mem_of_getElem? (i := 1688) (by decide +kernel), List.mem_of_getElem? (i := 1689) (by decide +kernel)⟩
theorem lw_p54 : lw_okq (⟨"Boxedvalue", "canBeZero", "(LBoxedvalue$Formula;)Z"⟩, 17) := ⟨⟨by decide +kernel, by decide +kernel⟩, List.mem_of_getElem? (i := 31) (by decide +kernel), List.mem_of_getElem? (i := 1693) (by decide +kernel), List.mem_of_getElem? (i := 1694) (by decide +kernel)⟩
theorem lw_p55 : lw_okq (⟨"Boxedvalue", "checkBoundsCall", "(IIII)V"⟩, 17) := ⟨⟨by decide +kernel, by decide +kernel⟩, List.mem_of_getElem? (i := 31) (by decide +kernel), List.mem_of_getElem? (i := 1704) (by decide +kernel), List.mem_of_getElem? (i := 1705) (by decide +kernel)⟩
theorem lw_p56 : lw_okq (⟨"Boxedvalue", "seekExtreme", "(LBoxedvalue$Formula;LBoxedvalue$Box;IZ)I"⟩, 17) := ⟨⟨by decide +kernel, by decide +kernel⟩, List.mem_of_getElem? (i := 31) (by decide +kernel), List.mem_of_getElem? (i := 1708) (by decide +kernel), List.mem_of_getElem? (i := 1709) (by decide +kernel)⟩
theorem lw_p57 : lw_okq (⟨"Boxedvalue", "takeExtreme", "(LBoxedvalue$Box;LBoxedvalue$Box;ZZ)V"⟩, 17) := ⟨⟨by decide +kernel, by decide +kernel⟩, List.mem_of_getElem? (i := 31) (by decide +kernel), List.mem_of_getElem? (i := 1712) (by decide +kernel), List.mem_of_getElem? (i := 1713) (by decide +kernel)⟩
theorem lw_p58 : lw_okq (⟨"Boxedvalue", "sumUp", "(LBoxedvalue$Formula;LBoxedvalue$Box;I)I"⟩, 17) := ⟨⟨by decide +kernel, by decide +kernel⟩, List.mem_of_getElem? (i := 31) (by decide +kernel), List.mem_of_getElem? (i := 1730) (by decide +kernel), List.mem_of_getElem? (i := 1731) (by decide +kernel)⟩
theorem lw_p59 : lw_okq (⟨"Boxedvalue", "makeMoved", "(LBoxedvalue$Formula;LBoxedvalue$Box;I)I"⟩, 17) := ⟨⟨by decide +kernel, by decide +kernel⟩, List.mem_of_getElem? (i := 31) (by decide +kernel), List.mem_of_getElem? (i := 1742) (by decide +kernel), List.mem_of_getElem? (i := 1743) (by decide +kernel)⟩
theorem lw_p60 : lw_okq (⟨"Boxedvalue", "makeAlong", "(LBoxedvalue$Box;LBoxedvalue$Box;LBoxedvalue$Box;)I"⟩, 17) := ⟨⟨by decide +kernel, by decide +kernel⟩, List.mem_of_getElem? (i := 31) (by decide +kernel), List.mem_of_getElem? (i := 1748) (by decide +kernel), List.mem_of_getElem? (i := 1749) (by decide +kernel)⟩
theorem lw_p61 : lw_okq (⟨"BoxedvalueModel", "fails", "(I)Z"⟩, 43) := ⟨⟨by decide +kernel, by decide +kernel⟩, List.mem_of_getElem? (i := 1754) (by decide +kernel), List.mem_of_getElem? (i := 1902) (by decide +kernel), List.mem_of_getElem? (i := 1903) (by decide +kernel)⟩
theorem lw_p62 : lw_okq (⟨"BoxedvalueModel", "low", "(IJJ)V"⟩, 43) := ⟨⟨by decide +kernel, by decide +kernel⟩, List.mem_of_getElem? (i := 1754) (by decide +kernel), List.mem_of_getElem? (i := 1926) (by decide +kernel), List.mem_of_getElem? (i := 1927) (by decide +kernel)⟩
theorem lw_p63 : lw_okq (⟨"BoxedvalueModel", "high", "(IJJ)V"⟩, 43) := ⟨⟨by decide +kernel, by decide +kernel⟩, List.mem_of_getElem? (i := 1754) (by decide +kernel), List.mem_of_getElem? (i := 1930) (by decide +kernel), List.mem_of_getElem? (i := 1931) (by decide +kernel)⟩
def lw_privs_4 : List (MethodName × Nat) := [(⟨"Boxedvalue", "checkNoY", "(I)V"⟩, 17), (⟨"Boxedvalue", "judge", "(LBoxedvalue$Formula;LBoxedvalue$Box;)C"⟩, 17), (⟨"Boxedvalue", "checkPiece", "(I)V"⟩, 17), (⟨"Boxedvalue$Pieces", "within", "(I)I"⟩, 4), (⟨"Boxedvalue", "makeNarrowed", "(LBoxedvalue$Formula;LBoxedvalue$Box;)I"⟩, 17), (⟨"Boxedvalue$Pieces", "split", "(I)V"⟩, 4), (⟨"Boxedvalue", "canBeZero", "(LBoxedvalue$Formula;)Z"⟩, 17), (⟨"Boxedvalue", "checkBoundsCall", "(IIII)V"⟩, 17), (⟨"Boxedvalue", "seekExtreme", "(LBoxedvalue$Formula;LBoxedvalue$Box;IZ)I"⟩, 17), (⟨"Boxedvalue", "takeExtreme", "(LBoxedvalue$Box;LBoxedvalue$Box;ZZ)V"⟩, 17), (⟨"Boxedvalue", "sumUp", "(LBoxedvalue$Formula;LBoxedvalue$Box;I)I"⟩, 17), (⟨"Boxedvalue", "makeMoved", "(LBoxedvalue$Formula;LBoxedvalue$Box;I)I"⟩, 17), (⟨"Boxedvalue", "makeAlong", "(LBoxedvalue$Box;LBoxedvalue$Box;LBoxedvalue$Box;)I"⟩, 17), (⟨"BoxedvalueModel", "fails", "(I)Z"⟩, 43), (⟨"BoxedvalueModel", "low", "(IJJ)V"⟩, 43), (⟨"BoxedvalueModel", "high", "(IJJ)V"⟩, 43)]
theorem lw_r4 : ∀ q ∈ lw_privs_4, lw_okq q := List.forall_mem_cons.mpr ⟨lw_p48, List.forall_mem_cons.mpr ⟨lw_p49, List.forall_mem_cons.mpr ⟨lw_p50, List.forall_mem_cons.mpr ⟨lw_p51, List.forall_mem_cons.mpr ⟨lw_p52, List.forall_mem_cons.mpr ⟨lw_p53, List.forall_mem_cons.mpr ⟨lw_p54, List.forall_mem_cons.mpr ⟨lw_p55, List.forall_mem_cons.mpr ⟨lw_p56, List.forall_mem_cons.mpr ⟨lw_p57, List.forall_mem_cons.mpr ⟨lw_p58, List.forall_mem_cons.mpr ⟨lw_p59, List.forall_mem_cons.mpr ⟨lw_p60, List.forall_mem_cons.mpr ⟨lw_p61, List.forall_mem_cons.mpr ⟨lw_p62, List.forall_mem_cons.mpr ⟨lw_p63, fun _ h => absurd h List.not_mem_nil⟩⟩⟩⟩⟩⟩⟩⟩⟩⟩⟩⟩⟩⟩⟩⟩
theorem lw_p64 : lw_okq (⟨"BoxedvalueModel", "sets", "(IJJ)V"⟩, 43) := ⟨⟨by decide +kernel, by decide +kernel⟩, List.mem_of_getElem? (i := 1754) (by decide +kernel), List.mem_of_getElem? (i := 1944) (by decide +kernel), List.mem_of_getElem? (i := 1945) (by decide +kernel)⟩
theorem lw_p65 : lw_okq (⟨"BoxedvalueModel", "lets", "(IIJ)V"⟩, 43) := ⟨⟨by decide +kernel, by decide +kernel⟩, List.mem_of_getElem? (i := 1754) (by decide +kernel), List.mem_of_getElem? (i := 1948) (by decide +kernel), List.mem_of_getElem? (i := 1949) (by decide +kernel)⟩
theorem lw_p66 : lw_okq (⟨"BoxedvalueModel", "trims", "(I)V"⟩, 43) := ⟨⟨by decide +kernel, by decide +kernel⟩, List.mem_of_getElem? (i := 1754) (by decide +kernel), List.mem_of_getElem? (i := 1952) (by decide +kernel), List.mem_of_getElem? (i := 1953) (by decide +kernel)⟩
theorem lw_p67 : lw_okq (⟨"BoxedvalueModel", "number", "(IIIZ)I"⟩, 43) := ⟨⟨by decide +kernel, by decide +kernel⟩, List.mem_of_getElem? (i := 1754) (by decide +kernel), List.mem_of_getElem? (i := 1956) (by decide +kernel), List.mem_of_getElem? (i := 1957) (by decide +kernel)⟩
theorem lw_p68 : lw_okq (⟨"BoxedvalueModel", "copies", "(II)V"⟩, 43) := ⟨⟨by decide +kernel, by decide +kernel⟩, List.mem_of_getElem? (i := 1754) (by decide +kernel), List.mem_of_getElem? (i := 1960) (by decide +kernel), List.mem_of_getElem? (i := 1961) (by decide +kernel)⟩
theorem lw_p69 : lw_okq (⟨"BoxedvalueModel", "limb", "(II)J"⟩, 43) := ⟨⟨by decide +kernel, by decide +kernel⟩, List.mem_of_getElem? (i := 1754) (by decide +kernel), List.mem_of_getElem? (i := 1964) (by decide +kernel), List.mem_of_getElem? (i := 1965) (by decide +kernel)⟩
theorem lw_p70 : lw_okq (⟨"BoxedvalueModel", "tens", "(II)Z"⟩, 43) := ⟨⟨by decide +kernel, by decide +kernel⟩, List.mem_of_getElem? (i := 1754) (by decide +kernel), List.mem_of_getElem? (i := 1968) (by decide +kernel), List.mem_of_getElem? (i := 1969) (by decide +kernel)⟩
theorem lw_p71 : lw_okq (⟨"BoxedvalueModel", "scales", "(IJ)V"⟩, 43) := ⟨⟨by decide +kernel, by decide +kernel⟩, List.mem_of_getElem? (i := 1754) (by decide +kernel), List.mem_of_getElem? (i := 1975) (by decide +kernel), List.mem_of_getElem? (i := 1976) (by decide +kernel)⟩
theorem lw_p72 : lw_okq (⟨"BoxedvalueModel", "parts", "(IJ)J"⟩, 43) := ⟨⟨by decide +kernel, by decide +kernel⟩, List.mem_of_getElem? (i := 1754) (by decide +kernel), List.mem_of_getElem? (i := 1979) (by decide +kernel), List.mem_of_getElem? (i := 1980) (by decide +kernel)⟩
theorem lw_p73 : lw_okq (⟨"BoxedvalueModel", "tells", "(IZZZ)Z"⟩, 43) := ⟨⟨by decide +kernel, by decide +kernel⟩, List.mem_of_getElem? (i := 1754) (by decide +kernel), List.mem_of_getElem? (i := 1983) (by decide +kernel), List.mem_of_getElem? (i := 1984) (by decide +kernel)⟩
theorem lw_p74 : lw_okq (⟨"BoxedvalueModel", "plus", "(II)V"⟩, 43) := ⟨⟨by decide +kernel, by decide +kernel⟩, List.mem_of_getElem? (i := 1754) (by decide +kernel), List.mem_of_getElem? (i := 1987) (by decide +kernel), List.mem_of_getElem? (i := 1988) (by decide +kernel)⟩
theorem lw_p75 : lw_okq (⟨"BoxedvalueModel", "turns", "()V"⟩, 43) := ⟨⟨by decide +kernel, by decide +kernel⟩, List.mem_of_getElem? (i := 1754) (by decide +kernel), List.mem_of_getElem? (i := 1992) (by decide +kernel), List.mem_of_getElem? (i := 1993) (by decide +kernel)⟩
theorem lw_p76 : lw_okq (⟨"BoxedvalueModel", "isTooGreat", "()Z"⟩, 43) := ⟨⟨by decide +kernel, by decide +kernel⟩, List.mem_of_getElem? (i := 1754) (by decide +kernel), List.mem_of_getElem? (i := 1996) (by decide +kernel), List.mem_of_getElem? (i := 1997) (by decide +kernel)⟩
theorem lw_p77 : lw_okq (⟨"BoxedvalueModel", "becomes", "(II)Z"⟩, 43) := ⟨⟨by decide +kernel, by decide +kernel⟩, List.mem_of_getElem? (i := 1754) (by decide +kernel), List.mem_of_getElem? (i := 2001) (by decide +kernel), List.mem_of_getElem? (i := 2002) (by decide +kernel)⟩
theorem lw_p78 : lw_okq (⟨"BoxedvalueModel", "takes", "(II)V"⟩, 43) := ⟨⟨by decide +kernel, by decide +kernel⟩, List.mem_of_getElem? (i := 1754) (by decide +kernel), List.mem_of_getElem? (i := 2005) (by decide +kernel), List.mem_of_getElem? (i := 2006) (by decide +kernel)⟩
theorem lw_p79 : lw_okq (⟨"BoxedvalueModel", "isSingle", "(I)Z"⟩, 43) := ⟨⟨by decide +kernel, by decide +kernel⟩, List.mem_of_getElem? (i := 1754) (by decide +kernel), List.mem_of_getElem? (i := 2009) (by decide +kernel), List.mem_of_getElem? (i := 2010) (by decide +kernel)⟩
def lw_privs_5 : List (MethodName × Nat) := [(⟨"BoxedvalueModel", "sets", "(IJJ)V"⟩, 43), (⟨"BoxedvalueModel", "lets", "(IIJ)V"⟩, 43), (⟨"BoxedvalueModel", "trims", "(I)V"⟩, 43), (⟨"BoxedvalueModel", "number", "(IIIZ)I"⟩, 43), (⟨"BoxedvalueModel", "copies", "(II)V"⟩, 43), (⟨"BoxedvalueModel", "limb", "(II)J"⟩, 43), (⟨"BoxedvalueModel", "tens", "(II)Z"⟩, 43), (⟨"BoxedvalueModel", "scales", "(IJ)V"⟩, 43), (⟨"BoxedvalueModel", "parts", "(IJ)J"⟩, 43), (⟨"BoxedvalueModel", "tells", "(IZZZ)Z"⟩, 43), (⟨"BoxedvalueModel", "plus", "(II)V"⟩, 43), (⟨"BoxedvalueModel", "turns", "()V"⟩, 43), (⟨"BoxedvalueModel", "isTooGreat", "()Z"⟩, 43), (⟨"BoxedvalueModel", "becomes", "(II)Z"⟩, 43), (⟨"BoxedvalueModel", "takes", "(II)V"⟩, 43), (⟨"BoxedvalueModel", "isSingle", "(I)Z"⟩, 43)]
theorem lw_r5 : ∀ q ∈ lw_privs_5, lw_okq q := List.forall_mem_cons.mpr ⟨lw_p64, List.forall_mem_cons.mpr ⟨lw_p65, List.forall_mem_cons.mpr ⟨lw_p66, List.forall_mem_cons.mpr ⟨lw_p67, List.forall_mem_cons.mpr ⟨lw_p68, List.forall_mem_cons.mpr ⟨lw_p69, List.forall_mem_cons.mpr ⟨lw_p70, List.forall_mem_cons.mpr ⟨lw_p71, List.forall_mem_cons.mpr ⟨lw_p72, List.forall_mem_cons.mpr ⟨lw_p73, List.forall_mem_cons.mpr ⟨lw_p74, List.forall_mem_cons.mpr ⟨lw_p75, List.forall_mem_cons.mpr ⟨lw_p76, List.forall_mem_cons.mpr ⟨lw_p77, List.forall_mem_cons.mpr ⟨lw_p78, List.forall_mem_cons.mpr ⟨lw_p79, fun _ h => absurd h List.not_mem_nil⟩⟩⟩⟩⟩⟩⟩⟩⟩⟩⟩⟩⟩⟩⟩⟩
theorem lw_p80 : lw_okq (⟨"BoxedvalueModel", "scaleOf", "()I"⟩, 43) := ⟨⟨by decide +kernel, by decide +kernel⟩, List.mem_of_getElem? (i := 1754) (by decide +kernel), List.mem_of_getElem? (i := 2017) (by decide +kernel), List.mem_of_getElem? (i := 2018) (by decide +kernel)⟩
theorem lw_p81 : lw_okq (⟨"BoxedvalueModel", "known", "(IZ)V"⟩, 43) := ⟨⟨by decide +kernel, by decide +kernel⟩, List.mem_of_getElem? (i := 1754) (by decide +kernel), List.mem_of_getElem? (i := 2028) (by decide +kernel), List.mem_of_getElem? (i := 2029) (by decide +kernel)⟩
theorem lw_p82 : lw_okq (⟨"BoxedvalueModel", "needsPi", "()V"⟩, 43) := ⟨⟨by decide +kernel, by decide +kernel⟩, List.mem_of_getElem? (i := 1754) (by decide +kernel), List.mem_of_getElem? (i := 2032) (by decide +kernel), List.mem_of_getElem? (i := 2033) (by decide +kernel)⟩
theorem lw_p83 : lw_okq (⟨"BoxedvalueModel", "odds", "(IJZ)V"⟩, 43) := ⟨⟨by decide +kernel, by decide +kernel⟩, List.mem_of_getElem? (i := 1754) (by decide +kernel), List.mem_of_getElem? (i := 2037) (by decide +kernel), List.mem_of_getElem? (i := 2038) (by decide +kernel)⟩
theorem lw_p84 : lw_okq (⟨"BoxedvalueModel", "unit", "(I)V"⟩, 43) := ⟨⟨by decide +kernel, by decide +kernel⟩, List.mem_of_getElem? (i := 1754) (by decide +kernel), List.mem_of_getElem? (i := 2041) (by decide +kernel), List.mem_of_getElem? (i := 2042) (by decide +kernel)⟩
theorem lw_p85 : lw_okq (⟨"BoxedvalueModel", "shifts", "(II)V"⟩, 43) := ⟨⟨by decide +kernel, by decide +kernel⟩, List.mem_of_getElem? (i := 1754) (by decide +kernel), List.mem_of_getElem? (i := 2045) (by decide +kernel), List.mem_of_getElem? (i := 2046) (by decide +kernel)⟩
theorem lw_p86 : lw_okq (⟨"BoxedvalueModel", "less", "(II)V"⟩, 43) := ⟨⟨by decide +kernel, by decide +kernel⟩, List.mem_of_getElem? (i := 1754) (by decide +kernel), List.mem_of_getElem? (i := 2051) (by decide +kernel), List.mem_of_getElem? (i := 2052) (by decide +kernel)⟩
theorem lw_p87 : lw_okq (⟨"BoxedvalueModel", "needsBase", "()V"⟩, 43) := ⟨⟨by decide +kernel, by decide +kernel⟩, List.mem_of_getElem? (i := 1754) (by decide +kernel), List.mem_of_getElem? (i := 2058) (by decide +kernel), List.mem_of_getElem? (i := 2059) (by decide +kernel)⟩
theorem lw_p88 : lw_okq (⟨"BoxedvalueModel", "series", "()V"⟩, 43) := ⟨⟨by decide +kernel, by decide +kernel⟩, List.mem_of_getElem? (i := 1754) (by decide +kernel), List.mem_of_getElem? (i := 2062) (by decide +kernel), List.mem_of_getElem? (i := 2063) (by decide +kernel)⟩
theorem lw_p89 : lw_okq (⟨"BoxedvalueModel", "times", "(II)V"⟩, 43) := ⟨⟨by decide +kernel, by decide +kernel⟩, List.mem_of_getElem? (i := 1754) (by decide +kernel), List.mem_of_getElem? (i := 2066) (by decide +kernel), List.mem_of_getElem? (i := 2067) (by decide +kernel)⟩
theorem lw_p90 : lw_okq (⟨"BoxedvalueModel", "deep", "(IZZ)Z"⟩, 43) := ⟨⟨by decide +kernel, by decide +kernel⟩, List.mem_of_getElem? (i := 1754) (by decide +kernel), List.mem_of_getElem? (i := 2070) (by decide +kernel), List.mem_of_getElem? (i := 2071) (by decide +kernel)⟩
theorem lw_p91 : lw_okq (⟨"BoxedvalueModel", "noPair", "(III)I"⟩, 43) := ⟨⟨by decide +kernel, by decide +kernel⟩, List.mem_of_getElem? (i := 1754) (by decide +kernel), List.mem_of_getElem? (i := 2078) (by decide +kernel), List.mem_of_getElem? (i := 2079) (by decide +kernel)⟩
theorem lw_p92 : lw_okq (⟨"BoxedvalueModel", "joins", "(IIIZ)Z"⟩, 43) := ⟨⟨by decide +kernel, by decide +kernel⟩, List.mem_of_getElem? (i := 1754) (by decide +kernel), List.mem_of_getElem? (i := 2082) (by decide +kernel), List.mem_of_getElem? (i := 2083) (by decide +kernel)⟩
theorem lw_p93 : lw_okq (⟨"BoxedvalueModel", "noBox", "(I)I"⟩, 43) := ⟨⟨by decide +kernel, by decide +kernel⟩, List.mem_of_getElem? (i := 1754) (by decide +kernel), List.mem_of_getElem? (i := 2097) (by decide +kernel), List.mem_of_getElem? (i := 2098) (by decide +kernel)⟩
theorem lw_p94 : lw_okq (⟨"BoxedvalueModel", "writes", "(JJ)I"⟩, 43) := ⟨⟨by decide +kernel, by decide +kernel⟩, List.mem_of_getElem? (i := 1754) (by decide +kernel), List.mem_of_getElem? (i := 2101) (by decide +kernel), List.mem_of_getElem? (i := 2102) (by decide +kernel)⟩
theorem lw_p95 : lw_okq (⟨"BoxedvalueModel", "spells", "(JJ)V"⟩, 43) := ⟨⟨by decide +kernel, by decide +kernel⟩, List.mem_of_getElem? (i := 1754) (by decide +kernel), List.mem_of_getElem? (i := 2105) (by decide +kernel), List.mem_of_getElem? (i := 2106) (by decide +kernel)⟩
def lw_privs_6 : List (MethodName × Nat) := [(⟨"BoxedvalueModel", "scaleOf", "()I"⟩, 43), (⟨"BoxedvalueModel", "known", "(IZ)V"⟩, 43), (⟨"BoxedvalueModel", "needsPi", "()V"⟩, 43), (⟨"BoxedvalueModel", "odds", "(IJZ)V"⟩, 43), (⟨"BoxedvalueModel", "unit", "(I)V"⟩, 43), (⟨"BoxedvalueModel", "shifts", "(II)V"⟩, 43), (⟨"BoxedvalueModel", "less", "(II)V"⟩, 43), (⟨"BoxedvalueModel", "needsBase", "()V"⟩, 43), (⟨"BoxedvalueModel", "series", "()V"⟩, 43), (⟨"BoxedvalueModel", "times", "(II)V"⟩, 43), (⟨"BoxedvalueModel", "deep", "(IZZ)Z"⟩, 43), (⟨"BoxedvalueModel", "noPair", "(III)I"⟩, 43), (⟨"BoxedvalueModel", "joins", "(IIIZ)Z"⟩, 43), (⟨"BoxedvalueModel", "noBox", "(I)I"⟩, 43), (⟨"BoxedvalueModel", "writes", "(JJ)I"⟩, 43), (⟨"BoxedvalueModel", "spells", "(JJ)V"⟩, 43)]
theorem lw_r6 : ∀ q ∈ lw_privs_6, lw_okq q := List.forall_mem_cons.mpr ⟨lw_p80, List.forall_mem_cons.mpr ⟨lw_p81, List.forall_mem_cons.mpr ⟨lw_p82, List.forall_mem_cons.mpr ⟨lw_p83, List.forall_mem_cons.mpr ⟨lw_p84, List.forall_mem_cons.mpr ⟨lw_p85, List.forall_mem_cons.mpr ⟨lw_p86, List.forall_mem_cons.mpr ⟨lw_p87, List.forall_mem_cons.mpr ⟨lw_p88, List.forall_mem_cons.mpr ⟨lw_p89, List.forall_mem_cons.mpr ⟨lw_p90, List.forall_mem_cons.mpr ⟨lw_p91, List.forall_mem_cons.mpr ⟨lw_p92, List.forall_mem_cons.mpr ⟨lw_p93, List.forall_mem_cons.mpr ⟨lw_p94, List.forall_mem_cons.mpr ⟨lw_p95, fun _ h => absurd h List.not_mem_nil⟩⟩⟩⟩⟩⟩⟩⟩⟩⟩⟩⟩⟩⟩⟩⟩
theorem lw_p96 : lw_okq (⟨"BoxedvalueModel", "spans", "(I)V"⟩, 43) := ⟨⟨by decide +kernel, by decide +kernel⟩, List.mem_of_getElem? (i := 1754) (by decide +kernel), List.mem_of_getElem? (i := 2118) (by decide +kernel), List.mem_of_getElem? (i := 2119) (by decide +kernel)⟩
theorem lw_p97 : lw_okq (⟨"BoxedvalueModel", "isWithinOf", "(II)Z"⟩, 43) := ⟨⟨by decide +kernel, by decide +kernel⟩, List.mem_of_getElem? (i := 1754) (by decide +kernel), List.mem_of_getElem? (i := 2126) (by decide +kernel), List.mem_of_getElem? (i := 2127) (by decide +kernel)⟩
theorem lw_p98 : lw_okq (⟨"BoxedvalueModel", "isLess", "(II)Z"⟩, 43) := ⟨⟨by decide +kernel, by decide +kernel⟩, List.mem_of_getElem? (i := 1754) (by decide +kernel), List.mem_of_getElem? (i := 2134) (by decide +kernel), List.mem_of_getElem? (i := 2135) (by decide +kernel)⟩
theorem lw_p99 : lw_okq (⟨"BoxedvalueModel", "rounds", "(IZ)V"⟩, 43) := ⟨⟨by decide +kernel, by decide +kernel⟩, List.mem_of_getElem? (i := 1754) (by decide +kernel), List.mem_of_getElem? (i := 2142) (by decide +kernel), List.mem_of_getElem? (i := 2143) (by decide +kernel)⟩
theorem lw_p100 : lw_okq (⟨"BoxedvalueModel", "made", "(ICII)Z"⟩, 43) := ⟨⟨by decide +kernel, by decide +kernel⟩, List.mem_of_getElem? (i := 1754) (by decide +kernel), List.mem_of_getElem? (i := 2153) (by decide +kernel), List.mem_of_getElem? (i := 2154) (by decide +kernel)⟩
theorem lw_p101 : lw_okq (⟨"BoxedvalueModel", "acts", "(ICII)I"⟩, 43) := ⟨⟨by decide +kernel, by decide +kernel⟩, List.mem_of_getElem? (i := 1754) (by decide +kernel), List.mem_of_getElem? (i := 2157) (by decide +kernel), List.mem_of_getElem? (i := 2158) (by decide +kernel)⟩
theorem lw_p102 : lw_okq (⟨"BoxedvalueModel", "sum", "(III)I"⟩, 43) := ⟨⟨by decide +kernel, by decide +kernel⟩, List.mem_of_getElem? (i := 1754) (by decide +kernel), List.mem_of_getElem? (i := 2161) (by decide +kernel), List.mem_of_getElem? (i := 2162) (by decide +kernel)⟩
theorem lw_p103 : lw_okq (⟨"BoxedvalueModel", "adds", "(JJJJZ)Z"⟩, 43) := ⟨⟨by decide +kernel, by decide +kernel⟩, List.mem_of_getElem? (i := 1754) (by decide +kernel), List.mem_of_getElem? (i := 2165) (by decide +kernel), List.mem_of_getElem? (i := 2166) (by decide +kernel)⟩
theorem lw_p104 : lw_okq (⟨"BoxedvalueModel", "difference", "(III)I"⟩, 43) := ⟨⟨by decide +kernel, by decide +kernel⟩, List.mem_of_getElem? (i := 1754) (by decide +kernel), List.mem_of_getElem? (i := 2169) (by decide +kernel), List.mem_of_getElem? (i := 2170) (by decide +kernel)⟩
theorem lw_p105 : lw_okq (⟨"BoxedvalueModel", "turned", "(II)V"⟩, 43) := ⟨⟨by decide +kernel, by decide +kernel⟩, List.mem_of_getElem? (i := 1754) (by decide +kernel), List.mem_of_getElem? (i := 2173) (by decide +kernel), List.mem_of_getElem? (i := 2174) (by decide +kernel)⟩
theorem lw_p106 : lw_okq (⟨"BoxedvalueModel", "product", "(III)I"⟩, 43) := ⟨⟨by decide +kernel, by decide +kernel⟩, List.mem_of_getElem? (i := 1754) (by decide +kernel), List.mem_of_getElem? (i := 2177) (by decide +kernel), List.mem_of_getElem? (i := 2178) (by decide +kernel)⟩
theorem lw_p107 : lw_okq (⟨"BoxedvalueModel", "four", "(IIIZ)I"⟩, 43) := ⟨⟨by decide +kernel, by decide +kernel⟩, List.mem_of_getElem? (i := 1754) (by decide +kernel), List.mem_of_getElem? (i := 2181) (by decide +kernel), List.mem_of_getElem? (i := 2182) (by decide +kernel)⟩
theorem lw_p108 : lw_okq (⟨"BoxedvalueModel", "pair", "(IZIZZZ)Z"⟩, 43) := ⟨⟨by decide +kernel, by decide +kernel⟩, List.mem_of_getElem? (i := 1754) (by decide +kernel), List.mem_of_getElem? (i := 2185) (by decide +kernel), List.mem_of_getElem? (i := 2186) (by decide +kernel)⟩
theorem lw_p109 : lw_okq (⟨"BoxedvalueModel", "size", "(IJJ)V"⟩, 43) := ⟨⟨by decide +kernel, by decide +kernel⟩, List.mem_of_getElem? (i := 1754) (by decide +kernel), List.mem_of_getElem? (i := 2189) (by decide +kernel), List.mem_of_getElem? (i := 2190) (by decide +kernel)⟩
theorem lw_p110 : lw_okq (⟨"BoxedvalueModel", "divides", "()V"⟩, 43) := ⟨⟨by decide +kernel, by decide +kernel⟩, List.mem_of_getElem? (i := 1754) (by decide +kernel), List.mem_of_getElem? (i := 2193) (by decide +kernel), List.mem_of_getElem? (i := 2194) (by decide +kernel)⟩
theorem lw_p111 : lw_okq (⟨"BoxedvalueModel", "compares", "(II)I"⟩, 43) := ⟨⟨by decide +kernel, by decide +kernel⟩, List.mem_of_getElem? (i := 1754) (by decide +kernel), List.mem_of_getElem? (i := 2198) (by decide +kernel), List.mem_of_getElem? (i := 2199) (by decide +kernel)⟩
def lw_privs_7 : List (MethodName × Nat) := [(⟨"BoxedvalueModel", "spans", "(I)V"⟩, 43), (⟨"BoxedvalueModel", "isWithinOf", "(II)Z"⟩, 43), (⟨"BoxedvalueModel", "isLess", "(II)Z"⟩, 43), (⟨"BoxedvalueModel", "rounds", "(IZ)V"⟩, 43), (⟨"BoxedvalueModel", "made", "(ICII)Z"⟩, 43), (⟨"BoxedvalueModel", "acts", "(ICII)I"⟩, 43), (⟨"BoxedvalueModel", "sum", "(III)I"⟩, 43), (⟨"BoxedvalueModel", "adds", "(JJJJZ)Z"⟩, 43), (⟨"BoxedvalueModel", "difference", "(III)I"⟩, 43), (⟨"BoxedvalueModel", "turned", "(II)V"⟩, 43), (⟨"BoxedvalueModel", "product", "(III)I"⟩, 43), (⟨"BoxedvalueModel", "four", "(IIIZ)I"⟩, 43), (⟨"BoxedvalueModel", "pair", "(IZIZZZ)Z"⟩, 43), (⟨"BoxedvalueModel", "size", "(IJJ)V"⟩, 43), (⟨"BoxedvalueModel", "divides", "()V"⟩, 43), (⟨"BoxedvalueModel", "compares", "(II)I"⟩, 43)]
theorem lw_r7 : ∀ q ∈ lw_privs_7, lw_okq q := List.forall_mem_cons.mpr ⟨lw_p96, List.forall_mem_cons.mpr ⟨lw_p97, List.forall_mem_cons.mpr ⟨lw_p98, List.forall_mem_cons.mpr ⟨lw_p99, List.forall_mem_cons.mpr ⟨lw_p100, List.forall_mem_cons.mpr ⟨lw_p101, List.forall_mem_cons.mpr ⟨lw_p102, List.forall_mem_cons.mpr ⟨lw_p103, List.forall_mem_cons.mpr ⟨lw_p104, List.forall_mem_cons.mpr ⟨lw_p105, List.forall_mem_cons.mpr ⟨lw_p106, List.forall_mem_cons.mpr ⟨lw_p107, List.forall_mem_cons.mpr ⟨lw_p108, List.forall_mem_cons.mpr ⟨lw_p109, List.forall_mem_cons.mpr ⟨lw_p110, List.forall_mem_cons.mpr ⟨lw_p111, fun _ h => absurd h List.not_mem_nil⟩⟩⟩⟩⟩⟩⟩⟩⟩⟩⟩⟩⟩⟩⟩⟩
theorem lw_p112 : lw_okq (⟨"BoxedvalueModel", "quotient", "(III)I"⟩, 43) := ⟨⟨by decide +kernel, by decide +kernel⟩, List.mem_of_getElem? (i := 1754) (by decide +kernel), List.mem_of_getElem? (i := 2202) (by decide +kernel), List.mem_of_getElem? (i := 2203) (by decide +kernel)⟩
theorem lw_p113 : lw_okq (⟨"BoxedvalueModel", "holds0", "(I)Z"⟩, 43) := ⟨⟨by decide +kernel, by decide +kernel⟩, List.mem_of_getElem? (i := 1754) (by decide +kernel), List.mem_of_getElem? (i := 2206) (by decide +kernel), List.mem_of_getElem? (i := 2207) (by decide +kernel)⟩
theorem lw_p114 : lw_okq (⟨"BoxedvalueModel", "holdsNothing", "(I)Z"⟩, 43) := ⟨⟨by decide +kernel, by decide +kernel⟩, List.mem_of_getElem? (i := 1754) (by decide +kernel), List.mem_of_getElem? (i := 2210) (by decide +kernel), List.mem_of_getElem? (i := 2211) (by decide +kernel)⟩
theorem lw_p115 : lw_okq (⟨"BoxedvalueModel", "makes", "(IIII)Z"⟩, 43) := ⟨⟨by decide +kernel, by decide +kernel⟩, List.mem_of_getElem? (i := 1754) (by decide +kernel), List.mem_of_getElem? (i := 2214) (by decide +kernel), List.mem_of_getElem? (i := 2215) (by decide +kernel)⟩
theorem lw_p116 : lw_okq (⟨"BoxedvalueModel", "lifted", "(III)I"⟩, 43) := ⟨⟨by decide +kernel, by decide +kernel⟩, List.mem_of_getElem? (i := 1754) (by decide +kernel), List.mem_of_getElem? (i := 2234) (by decide +kernel), List.mem_of_getElem? (i := 2235) (by decide +kernel)⟩
theorem lw_p117 : lw_okq (⟨"BoxedvalueModel", "single", "(IJJ)V"⟩, 43) := ⟨⟨by decide +kernel, by decide +kernel⟩, List.mem_of_getElem? (i := 1754) (by decide +kernel), List.mem_of_getElem? (i := 2238) (by decide +kernel), List.mem_of_getElem? (i := 2239) (by decide +kernel)⟩
theorem lw_p118 : lw_okq (⟨"BoxedvalueModel", "isBelow0", "(I)Z"⟩, 43) := ⟨⟨by decide +kernel, by decide +kernel⟩, List.mem_of_getElem? (i := 1754) (by decide +kernel), List.mem_of_getElem? (i := 2242) (by decide +kernel), List.mem_of_getElem? (i := 2243) (by decide +kernel)⟩
theorem lw_p119 : lw_okq (⟨"BoxedvalueModel", "isBelow", "(I)Z"⟩, 43) := ⟨⟨by decide +kernel, by decide +kernel⟩, List.mem_of_getElem? (i := 1754) (by decide +kernel), List.mem_of_getElem? (i := 2246) (by decide +kernel), List.mem_of_getElem? (i := 2247) (by decide +kernel)⟩
theorem lw_p120 : lw_okq (⟨"BoxedvalueModel", "powers", "(JJIZ)Z"⟩, 43) := ⟨⟨by decide +kernel, by decide +kernel⟩, List.mem_of_getElem? (i := 1754) (by decide +kernel), List.mem_of_getElem? (i := 2250) (by decide +kernel), List.mem_of_getElem? (i := 2251) (by decide +kernel)⟩
theorem lw_p121 : lw_okq (⟨"BoxedvalueModel", "rooted", "(III)I"⟩, 43) := ⟨⟨by decide +kernel, by decide +kernel⟩, List.mem_of_getElem? (i := 1754) (by decide +kernel), List.mem_of_getElem? (i := 2258) (by decide +kernel), List.mem_of_getElem? (i := 2259) (by decide +kernel)⟩
theorem lw_p122 : lw_okq (⟨"BoxedvalueModel", "roots", "(JJIZ)Z"⟩, 43) := ⟨⟨by decide +kernel, by decide +kernel⟩, List.mem_of_getElem? (i := 1754) (by decide +kernel), List.mem_of_getElem? (i := 2262) (by decide +kernel), List.mem_of_getElem? (i := 2263) (by decide +kernel)⟩
theorem lw_p123 : lw_okq (⟨"BoxedvalueModel", "negative", "(II)I"⟩, 43) := ⟨⟨by decide +kernel, by decide +kernel⟩, List.mem_of_getElem? (i := 1754) (by decide +kernel), List.mem_of_getElem? (i := 2271) (by decide +kernel), List.mem_of_getElem? (i := 2272) (by decide +kernel)⟩
theorem lw_p124 : lw_okq (⟨"BoxedvalueModel", "again", "(II)I"⟩, 43) := ⟨⟨by decide +kernel, by decide +kernel⟩, List.mem_of_getElem? (i := 1754) (by decide +kernel), List.mem_of_getElem? (i := 2275) (by decide +kernel), List.mem_of_getElem? (i := 2276) (by decide +kernel)⟩
theorem lw_p125 : lw_okq (⟨"BoxedvalueModel", "unsigned", "(II)I"⟩, 43) := ⟨⟨by decide +kernel, by decide +kernel⟩, List.mem_of_getElem? (i := 1754) (by decide +kernel), List.mem_of_getElem? (i := 2279) (by decide +kernel), List.mem_of_getElem? (i := 2280) (by decide +kernel)⟩
theorem lw_p126 : lw_okq (⟨"BoxedvalueModel", "rising", "(IIC)I"⟩, 43) := ⟨⟨by decide +kernel, by decide +kernel⟩, List.mem_of_getElem? (i := 1754) (by decide +kernel), List.mem_of_getElem? (i := 2283) (by decide +kernel), List.mem_of_getElem? (i := 2284) (by decide +kernel)⟩
theorem lw_p127 : lw_okq (⟨"BoxedvalueModel", "isAbove0", "(I)Z"⟩, 43) := ⟨⟨by decide +kernel, by decide +kernel⟩, List.mem_of_getElem? (i := 1754) (by decide +kernel), List.mem_of_getElem? (i := 2287) (by decide +kernel), List.mem_of_getElem? (i := 2288) (by decide +kernel)⟩
def lw_privs_8 : List (MethodName × Nat) := [(⟨"BoxedvalueModel", "quotient", "(III)I"⟩, 43), (⟨"BoxedvalueModel", "holds0", "(I)Z"⟩, 43), (⟨"BoxedvalueModel", "holdsNothing", "(I)Z"⟩, 43), (⟨"BoxedvalueModel", "makes", "(IIII)Z"⟩, 43), (⟨"BoxedvalueModel", "lifted", "(III)I"⟩, 43), (⟨"BoxedvalueModel", "single", "(IJJ)V"⟩, 43), (⟨"BoxedvalueModel", "isBelow0", "(I)Z"⟩, 43), (⟨"BoxedvalueModel", "isBelow", "(I)Z"⟩, 43), (⟨"BoxedvalueModel", "powers", "(JJIZ)Z"⟩, 43), (⟨"BoxedvalueModel", "rooted", "(III)I"⟩, 43), (⟨"BoxedvalueModel", "roots", "(JJIZ)Z"⟩, 43), (⟨"BoxedvalueModel", "negative", "(II)I"⟩, 43), (⟨"BoxedvalueModel", "again", "(II)I"⟩, 43), (⟨"BoxedvalueModel", "unsigned", "(II)I"⟩, 43), (⟨"BoxedvalueModel", "rising", "(IIC)I"⟩, 43), (⟨"BoxedvalueModel", "isAbove0", "(I)Z"⟩, 43)]
theorem lw_r8 : ∀ q ∈ lw_privs_8, lw_okq q := List.forall_mem_cons.mpr ⟨lw_p112, List.forall_mem_cons.mpr ⟨lw_p113, List.forall_mem_cons.mpr ⟨lw_p114, List.forall_mem_cons.mpr ⟨lw_p115, List.forall_mem_cons.mpr ⟨lw_p116, List.forall_mem_cons.mpr ⟨lw_p117, List.forall_mem_cons.mpr ⟨lw_p118, List.forall_mem_cons.mpr ⟨lw_p119, List.forall_mem_cons.mpr ⟨lw_p120, List.forall_mem_cons.mpr ⟨lw_p121, List.forall_mem_cons.mpr ⟨lw_p122, List.forall_mem_cons.mpr ⟨lw_p123, List.forall_mem_cons.mpr ⟨lw_p124, List.forall_mem_cons.mpr ⟨lw_p125, List.forall_mem_cons.mpr ⟨lw_p126, List.forall_mem_cons.mpr ⟨lw_p127, fun _ h => absurd h List.not_mem_nil⟩⟩⟩⟩⟩⟩⟩⟩⟩⟩⟩⟩⟩⟩⟩⟩
theorem lw_p128 : lw_okq (⟨"BoxedvalueModel", "rises", "(CJJZ)Z"⟩, 43) := ⟨⟨by decide +kernel, by decide +kernel⟩, List.mem_of_getElem? (i := 1754) (by decide +kernel), List.mem_of_getElem? (i := 2291) (by decide +kernel), List.mem_of_getElem? (i := 2292) (by decide +kernel)⟩
theorem lw_p129 : lw_okq (⟨"BoxedvalueModel", "raises", "(JJZ)Z"⟩, 43) := ⟨⟨by decide +kernel, by decide +kernel⟩, List.mem_of_getElem? (i := 1754) (by decide +kernel), List.mem_of_getElem? (i := 2295) (by decide +kernel), List.mem_of_getElem? (i := 2296) (by decide +kernel)⟩
theorem lw_p130 : lw_okq (⟨"BoxedvalueModel", "logs", "(JJZ)Z"⟩, 43) := ⟨⟨by decide +kernel, by decide +kernel⟩, List.mem_of_getElem? (i := 1754) (by decide +kernel), List.mem_of_getElem? (i := 2301) (by decide +kernel), List.mem_of_getElem? (i := 2302) (by decide +kernel)⟩
theorem lw_p131 : lw_okq (⟨"BoxedvalueModel", "needsLog", "()V"⟩, 43) := ⟨⟨by decide +kernel, by decide +kernel⟩, List.mem_of_getElem? (i := 1754) (by decide +kernel), List.mem_of_getElem? (i := 2305) (by decide +kernel), List.mem_of_getElem? (i := 2306) (by decide +kernel)⟩
theorem lw_p132 : lw_okq (⟨"BoxedvalueModel", "arcs", "(JJZ)Z"⟩, 43) := ⟨⟨by decide +kernel, by decide +kernel⟩, List.mem_of_getElem? (i := 1754) (by decide +kernel), List.mem_of_getElem? (i := 2309) (by decide +kernel), List.mem_of_getElem? (i := 2310) (by decide +kernel)⟩
theorem lw_p133 : lw_okq (⟨"BoxedvalueModel", "crossed", "(IIIII)I"⟩, 43) := ⟨⟨by decide +kernel, by decide +kernel⟩, List.mem_of_getElem? (i := 1754) (by decide +kernel), List.mem_of_getElem? (i := 2317) (by decide +kernel), List.mem_of_getElem? (i := 2318) (by decide +kernel)⟩
theorem lw_p134 : lw_okq (⟨"BoxedvalueModel", "readSum", "()I"⟩, 43) := ⟨⟨by decide +kernel, by decide +kernel⟩, List.mem_of_getElem? (i := 1754) (by decide +kernel), List.mem_of_getElem? (i := 2328) (by decide +kernel), List.mem_of_getElem? (i := 2329) (by decide +kernel)⟩
theorem lw_p135 : lw_okq (⟨"BoxedvalueModel", "readProduct", "()I"⟩, 43) := ⟨⟨by decide +kernel, by decide +kernel⟩, List.mem_of_getElem? (i := 1754) (by decide +kernel), List.mem_of_getElem? (i := 2332) (by decide +kernel), List.mem_of_getElem? (i := 2333) (by decide +kernel)⟩
theorem lw_p136 : lw_okq (⟨"BoxedvalueModel", "readPower", "()I"⟩, 43) := ⟨⟨by decide +kernel, by decide +kernel⟩, List.mem_of_getElem? (i := 1754) (by decide +kernel), List.mem_of_getElem? (i := 2336) (by decide +kernel), List.mem_of_getElem? (i := 2337) (by decide +kernel)⟩
theorem lw_p137 : lw_okq (⟨"BoxedvalueModel", "readAtom", "()I"⟩, 43) := ⟨⟨by decide +kernel, by decide +kernel⟩, List.mem_of_getElem? (i := 1754) (by decide +kernel), List.mem_of_getElem? (i := 2340) (by decide +kernel), List.mem_of_getElem? (i := 2341) (by decide +kernel)⟩
theorem lw_p138 : lw_okq (⟨"BoxedvalueModel", "sign", "()C"⟩, 43) := ⟨⟨by decide +kernel, by decide +kernel⟩, List.mem_of_getElem? (i := 1754) (by decide +kernel), List.mem_of_getElem? (i := 2344) (by decide +kernel), List.mem_of_getElem? (i := 2345) (by decide +kernel)⟩
theorem lw_p139 : lw_okq (⟨"BoxedvalueModel", "readNumber", "()I"⟩, 43) := ⟨⟨by decide +kernel, by decide +kernel⟩, List.mem_of_getElem? (i := 1754) (by decide +kernel), List.mem_of_getElem? (i := 2348) (by decide +kernel), List.mem_of_getElem? (i := 2349) (by decide +kernel)⟩
theorem lw_p140 : lw_okq (⟨"BoxedvalueModel", "faults", "()I"⟩, 43) := ⟨⟨by decide +kernel, by decide +kernel⟩, List.mem_of_getElem? (i := 1754) (by decide +kernel), List.mem_of_getElem? (i := 2352) (by decide +kernel), List.mem_of_getElem? (i := 2353) (by decide +kernel)⟩
theorem lw_p141 : lw_okq (⟨"BoxedvalueModel", "part", "(CII)I"⟩, 43) := ⟨⟨by decide +kernel, by decide +kernel⟩, List.mem_of_getElem? (i := 1754) (by decide +kernel), List.mem_of_getElem? (i := 2356) (by decide +kernel), List.mem_of_getElem? (i := 2357) (by decide +kernel)⟩
theorem lw_p142 : lw_okq (⟨"BoxedvalueModel", "hasYOf", "(I)Z"⟩, 43) := ⟨⟨by decide +kernel, by decide +kernel⟩, List.mem_of_getElem? (i := 1754) (by decide +kernel), List.mem_of_getElem? (i := 2364) (by decide +kernel), List.mem_of_getElem? (i := 2365) (by decide +kernel)⟩
theorem lw_p143 : lw_okq (⟨"BoxedvalueModel", "makes", "(IIIIZ)Z"⟩, 43) := ⟨⟨by decide +kernel, by decide +kernel⟩, List.mem_of_getElem? (i := 1754) (by decide +kernel), List.mem_of_getElem? (i := 2372) (by decide +kernel), List.mem_of_getElem? (i := 2373) (by decide +kernel)⟩
def lw_privs_9 : List (MethodName × Nat) := [(⟨"BoxedvalueModel", "rises", "(CJJZ)Z"⟩, 43), (⟨"BoxedvalueModel", "raises", "(JJZ)Z"⟩, 43), (⟨"BoxedvalueModel", "logs", "(JJZ)Z"⟩, 43), (⟨"BoxedvalueModel", "needsLog", "()V"⟩, 43), (⟨"BoxedvalueModel", "arcs", "(JJZ)Z"⟩, 43), (⟨"BoxedvalueModel", "crossed", "(IIIII)I"⟩, 43), (⟨"BoxedvalueModel", "readSum", "()I"⟩, 43), (⟨"BoxedvalueModel", "readProduct", "()I"⟩, 43), (⟨"BoxedvalueModel", "readPower", "()I"⟩, 43), (⟨"BoxedvalueModel", "readAtom", "()I"⟩, 43), (⟨"BoxedvalueModel", "sign", "()C"⟩, 43), (⟨"BoxedvalueModel", "readNumber", "()I"⟩, 43), (⟨"BoxedvalueModel", "faults", "()I"⟩, 43), (⟨"BoxedvalueModel", "part", "(CII)I"⟩, 43), (⟨"BoxedvalueModel", "hasYOf", "(I)Z"⟩, 43), (⟨"BoxedvalueModel", "makes", "(IIIIZ)Z"⟩, 43)]
theorem lw_r9 : ∀ q ∈ lw_privs_9, lw_okq q := List.forall_mem_cons.mpr ⟨lw_p128, List.forall_mem_cons.mpr ⟨lw_p129, List.forall_mem_cons.mpr ⟨lw_p130, List.forall_mem_cons.mpr ⟨lw_p131, List.forall_mem_cons.mpr ⟨lw_p132, List.forall_mem_cons.mpr ⟨lw_p133, List.forall_mem_cons.mpr ⟨lw_p134, List.forall_mem_cons.mpr ⟨lw_p135, List.forall_mem_cons.mpr ⟨lw_p136, List.forall_mem_cons.mpr ⟨lw_p137, List.forall_mem_cons.mpr ⟨lw_p138, List.forall_mem_cons.mpr ⟨lw_p139, List.forall_mem_cons.mpr ⟨lw_p140, List.forall_mem_cons.mpr ⟨lw_p141, List.forall_mem_cons.mpr ⟨lw_p142, List.forall_mem_cons.mpr ⟨lw_p143, fun _ h => absurd h List.not_mem_nil⟩⟩⟩⟩⟩⟩⟩⟩⟩⟩⟩⟩⟩⟩⟩⟩
theorem lw_p144 : lw_okq (⟨"BoxedvalueModel", "told", "(IIIIZ)I"⟩, 43) := ⟨⟨by decide +kernel, by decide +kernel⟩, List.mem_of_getElem? (i := 1754) (by decide +kernel), List.mem_of_getElem? (i := 2376) (by decide +kernel), List.mem_of_getElem? (i := 2377) (by decide +kernel)⟩
theorem lw_p145 : lw_okq (⟨"BoxedvalueModel", "slopes", "(II)I"⟩, 43) := ⟨⟨by decide +kernel, by decide +kernel⟩, List.mem_of_getElem? (i := 1754) (by decide +kernel), List.mem_of_getElem? (i := 2380) (by decide +kernel), List.mem_of_getElem? (i := 2381) (by decide +kernel)⟩
theorem lw_p146 : lw_okq (⟨"BoxedvalueModel", "values", "(II)I"⟩, 43) := ⟨⟨by decide +kernel, by decide +kernel⟩, List.mem_of_getElem? (i := 1754) (by decide +kernel), List.mem_of_getElem? (i := 2384) (by decide +kernel), List.mem_of_getElem? (i := 2385) (by decide +kernel)⟩
theorem lw_p147 : lw_okq (⟨"BoxedvalueModel", "whole", "(IJ)I"⟩, 43) := ⟨⟨by decide +kernel, by decide +kernel⟩, List.mem_of_getElem? (i := 1754) (by decide +kernel), List.mem_of_getElem? (i := 2388) (by decide +kernel), List.mem_of_getElem? (i := 2389) (by decide +kernel)⟩
theorem lw_p148 : lw_okq (⟨"BoxedvalueModel", "noLook", "(II)I"⟩, 43) := ⟨⟨by decide +kernel, by decide +kernel⟩, List.mem_of_getElem? (i := 1754) (by decide +kernel), List.mem_of_getElem? (i := 2404) (by decide +kernel), List.mem_of_getElem? (i := 2405) (by decide +kernel)⟩
theorem lw_p149 : lw_okq (⟨"BoxedvalueModel", "looks", "(III)V"⟩, 43) := ⟨⟨by decide +kernel, by decide +kernel⟩, List.mem_of_getElem? (i := 1754) (by decide +kernel), List.mem_of_getElem? (i := 2408) (by decide +kernel), List.mem_of_getElem? (i := 2409) (by decide +kernel)⟩
theorem lw_p150 : lw_okq (⟨"BoxedvalueModel", "tellsOf", "(II)C"⟩, 43) := ⟨⟨by decide +kernel, by decide +kernel⟩, List.mem_of_getElem? (i := 1754) (by decide +kernel), List.mem_of_getElem? (i := 2412) (by decide +kernel), List.mem_of_getElem? (i := 2413) (by decide +kernel)⟩
theorem lw_p151 : lw_okq (⟨"BoxedvalueModel", "ends", "(II)C"⟩, 43) := ⟨⟨by decide +kernel, by decide +kernel⟩, List.mem_of_getElem? (i := 1754) (by decide +kernel), List.mem_of_getElem? (i := 2416) (by decide +kernel), List.mem_of_getElem? (i := 2417) (by decide +kernel)⟩
theorem lw_p152 : lw_okq (⟨"BoxedvalueModel", "canCut", "(I)Z"⟩, 43) := ⟨⟨by decide +kernel, by decide +kernel⟩, List.mem_of_getElem? (i := 1754) (by decide +kernel), List.mem_of_getElem? (i := 2423) (by decide +kernel), List.mem_of_getElem? (i := 2424) (by decide +kernel)⟩
theorem lw_p153 : lw_okq (⟨"BoxedvalueModel", "middle", "(II)V"⟩, 43) := ⟨⟨by decide +kernel, by decide +kernel⟩, List.mem_of_getElem? (i := 1754) (by decide +kernel), List.mem_of_getElem? (i := 2427) (by decide +kernel), List.mem_of_getElem? (i := 2428) (by decide +kernel)⟩
theorem lw_p154 : lw_okq (⟨"BoxedvalueModel", "half", "(IIZ)V"⟩, 43) := ⟨⟨by decide +kernel, by decide +kernel⟩, List.mem_of_getElem? (i := 1754) (by decide +kernel), List.mem_of_getElem? (i := 2431) (by decide +kernel), List.mem_of_getElem? (i := 2432) (by decide +kernel)⟩
theorem lw_p155 : lw_okq (⟨"BoxedvalueModel", "cutsInto", "(III)I"⟩, 43) := ⟨⟨by decide +kernel, by decide +kernel⟩, List.mem_of_getElem? (i := 1754) (by decide +kernel), List.mem_of_getElem? (i := 2451) (by decide +kernel), List.mem_of_getElem? (i := 2452) (by decide +kernel)⟩
theorem lw_p156 : lw_okq (⟨"BoxedvalueModel", "canBe0", "(III)Z"⟩, 43) := ⟨⟨by decide +kernel, by decide +kernel⟩, List.mem_of_getElem? (i := 1754) (by decide +kernel), List.mem_of_getElem? (i := 2455) (by decide +kernel), List.mem_of_getElem? (i := 2456) (by decide +kernel)⟩
theorem lw_p157 : lw_okq (⟨"BoxedvalueModel", "bounds", "(IIIIZ)Z"⟩, 43) := ⟨⟨by decide +kernel, by decide +kernel⟩, List.mem_of_getElem? (i := 1754) (by decide +kernel), List.mem_of_getElem? (i := 2463) (by decide +kernel), List.mem_of_getElem? (i := 2464) (by decide +kernel)⟩
theorem lw_p158 : lw_okq (⟨"BoxedvalueModel", "noBounds", "(IIII)I"⟩, 43) := ⟨⟨by decide +kernel, by decide +kernel⟩, List.mem_of_getElem? (i := 1754) (by decide +kernel), List.mem_of_getElem? (i := 2467) (by decide +kernel), List.mem_of_getElem? (i := 2468) (by decide +kernel)⟩
theorem lw_p159 : lw_okq (⟨"BoxedvalueModel", "extreme", "(IIIIZ)I"⟩, 43) := ⟨⟨by decide +kernel, by decide +kernel⟩, List.mem_of_getElem? (i := 1754) (by decide +kernel), List.mem_of_getElem? (i := 2471) (by decide +kernel), List.mem_of_getElem? (i := 2472) (by decide +kernel)⟩
def lw_privs_10 : List (MethodName × Nat) := [(⟨"BoxedvalueModel", "told", "(IIIIZ)I"⟩, 43), (⟨"BoxedvalueModel", "slopes", "(II)I"⟩, 43), (⟨"BoxedvalueModel", "values", "(II)I"⟩, 43), (⟨"BoxedvalueModel", "whole", "(IJ)I"⟩, 43), (⟨"BoxedvalueModel", "noLook", "(II)I"⟩, 43), (⟨"BoxedvalueModel", "looks", "(III)V"⟩, 43), (⟨"BoxedvalueModel", "tellsOf", "(II)C"⟩, 43), (⟨"BoxedvalueModel", "ends", "(II)C"⟩, 43), (⟨"BoxedvalueModel", "canCut", "(I)Z"⟩, 43), (⟨"BoxedvalueModel", "middle", "(II)V"⟩, 43), (⟨"BoxedvalueModel", "half", "(IIZ)V"⟩, 43), (⟨"BoxedvalueModel", "cutsInto", "(III)I"⟩, 43), (⟨"BoxedvalueModel", "canBe0", "(III)Z"⟩, 43), (⟨"BoxedvalueModel", "bounds", "(IIIIZ)Z"⟩, 43), (⟨"BoxedvalueModel", "noBounds", "(IIII)I"⟩, 43), (⟨"BoxedvalueModel", "extreme", "(IIIIZ)I"⟩, 43)]
theorem lw_r10 : ∀ q ∈ lw_privs_10, lw_okq q := List.forall_mem_cons.mpr ⟨lw_p144, List.forall_mem_cons.mpr ⟨lw_p145, List.forall_mem_cons.mpr ⟨lw_p146, List.forall_mem_cons.mpr ⟨lw_p147, List.forall_mem_cons.mpr ⟨lw_p148, List.forall_mem_cons.mpr ⟨lw_p149, List.forall_mem_cons.mpr ⟨lw_p150, List.forall_mem_cons.mpr ⟨lw_p151, List.forall_mem_cons.mpr ⟨lw_p152, List.forall_mem_cons.mpr ⟨lw_p153, List.forall_mem_cons.mpr ⟨lw_p154, List.forall_mem_cons.mpr ⟨lw_p155, List.forall_mem_cons.mpr ⟨lw_p156, List.forall_mem_cons.mpr ⟨lw_p157, List.forall_mem_cons.mpr ⟨lw_p158, List.forall_mem_cons.mpr ⟨lw_p159, fun _ h => absurd h List.not_mem_nil⟩⟩⟩⟩⟩⟩⟩⟩⟩⟩⟩⟩⟩⟩⟩⟩
theorem lw_p160 : lw_okq (⟨"BoxedvalueModel", "areas", "(IIII)I"⟩, 43) := ⟨⟨by decide +kernel, by decide +kernel⟩, List.mem_of_getElem? (i := 1754) (by decide +kernel), List.mem_of_getElem? (i := 2483) (by decide +kernel), List.mem_of_getElem? (i := 2484) (by decide +kernel)⟩
theorem lw_p161 : lw_okq (⟨"BoxedvalueModel", "moves", "(IIII)I"⟩, 43) := ⟨⟨by decide +kernel, by decide +kernel⟩, List.mem_of_getElem? (i := 1754) (by decide +kernel), List.mem_of_getElem? (i := 2492) (by decide +kernel), List.mem_of_getElem? (i := 2493) (by decide +kernel)⟩
theorem lw_p162 : lw_okq (⟨"BoxedvalueModel", "outward", "(I)I"⟩, 43) := ⟨⟨by decide +kernel, by decide +kernel⟩, List.mem_of_getElem? (i := 1754) (by decide +kernel), List.mem_of_getElem? (i := 2497) (by decide +kernel), List.mem_of_getElem? (i := 2498) (by decide +kernel)⟩
theorem lw_p163 : lw_okq (⟨"BoxedvalueModel", "spelledInto", "(JJJ)J"⟩, 43) := ⟨⟨by decide +kernel, by decide +kernel⟩, List.mem_of_getElem? (i := 1754) (by decide +kernel), List.mem_of_getElem? (i := 2511) (by decide +kernel), List.mem_of_getElem? (i := 2512) (by decide +kernel)⟩
def lw_privs_11 : List (MethodName × Nat) := [(⟨"BoxedvalueModel", "areas", "(IIII)I"⟩, 43), (⟨"BoxedvalueModel", "moves", "(IIII)I"⟩, 43), (⟨"BoxedvalueModel", "outward", "(I)I"⟩, 43), (⟨"BoxedvalueModel", "spelledInto", "(JJJ)J"⟩, 43)]
theorem lw_r11 : ∀ q ∈ lw_privs_11, lw_okq q := List.forall_mem_cons.mpr ⟨lw_p160, List.forall_mem_cons.mpr ⟨lw_p161, List.forall_mem_cons.mpr ⟨lw_p162, List.forall_mem_cons.mpr ⟨lw_p163, fun _ h => absurd h List.not_mem_nil⟩⟩⟩⟩
def lw_privs : List (MethodName × Nat) := lw_privs_1 ++ (lw_privs_2 ++ (lw_privs_3 ++ (lw_privs_4 ++ (lw_privs_5 ++ (lw_privs_6 ++ (lw_privs_7 ++ (lw_privs_8 ++ (lw_privs_9 ++ (lw_privs_10 ++ (lw_privs_11))))))))))
def lw_tbl : List Cond := k2_sels lw_privs ++ tables_1
theorem lw_privs_ok : ∀ q ∈ lw_privs, lw_okq q := by
  show ∀ q ∈ lw_privs_1 ++ (lw_privs_2 ++ (lw_privs_3 ++ (lw_privs_4 ++ (lw_privs_5 ++ (lw_privs_6 ++ (lw_privs_7 ++ (lw_privs_8 ++ (lw_privs_9 ++ (lw_privs_10 ++ (lw_privs_11)))))))))), lw_okq q
  exact List.forall_mem_append.mpr ⟨lw_r1, List.forall_mem_append.mpr ⟨lw_r2, List.forall_mem_append.mpr ⟨lw_r3, List.forall_mem_append.mpr ⟨lw_r4, List.forall_mem_append.mpr ⟨lw_r5, List.forall_mem_append.mpr ⟨lw_r6, List.forall_mem_append.mpr ⟨lw_r7, List.forall_mem_append.mpr ⟨lw_r8, List.forall_mem_append.mpr ⟨lw_r9, List.forall_mem_append.mpr ⟨lw_r10, lw_r11⟩⟩⟩⟩⟩⟩⟩⟩⟩⟩
/-- the streams that the claim lets the run draw from -/
abbrev lw_cs : List Choice := [Jvm.Choice.named "NaN.bits"]
theorem lw_bits : nanBits ∈ lw_cs := by first | decide | exact List.mem_cons_self | simp [lw_cs, nanBits]
-- ===== end of PART A; then your names; then what follows =====
end
section
/-! ===== BEGIN words of one list among another's, by their places ===== -/
theorem goodIn_r {big : List Cond} (ws : List Cond) (ps : List Nat) (hp : ws = ps.filterMap (fun i => big[i]?)) (h : ws.all goodWord = true) : GoodIn big ws := by
  intro w hw
  have h1 := List.all_eq_true.mp h w hw
  rw [hp] at hw
  obtain ⟨i, -, hi⟩ := List.mem_filterMap.mp hw
  have hm : w ∈ big := by first | exact List.mem_of_getElem? hi | exact List.getElem?_mem hi
  exact ⟨hm, good_of_word h1⟩
theorem goodIn_app {big a b : List Cond} (ha : GoodIn big a) (hb : GoodIn big b) : GoodIn big (a ++ b) := fun w h => (List.mem_append.mp h).elim (ha w) (hb w)
theorem goodIn_ca {big a b : List Cond} {c : Cond} (ha : GoodIn big (c :: a)) (hb : GoodIn big b) : GoodIn big (c :: (a ++ b)) := fun w h => (List.mem_cons.mp h).elim (fun e => ha w (List.mem_cons.mpr (Or.inl e))) (fun h => (List.mem_append.mp h).elim (fun h => ha w (List.mem_cons.mpr (Or.inr h))) (hb w))
theorem goodIn_sub {big ws : List Cond} (hm : ∀ w ∈ ws, w ∈ big) (h : ws.all goodWord = true) : GoodIn big ws := fun w hw => ⟨hm w hw, good_of_word (List.all_eq_true.mp h w hw)⟩
/-! ===== END ===== -/

/-! ===== BEGIN exceptions that leave a method, and their catching by the caller (launches without stack traces) ===== -/
section VXA
/-! The laws vx_back, vx_callV, vx_callS, vx_callSW, vx_throw0, vx_throwS follow proofs of the library, with one case more: JvmDerived/Free/Laws.lean (Back.of_free), Shelf42/LK1.lean (callV, callS), Shelf/KitTraced.lean (throwNew0V, throwNewS). -/
/-- where a method has thrown q: the class by its name, the cell, what was written, the world -/
def vx_T (XC : String → State → State → Prop) (st : State) (q : Addr) (t : State) (mc ms : Nat) (free : Addr → Prop) : Prop :=
  ∃ (E : String) (ce : Cell) (L : List Loc), XC E st t ∧ t.heap[q]? = some ce ∧ ce.vm = .none ∧ st.vm.findClass E = some ce.cls ∧ st.WarmedH t.vm ∧ st.sameButNew ({ t with vm := st.vm } : State) L mc ms ∧ ∀ z ∈ L, free z.base
def vx_Q (Qc : Array Value → State → Outcome → State → Prop) (XC : String → State → State → Prop) (mc ms : Nat) (free : Addr → Prop) : Array Value → State → Outcome → State → Prop := fun a st o t =>
  (Qc a st o t ∧ ∃ L, FrameEnd st o t L mc ms ∧ ∀ q ∈ L, free q.base) ∨ ∃ q, o = .threw q ∧ vx_T XC st q t mc ms free
/-- a callee that returns or throws -/
def vx_Met (l : Launch) (y : MethodName) (ws : List Cond) (rm : Room) (Pc : Array Value → State → Prop) (Qc : Array Value → State → Outcome → State → Prop) (XC : String → State → State → Prop) (mc ms : Nat) (free : Addr → Prop) : Prop :=
  MetFree l y (headSpec ws rm) Pc (fun _ _ _ _ _ => True) (vx_Q Qc XC mc ms free)
def vx_Post (XC : String → State → State → Prop) (mc ms : Nat) (free : Addr → Prop) : Pt → Array Value → Addr → Pt → Prop := fun A a q B =>
  ∃ (g : JFrame) (mk : MethodId) (t : State) (L : List Loc) (E : String) (ce : Cell), B.U.heap = t.heap ∧ B.U.vm = t.vm ∧ XC E (A.U.calling g mk a) t ∧ t.heap[q]? = some ce ∧ ce.vm = .none ∧ A.U.vm.findClass E = some ce.cls ∧ B.locs = A.locs ++ L ∧ (∀ z ∈ L, free z.base) ∧ B.cells = A.cells + mc ∧ B.slots = A.slots + ms
def vx_Back (l : Launch) (R : Room) (p : Program) (e : Env) (below : List Frame) (s : State) (sargs : Array Value) (y : MethodName) (len W9 : Nat)
    (Pre : Pt → Array Value → Prop) (Post : Pt → Array Value → Option Value → Pt → Prop) (PostX : Pt → Array Value → Addr → Pt → Prop) : Prop :=
  ∀ (m : MethodId) (meth : Method) (c : Code) (A : Pt) (g : JFrame) (ig : Instr) (mk : MethodId) (a : Array Value),
    Stand p l e R s m sargs below meth c A.U A.locs A.cells A.slots → g.method = m → g.locals.size = c.maxLocals → decode c.code g.pc = .ok (ig, len) →
    2 * g.monitorRoom + (g.stack.map fun v => v.category).sum ≤ W9 → A.U.methodNamed? y = some mk → Pre A a →
    (∃ (v : Option Value) (B : Pt), Stand p l e R s m sargs below meth c B.U B.locs B.cells B.slots ∧ Post A a v B ∧
      Steps p.tables e below (doInvoke e (A.U.setTop g) [] mk a).1 (B.U.setTop { g with pc := g.pc + len, stack := v.toList ++ g.stack })) ∨
    (∃ (q : Addr) (B : Pt), Stand p l e R s m sargs below meth c B.U B.locs B.cells B.slots ∧ PostX A a q B ∧
      Steps p.tables e below (doInvoke e (A.U.setTop g) [] mk a).1 ((B.U.setTop g).pushFrame (.throwing q)))
section Payer
variable {l : Launch} {R : Room} {p : Program} {e : Env} {below : List Frame} {s : State} {sargs : Array Value} {y : MethodName} {len W9 : Nat}
theorem vx_back {ws : List Cond} {rm : Room} {Pc : Array Value → State → Prop} {Qc : Array Value → State → Outcome → State → Prop} {XC : String → State → State → Prop} {mc ms : Nat} {free : Addr → Prop} {bytes : ByteArray} {maxL : Nat} {ret : Option FieldType}
    (hM : vx_Met l y ws rm Pc Qc XC mc ms free) (hblind : FrameBlind Pc) (hrc : rm.cells = mc) (hrs : rm.slots = ms)
    (hframes : rm.frames + 1 ≤ R.frames) (hlocals : W9 + (maxL + 11) + rm.locals ≤ R.locals)
    (hws : ∀ w ∈ ws, ∀ a' U, s.WarmedH U.vm → w.before a' U = true) (hcode : Cond.code y bytes maxL ret ∈ ws) (hinit : ∀ a' U, s.WarmedH U.vm → (Cond.initialized y.cls).before a' U = true) :
    vx_Back l R p e below s sargs y len W9 (PreOf R mc ms Pc) (PostOf Qc mc ms free) (vx_Post XC mc ms free) := by
  intro m meth c A g ig mk a X hg hsize hdg hW hn hp
  have h1 : (headSpec ws rm).pre.before a A.U = true := atoms_intro fun w hw => hws w hw _ _ X.warmed
  have h2 : (Cond.code y bytes maxL ret).before a A.U = true := hws _ hcode _ _ X.warmed
  have h3 : (Cond.initialized y.cls).before a A.U = true := hinit _ _ X.warmed
  have h4 : A.cells + (headSpec ws rm).room.cells ≤ R.cells := by rw [show (headSpec ws rm).room.cells = mc from hrc]; exact hp.1
  have h5 : A.slots + (headSpec ws rm).room.slots ≤ R.slots := by rw [show (headSpec ws rm).room.slots = ms from hrs]; exact hp.2.1
  have hPc : Pc a (A.U.calling g mk a) := hblind _ _ _ _ hp.2.2
  obtain ⟨U, Ls, c0, s0⟩ := A
  dsimp only [Pt.U, Pt.locs, Pt.cells, Pt.slots] at h1 h2 h3 h4 h5 X hn hPc ⊢
  obtain ⟨methY, cY, hmY, hcY, -, hlY, -, -, -, -⟩ := Cond.code_spec hn h2
  obtain ⟨kY, hkY, -⟩ := className_of_methodNamed hn
  have hinitY : kY.init = .initialized := Cond.initialized_spec (findClass_of_methodNamed hn) hkY h3
  have h : At U g.method c below := by rw [hg]; exact X.here
  have hlocals9 : W9 + (maxL + 11) + (headSpec ws rm).room.locals ≤ R.locals := hlocals
  have happ : (headSpec ws rm).appliesLoose y e.platform (U.calling g mk a) = true :=
    Spec.appliesLoose_calling (g := g) h hdg hn hkY hinitY
      (X.room_calling (g := g) (R' := (headSpec ws rm).room) hsize hmY hcY hframes (by rw [hlY]; omega) h4 h5) h1
  obtain ⟨mid, hmid⟩ := h.above
  have hfr : (U.setTop g).frames = (.java g :: mid) ++ below := by rw [State.frames_setTop' g h.top, hmid]; rfl
  obtain ⟨o, s₂, hsteps, -, hend, hq⟩ := Steps.callFree hM p X.admits X.cas X.clock (acts := []) hfr happ hPc trivial
  have hq' : vx_Q Qc XC mc ms free a (U.calling g mk a) o s₂ := hq
  rw [State.frames_setTop' g h.top] at hend
  obtain ⟨g₀, hg0⟩ := Option.isSome_iff_exists.mp h.top
  obtain ⟨r, hr⟩ := State.topJava?_eq_some.mp hg0
  have hr' : (({ U with heap := s₂.heap, slotsUsed := s₂.slotsUsed } : State).setVm s₂.vm).frames = .java g₀ :: r := hr
  rcases hq' with ⟨hqc, L, hfe, hL⟩ | ⟨q, rfl, E, ce, L, hx, hce, hcv, hcl, hW₂, hsm, hL⟩
  · obtain ⟨⟨v, rfl⟩, hW₂, e2, q2, q3, q4, q5, q6⟩ := id hfe
    have e3 : s₂ = ({ (U.calling g mk a).setFrames s₂.frames with heap := s₂.heap, slotsUsed := s₂.slotsUsed } : State).setVm s₂.vm := by
      have : s₂ = ({ s₂ with vm := (U.calling g mk a).vm } : State).setVm s₂.vm := rfl
      rw [e2] at this
      exact this
    obtain ⟨c₂, i₂, len₂, hc₂, hd₂, hf₂⟩ := hend
    have hW' : U.WarmedH s₂.vm := hW₂
    have hcc : c₂ = c := by
      have h1 : s₂.code? g.method = U.code? g.method := by
        rw [State.code?_eq, State.code?_eq, hW'.alike.method?]
      exact Option.some.inj (hc₂.symm.trans (h1.trans h.code))
    subst hcc
    have hlen : len₂ = len := by rw [hdg] at hd₂; cases hd₂; rfl
    subst hlen
    have hs₂ : s₂ = (({ U with heap := s₂.heap, slotsUsed := s₂.slotsUsed } : State).setVm s₂.vm).setTop { g with pc := g.pc + len₂, stack := v.toList ++ g.stack } := by
      refine e3.trans ?_
      rw [hf₂, State.calling_eq h.top, State.setFrames_setFrames, State.setTop_of_frames _ hr', hr]
      rfl
    have hsame : U.sameButNew ({ U with heap := s₂.heap, slotsUsed := s₂.slotsUsed } : State) L mc ms := by
      refine ⟨?_, q2, q3, q4, q5, q6⟩
      obtain ⟨t, ht, -⟩ := State.frames_cons hr
      show ({ U with heap := s₂.heap, slotsUsed := s₂.slotsUsed } : State) = { U.setFrames U.frames with heap := s₂.heap, slotsUsed := s₂.slotsUsed }
      rw [State.setFrames_self ht]
    subst hg
    refine Or.inl ⟨v, ⟨(({ U with heap := s₂.heap, slotsUsed := s₂.slotsUsed } : State).setVm s₂.vm), Ls ++ L, c0 + mc, s0 + ms⟩,
      ⟨X.admits, X.cas, X.clock, X.frames, X.room, X.hears, X.method, X.code, (X.here.setHeapUsed s₂.heap s₂.slotsUsed).setVm hW'.alike, X.tail, State.WarmedH.trans X.warmed hW', X.limits, X.bytes, X.same.trans (hsame.setVm s.vm)⟩,
      ⟨g, mk, s₂, L, rfl, rfl, hqc, rfl, hL, rfl, rfl⟩, ?_⟩
    show Steps p.tables e below _ ((({ U with heap := s₂.heap, slotsUsed := s₂.slotsUsed } : State).setVm s₂.vm).setTop { g with pc := g.pc + len₂, stack := v.toList ++ g.stack })
    rw [← hs₂]
    exact hsteps
  · obtain ⟨e2, q2, q3, q4, q5, q6⟩ := id hsm
    have e3 : s₂ = ({ (U.calling g mk a).setFrames s₂.frames with heap := s₂.heap, slotsUsed := s₂.slotsUsed } : State).setVm s₂.vm := by
      have : s₂ = ({ s₂ with vm := (U.calling g mk a).vm } : State).setVm s₂.vm := rfl
      rw [e2] at this
      exact this
    have hf₂ : s₂.frames = .throwing q :: .java g :: U.frames.tail := hend
    have hW' : U.WarmedH s₂.vm := hW₂
    have hs₂ : s₂ = ((({ U with heap := s₂.heap, slotsUsed := s₂.slotsUsed } : State).setVm s₂.vm).setTop g).pushFrame (.throwing q) := by
      refine e3.trans ?_
      rw [hf₂, State.calling_eq h.top, State.setFrames_setFrames, State.pushFrame, State.frames_setTop _ hr', State.setTop_of_frames _ hr', State.setFrames_setFrames, hr]
      rfl
    have hsame : U.sameButNew ({ U with heap := s₂.heap, slotsUsed := s₂.slotsUsed } : State) L mc ms := by
      refine ⟨?_, q2, q3, q4, q5, q6⟩
      obtain ⟨t, ht, -⟩ := State.frames_cons hr
      show ({ U with heap := s₂.heap, slotsUsed := s₂.slotsUsed } : State) = { U.setFrames U.frames with heap := s₂.heap, slotsUsed := s₂.slotsUsed }
      rw [State.setFrames_self ht]
    subst hg
    refine Or.inr ⟨q, ⟨(({ U with heap := s₂.heap, slotsUsed := s₂.slotsUsed } : State).setVm s₂.vm), Ls ++ L, c0 + mc, s0 + ms⟩,
      ⟨X.admits, X.cas, X.clock, X.frames, X.room, X.hears, X.method, X.code, (X.here.setHeapUsed s₂.heap s₂.slotsUsed).setVm hW'.alike, X.tail, State.WarmedH.trans X.warmed hW', X.limits, X.bytes, X.same.trans (hsame.setVm s.vm)⟩,
      ⟨g, mk, s₂, L, E, ce, rfl, rfl, hx, hce, hcv, hcl, rfl, hL, rfl, rfl⟩, ?_⟩
    show Steps p.tables e below _ (((({ U with heap := s₂.heap, slotsUsed := s₂.slotsUsed } : State).setVm s₂.vm).setTop g).pushFrame (.throwing q))
    rw [← hs₂]
    exact hsteps
end Payer
section Calls
variable {p : Program} {l : Launch} {e : Env} {R : Room} {s : State} {m : MethodId} {args : Array Value} {below : List Frame} {meth : Method} {c : Code} {T : State} {locs : List Loc} {cells slots : Nat}
theorem vx_callV (X : Stand p l e R s m args below meth c T locs cells slots) (hexec : p.tables.exec = Jvm.exec) {own C : String} {index : Nat} {y : MethodName} {bytes : ByteArray} {maxL : Nat} {ret : Option FieldType}
    (hown : s.vm.findClass own = some m.cls) (hlink : (Cond.methodLink own index y).before args s = true) (hinst : (Cond.instanceMethod y).before args s = true) (hsel : (Cond.selects C y y).before args s = true)
    (hcode : (Cond.code y bytes maxL ret).before args s = true) (hy : y.cls ≠ "java/lang/invoke/MethodHandle" ∧ y.cls ≠ "java/lang/invoke/VarHandle")
    {W9 : Nat} {Pre : Pt → Array Value → Prop} {Post : Pt → Array Value → Option Value → Pt → Prop} {PostX : Pt → Array Value → Addr → Pt → Prop} (hK : vx_Back l R p e below s args y 3 W9 Pre Post PostX)
    {b : Addr} {cellB : Cell} (hcell : T.heap[b]? = some cellB) (hobj : cellB.vm.isStatics = false) (hcls : s.vm.findClass C = some cellB.cls)
    {g : JFrame} (hg : g.method = m) (hsize : g.locals.size = c.maxLocals) {argsL rest : List Value} (hlen : ∀ sig, parseMethodDescriptor y.desc = some sig → argsL.length = sig.parameters.length)
    (hstack : g.stack = argsL.reverse ++ .ref b :: rest) (hW : 2 * g.monitorRoom + (rest.map fun v => v.category).sum ≤ W9) (hdg : decode c.code g.pc = .ok (.invokevirtual index, 3))
    (hpre : ∀ vm₁, s.WarmedH vm₁ → Pre ⟨T.setVm vm₁, locs, cells, slots⟩ (Value.ref b :: argsL).toArray) :
    (∃ (v : Option Value) (vm₁ : Vm) (B : Pt), s.WarmedH vm₁ ∧ Stand p l e R s m args below meth c B.U B.locs B.cells B.slots ∧ Post ⟨T.setVm vm₁, locs, cells, slots⟩ (Value.ref b :: argsL).toArray v B ∧
      ∀ target, Steps p.tables e below (B.U.setTop { g with pc := g.pc + 3, stack := v.toList ++ rest }) target → Steps p.tables e below (T.setTop g) target) ∨
    (∃ (q : Addr) (vm₁ : Vm) (B : Pt), s.WarmedH vm₁ ∧ Stand p l e R s m args below meth c B.U B.locs B.cells B.slots ∧ PostX ⟨T.setVm vm₁, locs, cells, slots⟩ (Value.ref b :: argsL).toArray q B ∧
      Steps p.tables e below (T.setTop g) ((B.U.setTop { g with stack := rest }).pushFrame (.throwing q))) := by
  obtain ⟨mk, methM, hnamed, hmethM, hstM, habM⟩ := Cond.instanceMethod_spec hinst
  obtain ⟨methM', cM, hmethM', -, -, -, -, -, -, hsigM⟩ := Cond.code_spec hnamed hcode
  cases hmethM.symm.trans hmethM'
  obtain ⟨c2, r2, m2, q1, q2, q3, q4, kP, hkP, hkPi⟩ := Cond.selects_spec hsel
  cases hcls.symm.trans q1
  cases (State.methodFound?_of_named hnamed hy).symm.trans q2
  cases hnamed.symm.trans q3
  have hselP : selectMethod e.platform s.vm cellB.cls mk = .method mk := by rw [Launch.admits_selectMethod X.admits]; exact q4
  obtain ⟨vm₁, X₁, hstep₁⟩ := X.invokevirtual hexec hown hlink hnamed hmethM hstM hkP hkPi hy (a := b) (cell := cellB) hcell
    (fun z h => by rw [h] at hobj; cases hobj) hselP hmethM habM hkP hkPi (g := g) hg (argsL := argsL) (rest := rest) (hlen _ hsigM) hstack hdg
  rcases hK m meth c ⟨T.setVm vm₁, locs, cells, slots⟩ { g with stack := rest } (.invokevirtual index) mk (Value.ref b :: argsL).toArray X₁ hg hsize hdg hW (X₁.named hnamed) (hpre vm₁ X₁.warmed) with ⟨v, B, X', hpost, hsteps⟩ | ⟨q, B, X', hpost, hsteps⟩
  · exact Or.inl ⟨v, vm₁, B, X₁.warmed, X', hpost, fun target h => hstep₁ _ fun acts => by rw [doInvoke_state]; exact hsteps.trans h⟩
  · exact Or.inr ⟨q, vm₁, B, X₁.warmed, X', hpost, hstep₁ _ fun acts => by rw [doInvoke_state]; exact hsteps⟩
theorem vx_callS (X : Stand p l e R s m args below meth c T locs cells slots) (hexec : p.tables.exec = Jvm.exec) {own : String} {index : Nat} {y : MethodName} {bytes : ByteArray} {maxL : Nat} {ret : Option FieldType}
    (hown : s.vm.findClass own = some m.cls) (hlink : (Cond.methodLink own index y).before args s = true) (hstat : (Cond.static y).before args s = true) (hinit : (Cond.initialized y.cls).before args s = true)
    (hcode : (Cond.code y bytes maxL ret).before args s = true) (hy : y.cls ≠ "java/lang/invoke/MethodHandle" ∧ y.cls ≠ "java/lang/invoke/VarHandle")
    {W9 : Nat} {Pre : Pt → Array Value → Prop} {Post : Pt → Array Value → Option Value → Pt → Prop} {PostX : Pt → Array Value → Addr → Pt → Prop} (hK : vx_Back l R p e below s args y 3 W9 Pre Post PostX)
    {g : JFrame} (hg : g.method = m) (hsize : g.locals.size = c.maxLocals) {argsL rest : List Value} (hlen : ∀ sig, parseMethodDescriptor y.desc = some sig → argsL.length = sig.parameters.length)
    (hstack : g.stack = argsL.reverse ++ rest) (hW : 2 * g.monitorRoom + (rest.map fun v => v.category).sum ≤ W9) (hdg : decode c.code g.pc = .ok (.invokestatic index, 3))
    (hpre : ∀ vm₁, s.WarmedH vm₁ → Pre ⟨T.setVm vm₁, locs, cells, slots⟩ argsL.toArray) :
    (∃ (v : Option Value) (vm₁ : Vm) (B : Pt), s.WarmedH vm₁ ∧ Stand p l e R s m args below meth c B.U B.locs B.cells B.slots ∧ Post ⟨T.setVm vm₁, locs, cells, slots⟩ argsL.toArray v B ∧
      ∀ target, Steps p.tables e below (B.U.setTop { g with pc := g.pc + 3, stack := v.toList ++ rest }) target → Steps p.tables e below (T.setTop g) target) ∨
    (∃ (q : Addr) (vm₁ : Vm) (B : Pt), s.WarmedH vm₁ ∧ Stand p l e R s m args below meth c B.U B.locs B.cells B.slots ∧ PostX ⟨T.setVm vm₁, locs, cells, slots⟩ argsL.toArray q B ∧
      Steps p.tables e below (T.setTop g) ((B.U.setTop { g with stack := rest }).pushFrame (.throwing q))) := by
  obtain ⟨mk, hnamed⟩ := Cond.code_named hcode
  obtain ⟨methM, cM, hmethM, -, -, -, -, -, -, hsigM⟩ := Cond.code_spec hnamed hcode
  have hstatic : methM.isStatic = true := Cond.static_spec hnamed hmethM hstat
  obtain ⟨kP, hkP, -⟩ := className_of_methodNamed hnamed
  have hinitP : kP.init = .initialized := Cond.initialized_spec (findClass_of_methodNamed hnamed) hkP hinit
  obtain ⟨vm₁, X₁, hstep₁⟩ := X.invokestatic hexec hown hlink hnamed hmethM hstatic hkP hinitP hy (g := g) hg (argsL := argsL) (rest := rest) (hlen _ hsigM) hstack hdg
  rcases hK m meth c ⟨T.setVm vm₁, locs, cells, slots⟩ { g with stack := rest } (.invokestatic index) mk argsL.toArray X₁ hg hsize hdg hW (X₁.named hnamed) (hpre vm₁ X₁.warmed) with ⟨v, B, X', hpost, hsteps⟩ | ⟨q, B, X', hpost, hsteps⟩
  · exact Or.inl ⟨v, vm₁, B, X₁.warmed, X', hpost, fun target h => hstep₁ _ fun acts => by rw [doInvoke_state]; exact hsteps.trans h⟩
  · exact Or.inr ⟨q, vm₁, B, X₁.warmed, X', hpost, hstep₁ _ fun acts => by rw [doInvoke_state]; exact hsteps⟩
end Calls
theorem vx_cls {s : State} {T : State} {vm₁ : Vm} {E : String} {k : ClassId} (hW : s.WarmedH vm₁) (h : (T.setVm vm₁).vm.findClass E = some k) : s.vm.findClass E = some k := by
  have h1 : vm₁.findClass E = some k := h
  rw [hW.alike.findClass] at h1
  exact h1
/-- the method's frame g, with q thrown over it -/
def vx_W (p : Program) (l : Launch) (e : Env) (R : Room) (s : State) (m : MethodId) (args : Array Value) (below : List Frame) (meth : Method) (c : Code) (H : Heap) (locs : List Loc) (cells slots : Nat) (Q : State → Prop) (g : JFrame) (q : Addr) : Prop :=
  ∀ T : State, T.heap = H → Stand p l e R s m args below meth c T locs cells slots → ∃ t, Steps p.tables e below ((T.setTop g).pushFrame (.throwing q)) t ∧ Q t
def vx_Run (p : Program) (l : Launch) (e : Env) (R : Room) (s : State) (m : MethodId) (args : Array Value) (below : List Frame) (meth : Method) (c : Code) (H : Heap) (locs : List Loc) (cells slots mc ms : Nat) (g : JFrame) (rest : List Value) (Qa : State → Outcome → State → Prop) (XC : String → State → State → Prop) (free : Addr → Prop) : Prop :=
  ∀ T : State, T.heap = H → Stand p l e R s m args below meth c T locs cells slots →
    (∃ (v : Option Value) (st₀ t T' : State) (L : List Loc), st₀.heap = H ∧ Stand p l e R s m args below meth c T' (locs ++ L) (cells + mc) (slots + ms) ∧ (∀ q ∈ L, free q.base) ∧ T'.heap = t.heap ∧ T'.vm = t.vm ∧ Qa st₀ (.returned v) t ∧
      Goes p e below T g T' { g with pc := g.pc + 3, stack := v.toList ++ rest }) ∨
    (∃ (q : Addr) (st₀ t T' : State) (L : List Loc) (E : String) (ce : Cell), st₀.heap = H ∧ Stand p l e R s m args below meth c T' (locs ++ L) (cells + mc) (slots + ms) ∧ (∀ z ∈ L, free z.base) ∧ T'.heap = t.heap ∧ T'.vm = t.vm ∧ XC E st₀ t ∧ t.heap[q]? = some ce ∧ ce.vm = .none ∧ s.vm.findClass E = some ce.cls ∧
      Steps p.tables e below (T.setTop g) ((T'.setTop { g with stack := rest }).pushFrame (.throwing q)))
def vx_X {S : Type} (px : S → Prop) (B : String → S → State → Prop) (A : Nat → Prop) : String → State → State → Prop := fun E st t => ∃ u : S, px u ∧ B E u t ∧ va_F A st t
section Runs
variable {p : Program} {l : Launch} {e : Env} {R : Room} {s : State} {m : MethodId} {args : Array Value} {below : List Frame} {meth : Method} {c : Code} {H : Heap} {locs : List Loc} {cells slots : Nat}
variable {y : MethodName} {bytes cc : ByteArray} {maxL nL mc ms n index : Nat} {ret : Option FieldType} {ws : List Cond} {rm : Room} {Pc : Array Value → State → Prop} {Qc : Array Value → State → Outcome → State → Prop} {XC : String → State → State → Prop} {free : Addr → Prop} {Ts : List Cond} {own C : String} {b : Addr} {As rest : List Value} {g : JFrame}
theorem vx_callBack (cb : CallB R s args own index y bytes maxL ret ws rm mc ms n) (hM : vx_Met l y ws rm Pc Qc XC mc ms free) (hbl : FrameBlind Pc) : vx_Back l R p e below s args y 3 8 (PreOf R mc ms Pc) (PostOf Qc mc ms free) (vx_Post XC mc ms free) := by
  obtain ⟨hrc, hrs, hfr, hlo, hws, hcw, -, hini, -⟩ := cb
  exact vx_back (bytes := bytes) (maxL := maxL) (ret := ret) hM hbl hrc hrs hfr hlo hws hcw (fun a' U hW => word_at hW (Or.inl (by first | rfl | simp [Cond.onTables, Cond.keeps, Cond.steady])) hini)
theorem vx_runV (S : CallFix p m c cc nL s args Ts own) (hM : vx_Met l y ws rm Pc Qc XC mc ms free) (cw : CallW R s args own C index y bytes maxL ret ws rm mc ms n) (hp : PreV s H C b Pc As)
    (hg : g.method = m) (hn : As.length = n) (hsize : g.locals.size = nL) (hstack : g.stack = As.reverse ++ .ref b :: rest) (hW : 2 * g.monitorRoom + (rest.map fun v => v.category).sum ≤ 8) (hdg : decode cc g.pc = .ok (.invokevirtual index, 3)) (hf : cells + mc ≤ R.cells ∧ slots + ms ≤ R.slots) :
    vx_Run p l e R s m args below meth c H locs cells slots mc ms g rest (Qc (Value.ref b :: As).toArray) XC free := by
  have hK : vx_Back l R p e below s args y 3 8 (PreOf R mc ms Pc) (PostOf Qc mc ms free) (vx_Post XC mc ms free) := vx_callBack cw.1 hM hp.1
  obtain ⟨⟨-, -, -, -, -, -, hcode, -, hy, hlen, hl⟩, hin, hse⟩ := cw
  obtain ⟨hx, hb, hml, ho, -⟩ := S
  obtain ⟨-, ⟨cellB, hcB, hoB, hclB⟩, hPc⟩ := hp
  intro T hT X
  rcases vx_callV X hx (C := C) (bytes := bytes) (maxL := maxL) (ret := ret) ho hl hin hse hcode hy hK (by rw [hT]; exact hcB) hoB hclB hg (hsize.trans hml.symm) (argsL := As) (rest := rest) (fun sig h => hn.trans (hlen sig h)) hstack hW (by rw [hb]; exact hdg)
    (fun vm₁ hW₁ => ⟨hf.1, hf.2, hPc (T.setVm vm₁) hT hW₁⟩) with ⟨v, vm₁, ⟨U', l2, c2, s2⟩, hW₁, X', ⟨g', mk, t, L, e1, e2, hq, h1, hL, h2, h3⟩, st⟩ | ⟨q, vm₁, ⟨U', l2, c2, s2⟩, hW₁, X', ⟨g', mk, t, L, E, ce, e1, e2, hq, hce, hcv, hcl, h1, hL, h2, h3⟩, st⟩
  · dsimp only [Pt.U, Pt.locs, Pt.cells, Pt.slots] at X' e1 e2 h1 h2 h3 st
    subst h1; subst h2; subst h3
    exact Or.inl ⟨v, (T.setVm vm₁).calling g' mk (Value.ref b :: As).toArray, t, U', L, hT, X', hL, e1, e2, hq, st⟩
  · dsimp only [Pt.U, Pt.locs, Pt.cells, Pt.slots] at X' e1 e2 h1 h2 h3 st hcl
    subst h1; subst h2; subst h3
    exact Or.inr ⟨q, (T.setVm vm₁).calling g' mk (Value.ref b :: As).toArray, t, U', L, E, ce, hT, X', hL, e1, e2, hq, hce, hcv, vx_cls hW₁ hcl, st⟩
theorem vx_runS (S : CallFix p m c cc nL s args Ts own) (hM : vx_Met l y ws rm Pc Qc XC mc ms free) (cw : CallB R s args own index y bytes maxL ret ws rm mc ms n ∧ (Cond.static y).before args s = true) (hp : PreS s H Pc As)
    (hg : g.method = m) (hn : As.length = n) (hsize : g.locals.size = nL) (hstack : g.stack = As.reverse ++ rest) (hW : 2 * g.monitorRoom + (rest.map fun v => v.category).sum ≤ 8) (hdg : decode cc g.pc = .ok (.invokestatic index, 3)) (hf : cells + mc ≤ R.cells ∧ slots + ms ≤ R.slots) :
    vx_Run p l e R s m args below meth c H locs cells slots mc ms g rest (Qc As.toArray) XC free := by
  have hK : vx_Back l R p e below s args y 3 8 (PreOf R mc ms Pc) (PostOf Qc mc ms free) (vx_Post XC mc ms free) := vx_callBack cw.1 hM hp.1
  obtain ⟨⟨-, -, -, -, -, -, hcode, hini, hy, hlen, hl⟩, hstt⟩ := cw
  obtain ⟨hx, hb, hml, ho, -⟩ := S
  intro T hT X
  rcases vx_callS X hx (bytes := bytes) (maxL := maxL) (ret := ret) ho hl hstt hini hcode hy hK hg (hsize.trans hml.symm) (argsL := As) (rest := rest) (fun sig h => hn.trans (hlen sig h)) hstack hW (by rw [hb]; exact hdg)
    (fun vm₁ hW₁ => ⟨hf.1, hf.2, hp.2 (T.setVm vm₁) hT hW₁⟩) with ⟨v, vm₁, ⟨U', l2, c2, s2⟩, hW₁, X', ⟨g', mk, t, L, e1, e2, hq, h1, hL, h2, h3⟩, st⟩ | ⟨q, vm₁, ⟨U', l2, c2, s2⟩, hW₁, X', ⟨g', mk, t, L, E, ce, e1, e2, hq, hce, hcv, hcl, h1, hL, h2, h3⟩, st⟩
  · dsimp only [Pt.U, Pt.locs, Pt.cells, Pt.slots] at X' e1 e2 h1 h2 h3 st
    subst h1; subst h2; subst h3
    exact Or.inl ⟨v, (T.setVm vm₁).calling g' mk As.toArray, t, U', L, hT, X', hL, e1, e2, hq, st⟩
  · dsimp only [Pt.U, Pt.locs, Pt.cells, Pt.slots] at X' e1 e2 h1 h2 h3 st hcl
    subst h1; subst h2; subst h3
    exact Or.inr ⟨q, (T.setVm vm₁).calling g' mk As.toArray, t, U', L, E, ce, hT, X', hL, e1, e2, hq, hce, hcv, vx_cls hW₁ hcl, st⟩
end Runs
section Rows
variable {p : Program} {l : Launch} {e : Env} {R : Room} {s : State} {m : MethodId} {args : Array Value} {below : List Frame} {meth : Method} {c : Code} {H : Heap} {locs : List Loc} {cells slots : Nat} {Q : State → Prop}
variable {mc ms : Nat} {free : Addr → Prop} {A0 A1 : Nat → Prop} {H0 : Heap} {a : Array Value} {pc : Nat} {ls : Array Slot} {st0 rest : List Value}
theorem vx_keep {st₀ t T' : State} {L : List Loc} (h0 : st₀.heap = H) (e1 : T'.heap = t.heap) (hS : va_S A0 H0 H locs) (hA : ∀ q, q < H.size → A1 q → A0 q) (hf : ∀ q, free q → A0 q) (hL : ∀ q ∈ L, free q.base) (hF : va_F A1 st₀ t) :
    H.size ≤ T'.heap.size ∧ (∀ q : Nat, q < H.size → ¬ A1 q → T'.heap[q]? = H[q]?) ∧ va_S A0 H0 T'.heap (locs ++ L) := by
  obtain ⟨hz, hk⟩ := hF
  rw [h0] at hz hk
  exact ⟨by rw [e1]; exact hz, fun q h1 h2 => by rw [e1]; exact hk q h1 h2,
    ⟨Nat.le_trans hS.1 (by rw [e1]; exact hz), fun q h1 h2 => by rw [e1, hk q (Nat.lt_of_lt_of_le h1 hS.1) (fun z => h2 (hA q (Nat.lt_of_lt_of_le h1 hS.1) z))]; exact hS.2.1 q h1 h2, fun q hq => by
      rcases List.mem_append.mp hq with h | h
      · exact hS.2.2 q h
      · exact hf _ (hL q h)⟩⟩
theorem vx_calli {S SX : Type} {post : Int32 → S → Prop} {px : SX → Prop} {B : S → State → Prop} {BX : String → SX → State → Prop} {AX : Nat → Prop} (hr : vx_Run p l e R s m args below meth c H locs cells slots mc ms (F0 m pc ls st0) rest (va_Qi post B A1 a) (vx_X px BX AX) free) (hS : va_S A0 H0 H locs) (hA : ∀ q, q < H.size → A1 q → A0 q) (hf : ∀ q, free q → A0 q) (hAX : ∀ q, q < H.size → AX q → A0 q)
    (kx : ∀ (E : String) (ce : Cell) (q9 : Addr) (u : SX) (t : State) (H1 : Heap) (locs1 : List Loc), t.heap = H1 → s.vm.Alike t.vm → px u → BX E u t → H.size ≤ H1.size → (∀ q : Nat, q < H.size → ¬ AX q → H1[q]? = H[q]?) → va_S A0 H0 H1 locs1 → H1[q9]? = some ce → ce.vm = .none → s.vm.findClass E = some ce.cls → vx_W p l e R s m args below meth c H1 locs1 (cells + mc) (slots + ms) Q (F0 m pc ls rest) q9)
    (kk : ∀ (r : Int32) (u : S) (t : State) (H1 : Heap) (locs1 : List Loc), t.heap = H1 → s.vm.Alike t.vm → post r u → B u t → H.size ≤ H1.size → (∀ q : Nat, q < H.size → ¬ A1 q → H1[q]? = H[q]?) → va_S A0 H0 H1 locs1 → W p l e R s m args below meth c H1 locs1 (cells + mc) (slots + ms) Q (F0 m (pc + 3) ls (.int r :: rest))) : W p l e R s m args below meth c H locs cells slots Q (F0 m pc ls st0) := by
  intro T hT X
  rcases hr T hT X with ⟨v, st₀, t, T', L, h0, X', hL, e1, e2, ⟨⟨r, u, hv, hp, hb⟩, hF⟩, st⟩ | ⟨q, st₀, t, T', L, E, ce, h0, X', hL, e1, e2, ⟨u, hp, hb, hF⟩, hce, hcv, hcl, st⟩
  · cases hv
    obtain ⟨k1, k2, k3⟩ := vx_keep h0 e1 hS hA hf hL hF
    obtain ⟨t2, a1, b1⟩ := kk r u t T'.heap (locs ++ L) e1.symm (by rw [← e2]; exact X'.warmed.alike) hp hb k1 k2 k3 T' rfl X'
    exact ⟨t2, st t2 a1, b1⟩
  · obtain ⟨k1, k2, k3⟩ := vx_keep h0 e1 hS hAX hf hL hF
    obtain ⟨t2, a1, b1⟩ := kx E ce q u t T'.heap (locs ++ L) e1.symm (by rw [← e2]; exact X'.warmed.alike) hp hb k1 k2 k3 (by rw [e1]; exact hce) hcv hcl T' rfl X'
    exact ⟨t2, st.trans a1, b1⟩
theorem vx_calll {S SX : Type} {post : Int64 → S → Prop} {px : SX → Prop} {B : S → State → Prop} {BX : String → SX → State → Prop} {AX : Nat → Prop} (hr : vx_Run p l e R s m args below meth c H locs cells slots mc ms (F0 m pc ls st0) rest (va_Ql post B A1 a) (vx_X px BX AX) free) (hS : va_S A0 H0 H locs) (hA : ∀ q, q < H.size → A1 q → A0 q) (hf : ∀ q, free q → A0 q) (hAX : ∀ q, q < H.size → AX q → A0 q)
    (kx : ∀ (E : String) (ce : Cell) (q9 : Addr) (u : SX) (t : State) (H1 : Heap) (locs1 : List Loc), t.heap = H1 → s.vm.Alike t.vm → px u → BX E u t → H.size ≤ H1.size → (∀ q : Nat, q < H.size → ¬ AX q → H1[q]? = H[q]?) → va_S A0 H0 H1 locs1 → H1[q9]? = some ce → ce.vm = .none → s.vm.findClass E = some ce.cls → vx_W p l e R s m args below meth c H1 locs1 (cells + mc) (slots + ms) Q (F0 m pc ls rest) q9)
    (kk : ∀ (r : Int64) (u : S) (t : State) (H1 : Heap) (locs1 : List Loc), t.heap = H1 → s.vm.Alike t.vm → post r u → B u t → H.size ≤ H1.size → (∀ q : Nat, q < H.size → ¬ A1 q → H1[q]? = H[q]?) → va_S A0 H0 H1 locs1 → W p l e R s m args below meth c H1 locs1 (cells + mc) (slots + ms) Q (F0 m (pc + 3) ls (.long r :: rest))) : W p l e R s m args below meth c H locs cells slots Q (F0 m pc ls st0) := by
  intro T hT X
  rcases hr T hT X with ⟨v, st₀, t, T', L, h0, X', hL, e1, e2, ⟨⟨r, u, hv, hp, hb⟩, hF⟩, st⟩ | ⟨q, st₀, t, T', L, E, ce, h0, X', hL, e1, e2, ⟨u, hp, hb, hF⟩, hce, hcv, hcl, st⟩
  · cases hv
    obtain ⟨k1, k2, k3⟩ := vx_keep h0 e1 hS hA hf hL hF
    obtain ⟨t2, a1, b1⟩ := kk r u t T'.heap (locs ++ L) e1.symm (by rw [← e2]; exact X'.warmed.alike) hp hb k1 k2 k3 T' rfl X'
    exact ⟨t2, st t2 a1, b1⟩
  · obtain ⟨k1, k2, k3⟩ := vx_keep h0 e1 hS hAX hf hL hF
    obtain ⟨t2, a1, b1⟩ := kx E ce q u t T'.heap (locs ++ L) e1.symm (by rw [← e2]; exact X'.warmed.alike) hp hb k1 k2 k3 (by rw [e1]; exact hce) hcv hcl T' rfl X'
    exact ⟨t2, st.trans a1, b1⟩
theorem vx_callf {S SX : Type} {post : UInt32 → S → Prop} {px : SX → Prop} {B : S → State → Prop} {BX : String → SX → State → Prop} {AX : Nat → Prop} (hr : vx_Run p l e R s m args below meth c H locs cells slots mc ms (F0 m pc ls st0) rest (va_Qf post B A1 a) (vx_X px BX AX) free) (hS : va_S A0 H0 H locs) (hA : ∀ q, q < H.size → A1 q → A0 q) (hf : ∀ q, free q → A0 q) (hAX : ∀ q, q < H.size → AX q → A0 q)
    (kx : ∀ (E : String) (ce : Cell) (q9 : Addr) (u : SX) (t : State) (H1 : Heap) (locs1 : List Loc), t.heap = H1 → s.vm.Alike t.vm → px u → BX E u t → H.size ≤ H1.size → (∀ q : Nat, q < H.size → ¬ AX q → H1[q]? = H[q]?) → va_S A0 H0 H1 locs1 → H1[q9]? = some ce → ce.vm = .none → s.vm.findClass E = some ce.cls → vx_W p l e R s m args below meth c H1 locs1 (cells + mc) (slots + ms) Q (F0 m pc ls rest) q9)
    (kk : ∀ (r : UInt32) (u : S) (t : State) (H1 : Heap) (locs1 : List Loc), t.heap = H1 → s.vm.Alike t.vm → post r u → B u t → H.size ≤ H1.size → (∀ q : Nat, q < H.size → ¬ A1 q → H1[q]? = H[q]?) → va_S A0 H0 H1 locs1 → W p l e R s m args below meth c H1 locs1 (cells + mc) (slots + ms) Q (F0 m (pc + 3) ls (.float r :: rest))) : W p l e R s m args below meth c H locs cells slots Q (F0 m pc ls st0) := by
  intro T hT X
  rcases hr T hT X with ⟨v, st₀, t, T', L, h0, X', hL, e1, e2, ⟨⟨r, u, hv, hp, hb⟩, hF⟩, st⟩ | ⟨q, st₀, t, T', L, E, ce, h0, X', hL, e1, e2, ⟨u, hp, hb, hF⟩, hce, hcv, hcl, st⟩
  · cases hv
    obtain ⟨k1, k2, k3⟩ := vx_keep h0 e1 hS hA hf hL hF
    obtain ⟨t2, a1, b1⟩ := kk r u t T'.heap (locs ++ L) e1.symm (by rw [← e2]; exact X'.warmed.alike) hp hb k1 k2 k3 T' rfl X'
    exact ⟨t2, st t2 a1, b1⟩
  · obtain ⟨k1, k2, k3⟩ := vx_keep h0 e1 hS hAX hf hL hF
    obtain ⟨t2, a1, b1⟩ := kx E ce q u t T'.heap (locs ++ L) e1.symm (by rw [← e2]; exact X'.warmed.alike) hp hb k1 k2 k3 (by rw [e1]; exact hce) hcv hcl T' rfl X'
    exact ⟨t2, st.trans a1, b1⟩
theorem vx_calld {S SX : Type} {post : UInt64 → S → Prop} {px : SX → Prop} {B : S → State → Prop} {BX : String → SX → State → Prop} {AX : Nat → Prop} (hr : vx_Run p l e R s m args below meth c H locs cells slots mc ms (F0 m pc ls st0) rest (va_Qd post B A1 a) (vx_X px BX AX) free) (hS : va_S A0 H0 H locs) (hA : ∀ q, q < H.size → A1 q → A0 q) (hf : ∀ q, free q → A0 q) (hAX : ∀ q, q < H.size → AX q → A0 q)
    (kx : ∀ (E : String) (ce : Cell) (q9 : Addr) (u : SX) (t : State) (H1 : Heap) (locs1 : List Loc), t.heap = H1 → s.vm.Alike t.vm → px u → BX E u t → H.size ≤ H1.size → (∀ q : Nat, q < H.size → ¬ AX q → H1[q]? = H[q]?) → va_S A0 H0 H1 locs1 → H1[q9]? = some ce → ce.vm = .none → s.vm.findClass E = some ce.cls → vx_W p l e R s m args below meth c H1 locs1 (cells + mc) (slots + ms) Q (F0 m pc ls rest) q9)
    (kk : ∀ (r : UInt64) (u : S) (t : State) (H1 : Heap) (locs1 : List Loc), t.heap = H1 → s.vm.Alike t.vm → post r u → B u t → H.size ≤ H1.size → (∀ q : Nat, q < H.size → ¬ A1 q → H1[q]? = H[q]?) → va_S A0 H0 H1 locs1 → W p l e R s m args below meth c H1 locs1 (cells + mc) (slots + ms) Q (F0 m (pc + 3) ls (.double r :: rest))) : W p l e R s m args below meth c H locs cells slots Q (F0 m pc ls st0) := by
  intro T hT X
  rcases hr T hT X with ⟨v, st₀, t, T', L, h0, X', hL, e1, e2, ⟨⟨r, u, hv, hp, hb⟩, hF⟩, st⟩ | ⟨q, st₀, t, T', L, E, ce, h0, X', hL, e1, e2, ⟨u, hp, hb, hF⟩, hce, hcv, hcl, st⟩
  · cases hv
    obtain ⟨k1, k2, k3⟩ := vx_keep h0 e1 hS hA hf hL hF
    obtain ⟨t2, a1, b1⟩ := kk r u t T'.heap (locs ++ L) e1.symm (by rw [← e2]; exact X'.warmed.alike) hp hb k1 k2 k3 T' rfl X'
    exact ⟨t2, st t2 a1, b1⟩
  · obtain ⟨k1, k2, k3⟩ := vx_keep h0 e1 hS hAX hf hL hF
    obtain ⟨t2, a1, b1⟩ := kx E ce q u t T'.heap (locs ++ L) e1.symm (by rw [← e2]; exact X'.warmed.alike) hp hb k1 k2 k3 (by rw [e1]; exact hce) hcv hcl T' rfl X'
    exact ⟨t2, st.trans a1, b1⟩
theorem vx_callv {S SX : Type} {post : S → Prop} {px : SX → Prop} {B : S → State → Prop} {BX : String → SX → State → Prop} {AX : Nat → Prop} (hr : vx_Run p l e R s m args below meth c H locs cells slots mc ms (F0 m pc ls st0) rest (va_Qv post B A1 a) (vx_X px BX AX) free) (hS : va_S A0 H0 H locs) (hA : ∀ q, q < H.size → A1 q → A0 q) (hf : ∀ q, free q → A0 q) (hAX : ∀ q, q < H.size → AX q → A0 q)
    (kx : ∀ (E : String) (ce : Cell) (q9 : Addr) (u : SX) (t : State) (H1 : Heap) (locs1 : List Loc), t.heap = H1 → s.vm.Alike t.vm → px u → BX E u t → H.size ≤ H1.size → (∀ q : Nat, q < H.size → ¬ AX q → H1[q]? = H[q]?) → va_S A0 H0 H1 locs1 → H1[q9]? = some ce → ce.vm = .none → s.vm.findClass E = some ce.cls → vx_W p l e R s m args below meth c H1 locs1 (cells + mc) (slots + ms) Q (F0 m pc ls rest) q9)
    (kk : ∀ (u : S) (t : State) (H1 : Heap) (locs1 : List Loc), t.heap = H1 → s.vm.Alike t.vm → post u → B u t → H.size ≤ H1.size → (∀ q : Nat, q < H.size → ¬ A1 q → H1[q]? = H[q]?) → va_S A0 H0 H1 locs1 → W p l e R s m args below meth c H1 locs1 (cells + mc) (slots + ms) Q (F0 m (pc + 3) ls (rest))) : W p l e R s m args below meth c H locs cells slots Q (F0 m pc ls st0) := by
  intro T hT X
  rcases hr T hT X with ⟨v, st₀, t, T', L, h0, X', hL, e1, e2, ⟨⟨u, hv, hp, hb⟩, hF⟩, st⟩ | ⟨q, st₀, t, T', L, E, ce, h0, X', hL, e1, e2, ⟨u, hp, hb, hF⟩, hce, hcv, hcl, st⟩
  · cases hv
    obtain ⟨k1, k2, k3⟩ := vx_keep h0 e1 hS hA hf hL hF
    obtain ⟨t2, a1, b1⟩ := kk u t T'.heap (locs ++ L) e1.symm (by rw [← e2]; exact X'.warmed.alike) hp hb k1 k2 k3 T' rfl X'
    exact ⟨t2, st t2 a1, b1⟩
  · obtain ⟨k1, k2, k3⟩ := vx_keep h0 e1 hS hAX hf hL hF
    obtain ⟨t2, a1, b1⟩ := kx E ce q u t T'.heap (locs ++ L) e1.symm (by rw [← e2]; exact X'.warmed.alike) hp hb k1 k2 k3 (by rw [e1]; exact hce) hcv hcl T' rfl X'
    exact ⟨t2, st.trans a1, b1⟩
/-- caught by the row x of this method's table; the rows ahead don't take it -/
theorem vx_catch {own name : String} {E : String} {ce : Cell} {q : Addr} (hown : s.vm.findClass own = some m.cls) (pre : List ExceptionTableEntry) (x : ExceptionTableEntry) (suf : List ExceptionTableEntry) (hsplit : c.exceptionTable.toList = pre ++ x :: suf)
    (hpass : ∀ z ∈ pre, covers z pc = false ∨ (z.catchType ≠ 0 ∧ ∃ nm : String, (Cond.classLink own z.catchType nm).before args s = true ∧ va_Nc E nm s)) (hx : covers x pc = true) (h0 : x.catchType ≠ 0)
    (hlink : (Cond.classLink own x.catchType name).before args s = true) (hcast : (Cond.castable E name).before args s = true) (hcell : H[q]? = some ce) (hv : ce.vm = .none) (hcl : s.vm.findClass E = some ce.cls)
    (kk : W p l e R s m args below meth c H locs cells slots Q (F0 m x.handlerPc ls [.ref q])) : vx_W p l e R s m args below meth c H locs cells slots Q (F0 m pc ls rest) q := by
  intro T hT X
  have hpl : e.platform.magicAccessors = ({} : Platform).magicAccessors := by rw [X.admits.platform]
  obtain ⟨c3, c4, hc3, hc4, hasg⟩ := Cond.castable_spec hcast
  cases Option.some.inj (hc3.symm.trans hcl)
  obtain ⟨c5, hc5, hcl5⟩ := Cond.classLink_spec hown hlink e.platform hpl
  cases Option.some.inj (hc4.symm.trans hc5)
  obtain ⟨vm', X', st⟩ := X.thenCaughtThrough q (g := F0 m pc ls rest) rfl (Steps.refl _) (by rw [hT]; exact hcell) (by rw [hv]; rfl) (by obtain ⟨k9, h9, -⟩ := Vm.findClass_spec hcl; exact ⟨k9, h9⟩) pre x suf hsplit
    (fun z hz => by
      rcases hpass z hz with h | ⟨hz0, nm, hl1, hn1⟩
      · exact Or.inl h
      · obtain ⟨c6, hc6, hcl6⟩ := Cond.classLink_spec hown hl1 e.platform hpl
        obtain ⟨a8, b8, h1, h2, h3⟩ := hn1
        cases Option.some.inj (h1.symm.trans hcl)
        cases Option.some.inj (h2.symm.trans hc6)
        exact Or.inr ⟨hz0, _, hcl6, h3⟩) hx (Or.inr ⟨h0, c4, hcl5, hasg⟩)
  obtain ⟨t, a1, b1⟩ := kk (T.setVm vm') hT X'
  exact ⟨t, st.trans a1, b1⟩
end Rows
section Ends
variable {p : Program} {l : Launch} {e : Env} {R : Room} {s : State} {m : MethodId} {args : Array Value} {below : List Frame} {meth : Method} {c : Code} {H : Heap} {locs : List Loc} {cells slots : Nat} {Q : State → Prop}
variable {mc ms : Nat} {free : Addr → Prop} {A0 A1 : Nat → Prop} {H0 : Heap} {a : Array Value} {ls : Array Slot} {st0 rest : List Value}
variable {Qc : Array Value → State → Outcome → State → Prop} {XC : String → State → State → Prop}
/-- what a body that may throw owes at its end -/
def vx_MQ (below : List Frame) (Qc : Array Value → State → Outcome → State → Prop) (XC : String → State → State → Prop) (a : Array Value) (s : State) (mc ms : Nat) (free : Addr → Prop) : State → Prop := fun t =>
  ∃ o, t.status = .running ∧ Ended t below o ∧ vx_Q Qc XC mc ms free a s o t
theorem vx_ret {g : JFrame} {mc ms : Nat} (k : W p l e R s m args below meth c H locs cells slots (MQ below Qc args s mc ms free) g) : W p l e R s m args below meth c H locs cells slots (vx_MQ below Qc XC args s mc ms free) g := by
  intro T hT X
  obtain ⟨t, a1, o, b1, b2, b3, b4⟩ := k T hT X
  exact ⟨t, a1, o, b1, b2, Or.inl ⟨b3, b4⟩⟩
/-- not caught here: it goes on to the caller -/
theorem vx_widen {g : JFrame} {q : Addr} {k n : Nat} (h1 : cells ≤ k) (h2 : slots ≤ n) (kk : vx_W p l e R s m args below meth c H locs k n Q g q) : vx_W p l e R s m args below meth c H locs cells slots Q g q := fun T hT X => kk T hT (stand_widen X h1 h2)
theorem vx_out {pc : Nat} {E : String} {ce : Cell} {q : Addr} {mc ms : Nat} (hout : ∀ x ∈ c.exceptionTable.toList, covers x pc = false) (hlocks : meth.locks = false) (hcell : H[q]? = some ce) (hv : ce.vm = .none) (hcl : s.vm.findClass E = some ce.cls)
    (hx : ∀ t : State, t.heap = H → s.vm.Alike t.vm → XC E s t) (hf : ∀ z ∈ locs, free z.base) (hc : cells ≤ mc) (hs : slots ≤ ms) :
    vx_W p l e R s m args below meth c H locs cells slots (vx_MQ below Qc XC args s mc ms free) (F0 m pc ls rest) q := by
  intro T hT X
  obtain ⟨st1, hrun, hend, hW, hsm⟩ := X.leaveThrown q (g := F0 m pc ls rest) rfl rfl rfl hout hlocks
  have hcell9 : (T.setFrames (.throwing q :: below)).heap[q]? = some ce := by
    show T.heap[q]? = some ce
    rw [hT]; exact hcell
  exact ⟨_, st1, .threw q, hrun, hend, Or.inr ⟨q, rfl, E, ce, locs, hx _ hT hW.alike, hcell9, hv, hcl, hW, hsm.mono hc hs, hf⟩⟩
theorem vx_frame {U : State} {k n : Nat} (h : s.sameButNew ({ U with vm := s.vm } : State) locs k n) : s.heap.size ≤ U.heap.size ∧ ∀ q : Nat, q < s.heap.size → (∀ z ∈ locs, z.base ≠ q) → U.heap[q]? = s.heap[q]? := by
  obtain ⟨-, h2, -, -, -, h6⟩ := h
  refine ⟨h2, fun q hq hz => ?_⟩
  obtain ⟨c9, e1, e2, e3, e4⟩ := h6 q _ (Array.getElem?_eq_getElem hq)
  have hs : c9.slots = (s.heap[q]).slots := Array.ext_getElem? fun i => e4 i fun hm => hz _ hm rfl
  have h9 : c9 = s.heap[q] := by
    rw [hs] at e2
    exact e2
  have e5 : U.heap[q]? = some c9 := e1
  rw [e5, h9, Array.getElem?_eq_getElem hq]
/-- the words of a throw but the four that speak of the heap -/
def vx_no (w : Cond) : Bool := decide (w ≠ .isRef (.static Bundle.tN "UNASSIGNED_STACK" Bundle.steD)) && decide (w ≠ .isRef (.static Bundle.tN "SUPPRESSED_SENTINEL" Bundle.listD)) && decide (w ≠ .laysStatic Bundle.tN "UNASSIGNED_STACK" Bundle.steD) && decide (w ≠ .laysStatic Bundle.tN "SUPPRESSED_SENTINEL" Bundle.listD)
def vx_at0 (own : String) (ic : Nat) (X : String) (names : List String) : List Cond := (Bundle.ownAtoms0 own ic X names).filter vx_no
def vx_atS (own : String) (ic : Nat) (X : String) (names : List String) : List Cond := (Bundle.ownAtoms own ic X names).filter vx_no
/-- a word that the tables alone decide, or a good one -/
def vx_ot (w : Cond) : Bool := w.onTables || goodWord w
theorem vx_ot_at {args a' : Array Value} {s U : State} {w : Cond} (hW : s.WarmedH U.vm) (hvm : s.vm = U.vm) (hg : vx_ot w = true) (h : w.before args s = true) : w.before a' U = true := by
  simp only [vx_ot, Bool.or_eq_true] at hg
  rcases hg with hg | hg
  · exact va_tabs hg hvm h
  · exact word_at hW (good_of_word hg) h
/-- a list's words: the good ones out of the method's own list, the others by premises of their own -/
theorem vx_hat {args : Array Value} {s : State} {L B : List Cond} (h1 : ∀ w ∈ L.filter goodWord, w.before args s = true) (h2 : ∀ w ∈ L.filter (fun w => !goodWord w), w ∈ B) (h3 : ∀ w ∈ B, w.before args s = true) : ∀ w ∈ L, w.before args s = true := by
  intro w hw
  by_cases g : goodWord w = true
  · exact h1 w (List.mem_filter.mpr ⟨hw, g⟩)
  · refine h3 w (h2 w (List.mem_filter.mpr ⟨hw, ?_⟩))
    show (!goodWord w) = true
    cases hgw : goodWord w
    · rfl
    · exact absurd hgw g
theorem vx_c {args : Array Value} {s : State} {w : Cond} {B : List Cond} (h : w.before args s = true) (t : ∀ w ∈ B, w.before args s = true) : ∀ w' ∈ w :: B, w'.before args s = true := fun w' h' => (List.mem_cons.mp h').elim (fun e => by rw [e]; exact h) (t w')
theorem vx_n {args : Array Value} {s : State} : ∀ w ∈ ([] : List Cond), w.before args s = true := fun _ h => nomatch h
theorem vx_own {args : Array Value} {s : State} {L : List Cond} (h1 : ∀ w ∈ L.filter vx_no, w.before args s = true)
    (hU : (Cond.isRef (.static Bundle.tN "UNASSIGNED_STACK" Bundle.steD)).before args s = true) (hN : (Cond.isRef (.static Bundle.tN "SUPPRESSED_SENTINEL" Bundle.listD)).before args s = true)
    (lU : (Cond.laysStatic Bundle.tN "UNASSIGNED_STACK" Bundle.steD).before args s = true) (lN : (Cond.laysStatic Bundle.tN "SUPPRESSED_SENTINEL" Bundle.listD).before args s = true) : ∀ w ∈ L, w.before args s = true := by
  intro w hw
  by_cases e1 : w = .isRef (.static Bundle.tN "UNASSIGNED_STACK" Bundle.steD)
  · rw [e1]; exact hU
  · by_cases e2 : w = .isRef (.static Bundle.tN "SUPPRESSED_SENTINEL" Bundle.listD)
    · rw [e2]; exact hN
    · by_cases e3 : w = .laysStatic Bundle.tN "UNASSIGNED_STACK" Bundle.steD
      · rw [e3]; exact lU
      · by_cases e4 : w = .laysStatic Bundle.tN "SUPPRESSED_SENTINEL" Bundle.listD
        · rw [e4]; exact lN
        · exact h1 w (List.mem_filter.mpr ⟨hw, by unfold vx_no; rw [decide_eq_true e1, decide_eq_true e2, decide_eq_true e3, decide_eq_true e4]; rfl⟩)
/-- where a static field lies, its class's statics cell in H -/
def vx_L (C n d : String) (A : Nat → Prop) (U : State) (H : Heap) : Prop := ∃ (c : ClassId) (k : Class) (i : Nat) (f : Field) (a : Nat) (cell : Cell), U.vm.findClass C = some c ∧ U.fieldFound? C n d = some (c, k, i, f) ∧ f.isStatic = true ∧ k.statics = some a ∧ H[a]? = some cell ∧ cell.vm.isStatics = true ∧ cell.cls = c ∧ f.slot < cell.slots.size ∧ k.staticTypes[f.slot]? = some f.type ∧ ¬ A a
theorem vx_L.moved {C n d : String} {A : Nat → Prop} {u U : State} {H : Heap} (hvm : u.vm.Alike U.vm) (h : vx_L C n d A u H) : vx_L C n d A U H := by
  obtain ⟨c, k, i, f, a, cell, h1, h2, h3, h4, h5, h6, h7, h8, h9, h10⟩ := h
  obtain ⟨k', hi', he⟩ := State.fieldFound?_setVm hvm h2
  exact ⟨c, k', i, f, a, cell, by rw [hvm.findClass]; exact h1, hi', h3, by rw [he]; exact h4, h5, h6, h7, h8, by rw [he]; exact h9, h10⟩
theorem vx_L.kept {C n d : String} {A : Nat → Prop} {U : State} {H H1 : Heap} (h : vx_L C n d A U H) (hq : ∀ a : Nat, a < H.size → ¬ A a → H1[a]? = H[a]?) : vx_L C n d A U H1 := by
  obtain ⟨c, k, i, f, a, cell, h1, h2, h3, h4, h5, h6, h7, h8, h9, h10⟩ := h
  exact ⟨c, k, i, f, a, cell, h1, h2, h3, h4, by rw [hq a (Array.getElem?_eq_some_iff.mp h5).1 h10]; exact h5, h6, h7, h8, h9, h10⟩
theorem vx_L.narrow {C n d : String} {A B : Nat → Prop} {U : State} {H : Heap} (h : vx_L C n d A U H) (hAB : ∀ q, B q → A q) : vx_L C n d B U H := by
  obtain ⟨c, k, i, f, a, cell, h1, h2, h3, h4, h5, h6, h7, h8, h9, h10⟩ := h
  exact ⟨c, k, i, f, a, cell, h1, h2, h3, h4, h5, h6, h7, h8, h9, fun z => h10 (hAB _ z)⟩
theorem vx_L.word {C n d : String} {A : Nat → Prop} {s : State} {args : Array Value} (h : vx_L C n d A s s.heap) : (Cond.laysStatic C n d).before args s = true := by
  obtain ⟨c, k, i, f, a, cell, h1, h2, h3, h4, h5, h6, h7, h8, h9, -⟩ := h
  show (Cond.laysStatic C n d).holds args s none s [] = true
  exact Cond.laysStatic_of h1 h2 h3 h4 h5 h6 h7 h8 h9
/-- .. and what it holds: null or some reference -/
def vx_Zq (C n d : String) (A : Nat → Prop) (U : State) (H : Heap) : Prop := va_Zq C n d A U H ∧ vx_L C n d A U H
theorem vx_Zq.moved {C n d : String} {A : Nat → Prop} {u U : State} {H : Heap} (hvm : u.vm.Alike U.vm) (h : vx_Zq C n d A u H) : vx_Zq C n d A U H := ⟨va_Zq.moved hvm h.1, vx_L.moved hvm h.2⟩
theorem vx_Zq.kept {C n d : String} {A : Nat → Prop} {U : State} {H H1 : Heap} (h : vx_Zq C n d A U H) (hq : ∀ a : Nat, a < H.size → ¬ A a → H1[a]? = H[a]?) : vx_Zq C n d A U H1 := ⟨va_Zq.kept h.1 hq, vx_L.kept h.2 hq⟩
theorem vx_Zq.narrow {C n d : String} {A B : Nat → Prop} {U : State} {H : Heap} (h : vx_Zq C n d A U H) (hAB : ∀ q, B q → A q) : vx_Zq C n d B U H := ⟨va_Zq.narrow h.1 hAB, vx_L.narrow h.2 hAB⟩
theorem vx_Zqof {args : Array Value} {s : State} {C n d : String} {A : Nat → Prop} (hl : (Cond.laysStatic C n d).before args s = true) (hini : (Cond.initialized C).before args s = true) (h : (Cond.isRef (.static C n d)).before args s = true) (hA : ∀ a : Nat, a < s.heap.size → ¬ A a) : vx_Zq C n d A s s.heap := by
  refine ⟨va_Zqof hl hini h hA, ?_⟩
  obtain ⟨c, k, i, f, a, cell, h1, h2, h3, h4, h5, h6, h7, h8, h9⟩ := Cond.laysStatic_spec hl
  exact ⟨c, k, i, f, a, cell, h1, h2, h3, h4, h5, h6, h7, h8, h9, hA a (Array.getElem?_eq_some_iff.mp h5).1⟩
theorem vx_isRef {C n d : String} {v : Value} {A : Nat → Prop} {s : State} {args : Array Value} (h : va_Z C n d v A s s.heap) (hv : v.isRef = true) : (Cond.isRef (.static C n d)).before args s = true := by
  obtain ⟨cf, kf, fi, f, a, cell, h1, h2, h3, h4, h5, h6, h7, -⟩ := h
  have he : (Term.static C n d).eval args s none [] s = some v := by
    simp [Term.eval, State.fieldNamed?, h1, h2, h4, h5, h6, h7]
  simp only [Cond.before, Cond.holds, Cond.value, he]
  cases v <;> simp_all [Value.isRef]
theorem vx_isRefq {C n d : String} {A : Nat → Prop} {s : State} {args : Array Value} (h : va_Zq C n d A s s.heap) : (Cond.isRef (.static C n d)).before args s = true := by
  rcases h with h | ⟨t, h⟩
  · exact vx_isRef h rfl
  · exact vx_isRef h rfl
/-- the same frame, seen from here: as if the method were called anew in this heap -/
theorem vx_rebase {T : State} (X : Stand p l e R s m args below meth c T locs cells slots) {R' : Room} (hf : R'.frames ≤ R.frames) (hl : R'.locals ≤ R.locals) (hc : cells + R'.cells ≤ R.cells) (hs : slots + R'.slots ≤ R.slots) :
    Stand p l e R' ((T.setVm s.vm).setFrames (.invoking m args :: below)) m args below meth c T [] 0 0 := by
  have htop : (T.setVm s.vm).topJava?.isSome := X.here.top
  have hF : ((T.setVm s.vm).setFrames (.invoking m args :: below)).frames = .invoking m args :: below := State.frames_setFrames _ (State.cur_lt_of_top htop)
  obtain ⟨g₀, hg0⟩ := Option.isSome_iff_exists.mp htop
  obtain ⟨r, hr⟩ := State.topJava?_eq_some.mp hg0
  have hl9 : e.platform.stackLimits (T.setVm s.vm).me = e.platform.stackLimits s.me := X.limits
  have hb9 : (T.setVm s.vm).me.stackBytes = s.me.stackBytes := X.bytes
  refine ⟨X.admits, X.cas, X.clock, hF, ?_, X.hears, X.method, X.code, X.here, X.tail, X.warmed, ?_, ?_, ?_⟩
  · have h := X.room
    have hU : ((T.setVm s.vm).setFrames (.invoking m args :: below)).localsInUse = s.localsInUse := by
      rw [State.localsInUse_invoking hF (meth := meth) (c := c) X.method X.code, State.localsInUse_invoking X.frames X.method X.code]
    simp only [State.hasRoom, Bool.and_eq_true, decide_eq_true_eq] at h ⊢
    obtain ⟨⟨⟨⟨h1, h2, h3, h4, h5, h6⟩, h7⟩, h8⟩, h9⟩ := h
    rw [X.frames, List.length_cons] at h2 h3
    have q1 := X.heapSize
    have q2 := X.used
    simp only [hF, hU, List.length_cons, State.stackLimits_setFrames, State.stackBytes_setFrames, hl9, hb9]
    refine ⟨⟨⟨⟨by omega, by omega, by omega, by omega, by omega, h6⟩, ?_⟩, ?_⟩, X.book⟩
    · show T.heap.size + R'.cells ≤ e.platform.maxCells
      omega
    · show T.slotsUsed + R'.slots ≤ e.platform.maxSlots
      omega
  · rw [State.stackLimits_setFrames]; rfl
  · rw [State.stackBytes_setFrames]; rfl
  · refine ⟨?_, Nat.le_refl _, Nat.le_refl _, ?_, ?_, fun a c9 h9 => ⟨c9, h9, rfl, rfl, fun _ _ => rfl⟩⟩
    · obtain ⟨t, ht, -⟩ := State.frames_cons hr
      show T.setVm s.vm = { ((T.setVm s.vm).setFrames (.invoking m args :: below)).setFrames (T.setVm s.vm).frames with heap := T.heap, slotsUsed := T.slotsUsed }
      rw [State.setFrames_setFrames, State.setFrames_self ht]
      rfl
    · show T.slotsUsed = T.slotsUsed + ((T.heap.toList.drop T.heap.size).map (·.slots.size)).sum
      rw [List.drop_eq_nil_of_le (Nat.le_of_eq Array.length_toList)]
      rfl
    · show ((T.heap.toList.drop T.heap.size).map (·.slots.size)).sum ≤ 0
      rw [List.drop_eq_nil_of_le (Nat.le_of_eq Array.length_toList)]
      exact Nat.le_refl _
/-- 'throw new E()': new; dup; invokespecial; athrow -/
theorem vx_throw0 {cc : ByteArray} {pc : Nat} (hexec : p.tables.exec = Jvm.exec) (hb : c.code = cc) (hl : l.stackTraces = false) {own cls : String} {names : List String} {ik ic mc ms : Nat} {A : Nat → Prop}
    (hown : s.vm.findClass own = some m.cls) (hcls : Bundle.fit cls = true) (hnames : ∀ n ∈ names, Bundle.fit n = true)
    (hk : (Cond.classLink own ik cls).before args s = true) (hini : (Cond.initialized cls).before args s = true) (hat : ∀ w ∈ vx_at0 own ic cls names, w.before args s = true)
    (hgood : ∀ w ∈ Cond.classLink own ik cls :: Cond.initialized cls :: vx_at0 own ic cls names, vx_ot w = true)
    (hU : vx_Zq Bundle.tN "UNASSIGNED_STACK" Bundle.steD A s s.heap) (hN : vx_Zq Bundle.tN "SUPPRESSED_SENTINEL" Bundle.listD A s s.heap) (hS : va_S A s.heap H locs) (hsize : ls.size = c.maxLocals)
    (d0 : decode cc pc = .ok (.new ik, 3)) (d3 : decode cc (pc + 3) = .ok (.dup, 1)) (d4 : decode cc (pc + 4) = .ok (.invokespecial ic, 3)) (d7 : decode cc (pc + 7) = .ok (.athrow, 1))
    (hout : ∀ x ∈ c.exceptionTable.toList, covers x (pc + 7) = false)
    (hRframes : names.length + 3 < R.frames) (hRlocals : (rest.map fun v => v.category).sum + (13 * (names.length + 1) + 42) ≤ R.locals) (hRcells : cells + 1 ≤ R.cells) (hRslots : slots + 6 ≤ R.slots) (hlocks : meth.locks = false)
    (hx : ∀ t : State, s.vm.Alike t.vm → H.size ≤ t.heap.size → (∀ q : Nat, q < H.size → t.heap[q]? = H[q]?) → XC cls s t)
    (hf : ∀ z ∈ locs, free z.base) (hc : cells + 1 ≤ mc) (hs : slots + 6 ≤ ms) :
    W p l e R s m args below meth c H locs cells slots (vx_MQ below Qc XC args s mc ms free) (F0 m pc ls rest) := by
  intro T hT X
  have htr : e.platform.stackTraces = false := (show e.platform.stackTraces = l.stackTraces by rw [X.admits.platform]).trans hl
  have Y := vx_rebase X (R' := { frames := R.frames, locals := R.locals, cells := 1, slots := 6 }) (Nat.le_refl _) (Nat.le_refl _) hRcells hRslots
  obtain ⟨s', hA⟩ : ∃ z, z = (T.setVm s.vm).setFrames (.invoking m args :: below) := ⟨_, rfl⟩
  rw [← hA] at Y
  have hvm : s'.vm = s.vm := by rw [hA]; rfl
  have hhp : s'.heap = H := by rw [hA]; exact hT
  have hW0 : s.WarmedH s'.vm := by rw [hvm]; exact State.WarmedH.refl s
  have hat' : ∀ w ∈ vx_at0 own ic cls names, w.before args s' = true := fun w hw => vx_ot_at hW0 hvm.symm (hgood w (List.mem_cons_of_mem _ (List.mem_cons_of_mem _ hw))) (hat w hw)
  have hk' : (Cond.classLink own ik cls).before args s' = true := vx_ot_at hW0 hvm.symm (hgood _ List.mem_cons_self) hk
  have hini' : (Cond.initialized cls).before args s' = true := vx_ot_at hW0 hvm.symm (hgood _ (List.mem_cons_of_mem _ List.mem_cons_self)) hini
  have hU' : vx_Zq Bundle.tN "UNASSIGNED_STACK" Bundle.steD A s' s'.heap := by rw [hhp]; exact vx_Zq.moved hW0.alike (hU.kept hS.2.1)
  have hN' : vx_Zq Bundle.tN "SUPPRESSED_SENTINEL" Bundle.listD A s' s'.heap := by rw [hhp]; exact vx_Zq.moved hW0.alike (hN.kept hS.2.1)
  have h : ∀ w ∈ Bundle.ownAtoms0 own ic cls names, w.before args s' = true := vx_own hat' (vx_isRefq hU'.1) (vx_isRefq hN'.1) hU'.2.word hN'.2.word
  have hown' : s'.vm.findClass own = some m.cls := by rw [hvm]; exact hown
  have hins : (Cond.instantiable cls 6).before args s' = true := h _ (by simp [Bundle.ownAtoms0])
  obtain ⟨vm₁, cX, kX, hfX, hkX, -, -, X₁, st1⟩ := Y.newCold hexec (own := own) (C := cls) (index := ik) (n := 6) hown' hk' hins hini'
    (g := F0 m pc ls rest) rfl (by rw [hb]; exact d0) (Nat.le_refl _) (Nat.le_refl _)
  generalize hT1 : (T.setVm vm₁).pushCell { cls := cX, slots := kX.instanceTypes.map defaultValue, vm := .none } = T1 at X₁ st1
  have hcat : (Value.ref T.heap.size).category = 1 := rfl
  have hcellA : T1.heap[T.heap.size]? = some (freshCell cX kX) := by rw [← hT1]; exact State.heap_pushCell_size _ _
  have d3' : decode c.code (pc + 3) = .ok (.dup, 1) := by rw [hb]; exact d3
  obtain ⟨U, hsteps, hrun, hend, hW, hsame, ce, hce, hO⟩ := X₁.ctorThrow0 hexec htr (own := own) (cls := cls) (names := names) (ic := ic) hown' hcls hnames h (fun x hx => nomatch hx) hfX hkX hcellA (by rw [hhp, hT]; exact Nat.le_refl _)
    (g := { method := m, pc := pc + 4, locals := ls, stack := .ref T.heap.size :: .ref T.heap.size :: rest, locked := none }) rfl hsize rfl rfl (rest := rest) rfl
    (by rw [hb]; exact d4) (by rw [hb]; exact d7) hout hRframes (by simp only [List.map_cons, List.sum_cons, hcat]; omega) hlocks
  obtain ⟨f1, f2⟩ := vx_frame hsame
  rw [hhp] at f1 f2
  have hWs : s.WarmedH U.vm := State.WarmedH.trans hW0 hW
  have hcl : s.vm.findClass cls = some ce.cls := by
    have h9 := hO.cls
    rw [hvm] at h9
    exact h9
  have hall : s.sameButNew ({ U with vm := s.vm } : State) locs mc ms := by
    subst hA
    obtain ⟨e1, e2⟩ := hsame
    rw [State.setFrames_setFrames] at e1
    have h2 : (T.setVm s.vm).sameButNew ({ U with vm := s.vm } : State) [] (0 + 1) (0 + 6) := ⟨e1, e2⟩
    have h3 := X.same.trans h2
    rw [List.append_nil] at h3
    exact h3.mono hc hs
  refine ⟨U, ?_, .threw T.heap.size, hrun, hend, Or.inr ⟨T.heap.size, rfl, cls, ce, locs, hx U hWs.alike f1 (fun q hq => f2 q hq (fun z hz => nomatch hz)), hce, hO.vm, hcl, hWs, hall, hf⟩⟩
  refine st1 _ ?_
  show Steps p.tables e below (T1.setTop { method := m, pc := pc + 3, locals := ls, stack := .ref T.heap.size :: rest, locked := none }) _
  jvm_step X₁.here [X₁.here.top, hexec, d3', Value.category]
  exact hsteps
/-- 'throw new E("text")': new; dup; ldc; invokespecial; athrow -/
theorem vx_throwS {cc : ByteArray} {pc : Nat} (hexec : p.tables.exec = Jvm.exec) (hb : c.code = cc) (hl : l.stackTraces = false) {own cls text : String} {names : List String} {ik is ic mc ms sa : Nat} {A : Nat → Prop}
    (hown : s.vm.findClass own = some m.cls) (hcls : Bundle.fit cls = true) (hnames : ∀ n ∈ names, Bundle.fit n = true)
    (hk : (Cond.classLink own ik cls).before args s = true) (hini : (Cond.initialized cls).before args s = true) (hstr : vk_R own is text sa s) (hat : ∀ w ∈ vx_atS own ic cls names, w.before args s = true)
    (hgood : ∀ w ∈ Cond.classLink own ik cls :: Cond.initialized cls :: vx_atS own ic cls names, vx_ot w = true)
    (hU : vx_Zq Bundle.tN "UNASSIGNED_STACK" Bundle.steD A s s.heap) (hN : vx_Zq Bundle.tN "SUPPRESSED_SENTINEL" Bundle.listD A s s.heap) (hS : va_S A s.heap H locs) (hsize : ls.size = c.maxLocals)
    (d0 : decode cc pc = .ok (.new ik, 3)) (d3 : decode cc (pc + 3) = .ok (.dup, 1)) (d4 : decode cc (pc + 4) = .ok (.ldc is, 2)) (d6 : decode cc (pc + 6) = .ok (.invokespecial ic, 3)) (d9 : decode cc (pc + 9) = .ok (.athrow, 1))
    (hout : ∀ x ∈ c.exceptionTable.toList, covers x (pc + 9) = false)
    (hRframes : names.length + 3 < R.frames) (hRlocals : (rest.map fun v => v.category).sum + (13 * (names.length + 1) + 43) ≤ R.locals) (hRcells : cells + 1 ≤ R.cells) (hRslots : slots + 6 ≤ R.slots) (hlocks : meth.locks = false)
    (hx : ∀ t : State, s.vm.Alike t.vm → H.size ≤ t.heap.size → (∀ q : Nat, q < H.size → t.heap[q]? = H[q]?) → XC cls s t)
    (hf : ∀ z ∈ locs, free z.base) (hc : cells + 1 ≤ mc) (hs : slots + 6 ≤ ms) :
    W p l e R s m args below meth c H locs cells slots (vx_MQ below Qc XC args s mc ms free) (F0 m pc ls rest) := by
  intro T hT X
  have htr : e.platform.stackTraces = false := (show e.platform.stackTraces = l.stackTraces by rw [X.admits.platform]).trans hl
  have Y := vx_rebase X (R' := { frames := R.frames, locals := R.locals, cells := 1, slots := 6 }) (Nat.le_refl _) (Nat.le_refl _) hRcells hRslots
  obtain ⟨s', hA⟩ : ∃ z, z = (T.setVm s.vm).setFrames (.invoking m args :: below) := ⟨_, rfl⟩
  rw [← hA] at Y
  have hvm : s'.vm = s.vm := by rw [hA]; rfl
  have hhp : s'.heap = H := by rw [hA]; exact hT
  have hW0 : s.WarmedH s'.vm := by rw [hvm]; exact State.WarmedH.refl s
  have hat' : ∀ w ∈ vx_atS own ic cls names, w.before args s' = true := fun w hw => vx_ot_at hW0 hvm.symm (hgood w (List.mem_cons_of_mem _ (List.mem_cons_of_mem _ hw))) (hat w hw)
  have hk' : (Cond.classLink own ik cls).before args s' = true := vx_ot_at hW0 hvm.symm (hgood _ List.mem_cons_self) hk
  have hini' : (Cond.initialized cls).before args s' = true := vx_ot_at hW0 hvm.symm (hgood _ (List.mem_cons_of_mem _ List.mem_cons_self)) hini
  have hU' : vx_Zq Bundle.tN "UNASSIGNED_STACK" Bundle.steD A s' s'.heap := by rw [hhp]; exact vx_Zq.moved hW0.alike (hU.kept hS.2.1)
  have hN' : vx_Zq Bundle.tN "SUPPRESSED_SENTINEL" Bundle.listD A s' s'.heap := by rw [hhp]; exact vx_Zq.moved hW0.alike (hN.kept hS.2.1)
  have h : ∀ w ∈ Bundle.ownAtoms own ic cls names, w.before args s' = true := vx_own hat' (vx_isRefq hU'.1) (vx_isRefq hN'.1) hU'.2.word hN'.2.word
  have hown' : s'.vm.findClass own = some m.cls := by rw [hvm]; exact hown
  have hins : (Cond.instantiable cls 6).before args s' = true := h _ (by simp [Bundle.ownAtoms])
  obtain ⟨vm₁, cX, kX, hfX, hkX, -, -, X₁, st1⟩ := Y.newCold hexec (own := own) (C := cls) (index := ik) (n := 6) hown' hk' hins hini'
    (g := F0 m pc ls rest) rfl (by rw [hb]; exact d0) (Nat.le_refl _) (Nat.le_refl _)
  generalize hT1 : (T.setVm vm₁).pushCell { cls := cX, slots := kX.instanceTypes.map defaultValue, vm := .none } = T1 at X₁ st1
  have hcat : (Value.ref T.heap.size).category = 1 := rfl
  have hcellA : T1.heap[T.heap.size]? = some (freshCell cX kX) := by rw [← hT1]; exact State.heap_pushCell_size _ _
  have d3' : decode c.code (pc + 3) = .ok (.dup, 1) := by rw [hb]; exact d3
  have d4' : decode c.code (pc + 4) = .ok (.ldc is, 2) := by rw [hb]; exact d4
  have hstr' : vk_R own is text sa s' := vk_R.warm hW0 hstr
  obtain ⟨U, hsteps, hrun, hend, hW, hsame, ce, hce, hO⟩ := X₁.ctorThrowS hexec htr (own := own) (cls := cls) (names := names) (ic := ic) hown' hcls hnames h (fun x hx => nomatch hx) hfX hkX hcellA (by rw [hhp, hT]; exact Nat.le_refl _) (msg := .ref sa) rfl
    (g := { method := m, pc := pc + 6, locals := ls, stack := .ref sa :: .ref T.heap.size :: .ref T.heap.size :: rest, locked := none }) rfl hsize rfl rfl (rest := rest) rfl
    (by rw [hb]; exact d6) (by rw [hb]; exact d9) hout hRframes (by simp only [List.map_cons, List.sum_cons, hcat]; omega) hlocks
  obtain ⟨f1, f2⟩ := vx_frame hsame
  rw [hhp] at f1 f2
  have hWs : s.WarmedH U.vm := State.WarmedH.trans hW0 hW
  have hcl : s.vm.findClass cls = some ce.cls := by
    have h9 := hO.cls
    rw [hvm] at h9
    exact h9
  have hall : s.sameButNew ({ U with vm := s.vm } : State) locs mc ms := by
    subst hA
    obtain ⟨e1, e2⟩ := hsame
    rw [State.setFrames_setFrames] at e1
    have h2 : (T.setVm s.vm).sameButNew ({ U with vm := s.vm } : State) [] (0 + 1) (0 + 6) := ⟨e1, e2⟩
    have h3 := X.same.trans h2
    rw [List.append_nil] at h3
    exact h3.mono hc hs
  refine ⟨U, ?_, .threw T.heap.size, hrun, hend, Or.inr ⟨T.heap.size, rfl, cls, ce, locs, hx U hWs.alike f1 (fun q hq => f2 q hq (fun z hz => nomatch hz)), hce, hO.vm, hcl, hWs, hall, hf⟩⟩
  refine st1 _ ?_
  show Steps p.tables e below (T1.setTop { method := m, pc := pc + 3, locals := ls, stack := .ref T.heap.size :: rest, locked := none }) _
  jvm_step X₁.here [X₁.here.top, hexec, d3', Value.category]
  exact X₁.ldcString hexec (own := own) (text := text) (index := is) (a := sa) hown' hstr'.1 hstr'.2
    (g := { method := m, pc := pc + 4, locals := ls, stack := .ref T.heap.size :: .ref T.heap.size :: rest, locked := none }) rfl d4' _ hsteps
/-- 'throw new E("text")', the text by a wide index -/
theorem vx_throwSW {cc : ByteArray} {pc : Nat} (hexec : p.tables.exec = Jvm.exec) (hb : c.code = cc) (hl : l.stackTraces = false) {own cls text : String} {names : List String} {ik is ic mc ms sa : Nat} {A : Nat → Prop}
    (hown : s.vm.findClass own = some m.cls) (hcls : Bundle.fit cls = true) (hnames : ∀ n ∈ names, Bundle.fit n = true)
    (hk : (Cond.classLink own ik cls).before args s = true) (hini : (Cond.initialized cls).before args s = true) (hstr : vk_R own is text sa s) (hat : ∀ w ∈ vx_atS own ic cls names, w.before args s = true)
    (hgood : ∀ w ∈ Cond.classLink own ik cls :: Cond.initialized cls :: vx_atS own ic cls names, vx_ot w = true)
    (hU : vx_Zq Bundle.tN "UNASSIGNED_STACK" Bundle.steD A s s.heap) (hN : vx_Zq Bundle.tN "SUPPRESSED_SENTINEL" Bundle.listD A s s.heap) (hS : va_S A s.heap H locs) (hsize : ls.size = c.maxLocals)
    (d0 : decode cc pc = .ok (.new ik, 3)) (d3 : decode cc (pc + 3) = .ok (.dup, 1)) (d4 : decode cc (pc + 4) = .ok (.ldc_w is, 3)) (d7 : decode cc (pc + 7) = .ok (.invokespecial ic, 3)) (d10 : decode cc (pc + 10) = .ok (.athrow, 1))
    (hout : ∀ x ∈ c.exceptionTable.toList, covers x (pc + 10) = false)
    (hRframes : names.length + 3 < R.frames) (hRlocals : (rest.map fun v => v.category).sum + (13 * (names.length + 1) + 43) ≤ R.locals) (hRcells : cells + 1 ≤ R.cells) (hRslots : slots + 6 ≤ R.slots) (hlocks : meth.locks = false)
    (hx : ∀ t : State, s.vm.Alike t.vm → H.size ≤ t.heap.size → (∀ q : Nat, q < H.size → t.heap[q]? = H[q]?) → XC cls s t)
    (hf : ∀ z ∈ locs, free z.base) (hc : cells + 1 ≤ mc) (hs : slots + 6 ≤ ms) :
    W p l e R s m args below meth c H locs cells slots (vx_MQ below Qc XC args s mc ms free) (F0 m pc ls rest) := by
  intro T hT X
  have htr : e.platform.stackTraces = false := (show e.platform.stackTraces = l.stackTraces by rw [X.admits.platform]).trans hl
  have Y := vx_rebase X (R' := { frames := R.frames, locals := R.locals, cells := 1, slots := 6 }) (Nat.le_refl _) (Nat.le_refl _) hRcells hRslots
  obtain ⟨s', hA⟩ : ∃ z, z = (T.setVm s.vm).setFrames (.invoking m args :: below) := ⟨_, rfl⟩
  rw [← hA] at Y
  have hvm : s'.vm = s.vm := by rw [hA]; rfl
  have hhp : s'.heap = H := by rw [hA]; exact hT
  have hW0 : s.WarmedH s'.vm := by rw [hvm]; exact State.WarmedH.refl s
  have hat' : ∀ w ∈ vx_atS own ic cls names, w.before args s' = true := fun w hw => vx_ot_at hW0 hvm.symm (hgood w (List.mem_cons_of_mem _ (List.mem_cons_of_mem _ hw))) (hat w hw)
  have hk' : (Cond.classLink own ik cls).before args s' = true := vx_ot_at hW0 hvm.symm (hgood _ List.mem_cons_self) hk
  have hini' : (Cond.initialized cls).before args s' = true := vx_ot_at hW0 hvm.symm (hgood _ (List.mem_cons_of_mem _ List.mem_cons_self)) hini
  have hU' : vx_Zq Bundle.tN "UNASSIGNED_STACK" Bundle.steD A s' s'.heap := by rw [hhp]; exact vx_Zq.moved hW0.alike (hU.kept hS.2.1)
  have hN' : vx_Zq Bundle.tN "SUPPRESSED_SENTINEL" Bundle.listD A s' s'.heap := by rw [hhp]; exact vx_Zq.moved hW0.alike (hN.kept hS.2.1)
  have h : ∀ w ∈ Bundle.ownAtoms own ic cls names, w.before args s' = true := vx_own hat' (vx_isRefq hU'.1) (vx_isRefq hN'.1) hU'.2.word hN'.2.word
  have hown' : s'.vm.findClass own = some m.cls := by rw [hvm]; exact hown
  have hins : (Cond.instantiable cls 6).before args s' = true := h _ (by simp [Bundle.ownAtoms])
  obtain ⟨vm₁, cX, kX, hfX, hkX, -, -, X₁, st1⟩ := Y.newCold hexec (own := own) (C := cls) (index := ik) (n := 6) hown' hk' hins hini'
    (g := F0 m pc ls rest) rfl (by rw [hb]; exact d0) (Nat.le_refl _) (Nat.le_refl _)
  generalize hT1 : (T.setVm vm₁).pushCell { cls := cX, slots := kX.instanceTypes.map defaultValue, vm := .none } = T1 at X₁ st1
  have hcat : (Value.ref T.heap.size).category = 1 := rfl
  have hcellA : T1.heap[T.heap.size]? = some (freshCell cX kX) := by rw [← hT1]; exact State.heap_pushCell_size _ _
  have d3' : decode c.code (pc + 3) = .ok (.dup, 1) := by rw [hb]; exact d3
  have d4' : decode c.code (pc + 4) = .ok (.ldc_w is, 3) := by rw [hb]; exact d4
  have hstr' : vk_R own is text sa s' := vk_R.warm hW0 hstr
  obtain ⟨U, hsteps, hrun, hend, hW, hsame, ce, hce, hO⟩ := X₁.ctorThrowS hexec htr (own := own) (cls := cls) (names := names) (ic := ic) hown' hcls hnames h (fun x hx => nomatch hx) hfX hkX hcellA (by rw [hhp, hT]; exact Nat.le_refl _) (msg := .ref sa) rfl
    (g := { method := m, pc := pc + 7, locals := ls, stack := .ref sa :: .ref T.heap.size :: .ref T.heap.size :: rest, locked := none }) rfl hsize rfl rfl (rest := rest) rfl
    (by rw [hb]; exact d7) (by rw [hb]; exact d10) hout hRframes (by simp only [List.map_cons, List.sum_cons, hcat]; omega) hlocks
  obtain ⟨f1, f2⟩ := vx_frame hsame
  rw [hhp] at f1 f2
  have hWs : s.WarmedH U.vm := State.WarmedH.trans hW0 hW
  have hcl : s.vm.findClass cls = some ce.cls := by
    have h9 := hO.cls
    rw [hvm] at h9
    exact h9
  have hall : s.sameButNew ({ U with vm := s.vm } : State) locs mc ms := by
    subst hA
    obtain ⟨e1, e2⟩ := hsame
    rw [State.setFrames_setFrames] at e1
    have h2 : (T.setVm s.vm).sameButNew ({ U with vm := s.vm } : State) [] (0 + 1) (0 + 6) := ⟨e1, e2⟩
    have h3 := X.same.trans h2
    rw [List.append_nil] at h3
    exact h3.mono hc hs
  refine ⟨U, ?_, .threw T.heap.size, hrun, hend, Or.inr ⟨T.heap.size, rfl, cls, ce, locs, hx U hWs.alike f1 (fun q hq => f2 q hq (fun z hz => nomatch hz)), hce, hO.vm, hcl, hWs, hall, hf⟩⟩
  refine st1 _ ?_
  show Steps p.tables e below (T1.setTop { method := m, pc := pc + 3, locals := ls, stack := .ref T.heap.size :: rest, locked := none }) _
  jvm_step X₁.here [X₁.here.top, hexec, d3', Value.category]
  exact X₁.ldcStringW hexec (own := own) (text := text) (index := is) (a := sa) hown' hstr'.1 hstr'.2
    (g := { method := m, pc := pc + 4, locals := ls, stack := .ref T.heap.size :: .ref T.heap.size :: rest, locked := none }) rfl d4' _ hsteps
end Ends
section Bodies
variable {l : Launch}
theorem vx_ofW {y : MethodName} {ws ws' : List Cond} {rm : Room} {Pc : Array Value → State → Prop} {Qc : Array Value → State → Outcome → State → Prop} {XC : String → State → State → Prop} {mc ms : Nat} {free : Addr → Prop} {cc : ByteArray} {maxL : Nat} {ret : Option FieldType}
    (hy : plainName y.cls = true) (hw : ws = Cond.code y cc maxL ret :: ws')
    (body : ∀ p e s m args below meth c s₁, BodyLoose p l y (headSpec ws rm) cc maxL ret e s m args below meth c s₁ → c.maxLocals = maxL → (∀ x ∈ c.exceptionTable.toList, False) → Pc args s →
      W p l e (headSpec ws rm).room s m args below meth c s.heap [] 0 0 (vx_MQ below Qc XC args s mc ms free) (entryFrame m args maxL)) : vx_Met l y ws rm Pc Qc XC mc ms free := by
  refine MetFree.of_bodyS (code := cc) (maxLocals := maxL) (ret := ret) hy ?_ ?_
  · intro args s m h hn
    obtain ⟨meth, c, h1, h2, h3, h4, h5, h6, -, -⟩ := Cond.code_spec hn (atoms_spec (ws := ws) h _ (by rw [hw]; exact List.mem_cons_self))
    exact ⟨meth, c, h1, h2, h3, h4, h5, h6⟩
  · intro p e s m args below meth c s₁ B hml hP _
    have hh0 : s₁.heap = s.heap := by rw [B.state]; rfl
    have ht : ∀ x ∈ c.exceptionTable.toList, False := by
      obtain ⟨meth9, c9, h1, h2, -, -, -, -, h7, -⟩ := Cond.code_spec B.named (atoms_spec (ws := ws) B.pre _ (by rw [hw]; exact List.mem_cons_self))
      cases Option.some.inj (h1.symm.trans B.method)
      cases Option.some.inj (h2.symm.trans (Stand.of_body B).code)
      intro x hx
      rw [Array.isEmpty_iff.mp h7] at hx
      cases hx
    obtain ⟨t, a1, o, b1, b2, b3⟩ := body p e s m args below meth c s₁ B hml ht hP s₁ hh0 (Stand.of_body B)
    exact ⟨t, o, a1, b1, b2, b3⟩
/-- the table of a body with handlers -/
theorem vx_table {p : Program} {x y : MethodName} {S : Spec} {cc bytes : ByteArray} {maxL maxL' : Nat} {ret ret' : Option FieldType} {e : Env} {s s₁ : State} {m : MethodId} {args : Array Value} {below : List Frame} {meth : Method} {c : Code} {hh : List (Nat × Nat × Nat × Nat)}
    (B : BodyLoose p l y S cc maxL ret e s m args below meth c s₁) (h : (Cond.codeWith y bytes maxL' ret' hh).before args s = true) : c.exceptionTable.toList = tableOf hh := by
  obtain ⟨m9, meth9, c9, hn9, h1, h2, -, -, h6, -⟩ := Cond.codeWith_spec h
  cases Option.some.inj (hn9.symm.trans B.named)
  cases Option.some.inj (h1.symm.trans B.method)
  cases Option.some.inj (h2.symm.trans (Stand.of_body B).code)
  rw [← h6, table_eq]
end Bodies
end VXA
/-! ===== END ===== -/
/-! ===== BEGIN a static call of a method with an exception table ===== -/
section VXS
variable {p : Program} {l : Launch} {e : Env} {R : Room} {s : State} {m : MethodId} {args : Array Value} {below : List Frame} {meth : Method} {c : Code} {T : State} {H : Heap} {locs : List Loc} {cells slots : Nat}
abbrev vx_CSW (R : Room) (s : State) (args : Array Value) (own : String) (index : Nat) (y : MethodName) (bytes : ByteArray) (maxL : Nat) (ret : Option FieldType) (hh : List (Nat × Nat × Nat × Nat)) (ws : List Cond) (rm : Room) (mc ms n : Nat) : Prop :=
  (rm.cells = mc ∧ rm.slots = ms ∧ rm.frames + 1 ≤ R.frames ∧ 8 + (maxL + 11) + rm.locals ≤ R.locals ∧ (∀ w ∈ ws, ∀ (a' : Array Value) (U : State), s.WarmedH U.vm → w.before a' U = true) ∧ Cond.codeWith y bytes maxL ret hh ∈ ws) ∧
  (Cond.codeWith y bytes maxL ret hh).before args s = true ∧ (Cond.initialized y.cls).before args s = true ∧ (y.cls ≠ "java/lang/invoke/MethodHandle" ∧ y.cls ≠ "java/lang/invoke/VarHandle") ∧
  (∀ sig, parseMethodDescriptor y.desc = some sig → n = sig.parameters.length) ∧ (Cond.methodLink own index y).before args s = true ∧ (Cond.static y).before args s = true
theorem vx_cwSW {own : String} {index maxL mc ms : Nat} {y : MethodName} {bytes : ByteArray} {ret : Option FieldType} {hh : List (Nat × Nat × Nat × Nat)} {Ts ws ws' : List Cond} {rm : Room} (n : Nat) (ht : ∀ w ∈ Ts, w.before args s = true) (hT : GoodIn Ts (va_wsS own index y ws)) (hw : ws = Cond.codeWith y bytes maxL ret hh :: ws') (hrc : rm.cells = mc) (hrs : rm.slots = ms)
    (hd : y.cls ≠ "java/lang/invoke/MethodHandle" ∧ y.cls ≠ "java/lang/invoke/VarHandle" ∧ (parseMethodDescriptor y.desc).map (fun d => d.parameters.length) = some n) (hR : rm.frames + 1 ≤ R.frames ∧ 8 + (maxL + 11) + rm.locals ≤ R.locals) :
    vx_CSW R s args own index y bytes maxL ret hh ws rm mc ms n := by
  have ok : ∀ w ∈ va_wsS own index y ws, w.before args s = true := fun w h => ht w (hT w h).1
  have hG : GoodIn Ts ws := fun w h => hT w (by unfold va_wsS; exact List.mem_append_right _ h)
  have hc : Cond.codeWith y bytes maxL ret hh ∈ ws := by rw [hw]; exact List.mem_cons_self
  refine ⟨⟨hrc, hrs, hR.1, hR.2, pay_in ht hG, hc⟩, ht _ (hG _ hc).1, ok _ (by simp [va_wsS]), ⟨hd.1, hd.2.1⟩, fun sig h => ?_, ok _ (by simp [va_wsS]), ok _ (by simp [va_wsS])⟩
  have h2 := hd.2.2
  rw [h] at h2
  exact (Option.some.inj h2).symm
theorem vx_callSW (X : Stand p l e R s m args below meth c T locs cells slots) (hexec : p.tables.exec = Jvm.exec) {own : String} {index : Nat} {y : MethodName} {bytes : ByteArray} {maxL : Nat} {ret : Option FieldType} {hh : List (Nat × Nat × Nat × Nat)}
    (hown : s.vm.findClass own = some m.cls) (hlink : (Cond.methodLink own index y).before args s = true) (hstat : (Cond.static y).before args s = true) (hinit : (Cond.initialized y.cls).before args s = true)
    (hcode : (Cond.codeWith y bytes maxL ret hh).before args s = true) (hy : y.cls ≠ "java/lang/invoke/MethodHandle" ∧ y.cls ≠ "java/lang/invoke/VarHandle")
    {W9 : Nat} {Pre : Pt → Array Value → Prop} {Post : Pt → Array Value → Option Value → Pt → Prop} (hK : Back l R p e below s args y 3 W9 Pre Post)
    {g : JFrame} (hg : g.method = m) (hsize : g.locals.size = c.maxLocals) {argsL rest : List Value} (hlen : ∀ sig, parseMethodDescriptor y.desc = some sig → argsL.length = sig.parameters.length)
    (hstack : g.stack = argsL.reverse ++ rest) (hW : 2 * g.monitorRoom + (rest.map fun v => v.category).sum ≤ W9) (hdg : decode c.code g.pc = .ok (.invokestatic index, 3))
    (hpre : ∀ vm₁, s.WarmedH vm₁ → Pre ⟨T.setVm vm₁, locs, cells, slots⟩ argsL.toArray) :
    ∃ (v : Option Value) (vm₁ : Vm) (B : Pt), s.WarmedH vm₁ ∧ Stand p l e R s m args below meth c B.U B.locs B.cells B.slots ∧ Post ⟨T.setVm vm₁, locs, cells, slots⟩ argsL.toArray v B ∧
      ∀ target, Steps p.tables e below (B.U.setTop { g with pc := g.pc + 3, stack := v.toList ++ rest }) target → Steps p.tables e below (T.setTop g) target := by
  obtain ⟨mk, methM, cM, hnamed, hmethM, -, -, -, -, -, -, hsigM⟩ := Cond.codeWith_spec hcode
  have hstatic : methM.isStatic = true := Cond.static_spec hnamed hmethM hstat
  obtain ⟨kP, hkP, -⟩ := className_of_methodNamed hnamed
  have hinitP : kP.init = .initialized := Cond.initialized_spec (findClass_of_methodNamed hnamed) hkP hinit
  obtain ⟨vm₁, X₁, hstep₁⟩ := X.invokestatic hexec hown hlink hnamed hmethM hstatic hkP hinitP hy (g := g) hg (argsL := argsL) (rest := rest) (hlen _ hsigM) hstack hdg
  obtain ⟨v, B, X', hpost, hsteps⟩ := hK m meth c ⟨T.setVm vm₁, locs, cells, slots⟩ { g with stack := rest } (.invokestatic index) mk argsL.toArray X₁ hg hsize hdg hW (X₁.named hnamed) (hpre vm₁ X₁.warmed)
  exact ⟨v, vm₁, B, X₁.warmed, X', hpost, fun target h => hstep₁ _ fun acts => by rw [doInvoke_state]; exact hsteps.trans h⟩
theorem vx_runSW {y : MethodName} {bytes cc : ByteArray} {maxL nL mc ms n index : Nat} {ret : Option FieldType} {hh : List (Nat × Nat × Nat × Nat)} {ws : List Cond} {rm : Room} {Pc : Array Value → State → Prop} {Qc : Array Value → State → Outcome → State → Prop} {free : Addr → Prop} {Ts : List Cond} {own : String} {As rest : List Value} {g : JFrame}
    (S : CallFix p m c cc nL s args Ts own) (hM : Met l y ws rm Pc Qc mc ms free) (cw : vx_CSW R s args own index y bytes maxL ret hh ws rm mc ms n) (hp : PreS s H Pc As)
    (hg : g.method = m) (hn : As.length = n) (hsize : g.locals.size = nL) (hstack : g.stack = As.reverse ++ rest) (hW : 2 * g.monitorRoom + (rest.map fun v => v.category).sum ≤ 8) (hdg : decode cc g.pc = .ok (.invokestatic index, 3)) (hf : cells + mc ≤ R.cells ∧ slots + ms ≤ R.slots) :
    va_Run p l e R s m args below meth c H locs cells slots mc ms g rest (Qc As.toArray) (free) := by
  obtain ⟨⟨hrc, hrs, hfr, hlo, hws, hcw⟩, hcode, hini, hy, hlen, hl, hstt⟩ := cw
  have hK : Back l R p e below s args y 3 8 (PreOf R mc ms Pc) (PostOf Qc mc ms free) := va_backW (hh := hh) (bytes := bytes) (maxL := maxL) (ret := ret) hM hp.1 hrc hrs hfr hlo hws hcw (fun a' U hW => word_at hW (Or.inl (by first | rfl | simp [Cond.onTables, Cond.keeps, Cond.steady])) hini)
  obtain ⟨hx, hb, hml, ho, -⟩ := S
  intro T hT X
  obtain ⟨v, vm₁, ⟨U', l2, c2, s2⟩, hW₁, X', ⟨g', mk, t, L, e1, e2, hq, h1, hL, h2, h3⟩, st⟩ := vx_callSW X hx (hh := hh) (bytes := bytes) (maxL := maxL) (ret := ret) ho hl hstt hini hcode hy hK hg (hsize.trans hml.symm) (argsL := As) (rest := rest) (fun sig h => hn.trans (hlen sig h)) hstack hW (by rw [hb]; exact hdg)
    (fun vm₁ hW₁ => ⟨hf.1, hf.2, hp.2 (T.setVm vm₁) hT hW₁⟩)
  dsimp only [Pt.U, Pt.locs, Pt.cells, Pt.slots] at X' e1 e2 h1 h2 h3 st
  subst h1; subst h2; subst h3
  exact ⟨v, (T.setVm vm₁).calling g' mk As.toArray, t, U', L, hT, X', hL, e1, e2, hq, st⟩
/-- not caught here, past rows that name other classes: it goes on to the caller -/
theorem vx_outP {p : Program} {l : Launch} {e : Env} {R : Room} {s : State} {m : MethodId} {args : Array Value} {below : List Frame} {meth : Method} {c : Code} {H : Heap} {locs : List Loc} {cells slots : Nat} {free : Addr → Prop} {ls : Array Slot} {rest : List Value} {Qc : Array Value → State → Outcome → State → Prop} {XC : String → State → State → Prop}
    {pc : Nat} {own E : String} {ce : Cell} {q : Addr} {mc ms : Nat} (hown : s.vm.findClass own = some m.cls) (hlocks : meth.locks = false)
    (hpass : ∀ z ∈ c.exceptionTable.toList, covers z pc = false ∨ (z.catchType ≠ 0 ∧ ∃ nm : String, (Cond.classLink own z.catchType nm).before args s = true ∧ va_Nc E nm s)) (hcell : H[q]? = some ce) (hv : ce.vm = .none) (hcl : s.vm.findClass E = some ce.cls)
    (hx : ∀ t : State, t.heap = H → s.vm.Alike t.vm → XC E s t) (hf : ∀ z ∈ locs, free z.base) (hc : cells ≤ mc) (hs : slots ≤ ms) :
    vx_W p l e R s m args below meth c H locs cells slots (vx_MQ below Qc XC args s mc ms free) (F0 m pc ls rest) q := by
  intro T hT X
  have hpl : e.platform.magicAccessors = ({} : Platform).magicAccessors := by rw [X.admits.platform]
  obtain ⟨vm', hW', X', st⟩ := X.outThrough hlocks q (g := F0 m pc ls rest) rfl rfl rfl (cell := ce) (by rw [hT]; exact hcell) (by rw [hv]; rfl)
    (by obtain ⟨k9, h9, -⟩ := Vm.findClass_spec hcl; exact ⟨k9, h9⟩) (fun z hz => by
      rcases hpass z hz with h | ⟨hz0, nm, hl1, hn1⟩
      · exact Or.inl h
      · obtain ⟨c6, hc6, hcl6⟩ := Cond.classLink_spec hown hl1 e.platform hpl
        obtain ⟨a8, b8, h1, h2, h3⟩ := hn1
        cases Option.some.inj (h1.symm.trans hcl)
        cases Option.some.inj (h2.symm.trans hc6)
        exact Or.inr ⟨hz0, _, hcl6, h3⟩)
  obtain ⟨g₀, hfr⟩ := X'.frames_eq
  have hcell9 : ((T.setVm vm').setFrames (.throwing q :: below)).heap[q]? = some ce := by
    show T.heap[q]? = some ce
    rw [hT]; exact hcell
  have hend : Ended ((T.setVm vm').setFrames (.throwing q :: below)) below (.threw q) := State.frames_setFrames _ (State.cur_lt_of_frames hfr)
  refine ⟨(T.setVm vm').setFrames (.throwing q :: below), ?_, .threw q, X'.here.running, hend, Or.inr ⟨q, rfl, E, ce, locs, hx _ hT (X'.ends _).1.alike, hcell9, hv, hcl, (X'.ends _).1, (X'.ends _).2.mono hc hs, hf⟩⟩
  rw [X.pushThrowing_eq]
  exact st
/-- a thing of a world lies in the heap -/
theorem vx_lt {D : va_G} {cl : List vw_C} {ws : va_W} {H1 : Heap} (h : va_P D cl ws H1) {k : Nat} {q : Nat × va_E} (hk : ws[k]? = some q) : q.1 < H1.size := (h k q hk).lt
end VXS
/-! ===== END ===== -/
/-! ===== BEGIN methods with a table of their own: called by a name, returning or throwing ===== -/
section VXH
/-! vx_backW, vx_callVX, vx_callSX, vx_callVW, vx_runVW, vx_runVX, vx_runSX, vx_ofWH follow the same proofs as their sisters above (Free/Laws.lean, Shelf42/LK1.lean); vx_outP calls Shelf42/NT130.lean (outThrough). -/
section
variable {l : Launch} {R : Room} {p : Program} {e : Env} {below : List Frame} {s : State} {sargs : Array Value} {y : MethodName} {len W9 : Nat}
theorem vx_backW {ws : List Cond} {rm : Room} {Pc : Array Value → State → Prop} {Qc : Array Value → State → Outcome → State → Prop} {XC : String → State → State → Prop} {mc ms : Nat} {free : Addr → Prop} {bytes : ByteArray} {maxL : Nat} {ret : Option FieldType} {hh : List (Nat × Nat × Nat × Nat)}
    (hM : vx_Met l y ws rm Pc Qc XC mc ms free) (hblind : FrameBlind Pc) (hrc : rm.cells = mc) (hrs : rm.slots = ms)
    (hframes : rm.frames + 1 ≤ R.frames) (hlocals : W9 + (maxL + 11) + rm.locals ≤ R.locals)
    (hws : ∀ w ∈ ws, ∀ a' U, s.WarmedH U.vm → w.before a' U = true) (hcode : Cond.codeWith y bytes maxL ret hh ∈ ws) (hinit : ∀ a' U, s.WarmedH U.vm → (Cond.initialized y.cls).before a' U = true) :
    vx_Back l R p e below s sargs y len W9 (PreOf R mc ms Pc) (PostOf Qc mc ms free) (vx_Post XC mc ms free) := by
  intro m meth c A g ig mk a X hg hsize hdg hW hn hp
  have h1 : (headSpec ws rm).pre.before a A.U = true := atoms_intro fun w hw => hws w hw _ _ X.warmed
  have h2 : (Cond.codeWith y bytes maxL ret hh).before a A.U = true := hws _ hcode _ _ X.warmed
  have h3 : (Cond.initialized y.cls).before a A.U = true := hinit _ _ X.warmed
  have h4 : A.cells + (headSpec ws rm).room.cells ≤ R.cells := by rw [show (headSpec ws rm).room.cells = mc from hrc]; exact hp.1
  have h5 : A.slots + (headSpec ws rm).room.slots ≤ R.slots := by rw [show (headSpec ws rm).room.slots = ms from hrs]; exact hp.2.1
  have hPc : Pc a (A.U.calling g mk a) := hblind _ _ _ _ hp.2.2
  obtain ⟨U, Ls, c0, s0⟩ := A
  dsimp only [Pt.U, Pt.locs, Pt.cells, Pt.slots] at h1 h2 h3 h4 h5 X hn hPc ⊢
  obtain ⟨m9, methY, cY, hn9, hmY, hcY, -, hlY, -⟩ := Cond.codeWith_spec h2
  cases Option.some.inj (hn9.symm.trans hn)
  obtain ⟨kY, hkY, -⟩ := className_of_methodNamed hn
  have hinitY : kY.init = .initialized := Cond.initialized_spec (findClass_of_methodNamed hn) hkY h3
  have h : At U g.method c below := by rw [hg]; exact X.here
  have hlocals9 : W9 + (maxL + 11) + (headSpec ws rm).room.locals ≤ R.locals := hlocals
  have happ : (headSpec ws rm).appliesLoose y e.platform (U.calling g mk a) = true :=
    Spec.appliesLoose_calling (g := g) h hdg hn hkY hinitY
      (X.room_calling (g := g) (R' := (headSpec ws rm).room) hsize hmY hcY hframes (by rw [hlY]; omega) h4 h5) h1
  obtain ⟨mid, hmid⟩ := h.above
  have hfr : (U.setTop g).frames = (.java g :: mid) ++ below := by rw [State.frames_setTop' g h.top, hmid]; rfl
  obtain ⟨o, s₂, hsteps, -, hend, hq⟩ := Steps.callFree hM p X.admits X.cas X.clock (acts := []) hfr happ hPc trivial
  have hq' : vx_Q Qc XC mc ms free a (U.calling g mk a) o s₂ := hq
  rw [State.frames_setTop' g h.top] at hend
  obtain ⟨g₀, hg0⟩ := Option.isSome_iff_exists.mp h.top
  obtain ⟨r, hr⟩ := State.topJava?_eq_some.mp hg0
  have hr' : (({ U with heap := s₂.heap, slotsUsed := s₂.slotsUsed } : State).setVm s₂.vm).frames = .java g₀ :: r := hr
  rcases hq' with ⟨hqc, L, hfe, hL⟩ | ⟨q, rfl, E, ce, L, hx, hce, hcv, hcl, hW₂, hsm, hL⟩
  · obtain ⟨⟨v, rfl⟩, hW₂, e2, q2, q3, q4, q5, q6⟩ := id hfe
    have e3 : s₂ = ({ (U.calling g mk a).setFrames s₂.frames with heap := s₂.heap, slotsUsed := s₂.slotsUsed } : State).setVm s₂.vm := by
      have : s₂ = ({ s₂ with vm := (U.calling g mk a).vm } : State).setVm s₂.vm := rfl
      rw [e2] at this
      exact this
    obtain ⟨c₂, i₂, len₂, hc₂, hd₂, hf₂⟩ := hend
    have hW' : U.WarmedH s₂.vm := hW₂
    have hcc : c₂ = c := by
      have h1 : s₂.code? g.method = U.code? g.method := by
        rw [State.code?_eq, State.code?_eq, hW'.alike.method?]
      exact Option.some.inj (hc₂.symm.trans (h1.trans h.code))
    subst hcc
    have hlen : len₂ = len := by rw [hdg] at hd₂; cases hd₂; rfl
    subst hlen
    have hs₂ : s₂ = (({ U with heap := s₂.heap, slotsUsed := s₂.slotsUsed } : State).setVm s₂.vm).setTop { g with pc := g.pc + len₂, stack := v.toList ++ g.stack } := by
      refine e3.trans ?_
      rw [hf₂, State.calling_eq h.top, State.setFrames_setFrames, State.setTop_of_frames _ hr', hr]
      rfl
    have hsame : U.sameButNew ({ U with heap := s₂.heap, slotsUsed := s₂.slotsUsed } : State) L mc ms := by
      refine ⟨?_, q2, q3, q4, q5, q6⟩
      obtain ⟨t, ht, -⟩ := State.frames_cons hr
      show ({ U with heap := s₂.heap, slotsUsed := s₂.slotsUsed } : State) = { U.setFrames U.frames with heap := s₂.heap, slotsUsed := s₂.slotsUsed }
      rw [State.setFrames_self ht]
    subst hg
    refine Or.inl ⟨v, ⟨(({ U with heap := s₂.heap, slotsUsed := s₂.slotsUsed } : State).setVm s₂.vm), Ls ++ L, c0 + mc, s0 + ms⟩,
      ⟨X.admits, X.cas, X.clock, X.frames, X.room, X.hears, X.method, X.code, (X.here.setHeapUsed s₂.heap s₂.slotsUsed).setVm hW'.alike, X.tail, State.WarmedH.trans X.warmed hW', X.limits, X.bytes, X.same.trans (hsame.setVm s.vm)⟩,
      ⟨g, mk, s₂, L, rfl, rfl, hqc, rfl, hL, rfl, rfl⟩, ?_⟩
    show Steps p.tables e below _ ((({ U with heap := s₂.heap, slotsUsed := s₂.slotsUsed } : State).setVm s₂.vm).setTop { g with pc := g.pc + len₂, stack := v.toList ++ g.stack })
    rw [← hs₂]
    exact hsteps
  · obtain ⟨e2, q2, q3, q4, q5, q6⟩ := id hsm
    have e3 : s₂ = ({ (U.calling g mk a).setFrames s₂.frames with heap := s₂.heap, slotsUsed := s₂.slotsUsed } : State).setVm s₂.vm := by
      have : s₂ = ({ s₂ with vm := (U.calling g mk a).vm } : State).setVm s₂.vm := rfl
      rw [e2] at this
      exact this
    have hf₂ : s₂.frames = .throwing q :: .java g :: U.frames.tail := hend
    have hW' : U.WarmedH s₂.vm := hW₂
    have hs₂ : s₂ = ((({ U with heap := s₂.heap, slotsUsed := s₂.slotsUsed } : State).setVm s₂.vm).setTop g).pushFrame (.throwing q) := by
      refine e3.trans ?_
      rw [hf₂, State.calling_eq h.top, State.setFrames_setFrames, State.pushFrame, State.frames_setTop _ hr', State.setTop_of_frames _ hr', State.setFrames_setFrames, hr]
      rfl
    have hsame : U.sameButNew ({ U with heap := s₂.heap, slotsUsed := s₂.slotsUsed } : State) L mc ms := by
      refine ⟨?_, q2, q3, q4, q5, q6⟩
      obtain ⟨t, ht, -⟩ := State.frames_cons hr
      show ({ U with heap := s₂.heap, slotsUsed := s₂.slotsUsed } : State) = { U.setFrames U.frames with heap := s₂.heap, slotsUsed := s₂.slotsUsed }
      rw [State.setFrames_self ht]
    subst hg
    refine Or.inr ⟨q, ⟨(({ U with heap := s₂.heap, slotsUsed := s₂.slotsUsed } : State).setVm s₂.vm), Ls ++ L, c0 + mc, s0 + ms⟩,
      ⟨X.admits, X.cas, X.clock, X.frames, X.room, X.hears, X.method, X.code, (X.here.setHeapUsed s₂.heap s₂.slotsUsed).setVm hW'.alike, X.tail, State.WarmedH.trans X.warmed hW', X.limits, X.bytes, X.same.trans (hsame.setVm s.vm)⟩,
      ⟨g, mk, s₂, L, E, ce, rfl, rfl, hx, hce, hcv, hcl, rfl, hL, rfl, rfl⟩, ?_⟩
    show Steps p.tables e below _ (((({ U with heap := s₂.heap, slotsUsed := s₂.slotsUsed } : State).setVm s₂.vm).setTop g).pushFrame (.throwing q))
    rw [← hs₂]
    exact hsteps
end
variable {p : Program} {l : Launch} {e : Env} {R : Room} {s : State} {m : MethodId} {args : Array Value} {below : List Frame} {meth : Method} {c : Code} {T : State} {H : Heap} {locs : List Loc} {cells slots : Nat}
theorem vx_callVX (X : Stand p l e R s m args below meth c T locs cells slots) (hexec : p.tables.exec = Jvm.exec) {own C : String} {index : Nat} {y : MethodName} {bytes : ByteArray} {maxL : Nat} {ret : Option FieldType} {hh : List (Nat × Nat × Nat × Nat)}
    (hown : s.vm.findClass own = some m.cls) (hlink : (Cond.methodLink own index y).before args s = true) (hinst : (Cond.instanceMethod y).before args s = true) (hsel : (Cond.selects C y y).before args s = true)
    (hcode : (Cond.codeWith y bytes maxL ret hh).before args s = true) (hy : y.cls ≠ "java/lang/invoke/MethodHandle" ∧ y.cls ≠ "java/lang/invoke/VarHandle")
    {W9 : Nat} {Pre : Pt → Array Value → Prop} {Post : Pt → Array Value → Option Value → Pt → Prop} {PostX : Pt → Array Value → Addr → Pt → Prop} (hK : vx_Back l R p e below s args y 3 W9 Pre Post PostX)
    {b : Addr} {cellB : Cell} (hcell : T.heap[b]? = some cellB) (hobj : cellB.vm.isStatics = false) (hcls : s.vm.findClass C = some cellB.cls)
    {g : JFrame} (hg : g.method = m) (hsize : g.locals.size = c.maxLocals) {argsL rest : List Value} (hlen : ∀ sig, parseMethodDescriptor y.desc = some sig → argsL.length = sig.parameters.length)
    (hstack : g.stack = argsL.reverse ++ .ref b :: rest) (hW : 2 * g.monitorRoom + (rest.map fun v => v.category).sum ≤ W9) (hdg : decode c.code g.pc = .ok (.invokevirtual index, 3))
    (hpre : ∀ vm₁, s.WarmedH vm₁ → Pre ⟨T.setVm vm₁, locs, cells, slots⟩ (Value.ref b :: argsL).toArray) :
    (∃ (v : Option Value) (vm₁ : Vm) (B : Pt), s.WarmedH vm₁ ∧ Stand p l e R s m args below meth c B.U B.locs B.cells B.slots ∧ Post ⟨T.setVm vm₁, locs, cells, slots⟩ (Value.ref b :: argsL).toArray v B ∧
      ∀ target, Steps p.tables e below (B.U.setTop { g with pc := g.pc + 3, stack := v.toList ++ rest }) target → Steps p.tables e below (T.setTop g) target) ∨
    (∃ (q : Addr) (vm₁ : Vm) (B : Pt), s.WarmedH vm₁ ∧ Stand p l e R s m args below meth c B.U B.locs B.cells B.slots ∧ PostX ⟨T.setVm vm₁, locs, cells, slots⟩ (Value.ref b :: argsL).toArray q B ∧
      Steps p.tables e below (T.setTop g) ((B.U.setTop { g with stack := rest }).pushFrame (.throwing q))) := by
  obtain ⟨mk, methM, hnamed, hmethM, hstM, habM⟩ := Cond.instanceMethod_spec hinst
  obtain ⟨m8, methM', cM, hn8, hmethM', -, -, -, -, -, -, hsigM⟩ := Cond.codeWith_spec hcode
  cases Option.some.inj (hn8.symm.trans hnamed)
  cases hmethM.symm.trans hmethM'
  obtain ⟨c2, r2, m2, q1, q2, q3, q4, kP, hkP, hkPi⟩ := Cond.selects_spec hsel
  cases hcls.symm.trans q1
  cases (State.methodFound?_of_named hnamed hy).symm.trans q2
  cases hnamed.symm.trans q3
  have hselP : selectMethod e.platform s.vm cellB.cls mk = .method mk := by rw [Launch.admits_selectMethod X.admits]; exact q4
  obtain ⟨vm₁, X₁, hstep₁⟩ := X.invokevirtual hexec hown hlink hnamed hmethM hstM hkP hkPi hy (a := b) (cell := cellB) hcell
    (fun z h => by rw [h] at hobj; cases hobj) hselP hmethM habM hkP hkPi (g := g) hg (argsL := argsL) (rest := rest) (hlen _ hsigM) hstack hdg
  rcases hK m meth c ⟨T.setVm vm₁, locs, cells, slots⟩ { g with stack := rest } (.invokevirtual index) mk (Value.ref b :: argsL).toArray X₁ hg hsize hdg hW (X₁.named hnamed) (hpre vm₁ X₁.warmed) with ⟨v, B, X', hpost, hsteps⟩ | ⟨q, B, X', hpost, hsteps⟩
  · exact Or.inl ⟨v, vm₁, B, X₁.warmed, X', hpost, fun target h => hstep₁ _ fun acts => by rw [doInvoke_state]; exact hsteps.trans h⟩
  · exact Or.inr ⟨q, vm₁, B, X₁.warmed, X', hpost, hstep₁ _ fun acts => by rw [doInvoke_state]; exact hsteps⟩
theorem vx_callSX (X : Stand p l e R s m args below meth c T locs cells slots) (hexec : p.tables.exec = Jvm.exec) {own : String} {index : Nat} {y : MethodName} {bytes : ByteArray} {maxL : Nat} {ret : Option FieldType} {hh : List (Nat × Nat × Nat × Nat)}
    (hown : s.vm.findClass own = some m.cls) (hlink : (Cond.methodLink own index y).before args s = true) (hstat : (Cond.static y).before args s = true) (hinit : (Cond.initialized y.cls).before args s = true)
    (hcode : (Cond.codeWith y bytes maxL ret hh).before args s = true) (hy : y.cls ≠ "java/lang/invoke/MethodHandle" ∧ y.cls ≠ "java/lang/invoke/VarHandle")
    {W9 : Nat} {Pre : Pt → Array Value → Prop} {Post : Pt → Array Value → Option Value → Pt → Prop} {PostX : Pt → Array Value → Addr → Pt → Prop} (hK : vx_Back l R p e below s args y 3 W9 Pre Post PostX)
    {g : JFrame} (hg : g.method = m) (hsize : g.locals.size = c.maxLocals) {argsL rest : List Value} (hlen : ∀ sig, parseMethodDescriptor y.desc = some sig → argsL.length = sig.parameters.length)
    (hstack : g.stack = argsL.reverse ++ rest) (hW : 2 * g.monitorRoom + (rest.map fun v => v.category).sum ≤ W9) (hdg : decode c.code g.pc = .ok (.invokestatic index, 3))
    (hpre : ∀ vm₁, s.WarmedH vm₁ → Pre ⟨T.setVm vm₁, locs, cells, slots⟩ argsL.toArray) :
    (∃ (v : Option Value) (vm₁ : Vm) (B : Pt), s.WarmedH vm₁ ∧ Stand p l e R s m args below meth c B.U B.locs B.cells B.slots ∧ Post ⟨T.setVm vm₁, locs, cells, slots⟩ argsL.toArray v B ∧
      ∀ target, Steps p.tables e below (B.U.setTop { g with pc := g.pc + 3, stack := v.toList ++ rest }) target → Steps p.tables e below (T.setTop g) target) ∨
    (∃ (q : Addr) (vm₁ : Vm) (B : Pt), s.WarmedH vm₁ ∧ Stand p l e R s m args below meth c B.U B.locs B.cells B.slots ∧ PostX ⟨T.setVm vm₁, locs, cells, slots⟩ argsL.toArray q B ∧
      Steps p.tables e below (T.setTop g) ((B.U.setTop { g with stack := rest }).pushFrame (.throwing q))) := by
  obtain ⟨mk, methM, cM, hnamed, hmethM, -, -, -, -, -, -, hsigM⟩ := Cond.codeWith_spec hcode
  have hstatic : methM.isStatic = true := Cond.static_spec hnamed hmethM hstat
  obtain ⟨kP, hkP, -⟩ := className_of_methodNamed hnamed
  have hinitP : kP.init = .initialized := Cond.initialized_spec (findClass_of_methodNamed hnamed) hkP hinit
  obtain ⟨vm₁, X₁, hstep₁⟩ := X.invokestatic hexec hown hlink hnamed hmethM hstatic hkP hinitP hy (g := g) hg (argsL := argsL) (rest := rest) (hlen _ hsigM) hstack hdg
  rcases hK m meth c ⟨T.setVm vm₁, locs, cells, slots⟩ { g with stack := rest } (.invokestatic index) mk argsL.toArray X₁ hg hsize hdg hW (X₁.named hnamed) (hpre vm₁ X₁.warmed) with ⟨v, B, X', hpost, hsteps⟩ | ⟨q, B, X', hpost, hsteps⟩
  · exact Or.inl ⟨v, vm₁, B, X₁.warmed, X', hpost, fun target h => hstep₁ _ fun acts => by rw [doInvoke_state]; exact hsteps.trans h⟩
  · exact Or.inr ⟨q, vm₁, B, X₁.warmed, X', hpost, hstep₁ _ fun acts => by rw [doInvoke_state]; exact hsteps⟩
theorem vx_callVW (X : Stand p l e R s m args below meth c T locs cells slots) (hexec : p.tables.exec = Jvm.exec) {own C : String} {index : Nat} {y : MethodName} {bytes : ByteArray} {maxL : Nat} {ret : Option FieldType} {hh : List (Nat × Nat × Nat × Nat)}
    (hown : s.vm.findClass own = some m.cls) (hlink : (Cond.methodLink own index y).before args s = true) (hinst : (Cond.instanceMethod y).before args s = true) (hsel : (Cond.selects C y y).before args s = true)
    (hcode : (Cond.codeWith y bytes maxL ret hh).before args s = true) (hy : y.cls ≠ "java/lang/invoke/MethodHandle" ∧ y.cls ≠ "java/lang/invoke/VarHandle")
    {W9 : Nat} {Pre : Pt → Array Value → Prop} {Post : Pt → Array Value → Option Value → Pt → Prop} (hK : Back l R p e below s args y 3 W9 Pre Post)
    {b : Addr} {cellB : Cell} (hcell : T.heap[b]? = some cellB) (hobj : cellB.vm.isStatics = false) (hcls : s.vm.findClass C = some cellB.cls)
    {g : JFrame} (hg : g.method = m) (hsize : g.locals.size = c.maxLocals) {argsL rest : List Value} (hlen : ∀ sig, parseMethodDescriptor y.desc = some sig → argsL.length = sig.parameters.length)
    (hstack : g.stack = argsL.reverse ++ .ref b :: rest) (hW : 2 * g.monitorRoom + (rest.map fun v => v.category).sum ≤ W9) (hdg : decode c.code g.pc = .ok (.invokevirtual index, 3))
    (hpre : ∀ vm₁, s.WarmedH vm₁ → Pre ⟨T.setVm vm₁, locs, cells, slots⟩ (Value.ref b :: argsL).toArray) :
    ∃ (v : Option Value) (vm₁ : Vm) (B : Pt), s.WarmedH vm₁ ∧ Stand p l e R s m args below meth c B.U B.locs B.cells B.slots ∧ Post ⟨T.setVm vm₁, locs, cells, slots⟩ (Value.ref b :: argsL).toArray v B ∧
      ∀ target, Steps p.tables e below (B.U.setTop { g with pc := g.pc + 3, stack := v.toList ++ rest }) target → Steps p.tables e below (T.setTop g) target := by
  obtain ⟨mk, methM, hnamed, hmethM, hstM, habM⟩ := Cond.instanceMethod_spec hinst
  obtain ⟨m8, methM', cM, hn8, hmethM', -, -, -, -, -, -, hsigM⟩ := Cond.codeWith_spec hcode
  cases Option.some.inj (hn8.symm.trans hnamed)
  cases hmethM.symm.trans hmethM'
  obtain ⟨c2, r2, m2, q1, q2, q3, q4, kP, hkP, hkPi⟩ := Cond.selects_spec hsel
  cases hcls.symm.trans q1
  cases (State.methodFound?_of_named hnamed hy).symm.trans q2
  cases hnamed.symm.trans q3
  have hselP : selectMethod e.platform s.vm cellB.cls mk = .method mk := by rw [Launch.admits_selectMethod X.admits]; exact q4
  obtain ⟨vm₁, X₁, hstep₁⟩ := X.invokevirtual hexec hown hlink hnamed hmethM hstM hkP hkPi hy (a := b) (cell := cellB) hcell
    (fun z h => by rw [h] at hobj; cases hobj) hselP hmethM habM hkP hkPi (g := g) hg (argsL := argsL) (rest := rest) (hlen _ hsigM) hstack hdg
  obtain ⟨v, B, X', hpost, hsteps⟩ := hK m meth c ⟨T.setVm vm₁, locs, cells, slots⟩ { g with stack := rest } (.invokevirtual index) mk (Value.ref b :: argsL).toArray X₁ hg hsize hdg hW (X₁.named hnamed) (hpre vm₁ X₁.warmed)
  exact ⟨v, vm₁, B, X₁.warmed, X', hpost, fun target h => hstep₁ _ fun acts => by rw [doInvoke_state]; exact hsteps.trans h⟩
abbrev vx_CVW (R : Room) (s : State) (args : Array Value) (own C : String) (index : Nat) (y : MethodName) (bytes : ByteArray) (maxL : Nat) (ret : Option FieldType) (hh : List (Nat × Nat × Nat × Nat)) (ws : List Cond) (rm : Room) (mc ms n : Nat) : Prop :=
  (rm.cells = mc ∧ rm.slots = ms ∧ rm.frames + 1 ≤ R.frames ∧ 8 + (maxL + 11) + rm.locals ≤ R.locals ∧ (∀ w ∈ ws, ∀ (a' : Array Value) (U : State), s.WarmedH U.vm → w.before a' U = true) ∧ Cond.codeWith y bytes maxL ret hh ∈ ws) ∧
  (Cond.codeWith y bytes maxL ret hh).before args s = true ∧ (Cond.initialized y.cls).before args s = true ∧ (y.cls ≠ "java/lang/invoke/MethodHandle" ∧ y.cls ≠ "java/lang/invoke/VarHandle") ∧
  (∀ sig, parseMethodDescriptor y.desc = some sig → n = sig.parameters.length) ∧ (Cond.methodLink own index y).before args s = true ∧ (Cond.instanceMethod y).before args s = true ∧ (Cond.selects C y y).before args s = true
theorem vx_cwVW {own C : String} {index maxL mc ms : Nat} {y : MethodName} {bytes : ByteArray} {ret : Option FieldType} {hh : List (Nat × Nat × Nat × Nat)} {Ts ws ws' : List Cond} {rm : Room} (n : Nat) (ht : ∀ w ∈ Ts, w.before args s = true) (hT : GoodIn Ts (wsV own index C y ws)) (hw : ws = Cond.codeWith y bytes maxL ret hh :: ws') (hrc : rm.cells = mc) (hrs : rm.slots = ms)
    (hd : y.cls = C ∧ y.cls ≠ "java/lang/invoke/MethodHandle" ∧ y.cls ≠ "java/lang/invoke/VarHandle" ∧ (parseMethodDescriptor y.desc).map (fun d => d.parameters.length) = some n) (hR : rm.frames + 1 ≤ R.frames ∧ 8 + (maxL + 11) + rm.locals ≤ R.locals) :
    vx_CVW R s args own C index y bytes maxL ret hh ws rm mc ms n := by
  obtain ⟨hC, hd⟩ := hd
  subst hC
  have ok : ∀ w ∈ wsV own index y.cls y ws, w.before args s = true := fun w h => ht w (hT w h).1
  have hG : GoodIn Ts ws := fun w h => hT w (by unfold wsV; exact List.mem_append_right _ h)
  have hc : Cond.codeWith y bytes maxL ret hh ∈ ws := by rw [hw]; exact List.mem_cons_self
  refine ⟨⟨hrc, hrs, hR.1, hR.2, pay_in ht hG, hc⟩, ht _ (hG _ hc).1, ok _ (by simp [wsV]), ⟨hd.1, hd.2.1⟩, fun sig h => ?_, ok _ (by simp [wsV]), ok _ (by simp [wsV]), ok _ (by simp [wsV])⟩
  have h2 := hd.2.2
  rw [h] at h2
  exact (Option.some.inj h2).symm
theorem vx_runVW {y : MethodName} {bytes cc : ByteArray} {maxL nL mc ms n index : Nat} {ret : Option FieldType} {hh : List (Nat × Nat × Nat × Nat)} {ws : List Cond} {rm : Room} {Pc : Array Value → State → Prop} {Qc : Array Value → State → Outcome → State → Prop} {free : Addr → Prop} {Ts : List Cond} {own C : String} {b : Addr} {As rest : List Value} {g : JFrame}
    (S : CallFix p m c cc nL s args Ts own) (hM : Met l y ws rm Pc Qc mc ms free) (cw : vx_CVW R s args own C index y bytes maxL ret hh ws rm mc ms n) (hp : PreV s H C b Pc As)
    (hg : g.method = m) (hn : As.length = n) (hsize : g.locals.size = nL) (hstack : g.stack = As.reverse ++ .ref b :: rest) (hW : 2 * g.monitorRoom + (rest.map fun v => v.category).sum ≤ 8) (hdg : decode cc g.pc = .ok (.invokevirtual index, 3)) (hf : cells + mc ≤ R.cells ∧ slots + ms ≤ R.slots) :
    va_Run p l e R s m args below meth c H locs cells slots mc ms g rest (Qc (Value.ref b :: As).toArray) free := by
  obtain ⟨⟨hrc, hrs, hfr, hlo, hws, hcw⟩, hcode, hini, hy, hlen, hl, hin, hse⟩ := cw
  have hK : Back l R p e below s args y 3 8 (PreOf R mc ms Pc) (PostOf Qc mc ms free) := va_backW (hh := hh) (bytes := bytes) (maxL := maxL) (ret := ret) hM hp.1 hrc hrs hfr hlo hws hcw (fun a' U hW => word_at hW (Or.inl (by first | rfl | simp [Cond.onTables, Cond.keeps, Cond.steady])) hini)
  obtain ⟨hx, hb, hml, ho, -⟩ := S
  obtain ⟨-, ⟨cellB, hcB, hoB, hclB⟩, hPc⟩ := hp
  intro T hT X
  obtain ⟨v, vm₁, ⟨U', l2, c2, s2⟩, hW₁, X', ⟨g', mk, t, L, e1, e2, hq, h1, hL, h2, h3⟩, st⟩ := vx_callVW X hx (C := C) (hh := hh) (bytes := bytes) (maxL := maxL) (ret := ret) ho hl hin hse hcode hy hK (by rw [hT]; exact hcB) hoB hclB hg (hsize.trans hml.symm) (argsL := As) (rest := rest) (fun sig h => hn.trans (hlen sig h)) hstack hW (by rw [hb]; exact hdg)
    (fun vm₁ hW₁ => ⟨hf.1, hf.2, hPc (T.setVm vm₁) hT hW₁⟩)
  dsimp only [Pt.U, Pt.locs, Pt.cells, Pt.slots] at X' e1 e2 h1 h2 h3 st
  subst h1; subst h2; subst h3
  exact ⟨v, (T.setVm vm₁).calling g' mk (Value.ref b :: As).toArray, t, U', L, hT, X', hL, e1, e2, hq, st⟩
section
variable {y : MethodName} {bytes cc : ByteArray} {maxL nL mc ms n index : Nat} {ret : Option FieldType} {ws : List Cond} {rm : Room} {Pc : Array Value → State → Prop} {Qc : Array Value → State → Outcome → State → Prop} {XC : String → State → State → Prop} {free : Addr → Prop} {Ts : List Cond} {own C : String} {b : Addr} {As rest : List Value} {g : JFrame}
theorem vx_runVX {hh : List (Nat × Nat × Nat × Nat)} (S : CallFix p m c cc nL s args Ts own) (hM : vx_Met l y ws rm Pc Qc XC mc ms free) (cw : vx_CVW R s args own C index y bytes maxL ret hh ws rm mc ms n) (hp : PreV s H C b Pc As)
    (hg : g.method = m) (hn : As.length = n) (hsize : g.locals.size = nL) (hstack : g.stack = As.reverse ++ .ref b :: rest) (hW : 2 * g.monitorRoom + (rest.map fun v => v.category).sum ≤ 8) (hdg : decode cc g.pc = .ok (.invokevirtual index, 3)) (hf : cells + mc ≤ R.cells ∧ slots + ms ≤ R.slots) :
    vx_Run p l e R s m args below meth c H locs cells slots mc ms g rest (Qc (Value.ref b :: As).toArray) XC free := by
  obtain ⟨⟨hrc, hrs, hfr, hlo, hws, hcw⟩, hcode, hini, hy, hlen, hl, hin, hse⟩ := cw
  have hK : vx_Back l R p e below s args y 3 8 (PreOf R mc ms Pc) (PostOf Qc mc ms free) (vx_Post XC mc ms free) := vx_backW (hh := hh) (bytes := bytes) (maxL := maxL) (ret := ret) hM hp.1 hrc hrs hfr hlo hws hcw (fun a' U hW => word_at hW (Or.inl (by first | rfl | simp [Cond.onTables, Cond.keeps, Cond.steady])) hini)
  obtain ⟨hx, hb, hml, ho, -⟩ := S
  obtain ⟨-, ⟨cellB, hcB, hoB, hclB⟩, hPc⟩ := hp
  intro T hT X
  rcases vx_callVX X hx (C := C) (hh := hh) (bytes := bytes) (maxL := maxL) (ret := ret) ho hl hin hse hcode hy hK (by rw [hT]; exact hcB) hoB hclB hg (hsize.trans hml.symm) (argsL := As) (rest := rest) (fun sig h => hn.trans (hlen sig h)) hstack hW (by rw [hb]; exact hdg)
    (fun vm₁ hW₁ => ⟨hf.1, hf.2, hPc (T.setVm vm₁) hT hW₁⟩) with ⟨v, vm₁, ⟨U', l2, c2, s2⟩, hW₁, X', ⟨g', mk, t, L, e1, e2, hq, h1, hL, h2, h3⟩, st⟩ | ⟨q, vm₁, ⟨U', l2, c2, s2⟩, hW₁, X', ⟨g', mk, t, L, E, ce, e1, e2, hq, hce, hcv, hcl, h1, hL, h2, h3⟩, st⟩
  · dsimp only [Pt.U, Pt.locs, Pt.cells, Pt.slots] at X' e1 e2 h1 h2 h3 st
    subst h1; subst h2; subst h3
    exact Or.inl ⟨v, (T.setVm vm₁).calling g' mk (Value.ref b :: As).toArray, t, U', L, hT, X', hL, e1, e2, hq, st⟩
  · dsimp only [Pt.U, Pt.locs, Pt.cells, Pt.slots] at X' e1 e2 h1 h2 h3 st hcl
    subst h1; subst h2; subst h3
    exact Or.inr ⟨q, (T.setVm vm₁).calling g' mk (Value.ref b :: As).toArray, t, U', L, E, ce, hT, X', hL, e1, e2, hq, hce, hcv, vx_cls hW₁ hcl, st⟩
theorem vx_runSX {hh : List (Nat × Nat × Nat × Nat)} (S : CallFix p m c cc nL s args Ts own) (hM : vx_Met l y ws rm Pc Qc XC mc ms free) (cw : vx_CSW R s args own index y bytes maxL ret hh ws rm mc ms n) (hp : PreS s H Pc As)
    (hg : g.method = m) (hn : As.length = n) (hsize : g.locals.size = nL) (hstack : g.stack = As.reverse ++ rest) (hW : 2 * g.monitorRoom + (rest.map fun v => v.category).sum ≤ 8) (hdg : decode cc g.pc = .ok (.invokestatic index, 3)) (hf : cells + mc ≤ R.cells ∧ slots + ms ≤ R.slots) :
    vx_Run p l e R s m args below meth c H locs cells slots mc ms g rest (Qc As.toArray) XC free := by
  obtain ⟨⟨hrc, hrs, hfr, hlo, hws, hcw⟩, hcode, hini, hy, hlen, hl, hstt⟩ := cw
  have hK : vx_Back l R p e below s args y 3 8 (PreOf R mc ms Pc) (PostOf Qc mc ms free) (vx_Post XC mc ms free) := vx_backW (hh := hh) (bytes := bytes) (maxL := maxL) (ret := ret) hM hp.1 hrc hrs hfr hlo hws hcw (fun a' U hW => word_at hW (Or.inl (by first | rfl | simp [Cond.onTables, Cond.keeps, Cond.steady])) hini)
  obtain ⟨hx, hb, hml, ho, -⟩ := S
  intro T hT X
  rcases vx_callSX X hx (hh := hh) (bytes := bytes) (maxL := maxL) (ret := ret) ho hl hstt hini hcode hy hK hg (hsize.trans hml.symm) (argsL := As) (rest := rest) (fun sig h => hn.trans (hlen sig h)) hstack hW (by rw [hb]; exact hdg)
    (fun vm₁ hW₁ => ⟨hf.1, hf.2, hp.2 (T.setVm vm₁) hT hW₁⟩) with ⟨v, vm₁, ⟨U', l2, c2, s2⟩, hW₁, X', ⟨g', mk, t, L, e1, e2, hq, h1, hL, h2, h3⟩, st⟩ | ⟨q, vm₁, ⟨U', l2, c2, s2⟩, hW₁, X', ⟨g', mk, t, L, E, ce, e1, e2, hq, hce, hcv, hcl, h1, hL, h2, h3⟩, st⟩
  · dsimp only [Pt.U, Pt.locs, Pt.cells, Pt.slots] at X' e1 e2 h1 h2 h3 st
    subst h1; subst h2; subst h3
    exact Or.inl ⟨v, (T.setVm vm₁).calling g' mk As.toArray, t, U', L, hT, X', hL, e1, e2, hq, st⟩
  · dsimp only [Pt.U, Pt.locs, Pt.cells, Pt.slots] at X' e1 e2 h1 h2 h3 st hcl
    subst h1; subst h2; subst h3
    exact Or.inr ⟨q, (T.setVm vm₁).calling g' mk As.toArray, t, U', L, E, ce, hT, X', hL, e1, e2, hq, hce, hcv, vx_cls hW₁ hcl, st⟩
end
end VXH
theorem vx_ofWH {l : Launch} {y : MethodName} {ws ws' : List Cond} {rm : Room} {Pc : Array Value → State → Prop} {Qc : Array Value → State → Outcome → State → Prop} {XC : String → State → State → Prop} {mc ms : Nat} {free : Addr → Prop} {cc : ByteArray} {maxL : Nat} {ret : Option FieldType} {hh : List (Nat × Nat × Nat × Nat)}
    (hy : plainName y.cls = true) (hw : ws = Cond.codeWith y cc maxL ret hh :: ws')
    (body : ∀ p e s m args below meth c s₁, BodyLoose p l y (headSpec ws rm) cc maxL ret e s m args below meth c s₁ → c.maxLocals = maxL → Pc args s →
      W p l e (headSpec ws rm).room s m args below meth c s.heap [] 0 0 (vx_MQ below Qc XC args s mc ms free) (entryFrame m args maxL)) : vx_Met l y ws rm Pc Qc XC mc ms free := by
  refine MetFree.of_bodyS (code := cc) (maxLocals := maxL) (ret := ret) hy ?_ ?_
  · intro args s m h hn
    obtain ⟨m9, meth, c, hn9, h1, h2, h3, h4, -, h5, h6, -⟩ := Cond.codeWith_spec (atoms_spec (ws := ws) h _ (by rw [hw]; exact List.mem_cons_self))
    cases hn.symm.trans hn9
    exact ⟨meth, c, h1, h2, h3, h4, h5, h6⟩
  · intro p e s m args below meth c s₁ B hml hP _
    have hh0 : s₁.heap = s.heap := by rw [B.state]; rfl
    obtain ⟨t, a1, o, b1, b2, b3⟩ := body p e s m args below meth c s₁ B hml hP s₁ hh0 (Stand.of_body B)
    exact ⟨t, o, a1, b1, b2, b3⟩
/-! ===== END ===== -/

/-! ===== BEGIN what the machine throws by itself, no traces kept ===== -/
section VXM
set_option maxHeartbeats 1000000 in
/-- the machine throws cls with the message text, no traces kept: from its note over the frame g to 'throwing' over the same frame (follows the proofs of Stand.vmThrowsMessage, Shelf/KitTracedVmS.lean, and Stand.throwsMessageColdBareV, StandMessageColdV.lean, without the step out of the frame) -/
theorem vx_vmAt {p : Program} {l : Launch} {e : Env} {R : Room} {s : State} {m₀ : MethodId} {args : Array Value} {below : List Frame} {meth : Method} {c : Code} {W : State} {locs : List Loc} {cells slots : Nat}
    (X : Stand p l e R s m₀ args below meth c W locs cells slots) (hexec : p.tables.exec = Jvm.exec) (htr : e.platform.stackTraces = false) {cls : String} {names : List String} {text : String}
    (hcls : Bundle.fit cls = true) (hnames : ∀ n ∈ names, Bundle.fit n = true) (hsoe : (cls == "java/lang/StackOverflowError") = false) (hoom : (cls == "java/lang/OutOfMemoryError") = false)
    (h : ∀ a ∈ Bundle.messageArmAtoms cls names, a.before args s = true)
    (hlocs : ∀ x ∈ locs, ∀ cell, s.heap[x.base]? = some cell → cell.vm.isStatics = false)
    (htext : (text == notModelled) = false) (hlimit : ¬ (stringBytes (stringToUtf16 text)).size > e.platform.arrayLengthLimit) (hheap : ¬ (stringBytes (stringToUtf16 text)).size * componentBytes .byte > e.platform.maxHeapBytes)
    {g : JFrame} (hg : g.method = m₀) (hsize : g.locals.size = c.maxLocals)
    (hRframes : names.length + 4 < R.frames) (hRlocals : 2 * g.monitorRoom + (g.stack.map fun v => v.category).sum + 10240 ≤ R.locals) (hshort : 13 * names.length + 55 ≤ 10240)
    (hRcells : cells + 3 ≤ R.cells) (hRslots : slots + ((stringBytes (stringToUtf16 text)).size + 4 + 6) ≤ R.slots) (hlocks : meth.locks = false) :
    ∃ (S : State) (q : Addr) (ce : Cell), (∀ target, Steps p.tables e below ((S.setTop g).pushFrame (.throwing q)) target → Steps p.tables e below ((W.setTop g).pushFrame (.throwNew cls (some text) none)) target) ∧
      Stand p l e R s m₀ args below meth c S locs (cells + 3) (slots + ((stringBytes (stringToUtf16 text)).size + 4 + 6)) ∧ S.heap[q]? = some ce ∧ s.vm.findClass cls = some ce.cls ∧ ce.vm = .none := by
  have howns : e.platform.frameOwnsMonitors = true := by rw [X.admits.platform]
  have hfin : e.platform.finalization = false := by rw [X.admits.platform]
  have hpl : e.platform.magicAccessors = ({} : Platform).magicAccessors := by rw [X.admits.platform]
  have a : ∀ x, x ∈ Bundle.messageArmAtoms cls names → x.holds args s none s [] = true := fun x hx => h x hx
  obtain ⟨T, Z0, L, -, Y⟩ := ThrowableC.of_atoms (args := args) howns hfin hpl (fun x hx => h x (by simp [Bundle.messageArmAtoms, hx]))
  obtain ⟨Z, M, LZ, LM, hnZ⟩ := Init0T.ofS_atoms (args := args) hpl L Y (fun x hx => h x (by simp [Bundle.messageArmAtoms, hx]))
  obtain ⟨P1, Ps, hlen, L1, hL, hP1m, hlink1, hlink⟩ := Bundle.chainS (args := args) hpl hnZ names cls hcls hnames (fun x hx => h x (by simp [Bundle.messageArmAtoms, hx]))
  obtain ⟨Zs, LZs, hn4, hfitv, hfitc⟩ := StringT.of_atoms (args := args) (fun x hx => h x (by simp [Bundle.messageArmAtoms, hx]))
  have hfound : s.vm.findClass cls = some P1.m.cls := findClass_of_methodNamed hP1m
  obtain ⟨c1, kX, hc1, hk, hord, -, -, hn6⟩ := Cond.instantiable_spec (a (.instantiable cls 6) (by simp [Bundle.messageArmAtoms]))
  cases Option.some.inj (hc1.symm.trans hfound)
  have hinit := Cond.initialized_spec hfound hk (a (.initialized cls) (by simp [Bundle.messageArmAtoms]))
  have hctor : kX.findMethod "<init>" "(Ljava/lang/String;)V" = some P1.m.idx := findMethod_of_methodNamed hP1m hk
  have hsel0 : selectMethod e.platform s.vm P1.m.cls T.fill0 = .method T.fill0 := by
    obtain ⟨c2, r2, m2, q1, q2, q3, q4, -⟩ := Cond.selects_spec (a (.selects cls Bundle.tFill0 Bundle.tFill0) (by simp [Bundle.messageArmAtoms]))
    cases Option.some.inj (q1.symm.trans hfound)
    cases Option.some.inj (q2.symm.trans (State.methodFound?_of_named Y.fill0 (by decide)))
    cases Option.some.inj (q3.symm.trans Y.fill0)
    rw [Launch.admits_selectMethod X.admits]; exact q4
  have hselF : selectMethod e.platform s.vm P1.m.cls T.fill = .method T.fill := by
    obtain ⟨c2, r2, m2, q1, q2, q3, q4, -⟩ := Cond.selects_spec (a (.selects cls Bundle.tFill Bundle.tFill) (by simp [Bundle.messageArmAtoms]))
    cases Option.some.inj (q1.symm.trans hfound)
    cases Option.some.inj (q2.symm.trans (State.methodFound?_of_named Y.fill (by decide)))
    cases Option.some.inj (q3.symm.trans Y.fill)
    rw [Launch.admits_selectMethod X.admits]; exact q4
  obtain ⟨cellS0, hcS0, hiss⟩ := Y.statics
  obtain ⟨u0, hu0⟩ := Cond.staticRefV Y.unassigned L.unassignedStatic L.statics hcS0 hiss (a (.isRef (.static Bundle.tN "UNASSIGNED_STACK" Bundle.steD)) (by simp [Bundle.messageArmAtoms]))
  obtain ⟨sen, hsen⟩ := Cond.staticRefV Y.sentinel L.sentinelStatic L.statics hcS0 hiss (a (.isRef (.static Bundle.tN "SUPPRESSED_SENTINEL" Bundle.listD)) (by simp [Bundle.messageArmAtoms]))
  obtain ⟨ci198, i198, fB, hk198, hg198, ha198, hsB, -, hnB, htB, hffB⟩ := Cond.ownField (t := .object "java/lang/Object") Y.found L.cls (by decide +kernel) (a (.fieldLink Bundle.tN 198 Bundle.tN "backtrace" "Ljava/lang/Object;") (by simp [Bundle.messageArmAtoms])) (a (.lays Bundle.tN Bundle.tN "backtrace" "Ljava/lang/Object;") (by simp [Bundle.messageArmAtoms])) e.platform hpl
  obtain ⟨cellS, hcS', heS, -, hkeep⟩ := X.same.2.2.2.2.2 T.aS cellS0 hcS0
  have hcellS : W.heap[T.aS]? = some cellS := hcS'
  have hout' : ∀ i, (⟨T.aS, i⟩ : Loc) ∉ locs := fun i hmem => by
    have := hlocs _ hmem cellS0 hcS0
    rw [hiss] at this; cases this
  have hknownS : cellS.vm ≠ .unknown := by
    rw [heS]; intro hu
    rw [show cellS0.vm = .unknown from hu] at hiss
    cases hiss
  have hvU : cellS.slots[T.fUnassigned.slot]? = some u0.v := by rw [hkeep _ (hout' _)]; exact hu0
  have hvSen : cellS.slots[T.fSentinel.slot]? = some sen.v := by rw [hkeep _ (hout' _)]; exact hsen
  obtain ⟨iM, hffM⟩ := Y.msg
  obtain ⟨tyC, dC, hdC, hdnC⟩ := Cond.laysAt hfound hk Y.cause (a (.lays cls Bundle.tN "cause" "Ljava/lang/Throwable;") (by simp [Bundle.messageArmAtoms]))
  obtain ⟨tyS, dS, hdS, hdnS⟩ := Cond.laysAt hfound hk Y.stack (a (.lays cls Bundle.tN "stackTrace" Bundle.steD) (by simp [Bundle.messageArmAtoms]))
  obtain ⟨tyP, dP, hdP, hdnP⟩ := Cond.laysAt hfound hk Y.supp (a (.lays cls Bundle.tN "suppressedExceptions" Bundle.listD) (by simp [Bundle.messageArmAtoms]))
  obtain ⟨tyM, dM, hdM, hdnM⟩ := Cond.laysAt hfound hk hffM (a (.lays cls Bundle.tN "detailMessage" "Ljava/lang/String;") (by simp [Bundle.messageArmAtoms]))
  obtain ⟨tyB, dB, hdB, hdnB⟩ := Cond.laysAt hfound hk hffB (a (.lays cls Bundle.tN "backtrace" "Ljava/lang/Object;") (by simp [Bundle.messageArmAtoms]))
  have bC := Cond.laysApart hdB hdC hdnB hdnC (by rw [hnB, Y.causeName]; decide)
  have bS := Cond.laysApart hdB hdS hdnB hdnS (by rw [hnB, Y.stackName]; decide)
  have bP := Cond.laysApart hdB hdP hdnB hdnP (by rw [hnB, Y.suppName]; decide)
  have hbk : ((preparedCellV T.toThrowableT (freshCell P1.m.cls kX) (W.heap.size + 2) u0 sen).withEntry W.cur).slots[fB.slot]? = some .null := by
    have := fresh_default (c := P1.m.cls) tyB
    rw [htB] at this
    simpa [preparedCellV, Cell.setSlot, Cell.withEntry, Array.getElem?_setIfInBounds, bC, bS, bP, bC.symm, bS.symm, bP.symm, defaultValue] using this
  have tkC := Takes.of_laid (v := .ref (W.heap.size + 2)) hk hord tyC (by rw [Y.causeType]; rfl)
  have tkS := Takes.of_laid (v := u0.v) hk hord tyS (by rw [Y.stackType]; exact fits_refV_array _ u0)
  have tkP := Takes.of_laid (v := sen.v) hk hord tyP (by rw [Y.suppType]; exact fits_refV_object _ sen)
  have tkM := Takes.of_laid (v := .ref (W.heap.size + 1)) hk hord tyM (by rw [Y.msgType]; rfl)
  have hskip : SkipFacts T e.platform s (fun u => u) u0 ((preparedCellV T.toThrowableT (freshCell P1.m.cls kX) (W.heap.size + 2) u0 sen).withEntry W.cur) := ⟨{ ci198 := ci198, i198 := i198, fBack := fB }, ⟨hk198, hg198, ha198, hsB⟩, hbk, fun _ _ => rfl⟩
  have h0 : At W g.method c below := by rw [hg]; exact X.here
  obtain ⟨hbeyond, hfreeW⟩ := X.vmMayThrow hsize (.throwNew cls (some text) none) (fun f hf => by cases hf) rfl hRlocals
  have hfr' : W.frames.length + Ps.length + 4 < (e.platform.stackLimits W.me).1 := by have := X.framesAbove hRframes; omega
  have hwd' : (stackUse (.java g :: W.frames.tail)).2 + 13 * Ps.length + 55 ≤ (e.platform.stackLimits W.me).2 := by have := X.stackAbove hsize (K := 13 * Ps.length + 55) (by omega); omega
  have hslots : W.slotsUsed + (stringBytes (stringToUtf16 text)).size + Zs.kS.instanceTypes.size + kX.instanceTypes.size ≤ e.platform.maxSlots := by
    have := X.slotsAbove hRslots
    rw [hn4, hn6]
    omega
  obtain ⟨vm', hW', st⟩ := Steps.vmThrowsMessageColdByV p (s₀ := s) (S := W) (g := g) h0 hexec T L Z LZ M LM X.warmed (t := W.cur) rfl Zs LZs P1 L1 Ps hL hlink1 hlink hsoe hoom hfound hk hinit hord hctor
    (Launch.admits_hotImplicitExceptions X.admits) hbeyond hfreeW htext hlimit hheap (X.cellsAbove hRcells) hslots (hfitv _) (hfitc _)
    (Nn := fun u => u) heapOnly_id (fun _ _ => rfl) (fun _ => rfl) (fun u x y => setCell_twice _ _ _ _) (fun _ => Nat.le_refl _) (cN := ((preparedCellV T.toThrowableT (freshCell P1.m.cls kX) (W.heap.size + 2) u0 sen).withEntry W.cur))
    hsel0 hcellS hknownS hvU tkS (fun _ hu => hu) (fun _ hu => hu) rfl rfl rfl (by simp [preparedCellV, Cell.setSlot, Cell.withEntry]) hskip (fun _ _ hA hW _ hroom _ hrest => L.nativeOff p htr hA hW hroom hrest) hselF hvSen tkC tkP tkM Y.objLocals rfl hfr' hwd'
  rw [plainBareV_eq T.toThrowableT (W.heap.size + 2) u0 sen (.ref (W.heap.size + 1)) W.cur rfl rfl] at st
  obtain ⟨-, -, w3, w4, -, -, -⟩ := withThrown_facts e.platform W Zs text P1.m.cls kX
  have X3 := ((X.pushed (bytesOf Zs.cB (stringToUtf16 text))).pushed (stringAt Zs.cS Zs.kS Zs.fv Zs.fc (stringToUtf16 text) W.heap.size)).pushed (freshCell P1.m.cls kX)
  rw [← withString_eq] at X3
  have X4 := X3.noted hW'
  have ha : (W.heap.size + 2) < ((withThrown W Zs text P1.m.cls kX).setVm vm').heap.size := by show _ < (withThrown W Zs text P1.m.cls kX).heap.size; rw [w3]; omega
  have hcell : ((withThrown W Zs text P1.m.cls kX).setVm vm').heap[(W.heap.size + 2)]? = some (freshCell P1.m.cls kX) := w4
  have X5 := ((((X4.stored hcell T.fCause.slot (.ref (W.heap.size + 2))).storedAgain ha T.fStack.slot u0.v).storedAgain ha T.fSupp.slot sen.v).storedAgain ha T.fStack.slot u0.v).storedAgain ha T.fMsg.slot (.ref (W.heap.size + 1))
  obtain ⟨g₁, hfrM⟩ := X5.frames_eq
  have hU : ((((withThrown W Zs text P1.m.cls kX).setVm vm').setCell (W.heap.size + 2) (plainBareV T.toThrowableT (freshCell P1.m.cls kX) (W.heap.size + 2) u0 sen (.ref (W.heap.size + 1)))).setTop g).pushFrame (.throwing (W.heap.size + 2)) = (((withThrown W Zs text P1.m.cls kX).setVm vm').setCell (W.heap.size + 2) (plainBareV T.toThrowableT (freshCell P1.m.cls kX) (W.heap.size + 2) u0 sen (.ref (W.heap.size + 1)))).setFrames (.throwing (W.heap.size + 2) :: .java g :: below) := by
    rw [State.pushFrame, State.frames_setTop _ hfrM, State.setTop_of_frames _ hfrM, State.setFrames_setFrames]
  have b1 : (bytesOf Zs.cB (stringToUtf16 text)).slots.size = (stringBytes (stringToUtf16 text)).size := by
    rw [(Cell.writeAll_facts _ _).2.2]; simp [bytes0]
  have b2 : (stringAt Zs.cS Zs.kS Zs.fv Zs.fc (stringToUtf16 text) W.heap.size).slots.size = 4 := by simp [string0, Cell.setSlot, hn4]
  have b3 : (freshCell P1.m.cls kX).slots.size = 6 := by simp [hn6]
  rw [b1, b2, b3] at X5
  have e9 : slots + (stringBytes (stringToUtf16 text)).size + 4 + 6 = slots + ((stringBytes (stringToUtf16 text)).size + 4 + 6) := by omega
  rw [e9] at X5
  simp only [List.append_assoc, List.cons_append, List.nil_append] at X5
  refine ⟨((withThrown W Zs text P1.m.cls kX).setVm vm').setCell (W.heap.size + 2) (plainBareV T.toThrowableT (freshCell P1.m.cls kX) (W.heap.size + 2) u0 sen (.ref (W.heap.size + 1))), W.heap.size + 2, _, fun target ht => st _ (by rw [X.tail, ← hU]; exact ht),
    X5.forget (fun y hy => ?_), heapAt_setCell_self _ ha, hfound, rfl⟩
  simp only [List.mem_cons, List.not_mem_nil, or_false] at hy
  have hge : s.heap.size ≤ W.heap.size := X.same.2.1
  rcases hy with rfl | rfl | rfl | rfl | rfl <;> exact Nat.le_trans hge (Nat.le_add_right _ 2)
set_option maxHeartbeats 1000000 in
/-- the machine throws NullPointerException, no traces kept: from its note over the frame g to 'throwing' over the same frame (follows the proof of Stand.vmThrowsNpe, Shelf42/KT2.lean; throwsNpeColdBareVAt, Shelf42/NT91.lean, called) -/
theorem vx_npeAt {p : Program} {l : Launch} {e : Env} {R : Room} {s : State} {m₀ : MethodId} {args : Array Value} {below : List Frame} {meth : Method} {c : Code} {W : State} {locs : List Loc} {cells slots : Nat}
    (X : Stand p l e R s m₀ args below meth c W locs cells slots) (hexec : p.tables.exec = Jvm.exec) (htr : e.platform.stackTraces = false) {n : Nat}
    (h : ∀ a ∈ Bundle.npeArmAtoms n, a.before args s = true)
    (hlocs : ∀ x ∈ locs, ∀ cell, s.heap[x.base]? = some cell → cell.vm.isStatics = false)
    {g : JFrame} (hg : g.method = m₀) (hsize : g.locals.size = c.maxLocals)
    (hRframes : 7 < R.frames) (hRlocals : 2 * g.monitorRoom + (g.stack.map fun v => v.category).sum + 10240 ≤ R.locals)
    (hRcells : cells + 1 ≤ R.cells) (hRslots : slots + n ≤ R.slots) (hlocks : meth.locks = false) :
    ∃ (S : State) (q : Addr) (ce : Cell), (∀ target, Steps p.tables e below ((S.setTop g).pushFrame (.throwing q)) target → Steps p.tables e below ((W.setTop g).pushFrame (.throwNew "java/lang/NullPointerException" none none)) target) ∧
      Stand p l e R s m₀ args below meth c S locs (cells + 1) (slots + n) ∧ S.heap[q]? = some ce ∧ s.vm.findClass "java/lang/NullPointerException" = some ce.cls ∧ ce.vm = .none := by
  have howns : e.platform.frameOwnsMonitors = true := by rw [X.admits.platform]
  have hfin : e.platform.finalization = false := by rw [X.admits.platform]
  have hpl : e.platform.magicAccessors = ({} : Platform).magicAccessors := by rw [X.admits.platform]
  have hpl2 : e.platform.arrayCloneIsPublic = true := by rw [X.admits.platform]
  have a' : ∀ x, x ∈ Bundle.npeArmAtoms n → x.holds args s none s [] = true := fun x hx => h x hx
  obtain ⟨T, Z, L, LZ, Y⟩ := ThrowableC.of_atoms (args := args) howns hfin hpl (fun x hx => h x (by simp [Bundle.npeArmAtoms, hx]))
  obtain ⟨N, LN, hcN, hnNF, hordN, hffS⟩ := NpeC.of_atoms (args := args) hpl hpl2 L Y (fun x hx => h x (by simp [Bundle.npeArmAtoms, hx]))
  obtain ⟨P1, L1, hP1m, hP1s⟩ := PassC.of_atoms (args := args) (s := s) hpl (X := Bundle.nN) (Y := Bundle.rN) (by decide) (by decide) LibCode.NullPointerException.Init0.at_0 LibCode.NullPointerException.Init0.at_1 LibCode.NullPointerException.Init0.at_4 (fun x hx => h x (by simp [Bundle.npeArmAtoms, hx]))
  obtain ⟨PR, LR, hPRm, hPRs⟩ := PassC.of_atoms (args := args) (s := s) hpl (X := Bundle.rN) (Y := Bundle.eN) (by decide) (by decide) LibCode.RuntimeException.Init0.at_0 LibCode.RuntimeException.Init0.at_1 LibCode.RuntimeException.Init0.at_4 (fun x hx => h x (by simp [Bundle.npeArmAtoms, hx]))
  obtain ⟨PE, LEx, hPEm, hPEs⟩ := PassC.of_atoms (args := args) (s := s) hpl (X := Bundle.eN) (Y := Bundle.tN) (by decide) (by decide) LibCode.Exception.Init0.at_0 LibCode.Exception.Init0.at_1 LibCode.Exception.Init0.at_4 (fun x hx => h x (by simp [Bundle.npeArmAtoms, hx]))
  have hfound : s.vm.findClass Bundle.nN = some P1.m.cls := findClass_of_methodNamed hP1m
  have ecls : N.cN = P1.m.cls := Option.some.inj (hcN.symm.trans hfound)
  have hk : s.vm.classes[P1.m.cls]? = some N.kN := by rw [← ecls]; exact LN.cls
  have hinit := Cond.initialized_spec hfound hk (a' (.initialized Bundle.nN) (by simp [Bundle.npeArmAtoms]))
  have hctor : N.kN.findMethod "<init>" "()V" = some P1.m.idx := findMethod_of_methodNamed hP1m hk
  obtain ⟨c1, k1, hc1, hk1, -, -, -, hn⟩ := Cond.instantiable_spec (a' (.instantiable Bundle.nN n) (by simp [Bundle.npeArmAtoms]))
  cases Option.some.inj (hc1.symm.trans hfound)
  cases Option.some.inj (hk1.symm.trans hk)
  have hfsz : (freshCell P1.m.cls N.kN).slots.size = n := by simp [hn]
  have hlink1 : P1.sup = PR.m := Option.some.inj (hP1s.symm.trans hPRm)
  have hlinkR : PR.sup = PE.m := Option.some.inj (hPRs.symm.trans hPEm)
  have hlinkE : PE.sup = Z.m T.toThrowableT := Option.some.inj (hPEs.symm.trans Y.init0)
  have hLs : ∀ P, P ∈ [PR, PE] → P.Links0 e.platform s := fun P hP => by
    simp only [List.mem_cons, List.not_mem_nil, or_false] at hP
    rcases hP with rfl | rfl
    · exact LR
    · exact LEx
  have hsel0 : selectMethod e.platform s.vm P1.m.cls T.fill0 = .method T.fill0 := by
    obtain ⟨c2, r2, m2, q1, q2, q3, q4, -⟩ := Cond.selects_spec (a' (.selects Bundle.nN Bundle.tFill0 Bundle.tFill0) (by simp [Bundle.npeArmAtoms]))
    cases Option.some.inj (q1.symm.trans hfound)
    cases Option.some.inj (q2.symm.trans (State.methodFound?_of_named Y.fill0 (by decide)))
    cases Option.some.inj (q3.symm.trans Y.fill0)
    rw [Launch.admits_selectMethod X.admits]; exact q4
  have hselF : selectMethod e.platform s.vm P1.m.cls T.fill = .method N.fill := by
    obtain ⟨c2, r2, m2, q1, q2, q3, q4, -⟩ := Cond.selects_spec (a' (.selects Bundle.nN Bundle.tFill Bundle.nFill) (by simp [Bundle.npeArmAtoms]))
    cases Option.some.inj (q1.symm.trans hfound)
    cases Option.some.inj (q2.symm.trans (State.methodFound?_of_named Y.fill (by decide)))
    cases Option.some.inj (q3.symm.trans hnNF)
    rw [Launch.admits_selectMethod X.admits]; exact q4
  obtain ⟨cellS0, hcS0, hiss⟩ := Y.statics
  obtain ⟨u0, hu0⟩ := Cond.staticRefV Y.unassigned L.unassignedStatic L.statics hcS0 hiss (a' (.isRef (.static Bundle.tN "UNASSIGNED_STACK" Bundle.steD)) (by simp [Bundle.npeArmAtoms]))
  obtain ⟨sen, hsen⟩ := Cond.staticRefV Y.sentinel L.sentinelStatic L.statics hcS0 hiss (a' (.isRef (.static Bundle.tN "SUPPRESSED_SENTINEL" Bundle.listD)) (by simp [Bundle.npeArmAtoms]))
  obtain ⟨ci198, i198, fB, hk198, hg198, ha198, hsB, -, hnB, htB, hffB⟩ := Cond.ownField (t := .object "java/lang/Object") Y.found L.cls (by decide +kernel) (a' (.fieldLink Bundle.tN 198 Bundle.tN "backtrace" Bundle.objD) (by simp [Bundle.npeArmAtoms])) (a' (.lays Bundle.tN Bundle.tN "backtrace" Bundle.objD) (by simp [Bundle.npeArmAtoms])) e.platform hpl
  obtain ⟨cellS, hcS', heS, -, hkeep⟩ := X.same.2.2.2.2.2 T.aS cellS0 hcS0
  have hcellS : W.heap[T.aS]? = some cellS := hcS'
  have hout' : ∀ i, (⟨T.aS, i⟩ : Loc) ∉ locs := fun i hmem => by
    have := hlocs _ hmem cellS0 hcS0
    rw [hiss] at this; cases this
  have hknownS : cellS.vm ≠ .unknown := by
    rw [heS]; intro hu
    rw [show cellS0.vm = .unknown from hu] at hiss
    cases hiss
  have hvU : cellS.slots[T.fUnassigned.slot]? = some u0.v := by rw [hkeep _ (hout' _)]; exact hu0
  have hvSen : cellS.slots[T.fSentinel.slot]? = some sen.v := by rw [hkeep _ (hout' _)]; exact hsen
  obtain ⟨tyC, dC, hdC, hdnC⟩ := Cond.laysAt hfound hk Y.cause (a' (.lays Bundle.nN Bundle.tN "cause" "Ljava/lang/Throwable;") (by simp [Bundle.npeArmAtoms]))
  obtain ⟨tyS, dS, hdS, hdnS⟩ := Cond.laysAt hfound hk Y.stack (a' (.lays Bundle.nN Bundle.tN "stackTrace" Bundle.steD) (by simp [Bundle.npeArmAtoms]))
  obtain ⟨tyP, dP, hdP, hdnP⟩ := Cond.laysAt hfound hk Y.supp (a' (.lays Bundle.nN Bundle.tN "suppressedExceptions" Bundle.listD) (by simp [Bundle.npeArmAtoms]))
  obtain ⟨tyX, dX, hdX, hdnX⟩ := Cond.laysAt hfound hk hffS (a' (.lays Bundle.nN Bundle.nN "extendedMessageState" "I") (by simp [Bundle.npeArmAtoms, Bundle.npeAtoms]))
  obtain ⟨hnX, htX⟩ := State.fieldFound?_type hffS (t := .int) (by decide +kernel)
  have xC := Cond.laysApart hdC hdX hdnC hdnX (by rw [hnX, Y.causeName]; decide)
  have xS := Cond.laysApart hdS hdX hdnS hdnX (by rw [hnX, Y.stackName]; decide)
  have xP := Cond.laysApart hdP hdX hdnP hdnX (by rw [hnX, Y.suppName]; decide)
  have hv0 : (freshCell P1.m.cls N.kN).slots[N.fState.slot]? = some (.int 0) := by
    have := fresh_default (c := P1.m.cls) tyX
    rw [htX] at this; exact this
  obtain ⟨tyB, dB, hdB, hdnB⟩ := Cond.laysAt hfound hk hffB (a' (.lays Bundle.nN Bundle.tN "backtrace" Bundle.objD) (by simp [Bundle.npeArmAtoms]))
  have bC := Cond.laysApart hdB hdC hdnB hdnC (by rw [hnB, Y.causeName]; decide)
  have bS := Cond.laysApart hdB hdS hdnB hdnS (by rw [hnB, Y.stackName]; decide)
  have bP := Cond.laysApart hdB hdP hdnB hdnP (by rw [hnB, Y.suppName]; decide)
  have bX := Cond.laysApart hdB hdX hdnB hdnX (by rw [hnB, hnX]; decide)
  have hbk : ((npeCell N.toNpeT (preparedCellV T.toThrowableT (freshCell P1.m.cls N.kN) W.heap.size u0 sen) W.cur).withEntry W.cur).slots[fB.slot]? = some .null := by
    have := fresh_default (c := P1.m.cls) tyB
    rw [htB] at this
    simpa [npeCell, preparedCellV, Cell.setSlot, Cell.withEntry, Array.getElem?_setIfInBounds, bC, bS, bP, bX, bC.symm, bS.symm, bP.symm, bX.symm, defaultValue] using this
  have tkC := Takes.of_laid (v := .ref W.heap.size) hk hordN tyC (by rw [Y.causeType]; rfl)
  have tkS := Takes.of_laid (v := u0.v) hk hordN tyS (by rw [Y.stackType]; exact fits_refV_array _ u0)
  have tkP := Takes.of_laid (v := sen.v) hk hordN tyP (by rw [Y.suppType]; exact fits_refV_object _ sen)
  have tkX := Takes.of_laid (v := .int 1) hk hordN tyX (by rw [htX]; rfl)
  have hskip : SkipFacts T e.platform s (fun u => u) u0 ((npeCell N.toNpeT (preparedCellV T.toThrowableT (freshCell P1.m.cls N.kN) W.heap.size u0 sen) W.cur).withEntry W.cur) := ⟨{ ci198 := ci198, i198 := i198, fBack := fB }, ⟨hk198, hg198, ha198, hsB⟩, hbk, fun _ _ => rfl⟩
  obtain ⟨vm', X3, st, -⟩ := X.throwsNpeColdBareVAt hexec hg hsize T L Z LZ N LN P1 L1 [PR, PE] hLs hlink1 ⟨hlinkR, hlinkE, trivial⟩ hfound hk hinit hordN hctor hsel0 hselF hcellS hknownS hvU hvSen
    hv0 xC xS xP tkC tkS tkP tkX Y.objLocals hskip (fun _ _ hA hW _ hroom _ hrest => L.nativeOff p htr hA hW hroom hrest) (by simpa using hRframes) hRlocals (by simp) hRcells (by rw [hn]; exact hRslots)
  have hlt : W.heap.size < ((W.pushCell (freshCell P1.m.cls N.kN)).setVm vm').heap.size := by
    show W.heap.size < (W.pushCell (freshCell P1.m.cls N.kN)).heap.size
    rw [State.heap_size_pushCell]; omega
  rw [hfsz] at X3
  obtain ⟨g₁, hfrM⟩ := X3.frames_eq
  have hU : ((((W.pushCell (freshCell P1.m.cls N.kN)).setVm vm').setCell W.heap.size (npeBareV T.toThrowableT N.toNpeT (freshCell P1.m.cls N.kN) W.heap.size u0 sen)).setTop g).pushFrame (.throwing W.heap.size) = (((W.pushCell (freshCell P1.m.cls N.kN)).setVm vm').setCell W.heap.size (npeBareV T.toThrowableT N.toNpeT (freshCell P1.m.cls N.kN) W.heap.size u0 sen)).setFrames (.throwing W.heap.size :: .java g :: below) := by
    rw [State.pushFrame, State.frames_setTop _ hfrM, State.setTop_of_frames _ hfrM, State.setFrames_setFrames]
  refine ⟨_, W.heap.size, _, fun target ht => st.trans (by rw [← hU]; exact ht), X3.forget (fun y hy => ?_), heapAt_setCell_self _ hlt, hfound, rfl⟩
  simp only [List.mem_cons, List.not_mem_nil, or_false] at hy
  have hge : s.heap.size ≤ W.heap.size := X.same.2.1
  rcases hy with rfl | rfl | rfl | rfl | rfl <;> exact hge
/-- the words of a machine's NullPointerException, but the four that speak of the heap -/
def vx_atN (n : Nat) : List Cond := (Bundle.npeArmAtoms n).filter vx_no
/-- the words of a machine's throw with a message, but the four that speak of the heap -/
def vx_atM (X : String) (names : List String) : List Cond := (Bundle.messageArmAtoms X names).filter vx_no
section
variable {p : Program} {l : Launch} {e : Env} {R : Room} {s : State} {m : MethodId} {args : Array Value} {below : List Frame} {meth : Method} {c : Code} {H : Heap} {locs : List Loc} {cells slots : Nat}
/-- a frame seen from a rebased start, seen from the first start again -/
theorem vx_back9 {T S : State} {R' : Room} {k n : Nat} (X : Stand p l e R s m args below meth c T locs cells slots) (Y : Stand p l e R' ((T.setVm s.vm).setFrames (.invoking m args :: below)) m args below meth c T [] 0 0) (Z : Stand p l e R' ((T.setVm s.vm).setFrames (.invoking m args :: below)) m args below meth c S [] k n) :
    Stand p l e R s m args below meth c S locs (cells + k) (slots + n) := by
  have hW0 : s.WarmedH ((T.setVm s.vm).setFrames (.invoking m args :: below)).vm := State.WarmedH.refl s
  refine { admits := X.admits, cas := X.cas, clock := X.clock, frames := X.frames, room := X.room, hears := X.hears, method := X.method, code := X.code, here := Z.here, tail := Z.tail, warmed := State.WarmedH.trans hW0 Z.warmed, limits := Z.limits.trans (Y.limits.symm.trans X.limits), bytes := Z.bytes.trans (Y.bytes.symm.trans X.bytes), same := ?_ }
  obtain ⟨e1, e2⟩ := Z.same
  rw [State.setFrames_setFrames] at e1
  have h2 : (T.setVm s.vm).sameButNew (S.setVm s.vm) [] k n := ⟨e1, e2⟩
  have h3 := X.same.trans h2
  rw [List.append_nil] at h3
  exact h3
/-- from the machine's note that E is thrown here with this text -/
def vx_Note (p : Program) (l : Launch) (e : Env) (R : Room) (s : State) (m : MethodId) (args : Array Value) (below : List Frame) (meth : Method) (c : Code) (H : Heap) (locs : List Loc) (cells slots : Nat) (Q : State → Prop) (g : JFrame) (E text : String) : Prop :=
  ∀ T : State, T.heap = H → Stand p l e R s m args below meth c T locs cells slots → ∃ t, Steps p.tables e below ((T.setTop g).pushFrame (.throwNew E (some text) none)) t ∧ Q t
theorem vx_vm {pc : Nat} {ls : Array Slot} {rest : List Value} {Q : State → Prop} (hexec : p.tables.exec = Jvm.exec) (hl : l.stackTraces = false) {cls text : String} {names : List String} {nb : Nat} {A : Nat → Prop}
    (hcls : Bundle.fit cls = true) (hnames : ∀ n ∈ names, Bundle.fit n = true) (hsoe : (cls == "java/lang/StackOverflowError") = false) (hoom : (cls == "java/lang/OutOfMemoryError") = false)
    (hat : ∀ w ∈ vx_atM cls names, w.before args s = true) (hgood : ∀ w ∈ vx_atM cls names, vx_ot w = true)
    (hU : vx_Zq Bundle.tN "UNASSIGNED_STACK" Bundle.steD A s s.heap) (hN : vx_Zq Bundle.tN "SUPPRESSED_SENTINEL" Bundle.listD A s s.heap) (hS : va_S A s.heap H locs) (hsize : ls.size = c.maxLocals)
    (htext : (text == notModelled) = false) (hnb : (stringBytes (stringToUtf16 text)).size ≤ nb) (hnb1 : nb ≤ 1000)
    (hRframes : names.length + 4 < R.frames) (hRlocals : (rest.map fun v => v.category).sum + 10240 ≤ R.locals) (hshort : 13 * names.length + 55 ≤ 10240) (hRcells : cells + 3 ≤ R.cells) (hRslots : slots + (nb + 10) ≤ R.slots) (hlocks : meth.locks = false)
    (k : ∀ (H1 : Heap) (q9 : Addr) (ce : Cell), H.size ≤ H1.size → (∀ q : Nat, q < H.size → H1[q]? = H[q]?) → va_S A s.heap H1 locs → H1[q9]? = some ce → ce.vm = .none → s.vm.findClass cls = some ce.cls → vx_W p l e R s m args below meth c H1 locs (cells + 3) (slots + (nb + 10)) Q (F0 m pc ls rest) q9) :
    vx_Note p l e R s m args below meth c H locs cells slots Q (F0 m pc ls rest) cls text := by
  intro T hT X
  have htr : e.platform.stackTraces = false := (show e.platform.stackTraces = l.stackTraces by rw [X.admits.platform]).trans hl
  have Y := vx_rebase X (R' := { frames := R.frames, locals := R.locals, cells := 3, slots := nb + 10 }) (Nat.le_refl _) (Nat.le_refl _) hRcells hRslots
  have hhp : ((T.setVm s.vm).setFrames (.invoking m args :: below)).heap = H := hT
  have hW0 : s.WarmedH ((T.setVm s.vm).setFrames (.invoking m args :: below)).vm := State.WarmedH.refl s
  have hat' : ∀ w ∈ vx_atM cls names, w.before args ((T.setVm s.vm).setFrames (.invoking m args :: below)) = true := fun w hw => vx_ot_at hW0 rfl (hgood w hw) (hat w hw)
  have hU' : vx_Zq Bundle.tN "UNASSIGNED_STACK" Bundle.steD A ((T.setVm s.vm).setFrames (.invoking m args :: below)) ((T.setVm s.vm).setFrames (.invoking m args :: below)).heap := by rw [hhp]; exact vx_Zq.moved hW0.alike (hU.kept hS.2.1)
  have hN' : vx_Zq Bundle.tN "SUPPRESSED_SENTINEL" Bundle.listD A ((T.setVm s.vm).setFrames (.invoking m args :: below)) ((T.setVm s.vm).setFrames (.invoking m args :: below)).heap := by rw [hhp]; exact vx_Zq.moved hW0.alike (hN.kept hS.2.1)
  obtain ⟨S, q, ce, st, Z, hce, hcl', hv⟩ := vx_vmAt Y hexec htr (cls := cls) (names := names) (text := text) hcls hnames hsoe hoom (vx_own hat' (vx_isRefq hU'.1) (vx_isRefq hN'.1) hU'.2.word hN'.2.word) (fun x hx => nomatch hx) htext
    (by rw [Launch.admits_arrayLengthLimit X.admits]; omega) (by rw [Launch.admits_maxHeapBytes X.admits]; simp only [componentBytes]; omega)
    (g := F0 m pc ls rest) rfl hsize hRframes (by show 2 * 0 + (rest.map fun v => v.category).sum + 10240 ≤ R.locals; omega) hshort (by show 0 + 3 ≤ 3; omega) (by show 0 + (_ + 4 + 6) ≤ nb + 10; omega) hlocks
  obtain ⟨f1, f2⟩ := vx_frame Z.same
  have f1' : H.size ≤ S.heap.size := by rw [← hT]; exact f1
  have f2' : ∀ q : Nat, q < H.size → S.heap[q]? = H[q]? := fun q hq => by
    rw [← hT]
    exact f2 q (by rw [← hT] at hq; exact hq) (fun z hz => nomatch hz)
  have X5 := vx_back9 X Y Z
  have X6 : Stand p l e R s m args below meth c S locs (cells + 3) (slots + (nb + 10)) := { X5 with same := X5.same.mono (by omega) (by omega) }
  obtain ⟨t, a1, b1⟩ := k S.heap q ce f1' f2' ⟨Nat.le_trans hS.1 f1', fun q h1 h2 => (f2' q (Nat.lt_of_lt_of_le h1 hS.1)).trans (hS.2.1 q h1 h2), hS.2.2⟩ hce hv hcl' S rfl X6
  exact ⟨t, st t a1, b1⟩
/-- from the machine's note that NullPointerException is thrown here -/
def vx_NoteN (p : Program) (l : Launch) (e : Env) (R : Room) (s : State) (m : MethodId) (args : Array Value) (below : List Frame) (meth : Method) (c : Code) (H : Heap) (locs : List Loc) (cells slots : Nat) (Q : State → Prop) (g : JFrame) : Prop :=
  ∀ T : State, T.heap = H → Stand p l e R s m args below meth c T locs cells slots → ∃ t, Steps p.tables e below ((T.setTop g).pushFrame (.throwNew "java/lang/NullPointerException" none none)) t ∧ Q t
theorem vx_npe {pc : Nat} {ls : Array Slot} {rest : List Value} {Q : State → Prop} (hexec : p.tables.exec = Jvm.exec) (hl : l.stackTraces = false) {nb : Nat} {A : Nat → Prop}
    (hat : ∀ w ∈ vx_atN nb, w.before args s = true) (hgood : ∀ w ∈ vx_atN nb, vx_ot w = true)
    (hU : vx_Zq Bundle.tN "UNASSIGNED_STACK" Bundle.steD A s s.heap) (hN : vx_Zq Bundle.tN "SUPPRESSED_SENTINEL" Bundle.listD A s s.heap) (hS : va_S A s.heap H locs) (hsize : ls.size = c.maxLocals)
    (hRframes : 7 < R.frames) (hRlocals : (rest.map fun v => v.category).sum + 10240 ≤ R.locals) (hRcells : cells + 1 ≤ R.cells) (hRslots : slots + nb ≤ R.slots) (hlocks : meth.locks = false)
    (k : ∀ (H1 : Heap) (q9 : Addr) (ce : Cell), H.size ≤ H1.size → (∀ q : Nat, q < H.size → H1[q]? = H[q]?) → va_S A s.heap H1 locs → H1[q9]? = some ce → ce.vm = .none → s.vm.findClass "java/lang/NullPointerException" = some ce.cls → vx_W p l e R s m args below meth c H1 locs (cells + 1) (slots + nb) Q (F0 m pc ls rest) q9) :
    vx_NoteN p l e R s m args below meth c H locs cells slots Q (F0 m pc ls rest) := by
  intro T hT X
  have htr : e.platform.stackTraces = false := (show e.platform.stackTraces = l.stackTraces by rw [X.admits.platform]).trans hl
  have Y := vx_rebase X (R' := { frames := R.frames, locals := R.locals, cells := 1, slots := nb }) (Nat.le_refl _) (Nat.le_refl _) hRcells hRslots
  have hhp : ((T.setVm s.vm).setFrames (.invoking m args :: below)).heap = H := hT
  have hW0 : s.WarmedH ((T.setVm s.vm).setFrames (.invoking m args :: below)).vm := State.WarmedH.refl s
  have hat' : ∀ w ∈ vx_atN nb, w.before args ((T.setVm s.vm).setFrames (.invoking m args :: below)) = true := fun w hw => vx_ot_at hW0 rfl (hgood w hw) (hat w hw)
  have hU' : vx_Zq Bundle.tN "UNASSIGNED_STACK" Bundle.steD A ((T.setVm s.vm).setFrames (.invoking m args :: below)) ((T.setVm s.vm).setFrames (.invoking m args :: below)).heap := by rw [hhp]; exact vx_Zq.moved hW0.alike (hU.kept hS.2.1)
  have hN' : vx_Zq Bundle.tN "SUPPRESSED_SENTINEL" Bundle.listD A ((T.setVm s.vm).setFrames (.invoking m args :: below)) ((T.setVm s.vm).setFrames (.invoking m args :: below)).heap := by rw [hhp]; exact vx_Zq.moved hW0.alike (hN.kept hS.2.1)
  obtain ⟨S, q, ce, st, Z, hce, hcl', hv⟩ := vx_npeAt Y hexec htr (n := nb) (vx_own hat' (vx_isRefq hU'.1) (vx_isRefq hN'.1) hU'.2.word hN'.2.word) (fun x hx => nomatch hx)
    (g := F0 m pc ls rest) rfl hsize hRframes (by show 2 * 0 + (rest.map fun v => v.category).sum + 10240 ≤ R.locals; omega) (by show 0 + 1 ≤ 1; omega) (by show 0 + nb ≤ nb; omega) hlocks
  obtain ⟨f1, f2⟩ := vx_frame Z.same
  have f1' : H.size ≤ S.heap.size := by rw [← hT]; exact f1
  have f2' : ∀ q : Nat, q < H.size → S.heap[q]? = H[q]? := fun q hq => by
    rw [← hT]
    exact f2 q (by rw [← hT] at hq; exact hq) (fun z hz => nomatch hz)
  have X5 := vx_back9 X Y Z
  have X6 : Stand p l e R s m args below meth c S locs (cells + 1) (slots + nb) := { X5 with same := X5.same.mono (by omega) (by omega) }
  obtain ⟨t, a1, b1⟩ := k S.heap q ce f1' f2' ⟨Nat.le_trans hS.1 f1', fun q h1 h2 => (f2' q (Nat.lt_of_lt_of_le h1 hS.1)).trans (hS.2.1 q h1 h2), hS.2.2⟩ hce hv hcl' S rfl X6
  exact ⟨t, st t a1, b1⟩
variable {Q : State → Prop} {cc : ByteArray} {pc : Nat} {ls : Array Slot} {rest : List Value}
theorem vx_idivZ (hexec : p.tables.exec = Jvm.exec) (hb : c.code = cc) {a b : Int32} (h0 : b = 0) (d : decode cc pc = .ok (.idiv, 1)) (k : vx_Note p l e R s m args below meth c H locs cells slots Q (F0 m pc ls rest) "java/lang/ArithmeticException" "/ by zero") :
    W p l e R s m args below meth c H locs cells slots Q (F0 m pc ls (.int b :: .int a :: rest)) := by
  intro T hT X
  obtain ⟨t, st, q⟩ := k T hT X
  exact ⟨t, X.idivZero hexec (g := F0 m pc ls (.int b :: .int a :: rest)) rfl (a := a) (rest := rest) (by rw [h0]) (by rw [hb]; exact d) t st, q⟩
theorem vx_iremZ (hexec : p.tables.exec = Jvm.exec) (hb : c.code = cc) {a b : Int32} (h0 : b = 0) (d : decode cc pc = .ok (.irem, 1)) (k : vx_Note p l e R s m args below meth c H locs cells slots Q (F0 m pc ls rest) "java/lang/ArithmeticException" "/ by zero") :
    W p l e R s m args below meth c H locs cells slots Q (F0 m pc ls (.int b :: .int a :: rest)) := by
  intro T hT X
  obtain ⟨t, st, q⟩ := k T hT X
  exact ⟨t, X.iremZero hexec (g := F0 m pc ls (.int b :: .int a :: rest)) rfl (a := a) (rest := rest) (by rw [h0]) (by rw [hb]; exact d) t st, q⟩
theorem vx_ldivZ (hexec : p.tables.exec = Jvm.exec) (hb : c.code = cc) {a b : Int64} (h0 : b = 0) (d : decode cc pc = .ok (.ldiv, 1)) (k : vx_Note p l e R s m args below meth c H locs cells slots Q (F0 m pc ls rest) "java/lang/ArithmeticException" "/ by zero") :
    W p l e R s m args below meth c H locs cells slots Q (F0 m pc ls (.long b :: .long a :: rest)) := by
  intro T hT X
  obtain ⟨t, st, q⟩ := k T hT X
  exact ⟨t, X.ldivZero hexec (g := F0 m pc ls (.long b :: .long a :: rest)) rfl (a := a) (rest := rest) (by rw [h0]) (by rw [hb]; exact d) t st, q⟩
theorem vx_lremZ (hexec : p.tables.exec = Jvm.exec) (hb : c.code = cc) {a b : Int64} (h0 : b = 0) (d : decode cc pc = .ok (.lrem, 1)) (k : vx_Note p l e R s m args below meth c H locs cells slots Q (F0 m pc ls rest) "java/lang/ArithmeticException" "/ by zero") :
    W p l e R s m args below meth c H locs cells slots Q (F0 m pc ls (.long b :: .long a :: rest)) := by
  intro T hT X
  obtain ⟨t, st, q⟩ := k T hT X
  exact ⟨t, X.lremZero hexec (g := F0 m pc ls (.long b :: .long a :: rest)) rfl (a := a) (rest := rest) (by rw [h0]) (by rw [hb]; exact d) t st, q⟩
theorem vx_ialdZ {D : va_G} {cl : List vw_C} {ws : va_W} {tys : List (ClassId × FieldType)} {a : Nat} (hexec : p.tables.exec = Jvm.exec) (hb : c.code = cc) (hK : va_K D cl tys s) (hP : va_P D cl ws H) (q0 t0 : Nat) {cA : ClassId} {n : Nat} {f : Nat → Int32} (ha : ws[q0]? = some (a, .inl (cA, n, .inl f))) (ht : tys[t0]? = some (cA, .int)) {i : Int32} (hout : ¬ vp_in i n) (hdg : decode cc pc = .ok (.iaload, 1))
    (k : ∀ tx : String, tx = (toString "Index " ++ toString i ++ toString " out of bounds for length " ++ toString n : String) → vx_Note p l e R s m args below meth c H locs cells slots Q (F0 m pc ls rest) "java/lang/ArrayIndexOutOfBoundsException" tx) : W p l e R s m args below meth c H locs cells slots Q (F0 m pc ls (.int i :: .ref a :: rest)) := by
  intro T hT X
  obtain ⟨t, st, q⟩ := k _ rfl T hT X
  refine ⟨t, ?_, q⟩
  have h1 := X.ialoadOut hexec (by rw [hT]; exact hP q0 _ ha) ((hK.2 t0 _ ht).1 n (fun j => .int (f j))) (j := i) (by show (i < 0 ∨ (arrV _ _ _).slots.size ≤ _); rw [arrV_size]; exact Classical.byContradiction hout) (g := F0 m pc ls (.int i :: .ref a :: rest)) rfl (rest := rest) rfl (by rw [hb]; exact hdg) t
  simp only [arrV_size] at h1
  exact h1 st
theorem vx_iastZ {D : va_G} {cl : List vw_C} {ws : va_W} {tys : List (ClassId × FieldType)} {a : Nat} (hexec : p.tables.exec = Jvm.exec) (hb : c.code = cc) (hK : va_K D cl tys s) (hP : va_P D cl ws H) (q0 t0 : Nat) {cA : ClassId} {n : Nat} {f : Nat → Int32} (ha : ws[q0]? = some (a, .inl (cA, n, .inl f))) (ht : tys[t0]? = some (cA, .int)) {i : Int32} {x : Int32} (hout : ¬ vp_in i n) (hdg : decode cc pc = .ok (.iastore, 1))
    (k : ∀ tx : String, tx = (toString "Index " ++ toString i ++ toString " out of bounds for length " ++ toString n : String) → vx_Note p l e R s m args below meth c H locs cells slots Q (F0 m pc ls rest) "java/lang/ArrayIndexOutOfBoundsException" tx) : W p l e R s m args below meth c H locs cells slots Q (F0 m pc ls (.int x :: .int i :: .ref a :: rest)) := by
  intro T hT X
  obtain ⟨t, st, q⟩ := k _ rfl T hT X
  refine ⟨t, ?_, q⟩
  have h1 := X.iastoreOut hexec (by rw [hT]; exact hP q0 _ ha) ((hK.2 t0 _ ht).1 n (fun j => .int (f j))) (j := i) (by show (i < 0 ∨ (arrV _ _ _).slots.size ≤ _); rw [arrV_size]; exact Classical.byContradiction hout) (g := F0 m pc ls (.int x :: .int i :: .ref a :: rest)) rfl (rest := rest) rfl (by rw [hb]; exact hdg) t
  simp only [arrV_size] at h1
  exact h1 st
theorem vx_baldZ {D : va_G} {cl : List vw_C} {ws : va_W} {tys : List (ClassId × FieldType)} {a : Nat} (hexec : p.tables.exec = Jvm.exec) (hb : c.code = cc) (hK : va_K D cl tys s) (hP : va_P D cl ws H) (q0 t0 : Nat) {cA : ClassId} {n : Nat} {f : Nat → Int32} (ha : ws[q0]? = some (a, .inl (cA, n, .inl f))) (ht : tys[t0]? = some (cA, .byte)) {i : Int32} (hout : ¬ vp_in i n) (hdg : decode cc pc = .ok (.baload, 1))
    (k : ∀ tx : String, tx = (toString "Index " ++ toString i ++ toString " out of bounds for length " ++ toString n : String) → vx_Note p l e R s m args below meth c H locs cells slots Q (F0 m pc ls rest) "java/lang/ArrayIndexOutOfBoundsException" tx) : W p l e R s m args below meth c H locs cells slots Q (F0 m pc ls (.int i :: .ref a :: rest)) := by
  intro T hT X
  obtain ⟨t, st, q⟩ := k _ rfl T hT X
  refine ⟨t, ?_, q⟩
  have h1 := X.baloadOut hexec (by rw [hT]; exact hP q0 _ ha) ((hK.2 t0 _ ht).1 n (fun j => .int (f j))) (j := i) (by show (i < 0 ∨ (arrV _ _ _).slots.size ≤ _); rw [arrV_size]; exact Classical.byContradiction hout) (g := F0 m pc ls (.int i :: .ref a :: rest)) rfl (rest := rest) rfl (by rw [hb]; exact hdg) t
  simp only [arrV_size] at h1
  exact h1 st
theorem vx_bastZ {D : va_G} {cl : List vw_C} {ws : va_W} {tys : List (ClassId × FieldType)} {a : Nat} (hexec : p.tables.exec = Jvm.exec) (hb : c.code = cc) (hK : va_K D cl tys s) (hP : va_P D cl ws H) (q0 t0 : Nat) {cA : ClassId} {n : Nat} {f : Nat → Int32} (ha : ws[q0]? = some (a, .inl (cA, n, .inl f))) (ht : tys[t0]? = some (cA, .byte)) {i : Int32} {x : Int32} (hout : ¬ vp_in i n) (hdg : decode cc pc = .ok (.bastore, 1))
    (k : ∀ tx : String, tx = (toString "Index " ++ toString i ++ toString " out of bounds for length " ++ toString n : String) → vx_Note p l e R s m args below meth c H locs cells slots Q (F0 m pc ls rest) "java/lang/ArrayIndexOutOfBoundsException" tx) : W p l e R s m args below meth c H locs cells slots Q (F0 m pc ls (.int x :: .int i :: .ref a :: rest)) := by
  intro T hT X
  obtain ⟨t, st, q⟩ := k _ rfl T hT X
  refine ⟨t, ?_, q⟩
  have h1 := X.bastoreOut hexec (by rw [hT]; exact hP q0 _ ha) ((hK.2 t0 _ ht).1 n (fun j => .int (f j))) (j := i) (by show (i < 0 ∨ (arrV _ _ _).slots.size ≤ _); rw [arrV_size]; exact Classical.byContradiction hout) (g := F0 m pc ls (.int x :: .int i :: .ref a :: rest)) rfl (rest := rest) rfl (by rw [hb]; exact hdg) t
  simp only [arrV_size] at h1
  exact h1 st
theorem vx_zaldZ {D : va_G} {cl : List vw_C} {ws : va_W} {tys : List (ClassId × FieldType)} {a : Nat} (hexec : p.tables.exec = Jvm.exec) (hb : c.code = cc) (hK : va_K D cl tys s) (hP : va_P D cl ws H) (q0 t0 : Nat) {cA : ClassId} {n : Nat} {f : Nat → Int32} (ha : ws[q0]? = some (a, .inl (cA, n, .inl f))) (ht : tys[t0]? = some (cA, .boolean)) {i : Int32} (hout : ¬ vp_in i n) (hdg : decode cc pc = .ok (.baload, 1))
    (k : ∀ tx : String, tx = (toString "Index " ++ toString i ++ toString " out of bounds for length " ++ toString n : String) → vx_Note p l e R s m args below meth c H locs cells slots Q (F0 m pc ls rest) "java/lang/ArrayIndexOutOfBoundsException" tx) : W p l e R s m args below meth c H locs cells slots Q (F0 m pc ls (.int i :: .ref a :: rest)) := by
  intro T hT X
  obtain ⟨t, st, q⟩ := k _ rfl T hT X
  refine ⟨t, ?_, q⟩
  have h1 := X.baloadOut hexec (by rw [hT]; exact hP q0 _ ha) ((hK.2 t0 _ ht).1 n (fun j => .int (f j))) (j := i) (by show (i < 0 ∨ (arrV _ _ _).slots.size ≤ _); rw [arrV_size]; exact Classical.byContradiction hout) (g := F0 m pc ls (.int i :: .ref a :: rest)) rfl (rest := rest) rfl (by rw [hb]; exact hdg) t
  simp only [arrV_size] at h1
  exact h1 st
theorem vx_zastZ {D : va_G} {cl : List vw_C} {ws : va_W} {tys : List (ClassId × FieldType)} {a : Nat} (hexec : p.tables.exec = Jvm.exec) (hb : c.code = cc) (hK : va_K D cl tys s) (hP : va_P D cl ws H) (q0 t0 : Nat) {cA : ClassId} {n : Nat} {f : Nat → Int32} (ha : ws[q0]? = some (a, .inl (cA, n, .inl f))) (ht : tys[t0]? = some (cA, .boolean)) {i : Int32} {x : Int32} (hout : ¬ vp_in i n) (hdg : decode cc pc = .ok (.bastore, 1))
    (k : ∀ tx : String, tx = (toString "Index " ++ toString i ++ toString " out of bounds for length " ++ toString n : String) → vx_Note p l e R s m args below meth c H locs cells slots Q (F0 m pc ls rest) "java/lang/ArrayIndexOutOfBoundsException" tx) : W p l e R s m args below meth c H locs cells slots Q (F0 m pc ls (.int x :: .int i :: .ref a :: rest)) := by
  intro T hT X
  obtain ⟨t, st, q⟩ := k _ rfl T hT X
  refine ⟨t, ?_, q⟩
  have h1 := X.bastoreOut hexec (by rw [hT]; exact hP q0 _ ha) ((hK.2 t0 _ ht).1 n (fun j => .int (f j))) (j := i) (by show (i < 0 ∨ (arrV _ _ _).slots.size ≤ _); rw [arrV_size]; exact Classical.byContradiction hout) (g := F0 m pc ls (.int x :: .int i :: .ref a :: rest)) rfl (rest := rest) rfl (by rw [hb]; exact hdg) t
  simp only [arrV_size] at h1
  exact h1 st
theorem vx_caldZ {D : va_G} {cl : List vw_C} {ws : va_W} {tys : List (ClassId × FieldType)} {a : Nat} (hexec : p.tables.exec = Jvm.exec) (hb : c.code = cc) (hK : va_K D cl tys s) (hP : va_P D cl ws H) (q0 t0 : Nat) {cA : ClassId} {n : Nat} {f : Nat → Int32} (ha : ws[q0]? = some (a, .inl (cA, n, .inl f))) (ht : tys[t0]? = some (cA, .char)) {i : Int32} (hout : ¬ vp_in i n) (hdg : decode cc pc = .ok (.caload, 1))
    (k : ∀ tx : String, tx = (toString "Index " ++ toString i ++ toString " out of bounds for length " ++ toString n : String) → vx_Note p l e R s m args below meth c H locs cells slots Q (F0 m pc ls rest) "java/lang/ArrayIndexOutOfBoundsException" tx) : W p l e R s m args below meth c H locs cells slots Q (F0 m pc ls (.int i :: .ref a :: rest)) := by
  intro T hT X
  obtain ⟨t, st, q⟩ := k _ rfl T hT X
  refine ⟨t, ?_, q⟩
  have h1 := X.caloadOut hexec (by rw [hT]; exact hP q0 _ ha) ((hK.2 t0 _ ht).1 n (fun j => .int (f j))) (j := i) (by show (i < 0 ∨ (arrV _ _ _).slots.size ≤ _); rw [arrV_size]; exact Classical.byContradiction hout) (g := F0 m pc ls (.int i :: .ref a :: rest)) rfl (rest := rest) rfl (by rw [hb]; exact hdg) t
  simp only [arrV_size] at h1
  exact h1 st
theorem vx_castZ {D : va_G} {cl : List vw_C} {ws : va_W} {tys : List (ClassId × FieldType)} {a : Nat} (hexec : p.tables.exec = Jvm.exec) (hb : c.code = cc) (hK : va_K D cl tys s) (hP : va_P D cl ws H) (q0 t0 : Nat) {cA : ClassId} {n : Nat} {f : Nat → Int32} (ha : ws[q0]? = some (a, .inl (cA, n, .inl f))) (ht : tys[t0]? = some (cA, .char)) {i : Int32} {x : Int32} (hout : ¬ vp_in i n) (hdg : decode cc pc = .ok (.castore, 1))
    (k : ∀ tx : String, tx = (toString "Index " ++ toString i ++ toString " out of bounds for length " ++ toString n : String) → vx_Note p l e R s m args below meth c H locs cells slots Q (F0 m pc ls rest) "java/lang/ArrayIndexOutOfBoundsException" tx) : W p l e R s m args below meth c H locs cells slots Q (F0 m pc ls (.int x :: .int i :: .ref a :: rest)) := by
  intro T hT X
  obtain ⟨t, st, q⟩ := k _ rfl T hT X
  refine ⟨t, ?_, q⟩
  have h1 := X.castoreOut hexec (by rw [hT]; exact hP q0 _ ha) ((hK.2 t0 _ ht).1 n (fun j => .int (f j))) (j := i) (by show (i < 0 ∨ (arrV _ _ _).slots.size ≤ _); rw [arrV_size]; exact Classical.byContradiction hout) (g := F0 m pc ls (.int x :: .int i :: .ref a :: rest)) rfl (rest := rest) rfl (by rw [hb]; exact hdg) t
  simp only [arrV_size] at h1
  exact h1 st
theorem vx_saldZ {D : va_G} {cl : List vw_C} {ws : va_W} {tys : List (ClassId × FieldType)} {a : Nat} (hexec : p.tables.exec = Jvm.exec) (hb : c.code = cc) (hK : va_K D cl tys s) (hP : va_P D cl ws H) (q0 t0 : Nat) {cA : ClassId} {n : Nat} {f : Nat → Int32} (ha : ws[q0]? = some (a, .inl (cA, n, .inl f))) (ht : tys[t0]? = some (cA, .short)) {i : Int32} (hout : ¬ vp_in i n) (hdg : decode cc pc = .ok (.saload, 1))
    (k : ∀ tx : String, tx = (toString "Index " ++ toString i ++ toString " out of bounds for length " ++ toString n : String) → vx_Note p l e R s m args below meth c H locs cells slots Q (F0 m pc ls rest) "java/lang/ArrayIndexOutOfBoundsException" tx) : W p l e R s m args below meth c H locs cells slots Q (F0 m pc ls (.int i :: .ref a :: rest)) := by
  intro T hT X
  obtain ⟨t, st, q⟩ := k _ rfl T hT X
  refine ⟨t, ?_, q⟩
  have h1 := X.saloadOut hexec (by rw [hT]; exact hP q0 _ ha) ((hK.2 t0 _ ht).1 n (fun j => .int (f j))) (j := i) (by show (i < 0 ∨ (arrV _ _ _).slots.size ≤ _); rw [arrV_size]; exact Classical.byContradiction hout) (g := F0 m pc ls (.int i :: .ref a :: rest)) rfl (rest := rest) rfl (by rw [hb]; exact hdg) t
  simp only [arrV_size] at h1
  exact h1 st
theorem vx_sastZ {D : va_G} {cl : List vw_C} {ws : va_W} {tys : List (ClassId × FieldType)} {a : Nat} (hexec : p.tables.exec = Jvm.exec) (hb : c.code = cc) (hK : va_K D cl tys s) (hP : va_P D cl ws H) (q0 t0 : Nat) {cA : ClassId} {n : Nat} {f : Nat → Int32} (ha : ws[q0]? = some (a, .inl (cA, n, .inl f))) (ht : tys[t0]? = some (cA, .short)) {i : Int32} {x : Int32} (hout : ¬ vp_in i n) (hdg : decode cc pc = .ok (.sastore, 1))
    (k : ∀ tx : String, tx = (toString "Index " ++ toString i ++ toString " out of bounds for length " ++ toString n : String) → vx_Note p l e R s m args below meth c H locs cells slots Q (F0 m pc ls rest) "java/lang/ArrayIndexOutOfBoundsException" tx) : W p l e R s m args below meth c H locs cells slots Q (F0 m pc ls (.int x :: .int i :: .ref a :: rest)) := by
  intro T hT X
  obtain ⟨t, st, q⟩ := k _ rfl T hT X
  refine ⟨t, ?_, q⟩
  have h1 := X.sastoreOut hexec (by rw [hT]; exact hP q0 _ ha) ((hK.2 t0 _ ht).1 n (fun j => .int (f j))) (j := i) (by show (i < 0 ∨ (arrV _ _ _).slots.size ≤ _); rw [arrV_size]; exact Classical.byContradiction hout) (g := F0 m pc ls (.int x :: .int i :: .ref a :: rest)) rfl (rest := rest) rfl (by rw [hb]; exact hdg) t
  simp only [arrV_size] at h1
  exact h1 st
theorem vx_laldZ {D : va_G} {cl : List vw_C} {ws : va_W} {tys : List (ClassId × FieldType)} {a : Nat} (hexec : p.tables.exec = Jvm.exec) (hb : c.code = cc) (hK : va_K D cl tys s) (hP : va_P D cl ws H) (q0 t0 : Nat) {cA : ClassId} {n : Nat} {f : Nat → Int64} (ha : ws[q0]? = some (a, .inl (cA, n, .inr (.inl f)))) (ht : tys[t0]? = some (cA, .long)) {i : Int32} (hout : ¬ vp_in i n) (hdg : decode cc pc = .ok (.laload, 1))
    (k : ∀ tx : String, tx = (toString "Index " ++ toString i ++ toString " out of bounds for length " ++ toString n : String) → vx_Note p l e R s m args below meth c H locs cells slots Q (F0 m pc ls rest) "java/lang/ArrayIndexOutOfBoundsException" tx) : W p l e R s m args below meth c H locs cells slots Q (F0 m pc ls (.int i :: .ref a :: rest)) := by
  intro T hT X
  obtain ⟨t, st, q⟩ := k _ rfl T hT X
  refine ⟨t, ?_, q⟩
  have h1 := X.laloadOut hexec (by rw [hT]; exact hP q0 _ ha) ((hK.2 t0 _ ht).1 n (fun j => .long (f j))) (j := i) (by show (i < 0 ∨ (arrV _ _ _).slots.size ≤ _); rw [arrV_size]; exact Classical.byContradiction hout) (g := F0 m pc ls (.int i :: .ref a :: rest)) rfl (rest := rest) rfl (by rw [hb]; exact hdg) t
  simp only [arrV_size] at h1
  exact h1 st
theorem vx_lastZ {D : va_G} {cl : List vw_C} {ws : va_W} {tys : List (ClassId × FieldType)} {a : Nat} (hexec : p.tables.exec = Jvm.exec) (hb : c.code = cc) (hK : va_K D cl tys s) (hP : va_P D cl ws H) (q0 t0 : Nat) {cA : ClassId} {n : Nat} {f : Nat → Int64} (ha : ws[q0]? = some (a, .inl (cA, n, .inr (.inl f)))) (ht : tys[t0]? = some (cA, .long)) {i : Int32} {x : Int64} (hout : ¬ vp_in i n) (hdg : decode cc pc = .ok (.lastore, 1))
    (k : ∀ tx : String, tx = (toString "Index " ++ toString i ++ toString " out of bounds for length " ++ toString n : String) → vx_Note p l e R s m args below meth c H locs cells slots Q (F0 m pc ls rest) "java/lang/ArrayIndexOutOfBoundsException" tx) : W p l e R s m args below meth c H locs cells slots Q (F0 m pc ls (.long x :: .int i :: .ref a :: rest)) := by
  intro T hT X
  obtain ⟨t, st, q⟩ := k _ rfl T hT X
  refine ⟨t, ?_, q⟩
  have h1 := X.lastoreOut hexec (by rw [hT]; exact hP q0 _ ha) ((hK.2 t0 _ ht).1 n (fun j => .long (f j))) (j := i) (by show (i < 0 ∨ (arrV _ _ _).slots.size ≤ _); rw [arrV_size]; exact Classical.byContradiction hout) (g := F0 m pc ls (.long x :: .int i :: .ref a :: rest)) rfl (rest := rest) rfl (by rw [hb]; exact hdg) t
  simp only [arrV_size] at h1
  exact h1 st
theorem vx_faldZ {D : va_G} {cl : List vw_C} {ws : va_W} {tys : List (ClassId × FieldType)} {a : Nat} (hexec : p.tables.exec = Jvm.exec) (hb : c.code = cc) (hK : va_K D cl tys s) (hP : va_P D cl ws H) (q0 t0 : Nat) {cA : ClassId} {n : Nat} {f : Nat → UInt32} (ha : ws[q0]? = some (a, .inl (cA, n, .inr (.inr (.inl f))))) (ht : tys[t0]? = some (cA, .float)) {i : Int32} (hout : ¬ vp_in i n) (hdg : decode cc pc = .ok (.faload, 1))
    (k : ∀ tx : String, tx = (toString "Index " ++ toString i ++ toString " out of bounds for length " ++ toString n : String) → vx_Note p l e R s m args below meth c H locs cells slots Q (F0 m pc ls rest) "java/lang/ArrayIndexOutOfBoundsException" tx) : W p l e R s m args below meth c H locs cells slots Q (F0 m pc ls (.int i :: .ref a :: rest)) := by
  intro T hT X
  obtain ⟨t, st, q⟩ := k _ rfl T hT X
  refine ⟨t, ?_, q⟩
  have h1 := X.faloadOut hexec (by rw [hT]; exact hP q0 _ ha) ((hK.2 t0 _ ht).1 n (fun j => .float (f j))) (j := i) (by show (i < 0 ∨ (arrV _ _ _).slots.size ≤ _); rw [arrV_size]; exact Classical.byContradiction hout) (g := F0 m pc ls (.int i :: .ref a :: rest)) rfl (rest := rest) rfl (by rw [hb]; exact hdg) t
  simp only [arrV_size] at h1
  exact h1 st
theorem vx_fastZ {D : va_G} {cl : List vw_C} {ws : va_W} {tys : List (ClassId × FieldType)} {a : Nat} (hexec : p.tables.exec = Jvm.exec) (hb : c.code = cc) (hK : va_K D cl tys s) (hP : va_P D cl ws H) (q0 t0 : Nat) {cA : ClassId} {n : Nat} {f : Nat → UInt32} (ha : ws[q0]? = some (a, .inl (cA, n, .inr (.inr (.inl f))))) (ht : tys[t0]? = some (cA, .float)) {i : Int32} {x : UInt32} (hout : ¬ vp_in i n) (hdg : decode cc pc = .ok (.fastore, 1))
    (k : ∀ tx : String, tx = (toString "Index " ++ toString i ++ toString " out of bounds for length " ++ toString n : String) → vx_Note p l e R s m args below meth c H locs cells slots Q (F0 m pc ls rest) "java/lang/ArrayIndexOutOfBoundsException" tx) : W p l e R s m args below meth c H locs cells slots Q (F0 m pc ls (.float x :: .int i :: .ref a :: rest)) := by
  intro T hT X
  obtain ⟨t, st, q⟩ := k _ rfl T hT X
  refine ⟨t, ?_, q⟩
  have h1 := X.fastoreOut hexec (by rw [hT]; exact hP q0 _ ha) ((hK.2 t0 _ ht).1 n (fun j => .float (f j))) (j := i) (by show (i < 0 ∨ (arrV _ _ _).slots.size ≤ _); rw [arrV_size]; exact Classical.byContradiction hout) (g := F0 m pc ls (.float x :: .int i :: .ref a :: rest)) rfl (rest := rest) rfl (by rw [hb]; exact hdg) t
  simp only [arrV_size] at h1
  exact h1 st
theorem vx_daldZ {D : va_G} {cl : List vw_C} {ws : va_W} {tys : List (ClassId × FieldType)} {a : Nat} (hexec : p.tables.exec = Jvm.exec) (hb : c.code = cc) (hK : va_K D cl tys s) (hP : va_P D cl ws H) (q0 t0 : Nat) {cA : ClassId} {n : Nat} {f : Nat → UInt64} (ha : ws[q0]? = some (a, .inl (cA, n, .inr (.inr (.inr (.inl f)))))) (ht : tys[t0]? = some (cA, .double)) {i : Int32} (hout : ¬ vp_in i n) (hdg : decode cc pc = .ok (.daload, 1))
    (k : ∀ tx : String, tx = (toString "Index " ++ toString i ++ toString " out of bounds for length " ++ toString n : String) → vx_Note p l e R s m args below meth c H locs cells slots Q (F0 m pc ls rest) "java/lang/ArrayIndexOutOfBoundsException" tx) : W p l e R s m args below meth c H locs cells slots Q (F0 m pc ls (.int i :: .ref a :: rest)) := by
  intro T hT X
  obtain ⟨t, st, q⟩ := k _ rfl T hT X
  refine ⟨t, ?_, q⟩
  have h1 := X.daloadOut hexec (by rw [hT]; exact hP q0 _ ha) ((hK.2 t0 _ ht).1 n (fun j => .double (f j))) (j := i) (by show (i < 0 ∨ (arrV _ _ _).slots.size ≤ _); rw [arrV_size]; exact Classical.byContradiction hout) (g := F0 m pc ls (.int i :: .ref a :: rest)) rfl (rest := rest) rfl (by rw [hb]; exact hdg) t
  simp only [arrV_size] at h1
  exact h1 st
theorem vx_dastZ {D : va_G} {cl : List vw_C} {ws : va_W} {tys : List (ClassId × FieldType)} {a : Nat} (hexec : p.tables.exec = Jvm.exec) (hb : c.code = cc) (hK : va_K D cl tys s) (hP : va_P D cl ws H) (q0 t0 : Nat) {cA : ClassId} {n : Nat} {f : Nat → UInt64} (ha : ws[q0]? = some (a, .inl (cA, n, .inr (.inr (.inr (.inl f)))))) (ht : tys[t0]? = some (cA, .double)) {i : Int32} {x : UInt64} (hout : ¬ vp_in i n) (hdg : decode cc pc = .ok (.dastore, 1))
    (k : ∀ tx : String, tx = (toString "Index " ++ toString i ++ toString " out of bounds for length " ++ toString n : String) → vx_Note p l e R s m args below meth c H locs cells slots Q (F0 m pc ls rest) "java/lang/ArrayIndexOutOfBoundsException" tx) : W p l e R s m args below meth c H locs cells slots Q (F0 m pc ls (.double x :: .int i :: .ref a :: rest)) := by
  intro T hT X
  obtain ⟨t, st, q⟩ := k _ rfl T hT X
  refine ⟨t, ?_, q⟩
  have h1 := X.dastoreOut hexec (by rw [hT]; exact hP q0 _ ha) ((hK.2 t0 _ ht).1 n (fun j => .double (f j))) (j := i) (by show (i < 0 ∨ (arrV _ _ _).slots.size ≤ _); rw [arrV_size]; exact Classical.byContradiction hout) (g := F0 m pc ls (.double x :: .int i :: .ref a :: rest)) rfl (rest := rest) rfl (by rw [hb]; exact hdg) t
  simp only [arrV_size] at h1
  exact h1 st
theorem vx_arraylengthN (hexec : p.tables.exec = Jvm.exec) (hb : c.code = cc) (hdg : decode cc pc = .ok (.arraylength, 1)) (k : vx_NoteN p l e R s m args below meth c H locs cells slots Q (F0 m pc ls rest)) : W p l e R s m args below meth c H locs cells slots Q (F0 m pc ls (.null :: rest)) := by
  intro T hT X
  obtain ⟨t, st, q⟩ := k T hT X
  exact ⟨t, X.arraylengthNull hexec (g := F0 m pc ls (.null :: rest)) rfl (rest := rest) rfl (by rw [hb]; exact hdg) t st, q⟩
theorem vx_ialoadN (hexec : p.tables.exec = Jvm.exec) (hb : c.code = cc) {i : Int32} (hdg : decode cc pc = .ok (.iaload, 1)) (k : vx_NoteN p l e R s m args below meth c H locs cells slots Q (F0 m pc ls rest)) : W p l e R s m args below meth c H locs cells slots Q (F0 m pc ls (.int i :: .null :: rest)) := by
  intro T hT X
  obtain ⟨t, st, q⟩ := k T hT X
  exact ⟨t, X.ialoadNull hexec (g := F0 m pc ls (.int i :: .null :: rest)) rfl (rest := rest) rfl (by rw [hb]; exact hdg) t st, q⟩
theorem vx_laloadN (hexec : p.tables.exec = Jvm.exec) (hb : c.code = cc) {i : Int32} (hdg : decode cc pc = .ok (.laload, 1)) (k : vx_NoteN p l e R s m args below meth c H locs cells slots Q (F0 m pc ls rest)) : W p l e R s m args below meth c H locs cells slots Q (F0 m pc ls (.int i :: .null :: rest)) := by
  intro T hT X
  obtain ⟨t, st, q⟩ := k T hT X
  exact ⟨t, X.laloadNull hexec (g := F0 m pc ls (.int i :: .null :: rest)) rfl (rest := rest) rfl (by rw [hb]; exact hdg) t st, q⟩
theorem vx_faloadN (hexec : p.tables.exec = Jvm.exec) (hb : c.code = cc) {i : Int32} (hdg : decode cc pc = .ok (.faload, 1)) (k : vx_NoteN p l e R s m args below meth c H locs cells slots Q (F0 m pc ls rest)) : W p l e R s m args below meth c H locs cells slots Q (F0 m pc ls (.int i :: .null :: rest)) := by
  intro T hT X
  obtain ⟨t, st, q⟩ := k T hT X
  exact ⟨t, X.faloadNull hexec (g := F0 m pc ls (.int i :: .null :: rest)) rfl (rest := rest) rfl (by rw [hb]; exact hdg) t st, q⟩
theorem vx_daloadN (hexec : p.tables.exec = Jvm.exec) (hb : c.code = cc) {i : Int32} (hdg : decode cc pc = .ok (.daload, 1)) (k : vx_NoteN p l e R s m args below meth c H locs cells slots Q (F0 m pc ls rest)) : W p l e R s m args below meth c H locs cells slots Q (F0 m pc ls (.int i :: .null :: rest)) := by
  intro T hT X
  obtain ⟨t, st, q⟩ := k T hT X
  exact ⟨t, X.daloadNull hexec (g := F0 m pc ls (.int i :: .null :: rest)) rfl (rest := rest) rfl (by rw [hb]; exact hdg) t st, q⟩
theorem vx_aaloadN (hexec : p.tables.exec = Jvm.exec) (hb : c.code = cc) {i : Int32} (hdg : decode cc pc = .ok (.aaload, 1)) (k : vx_NoteN p l e R s m args below meth c H locs cells slots Q (F0 m pc ls rest)) : W p l e R s m args below meth c H locs cells slots Q (F0 m pc ls (.int i :: .null :: rest)) := by
  intro T hT X
  obtain ⟨t, st, q⟩ := k T hT X
  exact ⟨t, X.aaloadNull hexec (g := F0 m pc ls (.int i :: .null :: rest)) rfl (rest := rest) rfl (by rw [hb]; exact hdg) t st, q⟩
theorem vx_baloadN (hexec : p.tables.exec = Jvm.exec) (hb : c.code = cc) {i : Int32} (hdg : decode cc pc = .ok (.baload, 1)) (k : vx_NoteN p l e R s m args below meth c H locs cells slots Q (F0 m pc ls rest)) : W p l e R s m args below meth c H locs cells slots Q (F0 m pc ls (.int i :: .null :: rest)) := by
  intro T hT X
  obtain ⟨t, st, q⟩ := k T hT X
  exact ⟨t, X.baloadNull hexec (g := F0 m pc ls (.int i :: .null :: rest)) rfl (rest := rest) rfl (by rw [hb]; exact hdg) t st, q⟩
theorem vx_caloadN (hexec : p.tables.exec = Jvm.exec) (hb : c.code = cc) {i : Int32} (hdg : decode cc pc = .ok (.caload, 1)) (k : vx_NoteN p l e R s m args below meth c H locs cells slots Q (F0 m pc ls rest)) : W p l e R s m args below meth c H locs cells slots Q (F0 m pc ls (.int i :: .null :: rest)) := by
  intro T hT X
  obtain ⟨t, st, q⟩ := k T hT X
  exact ⟨t, X.caloadNull hexec (g := F0 m pc ls (.int i :: .null :: rest)) rfl (rest := rest) rfl (by rw [hb]; exact hdg) t st, q⟩
theorem vx_saloadN (hexec : p.tables.exec = Jvm.exec) (hb : c.code = cc) {i : Int32} (hdg : decode cc pc = .ok (.saload, 1)) (k : vx_NoteN p l e R s m args below meth c H locs cells slots Q (F0 m pc ls rest)) : W p l e R s m args below meth c H locs cells slots Q (F0 m pc ls (.int i :: .null :: rest)) := by
  intro T hT X
  obtain ⟨t, st, q⟩ := k T hT X
  exact ⟨t, X.saloadNull hexec (g := F0 m pc ls (.int i :: .null :: rest)) rfl (rest := rest) rfl (by rw [hb]; exact hdg) t st, q⟩
theorem vx_iastoreN (hexec : p.tables.exec = Jvm.exec) (hb : c.code = cc) {x : Int32} {i : Int32} (hdg : decode cc pc = .ok (.iastore, 1)) (k : vx_NoteN p l e R s m args below meth c H locs cells slots Q (F0 m pc ls rest)) : W p l e R s m args below meth c H locs cells slots Q (F0 m pc ls (.int x :: .int i :: .null :: rest)) := by
  intro T hT X
  obtain ⟨t, st, q⟩ := k T hT X
  exact ⟨t, X.iastoreNull hexec (g := F0 m pc ls (.int x :: .int i :: .null :: rest)) rfl (rest := rest) rfl (by rw [hb]; exact hdg) t st, q⟩
theorem vx_lastoreN (hexec : p.tables.exec = Jvm.exec) (hb : c.code = cc) {x : Int64} {i : Int32} (hdg : decode cc pc = .ok (.lastore, 1)) (k : vx_NoteN p l e R s m args below meth c H locs cells slots Q (F0 m pc ls rest)) : W p l e R s m args below meth c H locs cells slots Q (F0 m pc ls (.long x :: .int i :: .null :: rest)) := by
  intro T hT X
  obtain ⟨t, st, q⟩ := k T hT X
  exact ⟨t, X.lastoreNull hexec (g := F0 m pc ls (.long x :: .int i :: .null :: rest)) rfl (rest := rest) rfl (by rw [hb]; exact hdg) t st, q⟩
theorem vx_fastoreN (hexec : p.tables.exec = Jvm.exec) (hb : c.code = cc) {x : UInt32} {i : Int32} (hdg : decode cc pc = .ok (.fastore, 1)) (k : vx_NoteN p l e R s m args below meth c H locs cells slots Q (F0 m pc ls rest)) : W p l e R s m args below meth c H locs cells slots Q (F0 m pc ls (.float x :: .int i :: .null :: rest)) := by
  intro T hT X
  obtain ⟨t, st, q⟩ := k T hT X
  exact ⟨t, X.fastoreNull hexec (g := F0 m pc ls (.float x :: .int i :: .null :: rest)) rfl (rest := rest) rfl (by rw [hb]; exact hdg) t st, q⟩
theorem vx_dastoreN (hexec : p.tables.exec = Jvm.exec) (hb : c.code = cc) {x : UInt64} {i : Int32} (hdg : decode cc pc = .ok (.dastore, 1)) (k : vx_NoteN p l e R s m args below meth c H locs cells slots Q (F0 m pc ls rest)) : W p l e R s m args below meth c H locs cells slots Q (F0 m pc ls (.double x :: .int i :: .null :: rest)) := by
  intro T hT X
  obtain ⟨t, st, q⟩ := k T hT X
  exact ⟨t, X.dastoreNull hexec (g := F0 m pc ls (.double x :: .int i :: .null :: rest)) rfl (rest := rest) rfl (by rw [hb]; exact hdg) t st, q⟩
theorem vx_bastoreN (hexec : p.tables.exec = Jvm.exec) (hb : c.code = cc) {x : Int32} {i : Int32} (hdg : decode cc pc = .ok (.bastore, 1)) (k : vx_NoteN p l e R s m args below meth c H locs cells slots Q (F0 m pc ls rest)) : W p l e R s m args below meth c H locs cells slots Q (F0 m pc ls (.int x :: .int i :: .null :: rest)) := by
  intro T hT X
  obtain ⟨t, st, q⟩ := k T hT X
  exact ⟨t, X.bastoreNull hexec (g := F0 m pc ls (.int x :: .int i :: .null :: rest)) rfl (rest := rest) rfl (by rw [hb]; exact hdg) t st, q⟩
theorem vx_castoreN (hexec : p.tables.exec = Jvm.exec) (hb : c.code = cc) {x : Int32} {i : Int32} (hdg : decode cc pc = .ok (.castore, 1)) (k : vx_NoteN p l e R s m args below meth c H locs cells slots Q (F0 m pc ls rest)) : W p l e R s m args below meth c H locs cells slots Q (F0 m pc ls (.int x :: .int i :: .null :: rest)) := by
  intro T hT X
  obtain ⟨t, st, q⟩ := k T hT X
  exact ⟨t, X.castoreNull hexec (g := F0 m pc ls (.int x :: .int i :: .null :: rest)) rfl (rest := rest) rfl (by rw [hb]; exact hdg) t st, q⟩
theorem vx_sastoreN (hexec : p.tables.exec = Jvm.exec) (hb : c.code = cc) {x : Int32} {i : Int32} (hdg : decode cc pc = .ok (.sastore, 1)) (k : vx_NoteN p l e R s m args below meth c H locs cells slots Q (F0 m pc ls rest)) : W p l e R s m args below meth c H locs cells slots Q (F0 m pc ls (.int x :: .int i :: .null :: rest)) := by
  intro T hT X
  obtain ⟨t, st, q⟩ := k T hT X
  exact ⟨t, X.sastoreNull hexec (g := F0 m pc ls (.int x :: .int i :: .null :: rest)) rfl (rest := rest) rfl (by rw [hb]; exact hdg) t st, q⟩
theorem vx_invokeN {own C : String} {index maxL : Nat} {y : MethodName} {bytes : ByteArray} {ret : Option FieldType} (hexec : p.tables.exec = Jvm.exec) (hb : c.code = cc) (hown : s.vm.findClass own = some m.cls) (hlink : (Cond.methodLink own index y).before args s = true) (hinst : (Cond.instanceMethod y).before args s = true) (hcode : (Cond.code y bytes maxL ret).before args s = true) (hsel : (Cond.selects C y y).before args s = true)
    (hx : y.cls ≠ "java/lang/invoke/MethodHandle" ∧ y.cls ≠ "java/lang/invoke/VarHandle") {As : List Value} (hlen : (parseMethodDescriptor y.desc).map (fun d => d.parameters.length) = some As.length) (hdg : decode cc pc = .ok (.invokevirtual index, 3))
    (k : vx_NoteN p l e R s m args below meth c H locs cells slots Q (F0 m pc ls rest)) {st0 : List Value} (hst : st0 = As.reverse ++ .null :: rest) : W p l e R s m args below meth c H locs cells slots Q (F0 m pc ls st0) := by
  intro T hT X
  obtain ⟨r0, r, hn, hrm, hstR, hsigR⟩ := va_Decl.of hinst hcode
  obtain ⟨c2, r2, m2, q1, q2, q3, q4, kP, hkP, hkPi⟩ := Cond.selects_spec hsel
  cases hn.symm.trans q3
  have hl9 : As.length = r.sig.parameters.length := by
    rw [hsigR] at hlen
    exact (Option.some.inj hlen).symm
  obtain ⟨vm', X1, st1⟩ := X.invokevirtualNull hexec hown hlink hn hrm hstR hkP hkPi hx (g := F0 m pc ls st0) rfl (argsL := As) (rest := rest) hl9 hst (by rw [hb]; exact hdg)
  obtain ⟨t, st, q⟩ := k (T.setVm vm') hT X1
  exact ⟨t, st1 t st, q⟩
theorem vx_newarrayZ {atype : ArrayType} (hexec : p.tables.exec = Jvm.exec) (hb : c.code = cc) {n : Int32} (h0 : n < 0) (hdg : decode cc pc = .ok (.newarray atype, 2)) (k : ∀ tx : String, tx = toString n → vx_Note p l e R s m args below meth c H locs cells slots Q (F0 m pc ls rest) "java/lang/NegativeArraySizeException" tx) : W p l e R s m args below meth c H locs cells slots Q (F0 m pc ls (.int n :: rest)) := by
  intro T hT X
  obtain ⟨t, st, q⟩ := k _ rfl T hT X
  exact ⟨t, X.newarrayNegative hexec (g := F0 m pc ls (.int n :: rest)) rfl h0 (rest := rest) rfl (by rw [hb]; exact hdg) t st, q⟩
end
end VXM
/-! ===== END ===== -/
end
section
/-! ===== BEGIN printed: names, fields, word lists, decode rows ===== -/
def RX0 : String := "Boxedvalue$Acts"
def TX0 : u_T := fun k => match k with
  | 0 => ("Boxedvalue$Acts", "reckoner", "LBoxedvalue$Reckoner;", true)
  | 1 => ("Boxedvalue$Acts", "curves", "LBoxedvalue$Curves;", true)
  | 2 => ("Boxedvalue$Acts", "least", "LBoxedvalue$Bound;", true)
  | 3 => ("Boxedvalue$Acts", "most", "LBoxedvalue$Bound;", true)
  | 4 => ("Boxedvalue$Acts", "trial", "LBoxedvalue$Bound;", true)
  | _ => ("Boxedvalue$Acts", "unit", "J", false)
def tyX0 : Nat → FieldType := fun k => match k with
  | 0 => .object "Boxedvalue$Reckoner"
  | 1 => .object "Boxedvalue$Curves"
  | 2 => .object "Boxedvalue$Bound"
  | 3 => .object "Boxedvalue$Bound"
  | 4 => .object "Boxedvalue$Bound"
  | _ => .long
abbrev wsX00 : List Cond := u_ws RX0 TX0 6
theorem nmX0 : ∀ a, a < 6 → ∀ b, b < 6 → a ≠ b → (TX0 a).2.1 ≠ (TX0 b).2.1 := by decide +kernel
theorem tyX0_ok : ∀ k, k < 6 → parseFieldDescriptor (TX0 k).2.2.1 = some (tyX0 k) := by decide +kernel
abbrev cX0_init : ByteArray := prog_2_method_1_code
def yX0_init : MethodName := ⟨RX0, "<init>", "()V"⟩
abbrev cX0_useDigits : ByteArray := prog_2_method_2_code
def yX0_useDigits : MethodName := ⟨RX0, "useDigits", "(I)V"⟩
abbrev cX0_judged : ByteArray := prog_2_method_3_code
def yX0_judged : MethodName := ⟨RX0, "judged", "(LBoxedvalue$Box;)I"⟩
abbrev cX0_told : ByteArray := prog_2_method_4_code
def yX0_told : MethodName := ⟨RX0, "told", "(LBoxedvalue$Box;)I"⟩
abbrev cX0_tellNumber : ByteArray := prog_2_method_5_code
def yX0_tellNumber : MethodName := ⟨RX0, "tellNumber", "(LBoxedvalue$Box;JI)I"⟩
abbrev cX0_tellText : ByteArray := prog_2_method_6_code
def yX0_tellText : MethodName := ⟨RX0, "tellText", "(LBoxedvalue$Box;LBoxedvalue$Text;)I"⟩
abbrev cX0_tellConstant : ByteArray := prog_2_method_7_code
def yX0_tellConstant : MethodName := ⟨RX0, "tellConstant", "(LBoxedvalue$Box;C)I"⟩
abbrev cX0_negative : ByteArray := prog_2_method_8_code
def yX0_negative : MethodName := ⟨RX0, "negative", "(LBoxedvalue$Box;)I"⟩
abbrev cX0_size : ByteArray := prog_2_method_9_code
def yX0_size : MethodName := ⟨RX0, "size", "(LBoxedvalue$Box;)I"⟩
abbrev cX0_sum : ByteArray := prog_2_method_10_code
def yX0_sum : MethodName := ⟨RX0, "sum", "(LBoxedvalue$Box;LBoxedvalue$Box;)I"⟩
abbrev cX0_difference : ByteArray := prog_2_method_11_code
def yX0_difference : MethodName := ⟨RX0, "difference", "(LBoxedvalue$Box;LBoxedvalue$Box;)I"⟩
abbrev cX0_product : ByteArray := prog_2_method_12_code
def yX0_product : MethodName := ⟨RX0, "product", "(LBoxedvalue$Box;LBoxedvalue$Box;)I"⟩
abbrev cX0_quotient : ByteArray := prog_2_method_13_code
def yX0_quotient : MethodName := ⟨RX0, "quotient", "(LBoxedvalue$Box;LBoxedvalue$Box;)I"⟩
abbrev cX0_ofOne : ByteArray := prog_2_method_14_code
def yX0_ofOne : MethodName := ⟨RX0, "ofOne", "(LBoxedvalue$Box;CI)I"⟩
def RX1 : String := "Boxedvalue$Bound"
def TX1 : u_T := fun k => match k with
  | 0 => ("Boxedvalue$Bound", "whole", "J", false)
  | _ => ("Boxedvalue$Bound", "part", "J", false)
def tyX1 : Nat → FieldType := fun k => match k with
  | 0 => .long
  | _ => .long
abbrev wsX10 : List Cond := u_ws RX1 TX1 2
theorem nmX1 : ∀ a, a < 2 → ∀ b, b < 2 → a ≠ b → (TX1 a).2.1 ≠ (TX1 b).2.1 := by decide +kernel
theorem tyX1_ok : ∀ k, k < 2 → parseFieldDescriptor (TX1 k).2.2.1 = some (tyX1 k) := by decide +kernel
abbrev cX1_init : ByteArray := prog_3_method_1_code
def yX1_init : MethodName := ⟨RX1, "<init>", "()V"⟩
abbrev cX1_assign : ByteArray := prog_3_method_2_code
def yX1_assign : MethodName := ⟨RX1, "assign", "(JJ)V"⟩
abbrev cX1_copy : ByteArray := prog_3_method_3_code
def yX1_copy : MethodName := ⟨RX1, "copy", "(LBoxedvalue$Bound;)V"⟩
abbrev cX1_against : ByteArray := prog_3_method_4_code
def yX1_against : MethodName := ⟨RX1, "against", "(LBoxedvalue$Bound;)I"⟩
abbrev cX1_isBelow : ByteArray := prog_3_method_5_code
def yX1_isBelow : MethodName := ⟨RX1, "isBelow", "(LBoxedvalue$Bound;)Z"⟩
abbrev cX1_isNegative : ByteArray := prog_3_method_6_code
def yX1_isNegative : MethodName := ⟨RX1, "isNegative", "()Z"⟩
abbrev cX1_isZero : ByteArray := prog_3_method_7_code
def yX1_isZero : MethodName := ⟨RX1, "isZero", "()Z"⟩
abbrev cX1_isPositive : ByteArray := prog_3_method_8_code
def yX1_isPositive : MethodName := ⟨RX1, "isPositive", "()Z"⟩
abbrev cX1_isTooGreat : ByteArray := prog_3_method_9_code
def yX1_isTooGreat : MethodName := ⟨RX1, "isTooGreat", "()Z"⟩
abbrev cX1_turn : ByteArray := prog_3_method_10_code
def yX1_turn : MethodName := ⟨RX1, "turn", "()V"⟩
abbrev cX1_toSum : ByteArray := prog_3_method_11_code
def yX1_toSum : MethodName := ⟨RX1, "toSum", "(LBoxedvalue$Bound;LBoxedvalue$Bound;)V"⟩
abbrev cX1_toDifference : ByteArray := prog_3_method_12_code
def yX1_toDifference : MethodName := ⟨RX1, "toDifference", "(LBoxedvalue$Bound;LBoxedvalue$Bound;)V"⟩
abbrev cX1_toMultiple : ByteArray := prog_3_method_13_code
def yX1_toMultiple : MethodName := ⟨RX1, "toMultiple", "(LBoxedvalue$Bound;J)V"⟩
abbrev cX1_halve : ByteArray := prog_3_method_14_code
def yX1_halve : MethodName := ⟨RX1, "halve", "()V"⟩
abbrev cX1_shift : ByteArray := prog_3_method_15_code
def yX1_shift : MethodName := ⟨RX1, "shift", "(J)V"⟩
abbrev cX1_roundDown : ByteArray := prog_3_method_16_code
def yX1_roundDown : MethodName := ⟨RX1, "roundDown", "(J)V"⟩
abbrev cX1_roundUp : ByteArray := prog_3_method_17_code
def yX1_roundUp : MethodName := ⟨RX1, "roundUp", "(JZ)V"⟩
def RX2 : String := "Boxedvalue$Box"
def TX2 : u_T := fun k => match k with
  | 0 => ("Boxedvalue$Box", "low", "LBoxedvalue$Bound;", true)
  | _ => ("Boxedvalue$Box", "high", "LBoxedvalue$Bound;", true)
def tyX2 : Nat → FieldType := fun k => match k with
  | 0 => .object "Boxedvalue$Bound"
  | _ => .object "Boxedvalue$Bound"
abbrev wsX20 : List Cond := u_ws RX2 TX2 2
theorem nmX2 : ∀ a, a < 2 → ∀ b, b < 2 → a ≠ b → (TX2 a).2.1 ≠ (TX2 b).2.1 := by decide +kernel
theorem tyX2_ok : ∀ k, k < 2 → parseFieldDescriptor (TX2 k).2.2.1 = some (tyX2 k) := by decide +kernel
abbrev cX2_init : ByteArray := prog_4_method_1_code
def yX2_init : MethodName := ⟨RX2, "<init>", "()V"⟩
abbrev cX2_copy : ByteArray := prog_4_method_2_code
def yX2_copy : MethodName := ⟨RX2, "copy", "(LBoxedvalue$Box;)V"⟩
abbrev cX2_between : ByteArray := prog_4_method_3_code
def yX2_between : MethodName := ⟨RX2, "between", "(LBoxedvalue$Bound;LBoxedvalue$Bound;)V"⟩
abbrev cX2_isSingle : ByteArray := prog_4_method_4_code
def yX2_isSingle : MethodName := ⟨RX2, "isSingle", "()Z"⟩
abbrev cX2_holdsZero : ByteArray := prog_4_method_5_code
def yX2_holdsZero : MethodName := ⟨RX2, "holdsZero", "()Z"⟩
abbrev cX2_liesIn : ByteArray := prog_4_method_6_code
def yX2_liesIn : MethodName := ⟨RX2, "liesIn", "(LBoxedvalue$Box;)Z"⟩
abbrev cX2_isTooGreat : ByteArray := prog_4_method_7_code
def yX2_isTooGreat : MethodName := ⟨RX2, "isTooGreat", "()Z"⟩
abbrev cX2_turn : ByteArray := prog_4_method_8_code
def yX2_turn : MethodName := ⟨RX2, "turn", "()V"⟩
abbrev cX2_dropSigns : ByteArray := prog_4_method_9_code
def yX2_dropSigns : MethodName := ⟨RX2, "dropSigns", "()V"⟩
abbrev cX2_embrace : ByteArray := prog_4_method_10_code
def yX2_embrace : MethodName := ⟨RX2, "embrace", "(LBoxedvalue$Box;)V"⟩
abbrev cX2_cutDownTo : ByteArray := prog_4_method_11_code
def yX2_cutDownTo : MethodName := ⟨RX2, "cutDownTo", "(LBoxedvalue$Box;)Z"⟩
abbrev cX2_toMiddle : ByteArray := prog_4_method_12_code
def yX2_toMiddle : MethodName := ⟨RX2, "toMiddle", "(LBoxedvalue$Box;J)Z"⟩
abbrev cX2_roundOut : ByteArray := prog_4_method_13_code
def yX2_roundOut : MethodName := ⟨RX2, "roundOut", "(J)V"⟩
def RX3 : String := "Boxedvalue$Curves"
def TX3 : u_T := fun k => match k with
  | 0 => ("Boxedvalue$Curves", "reckoner", "LBoxedvalue$Reckoner;", true)
  | 1 => ("Boxedvalue$Curves", "isNegative", "Z", false)
  | 2 => ("Boxedvalue$Curves", "hasRest", "Z", false)
  | 3 => ("Boxedvalue$Curves", "power", "LBoxedvalue$Fixed;", true)
  | 4 => ("Boxedvalue$Curves", "step", "LBoxedvalue$Fixed;", true)
  | 5 => ("Boxedvalue$Curves", "term", "LBoxedvalue$Fixed;", true)
  | 6 => ("Boxedvalue$Curves", "sum", "LBoxedvalue$Fixed;", true)
  | 7 => ("Boxedvalue$Curves", "above", "LBoxedvalue$Fixed;", true)
  | 8 => ("Boxedvalue$Curves", "below", "LBoxedvalue$Fixed;", true)
  | 9 => ("Boxedvalue$Curves", "top", "LBoxedvalue$Bound;", true)
  | 10 => ("Boxedvalue$Curves", "bottom", "LBoxedvalue$Bound;", true)
  | 11 => ("Boxedvalue$Curves", "over", "LBoxedvalue$Bound;", true)
  | _ => ("Boxedvalue$Curves", "under", "LBoxedvalue$Bound;", true)
def tyX3 : Nat → FieldType := fun k => match k with
  | 0 => .object "Boxedvalue$Reckoner"
  | 1 => .boolean
  | 2 => .boolean
  | 3 => .object "Boxedvalue$Fixed"
  | 4 => .object "Boxedvalue$Fixed"
  | 5 => .object "Boxedvalue$Fixed"
  | 6 => .object "Boxedvalue$Fixed"
  | 7 => .object "Boxedvalue$Fixed"
  | 8 => .object "Boxedvalue$Fixed"
  | 9 => .object "Boxedvalue$Bound"
  | 10 => .object "Boxedvalue$Bound"
  | 11 => .object "Boxedvalue$Bound"
  | _ => .object "Boxedvalue$Bound"
abbrev wsX30 : List Cond := u_ws RX3 TX3 13
theorem nmX3 : ∀ a, a < 13 → ∀ b, b < 13 → a ≠ b → (TX3 a).2.1 ≠ (TX3 b).2.1 := by decide +kernel
theorem tyX3_ok : ∀ k, k < 13 → parseFieldDescriptor (TX3 k).2.2.1 = some (tyX3 k) := by decide +kernel
abbrev cX3_init : ByteArray := prog_5_method_1_code
def yX3_init : MethodName := ⟨RX3, "<init>", "(LBoxedvalue$Reckoner;)V"⟩
abbrev cX3_tell : ByteArray := prog_5_method_2_code
def yX3_tell : MethodName := ⟨RX3, "tell", "()V"⟩
abbrev cX3_begin : ByteArray := prog_5_method_3_code
def yX3_begin : MethodName := ⟨RX3, "begin", "(Z)V"⟩
abbrev cX3_exponential : ByteArray := prog_5_method_4_code
def yX3_exponential : MethodName := ⟨RX3, "exponential", "(LBoxedvalue$Bound;)V"⟩
abbrev cX3_sumPowers : ByteArray := prog_5_method_5_code
def yX3_sumPowers : MethodName := ⟨RX3, "sumPowers", "(LBoxedvalue$Bound;)V"⟩
abbrev cX3_logarithm : ByteArray := prog_5_method_6_code
def yX3_logarithm : MethodName := ⟨RX3, "logarithm", "(LBoxedvalue$Bound;)V"⟩
abbrev cX3_arc : ByteArray := prog_5_method_7_code
def yX3_arc : MethodName := ⟨RX3, "arc", "(LBoxedvalue$Bound;)V"⟩
abbrev cX3_nearestEighth : ByteArray := prog_5_method_8_code
def yX3_nearestEighth : MethodName := ⟨RX3, "nearestEighth", "()I"⟩
abbrev cX3_shiftToEighth : ByteArray := prog_5_method_9_code
def yX3_shiftToEighth : MethodName := ⟨RX3, "shiftToEighth", "(I)Z"⟩
abbrev cX3_sumOddPowers : ByteArray := prog_5_method_10_code
def yX3_sumOddPowers : MethodName := ⟨RX3, "sumOddPowers", "(Z)V"⟩
abbrev cX3_settle : ByteArray := prog_5_method_11_code
def yX3_settle : MethodName := ⟨RX3, "settle", "()V"⟩
def RX4 : String := "Boxedvalue$Fixed"
def TX4 : u_T := fun k => match k with
  | 0 => ("Boxedvalue$Fixed", "limbs", "[J", true)
  | _ => ("Boxedvalue$Fixed", "sums", "[J", true)
def tyX4 : Nat → FieldType := fun k => match k with
  | 0 => .array .long
  | _ => .array .long
abbrev wsX40 : List Cond := u_ws RX4 TX4 2
theorem nmX4 : ∀ a, a < 2 → ∀ b, b < 2 → a ≠ b → (TX4 a).2.1 ≠ (TX4 b).2.1 := by decide +kernel
theorem tyX4_ok : ∀ k, k < 2 → parseFieldDescriptor (TX4 k).2.2.1 = some (tyX4 k) := by decide +kernel
abbrev cX4_init : ByteArray := prog_6_method_1_code
def yX4_init : MethodName := ⟨RX4, "<init>", "()V"⟩
abbrev cX4_limbAt : ByteArray := prog_6_method_2_code
def yX4_limbAt : MethodName := ⟨RX4, "limbAt", "(I)J"⟩
abbrev cX4_setLimb : ByteArray := prog_6_method_3_code
def yX4_setLimb : MethodName := ⟨RX4, "setLimb", "(IJ)V"⟩
abbrev cX4_clear : ByteArray := prog_6_method_4_code
def yX4_clear : MethodName := ⟨RX4, "clear", "()V"⟩
abbrev cX4_copy : ByteArray := prog_6_method_5_code
def yX4_copy : MethodName := ⟨RX4, "copy", "(LBoxedvalue$Fixed;)V"⟩
abbrev cX4_load : ByteArray := prog_6_method_6_code
def yX4_load : MethodName := ⟨RX4, "load", "([III)V"⟩
abbrev cX4_isZero : ByteArray := prog_6_method_7_code
def yX4_isZero : MethodName := ⟨RX4, "isZero", "()Z"⟩
abbrev cX4_isBelow : ByteArray := prog_6_method_8_code
def yX4_isBelow : MethodName := ⟨RX4, "isBelow", "(LBoxedvalue$Fixed;)Z"⟩
abbrev cX4_plus : ByteArray := prog_6_method_9_code
def yX4_plus : MethodName := ⟨RX4, "plus", "(LBoxedvalue$Fixed;)V"⟩
abbrev cX4_minus : ByteArray := prog_6_method_10_code
def yX4_minus : MethodName := ⟨RX4, "minus", "(LBoxedvalue$Fixed;)V"⟩
abbrev cX4_over : ByteArray := prog_6_method_11_code
def yX4_over : MethodName := ⟨RX4, "over", "(I)V"⟩
abbrev cX4_toProduct : ByteArray := prog_6_method_12_code
def yX4_toProduct : MethodName := ⟨RX4, "toProduct", "(LBoxedvalue$Fixed;LBoxedvalue$Fixed;)V"⟩
def RX5 : String := "Boxedvalue$Formula"
def TX5 : u_T := fun k => match k with
  | 0 => ("Boxedvalue$Formula", "acts", "[C", true)
  | 1 => ("Boxedvalue$Formula", "numbers", "[J", true)
  | 2 => ("Boxedvalue$Formula", "scales", "[I", true)
  | 3 => ("Boxedvalue$Formula", "starts", "[I", true)
  | 4 => ("Boxedvalue$Formula", "count", "I", false)
  | 5 => ("Boxedvalue$Formula", "hasY", "Z", false)
  | 6 => ("Boxedvalue$Formula", "isDefined", "Z", false)
  | 7 => ("Boxedvalue$Formula", "waiting", "[C", true)
  | 8 => ("Boxedvalue$Formula", "waitingCount", "I", false)
  | 9 => ("Boxedvalue$Formula", "place", "I", false)
  | 10 => ("Boxedvalue$Formula", "wantsAtom", "Z", false)
  | _ => ("Boxedvalue$Formula", "mayRaise", "Z", false)
def tyX5 : Nat → FieldType := fun k => match k with
  | 0 => .array .char
  | 1 => .array .long
  | 2 => .array .int
  | 3 => .array .int
  | 4 => .int
  | 5 => .boolean
  | 6 => .boolean
  | 7 => .array .char
  | 8 => .int
  | 9 => .int
  | 10 => .boolean
  | _ => .boolean
abbrev wsX50 : List Cond := u_ws RX5 TX5 12
theorem nmX5 : ∀ a, a < 12 → ∀ b, b < 12 → a ≠ b → (TX5 a).2.1 ≠ (TX5 b).2.1 := by decide +kernel
theorem tyX5_ok : ∀ k, k < 12 → parseFieldDescriptor (TX5 k).2.2.1 = some (tyX5 k) := by decide +kernel
abbrev cX5_init : ByteArray := prog_7_method_1_code
def yX5_init : MethodName := ⟨RX5, "<init>", "()V"⟩
abbrev cX5_within : ByteArray := prog_7_method_2_code
def yX5_within : MethodName := ⟨RX5, "within", "(I)I"⟩
abbrev cX5_actAt : ByteArray := prog_7_method_3_code
def yX5_actAt : MethodName := ⟨RX5, "actAt", "(I)C"⟩
abbrev cX5_numberAt : ByteArray := prog_7_method_4_code
def yX5_numberAt : MethodName := ⟨RX5, "numberAt", "(I)J"⟩
abbrev cX5_scaleAt : ByteArray := prog_7_method_5_code
def yX5_scaleAt : MethodName := ⟨RX5, "scaleAt", "(I)I"⟩
abbrev cX5_startOf : ByteArray := prog_7_method_6_code
def yX5_startOf : MethodName := ⟨RX5, "startOf", "(I)I"⟩
abbrev cX5_leftOf : ByteArray := prog_7_method_7_code
def yX5_leftOf : MethodName := ⟨RX5, "leftOf", "(I)I"⟩
abbrev cX5_isPair : ByteArray := prog_7_method_8_code
def yX5_isPair : MethodName := ⟨RX5, "isPair", "(C)Z"⟩
abbrev cX5_isAhead : ByteArray := prog_7_method_9_code
def yX5_isAhead : MethodName := ⟨RX5, "isAhead", "(C)Z"⟩
abbrev cX5_append : ByteArray := prog_7_method_10_code
def yX5_append : MethodName := ⟨RX5, "append", "(CJI)V"⟩
abbrev cX5_findStarts : ByteArray := prog_7_method_11_code
def yX5_findStarts : MethodName := ⟨RX5, "findStarts", "()V"⟩
abbrev cX5_hold : ByteArray := prog_7_method_12_code
def yX5_hold : MethodName := ⟨RX5, "hold", "(C)V"⟩
abbrev cX5_lastHeld : ByteArray := prog_7_method_13_code
def yX5_lastHeld : MethodName := ⟨RX5, "lastHeld", "()C"⟩
abbrev cX5_release : ByteArray := prog_7_method_14_code
def yX5_release : MethodName := ⟨RX5, "release", "()V"⟩
abbrev cX5_parse : ByteArray := prog_7_method_15_code
def yX5_parse : MethodName := ⟨RX5, "parse", "(LBoxedvalue$Text;)I"⟩
abbrev cX5_takesAtom : ByteArray := prog_7_method_16_code
def yX5_takesAtom : MethodName := ⟨RX5, "takesAtom", "(LBoxedvalue$Text;)Z"⟩
abbrev cX5_takesNumber : ByteArray := prog_7_method_17_code
def yX5_takesNumber : MethodName := ⟨RX5, "takesNumber", "(LBoxedvalue$Text;)Z"⟩
abbrev cX5_closeAtom : ByteArray := prog_7_method_18_code
def yX5_closeAtom : MethodName := ⟨RX5, "closeAtom", "()V"⟩
abbrev cX5_releaseProducts : ByteArray := prog_7_method_19_code
def yX5_releaseProducts : MethodName := ⟨RX5, "releaseProducts", "()V"⟩
abbrev cX5_releaseSums : ByteArray := prog_7_method_20_code
def yX5_releaseSums : MethodName := ⟨RX5, "releaseSums", "()V"⟩
abbrev cX5_takesAct : ByteArray := prog_7_method_21_code
def yX5_takesAct : MethodName := ⟨RX5, "takesAct", "(LBoxedvalue$Text;)Z"⟩
abbrev cX5_takesExponent : ByteArray := prog_7_method_22_code
def yX5_takesExponent : MethodName := ⟨RX5, "takesExponent", "(LBoxedvalue$Text;)Z"⟩
abbrev cX5_takesClosing : ByteArray := prog_7_method_23_code
def yX5_takesClosing : MethodName := ⟨RX5, "takesClosing", "()Z"⟩
def RX6 : String := "Boxedvalue$Machine"
def TX6 : u_T := fun k => match k with
  | 0 => ("Boxedvalue$Machine", "maker", "LBoxedvalue$Acts;", true)
  | 1 => ("Boxedvalue$Machine", "stack", "[LBoxedvalue$Box;", true)
  | 2 => ("Boxedvalue$Machine", "top", "I", false)
  | 3 => ("Boxedvalue$Machine", "x", "LBoxedvalue$Box;", false)
  | 4 => ("Boxedvalue$Machine", "y", "LBoxedvalue$Box;", false)
  | 5 => ("Boxedvalue$Machine", "nodes", "[I", true)
  | 6 => ("Boxedvalue$Machine", "places", "[I", true)
  | _ => ("Boxedvalue$Machine", "depth", "I", false)
def tyX6 : Nat → FieldType := fun k => match k with
  | 0 => .object "Boxedvalue$Acts"
  | 1 => .array (.object "Boxedvalue$Box")
  | 2 => .int
  | 3 => .object "Boxedvalue$Box"
  | 4 => .object "Boxedvalue$Box"
  | 5 => .array .int
  | 6 => .array .int
  | _ => .int
abbrev wsX60 : List Cond := u_ws RX6 TX6 8
theorem nmX6 : ∀ a, a < 8 → ∀ b, b < 8 → a ≠ b → (TX6 a).2.1 ≠ (TX6 b).2.1 := by decide +kernel
theorem tyX6_ok : ∀ k, k < 8 → parseFieldDescriptor (TX6 k).2.2.1 = some (tyX6 k) := by decide +kernel
abbrev cX6_init : ByteArray := prog_8_method_1_code
def yX6_init : MethodName := ⟨RX6, "<init>", "()V"⟩
abbrev cX6_useDigits : ByteArray := prog_8_method_2_code
def yX6_useDigits : MethodName := ⟨RX6, "useDigits", "(I)V"⟩
abbrev cX6_unit : ByteArray := prog_8_method_3_code
def yX6_unit : MethodName := ⟨RX6, "unit", "()J"⟩
abbrev cX6_clear : ByteArray := prog_8_method_4_code
def yX6_clear : MethodName := ⟨RX6, "clear", "()V"⟩
abbrev cX6_at : ByteArray := prog_8_method_5_code
def yX6_at : MethodName := ⟨RX6, "at", "(I)LBoxedvalue$Box;"⟩
abbrev cX6_result : ByteArray := prog_8_method_6_code
def yX6_result : MethodName := ⟨RX6, "result", "()LBoxedvalue$Box;"⟩
abbrev cX6_push : ByteArray := prog_8_method_7_code
def yX6_push : MethodName := ⟨RX6, "push", "(LBoxedvalue$Box;)V"⟩
abbrev cX6_aim : ByteArray := prog_8_method_8_code
def yX6_aim : MethodName := ⟨RX6, "aim", "(LBoxedvalue$Box;LBoxedvalue$Box;)V"⟩
abbrev cX6_makeFrom : ByteArray := prog_8_method_9_code
def yX6_makeFrom : MethodName := ⟨RX6, "makeFrom", "(LBoxedvalue$Text;)I"⟩
abbrev cX6_make : ByteArray := prog_8_method_10_code
def yX6_make : MethodName := ⟨RX6, "make", "(CJI)I"⟩
abbrev cX6_makeValue : ByteArray := prog_8_method_11_code
def yX6_makeValue : MethodName := ⟨RX6, "makeValue", "(LBoxedvalue$Formula;)I"⟩
abbrev cX6_makeSlope : ByteArray := prog_8_method_12_code
def yX6_makeSlope : MethodName := ⟨RX6, "makeSlope", "(LBoxedvalue$Formula;)I"⟩
abbrev cX6_enter : ByteArray := prog_8_method_13_code
def yX6_enter : MethodName := ⟨RX6, "enter", "(I)I"⟩
abbrev cX6_nextSign : ByteArray := prog_8_method_14_code
def yX6_nextSign : MethodName := ⟨RX6, "nextSign", "(Ljava/lang/String;)C"⟩
abbrev cX6_actOf : ByteArray := prog_8_method_15_code
def yX6_actOf : MethodName := ⟨RX6, "actOf", "(C)C"⟩
abbrev cX6_numberOf : ByteArray := prog_8_method_16_code
def yX6_numberOf : MethodName := ⟨RX6, "numberOf", "(CI)J"⟩
abbrev cX6_byOf : ByteArray := prog_8_method_17_code
def yX6_byOf : MethodName := ⟨RX6, "byOf", "(CI)I"⟩
abbrev cX6_recipeOf : ByteArray := prog_8_method_18_code
def yX6_recipeOf : MethodName := ⟨RX6, "recipeOf", "(CI)Ljava/lang/String;"⟩
def RX7 : String := "Boxedvalue$Pieces"
def TX7 : u_T := fun k => match k with
  | 0 => ("Boxedvalue$Pieces", "boxes", "[LBoxedvalue$Box;", true)
  | 1 => ("Boxedvalue$Pieces", "marks", "[I", true)
  | 2 => ("Boxedvalue$Pieces", "middle", "LBoxedvalue$Box;", true)
  | _ => ("Boxedvalue$Pieces", "count", "I", false)
def tyX7 : Nat → FieldType := fun k => match k with
  | 0 => .array (.object "Boxedvalue$Box")
  | 1 => .array .int
  | 2 => .object "Boxedvalue$Box"
  | _ => .int
abbrev wsX70 : List Cond := u_ws RX7 TX7 4
theorem nmX7 : ∀ a, a < 4 → ∀ b, b < 4 → a ≠ b → (TX7 a).2.1 ≠ (TX7 b).2.1 := by decide +kernel
theorem tyX7_ok : ∀ k, k < 4 → parseFieldDescriptor (TX7 k).2.2.1 = some (tyX7 k) := by decide +kernel
abbrev cX7_init : ByteArray := prog_9_method_1_code
def yX7_init : MethodName := ⟨RX7, "<init>", "()V"⟩
abbrev cX7_clear : ByteArray := prog_9_method_2_code
def yX7_clear : MethodName := ⟨RX7, "clear", "()V"⟩
abbrev cX7_within : ByteArray := prog_9_method_3_code
def yX7_within : MethodName := ⟨RX7, "within", "(I)I"⟩
abbrev cX7_box : ByteArray := prog_9_method_4_code
def yX7_box : MethodName := ⟨RX7, "box", "(I)LBoxedvalue$Box;"⟩
abbrev cX7_markAt : ByteArray := prog_9_method_5_code
def yX7_markAt : MethodName := ⟨RX7, "markAt", "(I)I"⟩
abbrev cX7_append : ByteArray := prog_9_method_6_code
def yX7_append : MethodName := ⟨RX7, "append", "(LBoxedvalue$Box;I)V"⟩
abbrev cX7_takeLast : ByteArray := prog_9_method_7_code
def yX7_takeLast : MethodName := ⟨RX7, "takeLast", "(LBoxedvalue$Box;)I"⟩
abbrev cX7_cut : ByteArray := prog_9_method_8_code
def yX7_cut : MethodName := ⟨RX7, "cut", "(LBoxedvalue$Box;IJ)V"⟩
abbrev cX7_split : ByteArray := prog_9_method_9_code
def yX7_split : MethodName := ⟨RX7, "split", "(I)V"⟩
def RX8 : String := "Boxedvalue$Reckoner"
def TX8 : u_T := fun k => match k with
  | 0 => ("Boxedvalue$Reckoner", "floor", "LBoxedvalue$Bound;", true)
  | 1 => ("Boxedvalue$Reckoner", "hasRest", "Z", false)
  | 2 => ("Boxedvalue$Reckoner", "left", "LBoxedvalue$Bound;", true)
  | 3 => ("Boxedvalue$Reckoner", "right", "LBoxedvalue$Bound;", true)
  | 4 => ("Boxedvalue$Reckoner", "row", "[J", false)
  | 5 => ("Boxedvalue$Reckoner", "nextRow", "[J", false)
  | 6 => ("Boxedvalue$Reckoner", "factor", "[J", true)
  | 7 => ("Boxedvalue$Reckoner", "behind", "I", false)
  | 8 => ("Boxedvalue$Reckoner", "used", "I", false)
  | 9 => ("Boxedvalue$Reckoner", "leftWhole", "J", false)
  | 10 => ("Boxedvalue$Reckoner", "leftPart", "J", false)
  | 11 => ("Boxedvalue$Reckoner", "byWhole", "J", false)
  | _ => ("Boxedvalue$Reckoner", "byPart", "J", false)
def tyX8 : Nat → FieldType := fun k => match k with
  | 0 => .object "Boxedvalue$Bound"
  | 1 => .boolean
  | 2 => .object "Boxedvalue$Bound"
  | 3 => .object "Boxedvalue$Bound"
  | 4 => .array .long
  | 5 => .array .long
  | 6 => .array .long
  | 7 => .int
  | 8 => .int
  | 9 => .long
  | 10 => .long
  | 11 => .long
  | _ => .long
abbrev wsX80 : List Cond := u_ws RX8 TX8 13
theorem nmX8 : ∀ a, a < 13 → ∀ b, b < 13 → a ≠ b → (TX8 a).2.1 ≠ (TX8 b).2.1 := by decide +kernel
theorem tyX8_ok : ∀ k, k < 13 → parseFieldDescriptor (TX8 k).2.2.1 = some (tyX8 k) := by decide +kernel
abbrev cX8_init : ByteArray := prog_10_method_1_code
def yX8_init : MethodName := ⟨RX8, "<init>", "()V"⟩
abbrev cX8_tellDown : ByteArray := prog_10_method_2_code
def yX8_tellDown : MethodName := ⟨RX8, "tellDown", "(LBoxedvalue$Bound;J)V"⟩
abbrev cX8_tellUp : ByteArray := prog_10_method_3_code
def yX8_tellUp : MethodName := ⟨RX8, "tellUp", "(LBoxedvalue$Bound;J)V"⟩
abbrev cX8_assign : ByteArray := prog_10_method_4_code
def yX8_assign : MethodName := ⟨RX8, "assign", "(JJZ)V"⟩
abbrev cX8_turn : ByteArray := prog_10_method_5_code
def yX8_turn : MethodName := ⟨RX8, "turn", "()V"⟩
abbrev cX8_take : ByteArray := prog_10_method_6_code
def yX8_take : MethodName := ⟨RX8, "take", "(JI)V"⟩
abbrev cX8_takeText : ByteArray := prog_10_method_7_code
def yX8_takeText : MethodName := ⟨RX8, "takeText", "(LBoxedvalue$Text;)V"⟩
abbrev cX8_takeDigit : ByteArray := prog_10_method_8_code
def yX8_takeDigit : MethodName := ⟨RX8, "takeDigit", "(II)V"⟩
abbrev cX8_dropSign : ByteArray := prog_10_method_9_code
def yX8_dropSign : MethodName := ⟨RX8, "dropSign", "(LBoxedvalue$Bound;)Z"⟩
abbrev cX8_spread : ByteArray := prog_10_method_10_code
def yX8_spread : MethodName := ⟨RX8, "spread", "(LBoxedvalue$Bound;[J)V"⟩
abbrev cX8_product : ByteArray := prog_10_method_11_code
def yX8_product : MethodName := ⟨RX8, "product", "(LBoxedvalue$Bound;LBoxedvalue$Bound;)V"⟩
abbrev cX8_toPower : ByteArray := prog_10_method_12_code
def yX8_toPower : MethodName := ⟨RX8, "toPower", "(LBoxedvalue$Bound;I)V"⟩
abbrev cX8_raise : ByteArray := prog_10_method_13_code
def yX8_raise : MethodName := ⟨RX8, "raise", "(I)V"⟩
abbrev cX8_widen : ByteArray := prog_10_method_14_code
def yX8_widen : MethodName := ⟨RX8, "widen", "()V"⟩
abbrev cX8_wholeOfRow : ByteArray := prog_10_method_15_code
def yX8_wholeOfRow : MethodName := ⟨RX8, "wholeOfRow", "()J"⟩
abbrev cX8_settle : ByteArray := prog_10_method_16_code
def yX8_settle : MethodName := ⟨RX8, "settle", "()V"⟩
abbrev cX8_quotient : ByteArray := prog_10_method_17_code
def yX8_quotient : MethodName := ⟨RX8, "quotient", "(LBoxedvalue$Bound;LBoxedvalue$Bound;)V"⟩
abbrev cX8_align : ByteArray := prog_10_method_18_code
def yX8_align : MethodName := ⟨RX8, "align", "(LBoxedvalue$Bound;LBoxedvalue$Bound;)I"⟩
abbrev cX8_nextDigits : ByteArray := prog_10_method_19_code
def yX8_nextDigits : MethodName := ⟨RX8, "nextDigits", "(I)J"⟩
abbrev cX8_toRoot : ByteArray := prog_10_method_20_code
def yX8_toRoot : MethodName := ⟨RX8, "toRoot", "(LBoxedvalue$Bound;I)V"⟩
abbrev cX8_guessRoot : ByteArray := prog_10_method_21_code
def yX8_guessRoot : MethodName := ⟨RX8, "guessRoot", "(LBoxedvalue$Bound;I)J"⟩
abbrev cX8_powerOf : ByteArray := prog_10_method_22_code
def yX8_powerOf : MethodName := ⟨RX8, "powerOf", "(DI)D"⟩
def RX9 : String := "Boxedvalue$Shelves"
def TX9 : u_T := fun k => match k with
  | 0 => ("Boxedvalue$Shelves", "boxes", "[LBoxedvalue$Box;", true)
  | 1 => ("Boxedvalue$Shelves", "isHeld", "[Z", true)
  | 2 => ("Boxedvalue$Shelves", "keptBoxes", "[LBoxedvalue$Box;", true)
  | 3 => ("Boxedvalue$Shelves", "keptIsHeld", "[Z", true)
  | 4 => ("Boxedvalue$Shelves", "keptShelves", "[I", true)
  | 5 => ("Boxedvalue$Shelves", "oldest", "I", false)
  | _ => ("Boxedvalue$Shelves", "keptCount", "I", false)
def tyX9 : Nat → FieldType := fun k => match k with
  | 0 => .array (.object "Boxedvalue$Box")
  | 1 => .array .boolean
  | 2 => .array (.object "Boxedvalue$Box")
  | 3 => .array .boolean
  | 4 => .array .int
  | 5 => .int
  | _ => .int
abbrev wsX90 : List Cond := u_ws RX9 TX9 7
theorem nmX9 : ∀ a, a < 7 → ∀ b, b < 7 → a ≠ b → (TX9 a).2.1 ≠ (TX9 b).2.1 := by decide +kernel
theorem tyX9_ok : ∀ k, k < 7 → parseFieldDescriptor (TX9 k).2.2.1 = some (tyX9 k) := by decide +kernel
abbrev cX9_init : ByteArray := prog_11_method_1_code
def yX9_init : MethodName := ⟨RX9, "<init>", "()V"⟩
abbrev cX9_isShelf : ByteArray := prog_11_method_2_code
def yX9_isShelf : MethodName := ⟨RX9, "isShelf", "(I)Z"⟩
abbrev cX9_holds : ByteArray := prog_11_method_3_code
def yX9_holds : MethodName := ⟨RX9, "holds", "(I)Z"⟩
abbrev cX9_box : ByteArray := prog_11_method_4_code
def yX9_box : MethodName := ⟨RX9, "box", "(I)LBoxedvalue$Box;"⟩
abbrev cX9_fill : ByteArray := prog_11_method_5_code
def yX9_fill : MethodName := ⟨RX9, "fill", "(ILBoxedvalue$Box;)V"⟩
abbrev cX9_takeBack : ByteArray := prog_11_method_6_code
def yX9_takeBack : MethodName := ⟨RX9, "takeBack", "()I"⟩
def RX10 : String := "Boxedvalue$Text"
def TX10 : u_T := fun k => match k with
  | 0 => ("Boxedvalue$Text", "signs", "[C", true)
  | _ => ("Boxedvalue$Text", "count", "I", false)
def tyX10 : Nat → FieldType := fun k => match k with
  | 0 => .array .char
  | _ => .int
abbrev wsX100 : List Cond := u_ws RX10 TX10 2
theorem nmX10 : ∀ a, a < 2 → ∀ b, b < 2 → a ≠ b → (TX10 a).2.1 ≠ (TX10 b).2.1 := by decide +kernel
theorem tyX10_ok : ∀ k, k < 2 → parseFieldDescriptor (TX10 k).2.2.1 = some (tyX10 k) := by decide +kernel
abbrev cX10_init : ByteArray := prog_12_method_1_code
def yX10_init : MethodName := ⟨RX10, "<init>", "()V"⟩
abbrev cX10_clear : ByteArray := prog_12_method_2_code
def yX10_clear : MethodName := ⟨RX10, "clear", "()V"⟩
abbrev cX10_append : ByteArray := prog_12_method_3_code
def yX10_append : MethodName := ⟨RX10, "append", "(C)V"⟩
abbrev cX10_at : ByteArray := prog_12_method_4_code
def yX10_at : MethodName := ⟨RX10, "at", "(I)C"⟩
abbrev cX10_isDigitAt : ByteArray := prog_12_method_5_code
def yX10_isDigitAt : MethodName := ⟨RX10, "isDigitAt", "(I)Z"⟩
abbrev cX10_isNumber : ByteArray := prog_12_method_6_code
def yX10_isNumber : MethodName := ⟨RX10, "isNumber", "()Z"⟩
abbrev cX10_write : ByteArray := prog_12_method_7_code
def yX10_write : MethodName := ⟨RX10, "write", "(LBoxedvalue$Bound;)V"⟩
abbrev cX10_addedTo : ByteArray := prog_12_method_8_code
def yX10_addedTo : MethodName := ⟨RX10, "addedTo", "(J)J"⟩
def RX11 : String := "Boxedvalue"
def TX11 : u_T := fun k => match k with
  | 0 => ("Boxedvalue", "digits", "I", false)
  | 1 => ("Boxedvalue", "text", "LBoxedvalue$Text;", true)
  | 2 => ("Boxedvalue", "spareText", "LBoxedvalue$Text;", true)
  | 3 => ("Boxedvalue", "shelves", "LBoxedvalue$Shelves;", true)
  | 4 => ("Boxedvalue", "machine", "LBoxedvalue$Machine;", true)
  | 5 => ("Boxedvalue", "formulas", "[LBoxedvalue$Formula;", true)
  | 6 => ("Boxedvalue", "spareFormula", "LBoxedvalue$Formula;", false)
  | 7 => ("Boxedvalue", "found", "LBoxedvalue$Pieces;", true)
  | 8 => ("Boxedvalue", "pending", "LBoxedvalue$Pieces;", true)
  | 9 => ("Boxedvalue", "parts", "LBoxedvalue$Pieces;", true)
  | 10 => ("Boxedvalue", "otherParts", "LBoxedvalue$Pieces;", true)
  | 11 => ("Boxedvalue", "first", "LBoxedvalue$Box;", true)
  | 12 => ("Boxedvalue", "second", "LBoxedvalue$Box;", true)
  | 13 => ("Boxedvalue", "third", "LBoxedvalue$Box;", true)
  | 14 => ("Boxedvalue", "fourth", "LBoxedvalue$Box;", true)
  | 15 => ("Boxedvalue", "span", "LBoxedvalue$Bound;", true)
  | _ => ("Boxedvalue", "otherSpan", "LBoxedvalue$Bound;", true)
def tyX11 : Nat → FieldType := fun k => match k with
  | 0 => .int
  | 1 => .object "Boxedvalue$Text"
  | 2 => .object "Boxedvalue$Text"
  | 3 => .object "Boxedvalue$Shelves"
  | 4 => .object "Boxedvalue$Machine"
  | 5 => .array (.object "Boxedvalue$Formula")
  | 6 => .object "Boxedvalue$Formula"
  | 7 => .object "Boxedvalue$Pieces"
  | 8 => .object "Boxedvalue$Pieces"
  | 9 => .object "Boxedvalue$Pieces"
  | 10 => .object "Boxedvalue$Pieces"
  | 11 => .object "Boxedvalue$Box"
  | 12 => .object "Boxedvalue$Box"
  | 13 => .object "Boxedvalue$Box"
  | 14 => .object "Boxedvalue$Box"
  | 15 => .object "Boxedvalue$Bound"
  | _ => .object "Boxedvalue$Bound"
abbrev wsX110 : List Cond := u_ws RX11 TX11 17
theorem nmX11 : ∀ a, a < 17 → ∀ b, b < 17 → a ≠ b → (TX11 a).2.1 ≠ (TX11 b).2.1 := by decide +kernel
theorem tyX11_ok : ∀ k, k < 17 → parseFieldDescriptor (TX11 k).2.2.1 = some (tyX11 k) := by decide +kernel
abbrev cX11_init : ByteArray := prog_1_method_1_code
def yX11_init : MethodName := ⟨RX11, "<init>", "()V"⟩
abbrev cX11_setDigits : ByteArray := prog_1_method_2_code
def yX11_setDigits : MethodName := ⟨RX11, "setDigits", "(I)I"⟩
abbrev cX11_digits : ByteArray := prog_1_method_3_code
def yX11_digits : MethodName := ⟨RX11, "digits", "()I"⟩
abbrev cX11_type : ByteArray := prog_1_method_4_code
def yX11_type : MethodName := ⟨RX11, "type", "(C)I"⟩
abbrev cX11_erase : ByteArray := prog_1_method_5_code
def yX11_erase : MethodName := ⟨RX11, "erase", "()I"⟩
abbrev cX11_signAt : ByteArray := prog_1_method_6_code
def yX11_signAt : MethodName := ⟨RX11, "signAt", "(I)C"⟩
abbrev cX11_put : ByteArray := prog_1_method_7_code
def yX11_put : MethodName := ⟨RX11, "put", "(IJI)Z"⟩
abbrev cX11_read : ByteArray := prog_1_method_8_code
def yX11_read : MethodName := ⟨RX11, "read", "(I)Z"⟩
abbrev cX11_constant : ByteArray := prog_1_method_9_code
def yX11_constant : MethodName := ⟨RX11, "constant", "(IC)Z"⟩
abbrev cX11_join : ByteArray := prog_1_method_10_code
def yX11_join : MethodName := ⟨RX11, "join", "(III)Z"⟩
abbrev cX11_meet : ByteArray := prog_1_method_11_code
def yX11_meet : MethodName := ⟨RX11, "meet", "(III)Z"⟩
abbrev cX11_low : ByteArray := prog_1_method_12_code
def yX11_low : MethodName := ⟨RX11, "low", "(I)I"⟩
abbrev cX11_high : ByteArray := prog_1_method_13_code
def yX11_high : MethodName := ⟨RX11, "high", "(I)I"⟩
abbrev cX11_width : ByteArray := prog_1_method_14_code
def yX11_width : MethodName := ⟨RX11, "width", "(I)I"⟩
abbrev cX11_isWithin : ByteArray := prog_1_method_15_code
def yX11_isWithin : MethodName := ⟨RX11, "isWithin", "(II)Z"⟩
abbrev cX11_compare : ByteArray := prog_1_method_16_code
def yX11_compare : MethodName := ⟨RX11, "compare", "(II)I"⟩
abbrev cX11_sure : ByteArray := prog_1_method_17_code
def yX11_sure : MethodName := ⟨RX11, "sure", "(I)I"⟩
abbrev cX11_undo : ByteArray := prog_1_method_18_code
def yX11_undo : MethodName := ⟨RX11, "undo", "()I"⟩
abbrev cX11_add : ByteArray := prog_1_method_19_code
def yX11_add : MethodName := ⟨RX11, "add", "(III)Z"⟩
abbrev cX11_subtract : ByteArray := prog_1_method_20_code
def yX11_subtract : MethodName := ⟨RX11, "subtract", "(III)Z"⟩
abbrev cX11_multiply : ByteArray := prog_1_method_21_code
def yX11_multiply : MethodName := ⟨RX11, "multiply", "(III)Z"⟩
abbrev cX11_divide : ByteArray := prog_1_method_22_code
def yX11_divide : MethodName := ⟨RX11, "divide", "(III)Z"⟩
abbrev cX11_power : ByteArray := prog_1_method_23_code
def yX11_power : MethodName := ⟨RX11, "power", "(III)Z"⟩
abbrev cX11_root : ByteArray := prog_1_method_24_code
def yX11_root : MethodName := ⟨RX11, "root", "(III)Z"⟩
abbrev cX11_apply : ByteArray := prog_1_method_25_code
def yX11_apply : MethodName := ⟨RX11, "apply", "(IIC)Z"⟩
abbrev cX11_solve : ByteArray := prog_1_method_26_code
def yX11_solve : MethodName := ⟨RX11, "solve", "(IIZ)Z"⟩
abbrev cX11_define : ByteArray := prog_1_method_27_code
def yX11_define : MethodName := ⟨RX11, "define", "(I)I"⟩
abbrev cX11_hasY : ByteArray := prog_1_method_28_code
def yX11_hasY : MethodName := ⟨RX11, "hasY", "(I)Z"⟩
abbrev cX11_value : ByteArray := prog_1_method_29_code
def yX11_value : MethodName := ⟨RX11, "value", "(IIII)Z"⟩
abbrev cX11_slope : ByteArray := prog_1_method_30_code
def yX11_slope : MethodName := ⟨RX11, "slope", "(IIII)Z"⟩
abbrev cX11_decide : ByteArray := prog_1_method_31_code
def yX11_decide : MethodName := ⟨RX11, "decide", "(III)I"⟩
abbrev cX11_zeros : ByteArray := prog_1_method_32_code
def yX11_zeros : MethodName := ⟨RX11, "zeros", "(III)I"⟩
abbrev cX11_pieceKind : ByteArray := prog_1_method_33_code
def yX11_pieceKind : MethodName := ⟨RX11, "pieceKind", "(I)C"⟩
abbrev cX11_piece : ByteArray := prog_1_method_34_code
def yX11_piece : MethodName := ⟨RX11, "piece", "(II)Z"⟩
abbrev cX11_narrow : ByteArray := prog_1_method_35_code
def yX11_narrow : MethodName := ⟨RX11, "narrow", "(III)Z"⟩
abbrev cX11_pairs : ByteArray := prog_1_method_36_code
def yX11_pairs : MethodName := ⟨RX11, "pairs", "(IIIII)I"⟩
abbrev cX11_least : ByteArray := prog_1_method_37_code
def yX11_least : MethodName := ⟨RX11, "least", "(IIII)Z"⟩
abbrev cX11_greatest : ByteArray := prog_1_method_38_code
def yX11_greatest : MethodName := ⟨RX11, "greatest", "(IIII)Z"⟩
abbrev cX11_area : ByteArray := prog_1_method_39_code
def yX11_area : MethodName := ⟨RX11, "area", "(IIII)Z"⟩
abbrev cX11_move : ByteArray := prog_1_method_40_code
def yX11_move : MethodName := ⟨RX11, "move", "(IIII)Z"⟩
abbrev cX11_held : ByteArray := prog_1_method_41_code
def yX11_held : MethodName := ⟨RX11, "held", "()I"⟩
abbrev cX11_checksum : ByteArray := prog_1_method_42_code
def yX11_checksum : MethodName := ⟨RX11, "checksum", "()J"⟩
abbrev cX11_isSound : ByteArray := prog_1_method_43_code
def yX11_isSound : MethodName := ⟨RX11, "isSound", "()Z"⟩
abbrev cX11_checkShelf : ByteArray := prog_1_method_44_code
def yX11_checkShelf : MethodName := ⟨RX11, "checkShelf", "(I)V"⟩
abbrev cX11_checkShelves : ByteArray := prog_1_method_45_code
def yX11_checkShelves : MethodName := ⟨RX11, "checkShelves", "(III)V"⟩
abbrev cX11_checkHeld : ByteArray := prog_1_method_46_code
def yX11_checkHeld : MethodName := ⟨RX11, "checkHeld", "(I)V"⟩
abbrev cX11_checkPair : ByteArray := prog_1_method_47_code
def yX11_checkPair : MethodName := ⟨RX11, "checkPair", "(II)V"⟩
abbrev cX11_checkFormula : ByteArray := prog_1_method_48_code
def yX11_checkFormula : MethodName := ⟨RX11, "checkFormula", "(I)V"⟩
abbrev cX11_checkDefined : ByteArray := prog_1_method_49_code
def yX11_checkDefined : MethodName := ⟨RX11, "checkDefined", "(I)V"⟩
abbrev cX11_checkNoY : ByteArray := prog_1_method_50_code
def yX11_checkNoY : MethodName := ⟨RX11, "checkNoY", "(I)V"⟩
abbrev cX11_checkCuts : ByteArray := prog_1_method_51_code
def yX11_checkCuts : MethodName := ⟨RX11, "checkCuts", "(II)V"⟩
abbrev cX11_checkPiece : ByteArray := prog_1_method_52_code
def yX11_checkPiece : MethodName := ⟨RX11, "checkPiece", "(I)V"⟩
abbrev cX11_checkFormulaCall : ByteArray := prog_1_method_53_code
def yX11_checkFormulaCall : MethodName := ⟨RX11, "checkFormulaCall", "(IIII)V"⟩
abbrev cX11_checkBoundsCall : ByteArray := prog_1_method_54_code
def yX11_checkBoundsCall : MethodName := ⟨RX11, "checkBoundsCall", "(IIII)V"⟩
abbrev cX11_checkStatus : ByteArray := prog_1_method_55_code
def yX11_checkStatus : MethodName := ⟨RX11, "checkStatus", "(I)V"⟩
abbrev cX11_become : ByteArray := prog_1_method_56_code
def yX11_become : MethodName := ⟨RX11, "become", "(II)Z"⟩
abbrev cX11_fill : ByteArray := prog_1_method_57_code
def yX11_fill : MethodName := ⟨RX11, "fill", "(ILBoxedvalue$Box;)Z"⟩
abbrev cX11_combine : ByteArray := prog_1_method_58_code
def yX11_combine : MethodName := ⟨RX11, "combine", "(IIIC)Z"⟩
abbrev cX11_change : ByteArray := prog_1_method_59_code
def yX11_change : MethodName := ⟨RX11, "change", "(IICI)Z"⟩
abbrev cX11_crossed : ByteArray := prog_1_method_60_code
def yX11_crossed : MethodName := ⟨RX11, "crossed", "(IIII)I"⟩
abbrev cX11_sideOf : ByteArray := prog_1_method_61_code
def yX11_sideOf : MethodName := ⟨RX11, "sideOf", "(LBoxedvalue$Formula;LBoxedvalue$Formula;LBoxedvalue$Box;)I"⟩
abbrev cX11_canBeZero : ByteArray := prog_1_method_62_code
def yX11_canBeZero : MethodName := ⟨RX11, "canBeZero", "(LBoxedvalue$Formula;)Z"⟩
abbrev cX11_judge : ByteArray := prog_1_method_63_code
def yX11_judge : MethodName := ⟨RX11, "judge", "(LBoxedvalue$Formula;LBoxedvalue$Box;)C"⟩
abbrev cX11_kindByEnds : ByteArray := prog_1_method_64_code
def yX11_kindByEnds : MethodName := ⟨RX11, "kindByEnds", "(LBoxedvalue$Box;LBoxedvalue$Box;)C"⟩
abbrev cX11_makeNarrowed : ByteArray := prog_1_method_65_code
def yX11_makeNarrowed : MethodName := ⟨RX11, "makeNarrowed", "(LBoxedvalue$Formula;LBoxedvalue$Box;)I"⟩
abbrev cX11_seekExtreme : ByteArray := prog_1_method_66_code
def yX11_seekExtreme : MethodName := ⟨RX11, "seekExtreme", "(LBoxedvalue$Formula;LBoxedvalue$Box;IZ)I"⟩
abbrev cX11_takeExtreme : ByteArray := prog_1_method_67_code
def yX11_takeExtreme : MethodName := ⟨RX11, "takeExtreme", "(LBoxedvalue$Box;LBoxedvalue$Box;ZZ)V"⟩
abbrev cX11_sumUp : ByteArray := prog_1_method_68_code
def yX11_sumUp : MethodName := ⟨RX11, "sumUp", "(LBoxedvalue$Formula;LBoxedvalue$Box;I)I"⟩
abbrev cX11_makeMoved : ByteArray := prog_1_method_69_code
def yX11_makeMoved : MethodName := ⟨RX11, "makeMoved", "(LBoxedvalue$Formula;LBoxedvalue$Box;I)I"⟩
abbrev cX11_makeAlong : ByteArray := prog_1_method_70_code
def yX11_makeAlong : MethodName := ⟨RX11, "makeAlong", "(LBoxedvalue$Box;LBoxedvalue$Box;LBoxedvalue$Box;)I"⟩
abbrev cX11_isConstantSound : ByteArray := prog_1_method_71_code
def yX11_isConstantSound : MethodName := ⟨RX11, "isConstantSound", "(C)Z"⟩
abbrev cX11_isValueSound : ByteArray := prog_1_method_72_code
def yX11_isValueSound : MethodName := ⟨RX11, "isValueSound", "(LBoxedvalue$Formula;LBoxedvalue$Box;)Z"⟩
abbrev cX11_unitOf : ByteArray := prog_1_method_73_code
def yX11_unitOf : MethodName := ⟨RX11, "unitOf", "(I)J"⟩
def RX12 : String := "BoxedvalueModel"
def TX12 : u_T := fun k => match k with
  | 0 => ("BoxedvalueModel", "limbs", "[J", true)
  | 1 => ("BoxedvalueModel", "many", "[I", true)
  | 2 => ("BoxedvalueModel", "digits", "I", false)
  | 3 => ("BoxedvalueModel", "code", "I", false)
  | 4 => ("BoxedvalueModel", "upper", "J", false)
  | 5 => ("BoxedvalueModel", "lower", "J", false)
  | 6 => ("BoxedvalueModel", "lowUpper", "[J", true)
  | 7 => ("BoxedvalueModel", "lowLower", "[J", true)
  | 8 => ("BoxedvalueModel", "highUpper", "[J", true)
  | 9 => ("BoxedvalueModel", "highLower", "[J", true)
  | 10 => ("BoxedvalueModel", "has", "[Z", true)
  | 11 => ("BoxedvalueModel", "free", "I", false)
  | 12 => ("BoxedvalueModel", "hasPi", "Z", false)
  | 13 => ("BoxedvalueModel", "hasLog", "Z", false)
  | 14 => ("BoxedvalueModel", "hasBase", "Z", false)
  | 15 => ("BoxedvalueModel", "text", "[C", true)
  | 16 => ("BoxedvalueModel", "spelled", "[C", true)
  | 17 => ("BoxedvalueModel", "length", "I", false)
  | 18 => ("BoxedvalueModel", "letters", "I", false)
  | 19 => ("BoxedvalueModel", "keptShelves", "[I", true)
  | 20 => ("BoxedvalueModel", "keptHas", "[Z", true)
  | 21 => ("BoxedvalueModel", "keptLowUpper", "[J", true)
  | 22 => ("BoxedvalueModel", "keptLowLower", "[J", true)
  | 23 => ("BoxedvalueModel", "keptHighUpper", "[J", true)
  | 24 => ("BoxedvalueModel", "keptHighLower", "[J", true)
  | 25 => ("BoxedvalueModel", "kept", "I", false)
  | 26 => ("BoxedvalueModel", "kinds", "[C", true)
  | 27 => ("BoxedvalueModel", "lefts", "[I", true)
  | 28 => ("BoxedvalueModel", "rights", "[I", true)
  | 29 => ("BoxedvalueModel", "points", "[I", true)
  | 30 => ("BoxedvalueModel", "numbers", "[J", true)
  | 31 => ("BoxedvalueModel", "roots", "[I", true)
  | 32 => ("BoxedvalueModel", "sizes", "[I", true)
  | 33 => ("BoxedvalueModel", "isDefined", "[Z", true)
  | 34 => ("BoxedvalueModel", "at", "I", false)
  | 35 => ("BoxedvalueModel", "parts", "I", false)
  | 36 => ("BoxedvalueModel", "fault", "I", false)
  | 37 => ("BoxedvalueModel", "xBox", "I", false)
  | 38 => ("BoxedvalueModel", "yBox", "I", false)
  | 39 => ("BoxedvalueModel", "found", "[C", true)
  | 40 => ("BoxedvalueModel", "next", "[C", true)
  | 41 => ("BoxedvalueModel", "pieces", "I", false)
  | _ => ("BoxedvalueModel", "nexts", "I", false)
def tyX12 : Nat → FieldType := fun k => match k with
  | 0 => .array .long
  | 1 => .array .int
  | 2 => .int
  | 3 => .int
  | 4 => .long
  | 5 => .long
  | 6 => .array .long
  | 7 => .array .long
  | 8 => .array .long
  | 9 => .array .long
  | 10 => .array .boolean
  | 11 => .int
  | 12 => .boolean
  | 13 => .boolean
  | 14 => .boolean
  | 15 => .array .char
  | 16 => .array .char
  | 17 => .int
  | 18 => .int
  | 19 => .array .int
  | 20 => .array .boolean
  | 21 => .array .long
  | 22 => .array .long
  | 23 => .array .long
  | 24 => .array .long
  | 25 => .int
  | 26 => .array .char
  | 27 => .array .int
  | 28 => .array .int
  | 29 => .array .int
  | 30 => .array .long
  | 31 => .array .int
  | 32 => .array .int
  | 33 => .array .boolean
  | 34 => .int
  | 35 => .int
  | 36 => .int
  | 37 => .int
  | 38 => .int
  | 39 => .array .char
  | 40 => .array .char
  | 41 => .int
  | _ => .int
abbrev wsX120 : List Cond := u_ws RX12 TX12 43
theorem nmX12 : ∀ a, a < 43 → ∀ b, b < 43 → a ≠ b → (TX12 a).2.1 ≠ (TX12 b).2.1 := by decide +kernel
theorem tyX12_ok : ∀ k, k < 43 → parseFieldDescriptor (TX12 k).2.2.1 = some (tyX12 k) := by decide +kernel
abbrev cX12_init : ByteArray := prog_14_method_1_code
def yX12_init : MethodName := ⟨RX12, "<init>", "()V"⟩
abbrev cX12_limb : ByteArray := prog_14_method_2_code
def yX12_limb : MethodName := ⟨RX12, "limb", "(II)J"⟩
abbrev cX12_lets : ByteArray := prog_14_method_3_code
def yX12_lets : MethodName := ⟨RX12, "lets", "(IIJ)V"⟩
abbrev cX12_trims : ByteArray := prog_14_method_4_code
def yX12_trims : MethodName := ⟨RX12, "trims", "(I)V"⟩
abbrev cX12_sets : ByteArray := prog_14_method_5_code
def yX12_sets : MethodName := ⟨RX12, "sets", "(IJJ)V"⟩
abbrev cX12_copies : ByteArray := prog_14_method_6_code
def yX12_copies : MethodName := ⟨RX12, "copies", "(II)V"⟩
abbrev cX12_compares : ByteArray := prog_14_method_7_code
def yX12_compares : MethodName := ⟨RX12, "compares", "(II)I"⟩
abbrev cX12_plus : ByteArray := prog_14_method_8_code
def yX12_plus : MethodName := ⟨RX12, "plus", "(II)V"⟩
abbrev cX12_less : ByteArray := prog_14_method_9_code
def yX12_less : MethodName := ⟨RX12, "less", "(II)V"⟩
abbrev cX12_scales : ByteArray := prog_14_method_10_code
def yX12_scales : MethodName := ⟨RX12, "scales", "(IJ)V"⟩
abbrev cX12_parts : ByteArray := prog_14_method_11_code
def yX12_parts : MethodName := ⟨RX12, "parts", "(IJ)J"⟩
abbrev cX12_times : ByteArray := prog_14_method_12_code
def yX12_times : MethodName := ⟨RX12, "times", "(II)V"⟩
abbrev cX12_shifts : ByteArray := prog_14_method_13_code
def yX12_shifts : MethodName := ⟨RX12, "shifts", "(II)V"⟩
abbrev cX12_ten : ByteArray := prog_14_method_14_code
def yX12_ten : MethodName := ⟨RX12, "ten", "(I)J"⟩
abbrev cX12_tens : ByteArray := prog_14_method_15_code
def yX12_tens : MethodName := ⟨RX12, "tens", "(II)Z"⟩
abbrev cX12_divides : ByteArray := prog_14_method_16_code
def yX12_divides : MethodName := ⟨RX12, "divides", "()V"⟩
abbrev cX12_thrown : ByteArray := prog_14_method_17_code
def yX12_thrown : MethodName := ⟨RX12, "thrown", "()I"⟩
abbrev cX12_fails : ByteArray := prog_14_method_18_code
def yX12_fails : MethodName := ⟨RX12, "fails", "(I)Z"⟩
abbrev cX12_in : ByteArray := prog_14_method_19_code
def yX12_in : MethodName := ⟨RX12, "in", "(JJJ)Z"⟩
abbrev cX12_modulo : ByteArray := prog_14_method_20_code
def yX12_modulo : MethodName := ⟨RX12, "modulo", "(JJ)J"⟩
abbrev cX12_order : ByteArray := prog_14_method_21_code
def yX12_order : MethodName := ⟨RX12, "order", "(JJJJ)I"⟩
abbrev cX12_isTooGreat : ByteArray := prog_14_method_22_code
def yX12_isTooGreat : MethodName := ⟨RX12, "isTooGreat", "()Z"⟩
abbrev cX12_rounds : ByteArray := prog_14_method_23_code
def yX12_rounds : MethodName := ⟨RX12, "rounds", "(IZ)V"⟩
abbrev cX12_turns : ByteArray := prog_14_method_24_code
def yX12_turns : MethodName := ⟨RX12, "turns", "()V"⟩
abbrev cX12_tells : ByteArray := prog_14_method_25_code
def yX12_tells : MethodName := ⟨RX12, "tells", "(IZZZ)Z"⟩
abbrev cX12_isSingle : ByteArray := prog_14_method_26_code
def yX12_isSingle : MethodName := ⟨RX12, "isSingle", "(I)Z"⟩
abbrev cX12_takes : ByteArray := prog_14_method_27_code
def yX12_takes : MethodName := ⟨RX12, "takes", "(II)V"⟩
abbrev cX12_low : ByteArray := prog_14_method_28_code
def yX12_low : MethodName := ⟨RX12, "low", "(IJJ)V"⟩
abbrev cX12_high : ByteArray := prog_14_method_29_code
def yX12_high : MethodName := ⟨RX12, "high", "(IJJ)V"⟩
abbrev cX12_single : ByteArray := prog_14_method_30_code
def yX12_single : MethodName := ⟨RX12, "single", "(IJJ)V"⟩
abbrev cX12_isBelow : ByteArray := prog_14_method_31_code
def yX12_isBelow : MethodName := ⟨RX12, "isBelow", "(I)Z"⟩
abbrev cX12_holdsNothing : ByteArray := prog_14_method_32_code
def yX12_holdsNothing : MethodName := ⟨RX12, "holdsNothing", "(I)Z"⟩
abbrev cX12_holds0 : ByteArray := prog_14_method_33_code
def yX12_holds0 : MethodName := ⟨RX12, "holds0", "(I)Z"⟩
abbrev cX12_isAbove0 : ByteArray := prog_14_method_34_code
def yX12_isAbove0 : MethodName := ⟨RX12, "isAbove0", "(I)Z"⟩
abbrev cX12_isBelow0 : ByteArray := prog_14_method_35_code
def yX12_isBelow0 : MethodName := ⟨RX12, "isBelow0", "(I)Z"⟩
abbrev cX12_size : ByteArray := prog_14_method_36_code
def yX12_size : MethodName := ⟨RX12, "size", "(IJJ)V"⟩
abbrev cX12_adds : ByteArray := prog_14_method_37_code
def yX12_adds : MethodName := ⟨RX12, "adds", "(JJJJZ)Z"⟩
abbrev cX12_sum : ByteArray := prog_14_method_38_code
def yX12_sum : MethodName := ⟨RX12, "sum", "(III)I"⟩
abbrev cX12_turned : ByteArray := prog_14_method_39_code
def yX12_turned : MethodName := ⟨RX12, "turned", "(II)V"⟩
abbrev cX12_difference : ByteArray := prog_14_method_40_code
def yX12_difference : MethodName := ⟨RX12, "difference", "(III)I"⟩
abbrev cX12_again : ByteArray := prog_14_method_41_code
def yX12_again : MethodName := ⟨RX12, "again", "(II)I"⟩
abbrev cX12_negative : ByteArray := prog_14_method_42_code
def yX12_negative : MethodName := ⟨RX12, "negative", "(II)I"⟩
abbrev cX12_unsigned : ByteArray := prog_14_method_43_code
def yX12_unsigned : MethodName := ⟨RX12, "unsigned", "(II)I"⟩
abbrev cX12_pair : ByteArray := prog_14_method_44_code
def yX12_pair : MethodName := ⟨RX12, "pair", "(IZIZZZ)Z"⟩
abbrev cX12_four : ByteArray := prog_14_method_45_code
def yX12_four : MethodName := ⟨RX12, "four", "(IIIZ)I"⟩
abbrev cX12_product : ByteArray := prog_14_method_46_code
def yX12_product : MethodName := ⟨RX12, "product", "(III)I"⟩
abbrev cX12_quotient : ByteArray := prog_14_method_47_code
def yX12_quotient : MethodName := ⟨RX12, "quotient", "(III)I"⟩
abbrev cX12_powers : ByteArray := prog_14_method_48_code
def yX12_powers : MethodName := ⟨RX12, "powers", "(JJIZ)Z"⟩
abbrev cX12_lifted : ByteArray := prog_14_method_49_code
def yX12_lifted : MethodName := ⟨RX12, "lifted", "(III)I"⟩
abbrev cX12_roots : ByteArray := prog_14_method_50_code
def yX12_roots : MethodName := ⟨RX12, "roots", "(JJIZ)Z"⟩
abbrev cX12_rooted : ByteArray := prog_14_method_51_code
def yX12_rooted : MethodName := ⟨RX12, "rooted", "(III)I"⟩
abbrev cX12_unit : ByteArray := prog_14_method_52_code
def yX12_unit : MethodName := ⟨RX12, "unit", "(I)V"⟩
abbrev cX12_odds : ByteArray := prog_14_method_53_code
def yX12_odds : MethodName := ⟨RX12, "odds", "(IJZ)V"⟩
abbrev cX12_needsPi : ByteArray := prog_14_method_54_code
def yX12_needsPi : MethodName := ⟨RX12, "needsPi", "()V"⟩
abbrev cX12_needsLog : ByteArray := prog_14_method_55_code
def yX12_needsLog : MethodName := ⟨RX12, "needsLog", "()V"⟩
abbrev cX12_series : ByteArray := prog_14_method_56_code
def yX12_series : MethodName := ⟨RX12, "series", "()V"⟩
abbrev cX12_needsBase : ByteArray := prog_14_method_57_code
def yX12_needsBase : MethodName := ⟨RX12, "needsBase", "()V"⟩
abbrev cX12_deep : ByteArray := prog_14_method_58_code
def yX12_deep : MethodName := ⟨RX12, "deep", "(IZZ)Z"⟩
abbrev cX12_raises : ByteArray := prog_14_method_59_code
def yX12_raises : MethodName := ⟨RX12, "raises", "(JJZ)Z"⟩
abbrev cX12_logs : ByteArray := prog_14_method_60_code
def yX12_logs : MethodName := ⟨RX12, "logs", "(JJZ)Z"⟩
abbrev cX12_arcs : ByteArray := prog_14_method_61_code
def yX12_arcs : MethodName := ⟨RX12, "arcs", "(JJZ)Z"⟩
abbrev cX12_rises : ByteArray := prog_14_method_62_code
def yX12_rises : MethodName := ⟨RX12, "rises", "(CJJZ)Z"⟩
abbrev cX12_rising : ByteArray := prog_14_method_63_code
def yX12_rising : MethodName := ⟨RX12, "rising", "(IIC)I"⟩
abbrev cX12_known : ByteArray := prog_14_method_64_code
def yX12_known : MethodName := ⟨RX12, "known", "(IZ)V"⟩
abbrev cX12_number : ByteArray := prog_14_method_65_code
def yX12_number : MethodName := ⟨RX12, "number", "(IIIZ)I"⟩
abbrev cX12_setDigits : ByteArray := prog_14_method_66_code
def yX12_setDigits : MethodName := ⟨RX12, "setDigits", "(I)I"⟩
abbrev cX12_digits : ByteArray := prog_14_method_67_code
def yX12_digits : MethodName := ⟨RX12, "digits", "()I"⟩
abbrev cX12_type : ByteArray := prog_14_method_68_code
def yX12_type : MethodName := ⟨RX12, "type", "(C)I"⟩
abbrev cX12_erase : ByteArray := prog_14_method_69_code
def yX12_erase : MethodName := ⟨RX12, "erase", "()I"⟩
abbrev cX12_signAt : ByteArray := prog_14_method_70_code
def yX12_signAt : MethodName := ⟨RX12, "signAt", "(I)C"⟩
abbrev cX12_spells : ByteArray := prog_14_method_71_code
def yX12_spells : MethodName := ⟨RX12, "spells", "(JJ)V"⟩
abbrev cX12_writes : ByteArray := prog_14_method_72_code
def yX12_writes : MethodName := ⟨RX12, "writes", "(JJ)I"⟩
abbrev cX12_isDigit : ByteArray := prog_14_method_73_code
def yX12_isDigit : MethodName := ⟨RX12, "isDigit", "(C)Z"⟩
abbrev cX12_isShelf : ByteArray := prog_14_method_74_code
def yX12_isShelf : MethodName := ⟨RX12, "isShelf", "(I)Z"⟩
abbrev cX12_becomes : ByteArray := prog_14_method_75_code
def yX12_becomes : MethodName := ⟨RX12, "becomes", "(II)Z"⟩
abbrev cX12_undo : ByteArray := prog_14_method_76_code
def yX12_undo : MethodName := ⟨RX12, "undo", "()I"⟩
abbrev cX12_put : ByteArray := prog_14_method_77_code
def yX12_put : MethodName := ⟨RX12, "put", "(IJI)Z"⟩
abbrev cX12_scaleOf : ByteArray := prog_14_method_78_code
def yX12_scaleOf : MethodName := ⟨RX12, "scaleOf", "()I"⟩
abbrev cX12_read : ByteArray := prog_14_method_79_code
def yX12_read : MethodName := ⟨RX12, "read", "(I)Z"⟩
abbrev cX12_constant : ByteArray := prog_14_method_80_code
def yX12_constant : MethodName := ⟨RX12, "constant", "(IC)Z"⟩
abbrev cX12_noPair : ByteArray := prog_14_method_81_code
def yX12_noPair : MethodName := ⟨RX12, "noPair", "(III)I"⟩
abbrev cX12_joins : ByteArray := prog_14_method_82_code
def yX12_joins : MethodName := ⟨RX12, "joins", "(IIIZ)Z"⟩
abbrev cX12_join : ByteArray := prog_14_method_83_code
def yX12_join : MethodName := ⟨RX12, "join", "(III)Z"⟩
abbrev cX12_meet : ByteArray := prog_14_method_84_code
def yX12_meet : MethodName := ⟨RX12, "meet", "(III)Z"⟩
abbrev cX12_noBox : ByteArray := prog_14_method_85_code
def yX12_noBox : MethodName := ⟨RX12, "noBox", "(I)I"⟩
abbrev cX12_low_ : ByteArray := prog_14_method_86_code
def yX12_low_ : MethodName := ⟨RX12, "low", "(I)I"⟩
abbrev cX12_high_ : ByteArray := prog_14_method_87_code
def yX12_high_ : MethodName := ⟨RX12, "high", "(I)I"⟩
abbrev cX12_spans : ByteArray := prog_14_method_88_code
def yX12_spans : MethodName := ⟨RX12, "spans", "(I)V"⟩
abbrev cX12_width : ByteArray := prog_14_method_89_code
def yX12_width : MethodName := ⟨RX12, "width", "(I)I"⟩
abbrev cX12_isWithinOf : ByteArray := prog_14_method_90_code
def yX12_isWithinOf : MethodName := ⟨RX12, "isWithinOf", "(II)Z"⟩
abbrev cX12_isWithin : ByteArray := prog_14_method_91_code
def yX12_isWithin : MethodName := ⟨RX12, "isWithin", "(II)Z"⟩
abbrev cX12_isLess : ByteArray := prog_14_method_92_code
def yX12_isLess : MethodName := ⟨RX12, "isLess", "(II)Z"⟩
abbrev cX12_compare : ByteArray := prog_14_method_93_code
def yX12_compare : MethodName := ⟨RX12, "compare", "(II)I"⟩
abbrev cX12_sure : ByteArray := prog_14_method_94_code
def yX12_sure : MethodName := ⟨RX12, "sure", "(I)I"⟩
abbrev cX12_makes : ByteArray := prog_14_method_95_code
def yX12_makes : MethodName := ⟨RX12, "makes", "(IIII)Z"⟩
abbrev cX12_add : ByteArray := prog_14_method_96_code
def yX12_add : MethodName := ⟨RX12, "add", "(III)Z"⟩
abbrev cX12_subtract : ByteArray := prog_14_method_97_code
def yX12_subtract : MethodName := ⟨RX12, "subtract", "(III)Z"⟩
abbrev cX12_multiply : ByteArray := prog_14_method_98_code
def yX12_multiply : MethodName := ⟨RX12, "multiply", "(III)Z"⟩
abbrev cX12_divide : ByteArray := prog_14_method_99_code
def yX12_divide : MethodName := ⟨RX12, "divide", "(III)Z"⟩
abbrev cX12_acts : ByteArray := prog_14_method_100_code
def yX12_acts : MethodName := ⟨RX12, "acts", "(ICII)I"⟩
abbrev cX12_made : ByteArray := prog_14_method_101_code
def yX12_made : MethodName := ⟨RX12, "made", "(ICII)Z"⟩
abbrev cX12_power : ByteArray := prog_14_method_102_code
def yX12_power : MethodName := ⟨RX12, "power", "(III)Z"⟩
abbrev cX12_root : ByteArray := prog_14_method_103_code
def yX12_root : MethodName := ⟨RX12, "root", "(III)Z"⟩
abbrev cX12_apply : ByteArray := prog_14_method_104_code
def yX12_apply : MethodName := ⟨RX12, "apply", "(IIC)Z"⟩
abbrev cX12_crossed : ByteArray := prog_14_method_105_code
def yX12_crossed : MethodName := ⟨RX12, "crossed", "(IIIII)I"⟩
abbrev cX12_solve : ByteArray := prog_14_method_106_code
def yX12_solve : MethodName := ⟨RX12, "solve", "(IIZ)Z"⟩
abbrev cX12_isFormula : ByteArray := prog_14_method_107_code
def yX12_isFormula : MethodName := ⟨RX12, "isFormula", "(I)Z"⟩
abbrev cX12_sign : ByteArray := prog_14_method_108_code
def yX12_sign : MethodName := ⟨RX12, "sign", "()C"⟩
abbrev cX12_part : ByteArray := prog_14_method_109_code
def yX12_part : MethodName := ⟨RX12, "part", "(CII)I"⟩
abbrev cX12_faults : ByteArray := prog_14_method_110_code
def yX12_faults : MethodName := ⟨RX12, "faults", "()I"⟩
abbrev cX12_readSum : ByteArray := prog_14_method_111_code
def yX12_readSum : MethodName := ⟨RX12, "readSum", "()I"⟩
abbrev cX12_readProduct : ByteArray := prog_14_method_112_code
def yX12_readProduct : MethodName := ⟨RX12, "readProduct", "()I"⟩
abbrev cX12_readPower : ByteArray := prog_14_method_113_code
def yX12_readPower : MethodName := ⟨RX12, "readPower", "()I"⟩
abbrev cX12_readAtom : ByteArray := prog_14_method_114_code
def yX12_readAtom : MethodName := ⟨RX12, "readAtom", "()I"⟩
abbrev cX12_readNumber : ByteArray := prog_14_method_115_code
def yX12_readNumber : MethodName := ⟨RX12, "readNumber", "()I"⟩
abbrev cX12_define : ByteArray := prog_14_method_116_code
def yX12_define : MethodName := ⟨RX12, "define", "(I)I"⟩
abbrev cX12_hasYOf : ByteArray := prog_14_method_117_code
def yX12_hasYOf : MethodName := ⟨RX12, "hasYOf", "(I)Z"⟩
abbrev cX12_hasY : ByteArray := prog_14_method_118_code
def yX12_hasY : MethodName := ⟨RX12, "hasY", "(I)Z"⟩
abbrev cX12_whole : ByteArray := prog_14_method_119_code
def yX12_whole : MethodName := ⟨RX12, "whole", "(IJ)I"⟩
abbrev cX12_values : ByteArray := prog_14_method_120_code
def yX12_values : MethodName := ⟨RX12, "values", "(II)I"⟩
abbrev cX12_slopes : ByteArray := prog_14_method_121_code
def yX12_slopes : MethodName := ⟨RX12, "slopes", "(II)I"⟩
abbrev cX12_told : ByteArray := prog_14_method_122_code
def yX12_told : MethodName := ⟨RX12, "told", "(IIIIZ)I"⟩
abbrev cX12_makes_ : ByteArray := prog_14_method_123_code
def yX12_makes_ : MethodName := ⟨RX12, "makes", "(IIIIZ)Z"⟩
abbrev cX12_value : ByteArray := prog_14_method_124_code
def yX12_value : MethodName := ⟨RX12, "value", "(IIII)Z"⟩
abbrev cX12_slope : ByteArray := prog_14_method_125_code
def yX12_slope : MethodName := ⟨RX12, "slope", "(IIII)Z"⟩
abbrev cX12_decide : ByteArray := prog_14_method_126_code
def yX12_decide : MethodName := ⟨RX12, "decide", "(III)I"⟩
abbrev cX12_middle : ByteArray := prog_14_method_127_code
def yX12_middle : MethodName := ⟨RX12, "middle", "(II)V"⟩
abbrev cX12_canCut : ByteArray := prog_14_method_128_code
def yX12_canCut : MethodName := ⟨RX12, "canCut", "(I)Z"⟩
abbrev cX12_half : ByteArray := prog_14_method_129_code
def yX12_half : MethodName := ⟨RX12, "half", "(IIZ)V"⟩
abbrev cX12_tellsOf : ByteArray := prog_14_method_131_code
def yX12_tellsOf : MethodName := ⟨RX12, "tellsOf", "(II)C"⟩
abbrev cX12_signOf : ByteArray := prog_14_method_132_code
def yX12_signOf : MethodName := ⟨RX12, "signOf", "(JJ)I"⟩
abbrev cX12_ends : ByteArray := prog_14_method_133_code
def yX12_ends : MethodName := ⟨RX12, "ends", "(II)C"⟩
abbrev cX12_looks : ByteArray := prog_14_method_134_code
def yX12_looks : MethodName := ⟨RX12, "looks", "(III)V"⟩
abbrev cX12_noLook : ByteArray := prog_14_method_135_code
def yX12_noLook : MethodName := ⟨RX12, "noLook", "(II)I"⟩
abbrev cX12_zeros : ByteArray := prog_14_method_136_code
def yX12_zeros : MethodName := ⟨RX12, "zeros", "(III)I"⟩
abbrev cX12_pieceKind : ByteArray := prog_14_method_137_code
def yX12_pieceKind : MethodName := ⟨RX12, "pieceKind", "(I)C"⟩
abbrev cX12_piece : ByteArray := prog_14_method_138_code
def yX12_piece : MethodName := ⟨RX12, "piece", "(II)Z"⟩
abbrev cX12_narrow : ByteArray := prog_14_method_139_code
def yX12_narrow : MethodName := ⟨RX12, "narrow", "(III)Z"⟩
abbrev cX12_cutsInto : ByteArray := prog_14_method_140_code
def yX12_cutsInto : MethodName := ⟨RX12, "cutsInto", "(III)I"⟩
abbrev cX12_canBe0 : ByteArray := prog_14_method_141_code
def yX12_canBe0 : MethodName := ⟨RX12, "canBe0", "(III)Z"⟩
abbrev cX12_pairs : ByteArray := prog_14_method_142_code
def yX12_pairs : MethodName := ⟨RX12, "pairs", "(IIIII)I"⟩
abbrev cX12_noBounds : ByteArray := prog_14_method_143_code
def yX12_noBounds : MethodName := ⟨RX12, "noBounds", "(IIII)I"⟩
abbrev cX12_extreme : ByteArray := prog_14_method_144_code
def yX12_extreme : MethodName := ⟨RX12, "extreme", "(IIIIZ)I"⟩
abbrev cX12_bounds : ByteArray := prog_14_method_145_code
def yX12_bounds : MethodName := ⟨RX12, "bounds", "(IIIIZ)Z"⟩
abbrev cX12_least : ByteArray := prog_14_method_146_code
def yX12_least : MethodName := ⟨RX12, "least", "(IIII)Z"⟩
abbrev cX12_greatest : ByteArray := prog_14_method_147_code
def yX12_greatest : MethodName := ⟨RX12, "greatest", "(IIII)Z"⟩
abbrev cX12_areas : ByteArray := prog_14_method_148_code
def yX12_areas : MethodName := ⟨RX12, "areas", "(IIII)I"⟩
abbrev cX12_area : ByteArray := prog_14_method_149_code
def yX12_area : MethodName := ⟨RX12, "area", "(IIII)Z"⟩
abbrev cX12_outward : ByteArray := prog_14_method_150_code
def yX12_outward : MethodName := ⟨RX12, "outward", "(I)I"⟩
abbrev cX12_moves : ByteArray := prog_14_method_151_code
def yX12_moves : MethodName := ⟨RX12, "moves", "(IIII)I"⟩
abbrev cX12_move : ByteArray := prog_14_method_152_code
def yX12_move : MethodName := ⟨RX12, "move", "(IIII)Z"⟩
abbrev cX12_held : ByteArray := prog_14_method_153_code
def yX12_held : MethodName := ⟨RX12, "held", "()I"⟩
abbrev cX12_spelledInto : ByteArray := prog_14_method_154_code
def yX12_spelledInto : MethodName := ⟨RX12, "spelledInto", "(JJJ)J"⟩
abbrev cX12_checksum : ByteArray := prog_14_method_155_code
def yX12_checksum : MethodName := ⟨RX12, "checksum", "()J"⟩
abbrev cX12_isSound : ByteArray := prog_14_method_156_code
def yX12_isSound : MethodName := ⟨RX12, "isSound", "()Z"⟩
def RJx145de : String := "java/io/Serializable"
def TJx145de : u_T := fun k => match k with
  | _ => ("", "", "", false)
def tyJx145de : Nat → FieldType := fun k => match k with
  | _ => .int
abbrev wsJx145de0 : List Cond := u_ws RJx145de TJx145de 0
theorem nmJx145de : ∀ a, a < 0 → ∀ b, b < 0 → a ≠ b → (TJx145de a).2.1 ≠ (TJx145de b).2.1 := by decide +kernel
theorem tyJx145de_ok : ∀ k, k < 0 → parseFieldDescriptor (TJx145de k).2.2.1 = some (tyJx145de k) := by decide +kernel
def RJx00060 : String := "java/lang/ArrayIndexOutOfBoundsException"
def TJx00060 : u_T := fun k => match k with
  | 0 => ("java/lang/Throwable", "backtrace", "Ljava/lang/Object;", false)
  | 1 => ("java/lang/Throwable", "detailMessage", "Ljava/lang/String;", false)
  | 2 => ("java/lang/Throwable", "cause", "Ljava/lang/Throwable;", false)
  | 3 => ("java/lang/Throwable", "stackTrace", "[Ljava/lang/StackTraceElement;", false)
  | 4 => ("java/lang/Throwable", "depth", "I", false)
  | _ => ("java/lang/Throwable", "suppressedExceptions", "Ljava/util/List;", false)
def tyJx00060 : Nat → FieldType := fun k => match k with
  | 0 => .object "java/lang/Object"
  | 1 => .object "java/lang/String"
  | 2 => .object "java/lang/Throwable"
  | 3 => .array (.object "java/lang/StackTraceElement")
  | 4 => .int
  | _ => .object "java/util/List"
abbrev wsJx000600 : List Cond := u_ws RJx00060 TJx00060 6
theorem nmJx00060 : ∀ a, a < 6 → ∀ b, b < 6 → a ≠ b → (TJx00060 a).2.1 ≠ (TJx00060 b).2.1 := by decide +kernel
theorem tyJx00060_ok : ∀ k, k < 6 → parseFieldDescriptor (TJx00060 k).2.2.1 = some (tyJx00060 k) := by decide +kernel
abbrev cJx00060_init_a7421 : ByteArray := prog_17_method_2_code
def yJx00060_init_a7421 : MethodName := ⟨RJx00060, "<init>", "(Ljava/lang/String;)V"⟩
def RJx9f9b0 : String := "java/lang/CharSequence"
def TJx9f9b0 : u_T := fun k => match k with
  | _ => ("", "", "", false)
def tyJx9f9b0 : Nat → FieldType := fun k => match k with
  | _ => .int
abbrev wsJx9f9b00 : List Cond := u_ws RJx9f9b0 TJx9f9b0 0
theorem nmJx9f9b0 : ∀ a, a < 0 → ∀ b, b < 0 → a ≠ b → (TJx9f9b0 a).2.1 ≠ (TJx9f9b0 b).2.1 := by decide +kernel
theorem tyJx9f9b0_ok : ∀ k, k < 0 → parseFieldDescriptor (TJx9f9b0 k).2.2.1 = some (tyJx9f9b0 k) := by decide +kernel
def RJxb160c : String := "java/lang/Comparable"
def TJxb160c : u_T := fun k => match k with
  | _ => ("", "", "", false)
def tyJxb160c : Nat → FieldType := fun k => match k with
  | _ => .int
abbrev wsJxb160c0 : List Cond := u_ws RJxb160c TJxb160c 0
theorem nmJxb160c : ∀ a, a < 0 → ∀ b, b < 0 → a ≠ b → (TJxb160c a).2.1 ≠ (TJxb160c b).2.1 := by decide +kernel
theorem tyJxb160c_ok : ∀ k, k < 0 → parseFieldDescriptor (TJxb160c k).2.2.1 = some (tyJxb160c k) := by decide +kernel
def RJ13 : String := "java/lang/Long"
def TJ13 : u_T := fun k => match k with
  | _ => ("", "", "", false)
def tyJ13 : Nat → FieldType := fun k => match k with
  | _ => .int
abbrev wsJ130 : List Cond := u_ws RJ13 TJ13 0
theorem nmJ13 : ∀ a, a < 0 → ∀ b, b < 0 → a ≠ b → (TJ13 a).2.1 ≠ (TJ13 b).2.1 := by decide +kernel
theorem tyJ13_ok : ∀ k, k < 0 → parseFieldDescriptor (TJ13 k).2.2.1 = some (tyJ13 k) := by decide +kernel
abbrev cJ13_compare_74951 : ByteArray := prog_24_method_42_code
def yJ13_compare_74951 : MethodName := ⟨RJ13, "compare", "(JJ)I"⟩
def RJ9 : String := "java/lang/Math"
def TJ9 : u_T := fun k => match k with
  | _ => ("", "", "", false)
def tyJ9 : Nat → FieldType := fun k => match k with
  | _ => .int
abbrev wsJ90 : List Cond := u_ws RJ9 TJ9 0
theorem nmJ9 : ∀ a, a < 0 → ∀ b, b < 0 → a ≠ b → (TJ9 a).2.1 ≠ (TJ9 b).2.1 := by decide +kernel
theorem tyJ9_ok : ∀ k, k < 0 → parseFieldDescriptor (TJ9 k).2.2.1 = some (tyJ9 k) := by decide +kernel
abbrev cJ9_floorDiv_f86c9 : ByteArray := prog_25_method_49_code
def yJ9_floorDiv_f86c9 : MethodName := ⟨RJ9, "floorDiv", "(JJ)J"⟩
abbrev cJ9_floorMod_f86c9 : ByteArray := prog_25_method_52_code
def yJ9_floorMod_f86c9 : MethodName := ⟨RJ9, "floorMod", "(JJ)J"⟩
abbrev cJ9_abs_0f7a4 : ByteArray := prog_25_method_59_code
def yJ9_abs_0f7a4 : MethodName := ⟨RJ9, "abs", "(I)I"⟩
def RJ0 : String := "java/lang/String"
def TJ0 : u_T := fun k => match k with
  | 0 => ("java/lang/String", "value", "[B", true)
  | _ => ("java/lang/String", "coder", "B", true)
def tyJ0 : Nat → FieldType := fun k => match k with
  | 0 => .array .byte
  | _ => .byte
abbrev wsJ00 : List Cond := u_ws RJ0 TJ0 2
theorem nmJ0 : ∀ a, a < 2 → ∀ b, b < 2 → a ≠ b → (TJ0 a).2.1 ≠ (TJ0 b).2.1 := by decide +kernel
theorem tyJ0_ok : ∀ k, k < 2 → parseFieldDescriptor (TJ0 k).2.2.1 = some (tyJ0 k) := by decide +kernel
abbrev cJ0_length_8abf5 : ByteArray := prog_27_method_54_code
def yJ0_length_8abf5 : MethodName := ⟨RJ0, "length", "()I"⟩
abbrev cJ0_charAt_5068e : ByteArray := prog_27_method_56_code
def yJ0_charAt_5068e : MethodName := ⟨RJ0, "charAt", "(I)C"⟩
abbrev cJ0_coder_7d493 : ByteArray := prog_27_method_152_code
def yJ0_coder_7d493 : MethodName := ⟨RJ0, "coder", "()B"⟩
abbrev cJ0_isLatin1_aae02 : ByteArray := prog_27_method_154_code
def yJ0_isLatin1_aae02 : MethodName := ⟨RJ0, "isLatin1", "()Z"⟩
abbrev cJ0_checkIndex_df160 : ByteArray := prog_27_method_155_code
def yJ0_checkIndex_df160 : MethodName := ⟨RJ0, "checkIndex", "(II)V"⟩
def RJ1 : String := "java/lang/StringLatin1"
def TJ1 : u_T := fun k => match k with
  | _ => ("", "", "", false)
def tyJ1 : Nat → FieldType := fun k => match k with
  | _ => .int
abbrev wsJ10 : List Cond := u_ws RJ1 TJ1 0
theorem nmJ1 : ∀ a, a < 0 → ∀ b, b < 0 → a ≠ b → (TJ1 a).2.1 ≠ (TJ1 b).2.1 := by decide +kernel
theorem tyJ1_ok : ∀ k, k < 0 → parseFieldDescriptor (TJ1 k).2.2.1 = some (tyJ1 k) := by decide +kernel
abbrev cJ1_charAt_3b067 : ByteArray := prog_28_method_2_code
def yJ1_charAt_3b067 : MethodName := ⟨RJ1, "charAt", "([BI)C"⟩
def RJ2 : String := "java/lang/StringUTF16"
def TJ2 : u_T := fun k => match k with
  | _ => ("", "", "", false)
def tyJ2 : Nat → FieldType := fun k => match k with
  | _ => .int
abbrev wsJ20 : List Cond := u_ws RJ2 TJ2 0
theorem nmJ2 : ∀ a, a < 0 → ∀ b, b < 0 → a ≠ b → (TJ2 a).2.1 ≠ (TJ2 b).2.1 := by decide +kernel
theorem tyJ2_ok : ∀ k, k < 0 → parseFieldDescriptor (TJ2 k).2.2.1 = some (tyJ2 k) := by decide +kernel
abbrev cJ2_getChar_3b067 : ByteArray := prog_29_method_5_code
def yJ2_getChar_3b067 : MethodName := ⟨RJ2, "getChar", "([BI)C"⟩
abbrev cJ2_length_9d52b : ByteArray := prog_29_method_6_code
def yJ2_length_9d52b : MethodName := ⟨RJ2, "length", "([B)I"⟩
abbrev cJ2_charAt_3b067 : ByteArray := prog_29_method_83_code
def yJ2_charAt_3b067 : MethodName := ⟨RJ2, "charAt", "([BI)C"⟩
abbrev cJ2_checkIndex_2214a : ByteArray := prog_29_method_91_code
def yJ2_checkIndex_2214a : MethodName := ⟨RJ2, "checkIndex", "(I[B)V"⟩
def RJxfd54e : String := "java/lang/constant/Constable"
def TJxfd54e : u_T := fun k => match k with
  | _ => ("", "", "", false)
def tyJxfd54e : Nat → FieldType := fun k => match k with
  | _ => .int
abbrev wsJxfd54e0 : List Cond := u_ws RJxfd54e TJxfd54e 0
theorem nmJxfd54e : ∀ a, a < 0 → ∀ b, b < 0 → a ≠ b → (TJxfd54e a).2.1 ≠ (TJxfd54e b).2.1 := by decide +kernel
theorem tyJxfd54e_ok : ∀ k, k < 0 → parseFieldDescriptor (TJxfd54e k).2.2.1 = some (tyJxfd54e k) := by decide +kernel
def RJx3cf43 : String := "java/lang/constant/ConstantDesc"
def TJx3cf43 : u_T := fun k => match k with
  | _ => ("", "", "", false)
def tyJx3cf43 : Nat → FieldType := fun k => match k with
  | _ => .int
abbrev wsJx3cf430 : List Cond := u_ws RJx3cf43 TJx3cf43 0
theorem nmJx3cf43 : ∀ a, a < 0 → ∀ b, b < 0 → a ≠ b → (TJx3cf43 a).2.1 ≠ (TJx3cf43 b).2.1 := by decide +kernel
theorem tyJx3cf43_ok : ∀ k, k < 0 → parseFieldDescriptor (TJx3cf43 k).2.2.1 = some (tyJx3cf43 k) := by decide +kernel
def RJ3 : String := "jdk/internal/util/Preconditions"
def TJ3 : u_T := fun k => match k with
  | _ => ("", "", "", false)
def tyJ3 : Nat → FieldType := fun k => match k with
  | _ => .int
abbrev wsJ30 : List Cond := u_ws RJ3 TJ3 0
theorem nmJ3 : ∀ a, a < 0 → ∀ b, b < 0 → a ≠ b → (TJ3 a).2.1 ≠ (TJ3 b).2.1 := by decide +kernel
theorem tyJ3_ok : ∀ k, k < 0 → parseFieldDescriptor (TJ3 k).2.2.1 = some (tyJ3 k) := by decide +kernel
abbrev cJ3_checkIndex_8e157 : ByteArray := prog_35_method_11_code
def yJ3_checkIndex_8e157 : MethodName := ⟨RJ3, "checkIndex", "(IILjava/util/function/BiFunction;)I"⟩
def RL : String := "BoxedvalueLaw"
abbrev cL_setDigits : ByteArray := method_3_code
def yL_setDigits : MethodName := ⟨RL, "setDigits", "(LBoxedvalue;I[J)I"⟩
abbrev cL_type : ByteArray := method_4_code
def yL_type : MethodName := ⟨RL, "type", "(LBoxedvalue;C[J)I"⟩
abbrev cL_signAt : ByteArray := method_5_code
def yL_signAt : MethodName := ⟨RL, "signAt", "(LBoxedvalue;I[J)I"⟩
abbrev cL_put : ByteArray := method_6_code
def yL_put : MethodName := ⟨RL, "put", "(LBoxedvalue;IJI[J)I"⟩
abbrev cL_read : ByteArray := method_7_code
def yL_read : MethodName := ⟨RL, "read", "(LBoxedvalue;I[J)I"⟩
abbrev cL_constant : ByteArray := method_8_code
def yL_constant : MethodName := ⟨RL, "constant", "(LBoxedvalue;IC[J)I"⟩
abbrev cL_join : ByteArray := method_9_code
def yL_join : MethodName := ⟨RL, "join", "(LBoxedvalue;III[J)I"⟩
abbrev cL_meet : ByteArray := method_10_code
def yL_meet : MethodName := ⟨RL, "meet", "(LBoxedvalue;III[J)I"⟩
abbrev cL_low : ByteArray := method_11_code
def yL_low : MethodName := ⟨RL, "low", "(LBoxedvalue;I[J)I"⟩
abbrev cL_high : ByteArray := method_12_code
def yL_high : MethodName := ⟨RL, "high", "(LBoxedvalue;I[J)I"⟩
abbrev cL_width : ByteArray := method_13_code
def yL_width : MethodName := ⟨RL, "width", "(LBoxedvalue;I[J)I"⟩
abbrev cL_isWithin : ByteArray := method_14_code
def yL_isWithin : MethodName := ⟨RL, "isWithin", "(LBoxedvalue;II[J)I"⟩
abbrev cL_compare : ByteArray := method_15_code
def yL_compare : MethodName := ⟨RL, "compare", "(LBoxedvalue;II[J)I"⟩
abbrev cL_sure : ByteArray := method_16_code
def yL_sure : MethodName := ⟨RL, "sure", "(LBoxedvalue;I[J)I"⟩
abbrev cL_undo : ByteArray := method_17_code
def yL_undo : MethodName := ⟨RL, "undo", "(LBoxedvalue;[J)I"⟩
abbrev cL_add : ByteArray := method_18_code
def yL_add : MethodName := ⟨RL, "add", "(LBoxedvalue;III[J)I"⟩
abbrev cL_subtract : ByteArray := method_19_code
def yL_subtract : MethodName := ⟨RL, "subtract", "(LBoxedvalue;III[J)I"⟩
abbrev cL_multiply : ByteArray := method_20_code
def yL_multiply : MethodName := ⟨RL, "multiply", "(LBoxedvalue;III[J)I"⟩
abbrev cL_divide : ByteArray := method_21_code
def yL_divide : MethodName := ⟨RL, "divide", "(LBoxedvalue;III[J)I"⟩
abbrev cL_power : ByteArray := method_22_code
def yL_power : MethodName := ⟨RL, "power", "(LBoxedvalue;III[J)I"⟩
abbrev cL_root : ByteArray := method_23_code
def yL_root : MethodName := ⟨RL, "root", "(LBoxedvalue;III[J)I"⟩
abbrev cL_apply : ByteArray := method_24_code
def yL_apply : MethodName := ⟨RL, "apply", "(LBoxedvalue;IIC[J)I"⟩
abbrev cL_solve : ByteArray := method_25_code
def yL_solve : MethodName := ⟨RL, "solve", "(LBoxedvalue;IIZ[J)I"⟩
abbrev cL_define : ByteArray := method_26_code
def yL_define : MethodName := ⟨RL, "define", "(LBoxedvalue;I[J)I"⟩
abbrev cL_hasY : ByteArray := method_27_code
def yL_hasY : MethodName := ⟨RL, "hasY", "(LBoxedvalue;I[J)I"⟩
abbrev cL_value : ByteArray := method_28_code
def yL_value : MethodName := ⟨RL, "value", "(LBoxedvalue;IIII[J)I"⟩
abbrev cL_slope : ByteArray := method_29_code
def yL_slope : MethodName := ⟨RL, "slope", "(LBoxedvalue;IIII[J)I"⟩
abbrev cL_decide : ByteArray := method_30_code
def yL_decide : MethodName := ⟨RL, "decide", "(LBoxedvalue;III[J)I"⟩
abbrev cL_zeros : ByteArray := method_31_code
def yL_zeros : MethodName := ⟨RL, "zeros", "(LBoxedvalue;III[J)I"⟩
abbrev cL_pieceKind : ByteArray := method_32_code
def yL_pieceKind : MethodName := ⟨RL, "pieceKind", "(LBoxedvalue;I[J)I"⟩
abbrev cL_piece : ByteArray := method_33_code
def yL_piece : MethodName := ⟨RL, "piece", "(LBoxedvalue;II[J)I"⟩
abbrev cL_narrow : ByteArray := method_34_code
def yL_narrow : MethodName := ⟨RL, "narrow", "(LBoxedvalue;III[J)I"⟩
abbrev cL_pairs : ByteArray := method_35_code
def yL_pairs : MethodName := ⟨RL, "pairs", "(LBoxedvalue;IIIII[J)I"⟩
abbrev cL_least : ByteArray := method_36_code
def yL_least : MethodName := ⟨RL, "least", "(LBoxedvalue;IIII[J)I"⟩
abbrev cL_greatest : ByteArray := method_37_code
def yL_greatest : MethodName := ⟨RL, "greatest", "(LBoxedvalue;IIII[J)I"⟩
abbrev cL_area : ByteArray := method_38_code
def yL_area : MethodName := ⟨RL, "area", "(LBoxedvalue;IIII[J)I"⟩
abbrev cL_move : ByteArray := method_39_code
def yL_move : MethodName := ⟨RL, "move", "(LBoxedvalue;IIII[J)I"⟩
abbrev cL_law : ByteArray := code
def yL_law : MethodName := ⟨RL, "law", "([I)Z"⟩
abbrev vwCl : List vw_C := [(RJ0, TJ0, 2), (RJx00060, TJx00060, 6), (RX0, TX0, 6), (RX1, TX1, 2), (RX2, TX2, 2), (RX3, TX3, 13), (RX4, TX4, 2), (RX5, TX5, 12), (RX6, TX6, 8), (RX7, TX7, 4), (RX8, TX8, 13), (RX9, TX9, 7), (RX10, TX10, 2), (RX11, TX11, 17), (RX12, TX12, 43)]
end
section
/-! THE WORLD: cells in a row from the address B on; ct says what each holds (refs are B + k). Every contract passes the whole world through. -/
def bA (B : Nat) : Nat → Prop := fun q => B ≤ q
def bw_up (ct : Nat → va_E) (r : Nat) (v : va_E) : Nat → va_E := fun k => if k = r then v else ct k
theorem bw_eq (ct : Nat → va_E) (r : Nat) (v : va_E) : bw_up ct r v r = v := by simp [bw_up]
theorem bw_ne {ct : Nat → va_E} {r k : Nat} {v : va_E} (h : k ≠ r) : bw_up ct r v k = ct k := by simp [bw_up, h]
theorem bw_id {ct : Nat → va_E} {r : Nat} {v : va_E} (h : ct r = v) : bw_up ct r v = ct := by
  funext k
  by_cases hk : k = r
  · subst hk; rw [bw_eq, h]
  · rw [bw_ne hk]
theorem bw_tw (ct : Nat → va_E) (r : Nat) (v w : va_E) : bw_up (bw_up ct r v) r w = bw_up ct r w := by
  funext k
  by_cases hk : k = r
  · subst hk; rw [bw_eq, bw_eq]
  · rw [bw_ne hk, bw_ne hk, bw_ne hk]
abbrev b_tys (cy : Nat → ClassId) : List (ClassId × FieldType) := [(cy 0, .char), (cy 1, .int), (cy 2, .long), (cy 3, .boolean), (cy 4, .object "Boxedvalue$Box"), (cy 5, .object "Boxedvalue$Formula")]
def bw (D : va_G) (B n : Nat) (ct : Nat → va_E) (H : Heap) : Prop := B + n ≤ H.size ∧ ∀ k : Nat, k < n → va_at D vwCl (B + k, ct k) H
def bS (D : va_G) (B n : Nat) (ct : Nat → va_E) (s : State) (H : Heap) (locs : List Loc) : Prop := bw D B n ct H ∧ va_S (bA B) s.heap H locs
theorem bw.kept {D : va_G} {B n : Nat} {ct : Nat → va_E} {H H1 : Heap} (h : bw D B n ct H) (hz : H.size ≤ H1.size) (hq : ∀ q : Nat, q < H.size → H1[q]? = H[q]?) : bw D B n ct H1 :=
  ⟨Nat.le_trans h.1 hz, fun k hk => va_at.kept (h.2 k hk) (hq _ (by have := h.1; show B + k < _; omega))⟩
theorem bw.sing {D : va_G} {B n : Nat} {ct : Nat → va_E} {H : Heap} (h : bw D B n ct H) {r : Nat} (hr : r < n) {x : va_E} (he : ct r = x) : va_P D vwCl [(B + r, x)] H := by
  intro k q hk
  have hz : k < 1 := (List.getElem?_eq_some_iff.mp hk).1
  rw [show k = 0 by omega] at hk
  cases hk
  rw [← he]
  exact h.2 r hr
/-- one cell anew, the others as they were -/
theorem bw.upd {D : va_G} {B n : Nat} {ct : Nat → va_E} {H H1 : Heap} (h : bw D B n ct H) {r : Nat} (v : va_E) (h1 : va_at D vwCl (B + r, v) H1) (hz : H1.size = H.size) (hq : ∀ q : Nat, q ≠ B + r → H1[q]? = H[q]?) : bw D B n (bw_up ct r v) H1 := by
  refine ⟨by rw [hz]; exact h.1, fun k hk => ?_⟩
  by_cases hkr : k = r
  · subst hkr; rw [bw_eq]; exact h1
  · rw [bw_ne hkr]
    exact va_at.kept (h.2 k hk) (hq _ (by show B + k ≠ B + r; omega))
/-- a cell more -/
theorem bw.push {D : va_G} {B n : Nat} {ct : Nat → va_E} {H H1 : Heap} (h : bw D B n ct H) (hz0 : H.size = B + n) (v : va_E) (h1 : va_at D vwCl (B + n, v) H1) (hz : H1.size = H.size + 1) (hq : ∀ q : Nat, q < H.size → H1[q]? = H[q]?) : bw D B (n + 1) (bw_up ct n v) H1 := by
  refine ⟨by omega, fun k hk => ?_⟩
  by_cases hkr : k = n
  · subst hkr; rw [bw_eq]; exact h1
  · rw [bw_ne hkr]
    exact va_at.kept (h.2 k (by omega)) (hq _ (by show B + k < _; omega))
theorem bS.put {D : va_G} {B n : Nat} {ct : Nat → va_E} {s : State} {H H1 : Heap} {locs : List Loc} (h : bS D B n ct s H locs) {r i : Nat} (v : va_E) (h1 : va_at D vwCl (B + r, v) H1) (hz : H1.size = H.size) (hq : ∀ q : Nat, q ≠ B + r → H1[q]? = H[q]?) : bS D B n (bw_up ct r v) s H1 (locs ++ [⟨B + r, i⟩]) :=
  ⟨h.1.upd v h1 hz hq, h.2.put hz hq (show bA B (B + r) from Nat.le_add_right _ _)⟩
/-- what holds outside the world's cells, of the machine: the classes, the static arrays and the script (X j, their fields), strings of messages, casts that fail -/
abbrev KE : Type := va_G × (Nat → ClassId) × Nat × (Nat → Nat) × List (FieldType × Nat × (Nat → Value) × Option (String × String × String)) × List (String × Nat × String) × List (String × String)
abbrev KE.D (K : KE) : va_G := K.1
abbrev KE.cy (K : KE) : Nat → ClassId := K.2.1
abbrev KE.B (K : KE) : Nat := K.2.2.1
abbrev KE.X (K : KE) : Nat → Nat := K.2.2.2.1
abbrev KE.arr (K : KE) : List (FieldType × Nat × (Nat → Value) × Option (String × String × String)) := K.2.2.2.2.1
abbrev KE.str (K : KE) : List (String × Nat × String) := K.2.2.2.2.2.1
abbrev KE.nc (K : KE) : List (String × String) := K.2.2.2.2.2.2
/-- words that hold but don't keep: what the exceptions' constructors declare, the links to a nest mate's static field -/
def bwD : List MethodName := [Bundle.initS "java/lang/RuntimeException", Bundle.initS "java/lang/Exception", Bundle.initS Bundle.tN]
def bwN : List (String × Nat × String × String × String × String) := [("Boxedvalue$Text", 45, "Boxedvalue", "TENS", "[J", "Boxedvalue"), ("Boxedvalue$Reckoner", 84, "Boxedvalue", "TENS", "[J", "Boxedvalue")]
def bwM : List (String × Nat × MethodName × String) := [("Boxedvalue$Acts", 44, ⟨"Boxedvalue", "unitOf", "(I)J"⟩, "Boxedvalue"), ("Boxedvalue$Machine", 70, ⟨"Boxedvalue$Formula", "isPair", "(C)Z"⟩, "Boxedvalue")]
def bK (K : KE) (U : State) : Prop :=
  va_K K.D vwCl (b_tys K.cy) U ∧
  (∀ (j : Nat) (q : FieldType × Nat × (Nat → Value) × Option (String × String × String)), K.arr[j]? = some q → va_T q.1 (K.X j) q.2.1 q.2.2.1 (bA K.B) U U.heap ∧ ∀ f : String × String × String, q.2.2.2 = some f → va_Z f.1 f.2.1 f.2.2 (.ref (K.X j)) (bA K.B) U U.heap) ∧
  vx_Zq Bundle.tN "UNASSIGNED_STACK" Bundle.steD (bA K.B) U U.heap ∧ vx_Zq Bundle.tN "SUPPRESSED_SENTINEL" Bundle.listD (bA K.B) U U.heap ∧
  (∀ q ∈ K.str, ∃ sa : Nat, vk_R q.1 q.2.1 q.2.2 sa U) ∧ va_AO "Boxedvalue$Box" U ∧ va_AO "Boxedvalue$Formula" U ∧ (∀ q ∈ K.nc, va_Nc q.1 q.2 U) ∧ K.B ≤ U.heap.size ∧
  (∀ x ∈ bwD, va_Nw (.declares x) U) ∧ (∀ q ∈ bwN, va_Nw (.fieldLinkNest q.1 q.2.1 q.2.2.1 q.2.2.2.1 q.2.2.2.2.1 q.2.2.2.2.2) U) ∧ (∀ q ∈ bwM, va_Nw (.methodLinkNest q.1 q.2.1 q.2.2.1 q.2.2.2) U)
theorem bK.to {K : KE} {s U : State} {H : Heap} {locs : List Loc} (h : bK K s) (hS : va_S (bA K.B) s.heap H locs) (hU : U.heap = H) (hW : s.WarmedH U.vm) : bK K U := by
  obtain ⟨h1, h2, h4, h5, h6, h7, h8, h9, h10, h11, h12, h13⟩ := h
  subst hU
  refine ⟨va_K.moved hW.alike h1, fun j q hj => ⟨va_T.moved hW.alike ((h2 j q hj).1.kept hS.2.1), fun f hf => va_Z.moved hW.alike (((h2 j q hj).2 f hf).kept hS.2.1)⟩, vx_Zq.moved hW.alike (h4.kept hS.2.1), vx_Zq.moved hW.alike (h5.kept hS.2.1), fun q hq => ?_, h7.moved hW.alike, h8.moved hW.alike, fun q hq => (h9 q hq).moved hW.alike, Nat.le_trans h10 hS.1, fun x hx => (h11 x hx).warmD hW, fun q hq => (h12 q hq).warmF hW, fun q hq => (h13 q hq).warmM hW⟩
  obtain ⟨sa, h⟩ := h6 q hq
  exact ⟨sa, vk_R.warm hW h⟩
/-- the words that every contract has: all of the tables that keep -/
def bw_G : List Cond := lw_tbl.filter goodWord
theorem bw_in {w : Cond} (h : w ∈ lw_tbl) (hg : goodWord w = true) : w ∈ bw_G := List.mem_filter.mpr ⟨h, hg⟩
theorem bw_Gok : ∀ w ∈ bw_G, goodWord w = true := fun w h => (List.mem_filter.mp h).2
def bPc (K : KE) (n : Nat) (ct : Nat → va_E) (ex : Bool) (av : List Value) : Array Value → State → Prop :=
  va_Pc av (fun U => bw K.D K.B n ct U.heap ∧ bK K U ∧ (ex = true → U.heap.size = K.B + n))
end
section
/-! ROWS over the world: an instruction each. C0: machine and method; hw: world and frame. -/
theorem bK.calling {K : KE} {U : State} (g : JFrame) (mk : MethodId) (a : Array Value) (h : bK K U) : bK K (U.calling g mk a) := by
  obtain ⟨h1, h2, h4, h5, h6, h7, h8, h9, h10, h11, h12, h13⟩ := h
  have hv := Vm.Alike.refl U.vm
  refine ⟨va_K.moved (u := U) (U := U.calling g mk a) hv h1, fun j q hj => ⟨va_T.moved (u := U) (U := U.calling g mk a) hv (h2 j q hj).1, fun f hf => va_Z.moved (u := U) (U := U.calling g mk a) hv ((h2 j q hj).2 f hf)⟩, vx_Zq.moved (u := U) (U := U.calling g mk a) hv h4, vx_Zq.moved (u := U) (U := U.calling g mk a) hv h5, fun q hq => ?_, va_AO.moved (u := U) (U := U.calling g mk a) hv h7, va_AO.moved (u := U) (U := U.calling g mk a) hv h8, fun q hq => va_Nc.moved (u := U) (U := U.calling g mk a) hv (h9 q hq), h10, fun x hx => va_Nw.same (u := U) (U := U.calling g mk a) rfl rfl (h11 x hx), fun q hq => va_Nw.same (u := U) (U := U.calling g mk a) rfl rfl (h12 q hq), fun q hq => va_Nw.same (u := U) (U := U.calling g mk a) rfl rfl (h13 q hq)⟩
  obtain ⟨sa, h⟩ := h6 q hq
  exact ⟨sa, vk_R.same (u := U) (U := U.calling g mk a) rfl h⟩
theorem bPc.blind {K : KE} {n : Nat} {ct : Nat → va_E} {ex : Bool} {av : List Value} : FrameBlind (bPc K n ct ex av) := fun _ _ g mk q => ⟨q.1, q.2.1, q.2.2.1.calling g mk _, q.2.2.2⟩
section BR
variable {p : Program} {l : Launch} {e : Env} {R : Room} {s : State} {m : MethodId} {args : Array Value} {below : List Frame} {meth : Method} {c : Code} {H : Heap} {locs : List Loc} {cells slots : Nat} {Q : State → Prop}
variable {cc : ByteArray} {pc nL : Nat} {own : String} {ls : Array Slot} {rest : List Value} {K : KE} {n : Nat} {ct : Nat → va_E}
theorem br_get (C0 : CallFix p m c cc nL s args bw_G own) (hb : bK K s) (hw : bS K.D K.B n ct s H locs) {r : Nat} (hr : r < n) {ci : Nat} {fs : List Value} (he : ct r = .inr (ci, fs)) {C : String} {T : u_T} {N : Nat} (hc : vwCl[ci]? = some (C, T, N)) (hin : ∀ w ∈ u_ws C T N, w ∈ bw_G) (k : Nat) (hk : k < N) {index : Nat} (hlink : Cond.fieldLink own index (T k).1 (T k).2.1 (T k).2.2.1 ∈ bw_G) {v : Value} (hv : fs[k]? = some v) (hdg : decode cc pc = .ok (.getfield index, 3))
    (kk : W p l e R s m args below meth c H locs cells slots Q (F0 m (pc + 3) ls (v :: rest))) : W p l e R s m args below meth c H locs cells slots Q (F0 m pc ls (.ref (K.B + r) :: rest)) := by
  obtain ⟨hx, hcb, hml, hown, hts⟩ := C0
  exact va_get (ws := [(K.B + r, .inr (ci, fs))]) hx hcb hts hin hown hb.1 (hw.1.sing hr he) 0 rfl hc k hk (hts _ hlink) (fun _ h => h) hv hdg kk
theorem br_put (C0 : CallFix p m c cc nL s args bw_G own) (hb : bK K s) (hw : bS K.D K.B n ct s H locs) {r : Nat} (hr : r < n) {ci : Nat} {fs : List Value} (he : ct r = .inr (ci, fs)) {C : String} {T : u_T} {N : Nat} (hc : vwCl[ci]? = some (C, T, N)) (hin : ∀ w ∈ u_ws C T N, w ∈ bw_G) (ty0 : Nat → FieldType) (hty : ∀ k, k < N → parseFieldDescriptor (T k).2.2.1 = some (ty0 k)) (hnm : ∀ a, a < N → ∀ b, b < N → a ≠ b → (T a).2.1 ≠ (T b).2.1) (k : Nat) (hk : k < N) {index : Nat} (hlink : Cond.fieldLink own index (T k).1 (T k).2.1 (T k).2.2.1 ∈ bw_G) (hfin : (T k).2.2.2 = false ∨ ((T k).2.2.2 = true ∧ meth.name = "<init>" ∧ (T k).1 = own)) {v : Value} (hn : narrow (ty0 k) v = v) (hfit : fits (ty0 k) v = true) (hl : k < fs.length) (hdg : decode cc pc = .ok (.putfield index, 3))
    (kk : ∀ (H1 : Heap) (locs1 : List Loc), H1.size = H.size → bS K.D K.B n (bw_up ct r (.inr (ci, fs.set k v))) s H1 locs1 → W p l e R s m args below meth c H1 locs1 cells slots Q (F0 m (pc + 3) ls rest)) : W p l e R s m args below meth c H locs cells slots Q (F0 m pc ls (v :: .ref (K.B + r) :: rest)) := by
  obtain ⟨hx, hcb, hml, hown, hts⟩ := C0
  have hK := hb.1
  have hap := va_apart (own := own) hts hin ty0 hty hnm hK hc
  obtain ⟨r', h1, cell, q1, q2, q3, q4⟩ := (hw.1.sing hr he) 0 _ rfl
  have hr' : r' = (C, T, N) := Option.some.inj (h1.symm.trans hc)
  subst hr'
  obtain ⟨hS, hfc, kC, hkC, hkind⟩ := hK.1 ci _ hc
  obtain ⟨cf, kf, fi, f, hi, hsl⟩ := hS k hk
  have hlay := hts _ (hin _ (u_in_lay hk))
  unfold u_lay at hlay
  have hst' := (u_facts hfc hkC (u_lays hts hin hk) hi).1
  rcases hfin with hfin | ⟨hfin, hname, hdecl⟩
  · rw [if_neg (by rw [hfin]; decide)] at hlay
    have h6 := u_store hfc hkC hkind hlay hi (hty k hk) hn hfit
    refine W.putK hx hcb (f := f) ⟨hown, hts _ hlink, ⟨_, _, _, hi⟩, hst'⟩ (by rw [q2]; exact h6) q1 q3 (by rw [hsl]; exact k2_hasslot (q4 k hk)) rfl rfl hdg fun H' e1 e2 e3 => ?_
    rw [hsl] at e1 ⊢
    exact kk H' _ e2 (hw.put (.inr (ci, fs.set k v)) ⟨_, hc, t_OB.to (V := updV (vp_V fs) k v) ⟨_, e1, q2, q3, t_set q4 hap hk v⟩ (fun j _ => vp_updV_set hl v j)⟩ e2 e3)
  · rw [if_pos hfin] at hlay
    have hcf : m.cls = cf := by
      obtain ⟨_, _, c', _, _, _, -, -, hf', -, -, -, hown2, -⟩ := Cond.laysFinal_spec hlay
      have e1 : c' = cf := by have := hi.symm.trans hf'; simp at this; exact this.1.symm
      rw [hdecl] at hown2
      rw [← e1]; exact Option.some.inj (hown.symm.trans hown2)
    have h6 := u_fits hfc hkC hkind (Or.inr hlay) hi (hty k hk) hn hfit
    refine W.putFinK hx hcb hown (hts _ hlink) hi hst' hcf hname (by rw [q2]; exact h6) q1 q3 (by rw [hsl]; exact k2_hasslot (q4 k hk)) rfl rfl hdg fun H' e1 e2 e3 => ?_
    rw [hsl] at e1 ⊢
    exact kk H' _ e2 (hw.put (.inr (ci, fs.set k v)) ⟨_, hc, t_OB.to (V := updV (vp_V fs) k v) ⟨_, e1, q2, q3, t_set q4 hap hk v⟩ (fun j _ => vp_updV_set hl v j)⟩ e2 e3)
theorem br_new (C0 : CallFix p m c cc nL s args bw_G own) (hb : bK K s) (hB : K.B ≤ s.heap.size) (hw : bS K.D K.B n ct s H locs) (hz : H.size = K.B + n) {ci : Nat} {C : String} {T : u_T} {N : Nat} (hc : vwCl[ci]? = some (C, T, N)) (hin : ∀ w ∈ u_ws C T N, w ∈ bw_G) (ty : Nat → FieldType) (hty : ∀ k, k < N → parseFieldDescriptor (T k).2.2.1 = some (ty k)) {index : Nat} (hcl : Cond.classLink own index C ∈ bw_G) (hinst : Cond.instantiable C N ∈ bw_G) (hini : Cond.initialized C ∈ bw_G)
    {fs : List Value} (hfs : ∀ j, j < N → defaultValue (ty j) = vp_V fs j) (hcells : cells + 1 ≤ R.cells) (hslots : slots + N ≤ R.slots) (hdg : decode cc pc = .ok (.new index, 3))
    (kk : ∀ (H1 : Heap), H1.size = K.B + (n + 1) → bS K.D K.B (n + 1) (bw_up ct n (.inr (ci, fs))) s H1 locs → W p l e R s m args below meth c H1 locs (cells + 1) (slots + N) Q (F0 m (pc + 3) ls (.ref (K.B + n) :: rest))) : W p l e R s m args below meth c H locs cells slots Q (F0 m pc ls rest) := by
  obtain ⟨hx, hcb, hml, hown, hts⟩ := C0
  have hKn := hb.1.1 ci _ hc
  refine W.newcK hx hcb hown (hts _ hcl) (hts _ hinst) (hts _ hini) rfl hdg hcells hslots hKn.2.1 hz fun H1 kC hkC e1 z1 o1 => ?_
  have o2 : ∀ q : Nat, q < H.size → H1[q]? = H[q]? := fun q hq => o1 q (by rw [← hz]; exact hq)
  refine kk H1 z1 ⟨hw.1.push hz _ ⟨_, hc, (u_born ty hts hin hKn hkC e1 hty).to hfs⟩ (by rw [z1, hz]) o2, ?_⟩
  exact ⟨Nat.le_trans hw.2.1 (by omega), fun x h1 h2 => (o2 x (Nat.lt_of_lt_of_le h1 hw.2.1)).trans (hw.2.2.1 x h1 h2), hw.2.2.2⟩
theorem br_newa (C0 : CallFix p m c cc nL s args bw_G own) (hb : bK K s) (hw : bS K.D K.B n ct s H locs) (hz : H.size = K.B + n) {atype : ArrayType} {ty : FieldType} (hty : newarray.typeOf atype = ty) (harr : Cond.arrayClass ty ∈ bw_G) (t0 : Nat) {cA : ClassId} (ht : (b_tys K.cy)[t0]? = some (cA, ty)) (hno : ∀ U cB, va_RA U cB ty → U.vm.findClass ("[" ++ ty.toString) = some cB)
    {k : Int32} {N' : Nat} {a0 : vp_A} (ha : vp_cell cA a0 = arrV cA N' (fun _ => defaultValue ty)) (hn : ¬ k < 0) (hN : k.toNatClampNeg = N') (hbytes : N' * componentBytes ty ≤ 536870912) (hcells : cells + 1 ≤ R.cells) (hslots : slots + N' ≤ R.slots) (hdg : decode cc pc = .ok (.newarray atype, 2))
    (kk : ∀ (H1 : Heap), H1.size = K.B + (n + 1) → bS K.D K.B (n + 1) (bw_up ct n (.inl (cA, a0))) s H1 locs → W p l e R s m args below meth c H1 locs (cells + 1) (slots + N') Q (F0 m (pc + 2) ls (.ref (K.B + n) :: rest))) : W p l e R s m args below meth c H locs cells slots Q (F0 m pc ls (.int k :: rest)) := by
  obtain ⟨hx, hcb, hml, hown, hts⟩ := C0
  subst hty
  refine va_newaK hx hcb (hts _ harr) rfl hdg rfl hn hN hbytes hcells hslots hz fun H1 cB e1 z1 o1 hAr hNm => ?_
  have hAB : cB = cA := Option.some.inj (hNm.symm.trans (hno _ _ (hb.1.2 t0 _ ht).2))
  subst hAB
  have o2 : ∀ q : Nat, q < H.size → H1[q]? = H[q]? := fun q hq => o1 q (by rw [← hz]; exact hq)
  refine kk H1 z1 ⟨hw.1.push hz _ (show H1[K.B + n]? = some (vp_cell cB a0) by rw [ha]; exact e1) (by rw [z1, hz]) o2, ?_⟩
  exact ⟨Nat.le_trans hw.2.1 (by omega), fun x h1 h2 => (o2 x (Nat.lt_of_lt_of_le h1 hw.2.1)).trans (hw.2.2.1 x h1 h2), hw.2.2.2⟩
theorem br_newq (C0 : CallFix p m c cc nL s args bw_G own) (hb : bK K s) (hw : bS K.D K.B n ct s H locs) (hz : H.size = K.B + n) {C : String} {index : Nat} (hcl : Cond.classLink own index C ∈ bw_G) (hover : va_AO C s) (t0 : Nat) {cA : ClassId} (ht : (b_tys K.cy)[t0]? = some (cA, .object C))
    {k : Int32} {N' : Nat} (hn : ¬ k < 0) (hN : k.toNatClampNeg = N') (hbytes : N' * 4 ≤ 536870912) (hcells : cells + 1 ≤ R.cells) (hslots : slots + N' ≤ R.slots) (hdg : decode cc pc = .ok (.anewarray index, 3))
    (kk : ∀ (H1 : Heap), H1.size = K.B + (n + 1) → bS K.D K.B (n + 1) (bw_up ct n (.inl (cA, N', .inr (.inr (.inr (.inr (fun _ => none))))))) s H1 locs → W p l e R s m args below meth c H1 locs (cells + 1) (slots + N') Q (F0 m (pc + 3) ls (.ref (K.B + n) :: rest))) : W p l e R s m args below meth c H locs cells slots Q (F0 m pc ls (.int k :: rest)) := by
  obtain ⟨hx, hcb, hml, hown, hts⟩ := C0
  subst hN
  refine W.anew hx hcb hown (hts _ hcl) (va_AO.use hover) rfl hdg rfl hn hbytes hcells hslots fun cB kA comp f1 f2 f3 f4 => ?_
  obtain ⟨_, _, _, _, _, f5⟩ := (hb.1.2 t0 _ ht).2
  have hAB : cB = cA := Option.some.inj (f1.symm.trans f5)
  subst hAB
  generalize hH1 : H.push ({ cls := cB, slots := Array.replicate k.toNatClampNeg .null, vm := .none } : Cell) = H1
  have z1 : H1.size = H.size + 1 := by rw [← hH1, Array.size_push]
  have e1 : H1[H.size]? = some (arrV cB k.toNatClampNeg (fun _ => .null)) := by rw [← hH1, Array.getElem?_push_size, ← arrV_new]
  have o1 : ∀ q : Nat, q < H.size → H1[q]? = H[q]? := fun q hq => by rw [← hH1, Array.getElem?_push, if_neg (Nat.ne_of_lt hq)]
  rw [hz]
  refine kk H1 (by rw [z1, hz]; rfl) ⟨hw.1.push hz _ (show H1[K.B + n]? = some (vp_cell cB _) by rw [vp_cell_q, ← hz]; exact e1) z1 o1, ?_⟩
  exact ⟨Nat.le_trans hw.2.1 (by omega), fun x h1 h2 => (o1 x (Nat.lt_of_lt_of_le h1 hw.2.1)).trans (hw.2.2.1 x h1 h2), hw.2.2.2⟩
theorem br_iald (C0 : CallFix p m c cc nL s args bw_G own) (hb : bK K s) (hw : bS K.D K.B n ct s H locs) {r : Nat} (hr : r < n) {N : Nat} {f : Nat → Int32} (he : ct r = .inl (K.cy 1, N, .inl f)) {i : Int32} (hin : vp_in i N) (hdg : decode cc pc = .ok (.iaload, 1))
    (kk : W p l e R s m args below meth c H locs cells slots Q (F0 m (pc + 1) ls (.int (f i.toNatClampNeg) :: rest))) : W p l e R s m args below meth c H locs cells slots Q (F0 m pc ls (.int i :: .ref (K.B + r) :: rest)) :=
  va_iald C0.1 C0.2.1 hb.1 (hw.1.sing hr he) 0 1 rfl rfl hin hdg kk
theorem br_cald (C0 : CallFix p m c cc nL s args bw_G own) (hb : bK K s) (hw : bS K.D K.B n ct s H locs) {r : Nat} (hr : r < n) {N : Nat} {f : Nat → Int32} (he : ct r = .inl (K.cy 0, N, .inl f)) {i : Int32} (hin : vp_in i N) (hdg : decode cc pc = .ok (.caload, 1))
    (kk : W p l e R s m args below meth c H locs cells slots Q (F0 m (pc + 1) ls (.int (f i.toNatClampNeg) :: rest))) : W p l e R s m args below meth c H locs cells slots Q (F0 m pc ls (.int i :: .ref (K.B + r) :: rest)) :=
  va_cald C0.1 C0.2.1 hb.1 (hw.1.sing hr he) 0 0 rfl rfl hin hdg kk
theorem br_zald (C0 : CallFix p m c cc nL s args bw_G own) (hb : bK K s) (hw : bS K.D K.B n ct s H locs) {r : Nat} (hr : r < n) {N : Nat} {f : Nat → Int32} (he : ct r = .inl (K.cy 3, N, .inl f)) {i : Int32} (hin : vp_in i N) (hdg : decode cc pc = .ok (.baload, 1))
    (kk : W p l e R s m args below meth c H locs cells slots Q (F0 m (pc + 1) ls (.int (f i.toNatClampNeg) :: rest))) : W p l e R s m args below meth c H locs cells slots Q (F0 m pc ls (.int i :: .ref (K.B + r) :: rest)) :=
  va_zald C0.1 C0.2.1 hb.1 (hw.1.sing hr he) 0 3 rfl rfl hin hdg kk
theorem br_lald (C0 : CallFix p m c cc nL s args bw_G own) (hb : bK K s) (hw : bS K.D K.B n ct s H locs) {r : Nat} (hr : r < n) {N : Nat} {f : Nat → Int64} (he : ct r = .inl (K.cy 2, N, .inr (.inl f))) {i : Int32} (hin : vp_in i N) (hdg : decode cc pc = .ok (.laload, 1))
    (kk : W p l e R s m args below meth c H locs cells slots Q (F0 m (pc + 1) ls (.long (f i.toNatClampNeg) :: rest))) : W p l e R s m args below meth c H locs cells slots Q (F0 m pc ls (.int i :: .ref (K.B + r) :: rest)) :=
  va_lald C0.1 C0.2.1 hb.1 (hw.1.sing hr he) 0 2 rfl rfl hin hdg kk
theorem br_aald (C0 : CallFix p m c cc nL s args bw_G own) (hb : bK K s) (hw : bS K.D K.B n ct s H locs) {r : Nat} (hr : r < n) (t0 : Nat) {cA : ClassId} {C : String} (ht : (b_tys K.cy)[t0]? = some (cA, .object C)) {N : Nat} {f : Nat → Option Nat} (he : ct r = .inl (cA, N, .inr (.inr (.inr (.inr f))))) {i : Int32} (hin : vp_in i N) {v : Value} (hv : va_rf (f i.toNatClampNeg) = v) (hdg : decode cc pc = .ok (.aaload, 1))
    (kk : W p l e R s m args below meth c H locs cells slots Q (F0 m (pc + 1) ls (v :: rest))) : W p l e R s m args below meth c H locs cells slots Q (F0 m pc ls (.int i :: .ref (K.B + r) :: rest)) := by
  subst hv
  exact va_aldq C0.1 C0.2.1 hb.1 (hw.1.sing hr he) 0 t0 rfl ht hin hdg kk
theorem br_alen (C0 : CallFix p m c cc nL s args bw_G own) (hb : bK K s) (hw : bS K.D K.B n ct s H locs) {r : Nat} (hr : r < n) (t0 : Nat) {cA : ClassId} {ty : FieldType} (ht : (b_tys K.cy)[t0]? = some (cA, ty)) {x : vp_A} (he : ct r = .inl (cA, x)) {v : Int32} (hv : Int32.ofNat x.1 = v) (hdg : decode cc pc = .ok (.arraylength, 1))
    (kk : W p l e R s m args below meth c H locs cells slots Q (F0 m (pc + 1) ls (.int v :: rest))) : W p l e R s m args below meth c H locs cells slots Q (F0 m pc ls (.ref (K.B + r) :: rest)) :=
  va_alen C0.1 C0.2.1 hb.1 (hw.1.sing hr he) 0 t0 rfl ht hv hdg kk
end BR
end
section
/-! THE READER: the code read in big steps over a list of cells (this file); what it reads, the machine does (next file). -/
abbrev bV : Type := Int32 ⊕ Int64 ⊕ Nat ⊕ Option Nat
abbrev bC : Type := (Nat × List bV) ⊕ (Nat × List Int32) ⊕ List Int64 ⊕ (Nat × List (Option Nat))
abbrev bW : Type := List bC × Nat
abbrev bO : Type := Instr × Nat × Nat × Nat × Int
/-- the handlers of a throw: rows of the table with the name behind -/
abbrev bH : Type := List ((Nat × Nat × Nat × Nat) × String)
abbrev bM : Type := MethodName × ByteArray × Nat × Option FieldType × bH
abbrev bR : Type := Option bV ⊕ String
def bvc (v : bV) : Nat := match v with | .inr (.inl _) => 2 | _ => 1
def bvv (K : KE) (v : bV) : Value := match v with
  | .inl x => .int x
  | .inr (.inl x) => .long x
  | .inr (.inr (.inl k)) => .ref (K.B + k)
  | .inr (.inr (.inr none)) => .null
  | .inr (.inr (.inr (some j))) => .ref (K.X j)
theorem bvc_v (K : KE) (v : bV) : (bvv K v).category = bvc v := by
  rcases v with x | x | k | _ | j <;> rfl
def bce (K : KE) (c : bC) : va_E := match c with
  | .inl (ci, fs) => .inr (ci, fs.map (bvv K))
  | .inr (.inl (t, xs)) => .inl (K.cy t, xs.length, .inl (fun j => xs.getD j 0))
  | .inr (.inr (.inl xs)) => .inl (K.cy 2, xs.length, .inr (.inl (fun j => xs.getD j 0)))
  | .inr (.inr (.inr (t, xs))) => .inl (K.cy t, xs.length, .inr (.inr (.inr (.inr (fun j => (xs.getD j none).map (fun k => K.B + k))))))
def bcs (c : bC) : Nat := match c with
  | .inl (_, fs) => fs.length
  | .inr (.inl (_, xs)) => xs.length
  | .inr (.inr (.inl xs)) => xs.length
  | .inr (.inr (.inr (_, xs))) => xs.length
def bsz (cs : List bC) : Nat := (cs.map bcs).sum
def bct (K : KE) (cs : List bC) : Nat → va_E := fun k => match cs[k]? with
  | some c => bce K c
  | none => .inr (0, [])
theorem bct_at {K : KE} {cs : List bC} {r : Nat} {c : bC} (h : cs[r]? = some c) : bct K cs r = bce K c := by
  unfold bct; rw [h]
theorem bct_set {K : KE} {cs : List bC} {r : Nat} {c : bC} (h : r < cs.length) : bct K (cs.set r c) = bw_up (bct K cs) r (bce K c) := by
  funext k
  by_cases hk : k = r
  · subst hk
    rw [bw_eq]
    exact bct_at (by simp [h])
  · rw [bw_ne hk]
    unfold bct
    rw [List.getElem?_set_ne (fun q => hk q.symm)]
theorem bct_push {K : KE} {cs : List bC} {c : bC} : bct K (cs ++ [c]) = bw_up (bct K cs) cs.length (bce K c) := by
  funext k
  by_cases hk : k = cs.length
  · subst hk
    rw [bw_eq]
    exact bct_at (by simp)
  · rw [bw_ne hk]
    unfold bct
    by_cases h2 : k < cs.length
    · rw [List.getElem?_append_left h2]
    · rw [List.getElem?_eq_none (by simp; omega), List.getElem?_eq_none (by omega)]
theorem bsz_push (cs : List bC) (c : bC) : bsz (cs ++ [c]) = bsz cs + bcs c := by simp [bsz]
theorem bsz_set {cs : List bC} {r : Nat} {c c' : bC} (h : cs[r]? = some c') (hc : bcs c = bcs c') : bsz (cs.set r c) = bsz cs := by
  induction cs generalizing r with
  | nil => cases h
  | cons a t ih =>
    cases r with
    | zero => cases h; simp [bsz, hc]
    | succ r => have h1 := ih (r := r) h; simp only [bsz, List.map_set] at h1; simp [bsz, h1]
def bty (ci : Nat) : List FieldType := match ci with
  | 2 => (List.range 6).map tyX0
  | 3 => (List.range 2).map tyX1
  | 4 => (List.range 2).map tyX2
  | 5 => (List.range 13).map tyX3
  | 6 => (List.range 2).map tyX4
  | 7 => (List.range 12).map tyX5
  | 8 => (List.range 8).map tyX6
  | 9 => (List.range 4).map tyX7
  | 10 => (List.range 13).map tyX8
  | 11 => (List.range 7).map tyX9
  | 12 => (List.range 2).map tyX10
  | 13 => (List.range 17).map tyX11
  | 14 => (List.range 43).map tyX12
  | _ => []
def bdf (t : FieldType) : bV := match t with
  | .long => .inr (.inl 0)
  | .object _ => .inr (.inr (.inr none))
  | .array _ => .inr (.inr (.inr none))
  | _ => .inl 0
def bokf (t : FieldType) (v : bV) : Bool := match t, v with
  | .int, .inl _ => true
  | .long, .inr (.inl _) => true
  | .boolean, .inl x => decide (narrow .boolean (.int x) = .int x) && fits .boolean (.int x)
  | .char, .inl x => decide (narrow .char (.int x) = .int x) && fits .char (.int x)
  | .object _, .inr (.inr _) => true
  | .array _, .inr (.inr _) => true
  | _, _ => false
def bcmp (c : ClassFile.Cond) (x y : Int32) : Bool := match c with
  | .eq => decide (x = y)
  | .ne => decide (x ≠ y)
  | .lt => decide (x < y)
  | .ge => decide (x ≥ y)
  | .gt => decide (x > y)
  | .le => decide (x ≤ y)
def bin (i : Int32) (n : Nat) : Bool := decide (¬ i < 0) && decide (i.toNatClampNeg < n)
def blk (lv : List (Nat × bV)) (i : Nat) : Option bV := match lv with
  | [] => none
  | q :: t => if q.1 = i then some q.2 else blk t i
def bst1 (lv : List (Nat × bV)) (i : Nat) (v : bV) : List (Nat × bV) := (i, v) :: lv.filter (fun q => !(q.1 == i) && !(q.1 + 1 == i && bvc q.2 == 2))
def bst2 (lv : List (Nat × bV)) (i : Nat) (v : bV) : List (Nat × bV) := (i, v) :: lv.filter (fun q => !(q.1 == i) && (!(q.1 == i + 1) && !(q.1 + 1 == i && bvc q.2 == 2)))
abbrev bF : Type := Nat × List (Nat × bV) × List bV × bW
/-- an array cell, in the world or outside -/
def barr (E : Nat → bC) (w : bW) (v : bV) : Option bC := match v with
  | .inr (.inr (.inl r)) => w.1[r]?
  | .inr (.inr (.inr (some j))) => some (E j)
  | _ => none
def bload (i : Int32) (t : Nat) (c : Option bC) : Option bV := match c with
  | some (.inr (.inl (t', xs))) => if t' = t ∧ (t = 0 ∨ t = 1 ∨ t = 3) ∧ bin i xs.length = true then some (.inl (xs.getD i.toNatClampNeg 0)) else none
  | some (.inr (.inr (.inl xs))) => if t = 2 ∧ bin i xs.length = true then some (.inr (.inl (xs.getD i.toNatClampNeg 0))) else none
  | some (.inr (.inr (.inr (t', xs)))) => if t = 4 ∧ (t' = 4 ∨ t' = 5) ∧ bin i xs.length = true then some (match xs.getD i.toNatClampNeg none with | none => .inr (.inr (.inr none)) | some k => .inr (.inr (.inl k))) else none
  | _ => none
def bld (E : Nat → bC) (pc t : Nat) (lv : List (Nat × bV)) (st : List bV) (w : bW) : Option bF := match st with
  | .inl i :: a :: r => match bload i t (barr E w a) with
    | some v => some (pc + 1, lv, v :: r, w)
    | none => none
  | _ => none
def bast (pc t : Nat) (lv : List (Nat × bV)) (st : List bV) (w : bW) : Option bF := match st with
  | .inl x :: .inl i :: .inr (.inr (.inl r)) :: rest => match w.1[r]? with
    | some (.inr (.inl (t', xs))) => if t' = t ∧ bin i xs.length = true then some (pc + 1, lv, rest, (w.1.set r (.inr (.inl (t, xs.set i.toNatClampNeg (vp_nar (if t = 0 then .char else if t = 3 then .boolean else .int) x)))), w.2)) else none
    | _ => none
  | _ => none
def blast (pc : Nat) (lv : List (Nat × bV)) (st : List bV) (w : bW) : Option bF := match st with
  | .inr (.inl x) :: .inl i :: .inr (.inr (.inl r)) :: rest => match w.1[r]? with
    | some (.inr (.inr (.inl xs))) => if bin i xs.length = true then some (pc + 1, lv, rest, (w.1.set r (.inr (.inr (.inl (xs.set i.toNatClampNeg x)))), w.2)) else none
    | _ => none
  | _ => none
def bcls (t : Nat) : Nat := if t = 4 then 4 else 7
def baast (pc : Nat) (lv : List (Nat × bV)) (st : List bV) (w : bW) : Option bF := match st with
  | .inr (.inr (.inl v)) :: .inl i :: .inr (.inr (.inl r)) :: rest => match w.1[r]?, w.1[v]? with
    | some (.inr (.inr (.inr (t, xs)))), some (.inl (ci, _)) => if (t = 4 ∨ t = 5) ∧ ci = bcls t ∧ bin i xs.length = true then some (pc + 1, lv, rest, (w.1.set r (.inr (.inr (.inr (t, xs.set i.toNatClampNeg (some v))))), w.2)) else none
    | _, _ => none
  | _ => none
def blen (c : bC) : Option Nat := match c with
  | .inr (.inl (t, xs)) => if t = 0 ∨ t = 1 ∨ t = 3 then some xs.length else none
  | .inr (.inr (.inl xs)) => some xs.length
  | .inr (.inr (.inr (t, xs))) => if t = 4 ∨ t = 5 then some xs.length else none
  | _ => none
def bi1 (pc : Nat) (lv : List (Nat × bV)) (st : List bV) (w : bW) (f : Int32 → bV) : Option bF := match st with
  | .inl x :: r => some (pc + 1, lv, f x :: r, w)
  | _ => none
def bi2 (pc : Nat) (lv : List (Nat × bV)) (st : List bV) (w : bW) (f : Int32 → Int32 → Option Int32) : Option bF := match st with
  | .inl y :: .inl x :: r => match f x y with
    | some v => some (pc + 1, lv, .inl v :: r, w)
    | none => none
  | _ => none
def bl1 (pc : Nat) (lv : List (Nat × bV)) (st : List bV) (w : bW) (f : Int64 → bV) : Option bF := match st with
  | .inr (.inl x) :: r => some (pc + 1, lv, f x :: r, w)
  | _ => none
def bl2 (pc : Nat) (lv : List (Nat × bV)) (st : List bV) (w : bW) (f : Int64 → Int64 → Option bV) : Option bF := match st with
  | .inr (.inl y) :: .inr (.inl x) :: r => match f x y with
    | some v => some (pc + 1, lv, v :: r, w)
    | none => none
  | _ => none
def bls (pc : Nat) (lv : List (Nat × bV)) (st : List bV) (w : bW) (f : Int64 → Int32 → Int64) : Option bF := match st with
  | .inl y :: .inr (.inl x) :: r => some (pc + 1, lv, .inr (.inl (f x y)) :: r, w)
  | _ => none
def bldl (k : Nat) (pc n i : Nat) (lv : List (Nat × bV)) (st : List bV) (w : bW) : Option bF := match k, blk lv i with
  | 0, some (.inl x) => some (pc + n, lv, .inl x :: st, w)
  | 1, some (.inr (.inl x)) => some (pc + n, lv, .inr (.inl x) :: st, w)
  | 2, some (.inr (.inr (.inl x))) => some (pc + n, lv, .inr (.inr (.inl x)) :: st, w)
  | 2, some (.inr (.inr (.inr (some x)))) => some (pc + n, lv, .inr (.inr (.inr (some x))) :: st, w)
  | _, _ => none
/-- the locals' number nL bounds what is stored -/
def bstl (k nL : Nat) (pc n i : Nat) (lv : List (Nat × bV)) (st : List bV) (w : bW) : Option bF := match k, st with
  | 0, .inl x :: r => if i < nL then some (pc + n, bst1 lv i (.inl x), r, w) else none
  | 1, .inr (.inl x) :: r => if i + 1 < nL then some (pc + n, bst2 lv i (.inr (.inl x)), r, w) else none
  | 2, .inr (.inr (.inl x)) :: r => if i < nL then some (pc + n, bst1 lv i (.inr (.inr (.inl x))), r, w) else none
  | _, _ => none
def binc (nL pc i : Nat) (n : Int) (lv : List (Nat × bV)) (st : List bV) (w : bW) : Option bF := match blk lv i with
  | some (.inl x) => if i < nL then some (pc + 3, bst1 lv i (.inl (x + Int32.ofInt n)), st, w) else none
  | _ => none
def bdup (pc : Nat) (lv : List (Nat × bV)) (st : List bV) (w : bW) : Option bF := match st with
  | v :: r => if bvc v = 1 then some (pc + 1, lv, v :: v :: r, w) else none
  | _ => none
def bpop (pc : Nat) (lv : List (Nat × bV)) (st : List bV) (w : bW) : Option bF := match st with
  | v :: r => if bvc v = 1 then some (pc + 1, lv, r, w) else none
  | _ => none
def bdup2 (pc : Nat) (lv : List (Nat × bV)) (st : List bV) (w : bW) : Option bF := match st with
  | v :: r => if bvc v = 2 then some (pc + 1, lv, v :: v :: r, w) else (match r with
    | u :: r => if bvc v = 1 ∧ bvc u = 1 then some (pc + 1, lv, v :: u :: v :: u :: r, w) else none
    | _ => none)
  | _ => none
def bpop2 (pc : Nat) (lv : List (Nat × bV)) (st : List bV) (w : bW) : Option bF := match st with
  | v :: r => if bvc v = 2 then some (pc + 1, lv, r, w) else none
  | _ => none
def bjf (cd : ClassFile.Cond) (pc a : Nat) (lv : List (Nat × bV)) (st : List bV) (w : bW) : Option bF := match st with
  | .inl x :: r => some (if bcmp cd x 0 = true then a else pc + 3, lv, r, w)
  | _ => none
def bjc (cd : ClassFile.Cond) (pc a : Nat) (lv : List (Nat × bV)) (st : List bV) (w : bW) : Option bF := match st with
  | .inl y :: .inl x :: r => some (if bcmp cd x y = true then a else pc + 3, lv, r, w)
  | _ => none
def bgf (pc a b : Nat) (lv : List (Nat × bV)) (st : List bV) (w : bW) : Option bF := match st with
  | .inr (.inr (.inl r)) :: rest => match w.1[r]? with
    | some (.inl (ci, fs)) => if ci = a then (match fs[b]? with
      | some v => some (pc + 3, lv, v :: rest, w)
      | none => none) else none
    | _ => none
  | _ => none
def bpf (pc a b : Nat) (lv : List (Nat × bV)) (st : List bV) (w : bW) : Option bF := match st with
  | v :: .inr (.inr (.inl r)) :: rest => match w.1[r]? with
    | some (.inl (ci, fs)) => if ci = a ∧ b < fs.length ∧ bokf ((bty a).getD b .byte) v = true then some (pc + 3, lv, rest, (w.1.set r (.inl (ci, fs.set b v)), w.2)) else none
    | _ => none
  | _ => none
def balen (E : Nat → bC) (pc : Nat) (lv : List (Nat × bV)) (st : List bV) (w : bW) : Option bF := match st with
  | a :: r => match barr E w a with
    | some c => (match blen c with
      | some n => some (pc + 1, lv, .inl (Int32.ofNat n) :: r, w)
      | none => none)
    | none => none
  | _ => none
def bnew (pc a : Nat) (v : Int) (lv : List (Nat × bV)) (st : List bV) (w : bW) : Option bF :=
  if w.2 = 0 ∧ v = 0 then some (pc + 3, lv, .inr (.inr (.inl w.1.length)) :: st, (w.1 ++ [.inl (a, (bty a).map bdf)], w.2)) else none
def bnwa (pc a : Nat) (lv : List (Nat × bV)) (st : List bV) (w : bW) : Option bF := match st with
  | .inl n :: r => if w.2 = 0 ∧ ¬ n < 0 ∧ n.toNatClampNeg * 8 ≤ 536870912 then some (pc + 2, lv, .inr (.inr (.inl w.1.length)) :: r, (w.1 ++ [if a = 2 then .inr (.inr (.inl (List.replicate n.toNatClampNeg 0))) else .inr (.inl (a, List.replicate n.toNatClampNeg 0))], w.2)) else none
  | _ => none
def bnwq (pc a : Nat) (lv : List (Nat × bV)) (st : List bV) (w : bW) : Option bF := match st with
  | .inl n :: r => if w.2 = 0 ∧ ¬ n < 0 ∧ n.toNatClampNeg * 8 ≤ 536870912 then some (pc + 3, lv, .inr (.inr (.inl w.1.length)) :: r, (w.1 ++ [.inr (.inr (.inr (a, List.replicate n.toNatClampNeg none)))], w.2)) else none
  | _ => none
def bobj (pc : Nat) (v : Int) (lv : List (Nat × bV)) (st : List bV) (w : bW) : Option bF := match st with
  | .inr (.inr (.inl _)) :: r => if v = 1 ∧ (r.map bvc).sum ≤ 8 then some (pc + 3, lv, r, w) else none
  | _ => none
def blsw (pc : Nat) (d : Int) (ps : List (Int × Int)) (lv : List (Nat × bV)) (st : List bV) (w : bW) : Option bF := match st with
  | .inl x :: r => if 0 ≤ (pc : Int) + Op.lookupswitch.offset ps d x.toInt then some (((pc : Int) + Op.lookupswitch.offset ps d x.toInt).toNat, lv, r, w) else none
  | _ => none
def btsw (pc : Nat) (d lo hi : Int) (offs : Array Int) (lv : List (Nat × bV)) (st : List bV) (w : bW) : Option bF := match st with
  | .inl x :: r => if x.toInt < lo ∨ hi < x.toInt then (if 0 ≤ (pc : Int) + d then some (((pc : Int) + d).toNat, lv, r, w) else none) else (match offs[(x.toInt - lo).toNat]? with
    | some off => if 0 ≤ (pc : Int) + off then some (((pc : Int) + off).toNat, lv, r, w) else none
    | none => none)
  | _ => none
def bstep (E : Nat → bC) (nL : Nat) (o : bO) (pc : Nat) (lv : List (Nat × bV)) (st : List bV) (w : bW) : Option bF := match o.1 with
  | .iconst n => some (pc + 1, lv, .inl (Int32.ofInt n) :: st, w)
  | .bipush n => some (pc + 2, lv, .inl (Int8.ofInt n).toInt32 :: st, w)
  | .sipush n => some (pc + 3, lv, .inl (Int16.ofInt n).toInt32 :: st, w)
  | .ldc _ => some (pc + 2, lv, .inl (Int32.ofInt o.2.2.2.2) :: st, w)
  | .lconst n => some (pc + 1, lv, .inr (.inl (Int64.ofNat n)) :: st, w)
  | .ldc2_w _ => some (pc + 3, lv, .inr (.inl (Int64.ofInt o.2.2.2.2)) :: st, w)
  | .iload_n k => bldl 0 pc 1 k lv st w
  | .iload i => bldl 0 pc 2 i lv st w
  | .lload_n k => bldl 1 pc 1 k lv st w
  | .lload i => bldl 1 pc 2 i lv st w
  | .aload_n k => bldl 2 pc 1 k lv st w
  | .aload i => bldl 2 pc 2 i lv st w
  | .istore_n k => bstl 0 nL pc 1 k lv st w
  | .istore i => bstl 0 nL pc 2 i lv st w
  | .lstore_n k => bstl 1 nL pc 1 k lv st w
  | .lstore i => bstl 1 nL pc 2 i lv st w
  | .astore_n k => bstl 2 nL pc 1 k lv st w
  | .astore i => bstl 2 nL pc 2 i lv st w
  | .iinc i n => binc nL pc i n lv st w
  | .iadd => bi2 pc lv st w (fun x y => some (x + y))
  | .isub => bi2 pc lv st w (fun x y => some (x - y))
  | .imul => bi2 pc lv st w (fun x y => some (x * y))
  | .iand => bi2 pc lv st w (fun x y => some (x &&& y))
  | .ior => bi2 pc lv st w (fun x y => some (x ||| y))
  | .idiv => bi2 pc lv st w (fun x y => if y = 0 then none else some (x / y))
  | .irem => bi2 pc lv st w (fun x y => if y = 0 then none else some (x - x / y * y))
  | .ineg => bi1 pc lv st w (fun x => .inl (-x))
  | .ladd => bl2 pc lv st w (fun x y => some (.inr (.inl (x + y))))
  | .lsub => bl2 pc lv st w (fun x y => some (.inr (.inl (x - y))))
  | .lmul => bl2 pc lv st w (fun x y => some (.inr (.inl (x * y))))
  | .land => bl2 pc lv st w (fun x y => some (.inr (.inl (x &&& y))))
  | .lor => bl2 pc lv st w (fun x y => some (.inr (.inl (x ||| y))))
  | .lxor => bl2 pc lv st w (fun x y => some (.inr (.inl (x ^^^ y))))
  | .ldiv => bl2 pc lv st w (fun x y => if y = 0 then none else some (.inr (.inl (x / y))))
  | .lrem => bl2 pc lv st w (fun x y => if y = 0 then none else some (.inr (.inl (x - x / y * y))))
  | .lcmp => bl2 pc lv st w (fun x y => some (.inl (lg_cmp x y)))
  | .lneg => bl1 pc lv st w (fun x => .inr (.inl (-x)))
  | .l2i => bl1 pc lv st w (fun x => .inl x.toInt32)
  | .i2l => bi1 pc lv st w (fun x => .inr (.inl x.toInt64))
  | .i2c => bi1 pc lv st w (fun x => .inl (x.toUInt32 % 65536).toInt32)
  | .lshl => bls pc lv st w (fun x y => x <<< (y.toInt64 &&& 63))
  | .lshr => bls pc lv st w (fun x y => x >>> (y.toInt64 &&& 63))
  | .dup => bdup pc lv st w
  | .pop => bpop pc lv st w
  | .dup2 => bdup2 pc lv st w
  | .pop2 => bpop2 pc lv st w
  | .goto _ => some (o.2.2.1, lv, st, w)
  | .ifCond c _ => bjf c pc o.2.2.1 lv st w
  | .if_icmp c _ => bjc c pc o.2.2.1 lv st w
  | .getfield _ => bgf pc o.2.2.1 o.2.2.2.1 lv st w
  | .putfield _ => bpf pc o.2.2.1 o.2.2.2.1 lv st w
  | .iaload => bld E pc 1 lv st w
  | .caload => bld E pc 0 lv st w
  | .baload => bld E pc 3 lv st w
  | .laload => bld E pc 2 lv st w
  | .aaload => bld E pc 4 lv st w
  | .iastore => bast pc 1 lv st w
  | .castore => bast pc 0 lv st w
  | .bastore => bast pc 3 lv st w
  | .lastore => blast pc lv st w
  | .aastore => baast pc lv st w
  | .arraylength => balen E pc lv st w
  | .getstatic _ => some (pc + 3, lv, .inr (.inr (.inr (some o.2.2.1))) :: st, w)
  | .new _ => bnew pc o.2.2.1 o.2.2.2.2 lv st w
  | .newarray _ => bnwa pc o.2.2.1 lv st w
  | .anewarray _ => bnwq pc o.2.2.1 lv st w
  | .invokespecial _ => bobj pc o.2.2.2.2 lv st w
  | .lookupswitch d ps => blsw pc d ps.toList lv st w
  | .tableswitch d lo hi offs => btsw pc d lo hi offs lv st w
  | _ => none
def bret (o : bO) (ret : Option FieldType) (st : List bV) : Option (Option bV) := match o.1, ret, st with
  | .ireturn, some t, [.inl x] => if bokf t (.inl x) = true then some (some (.inl x)) else none
  | .lreturn, some .long, [.inr (.inl x)] => some (some (.inr (.inl x)))
  | .areturn, some (.object _), [.inr (.inr q)] => some (some (.inr (.inr q)))
  | .areturn, some (.array _), [.inr (.inr q)] => some (some (.inr (.inr q)))
  | .return_, none, [] => some none
  | _, _, _ => none
/-- a call: the method, what it is called with, what stays -/
def bcal (o : bO) (st : List bV) (w : bW) : Option (Nat × List bV × List bV) := match o.1 with
  | .invokestatic _ => if o.2.2.2.1 ≤ st.length ∧ ((st.drop o.2.2.2.1).map bvc).sum ≤ 8 then some (o.2.2.1, (st.take o.2.2.2.1).reverse, st.drop o.2.2.2.1) else none
  | .invokevirtual _ => match st.drop o.2.2.2.1 with
    | .inr (.inr (.inl r)) :: rest => (match w.1[r]? with
      | some (.inl (ci, _)) => if (ci : Int) = o.2.2.2.2 ∧ (rest.map bvc).sum ≤ 8 then some (o.2.2.1, .inr (.inr (.inl r)) :: (st.take o.2.2.2.1).reverse, rest) else none
      | _ => none)
    | _ => none
  | .invokespecial _ => match st.drop o.2.2.2.1 with
    | .inr (.inr (.inl r)) :: rest => if o.2.2.2.2 = 0 ∧ (rest.map bvc).sum ≤ 8 then some (o.2.2.1, .inr (.inr (.inl r)) :: (st.take o.2.2.2.1).reverse, rest) else none
    | _ => none
  | _ => none
def blva (i : Nat) (vs : List bV) : List (Nat × bV) := match vs with
  | [] => []
  | v :: t => (i, v) :: blva (i + bvc v) t
abbrev bP : Type := (Nat → Nat → Option bO) × (Nat → bM) × (Nat → bC) × (String → String → Option Bool) × (Nat → String × List String)
abbrev bEx : Type := Nat → Nat → Nat → List (Nat × bV) → List bV → bW → bR → bW → Prop
def bhand (H : bH) (pc : Nat) (E : String) (ok : String → String → Option Bool) : Option Nat := match H with
  | [] => none
  | (q, nm) :: t => if q.1 ≤ pc ∧ pc < q.2.1 then (match ok E nm with
    | some true => some q.2.2.1
    | some false => bhand t pc E ok
    | none => none) else bhand t pc E ok
/-- what a handler does first: it puts the throw into a local -/
def bastk (i : Instr) : Option (Nat × Nat) := match i with
  | .astore_n k => some (k, 1)
  | .astore k => some (k, 2)
  | _ => none
def blvx (lv : List (Nat × bV)) (i : Nat) : List (Nat × bV) := lv.filter (fun q => !(q.1 == i) && !(q.1 + 1 == i && bvc q.2 == 2))
/-- a callee that may throw: no constructor, no nest mate's static method -/
def bnsp (o : bO) : Bool := match o.1 with
  | .invokespecial _ => false
  | .invokestatic _ => decide (o.2.2.2.2 = 0)
  | _ => true
/-- closed under the rules of reading -/
def bClosed (P : bP) (R : bEx) : Prop :=
  (∀ (d mi pc : Nat) (lv : List (Nat × bV)) (st : List bV) (w : bW) (o : bO) (q : bF) (r : bR) (w2 : bW), P.1 mi pc = some o → bstep P.2.2.1 (P.2.1 mi).2.2.1 o pc lv st w = some q → R d mi q.1 q.2.1 q.2.2.1 q.2.2.2 r w2 → R d mi pc lv st w r w2) ∧
  (∀ (d mi pc : Nat) (lv : List (Nat × bV)) (st : List bV) (w : bW) (o : bO) (v : Option bV), P.1 mi pc = some o → bret o (P.2.1 mi).2.2.2.1 st = some v → R d mi pc lv st w (.inl v) w) ∧
  (∀ (d mi pc : Nat) (lv : List (Nat × bV)) (st : List bV) (w : bW) (o : bO) (q : Nat × List bV × List bV) (v : Option bV) (w1 : bW) (r : bR) (w2 : bW), P.1 mi pc = some o → bcal o st w = some q → (q.2.1.map bvc).sum ≤ (P.2.1 q.1).2.2.1 → R d q.1 0 (blva 0 q.2.1) [] w (.inl v) w1 → R (d + 1) mi (pc + 3) lv (v.toList ++ q.2.2) w1 r w2 → R (d + 1) mi pc lv st w r w2) ∧
  (∀ (d mi pc : Nat) (lv : List (Nat × bV)) (st : List bV) (w : bW) (o : bO) (q : Nat × List bV × List bV) (x : String) (w1 : bW), P.1 mi pc = some o → bcal o st w = some q → (q.2.1.map bvc).sum ≤ (P.2.1 q.1).2.2.1 → R d q.1 0 (blva 0 q.2.1) [] w (.inr x) w1 → (P.2.1 mi).2.2.2.2 = [] → bnsp o = true → R (d + 1) mi pc lv st w (.inr x) w1) ∧
  (∀ (d mi pc : Nat) (lv : List (Nat × bV)) (st : List bV) (w : bW) (o : bO) (q : Nat × List bV × List bV) (x : String) (w1 : bW) (hp : Nat) (o2 : bO) (ik : Nat × Nat) (r : bR) (w2 : bW), P.1 mi pc = some o → bcal o st w = some q → (q.2.1.map bvc).sum ≤ (P.2.1 q.1).2.2.1 → R d q.1 0 (blva 0 q.2.1) [] w (.inr x) w1 → bhand (P.2.1 mi).2.2.2.2 pc x P.2.2.2.1 = some hp → P.1 mi hp = some o2 → bnsp o = true → bastk o2.1 = some ik → ik.1 < (P.2.1 mi).2.2.1 → R (d + 1) mi (hp + ik.2) (blvx lv ik.1) [] w1 r w2 → R (d + 1) mi pc lv st w r w2) ∧
  (∀ (d mi pc : Nat) (lv : List (Nat × bV)) (w : bW) (o : bO) (ix : Nat), P.1 mi pc = some o → o.1 = .new ix → o.2.2.2.2 = 1 → (P.2.1 mi).2.2.2.2 = [] → R d mi pc lv [] w (.inr (P.2.2.2.2 o.2.2.1).1) (w.1, w.2 + 1))
/-- the least such -/
def bX (P : bP) : bEx := fun d mi pc lv st w r w2 => ∀ R : bEx, bClosed P R → R d mi pc lv st w r w2
end
section
/-! WHAT IS READ, THE MACHINE DOES: a step. -/
def bln (i : Instr) : Nat := match i with
  | .bipush _ => 2
  | .ldc _ => 2
  | .iload _ => 2
  | .lload _ => 2
  | .aload _ => 2
  | .istore _ => 2
  | .lstore _ => 2
  | .astore _ => 2
  | .newarray _ => 2
  | .sipush _ => 3
  | .ldc2_w _ => 3
  | .ldc_w _ => 3
  | .iinc _ _ => 3
  | .goto _ => 3
  | .ifCond _ _ => 3
  | .if_icmp _ _ => 3
  | .getfield _ => 3
  | .putfield _ => 3
  | .getstatic _ => 3
  | .new _ => 3
  | .anewarray _ => 3
  | .invokevirtual _ => 3
  | .invokestatic _ => 3
  | .invokespecial _ => 3
  | _ => 1
/-- the static fields of arrays, by their numbers -/
def bsf (j : Nat) : Option (String × String × String) := match j with
  | 0 => some ("Boxedvalue", "TENS", "[J")
  | 2 => some ("Boxedvalue$Curves", "LOGS", "[I")
  | 3 => some ("Boxedvalue$Curves", "ARCS", "[I")
  | _ => none
/-- what is owed of an instruction: it stands in the code, and the tables say what it links to -/
def bOkX (own nm : String) (pc : Nat) (o : bO) : Prop := match o.1 with
  | .ldc ix => Jvm.Cond.constant own ix (Int32.ofInt o.2.2.2.2) ∈ bw_G
  | .ldc2_w ix => Jvm.Cond.constantLong own ix (Int64.ofInt o.2.2.2.2) ∈ bw_G
  | .goto off => (pc : Int) + off = (o.2.2.1 : Int)
  | .ifCond _ off => (pc : Int) + off = (o.2.2.1 : Int)
  | .if_icmp _ off => (pc : Int) + off = (o.2.2.1 : Int)
  | .getfield ix => 2 ≤ o.2.2.1 ∧ ∃ (C : String) (T : u_T) (N : Nat), vwCl[o.2.2.1]? = some (C, T, N) ∧ o.2.2.2.1 < N ∧ Jvm.Cond.fieldLink own ix (T o.2.2.2.1).1 (T o.2.2.2.1).2.1 (T o.2.2.2.1).2.2.1 ∈ bw_G
  | .putfield ix => 2 ≤ o.2.2.1 ∧ ∃ (C : String) (T : u_T) (N : Nat), vwCl[o.2.2.1]? = some (C, T, N) ∧ o.2.2.2.1 < N ∧ Jvm.Cond.fieldLink own ix (T o.2.2.2.1).1 (T o.2.2.2.1).2.1 (T o.2.2.2.1).2.2.1 ∈ bw_G ∧ ((T o.2.2.2.1).2.2.2 = false ∨ ((T o.2.2.2.1).2.2.2 = true ∧ nm = "<init>" ∧ (T o.2.2.2.1).1 = own))
  | .getstatic ix => ∃ f : String × String × String, bsf o.2.2.1 = some f ∧ (Jvm.Cond.fieldLink own ix f.1 f.2.1 f.2.2 ∈ bw_G ∨ ∃ host : String, (own, ix, f.1, f.2.1, f.2.2, host) ∈ bwN)
  | .new ix => o.2.2.2.2 = 0 → 2 ≤ o.2.2.1 ∧ ∃ (C : String) (T : u_T) (N : Nat), vwCl[o.2.2.1]? = some (C, T, N) ∧ N = (bty o.2.2.1).length ∧ Jvm.Cond.classLink own ix C ∈ bw_G ∧ Jvm.Cond.instantiable C N ∈ bw_G ∧ Jvm.Cond.initialized C ∈ bw_G
  | .newarray t => Jvm.Cond.arrayClass (newarray.typeOf t) ∈ bw_G ∧ ((t = .char ∧ o.2.2.1 = 0) ∨ (t = .int ∧ o.2.2.1 = 1) ∨ (t = .long ∧ o.2.2.1 = 2) ∨ (t = .boolean ∧ o.2.2.1 = 3))
  | .anewarray ix => (Jvm.Cond.classLink own ix "Boxedvalue$Box" ∈ bw_G ∧ o.2.2.1 = 4) ∨ (Jvm.Cond.classLink own ix "Boxedvalue$Formula" ∈ bw_G ∧ o.2.2.1 = 5)
  | .invokespecial ix => o.2.2.2.2 = 1 → Jvm.Cond.methodLink own ix Lib.objectInit ∈ bw_G ∧ Jvm.Cond.instanceMethod Lib.objectInit ∈ bw_G ∧ Jvm.Cond.code Lib.objectInit ⟨#[0xb1]⟩ 1 none ∈ bw_G
  | _ => True
def bOkD (cc : ByteArray) (pc : Nat) (o : bO) : Prop := match o.1 with
  | .lookupswitch _ ps => decode cc pc = .ok (o.1, o.2.1) ∧ (ps.toList.zip (ps.toList.drop 1)).all (fun (a, next) => a.1 < next.1) = true
  | .tableswitch _ _ _ _ => decode cc pc = .ok (o.1, o.2.1)
  | _ => decode cc pc = .ok (o.1, bln o.1)
/-- the classes' fields -/
def bdok (t : FieldType) : Bool := match t with
  | .int => true
  | .long => true
  | .boolean => true
  | .char => true
  | .object _ => true
  | .array _ => true
  | _ => false
def bClsOk : Prop := ∀ (ci : Nat) (C : String) (T : u_T) (N : Nat), vwCl[ci]? = some (C, T, N) → 2 ≤ ci → N = (bty ci).length ∧ (∀ k, k < N → parseFieldDescriptor (T k).2.2.1 = some ((bty ci).getD k .byte)) ∧ (∀ w ∈ u_ws C T N, w ∈ bw_G) ∧ (∀ a, a < N → ∀ b, b < N → a ≠ b → (T a).2.1 ≠ (T b).2.1) ∧ (∀ k, k < N → bdok ((bty ci).getD k .byte) = true)
/-- the arrays outside are as the reader has them -/
def bEok (K : KE) (E : Nat → bC) : Prop := ∀ j : Nat, (∀ (t : Nat) (xs : List Int32), E j = .inr (.inl (t, xs)) → t = 1 ∧ ∃ (f : Nat → Value) (nm : Option (String × String × String)), K.arr[j]? = some (.int, xs.length, f, nm) ∧ (∀ i, i < xs.length → f i = .int (xs.getD i 0))) ∧
  (∀ xs : List Int64, E j = .inr (.inr (.inl xs)) → ∃ (f : Nat → Value) (nm : Option (String × String × String)), K.arr[j]? = some (.long, xs.length, f, nm) ∧ (∀ i, i < xs.length → f i = .long (xs.getD i 0))) ∧
  (∀ f : String × String × String, bsf j = some f → ∃ q, K.arr[j]? = some q ∧ q.2.2.2 = some f) ∧ (∀ (t : Nat) (xs : List (Option Nat)), E j ≠ .inr (.inr (.inr (t, xs))))
theorem bokf_v {K : KE} {t : FieldType} {v : bV} (h : bokf t v = true) : narrow t (bvv K v) = bvv K v ∧ fits t (bvv K v) = true := by
  cases t <;> rcases v with x | x | k | _ | j <;> first | exact ⟨rfl, rfl⟩ | cases h | exact ⟨of_decide_eq_true (Bool.and_eq_true_iff.mp h).1, (Bool.and_eq_true_iff.mp h).2⟩
theorem bdf_v {K : KE} {t : FieldType} (h : bdok t = true) : defaultValue t = bvv K (bdf t) := by
  cases t <;> first | rfl | cases h
theorem bin_of {i : Int32} {n : Nat} (h : bin i n = true) : vp_in i n ∧ i.toNatClampNeg < n := by
  simp only [bin, Bool.and_eq_true, decide_eq_true_eq] at h
  exact ⟨fun q => q.elim h.1 (fun q => by omega), h.2⟩
theorem b_getD_set {α : Type} {xs : List α} {i j : Nat} {x d : α} (h : i < xs.length) : (xs.set i x).getD j d = if j = i then x else xs.getD j d := by
  simp only [List.getD_eq_getElem?_getD]
  by_cases hj : j = i
  · subst hj; simp [h]
  · rw [if_neg hj, List.getElem?_set_ne (fun q => hj q.symm)]
theorem bat {K : KE} {cs : List bC} {H : Heap} {r : Nat} {c : bC} (h : bw K.D K.B cs.length (bct K cs) H) (hr : cs[r]? = some c) : va_at K.D vwCl (K.B + r, bce K c) H := by
  have h1 := h.2 r (List.getElem?_eq_some_iff.mp hr).1
  rw [bct_at hr] at h1
  exact h1
theorem bS.set {K : KE} {cs : List bC} {s : State} {H H1 : Heap} {locs : List Loc} (hw : bS K.D K.B cs.length (bct K cs) s H locs) {r i : Nat} {c : bC} (hr : r < cs.length) (h1 : va_at K.D vwCl (K.B + r, bce K c) H1) (hz : H1.size = H.size) (hq : ∀ q : Nat, q ≠ K.B + r → H1[q]? = H[q]?) : bS K.D K.B (cs.set r c).length (bct K (cs.set r c)) s H1 (locs ++ [⟨K.B + r, i⟩]) := by
  rw [List.length_set, bct_set hr]
  exact hw.put _ h1 hz hq
abbrev bvl (K : KE) (lv : List (Nat × bV)) : List (Nat × Value) := lv.map (fun q => (q.1, bvv K q.2))
theorem blk_in {lv : List (Nat × bV)} {i : Nat} {v : bV} (h : blk lv i = some v) : (i, v) ∈ lv := by
  induction lv with
  | nil => cases h
  | cons q t ih =>
    unfold blk at h
    by_cases hq : q.1 = i
    · rw [if_pos hq] at h
      cases h
      exact List.mem_cons.mpr (Or.inl (by rw [← hq]))
    · rw [if_neg hq] at h
      exact List.mem_cons_of_mem _ (ih h)
theorem blk_has {K : KE} {ls : Array Slot} {nL : Nat} {lv : List (Nat × bV)} {i : Nat} {v : bV} (hl : lv_has ls nL (bvl K lv)) (h : blk lv i = some v) : ls[i]? = some (.val (bvv K v)) :=
  hl.2.2 (i, bvv K v) (List.mem_map.mpr ⟨_, blk_in h, rfl⟩)
theorem bst1_v (K : KE) (lv : List (Nat × bV)) (i : Nat) (v : bV) : (i, bvv K v) :: (bvl K lv).filter (fun q => !(q.1 == i) && !(q.1 + 1 == i && q.2.category == 2)) = bvl K (bst1 lv i v) := by
  simp only [bst1, bvl, List.map_cons, List.filter_map, Function.comp_def, bvc_v]
theorem bst2_v (K : KE) (lv : List (Nat × bV)) (i : Nat) (v : bV) : (i, bvv K v) :: (bvl K lv).filter (fun q => !(q.1 == i) && (!(q.1 == i + 1) && !(q.1 + 1 == i && q.2.category == 2))) = bvl K (bst2 lv i v) := by
  simp only [bst2, bvl, List.map_cons, List.filter_map, Function.comp_def, bvc_v]
section BSTEP
variable {p : Program} {l : Launch} {e : Env} {R : Room} {s : State} {m : MethodId} {args : Array Value} {below : List Frame} {meth : Method} {c : Code} {H : Heap} {locs : List Loc} {cells slots : Nat} {Q : State → Prop}
variable {cc : ByteArray} {pc nL : Nat} {own : String} {ls : Array Slot} {K : KE} {E : Nat → bC} {lv lv' : List (Nat × bV)} {st st' : List bV} {w w' : bW} {pc' : Nat}
def bCont (p : Program) (l : Launch) (e : Env) (R : Room) (s : State) (m : MethodId) (args : Array Value) (below : List Frame) (meth : Method) (c : Code) (cells slots : Nat) (Q : State → Prop) (K : KE) (nL : Nat) (w : bW) (q : bF) : Prop :=
  ∀ (H1 : Heap) (locs1 : List Loc) (ls1 : Array Slot) (cells1 slots1 : Nat), bS K.D K.B q.2.2.2.1.length (bct K q.2.2.2.1) s H1 locs1 → (q.2.2.2.2 = 0 → H1.size = K.B + q.2.2.2.1.length) → lv_has ls1 nL (bvl K q.2.1) → cells1 + w.1.length = cells + q.2.2.2.1.length → slots1 + bsz w.1 = slots + bsz q.2.2.2.1 → W p l e R s m args below meth c H1 locs1 cells1 slots1 Q (F0 m q.1 ls1 (q.2.2.1.map (bvv K)))
theorem bp (hw : bS K.D K.B w.1.length (bct K w.1) s H locs) (hz : w.2 = 0 → H.size = K.B + w.1.length) (hl : lv_has ls nL (bvl K lv)) (k : bCont p l e R s m args below meth c cells slots Q K nL w (pc', lv, st', w)) : W p l e R s m args below meth c H locs cells slots Q (F0 m pc' ls (st'.map (bvv K))) :=
  k H locs ls cells slots hw hz hl rfl rfl
theorem bi2_inv {f : Int32 → Int32 → Option Int32} {q : bF} (h : bi2 pc lv st w f = some q) : ∃ (x y v : Int32) (r : List bV), st = .inl y :: .inl x :: r ∧ f x y = some v ∧ (pc + 1, lv, .inl v :: r, w) = q := by
  unfold bi2 at h
  split at h
  · split at h
    · rename_i v hv
      exact ⟨_, _, v, _, rfl, hv, Option.some.inj h⟩
    · cases h
  · cases h
theorem bl2_inv {f : Int64 → Int64 → Option bV} {q : bF} (h : bl2 pc lv st w f = some q) : ∃ (x y : Int64) (v : bV) (r : List bV), st = .inr (.inl y) :: .inr (.inl x) :: r ∧ f x y = some v ∧ (pc + 1, lv, v :: r, w) = q := by
  unfold bl2 at h
  split at h
  · split at h
    · rename_i v hv
      exact ⟨_, _, v, _, rfl, hv, Option.some.inj h⟩
    · cases h
  · cases h
theorem bi1_inv {f : Int32 → bV} {q : bF} (h : bi1 pc lv st w f = some q) : ∃ (x : Int32) (r : List bV), st = .inl x :: r ∧ (pc + 1, lv, f x :: r, w) = q := by
  unfold bi1 at h
  split at h
  · exact ⟨_, _, rfl, Option.some.inj h⟩
  · cases h
theorem bl1_inv {f : Int64 → bV} {q : bF} (h : bl1 pc lv st w f = some q) : ∃ (x : Int64) (r : List bV), st = .inr (.inl x) :: r ∧ (pc + 1, lv, f x :: r, w) = q := by
  unfold bl1 at h
  split at h
  · exact ⟨_, _, rfl, Option.some.inj h⟩
  · cases h
theorem bls_inv {f : Int64 → Int32 → Int64} {q : bF} (h : bls pc lv st w f = some q) : ∃ (x : Int64) (y : Int32) (r : List bV), st = .inl y :: .inr (.inl x) :: r ∧ (pc + 1, lv, .inr (.inl (f x y)) :: r, w) = q := by
  unfold bls at h
  split at h
  · exact ⟨_, _, _, rfl, Option.some.inj h⟩
  · cases h
theorem bldl0_inv {n i : Nat} {q : bF} (h : bldl 0 pc n i lv st w = some q) : ∃ x : Int32, blk lv i = some (.inl x) ∧ (pc + n, lv, .inl x :: st, w) = q := by
  unfold bldl at h
  split at h <;> first | exact ⟨_, by assumption, Option.some.inj h⟩ | (exfalso; omega) | cases h
theorem bldl1_inv {n i : Nat} {q : bF} (h : bldl 1 pc n i lv st w = some q) : ∃ x : Int64, blk lv i = some (.inr (.inl x)) ∧ (pc + n, lv, .inr (.inl x) :: st, w) = q := by
  unfold bldl at h
  split at h <;> first | exact ⟨_, by assumption, Option.some.inj h⟩ | (exfalso; omega) | cases h
theorem bldl2_inv {n i : Nat} {q : bF} (h : bldl 2 pc n i lv st w = some q) : (∃ x : Nat, blk lv i = some (.inr (.inr (.inl x))) ∧ (pc + n, lv, .inr (.inr (.inl x)) :: st, w) = q) ∨ ∃ x : Nat, blk lv i = some (.inr (.inr (.inr (some x)))) ∧ (pc + n, lv, .inr (.inr (.inr (some x))) :: st, w) = q := by
  unfold bldl at h
  split at h <;> first | exact Or.inl ⟨_, by assumption, Option.some.inj h⟩ | exact Or.inr ⟨_, by assumption, Option.some.inj h⟩ | (exfalso; omega) | cases h
theorem bstl0_inv {n i : Nat} {q : bF} (h : bstl 0 nL pc n i lv st w = some q) : ∃ (x : Int32) (r : List bV), st = .inl x :: r ∧ i < nL ∧ (pc + n, bst1 lv i (.inl x), r, w) = q := by
  unfold bstl at h
  split at h <;> first | (split at h <;> first | exact ⟨_, _, rfl, by assumption, Option.some.inj h⟩ | (exfalso; omega) | cases h) | (exfalso; omega) | cases h
theorem bstl1_inv {n i : Nat} {q : bF} (h : bstl 1 nL pc n i lv st w = some q) : ∃ (x : Int64) (r : List bV), st = .inr (.inl x) :: r ∧ i + 1 < nL ∧ (pc + n, bst2 lv i (.inr (.inl x)), r, w) = q := by
  unfold bstl at h
  split at h <;> first | (split at h <;> first | exact ⟨_, _, rfl, by assumption, Option.some.inj h⟩ | (exfalso; omega) | cases h) | (exfalso; omega) | cases h
theorem bstl2_inv {n i : Nat} {q : bF} (h : bstl 2 nL pc n i lv st w = some q) : ∃ (x : Nat) (r : List bV), st = .inr (.inr (.inl x)) :: r ∧ i < nL ∧ (pc + n, bst1 lv i (.inr (.inr (.inl x))), r, w) = q := by
  unfold bstl at h
  split at h <;> first | (split at h <;> first | exact ⟨_, _, rfl, by assumption, Option.some.inj h⟩ | (exfalso; omega) | cases h) | (exfalso; omega) | cases h
end BSTEP
end
section
/-! A step that reads or writes a cell. -/
section BHEAP
variable {p : Program} {l : Launch} {e : Env} {R : Room} {s : State} {m : MethodId} {args : Array Value} {below : List Frame} {meth : Method} {c : Code} {H : Heap} {locs : List Loc} {cells slots : Nat} {Q : State → Prop}
variable {cc : ByteArray} {pc nL : Nat} {own : String} {ls : Array Slot} {K : KE} {E : Nat → bC} {lv : List (Nat × bV)} {rest : List bV} {w : bW}
theorem bs_get (Cls : bClsOk) (C0 : CallFix p m c cc nL s args bw_G own) (hb : bK K s) (hw : bS K.D K.B w.1.length (bct K w.1) s H locs) (hz : w.2 = 0 → H.size = K.B + w.1.length) (hl : lv_has ls nL (bvl K lv)) {r ci b ix : Nat} {fs : List bV} {v : bV} (hr : w.1[r]? = some (.inl (ci, fs))) (hv : fs[b]? = some v) (h2 : 2 ≤ ci) {C : String} {T : u_T} {N : Nat} (hc : vwCl[ci]? = some (C, T, N)) (hbN : b < N) (hlink : Jvm.Cond.fieldLink own ix (T b).1 (T b).2.1 (T b).2.2.1 ∈ bw_G)
    (hd : decode cc pc = .ok (.getfield ix, 3)) (k : bCont p l e R s m args below meth c cells slots Q K nL w (pc + 3, lv, v :: rest, w)) : W p l e R s m args below meth c H locs cells slots Q (F0 m pc ls ((.inr (.inr (.inl r)) :: rest : List bV).map (bvv K))) := by
  obtain ⟨c1, c2, c3, c4, c5⟩ := Cls ci C T N hc h2
  exact br_get C0 hb hw (List.getElem?_eq_some_iff.mp hr).1 (bct_at hr) hc c3 b hbN hlink (v := bvv K v) (by rw [List.getElem?_map, hv]; rfl) hd (bp hw hz hl k)
theorem bs_put (Cls : bClsOk) (C0 : CallFix p m c cc nL s args bw_G own) (hb : bK K s) (hw : bS K.D K.B w.1.length (bct K w.1) s H locs) (hz : w.2 = 0 → H.size = K.B + w.1.length) (hl : lv_has ls nL (bvl K lv)) {r ci b ix : Nat} {fs : List bV} {v : bV} (hr : w.1[r]? = some (.inl (ci, fs))) (hbf : b < fs.length) (hok : bokf ((bty ci).getD b .byte) v = true) (h2 : 2 ≤ ci) {C : String} {T : u_T} {N : Nat} (hc : vwCl[ci]? = some (C, T, N)) (hbN : b < N) (hlink : Jvm.Cond.fieldLink own ix (T b).1 (T b).2.1 (T b).2.2.1 ∈ bw_G) (hfin : (T b).2.2.2 = false ∨ ((T b).2.2.2 = true ∧ meth.name = "<init>" ∧ (T b).1 = own))
    (hd : decode cc pc = .ok (.putfield ix, 3)) (k : bCont p l e R s m args below meth c cells slots Q K nL w (pc + 3, lv, rest, (w.1.set r (.inl (ci, fs.set b v)), w.2))) : W p l e R s m args below meth c H locs cells slots Q (F0 m pc ls ((v :: .inr (.inr (.inl r)) :: rest : List bV).map (bvv K))) := by
  obtain ⟨c1, c2, c3, c4, c5⟩ := Cls ci C T N hc h2
  have hr0 : r < w.1.length := (List.getElem?_eq_some_iff.mp hr).1
  refine br_put C0 hb hw hr0 (bct_at hr) hc c3 (fun k => (bty ci).getD k .byte) c2 c4 b hbN hlink hfin (v := bvv K v) (bokf_v hok).1 (bokf_v hok).2 (by rw [List.length_map]; exact hbf) hd fun H1 locs1 z1 hw1 => ?_
  refine k H1 locs1 ls cells slots ?_ (fun h => by rw [z1]; exact (hz h).trans (by simp)) hl (by simp) (by simp only []; rw [bsz_set hr (by simp [bcs])])
  have h9 : bw_up (bct K w.1) r (.inr (ci, (fs.map (bvv K)).set b (bvv K v))) = bct K (w.1.set r (.inl (ci, fs.set b v))) := by
    rw [bct_set hr0]
    show _ = bw_up _ r (.inr (ci, (fs.set b v).map (bvv K)))
    rw [List.map_set]
  simp only [List.length_set]
  rw [← h9]
  exact hw1
theorem bs_new (Cls : bClsOk) (C0 : CallFix p m c cc nL s args bw_G own) (hb : bK K s) (hw : bS K.D K.B w.1.length (bct K w.1) s H locs) (hz : w.2 = 0 → H.size = K.B + w.1.length) (hl : lv_has ls nL (bvl K lv)) {ci ix : Nat} (h0 : w.2 = 0) (h2 : 2 ≤ ci) {C : String} {T : u_T} {N : Nat} (hc : vwCl[ci]? = some (C, T, N)) (hcl : Jvm.Cond.classLink own ix C ∈ bw_G) (hinst : Jvm.Cond.instantiable C N ∈ bw_G) (hini : Jvm.Cond.initialized C ∈ bw_G)
    (hcells : cells + 1 ≤ R.cells) (hslots : slots + (bty ci).length ≤ R.slots)
    (hd : decode cc pc = .ok (.new ix, 3)) (k : bCont p l e R s m args below meth c cells slots Q K nL w (pc + 3, lv, .inr (.inr (.inl w.1.length)) :: rest, (w.1 ++ [.inl (ci, (bty ci).map bdf)], w.2))) : W p l e R s m args below meth c H locs cells slots Q (F0 m pc ls (rest.map (bvv K))) := by
  obtain ⟨c1, c2, c3, c4, c5⟩ := Cls ci C T N hc h2
  refine br_new C0 hb hb.2.2.2.2.2.2.2.2.1 hw (hz h0) hc c3 (fun k => (bty ci).getD k .byte) c2 hcl hinst hini (fs := ((bty ci).map bdf).map (bvv K)) (fun j hj => ?_) hcells (by rw [c1]; exact hslots) hd fun H1 z1 hw1 => ?_
  · rw [bdf_v (K := K) (c5 j hj)]
    show _ = List.getD _ _ _
    have hj' : j < (bty ci).length := by rw [← c1]; exact hj
    simp [List.getD_eq_getElem?_getD, hj']
  · refine k H1 locs ls (cells + 1) (slots + N) ?_ (fun _ => by rw [z1]; simp) hl (by simp; omega) (by simp only []; rw [bsz_push, c1]; simp [bcs]; omega)
    simp only [List.length_append, List.length_cons, List.length_nil]
    rw [bct_push]
    exact hw1
theorem bs_st (hw : bS K.D K.B w.1.length (bct K w.1) s H locs) (hz : w.2 = 0 → H.size = K.B + w.1.length) (hl : lv_has ls nL (bvl K lv)) {r j pc' : Nat} {c1 c0 : bC} (hr : w.1[r]? = some c0) (hcs : bcs c1 = bcs c0) {H1 : Heap} (h1 : va_at K.D vwCl (K.B + r, bce K c1) H1) (z : H1.size = H.size) (hq : ∀ q : Nat, q ≠ K.B + r → H1[q]? = H[q]?)
    (k : bCont p l e R s m args below meth c cells slots Q K nL w (pc', lv, rest, (w.1.set r c1, w.2))) : W p l e R s m args below meth c H1 (locs ++ [⟨K.B + r, j⟩]) cells slots Q (F0 m pc' ls (rest.map (bvv K))) := by
  have hr0 : r < w.1.length := (List.getElem?_eq_some_iff.mp hr).1
  exact k H1 _ ls cells slots (hw.set hr0 h1 z hq) (fun h => by rw [z]; exact (hz h).trans (by simp)) hl (by simp) (by simp only []; rw [bsz_set hr hcs])
theorem b_upi {xs : List Int32} {i : Nat} {y : Int32} (h : i < xs.length) : updV (fun j => Value.int (xs.getD j 0)) i (.int y) = fun j => Value.int ((xs.set i y).getD j 0) := by
  funext j
  rw [b_getD_set h]
  unfold updV
  by_cases hj : j = i
  · rw [if_pos hj, if_pos hj]
  · rw [if_neg hj, if_neg hj]
theorem b_upl {xs : List Int64} {i : Nat} {y : Int64} (h : i < xs.length) : updV (fun j => Value.long (xs.getD j 0)) i (.long y) = fun j => Value.long ((xs.set i y).getD j 0) := by
  funext j
  rw [b_getD_set h]
  unfold updV
  by_cases hj : j = i
  · rw [if_pos hj, if_pos hj]
  · rw [if_neg hj, if_neg hj]
theorem b_upq {B : Nat} {xs : List (Option Nat)} {i y : Nat} (h : i < xs.length) : updV (fun j => va_rf ((xs.getD j none).map (fun k => B + k))) i (.ref (B + y)) = fun j => va_rf (((xs.set i (some y)).getD j none).map (fun k => B + k)) := by
  funext j
  rw [b_getD_set h]
  unfold updV
  by_cases hj : j = i
  · rw [if_pos hj, if_pos hj]; rfl
  · rw [if_neg hj, if_neg hj]
theorem b_nar (t : FieldType) (x : Int32) (h : t = .int ∨ t = .char ∨ t = .boolean) : narrow t (.int x) = .int (vp_nar t x) := by
  rcases h with rfl | rfl | rfl <;> rfl
theorem bs_ist (C0 : CallFix p m c cc nL s args bw_G own) (hb : bK K s) (hw : bS K.D K.B w.1.length (bct K w.1) s H locs) (hz : w.2 = 0 → H.size = K.B + w.1.length) (hl : lv_has ls nL (bvl K lv)) {r t : Nat} {xs : List Int32} {i x : Int32} (hr : w.1[r]? = some (.inr (.inl (t, xs)))) (hi : bin i xs.length = true)
    (hd : (t = 1 ∧ decode cc pc = .ok (.iastore, 1)) ∨ (t = 0 ∧ decode cc pc = .ok (.castore, 1)) ∨ (t = 3 ∧ decode cc pc = .ok (.bastore, 1))) (k : bCont p l e R s m args below meth c cells slots Q K nL w (pc + 1, lv, rest, (w.1.set r (.inr (.inl (t, xs.set i.toNatClampNeg (vp_nar (if t = 0 then .char else if t = 3 then .boolean else .int) x)))), w.2))) : W p l e R s m args below meth c H locs cells slots Q (F0 m pc ls ((.inl x :: .inl i :: .inr (.inr (.inl r)) :: rest : List bV).map (bvv K))) := by
  obtain ⟨hx, hcb, hml, hown, hts⟩ := C0
  have hcell : H[K.B + r]? = some (arrV (K.cy t) xs.length (fun j => .int (xs.getD j 0))) := bat hw.1 hr
  have hin : ¬ (i < 0 ∨ (arrV (K.cy t) xs.length (fun j => Value.int (xs.getD j 0))).slots.size ≤ i.toNatClampNeg) := by rw [arrV_size]; exact (bin_of hi).1
  have hlt := (bin_of hi).2
  have fin : ∀ (H1 : Heap) (y : Int32), H1[K.B + r]? = some ((arrV (K.cy t) xs.length (fun j => .int (xs.getD j 0))).setSlot i.toNatClampNeg (.int y)) → va_at K.D vwCl (K.B + r, bce K (.inr (.inl (t, xs.set i.toNatClampNeg y)))) H1 := by
    intro H1 y e1
    show H1[K.B + r]? = some (arrV (K.cy t) (xs.set i.toNatClampNeg y).length (fun j => .int ((xs.set i.toNatClampNeg y).getD j 0)))
    rw [e1, arrV_store, b_upi hlt, List.length_set]
  rcases hd with ⟨rfl, hd⟩ | ⟨rfl, hd⟩ | ⟨rfl, hd⟩
  · exact W.iast hx hcb hcell ((hb.1.2 1 _ rfl).1 xs.length (fun j => .int (xs.getD j 0))) (fun q => by cases q) hin rfl rfl hd fun H1 e z oq => bs_st hw hz hl hr (by simp [bcs]) (fin H1 _ e) z oq k
  · exact W.cast hx hcb hcell ((hb.1.2 0 _ rfl).1 xs.length (fun j => .int (xs.getD j 0))) (fun q => by cases q) hin rfl rfl hd fun H1 e z oq => bs_st hw hz hl hr (by simp [bcs]) (fin H1 _ (by rw [e]; rfl)) z oq k
  · exact W.zast hx hcb hcell ((hb.1.2 3 _ rfl).1 xs.length (fun j => .int (xs.getD j 0))) (fun q => by cases q) hin rfl rfl hd fun H1 e z oq => bs_st hw hz hl hr (by simp [bcs]) (fin H1 _ (by rw [e]; rfl)) z oq k
theorem bs_lst (C0 : CallFix p m c cc nL s args bw_G own) (hb : bK K s) (hw : bS K.D K.B w.1.length (bct K w.1) s H locs) (hz : w.2 = 0 → H.size = K.B + w.1.length) (hl : lv_has ls nL (bvl K lv)) {r : Nat} {xs : List Int64} {i : Int32} {x : Int64} (hr : w.1[r]? = some (.inr (.inr (.inl xs)))) (hi : bin i xs.length = true)
    (hd : decode cc pc = .ok (.lastore, 1)) (k : bCont p l e R s m args below meth c cells slots Q K nL w (pc + 1, lv, rest, (w.1.set r (.inr (.inr (.inl (xs.set i.toNatClampNeg x)))), w.2))) : W p l e R s m args below meth c H locs cells slots Q (F0 m pc ls ((.inr (.inl x) :: .inl i :: .inr (.inr (.inl r)) :: rest : List bV).map (bvv K))) := by
  obtain ⟨hx, hcb, hml, hown, hts⟩ := C0
  have hcell : H[K.B + r]? = some (arrV (K.cy 2) xs.length (fun j => .long (xs.getD j 0))) := bat hw.1 hr
  have hlt := (bin_of hi).2
  refine W.last hx hcb hcell ((hb.1.2 2 _ rfl).1 xs.length (fun j => .long (xs.getD j 0))) (fun q => by cases q) (by rw [arrV_size]; exact (bin_of hi).1) rfl rfl hd fun H1 e z oq => bs_st hw hz hl hr (by simp [bcs]) ?_ z oq k
  show H1[K.B + r]? = some (arrV (K.cy 2) (xs.set i.toNatClampNeg x).length (fun j => .long ((xs.set i.toNatClampNeg x).getD j 0)))
  rw [e, arrV_store, b_upl hlt, List.length_set]
theorem bs_ast (C0 : CallFix p m c cc nL s args bw_G own) (hb : bK K s) (hw : bS K.D K.B w.1.length (bct K w.1) s H locs) (hz : w.2 = 0 → H.size = K.B + w.1.length) (hl : lv_has ls nL (bvl K lv)) {r v t ci : Nat} {xs : List (Option Nat)} {fs : List bV} {i : Int32} (hr : w.1[r]? = some (.inr (.inr (.inr (t, xs))))) (hv : w.1[v]? = some (.inl (ci, fs))) (ht : t = 4 ∨ t = 5) (hc : ci = bcls t) (hi : bin i xs.length = true)
    (hd : decode cc pc = .ok (.aastore, 1)) (k : bCont p l e R s m args below meth c cells slots Q K nL w (pc + 1, lv, rest, (w.1.set r (.inr (.inr (.inr (t, xs.set i.toNatClampNeg (some v))))), w.2))) : W p l e R s m args below meth c H locs cells slots Q (F0 m pc ls ((.inr (.inr (.inl v)) :: .inl i :: .inr (.inr (.inl r)) :: rest : List bV).map (bvv K))) := by
  obtain ⟨hx, hcb, hml, hown, hts⟩ := C0
  have hcell : H[K.B + r]? = some (arrV (K.cy t) xs.length (fun j => va_rf ((xs.getD j none).map (fun k => K.B + k)))) := bat hw.1 hr
  have hlt := (bin_of hi).2
  have h0 : ¬ i < 0 := fun q => (bin_of hi).1 (Or.inl q)
  obtain ⟨r', hr', cellV, g1, g2, g3, -⟩ := bat hw.1 hv
  have ht' : ∃ q : vw_C, vwCl[ci]? = some q ∧ (b_tys K.cy)[t]? = some (K.cy t, .object q.1) := by
    subst hc
    rcases ht with rfl | rfl
    · exact ⟨_, rfl, rfl⟩
    · exact ⟨_, rfl, rfl⟩
  obtain ⟨q, hq1, hq2⟩ := ht'
  have hcls := (hb.1.1 ci q hq1).2
  obtain ⟨kA, comp, k1, k2, k3, -⟩ := (hb.1.2 t _ hq2).2
  have hcomp : comp = K.D.1 ci := Option.some.inj (k3.symm.trans hcls.1)
  subst hcomp
  obtain ⟨kC, hkC, -⟩ := hcls.2
  refine W.aast hx hcb hcell (fun q h => by cases h) (fun h => by cases h) k1 k2 rfl hkC ⟨h0, by show _ < (arrV _ _ _).slots.size; rw [arrV_size]; exact hlt⟩ g1 (fun q h => by rw [g3] at h; cases h) (by rw [g2]; exact hkC) (by rw [g2]; exact va_assign hcls) rfl rfl hd fun H1 e z oq => bs_st hw hz hl hr (by simp [bcs]) ?_ z oq k
  show H1[K.B + r]? = some (arrV (K.cy t) (xs.set i.toNatClampNeg (some v)).length (fun j => va_rf (((xs.set i.toNatClampNeg (some v)).getD j none).map (fun k => K.B + k))))
  rw [e, arrV_store, b_upq hlt, List.length_set]
end BHEAP
end
section
/-! Steps that make arrays, read them, and the rest. -/
section BMORE
variable {p : Program} {l : Launch} {e : Env} {R : Room} {s : State} {m : MethodId} {args : Array Value} {below : List Frame} {meth : Method} {c : Code} {H : Heap} {locs : List Loc} {cells slots : Nat} {Q : State → Prop}
variable {cc : ByteArray} {pc nL : Nat} {own : String} {ls : Array Slot} {K : KE} {E : Nat → bC} {lv : List (Nat × bV)} {st rest : List bV} {w : bW}
theorem b_rep {α : Type} (n j : Nat) (d : α) : (List.replicate n d).getD j d = d := by
  simp only [List.getD_eq_getElem?_getD, List.getElem?_replicate]
  by_cases h : j < n
  · rw [if_pos h]; rfl
  · rw [if_neg h]; rfl
theorem bs_nw1 (C0 : CallFix p m c cc nL s args bw_G own) (hb : bK K s) (hw : bS K.D K.B w.1.length (bct K w.1) s H locs) (hz : w.2 = 0 → H.size = K.B + w.1.length) (hl : lv_has ls nL (bvl K lv)) {c1 : bC} {n : Nat} (hcs : bcs c1 = n) {H1 : Heap} {pc' : Nat} (z1 : H1.size = K.B + (w.1.length + 1)) (hw1 : bS K.D K.B (w.1.length + 1) (bw_up (bct K w.1) w.1.length (bce K c1)) s H1 locs)
    (k : bCont p l e R s m args below meth c cells slots Q K nL w (pc', lv, .inr (.inr (.inl w.1.length)) :: rest, (w.1 ++ [c1], w.2))) : W p l e R s m args below meth c H1 locs (cells + 1) (slots + n) Q (F0 m pc' ls (.ref (K.B + w.1.length) :: rest.map (bvv K))) := by
  refine k H1 locs ls (cells + 1) (slots + n) ?_ (fun _ => by rw [z1]; simp) hl (by simp; omega) (by simp only []; rw [bsz_push, hcs]; omega)
  simp only [List.length_append, List.length_cons, List.length_nil]
  rw [bct_push]
  exact hw1
theorem bs_nwa (C0 : CallFix p m c cc nL s args bw_G own) (hb : bK K s) (hw : bS K.D K.B w.1.length (bct K w.1) s H locs) (hz : w.2 = 0 → H.size = K.B + w.1.length) (hl : lv_has ls nL (bvl K lv)) (h0 : w.2 = 0) {n : Int32} {t : Nat} {ty : ArrayType} (hn : ¬ n < 0) (hN : n.toNatClampNeg * 8 ≤ 536870912) (harr : Jvm.Cond.arrayClass (newarray.typeOf ty) ∈ bw_G) (hty : (ty = .char ∧ t = 0) ∨ (ty = .int ∧ t = 1) ∨ (ty = .long ∧ t = 2) ∨ (ty = .boolean ∧ t = 3))
    (hcells : cells + 1 ≤ R.cells) (hslots : slots + n.toNatClampNeg ≤ R.slots)
    (hd : decode cc pc = .ok (.newarray ty, 2)) (k : bCont p l e R s m args below meth c cells slots Q K nL w (pc + 2, lv, .inr (.inr (.inl w.1.length)) :: rest, (w.1 ++ [if t = 2 then .inr (.inr (.inl (List.replicate n.toNatClampNeg 0))) else .inr (.inl (t, List.replicate n.toNatClampNeg 0))], w.2))) : W p l e R s m args below meth c H locs cells slots Q (F0 m pc ls ((.inl n :: rest : List bV).map (bvv K))) := by
  have hf : (fun j => (List.replicate n.toNatClampNeg (0 : Int32)).getD j 0) = fun _ => (0 : Int32) := by funext j; exact b_rep _ _ _
  have hg : (fun j => (List.replicate n.toNatClampNeg (0 : Int64)).getD j 0) = fun _ => (0 : Int64) := by funext j; exact b_rep _ _ _
  have e1 : ∀ t : Nat, bce K (.inr (.inl (t, List.replicate n.toNatClampNeg 0))) = .inl (K.cy t, n.toNatClampNeg, .inl (fun _ => 0)) := by
    intro t
    show Sum.inl (K.cy t, (List.replicate n.toNatClampNeg (0 : Int32)).length, Sum.inl _) = _
    rw [hf, List.length_replicate]
  have e2 : bce K (.inr (.inr (.inl (List.replicate n.toNatClampNeg 0)))) = .inl (K.cy 2, n.toNatClampNeg, .inr (.inl (fun _ => 0))) := by
    show Sum.inl (K.cy 2, (List.replicate n.toNatClampNeg (0 : Int64)).length, Sum.inr (Sum.inl _)) = _
    rw [hg, List.length_replicate]
  rcases hty with ⟨rfl, rfl⟩ | ⟨rfl, rfl⟩ | ⟨rfl, rfl⟩ | ⟨rfl, rfl⟩
  · exact br_newa C0 hb hw (hz h0) (ty := .char) rfl harr 0 rfl (fun U cB h => h) (a0 := (n.toNatClampNeg, .inl (fun _ => 0))) rfl hn rfl (by show _ * 2 ≤ _; omega) hcells hslots hd fun H1 z1 hw1 => bs_nw1 C0 hb hw hz hl (by simp [bcs]) z1 (by rw [if_neg (by decide), e1]; exact hw1) k
  · exact br_newa C0 hb hw (hz h0) (ty := .int) rfl harr 1 rfl (fun U cB h => h) (a0 := (n.toNatClampNeg, .inl (fun _ => 0))) rfl hn rfl (by show _ * 4 ≤ _; omega) hcells hslots hd fun H1 z1 hw1 => bs_nw1 C0 hb hw hz hl (by simp [bcs]) z1 (by rw [if_neg (by decide), e1]; exact hw1) k
  · exact br_newa C0 hb hw (hz h0) (ty := .long) rfl harr 2 rfl (fun U cB h => h) (a0 := (n.toNatClampNeg, .inr (.inl (fun _ => 0)))) rfl hn rfl (by show _ * 8 ≤ _; omega) hcells hslots hd fun H1 z1 hw1 => bs_nw1 C0 hb hw hz hl (by simp [bcs]) z1 (by rw [if_pos rfl, e2]; exact hw1) k
  · exact br_newa C0 hb hw (hz h0) (ty := .boolean) rfl harr 3 rfl (fun U cB h => h) (a0 := (n.toNatClampNeg, .inl (fun _ => 0))) rfl hn rfl (by show _ * 1 ≤ _; omega) hcells hslots hd fun H1 z1 hw1 => bs_nw1 C0 hb hw hz hl (by simp [bcs]) z1 (by rw [if_neg (by decide), e1]; exact hw1) k
theorem bs_nwq (C0 : CallFix p m c cc nL s args bw_G own) (hb : bK K s) (hw : bS K.D K.B w.1.length (bct K w.1) s H locs) (hz : w.2 = 0 → H.size = K.B + w.1.length) (hl : lv_has ls nL (bvl K lv)) (h0 : w.2 = 0) {n : Int32} {t ix : Nat} (hn : ¬ n < 0) (hN : n.toNatClampNeg * 8 ≤ 536870912) (hty : (Jvm.Cond.classLink own ix "Boxedvalue$Box" ∈ bw_G ∧ t = 4) ∨ (Jvm.Cond.classLink own ix "Boxedvalue$Formula" ∈ bw_G ∧ t = 5))
    (hcells : cells + 1 ≤ R.cells) (hslots : slots + n.toNatClampNeg ≤ R.slots)
    (hd : decode cc pc = .ok (.anewarray ix, 3)) (k : bCont p l e R s m args below meth c cells slots Q K nL w (pc + 3, lv, .inr (.inr (.inl w.1.length)) :: rest, (w.1 ++ [.inr (.inr (.inr (t, List.replicate n.toNatClampNeg none)))], w.2))) : W p l e R s m args below meth c H locs cells slots Q (F0 m pc ls ((.inl n :: rest : List bV).map (bvv K))) := by
  have e1 : ∀ t : Nat, bce K (.inr (.inr (.inr (t, List.replicate n.toNatClampNeg none)))) = .inl (K.cy t, n.toNatClampNeg, .inr (.inr (.inr (.inr (fun _ => none))))) := by
    intro t
    show Sum.inl (K.cy t, (List.replicate n.toNatClampNeg (none : Option Nat)).length, Sum.inr (Sum.inr (Sum.inr (Sum.inr (fun j => ((List.replicate n.toNatClampNeg none).getD j none).map (fun k => K.B + k)))))) = _
    rw [List.length_replicate]
    have h9 : (fun j => ((List.replicate n.toNatClampNeg (none : Option Nat)).getD j none).map (fun k => K.B + k)) = fun _ => none := by
      funext j; rw [b_rep]; rfl
    rw [h9]
  rcases hty with ⟨h1, rfl⟩ | ⟨h1, rfl⟩
  · exact br_newq C0 hb hw (hz h0) h1 hb.2.2.2.2.2.1 4 rfl hn rfl (by omega) hcells hslots hd fun H1 z1 hw1 => bs_nw1 C0 hb hw hz hl (by simp [bcs]) z1 (by rw [e1]; exact hw1) k
  · exact br_newq C0 hb hw (hz h0) h1 hb.2.2.2.2.2.2.1 5 rfl hn rfl (by omega) hcells hslots hd fun H1 z1 hw1 => bs_nw1 C0 hb hw hz hl (by simp [bcs]) z1 (by rw [e1]; exact hw1) k
theorem bld_inv {t : Nat} {q : bF} (h : bld E pc t lv st w = some q) : ∃ (i : Int32) (a v : bV) (r : List bV), st = .inl i :: a :: r ∧ bload i t (barr E w a) = some v ∧ (pc + 1, lv, v :: r, w) = q := by
  unfold bld at h
  split at h
  · split at h
    · rename_i v hv
      exact ⟨_, _, v, _, rfl, hv, Option.some.inj h⟩
    · cases h
  · cases h
theorem bload_inv {i : Int32} {t : Nat} {co : Option bC} {v : bV} (h : bload i t co = some v) : (∃ xs : List Int32, co = some (.inr (.inl (t, xs))) ∧ (t = 0 ∨ t = 1 ∨ t = 3) ∧ bin i xs.length = true ∧ v = .inl (xs.getD i.toNatClampNeg 0)) ∨ (∃ xs : List Int64, t = 2 ∧ co = some (.inr (.inr (.inl xs))) ∧ bin i xs.length = true ∧ v = .inr (.inl (xs.getD i.toNatClampNeg 0))) ∨
    (∃ (t' : Nat) (xs : List (Option Nat)), t = 4 ∧ co = some (.inr (.inr (.inr (t', xs)))) ∧ (t' = 4 ∨ t' = 5) ∧ bin i xs.length = true ∧ bvv K v = va_rf ((xs.getD i.toNatClampNeg none).map (fun k => K.B + k))) := by
  unfold bload at h
  split at h
  · split at h
    · rename_i h1
      obtain ⟨rfl, h0, h1⟩ := h1
      exact Or.inl ⟨_, rfl, h0, h1, (Option.some.inj h).symm⟩
    · cases h
  · split at h
    · rename_i h1
      exact Or.inr (Or.inl ⟨_, h1.1, rfl, h1.2, (Option.some.inj h).symm⟩)
    · cases h
  · split at h
    · rename_i t' xs h1
      refine Or.inr (Or.inr ⟨t', xs, h1.1, rfl, h1.2.1, h1.2.2, ?_⟩)
      have h2 := Option.some.inj h
      rw [← h2]
      cases xs.getD i.toNatClampNeg none <;> rfl
    · cases h
  · cases h
theorem barr_inv {a : bV} {c1 : bC} (h : barr E w a = some c1) : (∃ r : Nat, a = .inr (.inr (.inl r)) ∧ w.1[r]? = some c1) ∨ ∃ j : Nat, a = .inr (.inr (.inr (some j))) ∧ E j = c1 := by
  unfold barr at h
  split at h
  · exact Or.inl ⟨_, rfl, h⟩
  · exact Or.inr ⟨_, rfl, Option.some.inj h⟩
  · cases h
theorem bs_load (hE : bEok K E) (C0 : CallFix p m c cc nL s args bw_G own) (hb : bK K s) (hw : bS K.D K.B w.1.length (bct K w.1) s H locs) (hz : w.2 = 0 → H.size = K.B + w.1.length) (hl : lv_has ls nL (bvl K lv)) {t : Nat} {q : bF} (h : bld E pc t lv st w = some q)
    (hd : (t = 1 ∧ decode cc pc = .ok (.iaload, 1)) ∨ (t = 0 ∧ decode cc pc = .ok (.caload, 1)) ∨ (t = 3 ∧ decode cc pc = .ok (.baload, 1)) ∨ (t = 2 ∧ decode cc pc = .ok (.laload, 1)) ∨ (t = 4 ∧ decode cc pc = .ok (.aaload, 1))) (k : bCont p l e R s m args below meth c cells slots Q K nL w q) : W p l e R s m args below meth c H locs cells slots Q (F0 m pc ls (st.map (bvv K))) := by
  obtain ⟨i, a, v, r, rfl, hv, rfl⟩ := bld_inv h
  have kk := bp hw hz hl k
  cases hco : barr E w a with
  | none => rw [hco] at hv; cases hv
  | some c1 =>
    rw [hco] at hv
    rcases barr_inv hco with ⟨r0, rfl, hr⟩ | ⟨j, rfl, hj⟩
    · have hr0 : r0 < w.1.length := (List.getElem?_eq_some_iff.mp hr).1
      have he := bct_at (K := K) hr
      rcases bload_inv (K := K) hv with ⟨xs, h1, h0, h2, rfl⟩ | ⟨xs, rfl, h1, h2, rfl⟩ | ⟨t', xs, rfl, h1, h0, h2, h3⟩
      · cases h1
        rcases hd with ⟨rfl, hd⟩ | ⟨rfl, hd⟩ | ⟨rfl, hd⟩ | ⟨rfl, hd⟩ | ⟨rfl, hd⟩
        · exact br_iald C0 hb hw hr0 (N := xs.length) (f := fun j => xs.getD j 0) he (bin_of h2).1 hd kk
        · exact br_cald C0 hb hw hr0 (N := xs.length) (f := fun j => xs.getD j 0) he (bin_of h2).1 hd kk
        · exact br_zald C0 hb hw hr0 (N := xs.length) (f := fun j => xs.getD j 0) he (bin_of h2).1 hd kk
        · omega
        · omega
      · cases h1
        rcases hd with ⟨h9, hd⟩ | ⟨h9, hd⟩ | ⟨h9, hd⟩ | ⟨-, hd⟩ | ⟨h9, hd⟩ <;> first | omega | exact br_lald C0 hb hw hr0 (N := xs.length) (f := fun j => xs.getD j 0) he (bin_of h2).1 hd kk
      · cases h1
        have ht : ∃ C : String, (b_tys K.cy)[t']? = some (K.cy t', .object C) := by
          rcases h0 with rfl | rfl
          · exact ⟨_, rfl⟩
          · exact ⟨_, rfl⟩
        obtain ⟨C, ht⟩ := ht
        rcases hd with ⟨h9, hd⟩ | ⟨h9, hd⟩ | ⟨h9, hd⟩ | ⟨h9, hd⟩ | ⟨-, hd⟩ <;> first | omega | exact br_aald C0 hb hw hr0 t' ht (N := xs.length) (f := fun j => (xs.getD j none).map (fun k => K.B + k)) he (bin_of h2).1 h3.symm hd kk
    · obtain ⟨e1, e2, e3, e4⟩ := hE j
      rcases bload_inv (K := K) hv with ⟨xs, h1, h0, h2, rfl⟩ | ⟨xs, rfl, h1, h2, rfl⟩ | ⟨t', xs, rfl, h1, h0, h2, h3⟩
      · cases h1
        obtain ⟨rfl, f, nm, hj1, hf⟩ := e1 _ _ hj
        rcases hd with ⟨-, hd⟩ | ⟨h9, hd⟩ | ⟨h9, hd⟩ | ⟨h9, hd⟩ | ⟨h9, hd⟩ <;> first | omega | exact va_ti C0.1 C0.2.1 (hb.2.1 j _ hj1).1 hw.2 (bin_of h2).1 (hf _ (bin_of h2).2) hd kk
      · cases h1
        obtain ⟨f, nm, hj1, hf⟩ := e2 _ hj
        rcases hd with ⟨h9, hd⟩ | ⟨h9, hd⟩ | ⟨h9, hd⟩ | ⟨-, hd⟩ | ⟨h9, hd⟩ <;> first | omega | exact va_tl C0.1 C0.2.1 (hb.2.1 j _ hj1).1 hw.2 (bin_of h2).1 (hf _ (bin_of h2).2) hd kk
      · cases h1
        exact absurd hj (e4 _ _)
theorem bs_alen (hE : bEok K E) (C0 : CallFix p m c cc nL s args bw_G own) (hb : bK K s) (hw : bS K.D K.B w.1.length (bct K w.1) s H locs) (hz : w.2 = 0 → H.size = K.B + w.1.length) (hl : lv_has ls nL (bvl K lv)) {a : bV} {c1 : bC} {n : Nat} (h : barr E w a = some c1) (hn : blen c1 = some n)
    (hd : decode cc pc = .ok (.arraylength, 1)) (k : bCont p l e R s m args below meth c cells slots Q K nL w (pc + 1, lv, .inl (Int32.ofNat n) :: rest, w)) : W p l e R s m args below meth c H locs cells slots Q (F0 m pc ls ((a :: rest : List bV).map (bvv K))) := by
  have kk := bp hw hz hl k
  rcases barr_inv h with ⟨r0, rfl, hr⟩ | ⟨j, rfl, rfl⟩
  · have hr0 : r0 < w.1.length := (List.getElem?_eq_some_iff.mp hr).1
    have he := bct_at (K := K) hr
    rcases c1 with ⟨ci, fs⟩ | ⟨t, xs⟩ | xs | ⟨t, xs⟩
    · cases hn
    · have hn : (if t = 0 ∨ t = 1 ∨ t = 3 then some xs.length else none) = some n := hn
      split at hn
      · rename_i h7
        cases hn
        rcases h7 with rfl | rfl | rfl
        · exact br_alen C0 hb hw hr0 0 rfl he rfl hd kk
        · exact br_alen C0 hb hw hr0 1 rfl he rfl hd kk
        · exact br_alen C0 hb hw hr0 3 rfl he rfl hd kk
      · cases hn
    · cases hn
      exact br_alen C0 hb hw hr0 2 rfl he rfl hd kk
    · have hn : (if t = 4 ∨ t = 5 then some xs.length else none) = some n := hn
      split at hn
      · rename_i h7
        cases hn
        rcases h7 with rfl | rfl
        · exact br_alen C0 hb hw hr0 4 rfl he rfl hd kk
        · exact br_alen C0 hb hw hr0 5 rfl he rfl hd kk
      · cases hn
  · obtain ⟨e1, e2, e3, e4⟩ := hE j
    cases hj : E j with
    | inl q => rw [hj] at hn; cases hn
    | inr q =>
      rw [hj] at hn
      rcases q with ⟨t, xs⟩ | xs | ⟨t, xs⟩
      · obtain ⟨rfl, f, nm, hj1, hf⟩ := e1 _ _ hj
        have hn : (if 1 = 0 ∨ 1 = 1 ∨ 1 = 3 then some xs.length else none) = some n := hn
        rw [if_pos (by decide)] at hn
        cases hn
        exact va_tlen C0.1 C0.2.1 (hb.2.1 j _ hj1).1 hw.2 rfl hd kk
      · obtain ⟨f, nm, hj1, hf⟩ := e2 _ hj
        cases hn
        exact va_tlen C0.1 C0.2.1 (hb.2.1 j _ hj1).1 hw.2 rfl hd kk
      · exact absurd hj (e4 _ _)
theorem bs_gst (hE : bEok K E) (C0 : CallFix p m c cc nL s args bw_G own) (hb : bK K s) (hw : bS K.D K.B w.1.length (bct K w.1) s H locs) (hz : w.2 = 0 → H.size = K.B + w.1.length) (hl : lv_has ls nL (bvl K lv)) {a ix : Nat} (ok : ∃ f : String × String × String, bsf a = some f ∧ (Jvm.Cond.fieldLink own ix f.1 f.2.1 f.2.2 ∈ bw_G ∨ ∃ host : String, (own, ix, f.1, f.2.1, f.2.2, host) ∈ bwN))
    (hd : decode cc pc = .ok (.getstatic ix, 3)) (k : bCont p l e R s m args below meth c cells slots Q K nL w (pc + 3, lv, .inr (.inr (.inr (some a))) :: st, w)) : W p l e R s m args below meth c H locs cells slots Q (F0 m pc ls (st.map (bvv K))) := by
  have kk := bp hw hz hl k
  obtain ⟨f, hf, hlink⟩ := ok
  obtain ⟨q, hq, hqf⟩ := (hE a).2.2.1 f hf
  have hZ := (hb.2.1 a q hq).2 f hqf
  rcases hlink with hlink | ⟨host, hlink⟩
  · exact va_gets C0.1 C0.2.1 hZ hw.2 C0.2.2.2.1 (C0.2.2.2.2 _ hlink) (fun _ h => h) hd kk
  · exact va_getsN C0.1 C0.2.1 hZ hw.2 C0.2.2.2.1 ((hb.2.2.2.2.2.2.2.2.2.2.1 _ hlink).use rfl) (fun _ h => h) hd kk
theorem bs_obj (C0 : CallFix p m c cc nL s args bw_G own) (hw : bS K.D K.B w.1.length (bct K w.1) s H locs) (hz : w.2 = 0 → H.size = K.B + w.1.length) (hl : lv_has ls nL (bvl K lv)) {r ix : Nat} (h1 : Jvm.Cond.methodLink own ix Lib.objectInit ∈ bw_G ∧ Jvm.Cond.instanceMethod Lib.objectInit ∈ bw_G ∧ Jvm.Cond.code Lib.objectInit ⟨#[0xb1]⟩ 1 none ∈ bw_G) (hfr : 1 ≤ R.frames) (hlo : (rest.map bvc).sum + 12 ≤ R.locals)
    (hd : decode cc pc = .ok (.invokespecial ix, 3)) (k : bCont p l e R s m args below meth c cells slots Q K nL w (pc + 3, lv, rest, w)) : W p l e R s m args below meth c H locs cells slots Q (F0 m pc ls ((.inr (.inr (.inl r)) :: rest : List bV).map (bvv K))) := by
  have kk := bp hw hz hl k
  have hc : (rest.map bvc).sum = ((rest.map (bvv K)).map fun v => v.category).sum := by
    rw [List.map_map]
    congr 1
    apply List.map_congr_left
    intro v _
    exact (bvc_v K v).symm
  exact W.objInit C0.1 C0.2.1 C0.2.2.2.1 (C0.2.2.2.2 _ h1.1) (C0.2.2.2.2 _ h1.2.1) (C0.2.2.2.2 _ h1.2.2) rfl (by rw [C0.2.2.1]; exact hl.1) rfl hd hfr (by rw [hc] at hlo; show 2 * 0 + _ + 12 ≤ _; omega) kk
end BMORE
end
section
/-! THE STEP: every instruction that the reader reads. -/
section BSTEPS
variable {p : Program} {l : Launch} {e : Env} {R : Room} {s : State} {m : MethodId} {args : Array Value} {below : List Frame} {meth : Method} {c : Code} {H : Heap} {locs : List Loc} {cells slots : Nat} {Q : State → Prop}
variable {cc : ByteArray} {pc nL : Nat} {own : String} {ls : Array Slot} {K : KE} {E : Nat → bC} {lv : List (Nat × bV)} {st rest : List bV} {w : bW}
theorem bs_stl (C0 : CallFix p m c cc nL s args bw_G own) (hw : bS K.D K.B w.1.length (bct K w.1) s H locs) (hz : w.2 = 0 → H.size = K.B + w.1.length) {lv' : List (Nat × bV)} {pc' : Nat} (k : bCont p l e R s m args below meth c cells slots Q K nL w (pc', lv', rest, w)) : ∀ ls' : Array Slot, lv_has ls' nL (bvl K lv') → W p l e R s m args below meth c H locs cells slots Q (F0 m pc' ls' (rest.map (bvv K))) :=
  fun ls' h => k H locs ls' cells slots hw hz h rfl rfl
theorem bs_jf (C0 : CallFix p m c cc nL s args bw_G own) {cd : ClassFile.Cond} {off : Int} {tgt : Nat} {x : Int32} (hd : decode cc pc = .ok (.ifCond cd off, 3)) (ht : (pc : Int) + off = (tgt : Int)) {rs : List Value} (k : W p l e R s m args below meth c H locs cells slots Q (F0 m (if bcmp cd x 0 = true then tgt else pc + 3) ls rs)) : W p l e R s m args below meth c H locs cells slots Q (F0 m pc ls (.int x :: rs)) := by
  cases cd <;> simp only [bcmp, decide_eq_true_eq] at k
  · exact lv_if_eq C0.1 C0.2.1 hd ht (fun h => by rw [if_pos h] at k; exact k) (fun h => by rw [if_neg h] at k; exact k)
  · exact lv_if_ne C0.1 C0.2.1 hd ht (fun h => by rw [if_pos h] at k; exact k) (fun h => by rw [if_neg (fun q => q h)] at k; exact k)
  · exact lv_if_lt C0.1 C0.2.1 hd ht (fun h => by rw [if_pos h] at k; exact k) (fun h => by rw [if_neg h] at k; exact k)
  · exact lv_if_ge C0.1 C0.2.1 hd ht (fun h => by rw [if_pos h] at k; exact k) (fun h => by rw [if_neg h] at k; exact k)
  · exact lv_if_gt C0.1 C0.2.1 hd ht (fun h => by rw [if_pos h] at k; exact k) (fun h => by rw [if_neg h] at k; exact k)
  · exact lv_if_le C0.1 C0.2.1 hd ht (fun h => by rw [if_pos h] at k; exact k) (fun h => by rw [if_neg h] at k; exact k)
theorem bs_jc (C0 : CallFix p m c cc nL s args bw_G own) {cd : ClassFile.Cond} {off : Int} {tgt : Nat} {x y : Int32} (hd : decode cc pc = .ok (.if_icmp cd off, 3)) (ht : (pc : Int) + off = (tgt : Int)) {rs : List Value} (k : W p l e R s m args below meth c H locs cells slots Q (F0 m (if bcmp cd x y = true then tgt else pc + 3) ls rs)) : W p l e R s m args below meth c H locs cells slots Q (F0 m pc ls (.int y :: .int x :: rs)) := by
  cases cd <;> simp only [bcmp, decide_eq_true_eq] at k
  · exact lv_icmp_eq C0.1 C0.2.1 hd ht (fun h => by rw [if_pos h] at k; exact k) (fun h => by rw [if_neg h] at k; exact k)
  · exact lv_icmp_ne C0.1 C0.2.1 hd ht (fun h => by rw [if_pos h] at k; exact k) (fun h => by rw [if_neg (fun q => q h)] at k; exact k)
  · exact lv_icmp_lt C0.1 C0.2.1 hd ht (fun h => by rw [if_pos h] at k; exact k) (fun h => by rw [if_neg h] at k; exact k)
  · exact lv_icmp_ge C0.1 C0.2.1 hd ht (fun h => by rw [if_pos h] at k; exact k) (fun h => by rw [if_neg h] at k; exact k)
  · exact lv_icmp_gt C0.1 C0.2.1 hd ht (fun h => by rw [if_pos h] at k; exact k) (fun h => by rw [if_neg h] at k; exact k)
  · exact lv_icmp_le C0.1 C0.2.1 hd ht (fun h => by rw [if_pos h] at k; exact k) (fun h => by rw [if_neg h] at k; exact k)
theorem binc_inv {i : Nat} {n : Int} {q : bF} (h : binc nL pc i n lv st w = some q) : ∃ x : Int32, blk lv i = some (.inl x) ∧ i < nL ∧ (pc + 3, bst1 lv i (.inl (x + Int32.ofInt n)), st, w) = q := by
  unfold binc at h
  split at h
  · split at h
    · exact ⟨_, by assumption, by assumption, Option.some.inj h⟩
    · cases h
  · cases h
theorem bdup_inv {q : bF} (h : bdup pc lv st w = some q) : ∃ (v : bV) (r : List bV), st = v :: r ∧ bvc v = 1 ∧ (pc + 1, lv, v :: v :: r, w) = q := by
  unfold bdup at h
  split at h
  · split at h
    · exact ⟨_, _, rfl, by assumption, Option.some.inj h⟩
    · cases h
  · cases h
theorem bpop_inv {q : bF} (h : bpop pc lv st w = some q) : ∃ (v : bV) (r : List bV), st = v :: r ∧ bvc v = 1 ∧ (pc + 1, lv, r, w) = q := by
  unfold bpop at h
  split at h
  · split at h
    · exact ⟨_, _, rfl, by assumption, Option.some.inj h⟩
    · cases h
  · cases h
theorem bdup2_inv {q : bF} (h : bdup2 pc lv st w = some q) : (∃ (v : bV) (r : List bV), st = v :: r ∧ bvc v = 2 ∧ (pc + 1, lv, v :: v :: r, w) = q) ∨ ∃ (v u : bV) (r : List bV), st = v :: u :: r ∧ bvc v = 1 ∧ bvc u = 1 ∧ (pc + 1, lv, v :: u :: v :: u :: r, w) = q := by
  unfold bdup2 at h
  split at h
  · split at h
    · exact Or.inl ⟨_, _, rfl, by assumption, Option.some.inj h⟩
    · split at h
      · split at h
        · rename_i h9
          exact Or.inr ⟨_, _, _, rfl, h9.1, h9.2, Option.some.inj h⟩
        · cases h
      · cases h
  · cases h
theorem bpop2_inv {q : bF} (h : bpop2 pc lv st w = some q) : ∃ (v : bV) (r : List bV), st = v :: r ∧ bvc v = 2 ∧ (pc + 1, lv, r, w) = q := by
  unfold bpop2 at h
  split at h
  · split at h
    · exact ⟨_, _, rfl, by assumption, Option.some.inj h⟩
    · cases h
  · cases h
theorem bjf_inv {cd : ClassFile.Cond} {a : Nat} {q : bF} (h : bjf cd pc a lv st w = some q) : ∃ (x : Int32) (r : List bV), st = .inl x :: r ∧ (if bcmp cd x 0 = true then a else pc + 3, lv, r, w) = q := by
  unfold bjf at h
  split at h
  · exact ⟨_, _, rfl, Option.some.inj h⟩
  · cases h
theorem bjc_inv {cd : ClassFile.Cond} {a : Nat} {q : bF} (h : bjc cd pc a lv st w = some q) : ∃ (x y : Int32) (r : List bV), st = .inl y :: .inl x :: r ∧ (if bcmp cd x y = true then a else pc + 3, lv, r, w) = q := by
  unfold bjc at h
  split at h
  · exact ⟨_, _, _, rfl, Option.some.inj h⟩
  · cases h
theorem bgf_inv {a b : Nat} {q : bF} (h : bgf pc a b lv st w = some q) : ∃ (r : Nat) (rest fs : List bV) (v : bV), st = .inr (.inr (.inl r)) :: rest ∧ w.1[r]? = some (.inl (a, fs)) ∧ fs[b]? = some v ∧ (pc + 3, lv, v :: rest, w) = q := by
  unfold bgf at h
  split at h
  · split at h
    · split at h
      · rename_i hci
        subst hci
        split at h
        · exact ⟨_, _, _, _, rfl, by assumption, by assumption, Option.some.inj h⟩
        · cases h
      · cases h
    · cases h
  · cases h
theorem bpf_inv {a b : Nat} {q : bF} (h : bpf pc a b lv st w = some q) : ∃ (r : Nat) (v : bV) (rest fs : List bV), st = v :: .inr (.inr (.inl r)) :: rest ∧ w.1[r]? = some (.inl (a, fs)) ∧ b < fs.length ∧ bokf ((bty a).getD b .byte) v = true ∧ (pc + 3, lv, rest, (w.1.set r (.inl (a, fs.set b v)), w.2)) = q := by
  unfold bpf at h
  split at h
  · split at h
    · split at h
      · rename_i hci
        obtain ⟨rfl, h1, h2⟩ := hci
        exact ⟨_, _, _, _, rfl, by assumption, h1, h2, Option.some.inj h⟩
      · cases h
    · cases h
  · cases h
theorem balen_inv {q : bF} (h : balen E pc lv st w = some q) : ∃ (a : bV) (r : List bV) (c1 : bC) (n : Nat), st = a :: r ∧ barr E w a = some c1 ∧ blen c1 = some n ∧ (pc + 1, lv, .inl (Int32.ofNat n) :: r, w) = q := by
  unfold balen at h
  split at h
  · split at h
    · split at h
      · exact ⟨_, _, _, _, rfl, by assumption, by assumption, Option.some.inj h⟩
      · cases h
    · cases h
  · cases h
theorem bnwa_inv {a : Nat} {q : bF} (h : bnwa pc a lv st w = some q) : ∃ (n : Int32) (r : List bV), st = .inl n :: r ∧ w.2 = 0 ∧ ¬ n < 0 ∧ n.toNatClampNeg * 8 ≤ 536870912 ∧ (pc + 2, lv, .inr (.inr (.inl w.1.length)) :: r, (w.1 ++ [if a = 2 then .inr (.inr (.inl (List.replicate n.toNatClampNeg 0))) else .inr (.inl (a, List.replicate n.toNatClampNeg 0))], w.2)) = q := by
  unfold bnwa at h
  split at h
  · split at h
    · rename_i h9
      exact ⟨_, _, rfl, h9.1, h9.2.1, h9.2.2, Option.some.inj h⟩
    · cases h
  · cases h
theorem bnwq_inv {a : Nat} {q : bF} (h : bnwq pc a lv st w = some q) : ∃ (n : Int32) (r : List bV), st = .inl n :: r ∧ w.2 = 0 ∧ ¬ n < 0 ∧ n.toNatClampNeg * 8 ≤ 536870912 ∧ (pc + 3, lv, .inr (.inr (.inl w.1.length)) :: r, (w.1 ++ [.inr (.inr (.inr (a, List.replicate n.toNatClampNeg none)))], w.2)) = q := by
  unfold bnwq at h
  split at h
  · split at h
    · rename_i h9
      exact ⟨_, _, rfl, h9.1, h9.2.1, h9.2.2, Option.some.inj h⟩
    · cases h
  · cases h
theorem bnew_inv {a : Nat} {v : Int} {q : bF} (h : bnew pc a v lv st w = some q) : w.2 = 0 ∧ v = 0 ∧ (pc + 3, lv, .inr (.inr (.inl w.1.length)) :: st, (w.1 ++ [.inl (a, (bty a).map bdf)], w.2)) = q := by
  unfold bnew at h
  split at h
  · rename_i h9
    exact ⟨h9.1, h9.2, Option.some.inj h⟩
  · cases h
theorem bobj_inv {v : Int} {q : bF} (h : bobj pc v lv st w = some q) : ∃ (x : Nat) (r : List bV), st = .inr (.inr (.inl x)) :: r ∧ v = 1 ∧ (r.map bvc).sum ≤ 8 ∧ (pc + 3, lv, r, w) = q := by
  unfold bobj at h
  split at h
  · split at h
    · rename_i h9
      exact ⟨_, _, rfl, h9.1, h9.2, Option.some.inj h⟩
    · cases h
  · cases h
theorem blsw_inv {d : Int} {ps : List (Int × Int)} {q : bF} (h : blsw pc d ps lv st w = some q) : ∃ (x : Int32) (r : List bV), st = .inl x :: r ∧ 0 ≤ (pc : Int) + Op.lookupswitch.offset ps d x.toInt ∧ (((pc : Int) + Op.lookupswitch.offset ps d x.toInt).toNat, lv, r, w) = q := by
  unfold blsw at h
  split at h
  · split at h
    · exact ⟨_, _, rfl, by assumption, Option.some.inj h⟩
    · cases h
  · cases h
theorem btsw_inv {d lo hi : Int} {offs : Array Int} {q : bF} (h : btsw pc d lo hi offs lv st w = some q) : ∃ (x : Int32) (r : List bV) (off : Int), st = .inl x :: r ∧ 0 ≤ (pc : Int) + off ∧ (((x.toInt < lo ∨ hi < x.toInt) ∧ off = d) ∨ (¬ (x.toInt < lo ∨ hi < x.toInt) ∧ offs[(x.toInt - lo).toNat]? = some off)) ∧ (((pc : Int) + off).toNat, lv, r, w) = q := by
  unfold btsw at h
  split at h
  · split at h
    · split at h
      · exact ⟨_, _, _, rfl, by assumption, Or.inl ⟨by assumption, rfl⟩, Option.some.inj h⟩
      · cases h
    · split at h
      · split at h
        · exact ⟨_, _, _, rfl, by assumption, Or.inr ⟨by assumption, by assumption⟩, Option.some.inj h⟩
        · cases h
      · cases h
  · cases h
theorem bast_inv {t : Nat} {q : bF} (h : bast pc t lv st w = some q) : ∃ (x i : Int32) (r : Nat) (rest : List bV) (xs : List Int32), st = .inl x :: .inl i :: .inr (.inr (.inl r)) :: rest ∧ w.1[r]? = some (.inr (.inl (t, xs))) ∧ bin i xs.length = true ∧ (pc + 1, lv, rest, (w.1.set r (.inr (.inl (t, xs.set i.toNatClampNeg (vp_nar (if t = 0 then .char else if t = 3 then .boolean else .int) x)))), w.2)) = q := by
  unfold bast at h
  split at h
  · split at h
    · split at h
      · rename_i h9
        obtain ⟨rfl, h9⟩ := h9
        exact ⟨_, _, _, _, _, rfl, by assumption, h9, Option.some.inj h⟩
      · cases h
    · cases h
  · cases h
theorem blast_inv {q : bF} (h : blast pc lv st w = some q) : ∃ (x : Int64) (i : Int32) (r : Nat) (rest : List bV) (xs : List Int64), st = .inr (.inl x) :: .inl i :: .inr (.inr (.inl r)) :: rest ∧ w.1[r]? = some (.inr (.inr (.inl xs))) ∧ bin i xs.length = true ∧ (pc + 1, lv, rest, (w.1.set r (.inr (.inr (.inl (xs.set i.toNatClampNeg x)))), w.2)) = q := by
  unfold blast at h
  split at h
  · split at h
    · split at h
      · exact ⟨_, _, _, _, _, rfl, by assumption, by assumption, Option.some.inj h⟩
      · cases h
    · cases h
  · cases h
theorem baast_inv {q : bF} (h : baast pc lv st w = some q) : ∃ (v : Nat) (i : Int32) (r : Nat) (rest : List bV) (t ci : Nat) (xs : List (Option Nat)) (fs : List bV), st = .inr (.inr (.inl v)) :: .inl i :: .inr (.inr (.inl r)) :: rest ∧ w.1[r]? = some (.inr (.inr (.inr (t, xs)))) ∧ w.1[v]? = some (.inl (ci, fs)) ∧ (t = 4 ∨ t = 5) ∧ ci = bcls t ∧ bin i xs.length = true ∧ (pc + 1, lv, rest, (w.1.set r (.inr (.inr (.inr (t, xs.set i.toNatClampNeg (some v))))), w.2)) = q := by
  unfold baast at h
  split at h
  · split at h
    · split at h
      · rename_i h9
        exact ⟨_, _, _, _, _, _, _, _, rfl, by assumption, by assumption, h9.1, h9.2.1, h9.2.2, Option.some.inj h⟩
      · cases h
    · cases h
  · cases h
theorem bstep_snd (Cls : bClsOk) (hE : bEok K E) (C0 : CallFix p m c cc nL s args bw_G own) (hb : bK K s) (hw : bS K.D K.B w.1.length (bct K w.1) s H locs) (hz : w.2 = 0 → H.size = K.B + w.1.length) (hl : lv_has ls nL (bvl K lv)) (hRf : 16 ≤ R.frames) (hRl : 400 ≤ R.locals) {o : bO} {nm : String} (hnm : meth.name = nm) (ok1 : bOkD cc pc o) (ok2 : bOkX own nm pc o) {q : bF} (h : bstep E nL o pc lv st w = some q)
    (hcs : cells + q.2.2.2.1.length ≤ R.cells + w.1.length) (hsl : slots + bsz q.2.2.2.1 ≤ R.slots + bsz w.1) (k : bCont p l e R s m args below meth c cells slots Q K nL w q) : W p l e R s m args below meth c H locs cells slots Q (F0 m pc ls (st.map (bvv K))) := by
  obtain ⟨ins, ln, a, b, v⟩ := o
  have hx := C0.1
  have hcb := C0.2.1
  cases ins with
  | iconst n =>
    have hd : decode cc pc = .ok (.iconst n, 1) := ok1
    cases h
    exact lv_iconst hx hcb hd rfl (bp hw hz hl k)
  | bipush n =>
    have hd : decode cc pc = .ok (.bipush n, 2) := ok1
    cases h
    exact lv_bipush hx hcb hd rfl (bp hw hz hl k)
  | sipush n =>
    have hd : decode cc pc = .ok (.sipush n, 3) := ok1
    cases h
    exact lv_sipush hx hcb hd rfl (bp hw hz hl k)
  | ldc ix =>
    have hd : decode cc pc = .ok (.ldc ix, 2) := ok1
    cases h
    exact lv_ldc hx hcb C0.2.2.2.1 (C0.2.2.2.2 _ ok2) hd (bp hw hz hl k)
  | ldc2_w ix =>
    have hd : decode cc pc = .ok (.ldc2_w ix, 3) := ok1
    cases h
    exact lv_ldc2 hx hcb C0.2.2.2.1 (C0.2.2.2.2 _ ok2) hd (bp hw hz hl k)
  | lconst n =>
    have hd : decode cc pc = .ok (.lconst n, 1) := ok1
    cases h
    exact lv_lconst hx hcb hd rfl (bp hw hz hl k)
  | iload_n i =>
    have hd : decode cc pc = .ok (.iload_n i, 1) := ok1
    obtain ⟨x, hk, rfl⟩ := bldl0_inv h
    exact lv_iload_n hx hcb hd rfl (blk_has hl hk) (bp hw hz hl k)
  | iload i =>
    have hd : decode cc pc = .ok (.iload i, 2) := ok1
    obtain ⟨x, hk, rfl⟩ := bldl0_inv h
    exact lv_iload hx hcb hd (blk_has hl hk) (bp hw hz hl k)
  | lload_n i =>
    have hd : decode cc pc = .ok (.lload_n i, 1) := ok1
    obtain ⟨x, hk, rfl⟩ := bldl1_inv h
    exact lv_lload_n hx hcb hd rfl (blk_has hl hk) (bp hw hz hl k)
  | lload i =>
    have hd : decode cc pc = .ok (.lload i, 2) := ok1
    obtain ⟨x, hk, rfl⟩ := bldl1_inv h
    exact lv_lload hx hcb hd (blk_has hl hk) (bp hw hz hl k)
  | aload_n i =>
    have hd : decode cc pc = .ok (.aload_n i, 1) := ok1
    rcases bldl2_inv h with ⟨x, hk, rfl⟩ | ⟨x, hk, rfl⟩
    · exact lv_aload_n hx hcb hd rfl (blk_has hl hk) (bp hw hz hl k)
    · exact lv_aload_n hx hcb hd rfl (blk_has hl hk) (bp hw hz hl k)
  | aload i =>
    have hd : decode cc pc = .ok (.aload i, 2) := ok1
    rcases bldl2_inv h with ⟨x, hk, rfl⟩ | ⟨x, hk, rfl⟩
    · exact lv_aload hx hcb hd (blk_has hl hk) (bp hw hz hl k)
    · exact lv_aload hx hcb hd (blk_has hl hk) (bp hw hz hl k)
  | istore_n i =>
    have hd : decode cc pc = .ok (.istore_n i, 1) := ok1
    obtain ⟨x, r, rfl, hi, rfl⟩ := bstl0_inv h
    exact lv_istore_n hx hcb hd rfl hl hi (bst1_v K lv i (.inl x)) (bs_stl C0 hw hz k)
  | istore i =>
    have hd : decode cc pc = .ok (.istore i, 2) := ok1
    obtain ⟨x, r, rfl, hi, rfl⟩ := bstl0_inv h
    exact lv_istore hx hcb hd hl hi (bst1_v K lv i (.inl x)) (bs_stl C0 hw hz k)
  | lstore_n i =>
    have hd : decode cc pc = .ok (.lstore_n i, 1) := ok1
    obtain ⟨x, r, rfl, hi, rfl⟩ := bstl1_inv h
    exact lv_lstore_n hx hcb hd rfl hl hi (bst2_v K lv i (.inr (.inl x))) (bs_stl C0 hw hz k)
  | lstore i =>
    have hd : decode cc pc = .ok (.lstore i, 2) := ok1
    obtain ⟨x, r, rfl, hi, rfl⟩ := bstl1_inv h
    exact lv_lstore hx hcb hd hl hi (bst2_v K lv i (.inr (.inl x))) (bs_stl C0 hw hz k)
  | astore_n i =>
    have hd : decode cc pc = .ok (.astore_n i, 1) := ok1
    obtain ⟨x, r, rfl, hi, rfl⟩ := bstl2_inv h
    exact lv_astore_n hx hcb hd rfl hl hi (bst1_v K lv i (.inr (.inr (.inl x)))) (bs_stl C0 hw hz k)
  | astore i =>
    have hd : decode cc pc = .ok (.astore i, 2) := ok1
    obtain ⟨x, r, rfl, hi, rfl⟩ := bstl2_inv h
    exact lv_astore hx hcb hd hl hi (bst1_v K lv i (.inr (.inr (.inl x)))) (bs_stl C0 hw hz k)
  | iinc i n =>
    have hd : decode cc pc = .ok (.iinc i n, 3) := ok1
    obtain ⟨x, hk, hi, rfl⟩ := binc_inv h
    obtain ⟨j, hj⟩ := List.getElem?_of_mem (show (i, bvv K (.inl x)) ∈ bvl K lv from List.mem_map.mpr ⟨_, blk_in hk, rfl⟩)
    exact lv_iinc hx hcb hd hl hj rfl hi (bst1_v K lv i (.inl (x + Int32.ofInt n))) (bs_stl C0 hw hz k)
  | iadd =>
    have hd : decode cc pc = .ok (.iadd, 1) := ok1
    have h : bi2 pc lv st w (fun x y => some (x + y)) = some q := h
    obtain ⟨x, y, v, r, rfl, hf, rfl⟩ := bi2_inv h
    cases hf
    exact lv_iadd hx hcb hd (bp hw hz hl k)
  | isub =>
    have hd : decode cc pc = .ok (.isub, 1) := ok1
    have h : bi2 pc lv st w (fun x y => some (x - y)) = some q := h
    obtain ⟨x, y, v, r, rfl, hf, rfl⟩ := bi2_inv h
    cases hf
    exact lv_isub hx hcb hd (bp hw hz hl k)
  | imul =>
    have hd : decode cc pc = .ok (.imul, 1) := ok1
    have h : bi2 pc lv st w (fun x y => some (x * y)) = some q := h
    obtain ⟨x, y, v, r, rfl, hf, rfl⟩ := bi2_inv h
    cases hf
    exact lv_imul hx hcb hd (bp hw hz hl k)
  | iand =>
    have hd : decode cc pc = .ok (.iand, 1) := ok1
    have h : bi2 pc lv st w (fun x y => some (x &&& y)) = some q := h
    obtain ⟨x, y, v, r, rfl, hf, rfl⟩ := bi2_inv h
    cases hf
    exact lv_iand hx hcb hd (bp hw hz hl k)
  | ior =>
    have hd : decode cc pc = .ok (.ior, 1) := ok1
    have h : bi2 pc lv st w (fun x y => some (x ||| y)) = some q := h
    obtain ⟨x, y, v, r, rfl, hf, rfl⟩ := bi2_inv h
    cases hf
    exact lv_ior hx hcb hd (bp hw hz hl k)
  | idiv =>
    have hd : decode cc pc = .ok (.idiv, 1) := ok1
    have h : bi2 pc lv st w (fun x y => if y = 0 then none else some (x / y)) = some q := h
    obtain ⟨x, y, v, r, rfl, hf, rfl⟩ := bi2_inv h
    split at hf
    · cases hf
    · rename_i h0
      cases hf
      exact lv_idiv hx hcb hd h0 (bp hw hz hl k)
  | irem =>
    have hd : decode cc pc = .ok (.irem, 1) := ok1
    have h : bi2 pc lv st w (fun x y => if y = 0 then none else some (x - x / y * y)) = some q := h
    obtain ⟨x, y, v, r, rfl, hf, rfl⟩ := bi2_inv h
    split at hf
    · cases hf
    · rename_i h0
      cases hf
      exact lv_irem hx hcb hd h0 (bp hw hz hl k)
  | ineg =>
    have hd : decode cc pc = .ok (.ineg, 1) := ok1
    have h : bi1 pc lv st w (fun x => .inl (-x)) = some q := h
    obtain ⟨x, r, rfl, rfl⟩ := bi1_inv h
    exact lv_ineg hx hcb hd (bp hw hz hl k)
  | ladd =>
    have hd : decode cc pc = .ok (.ladd, 1) := ok1
    have h : bl2 pc lv st w (fun x y => some (.inr (.inl (x + y)))) = some q := h
    obtain ⟨x, y, v, r, rfl, hf, rfl⟩ := bl2_inv h
    cases hf
    exact lv_ladd hx hcb hd (bp hw hz hl k)
  | lsub =>
    have hd : decode cc pc = .ok (.lsub, 1) := ok1
    have h : bl2 pc lv st w (fun x y => some (.inr (.inl (x - y)))) = some q := h
    obtain ⟨x, y, v, r, rfl, hf, rfl⟩ := bl2_inv h
    cases hf
    exact lv_lsub hx hcb hd (bp hw hz hl k)
  | lmul =>
    have hd : decode cc pc = .ok (.lmul, 1) := ok1
    have h : bl2 pc lv st w (fun x y => some (.inr (.inl (x * y)))) = some q := h
    obtain ⟨x, y, v, r, rfl, hf, rfl⟩ := bl2_inv h
    cases hf
    exact lv_lmul hx hcb hd (bp hw hz hl k)
  | land =>
    have hd : decode cc pc = .ok (.land, 1) := ok1
    have h : bl2 pc lv st w (fun x y => some (.inr (.inl (x &&& y)))) = some q := h
    obtain ⟨x, y, v, r, rfl, hf, rfl⟩ := bl2_inv h
    cases hf
    exact lv_land hx hcb hd (bp hw hz hl k)
  | lor =>
    have hd : decode cc pc = .ok (.lor, 1) := ok1
    have h : bl2 pc lv st w (fun x y => some (.inr (.inl (x ||| y)))) = some q := h
    obtain ⟨x, y, v, r, rfl, hf, rfl⟩ := bl2_inv h
    cases hf
    exact lv_lor hx hcb hd (bp hw hz hl k)
  | lxor =>
    have hd : decode cc pc = .ok (.lxor, 1) := ok1
    have h : bl2 pc lv st w (fun x y => some (.inr (.inl (x ^^^ y)))) = some q := h
    obtain ⟨x, y, v, r, rfl, hf, rfl⟩ := bl2_inv h
    cases hf
    exact lv_lxor hx hcb hd (bp hw hz hl k)
  | ldiv =>
    have hd : decode cc pc = .ok (.ldiv, 1) := ok1
    have h : bl2 pc lv st w (fun x y => if y = 0 then none else some (.inr (.inl (x / y)))) = some q := h
    obtain ⟨x, y, v, r, rfl, hf, rfl⟩ := bl2_inv h
    split at hf
    · cases hf
    · rename_i h0
      cases hf
      exact lv_ldiv hx hcb hd h0 (bp hw hz hl k)
  | lrem =>
    have hd : decode cc pc = .ok (.lrem, 1) := ok1
    have h : bl2 pc lv st w (fun x y => if y = 0 then none else some (.inr (.inl (x - x / y * y)))) = some q := h
    obtain ⟨x, y, v, r, rfl, hf, rfl⟩ := bl2_inv h
    split at hf
    · cases hf
    · rename_i h0
      cases hf
      exact lv_lrem hx hcb hd h0 (bp hw hz hl k)
  | lcmp =>
    have hd : decode cc pc = .ok (.lcmp, 1) := ok1
    have h : bl2 pc lv st w (fun x y => some (.inl (lg_cmp x y))) = some q := h
    obtain ⟨x, y, v, r, rfl, hf, rfl⟩ := bl2_inv h
    cases hf
    exact W.lcmp hx hcb hd (bp hw hz hl k)
  | lneg =>
    have hd : decode cc pc = .ok (.lneg, 1) := ok1
    have h : bl1 pc lv st w (fun x => .inr (.inl (-x))) = some q := h
    obtain ⟨x, r, rfl, rfl⟩ := bl1_inv h
    exact lv_lneg hx hcb hd (bp hw hz hl k)
  | l2i =>
    have hd : decode cc pc = .ok (.l2i, 1) := ok1
    have h : bl1 pc lv st w (fun x => .inl x.toInt32) = some q := h
    obtain ⟨x, r, rfl, rfl⟩ := bl1_inv h
    exact lv_l2i hx hcb hd rfl (bp hw hz hl k)
  | i2l =>
    have hd : decode cc pc = .ok (.i2l, 1) := ok1
    have h : bi1 pc lv st w (fun x => .inr (.inl x.toInt64)) = some q := h
    obtain ⟨x, r, rfl, rfl⟩ := bi1_inv h
    exact lv_i2l hx hcb hd rfl (bp hw hz hl k)
  | i2c =>
    have hd : decode cc pc = .ok (.i2c, 1) := ok1
    have h : bi1 pc lv st w (fun x => .inl (x.toUInt32 % 65536).toInt32) = some q := h
    obtain ⟨x, r, rfl, rfl⟩ := bi1_inv h
    exact lv_i2c hx hcb hd rfl (bp hw hz hl k)
  | lshl =>
    have hd : decode cc pc = .ok (.lshl, 1) := ok1
    have h : bls pc lv st w (fun x y => x <<< (y.toInt64 &&& 63)) = some q := h
    obtain ⟨x, y, r, rfl, rfl⟩ := bls_inv h
    exact lv_lshl hx hcb hd rfl (bp hw hz hl k)
  | lshr =>
    have hd : decode cc pc = .ok (.lshr, 1) := ok1
    have h : bls pc lv st w (fun x y => x >>> (y.toInt64 &&& 63)) = some q := h
    obtain ⟨x, y, r, rfl, rfl⟩ := bls_inv h
    exact lv_lshr hx hcb hd rfl (bp hw hz hl k)
  | goto off =>
    have hd : decode cc pc = .ok (.goto off, 3) := ok1
    cases h
    exact lv_goto hx hcb hd ok2 (bp hw hz hl k)
  | ifCond cd off =>
    have hd : decode cc pc = .ok (.ifCond cd off, 3) := ok1
    obtain ⟨x, r, rfl, rfl⟩ := bjf_inv h
    exact bs_jf C0 hd ok2 (bp hw hz hl k)
  | if_icmp cd off =>
    have hd : decode cc pc = .ok (.if_icmp cd off, 3) := ok1
    obtain ⟨x, y, r, rfl, rfl⟩ := bjc_inv h
    exact bs_jc C0 hd ok2 (bp hw hz hl k)
  | iaload => exact bs_load hE C0 hb hw hz hl h (Or.inl ⟨rfl, ok1⟩) k
  | caload => exact bs_load hE C0 hb hw hz hl h (Or.inr (Or.inl ⟨rfl, ok1⟩)) k
  | baload => exact bs_load hE C0 hb hw hz hl h (Or.inr (Or.inr (Or.inl ⟨rfl, ok1⟩))) k
  | laload => exact bs_load hE C0 hb hw hz hl h (Or.inr (Or.inr (Or.inr (Or.inl ⟨rfl, ok1⟩)))) k
  | aaload => exact bs_load hE C0 hb hw hz hl h (Or.inr (Or.inr (Or.inr (Or.inr ⟨rfl, ok1⟩)))) k
  | iastore =>
    obtain ⟨x, i, r, rest, xs, rfl, h1, h2, rfl⟩ := bast_inv h
    exact bs_ist C0 hb hw hz hl h1 h2 (Or.inl ⟨rfl, ok1⟩) k
  | castore =>
    obtain ⟨x, i, r, rest, xs, rfl, h1, h2, rfl⟩ := bast_inv h
    exact bs_ist C0 hb hw hz hl h1 h2 (Or.inr (Or.inl ⟨rfl, ok1⟩)) k
  | bastore =>
    obtain ⟨x, i, r, rest, xs, rfl, h1, h2, rfl⟩ := bast_inv h
    exact bs_ist C0 hb hw hz hl h1 h2 (Or.inr (Or.inr ⟨rfl, ok1⟩)) k
  | lastore =>
    obtain ⟨x, i, r, rest, xs, rfl, h1, h2, rfl⟩ := blast_inv h
    exact bs_lst C0 hb hw hz hl h1 h2 ok1 k
  | aastore =>
    obtain ⟨v, i, r, rest, t, ci, xs, fs, rfl, h1, h2, h3, h4, h5, rfl⟩ := baast_inv h
    exact bs_ast C0 hb hw hz hl h1 h2 h3 h4 h5 ok1 k
  | dup =>
    obtain ⟨v, r, rfl, h1, rfl⟩ := bdup_inv h
    exact lv_dup hx hcb ok1 ((bvc_v K v).trans h1) (bp hw hz hl k)
  | pop =>
    obtain ⟨v, r, rfl, h1, rfl⟩ := bpop_inv h
    exact lv_pop hx hcb ok1 ((bvc_v K v).trans h1) (bp hw hz hl k)
  | dup2 =>
    rcases bdup2_inv h with ⟨v, r, rfl, h1, rfl⟩ | ⟨v, u, r, rfl, h1, h2, rfl⟩
    · exact lv_dup2_2 hx hcb ok1 ((bvc_v K v).trans h1) (bp hw hz hl k)
    · exact lv_dup2_11 hx hcb ok1 ((bvc_v K v).trans h1) ((bvc_v K u).trans h2) (bp hw hz hl k)
  | pop2 =>
    obtain ⟨v, r, rfl, h1, rfl⟩ := bpop2_inv h
    exact lv_pop2_2 hx hcb ok1 ((bvc_v K v).trans h1) (bp hw hz hl k)
  | getfield ix =>
    obtain ⟨r, rest, fs, v, rfl, h1, h2, rfl⟩ := bgf_inv h
    obtain ⟨g1, C, T, N, g2, g3, g4⟩ := ok2
    exact bs_get Cls C0 hb hw hz hl h1 h2 g1 g2 g3 g4 ok1 k
  | putfield ix =>
    obtain ⟨r, v, rest, fs, rfl, h1, h2, h3, rfl⟩ := bpf_inv h
    obtain ⟨g1, C, T, N, g2, g3, g4, g5⟩ := ok2
    exact bs_put Cls C0 hb hw hz hl h1 h2 h3 g1 g2 g3 g4 (by rw [hnm]; exact g5) ok1 k
  | arraylength =>
    obtain ⟨a, r, c1, n, rfl, h1, h2, rfl⟩ := balen_inv h
    exact bs_alen hE C0 hb hw hz hl h1 h2 ok1 k
  | getstatic ix =>
    cases h
    exact bs_gst hE C0 hb hw hz hl ok2 ok1 k
  | new ix =>
    obtain ⟨h0, h1, rfl⟩ := bnew_inv h
    obtain ⟨g1, C, T, N, g2, g3, g4, g5, g6⟩ := ok2 h1
    refine bs_new Cls C0 hb hw hz hl h0 g1 g2 g4 g5 g6 ?_ ?_ ok1 k
    · simp only [List.length_append, List.length_cons, List.length_nil] at hcs; omega
    · have h9 : slots + bsz (w.1 ++ [.inl (a, (bty a).map bdf)]) ≤ R.slots + bsz w.1 := hsl
      rw [bsz_push] at h9
      simp only [bcs, List.length_map] at h9
      show slots + (bty a).length ≤ R.slots
      omega
  | newarray ty =>
    obtain ⟨n, r, rfl, h0, h1, h2, rfl⟩ := bnwa_inv h
    refine bs_nwa C0 hb hw hz hl h0 h1 h2 ok2.1 ok2.2 ?_ ?_ ok1 k
    · simp only [List.length_append, List.length_cons, List.length_nil] at hcs; omega
    · rw [bsz_push] at hsl
      split at hsl <;> simp only [bcs, List.length_replicate] at hsl <;> omega
  | anewarray ix =>
    obtain ⟨n, r, rfl, h0, h1, h2, rfl⟩ := bnwq_inv h
    refine bs_nwq C0 hb hw hz hl h0 h1 h2 ok2 ?_ ?_ ok1 k
    · simp only [List.length_append, List.length_cons, List.length_nil] at hcs; omega
    · rw [bsz_push] at hsl; simp only [bcs, List.length_replicate] at hsl; omega
  | invokespecial ix =>
    obtain ⟨x, r, rfl, h1, h2, rfl⟩ := bobj_inv h
    exact bs_obj C0 hw hz hl (ok2 h1) (by omega) (by omega) ok1 k
  | lookupswitch d ps =>
    obtain ⟨x, r, rfl, h1, rfl⟩ := blsw_inv h
    exact lv_lookup hx hcb ok1.1 ok1.2 rfl (by show _ = ((Int.toNat _ : Nat) : Int); omega) (bp hw hz hl k)
  | tableswitch d lo hi offs =>
    obtain ⟨x, r, off, rfl, h1, h2, rfl⟩ := btsw_inv h
    rcases h2 with ⟨h2, rfl⟩ | ⟨h2, h3⟩
    · exact lv_tableOut hx hcb ok1 h2 (by show _ = ((Int.toNat _ : Nat) : Int); omega) (bp hw hz hl k)
    · exact lv_tableIn hx hcb ok1 (fun q => h2 (Or.inl q)) (fun q => h2 (Or.inr q)) h3 (by show _ = ((Int.toNat _ : Nat) : Int); omega) (bp hw hz hl k)
  | _ => cases h
end BSTEPS
end
section
/-! What a step leaves of the world's size. -/
section BMONO
variable {pc nL : Nat} {E : Nat → bC} {lv : List (Nat × bV)} {st : List bV} {w : bW}
def bmo (w w2 : bW) : Prop := w2.2 = w.2 ∧ w.1.length ≤ w2.1.length ∧ bsz w.1 ≤ bsz w2.1
theorem bmo_r (w : bW) : bmo w w := ⟨rfl, Nat.le_refl _, Nat.le_refl _⟩
theorem bmo_set {w : bW} {r : Nat} {c c0 : bC} (h : w.1[r]? = some c0) (hc : bcs c = bcs c0) : bmo w (w.1.set r c, w.2) := ⟨rfl, by simp, by rw [bsz_set h hc]; exact Nat.le_refl _⟩
theorem bmo_push {w : bW} {c : bC} : bmo w (w.1 ++ [c], w.2) := ⟨rfl, by simp, by rw [bsz_push]; exact Nat.le_add_right _ _⟩
theorem bstep_mo {o : bO} {q : bF} (h : bstep E nL o pc lv st w = some q) : bmo w q.2.2.2 := by
  obtain ⟨ins, ln, a, b, v⟩ := o
  cases ins with
  | iconst n =>
    cases h
    exact bmo_r w
  | bipush n =>
    cases h
    exact bmo_r w
  | sipush n =>
    cases h
    exact bmo_r w
  | ldc ix =>
    cases h
    exact bmo_r w
  | ldc2_w ix =>
    cases h
    exact bmo_r w
  | lconst n =>
    cases h
    exact bmo_r w
  | iload_n i =>
    obtain ⟨x, hk, rfl⟩ := bldl0_inv h
    exact bmo_r w
  | iload i =>
    obtain ⟨x, hk, rfl⟩ := bldl0_inv h
    exact bmo_r w
  | lload_n i =>
    obtain ⟨x, hk, rfl⟩ := bldl1_inv h
    exact bmo_r w
  | lload i =>
    obtain ⟨x, hk, rfl⟩ := bldl1_inv h
    exact bmo_r w
  | aload_n i =>
    rcases bldl2_inv h with ⟨x, hk, rfl⟩ | ⟨x, hk, rfl⟩
    · exact bmo_r w
    · exact bmo_r w
  | aload i =>
    rcases bldl2_inv h with ⟨x, hk, rfl⟩ | ⟨x, hk, rfl⟩
    · exact bmo_r w
    · exact bmo_r w
  | istore_n i =>
    obtain ⟨x, r, rfl, hi, rfl⟩ := bstl0_inv h
    exact bmo_r w
  | istore i =>
    obtain ⟨x, r, rfl, hi, rfl⟩ := bstl0_inv h
    exact bmo_r w
  | lstore_n i =>
    obtain ⟨x, r, rfl, hi, rfl⟩ := bstl1_inv h
    exact bmo_r w
  | lstore i =>
    obtain ⟨x, r, rfl, hi, rfl⟩ := bstl1_inv h
    exact bmo_r w
  | astore_n i =>
    obtain ⟨x, r, rfl, hi, rfl⟩ := bstl2_inv h
    exact bmo_r w
  | astore i =>
    obtain ⟨x, r, rfl, hi, rfl⟩ := bstl2_inv h
    exact bmo_r w
  | iinc i n =>
    obtain ⟨x, hk, hi, rfl⟩ := binc_inv h
    exact bmo_r w
  | iadd =>
    have h : bi2 pc lv st w (fun x y => some (x + y)) = some q := h
    obtain ⟨x, y, v, r, rfl, hf, rfl⟩ := bi2_inv h
    exact bmo_r w
  | isub =>
    have h : bi2 pc lv st w (fun x y => some (x - y)) = some q := h
    obtain ⟨x, y, v, r, rfl, hf, rfl⟩ := bi2_inv h
    exact bmo_r w
  | imul =>
    have h : bi2 pc lv st w (fun x y => some (x * y)) = some q := h
    obtain ⟨x, y, v, r, rfl, hf, rfl⟩ := bi2_inv h
    exact bmo_r w
  | iand =>
    have h : bi2 pc lv st w (fun x y => some (x &&& y)) = some q := h
    obtain ⟨x, y, v, r, rfl, hf, rfl⟩ := bi2_inv h
    exact bmo_r w
  | ior =>
    have h : bi2 pc lv st w (fun x y => some (x ||| y)) = some q := h
    obtain ⟨x, y, v, r, rfl, hf, rfl⟩ := bi2_inv h
    exact bmo_r w
  | idiv =>
    have h : bi2 pc lv st w (fun x y => if y = 0 then none else some (x / y)) = some q := h
    obtain ⟨x, y, v, r, rfl, hf, rfl⟩ := bi2_inv h
    exact bmo_r w
  | irem =>
    have h : bi2 pc lv st w (fun x y => if y = 0 then none else some (x - x / y * y)) = some q := h
    obtain ⟨x, y, v, r, rfl, hf, rfl⟩ := bi2_inv h
    exact bmo_r w
  | ineg =>
    have h : bi1 pc lv st w (fun x => .inl (-x)) = some q := h
    obtain ⟨x, r, rfl, rfl⟩ := bi1_inv h
    exact bmo_r w
  | ladd =>
    have h : bl2 pc lv st w (fun x y => some (.inr (.inl (x + y)))) = some q := h
    obtain ⟨x, y, v, r, rfl, hf, rfl⟩ := bl2_inv h
    exact bmo_r w
  | lsub =>
    have h : bl2 pc lv st w (fun x y => some (.inr (.inl (x - y)))) = some q := h
    obtain ⟨x, y, v, r, rfl, hf, rfl⟩ := bl2_inv h
    exact bmo_r w
  | lmul =>
    have h : bl2 pc lv st w (fun x y => some (.inr (.inl (x * y)))) = some q := h
    obtain ⟨x, y, v, r, rfl, hf, rfl⟩ := bl2_inv h
    exact bmo_r w
  | land =>
    have h : bl2 pc lv st w (fun x y => some (.inr (.inl (x &&& y)))) = some q := h
    obtain ⟨x, y, v, r, rfl, hf, rfl⟩ := bl2_inv h
    exact bmo_r w
  | lor =>
    have h : bl2 pc lv st w (fun x y => some (.inr (.inl (x ||| y)))) = some q := h
    obtain ⟨x, y, v, r, rfl, hf, rfl⟩ := bl2_inv h
    exact bmo_r w
  | lxor =>
    have h : bl2 pc lv st w (fun x y => some (.inr (.inl (x ^^^ y)))) = some q := h
    obtain ⟨x, y, v, r, rfl, hf, rfl⟩ := bl2_inv h
    exact bmo_r w
  | ldiv =>
    have h : bl2 pc lv st w (fun x y => if y = 0 then none else some (.inr (.inl (x / y)))) = some q := h
    obtain ⟨x, y, v, r, rfl, hf, rfl⟩ := bl2_inv h
    exact bmo_r w
  | lrem =>
    have h : bl2 pc lv st w (fun x y => if y = 0 then none else some (.inr (.inl (x - x / y * y)))) = some q := h
    obtain ⟨x, y, v, r, rfl, hf, rfl⟩ := bl2_inv h
    exact bmo_r w
  | lcmp =>
    have h : bl2 pc lv st w (fun x y => some (.inl (lg_cmp x y))) = some q := h
    obtain ⟨x, y, v, r, rfl, hf, rfl⟩ := bl2_inv h
    exact bmo_r w
  | lneg =>
    have h : bl1 pc lv st w (fun x => .inr (.inl (-x))) = some q := h
    obtain ⟨x, r, rfl, rfl⟩ := bl1_inv h
    exact bmo_r w
  | l2i =>
    have h : bl1 pc lv st w (fun x => .inl x.toInt32) = some q := h
    obtain ⟨x, r, rfl, rfl⟩ := bl1_inv h
    exact bmo_r w
  | i2l =>
    have h : bi1 pc lv st w (fun x => .inr (.inl x.toInt64)) = some q := h
    obtain ⟨x, r, rfl, rfl⟩ := bi1_inv h
    exact bmo_r w
  | i2c =>
    have h : bi1 pc lv st w (fun x => .inl (x.toUInt32 % 65536).toInt32) = some q := h
    obtain ⟨x, r, rfl, rfl⟩ := bi1_inv h
    exact bmo_r w
  | lshl =>
    have h : bls pc lv st w (fun x y => x <<< (y.toInt64 &&& 63)) = some q := h
    obtain ⟨x, y, r, rfl, rfl⟩ := bls_inv h
    exact bmo_r w
  | lshr =>
    have h : bls pc lv st w (fun x y => x >>> (y.toInt64 &&& 63)) = some q := h
    obtain ⟨x, y, r, rfl, rfl⟩ := bls_inv h
    exact bmo_r w
  | goto off =>
    cases h
    exact bmo_r w
  | ifCond cd off =>
    obtain ⟨x, r, rfl, rfl⟩ := bjf_inv h
    exact bmo_r w
  | if_icmp cd off =>
    obtain ⟨x, y, r, rfl, rfl⟩ := bjc_inv h
    exact bmo_r w
  | iaload =>
    obtain ⟨i, a, v, r, -, -, rfl⟩ := bld_inv h
    exact bmo_r w
  | caload =>
    obtain ⟨i, a, v, r, -, -, rfl⟩ := bld_inv h
    exact bmo_r w
  | baload =>
    obtain ⟨i, a, v, r, -, -, rfl⟩ := bld_inv h
    exact bmo_r w
  | laload =>
    obtain ⟨i, a, v, r, -, -, rfl⟩ := bld_inv h
    exact bmo_r w
  | aaload =>
    obtain ⟨i, a, v, r, -, -, rfl⟩ := bld_inv h
    exact bmo_r w
  | iastore =>
    obtain ⟨x, i, r, rest, xs, rfl, h1, h2, rfl⟩ := bast_inv h
    exact bmo_set h1 (by simp [bcs])
  | castore =>
    obtain ⟨x, i, r, rest, xs, rfl, h1, h2, rfl⟩ := bast_inv h
    exact bmo_set h1 (by simp [bcs])
  | bastore =>
    obtain ⟨x, i, r, rest, xs, rfl, h1, h2, rfl⟩ := bast_inv h
    exact bmo_set h1 (by simp [bcs])
  | lastore =>
    obtain ⟨x, i, r, rest, xs, rfl, h1, h2, rfl⟩ := blast_inv h
    exact bmo_set h1 (by simp [bcs])
  | aastore =>
    obtain ⟨v, i, r, rest, t, ci, xs, fs, rfl, h1, h2, h3, h4, h5, rfl⟩ := baast_inv h
    exact bmo_set h1 (by simp [bcs])
  | dup =>
    obtain ⟨v, r, rfl, h1, rfl⟩ := bdup_inv h
    exact bmo_r w
  | pop =>
    obtain ⟨v, r, rfl, h1, rfl⟩ := bpop_inv h
    exact bmo_r w
  | dup2 =>
    rcases bdup2_inv h with ⟨v, r, rfl, h1, rfl⟩ | ⟨v, u, r, rfl, h1, h2, rfl⟩
    · exact bmo_r w
    · exact bmo_r w
  | pop2 =>
    obtain ⟨v, r, rfl, h1, rfl⟩ := bpop2_inv h
    exact bmo_r w
  | getfield ix =>
    obtain ⟨r, rest, fs, v, rfl, h1, h2, rfl⟩ := bgf_inv h
    exact bmo_r w
  | putfield ix =>
    obtain ⟨r, v, rest, fs, rfl, h1, h2, h3, rfl⟩ := bpf_inv h
    exact bmo_set h1 (by simp [bcs])
  | arraylength =>
    obtain ⟨a, r, c1, n, rfl, h1, h2, rfl⟩ := balen_inv h
    exact bmo_r w
  | getstatic ix =>
    cases h
    exact bmo_r w
  | new ix =>
    obtain ⟨h0, h1, rfl⟩ := bnew_inv h
    exact bmo_push
  | newarray ty =>
    obtain ⟨n, r, rfl, h0, h1, h2, rfl⟩ := bnwa_inv h
    exact bmo_push
  | anewarray ix =>
    obtain ⟨n, r, rfl, h0, h1, h2, rfl⟩ := bnwq_inv h
    exact bmo_push
  | invokespecial ix =>
    obtain ⟨x, r, rfl, h1, h2, rfl⟩ := bobj_inv h
    exact bmo_r w
  | lookupswitch d ps =>
    obtain ⟨x, r, rfl, h1, rfl⟩ := blsw_inv h
    exact bmo_r w
  | tableswitch d lo hi offs =>
    obtain ⟨x, r, off, rfl, h1, h2, rfl⟩ := btsw_inv h
    exact bmo_r w
  | _ => cases h
end BMONO
end
section
/-! WHAT IS READ, THE MACHINE DOES: whole methods. -/
def bHead (M : bM) : Jvm.Cond := match M.2.2.2.2 with
  | [] => .code M.1 M.2.1 M.2.2.1 M.2.2.2.1
  | q :: t => .codeWith M.1 M.2.1 M.2.2.1 M.2.2.2.1 ((q :: t).map (fun x => x.1))
def bOkC (P : bP) (own : String) (o : bO) : Prop := match o.1 with
  | .invokevirtual ix => (P.2.1 o.2.2.1).1.cls ≠ "java/lang/invoke/MethodHandle" ∧ (P.2.1 o.2.2.1).1.cls ≠ "java/lang/invoke/VarHandle" ∧ (parseMethodDescriptor (P.2.1 o.2.2.1).1.desc).map (fun d => d.parameters.length) = some o.2.2.2.1 ∧ (∃ (T : u_T) (N : Nat), vwCl[o.2.2.2.2.toNat]? = some ((P.2.1 o.2.2.1).1.cls, T, N)) ∧
    Jvm.Cond.methodLink own ix (P.2.1 o.2.2.1).1 ∈ bw_G ∧ Jvm.Cond.instanceMethod (P.2.1 o.2.2.1).1 ∈ bw_G ∧ Jvm.Cond.selects (P.2.1 o.2.2.1).1.cls (P.2.1 o.2.2.1).1 (P.2.1 o.2.2.1).1 ∈ bw_G ∧ Jvm.Cond.initialized (P.2.1 o.2.2.1).1.cls ∈ bw_G ∧ (P.2.1 o.2.2.1).2.2.2.2 = [] ∧ bHead (P.2.1 o.2.2.1) ∈ bw_G
  | .invokestatic ix => (P.2.1 o.2.2.1).1.cls ≠ "java/lang/invoke/MethodHandle" ∧ (P.2.1 o.2.2.1).1.cls ≠ "java/lang/invoke/VarHandle" ∧ (parseMethodDescriptor (P.2.1 o.2.2.1).1.desc).map (fun d => d.parameters.length) = some o.2.2.2.1 ∧
    ((Jvm.Cond.methodLink own ix (P.2.1 o.2.2.1).1 ∈ bw_G ∧ o.2.2.2.2 = 0) ∨ ((∃ host : String, (own, ix, (P.2.1 o.2.2.1).1, host) ∈ bwM) ∧ o.2.2.2.2 ≠ 0 ∧ (P.2.1 o.2.2.1).2.2.2.2 = [])) ∧ Jvm.Cond.static (P.2.1 o.2.2.1).1 ∈ bw_G ∧ Jvm.Cond.initialized (P.2.1 o.2.2.1).1.cls ∈ bw_G ∧ bHead (P.2.1 o.2.2.1) ∈ bw_G
  | .invokespecial ix => o.2.2.2.2 = 0 → (P.2.1 o.2.2.1).1.name = "<init>" ∧ (P.2.1 o.2.2.1).2.2.2.1 = none ∧ (P.2.1 o.2.2.1).1.cls ≠ "java/lang/invoke/MethodHandle" ∧ (P.2.1 o.2.2.1).1.cls ≠ "java/lang/invoke/VarHandle" ∧ (parseMethodDescriptor (P.2.1 o.2.2.1).1.desc).map (fun d => d.parameters.length) = some o.2.2.2.1 ∧
    Jvm.Cond.methodLink own ix (P.2.1 o.2.2.1).1 ∈ bw_G ∧ Jvm.Cond.instanceMethod (P.2.1 o.2.2.1).1 ∈ bw_G ∧ Jvm.Cond.initialized (P.2.1 o.2.2.1).1.cls ∈ bw_G ∧ (P.2.1 o.2.2.1).2.2.2.2 = [] ∧ bHead (P.2.1 o.2.2.1) ∈ bw_G
  | _ => True
def bOkT (K : KE) (P : bP) (own : String) (cc : ByteArray) (pc : Nat) (o : bO) : Prop := match o.1 with
  | .new ik => o.2.2.2.2 = 1 → ∃ (is ic : Nat) (text : String), Bundle.fit (P.2.2.2.2 o.2.2.1).1 = true ∧ (∀ n ∈ (P.2.2.2.2 o.2.2.1).2, Bundle.fit n = true) ∧ (P.2.2.2.2 o.2.2.1).2.length ≤ 8 ∧ (own, is, text) ∈ K.str ∧
    (∀ w ∈ Jvm.Cond.classLink own ik (P.2.2.2.2 o.2.2.1).1 :: Jvm.Cond.initialized (P.2.2.2.2 o.2.2.1).1 :: vx_atS own ic (P.2.2.2.2 o.2.2.1).1 (P.2.2.2.2 o.2.2.1).2, w ∈ bw_G ∨ ∃ x ∈ bwD, w = .declares x) ∧
    decode cc (pc + 3) = .ok (.dup, 1) ∧ ((decode cc (pc + 4) = .ok (.ldc is, 2) ∧ decode cc (pc + 6) = .ok (.invokespecial ic, 3) ∧ decode cc (pc + 9) = .ok (.athrow, 1)) ∨ (decode cc (pc + 4) = .ok (.ldc_w is, 3) ∧ decode cc (pc + 7) = .ok (.invokespecial ic, 3) ∧ decode cc (pc + 10) = .ok (.athrow, 1)))
  | _ => True
/-- all that is owed of the code that is read -/
def bAll (K : KE) (P : bP) : Prop := bClsOk ∧ bEok K P.2.2.1 ∧
  (∀ (mi pc : Nat) (o : bO), P.1 mi pc = some o → bOkD (P.2.1 mi).2.1 pc o ∧ bOkX (P.2.1 mi).1.cls (P.2.1 mi).1.name pc o ∧ bOkC P (P.2.1 mi).1.cls o ∧ bOkT K P (P.2.1 mi).1.cls (P.2.1 mi).2.1 pc o ∧ (P.2.1 mi).2.2.1 ≤ 80 ∧ plainName (P.2.1 mi).1.cls = true) ∧
  (∀ (mi : Nat) (q : (Nat × Nat × Nat × Nat) × String), q ∈ (P.2.1 mi).2.2.2.2 → q.1.2.2.2 ≠ 0 ∧ Jvm.Cond.classLink (P.2.1 mi).1.cls q.1.2.2.2 q.2 ∈ bw_G) ∧
  (∀ x n : String, P.2.2.2.1 x n = some true → Jvm.Cond.castable x n ∈ bw_G) ∧ (∀ x n : String, P.2.2.2.1 x n = some false → (x, n) ∈ K.nc)
def bTop (K : KE) (w : bW) (t : State) : Prop := bw K.D K.B w.1.length (bct K w.1) t.heap ∧ (w.2 = 0 → t.heap.size = K.B + w.1.length)
def bQc (K : KE) (r : bR) (w : bW) : Array Value → State → Outcome → State → Prop := fun _ st oc t => (∃ v : Option bV, r = .inl v ∧ oc = .returned (v.map (bvv K))) ∧ bTop K w t ∧ va_F (bA K.B) st t
def bXC (K : KE) (r : bR) (w : bW) : String → State → State → Prop := fun x st t => r = .inr x ∧ bTop K w t ∧ va_F (bA K.B) st t
/-- what is read from here on, the machine does -/
def bSnd (l : Launch) (K : KE) (P : bP) : bEx := fun d mi pc lv st w r w2 =>
  w.1.length ≤ w2.1.length ∧ w.2 ≤ w2.2 ∧ bsz w.1 ≤ bsz w2.1 ∧ (∃ o, P.1 mi pc = some o) ∧
  ∀ (p : Program) (e : Env) (R : Room) (s : State) (m : MethodId) (args : Array Value) (below : List Frame) (meth : Method) (c : Code) (H : Heap) (locs : List Loc) (cells slots : Nat) (ls : Array Slot) (w0 : bW) (mc ms : Nat),
    CallFix p m c (P.2.1 mi).2.1 (P.2.1 mi).2.2.1 s args bw_G (P.2.1 mi).1.cls → bK K s → bS K.D K.B w.1.length (bct K w.1) s H locs → (w.2 = 0 → H.size = K.B + w.1.length) →
    meth.sig.returnType = (P.2.1 mi).2.2.2.1 → meth.name = (P.2.1 mi).1.name → meth.locks = false → c.exceptionTable.toList = tableOf ((P.2.1 mi).2.2.2.2.map (fun x => x.1)) →
    d + 16 ≤ R.frames → 400 + 100 * d ≤ R.locals → mc ≤ R.cells → ms ≤ R.slots →
    cells + w0.1.length + w0.2 = w.1.length + w.2 → slots + bsz w0.1 + 6 * w0.2 = bsz w.1 + 6 * w.2 →
    mc + w0.1.length + w0.2 = w2.1.length + w2.2 → ms + bsz w0.1 + 6 * w0.2 = bsz w2.1 + 6 * w2.2 →
    lv_has ls (P.2.1 mi).2.2.1 (bvl K lv) →
    W p l e R s m args below meth c H locs cells slots (vx_MQ below (bQc K r w2) (bXC K r w2) args s mc ms (bA K.B)) (F0 m pc ls (st.map (bvv K)))
section BSOUND
variable {l : Launch} {K : KE} {P : bP}
theorem bsnd_step (A : bAll K P) (d mi pc : Nat) (lv : List (Nat × bV)) (st : List bV) (w : bW) (o : bO) (q : bF) (r : bR) (w2 : bW) (ho : P.1 mi pc = some o) (hs : bstep P.2.2.1 (P.2.1 mi).2.2.1 o pc lv st w = some q) (ih : bSnd l K P d mi q.1 q.2.1 q.2.2.1 q.2.2.2 r w2) : bSnd l K P d mi pc lv st w r w2 := by
  obtain ⟨i1, i2, i3, i4, ih⟩ := ih
  obtain ⟨m1, m2, m3⟩ := bstep_mo hs
  obtain ⟨a1, a2, a3, a4, a5, a6⟩ := A
  obtain ⟨b1, b2, b3, b4, b5, b6⟩ := a3 mi pc o ho
  refine ⟨Nat.le_trans m2 i1, by omega, Nat.le_trans m3 i3, ⟨o, ho⟩, ?_⟩
  intro p e R s m args below meth c H locs cells slots ls w0 mc ms C0 hb hw hz hret hnm hlk htab hRf hRl hRc hRs hc hsl hmc hms hl
  refine bstep_snd a1 a2 C0 hb hw hz hl (by omega) (by omega) hnm b1 b2 hs (by omega) (by omega) ?_
  intro H1 locs1 ls1 cells1 slots1 hw1 hz1 hl1 hc1 hs1
  exact ih p e R s m args below meth c H1 locs1 cells1 slots1 ls1 w0 mc ms C0 hb hw1 hz1 hret hnm hlk htab hRf hRl hRc hRs (by omega) (by omega) hmc hms hl1
theorem bret_inv {o : bO} {ret : Option FieldType} {st : List bV} {v : Option bV} (h : bret o ret st = some v) : (∃ (t : FieldType) (x : Int32), o.1 = .ireturn ∧ ret = some t ∧ st = [.inl x] ∧ bokf t (.inl x) = true ∧ v = some (.inl x)) ∨ (∃ x : Int64, o.1 = .lreturn ∧ ret = some .long ∧ st = [.inr (.inl x)] ∧ v = some (.inr (.inl x))) ∨ (∃ (t : FieldType) (x : Nat ⊕ Option Nat), o.1 = .areturn ∧ ret = some t ∧ ((∃ n, t = .object n) ∨ ∃ u, t = .array u) ∧ st = [.inr (.inr x)] ∧ v = some (.inr (.inr x))) ∨ (o.1 = .return_ ∧ ret = none ∧ st = [] ∧ v = none) := by
  unfold bret at h
  split at h
  · split at h
    · rename_i h2
      exact Or.inl ⟨_, _, by assumption, rfl, rfl, h2, (Option.some.inj h).symm⟩
    · cases h
  · exact Or.inr (Or.inl ⟨_, by assumption, rfl, rfl, (Option.some.inj h).symm⟩)
  · exact Or.inr (Or.inr (Or.inl ⟨_, _, by assumption, rfl, Or.inl ⟨_, rfl⟩, rfl, (Option.some.inj h).symm⟩))
  · exact Or.inr (Or.inr (Or.inl ⟨_, _, by assumption, rfl, Or.inr ⟨_, rfl⟩, rfl, (Option.some.inj h).symm⟩))
  · exact Or.inr (Or.inr (Or.inr ⟨by assumption, rfl, rfl, (Option.some.inj h).symm⟩))
  · cases h
theorem bsnd_ret (A : bAll K P) (d mi pc : Nat) (lv : List (Nat × bV)) (st : List bV) (w : bW) (o : bO) (v : Option bV) (ho : P.1 mi pc = some o) (hs : bret o (P.2.1 mi).2.2.2.1 st = some v) : bSnd l K P d mi pc lv st w (.inl v) w := by
  obtain ⟨a1, a2, a3, a4, a5, a6⟩ := A
  obtain ⟨b1, b2, b3, b4, b5, b6⟩ := a3 mi pc o ho
  refine ⟨Nat.le_refl _, Nat.le_refl _, Nat.le_refl _, ⟨o, ho⟩, ?_⟩
  intro p e R s m args below meth c H locs cells slots ls w0 mc ms C0 hb hw hz hret hnm hlk htab hRf hRl hRc hRs hc hsl hmc hms hl
  have e1 : mc = cells := by omega
  have e2 : ms = slots := by omega
  subst e1
  subst e2
  have fin : ∀ t : State, t.heap = H → bTop K w t ∧ va_F (bA K.B) s t := fun t ht => ⟨⟨by rw [ht]; exact hw.1, fun h => by rw [ht]; exact hz h⟩, hw.2.F ht⟩
  obtain ⟨ins, ln, a, b, vv⟩ := o
  rcases bret_inv hs with ⟨t, x, h1, h2, rfl, h3, rfl⟩ | ⟨x, h1, h2, rfl, rfl⟩ | ⟨t, x, h1, h2, h3, rfl, rfl⟩ | ⟨h1, h2, rfl, rfl⟩
  · have h1 : ins = .ireturn := h1
    subst h1
    exact vx_ret (W.zret (v := x) C0.1 C0.2.1 (hret.trans h2) (bokf_v (K := K) h3).1 (fun t ht hW => ⟨⟨_, rfl, rfl⟩, fin t ht⟩) hw.2.2.2 b1)
  · have h1 : ins = .lreturn := h1
    subst h1
    exact vx_ret (W.lret (v := x) C0.1 C0.2.1 (hret.trans h2) (fun t ht hW => ⟨⟨_, rfl, rfl⟩, fin t ht⟩) hw.2.2.2 b1)
  · have h1 : ins = .areturn := h1
    subst h1
    exact vx_ret (W.aret (v := bvv K (.inr (.inr x))) C0.1 C0.2.1 (hret.trans h2) h3 (by rcases x with k | _ | j <;> first | exact Or.inl rfl | exact Or.inr ⟨_, rfl⟩) (fun t ht hW => ⟨⟨_, rfl, rfl⟩, fin t ht⟩) hw.2.2.2 b1)
  · have h1 : ins = .return_ := h1
    subst h1
    exact vx_ret (W.vret C0.1 C0.2.1 (hret.trans h2) (fun t ht hW => ⟨⟨_, rfl, rfl⟩, fin t ht⟩) hw.2.2.2 b1)
theorem bsnd_thr (hst : l.stackTraces = false) (A : bAll K P) (d mi pc : Nat) (lv : List (Nat × bV)) (w : bW) (o : bO) (ix : Nat) (ho : P.1 mi pc = some o) (h1 : o.1 = .new ix) (h2 : o.2.2.2.2 = 1) (h3 : (P.2.1 mi).2.2.2.2 = []) : bSnd l K P d mi pc lv [] w (.inr (P.2.2.2.2 o.2.2.1).1) (w.1, w.2 + 1) := by
  obtain ⟨a1, a2, a3, a4, a5, a6⟩ := A
  obtain ⟨b1, b2, b3, b4, b5, b6⟩ := a3 mi pc o ho
  refine ⟨Nat.le_refl _, Nat.le_succ _, Nat.le_refl _, ⟨o, ho⟩, ?_⟩
  intro p e R s m args below meth c H locs cells slots ls w0 mc ms C0 hb hw hz hret hnm hlk htab hRf hRl hRc hRs hc hsl hmc hms hl
  obtain ⟨ins, ln, a, b, vv⟩ := o
  have h1 : ins = .new ix := h1
  subst h1
  have hd : decode (P.2.1 mi).2.1 pc = .ok (.new ix, 3) := b1
  obtain ⟨is, ic, text, c1, c2, c3, c4, c5, c6, c7⟩ := b4 h2
  have c3 : (P.2.2.2.2 a).2.length ≤ 8 := c3
  obtain ⟨sa, hsa⟩ := hb.2.2.2.2.1 _ c4
  have hout : ∀ x ∈ c.exceptionTable.toList, ∀ z : Nat, covers x z = false := by
    intro x hx z
    rw [htab, h3] at hx
    cases hx
  have hgood : ∀ w' ∈ Jvm.Cond.classLink (P.2.1 mi).1.cls ix (P.2.2.2.2 a).1 :: Jvm.Cond.initialized (P.2.2.2.2 a).1 :: vx_atS (P.2.1 mi).1.cls ic (P.2.2.2.2 a).1 (P.2.2.2.2 a).2, vx_ot w' = true := fun w' hw' => by
    rcases c5 w' hw' with h9 | ⟨x, -, rfl⟩
    · unfold vx_ot
      rw [bw_Gok _ h9]
      exact Bool.or_true _
    · rfl
  have c5 : ∀ w' ∈ Jvm.Cond.classLink (P.2.1 mi).1.cls ix (P.2.2.2.2 a).1 :: Jvm.Cond.initialized (P.2.2.2.2 a).1 :: vx_atS (P.2.1 mi).1.cls ic (P.2.2.2.2 a).1 (P.2.2.2.2 a).2, w'.before args s = true := fun w' hw' => by
    rcases c5 w' hw' with h9 | ⟨x, hx, rfl⟩
    · exact C0.2.2.2.2 _ h9
    · exact (hb.2.2.2.2.2.2.2.2.2.1 x hx).use rfl
  have hfin : ∀ t : State, s.vm.Alike t.vm → H.size ≤ t.heap.size → (∀ q : Nat, q < H.size → t.heap[q]? = H[q]?) → bXC K (.inr (P.2.2.2.2 a).1) (w.1, w.2 + 1) (P.2.2.2.2 a).1 s t := fun t _ f1 f2 =>
    ⟨rfl, ⟨hw.1.kept f1 f2, fun h => absurd h (Nat.succ_ne_zero _)⟩, ⟨Nat.le_trans hw.2.1 f1, fun q g1 g2 => (f2 q (Nat.lt_of_lt_of_le g1 hw.2.1)).trans (hw.2.2.1 q g1 g2)⟩⟩
  simp only [] at hmc hms
  rcases c7 with ⟨c7, c8, c9⟩ | ⟨c7, c8, c9⟩
  · exact vx_throwS C0.1 C0.2.1 hst C0.2.2.2.1 c1 c2 (c5 _ List.mem_cons_self) (c5 _ (List.mem_cons_of_mem _ List.mem_cons_self)) hsa (fun w' hw' => c5 _ (List.mem_cons_of_mem _ (List.mem_cons_of_mem _ hw'))) hgood hb.2.2.1 hb.2.2.2.1 hw.2 (by rw [C0.2.2.1]; exact hl.1) hd c6 c7 c8 c9 (fun x hx => hout x hx _) (by omega) (by simp only [List.map_nil, List.sum_nil]; omega) (by omega) (by omega) hlk hfin hw.2.2.2 (by omega) (by omega)
  · exact vx_throwSW C0.1 C0.2.1 hst C0.2.2.2.1 c1 c2 (c5 _ List.mem_cons_self) (c5 _ (List.mem_cons_of_mem _ List.mem_cons_self)) hsa (fun w' hw' => c5 _ (List.mem_cons_of_mem _ (List.mem_cons_of_mem _ hw'))) hgood hb.2.2.1 hb.2.2.2.1 hw.2 (by rw [C0.2.2.1]; exact hl.1) hd c6 c7 c8 c9 (fun x hx => hout x hx _) (by omega) (by simp only [List.map_nil, List.sum_nil]; omega) (by omega) (by omega) hlk hfin hw.2.2.2 (by omega) (by omega)
end BSOUND
end
section
/-! WHAT IS READ, THE MACHINE DOES: calls. -/
section BCALLS
variable {l : Launch} {K : KE} {P : bP}
theorem bgood {w : Jvm.Cond} (h : w ∈ bw_G) : w ∈ bw_G ∧ ((w.onTables && w.keeps) = true ∨ ∃ ty, w = .arrayClass ty) := ⟨h, good_of_word (bw_Gok w h)⟩
theorem b_sl (as : List bV) : (lg_sl (as.map (bvv K))).length = (as.map bvc).sum := by
  induction as with
  | nil => rfl
  | cons v t ih =>
    simp only [lg_sl, List.map_cons, List.flatMap_cons, List.length_append, List.sum_cons, bvc_v] at ih ⊢
    rw [ih]
    rcases v with x | x | k | _ | j <;> simp [bvc]
theorem b_args (as : List bV) : ∀ i : Nat, lv_args i (as.map (bvv K)) = bvl K (blva i as) := by
  induction as with
  | nil => intro i; rfl
  | cons v t ih =>
    intro i
    simp only [List.map_cons, lv_args, blva, bvl, bvc_v]
    have h : (if bvc v = 2 then i + 2 else i + 1) = i + bvc v := by
      rcases v with x | x | k | _ | j <;> rfl
    rw [h, ih]
theorem bHead_nil {M : bM} (h : M.2.2.2.2 = []) : bHead M = .code M.1 M.2.1 M.2.2.1 M.2.2.2.1 := by
  unfold bHead; rw [h]
theorem bHead_cons {M : bM} (h : M.2.2.2.2 ≠ []) : bHead M = .codeWith M.1 M.2.1 M.2.2.1 M.2.2.2.1 (M.2.2.2.2.map (fun x => x.1)) := by
  unfold bHead
  split
  · rename_i h1; exact absurd h1 h
  · rename_i q t h1; rw [h1]
theorem bmet (A : bAll K P) {d mj : Nat} {as : List bV} {w w2 : bW} {r : bR} (h : bSnd l K P d mj 0 (blva 0 as) [] w r w2) (hlen : (as.map bvc).sum ≤ (P.2.1 mj).2.2.1) {mc ms : Nat} (hmc : mc + w.1.length + w.2 = w2.1.length + w2.2) (hms : ms + bsz w.1 + 6 * w.2 = bsz w2.1 + 6 * w2.2) :
    vx_Met l (P.2.1 mj).1 (bHead (P.2.1 mj) :: bw_G) ({ frames := d + 16, cells := mc, slots := ms, locals := 400 + 100 * d }) (bPc K w.1.length (bct K w.1) (decide (w.2 = 0)) (as.map (bvv K))) (bQc K r w2) (bXC K r w2) mc ms (bA K.B) := by
  obtain ⟨-, -, -, ⟨o, ho⟩, h⟩ := h
  obtain ⟨a1, a2, a3, a4, a5, a6⟩ := A
  obtain ⟨b1, b2, b3, b4, b5, b6⟩ := a3 mj 0 o ho
  have go : ∀ (p : Program) (e : Env) (s : State) (m : MethodId) (args : Array Value) (below : List Frame) (meth : Method) (c : Code) (s₁ : State), BodyLoose p l (P.2.1 mj).1 (headSpec (bHead (P.2.1 mj) :: bw_G) { frames := d + 16, cells := mc, slots := ms, locals := 400 + 100 * d }) (P.2.1 mj).2.1 (P.2.1 mj).2.2.1 (P.2.1 mj).2.2.2.1 e s m args below meth c s₁ → c.maxLocals = (P.2.1 mj).2.2.1 → c.exceptionTable.toList = tableOf ((P.2.1 mj).2.2.2.2.map (fun x => x.1)) → bPc K w.1.length (bct K w.1) (decide (w.2 = 0)) (as.map (bvv K)) args s →
      W p l e (headSpec (bHead (P.2.1 mj) :: bw_G) { frames := d + 16, cells := mc, slots := ms, locals := 400 + 100 * d }).room s m args below meth c s.heap [] 0 0 (vx_MQ below (bQc K r w2) (bXC K r w2) args s mc ms (bA K.B)) (entryFrame m args (P.2.1 mj).2.2.1) := by
    intro p e s m args below meth c s₁ B hml htab hv
    obtain ⟨rfl, hbw, hK, hsz⟩ := hv
    have hl := lv_entry (as.map (bvv K)) (n := (P.2.1 mj).2.2.1) (by rw [b_sl]; exact hlen)
    rw [lg_entry_eq]
    rw [b_args] at hl
    exact h p e _ s m _ below meth c s.heap [] 0 0 _ w mc ms ⟨B.exec, B.bytes, hml, findClass_of_methodNamed B.named, fun w' hw' => atoms_spec (ws := bHead (P.2.1 mj) :: bw_G) B.pre w' (List.mem_cons_of_mem _ hw')⟩ hK ⟨hbw, va_S.rf⟩ (fun h0 => hsz (by simp [h0])) B.returns (name_of_methodNamed B.named B.method).1 B.notSynchronized htab (Nat.le_refl _) (Nat.le_refl _) (Nat.le_refl _) (Nat.le_refl _) (by omega) (by omega) hmc hms hl
  by_cases hH : (P.2.1 mj).2.2.2.2 = []
  · refine vx_ofW (cc := (P.2.1 mj).2.1) (maxL := (P.2.1 mj).2.2.1) (ret := (P.2.1 mj).2.2.2.1) b6 (by rw [bHead_nil hH]) ?_
    intro p e s m args below meth c s₁ B hml ht hv
    refine go p e s m args below meth c s₁ B hml ?_ hv
    rw [hH]
    exact List.eq_nil_iff_forall_not_mem.mpr fun x hx => ht x hx
  · refine vx_ofWH (cc := (P.2.1 mj).2.1) (maxL := (P.2.1 mj).2.2.1) (ret := (P.2.1 mj).2.2.2.1) (hh := (P.2.1 mj).2.2.2.2.map (fun x => x.1)) b6 (by rw [bHead_cons hH]) ?_
    intro p e s m args below meth c s₁ B hml hv
    refine go p e s m args below meth c s₁ B hml ?_ hv
    have h9 := atoms_spec (ws := bHead (P.2.1 mj) :: bw_G) B.pre _ List.mem_cons_self
    rw [bHead_cons hH] at h9
    exact vx_table (x := (P.2.1 mj).1) B h9
section BRUN
variable {p : Program} {e : Env} {R : Room} {s : State} {m : MethodId} {args : Array Value} {below : List Frame} {meth : Method} {c : Code} {H : Heap} {locs : List Loc} {cells slots mc ms : Nat} {Q : State → Prop} {cc : ByteArray} {pc nL : Nat} {own : String} {ls : Array Slot} {st : List bV} {w w1 : bW} {r : bR}
theorem bcal_inv {o : bO} {q : Nat × List bV × List bV} (h : bcal o st w = some q) : q.1 = o.2.2.1 ∧ o.2.2.2.1 ≤ st.length ∧ (q.2.2.map bvc).sum ≤ 8 ∧ ((∃ ix, o.1 = .invokestatic ix ∧ q.2.1 = (st.take o.2.2.2.1).reverse ∧ q.2.2 = st.drop o.2.2.2.1) ∨ (∃ (k : Nat), q.2.1 = .inr (.inr (.inl k)) :: (st.take o.2.2.2.1).reverse ∧ st.drop o.2.2.2.1 = .inr (.inr (.inl k)) :: q.2.2 ∧ ((∃ (ix ci : Nat) (fs : List bV), o.1 = .invokevirtual ix ∧ w.1[k]? = some (.inl (ci, fs)) ∧ (ci : Int) = o.2.2.2.2) ∨ (∃ ix, o.1 = .invokespecial ix ∧ o.2.2.2.2 = 0)))) := by
  have hd : ∀ (n : Nat) (x : bV) (t : List bV), st.drop n = x :: t → n ≤ st.length := fun n x t h1 => by
    have h2 := congrArg List.length h1
    simp only [List.length_drop, List.length_cons] at h2
    omega
  unfold bcal at h
  split at h
  · rename_i ix hix
    split at h
    · rename_i h1
      cases h
      exact ⟨rfl, h1.1, h1.2, Or.inl ⟨_, hix, rfl, rfl⟩⟩
    · cases h
  · rename_i ix hix
    split at h
    · rename_i h3
      split at h
      · rename_i h4
        split at h
        · rename_i h1
          cases h
          exact ⟨rfl, hd _ _ _ h3, h1.2, Or.inr ⟨_, rfl, h3, Or.inl ⟨_, _, _, hix, h4, h1.1⟩⟩⟩
        · cases h
      · cases h
    · cases h
  · rename_i ix hix
    split at h
    · rename_i h3
      split at h
      · rename_i h1
        cases h
        exact ⟨rfl, hd _ _ _ h3, h1.2, Or.inr ⟨_, rfl, h3, Or.inr ⟨_, hix, h1.1⟩⟩⟩
      · cases h
    · cases h
  · cases h
theorem b_cat (xs : List bV) : ((xs.map (bvv K)).map fun v => v.category).sum = (xs.map bvc).sum := by
  rw [List.map_map]
  congr 1
  exact List.map_congr_left fun v _ => bvc_v K v
theorem bmetR {y : MethodName} {ws : List Jvm.Cond} {rm : Room} {Pc : Array Value → State → Prop} {v : Option bV} {w2 : bW} {free : Addr → Prop} (hM : vx_Met l y ws rm Pc (bQc K (.inl v) w2) (bXC K (.inl v) w2) mc ms free) : Met l y ws rm Pc (bQc K (.inl v) w2) mc ms free := by
  intro p e a b c s m args below f ap hP k
  obtain ⟨n, o, h1, h2, h3, h4⟩ := hM p e a b c s m args below f ap hP k
  refine ⟨n, o, h1, h2, h3, ?_⟩
  rcases h4 with h4 | ⟨q, _, x, ce, L, ⟨h5, _⟩, _⟩
  · exact h4
  · cases h5
theorem brun (A : bAll K P) {o : bO} {d : Nat} (b1 : bOkD cc pc o) (b3 : bOkC P own o) (C0 : CallFix p m c cc nL s args bw_G own) (hb : bK K s) (hw : bS K.D K.B w.1.length (bct K w.1) s H locs) (hz : w.2 = 0 → H.size = K.B + w.1.length) {lv : List (Nat × Value)} (hl : lv_has ls nL lv) (hRf : d + 17 ≤ R.frames) (hRl : 500 + 100 * d ≤ R.locals)
    {q : Nat × List bV × List bV} (hq : bcal o st w = some q) (hlen : (q.2.1.map bvc).sum ≤ (P.2.1 q.1).2.2.1) (h : bSnd l K P d q.1 0 (blva 0 q.2.1) [] w r w1) (hmc : mc + w.1.length + w.2 = w1.1.length + w1.2) (hms : ms + bsz w.1 + 6 * w.2 = bsz w1.1 + 6 * w1.2) (hc : cells + mc ≤ R.cells) (hs : slots + ms ≤ R.slots) (hsp : bnsp o = true ∨ ∃ v, r = .inl v) :
    vx_Run p l e R s m args below meth c H locs cells slots mc ms (F0 m pc ls (st.map (bvv K))) (q.2.2.map (bvv K)) (bQc K r w1 (q.2.1.map (bvv K)).toArray) (bXC K r w1) (bA K.B) := by
  have hM := bmet A h hlen hmc hms
  have hmax : (P.2.1 q.1).2.2.1 ≤ 80 := by
    obtain ⟨-, -, -, ⟨o', ho'⟩, -⟩ := h
    exact (A.2.2.1 _ _ _ ho').2.2.2.2.1
  have hws : bHead (P.2.1 q.1) ∈ bw_G → ∀ w' ∈ bHead (P.2.1 q.1) :: bw_G, w' ∈ bw_G := fun hhead w' hw' => (List.mem_cons.mp hw').elim (fun h => by rw [h]; exact hhead) (fun h => h)
  have hpre : ∀ U : State, U.heap = H → s.WarmedH U.vm → bPc K w.1.length (bct K w.1) (decide (w.2 = 0)) (q.2.1.map (bvv K)) (q.2.1.map (bvv K)).toArray U := fun U hU hW =>
    ⟨rfl, by rw [hU]; exact hw.1, hb.to hw.2 hU hW, fun h0 => by rw [hU]; exact hz (of_decide_eq_true h0)⟩
  obtain ⟨e0, e1, e2, e3⟩ := bcal_inv hq
  obtain ⟨ins, ln, a, b, v⟩ := o
  have f0 : q.1 = a := e0
  have f1 : b ≤ st.length := e1
  have hcat : 2 * (F0 m pc ls (st.map (bvv K))).monitorRoom + ((q.2.2.map (bvv K)).map fun v => v.category).sum ≤ 8 := by
    exact lv_room (by rw [b_cat]; exact e2)
  have hrev : (((st.take b).reverse).map (bvv K)).reverse = (st.take b).map (bvv K) := by rw [← List.map_reverse, List.reverse_reverse]
  have hlenb : (((st.take b).reverse).map (bvv K)).length = b := by simp; omega
  rcases e3 with ⟨ix, h1, h2, h3⟩ | ⟨k, h2, h3, h4⟩
  · have h1 : ins = .invokestatic ix := h1
    subst h1
    have hd : decode cc pc = .ok (.invokestatic ix, 3) := b1
    obtain ⟨c1, c2, c3, c4, c5, c6, ch⟩ := b3
    simp only [] at c1 c2 c3 c4 c5 c6 ch
    rw [← f0] at c1 c2 c3 c4 c5 c6 ch
    have hst : st.map (bvv K) = (q.2.1.map (bvv K)).reverse ++ q.2.2.map (bvv K) := by
      rw [h2, h3]
      show _ = (((st.take b).reverse).map (bvv K)).reverse ++ (st.drop b).map (bvv K)
      rw [hrev, ← List.map_append, List.take_append_drop]
    have hn : (q.2.1.map (bvv K)).length = b := by rw [h2]; exact hlenb
    rcases c4 with ⟨c4, hv0⟩ | ⟨⟨host, c4⟩, hv0, hH⟩
    · have hG : GoodIn bw_G (va_wsS own ix (P.2.1 q.1).1 (bHead (P.2.1 q.1) :: bw_G)) := fun w' hw' => bgood (by
        rcases List.mem_append.mp hw' with h5 | h5
        · simp only [List.mem_cons, List.not_mem_nil, or_false] at h5
          rcases h5 with rfl | rfl | rfl
          · exact c4
          · exact c5
          · exact c6
        · exact hws ch w' h5)
      by_cases hH : (P.2.1 q.1).2.2.2.2 = []
      · exact vx_runS C0 hM (va_cwS (bytes := (P.2.1 q.1).2.1) (maxL := (P.2.1 q.1).2.2.1) (ret := (P.2.1 q.1).2.2.2.1) b C0.2.2.2.2 hG (by rw [bHead_nil hH]) rfl rfl ⟨c1, c2, c3⟩ ⟨by show d + 16 + 1 ≤ _; omega, by show 8 + (_ + 11) + (400 + 100 * d) ≤ _; omega⟩) ⟨bPc.blind, hpre⟩ rfl hn hl.1 hst hcat hd ⟨hc, hs⟩
      · exact vx_runSX C0 hM (vx_cwSW (bytes := (P.2.1 q.1).2.1) (maxL := (P.2.1 q.1).2.2.1) (ret := (P.2.1 q.1).2.2.2.1) (hh := (P.2.1 q.1).2.2.2.2.map (fun x => x.1)) b C0.2.2.2.2 hG (by rw [bHead_cons hH]) rfl rfl ⟨c1, c2, c3⟩ ⟨by show d + 16 + 1 ≤ _; omega, by show 8 + (_ + 11) + (400 + 100 * d) ≤ _; omega⟩) ⟨bPc.blind, hpre⟩ rfl hn hl.1 hst hcat hd ⟨hc, hs⟩
    · have hv9 : v ≠ 0 := hv0
      obtain ⟨v', hv'⟩ : ∃ v', r = .inl v' := hsp.resolve_left (fun h => hv9 (of_decide_eq_true h))
      subst hv'
      have hG : GoodIn bw_G (bHead (P.2.1 q.1) :: bw_G) := fun w' hw' => bgood (hws ch w' hw')
      have hr : va_Run p l e R s m args below meth c H locs cells slots mc ms (F0 m pc ls (st.map (bvv K))) (q.2.2.map (bvv K)) (bQc K (.inl v') w1 (q.2.1.map (bvv K)).toArray) (bA K.B) :=
        va_runSN C0 (bmetR hM) ⟨va_cnB (bytes := (P.2.1 q.1).2.1) (maxL := (P.2.1 q.1).2.2.1) (ret := (P.2.1 q.1).2.2.2.1) b C0.2.2.2.2 hG (by rw [bHead_nil hH]) rfl rfl (hb.2.2.2.2.2.2.2.2.2.2.2 _ c4) (C0.2.2.2.2 _ c6) ⟨c1, c2, c3⟩ ⟨by show d + 16 + 1 ≤ _; omega, by show 8 + (_ + 11) + (400 + 100 * d) ≤ _; omega⟩, C0.2.2.2.2 _ c5, trivial⟩ ⟨bPc.blind, hpre⟩ rfl hn hl.1 hst hcat hd ⟨hc, hs⟩
      exact fun T hT X => Or.inl (hr T hT X)
  · have hst : st.map (bvv K) = (((st.take b).reverse).map (bvv K)).reverse ++ .ref (K.B + k) :: q.2.2.map (bvv K) := by
      have h3 : st.drop b = .inr (.inr (.inl k)) :: q.2.2 := h3
      rw [hrev]
      show _ = (st.take b).map (bvv K) ++ ((.inr (.inr (.inl k)) :: q.2.2 : List bV).map (bvv K))
      rw [← h3, ← List.map_append, List.take_append_drop]
    have hargs : q.2.1.map (bvv K) = .ref (K.B + k) :: ((st.take b).reverse).map (bvv K) := by rw [h2]; rfl
    rw [hargs] at hM hpre ⊢
    rcases h4 with ⟨ix, ci, fs, h1, h5, h6⟩ | ⟨ix, h1, h5⟩
    · have h1 : ins = .invokevirtual ix := h1
      subst h1
      have hd : decode cc pc = .ok (.invokevirtual ix, 3) := b1
      obtain ⟨c1, c2, c3, ⟨T, N, c4⟩, c5, c6, c7, c8, c9, ch⟩ := b3
      simp only [] at c1 c2 c3 c4 c5 c6 c7 c8 c9 ch h6
      rw [← h6] at c4
      rw [← f0] at c1 c2 c3 c4 c5 c6 c7 c8 c9 ch
      have hG : GoodIn bw_G (wsV own ix (P.2.1 q.1).1.cls (P.2.1 q.1).1 (bHead (P.2.1 q.1) :: bw_G)) := fun w' hw' => bgood (by
        rcases List.mem_append.mp hw' with h7 | h7
        · simp only [List.mem_cons, List.not_mem_nil, or_false] at h7
          rcases h7 with rfl | rfl | rfl | rfl
          · exact c5
          · exact c6
          · exact c7
          · exact c8
        · exact hws ch w' h7)
      have hk0 : k < w.1.length := (List.getElem?_eq_some_iff.mp h5).1
      exact vx_runV C0 hM (cwV (bytes := (P.2.1 q.1).2.1) (maxL := (P.2.1 q.1).2.2.1) (ret := (P.2.1 q.1).2.2.2.1) b C0.2.2.2.2 hG (by rw [bHead_nil c9]) rfl rfl ⟨rfl, c1, c2, c3⟩ ⟨by show d + 16 + 1 ≤ _; omega, by show 8 + (_ + 11) + (400 + 100 * d) ≤ _; omega⟩) ⟨bPc.blind, va_recv hb.1 (hw.1.sing hk0 (bct_at h5)) c4 (q0 := 0) rfl, hpre⟩ rfl hlenb hl.1 hst hcat hd ⟨hc, hs⟩
    · have h1 : ins = .invokespecial ix := h1
      subst h1
      have hd : decode cc pc = .ok (.invokespecial ix, 3) := b1
      obtain ⟨c0, cr, c1, c2, c3, c5, c6, c8, c9, ch⟩ := b3 h5
      simp only [] at c0 cr c1 c2 c3 c5 c6 c8 c9 ch
      rw [← f0] at c0 cr c1 c2 c3 c5 c6 c8 c9 ch
      obtain ⟨v', hv'⟩ : ∃ v', r = .inl v' := hsp.resolve_left (fun h => Bool.false_ne_true h)
      subst hv'
      have hG : GoodIn bw_G (bHead (P.2.1 q.1) :: bw_G) := fun w' hw' => bgood (hws ch w' hw')
      have hr : va_Run p l e R s m args below meth c H locs cells slots mc ms (F0 m pc ls (st.map (bvv K))) (q.2.2.map (bvv K)) (bQc K (.inl v') w1 (Value.ref (K.B + k) :: ((st.take b).reverse).map (bvv K)).toArray) (bA K.B) :=
        va_runI C0 (bmetR hM) (cwI (bytes := (P.2.1 q.1).2.1) (maxL := (P.2.1 q.1).2.2.1) b C0.2.2.2.2 hG (by rw [bHead_nil c9, cr]) rfl rfl (C0.2.2.2.2 _ c8) (C0.2.2.2.2 _ c5) (C0.2.2.2.2 _ c6) c0 ⟨c1, c2, c3⟩ ⟨by show d + 16 + 1 ≤ _; omega, by show 8 + (_ + 11) + (400 + 100 * d) ≤ _; omega⟩) ⟨bPc.blind, hpre⟩ rfl hlenb hl.1 hst hcat hd ⟨hc, hs⟩
      exact fun T hT X => Or.inl (hr T hT X)
/-- behind a call: it has returned, or thrown -/
theorem bafter (hw : bS K.D K.B w.1.length (bct K w.1) s H locs) {st0 rest' : List Value} {av : Array Value}
    (hr : vx_Run p l e R s m args below meth c H locs cells slots mc ms (F0 m pc ls st0) rest' (bQc K r w1 av) (bXC K r w1) (bA K.B))
    (kr : ∀ (v : Option bV) (H1 : Heap) (locs1 : List Loc), r = .inl v → bS K.D K.B w1.1.length (bct K w1.1) s H1 locs1 → (w1.2 = 0 → H1.size = K.B + w1.1.length) → W p l e R s m args below meth c H1 locs1 (cells + mc) (slots + ms) Q (F0 m (pc + 3) ls ((v.map (bvv K)).toList ++ rest')))
    (kx : ∀ (x : String) (a : Addr) (ce : Cell) (H1 : Heap) (locs1 : List Loc), r = .inr x → bS K.D K.B w1.1.length (bct K w1.1) s H1 locs1 → (w1.2 = 0 → H1.size = K.B + w1.1.length) → H1[a]? = some ce → ce.vm = .none → s.vm.findClass x = some ce.cls → vx_W p l e R s m args below meth c H1 locs1 (cells + mc) (slots + ms) Q (F0 m pc ls rest') a) :
    W p l e R s m args below meth c H locs cells slots Q (F0 m pc ls st0) := by
  intro T hT X
  rcases hr T hT X with ⟨v, st₀, t, T', L, h0, X', hL, e1, e2, ⟨⟨v', hv', ho⟩, hb, hF⟩, st⟩ | ⟨q, st₀, t, T', L, x, ce, h0, X', hL, e1, e2, ⟨hx, hb, hF⟩, hce, hcv, hcl, st⟩
  · obtain ⟨k1, k2, k3⟩ := vx_keep h0 e1 hw.2 (fun _ _ h => h) (fun _ h => h) hL hF
    cases ho
    obtain ⟨t2, g1, g2⟩ := kr v' T'.heap (locs ++ L) hv' ⟨by rw [e1]; exact hb.1, k3⟩ (fun h => by rw [e1]; exact hb.2 h) T' rfl X'
    exact ⟨t2, st t2 g1, g2⟩
  · obtain ⟨k1, k2, k3⟩ := vx_keep h0 e1 hw.2 (fun _ _ h => h) (fun _ h => h) hL hF
    obtain ⟨t2, g1, g2⟩ := kx x q ce T'.heap (locs ++ L) hx ⟨by rw [e1]; exact hb.1, k3⟩ (fun h => by rw [e1]; exact hb.2 h) (by rw [e1]; exact hce) hcv hcl T' rfl X'
    exact ⟨t2, st.trans g1, g2⟩
end BRUN
theorem bsnd_call (A : bAll K P) (d mi pc : Nat) (lv : List (Nat × bV)) (st : List bV) (w : bW) (o : bO) (q : Nat × List bV × List bV) (v : Option bV) (w1 : bW) (r : bR) (w2 : bW) (ho : P.1 mi pc = some o) (hq : bcal o st w = some q) (hlen : (q.2.1.map bvc).sum ≤ (P.2.1 q.1).2.2.1) (h1 : bSnd l K P d q.1 0 (blva 0 q.2.1) [] w (.inl v) w1) (h2 : bSnd l K P (d + 1) mi (pc + 3) lv (v.toList ++ q.2.2) w1 r w2) : bSnd l K P (d + 1) mi pc lv st w r w2 := by
  obtain ⟨b1, b2, b3, b4, b5, b6⟩ := A.2.2.1 mi pc o ho
  have h1' := h1
  obtain ⟨i1, i2, i3, -, -⟩ := h1'
  obtain ⟨j1, j2, j3, -, ih⟩ := h2
  refine ⟨Nat.le_trans i1 j1, Nat.le_trans i2 j2, Nat.le_trans i3 j3, ⟨o, ho⟩, ?_⟩
  intro p e R s m args below meth c H locs cells slots ls w0 mc ms C0 hb hw hz hret hnm hlk htab hRf hRl hRc hRs hc hsl hmc hms hl
  have g1 : (w1.1.length - w.1.length) + (w1.2 - w.2) + w.1.length + w.2 = w1.1.length + w1.2 := by omega
  have g2 : (bsz w1.1 - bsz w.1) + 6 * (w1.2 - w.2) + bsz w.1 + 6 * w.2 = bsz w1.1 + 6 * w1.2 := by omega
  refine bafter hw (brun A b1 b3 C0 hb hw hz hl (by omega) (by omega) hq hlen h1 g1 g2 (by omega) (by omega) (Or.inr ⟨v, rfl⟩)) ?_ ?_
  · intro v' H1 locs1 hv' hw1 hz1
    cases hv'
    have e9 : (v.map (bvv K)).toList ++ q.2.2.map (bvv K) = (v.toList ++ q.2.2).map (bvv K) := by cases v <;> rfl
    rw [e9]
    exact ih p e R s m args below meth c H1 locs1 _ _ ls w0 mc ms C0 hb hw1 hz1 hret hnm hlk htab hRf hRl hRc hRs (by omega) (by omega) hmc hms hl
  · intro x a ce H1 locs1 hx
    cases hx
theorem bsnd_callO (A : bAll K P) (d mi pc : Nat) (lv : List (Nat × bV)) (st : List bV) (w : bW) (o : bO) (q : Nat × List bV × List bV) (x : String) (w1 : bW) (ho : P.1 mi pc = some o) (hq : bcal o st w = some q) (hlen : (q.2.1.map bvc).sum ≤ (P.2.1 q.1).2.2.1) (h1 : bSnd l K P d q.1 0 (blva 0 q.2.1) [] w (.inr x) w1) (hH : (P.2.1 mi).2.2.2.2 = []) (hsp : bnsp o = true) : bSnd l K P (d + 1) mi pc lv st w (.inr x) w1 := by
  obtain ⟨b1, b2, b3, b4, b5, b6⟩ := A.2.2.1 mi pc o ho
  have h1' := h1
  obtain ⟨i1, i2, i3, -, -⟩ := h1'
  refine ⟨i1, i2, i3, ⟨o, ho⟩, ?_⟩
  intro p e R s m args below meth c H locs cells slots ls w0 mc ms C0 hb hw hz hret hnm hlk htab hRf hRl hRc hRs hc hsl hmc hms hl
  have g1 : (w1.1.length - w.1.length) + (w1.2 - w.2) + w.1.length + w.2 = w1.1.length + w1.2 := by omega
  have g2 : (bsz w1.1 - bsz w.1) + 6 * (w1.2 - w.2) + bsz w.1 + 6 * w.2 = bsz w1.1 + 6 * w1.2 := by omega
  refine bafter hw (brun A b1 b3 C0 hb hw hz hl (by omega) (by omega) hq hlen h1 g1 g2 (by omega) (by omega) (Or.inl hsp)) ?_ ?_
  · intro v' H1 locs1 hv'
    cases hv'
  · intro x' a ce H1 locs1 hx hw1 hz1 g3 g4 g5
    cases hx
    refine vx_out (fun z hz' => ?_) hlk g3 g4 g5 (fun t ht _ => ⟨rfl, ⟨by rw [ht]; exact hw1.1, fun h => by rw [ht]; exact hz1 h⟩, hw1.2.F ht⟩) hw1.2.2.2 (by omega) (by omega)
    rw [htab, hH] at hz'
    cases hz'
theorem bhand_inv {M : bH} {pc : Nat} {x : String} {ok : String → String → Option Bool} {hp : Nat} (h : bhand M pc x ok = some hp) : ∃ (pre suf : bH) (z : (Nat × Nat × Nat × Nat) × String), M = pre ++ z :: suf ∧ z.1.1 ≤ pc ∧ pc < z.1.2.1 ∧ z.1.2.2.1 = hp ∧ ok x z.2 = some true ∧ ∀ y ∈ pre, ¬ (y.1.1 ≤ pc ∧ pc < y.1.2.1) ∨ ok x y.2 = some false := by
  induction M with
  | nil => cases h
  | cons z t ih =>
    obtain ⟨q, nm⟩ := z
    unfold bhand at h
    split at h
    · rename_i hcov
      split at h
      · rename_i hk
        exact ⟨[], t, (q, nm), rfl, hcov.1, hcov.2, Option.some.inj h, hk, fun y hy => by cases hy⟩
      · rename_i hk
        obtain ⟨pre, suf, z, g1, g2, g3, g4, g5, g6⟩ := ih h
        refine ⟨(q, nm) :: pre, suf, z, by rw [g1]; rfl, g2, g3, g4, g5, fun y hy => ?_⟩
        rcases List.mem_cons.mp hy with rfl | hy
        · exact Or.inr hk
        · exact g6 y hy
      · cases h
    · rename_i hcov
      obtain ⟨pre, suf, z, g1, g2, g3, g4, g5, g6⟩ := ih h
      refine ⟨(q, nm) :: pre, suf, z, by rw [g1]; rfl, g2, g3, g4, g5, fun y hy => ?_⟩
      rcases List.mem_cons.mp hy with rfl | hy
      · exact Or.inl hcov
      · exact g6 y hy
theorem bsnd_catch (A : bAll K P) (d mi pc : Nat) (lv : List (Nat × bV)) (st : List bV) (w : bW) (o : bO) (q : Nat × List bV × List bV) (x : String) (w1 : bW) (hp : Nat) (o2 : bO) (ik : Nat × Nat) (r : bR) (w2 : bW) (ho : P.1 mi pc = some o) (hq : bcal o st w = some q) (hlen : (q.2.1.map bvc).sum ≤ (P.2.1 q.1).2.2.1) (h1 : bSnd l K P d q.1 0 (blva 0 q.2.1) [] w (.inr x) w1) (hh : bhand (P.2.1 mi).2.2.2.2 pc x P.2.2.2.1 = some hp) (ho2 : P.1 mi hp = some o2) (hsp : bnsp o = true) (hk : bastk o2.1 = some ik) (hik : ik.1 < (P.2.1 mi).2.2.1) (h2 : bSnd l K P (d + 1) mi (hp + ik.2) (blvx lv ik.1) [] w1 r w2) : bSnd l K P (d + 1) mi pc lv st w r w2 := by
  obtain ⟨b1, b2, b3, b4, b5, b6⟩ := A.2.2.1 mi pc o ho
  have h1' := h1
  obtain ⟨i1, i2, i3, -, -⟩ := h1'
  obtain ⟨j1, j2, j3, -, ih⟩ := h2
  refine ⟨Nat.le_trans i1 j1, Nat.le_trans i2 j2, Nat.le_trans i3 j3, ⟨o, ho⟩, ?_⟩
  intro p e R s m args below meth c H locs cells slots ls w0 mc ms C0 hb hw hz hret hnm hlk htab hRf hRl hRc hRs hc hsl hmc hms hl
  have g1 : (w1.1.length - w.1.length) + (w1.2 - w.2) + w.1.length + w.2 = w1.1.length + w1.2 := by omega
  have g2 : (bsz w1.1 - bsz w.1) + 6 * (w1.2 - w.2) + bsz w.1 + 6 * w.2 = bsz w1.1 + 6 * w1.2 := by omega
  refine bafter hw (brun A b1 b3 C0 hb hw hz hl (by omega) (by omega) hq hlen h1 g1 g2 (by omega) (by omega) (Or.inl hsp)) ?_ ?_
  · intro v' H1 locs1 hv'
    cases hv'
  · intro x' a ce H1 locs1 hx hw1 hz1 g3 g4 g5
    cases hx
    obtain ⟨pre, suf, z, f1, f2, f3, f4, f5, f6⟩ := bhand_inv hh
    have hmem : ∀ y : (Nat × Nat × Nat × Nat) × String, y ∈ pre ++ z :: suf → y.1.2.2.2 ≠ 0 ∧ Jvm.Cond.classLink (P.2.1 mi).1.cls y.1.2.2.2 y.2 ∈ bw_G := fun y hy => A.2.2.2.1 mi y (by rw [f1]; exact hy)
    have hz9 := hmem z (by simp)
    refine vx_catch C0.2.2.2.1 (tableOf (pre.map (fun x => x.1))) ⟨z.1.1, z.1.2.1, z.1.2.2.1, z.1.2.2.2⟩ (tableOf (suf.map (fun x => x.1))) ?_ ?_ ?_ hz9.1 (C0.2.2.2.2 _ hz9.2) (C0.2.2.2.2 _ (A.2.2.2.2.1 _ _ f5)) g3 g4 g5 ?_
    · rw [htab, f1]
      simp [tableOf]
    · intro y hy
      simp only [tableOf, List.map_map, List.mem_map] at hy
      obtain ⟨y0, hy0, rfl⟩ := hy
      rcases f6 y0 hy0 with h9 | h9
      · refine Or.inl ?_
        simp only [Function.comp, covers, Bool.and_eq_false_iff, decide_eq_false_iff_not]
        by_cases h8 : y0.1.1 ≤ pc
        · exact Or.inr fun h7 => h9 ⟨h8, h7⟩
        · exact Or.inl h8
      · have h8 := hmem y0 (List.mem_append_left _ hy0)
        exact Or.inr ⟨h8.1, y0.2, C0.2.2.2.2 _ h8.2, hb.2.2.2.2.2.2.2.1 _ (A.2.2.2.2.2 _ _ h9)⟩
    · simp only [covers, Bool.and_eq_true, decide_eq_true_eq]
      exact ⟨f2, f3⟩
    · obtain ⟨e1, e2, -⟩ := A.2.2.1 mi hp o2 ho2
      have hfil : ∀ ls' : Array Slot, lv_has ls' (P.2.1 mi).2.2.1 ((ik.1, Value.ref a) :: (bvl K lv).filter (fun q => !(q.1 == ik.1) && !(q.1 + 1 == ik.1 && q.2.category == 2))) → lv_has ls' (P.2.1 mi).2.2.1 (bvl K (blvx lv ik.1)) := fun ls' h9 => by
        refine ⟨h9.1, h9.2.1, fun q hq => h9.2.2 q (List.mem_cons_of_mem _ ?_)⟩
        have h8 : (bvl K lv).filter (fun q => !(q.1 == ik.1) && !(q.1 + 1 == ik.1 && q.2.category == 2)) = bvl K (blvx lv ik.1) := by
          simp only [blvx, bvl, List.filter_map, Function.comp_def, bvc_v]
        rw [h8]
        exact hq
      have fin : ∀ ls' : Array Slot, lv_has ls' (P.2.1 mi).2.2.1 ((ik.1, Value.ref a) :: (bvl K lv).filter (fun q => !(q.1 == ik.1) && !(q.1 + 1 == ik.1 && q.2.category == 2))) → W p l e R s m args below meth c H1 locs1 (cells + (w1.1.length - w.1.length + (w1.2 - w.2))) (slots + (bsz w1.1 - bsz w.1 + 6 * (w1.2 - w.2))) (vx_MQ below (bQc K r w2) (bXC K r w2) args s mc ms (bA K.B)) (F0 m (hp + ik.2) ls' ([] : List Value)) := fun ls' h9 =>
        ih p e R s m args below meth c H1 locs1 _ _ ls' w0 mc ms C0 hb hw1 hz1 hret hnm hlk htab hRf hRl hRc hRs (by omega) (by omega) hmc hms (hfil ls' h9)
      show W _ _ _ _ _ _ _ _ _ _ _ _ _ _ _ (F0 m z.1.2.2.1 ls [.ref a])
      rw [f4]
      obtain ⟨ins2, ln2, a2, b2', v2⟩ := o2
      cases ins2 with
      | astore_n k =>
        cases hk
        exact lv_astore_n C0.1 C0.2.1 e1 rfl hl hik rfl fin
      | astore k =>
        cases hk
        exact lv_astore C0.1 C0.2.1 e1 hl hik rfl fin
      | _ => cases hk
/-- what is read, the machine does -/
theorem bsound (hst : l.stackTraces = false) (A : bAll K P) : bClosed P (bSnd l K P) :=
  ⟨bsnd_step A, bsnd_ret A, bsnd_call A, bsnd_callO A, bsnd_catch A, bsnd_thr hst A⟩
end BCALLS
end
section
/-! THE CHECKS of the code tables, for the kernel. Words of the tables by their places: 1000 * (part of the tables) + (place there); part 0: the private methods' selects. -/
def bprog : Nat → List Jvm.Cond := fun k => match k with
  | 0 => k2_sels lw_privs
  | 1 => tables_1_1
  | 2 => tables_1_2
  | 3 => tables_1_3
  | 4 => tables_1_4
  | 5 => tables_1_5
  | 6 => tables_1_6
  | 7 => tables_1_7
  | 8 => tables_1_8
  | 9 => tables_1_9
  | 10 => tables_1_10
  | 11 => tables_1_11
  | _ => []
def bwk (j : Nat) (w : Jvm.Cond) : Bool := decide ((bprog (j / 1000))[j % 1000]? = some w) && goodWord w
theorem bprog_in (k : Nat) : ∀ w ∈ bprog k, w ∈ lw_tbl := by
  intro w hw
  unfold bprog at hw
  unfold lw_tbl tables_1
  split at hw <;> first | (simp only [List.mem_append]; simp only [hw, true_or, or_true]; done) | cases hw
theorem bwk_in {j : Nat} {w : Jvm.Cond} (h : bwk j w = true) : w ∈ bw_G := by
  unfold bwk at h
  simp only [Bool.and_eq_true, decide_eq_true_eq] at h
  exact bw_in (bprog_in _ w (List.mem_of_getElem? h.1)) h.2
/-- of a class: the words that it can be made, that it stands ready -/
abbrev bcj : Type := Nat → Nat × Nat
/-- of a method: its code's word, what it is (of an object, static), how it is selected, its class's start; how many it takes -/
abbrev bmj : Type := Nat → Nat × Nat × Nat × Nat × Nat
def bchkX (cj : bcj) (own nm : String) (pc : Nat) (o : bO) : Bool := match o.1 with
  | .ldc ix => bwk o.2.1 (.constant own ix (Int32.ofInt o.2.2.2.2))
  | .ldc2_w ix => bwk o.2.1 (.constantLong own ix (Int64.ofInt o.2.2.2.2))
  | .goto off => decide ((pc : Int) + off = (o.2.2.1 : Int))
  | .ifCond _ off => decide ((pc : Int) + off = (o.2.2.1 : Int))
  | .if_icmp _ off => decide ((pc : Int) + off = (o.2.2.1 : Int))
  | .getfield ix => decide (2 ≤ o.2.2.1) && (match vwCl[o.2.2.1]? with
    | some q => decide (o.2.2.2.1 < q.2.2) && bwk o.2.1 (.fieldLink own ix (q.2.1 o.2.2.2.1).1 (q.2.1 o.2.2.2.1).2.1 (q.2.1 o.2.2.2.1).2.2.1)
    | none => false)
  | .putfield ix => decide (2 ≤ o.2.2.1) && (match vwCl[o.2.2.1]? with
    | some q => decide (o.2.2.2.1 < q.2.2) && bwk o.2.1 (.fieldLink own ix (q.2.1 o.2.2.2.1).1 (q.2.1 o.2.2.2.1).2.1 (q.2.1 o.2.2.2.1).2.2.1) && (!(q.2.1 o.2.2.2.1).2.2.2 || (decide (nm = "<init>") && decide ((q.2.1 o.2.2.2.1).1 = own)))
    | none => false)
  | .getstatic ix => (match bsf o.2.2.1 with
    | some f => bwk o.2.1 (.fieldLink own ix f.1 f.2.1 f.2.2) || decide ((own, ix, f.1, f.2.1, f.2.2, "Boxedvalue") ∈ bwN)
    | none => false)
  | .new ix => if o.2.2.2.2 = 0 then decide (2 ≤ o.2.2.1) && (match vwCl[o.2.2.1]? with
    | some q => decide (q.2.2 = (bty o.2.2.1).length) && bwk o.2.1 (.classLink own ix q.1) && bwk (cj o.2.2.1).1 (.instantiable q.1 q.2.2) && bwk (cj o.2.2.1).2 (.initialized q.1)
    | none => false) else true
  | .newarray t => bwk o.2.1 (.arrayClass (newarray.typeOf t)) && (match t with
    | .char => decide (o.2.2.1 = 0)
    | .int => decide (o.2.2.1 = 1)
    | .long => decide (o.2.2.1 = 2)
    | .boolean => decide (o.2.2.1 = 3)
    | _ => false)
  | .anewarray ix => if o.2.2.1 = 4 then bwk o.2.1 (.classLink own ix "Boxedvalue$Box") else decide (o.2.2.1 = 5) && bwk o.2.1 (.classLink own ix "Boxedvalue$Formula")
  | .invokespecial ix => if o.2.2.2.2 = 1 then bwk o.2.1 (.methodLink own ix Lib.objectInit) else true
  | _ => true
def bchkD (cc : ByteArray) (pc : Nat) (o : bO) : Bool := match o.1 with
  | .lookupswitch _ ps => decide (decode cc pc = .ok (o.1, o.2.1)) && (ps.toList.zip (ps.toList.drop 1)).all (fun (a, next) => a.1 < next.1)
  | .tableswitch _ _ _ _ => decide (decode cc pc = .ok (o.1, o.2.1))
  | _ => decide (decode cc pc = .ok (o.1, bln o.1))
/-- of a method that is called: its class, how many it takes, its words -/
def bchkM (M : Nat → bM) (mj : bmj) (mi : Nat) : Bool := decide ((M mi).1.cls ≠ "java/lang/invoke/MethodHandle") && decide ((M mi).1.cls ≠ "java/lang/invoke/VarHandle") && decide ((parseMethodDescriptor (M mi).1.desc).map (fun d => d.parameters.length) = some (mj mi).2.2.2.2) && bwk (mj mi).1 (bHead (M mi)) && bwk (mj mi).2.2.2.1 (.initialized (M mi).1.cls)
def bchkV (M : Nat → bM) (mj : bmj) (own : String) (ix j a b : Nat) (v : Int) : Bool := bchkM M mj a && decide ((mj a).2.2.2.2 = b) && (match vwCl[v.toNat]? with
    | some q => decide (q.1 = (M a).1.cls)
    | none => false) && bwk j (.methodLink own ix (M a).1) && bwk (mj a).2.1 (.instanceMethod (M a).1) && bwk (mj a).2.2.1 (.selects (M a).1.cls (M a).1 (M a).1) && (M a).2.2.2.2.isEmpty
def bchkS (M : Nat → bM) (mj : bmj) (own : String) (ix j a b : Nat) (v : Int) : Bool := bchkM M mj a && decide ((mj a).2.2.2.2 = b) && ((bwk j (.methodLink own ix (M a).1) && decide (v = 0)) || (decide ((own, ix, (M a).1, "Boxedvalue") ∈ bwM) && decide (v ≠ 0) && (M a).2.2.2.2.isEmpty)) && bwk (mj a).2.1 (.static (M a).1)
def bchkI (M : Nat → bM) (mj : bmj) (own : String) (ix j a b : Nat) : Bool := bchkM M mj a && decide ((mj a).2.2.2.2 = b) && decide ((M a).1.name = "<init>") && decide ((M a).2.2.2.1 = none) && bwk j (.methodLink own ix (M a).1) && bwk (mj a).2.1 (.instanceMethod (M a).1) && (M a).2.2.2.2.isEmpty
def bchkC (M : Nat → bM) (mj : bmj) (own : String) (o : bO) : Bool := match o.1 with
  | .invokevirtual ix => bchkV M mj own ix o.2.1 o.2.2.1 o.2.2.2.1 o.2.2.2.2
  | .invokestatic ix => bchkS M mj own ix o.2.1 o.2.2.1 o.2.2.2.1 o.2.2.2.2
  | .invokespecial ix => if o.2.2.2.2 = 0 then bchkI M mj own ix o.2.1 o.2.2.1 o.2.2.2.1 else true
  | _ => true
theorem bchkD_ok {cc : ByteArray} {pc : Nat} {o : bO} (h : bchkD cc pc o = true) : bOkD cc pc o := by
  unfold bchkD at h
  unfold bOkD
  split at h
  · rename_i d ps hi
    rw [hi] at h ⊢
    simp only [Bool.and_eq_true, decide_eq_true_eq] at h
    exact h
  · rename_i a b c d hi
    rw [hi] at h ⊢
    exact of_decide_eq_true h
  · rename_i h1 h2
    split
    · rename_i d ps hi
      exact absurd hi (h1 d ps)
    · rename_i a b c d hi
      exact absurd hi (h2 a b c d)
    · exact of_decide_eq_true h
theorem bchkX_ok {cj : bcj} {own nm : String} {pc : Nat} {o : bO} (hobj : Jvm.Cond.instanceMethod Lib.objectInit ∈ bw_G ∧ Jvm.Cond.code Lib.objectInit ⟨#[0xb1]⟩ 1 none ∈ bw_G) (h : bchkX cj own nm pc o = true) : bOkX own nm pc o := by
  obtain ⟨ins, ln, a, b, v⟩ := o
  cases ins with
  | ldc ix => exact bwk_in h
  | ldc2_w ix => exact bwk_in h
  | goto off =>
    show (pc : Int) + off = (a : Int)
    exact of_decide_eq_true h
  | ifCond cd off =>
    show (pc : Int) + off = (a : Int)
    exact of_decide_eq_true h
  | if_icmp cd off =>
    show (pc : Int) + off = (a : Int)
    exact of_decide_eq_true h
  | getfield ix =>
    obtain ⟨h1, h2⟩ := Bool.and_eq_true_iff.mp h
    refine ⟨of_decide_eq_true h1, ?_⟩
    simp only [] at h2 ⊢
    split at h2
    · rename_i q hq
      obtain ⟨C, T, N⟩ := q
      obtain ⟨h3, h4⟩ := Bool.and_eq_true_iff.mp h2
      exact ⟨C, T, N, hq, of_decide_eq_true h3, bwk_in h4⟩
    · cases h2
  | putfield ix =>
    obtain ⟨h1, h2⟩ := Bool.and_eq_true_iff.mp h
    refine ⟨of_decide_eq_true h1, ?_⟩
    simp only [] at h2 ⊢
    split at h2
    · rename_i q hq
      obtain ⟨C, T, N⟩ := q
      obtain ⟨h3, h4⟩ := Bool.and_eq_true_iff.mp h2
      obtain ⟨h5, h6⟩ := Bool.and_eq_true_iff.mp h3
      refine ⟨C, T, N, hq, of_decide_eq_true h5, bwk_in h6, ?_⟩
      simp only [] at h4
      cases hf : (T b).2.2.2 with
      | false => exact Or.inl rfl
      | true =>
        rw [hf] at h4
        obtain ⟨h7, h8⟩ := Bool.and_eq_true_iff.mp h4
        exact Or.inr ⟨rfl, of_decide_eq_true h7, of_decide_eq_true h8⟩
    · cases h2
  | getstatic ix =>
    have h : (match bsf a with
      | some f => bwk ln (.fieldLink own ix f.1 f.2.1 f.2.2) || decide ((own, ix, f.1, f.2.1, f.2.2, "Boxedvalue") ∈ bwN)
      | none => false) = true := h
    split at h
    · rename_i f hf
      refine ⟨f, hf, ?_⟩
      rcases Bool.or_eq_true_iff.mp h with h1 | h1
      · exact Or.inl (bwk_in h1)
      · exact Or.inr ⟨_, of_decide_eq_true h1⟩
    · cases h
  | new ix =>
    intro hv
    have hv : v = 0 := hv
    subst hv
    have h : (decide (2 ≤ a) && (match vwCl[a]? with
      | some q => decide (q.2.2 = (bty a).length) && bwk ln (.classLink own ix q.1) && bwk (cj a).1 (.instantiable q.1 q.2.2) && bwk (cj a).2 (.initialized q.1)
      | none => false)) = true := h
    obtain ⟨h1, h2⟩ := Bool.and_eq_true_iff.mp h
    refine ⟨of_decide_eq_true h1, ?_⟩
    split at h2
    · rename_i q hq
      obtain ⟨C, T, N⟩ := q
      simp only [Bool.and_eq_true, decide_eq_true_eq] at h2
      exact ⟨C, T, N, hq, h2.1.1.1, bwk_in h2.1.1.2, bwk_in h2.1.2, bwk_in h2.2⟩
    · cases h2
  | newarray t =>
    obtain ⟨h1, h2⟩ := Bool.and_eq_true_iff.mp h
    refine ⟨bwk_in h1, ?_⟩
    cases t <;> first | cases h2 | (have h3 := of_decide_eq_true h2; simp [h3]; done) | (simp at h2; simp [h2]; done)
  | anewarray ix =>
    have h : (if a = 4 then bwk ln (.classLink own ix "Boxedvalue$Box") else decide (a = 5) && bwk ln (.classLink own ix "Boxedvalue$Formula")) = true := h
    split at h
    · rename_i ha
      exact Or.inl ⟨bwk_in h, ha⟩
    · obtain ⟨h1, h2⟩ := Bool.and_eq_true_iff.mp h
      exact Or.inr ⟨bwk_in h2, of_decide_eq_true h1⟩
  | invokespecial ix =>
    intro hv
    have hv : v = 1 := hv
    subst hv
    exact ⟨bwk_in h, hobj.1, hobj.2⟩
  | _ => trivial
theorem bchkM_ok {M : Nat → bM} {mj : bmj} {mi : Nat} (h : bchkM M mj mi = true) : (M mi).1.cls ≠ "java/lang/invoke/MethodHandle" ∧ (M mi).1.cls ≠ "java/lang/invoke/VarHandle" ∧ (parseMethodDescriptor (M mi).1.desc).map (fun d => d.parameters.length) = some (mj mi).2.2.2.2 ∧ bHead (M mi) ∈ bw_G ∧ Jvm.Cond.initialized (M mi).1.cls ∈ bw_G := by
  unfold bchkM at h
  simp only [Bool.and_eq_true, decide_eq_true_eq] at h
  exact ⟨h.1.1.1.1, h.1.1.1.2, h.1.1.2, bwk_in h.1.2, bwk_in h.2⟩
theorem bchkC_ok {P : bP} {mj : bmj} {own : String} {o : bO} (h : bchkC P.2.1 mj own o = true) : bOkC P own o := by
  obtain ⟨ins, ln, a, b, v⟩ := o
  cases ins with
  | invokevirtual ix =>
    have h : bchkV P.2.1 mj own ix ln a b v = true := h
    unfold bchkV at h
    simp only [Bool.and_eq_true, decide_eq_true_eq] at h
    obtain ⟨⟨⟨⟨⟨⟨h1, h2⟩, h3⟩, h4⟩, h5⟩, h6⟩, h7⟩ := h
    obtain ⟨m1, m2, m3, m4, m5⟩ := bchkM_ok h1
    refine ⟨m1, m2, by rw [m3, h2], ?_, bwk_in h4, bwk_in h5, bwk_in h6, m5, List.isEmpty_iff.mp h7, m4⟩
    split at h3
    · rename_i q hq
      obtain ⟨C, T, N⟩ := q
      have h3 : C = (P.2.1 a).1.cls := of_decide_eq_true h3
      subst h3
      exact ⟨T, N, hq⟩
    · cases h3
  | invokestatic ix =>
    have h : bchkS P.2.1 mj own ix ln a b v = true := h
    unfold bchkS at h
    simp only [Bool.and_eq_true, Bool.or_eq_true, decide_eq_true_eq] at h
    obtain ⟨⟨⟨h1, h2⟩, h3⟩, h4⟩ := h
    obtain ⟨m1, m2, m3, m4, m5⟩ := bchkM_ok h1
    refine ⟨m1, m2, by rw [m3, h2], ?_, bwk_in h4, m5, m4⟩
    rcases h3 with ⟨h5, h6⟩ | ⟨⟨h5, h6⟩, h7⟩
    · exact Or.inl ⟨bwk_in h5, h6⟩
    · exact Or.inr ⟨⟨_, h5⟩, h6, List.isEmpty_iff.mp h7⟩
  | invokespecial ix =>
    intro hv
    have hv : v = 0 := hv
    subst hv
    have h : bchkI P.2.1 mj own ix ln a b = true := h
    unfold bchkI at h
    simp only [Bool.and_eq_true, decide_eq_true_eq] at h
    obtain ⟨⟨⟨⟨⟨⟨h1, h2⟩, h3⟩, h4⟩, h5⟩, h6⟩, h7⟩ := h
    obtain ⟨m1, m2, m3, m4, m5⟩ := bchkM_ok h1
    exact ⟨h3, h4, m1, m2, by rw [m3, h2], bwk_in h5, bwk_in h6, m5, List.isEmpty_iff.mp h7, m4⟩
  | _ => trivial
end
