/-! THE START: what holds at the law's entry, for the reader. -/
def bTENS : List Int64 := [1, 10, 100, 1000, 10000, 100000, 1000000, 10000000, 100000000, 1000000000, 10000000000, 100000000000, 1000000000000, 10000000000000, 100000000000000, 1000000000000000, 10000000000000000, 100000000000000000, 1000000000000000000]
def bLOGS : List Int32 := [144723770, 286202475, 40420263, 580606132, 816434842, 60624621, 858107802, 935378723, 55147264, 340098946, 926659222, 171850256, 963589623, 982574749, 532999161, 831669494, 483641758, 271933715, 399414725, 140379777, 977489846, 137824345, 689368453, 362905493, 96014427, 749202171, 619669006, 532590180, 628419511, 446287102, 27227338, 640471136, 934870841, 516807224, 764547836, 523248143, 481723062, 192512376, 529205333, 514343546, 746692789, 594707107, 39570955, 147938393, 709650938, 260235838, 245365008, 661398482, 360255254, 75500134, 458176568, 417232121, 559945309, 693147180]
def bARCS : List Int32 := [0, 0, 0, 0, 0, 0, 769804089, 573170191, 163871025, 31354849, 546761435, 124354994, 381184067, 914144098, 211275810, 172082481, 126864154, 244978663, 880915779, 776975655, 926460499, 395920063, 270572220, 358770670, 286120263, 28537054, 461214402, 214256231, 806116, 463647609, 534014806, 346447582, 401661270, 971508216, 343562435, 558599315, 115312382, 41510591, 717322638, 802809228, 793284386, 643501108, 18317085, 951419120, 525904653, 417014151, 621624505, 718829999, 843776455, 49292349, 819875721, 615660845, 397448309, 785398163]
def bE (scr : List Int32) (j : Nat) : bC := match j with
  | 0 => .inr (.inr (.inl bTENS))
  | 1 => .inr (.inl (1, scr))
  | 2 => .inr (.inl (1, bLOGS))
  | 3 => .inr (.inl (1, bARCS))
  | _ => .inl (0, [])
abbrev bexs : List String := bwC
def bcok (x n : String) : Option Bool := if x ∈ bexs ∧ n ∈ bexs then some (decide (x = n)) else none
def bncs : List (String × String) := bexs.flatMap (fun x => (bexs.filter (fun n => decide (x ≠ n))).map (fun n => (x, n)))
noncomputable def bPr (scr : List Int32) : bP := (bop, bmeth, bE scr, bcok, fun x => ((bexx x).1, (bexx x).2.1))
theorem bstart_in0 : ∀ w ∈ u_ws RJ0 TJ0 2, w ∈ lw_tbl := sorry
theorem bstart_inst0 : (Jvm.Cond.instantiable RJ0 4) ∈ lw_tbl := sorry
theorem bstart_in1 : ∀ w ∈ u_ws RJx00060 TJx00060 6, w ∈ lw_tbl := sorry
theorem bstart_inst1 : (Jvm.Cond.instantiable RJx00060 6) ∈ lw_tbl := sorry
theorem bstart_in2 : ∀ w ∈ u_ws RX0 TX0 6, w ∈ lw_tbl := sorry
theorem bstart_inst2 : (Jvm.Cond.instantiable RX0 6) ∈ lw_tbl := sorry
theorem bstart_in3 : ∀ w ∈ u_ws RX1 TX1 2, w ∈ lw_tbl := sorry
theorem bstart_inst3 : (Jvm.Cond.instantiable RX1 2) ∈ lw_tbl := sorry
theorem bstart_in4 : ∀ w ∈ u_ws RX2 TX2 2, w ∈ lw_tbl := sorry
theorem bstart_inst4 : (Jvm.Cond.instantiable RX2 2) ∈ lw_tbl := sorry
theorem bstart_in5 : ∀ w ∈ u_ws RX3 TX3 13, w ∈ lw_tbl := sorry
theorem bstart_inst5 : (Jvm.Cond.instantiable RX3 13) ∈ lw_tbl := sorry
theorem bstart_in6 : ∀ w ∈ u_ws RX4 TX4 2, w ∈ lw_tbl := sorry
theorem bstart_inst6 : (Jvm.Cond.instantiable RX4 2) ∈ lw_tbl := sorry
theorem bstart_in7 : ∀ w ∈ u_ws RX5 TX5 12, w ∈ lw_tbl := sorry
theorem bstart_inst7 : (Jvm.Cond.instantiable RX5 12) ∈ lw_tbl := sorry
theorem bstart_in8 : ∀ w ∈ u_ws RX6 TX6 8, w ∈ lw_tbl := sorry
theorem bstart_inst8 : (Jvm.Cond.instantiable RX6 8) ∈ lw_tbl := sorry
theorem bstart_in9 : ∀ w ∈ u_ws RX7 TX7 4, w ∈ lw_tbl := sorry
theorem bstart_inst9 : (Jvm.Cond.instantiable RX7 4) ∈ lw_tbl := sorry
theorem bstart_in10 : ∀ w ∈ u_ws RX8 TX8 13, w ∈ lw_tbl := sorry
theorem bstart_inst10 : (Jvm.Cond.instantiable RX8 13) ∈ lw_tbl := sorry
theorem bstart_in11 : ∀ w ∈ u_ws RX9 TX9 7, w ∈ lw_tbl := sorry
theorem bstart_inst11 : (Jvm.Cond.instantiable RX9 7) ∈ lw_tbl := sorry
theorem bstart_in12 : ∀ w ∈ u_ws RX10 TX10 2, w ∈ lw_tbl := sorry
theorem bstart_inst12 : (Jvm.Cond.instantiable RX10 2) ∈ lw_tbl := sorry
theorem bstart_in13 : ∀ w ∈ u_ws RX11 TX11 17, w ∈ lw_tbl := sorry
theorem bstart_inst13 : (Jvm.Cond.instantiable RX11 17) ∈ lw_tbl := sorry
theorem bstart_in14 : ∀ w ∈ u_ws RX12 TX12 43, w ∈ lw_tbl := sorry
theorem bstart_inst14 : (Jvm.Cond.instantiable RX12 43) ∈ lw_tbl := sorry
theorem bstart_known {s : State} {args : Array Value} (hts : ∀ w ∈ lw_tbl, w.before args s = true) : ∃ D : va_G, ∀ (k : Nat) (q : vw_C), vwCl[k]? = some q → u_Kn s q.1 q.2.1 q.2.2 (D.1 k) (D.2 k) := sorry
theorem bstart_prim {s : State} {args : Array Value} {ty : FieldType} (h : (Jvm.Cond.arrayClass ty).before args s = true) (hty : va_RA s 0 ty = (s.vm.findClass ("[" ++ ty.toString) = some 0)) : True := trivial
theorem bstart_arr {s : State} {args : Array Value} (hts : ∀ w ∈ lw_tbl, w.before args s = true) : ∃ cy : Nat → ClassId, ∀ (k : Nat) (q : ClassId × FieldType), (b_tys cy)[k]? = some q → ArrOfT s q.1 q.2 ∧ va_RA s q.1 q.2 := sorry
theorem bstart_bTENS : ((List.range 19).all (fun j => decide (Jvm.Cond.eq (.elem (.static "Boxedvalue" "TENS" "[J") (.int (Int32.ofNat j))) (.long (bTENS.getD j 0)) ∈ flatC narrow_1))) = true := by decide +kernel
theorem bstart_bLOGS : ((List.range 54).all (fun j => decide (Jvm.Cond.eq (.elem (.static "Boxedvalue$Curves" "LOGS" "[I") (.int (Int32.ofNat j))) (.int (bLOGS.getD j 0)) ∈ flatC narrow_1))) = true := by decide +kernel
theorem bstart_bARCS : ((List.range 54).all (fun j => decide (Jvm.Cond.eq (.elem (.static "Boxedvalue$Curves" "ARCS" "[I") (.int (Int32.ofNat j))) (.int (bARCS.getD j 0)) ∈ flatC narrow_1))) = true := by decide +kernel
theorem bstart_nc : ((bncs).all (fun q => decide (Jvm.Cond.not (.castable q.1 q.2) ∈ flatC narrow_1))) = true := sorry
theorem bstart_str : (bstr.all (fun q => decide (Jvm.Cond.stringRef q.1 q.2.1 q.2.2 ∈ lw_tbl) && decide (q.1 = RX11))) = true := sorry
theorem bstart_D : (bwD.all (fun x => decide (Jvm.Cond.declares x ∈ lw_tbl))) = true := sorry
theorem bstart_N : (bwN.all (fun q => decide (Jvm.Cond.fieldLinkNest q.1 q.2.1 q.2.2.1 q.2.2.2.1 q.2.2.2.2.1 q.2.2.2.2.2 ∈ lw_tbl))) = true := sorry
theorem bstart_M : (bwM.all (fun q => decide (Jvm.Cond.methodLinkNest q.1 q.2.1 q.2.2.1 q.2.2.2 ∈ lw_tbl))) = true := sorry
theorem bstart_C : (bwC.all (fun x => decide (Jvm.Cond.castable x x ∈ lw_tbl))) = true := sorry
def brecA (q : Nat × Nat × String × List Int32) : Bool := decide (Jvm.Cond.stringRef "Boxedvalue$Machine" q.2.1 q.2.2.1 ∈ lw_tbl)
def brecB (q : Nat × Nat × String × List Int32) : Bool := decide (Jvm.Cond.exactly (.string "Boxedvalue$Machine" q.2.1) "java/lang/String" ∈ flatC narrow_1) && (decide (Jvm.Cond.eq (.field (.string "Boxedvalue$Machine" q.2.1) "java/lang/String" "coder" "B") (.int 0) ∈ flatC narrow_1) && (decide (Jvm.Cond.arrayOf (.field (.string "Boxedvalue$Machine" q.2.1) "java/lang/String" "value" "[B") .byte ∈ flatC narrow_1) && decide (Jvm.Cond.eq (.length (.field (.string "Boxedvalue$Machine" q.2.1) "java/lang/String" "value" "[B")) (.int (Int32.ofNat q.2.2.2.length)) ∈ flatC narrow_1)))
def brecC (q : Nat × Nat × String × List Int32) : Bool := (List.range q.2.2.2.length).all (fun j => decide (Jvm.Cond.eq (.elem (.field (.string "Boxedvalue$Machine" q.2.1) "java/lang/String" "value" "[B") (.int (Int32.ofNat j))) (.int (q.2.2.2.getD j 0)) ∈ flatC narrow_1))
theorem brecA_all : brec.all brecA = true := sorry
theorem brecB_4 : brecB (4, 169, "1", [49]) = true := sorry
theorem brecC_4 : brecC (4, 169, "1", [49]) = true := sorry
theorem brecB_5 : brecB (5, 171, "UV+", [85, 86, 43]) = true := sorry
theorem brecC_5 : brecC (5, 171, "UV+", [85, 86, 43]) = true := sorry
theorem brecB_6 : brecB (6, 173, "UV-", [85, 86, 45]) = true := sorry
theorem brecC_6 : brecC (6, 173, "UV-", [85, 86, 45]) = true := sorry
theorem brecB_7 : brecB (7, 175, "Uv*uV*+", [85, 118, 42, 117, 86, 42, 43]) = true := sorry
theorem brecC_7 : brecC (7, 175, "Uv*uV*+", [85, 118, 42, 117, 86, 42, 43]) = true := sorry
theorem brecB_8 : brecB (8, 177, "Uuv/V*-v/", [85, 117, 118, 47, 86, 42, 45, 118, 47]) = true := sorry
theorem brecC_8 : brecC (8, 177, "Uuv/V*-v/", [85, 117, 118, 47, 86, 42, 45, 118, 47]) = true := sorry
theorem brecB_9 : brecB (9, 179, "0", [48]) = true := sorry
theorem brecC_9 : brecC (9, 179, "0", [48]) = true := sorry
theorem brecB_10 : brecB (10, 181, "nu^*U*", [110, 117, 94, 42, 85, 42]) = true := sorry
theorem brecC_10 : brecC (10, 181, "nu^*U*", [110, 117, 94, 42, 85, 42]) = true := sorry
theorem brecB_11 : brecB (11, 183, "U~", [85, 126]) = true := sorry
theorem brecC_11 : brecC (11, 183, "U~", [85, 126]) = true := sorry
theorem brecB_12 : brecB (12, 185, "U2ur*/", [85, 50, 117, 114, 42, 47]) = true := sorry
theorem brecC_12 : brecC (12, 185, "U2ur*/", [85, 50, 117, 114, 42, 47]) = true := sorry
theorem brecB_13 : brecB (13, 187, "ueU*", [117, 101, 85, 42]) = true := sorry
theorem brecC_13 : brecC (13, 187, "ueU*", [117, 101, 85, 42]) = true := sorry
theorem brecB_14 : brecB (14, 189, "Uu/", [85, 117, 47]) = true := sorry
theorem brecC_14 : brecC (14, 189, "Uu/", [85, 117, 47]) = true := sorry
theorem brecB_15 : brecB (15, 191, "U1uq+/", [85, 49, 117, 113, 43, 47]) = true := sorry
theorem brecC_15 : brecC (15, 191, "U1uq+/", [85, 49, 117, 113, 43, 47]) = true := sorry
theorem bstart_rec (q : Nat × Nat × String × List Int32) (hq : q ∈ brec) : Jvm.Cond.stringRef "Boxedvalue$Machine" q.2.1 q.2.2.1 ∈ lw_tbl ∧ (Jvm.Cond.exactly (.string "Boxedvalue$Machine" q.2.1) "java/lang/String" ∈ flatC narrow_1 ∧ Jvm.Cond.eq (.field (.string "Boxedvalue$Machine" q.2.1) "java/lang/String" "coder" "B") (.int 0) ∈ flatC narrow_1 ∧ Jvm.Cond.arrayOf (.field (.string "Boxedvalue$Machine" q.2.1) "java/lang/String" "value" "[B") .byte ∈ flatC narrow_1 ∧ Jvm.Cond.eq (.length (.field (.string "Boxedvalue$Machine" q.2.1) "java/lang/String" "value" "[B")) (.int (Int32.ofNat q.2.2.2.length)) ∈ flatC narrow_1) ∧ (∀ j, j < q.2.2.2.length → Jvm.Cond.eq (.elem (.field (.string "Boxedvalue$Machine" q.2.1) "java/lang/String" "value" "[B") (.int (Int32.ofNat j))) (.int (q.2.2.2.getD j 0)) ∈ flatC narrow_1) := by
  have h1 : brecB q = true ∧ brecC q = true := by
    simp only [brec, List.mem_cons, List.not_mem_nil, or_false] at hq
    rcases hq with rfl | rfl | rfl | rfl | rfl | rfl | rfl | rfl | rfl | rfl | rfl | rfl
    · exact ⟨brecB_4, brecC_4⟩
    · exact ⟨brecB_5, brecC_5⟩
    · exact ⟨brecB_6, brecC_6⟩
    · exact ⟨brecB_7, brecC_7⟩
    · exact ⟨brecB_8, brecC_8⟩
    · exact ⟨brecB_9, brecC_9⟩
    · exact ⟨brecB_10, brecC_10⟩
    · exact ⟨brecB_11, brecC_11⟩
    · exact ⟨brecB_12, brecC_12⟩
    · exact ⟨brecB_13, brecC_13⟩
    · exact ⟨brecB_14, brecC_14⟩
    · exact ⟨brecB_15, brecC_15⟩
  have hA := of_decide_eq_true (List.all_eq_true.mp brecA_all q hq)
  have hB := h1.1
  unfold brecB at hB
  rw [Bool.and_eq_true, Bool.and_eq_true, Bool.and_eq_true] at hB
  exact ⟨hA, ⟨of_decide_eq_true hB.1, of_decide_eq_true hB.2.1, of_decide_eq_true hB.2.2.1, of_decide_eq_true hB.2.2.2⟩, fun j hj => of_decide_eq_true (List.all_eq_true.mp h1.2 j (List.mem_range.mpr hj))⟩
theorem brec_one : ∀ q ∈ brec, ∀ r ∈ brec, q.1 = r.1 → q = r := sorry
theorem brec_j : ∀ q ∈ brec, 4 ≤ q.1 := sorry
theorem bstart_K {s : State} {args : Array Value} {b L : Nat} {xs : Nat → Int32} (hL : L < 2 ^ 31) (hts : ∀ w ∈ lw_tbl, w.before args s = true) (hfl : ∀ w ∈ flatC narrow_1, w.before args s = true) (hX : va_X b L xs s s.heap) (hbl : b < s.heap.size) :
    ∃ K : KE, K.B = s.heap.size ∧ K.X 1 = b ∧ K.str = bstr ∧ K.nc = bncs ∧ bK K s ∧ bEok K (bE ((List.range L).map xs)) := sorry
