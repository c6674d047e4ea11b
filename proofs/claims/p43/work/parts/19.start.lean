/-! THE START: what holds at the law's entry, for the reader. -/
def bTENS : List Int64 := [1, 10, 100, 1000, 10000, 100000, 1000000, 10000000, 100000000, 1000000000, 10000000000, 100000000000, 1000000000000, 10000000000000, 100000000000000, 1000000000000000, 10000000000000000, 100000000000000000, 1000000000000000000]
def bLOGS : List Int32 := [144723770, 286202475, 40420263, 580606132, 816434842, 60624621, 858107802, 935378723, 55147264, 340098946, 926659222, 171850256, 963589623, 982574749, 532999161, 831669494, 483641758, 271933715, 399414725, 140379777, 977489846, 137824345, 689368453, 362905493, 96014427, 749202171, 619669006, 532590180, 628419511, 446287102, 27227338, 640471136, 934870841, 516807224, 764547836, 523248143, 481723062, 192512376, 529205333, 514343546, 746692789, 594707107, 39570955, 147938393, 709650938, 260235838, 245365008, 661398482, 360255254, 75500134, 458176568, 417232121, 559945309, 693147180]
def bARCS : List Int32 := [0, 0, 0, 0, 0, 0, 769804089, 573170191, 163871025, 31354849, 546761435, 124354994, 381184067, 914144098, 211275810, 172082481, 126864154, 244978663, 880915779, 776975655, 926460499, 395920063, 270572220, 358770670, 286120263, 28537054, 461214402, 214256231, 806116, 463647609, 534014806, 346447582, 401661270, 971508216, 343562435, 558599315, 115312382, 41510591, 717322638, 802809228, 793284386, 643501108, 18317085, 951419120, 525904653, 417014151, 621624505, 718829999, 843776455, 49292349, 819875721, 615660845, 397448309, 785398163]
def bE (scr : List Int32) (j : Nat) : bC := match j with
  | 0 => .inr (.inr (.inl bTENS))
  | 1 => .inr (.inl (1, scr))
  | 2 => .inr (.inl (1, bLOGS))
  | 3 => .inr (.inl (1, bARCS))
  | _ => .inl (0, [])
abbrev bexs : List String := bwC
def bcok (x n : String) : Option Bool := if x ∈ bexs ∧ n ∈ bexs then some (decide (x = n)) else none
def bncs : List (String × String) := bexs.flatMap (fun x => (bexs.filter (fun n => decide (x ≠ n))).map (fun n => (x, n)))
noncomputable def bPr (scr : List Int32) : bP := (bop, bmeth, bE scr, bcok, fun x => ((bexx x).1, (bexx x).2.1))
theorem bstart_in0 : ∀ w ∈ u_ws RJ0 TJ0 2, w ∈ lw_tbl := by decide +kernel
theorem bstart_inst0 : (Jvm.Cond.instantiable RJ0 4) ∈ lw_tbl := by decide +kernel
theorem bstart_in1 : ∀ w ∈ u_ws RJx00060 TJx00060 6, w ∈ lw_tbl := by decide +kernel
theorem bstart_inst1 : (Jvm.Cond.instantiable RJx00060 6) ∈ lw_tbl := by decide +kernel
theorem bstart_in2 : ∀ w ∈ u_ws RX0 TX0 6, w ∈ lw_tbl := by decide +kernel
theorem bstart_inst2 : (Jvm.Cond.instantiable RX0 6) ∈ lw_tbl := by decide +kernel
theorem bstart_in3 : ∀ w ∈ u_ws RX1 TX1 2, w ∈ lw_tbl := by decide +kernel
theorem bstart_inst3 : (Jvm.Cond.instantiable RX1 2) ∈ lw_tbl := by decide +kernel
theorem bstart_in4 : ∀ w ∈ u_ws RX2 TX2 2, w ∈ lw_tbl := by decide +kernel
theorem bstart_inst4 : (Jvm.Cond.instantiable RX2 2) ∈ lw_tbl := by decide +kernel
theorem bstart_in5 : ∀ w ∈ u_ws RX3 TX3 13, w ∈ lw_tbl := by decide +kernel
theorem bstart_inst5 : (Jvm.Cond.instantiable RX3 13) ∈ lw_tbl := by decide +kernel
theorem bstart_in6 : ∀ w ∈ u_ws RX4 TX4 2, w ∈ lw_tbl := by decide +kernel
theorem bstart_inst6 : (Jvm.Cond.instantiable RX4 2) ∈ lw_tbl := by decide +kernel
theorem bstart_in7 : ∀ w ∈ u_ws RX5 TX5 12, w ∈ lw_tbl := by decide +kernel
theorem bstart_inst7 : (Jvm.Cond.instantiable RX5 12) ∈ lw_tbl := by decide +kernel
theorem bstart_in8 : ∀ w ∈ u_ws RX6 TX6 8, w ∈ lw_tbl := by decide +kernel
theorem bstart_inst8 : (Jvm.Cond.instantiable RX6 8) ∈ lw_tbl := by decide +kernel
theorem bstart_in9 : ∀ w ∈ u_ws RX7 TX7 4, w ∈ lw_tbl := by decide +kernel
theorem bstart_inst9 : (Jvm.Cond.instantiable RX7 4) ∈ lw_tbl := by decide +kernel
theorem bstart_in10 : ∀ w ∈ u_ws RX8 TX8 13, w ∈ lw_tbl := by decide +kernel
theorem bstart_inst10 : (Jvm.Cond.instantiable RX8 13) ∈ lw_tbl := by decide +kernel
theorem bstart_in11 : ∀ w ∈ u_ws RX9 TX9 7, w ∈ lw_tbl := by decide +kernel
theorem bstart_inst11 : (Jvm.Cond.instantiable RX9 7) ∈ lw_tbl := by decide +kernel
theorem bstart_in12 : ∀ w ∈ u_ws RX10 TX10 2, w ∈ lw_tbl := by decide +kernel
theorem bstart_inst12 : (Jvm.Cond.instantiable RX10 2) ∈ lw_tbl := by decide +kernel
theorem bstart_in13 : ∀ w ∈ u_ws RX11 TX11 17, w ∈ lw_tbl := by decide +kernel
theorem bstart_inst13 : (Jvm.Cond.instantiable RX11 17) ∈ lw_tbl := by decide +kernel
theorem bstart_in14 : ∀ w ∈ u_ws RX12 TX12 43, w ∈ lw_tbl := by decide +kernel
theorem bstart_inst14 : (Jvm.Cond.instantiable RX12 43) ∈ lw_tbl := by decide +kernel
theorem bstart_known {s : State} {args : Array Value} (hts : ∀ w ∈ lw_tbl, w.before args s = true) : ∃ D : va_G, ∀ (k : Nat) (q : vw_C), vwCl[k]? = some q → u_Kn s q.1 q.2.1 q.2.2 (D.1 k) (D.2 k) := by
  obtain ⟨c0, s0, h0⟩ := u_known hts bstart_in0 (hts _ bstart_inst0)
  obtain ⟨c1, s1, h1⟩ := u_known hts bstart_in1 (hts _ bstart_inst1)
  obtain ⟨c2, s2, h2⟩ := u_known hts bstart_in2 (hts _ bstart_inst2)
  obtain ⟨c3, s3, h3⟩ := u_known hts bstart_in3 (hts _ bstart_inst3)
  obtain ⟨c4, s4, h4⟩ := u_known hts bstart_in4 (hts _ bstart_inst4)
  obtain ⟨c5, s5, h5⟩ := u_known hts bstart_in5 (hts _ bstart_inst5)
  obtain ⟨c6, s6, h6⟩ := u_known hts bstart_in6 (hts _ bstart_inst6)
  obtain ⟨c7, s7, h7⟩ := u_known hts bstart_in7 (hts _ bstart_inst7)
  obtain ⟨c8, s8, h8⟩ := u_known hts bstart_in8 (hts _ bstart_inst8)
  obtain ⟨c9, s9, h9⟩ := u_known hts bstart_in9 (hts _ bstart_inst9)
  obtain ⟨c10, s10, h10⟩ := u_known hts bstart_in10 (hts _ bstart_inst10)
  obtain ⟨c11, s11, h11⟩ := u_known hts bstart_in11 (hts _ bstart_inst11)
  obtain ⟨c12, s12, h12⟩ := u_known hts bstart_in12 (hts _ bstart_inst12)
  obtain ⟨c13, s13, h13⟩ := u_known hts bstart_in13 (hts _ bstart_inst13)
  obtain ⟨c14, s14, h14⟩ := u_known hts bstart_in14 (hts _ bstart_inst14)
  refine ⟨(fun k => if k = 0 then c0 else if k = 1 then c1 else if k = 2 then c2 else if k = 3 then c3 else if k = 4 then c4 else if k = 5 then c5 else if k = 6 then c6 else if k = 7 then c7 else if k = 8 then c8 else if k = 9 then c9 else if k = 10 then c10 else if k = 11 then c11 else if k = 12 then c12 else if k = 13 then c13 else c14, fun k => if k = 0 then s0 else if k = 1 then s1 else if k = 2 then s2 else if k = 3 then s3 else if k = 4 then s4 else if k = 5 then s5 else if k = 6 then s6 else if k = 7 then s7 else if k = 8 then s8 else if k = 9 then s9 else if k = 10 then s10 else if k = 11 then s11 else if k = 12 then s12 else if k = 13 then s13 else s14), ?_⟩
  intro k q hq
  match k, hq with
  | 0, hq => cases hq; exact h0
  | 1, hq => cases hq; exact h1
  | 2, hq => cases hq; exact h2
  | 3, hq => cases hq; exact h3
  | 4, hq => cases hq; exact h4
  | 5, hq => cases hq; exact h5
  | 6, hq => cases hq; exact h6
  | 7, hq => cases hq; exact h7
  | 8, hq => cases hq; exact h8
  | 9, hq => cases hq; exact h9
  | 10, hq => cases hq; exact h10
  | 11, hq => cases hq; exact h11
  | 12, hq => cases hq; exact h12
  | 13, hq => cases hq; exact h13
  | 14, hq => cases hq; exact h14
  | k + 15, hq => simp [vwCl] at hq
theorem bstart_prim {s : State} {args : Array Value} {ty : FieldType} (h : (Jvm.Cond.arrayClass ty).before args s = true) (hty : va_RA s 0 ty = (s.vm.findClass ("[" ++ ty.toString) = some 0)) : True := trivial
theorem bstart_arr {s : State} {args : Array Value} (hts : ∀ w ∈ lw_tbl, w.before args s = true) : ∃ cy : Nat → ClassId, ∀ (k : Nat) (q : ClassId × FieldType), (b_tys cy)[k]? = some q → ArrOfT s q.1 q.2 ∧ va_RA s q.1 q.2 := by
  obtain ⟨c0, k0, p0, n0, g0, e0⟩ := Cond.arrayClass_spec (hts (.arrayClass .char) (by decide +kernel))
  obtain ⟨c1, k1, p1, n1, g1, e1⟩ := Cond.arrayClass_spec (hts (.arrayClass .int) (by decide +kernel))
  obtain ⟨c2, k2, p2, n2, g2, e2⟩ := Cond.arrayClass_spec (hts (.arrayClass .long) (by decide +kernel))
  obtain ⟨c3, k3, p3, n3, g3, e3⟩ := Cond.arrayClass_spec (hts (.arrayClass .boolean) (by decide +kernel))
  obtain ⟨p4, c4, k4, m4, -, g4, e4, n4⟩ := Cond.arrayOver_spec (hts (.arrayOver (.object "Boxedvalue$Box")) (by decide +kernel))
  obtain ⟨p5, c5, k5, m5, -, g5, e5, n5⟩ := Cond.arrayOver_spec (hts (.arrayOver (.object "Boxedvalue$Formula")) (by decide +kernel))
  refine ⟨fun k => if k = 0 then c0 else if k = 1 then c1 else if k = 2 then c2 else if k = 3 then c3 else if k = 4 then c4 else c5, ?_⟩
  intro k q hq
  match k, hq with
  | 0, hq => cases hq; exact ⟨fun n z => ⟨fun k h => (by cases h), k0, g0, p0, e0⟩, n0⟩
  | 1, hq => cases hq; exact ⟨fun n z => ⟨fun k h => (by cases h), k1, g1, p1, e1⟩, n1⟩
  | 2, hq => cases hq; exact ⟨fun n z => ⟨fun k h => (by cases h), k2, g2, p2, e2⟩, n2⟩
  | 3, hq => cases hq; exact ⟨fun n z => ⟨fun k h => (by cases h), k3, g3, p3, e3⟩, n3⟩
  | 4, hq => cases hq; exact ⟨fun n z => ⟨fun k h => (by cases h), k4, g4, p4, e4⟩, k4, p4, g4, e4, m4, n4⟩
  | 5, hq => cases hq; exact ⟨fun n z => ⟨fun k h => (by cases h), k5, g5, p5, e5⟩, k5, p5, g5, e5, m5, n5⟩
  | k + 6, hq => simp [b_tys] at hq
theorem bstart_bTENS : ((List.range 19).all (fun j => decide (Jvm.Cond.eq (.elem (.static "Boxedvalue" "TENS" "[J") (.int (Int32.ofNat j))) (.long (bTENS.getD j 0)) ∈ flatC narrow_1))) = true := by decide +kernel
theorem bstart_bLOGS : ((List.range 54).all (fun j => decide (Jvm.Cond.eq (.elem (.static "Boxedvalue$Curves" "LOGS" "[I") (.int (Int32.ofNat j))) (.int (bLOGS.getD j 0)) ∈ flatC narrow_1))) = true := by decide +kernel
theorem bstart_bARCS : ((List.range 54).all (fun j => decide (Jvm.Cond.eq (.elem (.static "Boxedvalue$Curves" "ARCS" "[I") (.int (Int32.ofNat j))) (.int (bARCS.getD j 0)) ∈ flatC narrow_1))) = true := by decide +kernel
theorem bstart_nc : ((bncs).all (fun q => decide (Jvm.Cond.not (.castable q.1 q.2) ∈ flatC narrow_1))) = true := by decide +kernel
theorem bstart_str : (bstr.all (fun q => decide (Jvm.Cond.stringRef q.1 q.2.1 q.2.2 ∈ lw_tbl) && decide (q.1 = RX11))) = true := by decide +kernel
theorem bstart_D : (bwD.all (fun x => decide (Jvm.Cond.declares x ∈ lw_tbl))) = true := by decide +kernel
theorem bstart_N : (bwN.all (fun q => decide (Jvm.Cond.fieldLinkNest q.1 q.2.1 q.2.2.1 q.2.2.2.1 q.2.2.2.2.1 q.2.2.2.2.2 ∈ lw_tbl))) = true := by decide +kernel
theorem bstart_M : (bwM.all (fun q => decide (Jvm.Cond.methodLinkNest q.1 q.2.1 q.2.2.1 q.2.2.2 ∈ lw_tbl))) = true := by decide +kernel
theorem bstart_C : (bwC.all (fun x => decide (Jvm.Cond.castable x x ∈ lw_tbl))) = true := by decide +kernel
def brecA (q : Nat × Nat × String × List Int32) : Bool := decide (Jvm.Cond.stringRef "Boxedvalue$Machine" q.2.1 q.2.2.1 ∈ lw_tbl)
def brecB (q : Nat × Nat × String × List Int32) : Bool := decide (Jvm.Cond.exactly (.string "Boxedvalue$Machine" q.2.1) "java/lang/String" ∈ flatC narrow_1) && (decide (Jvm.Cond.eq (.field (.string "Boxedvalue$Machine" q.2.1) "java/lang/String" "coder" "B") (.int 0) ∈ flatC narrow_1) && (decide (Jvm.Cond.arrayOf (.field (.string "Boxedvalue$Machine" q.2.1) "java/lang/String" "value" "[B") .byte ∈ flatC narrow_1) && decide (Jvm.Cond.eq (.length (.field (.string "Boxedvalue$Machine" q.2.1) "java/lang/String" "value" "[B")) (.int (Int32.ofNat q.2.2.2.length)) ∈ flatC narrow_1)))
def brecC (q : Nat × Nat × String × List Int32) : Bool := (List.range q.2.2.2.length).all (fun j => decide (Jvm.Cond.eq (.elem (.field (.string "Boxedvalue$Machine" q.2.1) "java/lang/String" "value" "[B") (.int (Int32.ofNat j))) (.int (q.2.2.2.getD j 0)) ∈ flatC narrow_1))
theorem brecA_all : brec.all brecA = true := by decide +kernel
theorem brecB_4 : brecB (4, 169, "1", [49]) = true := by decide +kernel
theorem brecC_4 : brecC (4, 169, "1", [49]) = true := by decide +kernel
theorem brecB_5 : brecB (5, 171, "UV+", [85, 86, 43]) = true := by decide +kernel
theorem brecC_5 : brecC (5, 171, "UV+", [85, 86, 43]) = true := by decide +kernel
theorem brecB_6 : brecB (6, 173, "UV-", [85, 86, 45]) = true := by decide +kernel
theorem brecC_6 : brecC (6, 173, "UV-", [85, 86, 45]) = true := by decide +kernel
theorem brecB_7 : brecB (7, 175, "Uv*uV*+", [85, 118, 42, 117, 86, 42, 43]) = true := by decide +kernel
theorem brecC_7 : brecC (7, 175, "Uv*uV*+", [85, 118, 42, 117, 86, 42, 43]) = true := by decide +kernel
theorem brecB_8 : brecB (8, 177, "Uuv/V*-v/", [85, 117, 118, 47, 86, 42, 45, 118, 47]) = true := by decide +kernel
theorem brecC_8 : brecC (8, 177, "Uuv/V*-v/", [85, 117, 118, 47, 86, 42, 45, 118, 47]) = true := by decide +kernel
theorem brecB_9 : brecB (9, 179, "0", [48]) = true := by decide +kernel
theorem brecC_9 : brecC (9, 179, "0", [48]) = true := by decide +kernel
theorem brecB_10 : brecB (10, 181, "nu^*U*", [110, 117, 94, 42, 85, 42]) = true := by decide +kernel
theorem brecC_10 : brecC (10, 181, "nu^*U*", [110, 117, 94, 42, 85, 42]) = true := by decide +kernel
theorem brecB_11 : brecB (11, 183, "U~", [85, 126]) = true := by decide +kernel
theorem brecC_11 : brecC (11, 183, "U~", [85, 126]) = true := by decide +kernel
theorem brecB_12 : brecB (12, 185, "U2ur*/", [85, 50, 117, 114, 42, 47]) = true := by decide +kernel
theorem brecC_12 : brecC (12, 185, "U2ur*/", [85, 50, 117, 114, 42, 47]) = true := by decide +kernel
theorem brecB_13 : brecB (13, 187, "ueU*", [117, 101, 85, 42]) = true := by decide +kernel
theorem brecC_13 : brecC (13, 187, "ueU*", [117, 101, 85, 42]) = true := by decide +kernel
theorem brecB_14 : brecB (14, 189, "Uu/", [85, 117, 47]) = true := by decide +kernel
theorem brecC_14 : brecC (14, 189, "Uu/", [85, 117, 47]) = true := by decide +kernel
theorem brecB_15 : brecB (15, 191, "U1uq+/", [85, 49, 117, 113, 43, 47]) = true := by decide +kernel
theorem brecC_15 : brecC (15, 191, "U1uq+/", [85, 49, 117, 113, 43, 47]) = true := by decide +kernel
theorem bstart_rec (q : Nat × Nat × String × List Int32) (hq : q ∈ brec) : Jvm.Cond.stringRef "Boxedvalue$Machine" q.2.1 q.2.2.1 ∈ lw_tbl ∧ (Jvm.Cond.exactly (.string "Boxedvalue$Machine" q.2.1) "java/lang/String" ∈ flatC narrow_1 ∧ Jvm.Cond.eq (.field (.string "Boxedvalue$Machine" q.2.1) "java/lang/String" "coder" "B") (.int 0) ∈ flatC narrow_1 ∧ Jvm.Cond.arrayOf (.field (.string "Boxedvalue$Machine" q.2.1) "java/lang/String" "value" "[B") .byte ∈ flatC narrow_1 ∧ Jvm.Cond.eq (.length (.field (.string "Boxedvalue$Machine" q.2.1) "java/lang/String" "value" "[B")) (.int (Int32.ofNat q.2.2.2.length)) ∈ flatC narrow_1) ∧ (∀ j, j < q.2.2.2.length → Jvm.Cond.eq (.elem (.field (.string "Boxedvalue$Machine" q.2.1) "java/lang/String" "value" "[B") (.int (Int32.ofNat j))) (.int (q.2.2.2.getD j 0)) ∈ flatC narrow_1) := by
  have h1 : brecB q = true ∧ brecC q = true := by
    simp only [brec, List.mem_cons, List.not_mem_nil, or_false] at hq
    rcases hq with rfl | rfl | rfl | rfl | rfl | rfl | rfl | rfl | rfl | rfl | rfl | rfl
    · exact ⟨brecB_4, brecC_4⟩
    · exact ⟨brecB_5, brecC_5⟩
    · exact ⟨brecB_6, brecC_6⟩
    · exact ⟨brecB_7, brecC_7⟩
    · exact ⟨brecB_8, brecC_8⟩
    · exact ⟨brecB_9, brecC_9⟩
    · exact ⟨brecB_10, brecC_10⟩
    · exact ⟨brecB_11, brecC_11⟩
    · exact ⟨brecB_12, brecC_12⟩
    · exact ⟨brecB_13, brecC_13⟩
    · exact ⟨brecB_14, brecC_14⟩
    · exact ⟨brecB_15, brecC_15⟩
  have hA := of_decide_eq_true (List.all_eq_true.mp brecA_all q hq)
  have hB := h1.1
  unfold brecB at hB
  rw [Bool.and_eq_true, Bool.and_eq_true, Bool.and_eq_true] at hB
  exact ⟨hA, ⟨of_decide_eq_true hB.1, of_decide_eq_true hB.2.1, of_decide_eq_true hB.2.2.1, of_decide_eq_true hB.2.2.2⟩, fun j hj => of_decide_eq_true (List.all_eq_true.mp h1.2 j (List.mem_range.mpr hj))⟩
theorem brec_one : ∀ q ∈ brec, ∀ r ∈ brec, q.1 = r.1 → q = r := by decide +kernel
theorem brec_j : ∀ q ∈ brec, 4 ≤ q.1 := by decide +kernel
theorem bstart_K {s : State} {args : Array Value} {b L : Nat} {xs : Nat → Int32} (hL : L < 2 ^ 31) (hts : ∀ w ∈ lw_tbl, w.before args s = true) (hfl : ∀ w ∈ flatC narrow_1, w.before args s = true) (hX : va_X b L xs s s.heap) (hbl : b < s.heap.size) :
    ∃ K : KE, K.B = s.heap.size ∧ K.X 1 = b ∧ K.str = bstr ∧ K.nc = bncs ∧ bK K s ∧ bEok K (bE ((List.range L).map xs)) := by
  have hA : ∀ a : Nat, a < s.heap.size → ¬ bA s.heap.size a := fun a h h2 => Nat.not_le.mpr h h2
  obtain ⟨D, hD⟩ := bstart_known hts
  obtain ⟨cy, hcy⟩ := bstart_arr hts
  obtain ⟨t0, et0, ht0⟩ := va_Tof (args := args) (s := s) (tm := .static "Boxedvalue" "TENS" "[J") (ty := .long) (N := 19) (f := fun j => .long (bTENS.getD j 0)) (A := bA s.heap.size) (by decide) (hfl _ (by decide +kernel)) (va_eqt (hfl (.eq (.length (.static "Boxedvalue" "TENS" "[J")) (.int 19)) (by decide +kernel))) (fun j hj => va_eqtl (hfl _ (of_decide_eq_true (List.all_eq_true.mp bstart_bTENS j (List.mem_range.mpr hj))))) hA
  have hz0 : va_Z "Boxedvalue" "TENS" "[J" (.ref t0) (bA s.heap.size) s s.heap := va_Zof (hts (.laysStatic "Boxedvalue" "TENS" "[J") (by decide +kernel)) (hts (.initialized "Boxedvalue") (by decide +kernel)) et0 hA
  obtain ⟨t2, et2, ht2⟩ := va_Tof (args := args) (s := s) (tm := .static "Boxedvalue$Curves" "LOGS" "[I") (ty := .int) (N := 54) (f := fun j => .int (bLOGS.getD j 0)) (A := bA s.heap.size) (by decide) (hfl _ (by decide +kernel)) (va_eqt (hfl (.eq (.length (.static "Boxedvalue$Curves" "LOGS" "[I")) (.int 54)) (by decide +kernel))) (fun j hj => va_eqt (hfl _ (of_decide_eq_true (List.all_eq_true.mp bstart_bLOGS j (List.mem_range.mpr hj))))) hA
  have hz2 : va_Z "Boxedvalue$Curves" "LOGS" "[I" (.ref t2) (bA s.heap.size) s s.heap := va_Zof (hts (.laysStatic "Boxedvalue$Curves" "LOGS" "[I") (by decide +kernel)) (hts (.initialized "Boxedvalue$Curves") (by decide +kernel)) et2 hA
  obtain ⟨t3, et3, ht3⟩ := va_Tof (args := args) (s := s) (tm := .static "Boxedvalue$Curves" "ARCS" "[I") (ty := .int) (N := 54) (f := fun j => .int (bARCS.getD j 0)) (A := bA s.heap.size) (by decide) (hfl _ (by decide +kernel)) (va_eqt (hfl (.eq (.length (.static "Boxedvalue$Curves" "ARCS" "[I")) (.int 54)) (by decide +kernel))) (fun j hj => va_eqt (hfl _ (of_decide_eq_true (List.all_eq_true.mp bstart_bARCS j (List.mem_range.mpr hj))))) hA
  have hz3 : va_Z "Boxedvalue$Curves" "ARCS" "[I" (.ref t3) (bA s.heap.size) s s.heap := va_Zof (hts (.laysStatic "Boxedvalue$Curves" "ARCS" "[I") (by decide +kernel)) (hts (.initialized "Boxedvalue$Curves") (by decide +kernel)) et3 hA
  have hx : va_T .int b L (fun j => .int (xs j)) (bA s.heap.size) s s.heap := by
    obtain ⟨scr, h1, h2, h3, h4, h5⟩ := hX
    refine ⟨scr, h1, h2, h3, by omega, ?_, h5, hA b hbl⟩
    rw [h4]
  have hcur6 := (hD 8 _ rfl).2.1
  have hrec : ∀ q ∈ brec, ∃ a : Nat, vk_R "Boxedvalue$Machine" q.2.1 q.2.2.1 a s ∧ va_O "java/lang/String" a (bA s.heap.size) s s.heap ∧ va_OF "java/lang/String" "coder" "B" (.int 0) a (bA s.heap.size) s s.heap ∧ ∃ v : Nat, va_OF "java/lang/String" "value" "[B" (.ref v) a (bA s.heap.size) s s.heap ∧ va_T .byte v q.2.2.2.length (fun j => .int (q.2.2.2.getD j 0)) (bA s.heap.size) s s.heap := by
    intro q hq
    obtain ⟨g1, ⟨g2, g3, g4, g5⟩, g6⟩ := bstart_rec q hq
    obtain ⟨k, cf, i, a, -, -, -, -, -, ha⟩ := Cond.stringRef_spec hcur6 (hts _ g1)
    have ha : (Term.string "Boxedvalue$Machine" q.2.1).eval args s none [] s = some (.ref a) := ha
    obtain ⟨a', c, cA, kA, q1, q2, q3, q4, q5, q6, -⟩ := Cond.exactly_spec (args := args) (first := s) (o := none) (s := s) (idx := []) (t := .string "Boxedvalue$Machine" q.2.1) (cls := "java/lang/String") (hfl _ g2)
    have e1 : a' = a := by
      rw [ha] at q1
      cases q1
      rfl
    subst e1
    obtain ⟨v, hv, hT⟩ := va_Tof (f := fun j => .int (q.2.2.2.getD j 0)) (A := bA s.heap.size) (by
      have hl : ∀ q ∈ brec, q.2.2.2.length < 2 ^ 31 := by decide +kernel
      exact hl q hq) (hfl _ g4) (va_eqt (hfl _ g5)) (fun j hj => va_eqt (hfl _ (g6 j hj))) hA
    exact ⟨a', vk_R.of (hts _ g1) ha, ⟨cA, q3, q5, by rw [q6]; exact q2, hA a' (Array.getElem?_eq_some_iff.mp q3).1⟩, vk_OFof ha (va_eqt (hfl _ g3)) hA, v, vk_OFof ha hv hA, hT⟩
  have hrec2 : ∀ j : Nat, ∃ a : Nat, ∀ q ∈ brec, q.1 = j → vk_R "Boxedvalue$Machine" q.2.1 q.2.2.1 a s ∧ va_O "java/lang/String" a (bA s.heap.size) s s.heap ∧ va_OF "java/lang/String" "coder" "B" (.int 0) a (bA s.heap.size) s s.heap ∧ ∃ v : Nat, va_OF "java/lang/String" "value" "[B" (.ref v) a (bA s.heap.size) s s.heap ∧ va_T .byte v q.2.2.2.length (fun j => .int (q.2.2.2.getD j 0)) (bA s.heap.size) s s.heap := by
    intro j
    by_cases hj : ∃ q ∈ brec, q.1 = j
    · obtain ⟨q, hq, rfl⟩ := hj
      obtain ⟨a, ha⟩ := hrec q hq
      exact ⟨a, fun r hr e => by rw [brec_one r hr q hq e]; exact ha⟩
    · exact ⟨0, fun q hq e => absurd ⟨q, hq, e⟩ hj⟩
  obtain ⟨X2, hX2⟩ := Classical.axiomOfChoice hrec2
  have hcs : va_Z "java/lang/String" "COMPACT_STRINGS" "Z" (.int 1) (bA s.heap.size) s s.heap := va_Zof (hts (.laysStatic "java/lang/String" "COMPACT_STRINGS" "Z") (by decide +kernel)) (hts (.initialized "java/lang/String") (by decide +kernel)) (va_eqt (hfl (.eq (.static "java/lang/String" "COMPACT_STRINGS" "Z") (.int 1)) (by decide +kernel))) hA
  refine ⟨(D, cy, s.heap.size, fun j => if j = 0 then t0 else if j = 1 then b else if j = 2 then t2 else if j = 3 then t3 else X2 j, [(.long, 19, fun j => .long (bTENS.getD j 0), some ("Boxedvalue", "TENS", "[J")), (.int, L, fun j => .int (xs j), none), (.int, 54, fun j => .int (bLOGS.getD j 0), some ("Boxedvalue$Curves", "LOGS", "[I")), (.int, 54, fun j => .int (bARCS.getD j 0), some ("Boxedvalue$Curves", "ARCS", "[I"))], bstr, bncs), rfl, rfl, rfl, rfl, ?_, ?_⟩
  · refine ⟨⟨hD, hcy⟩, ?_, vx_Zqof (hts _ (by decide +kernel)) (hts _ (by decide +kernel)) (hfl _ (by decide +kernel)) hA, vx_Zqof (hts _ (by decide +kernel)) (hts _ (by decide +kernel)) (hfl _ (by decide +kernel)) hA, ?_, va_AO.of (hts (.arrayOver (.object "Boxedvalue$Box")) (by decide +kernel)), va_AO.of (hts (.arrayOver (.object "Boxedvalue$Formula")) (by decide +kernel)), ?_, Nat.le_refl _, ?_, ?_, ?_, ?_⟩
    · intro j q hj
      match j, hj with
      | 0, hj => cases hj; exact ⟨ht0, fun f hf => by cases hf; exact hz0⟩
      | 1, hj => cases hj; exact ⟨hx, fun f hf => by cases hf⟩
      | 2, hj => cases hj; exact ⟨ht2, fun f hf => by cases hf; exact hz2⟩
      | 3, hj => cases hj; exact ⟨ht3, fun f hf => by cases hf; exact hz3⟩
      | j + 4, hj => simp [KE.arr] at hj
    · refine ⟨fun q hq => ?_, hcs, vx_Zqof (hts (.laysStatic "jdk/internal/util/Preconditions" "SIOOBE_FORMATTER" "Ljava/util/function/BiFunction;") (by decide +kernel)) (hts (.initialized "jdk/internal/util/Preconditions") (by decide +kernel)) (hfl (.isRef (.static "jdk/internal/util/Preconditions" "SIOOBE_FORMATTER" "Ljava/util/function/BiFunction;")) (by decide +kernel)) hA, fun q hq => ?_⟩
      rotate_left
      · have h4 := brec_j q hq
        have e : KE.X (D, cy, s.heap.size, fun j => if j = 0 then t0 else if j = 1 then b else if j = 2 then t2 else if j = 3 then t3 else X2 j, [(.long, 19, fun j => .long (bTENS.getD j 0), some ("Boxedvalue", "TENS", "[J")), (.int, L, fun j => .int (xs j), none), (.int, 54, fun j => .int (bLOGS.getD j 0), some ("Boxedvalue$Curves", "LOGS", "[I")), (.int, 54, fun j => .int (bARCS.getD j 0), some ("Boxedvalue$Curves", "ARCS", "[I"))], bstr, bncs) q.1 = X2 q.1 := by
          show (if q.1 = 0 then t0 else if q.1 = 1 then b else if q.1 = 2 then t2 else if q.1 = 3 then t3 else X2 q.1) = X2 q.1
          rw [if_neg (by omega), if_neg (by omega), if_neg (by omega), if_neg (by omega)]
        rw [e]
        exact hX2 q.1 q hq rfl
      have h9 := List.all_eq_true.mp bstart_str q hq
      simp only [Bool.and_eq_true, decide_eq_true_eq] at h9
      have h8 := hts _ h9.1
      obtain ⟨q1, q2, q3⟩ := q
      have h7 : q1 = RX11 := h9.2
      subst h7
      have hcur := (hD 13 _ rfl).2.1
      obtain ⟨k, cf, i, a, -, -, -, -, -, ha⟩ := Cond.stringRef_spec hcur h8
      exact ⟨a, vk_R.of h8 ha⟩
    · intro q hq
      exact va_Nc.of (hfl _ (of_decide_eq_true (List.all_eq_true.mp bstart_nc q hq)))
    · intro x hx
      exact va_Nw.of rfl (hts _ (of_decide_eq_true (List.all_eq_true.mp bstart_D x hx)))
    · intro q hq
      exact va_Nw.of rfl (hts _ (of_decide_eq_true (List.all_eq_true.mp bstart_N q hq)))
    · intro q hq
      exact va_Nw.of rfl (hts _ (of_decide_eq_true (List.all_eq_true.mp bstart_M q hq)))
    · intro x hx
      exact va_Nw.of rfl (hts _ (of_decide_eq_true (List.all_eq_true.mp bstart_C x hx)))
  · intro j
    match j with
    | 0 => exact ⟨fun t xs h => (by cases h), fun xs h => (by cases h; exact ⟨_, _, rfl, fun i hi => rfl⟩), fun f hf => ⟨_, rfl, hf⟩, fun t xs h => (by cases h)⟩
    | 1 =>
      refine ⟨fun t ys h => ?_, fun ys h => (by cases h), fun f hf => (by cases hf), fun t ys h => (by cases h)⟩
      cases h
      refine ⟨rfl, fun j => .int (xs j), none, by simp [KE.arr], fun i hi => ?_⟩
      simp only [List.length_map, List.length_range] at hi
      simp [List.getD_eq_getElem?_getD, hi]
    | 2 => exact ⟨fun t xs h => (by cases h; exact ⟨rfl, _, _, rfl, fun i hi => rfl⟩), fun xs h => (by cases h), fun f hf => ⟨_, rfl, hf⟩, fun t xs h => (by cases h)⟩
    | 3 => exact ⟨fun t xs h => (by cases h; exact ⟨rfl, _, _, rfl, fun i hi => rfl⟩), fun xs h => (by cases h), fun f hf => ⟨_, rfl, hf⟩, fun t xs h => (by cases h)⟩
    | j + 4 => exact ⟨fun t xs h => (by cases h), fun xs h => (by cases h), fun f hf => (by cases hf), fun t xs h => (by cases h)⟩
