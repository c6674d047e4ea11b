/-! ALL THAT IS OWED of the code; the law's end out of one reading. -/
theorem bdk2 : ∀ k, k < 6 → bdok (tyX0 k) = true := sorry
theorem bdk3 : ∀ k, k < 2 → bdok (tyX1 k) = true := sorry
theorem bdk4 : ∀ k, k < 2 → bdok (tyX2 k) = true := sorry
theorem bdk5 : ∀ k, k < 13 → bdok (tyX3 k) = true := sorry
theorem bdk6 : ∀ k, k < 2 → bdok (tyX4 k) = true := sorry
theorem bdk7 : ∀ k, k < 12 → bdok (tyX5 k) = true := sorry
theorem bdk8 : ∀ k, k < 8 → bdok (tyX6 k) = true := sorry
theorem bdk9 : ∀ k, k < 4 → bdok (tyX7 k) = true := sorry
theorem bdk10 : ∀ k, k < 13 → bdok (tyX8 k) = true := sorry
theorem bdk11 : ∀ k, k < 7 → bdok (tyX9 k) = true := sorry
theorem bdk12 : ∀ k, k < 2 → bdok (tyX10 k) = true := sorry
theorem bdk13 : ∀ k, k < 17 → bdok (tyX11 k) = true := sorry
theorem bdk14 : ∀ k, k < 43 → bdok (tyX12 k) = true := sorry
theorem b_rng {α : Type} {f : Nat → α} {n k : Nat} {d : α} (h : k < n) : ((List.range n).map f).getD k d = f k := sorry
theorem b_lay (C : String) (T : u_T) (N : Nat) (h : ∀ w ∈ u_ws C T N, w ∈ lw_tbl) : ∀ w ∈ u_ws C T N, w ∈ bw_G := sorry
theorem bcls_ok : bClsOk := sorry
theorem bfind_mem {l : List (Nat × bO)} {pc : Nat} {x : bO} (h : bfind l pc = some x) : (pc, x) ∈ l := sorry
theorem bAllOk_get {ok : bM → List (Nat × bO) → Prop} : ∀ {L : List (List (Nat × bO))} {Ms : List bM}, bAllOk ok L Ms → ∀ {k : Nat} {l : List (Nat × bO)}, L[k]? = some l → ∃ m, Ms[k]? = some m ∧ ok m l := sorry
theorem bk_all (c : Nat) : bAllOk (fun y l => bchk3 y l = true) (bkcs c) (bmcs c) := sorry
theorem bop_in {mi pc : Nat} {x : bO} (h : bop mi pc = some x) : bchk2 (bmeth mi) (pc, x) = true ∧ (bmeth mi).2.2.1 ≤ 80 ∧ plainFor (bmeth mi).1 = true := sorry
theorem bmjs_len {a c : Nat} (h : (bmjs a).1 ≠ 0) (hc : a / 256 = c) : a % 256 < (bjcs c).length := sorry
theorem bM_all (a : Nat) (h : (bmjs a).1 ≠ 0) : bchkM bmeth bmjs a = true ∧ bHead (bmeth a) ∈ bw_G := sorry
def bxI (a : Nat) : Nat := match a with | 3 => 13 | _ => 7
def bxR (a : Nat) : ByteArray := match a with | 3 => ⟨#[0x2a, 0x2b, 0xb7, 0x00, 0x0d, 0xb1]⟩ | _ => Bundle.six
theorem bx_rx (a : Nat) (ha : a < 6) : bRx (bxI a) (bxR a) := sorry
theorem bx_0 : ((Jvm.Cond.classLink "Boxedvalue" (bexx 0).2.2.1 (bexx 0).1 :: Jvm.Cond.initialized (bexx 0).1 :: bAt "Boxedvalue" (bexx 0).2.2.2 (bexx 0).1 (bxI 0) (bxR 0) (bexx 0).2.1).all (fun w => (decide (w ∈ lw_tbl) && goodWord w) || bwD.any (fun x => decide (w = .declares x)) || bwC.any (fun x => decide (w = .castable x x)))) = true := sorry
theorem bx_1 : ((Jvm.Cond.classLink "Boxedvalue" (bexx 1).2.2.1 (bexx 1).1 :: Jvm.Cond.initialized (bexx 1).1 :: bAt "Boxedvalue" (bexx 1).2.2.2 (bexx 1).1 (bxI 1) (bxR 1) (bexx 1).2.1).all (fun w => (decide (w ∈ lw_tbl) && goodWord w) || bwD.any (fun x => decide (w = .declares x)) || bwC.any (fun x => decide (w = .castable x x)))) = true := sorry
theorem bx_2 : ((Jvm.Cond.classLink "Boxedvalue" (bexx 2).2.2.1 (bexx 2).1 :: Jvm.Cond.initialized (bexx 2).1 :: bAt "Boxedvalue" (bexx 2).2.2.2 (bexx 2).1 (bxI 2) (bxR 2) (bexx 2).2.1).all (fun w => (decide (w ∈ lw_tbl) && goodWord w) || bwD.any (fun x => decide (w = .declares x)) || bwC.any (fun x => decide (w = .castable x x)))) = true := sorry
theorem bx_3 : ((Jvm.Cond.classLink "Boxedvalue" (bexx 3).2.2.1 (bexx 3).1 :: Jvm.Cond.initialized (bexx 3).1 :: bAt "Boxedvalue" (bexx 3).2.2.2 (bexx 3).1 (bxI 3) (bxR 3) (bexx 3).2.1).all (fun w => (decide (w ∈ lw_tbl) && goodWord w) || bwD.any (fun x => decide (w = .declares x)) || bwC.any (fun x => decide (w = .castable x x)))) = true := sorry
theorem bx_4 : ((Jvm.Cond.classLink "Boxedvalue" (bexx 4).2.2.1 (bexx 4).1 :: Jvm.Cond.initialized (bexx 4).1 :: bAt "Boxedvalue" (bexx 4).2.2.2 (bexx 4).1 (bxI 4) (bxR 4) (bexx 4).2.1).all (fun w => (decide (w ∈ lw_tbl) && goodWord w) || bwD.any (fun x => decide (w = .declares x)) || bwC.any (fun x => decide (w = .castable x x)))) = true := sorry
theorem bx_5 : ((Jvm.Cond.classLink "Boxedvalue" (bexx 5).2.2.1 (bexx 5).1 :: Jvm.Cond.initialized (bexx 5).1 :: bAt "Boxedvalue" (bexx 5).2.2.2 (bexx 5).1 (bxI 5) (bxR 5) (bexx 5).2.1).all (fun w => (decide (w ∈ lw_tbl) && goodWord w) || bwD.any (fun x => decide (w = .declares x)) || bwC.any (fun x => decide (w = .castable x x)))) = true := sorry
theorem bx_all (a : Nat) (ha : a < 6) : ∃ (ix : Nat) (rx : ByteArray), bRx ix rx ∧ Bundle.fit (bexx a).1 = true ∧ (∀ n ∈ (bexx a).2.1, Bundle.fit n = true) ∧ (bexx a).2.1.length ≤ 8 ∧ ∀ w ∈ Jvm.Cond.classLink "Boxedvalue" (bexx a).2.2.1 (bexx a).1 :: Jvm.Cond.initialized (bexx a).1 :: bAt "Boxedvalue" (bexx a).2.2.2 (bexx a).1 ix rx (bexx a).2.1, w ∈ bw_G ∨ (∃ x ∈ bwD, w = .declares x) ∨ ∃ x ∈ bwC, w = .castable x x := sorry
theorem bhh_2 : (bmc_2.all (fun m => m.2.2.2.2.all (fun q => decide (q.1.2.2.2 ≠ 0) && (decide (Jvm.Cond.classLink m.1.cls q.1.2.2.2 q.2 ∈ lw_tbl) && goodWord (.classLink m.1.cls q.1.2.2.2 q.2))))) = true := sorry
theorem bhh_3 : (bmc_3.all (fun m => m.2.2.2.2.all (fun q => decide (q.1.2.2.2 ≠ 0) && (decide (Jvm.Cond.classLink m.1.cls q.1.2.2.2 q.2 ∈ lw_tbl) && goodWord (.classLink m.1.cls q.1.2.2.2 q.2))))) = true := sorry
theorem bhh_4 : (bmc_4.all (fun m => m.2.2.2.2.all (fun q => decide (q.1.2.2.2 ≠ 0) && (decide (Jvm.Cond.classLink m.1.cls q.1.2.2.2 q.2 ∈ lw_tbl) && goodWord (.classLink m.1.cls q.1.2.2.2 q.2))))) = true := sorry
theorem bhh_5 : (bmc_5.all (fun m => m.2.2.2.2.all (fun q => decide (q.1.2.2.2 ≠ 0) && (decide (Jvm.Cond.classLink m.1.cls q.1.2.2.2 q.2 ∈ lw_tbl) && goodWord (.classLink m.1.cls q.1.2.2.2 q.2))))) = true := sorry
theorem bhh_6 : (bmc_6.all (fun m => m.2.2.2.2.all (fun q => decide (q.1.2.2.2 ≠ 0) && (decide (Jvm.Cond.classLink m.1.cls q.1.2.2.2 q.2 ∈ lw_tbl) && goodWord (.classLink m.1.cls q.1.2.2.2 q.2))))) = true := sorry
theorem bhh_7 : (bmc_7.all (fun m => m.2.2.2.2.all (fun q => decide (q.1.2.2.2 ≠ 0) && (decide (Jvm.Cond.classLink m.1.cls q.1.2.2.2 q.2 ∈ lw_tbl) && goodWord (.classLink m.1.cls q.1.2.2.2 q.2))))) = true := sorry
theorem bhh_8 : (bmc_8.all (fun m => m.2.2.2.2.all (fun q => decide (q.1.2.2.2 ≠ 0) && (decide (Jvm.Cond.classLink m.1.cls q.1.2.2.2 q.2 ∈ lw_tbl) && goodWord (.classLink m.1.cls q.1.2.2.2 q.2))))) = true := sorry
theorem bhh_9 : (bmc_9.all (fun m => m.2.2.2.2.all (fun q => decide (q.1.2.2.2 ≠ 0) && (decide (Jvm.Cond.classLink m.1.cls q.1.2.2.2 q.2 ∈ lw_tbl) && goodWord (.classLink m.1.cls q.1.2.2.2 q.2))))) = true := sorry
theorem bhh_10 : (bmc_10.all (fun m => m.2.2.2.2.all (fun q => decide (q.1.2.2.2 ≠ 0) && (decide (Jvm.Cond.classLink m.1.cls q.1.2.2.2 q.2 ∈ lw_tbl) && goodWord (.classLink m.1.cls q.1.2.2.2 q.2))))) = true := sorry
theorem bhh_11 : (bmc_11.all (fun m => m.2.2.2.2.all (fun q => decide (q.1.2.2.2 ≠ 0) && (decide (Jvm.Cond.classLink m.1.cls q.1.2.2.2 q.2 ∈ lw_tbl) && goodWord (.classLink m.1.cls q.1.2.2.2 q.2))))) = true := sorry
theorem bhh_12 : (bmc_12.all (fun m => m.2.2.2.2.all (fun q => decide (q.1.2.2.2 ≠ 0) && (decide (Jvm.Cond.classLink m.1.cls q.1.2.2.2 q.2 ∈ lw_tbl) && goodWord (.classLink m.1.cls q.1.2.2.2 q.2))))) = true := sorry
theorem bhh_13 : (bmc_13.all (fun m => m.2.2.2.2.all (fun q => decide (q.1.2.2.2 ≠ 0) && (decide (Jvm.Cond.classLink m.1.cls q.1.2.2.2 q.2 ∈ lw_tbl) && goodWord (.classLink m.1.cls q.1.2.2.2 q.2))))) = true := sorry
theorem bhh_14 : (bmc_14.all (fun m => m.2.2.2.2.all (fun q => decide (q.1.2.2.2 ≠ 0) && (decide (Jvm.Cond.classLink m.1.cls q.1.2.2.2 q.2 ∈ lw_tbl) && goodWord (.classLink m.1.cls q.1.2.2.2 q.2))))) = true := sorry
theorem bhh_15 : (bmc_15.all (fun m => m.2.2.2.2.all (fun q => decide (q.1.2.2.2 ≠ 0) && (decide (Jvm.Cond.classLink m.1.cls q.1.2.2.2 q.2 ∈ lw_tbl) && goodWord (.classLink m.1.cls q.1.2.2.2 q.2))))) = true := sorry
theorem bhh_16 : (bmc_16.all (fun m => m.2.2.2.2.all (fun q => decide (q.1.2.2.2 ≠ 0) && (decide (Jvm.Cond.classLink m.1.cls q.1.2.2.2 q.2 ∈ lw_tbl) && goodWord (.classLink m.1.cls q.1.2.2.2 q.2))))) = true := sorry
theorem bhh_17 : (bmc_17.all (fun m => m.2.2.2.2.all (fun q => decide (q.1.2.2.2 ≠ 0) && (decide (Jvm.Cond.classLink m.1.cls q.1.2.2.2 q.2 ∈ lw_tbl) && goodWord (.classLink m.1.cls q.1.2.2.2 q.2))))) = true := sorry
theorem bhh_all (mi : Nat) (q : (Nat × Nat × Nat × Nat) × String) (h : q ∈ (bmeth mi).2.2.2.2) : q.1.2.2.2 ≠ 0 ∧ Jvm.Cond.classLink (bmeth mi).1.cls q.1.2.2.2 q.2 ∈ bw_G := sorry
theorem bobj_ok : Jvm.Cond.instanceMethod Lib.objectInit ∈ bw_G ∧ Jvm.Cond.code Lib.objectInit ⟨#[0xb1]⟩ 1 none ∈ bw_G := sorry
theorem ball_ok {K : KE} {scr : List Int32} (hE : bEok K (bE scr)) (hs : K.str = bstr) (hn : K.nc = bncs) : bAll K (bPr scr) := sorry
