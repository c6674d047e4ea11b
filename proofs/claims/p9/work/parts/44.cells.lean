/-! Each instruction. -/
theorem tbl {L : tL} {lv : List (Nat × bV)} {i : Nat} {v : tV} (h : tOk L lv) (h2 : L[i]? = some (some v)) : blk lv i = some (tdn v) := sorry
theorem two_eta (M M' : tM) (n : Nat) : ((two M' n).1, (two M n).2) = two M' n := sorry
theorem tcl_ok {k t : Nat} (h : tsh k = t) (h0 : (tyk t).1 ≠ 9) : t ≠ 0 := sorry
theorem tcell_1 {k t : Nat} {m : Int → Int} (h : (tyk t).1 = 1) : tcell k t m = .inr (.inl ((tyk t).2.1, (List.range (tyk t).2.2).map (fun i => Int32.ofInt (m (i : Nat))))) := sorry
theorem tcell_2 {k t : Nat} {m : Int → Int} (h : (tyk t).1 = 2) : tcell k t m = .inr (.inr (.inl ((List.range (tyk t).2.2).map (fun i => Int64.ofInt (m (i : Nat)))))) := sorry
theorem tcell_3 {k t : Nat} {m : Int → Int} (h : (tyk t).1 = 3) : tcell k t m = .inr (.inr (.inr ((tyk t).2.1, (List.range (tyk t).2.2).map (fun i => some (tel (tyk t).2.1 k (i : Nat) (m (i : Nat))))))) := sorry
theorem tcell_0 {k t : Nat} {m : Int → Int} (h : (tyk t).1 = 0) : tcell k t m = .inl ((tyk t).2.1, (List.range (tyk t).2.2).map (fun f => tdn (tfd k (tyk t).2.1 f (m (f : Nat))))) := sorry
theorem tyk_small (t : Nat) : (tyk t).2.2 < 2147483648 := sorry
theorem tyk_ar (t : Nat) (h : (tyk t).1 = 1) : (tyk t).2.1 = 0 ∨ (tyk t).2.1 = 1 ∨ (tyk t).2.1 = 3 := sorry
theorem tyk_q (t : Nat) (h : (tyk t).1 = 3) : (tyk t).2.1 = 4 ∨ (tyk t).2.1 = 5 := sorry
theorem bE_len (scr : List Int32) : ∀ j, j < 4 → ∃ c, bE scr j = c ∧ (j = 0 → c = .inr (.inr (.inl bTENS))) ∧ (j = 1 → c = .inr (.inl (1, scr))) ∧ (j = 2 → c = .inr (.inl (1, bLOGS))) ∧ (j = 3 → c = .inr (.inl (1, bARCS))) := sorry
theorem bld_eq' {E : Nat → bC} {pc t : Nat} {lv : List (Nat × bV)} {r : List bV} {w : bW} {i : Int32} {a v : bV} (h : bload i t (barr E w a) = some v) : bld E pc t lv (.inl i :: a :: r) w = some (pc + 1, lv, v :: r, w) := sorry
theorem tld_ok {e : tE} {c : Bool} {t pc : Nat} {st : List tV} {M : tM} {n : Nat} {k : List tV → Prop} (ht : t = 0 ∨ t = 1 ∨ t = 2 ∨ t = 3) (hscr : e.1.length < 2147483648) (h : tld e c t st M k) : ∃ st', k st' ∧ ∀ lv, bld (bE e.1) pc t lv (st.map tdn) (two M n) = some (pc + 1, lv, st'.map tdn, two M n) := sorry
theorem bast_eq' {pc t r : Nat} {lv : List (Nat × bV)} {rest : List bV} {w : bW} {x i : Int32} {xs : List Int32} (h1 : w.1[r]? = some (.inr (.inl (t, xs)))) (h2 : bin i xs.length = true) :
    bast pc t lv (.inl x :: .inl i :: .inr (.inr (.inl r)) :: rest) w = some (pc + 1, lv, rest, (w.1.set r (.inr (.inl (t, xs.set i.toNatClampNeg (vp_nar (if t = 0 then .char else if t = 3 then .boolean else .int) x)))), w.2)) := sorry
theorem blast_eq' {pc r : Nat} {lv : List (Nat × bV)} {rest : List bV} {w : bW} {x : Int64} {i : Int32} {xs : List Int64} (h1 : w.1[r]? = some (.inr (.inr (.inl xs)))) (h2 : bin i xs.length = true) :
    blast pc lv (.inr (.inl x) :: .inl i :: .inr (.inr (.inl r)) :: rest) w = some (pc + 1, lv, rest, (w.1.set r (.inr (.inr (.inl (xs.set i.toNatClampNeg x)))), w.2)) := sorry
theorem nar_ok {t : Nat} {x : Int} (ht : t = 0 ∨ t = 1 ∨ t = 3) (h : t ≠ 1 → 0 ≤ x ∧ x ≤ (if t = 0 then 65535 else 1)) : vp_nar (if t = 0 then .char else if t = 3 then .boolean else .int) (Int32.ofInt x) = Int32.ofInt x := sorry
theorem tsi_ok {t pc : Nat} {st : List tV} {M : tM} {n : Nat} {k : List tV → tM → Prop} (h : tsi t st M k) : ∃ st' M', k st' M' ∧ ∀ lv, bast pc t lv (st.map tdn) (two M n) = some (pc + 1, lv, st'.map tdn, two M' n) := sorry
theorem tsl_ok {pc : Nat} {st : List tV} {M : tM} {n : Nat} {k : List tV → tM → Prop} (h : tsl st M k) : ∃ st' M', k st' M' ∧ ∀ lv, blast pc lv (st.map tdn) (two M n) = some (pc + 1, lv, st'.map tdn, two M' n) := sorry
theorem bgf_eq' {pc a b r : Nat} {lv : List (Nat × bV)} {rest fs : List bV} {w : bW} {v : bV} (h1 : w.1[r]? = some (.inl (a, fs))) (h2 : fs[b]? = some v) : bgf pc a b lv (.inr (.inr (.inl r)) :: rest) w = some (pc + 3, lv, v :: rest, w) := sorry
theorem bpf_eq' {pc a b r : Nat} {lv : List (Nat × bV)} {rest fs : List bV} {w : bW} {v : bV} (h1 : w.1[r]? = some (.inl (a, fs))) (h2 : b < fs.length) (h3 : bokf ((bty a).getD b .byte) v = true) : bpf pc a b lv (v :: .inr (.inr (.inl r)) :: rest) w = some (pc + 3, lv, rest, (w.1.set r (.inl (a, fs.set b v)), w.2)) := sorry
theorem tgf_ok {c : Bool} {pc a b r : Nat} {rest : List tV} {M : tM} {n : Nat} (h : tsh r = a) (hy : tyk a = (0, a, (tyk a).2.2)) (hb : b < (tyk a).2.2) (h0 : a ≠ 0) (lv : List (Nat × bV)) : bgf pc a b lv (.inr (.inr (.inl r)) :: rest.map tdn) (two M n) = some (pc + 3, lv, (tfdc c r a b (M r (b : Nat)) :: rest).map tdn, two M n) := sorry
theorem tpf_ok {pc a b r : Nat} {rest : List tV} {M : tM} {n : Nat} {u : tV} (h : tsh r = a) (hy : tyk a = (0, a, (tyk a).2.2)) (hb : b < (tyk a).2.2) (h0 : a ≠ 0) (hp : tpk (tfk a b) u) (hk : tfko (tfk a b) ((bty a).getD b .byte) = true) (h2 : tfk a b = 2 → tcn a b = false) (lv : List (Nat × bV)) : bpf pc a b lv (tdn u :: .inr (.inr (.inl r)) :: rest.map tdn) (two M n) = some (pc + 3, lv, rest.map tdn, two (tU M r (b : Nat) (tnm u)) n) := sorry
