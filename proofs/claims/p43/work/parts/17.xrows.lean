/-! ROWS of the reader: an instruction each. -/
section BROWS
variable {P : bP} {d mi pc pc' j a b : Nat} {v : Int} {lv lv' : List (Nat × bV)} {st : List bV} {w w1 w2 : bW} {r : bR}
theorem x_step {o : bO} {q : bF} (ho : P.1 mi pc = some o) (hs : bstep P.2.2.1 (P.2.1 mi).2.2.1 o pc lv st w = some q) (k : bX P d mi q.1 q.2.1 q.2.2.1 q.2.2.2 r w2) : bX P d mi pc lv st w r w2 :=
  fun R hR => hR.1 d mi pc lv st w o q r w2 ho hs (k R hR)
theorem x_ret {o : bO} {z : Option bV} (ho : P.1 mi pc = some o) (hs : bret o (P.2.1 mi).2.2.2.1 st = some z) : bX P d mi pc lv st w (.inl z) w :=
  fun R hR => hR.2.1 d mi pc lv st w o z ho hs
theorem x_call {o : bO} {q : Nat × List bV × List bV} {z : Option bV} (ho : P.1 mi pc = some o) (hq : bcal o st w = some q) (hl : (q.2.1.map bvc).sum ≤ (P.2.1 q.1).2.2.1) (h : bX P d q.1 0 (blva 0 q.2.1) [] w (.inl z) w1) (k : bX P (d + 1) mi (pc + 3) lv (z.toList ++ q.2.2) w1 r w2) : bX P (d + 1) mi pc lv st w r w2 :=
  fun R hR => hR.2.2.1 d mi pc lv st w o q z w1 r w2 ho hq hl (h R hR) (k R hR)
theorem x_callO {o : bO} {q : Nat × List bV × List bV} {x : String} (ho : P.1 mi pc = some o) (hq : bcal o st w = some q) (hl : (q.2.1.map bvc).sum ≤ (P.2.1 q.1).2.2.1) (h : bX P d q.1 0 (blva 0 q.2.1) [] w (.inr x) w1) (hH : (P.2.1 mi).2.2.2.2 = []) (hn : bnsp o = true) : bX P (d + 1) mi pc lv st w (.inr x) w1 :=
  fun R hR => hR.2.2.2.1 d mi pc lv st w o q x w1 ho hq hl (h R hR) hH hn
theorem x_catch {o : bO} {q : Nat × List bV × List bV} {x : String} {hp : Nat} {o2 : bO} {ik : Nat × Nat} (ho : P.1 mi pc = some o) (hq : bcal o st w = some q) (hl : (q.2.1.map bvc).sum ≤ (P.2.1 q.1).2.2.1) (h : bX P d q.1 0 (blva 0 q.2.1) [] w (.inr x) w1) (hh : bhand (P.2.1 mi).2.2.2.2 pc x P.2.2.2.1 = some hp) (ho2 : P.1 mi hp = some o2) (hn : bnsp o = true) (hk : bastk o2.1 = some ik) (hi : ik.1 < (P.2.1 mi).2.2.1) (k : bX P (d + 1) mi (hp + ik.2) (blvx lv ik.1) [] w1 r w2) : bX P (d + 1) mi pc lv st w r w2 :=
  fun R hR => hR.2.2.2.2.1 d mi pc lv st w o q x w1 hp o2 ik r w2 ho hq hl (h R hR) hh ho2 hn hk hi (k R hR)
theorem x_thr {o : bO} {ix : Nat} {x : String} (ho : P.1 mi pc = some o) (h1 : o.1 = .new ix) (h2 : o.2.2.2.2 = 1) (h3 : (P.2.1 mi).2.2.2.2 = []) (hx : (P.2.2.2.2 o.2.2.1).1 = x) : bX P d mi pc lv [] w (.inr x) (w.1, w.2 + 1) := by
  subst hx
  exact fun R hR => hR.2.2.2.2.2 d mi pc lv w o ix ho h1 h2 h3
theorem x_ic {n : Int} {x : Int32} (ho : P.1 mi pc = some (.iconst n, j, a, b, v)) (hv : Int32.ofInt n = x) (hp : pc + 1 = pc') (k : bX P d mi pc' lv (.inl x :: st) w r w2) : bX P d mi pc lv st w r w2 := by
  subst hp
  subst hv
  exact x_step ho rfl k
theorem x_bi {n : Int} {x : Int32} (ho : P.1 mi pc = some (.bipush n, j, a, b, v)) (hv : (Int8.ofInt n).toInt32 = x) (hp : pc + 2 = pc') (k : bX P d mi pc' lv (.inl x :: st) w r w2) : bX P d mi pc lv st w r w2 := by
  subst hp
  subst hv
  exact x_step ho rfl k
theorem x_si {n : Int} {x : Int32} (ho : P.1 mi pc = some (.sipush n, j, a, b, v)) (hv : (Int16.ofInt n).toInt32 = x) (hp : pc + 3 = pc') (k : bX P d mi pc' lv (.inl x :: st) w r w2) : bX P d mi pc lv st w r w2 := by
  subst hp
  subst hv
  exact x_step ho rfl k
theorem x_ldc {ix : Nat} {x : Int32} (ho : P.1 mi pc = some (.ldc ix, j, a, b, v)) (hv : Int32.ofInt v = x) (hp : pc + 2 = pc') (k : bX P d mi pc' lv (.inl x :: st) w r w2) : bX P d mi pc lv st w r w2 := by
  subst hp
  subst hv
  exact x_step ho rfl k
theorem x_lc {n : Fin 2} {x : Int64} (ho : P.1 mi pc = some (.lconst n, j, a, b, v)) (hv : Int64.ofNat n = x) (hp : pc + 1 = pc') (k : bX P d mi pc' lv (.inr (.inl x) :: st) w r w2) : bX P d mi pc lv st w r w2 := by
  subst hp
  subst hv
  exact x_step ho rfl k
theorem x_ldl {ix : Nat} {x : Int64} (ho : P.1 mi pc = some (.ldc2_w ix, j, a, b, v)) (hv : Int64.ofInt v = x) (hp : pc + 3 = pc') (k : bX P d mi pc' lv (.inr (.inl x) :: st) w r w2) : bX P d mi pc lv st w r w2 := by
  subst hp
  subst hv
  exact x_step ho rfl k
theorem x_ildn {i : Fin 4} {x : Int32} (ho : P.1 mi pc = some (.iload_n i, j, a, b, v)) (hk : blk lv i = some (.inl x)) (hp : pc + 1 = pc') (k : bX P d mi pc' lv (.inl x :: st) w r w2) : bX P d mi pc lv st w r w2 := by
  subst hp
  refine x_step ho (q := (_, _, _, _)) ?_ k
  simp only [bstep, bldl, hk]
  all_goals rfl
theorem x_ild {i : Nat} {x : Int32} (ho : P.1 mi pc = some (.iload i, j, a, b, v)) (hk : blk lv i = some (.inl x)) (hp : pc + 2 = pc') (k : bX P d mi pc' lv (.inl x :: st) w r w2) : bX P d mi pc lv st w r w2 := by
  subst hp
  refine x_step ho (q := (_, _, _, _)) ?_ k
  simp only [bstep, bldl, hk]
  all_goals rfl
theorem x_lldn {i : Fin 4} {x : Int64} (ho : P.1 mi pc = some (.lload_n i, j, a, b, v)) (hk : blk lv i = some (.inr (.inl x))) (hp : pc + 1 = pc') (k : bX P d mi pc' lv (.inr (.inl x) :: st) w r w2) : bX P d mi pc lv st w r w2 := by
  subst hp
  refine x_step ho (q := (_, _, _, _)) ?_ k
  simp only [bstep, bldl, hk]
  all_goals rfl
theorem x_lld {i : Nat} {x : Int64} (ho : P.1 mi pc = some (.lload i, j, a, b, v)) (hk : blk lv i = some (.inr (.inl x))) (hp : pc + 2 = pc') (k : bX P d mi pc' lv (.inr (.inl x) :: st) w r w2) : bX P d mi pc lv st w r w2 := by
  subst hp
  refine x_step ho (q := (_, _, _, _)) ?_ k
  simp only [bstep, bldl, hk]
  all_goals rfl
theorem x_aldn {i : Fin 4} {x : Nat} (ho : P.1 mi pc = some (.aload_n i, j, a, b, v)) (hk : blk lv i = some (.inr (.inr (.inl x)))) (hp : pc + 1 = pc') (k : bX P d mi pc' lv (.inr (.inr (.inl x)) :: st) w r w2) : bX P d mi pc lv st w r w2 := by
  subst hp
  refine x_step ho (q := (_, _, _, _)) ?_ k
  simp only [bstep, bldl, hk]
  all_goals rfl
theorem x_ald {i : Nat} {x : Nat} (ho : P.1 mi pc = some (.aload i, j, a, b, v)) (hk : blk lv i = some (.inr (.inr (.inl x)))) (hp : pc + 2 = pc') (k : bX P d mi pc' lv (.inr (.inr (.inl x)) :: st) w r w2) : bX P d mi pc lv st w r w2 := by
  subst hp
  refine x_step ho (q := (_, _, _, _)) ?_ k
  simp only [bstep, bldl, hk]
  all_goals rfl
theorem x_xldn {i : Fin 4} {x : Nat} (ho : P.1 mi pc = some (.aload_n i, j, a, b, v)) (hk : blk lv i = some (.inr (.inr (.inr (some x))))) (hp : pc + 1 = pc') (k : bX P d mi pc' lv (.inr (.inr (.inr (some x))) :: st) w r w2) : bX P d mi pc lv st w r w2 := by
  subst hp
  refine x_step ho (q := (_, _, _, _)) ?_ k
  simp only [bstep, bldl, hk]
  all_goals rfl
theorem x_xld {i : Nat} {x : Nat} (ho : P.1 mi pc = some (.aload i, j, a, b, v)) (hk : blk lv i = some (.inr (.inr (.inr (some x))))) (hp : pc + 2 = pc') (k : bX P d mi pc' lv (.inr (.inr (.inr (some x))) :: st) w r w2) : bX P d mi pc lv st w r w2 := by
  subst hp
  refine x_step ho (q := (_, _, _, _)) ?_ k
  simp only [bstep, bldl, hk]
  all_goals rfl
theorem x_istn {i : Fin 4} {x : Int32} (ho : P.1 mi pc = some (.istore_n i, j, a, b, v)) (hn : (i : Nat) < (P.2.1 mi).2.2.1) (hl : bst1 lv (i : Nat) (.inl x) = lv') (hp : pc + 1 = pc') (k : bX P d mi pc' lv' st w r w2) : bX P d mi pc lv (.inl x :: st) w r w2 := by
  subst hp
  subst hl
  refine x_step ho (q := (_, _, _, _)) ?_ k
  exact if_pos hn
  all_goals rfl
theorem x_ist {i : Nat} {x : Int32} (ho : P.1 mi pc = some (.istore i, j, a, b, v)) (hn : i < (P.2.1 mi).2.2.1) (hl : bst1 lv i (.inl x) = lv') (hp : pc + 2 = pc') (k : bX P d mi pc' lv' st w r w2) : bX P d mi pc lv (.inl x :: st) w r w2 := by
  subst hp
  subst hl
  refine x_step ho (q := (_, _, _, _)) ?_ k
  exact if_pos hn
  all_goals rfl
theorem x_lstn {i : Fin 4} {x : Int64} (ho : P.1 mi pc = some (.lstore_n i, j, a, b, v)) (hn : (i : Nat) + 1 < (P.2.1 mi).2.2.1) (hl : bst2 lv (i : Nat) (.inr (.inl x)) = lv') (hp : pc + 1 = pc') (k : bX P d mi pc' lv' st w r w2) : bX P d mi pc lv (.inr (.inl x) :: st) w r w2 := by
  subst hp
  subst hl
  refine x_step ho (q := (_, _, _, _)) ?_ k
  exact if_pos hn
  all_goals rfl
theorem x_lst {i : Nat} {x : Int64} (ho : P.1 mi pc = some (.lstore i, j, a, b, v)) (hn : i + 1 < (P.2.1 mi).2.2.1) (hl : bst2 lv i (.inr (.inl x)) = lv') (hp : pc + 2 = pc') (k : bX P d mi pc' lv' st w r w2) : bX P d mi pc lv (.inr (.inl x) :: st) w r w2 := by
  subst hp
  subst hl
  refine x_step ho (q := (_, _, _, _)) ?_ k
  exact if_pos hn
  all_goals rfl
theorem x_astn {i : Fin 4} {x : Nat} (ho : P.1 mi pc = some (.astore_n i, j, a, b, v)) (hn : (i : Nat) < (P.2.1 mi).2.2.1) (hl : bst1 lv (i : Nat) (.inr (.inr (.inl x))) = lv') (hp : pc + 1 = pc') (k : bX P d mi pc' lv' st w r w2) : bX P d mi pc lv (.inr (.inr (.inl x)) :: st) w r w2 := by
  subst hp
  subst hl
  refine x_step ho (q := (_, _, _, _)) ?_ k
  exact if_pos hn
  all_goals rfl
theorem x_ast {i : Nat} {x : Nat} (ho : P.1 mi pc = some (.astore i, j, a, b, v)) (hn : i < (P.2.1 mi).2.2.1) (hl : bst1 lv i (.inr (.inr (.inl x))) = lv') (hp : pc + 2 = pc') (k : bX P d mi pc' lv' st w r w2) : bX P d mi pc lv (.inr (.inr (.inl x)) :: st) w r w2 := by
  subst hp
  subst hl
  refine x_step ho (q := (_, _, _, _)) ?_ k
  exact if_pos hn
  all_goals rfl
theorem x_inc {i : Nat} {n : Int} {x y : Int32} (ho : P.1 mi pc = some (.iinc i n, j, a, b, v)) (hk : blk lv i = some (.inl x)) (hn : i < (P.2.1 mi).2.2.1) (hv : x + Int32.ofInt n = y) (hl : bst1 lv i (.inl y) = lv') (hp : pc + 3 = pc') (k : bX P d mi pc' lv' st w r w2) : bX P d mi pc lv st w r w2 := by
  subst hp
  subst hv
  subst hl
  refine x_step ho (q := (_, _, _, _)) ?_ k
  simp only [bstep, binc, hk]
  exact if_pos hn
  all_goals rfl
theorem x_iadd {x y : Int32} (ho : P.1 mi pc = some (.iadd, j, a, b, v))  (hp : pc + 1 = pc') (k : bX P d mi pc' lv (.inl (x + y) :: st) w r w2) : bX P d mi pc lv (.inl y :: .inl x :: st) w r w2 := by
  subst hp
  exact x_step ho rfl k
theorem x_isub {x y : Int32} (ho : P.1 mi pc = some (.isub, j, a, b, v))  (hp : pc + 1 = pc') (k : bX P d mi pc' lv (.inl (x - y) :: st) w r w2) : bX P d mi pc lv (.inl y :: .inl x :: st) w r w2 := by
  subst hp
  exact x_step ho rfl k
theorem x_imul {x y : Int32} (ho : P.1 mi pc = some (.imul, j, a, b, v))  (hp : pc + 1 = pc') (k : bX P d mi pc' lv (.inl (x * y) :: st) w r w2) : bX P d mi pc lv (.inl y :: .inl x :: st) w r w2 := by
  subst hp
  exact x_step ho rfl k
theorem x_iand {x y : Int32} (ho : P.1 mi pc = some (.iand, j, a, b, v))  (hp : pc + 1 = pc') (k : bX P d mi pc' lv (.inl (x &&& y) :: st) w r w2) : bX P d mi pc lv (.inl y :: .inl x :: st) w r w2 := by
  subst hp
  exact x_step ho rfl k
theorem x_ior {x y : Int32} (ho : P.1 mi pc = some (.ior, j, a, b, v))  (hp : pc + 1 = pc') (k : bX P d mi pc' lv (.inl (x ||| y) :: st) w r w2) : bX P d mi pc lv (.inl y :: .inl x :: st) w r w2 := by
  subst hp
  exact x_step ho rfl k
theorem x_idiv {x y : Int32} (ho : P.1 mi pc = some (.idiv, j, a, b, v)) (h0 : ¬ y = 0) (hp : pc + 1 = pc') (k : bX P d mi pc' lv (.inl (x / y) :: st) w r w2) : bX P d mi pc lv (.inl y :: .inl x :: st) w r w2 := by
  subst hp
  refine x_step ho (q := (_, _, _, _)) ?_ k
  simp only [bstep, bi2, if_neg h0]
  all_goals rfl
theorem x_irem {x y : Int32} (ho : P.1 mi pc = some (.irem, j, a, b, v)) (h0 : ¬ y = 0) (hp : pc + 1 = pc') (k : bX P d mi pc' lv (.inl (x - x / y * y) :: st) w r w2) : bX P d mi pc lv (.inl y :: .inl x :: st) w r w2 := by
  subst hp
  refine x_step ho (q := (_, _, _, _)) ?_ k
  simp only [bstep, bi2, if_neg h0]
  all_goals rfl
theorem x_ineg {x : Int32} (ho : P.1 mi pc = some (.ineg, j, a, b, v))  (hp : pc + 1 = pc') (k : bX P d mi pc' lv (.inl (-x) :: st) w r w2) : bX P d mi pc lv (.inl x :: st) w r w2 := by
  subst hp
  exact x_step ho rfl k
theorem x_ladd {x y : Int64} (ho : P.1 mi pc = some (.ladd, j, a, b, v))  (hp : pc + 1 = pc') (k : bX P d mi pc' lv (.inr (.inl (x + y)) :: st) w r w2) : bX P d mi pc lv (.inr (.inl y) :: .inr (.inl x) :: st) w r w2 := by
  subst hp
  exact x_step ho rfl k
theorem x_lsub {x y : Int64} (ho : P.1 mi pc = some (.lsub, j, a, b, v))  (hp : pc + 1 = pc') (k : bX P d mi pc' lv (.inr (.inl (x - y)) :: st) w r w2) : bX P d mi pc lv (.inr (.inl y) :: .inr (.inl x) :: st) w r w2 := by
  subst hp
  exact x_step ho rfl k
theorem x_lmul {x y : Int64} (ho : P.1 mi pc = some (.lmul, j, a, b, v))  (hp : pc + 1 = pc') (k : bX P d mi pc' lv (.inr (.inl (x * y)) :: st) w r w2) : bX P d mi pc lv (.inr (.inl y) :: .inr (.inl x) :: st) w r w2 := by
  subst hp
  exact x_step ho rfl k
theorem x_land {x y : Int64} (ho : P.1 mi pc = some (.land, j, a, b, v))  (hp : pc + 1 = pc') (k : bX P d mi pc' lv (.inr (.inl (x &&& y)) :: st) w r w2) : bX P d mi pc lv (.inr (.inl y) :: .inr (.inl x) :: st) w r w2 := by
  subst hp
  exact x_step ho rfl k
theorem x_lor {x y : Int64} (ho : P.1 mi pc = some (.lor, j, a, b, v))  (hp : pc + 1 = pc') (k : bX P d mi pc' lv (.inr (.inl (x ||| y)) :: st) w r w2) : bX P d mi pc lv (.inr (.inl y) :: .inr (.inl x) :: st) w r w2 := by
  subst hp
  exact x_step ho rfl k
theorem x_lxor {x y : Int64} (ho : P.1 mi pc = some (.lxor, j, a, b, v))  (hp : pc + 1 = pc') (k : bX P d mi pc' lv (.inr (.inl (x ^^^ y)) :: st) w r w2) : bX P d mi pc lv (.inr (.inl y) :: .inr (.inl x) :: st) w r w2 := by
  subst hp
  exact x_step ho rfl k
theorem x_ldiv {x y : Int64} (ho : P.1 mi pc = some (.ldiv, j, a, b, v)) (h0 : ¬ y = 0) (hp : pc + 1 = pc') (k : bX P d mi pc' lv (.inr (.inl (x / y)) :: st) w r w2) : bX P d mi pc lv (.inr (.inl y) :: .inr (.inl x) :: st) w r w2 := by
  subst hp
  refine x_step ho (q := (_, _, _, _)) ?_ k
  simp only [bstep, bl2, if_neg h0]
  all_goals rfl
theorem x_lrem {x y : Int64} (ho : P.1 mi pc = some (.lrem, j, a, b, v)) (h0 : ¬ y = 0) (hp : pc + 1 = pc') (k : bX P d mi pc' lv (.inr (.inl (x - x / y * y)) :: st) w r w2) : bX P d mi pc lv (.inr (.inl y) :: .inr (.inl x) :: st) w r w2 := by
  subst hp
  refine x_step ho (q := (_, _, _, _)) ?_ k
  simp only [bstep, bl2, if_neg h0]
  all_goals rfl
theorem x_lcmp {x y : Int64} {z : Int32} (ho : P.1 mi pc = some (.lcmp, j, a, b, v)) (hv : lg_cmp x y = z) (hp : pc + 1 = pc') (k : bX P d mi pc' lv (.inl z :: st) w r w2) : bX P d mi pc lv (.inr (.inl y) :: .inr (.inl x) :: st) w r w2 := by
  subst hp
  subst hv
  exact x_step ho rfl k
theorem x_lneg {x : Int64} (ho : P.1 mi pc = some (.lneg, j, a, b, v))  (hp : pc + 1 = pc') (k : bX P d mi pc' lv (.inr (.inl (-x)) :: st) w r w2) : bX P d mi pc lv (.inr (.inl x) :: st) w r w2 := by
  subst hp
  exact x_step ho rfl k
theorem x_l2i {x : Int64} (ho : P.1 mi pc = some (.l2i, j, a, b, v))  (hp : pc + 1 = pc') (k : bX P d mi pc' lv (.inl x.toInt32 :: st) w r w2) : bX P d mi pc lv (.inr (.inl x) :: st) w r w2 := by
  subst hp
  exact x_step ho rfl k
theorem x_i2l {x : Int32} (ho : P.1 mi pc = some (.i2l, j, a, b, v))  (hp : pc + 1 = pc') (k : bX P d mi pc' lv (.inr (.inl x.toInt64) :: st) w r w2) : bX P d mi pc lv (.inl x :: st) w r w2 := by
  subst hp
  exact x_step ho rfl k
theorem x_i2c {x : Int32} (ho : P.1 mi pc = some (.i2c, j, a, b, v))  (hp : pc + 1 = pc') (k : bX P d mi pc' lv (.inl (x.toUInt32 % 65536).toInt32 :: st) w r w2) : bX P d mi pc lv (.inl x :: st) w r w2 := by
  subst hp
  exact x_step ho rfl k
theorem x_lshl {x : Int64} {y : Int32} (ho : P.1 mi pc = some (.lshl, j, a, b, v))  (hp : pc + 1 = pc') (k : bX P d mi pc' lv (.inr (.inl (x <<< (y.toInt64 &&& 63))) :: st) w r w2) : bX P d mi pc lv (.inl y :: .inr (.inl x) :: st) w r w2 := by
  subst hp
  exact x_step ho rfl k
theorem x_lshr {x : Int64} {y : Int32} (ho : P.1 mi pc = some (.lshr, j, a, b, v))  (hp : pc + 1 = pc') (k : bX P d mi pc' lv (.inr (.inl (x >>> (y.toInt64 &&& 63))) :: st) w r w2) : bX P d mi pc lv (.inl y :: .inr (.inl x) :: st) w r w2 := by
  subst hp
  exact x_step ho rfl k
theorem x_dup {u : bV} (ho : P.1 mi pc = some (.dup, j, a, b, v)) (hc : bvc u = 1) (hp : pc + 1 = pc') (k : bX P d mi pc' lv (u :: u :: st) w r w2) : bX P d mi pc lv (u :: st) w r w2 := by
  subst hp
  refine x_step ho (q := (_, _, _, _)) ?_ k
  exact if_pos hc
  all_goals rfl
theorem x_pop {u : bV} (ho : P.1 mi pc = some (.pop, j, a, b, v)) (hc : bvc u = 1) (hp : pc + 1 = pc') (k : bX P d mi pc' lv st w r w2) : bX P d mi pc lv (u :: st) w r w2 := by
  subst hp
  refine x_step ho (q := (_, _, _, _)) ?_ k
  exact if_pos hc
  all_goals rfl
theorem x_dup22 {u : bV} (ho : P.1 mi pc = some (.dup2, j, a, b, v)) (hc : bvc u = 2) (hp : pc + 1 = pc') (k : bX P d mi pc' lv (u :: u :: st) w r w2) : bX P d mi pc lv (u :: st) w r w2 := by
  subst hp
  refine x_step ho (q := (_, _, _, _)) ?_ k
  exact if_pos hc
  all_goals rfl
theorem x_dup211 {u z : bV} (ho : P.1 mi pc = some (.dup2, j, a, b, v)) (hc : bvc u = 1) (hz : bvc z = 1) (hp : pc + 1 = pc') (k : bX P d mi pc' lv (u :: z :: u :: z :: st) w r w2) : bX P d mi pc lv (u :: z :: st) w r w2 := by
  subst hp
  refine x_step ho (q := (_, _, _, _)) ?_ k
  simp only [bstep, bdup2]
  rw [if_neg (show ¬ bvc u = 2 from fun h => absurd (hc.symm.trans h) (by decide)), if_pos ⟨hc, hz⟩]
  all_goals rfl
theorem x_pop2 {u : bV} (ho : P.1 mi pc = some (.pop2, j, a, b, v)) (hc : bvc u = 2) (hp : pc + 1 = pc') (k : bX P d mi pc' lv st w r w2) : bX P d mi pc lv (u :: st) w r w2 := by
  subst hp
  refine x_step ho (q := (_, _, _, _)) ?_ k
  exact if_pos hc
  all_goals rfl
theorem x_go {n : Int} (ho : P.1 mi pc = some (.goto n, j, a, b, v))   (k : bX P d mi a lv st w r w2) : bX P d mi pc lv st w r w2 := by
  exact x_step ho rfl k
theorem x_jt {c : ClassFile.Cond} {n : Int} {x : Int32} (ho : P.1 mi pc = some (.ifCond c n, j, a, b, v)) (hc : bcmp c x 0 = true)  (k : bX P d mi a lv st w r w2) : bX P d mi pc lv (.inl x :: st) w r w2 := by
  refine x_step ho rfl ?_
  simp only [hc, if_true]
  exact k
theorem x_jf {c : ClassFile.Cond} {n : Int} {x : Int32} (ho : P.1 mi pc = some (.ifCond c n, j, a, b, v)) (hc : bcmp c x 0 = false) (hp : pc + 3 = pc') (k : bX P d mi pc' lv st w r w2) : bX P d mi pc lv (.inl x :: st) w r w2 := by
  subst hp
  refine x_step ho rfl ?_
  simp only [hc]
  exact k
theorem x_ct {c : ClassFile.Cond} {n : Int} {x y : Int32} (ho : P.1 mi pc = some (.if_icmp c n, j, a, b, v)) (hc : bcmp c x y = true)  (k : bX P d mi a lv st w r w2) : bX P d mi pc lv (.inl y :: .inl x :: st) w r w2 := by
  refine x_step ho rfl ?_
  simp only [hc, if_true]
  exact k
theorem x_cf {c : ClassFile.Cond} {n : Int} {x y : Int32} (ho : P.1 mi pc = some (.if_icmp c n, j, a, b, v)) (hc : bcmp c x y = false) (hp : pc + 3 = pc') (k : bX P d mi pc' lv st w r w2) : bX P d mi pc lv (.inl y :: .inl x :: st) w r w2 := by
  subst hp
  refine x_step ho rfl ?_
  simp only [hc]
  exact k
theorem x_gf {ix z : Nat} {fs : List bV} {y : bV} (ho : P.1 mi pc = some (.getfield ix, j, a, b, v)) (hr : w.1[z]? = some (.inl (a, fs))) (hv : fs[b]? = some y) (hp : pc + 3 = pc') (k : bX P d mi pc' lv (y :: st) w r w2) : bX P d mi pc lv (.inr (.inr (.inl z)) :: st) w r w2 := by
  subst hp
  refine x_step ho (q := (_, _, _, _)) ?_ k
  simp only [bstep, bgf, hr, if_true, hv]
  all_goals rfl
theorem x_pf {ix z : Nat} {fs fs2 : List bV} {y : bV} (ho : P.1 mi pc = some (.putfield ix, j, a, b, v)) (hr : w.1[z]? = some (.inl (a, fs))) (hb : b < fs.length) (hy : bokf ((bty a).getD b .byte) y = true) (hf : fs.set b y = fs2) (hp : pc + 3 = pc') (k : bX P d mi pc' lv st (w.1.set z (.inl (a, fs2)), w.2) r w2) : bX P d mi pc lv (y :: .inr (.inr (.inl z)) :: st) w r w2 := by
  subst hp
  subst hf
  refine x_step ho (q := (_, _, _, _)) ?_ k
  simp only [bstep, bpf, hr, hb, hy, and_self, if_true]
  all_goals rfl
theorem x_ial {z : Nat} {xs : List Int32} {i y : Int32} (ho : P.1 mi pc = some (.iaload, j, a, b, v)) (hr : w.1[z]? = some (.inr (.inl (1, xs)))) (hi : bin i xs.length = true) (hv : xs.getD i.toNatClampNeg 0 = y) (hp : pc + 1 = pc') (k : bX P d mi pc' lv (.inl y :: st) w r w2) : bX P d mi pc lv (.inl i :: .inr (.inr (.inl z)) :: st) w r w2 := by
  subst hp
  subst hv
  refine x_step ho (q := (_, _, _, _)) ?_ k
  simp only [bstep, bld, bld, barr, hr, bload, hi, and_self, or_true, true_or, if_true]
  all_goals rfl
theorem x_cal {z : Nat} {xs : List Int32} {i y : Int32} (ho : P.1 mi pc = some (.caload, j, a, b, v)) (hr : w.1[z]? = some (.inr (.inl (0, xs)))) (hi : bin i xs.length = true) (hv : xs.getD i.toNatClampNeg 0 = y) (hp : pc + 1 = pc') (k : bX P d mi pc' lv (.inl y :: st) w r w2) : bX P d mi pc lv (.inl i :: .inr (.inr (.inl z)) :: st) w r w2 := by
  subst hp
  subst hv
  refine x_step ho (q := (_, _, _, _)) ?_ k
  simp only [bstep, bld, bld, barr, hr, bload, hi, and_self, or_true, true_or, if_true]
  all_goals rfl
theorem x_zal {z : Nat} {xs : List Int32} {i y : Int32} (ho : P.1 mi pc = some (.baload, j, a, b, v)) (hr : w.1[z]? = some (.inr (.inl (3, xs)))) (hi : bin i xs.length = true) (hv : xs.getD i.toNatClampNeg 0 = y) (hp : pc + 1 = pc') (k : bX P d mi pc' lv (.inl y :: st) w r w2) : bX P d mi pc lv (.inl i :: .inr (.inr (.inl z)) :: st) w r w2 := by
  subst hp
  subst hv
  refine x_step ho (q := (_, _, _, _)) ?_ k
  simp only [bstep, bld, bld, barr, hr, bload, hi, and_self, or_true, true_or, if_true]
  all_goals rfl
theorem x_xal {z : Nat} {xs : List Int32} {i y : Int32} (ho : P.1 mi pc = some (.iaload, j, a, b, v)) (hr : P.2.2.1 z = .inr (.inl (1, xs))) (hi : bin i xs.length = true) (hv : xs.getD i.toNatClampNeg 0 = y) (hp : pc + 1 = pc') (k : bX P d mi pc' lv (.inl y :: st) w r w2) : bX P d mi pc lv (.inl i :: .inr (.inr (.inr (some z))) :: st) w r w2 := by
  subst hp
  subst hv
  refine x_step ho (q := (_, _, _, _)) ?_ k
  simp only [bstep, bld, bld, barr, hr, bload, hi, and_self, or_true, true_or, if_true]
  all_goals rfl
theorem x_lal {z : Nat} {xs : List Int64} {i : Int32} {y : Int64} (ho : P.1 mi pc = some (.laload, j, a, b, v)) (hr : w.1[z]? = some (.inr (.inr (.inl xs)))) (hi : bin i xs.length = true) (hv : xs.getD i.toNatClampNeg 0 = y) (hp : pc + 1 = pc') (k : bX P d mi pc' lv (.inr (.inl y) :: st) w r w2) : bX P d mi pc lv (.inl i :: .inr (.inr (.inl z)) :: st) w r w2 := by
  subst hp
  subst hv
  refine x_step ho (q := (_, _, _, _)) ?_ k
  simp only [bstep, bld, bld, barr, hr, bload, hi, and_self, if_true]
  all_goals rfl
theorem x_xlal {z : Nat} {xs : List Int64} {i : Int32} {y : Int64} (ho : P.1 mi pc = some (.laload, j, a, b, v)) (hr : P.2.2.1 z = .inr (.inr (.inl xs))) (hi : bin i xs.length = true) (hv : xs.getD i.toNatClampNeg 0 = y) (hp : pc + 1 = pc') (k : bX P d mi pc' lv (.inr (.inl y) :: st) w r w2) : bX P d mi pc lv (.inl i :: .inr (.inr (.inr (some z))) :: st) w r w2 := by
  subst hp
  subst hv
  refine x_step ho (q := (_, _, _, _)) ?_ k
  simp only [bstep, bld, bld, barr, hr, bload, hi, and_self, if_true]
  all_goals rfl
theorem x_aal {z t q : Nat} {xs : List (Option Nat)} {i : Int32} (ho : P.1 mi pc = some (.aaload, j, a, b, v)) (hr : w.1[z]? = some (.inr (.inr (.inr (t, xs))))) (ht : t = 4 ∨ t = 5) (hi : bin i xs.length = true) (hv : xs.getD i.toNatClampNeg none = some q) (hp : pc + 1 = pc') (k : bX P d mi pc' lv (.inr (.inr (.inl q)) :: st) w r w2) : bX P d mi pc lv (.inl i :: .inr (.inr (.inl z)) :: st) w r w2 := by
  subst hp
  refine x_step ho (q := (_, _, _, _)) ?_ k
  simp only [bstep, bld, bld, barr, hr, bload, hi, ht, and_self, if_true, hv]
  all_goals rfl
theorem x_ias {z : Nat} {xs xs2 : List Int32} {i y : Int32} (ho : P.1 mi pc = some (.iastore, j, a, b, v)) (hr : w.1[z]? = some (.inr (.inl (1, xs)))) (hi : bin i xs.length = true) (hv : xs.set i.toNatClampNeg (vp_nar .int y) = xs2) (hp : pc + 1 = pc') (k : bX P d mi pc' lv st (w.1.set z (.inr (.inl (1, xs2))), w.2) r w2) : bX P d mi pc lv (.inl y :: .inl i :: .inr (.inr (.inl z)) :: st) w r w2 := by
  subst hp
  subst hv
  refine x_step ho (q := (_, _, _, _)) ?_ k
  simp only [bstep, bast, bast, hr, hi, and_self, if_true]
  all_goals rfl
theorem x_cas {z : Nat} {xs xs2 : List Int32} {i y : Int32} (ho : P.1 mi pc = some (.castore, j, a, b, v)) (hr : w.1[z]? = some (.inr (.inl (0, xs)))) (hi : bin i xs.length = true) (hv : xs.set i.toNatClampNeg (vp_nar .char y) = xs2) (hp : pc + 1 = pc') (k : bX P d mi pc' lv st (w.1.set z (.inr (.inl (0, xs2))), w.2) r w2) : bX P d mi pc lv (.inl y :: .inl i :: .inr (.inr (.inl z)) :: st) w r w2 := by
  subst hp
  subst hv
  refine x_step ho (q := (_, _, _, _)) ?_ k
  simp only [bstep, bast, bast, hr, hi, and_self, if_true]
  all_goals rfl
theorem x_zas {z : Nat} {xs xs2 : List Int32} {i y : Int32} (ho : P.1 mi pc = some (.bastore, j, a, b, v)) (hr : w.1[z]? = some (.inr (.inl (3, xs)))) (hi : bin i xs.length = true) (hv : xs.set i.toNatClampNeg (vp_nar .boolean y) = xs2) (hp : pc + 1 = pc') (k : bX P d mi pc' lv st (w.1.set z (.inr (.inl (3, xs2))), w.2) r w2) : bX P d mi pc lv (.inl y :: .inl i :: .inr (.inr (.inl z)) :: st) w r w2 := by
  subst hp
  subst hv
  refine x_step ho (q := (_, _, _, _)) ?_ k
  simp only [bstep, bast, bast, hr, hi, and_self, if_true]
  all_goals rfl
theorem x_las {z : Nat} {xs xs2 : List Int64} {i : Int32} {y : Int64} (ho : P.1 mi pc = some (.lastore, j, a, b, v)) (hr : w.1[z]? = some (.inr (.inr (.inl xs)))) (hi : bin i xs.length = true) (hv : xs.set i.toNatClampNeg y = xs2) (hp : pc + 1 = pc') (k : bX P d mi pc' lv st (w.1.set z (.inr (.inr (.inl xs2))), w.2) r w2) : bX P d mi pc lv (.inr (.inl y) :: .inl i :: .inr (.inr (.inl z)) :: st) w r w2 := by
  subst hp
  subst hv
  refine x_step ho (q := (_, _, _, _)) ?_ k
  simp only [bstep, blast, blast, hr, hi, if_true]
  all_goals rfl
theorem x_aas {z t y ci : Nat} {xs xs2 : List (Option Nat)} {fs : List bV} {i : Int32} (ho : P.1 mi pc = some (.aastore, j, a, b, v)) (hr : w.1[z]? = some (.inr (.inr (.inr (t, xs))))) (hy : w.1[y]? = some (.inl (ci, fs))) (ht : t = 4 ∨ t = 5) (hc : ci = bcls t) (hi : bin i xs.length = true) (hv : xs.set i.toNatClampNeg (some y) = xs2) (hp : pc + 1 = pc') (k : bX P d mi pc' lv st (w.1.set z (.inr (.inr (.inr (t, xs2)))), w.2) r w2) : bX P d mi pc lv (.inr (.inr (.inl y)) :: .inl i :: .inr (.inr (.inl z)) :: st) w r w2 := by
  subst hp
  subst hv
  refine x_step ho (q := (_, _, _, _)) ?_ k
  simp only [bstep, baast, hr, hy]
  exact if_pos ⟨ht, hc, hi⟩
  all_goals rfl
theorem x_alen {c : bC} {u : bV} {n : Nat} {x : Int32} (ho : P.1 mi pc = some (.arraylength, j, a, b, v)) (hr : barr P.2.2.1 w u = some c) (hn : blen c = some n) (hv : Int32.ofNat n = x) (hp : pc + 1 = pc') (k : bX P d mi pc' lv (.inl x :: st) w r w2) : bX P d mi pc lv (u :: st) w r w2 := by
  subst hp
  subst hv
  refine x_step ho (q := (_, _, _, _)) ?_ k
  simp only [bstep, balen, balen, hr, hn]
  all_goals rfl
theorem x_gs {ix : Nat} (ho : P.1 mi pc = some (.getstatic ix, j, a, b, v))  (hp : pc + 3 = pc') (k : bX P d mi pc' lv (.inr (.inr (.inr (some a))) :: st) w r w2) : bX P d mi pc lv st w r w2 := by
  subst hp
  exact x_step ho rfl k
theorem x_new {ix n : Nat} {fs : List bV} (ho : P.1 mi pc = some (.new ix, j, a, b, v)) (hw : w.2 = 0) (hv : v = 0) (hf : (bty a).map bdf = fs) (hn : w.1.length = n) (hp : pc + 3 = pc') (k : bX P d mi pc' lv (.inr (.inr (.inl n)) :: st) (w.1 ++ [.inl (a, fs)], w.2) r w2) : bX P d mi pc lv st w r w2 := by
  subst hp
  subst hf
  subst hn
  refine x_step ho (q := (_, _, _, _)) ?_ k
  exact if_pos ⟨hw, hv⟩
  all_goals rfl
theorem x_nwi {t : ArrayType} {n : Nat} {m : Int32} (ho : P.1 mi pc = some (.newarray t, j, a, b, v)) (hw : w.2 = 0) (hm : ¬ m < 0) (hq : m.toNatClampNeg * 8 ≤ 536870912) (ha : ¬ a = 2) (hn : w.1.length = n) (hp : pc + 2 = pc') (k : bX P d mi pc' lv (.inr (.inr (.inl n)) :: st) (w.1 ++ [.inr (.inl (a, List.replicate m.toNatClampNeg 0))], w.2) r w2) : bX P d mi pc lv (.inl m :: st) w r w2 := by
  subst hp
  subst hn
  refine x_step ho (q := (_, _, _, _)) ?_ k
  simp only [bstep, bnwa]
  rw [if_neg ha]
  exact if_pos ⟨hw, hm, hq⟩
  all_goals rfl
theorem x_nwl {t : ArrayType} {n : Nat} {m : Int32} (ho : P.1 mi pc = some (.newarray t, j, a, b, v)) (hw : w.2 = 0) (hm : ¬ m < 0) (hq : m.toNatClampNeg * 8 ≤ 536870912) (ha : a = 2) (hn : w.1.length = n) (hp : pc + 2 = pc') (k : bX P d mi pc' lv (.inr (.inr (.inl n)) :: st) (w.1 ++ [.inr (.inr (.inl (List.replicate m.toNatClampNeg 0)))], w.2) r w2) : bX P d mi pc lv (.inl m :: st) w r w2 := by
  subst hp
  subst hn
  refine x_step ho (q := (_, _, _, _)) ?_ k
  simp only [bstep, bnwa]
  rw [if_pos ha]
  exact if_pos ⟨hw, hm, hq⟩
  all_goals rfl
theorem x_nwq {ix n : Nat} {m : Int32} (ho : P.1 mi pc = some (.anewarray ix, j, a, b, v)) (hw : w.2 = 0) (hm : ¬ m < 0) (hq : m.toNatClampNeg * 8 ≤ 536870912) (hn : w.1.length = n) (hp : pc + 3 = pc') (k : bX P d mi pc' lv (.inr (.inr (.inl n)) :: st) (w.1 ++ [.inr (.inr (.inr (a, List.replicate m.toNatClampNeg none)))], w.2) r w2) : bX P d mi pc lv (.inl m :: st) w r w2 := by
  subst hp
  subst hn
  refine x_step ho (q := (_, _, _, _)) ?_ k
  exact if_pos ⟨hw, hm, hq⟩
  all_goals rfl
theorem x_obj {ix z : Nat} (ho : P.1 mi pc = some (.invokespecial ix, j, a, b, v)) (hv : v = 1) (hs : (st.map bvc).sum ≤ 8) (hp : pc + 3 = pc') (k : bX P d mi pc' lv st w r w2) : bX P d mi pc lv (.inr (.inr (.inl z)) :: st) w r w2 := by
  subst hp
  refine x_step ho (q := (_, _, _, _)) ?_ k
  exact if_pos ⟨hv, hs⟩
  all_goals rfl
theorem x_tswi {dflt lo hi off : Int} {offs : Array Int} {x : Int32} (ho : P.1 mi pc = some (.tableswitch dflt lo hi offs, j, a, b, v)) (h1 : ¬ (x.toInt < lo ∨ hi < x.toInt)) (h2 : offs[(x.toInt - lo).toNat]? = some off) (h3 : (pc : Int) + off = (pc' : Int)) (k : bX P d mi pc' lv st w r w2) : bX P d mi pc lv (.inl x :: st) w r w2 := by
  refine x_step ho (q := (pc', lv, st, w)) ?_ k
  simp only [bstep, btsw, if_neg h1, h2]
  rw [if_pos (by omega), h3]
  rfl
theorem x_tswo {dflt lo hi : Int} {offs : Array Int} {x : Int32} (ho : P.1 mi pc = some (.tableswitch dflt lo hi offs, j, a, b, v)) (h1 : x.toInt < lo ∨ hi < x.toInt) (h3 : (pc : Int) + dflt = (pc' : Int)) (k : bX P d mi pc' lv st w r w2) : bX P d mi pc lv (.inl x :: st) w r w2 := by
  refine x_step ho (q := (pc', lv, st, w)) ?_ k
  simp only [bstep, btsw, if_pos h1]
  rw [if_pos (by omega), h3]
  rfl
theorem x_lsw {dflt off : Int} {ps : Array (Int × Int)} {x : Int32} (ho : P.1 mi pc = some (.lookupswitch dflt ps, j, a, b, v)) (h2 : Op.lookupswitch.offset ps.toList dflt x.toInt = off) (h3 : (pc : Int) + off = (pc' : Int)) (k : bX P d mi pc' lv st w r w2) : bX P d mi pc lv (.inl x :: st) w r w2 := by
  refine x_step ho (q := (pc', lv, st, w)) ?_ k
  simp only [bstep, blsw, h2]
  rw [if_pos (by omega), h3]
  rfl
theorem x_iret {x : Int32} {t : FieldType} (ho : P.1 mi pc = some (.ireturn, j, a, b, v)) (ht : (P.2.1 mi).2.2.2.1 = some t) (hk : bokf t (.inl x) = true) : bX P d mi pc lv [.inl x] w (.inl (some (.inl x))) w :=
  x_ret ho (by rw [ht]; show (if bokf t (.inl x) = true then _ else none) = _; exact if_pos hk)
theorem x_lret {x : Int64} (ho : P.1 mi pc = some (.lreturn, j, a, b, v)) (ht : (P.2.1 mi).2.2.2.1 = some .long) : bX P d mi pc lv [.inr (.inl x)] w (.inl (some (.inr (.inl x)))) w :=
  x_ret ho (by rw [ht]; rfl)
theorem x_aret {x : Nat} {n : String} (ho : P.1 mi pc = some (.areturn, j, a, b, v)) (ht : (P.2.1 mi).2.2.2.1 = some (.object n)) : bX P d mi pc lv [.inr (.inr (.inl x))] w (.inl (some (.inr (.inr (.inl x))))) w :=
  x_ret ho (by rw [ht]; rfl)
theorem x_vret (ho : P.1 mi pc = some (.return_, j, a, b, v)) (ht : (P.2.1 mi).2.2.2.1 = none) : bX P d mi pc lv [] w (.inl none) w :=
  x_ret ho (by rw [ht]; rfl)
theorem x_cs0 {ix : Nat}  {z : Option bV} {st2 : List bV} (ho : P.1 mi pc = some (.invokestatic ix, j, a, 0, v)) (hs : (st.map bvc).sum ≤ 8) (hl : ([].map bvc).sum ≤ (P.2.1 a).2.2.1) (h : bX P d a 0 (blva 0 []) [] w (.inl z) w1) (hp : pc + 3 = pc') (hz : z.toList ++ st = st2) (k : bX P (d + 1) mi pc' lv st2 w1 r w2) : bX P (d + 1) mi pc lv (st) w r w2 := by
  subst hp
  subst hz
  exact x_call ho (q := (a, [], st)) (if_pos ⟨by simp, hs⟩) hl h k
theorem x_cv0 {ix q c : Nat} {fs : List bV}  {z : Option bV} {st2 : List bV} (ho : P.1 mi pc = some (.invokevirtual ix, j, a, 0, v)) (hq : w.1[q]? = some (.inl (c, fs))) (hc : (c : Int) = v) (hs : (st.map bvc).sum ≤ 8) (hl : ((.inr (.inr (.inl q)) :: [] : List bV).map bvc).sum ≤ (P.2.1 a).2.2.1) (h : bX P d a 0 (blva 0 (.inr (.inr (.inl q)) :: [])) [] w (.inl z) w1) (hp : pc + 3 = pc') (hz : z.toList ++ st = st2) (k : bX P (d + 1) mi pc' lv st2 w1 r w2) : bX P (d + 1) mi pc lv (.inr (.inr (.inl q)) :: st) w r w2 := by
  subst hp
  subst hz
  exact x_call ho (q := (a, .inr (.inr (.inl q)) :: [], st)) (by show (match w.1[q]? with | some (.inl (ci, _)) => _ | _ => none) = _; rw [hq]; exact if_pos ⟨hc, hs⟩) hl h k
theorem x_ov0 {ix q c : Nat} {fs : List bV}  {x : String} (ho : P.1 mi pc = some (.invokevirtual ix, j, a, 0, v)) (hq : w.1[q]? = some (.inl (c, fs))) (hc : (c : Int) = v) (hs : (st.map bvc).sum ≤ 8) (hl : ((.inr (.inr (.inl q)) :: [] : List bV).map bvc).sum ≤ (P.2.1 a).2.2.1) (h : bX P d a 0 (blva 0 (.inr (.inr (.inl q)) :: [])) [] w (.inr x) w1) (hH : (P.2.1 mi).2.2.2.2 = []) : bX P (d + 1) mi pc lv (.inr (.inr (.inl q)) :: st) w (.inr x) w1 :=
  x_callO ho (q := (a, .inr (.inr (.inl q)) :: [], st)) (by show (match w.1[q]? with | some (.inl (ci, _)) => _ | _ => none) = _; rw [hq]; exact if_pos ⟨hc, hs⟩) hl h hH rfl
theorem x_ci0 {ix q : Nat}  {z : Option bV} {st2 : List bV} (ho : P.1 mi pc = some (.invokespecial ix, j, a, 0, 0)) (hs : (st.map bvc).sum ≤ 8) (hl : ((.inr (.inr (.inl q)) :: [] : List bV).map bvc).sum ≤ (P.2.1 a).2.2.1) (h : bX P d a 0 (blva 0 (.inr (.inr (.inl q)) :: [])) [] w (.inl z) w1) (hp : pc + 3 = pc') (hz : z.toList ++ st = st2) (k : bX P (d + 1) mi pc' lv st2 w1 r w2) : bX P (d + 1) mi pc lv (.inr (.inr (.inl q)) :: st) w r w2 := by
  subst hp
  subst hz
  exact x_call ho (q := (a, .inr (.inr (.inl q)) :: [], st)) (if_pos ⟨rfl, hs⟩) hl h k
theorem x_cs1 {ix : Nat} {u1 : bV} {z : Option bV} {st2 : List bV} (ho : P.1 mi pc = some (.invokestatic ix, j, a, 1, v)) (hs : (st.map bvc).sum ≤ 8) (hl : ([u1].map bvc).sum ≤ (P.2.1 a).2.2.1) (h : bX P d a 0 (blva 0 [u1]) [] w (.inl z) w1) (hp : pc + 3 = pc') (hz : z.toList ++ st = st2) (k : bX P (d + 1) mi pc' lv st2 w1 r w2) : bX P (d + 1) mi pc lv (u1 :: st) w r w2 := by
  subst hp
  subst hz
  exact x_call ho (q := (a, [u1], st)) (if_pos ⟨by simp, hs⟩) hl h k
theorem x_cv1 {ix q c : Nat} {fs : List bV} {u1 : bV} {z : Option bV} {st2 : List bV} (ho : P.1 mi pc = some (.invokevirtual ix, j, a, 1, v)) (hq : w.1[q]? = some (.inl (c, fs))) (hc : (c : Int) = v) (hs : (st.map bvc).sum ≤ 8) (hl : ((.inr (.inr (.inl q)) :: [u1] : List bV).map bvc).sum ≤ (P.2.1 a).2.2.1) (h : bX P d a 0 (blva 0 (.inr (.inr (.inl q)) :: [u1])) [] w (.inl z) w1) (hp : pc + 3 = pc') (hz : z.toList ++ st = st2) (k : bX P (d + 1) mi pc' lv st2 w1 r w2) : bX P (d + 1) mi pc lv (u1 :: .inr (.inr (.inl q)) :: st) w r w2 := by
  subst hp
  subst hz
  exact x_call ho (q := (a, .inr (.inr (.inl q)) :: [u1], st)) (by show (match w.1[q]? with | some (.inl (ci, _)) => _ | _ => none) = _; rw [hq]; exact if_pos ⟨hc, hs⟩) hl h k
theorem x_ov1 {ix q c : Nat} {fs : List bV} {u1 : bV} {x : String} (ho : P.1 mi pc = some (.invokevirtual ix, j, a, 1, v)) (hq : w.1[q]? = some (.inl (c, fs))) (hc : (c : Int) = v) (hs : (st.map bvc).sum ≤ 8) (hl : ((.inr (.inr (.inl q)) :: [u1] : List bV).map bvc).sum ≤ (P.2.1 a).2.2.1) (h : bX P d a 0 (blva 0 (.inr (.inr (.inl q)) :: [u1])) [] w (.inr x) w1) (hH : (P.2.1 mi).2.2.2.2 = []) : bX P (d + 1) mi pc lv (u1 :: .inr (.inr (.inl q)) :: st) w (.inr x) w1 :=
  x_callO ho (q := (a, .inr (.inr (.inl q)) :: [u1], st)) (by show (match w.1[q]? with | some (.inl (ci, _)) => _ | _ => none) = _; rw [hq]; exact if_pos ⟨hc, hs⟩) hl h hH rfl
theorem x_ci1 {ix q : Nat} {u1 : bV} {z : Option bV} {st2 : List bV} (ho : P.1 mi pc = some (.invokespecial ix, j, a, 1, 0)) (hs : (st.map bvc).sum ≤ 8) (hl : ((.inr (.inr (.inl q)) :: [u1] : List bV).map bvc).sum ≤ (P.2.1 a).2.2.1) (h : bX P d a 0 (blva 0 (.inr (.inr (.inl q)) :: [u1])) [] w (.inl z) w1) (hp : pc + 3 = pc') (hz : z.toList ++ st = st2) (k : bX P (d + 1) mi pc' lv st2 w1 r w2) : bX P (d + 1) mi pc lv (u1 :: .inr (.inr (.inl q)) :: st) w r w2 := by
  subst hp
  subst hz
  exact x_call ho (q := (a, .inr (.inr (.inl q)) :: [u1], st)) (if_pos ⟨rfl, hs⟩) hl h k
theorem x_cs2 {ix : Nat} {u1 u2 : bV} {z : Option bV} {st2 : List bV} (ho : P.1 mi pc = some (.invokestatic ix, j, a, 2, v)) (hs : (st.map bvc).sum ≤ 8) (hl : ([u1, u2].map bvc).sum ≤ (P.2.1 a).2.2.1) (h : bX P d a 0 (blva 0 [u1, u2]) [] w (.inl z) w1) (hp : pc + 3 = pc') (hz : z.toList ++ st = st2) (k : bX P (d + 1) mi pc' lv st2 w1 r w2) : bX P (d + 1) mi pc lv (u2 :: u1 :: st) w r w2 := by
  subst hp
  subst hz
  exact x_call ho (q := (a, [u1, u2], st)) (if_pos ⟨by simp, hs⟩) hl h k
theorem x_cv2 {ix q c : Nat} {fs : List bV} {u1 u2 : bV} {z : Option bV} {st2 : List bV} (ho : P.1 mi pc = some (.invokevirtual ix, j, a, 2, v)) (hq : w.1[q]? = some (.inl (c, fs))) (hc : (c : Int) = v) (hs : (st.map bvc).sum ≤ 8) (hl : ((.inr (.inr (.inl q)) :: [u1, u2] : List bV).map bvc).sum ≤ (P.2.1 a).2.2.1) (h : bX P d a 0 (blva 0 (.inr (.inr (.inl q)) :: [u1, u2])) [] w (.inl z) w1) (hp : pc + 3 = pc') (hz : z.toList ++ st = st2) (k : bX P (d + 1) mi pc' lv st2 w1 r w2) : bX P (d + 1) mi pc lv (u2 :: u1 :: .inr (.inr (.inl q)) :: st) w r w2 := by
  subst hp
  subst hz
  exact x_call ho (q := (a, .inr (.inr (.inl q)) :: [u1, u2], st)) (by show (match w.1[q]? with | some (.inl (ci, _)) => _ | _ => none) = _; rw [hq]; exact if_pos ⟨hc, hs⟩) hl h k
theorem x_ov2 {ix q c : Nat} {fs : List bV} {u1 u2 : bV} {x : String} (ho : P.1 mi pc = some (.invokevirtual ix, j, a, 2, v)) (hq : w.1[q]? = some (.inl (c, fs))) (hc : (c : Int) = v) (hs : (st.map bvc).sum ≤ 8) (hl : ((.inr (.inr (.inl q)) :: [u1, u2] : List bV).map bvc).sum ≤ (P.2.1 a).2.2.1) (h : bX P d a 0 (blva 0 (.inr (.inr (.inl q)) :: [u1, u2])) [] w (.inr x) w1) (hH : (P.2.1 mi).2.2.2.2 = []) : bX P (d + 1) mi pc lv (u2 :: u1 :: .inr (.inr (.inl q)) :: st) w (.inr x) w1 :=
  x_callO ho (q := (a, .inr (.inr (.inl q)) :: [u1, u2], st)) (by show (match w.1[q]? with | some (.inl (ci, _)) => _ | _ => none) = _; rw [hq]; exact if_pos ⟨hc, hs⟩) hl h hH rfl
theorem x_ci2 {ix q : Nat} {u1 u2 : bV} {z : Option bV} {st2 : List bV} (ho : P.1 mi pc = some (.invokespecial ix, j, a, 2, 0)) (hs : (st.map bvc).sum ≤ 8) (hl : ((.inr (.inr (.inl q)) :: [u1, u2] : List bV).map bvc).sum ≤ (P.2.1 a).2.2.1) (h : bX P d a 0 (blva 0 (.inr (.inr (.inl q)) :: [u1, u2])) [] w (.inl z) w1) (hp : pc + 3 = pc') (hz : z.toList ++ st = st2) (k : bX P (d + 1) mi pc' lv st2 w1 r w2) : bX P (d + 1) mi pc lv (u2 :: u1 :: .inr (.inr (.inl q)) :: st) w r w2 := by
  subst hp
  subst hz
  exact x_call ho (q := (a, .inr (.inr (.inl q)) :: [u1, u2], st)) (if_pos ⟨rfl, hs⟩) hl h k
theorem x_cs3 {ix : Nat} {u1 u2 u3 : bV} {z : Option bV} {st2 : List bV} (ho : P.1 mi pc = some (.invokestatic ix, j, a, 3, v)) (hs : (st.map bvc).sum ≤ 8) (hl : ([u1, u2, u3].map bvc).sum ≤ (P.2.1 a).2.2.1) (h : bX P d a 0 (blva 0 [u1, u2, u3]) [] w (.inl z) w1) (hp : pc + 3 = pc') (hz : z.toList ++ st = st2) (k : bX P (d + 1) mi pc' lv st2 w1 r w2) : bX P (d + 1) mi pc lv (u3 :: u2 :: u1 :: st) w r w2 := by
  subst hp
  subst hz
  exact x_call ho (q := (a, [u1, u2, u3], st)) (if_pos ⟨by simp, hs⟩) hl h k
theorem x_cv3 {ix q c : Nat} {fs : List bV} {u1 u2 u3 : bV} {z : Option bV} {st2 : List bV} (ho : P.1 mi pc = some (.invokevirtual ix, j, a, 3, v)) (hq : w.1[q]? = some (.inl (c, fs))) (hc : (c : Int) = v) (hs : (st.map bvc).sum ≤ 8) (hl : ((.inr (.inr (.inl q)) :: [u1, u2, u3] : List bV).map bvc).sum ≤ (P.2.1 a).2.2.1) (h : bX P d a 0 (blva 0 (.inr (.inr (.inl q)) :: [u1, u2, u3])) [] w (.inl z) w1) (hp : pc + 3 = pc') (hz : z.toList ++ st = st2) (k : bX P (d + 1) mi pc' lv st2 w1 r w2) : bX P (d + 1) mi pc lv (u3 :: u2 :: u1 :: .inr (.inr (.inl q)) :: st) w r w2 := by
  subst hp
  subst hz
  exact x_call ho (q := (a, .inr (.inr (.inl q)) :: [u1, u2, u3], st)) (by show (match w.1[q]? with | some (.inl (ci, _)) => _ | _ => none) = _; rw [hq]; exact if_pos ⟨hc, hs⟩) hl h k
theorem x_ov3 {ix q c : Nat} {fs : List bV} {u1 u2 u3 : bV} {x : String} (ho : P.1 mi pc = some (.invokevirtual ix, j, a, 3, v)) (hq : w.1[q]? = some (.inl (c, fs))) (hc : (c : Int) = v) (hs : (st.map bvc).sum ≤ 8) (hl : ((.inr (.inr (.inl q)) :: [u1, u2, u3] : List bV).map bvc).sum ≤ (P.2.1 a).2.2.1) (h : bX P d a 0 (blva 0 (.inr (.inr (.inl q)) :: [u1, u2, u3])) [] w (.inr x) w1) (hH : (P.2.1 mi).2.2.2.2 = []) : bX P (d + 1) mi pc lv (u3 :: u2 :: u1 :: .inr (.inr (.inl q)) :: st) w (.inr x) w1 :=
  x_callO ho (q := (a, .inr (.inr (.inl q)) :: [u1, u2, u3], st)) (by show (match w.1[q]? with | some (.inl (ci, _)) => _ | _ => none) = _; rw [hq]; exact if_pos ⟨hc, hs⟩) hl h hH rfl
theorem x_ci3 {ix q : Nat} {u1 u2 u3 : bV} {z : Option bV} {st2 : List bV} (ho : P.1 mi pc = some (.invokespecial ix, j, a, 3, 0)) (hs : (st.map bvc).sum ≤ 8) (hl : ((.inr (.inr (.inl q)) :: [u1, u2, u3] : List bV).map bvc).sum ≤ (P.2.1 a).2.2.1) (h : bX P d a 0 (blva 0 (.inr (.inr (.inl q)) :: [u1, u2, u3])) [] w (.inl z) w1) (hp : pc + 3 = pc') (hz : z.toList ++ st = st2) (k : bX P (d + 1) mi pc' lv st2 w1 r w2) : bX P (d + 1) mi pc lv (u3 :: u2 :: u1 :: .inr (.inr (.inl q)) :: st) w r w2 := by
  subst hp
  subst hz
  exact x_call ho (q := (a, .inr (.inr (.inl q)) :: [u1, u2, u3], st)) (if_pos ⟨rfl, hs⟩) hl h k
theorem x_cs4 {ix : Nat} {u1 u2 u3 u4 : bV} {z : Option bV} {st2 : List bV} (ho : P.1 mi pc = some (.invokestatic ix, j, a, 4, v)) (hs : (st.map bvc).sum ≤ 8) (hl : ([u1, u2, u3, u4].map bvc).sum ≤ (P.2.1 a).2.2.1) (h : bX P d a 0 (blva 0 [u1, u2, u3, u4]) [] w (.inl z) w1) (hp : pc + 3 = pc') (hz : z.toList ++ st = st2) (k : bX P (d + 1) mi pc' lv st2 w1 r w2) : bX P (d + 1) mi pc lv (u4 :: u3 :: u2 :: u1 :: st) w r w2 := by
  subst hp
  subst hz
  exact x_call ho (q := (a, [u1, u2, u3, u4], st)) (if_pos ⟨by simp, hs⟩) hl h k
theorem x_cv4 {ix q c : Nat} {fs : List bV} {u1 u2 u3 u4 : bV} {z : Option bV} {st2 : List bV} (ho : P.1 mi pc = some (.invokevirtual ix, j, a, 4, v)) (hq : w.1[q]? = some (.inl (c, fs))) (hc : (c : Int) = v) (hs : (st.map bvc).sum ≤ 8) (hl : ((.inr (.inr (.inl q)) :: [u1, u2, u3, u4] : List bV).map bvc).sum ≤ (P.2.1 a).2.2.1) (h : bX P d a 0 (blva 0 (.inr (.inr (.inl q)) :: [u1, u2, u3, u4])) [] w (.inl z) w1) (hp : pc + 3 = pc') (hz : z.toList ++ st = st2) (k : bX P (d + 1) mi pc' lv st2 w1 r w2) : bX P (d + 1) mi pc lv (u4 :: u3 :: u2 :: u1 :: .inr (.inr (.inl q)) :: st) w r w2 := by
  subst hp
  subst hz
  exact x_call ho (q := (a, .inr (.inr (.inl q)) :: [u1, u2, u3, u4], st)) (by show (match w.1[q]? with | some (.inl (ci, _)) => _ | _ => none) = _; rw [hq]; exact if_pos ⟨hc, hs⟩) hl h k
theorem x_ov4 {ix q c : Nat} {fs : List bV} {u1 u2 u3 u4 : bV} {x : String} (ho : P.1 mi pc = some (.invokevirtual ix, j, a, 4, v)) (hq : w.1[q]? = some (.inl (c, fs))) (hc : (c : Int) = v) (hs : (st.map bvc).sum ≤ 8) (hl : ((.inr (.inr (.inl q)) :: [u1, u2, u3, u4] : List bV).map bvc).sum ≤ (P.2.1 a).2.2.1) (h : bX P d a 0 (blva 0 (.inr (.inr (.inl q)) :: [u1, u2, u3, u4])) [] w (.inr x) w1) (hH : (P.2.1 mi).2.2.2.2 = []) : bX P (d + 1) mi pc lv (u4 :: u3 :: u2 :: u1 :: .inr (.inr (.inl q)) :: st) w (.inr x) w1 :=
  x_callO ho (q := (a, .inr (.inr (.inl q)) :: [u1, u2, u3, u4], st)) (by show (match w.1[q]? with | some (.inl (ci, _)) => _ | _ => none) = _; rw [hq]; exact if_pos ⟨hc, hs⟩) hl h hH rfl
theorem x_ci4 {ix q : Nat} {u1 u2 u3 u4 : bV} {z : Option bV} {st2 : List bV} (ho : P.1 mi pc = some (.invokespecial ix, j, a, 4, 0)) (hs : (st.map bvc).sum ≤ 8) (hl : ((.inr (.inr (.inl q)) :: [u1, u2, u3, u4] : List bV).map bvc).sum ≤ (P.2.1 a).2.2.1) (h : bX P d a 0 (blva 0 (.inr (.inr (.inl q)) :: [u1, u2, u3, u4])) [] w (.inl z) w1) (hp : pc + 3 = pc') (hz : z.toList ++ st = st2) (k : bX P (d + 1) mi pc' lv st2 w1 r w2) : bX P (d + 1) mi pc lv (u4 :: u3 :: u2 :: u1 :: .inr (.inr (.inl q)) :: st) w r w2 := by
  subst hp
  subst hz
  exact x_call ho (q := (a, .inr (.inr (.inl q)) :: [u1, u2, u3, u4], st)) (if_pos ⟨rfl, hs⟩) hl h k
theorem x_cs5 {ix : Nat} {u1 u2 u3 u4 u5 : bV} {z : Option bV} {st2 : List bV} (ho : P.1 mi pc = some (.invokestatic ix, j, a, 5, v)) (hs : (st.map bvc).sum ≤ 8) (hl : ([u1, u2, u3, u4, u5].map bvc).sum ≤ (P.2.1 a).2.2.1) (h : bX P d a 0 (blva 0 [u1, u2, u3, u4, u5]) [] w (.inl z) w1) (hp : pc + 3 = pc') (hz : z.toList ++ st = st2) (k : bX P (d + 1) mi pc' lv st2 w1 r w2) : bX P (d + 1) mi pc lv (u5 :: u4 :: u3 :: u2 :: u1 :: st) w r w2 := by
  subst hp
  subst hz
  exact x_call ho (q := (a, [u1, u2, u3, u4, u5], st)) (if_pos ⟨by simp, hs⟩) hl h k
theorem x_cv5 {ix q c : Nat} {fs : List bV} {u1 u2 u3 u4 u5 : bV} {z : Option bV} {st2 : List bV} (ho : P.1 mi pc = some (.invokevirtual ix, j, a, 5, v)) (hq : w.1[q]? = some (.inl (c, fs))) (hc : (c : Int) = v) (hs : (st.map bvc).sum ≤ 8) (hl : ((.inr (.inr (.inl q)) :: [u1, u2, u3, u4, u5] : List bV).map bvc).sum ≤ (P.2.1 a).2.2.1) (h : bX P d a 0 (blva 0 (.inr (.inr (.inl q)) :: [u1, u2, u3, u4, u5])) [] w (.inl z) w1) (hp : pc + 3 = pc') (hz : z.toList ++ st = st2) (k : bX P (d + 1) mi pc' lv st2 w1 r w2) : bX P (d + 1) mi pc lv (u5 :: u4 :: u3 :: u2 :: u1 :: .inr (.inr (.inl q)) :: st) w r w2 := by
  subst hp
  subst hz
  exact x_call ho (q := (a, .inr (.inr (.inl q)) :: [u1, u2, u3, u4, u5], st)) (by show (match w.1[q]? with | some (.inl (ci, _)) => _ | _ => none) = _; rw [hq]; exact if_pos ⟨hc, hs⟩) hl h k
theorem x_ov5 {ix q c : Nat} {fs : List bV} {u1 u2 u3 u4 u5 : bV} {x : String} (ho : P.1 mi pc = some (.invokevirtual ix, j, a, 5, v)) (hq : w.1[q]? = some (.inl (c, fs))) (hc : (c : Int) = v) (hs : (st.map bvc).sum ≤ 8) (hl : ((.inr (.inr (.inl q)) :: [u1, u2, u3, u4, u5] : List bV).map bvc).sum ≤ (P.2.1 a).2.2.1) (h : bX P d a 0 (blva 0 (.inr (.inr (.inl q)) :: [u1, u2, u3, u4, u5])) [] w (.inr x) w1) (hH : (P.2.1 mi).2.2.2.2 = []) : bX P (d + 1) mi pc lv (u5 :: u4 :: u3 :: u2 :: u1 :: .inr (.inr (.inl q)) :: st) w (.inr x) w1 :=
  x_callO ho (q := (a, .inr (.inr (.inl q)) :: [u1, u2, u3, u4, u5], st)) (by show (match w.1[q]? with | some (.inl (ci, _)) => _ | _ => none) = _; rw [hq]; exact if_pos ⟨hc, hs⟩) hl h hH rfl
theorem x_ci5 {ix q : Nat} {u1 u2 u3 u4 u5 : bV} {z : Option bV} {st2 : List bV} (ho : P.1 mi pc = some (.invokespecial ix, j, a, 5, 0)) (hs : (st.map bvc).sum ≤ 8) (hl : ((.inr (.inr (.inl q)) :: [u1, u2, u3, u4, u5] : List bV).map bvc).sum ≤ (P.2.1 a).2.2.1) (h : bX P d a 0 (blva 0 (.inr (.inr (.inl q)) :: [u1, u2, u3, u4, u5])) [] w (.inl z) w1) (hp : pc + 3 = pc') (hz : z.toList ++ st = st2) (k : bX P (d + 1) mi pc' lv st2 w1 r w2) : bX P (d + 1) mi pc lv (u5 :: u4 :: u3 :: u2 :: u1 :: .inr (.inr (.inl q)) :: st) w r w2 := by
  subst hp
  subst hz
  exact x_call ho (q := (a, .inr (.inr (.inl q)) :: [u1, u2, u3, u4, u5], st)) (if_pos ⟨rfl, hs⟩) hl h k
theorem x_cs6 {ix : Nat} {u1 u2 u3 u4 u5 u6 : bV} {z : Option bV} {st2 : List bV} (ho : P.1 mi pc = some (.invokestatic ix, j, a, 6, v)) (hs : (st.map bvc).sum ≤ 8) (hl : ([u1, u2, u3, u4, u5, u6].map bvc).sum ≤ (P.2.1 a).2.2.1) (h : bX P d a 0 (blva 0 [u1, u2, u3, u4, u5, u6]) [] w (.inl z) w1) (hp : pc + 3 = pc') (hz : z.toList ++ st = st2) (k : bX P (d + 1) mi pc' lv st2 w1 r w2) : bX P (d + 1) mi pc lv (u6 :: u5 :: u4 :: u3 :: u2 :: u1 :: st) w r w2 := by
  subst hp
  subst hz
  exact x_call ho (q := (a, [u1, u2, u3, u4, u5, u6], st)) (if_pos ⟨by simp, hs⟩) hl h k
theorem x_cv6 {ix q c : Nat} {fs : List bV} {u1 u2 u3 u4 u5 u6 : bV} {z : Option bV} {st2 : List bV} (ho : P.1 mi pc = some (.invokevirtual ix, j, a, 6, v)) (hq : w.1[q]? = some (.inl (c, fs))) (hc : (c : Int) = v) (hs : (st.map bvc).sum ≤ 8) (hl : ((.inr (.inr (.inl q)) :: [u1, u2, u3, u4, u5, u6] : List bV).map bvc).sum ≤ (P.2.1 a).2.2.1) (h : bX P d a 0 (blva 0 (.inr (.inr (.inl q)) :: [u1, u2, u3, u4, u5, u6])) [] w (.inl z) w1) (hp : pc + 3 = pc') (hz : z.toList ++ st = st2) (k : bX P (d + 1) mi pc' lv st2 w1 r w2) : bX P (d + 1) mi pc lv (u6 :: u5 :: u4 :: u3 :: u2 :: u1 :: .inr (.inr (.inl q)) :: st) w r w2 := by
  subst hp
  subst hz
  exact x_call ho (q := (a, .inr (.inr (.inl q)) :: [u1, u2, u3, u4, u5, u6], st)) (by show (match w.1[q]? with | some (.inl (ci, _)) => _ | _ => none) = _; rw [hq]; exact if_pos ⟨hc, hs⟩) hl h k
theorem x_ov6 {ix q c : Nat} {fs : List bV} {u1 u2 u3 u4 u5 u6 : bV} {x : String} (ho : P.1 mi pc = some (.invokevirtual ix, j, a, 6, v)) (hq : w.1[q]? = some (.inl (c, fs))) (hc : (c : Int) = v) (hs : (st.map bvc).sum ≤ 8) (hl : ((.inr (.inr (.inl q)) :: [u1, u2, u3, u4, u5, u6] : List bV).map bvc).sum ≤ (P.2.1 a).2.2.1) (h : bX P d a 0 (blva 0 (.inr (.inr (.inl q)) :: [u1, u2, u3, u4, u5, u6])) [] w (.inr x) w1) (hH : (P.2.1 mi).2.2.2.2 = []) : bX P (d + 1) mi pc lv (u6 :: u5 :: u4 :: u3 :: u2 :: u1 :: .inr (.inr (.inl q)) :: st) w (.inr x) w1 :=
  x_callO ho (q := (a, .inr (.inr (.inl q)) :: [u1, u2, u3, u4, u5, u6], st)) (by show (match w.1[q]? with | some (.inl (ci, _)) => _ | _ => none) = _; rw [hq]; exact if_pos ⟨hc, hs⟩) hl h hH rfl
theorem x_ci6 {ix q : Nat} {u1 u2 u3 u4 u5 u6 : bV} {z : Option bV} {st2 : List bV} (ho : P.1 mi pc = some (.invokespecial ix, j, a, 6, 0)) (hs : (st.map bvc).sum ≤ 8) (hl : ((.inr (.inr (.inl q)) :: [u1, u2, u3, u4, u5, u6] : List bV).map bvc).sum ≤ (P.2.1 a).2.2.1) (h : bX P d a 0 (blva 0 (.inr (.inr (.inl q)) :: [u1, u2, u3, u4, u5, u6])) [] w (.inl z) w1) (hp : pc + 3 = pc') (hz : z.toList ++ st = st2) (k : bX P (d + 1) mi pc' lv st2 w1 r w2) : bX P (d + 1) mi pc lv (u6 :: u5 :: u4 :: u3 :: u2 :: u1 :: .inr (.inr (.inl q)) :: st) w r w2 := by
  subst hp
  subst hz
  exact x_call ho (q := (a, .inr (.inr (.inl q)) :: [u1, u2, u3, u4, u5, u6], st)) (if_pos ⟨rfl, hs⟩) hl h k
end BROWS
