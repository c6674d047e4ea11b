theorem bcal_iv {ix j a b : Nat} {v : Int} {st rest : List bV} {w : bW} {r ci : Nat} {fs : List bV} (hd : st.drop b = .inr (.inr (.inl r)) :: rest) (hw : w.1[r]? = some (.inl (ci, fs))) (h1 : (ci : Int) = v) (h2 : (rest.map bvc).sum ≤ 8) :
    bcal (.invokevirtual ix, j, a, b, v) st w = some (a, .inr (.inr (.inl r)) :: (st.take b).reverse, rest) := by
  unfold bcal
  simp only [hd, hw]
  exact if_pos ⟨h1, h2⟩
theorem tyk_ob (t : Nat) (h : (tyk t).1 = 0) : (tyk t).2.1 = t := by
  unfold tyk at h ⊢
  split at h <;> first | (cases h; done) | rfl
theorem baast_eq' {pc r v t ci : Nat} {lv : List (Nat × bV)} {rest fs : List bV} {w : bW} {i : Int32} {xs : List (Option Nat)} (h1 : w.1[r]? = some (.inr (.inr (.inr (t, xs))))) (h2 : w.1[v]? = some (.inl (ci, fs))) (h3 : t = 4 ∨ t = 5) (h4 : ci = bcls t) (h5 : bin i xs.length = true) :
    baast pc lv (.inr (.inr (.inl v)) :: .inl i :: .inr (.inr (.inl r)) :: rest) w = some (pc + 1, lv, rest, (w.1.set r (.inr (.inr (.inr (t, xs.set i.toNatClampNeg (some v))))), w.2)) := by
  unfold baast
  simp only [h1, h2]
  exact if_pos ⟨h3, h4, h5⟩
theorem taast_ok {pc r x : Nat} {i : Int} {rest : List tV} {M : tM} {n : Nat} (h1 : tsh r = 27) (h2 : tsh x = 7) (h3 : 0 ≤ i ∧ i < 4) (lv : List (Nat × bV)) : baast pc lv (.inr (.inr (.inl x)) :: .inl (Int32.ofInt i) :: .inr (.inr (.inl r)) :: rest.map tdn) (two M n) = some (pc + 1, lv, rest.map tdn, two (tU M r i (x : Nat)) n) := by
  have hg := two_get (M := M) (n := n) (k := r) h1 (by decide)
  have hx := two_get (M := M) (n := n) (k := x) h2 (by decide)
  rw [tcell_3 (by decide)] at hg
  rw [tcell_0 (by decide)] at hx
  obtain ⟨b1, b2⟩ := tbin (n := 4) h3 (by decide)
  rw [baast_eq' hg hx (by decide) (by decide) (by rw [List.length_map, List.length_range]; exact b1), b2]
  have hs := two_set (M := M) (n := n) (k := r) (i := i) (v := (x : Nat)) h1 (by decide)
  rw [tcell_3 (by decide)] at hs
  have e3 : ((List.range (tyk 27).2.2).map (fun i => some (tel (tyk 27).2.1 r (i : Nat) (M r (i : Nat))))).set i.toNat (some x) = (List.range (tyk 27).2.2).map (fun j => some (tel (tyk 27).2.1 r (j : Nat) (tU M r i (x : Nat) r (j : Nat)))) := by
    have e4 := map_set_range (len := (tyk 27).2.2) (b := i.toNat) (F := fun j => some (tel (tyk 27).2.1 r (j : Nat) (M r (j : Nat)))) (G := fun j => some (tel (tyk 27).2.1 r (j : Nat) (tU M r i (x : Nat) r (j : Nat)))) (fun j hj => by
      show some (tel (tyk 27).2.1 r (j : Nat) (M r (j : Nat))) = some (tel (tyk 27).2.1 r (j : Nat) (tU M r i (x : Nat) r (j : Nat)))
      rw [tU_ni (by omega)])
    have e5 : (some x : Option Nat) = some (tel (tyk 27).2.1 r ((i.toNat : Nat) : Int) (tU M r i (x : Nat) r ((i.toNat : Nat) : Int))) := by
      rw [show ((i.toNat : Nat) : Int) = i by omega, tU_eq]
      rfl
    rw [e5]
    exact e4
  rw [e3, hs, two_eta]
theorem balen_eq' {E : Nat → bC} {pc n : Nat} {lv : List (Nat × bV)} {r : List bV} {w : bW} {a : bV} {c : bC} (h1 : barr E w a = some c) (h2 : blen c = some n) : balen E pc lv (a :: r) w = some (pc + 1, lv, .inl (Int32.ofNat n) :: r, w) := by
  unfold balen
  simp only [h1, h2]
theorem talen_ok {e : tE} {pc r : Nat} {rest : List tV} {M : tM} {n : Nat} (h1 : (tyk (tsh r)).1 = 1 ∨ (tyk (tsh r)).1 = 2) (lv : List (Nat × bV)) : balen (bE e.1) pc lv (.inr (.inr (.inl r)) :: rest.map tdn) (two M n) = some (pc + 1, lv, .inl (Int32.ofInt ((tyk (tsh r)).2.2 : Nat)) :: rest.map tdn, two M n) := by
  have h0 : tsh r ≠ 0 := fun e => by rw [e] at h1; revert h1; decide
  have hg := two_get (M := M) (n := n) (k := r) rfl h0
  rcases h1 with h1 | h1
  · rw [tcell_1 h1] at hg
    rw [balen_eq' (n := (tyk (tsh r)).2.2) (show barr (bE e.1) (two M n) (.inr (.inr (.inl r))) = _ from hg)]
    · rfl
    · unfold blen
      simp only [List.length_map, List.length_range]
      exact if_pos (tyk_ar _ h1)
  · rw [tcell_2 h1] at hg
    rw [balen_eq' (n := (tyk (tsh r)).2.2) (show barr (bE e.1) (two M n) (.inr (.inr (.inl r))) = _ from hg)]
    · rfl
    · unfold blen
      simp only [List.length_map, List.length_range]
theorem talen_x {e : tE} {pc j : Nat} {rest : List tV} {M : tM} {n : Nat} (h1 : j < 4) (lv : List (Nat × bV)) : balen (bE e.1) pc lv (.inr (.inr (.inr (some j))) :: rest.map tdn) (two M n) = some (pc + 1, lv, .inl (Int32.ofInt (txl e j : Nat)) :: rest.map tdn, two M n) := by
  match j, h1 with
  | 0, _ => exact balen_eq' (c := .inr (.inr (.inl bTENS))) (n := 19) rfl rfl
  | 1, _ => exact balen_eq' (c := .inr (.inl (1, e.1))) (n := e.1.length) rfl rfl
  | 2, _ => exact balen_eq' (c := .inr (.inl (1, bLOGS))) (n := 54) rfl rfl
  | 3, _ => exact balen_eq' (c := .inr (.inl (1, bARCS))) (n := 54) rfl rfl
theorem wI_ok {e : tE} {c : Bool} {rk d mi pc : Nat} {o : bO} {L : tL} {st : List tV} {M : tM} {n : Nat} {Q : tR → tM → Nat → Prop} {k : tL → List tV → tM → Nat → Prop} (ho : bop mi pc = some o) (hc : tchk rk mi pc o = true) (h : wI e c rk d mi pc o L st M n Q k)
    (hk : ∀ L' st' M' n', k L' st' M' n' → tT e d mi (pc + tlen o.1) L' st' M' n' Q) : tT e d mi pc L st M n Q := by
  refine fun hscr => (?_ : tT e d mi pc L st M n Q) hscr
  obtain ⟨ins, j, a, b, v⟩ := o
  cases ins with
  | iconst x =>
    refine tT_st ho ?_ (hk _ _ _ _ h)
    exact (fun lv w => rfl)
  | bipush x =>
    have hc : (decide (-128 ≤ x) && decide (x < 128)) = true := hc
    rw [Bool.and_eq_true, decide_eq_true_eq, decide_eq_true_eq] at hc
    refine tT_st ho (fun lv w => ?_) (hk _ _ _ _ h)
    show some (pc + 2, lv, Sum.inl (Int8.ofInt x).toInt32 :: st.map tdn, w) = some (pc + 2, lv, Sum.inl (Int32.ofInt x) :: st.map tdn, w)
    rw [Int8.toInt32_ofInt (by show (-128 : Int) ≤ x; exact hc.1) (by show x ≤ (127 : Int); omega)]
  | sipush x =>
    have hc : (decide (-32768 ≤ x) && decide (x < 32768)) = true := hc
    rw [Bool.and_eq_true, decide_eq_true_eq, decide_eq_true_eq] at hc
    refine tT_st ho (fun lv w => ?_) (hk _ _ _ _ h)
    show some (pc + 3, lv, Sum.inl (Int16.ofInt x).toInt32 :: st.map tdn, w) = some (pc + 3, lv, Sum.inl (Int32.ofInt x) :: st.map tdn, w)
    rw [Int16.toInt32_ofInt (by show (-32768 : Int) ≤ x; exact hc.1) (by show x ≤ (32767 : Int); omega)]
  | ldc x =>
    refine tT_st ho ?_ (hk _ _ _ _ h)
    exact (fun lv w => rfl)
  | lconst x =>
    refine tT_st ho ?_ (hk _ _ _ _ h)
    exact (fun lv w => rfl)
  | ldc2_w x =>
    refine tT_st ho ?_ (hk _ _ _ _ h)
    exact (fun lv w => rfl)
  | iload_n i =>
    unfold wI at h
    simp only [] at h
    split at h
    · rename_i x hx
      refine tT_step ho ?_ (hk _ _ _ _ h)
      exact (fun lv hl => ⟨lv, hl, bldl_i (tbl hl hx)⟩)
    · exact h.elim
  | iload i =>
    unfold wI at h
    simp only [] at h
    split at h
    · rename_i x hx
      refine tT_step ho ?_ (hk _ _ _ _ h)
      exact (fun lv hl => ⟨lv, hl, bldl_i (tbl hl hx)⟩)
    · exact h.elim
  | lload_n i =>
    unfold wI at h
    simp only [] at h
    split at h
    · rename_i x hx
      refine tT_step ho ?_ (hk _ _ _ _ h)
      exact (fun lv hl => ⟨lv, hl, bldl_l (tbl hl hx)⟩)
    · exact h.elim
  | lload i =>
    unfold wI at h
    simp only [] at h
    split at h
    · rename_i x hx
      refine tT_step ho ?_ (hk _ _ _ _ h)
      exact (fun lv hl => ⟨lv, hl, bldl_l (tbl hl hx)⟩)
    · exact h.elim
  | aload_n i =>
    unfold wI at h
    simp only [] at h
    split at h
    · rename_i x hx
      refine tT_step ho ?_ (hk _ _ _ _ h)
      exact (fun lv hl => ⟨lv, hl, bldl_r (tbl hl hx)⟩)
    · exact h.elim
  | aload i =>
    unfold wI at h
    simp only [] at h
    split at h
    · rename_i x hx
      refine tT_step ho ?_ (hk _ _ _ _ h)
      exact (fun lv hl => ⟨lv, hl, bldl_r (tbl hl hx)⟩)
    · exact h.elim
  | istore_n i =>
    unfold wI at h
    simp only [] at h
    split at h
    · refine tT_step ho ?_ (hk _ _ _ _ h)
      exact (fun lv hl => ⟨_, tOk_1 hl, bstl_i (of_decide_eq_true hc)⟩)
    · exact h.elim
  | istore i =>
    unfold wI at h
    simp only [] at h
    split at h
    · refine tT_step ho ?_ (hk _ _ _ _ h)
      exact (fun lv hl => ⟨_, tOk_1 hl, bstl_i (of_decide_eq_true hc)⟩)
    · exact h.elim
  | astore_n i =>
    unfold wI at h
    simp only [] at h
    split at h
    · refine tT_step ho ?_ (hk _ _ _ _ h)
      exact (fun lv hl => ⟨_, tOk_1 hl, bstl_r (of_decide_eq_true hc)⟩)
    · exact h.elim
  | astore i =>
    unfold wI at h
    simp only [] at h
    split at h
    · refine tT_step ho ?_ (hk _ _ _ _ h)
      exact (fun lv hl => ⟨_, tOk_1 hl, bstl_r (of_decide_eq_true hc)⟩)
    · exact h.elim
  | lstore_n i =>
    unfold wI at h
    simp only [] at h
    split at h
    · refine tT_step ho ?_ (hk _ _ _ _ h)
      exact (fun lv hl => ⟨_, tOk_2 hl, bstl_l (of_decide_eq_true hc)⟩)
    · exact h.elim
  | lstore i =>
    unfold wI at h
    simp only [] at h
    split at h
    · refine tT_step ho ?_ (hk _ _ _ _ h)
      exact (fun lv hl => ⟨_, tOk_2 hl, bstl_l (of_decide_eq_true hc)⟩)
    · exact h.elim
  | iinc i z =>
    unfold wI at h
    simp only [] at h
    split at h
    · rename_i x hx
      refine tT_step ho (fun lv hl => ⟨_, tOk_1 (v := .inl (x + z)) hl, ?_⟩) (hk _ _ _ _ h)
      show binc _ pc i z lv _ _ = _
      unfold binc
      rw [tbl hl hx]
      show (if _ then some (pc + 3, bst1 lv i (.inl (Int32.ofInt x + Int32.ofInt z)), _, _) else none) = some (pc + 3, bst1 lv i (.inl (Int32.ofInt (x + z))), _, _)
      rw [Int32.ofInt_add]
      exact if_pos (of_decide_eq_true hc)
    · exact h.elim
  | iadd =>
    unfold wI at h
    simp only [] at h
    split at h
    · exact tT_i2 (f := fun x y => some (x + y)) ho (fun _ _ _ => rfl) (by rw [Int32.ofInt_add]) (hk _ _ _ _ h)
    · exact h.elim
  | isub =>
    unfold wI at h
    simp only [] at h
    split at h
    · exact tT_i2 (f := fun x y => some (x - y)) ho (fun _ _ _ => rfl) (by rw [Int32.ofInt_sub]) (hk _ _ _ _ h)
    · exact h.elim
  | imul =>
    unfold wI at h
    simp only [] at h
    split at h
    · exact tT_i2 (f := fun x y => some (x * y)) ho (fun _ _ _ => rfl) (by rw [Int32.ofInt_mul]) (hk _ _ _ _ h)
    · exact h.elim
  | ineg =>
    unfold wI at h
    simp only [] at h
    split at h
    · rename_i x r
      refine tT_st ho (fun lv w => ?_) (hk _ _ _ _ h)
      show some (pc + 1, lv, Sum.inl (-Int32.ofInt x) :: _, w) = some (pc + 1, lv, Sum.inl (Int32.ofInt (-x)) :: _, w)
      rw [Int32.ofInt_neg]
    · exact h.elim
  | ior =>
    unfold wI at h
    simp only [] at h
    split at h
    · obtain ⟨⟨h1, h2⟩, h⟩ := h
      refine tT_i2 (f := fun x y => some (x ||| y)) ho (fun _ _ _ => rfl) ?_ (hk _ _ _ _ h)
      rcases h1 with rfl | rfl <;> rcases h2 with rfl | rfl <;> decide
    · exact h.elim
  | iand =>
    unfold wI at h
    simp only [] at h
    split at h
    · rcases h with ⟨⟨h1, h2⟩, h⟩ | ⟨rfl, h⟩
      · refine tT_i2 (f := fun x y => some (x &&& y)) ho (fun _ _ _ => rfl) ?_ (hk _ _ _ _ h)
        rcases h1 with rfl | rfl <;> rcases h2 with rfl | rfl <;> decide
      · exact tT_i2 (f := fun x y => some (x &&& y)) ho (fun _ _ _ => rfl) (by rw [and63_ok]) (hk _ _ _ _ h)
    · exact h.elim
  | idiv =>
    unfold wI at h
    simp only [] at h
    split at h
    · obtain ⟨⟨h0, h1, h2⟩, h⟩ := h
      exact tT_i2 (f := fun x y => if y = 0 then none else some (x / y)) ho (fun _ _ _ => rfl) (by rw [if_neg (ofI0 h0 h2), ofI_div h1 h2]) (hk _ _ _ _ h)
    · exact h.elim
  | irem =>
    unfold wI at h
    simp only [] at h
    split at h
    · obtain ⟨⟨h0, h1, h2⟩, h⟩ := h
      exact tT_i2 (f := fun x y => if y = 0 then none else some (x - x / y * y)) ho (fun _ _ _ => rfl) (by rw [if_neg (ofI0 h0 h2), ofI_mod h1 h2]) (hk _ _ _ _ h)
    · exact h.elim
  | ladd =>
    unfold wI at h
    simp only [] at h
    split at h
    · exact tT_l2 (f := fun x y => some (.inr (.inl (x + y)))) ho (fun _ _ _ => rfl) (by show _ = some (Sum.inr (Sum.inl (Int64.ofInt (tw c _)))); rw [ofL_tw, Int64.ofInt_add]) (hk _ _ _ _ h)
    · exact h.elim
  | lsub =>
    unfold wI at h
    simp only [] at h
    split at h
    · exact tT_l2 (f := fun x y => some (.inr (.inl (x - y)))) ho (fun _ _ _ => rfl) (by show _ = some (Sum.inr (Sum.inl (Int64.ofInt (tw c _)))); rw [ofL_tw, Int64.ofInt_sub]) (hk _ _ _ _ h)
    · exact h.elim
  | lmul =>
    unfold wI at h
    simp only [] at h
    split at h
    · exact tT_l2 (f := fun x y => some (.inr (.inl (x * y)))) ho (fun _ _ _ => rfl) (by show _ = some (Sum.inr (Sum.inl (Int64.ofInt (tw c _)))); rw [ofL_tw, Int64.ofInt_mul]) (hk _ _ _ _ h)
    · exact h.elim
  | lneg =>
    unfold wI at h
    simp only [] at h
    split at h
    · rename_i x r
      refine tT_st ho (fun lv w => ?_) (hk _ _ _ _ h)
      show some (pc + 1, lv, Sum.inr (Sum.inl (-Int64.ofInt x)) :: _, w) = some (pc + 1, lv, Sum.inr (Sum.inl (Int64.ofInt (tw c (-x)))) :: _, w)
      rw [ofL_tw, Int64.ofInt_neg]
    · exact h.elim
  | ldiv =>
    unfold wI at h
    simp only [] at h
    split at h
    · obtain ⟨⟨h0, h1, h2⟩, h⟩ := h
      exact tT_l2 (f := fun x y => if y = 0 then none else some (.inr (.inl (x / y)))) ho (fun _ _ _ => rfl) (by show _ = some (Sum.inr (Sum.inl (Int64.ofInt (tw c _)))); rw [if_neg (ofL0 h0 h2), ofL_tw, ofL_div h1 h2]) (hk _ _ _ _ h)
    · exact h.elim
  | lrem =>
    unfold wI at h
    simp only [] at h
    split at h
    · obtain ⟨⟨h0, h1, h2⟩, h⟩ := h
      exact tT_l2 (f := fun x y => if y = 0 then none else some (.inr (.inl (x - x / y * y)))) ho (fun _ _ _ => rfl) (by show _ = some (Sum.inr (Sum.inl (Int64.ofInt _))); rw [if_neg (ofL0 h0 h2), ofL_mod h1 h2]) (hk _ _ _ _ h)
    · exact h.elim
  | land =>
    unfold wI at h
    simp only [] at h
    split at h
    · exact tT_l2 (f := fun x y => some (.inr (.inl (x &&& y)))) ho (fun _ _ _ => rfl) (by show _ = some (Sum.inr (Sum.inl (Int64.ofInt (Int64.toInt _)))); rw [Int64.ofInt_toInt]) (hk _ _ _ _ h)
    · exact h.elim
  | lor =>
    unfold wI at h
    simp only [] at h
    split at h
    · exact tT_l2 (f := fun x y => some (.inr (.inl (x ||| y)))) ho (fun _ _ _ => rfl) (by show _ = some (Sum.inr (Sum.inl (Int64.ofInt (Int64.toInt _)))); rw [Int64.ofInt_toInt]) (hk _ _ _ _ h)
    · exact h.elim
  | lxor =>
    unfold wI at h
    simp only [] at h
    split at h
    · exact tT_l2 (f := fun x y => some (.inr (.inl (x ^^^ y)))) ho (fun _ _ _ => rfl) (by show _ = some (Sum.inr (Sum.inl (Int64.ofInt (Int64.toInt _)))); rw [Int64.ofInt_toInt]) (hk _ _ _ _ h)
    · exact h.elim
  | lshl =>
    unfold wI at h
    simp only [] at h
    split at h
    · rename_i y x r
      obtain ⟨h0, h⟩ := h
      refine tT_st ho (fun lv w => ?_) (hk _ _ _ _ h)
      show some (pc + 1, lv, Sum.inr (Sum.inl (Int64.ofInt x <<< ((Int32.ofInt y).toInt64 &&& 63))) :: _, w) = _
      rw [shl_ok h0]
      rfl
    · exact h.elim
  | lshr =>
    unfold wI at h
    simp only [] at h
    split at h
    · rename_i y x r
      obtain ⟨⟨h0, h1⟩, h⟩ := h
      refine tT_st ho (fun lv w => ?_) (hk _ _ _ _ h)
      show some (pc + 1, lv, Sum.inr (Sum.inl (Int64.ofInt x >>> ((Int32.ofInt y).toInt64 &&& 63))) :: _, w) = _
      rw [shr_ok h0 h1]
      rfl
    · exact h.elim
  | lcmp =>
    unfold wI at h
    simp only [] at h
    split at h
    · obtain ⟨⟨h1, h2⟩, h⟩ := h
      exact tT_l2 (f := fun x y => some (.inl (lg_cmp x y))) ho (fun _ _ _ => rfl) (by rw [tlc_ok h1 h2]; rfl) (hk _ _ _ _ h)
    · exact h.elim
  | l2i =>
    unfold wI at h
    simp only [] at h
    split at h
    · rename_i x r
      refine tT_st ho (fun lv w => ?_) (hk _ _ _ _ h)
      show some (pc + 1, lv, Sum.inl (Int64.ofInt x).toInt32 :: _, w) = some (pc + 1, lv, Sum.inl (Int32.ofInt (w32 x)) :: _, w)
      rw [ofI_w, Int64.toInt32_ofInt]
    · exact h.elim
  | i2l =>
    unfold wI at h
    simp only [] at h
    split at h
    · rename_i x r
      obtain ⟨h0, h⟩ := h
      refine tT_st ho (fun lv w => ?_) (hk _ _ _ _ h)
      show some (pc + 1, lv, Sum.inr (Sum.inl (Int32.ofInt x).toInt64) :: _, w) = some (pc + 1, lv, Sum.inr (Sum.inl (Int64.ofInt x)) :: _, w)
      rw [Int32.toInt64_ofInt (by show (-2147483648 : Int) ≤ x; exact h0.1) (by show x ≤ (2147483647 : Int); omega)]
    · exact h.elim
  | i2c =>
    unfold wI at h
    simp only [] at h
    split at h
    · rename_i x r
      refine tT_st ho (fun lv w => ?_) (hk _ _ _ _ h)
      show some (pc + 1, lv, Sum.inl ((Int32.ofInt x).toUInt32 % 65536).toInt32 :: _, w) = some (pc + 1, lv, Sum.inl (Int32.ofInt (x % 65536)) :: _, w)
      rw [i2c_ok]
    · exact h.elim
  | dup =>
    unfold wI at h
    simp only [] at h
    split at h
    · refine tT_st ho ?_ (hk _ _ _ _ h)
      exact (fun lv w => rfl)
    · refine tT_st ho ?_ (hk _ _ _ _ h)
      exact (fun lv w => by rename_i x r; rcases x with q | q <;> rfl)
    · exact h.elim
  | dup2 =>
    unfold wI at h
    simp only [] at h
    split at h
    · refine tT_st ho ?_ (hk _ _ _ _ h)
      exact (fun lv w => rfl)
    · refine tT_st ho ?_ (hk _ _ _ _ h)
      exact (fun lv w => by rename_i y x r; rcases x with q | q <;> rfl)
    · exact h.elim
  | pop =>
    unfold wI at h
    simp only [] at h
    split at h
    · refine tT_st ho ?_ (hk _ _ _ _ h)
      exact (fun lv w => rfl)
    · refine tT_st ho ?_ (hk _ _ _ _ h)
      exact (fun lv w => by rename_i x r; rcases x with q | q <;> rfl)
    · exact h.elim
  | pop2 =>
    unfold wI at h
    simp only [] at h
    split at h
    · refine tT_st ho ?_ (hk _ _ _ _ h)
      exact (fun lv w => rfl)
    · exact h.elim
  | goto x =>
    exact tT_jmp ho (fun lv w => rfl) h
  | ifCond cd x =>
    unfold wI at h
    simp only [] at h
    split at h
    · rename_i x r
      obtain ⟨h0, h1, h2⟩ := h
      have q : bcmp cd (Int32.ofInt x) 0 = true ↔ tcm cd x 0 := tcm_ok (cd := cd) h0 (y := 0) ⟨by decide, by decide⟩
      by_cases hq : tcm cd x 0
      · refine tT_jmp ho (fun lv w => ?_) (h1 hq)
        show some (if bcmp cd (Int32.ofInt x) 0 = true then a else pc + 3, lv, _, w) = _
        rw [if_pos (q.mpr hq)]
      · refine tT_st ho (fun lv w => ?_) (hk _ _ _ _ (h2 hq))
        show some (if bcmp cd (Int32.ofInt x) 0 = true then a else pc + 3, lv, _, w) = _
        rw [if_neg (fun z => hq (q.mp z))]
        rfl
    · exact h.elim
  | if_icmp cd x =>
    unfold wI at h
    simp only [] at h
    split at h
    · rename_i y x r
      obtain ⟨⟨h0, h00⟩, h1, h2⟩ := h
      have q := tcm_ok (cd := cd) h0 h00
      by_cases hq : tcm cd x y
      · refine tT_jmp ho (fun lv w => ?_) (h1 hq)
        show some (if bcmp cd (Int32.ofInt x) (Int32.ofInt y) = true then a else pc + 3, lv, _, w) = _
        rw [if_pos (q.mpr hq)]
      · refine tT_st ho (fun lv w => ?_) (hk _ _ _ _ (h2 hq))
        show some (if bcmp cd (Int32.ofInt x) (Int32.ofInt y) = true then a else pc + 3, lv, _, w) = _
        rw [if_neg (fun z => hq (q.mp z))]
        rfl
    · exact h.elim
  | getfield x =>
    have hc : (decide (tyk a = (0, a, (tyk a).2.2)) && (decide (b < (tyk a).2.2) && decide (a ≠ 0))) = true := hc
    rw [Bool.and_eq_true, Bool.and_eq_true, decide_eq_true_eq, decide_eq_true_eq, decide_eq_true_eq] at hc
    unfold wI at h
    simp only [] at h
    split at h
    · obtain ⟨h0, h⟩ := h
      refine tT_step ho ?_ (hk _ _ _ _ h)
      exact (fun lv hl => ⟨lv, hl, tgf_ok h0 hc.1 hc.2.1 hc.2.2 lv⟩)
    · exact h.elim
  | putfield x =>
    have hc : (decide (tyk a = (0, a, (tyk a).2.2)) && (decide (b < (tyk a).2.2) && (decide (a ≠ 0) && (tfko (tfk a b) ((bty a).getD b .byte) && !(Nat.beq (tfk a b) 2 && tcn a b))))) = true := hc
    rw [Bool.and_eq_true, Bool.and_eq_true, Bool.and_eq_true, Bool.and_eq_true, decide_eq_true_eq, decide_eq_true_eq, decide_eq_true_eq] at hc
    unfold wI at h
    simp only [] at h
    split at h
    · obtain ⟨h0, h3, h⟩ := h
      refine tT_step ho (fun lv hl => ⟨lv, hl, tpf_ok h0 hc.1 hc.2.1 hc.2.2.1 h3 hc.2.2.2.1 (fun q => ?_) lv⟩) (hk _ _ _ _ h)
      have h9 := hc.2.2.2.2
      rw [q] at h9
      cases hz : tcn a b
      · rfl
      · rw [hz] at h9
        cases h9
    · exact h.elim
  | iaload =>
    obtain ⟨st', h1, h2⟩ := tld_ok (c := c) (t := 1) (pc := pc) (st := st) (M := M) (n := n) (k := fun s => k L s M n) (Or.inr (Or.inl rfl)) hscr h
    refine tT_step ho ?_ (hk _ _ _ _ h1)
    exact (fun lv hl => ⟨lv, hl, h2 lv⟩)
  | caload =>
    obtain ⟨st', h1, h2⟩ := tld_ok (c := c) (t := 0) (pc := pc) (st := st) (M := M) (n := n) (k := fun s => k L s M n) (Or.inl rfl) hscr h
    refine tT_step ho ?_ (hk _ _ _ _ h1)
    exact (fun lv hl => ⟨lv, hl, h2 lv⟩)
  | baload =>
    obtain ⟨st', h1, h2⟩ := tld_ok (c := c) (t := 3) (pc := pc) (st := st) (M := M) (n := n) (k := fun s => k L s M n) (Or.inr (Or.inr (Or.inr rfl))) hscr h
    refine tT_step ho ?_ (hk _ _ _ _ h1)
    exact (fun lv hl => ⟨lv, hl, h2 lv⟩)
  | laload =>
    obtain ⟨st', h1, h2⟩ := tld_ok (c := c) (t := 2) (pc := pc) (st := st) (M := M) (n := n) (k := fun s => k L s M n) (Or.inr (Or.inr (Or.inl rfl))) hscr h
    refine tT_step ho ?_ (hk _ _ _ _ h1)
    exact (fun lv hl => ⟨lv, hl, h2 lv⟩)
  | iastore =>
    obtain ⟨st', M', h1, h2⟩ := tsi_ok (t := 1) (pc := pc) (st := st) (M := M) (n := n) (k := fun s M' => k L s M' n) h
    refine tT_step ho ?_ (hk _ _ _ _ h1)
    exact (fun lv hl => ⟨lv, hl, h2 lv⟩)
  | castore =>
    obtain ⟨st', M', h1, h2⟩ := tsi_ok (t := 0) (pc := pc) (st := st) (M := M) (n := n) (k := fun s M' => k L s M' n) h
    refine tT_step ho ?_ (hk _ _ _ _ h1)
    exact (fun lv hl => ⟨lv, hl, h2 lv⟩)
  | bastore =>
    obtain ⟨st', M', h1, h2⟩ := tsi_ok (t := 3) (pc := pc) (st := st) (M := M) (n := n) (k := fun s M' => k L s M' n) h
    refine tT_step ho ?_ (hk _ _ _ _ h1)
    exact (fun lv hl => ⟨lv, hl, h2 lv⟩)
  | lastore =>
    obtain ⟨st', M', h1, h2⟩ := tsl_ok (pc := pc) (st := st) (M := M) (n := n) (k := fun s M' => k L s M' n) h
    refine tT_step ho ?_ (hk _ _ _ _ h1)
    exact (fun lv hl => ⟨lv, hl, h2 lv⟩)
  | aaload =>
    unfold wI at h
    simp only [] at h
    split at h
    · rename_i i r rest
      obtain ⟨h1, h3, h⟩ := h
      refine tT_step ho (fun lv hl => ⟨lv, hl, ?_⟩) (hk _ _ _ _ h)
      show bld (bE e.1) pc 4 lv (.inl (Int32.ofInt i) :: .inr (.inr (.inl r)) :: rest.map tdn) (two M n) = _
      have h0 : tsh r ≠ 0 := fun e => by rw [e] at h1; revert h1; decide
      have hg := two_get (M := M) (n := n) (k := r) rfl h0
      obtain ⟨b1, b2⟩ := tbin h3 (tyk_small _)
      rw [bld_eq' (v := .inr (.inr (.inl (tel (tyk (tsh r)).2.1 r i (M r i)))))]
      · rfl
      · show bload _ 4 ((two M n).1[r]?) = _
        rw [hg, tcell_3 h1]
        have e9 : ((List.range (tyk (tsh r)).2.2).map (fun i => some (tel (tyk (tsh r)).2.1 r (i : Nat) (M r (i : Nat))))).getD (Int32.ofInt i).toNatClampNeg none = some (tel (tyk (tsh r)).2.1 r i (M r i)) := by
          rw [b2, List.getD_eq_getElem?_getD, getD_range (by omega)]
          show some (tel _ r ((i.toNat : Nat) : Int) (M r ((i.toNat : Nat) : Int))) = _
          rw [show ((i.toNat : Nat) : Int) = i by omega]
        unfold bload
        simp only [List.length_map, List.length_range, e9]
        exact if_pos ⟨trivial, tyk_q _ h1, b1⟩
    · exact h.elim
  | aastore =>
    unfold wI at h
    simp only [] at h
    split at h
    · rename_i x i r rest
      obtain ⟨h1, h2, h3, h⟩ := h
      refine tT_step ho (fun lv hl => ⟨lv, hl, ?_⟩) (hk _ _ _ _ h)
      exact taast_ok h1 h2 h3 lv
    · exact h.elim
  | arraylength =>
    unfold wI at h
    simp only [] at h
    split at h
    · rename_i r rest
      obtain ⟨h1, h⟩ := h
      refine tT_step ho (fun lv hl => ⟨lv, hl, ?_⟩) (hk _ _ _ _ h)
      exact talen_ok h1 lv
    · rename_i j rest
      obtain ⟨h1, h⟩ := h
      refine tT_step ho (fun lv hl => ⟨lv, hl, ?_⟩) (hk _ _ _ _ h)
      exact talen_x h1 lv
    · exact h.elim
  | getstatic x =>
    refine tT_st ho ?_ (hk _ _ _ _ h)
    exact (fun lv w => rfl)
  | new x =>
    obtain ⟨h1, h2, h3⟩ := h
    subst h1
    subst h2
    refine fun _ => ⟨.inr (bexx a).1, M, n + 1, h3, fun lv hl => ?_⟩
    have hc : (match (bmeth mi).2.2.2.2 with | [] => true | _ => false) = true := hc
    rw [show two M (n + 1) = ((two M n).1, (two M n).2 + 1) by rw [two_2, two_def, two_def]]
    refine y_thr ho rfl rfl ?_
    split at hc
    · assumption
    · cases hc
  | lookupswitch df ps =>
    have hc : (decide (0 ≤ (pc : Int) + df) && ps.toList.all (fun q => decide (0 ≤ (pc : Int) + q.2))) = true := hc
    rw [Bool.and_eq_true, decide_eq_true_eq] at hc
    unfold wI at h
    simp only [] at h
    split at h
    · rename_i x r
      obtain ⟨h0, h⟩ := h
      obtain ⟨t, g1, g2, g3⟩ := tsw_ok ps.toList hc.1 hc.2 h0 h
      refine tT_jmp ho (fun lv w => ?_) g1
      show (if 0 ≤ (pc : Int) + Op.lookupswitch.offset ps.toList df (Int32.ofInt x).toInt then some (((pc : Int) + Op.lookupswitch.offset ps.toList df (Int32.ofInt x).toInt).toNat, lv, r.map tdn, w) else none) = _
      rw [ofI_bound h0, if_pos g3, g2]
    · exact h.elim
  | ireturn =>
    unfold wI at h
    simp only [] at h
    split at h
    · rename_i x
      obtain ⟨h1, h2⟩ := h
      have h9 : rk = 0 ∨ rk = 3 ∨ rk = 4 := by
        unfold trg at h1
        split at h1
        · exact Or.inl rfl
        · exact Or.inr (Or.inl rfl)
        · exact Or.inr (Or.inr rfl)
        · exact h1.elim
      obtain ⟨u, g1, g2⟩ := trg_bok h1 hc h9
      refine fun _ => ⟨_, _, _, h2, fun lv hl => y_ret ho ?_⟩
      rw [g1]
      exact if_pos g2
    · exact h.elim
  | lreturn =>
    unfold wI at h
    simp only [] at h
    split at h
    · rename_i x
      obtain ⟨rfl, h2⟩ := h
      refine fun _ => ⟨_, _, _, h2, fun lv hl => y_ret ho ?_⟩
      have hc : trko 1 (bmeth mi).2.2.2.1 = true := hc
      generalize (bmeth mi).2.2.2.1 = t at hc ⊢
      rcases t with _ | t
      · cases hc
      · cases t <;> first | (cases hc; done) | rfl
    · exact h.elim
  | areturn =>
    unfold wI at h
    simp only [] at h
    split at h
    · rename_i x
      obtain ⟨rfl, h2⟩ := h
      refine fun _ => ⟨_, _, _, h2, fun lv hl => y_ret ho ?_⟩
      have hc : trko 2 (bmeth mi).2.2.2.1 = true := hc
      generalize (bmeth mi).2.2.2.1 = t at hc ⊢
      rcases t with _ | t
      · cases hc
      · cases t <;> first | (cases hc; done) | (rcases x with q | q <;> rfl)
    · exact h.elim
  | return_ =>
    unfold wI at h
    simp only [] at h
    split at h
    · obtain ⟨rfl, h2⟩ := h
      refine fun _ => ⟨_, _, _, h2, fun lv hl => y_ret ho ?_⟩
      have hc : trko 9 (bmeth mi).2.2.2.1 = true := hc
      generalize (bmeth mi).2.2.2.1 = t at hc ⊢
      rcases t with _ | t
      · rfl
      · cases hc
    · exact h.elim
  | invokestatic x =>
    obtain ⟨h1, h2, h3⟩ := h
    refine tcall_ok ho ?_ h3 hk
    show (if b ≤ (st.map tdn).length ∧ (((st.map tdn).drop b).map bvc).sum ≤ 8 then some (a, ((st.map tdn).take b).reverse, (st.map tdn).drop b) else none) = _
    rw [List.length_map, ← List.map_drop, tcat_sum, if_pos ⟨h1, of_decide_eq_true h2⟩, ← List.map_take, ← List.map_reverse]
  | invokevirtual x =>
    unfold wI at h
    simp only [] at h
    split at h
    · rename_i r rest hr
      obtain ⟨⟨h1, h9⟩, h2, h3⟩ := h
      refine tcall_ok ho ?_ h3 hk
      have h0 : tsh r ≠ 0 := fun e => by rw [e] at h1; revert h1; decide
      have hg := two_get (M := M) (n := n) (k := r) rfl h0
      rw [tcell_0 h1] at hg
      have hy : (tyk (tsh r)).2.1 = tsh r := tyk_ob _ h1
      have hd : (st.map tdn).drop b = .inr (.inr (.inl r)) :: rest.map tdn := by rw [← List.map_drop, hr]; rfl
      rw [bcal_iv hd hg (by rw [hy]; exact h9) (by rw [tcat_sum]; exact of_decide_eq_true h2), ← List.map_take, ← List.map_reverse]
      rfl
    · exact h.elim
  | _ => exact h.elim
