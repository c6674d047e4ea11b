/-! Each instruction. -/
theorem tbl {L : tL} {lv : List (Nat × bV)} {i : Nat} {v : tV} (h : tOk L lv) (h2 : L[i]? = some (some v)) : blk lv i = some (tdn v) := h i v h2
theorem two_eta (M M' : tM) (n : Nat) : ((two M' n).1, (two M n).2) = two M' n := by
  rw [two_2, two_def]
theorem tcl_ok {k t : Nat} (h : tsh k = t) (h0 : (tyk t).1 ≠ 9) : t ≠ 0 := by
  intro e
  subst e
  exact h0 rfl
theorem tcell_1 {k t : Nat} {m : Int → Int} (h : (tyk t).1 = 1) : tcell k t m = .inr (.inl ((tyk t).2.1, (List.range (tyk t).2.2).map (fun i => Int32.ofInt (m (i : Nat))))) := by
  unfold tcell
  generalize tyk t = q at h
  obtain ⟨a, b, c⟩ := q
  have h : a = 1 := h
  subst h
  rfl
theorem tcell_2 {k t : Nat} {m : Int → Int} (h : (tyk t).1 = 2) : tcell k t m = .inr (.inr (.inl ((List.range (tyk t).2.2).map (fun i => Int64.ofInt (m (i : Nat)))))) := by
  unfold tcell
  generalize tyk t = q at h
  obtain ⟨a, b, c⟩ := q
  have h : a = 2 := h
  subst h
  rfl
theorem tcell_3 {k t : Nat} {m : Int → Int} (h : (tyk t).1 = 3) : tcell k t m = .inr (.inr (.inr ((tyk t).2.1, (List.range (tyk t).2.2).map (fun i => some (tel (tyk t).2.1 k (i : Nat) (m (i : Nat))))))) := by
  unfold tcell
  generalize tyk t = q at h
  obtain ⟨a, b, c⟩ := q
  have h : a = 3 := h
  subst h
  rfl
theorem tcell_0 {k t : Nat} {m : Int → Int} (h : (tyk t).1 = 0) : tcell k t m = .inl ((tyk t).2.1, (List.range (tyk t).2.2).map (fun f => tdn (tfd k (tyk t).2.1 f (m (f : Nat))))) := by
  unfold tcell
  generalize tyk t = q at h
  obtain ⟨a, b, c⟩ := q
  have h : a = 0 := h
  subst h
  rfl
theorem tyk_small (t : Nat) : (tyk t).2.2 < 2147483648 := by
  unfold tyk
  split <;> decide
theorem tyk_ar (t : Nat) (h : (tyk t).1 = 1) : (tyk t).2.1 = 0 ∨ (tyk t).2.1 = 1 ∨ (tyk t).2.1 = 3 := by
  unfold tyk at h ⊢
  split at h <;> first | (cases h; done) | decide
theorem tyk_q (t : Nat) (h : (tyk t).1 = 3) : (tyk t).2.1 = 4 ∨ (tyk t).2.1 = 5 := by
  unfold tyk at h ⊢
  split at h <;> first | (cases h; done) | decide
theorem bE_len (scr : List Int32) : ∀ j, j < 4 → ∃ c, bE scr j = c ∧ (j = 0 → c = .inr (.inr (.inl bTENS))) ∧ (j = 1 → c = .inr (.inl (1, scr))) ∧ (j = 2 → c = .inr (.inl (1, bLOGS))) ∧ (j = 3 → c = .inr (.inl (1, bARCS))) := by
  intro j hj
  match j, hj with
  | 0, _ => exact ⟨_, rfl, fun _ => rfl, nofun, nofun, nofun⟩
  | 1, _ => exact ⟨_, rfl, nofun, fun _ => rfl, nofun, nofun⟩
  | 2, _ => exact ⟨_, rfl, nofun, nofun, fun _ => rfl, nofun⟩
  | 3, _ => exact ⟨_, rfl, nofun, nofun, nofun, fun _ => rfl⟩
theorem bld_eq' {E : Nat → bC} {pc t : Nat} {lv : List (Nat × bV)} {r : List bV} {w : bW} {i : Int32} {a v : bV} (h : bload i t (barr E w a) = some v) : bld E pc t lv (.inl i :: a :: r) w = some (pc + 1, lv, v :: r, w) := by
  unfold bld
  simp only [h]
theorem tld_ok {e : tE} {c : Bool} {t pc : Nat} {st : List tV} {M : tM} {n : Nat} {k : List tV → Prop} (ht : t = 0 ∨ t = 1 ∨ t = 2 ∨ t = 3) (hscr : e.1.length < 2147483648) (h : tld e c t st M k) : ∃ st', k st' ∧ ∀ lv, bld (bE e.1) pc t lv (st.map tdn) (two M n) = some (pc + 1, lv, st'.map tdn, two M n) := by
  unfold tld at h
  split at h
  · rename_i i r rest
    obtain ⟨h1, h2, h3, h4⟩ := h
    refine ⟨_, h4, fun lv => ?_⟩
    show bld (bE e.1) pc t lv (.inl (Int32.ofInt i) :: .inr (.inr (.inl r)) :: rest.map tdn) (two M n) = _
    have h0 : tsh r ≠ 0 := fun e => by rw [e] at h1; revert h1; split <;> decide
    have hg := two_get (M := M) (n := n) (k := r) rfl h0
    obtain ⟨b1, b2⟩ := tbin h3 (tyk_small _)
    by_cases ht2 : t = 2
    · subst ht2
      rw [if_pos rfl] at h1
      rw [bld_eq' (v := .inr (.inl (Int64.ofInt (M r i))))]
      · rw [if_pos rfl, List.map_cons]
        show _ = some (pc + 1, lv, Sum.inr (Sum.inl (Int64.ofInt (tw c (M r i)))) :: _, two M n)
        rw [ofL_tw]
      · show bload _ 2 ((two M n).1[r]?) = _
        rw [hg, tcell_2 h1]
        unfold bload
        simp only [List.length_map, List.length_range]
        rw [if_pos ⟨trivial, b1⟩, b2, List.getD_eq_getElem?_getD, getD_range (by omega)]
        show some (Sum.inr (Sum.inl (Int64.ofInt (M r (i.toNat : Int))))) = _
        rw [show ((i.toNat : Nat) : Int) = i by omega]
    · rw [if_neg ht2] at h1
      rw [bld_eq' (v := .inl (Int32.ofInt (M r i)))]
      · rw [if_neg ht2, List.map_cons]
        rfl
      · show bload _ t ((two M n).1[r]?) = _
        rw [hg, tcell_1 h1]
        unfold bload
        simp only [List.length_map, List.length_range]
        rw [if_pos ⟨h2, by omega, b1⟩, b2, List.getD_eq_getElem?_getD, getD_range (by omega)]
        show some (Sum.inl (Int32.ofInt (M r (i.toNat : Int)))) = _
        rw [show ((i.toNat : Nat) : Int) = i by omega]
  · rename_i i j rest
    obtain ⟨hj, h2, h3, h4⟩ := h
    refine ⟨_, h4, fun lv => ?_⟩
    show bld (bE e.1) pc t lv (.inl (Int32.ofInt i) :: .inr (.inr (.inr (some j))) :: rest.map tdn) (two M n) = _
    have hl : txl e j < 2147483648 := by
      unfold txl
      split <;> omega
    obtain ⟨b1, b2⟩ := tbin h3 hl
    have key : ∀ (xs : List Int32), 1 ≤ j → bE e.1 j = .inr (.inl (1, xs)) → txl e j = xs.length → txv e j i = (xs.getD i.toNat 0).toInt → bld (bE e.1) pc t lv (.inl (Int32.ofInt i) :: .inr (.inr (.inr (some j))) :: rest.map tdn) (two M n) = some (pc + 1, lv, ((if t = 2 then .inr (.inl (txv e j i)) else .inl (txv e j i)) :: rest).map tdn, two M n) := by
      intro xs hj1 q1 q2 q3
      rw [if_neg (show ¬ j = 0 by omega)] at h2
      subst h2
      rw [bld_eq' (v := .inl (Int32.ofInt (txv e j i)))]
      · rw [if_neg (by decide)]
        rfl
      · show bload _ 1 (some (bE e.1 j)) = _
        rw [q1]
        unfold bload
        simp only []
        rw [← q2, if_pos ⟨trivial, by decide, b1⟩, b2, q3, Int32.ofInt_toInt]
    match j, hj with
    | 0, _ =>
      rw [if_pos rfl] at h2
      subst h2
      rw [bld_eq' (v := .inr (.inl (Int64.ofInt (txv e 0 i))))]
      · rw [if_pos rfl]
        rfl
      · show bload _ 2 (some (.inr (.inr (.inl bTENS)))) = _
        unfold bload
        simp only []
        have q : txl e 0 = bTENS.length := rfl
        rw [← q, if_pos ⟨trivial, b1⟩, b2]
        show _ = some (Sum.inr (Sum.inl (Int64.ofInt ((bTENS.getD i.toNat 0).toInt))))
        rw [Int64.ofInt_toInt]
    | 1, _ => exact key e.1 (by decide) rfl rfl rfl
    | 2, _ => exact key bLOGS (by decide) rfl rfl rfl
    | 3, _ => exact key bARCS (by decide) rfl rfl rfl
  · exact h.elim
theorem bast_eq' {pc t r : Nat} {lv : List (Nat × bV)} {rest : List bV} {w : bW} {x i : Int32} {xs : List Int32} (h1 : w.1[r]? = some (.inr (.inl (t, xs)))) (h2 : bin i xs.length = true) :
    bast pc t lv (.inl x :: .inl i :: .inr (.inr (.inl r)) :: rest) w = some (pc + 1, lv, rest, (w.1.set r (.inr (.inl (t, xs.set i.toNatClampNeg (vp_nar (if t = 0 then .char else if t = 3 then .boolean else .int) x)))), w.2)) := by
  unfold bast
  simp only [h1]
  exact if_pos ⟨trivial, h2⟩
theorem blast_eq' {pc r : Nat} {lv : List (Nat × bV)} {rest : List bV} {w : bW} {x : Int64} {i : Int32} {xs : List Int64} (h1 : w.1[r]? = some (.inr (.inr (.inl xs)))) (h2 : bin i xs.length = true) :
    blast pc lv (.inr (.inl x) :: .inl i :: .inr (.inr (.inl r)) :: rest) w = some (pc + 1, lv, rest, (w.1.set r (.inr (.inr (.inl (xs.set i.toNatClampNeg x)))), w.2)) := by
  unfold blast
  simp only [h1]
  exact if_pos h2
theorem nar_ok {t : Nat} {x : Int} (ht : t = 0 ∨ t = 1 ∨ t = 3) (h : t ≠ 1 → 0 ≤ x ∧ x ≤ (if t = 0 then 65535 else 1)) : vp_nar (if t = 0 then .char else if t = 3 then .boolean else .int) (Int32.ofInt x) = Int32.ofInt x := by
  rcases ht with rfl | rfl | rfl
  · exact nar_c (h (by decide))
  · rfl
  · have h2 := h (by decide)
    have h3 : x = 0 ∨ x = 1 := by
      rw [if_neg (by decide)] at h2
      omega
    rcases h3 with rfl | rfl <;> decide
theorem tsi_ok {t pc : Nat} {st : List tV} {M : tM} {n : Nat} {k : List tV → tM → Prop} (h : tsi t st M k) : ∃ st' M', k st' M' ∧ ∀ lv, bast pc t lv (st.map tdn) (two M n) = some (pc + 1, lv, st'.map tdn, two M' n) := by
  unfold tsi at h
  split at h
  · rename_i x i r rest
    obtain ⟨h1, h2, h3, h5, h4⟩ := h
    refine ⟨_, _, h4, fun lv => ?_⟩
    show bast pc t lv (.inl (Int32.ofInt x) :: .inl (Int32.ofInt i) :: .inr (.inr (.inl r)) :: rest.map tdn) (two M n) = _
    have h0 : tsh r ≠ 0 := fun e => by rw [e] at h1; revert h1; decide
    have hg := two_get (M := M) (n := n) (k := r) rfl h0
    obtain ⟨b1, b2⟩ := tbin h3 (tyk_small _)
    rw [tcell_1 h1, h2] at hg
    rw [bast_eq' hg (by rw [List.length_map, List.length_range]; exact b1), b2, nar_ok (by have := tyk_ar _ h1; rwa [h2] at this) h5]
    have hs := two_set (M := M) (n := n) (k := r) (i := i) (v := x) rfl h0
    rw [tcell_1 h1, h2] at hs
    have e3 : ((List.range (tyk (tsh r)).2.2).map (fun i => Int32.ofInt (M r (i : Nat)))).set i.toNat (Int32.ofInt x) = (List.range (tyk (tsh r)).2.2).map (fun j => Int32.ofInt (tU M r i x r (j : Nat))) := by
      have e4 := map_set_range (len := (tyk (tsh r)).2.2) (b := i.toNat) (F := fun j => Int32.ofInt (M r (j : Nat))) (G := fun j => Int32.ofInt (tU M r i x r (j : Nat))) (fun j hj => by
        show Int32.ofInt (M r (j : Nat)) = Int32.ofInt (tU M r i x r (j : Nat))
        rw [tU_ni (by omega)])
      have e5 : Int32.ofInt x = Int32.ofInt (tU M r i x r (i.toNat : Nat)) := by rw [show ((i.toNat : Nat) : Int) = i by omega, tU_eq]
      rw [e5]
      exact e4
    rw [e3, hs, two_eta]
  · exact h.elim
theorem tsl_ok {pc : Nat} {st : List tV} {M : tM} {n : Nat} {k : List tV → tM → Prop} (h : tsl st M k) : ∃ st' M', k st' M' ∧ ∀ lv, blast pc lv (st.map tdn) (two M n) = some (pc + 1, lv, st'.map tdn, two M' n) := by
  unfold tsl at h
  split at h
  · rename_i x i r rest
    obtain ⟨h1, h3, h4⟩ := h
    refine ⟨_, _, h4, fun lv => ?_⟩
    show blast pc lv (.inr (.inl (Int64.ofInt x)) :: .inl (Int32.ofInt i) :: .inr (.inr (.inl r)) :: rest.map tdn) (two M n) = _
    have h0 : tsh r ≠ 0 := fun e => by rw [e] at h1; revert h1; decide
    have hg := two_get (M := M) (n := n) (k := r) rfl h0
    obtain ⟨b1, b2⟩ := tbin h3 (tyk_small _)
    rw [tcell_2 h1] at hg
    rw [blast_eq' hg (by rw [List.length_map, List.length_range]; exact b1), b2]
    have hs := two_set (M := M) (n := n) (k := r) (i := i) (v := x) rfl h0
    rw [tcell_2 h1] at hs
    have e3 : ((List.range (tyk (tsh r)).2.2).map (fun i => Int64.ofInt (M r (i : Nat)))).set i.toNat (Int64.ofInt x) = (List.range (tyk (tsh r)).2.2).map (fun j => Int64.ofInt (tU M r i x r (j : Nat))) := by
      have e4 := map_set_range (len := (tyk (tsh r)).2.2) (b := i.toNat) (F := fun j => Int64.ofInt (M r (j : Nat))) (G := fun j => Int64.ofInt (tU M r i x r (j : Nat))) (fun j hj => by
        show Int64.ofInt (M r (j : Nat)) = Int64.ofInt (tU M r i x r (j : Nat))
        rw [tU_ni (by omega)])
      have e5 : Int64.ofInt x = Int64.ofInt (tU M r i x r (i.toNat : Nat)) := by rw [show ((i.toNat : Nat) : Int) = i by omega, tU_eq]
      rw [e5]
      exact e4
    rw [e3, hs, two_eta]
  · exact h.elim
theorem bgf_eq' {pc a b r : Nat} {lv : List (Nat × bV)} {rest fs : List bV} {w : bW} {v : bV} (h1 : w.1[r]? = some (.inl (a, fs))) (h2 : fs[b]? = some v) : bgf pc a b lv (.inr (.inr (.inl r)) :: rest) w = some (pc + 3, lv, v :: rest, w) := by
  unfold bgf
  simp only [h1, h2, ↓reduceIte]
theorem bpf_eq' {pc a b r : Nat} {lv : List (Nat × bV)} {rest fs : List bV} {w : bW} {v : bV} (h1 : w.1[r]? = some (.inl (a, fs))) (h2 : b < fs.length) (h3 : bokf ((bty a).getD b .byte) v = true) : bpf pc a b lv (v :: .inr (.inr (.inl r)) :: rest) w = some (pc + 3, lv, rest, (w.1.set r (.inl (a, fs.set b v)), w.2)) := by
  unfold bpf
  simp only [h1]
  exact if_pos ⟨trivial, h2, h3⟩
theorem tgf_ok {c : Bool} {pc a b r : Nat} {rest : List tV} {M : tM} {n : Nat} (h : tsh r = a) (hy : tyk a = (0, a, (tyk a).2.2)) (hb : b < (tyk a).2.2) (h0 : a ≠ 0) (lv : List (Nat × bV)) : bgf pc a b lv (.inr (.inr (.inl r)) :: rest.map tdn) (two M n) = some (pc + 3, lv, (tfdc c r a b (M r (b : Nat)) :: rest).map tdn, two M n) := by
  have hg := two_get (M := M) (n := n) (k := r) h h0
  have h1 : (tyk a).1 = 0 := by rw [hy]
  have h2 : (tyk a).2.1 = a := by rw [hy]
  rw [tcell_0 h1, h2] at hg
  rw [bgf_eq' hg (getD_range hb), List.map_cons, tdn_fdc]
theorem tpf_ok {pc a b r : Nat} {rest : List tV} {M : tM} {n : Nat} {u : tV} (h : tsh r = a) (hy : tyk a = (0, a, (tyk a).2.2)) (hb : b < (tyk a).2.2) (h0 : a ≠ 0) (hp : tpk (tfk a b) u) (hk : tfko (tfk a b) ((bty a).getD b .byte) = true) (h2 : tfk a b = 2 → tcn a b = false) (lv : List (Nat × bV)) : bpf pc a b lv (tdn u :: .inr (.inr (.inl r)) :: rest.map tdn) (two M n) = some (pc + 3, lv, rest.map tdn, two (tU M r (b : Nat) (tnm u)) n) := by
  have hg := two_get (M := M) (n := n) (k := r) h h0
  have h1 : (tyk a).1 = 0 := by rw [hy]
  have h3 : (tyk a).2.1 = a := by rw [hy]
  rw [tcell_0 h1, h3] at hg
  rw [bpf_eq' hg (by rw [List.length_map, List.length_range]; exact hb) (tpv_bok hp hk)]
  have hs := two_set (M := M) (n := n) (k := r) (i := (b : Nat)) (v := tnm u) h h0
  rw [tcell_0 h1, h3] at hs
  have e3 : ((List.range (tyk a).2.2).map (fun f => tdn (tfd r a f (M r (f : Nat))))).set b (tdn u) = (List.range (tyk a).2.2).map (fun f => tdn (tfd r a f (tU M r (b : Nat) (tnm u) r (f : Nat)))) := by
    have e4 := map_set_range (len := (tyk a).2.2) (b := b) (F := fun f => tdn (tfd r a f (M r (f : Nat)))) (G := fun f => tdn (tfd r a f (tU M r (b : Nat) (tnm u) r (f : Nat)))) (fun j hj => by
      show tdn (tfd r a j (M r (j : Nat))) = tdn (tfd r a j (tU M r (b : Nat) (tnm u) r (j : Nat)))
      rw [tU_ni (by omega)])
    have e5 : tdn u = tdn (tfd r a b (tU M r (b : Nat) (tnm u) r (b : Nat))) := by rw [tU_eq, tfd_put hp h2]
    rw [e5]
    exact e4
  rw [e3, hs, two_eta]
