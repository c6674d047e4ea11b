/-! Making: new objects, arrays; switches; all rules of the code. -/
section COMP
variable {scr : List Int32} {nL pc : Nat} {o : bO}
theorem cbI_nn {a : Nat} (h : a < 2147483648) : ¬ cI a < 0 ∧ (cI a).toNatClampNeg = a := by
  obtain ⟨h1, h2⟩ := cbI_idx (n := a + 1) h (Nat.lt_succ_self a)
  refine ⟨?_, h2⟩
  unfold bin at h1
  simp only [Bool.and_eq_true, decide_eq_true_eq] at h1
  exact h1.1
theorem bnew_eq {pc a : Nat} {lv : List (Nat × bV)} {st : List bV} {w : bW} (h : w.2 = 0) : bnew pc a 0 lv st w = some (pc + 3, lv, .inr (.inr (.inl w.1.length)) :: st, (w.1 ++ [.inl (a, (bty a).map bdf)], w.2)) := by
  unfold bnew
  exact if_pos ⟨h, rfl⟩
theorem bnwa_eq {pc a : Nat} {lv : List (Nat × bV)} {r : List bV} {w : bW} {n : Nat} (h : w.2 = 0) (hn : n * 8 ≤ 536870912) : bnwa pc a lv (.inl (cI n) :: r) w = some (pc + 2, lv, .inr (.inr (.inl w.1.length)) :: r, (w.1 ++ [if a = 2 then .inr (.inr (.inl (List.replicate n 0))) else .inr (.inl (a, List.replicate n 0))], w.2)) := by
  have h2 := cbI_nn (a := n) (by omega)
  unfold bnwa
  simp only [h2.2]
  exact if_pos ⟨h, h2.1, hn⟩
theorem bnwq_eq {pc a : Nat} {lv : List (Nat × bV)} {r : List bV} {w : bW} {n : Nat} (h : w.2 = 0) (hn : n * 8 ≤ 536870912) : bnwq pc a lv (.inl (cI n) :: r) w = some (pc + 3, lv, .inr (.inr (.inl w.1.length)) :: r, (w.1 ++ [.inr (.inr (.inr (a, List.replicate n none)))], w.2)) := by
  have h2 := cbI_nn (a := n) (by omega)
  unfold bnwq
  simp only [h2.2]
  exact if_pos ⟨h, h2.1, hn⟩
theorem cw_len {e : sE} {m th : Nat} {T : Tr sC_s 10} : (cw e (m, th, T)).1.length = m := tlst_len
theorem sdv_ok {e : sE} (t : FieldType) : cv e (sdv t) = bdf t := by
  cases t <;> first | rfl | (show Sum.inl (cI 0) = _; rfl)
theorem hnew_ok {a : Nat} (hb : ∀ lv st w, bstep (bE scr) nL o pc lv st w = bnew pc a 0 lv st w) : hO scr nL pc o (hnew (pc + 3) a) := by
  intro e C lv st w q hR hC h1
  obtain ⟨m, th, T⟩ := w
  have h1 : cond (Nat.beq th 0) (cond (Nat.blt m 1024) (cond (Nat.ble (bty a).length 64) (some ((pc + 3, lv, (2, m) :: st, (m + 1, th, tset 10 T m (0, a, (bty a).length, ⟨6, tfn 6 (fun i => sdv ((bty a).getD i .byte))⟩))) : sF)) none) none) none = some q := h1
  obtain ⟨g1, h1⟩ := cond_none h1
  obtain ⟨g2, h1⟩ := cond_none h1
  obtain ⟨g3, h1⟩ := cond_none h1
  cases h1
  have g1 := beq_t g1
  subst g1
  have g2 := blt_t g2
  have g3 := ble_t g3
  rw [hb]
  show bnew pc a 0 (cvs e lv) (cs e st) (cw e (m, 0, T)) = some (pc + 3, cvs e lv, .inr (.inr (.inl m)) :: cs e st, cw e (m + 1, 0, tset 10 T m (0, a, (bty a).length, ⟨6, tfn 6 (fun i => sdv ((bty a).getD i .byte))⟩)))
  rw [bnew_eq rfl, cw_push g2, cw_len]
  have h5 : tlst (cv e) 6 (bty a).length (tfn 6 (fun i => sdv ((bty a).getD i .byte))) = (bty a).map bdf := by
    apply List.ext_getElem?
    intro k
    by_cases hk : k < (bty a).length
    · rw [tlst_get hk, tfn_get 6 _ _ (by simp only [Nat.reducePow]; omega), sdv_ok, List.getElem?_map, List.getD_eq_getElem?_getD, List.getElem?_eq_getElem hk]
      rfl
    · rw [List.getElem?_eq_none (by rw [tlst_len]; omega), List.getElem?_eq_none (by rw [List.length_map]; omega)]
  show _ = some (pc + 3, cvs e lv, .inr (.inr (.inl m)) :: cs e st, ((cw e (m, 0, T)).1 ++ [Sum.inl (a, tlst (cv e) 6 (bty a).length (tfn 6 (fun i => sdv ((bty a).getD i .byte))))], 0))
  rw [h5]
  rfl
theorem hnwa_ok {a : Nat} (hb : ∀ lv st w, bstep (bE scr) nL o pc lv st w = bnwa pc a lv st w) : hO scr nL pc o (hnwa (pc + 2) a) := by
  intro e C lv st w q hR hC h1
  unfold hnwa at h1
  split at h1
  · rename_i x r
    split at h1
    · cases h1
    · rename_i n hn
      obtain ⟨m, th, T⟩ := w
      have h1 : cond (Nat.beq th 0) (cond (Nat.blt m 1024) (cond (Nat.ble (n * 8) 536870912) (some ((pc + 2, lv, (2, m) :: r, (m + 1, th, tset 10 T m (cond (Nat.beq a 2) (2, 2, n, ⟨Nat.log2 n + 1, trep (1, 0) (Nat.log2 n + 1)⟩) (1, a, n, ⟨Nat.log2 n + 1, trep (0, 0) (Nat.log2 n + 1)⟩)))) : sF)) none) none) none = some q := h1
      obtain ⟨g1, h1⟩ := cond_none h1
      obtain ⟨g2, h1⟩ := cond_none h1
      obtain ⟨g3, h1⟩ := cond_none h1
      cases h1
      have g1 := beq_t g1
      subst g1
      have g2 := blt_t g2
      have g3 := ble_t g3
      rw [hb]
      show bnwa pc a (cvs e lv) (cv e x :: cs e r) (cw e (m, 0, T)) = some (pc + 2, cvs e lv, .inr (.inr (.inl m)) :: cs e r, cw e (m + 1, 0, tset 10 T m (cond (Nat.beq a 2) (2, 2, n, ⟨Nat.log2 n + 1, trep (1, 0) (Nat.log2 n + 1)⟩) (1, a, n, ⟨Nat.log2 n + 1, trep (0, 0) (Nat.log2 n + 1)⟩))))
      rw [sri_ok hC hn, bnwa_eq rfl g3, cw_push g2, cw_len]
      have h5 : cc e (cond (Nat.beq a 2) (2, 2, n, ⟨Nat.log2 n + 1, trep (1, 0) (Nat.log2 n + 1)⟩) (1, a, n, ⟨Nat.log2 n + 1, trep (0, 0) (Nat.log2 n + 1)⟩)) = if a = 2 then .inr (.inr (.inl (List.replicate n 0))) else .inr (.inl (a, List.replicate n 0)) := by
        cases g : Nat.beq a 2 with
        | true =>
          rw [if_pos (beq_t g)]
          show Sum.inr (Sum.inr (Sum.inl (tlst (cl_s e) (Nat.log2 n + 1) n (trep (1, 0) (Nat.log2 n + 1))))) = _
          rw [tlst_rep]
          rfl
        | false =>
          rw [if_neg (fun h => by rw [h] at g; cases g)]
          show Sum.inr (Sum.inl (a, tlst (ci e) (Nat.log2 n + 1) n (trep (0, 0) (Nat.log2 n + 1)))) = _
          rw [tlst_rep]
          rfl
      rw [h5]
      rfl
  · cases h1
theorem hnwq_ok {a : Nat} (hb : ∀ lv st w, bstep (bE scr) nL o pc lv st w = bnwq pc a lv st w) : hO scr nL pc o (hnwq (pc + 3) a) := by
  intro e C lv st w q hR hC h1
  unfold hnwq at h1
  split at h1
  · rename_i x r
    split at h1
    · cases h1
    · rename_i n hn
      obtain ⟨m, th, T⟩ := w
      have h1 : cond (Nat.beq th 0) (cond (Nat.blt m 1024) (cond (Nat.ble (n * 8) 536870912) (some ((pc + 3, lv, (2, m) :: r, (m + 1, th, tset 10 T m (3, a, n, ⟨Nat.log2 n + 1, trep (3, 0) (Nat.log2 n + 1)⟩))) : sF)) none) none) none = some q := h1
      obtain ⟨g1, h1⟩ := cond_none h1
      obtain ⟨g2, h1⟩ := cond_none h1
      obtain ⟨g3, h1⟩ := cond_none h1
      cases h1
      have g1 := beq_t g1
      subst g1
      have g2 := blt_t g2
      have g3 := ble_t g3
      rw [hb]
      show bnwq pc a (cvs e lv) (cv e x :: cs e r) (cw e (m, 0, T)) = some (pc + 3, cvs e lv, .inr (.inr (.inl m)) :: cs e r, cw e (m + 1, 0, tset 10 T m (3, a, n, ⟨Nat.log2 n + 1, trep (3, 0) (Nat.log2 n + 1)⟩)))
      rw [sri_ok hC hn, bnwq_eq rfl g3, cw_push g2, cw_len]
      show _ = some (pc + 3, cvs e lv, Sum.inr (Sum.inr (Sum.inl m)) :: cs e r, ((cw e (m, 0, T)).1 ++ [Sum.inr (Sum.inr (Sum.inr (a, tlst cq (Nat.log2 n + 1) n (trep (3, 0) (Nat.log2 n + 1)))))], 0))
      rw [tlst_rep]
      rfl
  · cases h1
theorem ssum_ok {e : sE} {st : List sV} : ((cs e st).map bvc).sum = ssum st := by
  induction st with
  | nil => rfl
  | cons v r ih =>
    show bvc (cv e v) + ((cs e r).map bvc).sum = cond (Nat.beq (v.1 % 4) 1) 2 1 + ssum r
    rw [ih, bvc_cv]
    by_cases h : v.1 % 4 = 1
    · rw [if_pos h, h]; rfl
    · rw [if_neg h, nbeq_n h]; rfl
theorem hobj_ok (hb : ∀ lv st w, bstep (bE scr) nL o pc lv st w = bobj pc 1 lv st w) : hO scr nL pc o (hobj (pc + 3)) := by
  intro e C lv st w q hR hC h1
  unfold hobj at h1
  split at h1
  · rename_i v r
    obtain ⟨g1, h1⟩ := cond_none h1
    obtain ⟨g2, h1⟩ := cond_none h1
    cases h1
    rw [hb]
    show bobj pc 1 (cvs e lv) (cv e v :: cs e r) (cw e w) = _
    rw [cv_r (beq_t g1)]
    show (if (1 : Int) = 1 ∧ ((cs e r).map bvc).sum ≤ 8 then _ else _) = _
    rw [if_pos ⟨rfl, by rw [ssum_ok]; exact ble_t g2⟩]
    rfl
  · cases h1
theorem hsw_ok {g : Int → Option Nat} (hb : ∀ (lv : List (Nat × bV)) (x : Int32) (r : List bV) (w : bW) (t : Nat), g x.toInt = some t → bstep (bE scr) nL o pc lv (.inl x :: r) w = some (t, lv, r, w)) : hO scr nL pc o (hsw g) := by
  intro e C lv st w q hR hC h1
  unfold hsw at h1
  split at h1
  · rename_i x r
    split at h1
    · cases h1
    · rename_i a ha
      split at h1
      · rename_i t ht
        cases h1
        show bstep (bE scr) nL o pc (cvs e lv) (cv e x :: cs e r) (cw e w) = _
        rw [sri_ok hC ha, hb _ _ _ _ _ ht]
        rfl
      · cases h1
  · cases h1
theorem lsw_no {ps : List (Int × Int)} {d x : Int} (h : ∀ q ∈ ps, q.1 ≠ x) : Op.lookupswitch.offset ps d x = d := by
  induction ps with
  | nil => rfl
  | cons q t ih =>
    obtain ⟨a, b⟩ := q
    rw [Op.lookupswitch.offset_cons, if_neg (h (a, b) List.mem_cons_self), ih (fun q hq => h q (List.mem_cons_of_mem _ hq))]
theorem hswd_ok {d : Int} {ps : List (Int × Int)} (hb : ∀ lv st w, bstep (bE scr) nL o pc lv st w = blsw pc d ps lv st w) : hO scr nL pc o (hswd pc d ps) := by
  intro e C lv st w q hR hC h1
  unfold hswd at h1
  split at h1
  · rename_i x r
    split at h1
    · cases h1
    · rename_i p hp
      obtain ⟨g, h1⟩ := cond_none h1
      obtain ⟨X, hX, x1, x2⟩ := siv_ok hC hp
      have hx := bsI_i X
      have ho : Op.lookupswitch.offset ps d X.toInt = d := by
        apply lsw_no
        intro q hq hqx
        have h9 := of_decide_eq_true (List.all_eq_true.mp g q hq)
        rcases h9 with h9 | h9 <;> omega
      split at h1
      · rename_i h0
        cases h1
        rw [hb]
        show blsw pc d ps (cvs e lv) (cv e x :: cs e r) (cw e w) = _
        rw [hX]
        unfold blsw
        simp only [ho]
        rw [if_pos h0]
        rfl
      · cases h1
  · cases h1
end COMP
