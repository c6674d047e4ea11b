/-! ONE RUN: what the reader comes to is one thing. -/
section DET
variable {e : tE}
/-- the last rule of a reading -/
def bIv (e : tE) : bEx := fun d mi pc lv st w r w2 =>
  (∃ (o : bO) (q : bF), bop mi pc = some o ∧ bstep (bE e.1) (bmeth mi).2.2.1 o pc lv st w = some q ∧ bY e d mi q.1 q.2.1 q.2.2.1 q.2.2.2 r w2) ∨
  (∃ (o : bO) (z : Option bV), bop mi pc = some o ∧ bret o (bmeth mi).2.2.2.1 st = some z ∧ r = .inl z ∧ w2 = w) ∨
  (∃ (o : bO) (q : Nat × List bV × List bV) (z : Option bV) (w1 : bW) (d' : Nat), d = d' + 1 ∧ bop mi pc = some o ∧ bcal o st w = some q ∧ bY e d' q.1 0 (blva 0 q.2.1) [] w (.inl z) w1 ∧ bY e (d' + 1) mi (pc + 3) lv (z.toList ++ q.2.2) w1 r w2) ∨
  (∃ (o : bO) (q : Nat × List bV × List bV) (x : String) (d' : Nat), d = d' + 1 ∧ bop mi pc = some o ∧ bcal o st w = some q ∧ bY e d' q.1 0 (blva 0 q.2.1) [] w (.inr x) w2 ∧ (bmeth mi).2.2.2.2 = [] ∧ r = .inr x) ∨
  (∃ (o : bO) (q : Nat × List bV × List bV) (x : String) (w1 : bW) (hp : Nat) (o2 : bO) (ik : Nat × Nat) (d' : Nat), d = d' + 1 ∧ bop mi pc = some o ∧ bcal o st w = some q ∧ bY e d' q.1 0 (blva 0 q.2.1) [] w (.inr x) w1 ∧ bhand (bmeth mi).2.2.2.2 pc x bcok = some hp ∧ bop mi hp = some o2 ∧ bastk o2.1 = some ik ∧ bY e (d' + 1) mi (hp + ik.2) (blvx lv ik.1) [] w1 r w2) ∨
  (∃ (o : bO) (ix : Nat), bop mi pc = some o ∧ o.1 = .new ix ∧ o.2.2.2.2 = 1 ∧ r = .inr (bexx o.2.2.1).1 ∧ w2 = (w.1, w.2 + 1)) ∨
  (∃ v : bV, e.2 mi pc lv st w = some v ∧ r = .inl (some v) ∧ w2 = w)
theorem bY_inv {d mi pc : Nat} {lv : List (Nat × bV)} {st : List bV} {w w2 : bW} {r : bR} (h : bY e d mi pc lv st w r w2) : bIv e d mi pc lv st w r w2 := by
  refine (h (fun d mi pc lv st w r w2 => bY e d mi pc lv st w r w2 ∧ bIv e d mi pc lv st w r w2) ⟨⟨?_, ?_, ?_, ?_, ?_, ?_⟩, ?_⟩).2
  · intro d mi pc lv st w o q r w2 ho hs k
    exact ⟨y_step ho hs k.1, Or.inl ⟨o, q, ho, hs, k.1⟩⟩
  · intro d mi pc lv st w o v ho hs
    exact ⟨y_ret ho hs, Or.inr (Or.inl ⟨o, v, ho, hs, rfl, rfl⟩)⟩
  · intro d mi pc lv st w o q v w1 r w2 ho hq hl h1 h2
    exact ⟨y_call ho hq hl h1.1 h2.1, Or.inr (Or.inr (Or.inl ⟨o, q, v, w1, d, rfl, ho, hq, h1.1, h2.1⟩))⟩
  · intro d mi pc lv st w o q x w1 ho hq hl h1 hH hn
    exact ⟨y_callO ho hq hl h1.1 hH hn, Or.inr (Or.inr (Or.inr (Or.inl ⟨o, q, x, d, rfl, ho, hq, h1.1, hH, rfl⟩)))⟩
  · intro d mi pc lv st w o q x w1 hp o2 ik r w2 ho hq hl h1 hh ho2 hn hk hi k
    exact ⟨y_catch ho hq hl h1.1 hh ho2 hn hk hi k.1, Or.inr (Or.inr (Or.inr (Or.inr (Or.inl ⟨o, q, x, w1, hp, o2, ik, d, rfl, ho, hq, h1.1, hh, ho2, hk, k.1⟩))))⟩
  · intro d mi pc lv w o ix ho h1 h2 h3
    exact ⟨y_thr ho h1 h2 h3, Or.inr (Or.inr (Or.inr (Or.inr (Or.inr (Or.inl ⟨o, ix, ho, h1, h2, rfl, rfl⟩)))))⟩
  · intro d mi pc lv st w v h
    exact ⟨y_sp h, Or.inr (Or.inr (Or.inr (Or.inr (Or.inr (Or.inr ⟨v, h, rfl, rfl⟩)))))⟩
theorem bret_op {o : bO} {t : Option FieldType} {st : List bV} {z : Option bV} (h : bret o t st = some z) : o.1 = .ireturn ∨ o.1 = .lreturn ∨ o.1 = .areturn ∨ o.1 = .return_ := by
  unfold bret at h
  split at h
  · rename_i q
    exact Or.inl q
  · rename_i q
    exact Or.inr (Or.inl q)
  · rename_i q
    exact Or.inr (Or.inr (Or.inl q))
  · rename_i q
    exact Or.inr (Or.inr (Or.inl q))
  · rename_i q
    exact Or.inr (Or.inr (Or.inr q))
  · cases h
theorem bcal_op {o : bO} {st : List bV} {w : bW} {z : Nat × List bV × List bV} (h : bcal o st w = some z) : (∃ i, o.1 = .invokestatic i) ∨ (∃ i, o.1 = .invokevirtual i) ∨ ((∃ i, o.1 = .invokespecial i) ∧ o.2.2.2.2 = 0) := by
  unfold bcal at h
  split at h
  · rename_i i q
    exact Or.inl ⟨i, q⟩
  · rename_i i q
    exact Or.inr (Or.inl ⟨i, q⟩)
  · rename_i i q
    refine Or.inr (Or.inr ⟨⟨i, q⟩, ?_⟩)
    split at h
    · split at h
      · rename_i g
        exact g.1
      · cases h
    · cases h
  · cases h
theorem stp_ret {E : Nat → bC} {nL pc : Nat} {o : bO} {lv : List (Nat × bV)} {st : List bV} {w : bW} {q : bF} {t : Option FieldType} {z : Option bV} (h : bstep E nL o pc lv st w = some q) (g : bret o t st = some z) : False := by
  unfold bstep at h
  rcases bret_op g with k | k | k | k <;> (rw [k] at h; cases h)
theorem stp_cal {E : Nat → bC} {nL pc : Nat} {o : bO} {lv : List (Nat × bV)} {st : List bV} {w : bW} {q : bF} {z : Nat × List bV × List bV} (h : bstep E nL o pc lv st w = some q) (g : bcal o st w = some z) : False := by
  unfold bstep at h
  rcases bcal_op g with ⟨i, k⟩ | ⟨i, k⟩ | ⟨⟨i, k⟩, k2⟩
  · rw [k] at h
    cases h
  · rw [k] at h
    cases h
  · rw [k] at h
    have h : bobj pc o.2.2.2.2 lv st w = some q := h
    unfold bobj at h
    split at h
    · split at h
      · rename_i g2
        rw [k2] at g2
        exact absurd g2.1 (by decide)
      · cases h
    · cases h
theorem stp_new {E : Nat → bC} {nL pc ix : Nat} {o : bO} {lv : List (Nat × bV)} {st : List bV} {w : bW} {q : bF} (h : bstep E nL o pc lv st w = some q) (g : o.1 = .new ix) (g2 : o.2.2.2.2 = 1) : False := by
  unfold bstep at h
  rw [g] at h
  have h : bnew pc o.2.2.1 o.2.2.2.2 lv st w = some q := h
  unfold bnew at h
  split at h
  · rename_i k
    rw [g2] at k
    exact absurd k.2 (by decide)
  · cases h
theorem ret_cal {o : bO} {st : List bV} {w : bW} {t : Option FieldType} {z : Option bV} {q : Nat × List bV × List bV} (h : bret o t st = some z) (g : bcal o st w = some q) : False := by
  rcases bcal_op g with ⟨i, k⟩ | ⟨i, k⟩ | ⟨⟨i, k⟩, k2⟩ <;> (rcases bret_op h with k3 | k3 | k3 | k3 <;> (rw [k] at k3; cases k3))
theorem ret_new {o : bO} {st : List bV} {t : Option FieldType} {z : Option bV} {ix : Nat} (h : bret o t st = some z) (g : o.1 = .new ix) : False := by
  rcases bret_op h with k3 | k3 | k3 | k3 <;> (rw [g] at k3; cases k3)
theorem cal_new {o : bO} {st : List bV} {w : bW} {q : Nat × List bV × List bV} {ix : Nat} (h : bcal o st w = some q) (g : o.1 = .new ix) : False := by
  rcases bcal_op h with ⟨i, k⟩ | ⟨i, k⟩ | ⟨⟨i, k⟩, k2⟩ <;> (rw [g] at k; cases k)
/-- what the table says, the code doesn't say otherwise -/
def SPT (e : tE) : Prop := ∀ (d mi pc : Nat) (lv : List (Nat × bV)) (st : List bV) (w w2 : bW) (v : bV) (r : bR), e.2 mi pc lv st w = some v → bY e d mi pc lv st w r w2 → r = .inl (some v) ∧ w2 = w
theorem bY_det (hp : SPT e) {d mi pc : Nat} {lv : List (Nat × bV)} {st : List bV} {w w2 w3 : bW} {r r3 : bR} (h : bY e d mi pc lv st w r w2) (h3 : bY e d mi pc lv st w r3 w3) : r3 = r ∧ w3 = w2 := by
  refine (h (fun d mi pc lv st w r w2 => bY e d mi pc lv st w r w2 ∧ ∀ (r3 : bR) (w3 : bW), bY e d mi pc lv st w r3 w3 → r3 = r ∧ w3 = w2) ⟨⟨?_, ?_, ?_, ?_, ?_, ?_⟩, ?_⟩).2 r3 w3 h3
  · intro d mi pc lv st w o q r w2 ho hs k
    have ho : bop mi pc = some o := ho
    have hs : bstep (bE e.1) (bmeth mi).2.2.1 o pc lv st w = some q := hs
    refine ⟨y_step ho hs k.1, fun r3 w3 h3 => ?_⟩
    rcases bY_inv h3 with ⟨o', q', a1, a2, a3⟩ | ⟨o', z', a1, a2, a3, a4⟩ | ⟨o', q', z', w1', d', a1, a2, a3, a4, a5⟩ | ⟨o', q', x', d', a1, a2, a3, a4, a5, a6⟩ | ⟨o', q', x', w1', hp', o2', ik', d', a1, a2, a3, a4, a5, a6, a7, a8⟩ | ⟨o', ix', a1, a2, a3, a4, a5⟩ | ⟨v', a1, a2, a3⟩
    · rw [ho] at a1
      cases a1
      rw [hs] at a2
      cases a2
      exact k.2 r3 w3 a3
    · rw [ho] at a1
      cases a1
      exact (stp_ret hs a2).elim
    · rw [ho] at a2
      cases a2
      exact (stp_cal hs a3).elim
    · rw [ho] at a2
      cases a2
      exact (stp_cal hs a3).elim
    · rw [ho] at a2
      cases a2
      exact (stp_cal hs a3).elim
    · rw [ho] at a1
      cases a1
      exact (stp_new hs a2 a3).elim
    · obtain ⟨b1, b2⟩ := hp _ _ _ _ _ _ _ _ _ a1 (y_step ho hs k.1)
      exact ⟨a2.trans b1.symm, a3.trans b2.symm⟩
  · intro d mi pc lv st w o v ho hs
    have ho : bop mi pc = some o := ho
    have hs : bret o (bmeth mi).2.2.2.1 st = some v := hs
    refine ⟨y_ret ho hs, fun r3 w3 h3 => ?_⟩
    rcases bY_inv h3 with ⟨o', q', a1, a2, a3⟩ | ⟨o', z', a1, a2, a3, a4⟩ | ⟨o', q', z', w1', d', a1, a2, a3, a4, a5⟩ | ⟨o', q', x', d', a1, a2, a3, a4, a5, a6⟩ | ⟨o', q', x', w1', hp', o2', ik', d', a1, a2, a3, a4, a5, a6, a7, a8⟩ | ⟨o', ix', a1, a2, a3, a4, a5⟩ | ⟨v', a1, a2, a3⟩
    · rw [ho] at a1
      cases a1
      exact (stp_ret a2 hs).elim
    · rw [ho] at a1
      cases a1
      rw [hs] at a2
      cases a2
      exact ⟨a3, a4⟩
    · rw [ho] at a2
      cases a2
      exact (ret_cal hs a3).elim
    · rw [ho] at a2
      cases a2
      exact (ret_cal hs a3).elim
    · rw [ho] at a2
      cases a2
      exact (ret_cal hs a3).elim
    · rw [ho] at a1
      cases a1
      exact (ret_new hs a2).elim
    · obtain ⟨b1, b2⟩ := hp _ _ _ _ _ _ _ _ _ a1 (y_ret (d := d) (mi := mi) (pc := pc) (lv := lv) (w := w) ho hs)
      exact ⟨a2.trans b1.symm, a3.trans b2.symm⟩
  · intro d mi pc lv st w o q v w1 r w2 ho hq hl h1 h2
    have ho : bop mi pc = some o := ho
    refine ⟨y_call ho hq hl h1.1 h2.1, fun r3 w3 h3 => ?_⟩
    rcases bY_inv h3 with ⟨o', q', a1, a2, a3⟩ | ⟨o', z', a1, a2, a3, a4⟩ | ⟨o', q', z', w1', d', a1, a2, a3, a4, a5⟩ | ⟨o', q', x', d', a1, a2, a3, a4, a5, a6⟩ | ⟨o', q', x', w1', hp', o2', ik', d', a1, a2, a3, a4, a5, a6, a7, a8⟩ | ⟨o', ix', a1, a2, a3, a4, a5⟩ | ⟨v', a1, a2, a3⟩
    · rw [ho] at a1
      cases a1
      exact (stp_cal a2 hq).elim
    · rw [ho] at a1
      cases a1
      exact (ret_cal a2 hq).elim
    · rw [ho] at a2
      cases a2
      rw [hq] at a3
      cases a3
      cases a1
      obtain ⟨b1, b2⟩ := h1.2 _ _ a4
      cases b1
      subst b2
      exact h2.2 r3 w3 a5
    · rw [ho] at a2
      cases a2
      rw [hq] at a3
      cases a3
      cases a1
      obtain ⟨b1, b2⟩ := h1.2 _ _ a4
      cases b1
    · rw [ho] at a2
      cases a2
      rw [hq] at a3
      cases a3
      cases a1
      obtain ⟨b1, b2⟩ := h1.2 _ _ a4
      cases b1
    · rw [ho] at a1
      cases a1
      exact (cal_new hq a2).elim
    · obtain ⟨b1, b2⟩ := hp _ _ _ _ _ _ _ _ _ a1 (y_call ho hq hl h1.1 h2.1)
      exact ⟨a2.trans b1.symm, a3.trans b2.symm⟩
  · intro d mi pc lv st w o q x w1 ho hq hl h1 hH hn
    have ho : bop mi pc = some o := ho
    have hH : (bmeth mi).2.2.2.2 = [] := hH
    refine ⟨y_callO ho hq hl h1.1 hH hn, fun r3 w3 h3 => ?_⟩
    rcases bY_inv h3 with ⟨o', q', a1, a2, a3⟩ | ⟨o', z', a1, a2, a3, a4⟩ | ⟨o', q', z', w1', d', a1, a2, a3, a4, a5⟩ | ⟨o', q', x', d', a1, a2, a3, a4, a5, a6⟩ | ⟨o', q', x', w1', hp', o2', ik', d', a1, a2, a3, a4, a5, a6, a7, a8⟩ | ⟨o', ix', a1, a2, a3, a4, a5⟩ | ⟨v', a1, a2, a3⟩
    · rw [ho] at a1
      cases a1
      exact (stp_cal a2 hq).elim
    · rw [ho] at a1
      cases a1
      exact (ret_cal a2 hq).elim
    · rw [ho] at a2
      cases a2
      rw [hq] at a3
      cases a3
      cases a1
      obtain ⟨b1, b2⟩ := h1.2 _ _ a4
      cases b1
    · rw [ho] at a2
      cases a2
      rw [hq] at a3
      cases a3
      cases a1
      obtain ⟨b1, b2⟩ := h1.2 _ _ a4
      cases b1
      exact ⟨a6, b2⟩
    · rw [hH] at a5
      cases a5
    · rw [ho] at a1
      cases a1
      exact (cal_new hq a2).elim
    · obtain ⟨b1, b2⟩ := hp _ _ _ _ _ _ _ _ _ a1 (y_callO ho hq hl h1.1 hH hn)
      exact ⟨a2.trans b1.symm, a3.trans b2.symm⟩
  · intro d mi pc lv st w o q x w1 hp1 o2 ik r w2 ho hq hl h1 hh ho2 hn hk hi k
    have ho : bop mi pc = some o := ho
    refine ⟨y_catch ho hq hl h1.1 hh ho2 hn hk hi k.1, fun r3 w3 h3 => ?_⟩
    rcases bY_inv h3 with ⟨o', q', a1, a2, a3⟩ | ⟨o', z', a1, a2, a3, a4⟩ | ⟨o', q', z', w1', d', a1, a2, a3, a4, a5⟩ | ⟨o', q', x', d', a1, a2, a3, a4, a5, a6⟩ | ⟨o', q', x', w1', hp', o2', ik', d', a1, a2, a3, a4, a5, a6, a7, a8⟩ | ⟨o', ix', a1, a2, a3, a4, a5⟩ | ⟨v', a1, a2, a3⟩
    · rw [ho] at a1
      cases a1
      exact (stp_cal a2 hq).elim
    · rw [ho] at a1
      cases a1
      exact (ret_cal a2 hq).elim
    · rw [ho] at a2
      cases a2
      rw [hq] at a3
      cases a3
      cases a1
      obtain ⟨b1, b2⟩ := h1.2 _ _ a4
      cases b1
    · have hh : bhand (bmeth mi).2.2.2.2 pc x bcok = some hp1 := hh
      rw [a5] at hh
      cases hh
    · rw [ho] at a2
      cases a2
      rw [hq] at a3
      cases a3
      cases a1
      obtain ⟨b1, b2⟩ := h1.2 _ _ a4
      cases b1
      subst b2
      have hh : bhand (bmeth mi).2.2.2.2 pc x bcok = some hp1 := hh
      rw [hh] at a5
      cases a5
      have ho2 : bop mi hp1 = some o2 := ho2
      rw [ho2] at a6
      cases a6
      rw [hk] at a7
      cases a7
      exact k.2 r3 w3 a8
    · rw [ho] at a1
      cases a1
      exact (cal_new hq a2).elim
    · obtain ⟨b1, b2⟩ := hp _ _ _ _ _ _ _ _ _ a1 (y_catch ho hq hl h1.1 hh ho2 hn hk hi k.1)
      exact ⟨a2.trans b1.symm, a3.trans b2.symm⟩
  · intro d mi pc lv w o ix ho g1 g2 g3
    have ho : bop mi pc = some o := ho
    refine ⟨y_thr ho g1 g2 g3, fun r3 w3 h3 => ?_⟩
    rcases bY_inv h3 with ⟨o', q', a1, a2, a3⟩ | ⟨o', z', a1, a2, a3, a4⟩ | ⟨o', q', z', w1', d', a1, a2, a3, a4, a5⟩ | ⟨o', q', x', d', a1, a2, a3, a4, a5, a6⟩ | ⟨o', q', x', w1', hp', o2', ik', d', a1, a2, a3, a4, a5, a6, a7, a8⟩ | ⟨o', ix', a1, a2, a3, a4, a5⟩ | ⟨v', a1, a2, a3⟩
    · rw [ho] at a1
      cases a1
      exact (stp_new a2 g1 g2).elim
    · rw [ho] at a1
      cases a1
      exact (ret_new a2 g1).elim
    · rw [ho] at a2
      cases a2
      exact (cal_new a3 g1).elim
    · rw [ho] at a2
      cases a2
      exact (cal_new a3 g1).elim
    · rw [ho] at a2
      cases a2
      exact (cal_new a3 g1).elim
    · rw [ho] at a1
      cases a1
      exact ⟨a4, a5⟩
    · obtain ⟨b1, b2⟩ := hp _ _ _ _ _ _ _ _ _ a1 (y_thr (d := d) (mi := mi) (pc := pc) (lv := lv) (w := w) ho g1 g2 g3)
      exact ⟨a2.trans b1.symm, a3.trans b2.symm⟩
  · intro d mi pc lv st w v h
    refine ⟨y_sp h, fun r3 w3 h3 => hp _ _ _ _ _ _ _ _ _ h h3⟩
/-- what two proofs say of one call -/
theorem tC_mix (hp : SPT e) {d a : Nat} {vs : List tV} {M : tM} {n : Nat} {R : tR → Nat → Prop} {A : tM → Prop} (h1 : tC e d a vs M n (fun r _ n' => R r n')) (h2 : tC e d a vs M n (fun _ M' _ => A M')) : tC e d a vs M n (fun r M' n' => A M' ∧ R r n') := by
  refine ⟨h1.1, fun hscr => ?_⟩
  obtain ⟨r, M1, n1, q1, y1⟩ := h1.2 hscr
  obtain ⟨r2, M2, n2, q2, y2⟩ := h2.2 hscr
  refine ⟨r, M2, n1, ⟨q2, q1⟩, fun lv hl => ?_⟩
  obtain ⟨b1, b2⟩ := bY_det hp (y1 lv hl) (y2 lv hl)
  have e2 : n2 = n1 := by
    have g := congrArg Prod.snd b2
    rw [two_2, two_2] at g
    exact g
  have h := y2 lv hl
  rw [b1, e2] at h
  exact h
end DET
