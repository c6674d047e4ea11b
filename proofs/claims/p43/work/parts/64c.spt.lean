/-! THE TABLE says nothing that the code says otherwise. -/
section SPTE
variable {scr : List Int32}
theorem stuck {d mi pc : Nat} {lv : List (Nat × bV)} {st : List bV} {w w2 : bW} {r : bR} (h0 : bop mi pc = none) (h1 : eT mi pc lv st w = none) (h : bY (scr, eT) d mi pc lv st w r w2) : False := by
  rcases bY_inv h with ⟨o', q', a1, _⟩ | ⟨o', z', a1, _⟩ | ⟨o', q', z', w1', d', _, a1, _⟩ | ⟨o', q', x', d', _, a1, _⟩ | ⟨o', q', x', w1', hp', o2', ik', d', _, a1, _⟩ | ⟨o', ix', a1, _⟩ | ⟨v', a1, _⟩
  · rw [h0] at a1
    cases a1
  · rw [h0] at a1
    cases a1
  · rw [h0] at a1
    cases a1
  · rw [h0] at a1
    cases a1
  · rw [h0] at a1
    cases a1
  · rw [h0] at a1
    cases a1
  · have a1 : eT mi pc lv st w = some v' := a1
    rw [h1] at a1
    cases a1
/-- a step, where the instruction only steps -/
theorem stepi {d mi pc : Nat} {lv : List (Nat × bV)} {st : List bV} {w w2 : bW} {r : bR} {o : bO} (h0 : bop mi pc = some o) (hr : bret o (bmeth mi).2.2.2.1 st = none) (hc : bcal o st w = none) (hn : ∀ ix, o.1 ≠ .new ix) (h : bY (scr, eT) d mi pc lv st w r w2) : (∃ q : bF, bstep (bE scr) (bmeth mi).2.2.1 o pc lv st w = some q ∧ bY (scr, eT) d mi q.1 q.2.1 q.2.2.1 q.2.2.2 r w2) ∨ (∃ v : bV, eT mi pc lv st w = some v ∧ r = .inl (some v) ∧ w2 = w) := by
  rcases bY_inv h with ⟨o', q', a1, a2, a3⟩ | ⟨o', z', a1, a2, _⟩ | ⟨o', q', z', w1', d', _, a1, a2, _⟩ | ⟨o', q', x', d', _, a1, a2, _⟩ | ⟨o', q', x', w1', hp', o2', ik', d', _, a1, a2, _⟩ | ⟨o', ix', a1, a2, _⟩ | ⟨v', a1, a2, a3⟩
  · rw [h0] at a1
    cases a1
    exact Or.inl ⟨q', a2, a3⟩
  · rw [h0] at a1
    cases a1
    rw [hr] at a2
    cases a2
  · rw [h0] at a1
    cases a1
    rw [hc] at a2
    cases a2
  · rw [h0] at a1
    cases a1
    rw [hc] at a2
    cases a2
  · rw [h0] at a1
    cases a1
    rw [hc] at a2
    cases a2
  · rw [h0] at a1
    cases a1
    exact absurd a2 (hn ix')
  · exact Or.inr ⟨v', a1, a2, a3⟩
theorem eT_off {mi pc : Nat} {lv : List (Nat × bV)} {st : List bV} {w : bW} (h : ¬ (mi = 2564 ∧ pc = 0) ∧ ¬ (mi = 2062 ∧ pc = 0) ∧ ¬ (mi = 2059 ∧ pc = 27)) : eT mi pc lv st w = none := by
  rw [eT_def]
  unfold bT0
  split
  · rw [if_neg h.1, if_neg h.2.1, if_neg h.2.2]
  · rfl
theorem eT_where {mi pc : Nat} {lv : List (Nat × bV)} {st : List bV} {w : bW} {v : bV} (h : eT mi pc lv st w = some v) : ((mi = 2564 ∧ pc = 0) ∨ (mi = 2062 ∧ pc = 0) ∨ (mi = 2059 ∧ pc = 27)) ∧ st = [] := by
  rw [eT_def] at h
  unfold bT0 at h
  split at h
  · split at h
    · rename_i q
      exact ⟨Or.inl q, rfl⟩
    · split at h
      · rename_i q
        exact ⟨Or.inr (Or.inl q), rfl⟩
      · split at h
        · rename_i q
          exact ⟨Or.inr (Or.inr q), rfl⟩
        · cases h
  · cases h
theorem bld_q {k pc n i : Nat} {lv : List (Nat × bV)} {st : List bV} {w : bW} {q : bF} (h : bldl k pc n i lv st w = some q) : q.1 = pc + n ∧ ∃ x, q.2.2.1 = x :: st := by
  unfold bldl at h
  split at h <;> first | (cases h; exact ⟨rfl, _, rfl⟩) | cases h
theorem sp_guess {d : Nat} {lv : List (Nat × bV)} {w w2 : bW} {r : bR} {v : bV} (hv : eT 2564 0 lv [] w = some v) (h : bY (scr, eT) d 2564 0 lv [] w r w2) : r = .inl (some v) ∧ w2 = w := by
  rcases stepi (o := (.aload_n 0, 0, 0, 0, 0)) (by decide +kernel) rfl rfl (fun ix q => by cases q) h with ⟨q, a1, a2⟩ | ⟨v', a1, a2, a3⟩
  · obtain ⟨b1, x, b2⟩ := bld_q (k := 2) (pc := 0) (n := 1) (i := 0) a1
    rw [b1, b2] at a2
    rcases stepi (o := (.getfield 70, 1075, 3, 0, 0)) (by decide +kernel) rfl rfl (fun ix q => by cases q) a2 with ⟨q2, c1, c2⟩ | ⟨v', c1, _⟩
    · have c1 : bgf 1 3 0 q.2.1 [x] q.2.2.2 = some q2 := c1
      have c3 : q2.1 = 4 := by
        unfold bgf at c1
        split at c1
        · split at c1
          · split at c1
            · split at c1
              · cases c1
                rfl
              · cases c1
            · cases c1
          · cases c1
        · cases c1
      rw [c3] at c2
      exact (stuck (by decide +kernel) (eT_off (by decide)) c2).elim
    · rw [eT_off (by decide)] at c1
      cases c1
  · rw [hv] at a1
    cases a1
    exact ⟨a2, a3⟩
theorem sp_next {d : Nat} {lv : List (Nat × bV)} {w w2 : bW} {r : bR} {v : bV} (hv : eT 2059 27 lv [] w = some v) (h : bY (scr, eT) d 2059 27 lv [] w r w2) : r = .inl (some v) ∧ w2 = w := by
  rcases stepi (o := (.iload_n 2, 0, 0, 0, 0)) (by decide +kernel) rfl rfl (fun ix q => by cases q) h with ⟨q, a1, a2⟩ | ⟨v', a1, a2, a3⟩
  · obtain ⟨b1, x, b2⟩ := bld_q (k := 0) (pc := 27) (n := 1) (i := 2) a1
    rw [b1, b2] at a2
    rcases stepi (o := (.aload_n 1, 0, 0, 0, 0)) (by decide +kernel) rfl rfl (fun ix q => by cases q) a2 with ⟨q2, c1, c2⟩ | ⟨v', c1, _⟩
    · obtain ⟨c3, _⟩ := bld_q (k := 2) (pc := 28) (n := 1) (i := 1) c1
      rw [c3] at c2
      exact (stuck (by decide +kernel) (eT_off (by decide)) c2).elim
    · rw [eT_off (by decide)] at c1
      cases c1
  · rw [hv] at a1
    cases a1
    exact ⟨a2, a3⟩
theorem osw_all {P : Int → Bool} {d x : Int} (hd : P d = true) : ∀ ps : List (Int × Int), ps.all (fun q => P q.2) = true → P (Op.lookupswitch.offset ps d x) = true := by
  intro ps
  induction ps with
  | nil =>
    intro _
    exact hd
  | cons q t ih =>
    intro h
    obtain ⟨m, off⟩ := q
    rw [List.all_cons, Bool.and_eq_true] at h
    unfold Op.lookupswitch.offset
    by_cases hq : m = x
    · rw [if_pos hq]
      exact h.1
    · rw [if_neg hq]
      exact ih h.2
theorem sp_rec {d : Nat} {lv : List (Nat × bV)} {w w2 : bW} {r : bR} {v : bV} (hv : eT 2062 0 lv [] w = some v) (h : bY (scr, eT) d 2062 0 lv [] w r w2) : r = .inl (some v) ∧ w2 = w := by
  rcases stepi (o := (.iload_n 0, 0, 0, 0, 0)) (by decide +kernel) rfl rfl (fun ix q => by cases q) h with ⟨q, a1, a2⟩ | ⟨v', a1, a2, a3⟩
  · obtain ⟨b1, x, b2⟩ := bld_q (k := 0) (pc := 0) (n := 1) (i := 0) a1
    rw [b1, b2] at a2
    rcases stepi (o := (.lookupswitch 141 #[(42, 108), (43, 102), (45, 105), (47, 111), (94, 114), (97, 138), (101, 132), (108, 135), (114, 129), (120, 99), (126, 126)], 99, 0, 0, 0)) (by decide +kernel) rfl rfl (fun ix q => by cases q) a2 with ⟨q2, c1, c2⟩ | ⟨v', c1, _⟩
    · have c1 : blsw 1 141 [(42, 108), (43, 102), (45, 105), (47, 111), (94, 114), (97, 138), (101, 132), (108, 135), (114, 129), (120, 99), (126, 126)] q.2.1 [x] q.2.2.2 = some q2 := c1
      obtain ⟨y, rest, e1, e2, e3⟩ : ∃ (y : Int) (rest : List bV), q2.1 = ((1 : Int) + Op.lookupswitch.offset [(42, 108), (43, 102), (45, 105), (47, 111), (94, 114), (97, 138), (101, 132), (108, 135), (114, 129), (120, 99), (126, 126)] 141 y).toNat ∧ q2.2.2.1 = rest ∧ rest = [] := by
        unfold blsw at c1
        split at c1
        · rename_i heq
          split at c1
          · cases c1
            cases heq
            exact ⟨_, _, rfl, rfl, rfl⟩
          · cases c1
        · cases c1
      have g := osw_all (P := fun off => off == 114 || (bop 2062 ((1 : Int) + off).toNat).isNone) (d := 141) (x := y) (by decide +kernel) [(42, 108), (43, 102), (45, 105), (47, 111), (94, 114), (97, 138), (101, 132), (108, 135), (114, 129), (120, 99), (126, 126)] (by decide +kernel)
      generalize Op.lookupswitch.offset [(42, 108), (43, 102), (45, 105), (47, 111), (94, 114), (97, 138), (101, 132), (108, 135), (114, 129), (120, 99), (126, 126)] 141 y = off at *
      rw [e1, e2, e3] at c2
      have g : (off == 114 || (bop 2062 ((1 : Int) + off).toNat).isNone) = true := g
      rw [Bool.or_eq_true] at g
      rcases g with g | g
      · have g := eq_of_beq g
        subst g
        have c2 : bY (scr, eT) d 2062 115 q2.2.1 [] q2.2.2.2 r w2 := c2
        rcases stepi (o := (.iload_n 1, 0, 0, 0, 0)) (by decide +kernel) rfl rfl (fun ix q => by cases q) c2 with ⟨q3, f1, f2⟩ | ⟨v', f1, _⟩
        · obtain ⟨f3, x3, f4⟩ := bld_q (k := 0) (pc := 115) (n := 1) (i := 1) f1
          rw [f3, f4] at f2
          rcases stepi (o := (.ifCond .ne 8, 0, 124, 0, 0)) (by decide +kernel) rfl rfl (fun ix q => by cases q) f2 with ⟨q4, k1, k2⟩ | ⟨v', k1, _⟩
          · have k1 : bjf .ne 116 124 q3.2.1 [x3] q3.2.2.2 = some q4 := k1
            have k3 : q4.1 = 124 ∨ q4.1 = 119 := by
              unfold bjf at k1
              split at k1
              · cases k1
                split
                · exact Or.inl rfl
                · exact Or.inr rfl
              · cases k1
            rcases k3 with k3 | k3
            · rw [k3] at k2
              exact (stuck (by decide +kernel) (eT_off (by decide)) k2).elim
            · rw [k3] at k2
              exact (stuck (by decide +kernel) (eT_off (by decide)) k2).elim
          · rw [eT_off (by decide)] at k1
            cases k1
        · rw [eT_off (by decide)] at f1
          cases f1
      · have g : bop 2062 ((1 : Int) + off).toNat = none := by
          cases hb : bop 2062 ((1 : Int) + off).toNat with
          | none => rfl
          | some o =>
            rw [hb] at g
            cases g
        by_cases h0 : ((1 : Int) + off).toNat = 0
        · rw [h0] at g
          have g2 : (bop 2062 0).isNone = false := by decide +kernel
          rw [g] at g2
          cases g2
        · exact (stuck g (eT_off ⟨fun k => absurd k.1 (by decide), fun k => h0 k.2, fun k => absurd k.1 (by decide)⟩) c2).elim
    · rw [eT_off (by decide)] at c1
      cases c1
  · rw [hv] at a1
    cases a1
    exact ⟨a2, a3⟩
theorem SPT_all : SPT (scr, eT) := by
  intro d mi pc lv st w w2 v r hv h
  have hv : eT mi pc lv st w = some v := hv
  obtain ⟨h1, rfl⟩ := eT_where hv
  rcases h1 with ⟨rfl, rfl⟩ | ⟨rfl, rfl⟩ | ⟨rfl, rfl⟩
  · exact sp_guess hv h
  · exact sp_rec hv h
  · exact sp_next hv h
end SPTE
