/-! RUNS: a frame on top of waiting ones; what comes out has the property F. -/
noncomputable def bX_s (P : bP) : bEx := fun d mi pc lv st w r w2 => ∀ R : bEx, bClosed P R ∧ (∀ (d mi pc : Nat) (lv : List (Nat × bV)) (st : List bV) (w : bW) (v : bV), eT mi pc lv st w = some v → R (d + 4) mi pc lv st w (.inl (some v)) w) → R d mi pc lv st w r w2
section XROWS
variable {P : bP} {d mi pc pc' j a b : Nat} {v : Int} {lv lv' : List (Nat × bV)} {st : List bV} {w w1 w2 : bW} {r : bR}
theorem x_step_s {o : bO} {q : bF} (ho : P.1 mi pc = some o) (hs : bstep P.2.2.1 (P.2.1 mi).2.2.1 o pc lv st w = some q) (k : bX_s P d mi q.1 q.2.1 q.2.2.1 q.2.2.2 r w2) : bX_s P d mi pc lv st w r w2 :=
  fun R hR => hR.1.1 d mi pc lv st w o q r w2 ho hs (k R hR)
theorem x_ret_s {o : bO} {z : Option bV} (ho : P.1 mi pc = some o) (hs : bret o (P.2.1 mi).2.2.2.1 st = some z) : bX_s P d mi pc lv st w (.inl z) w :=
  fun R hR => hR.1.2.1 d mi pc lv st w o z ho hs
theorem x_call_s {o : bO} {q : Nat × List bV × List bV} {z : Option bV} (ho : P.1 mi pc = some o) (hq : bcal o st w = some q) (hl : (q.2.1.map bvc).sum ≤ (P.2.1 q.1).2.2.1) (h : bX_s P d q.1 0 (blva 0 q.2.1) [] w (.inl z) w1) (k : bX_s P (d + 1) mi (pc + 3) lv (z.toList ++ q.2.2) w1 r w2) : bX_s P (d + 1) mi pc lv st w r w2 :=
  fun R hR => hR.1.2.2.1 d mi pc lv st w o q z w1 r w2 ho hq hl (h R hR) (k R hR)
theorem x_callO_s {o : bO} {q : Nat × List bV × List bV} {x : String} (ho : P.1 mi pc = some o) (hq : bcal o st w = some q) (hl : (q.2.1.map bvc).sum ≤ (P.2.1 q.1).2.2.1) (h : bX_s P d q.1 0 (blva 0 q.2.1) [] w (.inr x) w1) (hH : (P.2.1 mi).2.2.2.2 = []) (hn : bnsp o = true) : bX_s P (d + 1) mi pc lv st w (.inr x) w1 :=
  fun R hR => hR.1.2.2.2.1 d mi pc lv st w o q x w1 ho hq hl (h R hR) hH hn
theorem x_catch_s {o : bO} {q : Nat × List bV × List bV} {x : String} {hp : Nat} {o2 : bO} {ik : Nat × Nat} (ho : P.1 mi pc = some o) (hq : bcal o st w = some q) (hl : (q.2.1.map bvc).sum ≤ (P.2.1 q.1).2.2.1) (h : bX_s P d q.1 0 (blva 0 q.2.1) [] w (.inr x) w1) (hh : bhand (P.2.1 mi).2.2.2.2 pc x P.2.2.2.1 = some hp) (ho2 : P.1 mi hp = some o2) (hn : bnsp o = true) (hk : bastk o2.1 = some ik) (hi : ik.1 < (P.2.1 mi).2.2.1) (k : bX_s P (d + 1) mi (hp + ik.2) (blvx lv ik.1) [] w1 r w2) : bX_s P (d + 1) mi pc lv st w r w2 :=
  fun R hR => hR.1.2.2.2.2.1 d mi pc lv st w o q x w1 hp o2 ik r w2 ho hq hl (h R hR) hh ho2 hn hk hi (k R hR)
theorem x_thr_s {o : bO} {ix : Nat} {x : String} (ho : P.1 mi pc = some o) (h1 : o.1 = .new ix) (h2 : o.2.2.2.2 = 1) (h3 : (P.2.1 mi).2.2.2.2 = []) (hx : (P.2.2.2.2 o.2.2.1).1 = x) : bX_s P d mi pc lv [] w (.inr x) (w.1, w.2 + 1) := by
  subst hx
  exact fun R hR => hR.1.2.2.2.2.2 d mi pc lv w o ix ho h1 h2 h3
end XROWS
section BRUN
variable {P : bP} {F : bR → bW → Prop}
/-- a waiting frame: depth, method, place of its call, locals, the stack without what the call took -/
abbrev bFr : Type := Nat × Nat × Nat × List (Nat × bV) × List bV
/-- where a throw goes in a waiting frame: none: further out -/
def bhnd (P : bP) (f : bFr) (x : String) : Prop := (P.2.1 f.2.1).2.2.2.2 = [] ∧ ∃ o, P.1 f.2.1 f.2.2.1 = some o ∧ bnsp o = true
def bRet (P : bP) (F : bR → bW → Prop) : List bFr → bR → bW → Prop
  | [], q, w => F q w
  | f :: fs, .inl v, w => ∃ q w', bX_s P f.1 f.2.1 (f.2.2.1 + 3) f.2.2.2.1 (v.toList ++ f.2.2.2.2) w q w' ∧ bRet P F fs q w'
  | f :: fs, .inr x, w => (bhnd P f x ∧ bRet P F fs (.inr x) w) ∨
      ∃ (o o2 : bO) (hp : Nat) (ik : Nat × Nat), P.1 f.2.1 f.2.2.1 = some o ∧ bhand (P.2.1 f.2.1).2.2.2.2 f.2.2.1 x P.2.2.2.1 = some hp ∧ P.1 f.2.1 hp = some o2 ∧ bnsp o = true ∧ bastk o2.1 = some ik ∧ ik.1 < (P.2.1 f.2.1).2.2.1 ∧
        ∃ q w', bX_s P f.1 f.2.1 (hp + ik.2) (blvx f.2.2.2.1 ik.1) [] w q w' ∧ bRet P F fs q w'
def bRun (P : bP) (F : bR → bW → Prop) (d mi pc : Nat) (lv : List (Nat × bV)) (st : List bV) (w : bW) (fs : List bFr) : Prop := ∃ q w', bX_s P d mi pc lv st w q w' ∧ bRet P F fs q w'
variable {d mi pc : Nat} {lv : List (Nat × bV)} {st : List bV} {w : bW} {fs : List bFr}
theorem run_step {o : bO} {q : bF} (ho : P.1 mi pc = some o) (hs : bstep P.2.2.1 (P.2.1 mi).2.2.1 o pc lv st w = some q) (k : bRun P F d mi q.1 q.2.1 q.2.2.1 q.2.2.2 fs) : bRun P F d mi pc lv st w fs := by
  obtain ⟨r, w2, h, k⟩ := k
  exact ⟨r, w2, x_step_s ho hs h, k⟩
theorem run_ret {o : bO} {z : Option bV} (ho : P.1 mi pc = some o) (hs : bret o (P.2.1 mi).2.2.2.1 st = some z) (k : bRet P F fs (.inl z) w) : bRun P F d mi pc lv st w fs := ⟨_, _, x_ret_s ho hs, k⟩
theorem run_call {o : bO} {q : Nat × List bV × List bV} (ho : P.1 mi pc = some o) (hq : bcal o st w = some q) (hl : (q.2.1.map bvc).sum ≤ (P.2.1 q.1).2.2.1)
    (k : bRun P F d q.1 0 (blva 0 q.2.1) [] w ((d + 1, mi, pc, lv, q.2.2) :: fs)) : bRun P F (d + 1) mi pc lv st w fs := by
  obtain ⟨r, w2, h, k⟩ := k
  cases r with
  | inl z =>
    obtain ⟨r3, w3, h3, k3⟩ := k
    exact ⟨r3, w3, x_call_s ho hq hl h h3, k3⟩
  | inr x =>
    rcases k with ⟨⟨k1, o1, k2, k3⟩, k4⟩ | ⟨o1, o2, hp, ik, k1, k2, k3, k4, k5, k6, r3, w3, h3, k7⟩
    · have e : o1 = o := Option.some.inj (k2.symm.trans ho)
      subst e
      exact ⟨_, _, x_callO_s ho hq hl h k1 k3, k4⟩
    · have e : o1 = o := Option.some.inj (k1.symm.trans ho)
      subst e
      exact ⟨r3, w3, x_catch_s ho hq hl h k2 k3 k4 k5 k6 h3, k7⟩
theorem run_thr {o : bO} {ix : Nat} {x : String} (ho : P.1 mi pc = some o) (h1 : o.1 = .new ix) (h2 : o.2.2.2.2 = 1) (h3 : (P.2.1 mi).2.2.2.2 = []) (hx : (P.2.2.2.2 o.2.2.1).1 = x) (k : bRet P F fs (.inr x) (w.1, w.2 + 1)) : bRun P F d mi pc lv [] w fs :=
  ⟨_, _, x_thr_s ho h1 h2 h3 hx, k⟩
theorem bRun.bX {r : bR} {w2 : bW} (h : bRun P (fun q w' => q = r ∧ w' = w2) d mi pc lv st w []) : bX_s P d mi pc lv st w r w2 := by
  obtain ⟨q, w', h1, rfl, rfl⟩ := h
  exact h1
end BRUN
