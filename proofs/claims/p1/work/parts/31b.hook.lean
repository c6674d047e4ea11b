/-! RUNS WITH METHODS READ ALREADY: a hook says what such a call comes to. -/
abbrev sHk : Type := sK → Nat → Nat → Nat → List (Nat × sV) → List sV → sW → List sFr → Option sP
noncomputable def sbodyH (hk : sHk) (fin : sK → Option sV → sW → Bool) (ih : sG) : sG := fun C d mi pc lv st w fs => match hk C d mi pc lv st w fs with
  | some p => ih C p.1 p.2.1 p.2.2.1 p.2.2.2.1 p.2.2.2.2.1 p.2.2.2.2.2.1 p.2.2.2.2.2.2
  | none => sbody fin ih C d mi pc lv st w fs
noncomputable def sexecH (hk : sHk) (fin : sK → Option sV → sW → Bool) (z : sG) (n : Nat) : sG := Nat.rec (motive := fun _ => sG) z (fun _ ih => sbodyH hk fin ih) n
def hkOk (scr : List Int32) (F : bR → bW → Prop) (e : sE) (hk : sHk) : Prop := ∀ C d mi pc lv st w fs p, cok e C → hk C d mi pc lv st w fs = some p → pRun scr F e p → bRun (bPr scr) F d mi pc (cvs e lv) (cs e st) (cw e w) (cfs e fs)
theorem sexecH_ok {scr : List Int32} {F : bR → bW → Prop} {e : sE} {hk : sHk} (hR : sR scr e) (hK : hkOk scr F e hk) {fin : sK → Option sV → sW → Bool} {z : sG} (hfin : ∀ C z w, cok e C → fin C z w = true → F (.inl (z.map (cv e))) (cw e w))
    (hz : ∀ C d mi pc lv st w fs, cok e C → z C d mi pc lv st w fs = true → bRun (bPr scr) F d mi pc (cvs e lv) (cs e st) (cw e w) (cfs e fs)) (n : Nat) :
    ∀ C d mi pc lv st w fs, cok e C → sexecH hk fin z n C d mi pc lv st w fs = true → bRun (bPr scr) F d mi pc (cvs e lv) (cs e st) (cw e w) (cfs e fs) := by
  induction n with
  | zero => exact hz
  | succ n ih =>
    intro C d mi pc lv st w fs hC h
    have h : sbodyH hk fin (sexecH hk fin z n) C d mi pc lv st w fs = true := h
    unfold sbodyH at h
    split at h
    · rename_i p hp
      exact hK _ _ _ _ _ _ _ _ p hC hp (ih _ _ _ _ _ _ _ _ hC h)
    · exact sbody_ok hR hfin ih _ _ _ _ _ _ _ _ hC h
theorem pH_end {scr : List Int32} {e : sE} {hk : sHk} (hR : sR scr e) (hK : hkOk scr pF e hk) {C : sK} (hC : cok e C) (n : Nat) {p : sP} (h : sexecH hk pfin znv n C p.1 p.2.1 p.2.2.1 p.2.2.2.1 p.2.2.2.2.1 p.2.2.2.2.2.1 p.2.2.2.2.2.2 = true) : pRun scr pF e p :=
  sexecH_ok hR hK pfin_ok (fun _ _ _ _ _ _ _ _ _ h => by cases (show false = true from h)) n _ _ _ _ _ _ _ _ hC h
/-! A world laid over another one: opaque cells are the other's. -/
noncomputable def ovl (m c : sC) : Bool := match m with
  | (k, _, _, _) => cond (Nat.beq k 4) true (cond (Nat.blt k 4) (ceq m c) false)
noncomputable def wov (W w : sW) : Bool := cond (Nat.beq W.1 w.1) (cond (Nat.beq W.2.1 w.2.1) (tall2 ovl 10 W.2.2 w.2.2) false) false
noncomputable def tmix (d : Nat) : Tr sC d → Tr sC d → Tr sC d :=
  Nat.rec (motive := fun d => Tr sC d → Tr sC d → Tr sC d) (fun a b => cond (Nat.beq (Prod.fst (α := Nat) (β := Nat × Nat × ((d : Nat) × Tr sV d)) a) 4) b a)
    (fun d ih t u => Prod.rec (motive := fun _ => Tr sC (d + 1)) (fun a b => Prod.rec (motive := fun _ => Tr sC (d + 1)) (fun a' b' => tpr (ih a a') (ih b b')) u) t) d
theorem tmix_p {d : Nat} (a b a' b' : Tr sC d) : tmix (d + 1) (tpr a b) (tpr a' b') = tpr (tmix d a a') (tmix d b b') := rfl
theorem tmix_get (d : Nat) : ∀ (t u : Tr sC d) (i : Nat), tget d (tmix d t u) i = cond (Nat.beq (tget d t i).1 4) (tget d u i) (tget d t i) := by
  induction d with
  | zero => intro t u i; rfl
  | succ d ih =>
    intro t u i
    obtain ⟨a, b, rfl⟩ := tpr_all t
    obtain ⟨a', b', rfl⟩ := tpr_all u
    rw [tmix_p, tget_p, tget_p, tget_p]
    by_cases h : i % 2 = 0
    · rw [if_pos h, if_pos h, if_pos h, ih]
    · rw [if_neg h, if_neg h, if_neg h, ih]
noncomputable def wmix (W w : sW) : sW := (w.1, w.2.1, tmix 10 W.2.2 w.2.2)
/-- opaque cells are named by their places -/
noncomputable def wop (W : sW) : Bool := (List.range W.1).all (fun i => match tget 10 W.2.2 i with | (k, ty, _, _) => cond (Nat.beq k 4) (Nat.beq ty i) (Nat.blt k 4))
theorem cc_ind {a : Nat → Int32} {b : Nat → Int64} {g g' : Nat → bC} {c : sC} (h : c.1 < 4) : cc (a, b, g) c = cc (a, b, g') c := by
  obtain ⟨k, ty, n, d, t⟩ := c
  have h : k < 4 := h
  match k, h with
  | 0, _ => rfl
  | 1, _ => rfl
  | 2, _ => rfl
  | 3, _ => rfl
theorem wop_get {W : sW} (h : wop W = true) {i : Nat} (hi : i < W.1) : ((tget 10 W.2.2 i).1 = 4 ∧ (tget 10 W.2.2 i).2.1 = i) ∨ (tget 10 W.2.2 i).1 < 4 := by
  have h1 := List.all_eq_true.mp h i (List.mem_range.mpr hi)
  revert h1
  generalize tget 10 W.2.2 i = c
  obtain ⟨k, ty, n, t⟩ := c
  intro h1
  have h1 : cond (Nat.beq k 4) (Nat.beq ty i) (Nat.blt k 4) = true := h1
  rcases cond_two h1 with ⟨g, h1⟩ | ⟨-, h1⟩
  · exact Or.inl ⟨beq_t g, beq_t h1⟩
  · exact Or.inr (blt_t h1)
theorem cc_4 {e : sE} {c : sC} (h : c.1 = 4) : cc e c = e.2.2 c.2.1 := by
  obtain ⟨k, ty, n, d, t⟩ := c
  have h : k = 4 := h
  subst h
  rfl
/-- the other's cells -/
noncomputable def wcel (e : sE) (w : sW) : Nat → bC := fun r => cc e (tget 10 w.2.2 r)
theorem wov_ok {a : Nat → Int32} {b : Nat → Int64} {g : Nat → bC} {W w : sW} (hW : wop W = true) (h : wov W w = true) : cw (a, b, wcel (a, b, g) w) W = cw (a, b, g) w := by
  rcases cond_two h with ⟨g1, h⟩ | ⟨-, h⟩
  · rcases cond_two h with ⟨g2, h9⟩ | ⟨-, h⟩
    · have e1 := beq_t g1
      have e2 := beq_t g2
      have h2 := tall2_get 10 _ _ h9
      show (tlst (cc (a, b, wcel (a, b, g) w)) 10 W.1 W.2.2, W.2.1) = (tlst (cc (a, b, g)) 10 w.1 w.2.2, w.2.1)
      rw [← e1, ← e2]
      congr 1
      apply List.ext_getElem?
      intro k
      by_cases hk : k < W.1
      · rw [tlst_get hk, tlst_get hk]
        congr 1
        rcases wop_get hW hk with ⟨q1, q2⟩ | q1
        · rw [cc_4 q1, q2]; rfl
        · have h3 := h2 k
          have h4 : ceq (tget 10 W.2.2 k) (tget 10 w.2.2 k) = true := by
            revert h3 q1
            generalize tget 10 W.2.2 k = c
            obtain ⟨kk, ty, n, t⟩ := c
            intro q1 h3
            have q1 : kk < 4 := q1
            have h3 : cond (Nat.beq kk 4) true (cond (Nat.blt kk 4) (ceq (kk, ty, n, t) (tget 10 w.2.2 k)) false) = true := h3
            rw [nbeq_n (show ¬ kk = 4 by omega), blt_ye q1] at h3
            exact h3
          rw [cc_ind (g' := g) q1]
          exact ceq_ok h4
      · rw [List.getElem?_eq_none (by rw [tlst_len]; omega), List.getElem?_eq_none (by rw [tlst_len]; omega)]
    · cases h
  · cases h
theorem wmix_ok {a : Nat → Int32} {b : Nat → Int64} {g : Nat → bC} {W w : sW} (hW : wop W = true) (h1 : W.1 = w.1) (h2 : W.2.1 = w.2.1) : cw (a, b, wcel (a, b, g) w) W = cw (a, b, g) (wmix W w) := by
  show (tlst (cc (a, b, wcel (a, b, g) w)) 10 W.1 W.2.2, W.2.1) = (tlst (cc (a, b, g)) 10 w.1 (tmix 10 W.2.2 w.2.2), w.2.1)
  rw [← h1, ← h2]
  congr 1
  apply List.ext_getElem?
  intro k
  by_cases hk : k < W.1
  · rw [tlst_get hk, tlst_get hk, tmix_get]
    congr 1
    rcases wop_get hW hk with ⟨q1, q2⟩ | q1
    · rw [cc_4 q1, q2, q1]; rfl
    · rw [nbeq_n (show ¬ (tget 10 W.2.2 k).1 = 4 by omega)]
      exact cc_ind q1
  · rw [List.getElem?_eq_none (by rw [tlst_len]; omega), List.getElem?_eq_none (by rw [tlst_len]; omega)]
/-! A method that returns nothing, read from a world W to a world W', other cells unknown. -/
noncomputable def hkV (d0 mi0 : Nat) (lv0 : List (Nat × sV)) (W W' : sW) : sHk := fun _ d mi pc lv st w fs => cond (Nat.beq mi mi0) (cond (Nat.beq pc 0) (cond (Nat.beq d d0) (cond (leq lv lv0) (match st, fs with
  | [], f :: fs => cond (wov W w) (some (f.1, f.2.1, f.2.2.1 + 3, f.2.2.2.1, f.2.2.2.2, wmix W' w, fs)) none
  | _, _ => none) none) none) none) none
theorem hkV_ok {scr : List Int32} {F : bR → bW → Prop} {a : Nat → Int32} {b : Nat → Int64} {g : Nat → bC} {d0 mi0 : Nat} {lv0 : List (Nat × sV)} {W W' : sW} (h1 : wop W = true) (h2 : wop W' = true) (h3 : W'.1 = W.1) (h4 : W'.2.1 = W.2.1)
    (hX : ∀ g' : Nat → bC, bX (bPr scr) d0 mi0 0 (cvs (a, b, g') lv0) [] (cw (a, b, g') W) (.inl none) (cw (a, b, g') W')) : hkOk scr F (a, b, g) (hkV d0 mi0 lv0 W W') := by
  intro C d mi pc lv st w fs p hC h k
  unfold hkV at h
  obtain ⟨g1, h⟩ := cond_none h
  obtain ⟨g2, h⟩ := cond_none h
  obtain ⟨g3, h⟩ := cond_none h
  obtain ⟨g4, h9⟩ := cond_none h
  have e1 : mi = mi0 := beq_t g1
  have e2 : pc = 0 := beq_t g2
  have e3 : d = d0 := beq_t g3
  have e4 : lv = lv0 := leq_ok g4
  rw [e1, e2, e3, e4]
  cases st with
  | cons x r => cases h9
  | nil =>
    cases fs with
    | nil => cases h9
    | cons f fs' =>
      obtain ⟨g5, h8⟩ := cond_none (show cond (wov W w) (some (f.1, f.2.1, f.2.2.1 + 3, f.2.2.2.1, f.2.2.2.2, wmix W' w, fs')) none = some p from h9)
      have e5 := Option.some.inj h8
      rw [← e5] at k
      have q1 : W.1 = w.1 ∧ W.2.1 = w.2.1 := by
        rcases cond_two g5 with ⟨f1, g6⟩ | ⟨-, g6⟩
        · rcases cond_two g6 with ⟨f2, -⟩ | ⟨-, g6⟩
          · exact ⟨beq_t f1, beq_t f2⟩
          · cases g6
        · cases g6
      have h5 := hX (wcel (a, b, g) w)
      rw [wov_ok h1 g5, wmix_ok h2 (h3.trans q1.1) (h4.trans q1.2)] at h5
      exact ⟨_, _, h5, k⟩
/-- the unknowns with one more -/
def senv2 (scr : List Int32) (x : Int32) (g : Nat → bC) : sE := (fun j => if j = 14 then x else (senv scr).1 j, (senv scr).2.1, g)
theorem senv2_R {scr : List Int32} (h : scr.length < 2147483648) {x : Int32} {g : Nat → bC} : sR scr (senv2 scr x g) := by
  obtain ⟨h1, h2, h3, h4, h5, h6, h7, h8⟩ := senv_R h
  refine ⟨h1, fun j hj => ?_, fun j hj => ?_, h4, h5, h6, h7, h8⟩
  · show (if j = 14 then x else (senv scr).1 j) = _
    rw [if_neg (by omega)]
    exact h2 j hj
  · show (if j + 6 = 14 then x else (senv scr).1 (j + 6)) = ((if j = 14 then x else (senv scr).1 j).toUInt32 % 65536).toInt32
    rw [if_neg (by omega), if_neg (by omega)]
    exact h3 j hj
theorem senv2_ok {scr : List Int32} {x : Int32} {g : Nat → bC} {C : sK} (h : cok (senv scr) C) (h14 : (sget C 14).1 ≤ bsI x ∧ bsI x ≤ (sget C 14).2) : cok (senv2 scr x g) C := by
  intro j
  by_cases hj : j = 14
  · subst hj; exact h14
  · have h1 := h j
    show (sget C j).1 ≤ bsI (if j = 14 then x else (senv scr).1 j) ∧ bsI (if j = 14 then x else (senv scr).1 j) ≤ (sget C j).2
    rw [if_neg hj]
    exact h1
