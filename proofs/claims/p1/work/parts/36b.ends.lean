/-! ENDS OF PATHS: alike up to pairs of values that are the same. -/
abbrev sQ : Type := List (sV × sV)
noncomputable def lkQ (Q : sQ) (a b : sV) : Bool := List.rec (motive := fun _ => Bool) false (fun p _ ih => cond (Nat.beq p.2.2 b.2) (cond (veq p.2 b) (cond (veq p.1 a) true ih) ih) ih) Q
noncomputable def veE (Q : sQ) (a b : sV) : Bool := cond (Nat.beq (Prod.fst (α := Nat) (β := Nat) a) (Prod.fst (α := Nat) (β := Nat) b)) (cond (Nat.beq (Prod.snd (α := Nat) (β := Nat) a) (Prod.snd (α := Nat) (β := Nat) b)) true (lkQ Q a b)) (lkQ Q a b)
theorem lkQ_ok {Q : sQ} {a b : sV} : lkQ Q a b = true → (a, b) ∈ Q := by
  induction Q with
  | nil => intro h; cases h
  | cons p t ih =>
    intro h
    rcases cond_two (show cond (Nat.beq p.2.2 b.2) (cond (veq p.2 b) (cond (veq p.1 a) true (lkQ t a b)) (lkQ t a b)) (lkQ t a b) = true from h) with ⟨-, h⟩ | ⟨-, h⟩
    · rcases cond_two h with ⟨g, h⟩ | ⟨-, h⟩
      · rcases cond_two h with ⟨g2, -⟩ | ⟨-, h⟩
        · rw [← veq_ok g, ← veq_ok g2]
          exact List.mem_cons_self
        · exact List.mem_cons_of_mem _ (ih h)
      · exact List.mem_cons_of_mem _ (ih h)
    · exact List.mem_cons_of_mem _ (ih h)
theorem veE_ok {Q : sQ} {a b : sV} (h : veE Q a b = true) : a = b ∨ (a, b) ∈ Q := by
  rcases cond_two (show cond (Nat.beq a.1 b.1) (cond (Nat.beq a.2 b.2) true (lkQ Q a b)) (lkQ Q a b) = true from h) with ⟨g, h⟩ | ⟨-, h⟩
  · rcases cond_two h with ⟨g2, -⟩ | ⟨-, h⟩
    · exact Or.inl (Prod.ext (beq_t g) (beq_t g2))
    · exact Or.inr (lkQ_ok h)
  · exact Or.inr (lkQ_ok h)
noncomputable def tallE (f : sV → sV → Bool) (d : Nat) : Tr sV d → (d' : Nat) → Tr sV d' → Bool :=
  Nat.rec (motive := fun d => Tr sV d → (d' : Nat) → Tr sV d' → Bool)
    (fun t d' => Nat.rec (motive := fun d' => Tr sV d' → Bool) (fun u => f t u) (fun _ _ _ => false) d')
    (fun d ih t d' => Nat.rec (motive := fun d' => Tr sV d' → Bool) (fun _ => false) (fun d' _ u => Prod.rec (motive := fun _ => Bool) (fun a b => Prod.rec (motive := fun _ => Bool) (fun a' b' => cond (ih a d' a') (ih b d' b') false) u) t) d') d
theorem tallE_s {f : sV → sV → Bool} {d d' : Nat} (a b : Tr sV d) (a' b' : Tr sV d') : tallE f (d + 1) (tpr a b) (d' + 1) (tpr a' b') = cond (tallE f d a d' a') (tallE f d b d' b') false := rfl
theorem tallE_get {f : sV → sV → Bool} (d : Nat) : ∀ (t : Tr sV d) (d' : Nat) (u : Tr sV d'), tallE f d t d' u = true → ∀ i, f (tget d t i) (tget d' u i) = true := by
  induction d with
  | zero =>
    intro t d' u h i
    cases d' with
    | zero => exact h
    | succ d' => cases h
  | succ d ih =>
    intro t d' u h i
    cases d' with
    | zero => cases h
    | succ d' =>
      obtain ⟨a, b, rfl⟩ := tpr_all t
      obtain ⟨a', b', rfl⟩ := tpr_all u
      rw [tallE_s] at h
      rcases cond_two h with ⟨g, h⟩ | ⟨-, h⟩
      · rw [tget_p, tget_p]
        by_cases h2 : i % 2 = 0
        · rw [if_pos h2, if_pos h2]; exact ih _ _ _ g _
        · rw [if_neg h2, if_neg h2]; exact ih _ _ _ h _
      · cases h
/-- the pairs hold: ints, longs -/
def qiO (e : sE) (Q : sQ) : Prop := ∀ p ∈ Q, isI p.1 = true ∧ isI p.2 = true ∧ ci e p.1 = ci e p.2
def qlO (e : sE) (Q : sQ) : Prop := ∀ p ∈ Q, isL p.1 = true ∧ isL p.2 = true ∧ cl e p.1 = cl e p.2
section ENDS
variable {e : sE} {I L : sQ}
theorem viE_ok (hI : qiO e I) {a b : sV} (h : veE I a b = true) : ci e a = ci e b := by
  rcases veE_ok h with h | h
  · rw [h]
  · exact (hI _ h).2.2
theorem vlE_ok (hL : qlO e L) {a b : sV} (h : veE L a b = true) : cl e a = cl e b := by
  rcases veE_ok h with h | h
  · rw [h]
  · exact (hL _ h).2.2
theorem vvE_ok (hI : qiO e I) (hL : qlO e L) {a b : sV} (h : veE (I ++ L) a b = true) : cv e a = cv e b := by
  rcases veE_ok h with h | h
  · rw [h]
  · rcases List.mem_append.mp h with h | h
    · obtain ⟨h1, h2, h3⟩ := hI _ h
      rw [isI_ok h1, isI_ok h2, h3]
    · obtain ⟨h1, h2, h3⟩ := hL _ h
      rw [isL_ok h1, isL_ok h2, h3]
theorem tls_eq {β : Type} {f : sV → β} {d d' n : Nat} {t : Tr sV d} {u : Tr sV d'} (h : ∀ i, f (tget d t i) = f (tget d' u i)) : tlst f d n t = tlst f d' n u := by
  unfold tlst
  congr 1
  funext k
  exact h k
noncomputable def cek (I L : sQ) (k d : Nat) (t : Tr sV d) (d' : Nat) (t' : Tr sV d') : Bool := match k with
  | 0 => tallE (veE (I ++ L)) d t d' t'
  | 1 => tallE (veE I) d t d' t'
  | 2 => tallE (veE L) d t d' t'
  | _ => tall3 d t d' t'
noncomputable def ceE (I L : sQ) (a b : sC) : Bool := match a, b with
  | (k, ty, n, ⟨d, t⟩), (k', ty', n', ⟨d', t'⟩) => cond (Nat.beq k k') (cond (Nat.beq ty ty') (cond (Nat.beq n n') (cek I L k d t d' t') false) false) false
theorem ceE_ok (hI : qiO e I) (hL : qlO e L) {a b : sC} (h : ceE I L a b = true) : cc e a = cc e b := by
  obtain ⟨k, ty, n, d, t⟩ := a
  obtain ⟨k', ty', n', d', t'⟩ := b
  have h : cond (Nat.beq k k') (cond (Nat.beq ty ty') (cond (Nat.beq n n') (cek I L k d t d' t') false) false) false = true := h
  rcases cond_two h with ⟨g1, h⟩ | ⟨-, h⟩
  · rcases cond_two h with ⟨g2, h⟩ | ⟨-, h⟩
    · rcases cond_two h with ⟨g3, h9⟩ | ⟨-, h⟩
      · have e1 := beq_t g1
        have e2 := beq_t g2
        have e3 := beq_t g3
        subst e1 e2 e3
        match k with
        | 0 =>
          show (.inl (ty, tlst (cv e) d n t) : bC) = .inl (ty, tlst (cv e) d' n t')
          rw [tls_eq (fun i => vvE_ok hI hL (tallE_get d t d' t' h9 i))]
        | 1 =>
          show (.inr (.inl (ty, tlst (ci e) d n t)) : bC) = .inr (.inl (ty, tlst (ci e) d' n t'))
          rw [tls_eq (fun i => viE_ok hI (tallE_get d t d' t' h9 i))]
        | 2 =>
          show (.inr (.inr (.inl (tlst (cl e) d n t))) : bC) = .inr (.inr (.inl (tlst (cl e) d' n t')))
          rw [tls_eq (fun i => vlE_ok hL (tallE_get d t d' t' h9 i))]
        | k + 3 =>
          refine ceq_ok ?_
          show cond (Nat.beq (k + 3) (k + 3)) (cond (Nat.beq ty ty) (cond (Nat.beq n n) (tall3 d t d' t') false) false) false = true
          rw [g1, g2, g3]
          exact h9
      · cases h
    · cases h
  · cases h
noncomputable def weE (I L : sQ) (w w' : sW) : Bool := cond (Nat.beq w.1 w'.1) (cond (Nat.beq w.2.1 w'.2.1) (tall2 (ceE I L) 10 w.2.2 w'.2.2) false) false
theorem weE_ok (hI : qiO e I) (hL : qlO e L) {w w' : sW} (h : weE I L w w' = true) : cw e w = cw e w' := by
  obtain ⟨n, x, T⟩ := w
  obtain ⟨n', x', T'⟩ := w'
  rcases cond_two h with ⟨g1, h⟩ | ⟨-, h⟩
  · rcases cond_two h with ⟨g2, h9⟩ | ⟨-, h⟩
    · have e1 : n = n' := beq_t g1
      have e2 : x = x' := beq_t g2
      subst e1 e2
      have h2 := tall2_get 10 T T' h9
      show (tlst (cc e) 10 n T, x) = (tlst (cc e) 10 n T', x)
      have h3 : tlst (cc e) 10 n T = tlst (cc e) 10 n T' := by
        unfold tlst
        congr 1
        funext k
        exact ceE_ok hI hL (h2 k)
      rw [h3]
    · cases h
  · cases h
noncomputable def leE (Q : sQ) (a b : List (Nat × sV)) : Bool := match a, b with
  | [], [] => true
  | p :: s, q :: t => cond (Nat.beq p.1 q.1) (cond (veE Q p.2 q.2) (leE Q s t) false) false
  | _, _ => false
theorem leE_ok (hI : qiO e I) (hL : qlO e L) : ∀ {a b : List (Nat × sV)}, leE (I ++ L) a b = true → cvs e a = cvs e b := by
  intro a
  induction a with
  | nil => intro b h; cases b with
    | nil => rfl
    | cons q t => cases h
  | cons p s ih => intro b h; cases b with
    | nil => cases h
    | cons q t =>
      rcases cond_two (show cond (Nat.beq p.1 q.1) (cond (veE (I ++ L) p.2 q.2) (leE (I ++ L) s t) false) false = true from h) with ⟨g, h⟩ | ⟨-, h⟩
      · rcases cond_two h with ⟨g2, h⟩ | ⟨-, h⟩
        · show (p.1, cv e p.2) :: cvs e s = (q.1, cv e q.2) :: cvs e t
          rw [ih h, vvE_ok hI hL g2, beq_t g]
        · cases h
      · cases h
noncomputable def seE (Q : sQ) (a b : List sV) : Bool := match a, b with
  | [], [] => true
  | p :: s, q :: t => cond (veE Q p q) (seE Q s t) false
  | _, _ => false
theorem seE_ok (hI : qiO e I) (hL : qlO e L) : ∀ {a b : List sV}, seE (I ++ L) a b = true → cs e a = cs e b := by
  intro a
  induction a with
  | nil => intro b h; cases b with
    | nil => rfl
    | cons q t => cases h
  | cons p s ih => intro b h; cases b with
    | nil => cases h
    | cons q t =>
      rcases cond_two (show cond (veE (I ++ L) p q) (seE (I ++ L) s t) false = true from h) with ⟨g2, h⟩ | ⟨-, h⟩
      · show cv e p :: cs e s = cv e q :: cs e t
        rw [ih h, vvE_ok hI hL g2]
      · cases h
noncomputable def feE (Q : sQ) (a b : List sFr) : Bool := match a, b with
  | [], [] => true
  | p :: s, q :: t => cond (Nat.beq p.1 q.1) (cond (Nat.beq p.2.1 q.2.1) (cond (Nat.beq p.2.2.1 q.2.2.1) (cond (leE Q p.2.2.2.1 q.2.2.2.1) (cond (seE Q p.2.2.2.2 q.2.2.2.2) (feE Q s t) false) false) false) false) false
  | _, _ => false
theorem feE_ok (hI : qiO e I) (hL : qlO e L) : ∀ {a b : List sFr}, feE (I ++ L) a b = true → cfs e a = cfs e b := by
  intro a
  induction a with
  | nil => intro b h; cases b with
    | nil => rfl
    | cons q t => cases h
  | cons p s ih => intro b h; cases b with
    | nil => cases h
    | cons q t =>
      rcases cond_two (show cond (Nat.beq p.1 q.1) (cond (Nat.beq p.2.1 q.2.1) (cond (Nat.beq p.2.2.1 q.2.2.1) (cond (leE (I ++ L) p.2.2.2.1 q.2.2.2.1) (cond (seE (I ++ L) p.2.2.2.2 q.2.2.2.2) (feE (I ++ L) s t) false) false) false) false) false = true from h) with ⟨g1, h⟩ | ⟨-, h⟩
      · rcases cond_two h with ⟨g2, h⟩ | ⟨-, h⟩
        · rcases cond_two h with ⟨g3, h⟩ | ⟨-, h⟩
          · rcases cond_two h with ⟨g4, h⟩ | ⟨-, h⟩
            · rcases cond_two h with ⟨g5, h⟩ | ⟨-, h⟩
              · show (p.1, p.2.1, p.2.2.1, cvs e p.2.2.2.1, cs e p.2.2.2.2) :: cfs e s = (q.1, q.2.1, q.2.2.1, cvs e q.2.2.2.1, cs e q.2.2.2.2) :: cfs e t
                rw [ih h, leE_ok hI hL g4, seE_ok hI hL g5, beq_t g1, beq_t g2, beq_t g3]
              · cases h
            · cases h
          · cases h
        · cases h
      · cases h
noncomputable def zeE (I L : sQ) (p : sP) : sG := fun _ d mi pc lv st w fs => cond (Nat.beq d p.1) (cond (Nat.beq mi p.2.1) (cond (Nat.beq pc p.2.2.1) (cond (leE (I ++ L) lv p.2.2.2.1) (cond (seE (I ++ L) st p.2.2.2.2.1) (cond (feE (I ++ L) fs p.2.2.2.2.2.2) (weE I L w p.2.2.2.2.2.1) false) false) false) false) false) false
theorem zeE_ok (hI : qiO e I) (hL : qlO e L) {scr : List Int32} {F : bR → bW → Prop} {p : sP} (k : pRun scr F e p) : ∀ C d mi pc lv st w fs, cok e C → zeE I L p C d mi pc lv st w fs = true → bRun (bPr scr) F d mi pc (cvs e lv) (cs e st) (cw e w) (cfs e fs) := by
  intro C d mi pc lv st w fs _ h
  rcases cond_two (show cond (Nat.beq d p.1) (cond (Nat.beq mi p.2.1) (cond (Nat.beq pc p.2.2.1) (cond (leE (I ++ L) lv p.2.2.2.1) (cond (seE (I ++ L) st p.2.2.2.2.1) (cond (feE (I ++ L) fs p.2.2.2.2.2.2) (weE I L w p.2.2.2.2.2.1) false) false) false) false) false) false = true from h) with ⟨g1, h⟩ | ⟨-, h⟩
  · rcases cond_two h with ⟨g2, h⟩ | ⟨-, h⟩
    · rcases cond_two h with ⟨g3, h⟩ | ⟨-, h⟩
      · rcases cond_two h with ⟨g4, h⟩ | ⟨-, h⟩
        · rcases cond_two h with ⟨g5, h⟩ | ⟨-, h⟩
          · rcases cond_two h with ⟨g6, h9⟩ | ⟨-, h⟩
            · have k2 : bRun (bPr scr) F p.1 p.2.1 p.2.2.1 (cvs e p.2.2.2.1) (cs e p.2.2.2.2.1) (cw e p.2.2.2.2.2.1) (cfs e p.2.2.2.2.2.2) := k
              rw [← leE_ok hI hL g4, ← seE_ok hI hL g5, ← feE_ok hI hL g6, ← weE_ok hI hL h9, ← beq_t g1, ← beq_t g2, ← beq_t g3] at k2
              exact k2
            · cases h
          · cases h
        · cases h
      · cases h
    · cases h
  · cases h
end ENDS
