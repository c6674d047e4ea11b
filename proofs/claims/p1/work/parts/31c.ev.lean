/-! RUNS WITH EVENTS: what the unknowns come to is told by a list (kind, which, a, b, c, result). -/
abbrev sEv : Type := Nat × Nat × sV × sV × sV × sV
def evf (L : List sEv) (k s : Nat) (a b c : sV) : Option sV := match L with
  | [] => none
  | q :: t => cond (Nat.beq q.1 k) (cond (Nat.beq q.2.1 s) (cond (veq q.2.2.1 a) (cond (veq q.2.2.2.1 b) (cond (veq q.2.2.2.2.1 c) (some q.2.2.2.2.2) (evf t k s a b c)) (evf t k s a b c)) (evf t k s a b c)) (evf t k s a b c)) (evf t k s a b c)
theorem evf_ok {L : List sEv} {k s : Nat} {a b c z : sV} (h : evf L k s a b c = some z) : (k, s, a, b, c, z) ∈ L := by
  induction L with
  | nil => cases h
  | cons q t ih =>
    obtain ⟨k', s', a', b', c', z'⟩ := q
    rcases cond_two h with ⟨g1, h⟩ | ⟨-, h⟩
    · rcases cond_two h with ⟨g2, h⟩ | ⟨-, h⟩
      · rcases cond_two h with ⟨g3, h⟩ | ⟨-, h⟩
        · rcases cond_two h with ⟨g4, h⟩ | ⟨-, h⟩
          · rcases cond_two h with ⟨g5, h9⟩ | ⟨-, h⟩
            · have e1 : k' = k := beq_t g1
              have e2 : s' = s := beq_t g2
              have e3 : a' = a := veq_ok g3
              have e4 : b' = b := veq_ok g4
              have e5 : c' = c := veq_ok g5
              have e6 : z' = z := Option.some.inj h9
              rw [e1, e2, e3, e4, e5, e6]
              exact List.mem_cons_self
            · exact List.mem_cons_of_mem _ (ih h)
          · exact List.mem_cons_of_mem _ (ih h)
        · exact List.mem_cons_of_mem _ (ih h)
      · exact List.mem_cons_of_mem _ (ih h)
    · exact List.mem_cons_of_mem _ (ih h)
def cdi (c : ClassFile.Cond) : Nat := match c with | .eq => 0 | .ne => 1 | .lt => 2 | .ge => 3 | .gt => 4 | .le => 5
def evI (s : Nat) (x y z : Int32) : Prop := match s with
  | 0 => z = x + y
  | 1 => z = x - y
  | 2 => z = x * y
  | _ => False
def evL (s : Nat) (x y z : Int64) : Prop := match s with
  | 0 => z = x + y
  | 1 => z = x - y
  | 2 => z = x * y
  | 3 => ¬ y = 0 ∧ z = x / y
  | 4 => ¬ y = 0 ∧ z = x - x / y * y
  | 5 => z = x ^^^ y
  | _ => False
def evB (s : Nat) (x y : Int32) : Bool := match s with
  | 0 => bcmp .eq x y
  | 1 => bcmp .ne x y
  | 2 => bcmp .lt x y
  | 3 => bcmp .ge x y
  | 4 => bcmp .gt x y
  | _ => bcmp .le x y
theorem evB_cd (c : ClassFile.Cond) (x y : Int32) : evB (cdi c) x y = bcmp c x y := by cases c <;> rfl
/-- a place of an array set -/
def evS (t : Nat) (c c' : bC) (i : Int32) (v : bV) : Prop := match t with
  | 2 => ∃ xs x, c = .inr (.inr (.inl xs)) ∧ v = .inr (.inl x) ∧ bin i xs.length = true ∧ c' = .inr (.inr (.inl (xs.set i.toNatClampNeg x)))
  | 1 => ∃ xs x, c = .inr (.inl (1, xs)) ∧ v = .inl x ∧ bin i xs.length = true ∧ c' = .inr (.inl (1, xs.set i.toNatClampNeg x))
  | _ => False
def evP (e : sE) (q : sEv) : Prop := match q with
  | (0, s, a, b, _, z) => evI s (ci e a) (ci e b) (ci e z)
  | (1, s, a, b, _, z) => evL s (cl e a) (cl e b) (cl e z)
  | (2, 0, a, _, _, z) => cl e z = (ci e a).toInt64
  | (2, 1, a, _, _, z) => ci e z = -(ci e a)
  | (3, 0, a, _, _, z) => ci e z = (cl e a).toInt32
  | (3, 1, a, _, _, z) => cl e z = -(cl e a)
  | (4, _, a, b, _, z) => ci e z = lg_cmp (cl e a) (cl e b)
  | (5, s, a, b, _, z) => evB s (ci e a) (ci e b) = Nat.beq z.2 1
  | (6, t, a, b, _, z) => bload (ci e b) t (some (e.2.2 a.2)) = some (cv e z)
  | (7, t, a, b, c, z) => evS t (e.2.2 a.2) (e.2.2 z.2) (ci e b) (cv e c)
  | _ => False
def isI (v : sV) : Bool := Nat.beq (v.1 % 4) 0
def isL (v : sV) : Bool := Nat.beq (v.1 % 4) 1
def ev2 (L : List sEv) (k s : Nat) (p : sV → Bool) (st : List sV) : Option (List sV) := match st with
  | y :: x :: r => cond (p x) (cond (p y) (match evf L k s x y (0, 0) with
    | some z => some (z :: r)
    | none => none) none) none
  | _ => none
def ev1 (L : List sEv) (k s : Nat) (p : sV → Bool) (st : List sV) : Option (List sV) := match st with
  | x :: r => cond (p x) (match evf L k s x (0, 0) (0, 0) with
    | some z => some (z :: r)
    | none => none) none
  | _ => none
/-- the stack's top is of a kind -/
def evk (p : sV → Bool) (pc : Nat) (lv : List (Nat × sV)) (w : sW) (x : Option (List sV)) : Option sF := match x with
  | some (z :: r) => cond (p z) (some (pc + 1, lv, z :: r, w)) none
  | _ => none
noncomputable def evld (L : List sEv) (t pc : Nat) (lv : List (Nat × sV)) (st : List sV) (w : sW) : Option sF := match st with
  | i :: a :: r => cond (isI i) (cond (Nat.beq a.1 2) (cond (Nat.blt a.2 w.1) (match tget 10 w.2.2 a.2 with
    | (k, nm, _, _) => cond (Nat.beq k 4) (match evf L 6 t (0, nm) i (0, 0) with
      | some z => some (pc + 1, lv, z :: r, w)
      | none => none) none) none) none) none
  | _ => none
noncomputable def evst (L : List sEv) (t pc : Nat) (lv : List (Nat × sV)) (st : List sV) (w : sW) : Option sF := match st with
  | v :: i :: a :: r => cond (isI i) (cond (Nat.beq a.1 2) (cond (Nat.blt a.2 w.1) (match w with
    | (m, th, T) => match tget 10 T a.2 with
      | (k, nm, _, _) => cond (Nat.beq k 4) (cond (Nat.ble m 1024) (match evf L 7 t (0, nm) i v with
        | some z => some (pc + 1, lv, r, (m, th, tset 10 T a.2 (4, z.2, 0, ⟨0, (0, 0)⟩)))
        | none => none) none) none) none) none) none
  | _ => none
def evj (L : List sEv) (s a pc : Nat) (lv : List (Nat × sV)) (w : sW) (x y : sV) (r : List sV) : Option sF := cond (isI x) (cond (isI y) (match evf L 5 s x y (0, 0) with
  | some z => some (cond (Nat.beq z.2 1) a (pc + 3), lv, r, w)
  | none => none) none) none
noncomputable def evstep (L : List sEv) (o : bO) (pc : Nat) (lv : List (Nat × sV)) (st : List sV) (w : sW) : Option sF := match o.1 with
  | .iadd => evk isI pc lv w (ev2 L 0 0 isI st)
  | .isub => evk isI pc lv w (ev2 L 0 1 isI st)
  | .imul => evk isI pc lv w (ev2 L 0 2 isI st)
  | .ladd => evk isL pc lv w (ev2 L 1 0 isL st)
  | .lsub => evk isL pc lv w (ev2 L 1 1 isL st)
  | .lmul => evk isL pc lv w (ev2 L 1 2 isL st)
  | .ldiv => evk isL pc lv w (ev2 L 1 3 isL st)
  | .lrem => evk isL pc lv w (ev2 L 1 4 isL st)
  | .lxor => evk isL pc lv w (ev2 L 1 5 isL st)
  | .i2l => evk isL pc lv w (ev1 L 2 0 isI st)
  | .ineg => evk isI pc lv w (ev1 L 2 1 isI st)
  | .l2i => evk isI pc lv w (ev1 L 3 0 isL st)
  | .lneg => evk isL pc lv w (ev1 L 3 1 isL st)
  | .lcmp => evk isI pc lv w (ev2 L 4 0 isL st)
  | .ifCond c _ => (match st with
    | x :: r => evj L (cdi c) o.2.2.1 pc lv w x (0, 0) r
    | _ => none)
  | .if_icmp c _ => (match st with
    | y :: x :: r => evj L (cdi c) o.2.2.1 pc lv w x y r
    | _ => none)
  | .iaload => evld L 1 pc lv st w
  | .laload => evld L 2 pc lv st w
  | .iastore => evst L 1 pc lv st w
  | .lastore => evst L 2 pc lv st w
  | _ => none
section EV
variable {scr : List Int32} {e : sE} {L : List sEv} {nL pc : Nat} {lv : List (Nat × sV)} {st : List sV} {w : sW} {q : sF}
theorem isI_ok {v : sV} (h : isI v = true) : cv e v = .inl (ci e v) := cv_i (beq_t h)
theorem isL_ok {v : sV} (h : isL v = true) : cv e v = .inr (.inl (cl e v)) := cv_l (beq_t h)
theorem ev2_inv {k s : Nat} {p p2 : sV → Bool} (h : evk p2 pc lv w (ev2 L k s p st) = some q) : ∃ x y z r, st = y :: x :: r ∧ p x = true ∧ p y = true ∧ p2 z = true ∧ (k, s, x, y, (0, 0), z) ∈ L ∧ q = (pc + 1, lv, z :: r, w) := by
  unfold ev2 at h
  split at h
  · rename_i y x r
    cases g1 : p x with
    | false => rw [g1] at h; cases h
    | true =>
      cases g2 : p y with
      | false => rw [g1, g2] at h; cases h
      | true =>
        rw [g1, g2] at h
        cases g3 : evf L k s x y (0, 0) with
        | none => rw [g3] at h; cases h
        | some z =>
          rw [g3] at h
          obtain ⟨g4, h⟩ := cond_none (show cond (p2 z) (some (pc + 1, lv, z :: r, w)) none = some q from h)
          exact ⟨x, y, z, r, rfl, g1, g2, g4, evf_ok g3, (Option.some.inj h).symm⟩
  · cases h
theorem ev1_inv {k s : Nat} {p p2 : sV → Bool} (h : evk p2 pc lv w (ev1 L k s p st) = some q) : ∃ x z r, st = x :: r ∧ p x = true ∧ p2 z = true ∧ (k, s, x, (0, 0), (0, 0), z) ∈ L ∧ q = (pc + 1, lv, z :: r, w) := by
  unfold ev1 at h
  split at h
  · rename_i x r
    cases g1 : p x with
    | false => rw [g1] at h; cases h
    | true =>
      rw [g1] at h
      cases g3 : evf L k s x (0, 0) (0, 0) with
      | none => rw [g3] at h; cases h
      | some z =>
        rw [g3] at h
        obtain ⟨g4, h⟩ := cond_none (show cond (p2 z) (some (pc + 1, lv, z :: r, w)) none = some q from h)
        exact ⟨x, z, r, rfl, g1, g4, evf_ok g3, (Option.some.inj h).symm⟩
  · cases h
theorem evI2 {o : bO} {s : Nat} {F : Int32 → Int32 → Option Int32} (hE : ∀ q ∈ L, evP e q) (hb : ∀ lv st w, bstep (bE scr) nL o pc lv st w = bi2 pc lv st w F) (hF : ∀ x y z, evI s x y z → F x y = some z) (h : evk isI pc lv w (ev2 L 0 s isI st) = some q) : bstep (bE scr) nL o pc (cvs e lv) (cs e st) (cw e w) = some (cF e q) := by
  obtain ⟨x, y, z, r, rfl, h1, h2, h3, h4, rfl⟩ := ev2_inv h
  have h5 := hE _ h4
  rw [hb]
  show bi2 pc (cvs e lv) (cv e y :: cv e x :: cs e r) (cw e w) F = some (pc + 1, cvs e lv, cv e z :: cs e r, cw e w)
  rw [isI_ok h1, isI_ok h2, isI_ok h3]
  exact bi2_eq (hF _ _ _ h5)
theorem evL2 {o : bO} {s : Nat} {F : Int64 → Int64 → Option bV} (hE : ∀ q ∈ L, evP e q) (hb : ∀ lv st w, bstep (bE scr) nL o pc lv st w = bl2 pc lv st w F) (hF : ∀ x y z, evL s x y z → F x y = some (.inr (.inl z))) (h : evk isL pc lv w (ev2 L 1 s isL st) = some q) : bstep (bE scr) nL o pc (cvs e lv) (cs e st) (cw e w) = some (cF e q) := by
  obtain ⟨x, y, z, r, rfl, h1, h2, h3, h4, rfl⟩ := ev2_inv h
  have h5 := hE _ h4
  rw [hb]
  show bl2 pc (cvs e lv) (cv e y :: cv e x :: cs e r) (cw e w) F = some (pc + 1, cvs e lv, cv e z :: cs e r, cw e w)
  rw [isL_ok h1, isL_ok h2, isL_ok h3]
  exact bl2_eq (hF _ _ _ h5)
theorem evj_ok {c : ClassFile.Cond} {a : Nat} {x y : sV} {r : List sV} (hE : ∀ q ∈ L, evP e q) (h : evj L (cdi c) a pc lv w x y r = some q) : ∃ b, cv e x = .inl (ci e x) ∧ cv e y = .inl (ci e y) ∧ bcmp c (ci e x) (ci e y) = b ∧ q = (cond b a (pc + 3), lv, r, w) := by
  unfold evj at h
  obtain ⟨g1, h⟩ := cond_none h
  obtain ⟨g2, h⟩ := cond_none h
  cases g3 : evf L 5 (cdi c) x y (0, 0) with
  | none => rw [g3] at h; cases h
  | some z =>
    rw [g3] at h
    have h5 : evB (cdi c) (ci e x) (ci e y) = Nat.beq z.2 1 := hE _ (evf_ok g3)
    rw [evB_cd] at h5
    exact ⟨Nat.beq z.2 1, isI_ok g1, isI_ok g2, h5, (Option.some.inj h).symm⟩
theorem evld_ok {o : bO} {t : Nat} (hE : ∀ q ∈ L, evP e q) (hb : ∀ lv st w, bstep (bE scr) nL o pc lv st w = bld (bE scr) pc t lv st w) (h : evld L t pc lv st w = some q) : bstep (bE scr) nL o pc (cvs e lv) (cs e st) (cw e w) = some (cF e q) := by
  unfold evld at h
  split at h
  · rename_i i a r
    obtain ⟨g1, h⟩ := cond_none h
    obtain ⟨g2, h⟩ := cond_none h
    obtain ⟨g3, h⟩ := cond_none h
    split at h
    rename_i k nm n T hT
    obtain ⟨g4, h⟩ := cond_none h
    cases g5 : evf L 6 t (0, nm) i (0, 0) with
    | none => rw [g5] at h; cases h
    | some z =>
      rw [g5] at h
      cases h
      have h5 : bload (ci e i) t (some (e.2.2 nm)) = some (cv e z) := hE _ (evf_ok g5)
      rw [hb]
      show bld (bE scr) pc t (cvs e lv) (cv e i :: cv e a :: cs e r) (cw e w) = some (pc + 1, cvs e lv, cv e z :: cs e r, cw e w)
      rw [isI_ok g1]
      refine bld_eq ?_
      have h6 : barr (bE scr) (cw e w) (cv e a) = some (e.2.2 nm) := by
        rw [cv_r (beq_t g2)]
        show (cw e w).1[a.2]? = _
        rw [cw_get (blt_t g3), hT, cc_4 (beq_t g4)]
      rw [h6]
      exact h5
  · cases h
theorem evst_inv {t : Nat} (hE : ∀ q ∈ L, evP e q) (h : evst L t pc lv st w = some q) : ∃ v i a r nm nm', st = v :: i :: a :: r ∧ cv e i = .inl (ci e i) ∧ cv e a = .inr (.inr (.inl a.2)) ∧ (cw e w).1[a.2]? = some (e.2.2 nm) ∧ evS t (e.2.2 nm) (e.2.2 nm') (ci e i) (cv e v) ∧ q.1 = pc + 1 ∧ q.2.1 = lv ∧ q.2.2.1 = r ∧ cw e q.2.2.2 = ((cw e w).1.set a.2 (e.2.2 nm'), (cw e w).2) := by
  unfold evst at h
  split at h
  · rename_i v i a r
    obtain ⟨g1, h⟩ := cond_none h
    obtain ⟨g2, h⟩ := cond_none h
    obtain ⟨g3, h⟩ := cond_none h
    obtain ⟨m, th, T⟩ := w
    have h : (match tget 10 T a.2 with
      | (k, nm, _, _) => cond (Nat.beq k 4) (cond (Nat.ble m 1024) (match evf L 7 t (0, nm) i v with
        | some z => some ((pc + 1, lv, r, (m, th, tset 10 T a.2 (4, z.2, 0, ⟨0, (0, 0)⟩))) : sF)
        | none => none) none) none) = some q := h
    split at h
    rename_i k nm n u hT
    obtain ⟨g4, h⟩ := cond_none h
    obtain ⟨g5, h⟩ := cond_none h
    cases g6 : evf L 7 t (0, nm) i v with
    | none => rw [g6] at h; cases h
    | some z =>
      rw [g6] at h
      cases h
      have h5 : evS t (e.2.2 nm) (e.2.2 z.2) (ci e i) (cv e v) := hE _ (evf_ok g6)
      refine ⟨v, i, a, r, nm, z.2, rfl, isI_ok g1, cv_r (beq_t g2), ?_, h5, rfl, rfl, rfl, ?_⟩
      · rw [cw_get (blt_t g3), hT, cc_4 (beq_t g4)]
      · show cw e (m, th, tset 10 T a.2 (4, z.2, 0, ⟨0, (0, 0)⟩)) = _
        rw [cw_set (blt_t g3) (ble_t g5)]
        rfl
  · cases h
theorem evstep_ok {o : bO} (hE : ∀ q ∈ L, evP e q) (h : evstep L o pc lv st w = some q) : bstep (bE scr) nL o pc (cvs e lv) (cs e st) (cw e w) = some (cF e q) := by
  obtain ⟨ins, ln, a, b, v⟩ := o
  cases ins with
  | iadd => exact evI2 (s := 0) (F := fun x y => some (x + y)) hE (fun lv st w => rfl) (fun x y z h => by rw [show z = x + y from h]) h
  | isub => exact evI2 (s := 1) (F := fun x y => some (x - y)) hE (fun lv st w => rfl) (fun x y z h => by rw [show z = x - y from h]) h
  | imul => exact evI2 (s := 2) (F := fun x y => some (x * y)) hE (fun lv st w => rfl) (fun x y z h => by rw [show z = x * y from h]) h
  | ladd => exact evL2 (s := 0) (F := fun x y => some (.inr (.inl (x + y)))) hE (fun lv st w => rfl) (fun x y z h => by rw [show z = x + y from h]) h
  | lsub => exact evL2 (s := 1) (F := fun x y => some (.inr (.inl (x - y)))) hE (fun lv st w => rfl) (fun x y z h => by rw [show z = x - y from h]) h
  | lmul => exact evL2 (s := 2) (F := fun x y => some (.inr (.inl (x * y)))) hE (fun lv st w => rfl) (fun x y z h => by rw [show z = x * y from h]) h
  | ldiv => exact evL2 (s := 3) (F := fun x y => if y = 0 then none else some (.inr (.inl (x / y)))) hE (fun lv st w => rfl) (fun x y z h => by rw [if_neg h.1, h.2]) h
  | lrem => exact evL2 (s := 4) (F := fun x y => if y = 0 then none else some (.inr (.inl (x - x / y * y)))) hE (fun lv st w => rfl) (fun x y z h => by rw [if_neg h.1, h.2]) h
  | lxor => exact evL2 (s := 5) (F := fun x y => some (.inr (.inl (x ^^^ y)))) hE (fun lv st w => rfl) (fun x y z h => by rw [show z = x ^^^ y from h]) h
  | i2l =>
    obtain ⟨x, z, r, rfl, h1, h2, h3, rfl⟩ := ev1_inv (show evk isL pc lv w (ev1 L 2 0 isI st) = some q from h)
    have h5 : cl e z = (ci e x).toInt64 := hE _ h3
    show bi1 pc (cvs e lv) (cv e x :: cs e r) (cw e w) (fun x => .inr (.inl x.toInt64)) = some (pc + 1, cvs e lv, cv e z :: cs e r, cw e w)
    rw [isI_ok h1, isL_ok h2, h5]
    rfl
  | ineg =>
    obtain ⟨x, z, r, rfl, h1, h2, h3, rfl⟩ := ev1_inv (show evk isI pc lv w (ev1 L 2 1 isI st) = some q from h)
    have h5 : ci e z = -(ci e x) := hE _ h3
    show bi1 pc (cvs e lv) (cv e x :: cs e r) (cw e w) (fun x => .inl (-x)) = some (pc + 1, cvs e lv, cv e z :: cs e r, cw e w)
    rw [isI_ok h1, isI_ok h2, h5]
    rfl
  | l2i =>
    obtain ⟨x, z, r, rfl, h1, h2, h3, rfl⟩ := ev1_inv (show evk isI pc lv w (ev1 L 3 0 isL st) = some q from h)
    have h5 : ci e z = (cl e x).toInt32 := hE _ h3
    show bl1 pc (cvs e lv) (cv e x :: cs e r) (cw e w) (fun x => .inl x.toInt32) = some (pc + 1, cvs e lv, cv e z :: cs e r, cw e w)
    rw [isL_ok h1, isI_ok h2, h5]
    rfl
  | lneg =>
    obtain ⟨x, z, r, rfl, h1, h2, h3, rfl⟩ := ev1_inv (show evk isL pc lv w (ev1 L 3 1 isL st) = some q from h)
    have h5 : cl e z = -(cl e x) := hE _ h3
    show bl1 pc (cvs e lv) (cv e x :: cs e r) (cw e w) (fun x => .inr (.inl (-x))) = some (pc + 1, cvs e lv, cv e z :: cs e r, cw e w)
    rw [isL_ok h1, isL_ok h2, h5]
    rfl
  | lcmp =>
    obtain ⟨x, y, z, r, rfl, h1, h2, h3, h4, rfl⟩ := ev2_inv (show evk isI pc lv w (ev2 L 4 0 isL st) = some q from h)
    have h5 : ci e z = lg_cmp (cl e x) (cl e y) := hE _ h4
    show bl2 pc (cvs e lv) (cv e y :: cv e x :: cs e r) (cw e w) (fun x y => some (.inl (lg_cmp x y))) = some (pc + 1, cvs e lv, cv e z :: cs e r, cw e w)
    rw [isL_ok h1, isL_ok h2, isI_ok h3, h5]
    rfl
  | ifCond c n =>
    cases st with
    | nil => cases h
    | cons x r =>
      obtain ⟨b', h1, h2, h3, rfl⟩ := evj_ok hE (show evj L (cdi c) a pc lv w x (0, 0) r = some q from h)
      show bjf c pc a (cvs e lv) (cv e x :: cs e r) (cw e w) = some (cond b' a (pc + 3), cvs e lv, cs e r, cw e w)
      rw [h1]
      exact bjf_eq h3
  | if_icmp c n =>
    cases st with
    | nil => cases h
    | cons y r =>
      cases r with
      | nil => cases h
      | cons x r =>
        obtain ⟨b', h1, h2, h3, rfl⟩ := evj_ok hE (show evj L (cdi c) a pc lv w x y r = some q from h)
        show bjc c pc a (cvs e lv) (cv e y :: cv e x :: cs e r) (cw e w) = some (cond b' a (pc + 3), cvs e lv, cs e r, cw e w)
        rw [h1, h2]
        exact bjc_eq h3
  | iaload => exact evld_ok hE (fun lv st w => rfl) h
  | laload => exact evld_ok hE (fun lv st w => rfl) h
  | iastore =>
    obtain ⟨v, i, a, r, nm, nm', rfl, h1, h2, h3, ⟨xs, x, f1, f2, f3, f4⟩, q1, q2, q3, q4⟩ := evst_inv hE (show evst L 1 pc lv st w = some q from h)
    obtain ⟨u1, u2, u3, u4⟩ := q
    have q1 : u1 = pc + 1 := q1
    have q2 : u2 = lv := q2
    have q3 : u3 = r := q3
    subst q1 q2 q3
    show bast pc 1 (cvs e u2) (cv e v :: cv e i :: cv e a :: cs e u3) (cw e w) = some (pc + 1, cvs e u2, cs e u3, cw e u4)
    rw [h1, h2, f2, show cw e u4 = _ from q4, f4]
    exact bast_eq (h3.trans (congrArg some f1)) f3
  | lastore =>
    obtain ⟨v, i, a, r, nm, nm', rfl, h1, h2, h3, ⟨xs, x, f1, f2, f3, f4⟩, q1, q2, q3, q4⟩ := evst_inv hE (show evst L 2 pc lv st w = some q from h)
    obtain ⟨u1, u2, u3, u4⟩ := q
    have q1 : u1 = pc + 1 := q1
    have q2 : u2 = lv := q2
    have q3 : u3 = r := q3
    subst q1 q2 q3
    show blast pc (cvs e u2) (cv e v :: cv e i :: cv e a :: cs e u3) (cw e w) = some (pc + 1, cvs e u2, cs e u3, cw e u4)
    rw [h1, h2, f2, show cw e u4 = _ from q4, f4]
    exact blast_eq (h3.trans (congrArg some f1)) f3
  | _ => cases h
end EV
/-- a body that asks a hook first and the events where the rules know no more -/
noncomputable def sbodyE (hk : sHk) (L : List sEv) (fin : sK → Option sV → sW → Bool) (ih : sG) : sG := fun C d mi pc lv st w fs => match hk C d mi pc lv st w fs with
  | some p => ih C p.1 p.2.1 p.2.2.1 p.2.2.2.1 p.2.2.2.2.1 p.2.2.2.2.2.1 p.2.2.2.2.2.2
  | none => frc pc (fun pc => match sfetch mi pc with
    | some (0, f, _) => (match f C lv st w with
      | some _ => sbody fin ih C d mi pc lv st w fs
      | none => (match bop mi pc with
        | none => false
        | some o => (match evstep L o pc lv st w with
          | some (pc', lv', st', w') => ih C d mi pc' lv' st' w' fs
          | none => sbody fin ih C d mi pc lv st w fs)))
    | _ => sbody fin ih C d mi pc lv st w fs)
noncomputable def sexecE (hk : sHk) (L : List sEv) (fin : sK → Option sV → sW → Bool) (z : sG) (n : Nat) : sG := Nat.rec (motive := fun _ => sG) z (fun _ ih => sbodyE hk L fin ih) n
theorem sexecE_ok {scr : List Int32} {F : bR → bW → Prop} {e : sE} {hk : sHk} {L : List sEv} (hR : sR scr e) (hK : hkOk scr F e hk) (hE : ∀ q ∈ L, evP e q) {fin : sK → Option sV → sW → Bool} {z : sG} (hfin : ∀ C z w, cok e C → fin C z w = true → F (.inl (z.map (cv e))) (cw e w))
    (hz : ∀ C d mi pc lv st w fs, cok e C → z C d mi pc lv st w fs = true → bRun (bPr scr) F d mi pc (cvs e lv) (cs e st) (cw e w) (cfs e fs)) (n : Nat) :
    ∀ C d mi pc lv st w fs, cok e C → sexecE hk L fin z n C d mi pc lv st w fs = true → bRun (bPr scr) F d mi pc (cvs e lv) (cs e st) (cw e w) (cfs e fs) := by
  induction n with
  | zero => exact hz
  | succ n ih =>
    intro C d mi pc lv st w fs hC h
    have h : sbodyE hk L fin (sexecE hk L fin z n) C d mi pc lv st w fs = true := h
    have S := sbody_ok hR hfin ih C d mi pc lv st w fs hC
    unfold sbodyE at h
    split at h
    · rename_i p hp
      exact hK _ _ _ _ _ _ _ _ p hC hp (ih _ _ _ _ _ _ _ _ hC h)
    · rw [frc_eq] at h
      split at h
      · split at h
        · exact S h
        · split at h
          · cases h
          · rename_i o ho
            split at h
            · rename_i pc' lv' st' w' hq
              exact run_step (P := bPr scr) (q := cF e (pc', lv', st', w')) ho (evstep_ok hE hq) (ih _ _ _ _ _ _ _ _ hC h)
            · exact S h
      · exact S h
def hkN : sHk := fun _ _ _ _ _ _ _ _ => none
theorem hkN_ok {scr : List Int32} {F : bR → bW → Prop} {e : sE} : hkOk scr F e hkN := fun _ _ _ _ _ _ _ _ _ _ h => nomatch h
