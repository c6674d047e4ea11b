/-! TYING RUNS: worlds alike, the end, the unknowns of a script. -/
noncomputable def tall3 (d : Nat) : Tr sV d → (d' : Nat) → Tr sV d' → Bool :=
  Nat.rec (motive := fun d => Tr sV d → (d' : Nat) → Tr sV d' → Bool)
    (fun t d' => Nat.rec (motive := fun d' => Tr sV d' → Bool) (fun u => cond (Nat.beq (Prod.fst (α := Nat) (β := Nat) t) (Prod.fst (α := Nat) (β := Nat) u)) (Nat.beq (Prod.snd (α := Nat) (β := Nat) t) (Prod.snd (α := Nat) (β := Nat) u)) false) (fun _ _ _ => false) d')
    (fun d ih t d' => Nat.rec (motive := fun d' => Tr sV d' → Bool) (fun _ => false) (fun d' _ u => Prod.rec (motive := fun _ => Bool) (fun a b => Prod.rec (motive := fun _ => Bool) (fun a' b' => cond (ih a d' a') (ih b d' b') false) u) t) d') d
theorem tall3_z {t : Tr sV 0} {u : Tr sV 0} (h : tall3 0 t 0 u = true) : t = u := by
  have h2 : ∀ a b : sV, cond (Nat.beq a.1 b.1) (Nat.beq a.2 b.2) false = true → a = b := by
    intro a b h
    rcases cond_two h with ⟨g, h⟩ | ⟨-, h⟩
    · exact Prod.ext (beq_t g) (beq_t h)
    · cases h
  exact h2 t u h
theorem tall3_s {d d' : Nat} (a b : Tr sV d) (a' b' : Tr sV d') : tall3 (d + 1) (tpr a b) (d' + 1) (tpr a' b') = cond (tall3 d a d' a') (tall3 d b d' b') false := rfl
theorem tall3_get (d : Nat) : ∀ (t : Tr sV d) (d' : Nat) (u : Tr sV d'), tall3 d t d' u = true → ∀ i, tget d t i = tget d' u i := by
  induction d with
  | zero =>
    intro t d' u h i
    cases d' with
    | zero => exact tall3_z h
    | succ d' => cases h
  | succ d ih =>
    intro t d' u h i
    cases d' with
    | zero => cases h
    | succ d' =>
      obtain ⟨a, b, rfl⟩ := tpr_all t
      obtain ⟨a', b', rfl⟩ := tpr_all u
      rw [tall3_s] at h
      rcases cond_two h with ⟨g, h⟩ | ⟨-, h⟩
      · rw [tget_p, tget_p, ih _ _ _ g, ih _ _ _ h]
      · cases h
theorem tall2_get {α : Type} {f : α → α → Bool} (d : Nat) : ∀ (t u : Tr α d), tall2 f d t u = true → ∀ i, f (tget d t i) (tget d u i) = true := by
  induction d with
  | zero => intro t u h i; exact h
  | succ d ih =>
    intro t u h i
    obtain ⟨a, b, rfl⟩ := tpr_all t
    obtain ⟨a', b', rfl⟩ := tpr_all u
    rw [tall2_p] at h
    rcases cond_two h with ⟨g, h⟩ | ⟨-, h⟩
    · rw [tget_p, tget_p]
      by_cases h2 : i % 2 = 0
      · rw [if_pos h2, if_pos h2]; exact ih _ _ g _
      · rw [if_neg h2, if_neg h2]; exact ih _ _ h _
    · cases h
/-- cells alike; an opaque one is alike to any that the unknowns say -/
noncomputable def ceq (a b : sC_s) : Bool := match a, b with
  | (k, ty, n, ⟨d, t⟩), (k', ty', n', ⟨d', t'⟩) => cond (Nat.beq k k') (cond (Nat.beq ty ty') (cond (Nat.beq n n') (tall3 d t d' t') false) false) false
theorem ceq_ok {e : sE} {a b : sC_s} (h : ceq a b = true) : cc e a = cc e b := by
  obtain ⟨k, ty, n, d, t⟩ := a
  obtain ⟨k', ty', n', d', t'⟩ := b
  have h : cond (Nat.beq k k') (cond (Nat.beq ty ty') (cond (Nat.beq n n') (tall3 d t d' t') false) false) false = true := h
  rcases cond_two h with ⟨g1, h⟩ | ⟨-, h⟩
  · rcases cond_two h with ⟨g2, h⟩ | ⟨-, h⟩
    · rcases cond_two h with ⟨g3, h9⟩ | ⟨-, h⟩
      · have e1 := beq_t g1
        have e2 := beq_t g2
        have e3 := beq_t g3
        subst e1 e2 e3
        have h2 := tall3_get d t d' t' h9
        have h3 : ∀ {β : Type} (f : sV → β), tlst f d n t = tlst f d' n t' := by
          intro β f
          unfold tlst
          congr 1
          funext k
          rw [h2]
        unfold cc
        simp only [h3]
      · cases h
    · cases h
  · cases h
noncomputable def weq (w w' : sW) : Bool := cond (Nat.beq w.1 w'.1) (cond (Nat.beq w.2.1 w'.2.1) (tall2 ceq 10 w.2.2 w'.2.2) false) false
theorem weq_ok {e : sE} {w w' : sW} (h : weq w w' = true) : cw e w = cw e w' := by
  obtain ⟨n, x, T⟩ := w
  obtain ⟨n', x', T'⟩ := w'
  rcases cond_two h with ⟨g1, h⟩ | ⟨-, h⟩
  · rcases cond_two h with ⟨g2, h9⟩ | ⟨-, h⟩
    · have e1 : n = n' := beq_t g1
      have e2 : x = x' := beq_t g2
      subst e1 e2
      have h2 := tall2_get 10 T T' h9
      show (tlst (cc e) 10 n T, x) = (tlst (cc e) 10 n T', x)
      have h3 : tlst (cc e) 10 n T = tlst (cc e) 10 n T' := by
        unfold tlst
        congr 1
        funext k
        exact ceq_ok (h2 k)
      rw [h3]
    · cases h
  · cases h
def veq (a b : sV) : Bool := cond (Nat.beq a.1 b.1) (Nat.beq a.2 b.2) false
theorem veq_ok {a b : sV} (h : veq a b = true) : a = b := by
  rcases cond_two h with ⟨g, h⟩ | ⟨-, h⟩
  · exact Prod.ext (beq_t g) (beq_t h)
  · cases h
def leq (a b : List (Nat × sV)) : Bool := match a, b with
  | [], [] => true
  | p :: s, q :: t => cond (Nat.beq p.1 q.1) (cond (veq p.2 q.2) (leq s t) false) false
  | _, _ => false
theorem leq_ok : ∀ {a b : List (Nat × sV)}, leq a b = true → a = b := by
  intro a
  induction a with
  | nil => intro b h; cases b with
    | nil => rfl
    | cons q t => cases h
  | cons p s ih => intro b h; cases b with
    | nil => cases h
    | cons q t =>
      rcases cond_two h with ⟨g, h⟩ | ⟨-, h⟩
      · rcases cond_two h with ⟨g2, h⟩ | ⟨-, h⟩
        · rw [ih h, show p = q from Prod.ext (beq_t g) (veq_ok g2)]
        · cases h
      · cases h
def seq2 (a b : List sV) : Bool := match a, b with
  | [], [] => true
  | p :: s, q :: t => cond (veq p q) (seq2 s t) false
  | _, _ => false
theorem seq2_ok : ∀ {a b : List sV}, seq2 a b = true → a = b := by
  intro a
  induction a with
  | nil => intro b h; cases b with
    | nil => rfl
    | cons q t => cases h
  | cons p s ih => intro b h; cases b with
    | nil => cases h
    | cons q t =>
      rcases cond_two h with ⟨g, h⟩ | ⟨-, h⟩
      · rw [ih h, veq_ok g]
      · cases h
def feq (a b : List sFr) : Bool := match a, b with
  | [], [] => true
  | p :: s, q :: t => cond (Nat.beq p.1 q.1) (cond (Nat.beq p.2.1 q.2.1) (cond (Nat.beq p.2.2.1 q.2.2.1) (cond (leq p.2.2.2.1 q.2.2.2.1) (cond (seq2 p.2.2.2.2 q.2.2.2.2) (feq s t) false) false) false) false) false
  | _, _ => false
theorem feq_ok : ∀ {a b : List sFr}, feq a b = true → a = b := by
  intro a
  induction a with
  | nil => intro b h; cases b with
    | nil => rfl
    | cons q t => cases h
  | cons p s ih => intro b h; cases b with
    | nil => cases h
    | cons q t =>
      rcases cond_two h with ⟨g1, h⟩ | ⟨-, h⟩
      · rcases cond_two h with ⟨g2, h⟩ | ⟨-, h⟩
        · rcases cond_two h with ⟨g3, h⟩ | ⟨-, h⟩
          · rcases cond_two h with ⟨g4, h⟩ | ⟨-, h⟩
            · rcases cond_two h with ⟨g5, h⟩ | ⟨-, h⟩
              · rw [ih h, show p = q from Prod.ext (beq_t g1) (Prod.ext (beq_t g2) (Prod.ext (beq_t g3) (Prod.ext (leq_ok g4) (seq2_ok g5))))]
              · cases h
            · cases h
          · cases h
        · cases h
      · cases h
/-- a place of a run: depth, method, place, locals, stack, world, frames below -/
abbrev sP_s : Type := Nat × Nat × Nat × List (Nat × sV) × List sV × sW × List sFr
noncomputable def zeq (p : sP_s) : sG := fun _ d mi pc lv st w fs => cond (Nat.beq d p.1) (cond (Nat.beq mi p.2.1) (cond (Nat.beq pc p.2.2.1) (cond (leq lv p.2.2.2.1) (cond (seq2 st p.2.2.2.2.1) (cond (feq fs p.2.2.2.2.2.2) (weq w p.2.2.2.2.2.1) false) false) false) false) false) false
def pRun (scr : List Int32) (F : bR → bW → Prop) (e : sE) (p : sP_s) : Prop := bRun (bPr scr) F p.1 p.2.1 p.2.2.1 (cvs e p.2.2.2.1) (cs e p.2.2.2.2.1) (cw e p.2.2.2.2.2.1) (cfs e p.2.2.2.2.2.2)
theorem zeq_ok {scr : List Int32} {F : bR → bW → Prop} {e : sE} {p : sP_s} (k : pRun scr F e p) : ∀ C d mi pc lv st w fs, cok_s e C → zeq p C d mi pc lv st w fs = true → bRun (bPr scr) F d mi pc (cvs e lv) (cs e st) (cw e w) (cfs e fs) := by
  intro C d mi pc lv st w fs _ h
  obtain ⟨d', mi', pc', lv', st', w', fs'⟩ := p
  rcases cond_two h with ⟨g1, h⟩ | ⟨-, h⟩
  · rcases cond_two h with ⟨g2, h⟩ | ⟨-, h⟩
    · rcases cond_two h with ⟨g3, h⟩ | ⟨-, h⟩
      · rcases cond_two h with ⟨g4, h⟩ | ⟨-, h⟩
        · rcases cond_two h with ⟨g5, h⟩ | ⟨-, h⟩
          · rcases cond_two h with ⟨g6, h9⟩ | ⟨-, h⟩
            · have e1 : d = d' := beq_t g1
              have e2 : mi = mi' := beq_t g2
              have e3 : pc = pc' := beq_t g3
              have e4 : lv = lv' := leq_ok g4
              have e5 : st = st' := seq2_ok g5
              have e6 : fs = fs' := feq_ok g6
              have e7 : cw e w = cw e w' := weq_ok h9
              subst e1 e2 e3 e4 e5 e6
              rw [e7]
              exact k
            · cases h
          · cases h
        · cases h
      · cases h
    · cases h
  · cases h
/-- no end ahead -/
def fnv : sK_s → Option sV → sW → Bool := fun _ _ _ => false
/-- from one place to another -/
theorem p_stage {scr : List Int32} {F : bR → bW → Prop} {e : sE} (hR : sR scr e) {C : sK_s} (hC : cok_s e C) (n : Nat) {p p' : sP_s} (h : sexec fnv (zeq p') n C p.1 p.2.1 p.2.2.1 p.2.2.2.1 p.2.2.2.2.1 p.2.2.2.2.2.1 p.2.2.2.2.2.2 = true) (k : pRun scr F e p') : pRun scr F e p :=
  sexec_ok hR (fun _ _ _ _ h => by cases (show false = true from h)) (zeq_ok k) n _ _ _ _ _ _ _ _ hC h
/-! The end: 1, and the room -/
def pF : bR → bW → Prop := fun q w => q = .inl (some (.inl 1)) ∧ w.1.length + w.2 ≤ 600000 ∧ bsz w.1 + 6 * w.2 ≤ 7000000
noncomputable def ssz (n : Nat) (T : Tr sC_s 10) : Nat := Nat.rec (motive := fun _ => Nat) 0 (fun k s => s + (match tget 10 T k with | (_, _, n, _) => n)) n
noncomputable def snk (n : Nat) (T : Tr sC_s 10) : Bool := Nat.rec (motive := fun _ => Bool) true (fun k s => cond (match tget 10 T k with | (k, _, _, _) => Nat.blt k 4) s false) n
theorem bcs_cc {e : sE} {c : sC_s} (h : c.1 < 4) : bcs (cc e c) = c.2.2.1 := by
  obtain ⟨k, ty, n, d, t⟩ := c
  have h : k < 4 := h
  match k, h with
  | 0, _ => exact tlst_len
  | 1, _ => exact tlst_len
  | 2, _ => exact tlst_len
  | 3, _ => exact tlst_len
theorem ssz_ok {e : sE} {T : Tr sC_s 10} : ∀ n : Nat, snk n T = true → bsz (tlst (cc e) 10 n T) = ssz n T := by
  intro n
  induction n with
  | zero => intro _; rfl
  | succ n ih =>
    intro h
    have h : cond (match tget 10 T n with | (k, _, _, _) => Nat.blt k 4) (snk n T) false = true := h
    rcases cond_two h with ⟨g, h⟩ | ⟨-, h⟩
    · have E : tlst (cc e) 10 (n + 1) T = tlst (cc e) 10 n T ++ [cc e (tget 10 T n)] := by
        unfold tlst
        rw [List.range_succ, List.map_append]
        rfl
      rw [E, bsz_push, ih h, bcs_cc (by exact blt_t g)]
      rfl
    · cases h
noncomputable def pfin : sK_s → Option sV → sW → Bool := fun _ z w => match z with
  | none => false
  | some v => cond (Nat.beq v.1 0) (cond (Nat.beq v.2 1) (match w with
    | (n, x, T) => cond (Nat.ble (n + x) 600000) (cond (snk n T) (Nat.ble (ssz n T + 6 * x) 7000000) false) false) false) false
theorem pfin_ok {e : sE} : ∀ (C : sK_s) (z : Option sV) (w : sW), cok_s e C → pfin C z w = true → pF (.inl (z.map (cv e))) (cw e w) := by
  intro C z w _ h
  cases z with
  | none => cases h
  | some v =>
    obtain ⟨n, x, T⟩ := w
    obtain ⟨a, b⟩ := v
    have h : cond (Nat.beq a 0) (cond (Nat.beq b 1) (cond (Nat.ble (n + x) 600000) (cond (snk n T) (Nat.ble (ssz n T + 6 * x) 7000000) false) false) false) false = true := h
    rcases cond_two h with ⟨g1, h⟩ | ⟨-, h⟩
    · rcases cond_two h with ⟨g2, h⟩ | ⟨-, h⟩
      · rcases cond_two h with ⟨g3, h⟩ | ⟨-, h⟩
        · rcases cond_two h with ⟨g4, h9⟩ | ⟨-, h⟩
          · have e1 := beq_t g1
            have e2 := beq_t g2
            subst e1 e2
            refine ⟨rfl, ?_, ?_⟩
            · show (tlst (cc e) 10 n T).length + x ≤ 600000
              rw [tlst_len]
              exact ble_t g3
            · show bsz (tlst (cc e) 10 n T) + 6 * x ≤ 7000000
              rw [ssz_ok n g4]
              exact ble_t h9
          · cases h
        · cases h
      · cases h
    · cases h
def znv : sG := fun _ _ _ _ _ _ _ _ => false
theorem p_end {scr : List Int32} {e : sE} (hR : sR scr e) {C : sK_s} (hC : cok_s e C) (n : Nat) {p : sP_s} (h : sexec pfin znv n C p.1 p.2.1 p.2.2.1 p.2.2.2.1 p.2.2.2.2.1 p.2.2.2.2.2.1 p.2.2.2.2.2.2 = true) : pRun scr pF e p :=
  sexec_ok hR pfin_ok (fun _ _ _ _ _ _ _ _ _ h => by cases (show false = true from h)) n _ _ _ _ _ _ _ _ hC h
/-! The unknowns of a script -/
def senv (scr : List Int32) : sE :=
  (fun j => if j < 6 then scr.getD j 0 else if j < 12 then ((scr.getD (j - 6) 0).toUInt32 % 65536).toInt32 else if j = 12 then scr.getD 0 0 &&& 63 else Int32.ofNat scr.length,
   fun j => if j = 0 then (scr.getD 2 0).toInt64 <<< ((cI 32).toInt64 &&& 63) else if j = 1 then (scr.getD 3 0).toInt64 &&& cL 4294967295 else ((scr.getD 2 0).toInt64 <<< ((cI 32).toInt64 &&& 63)) ||| ((scr.getD 3 0).toInt64 &&& cL 4294967295),
   fun _ => .inl (0, []))
theorem senv_R {scr : List Int32} (h : scr.length < 2147483648) : sR scr (senv scr) := by
  refine ⟨h, fun j hj => if_pos hj, fun j hj => ?_, rfl, rfl, rfl, rfl, rfl⟩
  show (if j + 6 < 6 then scr.getD (j + 6) 0 else if j + 6 < 12 then ((scr.getD (j + 6 - 6) 0).toUInt32 % 65536).toInt32 else if j + 6 = 12 then scr.getD 0 0 &&& 63 else Int32.ofNat scr.length) = ((if j < 6 then scr.getD j 0 else if j < 12 then ((scr.getD (j - 6) 0).toUInt32 % 65536).toInt32 else if j = 12 then scr.getD 0 0 &&& 63 else Int32.ofNat scr.length).toUInt32 % 65536).toInt32
  rw [if_neg (by omega), if_pos (by omega), if_pos hj, Nat.add_sub_cancel]
theorem bsI_len {n : Nat} (h : n < 2147483648) : bsI (Int32.ofNat n) = n + 9223372036854775808 := by
  have h2 := bsI_i (Int32.ofNat n)
  have h3 : (Int32.ofNat n).toInt = n := Int32.toInt_ofNat_of_lt h
  omega
theorem bsI_char (x : Int32) : 9223372036854775808 ≤ bsI (x.toUInt32 % 65536).toInt32 ∧ bsI (x.toUInt32 % 65536).toInt32 ≤ 9223372036854841343 := by
  have h := cbI_i2c (uI x)
  rw [cbI_u] at h
  rw [h, bsI_c]
  unfold bI
  have h1 : uI x % 4294967296 % 65536 % 4294967296 < 2147483648 := by omega
  rw [blt_ye h1]
  show 9223372036854775808 ≤ uI x % 4294967296 % 65536 % 4294967296 + 9223372036854775808 ∧ uI x % 4294967296 % 65536 % 4294967296 + 9223372036854775808 ≤ 9223372036854841343
  omega
theorem bsI_63 (x : Int32) : 9223372036854775808 ≤ bsI (x &&& 63) ∧ bsI (x &&& 63) ≤ 9223372036854775871 := by
  have h := cbI_and (uI x) 63
  rw [cbI_u] at h
  have h0 : (63 : Int32) = cI 63 := rfl
  rw [h0, h, bsI_c]
  have h2 : (uI x % 4294967296) &&& (63 % 4294967296) ≤ 63 := Nat.and_le_right
  generalize (uI x % 4294967296) &&& (63 % 4294967296) = z at h2 ⊢
  unfold bI
  have h1 : z % 4294967296 < 2147483648 := by omega
  rw [blt_ye h1]
  show 9223372036854775808 ≤ z % 4294967296 + 9223372036854775808 ∧ z % 4294967296 + 9223372036854775808 ≤ 9223372036854775871
  omega
/-- what is known of a script of 6 ints whose first tells the call k -/
def sC6 (k : Nat) : sK_s := [(13, 9223372036854775814, 9223372036854775814), (12, 9223372036854775808 + k, 9223372036854775808 + k), (6, 9223372036854775808, 9223372036854841343), (7, 9223372036854775808, 9223372036854841343), (8, 9223372036854775808, 9223372036854841343), (9, 9223372036854775808, 9223372036854841343), (10, 9223372036854775808, 9223372036854841343), (11, 9223372036854775808, 9223372036854841343)]
theorem sC6_ok {scr : List Int32} (hl : scr.length = 6) {k : Nat} (hk : bsI (scr.getD 0 0 &&& 63) = 9223372036854775808 + k) : cok_s (senv scr) (sC6 k) := by
  unfold sC6
  have hc : ∀ j, j < 6 → 9223372036854775808 ≤ bsI ((senv scr).1 (j + 6)) ∧ bsI ((senv scr).1 (j + 6)) ≤ 9223372036854841343 := by
    intro j hj
    rw [(senv_R (scr := scr) (by omega)).2.2.1 j hj]
    exact bsI_char _
  refine cok_cons (cok_cons (cok_cons (cok_cons (cok_cons (cok_cons (cok_cons (cok_cons cok_nil ?_ ?_) ?_ ?_) ?_ ?_) ?_ ?_) ?_ ?_) ?_ ?_) ?_ ?_) ?_ ?_
  · exact (hc 5 (by decide)).1
  · exact (hc 5 (by decide)).2
  · exact (hc 4 (by decide)).1
  · exact (hc 4 (by decide)).2
  · exact (hc 3 (by decide)).1
  · exact (hc 3 (by decide)).2
  · exact (hc 2 (by decide)).1
  · exact (hc 2 (by decide)).2
  · exact (hc 1 (by decide)).1
  · exact (hc 1 (by decide)).2
  · exact (hc 0 (by decide)).1
  · exact (hc 0 (by decide)).2
  · show _ ≤ bsI (scr.getD 0 0 &&& 63)
    rw [hk]; exact Nat.le_refl _
  · show bsI (scr.getD 0 0 &&& 63) ≤ _
    rw [hk]; exact Nat.le_refl _
  · show _ ≤ bsI (Int32.ofNat scr.length)
    rw [hl, bsI_len (by decide)]; decide
  · show bsI (Int32.ofNat scr.length) ≤ _
    rw [hl, bsI_len (by decide)]; decide
def sC5 : sK_s := [(13, 9223372036854775808, 9223372036854775813)]
theorem sC5_ok {scr : List Int32} (hl : scr.length < 6) : cok_s (senv scr) sC5 := by
  refine cok_cons cok_nil ?_ ?_
  · show _ ≤ bsI (Int32.ofNat scr.length)
    rw [bsI_len (by omega)]; omega
  · show bsI (Int32.ofNat scr.length) ≤ _
    rw [bsI_len (by omega)]; omega
