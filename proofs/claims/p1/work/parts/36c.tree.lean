/-! TREES OF PATHS. Nodes (kind, which, a, b, c, z):
1 long ops (3, 4: c.1 = 0 of a number not below 0, 1 not above 0), 3 (1) lneg: z made;
22 a copy (0 a long, 1 an int) for the end; 23 an int that is known by its bounds, for the end; 4 lcmp, three ways; 30 three ways of longs (0), of ints (1); c: where the second and the third go on, z.1: which ways there are (1, 2, 4);
5 an int branch (.ne) whose z is known; 21 a leaf. -/
abbrev sB : Type := List (Nat × Int × Int)
noncomputable def bgt (B : sB) (j : Nat) : Option (Int × Int) := List.rec (motive := fun _ => Option (Int × Int)) none (fun p _ ih => cond (Nat.beq p.1 j) (some p.2) ih) B
def inB (X : Nat → Int) (B : sB) : Prop := ∀ j p, bgt B j = some p → p.1 ≤ X j ∧ X j ≤ p.2
theorem inB_nil {X : Nat → Int} : inB X [] := fun _ _ h => by cases h
theorem inB_cons {X : Nat → Int} {B : sB} {j : Nat} {lo hi : Int} (h : inB X B) (h1 : lo ≤ X j) (h2 : X j ≤ hi) : inB X ((j, lo, hi) :: B) := by
  intro i p hp
  rcases cond_some (show cond (Nat.beq j i) (some (lo, hi)) (bgt B i) = some p from hp) with ⟨g, rfl⟩ | ⟨-, hp⟩
  · have := beq_t g; subst this; exact ⟨h1, h2⟩
  · exact h i p hp
/-- all that has bounds lies below m -/
noncomputable def blw (m : Nat) (B : sB) : Bool := List.rec (motive := fun _ => Bool) true (fun p _ ih => cond (Nat.blt p.1 m) ih false) B
theorem blw_get {m : Nat} {B : sB} {j : Nat} {p : Int × Int} (h : blw m B = true) (hp : bgt B j = some p) : j < m := by
  induction B with
  | nil => cases hp
  | cons q t ih =>
    rcases cond_two (show cond (Nat.blt q.1 m) (blw m t) false = true from h) with ⟨g, h⟩ | ⟨-, h⟩
    · rcases cond_some (show cond (Nat.beq q.1 j) (some q.2) (bgt t j) = some p from hp) with ⟨g2, -⟩ | ⟨-, hp⟩
      · rw [← beq_t g2]; exact blt_t g
      · exact ih h hp
    · cases h
theorem blw_mo {m n : Nat} {B : sB} (h : blw m B = true) (hmn : m ≤ n) : blw n B = true := by
  induction B with
  | nil => rfl
  | cons q t ih =>
    rcases cond_two (show cond (Nat.blt q.1 m) (blw m t) false = true from h) with ⟨g, h⟩ | ⟨-, h⟩
    · show cond (Nat.blt q.1 n) (blw n t) false = true
      rw [blt_ye (show q.1 < n by have := blt_t g; omega)]
      exact ih h
    · cases h
theorem blw_cons {m j : Nat} {B : sB} {q : Int × Int} (hj : j < m) (h : blw m B = true) : blw m ((j, q) :: B) = true := by
  show cond (Nat.blt j m) (blw m B) false = true
  rw [blt_ye hj]; exact h
noncomputable def bll (B : sB) (v : sV) : Option (Int × Int) := cond (Nat.beq v.1 1) (some (kL v.2, kL v.2)) (bgt B v.2)
noncomputable def bli (B : sB) (v : sV) : Option (Int × Int) := cond (Nat.beq v.1 0) (some (kI v.2, kI v.2)) (bgt B v.2)
theorem bll_ok {X : Nat → Int} {B : sB} {v : sV} {p : Int × Int} (hB : inB X B) (h : bll B v = some p) : p.1 ≤ xl X v ∧ xl X v ≤ p.2 := by
  unfold xl
  rcases cond_some h with ⟨g, rfl⟩ | ⟨g, h⟩
  · rw [g]; exact ⟨Int.le_refl _, Int.le_refl _⟩
  · rw [g]; exact hB _ _ h
theorem bli_ok {X : Nat → Int} {B : sB} {v : sV} {p : Int × Int} (hB : inB X B) (h : bli B v = some p) : p.1 ≤ xi X v ∧ xi X v ≤ p.2 := by
  unfold xi
  rcases cond_some h with ⟨g, rfl⟩ | ⟨g, h⟩
  · rw [g]; exact ⟨Int.le_refl _, Int.le_refl _⟩
  · rw [g]; exact hB _ _ h
def ile (a b : Int) : Bool := decide (a ≤ b)
def ilt (a b : Int) : Bool := decide (a < b)
theorem ile_t {a b : Int} (h : ile a b = true) : a ≤ b := of_decide_eq_true h
theorem ilt_t {a b : Int} (h : ilt a b = true) : a < b := of_decide_eq_true h
def imn (a b : Int) : Int := cond (ile a b) a b
def imx (a b : Int) : Int := cond (ile a b) b a
theorem imn_ge {a b x : Int} (h1 : x ≤ a) (h2 : x ≤ b) : x ≤ imn a b := by
  unfold imn; cases ile a b with
  | true => exact h1
  | false => exact h2
theorem imx_le {a b x : Int} (h1 : a ≤ x) (h2 : b ≤ x) : imx a b ≤ x := by
  unfold imx; cases ile a b with
  | true => exact h2
  | false => exact h1
/-- within what a long can be -/
def irg (p : Int × Int) : Bool := cond (ile (-9223372036854775808) p.1) (ilt p.2 9223372036854775808) false
theorem irg_ok {p : Int × Int} {x : Int} (h : irg p = true) (hx : p.1 ≤ x ∧ x ≤ p.2) : rng x := by
  rcases cond_two h with ⟨g, h⟩ | ⟨-, h⟩
  · have g1 := ile_t g
    have g2 := ilt_t h
    exact ⟨by omega, by omega⟩
  · cases h
/-- what an op makes, and between which bounds -/
def nval (X : Nat → Int) (s : Nat) (a b c : sV) : Int := match s with
  | 0 => xl X a + xl X b
  | 1 => xl X a - xl X b
  | 2 => xl X a * xl X b
  | 3 => qd c.1 (xl X a) (xl X b)
  | 4 => qr c.1 (xl X a) (xl X b)
  | _ => (Int64.ofInt (xl X a) ^^^ Int64.ofInt (xl X b)).toInt
def nbd (s f : Nat) (p q : Int × Int) : Option (Int × Int) := match s with
  | 0 => some (p.1 + q.1, p.2 + q.2)
  | 1 => some (p.1 - q.2, p.2 - q.1)
  | 2 => cond (ile q.2 q.1) (cond (ile 0 q.1) (some (p.1 * q.1, p.2 * q.1)) none) none
  | 3 => cond (irg p) (cond (irg q) (cond (ile q.2 q.1) (cond (ilt 0 q.1) (cond (Nat.beq f 0) (cond (ile 0 p.1) (some (p.1 / q.1, p.2 / q.1)) none) (cond (ile p.2 0) (some (-((-p.1) / q.1), -((-p.2) / q.1))) none)) none) none) none) none
  | 4 => cond (irg p) (cond (irg q) (cond (ile q.2 q.1) (cond (ilt 0 q.1) (cond (Nat.beq f 0) (cond (ile 0 p.1) (some (0, q.1 - 1)) none) (cond (ile p.2 0) (some (1 - q.1, 0)) none)) none) none) none) none
  | _ => cond (irg p) (cond (irg q) (cond (ile 0 q.1) (cond (ile 0 p.1) (some (0, 9223372036854775807)) (cond (ilt p.2 0) (some (-9223372036854775808, -1)) none)) none) none) none
theorem nbd_ok {scr : List Int32} {X : Nat → Int} {m s : Nat} {a b c : sV} {p q r : Int × Int} (ha : okl m a = true) (hb : okl m b = true) (h : nbd s c.1 p q = some r) (hp : p.1 ≤ xl X a ∧ xl X a ≤ p.2) (hq : q.1 ≤ xl X b ∧ xl X b ≤ q.2) :
    (r.1 ≤ nval X s a b c ∧ nval X s a b c ≤ r.2) ∧ evL s (cl (mE scr X) a) (cl (mE scr X) b) (Int64.ofInt (nval X s a b c)) ∨ 5 < s := by
  rw [cl_x ha, cl_x hb]
  unfold nval
  generalize xl X a = x at *
  generalize xl X b = y at *
  match s, h with
  | 0, h =>
    cases h
    exact Or.inl ⟨⟨by show p.1 + q.1 ≤ x + y; omega, by show x + y ≤ p.2 + q.2; omega⟩, Int64.ofInt_add x y⟩
  | 1, h =>
    cases h
    exact Or.inl ⟨⟨by show p.1 - q.2 ≤ x - y; omega, by show x - y ≤ p.2 - q.1; omega⟩, Int64.ofInt_sub x y⟩
  | 2, h =>
    obtain ⟨g1, h⟩ := cond_none h
    obtain ⟨g2, h⟩ := cond_none h
    cases h
    have g1 := ile_t g1
    have g2 := ile_t g2
    have e1 : y = q.1 := by omega
    refine Or.inl ⟨⟨?_, ?_⟩, Int64.ofInt_mul x y⟩
    · show p.1 * q.1 ≤ x * y
      rw [e1]; exact Int.mul_le_mul_of_nonneg_right hp.1 g2
    · show x * y ≤ p.2 * q.1
      rw [e1]; exact Int.mul_le_mul_of_nonneg_right hp.2 g2
  | 3, h =>
    obtain ⟨g1, h⟩ := cond_none h
    obtain ⟨g2, h⟩ := cond_none h
    obtain ⟨g3, h⟩ := cond_none h
    obtain ⟨g4, h⟩ := cond_none h
    have g3 := ile_t g3
    have g4 := ilt_t g4
    have e1 : y = q.1 := by omega
    have r1 := irg_ok g1 hp
    have r2 := irg_ok g2 hq
    cases gf : Nat.beq c.1 0 with
    | true =>
      rw [gf] at h
      obtain ⟨g5, h⟩ := cond_none (show cond (ile 0 p.1) (some (p.1 / q.1, p.2 / q.1)) none = some r from h)
      cases h
      have g5 := ile_t g5
      refine Or.inl ⟨?_, ev_div r1 r2 (by omega) (by unfold qs; rw [gf]; show 0 ≤ x; omega)⟩
      unfold qd
      rw [gf, e1]
      exact ⟨Int.ediv_le_ediv g4 hp.1, Int.ediv_le_ediv g4 hp.2⟩
    | false =>
      rw [gf] at h
      obtain ⟨g5, h⟩ := cond_none (show cond (ile p.2 0) (some (-((-p.1) / q.1), -((-p.2) / q.1))) none = some r from h)
      cases h
      have g5 := ile_t g5
      refine Or.inl ⟨?_, ev_div r1 r2 (by omega) (by unfold qs; rw [gf]; show x ≤ 0; omega)⟩
      unfold qd
      rw [gf, e1]
      exact ⟨Int.neg_le_neg (Int.ediv_le_ediv g4 (Int.neg_le_neg hp.1)), Int.neg_le_neg (Int.ediv_le_ediv g4 (Int.neg_le_neg hp.2))⟩
  | 4, h =>
    obtain ⟨g1, h⟩ := cond_none h
    obtain ⟨g2, h⟩ := cond_none h
    obtain ⟨g3, h⟩ := cond_none h
    obtain ⟨g4, h⟩ := cond_none h
    have g3 := ile_t g3
    have g4 := ilt_t g4
    have e1 : y = q.1 := by omega
    have r1 := irg_ok g1 hp
    have r2 := irg_ok g2 hq
    cases gf : Nat.beq c.1 0 with
    | true =>
      rw [gf] at h
      obtain ⟨g5, h⟩ := cond_none (show cond (ile 0 p.1) (some (0, q.1 - 1)) none = some r from h)
      cases h
      have g5 := ile_t g5
      refine Or.inl ⟨?_, ev_rem r1 r2 (by omega) (by unfold qs; rw [gf]; show 0 ≤ x; omega)⟩
      unfold qr
      rw [gf, e1]
      have h1 := Int.emod_nonneg x (b := q.1) (by omega)
      have h2 := Int.emod_lt_of_pos x g4
      exact ⟨h1, by show x % q.1 ≤ q.1 - 1; omega⟩
    | false =>
      rw [gf] at h
      obtain ⟨g5, h⟩ := cond_none (show cond (ile p.2 0) (some (1 - q.1, 0)) none = some r from h)
      cases h
      have g5 := ile_t g5
      refine Or.inl ⟨?_, ev_rem r1 r2 (by omega) (by unfold qs; rw [gf]; show x ≤ 0; omega)⟩
      unfold qr
      rw [gf, e1]
      have h1 := Int.emod_nonneg (-x) (b := q.1) (by omega)
      have h2 := Int.emod_lt_of_pos (-x) g4
      exact ⟨by show 1 - q.1 ≤ -((-x) % q.1); omega, by show -((-x) % q.1) ≤ 0; omega⟩
  | 5, h =>
    obtain ⟨g1, h⟩ := cond_none h
    obtain ⟨g2, h⟩ := cond_none h
    obtain ⟨g3, h⟩ := cond_none h
    have g3 := ile_t g3
    have r1 := irg_ok g1 hp
    have r2 := irg_ok g2 hq
    have h3 := xor_s r1 r2 (by omega)
    have h4 := Int64.toInt_lt (Int64.ofInt x ^^^ Int64.ofInt y)
    have h5 := Int64.le_toInt (Int64.ofInt x ^^^ Int64.ofInt y)
    refine Or.inl ⟨?_, Int64.ofInt_toInt _⟩
    show r.1 ≤ (Int64.ofInt x ^^^ Int64.ofInt y).toInt ∧ (Int64.ofInt x ^^^ Int64.ofInt y).toInt ≤ r.2
    generalize (Int64.ofInt x ^^^ Int64.ofInt y).toInt = z at *
    rcases cond_some h with ⟨g, rfl⟩ | ⟨-, h⟩
    · have g := ile_t g
      have := h3.1 (by omega)
      exact ⟨this, by show z ≤ 9223372036854775807; omega⟩
    · obtain ⟨g, h⟩ := cond_none h
      cases h
      have g := ilt_t g
      have := h3.2 (by omega)
      exact ⟨by show -9223372036854775808 ≤ z; omega, by show z ≤ -1; omega⟩
  | n + 6, h => exact Or.inr (by omega)
/-! What a tree says: to the reader (exT), of bounds (tchk), what is left to show (wpT). -/
noncomputable def exT (F : Nat → Nat → List sEv → sQ → sQ → Bool) (n : Nat) : List sEv → List sEv → sQ → sQ → Bool :=
  Nat.rec (motive := fun _ => List sEv → List sEv → sQ → sQ → Bool) (fun _ _ _ _ => false) (fun _ ih T L I Q => match T with
    | [] => false
    | (k, s, a, b, c, z) :: t => match k with
      | 1 => ih t ((1, s, a, b, (0, 0), z) :: L) I Q
      | 3 => ih t ((3, 1, a, (0, 0), (0, 0), z) :: L) I Q
      | 22 => cond (Nat.beq s 0) (ih t L I ((a, z) :: Q)) (ih t L ((a, z) :: I) Q)
      | 23 => ih t L ((a, z) :: I) Q
      | 4 => cond (cond (Nat.beq (z.1 % 2) 1) (ih t ((4, 0, a, b, (0, 0), (0, 4294967295)) :: L) I Q) true) (cond (cond (Nat.beq (z.1 / 2 % 2) 1) (ih (t.drop c.1) ((4, 0, a, b, (0, 0), (0, 0)) :: L) I Q) true) (cond (Nat.beq (z.1 / 4) 1) (ih (t.drop c.2) ((4, 0, a, b, (0, 0), (0, 1)) :: L) I Q) true) false) false
      | 30 => cond (cond (Nat.beq (z.1 % 2) 1) (ih t L I Q) true) (cond (cond (Nat.beq (z.1 / 2 % 2) 1) (ih (t.drop c.1) L I Q) true) (cond (Nat.beq (z.1 / 4) 1) (ih (t.drop c.2) L I Q) true) false) false
      | 5 => ih t ((5, 1, a, b, (0, 0), z) :: L) I Q
      | 21 => F s a.1 L I Q
      | _ => false) n
def rfB (B : sB) (v : sV) (lo hi : Int) : sB := cond (Nat.beq v.1 9) ((v.2, lo, hi) :: B) (cond (Nat.beq v.1 4) ((v.2, lo, hi) :: B) B)
def rlt (B : sB) (a b : sV) (p q : Int × Int) : sB := rfB (rfB B a p.1 (imn p.2 (q.2 - 1))) b (imx q.1 (p.1 + 1)) q.2
def req (B : sB) (a b : sV) (p q : Int × Int) : sB := rfB (rfB B a (imx p.1 q.1) (imn p.2 q.2)) b (imx p.1 q.1) (imn p.2 q.2)
/-- three ways -/
noncomputable def t3w (ih : List sEv → sB → Nat → Bool) (t : List sEv) (B : sB) (m : Nat) (a b c z : sV) (p q : Int × Int) : Bool :=
  cond (cond (Nat.beq (z.1 % 2) 1) (ih t (rlt B a b p q) m) (ile q.2 p.1)) (cond (cond (Nat.beq (z.1 / 2 % 2) 1) (ih (t.drop c.1) (req B a b p q) m) (cond (ilt p.2 q.1) true (ilt q.2 p.1))) (cond (Nat.beq (z.1 / 4) 1) (ih (t.drop c.2) (rlt B b a q p) m) (ile p.2 q.1)) false) false
noncomputable def tchk (b' n : Nat) : List sEv → sB → Nat → Bool :=
  Nat.rec (motive := fun _ => List sEv → sB → Nat → Bool) (fun _ _ _ => false) (fun _ ih T B m => match T with
    | [] => false
    | (k, s, a, b, c, z) :: t => match k with
      | 1 => cond (okl m a) (cond (okl m b) (cond (Nat.beq z.1 9) (cond (Nat.ble m z.2) (cond (Nat.ble s 5) (match bll B a with
        | some p => (match bll B b with
          | some q => (match nbd s c.1 p q with
            | some r => ih t ((z.2, r.1, r.2) :: B) (z.2 + 1)
            | none => false)
          | none => false)
        | none => false) false) false) false) false) false
      | 3 => cond (okl m a) (cond (Nat.beq z.1 9) (cond (Nat.ble m z.2) (match bll B a with
        | some p => ih t ((z.2, -p.2, -p.1) :: B) (z.2 + 1)
        | none => false) false) false) false
      | 22 => cond (Nat.beq s 0) (cond (okl m a) (cond (Nat.beq z.1 9) (cond (Nat.ble m z.2) (match bll B a with
        | some p => ih t ((z.2, p.1, p.2) :: B) (z.2 + 1)
        | none => ih t B (z.2 + 1)) false) false) false) (cond (oki m a) (cond (Nat.beq z.1 4) (cond (Nat.ble 14 z.2) (cond (Nat.ble m z.2) (match bli B a with
        | some p => ih t ((z.2, p.1, p.2) :: B) (z.2 + 1)
        | none => ih t B (z.2 + 1)) false) false) false) false)
      | 23 => cond (oki m a) (cond (Nat.beq z.1 0) (match bli B a with
        | some p => cond (ile p.2 (kI z.2)) (cond (ile (kI z.2) p.1) (ih t B m) false) false
        | none => false) false) false
      | 4 => cond (okl m a) (cond (okl m b) (match bll B a with
        | some p => (match bll B b with
          | some q => cond (irg p) (cond (irg q) (t3w ih t B m a b c z p q) false) false
          | none => false)
        | none => false) false) false
      | 30 => cond (Nat.beq s 0) (cond (okl m a) (cond (okl m b) (match bll B a with
        | some p => (match bll B b with
          | some q => t3w ih t B m a b c z p q
          | none => false)
        | none => false) false) false) (cond (oki m a) (cond (oki m b) (match bli B a with
        | some p => (match bli B b with
          | some q => t3w ih t B m a b c z p q
          | none => false)
        | none => false) false) false)
      | 5 => cond (oki m a) (cond (oki m b) (match bli B a with
        | some p => (match bli B b with
          | some q => cond (cond (Nat.beq z.2 1) (cond (ile (-2147483648) p.1) (cond (ile (-2147483648) q.1) (cond (ile p.2 2147483647) (cond (ile q.2 2147483647) (cond (ilt p.2 q.1) true (ilt q.2 p.1)) false) false) false) false) (cond (Nat.beq z.2 0) (cond (ile q.2 p.1) (ile p.2 q.1) false) false)) (ih t B m) false
          | none => false)
        | none => false) false) false
      | 21 => Nat.ble m b'
      | _ => false) n
def w3w (ih : List sEv → Prop) (t : List sEv) (c z : sV) (x y : Int) : Prop := cond (Nat.beq (z.1 % 2) 1) (x < y → ih t) True ∧ cond (Nat.beq (z.1 / 2 % 2) 1) (x = y → ih (t.drop c.1)) True ∧ cond (Nat.beq (z.1 / 4) 1) (y < x → ih (t.drop c.2)) True
noncomputable def wpT (k : Nat → (Nat → Int) → Prop) (n : Nat) : List sEv → (Nat → Int) → Prop :=
  Nat.rec (motive := fun _ => List sEv → (Nat → Int) → Prop) (fun _ _ => True) (fun _ ih T X => match T with
    | [] => True
    | (kd, s, a, b, c, z) :: t => match kd with
      | 1 => ∀ y : Int, y = nval X s a b c → ih t (udX X z.2 y)
      | 3 => ∀ y : Int, y = -(xl X a) → ih t (udX X z.2 y)
      | 22 => cond (Nat.beq s 0) (∀ y : Int, y = xl X a → ih t (udX X z.2 y)) (∀ y : Int, y = xi X a → ih t (udX X z.2 y))
      | 4 => w3w (fun t => ih t X) t c z (xl X a) (xl X b)
      | 30 => cond (Nat.beq s 0) (w3w (fun t => ih t X) t c z (xl X a) (xl X b)) (w3w (fun t => ih t X) t c z (xi X a) (xi X b))
      | 5 => ih t X
      | 23 => ih t X
      | 21 => k s X
      | _ => True) n
/-- held by all unknowns that are alike up to m -/
def evG (scr : List Int32) (m : Nat) (X : Nat → Int) (L : List sEv) : Prop := ∀ q ∈ L, ∀ Y, agr m X Y → evP (mE scr Y) q
def qiG (scr : List Int32) (m : Nat) (X : Nat → Int) (Q : sQ) : Prop := ∀ Y, agr m X Y → qiO (mE scr Y) Q
def qlG (scr : List Int32) (m : Nat) (X : Nat → Int) (Q : sQ) : Prop := ∀ Y, agr m X Y → qlO (mE scr Y) Q
theorem agr_s {m n : Nat} {X Y : Nat → Int} (h : agr n X Y) (hmn : m ≤ n) : agr m X Y := fun j hj => h j (by omega)
theorem inB_ag {X Y : Nat → Int} {B : sB} {m : Nat} (h : inB X B) (hw : blw m B = true) (ha : agr m X Y) : inB Y B := by
  intro j p hp
  rw [← ha j (blw_get hw hp)]
  exact h j p hp
section TREE
variable {scr : List Int32} {X : Nat → Int} {B : sB} {m : Nat} {L : List sEv} {I Q : sQ}
theorem evG_mo {z : Nat} {y : Int} (h : evG scr m X L) (hz : m ≤ z) : evG scr (z + 1) (udX X z y) L := fun q hq Y hY => h q hq Y (agr_t (agr_u hz) (by omega) (agr_s hY (by omega) : agr m _ Y))
theorem qiG_mo {z : Nat} {y : Int} (h : qiG scr m X I) (hz : m ≤ z) : qiG scr (z + 1) (udX X z y) I := fun Y hY => h Y (agr_t (agr_u hz) (by omega) (agr_s hY (by omega) : agr m _ Y))
theorem qlG_mo {z : Nat} {y : Int} (h : qlG scr m X I) (hz : m ≤ z) : qlG scr (z + 1) (udX X z y) I := fun Y hY => h Y (agr_t (agr_u hz) (by omega) (agr_s hY (by omega) : agr m _ Y))
theorem evG_cons {q : sEv} (h : evG scr m X L) (hq : ∀ Y, agr m X Y → evP (mE scr Y) q) : evG scr m X (q :: L) := by
  intro q' hq'
  rcases List.mem_cons.mp hq' with rfl | h2
  · exact hq
  · exact h q' h2
theorem inB_mo {z : Nat} {y lo hi : Int} (h : inB X B) (hw : blw m B = true) (hz : m ≤ z) (h1 : lo ≤ y) (h2 : y ≤ hi) : inB (udX X z y) ((z, lo, hi) :: B) :=
  inB_cons (inB_ag h hw (agr_u hz)) (by rw [udX_s]; exact h1) (by rw [udX_s]; exact h2)
theorem rfl_ok {v : sV} {lo hi : Int} (hv : okl m v = true) (h : inB X B) (h1 : lo ≤ xl X v) (h2 : xl X v ≤ hi) : inB X (rfB B v lo hi) := by
  rcases okl_inv hv with ⟨n, rfl⟩ | ⟨j, rfl, -⟩
  · exact h
  · exact inB_cons h h1 h2
theorem rfi_ok {v : sV} {lo hi : Int} (hv : oki m v = true) (h : inB X B) (h1 : lo ≤ xi X v) (h2 : xi X v ≤ hi) : inB X (rfB B v lo hi) := by
  rcases oki_inv hv with ⟨n, rfl⟩ | ⟨j, rfl, -⟩
  · exact h
  · exact inB_cons h h1 h2
theorem rfl_w {v : sV} {lo hi : Int} (hv : okl m v = true) (h : blw m B = true) : blw m (rfB B v lo hi) = true := by
  rcases okl_inv hv with ⟨n, rfl⟩ | ⟨j, rfl, hj⟩
  · exact h
  · exact blw_cons hj h
theorem rfi_w {v : sV} {lo hi : Int} (hv : oki m v = true) (h : blw m B = true) : blw m (rfB B v lo hi) = true := by
  rcases oki_inv hv with ⟨n, rfl⟩ | ⟨j, rfl, -, hj⟩
  · exact h
  · exact blw_cons hj h
/-- what three ways come to -/
theorem t3w_ok {ih : List sEv → sB → Nat → Bool} {iw : List sEv → Prop} {t : List sEv} {a b c z : sV} {p q : Int × Int} {x y : Int} {G : Prop} (h : t3w ih t B m a b c z p q = true) (hw : w3w iw t c z x y) (hp : p.1 ≤ x ∧ x ≤ p.2) (hq : q.1 ≤ y ∧ y ≤ q.2)
    (h1 : x < y → Nat.beq (z.1 % 2) 1 = true → ih t (rlt B a b p q) m = true → iw t → G) (h2 : x = y → Nat.beq (z.1 / 2 % 2) 1 = true → ih (t.drop c.1) (req B a b p q) m = true → iw (t.drop c.1) → G) (h3 : y < x → Nat.beq (z.1 / 4) 1 = true → ih (t.drop c.2) (rlt B b a q p) m = true → iw (t.drop c.2) → G) : G := by
  obtain ⟨w1, w2, w3⟩ := hw
  rcases cond_two h with ⟨g1, h⟩ | ⟨-, h⟩
  · rcases cond_two h with ⟨g2, g3⟩ | ⟨-, h⟩
    · rcases Int.lt_trichotomy x y with hc | hc | hc
      · rcases cond_two g1 with ⟨u, g⟩ | ⟨-, g⟩
        · rw [u] at w1
          exact h1 hc u g (w1 hc)
        · have := ile_t g
          exfalso; omega
      · rcases cond_two g2 with ⟨u, g⟩ | ⟨-, g⟩
        · rw [u] at w2
          exact h2 hc u g (w2 hc)
        · exfalso
          rcases cond_two g with ⟨g, -⟩ | ⟨-, g⟩
          · have := ilt_t g; omega
          · have := ilt_t g; omega
      · rcases cond_two g3 with ⟨u, g⟩ | ⟨-, g⟩
        · rw [u] at w3
          exact h3 hc u g (w3 hc)
        · have := ile_t g
          exfalso; omega
    · cases h
  · cases h
end TREE
theorem cond_f {b x : Bool} (h : cond b x false = true) : b = true ∧ x = true := by
  cases b with
  | true => exact ⟨rfl, h⟩
  | false => cases h
theorem cond_l {b x y : Bool} (h : cond b x y = true) (hb : b = true) : x = true := by subst hb; exact h
theorem cond_r {b x y : Bool} (h : cond b x y = true) (hb : b = false) : y = true := by subst hb; exact h
theorem cond_lp {b : Bool} {x y : Prop} (h : cond b x y) (hb : b = true) : x := by subst hb; exact h
theorem cond_rp {b : Bool} {x y : Prop} (h : cond b x y) (hb : b = false) : y := by subst hb; exact h
theorem okl_L {m : Nat} {v : sV} (h : okl m v = true) : isL v = true := by
  rcases okl_inv h with ⟨n, rfl⟩ | ⟨j, rfl, -⟩
  · show Nat.beq (1 % 4) 1 = true; decide
  · show Nat.beq (9 % 4) 1 = true; decide
theorem oki_I {m : Nat} {v : sV} (h : oki m v = true) : isI v = true := by
  rcases oki_inv h with ⟨n, rfl⟩ | ⟨j, rfl, -, -⟩
  · show Nat.beq (0 % 4) 0 = true; decide
  · show Nat.beq (4 % 4) 0 = true; decide
/-- whether ints are not the same, by bounds -/
theorem if_ne {x y : Int} {p q : Int × Int} {z : sV} (hp : p.1 ≤ x ∧ x ≤ p.2) (hq : q.1 ≤ y ∧ y ≤ q.2)
    (h : cond (Nat.beq z.2 1) (cond (ile (-2147483648) p.1) (cond (ile (-2147483648) q.1) (cond (ile p.2 2147483647) (cond (ile q.2 2147483647) (cond (ilt p.2 q.1) true (ilt q.2 p.1)) false) false) false) false) (cond (Nat.beq z.2 0) (cond (ile q.2 p.1) (ile p.2 q.1) false) false) = true) :
    bcmp .ne (Int32.ofInt x) (Int32.ofInt y) = Nat.beq z.2 1 := by
  rcases cond_two h with ⟨u, h⟩ | ⟨u, h⟩
  · obtain ⟨g1, h⟩ := cond_f h
    obtain ⟨g2, h⟩ := cond_f h
    obtain ⟨g3, h⟩ := cond_f h
    obtain ⟨g4, h⟩ := cond_f h
    have g1 := ile_t g1
    have g2 := ile_t g2
    have g3 := ile_t g3
    have g4 := ile_t g4
    have hne : ¬ x = y := by
      rcases cond_two h with ⟨g, -⟩ | ⟨-, g⟩
      · have := ilt_t g; omega
      · have := ilt_t g; omega
    rw [u]
    have e1 : (Int32.ofInt x).toInt = x := Int32.toInt_ofInt_of_le (by omega) (by omega)
    have e2 : (Int32.ofInt y).toInt = y := Int32.toInt_ofInt_of_le (by omega) (by omega)
    have h3 : ¬ Int32.ofInt x = Int32.ofInt y := fun hc => hne (by rw [← e1, ← e2, hc])
    exact decide_eq_true h3
  · obtain ⟨-, h⟩ := cond_f h
    obtain ⟨g1, g2⟩ := cond_f h
    have g1 := ile_t g1
    have g2 := ile_t g2
    rw [u, show x = y by omega]
    exact decide_eq_false (fun h => h rfl)
