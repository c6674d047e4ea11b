/-! THE CLASS, without its memory: what its slots may hold, and a logic that forgets the rest. -/
/-- what a slot may hold: 0 numbers from .. to, 1 any long, 2 a reference of this shape that changes, 4 one that never changes -/
def fsp (s i : Nat) : Nat × Int × Int := match s, i with
  | 2, 0 => (4, 10, 0)
  | 2, 1 => (4, 5, 0)
  | 2, 2 => (4, 3, 0)
  | 2, 3 => (4, 3, 0)
  | 2, 4 => (4, 3, 0)
  | 2, 5 => (1, 0, 0)
  | 3, 0 => (1, 0, 0)
  | 3, 1 => (1, 0, 0)
  | 4, 0 => (4, 3, 0)
  | 4, 1 => (4, 3, 0)
  | 5, 0 => (4, 10, 0)
  | 5, 1 => (0, 0, 1)
  | 5, 2 => (0, 0, 1)
  | 5, 3 => (4, 6, 0)
  | 5, 4 => (4, 6, 0)
  | 5, 5 => (4, 6, 0)
  | 5, 6 => (4, 6, 0)
  | 5, 7 => (4, 6, 0)
  | 5, 8 => (4, 6, 0)
  | 5, 9 => (4, 3, 0)
  | 5, 10 => (4, 3, 0)
  | 5, 11 => (4, 3, 0)
  | 5, 12 => (4, 3, 0)
  | 6, 0 => (4, 23, 0)
  | 6, 1 => (4, 24, 0)
  | 7, 0 => (4, 42, 0)
  | 7, 1 => (4, 28, 0)
  | 7, 2 => (4, 43, 0)
  | 7, 3 => (4, 26, 0)
  | 7, 4 => (0, 0, 60)
  | 7, 5 => (0, 0, 1)
  | 7, 6 => (0, 0, 1)
  | 7, 7 => (4, 15, 0)
  | 7, 8 => (0, 0, 60)
  | 7, 9 => (0, -2147483648, 2147483647)
  | 7, 10 => (0, 0, 1)
  | 7, 11 => (0, 0, 1)
  | 8, 0 => (4, 2, 0)
  | 8, 1 => (4, 25, 0)
  | 8, 2 => (0, 0, 128)
  | 8, 3 => (2, 4, 0)
  | 8, 4 => (2, 4, 0)
  | 8, 5 => (4, 26, 0)
  | 8, 6 => (4, 26, 0)
  | 8, 7 => (0, 0, 60)
  | 9, 0 => (4, 29, 0)
  | 9, 1 => (4, 30, 0)
  | 9, 2 => (4, 4, 0)
  | 9, 3 => (0, 0, 8)
  | 10, 0 => (4, 3, 1)
  | 10, 1 => (0, 0, 1)
  | 10, 2 => (4, 3, 1)
  | 10, 3 => (4, 3, 1)
  | 10, 4 => (2, 21, 0)
  | 10, 5 => (2, 21, 0)
  | 10, 6 => (4, 22, 0)
  | 10, 7 => (0, -2147483648, 2147483647)
  | 10, 8 => (0, -2147483648, 2147483647)
  | 10, 9 => (1, 0, 0)
  | 10, 10 => (1, 0, 0)
  | 10, 11 => (1, 0, 0)
  | 10, 12 => (1, 0, 0)
  | 11, 0 => (4, 16, 0)
  | 11, 1 => (4, 17, 0)
  | 11, 2 => (4, 18, 0)
  | 11, 3 => (4, 19, 0)
  | 11, 4 => (4, 20, 0)
  | 11, 5 => (0, 0, 11)
  | 11, 6 => (0, 0, 12)
  | 12, 0 => (4, 15, 0)
  | 12, 1 => (0, 0, 60)
  | 13, 0 => (0, 0, 10)
  | 13, 1 => (4, 12, 0)
  | 13, 2 => (4, 12, 0)
  | 13, 3 => (4, 11, 0)
  | 13, 4 => (4, 8, 0)
  | 13, 5 => (4, 27, 0)
  | 13, 6 => (2, 7, 0)
  | 13, 7 => (4, 9, 0)
  | 13, 8 => (4, 9, 0)
  | 13, 9 => (4, 9, 0)
  | 13, 10 => (4, 9, 0)
  | 13, 11 => (4, 4, 0)
  | 13, 12 => (4, 4, 0)
  | 13, 13 => (4, 4, 0)
  | 13, 14 => (4, 4, 0)
  | 13, 15 => (4, 3, 0)
  | 13, 16 => (4, 3, 0)
  | 15, _ => (0, 0, 65535)
  | 17, _ => (0, 0, 1)
  | 19, _ => (0, 0, 1)
  | 20, _ => (0, 0, 9)
  | 26, _ => (0, -65536, 2147483647)
  | 30, _ => (0, -2147483648, 2147483647)
  | 42, _ => (0, 0, 65535)
  | 43, _ => (0, -65536, 2147483647)
  | 27, 0 => (2, 7, 0)
  | 27, 1 => (2, 7, 0)
  | 27, 2 => (2, 7, 0)
  | 27, 3 => (2, 7, 0)
  | _, _ => (9, 0, 0)
def fsf (a f : Nat) : Nat × Int × Int := match Nat.blt a 14 && Nat.blt f 17 with
  | true => fsp a f
  | false => (9, 0, 0)
/-- a cell of the class of this shape -/
def cl (r s : Nat) : Prop := tsh r = s ∧ r < 664
def cok (s i : Nat) (v : Int) : Prop := match fsp s i with
  | (0, lo, hi) => lo ≤ v ∧ v ≤ hi
  | (2, s', _) => cl v.toNat s'.toNat
  | _ => True
/-- a formula's root is by 2: its acts stand in a cell of shape 42, by what they are two cells on -/
def FA (M : tM) : Prop := ∀ (k : Nat) (i : Int), tsh k = 42 → 0 ≤ i → M k i = 114 → M (k + 2) i = 2
def CI (M : tM) : Prop := (∀ (k : Nat) (i : Int), k < 664 → 0 ≤ i → cok (tsh k) i.toNat (M k i)) ∧ FA M
theorem sh42_all : (List.range 691).all (fun k => !Nat.beq (tshl.getD k 0) 42 || (Nat.beq (tshl.getD (k + 2) 0) 43 && Nat.blt (k + 2) 664)) = true := by decide +kernel
theorem sh42 {k : Nat} (h : tsh k = 42) : tsh (k + 2) = 43 ∧ k + 2 < 664 := by
  rw [tsh_def] at h ⊢
  have hl : tshl.length = 691 := by decide +kernel
  have hk : k < 691 := by
    rcases Nat.lt_or_ge k 691 with q | q
    · exact q
    · rw [List.getD_eq_getElem?_getD, List.getElem?_eq_none (by omega)] at h
      cases h
  have g := List.all_eq_true.mp sh42_all k (List.mem_range.mpr hk)
  rw [h] at g
  have g : (Nat.beq (tshl.getD (k + 2) 0) 43 && Nat.blt (k + 2) 664) = true := g
  rw [Bool.and_eq_true] at g
  exact ⟨Nat.eq_of_beq_eq_true g.1, Nat.le_of_ble_eq_true g.2⟩
theorem FA_same {M M' : tM} (h : FA M) (hs : ∀ (k : Nat) (i : Int), k < 664 → tsh k = 42 ∨ tsh k = 43 → M' k i = M k i) : FA M' := fun k i hk hi q => by
  obtain ⟨g1, g2⟩ := sh42 hk
  rw [hs _ _ g2 (Or.inr g1)]
  rw [hs _ _ (by omega) (Or.inl hk)] at q
  exact h k i hk hi q
/-- what stays: the model, the row of the answer, the digits; with 1, how a slope is followed; with 2, all; with 3, all but bounds; with 6, the bounds that aren't the reckoner's, too -/
def prt (b : Nat) (k : Nat) (i : Int) : Prop := (664 ≤ k ∨ (k = 0 ∧ i = 0) ∨ ((b = 1 ∨ b = 6) ∧ (tsh k = 26 ∨ (tsh k = 8 ∧ i = 7)))) ∨ (2 ≤ b ∧ b ≤ 3 ∧ (b = 3 → tsh k ≠ 3)) ∨ (b = 6 ∧ tsh k = 3 ∧ ¬ (80 ≤ k ∧ k ≤ 82)) ∨ (k = 78 ∧ i = 5)
def pE (b : Nat) (M M' : tM) : Prop := ∀ (k : Nat) (i : Int), prt b k i → M' k i = M k i
theorem pE_refl {b : Nat} {M : tM} : pE b M M := fun _ _ _ => rfl
theorem pE_tr {b : Nat} {M M1 M2 : tM} (h1 : pE b M M1) (h2 : pE b M1 M2) : pE b M M2 := fun k i h => (h2 k i h).trans (h1 k i h)
theorem pE_f {b : Nat} {M M' : tM} (h : pE b M M') : pE 0 M M' := fun k i q => h k i (by
  rcases q with (q | q | q) | q | q | q
  · exact Or.inl (Or.inl q)
  · exact Or.inl (Or.inr (Or.inl q))
  · exact absurd q.1 (by decide)
  · exact absurd q.1 (by decide)
  · exact absurd q.1 (by decide)
  · exact Or.inr (Or.inr (Or.inr q)))
theorem pE_2 {M M' : tM} (h : pE 2 M M') : M' = M := funext (fun k => funext (fun i => h k i (Or.inr (Or.inl ⟨by decide, by decide, fun q => absurd q (by decide)⟩))))
theorem pE_put {b : Nat} {M : tM} {k : Nat} {i v : Int} (h : ¬ prt b k i) : pE b M (tU M k i v) := by
  intro k' i' q
  show (if k' = k ∧ i' = i then v else M k' i') = M k' i'
  exact if_neg (fun e => h (by rw [← e.1, ← e.2]; exact q))
theorem CI_put {M : tM} {k s : Nat} {i v : Int} (hC : CI M) (hk : tsh k = s) (hv : 0 ≤ i → cok s i.toNat v) (hs : s ≠ 42 ∧ s ≠ 43 := by decide) : CI (tU M k i v) := by
  refine ⟨?_, FA_same hC.2 (fun k' i' _ q => ?_)⟩
  · intro k' i' hk' hi'
    show cok (tsh k') i'.toNat (if k' = k ∧ i' = i then v else M k' i')
    by_cases h : k' = k ∧ i' = i
    · rw [if_pos h, h.1, h.2, hk]
      exact hv (by rw [← h.2]; exact hi')
    · rw [if_neg h]
      exact hC.1 k' i' hk' hi'
  · show (if k' = k ∧ i' = i then v else M k' i') = M k' i'
    refine if_neg (fun h => ?_)
    rw [h.1, hk] at q
    rcases q with q | q
    · exact hs.1 q
    · exact hs.2 q
abbrev GL : Type := List (Nat × Nat × Int)
def akd (s : Nat) : Nat := match s with
  | 42 => 0
  | 43 => 1
  | 15 => 0
  | 17 => 3
  | 19 => 3
  | 20 => 1
  | 26 => 1
  | 30 => 1
  | 21 => 2
  | 22 => 2
  | 23 => 2
  | 24 => 2
  | 28 => 2
  | 16 => 4
  | 18 => 4
  | 25 => 4
  | 29 => 4
  | 27 => 5
  | _ => 9
/-- numbers in fields that are known -/
def gE (G : GL) (M : tM) : Prop := match G with
  | [] => True
  | g :: t => (akd (tsh g.1) = 9 ∧ M g.1 ((g.2.1 : Nat) : Int) = g.2.2) ∧ gE t M
def gk (G : GL) (r f : Nat) (x : Int) : Prop := match G with
  | [] => True
  | g :: t => (g.1 = r → g.2.1 = f → x = g.2.2) ∧ gk t r f x
def gd (f : Nat) (G : GL) : GL := match G with
  | [] => []
  | g :: t => if g.2.1 = f then gd f t else g :: gd f t
def sQ (b : Nat) (M0 : tM) (R : tR → Nat → tM → Prop) : tR → tM → Nat → Prop := fun r M' n' => (CI M' ∧ pE b M0 M') ∧ R r n' M'
noncomputable def sT (e : tE) (b : Nat) (M0 : tM) (d mi pc : Nat) (G : GL) (L : tL) (st : List tV) (n : Nat) (R : tR → Nat → tM → Prop) : Prop := ∀ M, CI M → pE b M0 M → gE G M → tT e d mi pc L st M n (sQ b M0 R)
noncomputable def sP (e : tE) (b : Nat) (d a : Nat) (vs : List tV) (n : Nat) (P : tM → Prop) (R : tM → tR → Nat → tM → Prop) : Prop := ∀ M, CI M → P M → tC e d a vs M n (sQ b M (R M))
noncomputable def sC (e : tE) (b : Nat) (d a : Nat) (vs : List tV) (n : Nat) (R : tR → Nat → Prop) : Prop := sP e b d a vs n (fun _ => True) (fun _ r n' _ => R r n')
def LR (x : Int) : Prop := -9223372036854775808 ≤ x ∧ x < 9223372036854775808
def IR (x : Int) : Prop := -2147483648 ≤ x ∧ x < 2147483648
noncomputable def scall (e : tE) (b : Nat) (M0 : tM) (d mi a : Nat) (o : bO) (vs rest : List tV) (G : GL) (L : tL) (n : Nat) (R : tR → Nat → tM → Prop) (k : GL → tL → List tV → Nat → Prop) : Prop :=
  ∃ d', d = d' + 1 ∧ ∃ (b2 : Nat) (P : tM → Prop) (Rc : tM → tR → Nat → tM → Prop), (b2 = b ∨ b2 = 2 ∨ (b = 0 ∧ b2 = 1) ∨ (b < 2 ∧ b2 = 3) ∨ (b < 2 ∧ b2 = 6)) ∧ sP e b2 d' a vs n P Rc ∧ (∀ M, CI M → pE b M0 M → gE G M → P M) ∧ (∀ M M' v n', CI M → pE b M0 M → gE G M → CI M' → pE b2 M M' → Rc M (.inl v) n' M' → ∃ G', gE G' M' ∧ k G' L (v.toList ++ rest) n') ∧ (∀ M M' x n', CI M → gE G M → CI M' → pE b2 M M' → Rc M (.inr x) n' M' → tth mi o = true ∧ R (.inr x) n' M')
def aok (r t : Nat) (i : Int) : Prop := r < 664 ∧ akd (tsh r) = t ∧ (0 ≤ i ∧ i < (tyk (tsh r)).2.2)
def arg (r : Nat) (i x : Int) : Prop := cok (tsh r) i.toNat x
/-- what may be stored to -/
def n26 (r b : Nat) : Prop := (tsh r = 26 → b = 0) ∧ tsh r ≠ 42 ∧ tsh r ≠ 43
/-- a load -/
def sld (t : Nat) (st : List tV) (k : List tV → Prop) : Prop := match st with
  | .inl i :: .inr (.inr (.inl r)) :: rest => aok r t i ∧ ∀ x, arg r i x → (t = 2 → LR x) → k ((if t = 2 then .inr (.inl x) else .inl x) :: rest)
  | .inl i :: .inr (.inr (.inr j)) :: rest => (t = 2 ∧ j = 0 ∧ (0 ≤ i ∧ i < 19) ∧ ∀ x, 0 < x → LR x → k (.inr (.inl x) :: rest)) ∨ (t = 1 ∧ (j = 2 ∨ j = 3) ∧ (0 ≤ i ∧ i < 54) ∧ ∀ x, IR x → k (.inl x :: rest))
  | _ => False
def ssi (b : Nat) (t : Nat) (st : List tV) (k : List tV → Prop) : Prop := match st with
  | .inl x :: .inl i :: .inr (.inr (.inl r)) :: rest => (b < 2 ∨ b = 6) ∧ aok r t i ∧ arg r i x ∧ n26 r b ∧ k rest
  | _ => False
def ssl (b : Nat) (st : List tV) (k : List tV → Prop) : Prop := match st with
  | .inr (.inl _) :: .inl i :: .inr (.inr (.inl r)) :: rest => (b < 2 ∨ b = 6) ∧ aok r 2 i ∧ k rest
  | _ => False
noncomputable def wSI (hv : Bool) (e : tE) (b : Nat) (M0 : tM) (rk d mi pc : Nat) (o : bO) (G : GL) (L : tL) (st : List tV) (n : Nat) (R : tR → Nat → tM → Prop) (k : GL → tL → List tV → Nat → Prop) : Prop := match o with
  | (ins, j, a, f, v) => match ins with
    | .iconst x => k G L (.inl x :: st) n
    | .bipush x => k G L (.inl x :: st) n
    | .sipush x => k G L (.inl x :: st) n
    | .ldc _ => k G L (.inl v :: st) n
    | .lconst x => k G L (.inr (.inl ((x : Nat) : Int)) :: st) n
    | .ldc2_w _ => k G L (.inr (.inl v) :: st) n
    | .iload_n i => (match L[(i : Nat)]? with | some (some (.inl x)) => k G L (.inl x :: st) n | _ => False)
    | .iload i => (match L[i]? with | some (some (.inl x)) => k G L (.inl x :: st) n | _ => False)
    | .lload_n i => (match L[(i : Nat)]? with | some (some (.inr (.inl x))) => k G L (.inr (.inl x) :: st) n | _ => False)
    | .lload i => (match L[i]? with | some (some (.inr (.inl x))) => k G L (.inr (.inl x) :: st) n | _ => False)
    | .aload_n i => (match L[(i : Nat)]? with | some (some (.inr (.inr x))) => k G L (.inr (.inr x) :: st) n | _ => False)
    | .aload i => (match L[i]? with | some (some (.inr (.inr x))) => k G L (.inr (.inr x) :: st) n | _ => False)
    | .istore_n i => (match st with | .inl x :: r => k G (tst1 L i (.inl x)) r n | _ => False)
    | .istore i => (match st with | .inl x :: r => k G (tst1 L i (.inl x)) r n | _ => False)
    | .lstore_n i => (match st with | .inr (.inl x) :: r => k G (tst2 L i (.inr (.inl x))) r n | _ => False)
    | .lstore i => (match st with | .inr (.inl x) :: r => k G (tst2 L i (.inr (.inl x))) r n | _ => False)
    | .astore_n i => (match st with | .inr (.inr (.inl x)) :: r => k G (tst1 L i (.inr (.inr (.inl x)))) r n | _ => False)
    | .astore i => (match st with | .inr (.inr (.inl x)) :: r => k G (tst1 L i (.inr (.inr (.inl x)))) r n | _ => False)
    | .iinc i z => (match L[i]? with | some (some (.inl x)) => k G (tst1 L i (.inl (x + z))) st n | _ => False)
    | .iadd => (match st with | .inl y :: .inl x :: r => (match hv with | false => k G L (.inl (x + y) :: r) n | true => ∀ z, (-2147483648 ≤ z ∧ z < 2147483648) → ((-2147483648 ≤ x + y ∧ x + y < 2147483648) → z = x + y) → k G L (.inl z :: r) n) | _ => False)
    | .isub => (match st with | .inl y :: .inl x :: r => (match hv with | false => k G L (.inl (x - y) :: r) n | true => ∀ z, (-2147483648 ≤ z ∧ z < 2147483648) → ((-2147483648 ≤ x - y ∧ x - y < 2147483648) → z = x - y) → k G L (.inl z :: r) n) | _ => False)
    | .imul => (match st with | .inl y :: .inl x :: r => (match hv with | false => k G L (.inl (x * y) :: r) n | true => ∀ z, (-2147483648 ≤ z ∧ z < 2147483648) → ((-2147483648 ≤ x * y ∧ x * y < 2147483648) → z = x * y) → k G L (.inl z :: r) n) | _ => False)
    | .ineg => (match st with | .inl x :: r => k G L (.inl (-x) :: r) n | _ => False)
    | .ior => (match st with | .inl y :: .inl x :: r => ((x = 0 ∨ x = 1) ∧ (y = 0 ∨ y = 1)) ∧ k G L (.inl (if x = 0 ∧ y = 0 then 0 else 1) :: r) n | _ => False)
    | .iand => (match st with | .inl y :: .inl x :: r => ((x = 0 ∨ x = 1) ∧ (y = 0 ∨ y = 1)) ∧ k G L (.inl (if x = 1 ∧ y = 1 then 1 else 0) :: r) n | _ => False)
    | .idiv => (match st with | .inl y :: .inl x :: r => (0 < y ∧ (-2147483648 ≤ x ∧ x < 2147483648) ∧ y < 2147483648) ∧ ∀ z, (-2147483648 ≤ z ∧ z < 2147483648) → (0 ≤ x → 0 ≤ z ∧ z ≤ x) → k G L (.inl z :: r) n | _ => False)
    | .irem => (match st with | .inl y :: .inl x :: r => (0 < y ∧ (-2147483648 ≤ x ∧ x < 2147483648) ∧ y < 2147483648) ∧ ∀ z, (-y < z ∧ z < y) → (0 ≤ x → 0 ≤ z ∧ z ≤ x) → k G L (.inl z :: r) n | _ => False)
    | .ladd => (match st with | .inr (.inl _) :: .inr (.inl _) :: r => ∀ z, LR z → k G L (.inr (.inl z) :: r) n | _ => False)
    | .lsub => (match st with | .inr (.inl _) :: .inr (.inl _) :: r => ∀ z, LR z → k G L (.inr (.inl z) :: r) n | _ => False)
    | .lmul => (match st with | .inr (.inl _) :: .inr (.inl _) :: r => ∀ z, LR z → k G L (.inr (.inl z) :: r) n | _ => False)
    | .lneg => (match st with | .inr (.inl _) :: r => ∀ z, LR z → k G L (.inr (.inl z) :: r) n | _ => False)
    | .ldiv => (match st with | .inr (.inl y) :: .inr (.inl x) :: r => (y ≠ 0 ∧ LR x ∧ LR y) ∧ ∀ z, LR z → (y = 10000000000 → -922337204 ≤ z ∧ z ≤ 922337204) → k G L (.inr (.inl z) :: r) n | _ => False)
    | .lrem => (match st with | .inr (.inl y) :: .inr (.inl x) :: r => (y ≠ 0 ∧ LR x ∧ LR y) ∧ ∀ z, LR z → k G L (.inr (.inl z) :: r) n | _ => False)
    | .lxor => (match st with | .inr (.inl _) :: .inr (.inl _) :: r => ∀ z, LR z → k G L (.inr (.inl z) :: r) n | _ => False)
    | .lshl => (match st with | .inl y :: .inr (.inl _) :: r => (y = 32 ∨ y = 36) ∧ ∀ z, LR z → k G L (.inr (.inl z) :: r) n | _ => False)
    | .lshr => (match st with | .inl y :: .inr (.inl x) :: r => (y = 37 ∧ LR x) ∧ ∀ z, (-67108864 ≤ z ∧ z < 67108864) → k G L (.inr (.inl z) :: r) n | _ => False)
    | .lcmp => (match st with | .inr (.inl y) :: .inr (.inl x) :: r => (LR x ∧ LR y) ∧ k G L (.inl (tlc x y) :: r) n | _ => False)
    | .l2i => (match st with | .inr (.inl x) :: r => ∀ z, IR z → (IR x → z = x) → k G L (.inl z :: r) n | _ => False)
    | .i2l => (match st with | .inl x :: r => (-2147483648 ≤ x ∧ x < 2147483648) ∧ k G L (.inr (.inl x) :: r) n | _ => False)
    | .i2c => (match st with | .inl x :: r => k G L (.inl (x % 65536) :: r) n | _ => False)
    | .dup => (match st with | .inl x :: r => k G L (.inl x :: .inl x :: r) n | .inr (.inr x) :: r => k G L (.inr (.inr x) :: .inr (.inr x) :: r) n | _ => False)
    | .pop => (match st with | .inl _ :: r => k G L r n | .inr (.inr _) :: r => k G L r n | _ => False)
    | .dup2 => (match st with | .inr (.inl x) :: r => k G L (.inr (.inl x) :: .inr (.inl x) :: r) n | .inl y :: .inr (.inr x) :: r => k G L (.inl y :: .inr (.inr x) :: .inl y :: .inr (.inr x) :: r) n | _ => False)
    | .pop2 => (match st with | .inr (.inl _) :: r => k G L r n | _ => False)
    | .goto _ => sT e b M0 d mi a G L st n R
    | .ifCond cd _ => (match st with | .inl x :: r => (-2147483648 ≤ x ∧ x < 2147483648) ∧ ((tcm cd x 0 → sT e b M0 d mi a G L r n R) ∧ (¬ tcm cd x 0 → k G L r n)) | _ => False)
    | .if_icmp cd _ => (match st with | .inl y :: .inl x :: r => ((-2147483648 ≤ x ∧ x < 2147483648) ∧ (-2147483648 ≤ y ∧ y < 2147483648)) ∧ ((tcm cd x y → sT e b M0 d mi a G L r n R) ∧ (¬ tcm cd x y → k G L r n)) | _ => False)
    | .getfield _ => (match st with
      | .inr (.inr (.inl r)) :: t => cl r a ∧ (match fsf a f with
        | (0, lo, hi) => ∀ x, lo ≤ x → x ≤ hi → gk G r f x → k ((r, f, x) :: G) L (.inl x :: t) n
        | (1, _, _) => ∀ x, LR x → k G L (.inr (.inl x) :: t) n
        | (2, s, _) => ∀ q, cl q s.toNat → k G L (.inr (.inr (.inl q)) :: t) n
        | (4, s, z) => ∀ q, cl q s.toNat → (z = 1 → 80 ≤ q ∧ q ≤ 82) → k G L (.inr (.inr (.inl q)) :: t) n
        | _ => False)
      | _ => False)
    | .putfield _ => (match st with
      | .inl x :: .inr (.inr (.inl r)) :: t => (b < 2 ∨ (b = 3 ∧ a = 3) ∨ (b = 6 ∧ (a = 3 → 80 ≤ r ∧ r ≤ 82))) ∧ cl r a ∧ ((a = 13 → f ≠ 0) ∧ (a = 8 → f = 7 → b = 0)) ∧ (match fsf a f with
        | (0, lo, hi) => (lo ≤ x ∧ x ≤ hi) ∧ k ((r, f, x) :: gd f G) L t n
        | _ => False)
      | .inr (.inl _) :: .inr (.inr (.inl r)) :: t => (b < 2 ∨ (b = 3 ∧ a = 3) ∨ (b = 6 ∧ (a = 3 → 80 ≤ r ∧ r ≤ 82))) ∧ cl r a ∧ (match fsf a f with
        | (1, _, _) => a ≠ 2 ∧ k (gd f G) L t n
        | _ => False)
      | .inr (.inr (.inl q)) :: .inr (.inr (.inl r)) :: t => (b < 2 ∨ (b = 3 ∧ a = 3) ∨ (b = 6 ∧ (a = 3 → 80 ≤ r ∧ r ≤ 82))) ∧ cl r a ∧ (match fsf a f with
        | (2, s, _) => cl q s.toNat ∧ k (gd f G) L t n
        | _ => False)
      | _ => False)
    | .iaload => sld 1 st (fun s => k G L s n)
    | .caload => sld 0 st (fun s => k G L s n)
    | .baload => sld 3 st (fun s => k G L s n)
    | .laload => sld 2 st (fun s => k G L s n)
    | .aaload => (match st with | .inl i :: .inr (.inr (.inl r)) :: rest => ((aok r 4 i ∧ ∀ q, cl q 4 → k G L (.inr (.inr (.inl q)) :: rest) n) ∨ (aok r 5 i ∧ ∀ q, cl q 7 → k G L (.inr (.inr (.inl q)) :: rest) n)) | _ => False)
    | .iastore => ssi b 1 st (fun s => k G L s n)
    | .castore => ssi b 0 st (fun s => k G L s n)
    | .bastore => ssi b 3 st (fun s => k G L s n)
    | .lastore => ssl b st (fun s => k G L s n)
    | .aastore => (match st with | .inr (.inr (.inl x)) :: .inl i :: .inr (.inr (.inl r)) :: rest => b < 2 ∧ cl r 27 ∧ cl x 7 ∧ (0 ≤ i ∧ i < 4) ∧ k G L rest n | _ => False)
    | .arraylength => (match st with | .inr (.inr (.inr j)) :: rest => (j = 2 ∨ j = 3) ∧ k G L (.inl 54 :: rest) n | _ => False)
    | .getstatic _ => k G L (.inr (.inr (.inr a)) :: st) n
    | .new _ => v = 1 ∧ st = [] ∧ ∀ M, CI M → pE b M0 M → gE G M → R (.inr (bexx a).1) (n + 1) M
    | .lookupswitch df ps => (match st with | .inl x :: r => (-2147483648 ≤ x ∧ x < 2147483648) ∧ tsw (fun q => sT e b M0 d mi q G L r n R) pc df ps.toList x | _ => False)
    | .ireturn => (match st with | [.inl x] => trg rk x ∧ ∀ M, CI M → pE b M0 M → gE G M → R (.inl (some (.inl x))) n M | _ => False)
    | .lreturn => (match st with | [.inr (.inl x)] => rk = 1 ∧ ∀ M, CI M → pE b M0 M → gE G M → R (.inl (some (.inr (.inl x)))) n M | _ => False)
    | .areturn => (match st with | [.inr (.inr x)] => rk = 2 ∧ ∀ M, CI M → pE b M0 M → gE G M → R (.inl (some (.inr (.inr x)))) n M | _ => False)
    | .return_ => (match st with | [] => rk = 9 ∧ ∀ M, CI M → pE b M0 M → gE G M → R (.inl none) n M | _ => False)
    | .invokestatic _ => f ≤ st.length ∧ tfr (st.drop f) = true ∧ scall e b M0 d mi a o (st.take f).reverse (st.drop f) G L n R k
    | .invokevirtual _ => (match st.drop f with | .inr (.inr (.inl r)) :: rest => ((tyk (tsh r)).1 = 0 ∧ (tsh r : Int) = v) ∧ tfr rest = true ∧ scall e b M0 d mi a o (.inr (.inr (.inl r)) :: (st.take f).reverse) rest G L n R k | _ => False)
    | _ => False
noncomputable def wS (hv : Bool) (e : tE) (b : Nat) (M0 : tM) (rk d mi pe : Nat) (ops : List (Nat × bO)) (G : GL) (L : tL) (st : List tV) (n : Nat) (R : tR → Nat → tM → Prop) : Prop := match ops with
  | [] => sT e b M0 d mi pe G L st n R
  | (pc, o) :: t => wSI hv e b M0 rk d mi pc o G L st n R (fun G L st n => wS hv e b M0 rk d mi pe t G L st n R)
