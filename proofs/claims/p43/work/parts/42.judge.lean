/-! THE JUDGEMENT: from here the reader comes to an end that Q tells. -/
abbrev tE : Type := List Int32 × (Nat → Nat → List (Nat × bV) → List bV → bW → Option bV)
def bClS (e : tE) (R : bEx) : Prop := bClosed (bPr e.1) R ∧ ∀ (d mi pc : Nat) (lv : List (Nat × bV)) (st : List bV) (w : bW) (v : bV), e.2 mi pc lv st w = some v → R (d + 4) mi pc lv st w (.inl (some v)) w
def bY (e : tE) : bEx := fun d mi pc lv st w r w2 => ∀ R : bEx, bClS e R → R d mi pc lv st w r w2
section YROWS
variable {e : tE} {d mi pc : Nat} {lv : List (Nat × bV)} {st : List bV} {w w1 w2 : bW} {r : bR}
theorem y_step {o : bO} {q : bF} (ho : bop mi pc = some o) (hs : bstep (bE e.1) (bmeth mi).2.2.1 o pc lv st w = some q) (k : bY e d mi q.1 q.2.1 q.2.2.1 q.2.2.2 r w2) : bY e d mi pc lv st w r w2 :=
  fun R hR => hR.1.1 d mi pc lv st w o q r w2 ho hs (k R hR)
theorem y_ret {o : bO} {z : Option bV} (ho : bop mi pc = some o) (hs : bret o (bmeth mi).2.2.2.1 st = some z) : bY e d mi pc lv st w (.inl z) w :=
  fun R hR => hR.1.2.1 d mi pc lv st w o z ho hs
theorem y_call {o : bO} {q : Nat × List bV × List bV} {z : Option bV} (ho : bop mi pc = some o) (hq : bcal o st w = some q) (hl : (q.2.1.map bvc).sum ≤ (bmeth q.1).2.2.1) (h : bY e d q.1 0 (blva 0 q.2.1) [] w (.inl z) w1) (k : bY e (d + 1) mi (pc + 3) lv (z.toList ++ q.2.2) w1 r w2) : bY e (d + 1) mi pc lv st w r w2 :=
  fun R hR => hR.1.2.2.1 d mi pc lv st w o q z w1 r w2 ho hq hl (h R hR) (k R hR)
theorem y_callO {o : bO} {q : Nat × List bV × List bV} {x : String} (ho : bop mi pc = some o) (hq : bcal o st w = some q) (hl : (q.2.1.map bvc).sum ≤ (bmeth q.1).2.2.1) (h : bY e d q.1 0 (blva 0 q.2.1) [] w (.inr x) w1) (hH : (bmeth mi).2.2.2.2 = []) (hn : bnsp o = true) : bY e (d + 1) mi pc lv st w (.inr x) w1 :=
  fun R hR => hR.1.2.2.2.1 d mi pc lv st w o q x w1 ho hq hl (h R hR) hH hn
theorem y_catch {o : bO} {q : Nat × List bV × List bV} {x : String} {hp : Nat} {o2 : bO} {ik : Nat × Nat} (ho : bop mi pc = some o) (hq : bcal o st w = some q) (hl : (q.2.1.map bvc).sum ≤ (bmeth q.1).2.2.1) (h : bY e d q.1 0 (blva 0 q.2.1) [] w (.inr x) w1) (hh : bhand (bmeth mi).2.2.2.2 pc x bcok = some hp) (ho2 : bop mi hp = some o2) (hn : bnsp o = true) (hk : bastk o2.1 = some ik) (hi : ik.1 < (bmeth mi).2.2.1) (k : bY e (d + 1) mi (hp + ik.2) (blvx lv ik.1) [] w1 r w2) : bY e (d + 1) mi pc lv st w r w2 :=
  fun R hR => hR.1.2.2.2.2.1 d mi pc lv st w o q x w1 hp o2 ik r w2 ho hq hl (h R hR) hh ho2 hn hk hi (k R hR)
theorem y_thr {o : bO} {ix : Nat} (ho : bop mi pc = some o) (h1 : o.1 = .new ix) (h2 : o.2.2.2.2 = 1) (h3 : (bmeth mi).2.2.2.2 = []) : bY e d mi pc lv [] w (.inr (bexx o.2.2.1).1) (w.1, w.2 + 1) :=
  fun R hR => hR.1.2.2.2.2.2 d mi pc lv w o ix ho h1 h2 h3
theorem y_sp {v : bV} (h : e.2 mi pc lv st w = some v) : bY e (d + 4) mi pc lv st w (.inl (some v)) w :=
  fun R hR => hR.2 d mi pc lv st w v h
end YROWS
noncomputable def tT (e : tE) (d mi pc : Nat) (L : tL) (st : List tV) (M : tM) (n : Nat) (Q : tR → tM → Nat → Prop) : Prop :=
  e.1.length < 2147483648 → ∃ r M' n', Q r M' n' ∧ ∀ lv, tOk L lv → bY e d mi pc lv (st.map tdn) (two M n) (tdr r) (two M' n')
theorem tT_mono {e : tE} {d mi pc : Nat} {L : tL} {st : List tV} {M : tM} {n : Nat} {Q Q' : tR → tM → Nat → Prop} (h : tT e d mi pc L st M n Q) (hq : ∀ r M' n', Q r M' n' → Q' r M' n') : tT e d mi pc L st M n Q' := by
  intro hscr
  obtain ⟨r, M', n', h1, h2⟩ := h hscr
  exact ⟨r, M', n', hq _ _ _ h1, h2⟩
theorem tT_sub {e : tE} {d mi pc : Nat} {L L' : tL} {st : List tV} {M : tM} {n : Nat} {Q : tR → tM → Nat → Prop} (hs : ∀ (i : Nat) (u : tV), L'[i]? = some (some u) → L[i]? = some (some u)) (h : tT e d mi pc L' st M n Q) : tT e d mi pc L st M n Q := by
  intro hscr
  obtain ⟨r, M', n', h1, h2⟩ := h hscr
  exact ⟨r, M', n', h1, fun lv hl => h2 lv (fun i v hv => hl i v (hs i v hv))⟩
def tpad (k : Nat) : tL := List.replicate k none
theorem tT_pad {e : tE} {d mi pc : Nat} {L : tL} (k : Nat) {st : List tV} {M : tM} {n : Nat} {Q : tR → tM → Nat → Prop} (h : tT e d mi pc (L ++ List.replicate k none) st M n Q) : tT e d mi pc L st M n Q := by
  refine tT_sub (fun i u hu => ?_) h
  rcases Nat.lt_or_ge i L.length with hl | hl
  · rw [List.getElem?_append_left hl] at hu
    exact hu
  · rw [List.getElem?_append_right hl, List.getElem?_replicate] at hu
    split at hu <;> cases hu
/-- which locals are forgotten: for loops -/
def tfg (L : tL) (ks : List Bool) : tL := match L, ks with
  | a :: t, true :: u => a :: tfg t u
  | _ :: t, false :: u => none :: tfg t u
  | _, _ => []
theorem tfg_get : ∀ {L : tL} {ks : List Bool} {i : Nat} {u : tV}, (tfg L ks)[i]? = some (some u) → L[i]? = some (some u) := by
  intro L
  induction L with
  | nil => intro ks i u h; unfold tfg at h; cases h
  | cons a t ih =>
    intro ks i u h
    match ks, i with
    | [], _ => cases h
    | true :: ks, 0 => exact h
    | true :: ks, i + 1 => exact ih (ks := ks) h
    | false :: ks, 0 => cases h
    | false :: ks, i + 1 => exact ih (ks := ks) h
theorem tT_fg {e : tE} {d mi pc : Nat} {L : tL} (ks : List Bool) {st : List tV} {M : tM} {n : Nat} {Q : tR → tM → Nat → Prop} (h : tT e d mi pc (tfg L ks) st M n Q) : tT e d mi pc L st M n Q :=
  tT_sub (fun _ _ hu => tfg_get hu) h
theorem tT_step {e : tE} {d mi pc pc' : Nat} {L L' : tL} {st st' : List tV} {M M' : tM} {n : Nat} {Q : tR → tM → Nat → Prop} {o : bO} (ho : bop mi pc = some o)
    (hs : ∀ lv, tOk L lv → ∃ lv', tOk L' lv' ∧ bstep (bE e.1) (bmeth mi).2.2.1 o pc lv (st.map tdn) (two M n) = some (pc', lv', st'.map tdn, two M' n))
    (k : tT e d mi pc' L' st' M' n Q) : tT e d mi pc L st M n Q := by
  intro hscr
  obtain ⟨r, M2, n2, h1, h2⟩ := k hscr
  refine ⟨r, M2, n2, h1, fun lv hl => ?_⟩
  obtain ⟨lv', h3, h4⟩ := hs lv hl
  exact y_step ho h4 (h2 lv' h3)
/-- the step leaves locals and memory -/
theorem tT_st {e : tE} {d mi pc pc' : Nat} {L : tL} {st st' : List tV} {M : tM} {n : Nat} {Q : tR → tM → Nat → Prop} {o : bO} (ho : bop mi pc = some o)
    (hs : ∀ lv w, bstep (bE e.1) (bmeth mi).2.2.1 o pc lv (st.map tdn) w = some (pc', lv, st'.map tdn, w))
    (k : tT e d mi pc' L st' M n Q) : tT e d mi pc L st M n Q :=
  tT_step ho (fun lv hl => ⟨lv, hl, hs lv _⟩) k
noncomputable def tfit (vs : List tV) (a : Nat) : Bool := decide ((vs.map tcat).sum ≤ (bmeth a).2.2.1)
noncomputable def tC (e : tE) (d a : Nat) (vs : List tV) (M : tM) (n : Nat) (Q : tR → tM → Nat → Prop) : Prop := tfit vs a = true ∧ tT e d a 0 (tla vs) [] M n Q
noncomputable def tth (mi : Nat) (o : bO) : Bool := (match (bmeth mi).2.2.2.2 with | [] => true | _ => false) && bnsp o
noncomputable def tcall (e : tE) (d mi a : Nat) (o : bO) (vs rest : List tV) (L : tL) (M : tM) (n : Nat) (Q : tR → tM → Nat → Prop) (k : tL → List tV → tM → Nat → Prop) : Prop :=
  ∃ d', d = d' + 1 ∧ ∃ Qc : tR → tM → Nat → Prop, tC e d' a vs M n Qc ∧ (∀ v M' n', Qc (.inl v) M' n' → k L (v.toList ++ rest) M' n') ∧ (∀ x M' n', Qc (.inr x) M' n' → tth mi o = true ∧ Q (.inr x) M' n')
theorem map_toList (v : Option tV) (rest : List tV) : (v.map tdn).toList ++ rest.map tdn = (v.toList ++ rest).map tdn := by
  cases v <;> simp
theorem tcat_sum (vs : List tV) : (vs.map tdn).map bvc = vs.map tcat := by
  rw [List.map_map]
  exact List.map_congr_left (fun v _ => tcat_dn v)
theorem tcall_ok {e : tE} {d mi pc a : Nat} {o : bO} {vs rest st : List tV} {L : tL} {M : tM} {n : Nat} {Q : tR → tM → Nat → Prop} {k : tL → List tV → tM → Nat → Prop} (ho : bop mi pc = some o)
    (hq : bcal o (st.map tdn) (two M n) = some (a, vs.map tdn, rest.map tdn)) (h : tcall e d mi a o vs rest L M n Q k) (hk : ∀ L' st' M' n', k L' st' M' n' → tT e d mi (pc + 3) L' st' M' n' Q) : tT e d mi pc L st M n Q := by
  intro hscr
  obtain ⟨d', rfl, Qc, ⟨hf, hT⟩, h3, h4⟩ := h
  obtain ⟨r, M', n', h1, h2⟩ := hT hscr
  have hf : ((vs.map tdn).map bvc).sum ≤ (bmeth a).2.2.1 := by
    rw [tcat_sum]
    exact of_decide_eq_true hf
  have hc := h2 (blva 0 (vs.map tdn)) (fun i v hv => by have := tla_ok vs 0 i v hv; rwa [Nat.zero_add] at this)
  rcases r with v | x
  · obtain ⟨r2, M2, n2, g1, g2⟩ := hk _ _ _ _ (h3 v M' n' h1) hscr
    refine ⟨r2, M2, n2, g1, fun lv hl => ?_⟩
    refine y_call ho hq hf hc ?_
    show bY e (d' + 1) mi (pc + 3) lv ((v.map tdn).toList ++ rest.map tdn) _ _ _
    rw [map_toList]
    exact g2 lv hl
  · obtain ⟨h5, h6⟩ := h4 x M' n' h1
    refine ⟨.inr x, M', n', h6, fun lv hl => ?_⟩
    unfold tth at h5
    rw [Bool.and_eq_true] at h5
    refine y_callO ho hq hf hc ?_ h5.2
    have h7 := h5.1
    split at h7
    · assumption
    · cases h7
/-! What an instruction wants, and what comes behind it. -/
def w32 (x : Int) : Int := (x + 2147483648) % 4294967296 - 2147483648
def w64 (x : Int) : Int := (x + 9223372036854775808) % 18446744073709551616 - 9223372036854775808
def tw (c : Bool) (x : Int) : Int := match c with
  | true => w64 x
  | false => x
def tlc (x y : Int) : Int := if x < y then -1 else if x = y then 0 else 1
def tcm (c : ClassFile.Cond) (x y : Int) : Prop := match c with
  | .eq => x = y
  | .ne => x ≠ y
  | .lt => x < y
  | .ge => y ≤ x
  | .gt => y < x
  | .le => x ≤ y
/-- arrays outside: lengths and elements -/
def txl (e : tE) (j : Nat) : Nat := match j with
  | 0 => 19
  | 1 => e.1.length
  | _ => 54
def txv (e : tE) (j : Nat) (i : Int) : Int := match j with
  | 0 => (bTENS.getD i.toNat 0).toInt
  | 1 => (e.1.getD i.toNat 0).toInt
  | 2 => (bLOGS.getD i.toNat 0).toInt
  | _ => (bARCS.getD i.toNat 0).toInt
/-- a load from an array of kind t (0 char, 1 int, 2 long, 3 boolean) -/
def tld (e : tE) (c : Bool) (t : Nat) (st : List tV) (M : tM) (k : List tV → Prop) : Prop := match st with
  | .inl i :: .inr (.inr (.inl r)) :: rest => (tyk (tsh r)).1 = (if t = 2 then 2 else 1) ∧ (tyk (tsh r)).2.1 = t ∧ (0 ≤ i ∧ i < (tyk (tsh r)).2.2) ∧ k ((if t = 2 then .inr (.inl (tw c (M r i))) else .inl (M r i)) :: rest)
  | .inl i :: .inr (.inr (.inr j)) :: rest => j < 4 ∧ (t = if j = 0 then 2 else 1) ∧ (0 ≤ i ∧ i < txl e j) ∧ k ((if t = 2 then .inr (.inl (txv e j i)) else .inl (txv e j i)) :: rest)
  | _ => False
def tsi (t : Nat) (st : List tV) (M : tM) (k : List tV → tM → Prop) : Prop := match st with
  | .inl x :: .inl i :: .inr (.inr (.inl r)) :: rest => (tyk (tsh r)).1 = 1 ∧ (tyk (tsh r)).2.1 = t ∧ (0 ≤ i ∧ i < (tyk (tsh r)).2.2) ∧ (t ≠ 1 → 0 ≤ x ∧ x ≤ (if t = 0 then 65535 else 1)) ∧ k rest (tU M r i x)
  | _ => False
def tsl (st : List tV) (M : tM) (k : List tV → tM → Prop) : Prop := match st with
  | .inr (.inl x) :: .inl i :: .inr (.inr (.inl r)) :: rest => (tyk (tsh r)).1 = 2 ∧ (0 ≤ i ∧ i < (tyk (tsh r)).2.2) ∧ k rest (tU M r i x)
  | _ => False
def tpk (kd : Nat) (v : tV) : Prop := match kd, v with
  | 0, .inl _ => True
  | 1, .inr (.inl _) => True
  | 2, .inr (.inr (.inl _)) => True
  | 3, .inl x => 0 ≤ x ∧ x ≤ 1
  | 4, .inl x => 0 ≤ x ∧ x ≤ 65535
  | _, _ => False
def tfvc (c : Bool) (kd r : Nat) (x : Int) : tV := match kd with
  | 1 => .inr (.inl (tw c x))
  | 2 => .inr (.inr (.inl r))
  | _ => .inl x
def tfdc (c : Bool) (k a b : Nat) (x : Int) : tV := tfvc c (tfk a b) (tcv a b k x) x
def trg (rk : Nat) (x : Int) : Prop := match rk with
  | 0 => True
  | 3 => 0 ≤ x ∧ x ≤ 1
  | 4 => 0 ≤ x ∧ x ≤ 65535
  | _ => False
def tfr (vs : List tV) : Bool := decide ((vs.map tcat).sum ≤ 8)
def tsw (F : Nat → Prop) (pc : Nat) (d : Int) (ps : List (Int × Int)) (x : Int) : Prop := match ps with
  | [] => F ((pc : Int) + d).toNat
  | q :: t => (x = q.1 → F ((pc : Int) + q.2).toNat) ∧ (x ≠ q.1 → tsw F pc d t x)
noncomputable def wI (e : tE) (c : Bool) (rk d mi pc : Nat) (o : bO) (L : tL) (st : List tV) (M : tM) (n : Nat) (Q : tR → tM → Nat → Prop) (k : tL → List tV → tM → Nat → Prop) : Prop := match o with
  | (ins, j, a, b, v) => match ins with
    | .iconst x => k L (.inl x :: st) M n
    | .bipush x => k L (.inl x :: st) M n
    | .sipush x => k L (.inl x :: st) M n
    | .ldc _ => k L (.inl v :: st) M n
    | .lconst x => k L (.inr (.inl ((x : Nat) : Int)) :: st) M n
    | .ldc2_w _ => k L (.inr (.inl v) :: st) M n
    | .iload_n i => (match L[(i : Nat)]? with | some (some (.inl x)) => k L (.inl x :: st) M n | _ => False)
    | .iload i => (match L[i]? with | some (some (.inl x)) => k L (.inl x :: st) M n | _ => False)
    | .lload_n i => (match L[(i : Nat)]? with | some (some (.inr (.inl x))) => k L (.inr (.inl x) :: st) M n | _ => False)
    | .lload i => (match L[i]? with | some (some (.inr (.inl x))) => k L (.inr (.inl x) :: st) M n | _ => False)
    | .aload_n i => (match L[(i : Nat)]? with | some (some (.inr (.inr x))) => k L (.inr (.inr x) :: st) M n | _ => False)
    | .aload i => (match L[i]? with | some (some (.inr (.inr x))) => k L (.inr (.inr x) :: st) M n | _ => False)
    | .istore_n i => (match st with | .inl x :: r => k (tst1 L i (.inl x)) r M n | _ => False)
    | .istore i => (match st with | .inl x :: r => k (tst1 L i (.inl x)) r M n | _ => False)
    | .lstore_n i => (match st with | .inr (.inl x) :: r => k (tst2 L i (.inr (.inl x))) r M n | _ => False)
    | .lstore i => (match st with | .inr (.inl x) :: r => k (tst2 L i (.inr (.inl x))) r M n | _ => False)
    | .astore_n i => (match st with | .inr (.inr (.inl x)) :: r => k (tst1 L i (.inr (.inr (.inl x)))) r M n | _ => False)
    | .astore i => (match st with | .inr (.inr (.inl x)) :: r => k (tst1 L i (.inr (.inr (.inl x)))) r M n | _ => False)
    | .iinc i z => (match L[i]? with | some (some (.inl x)) => k (tst1 L i (.inl (x + z))) st M n | _ => False)
    | .iadd => (match st with | .inl y :: .inl x :: r => k L (.inl (x + y) :: r) M n | _ => False)
    | .isub => (match st with | .inl y :: .inl x :: r => k L (.inl (x - y) :: r) M n | _ => False)
    | .imul => (match st with | .inl y :: .inl x :: r => k L (.inl (x * y) :: r) M n | _ => False)
    | .ineg => (match st with | .inl x :: r => k L (.inl (-x) :: r) M n | _ => False)
    | .ior => (match st with | .inl y :: .inl x :: r => ((x = 0 ∨ x = 1) ∧ (y = 0 ∨ y = 1)) ∧ k L (.inl (if x = 0 ∧ y = 0 then 0 else 1) :: r) M n | _ => False)
    | .iand => (match st with | .inl y :: .inl x :: r => (((x = 0 ∨ x = 1) ∧ (y = 0 ∨ y = 1)) ∧ k L (.inl (if x = 1 ∧ y = 1 then 1 else 0) :: r) M n) ∨ (y = 63 ∧ k L (.inl (x % 64) :: r) M n) | _ => False)
    | .idiv => (match st with | .inl y :: .inl x :: r => (y ≠ 0 ∧ (-2147483648 ≤ x ∧ x < 2147483648) ∧ (-2147483648 ≤ y ∧ y < 2147483648)) ∧ k L (.inl (x.tdiv y) :: r) M n | _ => False)
    | .irem => (match st with | .inl y :: .inl x :: r => (y ≠ 0 ∧ (-2147483648 ≤ x ∧ x < 2147483648) ∧ (-2147483648 ≤ y ∧ y < 2147483648)) ∧ k L (.inl (x.tmod y) :: r) M n | _ => False)
    | .ladd => (match st with | .inr (.inl y) :: .inr (.inl x) :: r => k L (.inr (.inl (tw c (x + y))) :: r) M n | _ => False)
    | .lsub => (match st with | .inr (.inl y) :: .inr (.inl x) :: r => k L (.inr (.inl (tw c (x - y))) :: r) M n | _ => False)
    | .lmul => (match st with | .inr (.inl y) :: .inr (.inl x) :: r => k L (.inr (.inl (tw c (x * y))) :: r) M n | _ => False)
    | .lneg => (match st with | .inr (.inl x) :: r => k L (.inr (.inl (tw c (-x))) :: r) M n | _ => False)
    | .ldiv => (match st with | .inr (.inl y) :: .inr (.inl x) :: r => (y ≠ 0 ∧ (-9223372036854775808 ≤ x ∧ x < 9223372036854775808) ∧ (-9223372036854775808 ≤ y ∧ y < 9223372036854775808)) ∧ k L (.inr (.inl (tw c (x.tdiv y))) :: r) M n | _ => False)
    | .lrem => (match st with | .inr (.inl y) :: .inr (.inl x) :: r => (y ≠ 0 ∧ (-9223372036854775808 ≤ x ∧ x < 9223372036854775808) ∧ (-9223372036854775808 ≤ y ∧ y < 9223372036854775808)) ∧ k L (.inr (.inl (x.tmod y)) :: r) M n | _ => False)
    | .land => (match st with | .inr (.inl y) :: .inr (.inl x) :: r => k L (.inr (.inl (Int64.toInt (Int64.ofInt x &&& Int64.ofInt y))) :: r) M n | _ => False)
    | .lor => (match st with | .inr (.inl y) :: .inr (.inl x) :: r => k L (.inr (.inl (Int64.toInt (Int64.ofInt x ||| Int64.ofInt y))) :: r) M n | _ => False)
    | .lxor => (match st with | .inr (.inl y) :: .inr (.inl x) :: r => k L (.inr (.inl (Int64.toInt (Int64.ofInt x ^^^ Int64.ofInt y))) :: r) M n | _ => False)
    | .lshl => (match st with | .inl y :: .inr (.inl x) :: r => (y = 32 ∨ y = 36) ∧ k L (.inr (.inl (w64 (x * 2 ^ y.toNat))) :: r) M n | _ => False)
    | .lshr => (match st with | .inl y :: .inr (.inl x) :: r => (y = 37 ∧ (-9223372036854775808 ≤ x ∧ x < 9223372036854775808)) ∧ k L (.inr (.inl (x / 2 ^ y.toNat)) :: r) M n | _ => False)
    | .lcmp => (match st with | .inr (.inl y) :: .inr (.inl x) :: r => ((-9223372036854775808 ≤ x ∧ x < 9223372036854775808) ∧ (-9223372036854775808 ≤ y ∧ y < 9223372036854775808)) ∧ k L (.inl (tlc x y) :: r) M n | _ => False)
    | .l2i => (match st with | .inr (.inl x) :: r => k L (.inl (w32 x) :: r) M n | _ => False)
    | .i2l => (match st with | .inl x :: r => (-2147483648 ≤ x ∧ x < 2147483648) ∧ k L (.inr (.inl x) :: r) M n | _ => False)
    | .i2c => (match st with | .inl x :: r => k L (.inl (x % 65536) :: r) M n | _ => False)
    | .dup => (match st with | .inl x :: r => k L (.inl x :: .inl x :: r) M n | .inr (.inr x) :: r => k L (.inr (.inr x) :: .inr (.inr x) :: r) M n | _ => False)
    | .pop => (match st with | .inl _ :: r => k L r M n | .inr (.inr _) :: r => k L r M n | _ => False)
    | .dup2 => (match st with | .inr (.inl x) :: r => k L (.inr (.inl x) :: .inr (.inl x) :: r) M n | .inl y :: .inr (.inr x) :: r => k L (.inl y :: .inr (.inr x) :: .inl y :: .inr (.inr x) :: r) M n | _ => False)
    | .pop2 => (match st with | .inr (.inl _) :: r => k L r M n | _ => False)
    | .goto _ => tT e d mi a L st M n Q
    | .ifCond cd _ => (match st with | .inl x :: r => (-2147483648 ≤ x ∧ x < 2147483648) ∧ ((tcm cd x 0 → tT e d mi a L r M n Q) ∧ (¬ tcm cd x 0 → k L r M n)) | _ => False)
    | .if_icmp cd _ => (match st with | .inl y :: .inl x :: r => ((-2147483648 ≤ x ∧ x < 2147483648) ∧ (-2147483648 ≤ y ∧ y < 2147483648)) ∧ ((tcm cd x y → tT e d mi a L r M n Q) ∧ (¬ tcm cd x y → k L r M n)) | _ => False)
    | .getfield _ => (match st with | .inr (.inr (.inl r)) :: t => tsh r = a ∧ k L (tfdc c r a b (M r (b : Nat)) :: t) M n | _ => False)
    | .putfield _ => (match st with | u :: .inr (.inr (.inl r)) :: t => tsh r = a ∧ tpk (tfk a b) u ∧ k L t (tU M r (b : Nat) (tnm u)) n | _ => False)
    | .iaload => tld e c 1 st M (fun s => k L s M n)
    | .caload => tld e c 0 st M (fun s => k L s M n)
    | .baload => tld e c 3 st M (fun s => k L s M n)
    | .laload => tld e c 2 st M (fun s => k L s M n)
    | .aaload => (match st with | .inl i :: .inr (.inr (.inl r)) :: rest => (tyk (tsh r)).1 = 3 ∧ (0 ≤ i ∧ i < (tyk (tsh r)).2.2) ∧ k L (.inr (.inr (.inl (tel (tyk (tsh r)).2.1 r i (M r i)))) :: rest) M n | _ => False)
    | .iastore => tsi 1 st M (fun s M' => k L s M' n)
    | .castore => tsi 0 st M (fun s M' => k L s M' n)
    | .bastore => tsi 3 st M (fun s M' => k L s M' n)
    | .lastore => tsl st M (fun s M' => k L s M' n)
    | .aastore => (match st with | .inr (.inr (.inl x)) :: .inl i :: .inr (.inr (.inl r)) :: rest => tsh r = 27 ∧ tsh x = 7 ∧ (0 ≤ i ∧ i < 4) ∧ k L rest (tU M r i (x : Nat)) n | _ => False)
    | .arraylength => (match st with | .inr (.inr (.inl r)) :: rest => ((tyk (tsh r)).1 = 1 ∨ (tyk (tsh r)).1 = 2) ∧ k L (.inl ((tyk (tsh r)).2.2 : Nat) :: rest) M n | .inr (.inr (.inr j)) :: rest => j < 4 ∧ k L (.inl ((txl e j : Nat) : Int) :: rest) M n | _ => False)
    | .getstatic _ => k L (.inr (.inr (.inr a)) :: st) M n
    | .new _ => v = 1 ∧ st = [] ∧ Q (.inr (bexx a).1) M (n + 1)
    | .lookupswitch df ps => (match st with | .inl x :: r => (-2147483648 ≤ x ∧ x < 2147483648) ∧ tsw (fun q => tT e d mi q L r M n Q) pc df ps.toList x | _ => False)
    | .ireturn => (match st with | [.inl x] => trg rk x ∧ Q (.inl (some (.inl x))) M n | _ => False)
    | .lreturn => (match st with | [.inr (.inl x)] => rk = 1 ∧ Q (.inl (some (.inr (.inl x)))) M n | _ => False)
    | .areturn => (match st with | [.inr (.inr x)] => rk = 2 ∧ Q (.inl (some (.inr (.inr x)))) M n | _ => False)
    | .return_ => (match st with | [] => rk = 9 ∧ Q (.inl none) M n | _ => False)
    | .invokestatic _ => b ≤ st.length ∧ tfr (st.drop b) = true ∧ tcall e d mi a o (st.take b).reverse (st.drop b) L M n Q k
    | .invokevirtual _ => (match st.drop b with | .inr (.inr (.inl r)) :: rest => ((tyk (tsh r)).1 = 0 ∧ (tsh r : Int) = v) ∧ tfr rest = true ∧ tcall e d mi a o (.inr (.inr (.inl r)) :: (st.take b).reverse) rest L M n Q k | _ => False)
    | _ => False
