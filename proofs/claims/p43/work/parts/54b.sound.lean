/-! The logic without memory is sound. -/
def gok (a f : Nat) : Bool := match fsp a f with
  | (0, lo, hi) => Nat.beq (tfk a f) 0 || (Nat.beq (tfk a f) 3 && (decide (lo = 0) && decide (hi = 1)))
  | (1, _, _) => Nat.beq (tfk a f) 1
  | (2, _, _) => Nat.beq (tfk a f) 2 && !tcn a f
  | (4, _, _) => Nat.beq (tfk a f) 2 && tcn a f
  | _ => true
theorem gok_all : ((List.range 14).all fun a => (List.range 17).all fun f => gok a f) = true := by decide +kernel
theorem gok_of {a f : Nat} (ha : a < 14) (hf : f < 17) : gok a f = true := by
  have h := List.all_eq_true.mp gok_all a (List.mem_range.mpr ha)
  exact List.all_eq_true.mp h f (List.mem_range.mpr hf)
def cstk (k s : Nat) : Bool := (List.range 17).all fun f => match fsp s f with
  | (4, s', z) => (Nat.beq (tshl.getD (tcf s f k) 0) s'.toNat && Nat.blt (tcf s f k) 664) && (!decide (z = 1) || (Nat.ble 80 (tcf s f k) && Nat.ble (tcf s f k) 82))
  | _ => true
def cstl (k : Nat) (l : List Nat) : Bool := match l with
  | [] => true
  | s :: t => (Nat.ble 664 k || (Nat.ble 14 s || cstk k s)) && cstl (k + 1) t
theorem cstl_all : cstl 0 tshl = true := by decide +kernel
theorem cstl_at {l : List Nat} : ∀ {k j : Nat}, cstl k l = true → j < l.length → k + j < 664 → l.getD j 0 < 14 → cstk (k + j) (l.getD j 0) = true := by
  induction l with
  | nil => intro k j _ h; exact absurd h (Nat.not_lt_zero _)
  | cons s t ih =>
    intro k j h hj hk hs
    unfold cstl at h
    rw [Bool.and_eq_true] at h
    match j with
    | 0 =>
      have h1 := h.1
      have hs : s < 14 := hs
      rw [Bool.or_eq_true, Bool.or_eq_true] at h1
      rcases h1 with h1 | h1 | h1
      · have := Nat.le_of_ble_eq_true h1; omega
      · have := Nat.le_of_ble_eq_true h1; omega
      · exact h1
    | j + 1 =>
      have := ih (k := k + 1) (j := j) h.2 (Nat.lt_of_succ_lt_succ hj) (by omega) hs
      rw [show k + 1 + j = k + (j + 1) by omega] at this
      exact this
theorem cst_of {r a f : Nat} {s z : Int} (h : cl r a) (ha : a < 14) (hf : f < 17) (hq : fsp a f = (4, s, z)) : cl (tcf a f r) s.toNat ∧ (z = 1 → 80 ≤ tcf a f r ∧ tcf a f r ≤ 82) := by
  obtain ⟨h1, h2⟩ := h
  rw [tsh_def] at h1
  have hl : tshl.length = 691 := by decide +kernel
  have g := cstl_at (k := 0) (j := r) cstl_all (by omega) (by omega) (by omega)
  rw [h1] at g
  have g2 := List.all_eq_true.mp g f (List.mem_range.mpr hf)
  rw [hq] at g2
  have g2 : ((Nat.beq (tshl.getD (tcf a f (0 + r)) 0) s.toNat && Nat.blt (tcf a f (0 + r)) 664) && (!decide (z = 1) || (Nat.ble 80 (tcf a f (0 + r)) && Nat.ble (tcf a f (0 + r)) 82))) = true := g2
  rw [Bool.and_eq_true, Bool.and_eq_true, Nat.zero_add] at g2
  obtain ⟨⟨g2, g3⟩, g4⟩ := g2
  refine ⟨⟨?_, Nat.le_of_ble_eq_true g3⟩, fun hz => ?_⟩
  · rw [tsh_def]
    exact Nat.eq_of_beq_eq_true g2
  · rw [decide_eq_true hz] at g4
    have g4 : (Nat.ble 80 (tcf a f r) && Nat.ble (tcf a f r) 82) = true := g4
    rw [Bool.and_eq_true] at g4
    exact ⟨Nat.le_of_ble_eq_true g4.1, Nat.le_of_ble_eq_true g4.2⟩
def cqk (k s : Nat) : Bool := match akd s with
  | 4 => (List.range (tyk s).2.2).all fun i => Nat.beq (tshl.getD (k + tqo k + 3 * i) 0) 4 && Nat.blt (k + tqo k + 3 * i) 664
  | _ => true
def cql (k : Nat) (l : List Nat) : Bool := match l with
  | [] => true
  | s :: t => (Nat.ble 664 k || cqk k s) && cql (k + 1) t
theorem cql_all : cql 0 tshl = true := by decide +kernel
theorem cql_at {l : List Nat} : ∀ {k j : Nat}, cql k l = true → j < l.length → k + j < 664 → cqk (k + j) (l.getD j 0) = true := by
  induction l with
  | nil => intro k j _ h; exact absurd h (Nat.not_lt_zero _)
  | cons s t ih =>
    intro k j h hj hk
    unfold cql at h
    rw [Bool.and_eq_true] at h
    match j with
    | 0 =>
      have h1 := h.1
      rw [Bool.or_eq_true] at h1
      rcases h1 with h1 | h1
      · have := Nat.le_of_ble_eq_true h1; omega
      · exact h1
    | j + 1 =>
      have := ih (k := k + 1) (j := j) h.2 (Nat.lt_of_succ_lt_succ hj) (by omega)
      rw [show k + 1 + j = k + (j + 1) by omega] at this
      exact this
theorem akd_4 {s : Nat} (h : akd s = 4) : (tyk s).1 = 3 ∧ (tyk s).2.1 = 4 := by
  unfold akd at h
  split at h <;> first | (cases h; done) | exact ⟨rfl, rfl⟩
theorem akd_5 {s : Nat} (h : akd s = 5) : s = 27 := by
  unfold akd at h
  split at h <;> first | (cases h; done) | rfl
theorem akd_2 {s : Nat} (h : akd s = 2) : (tyk s).1 = 2 ∧ (tyk s).2.1 = 2 ∧ (s = 21 ∨ s = 22 ∨ s = 23 ∨ s = 24 ∨ s = 28) := by
  unfold akd at h
  split at h <;> first | (cases h; done) | exact ⟨rfl, rfl, by decide⟩
theorem akd_0 {s : Nat} (h : akd s = 0) : (tyk s).1 = 1 ∧ (tyk s).2.1 = 0 ∧ (s = 15 ∨ s = 42) := by
  unfold akd at h
  split at h <;> first | (cases h; done) | exact ⟨rfl, rfl, by decide⟩
theorem akd_1 {s : Nat} (h : akd s = 1) : (tyk s).1 = 1 ∧ (tyk s).2.1 = 1 ∧ (s = 20 ∨ s = 26 ∨ s = 30 ∨ s = 43) := by
  unfold akd at h
  split at h <;> first | (cases h; done) | exact ⟨rfl, rfl, by decide⟩
theorem akd_3 {s : Nat} (h : akd s = 3) : (tyk s).1 = 1 ∧ (tyk s).2.1 = 3 ∧ (s = 17 ∨ s = 19) := by
  unfold akd at h
  split at h <;> first | (cases h; done) | exact ⟨rfl, rfl, by decide⟩
theorem cq_of {r : Nat} {i : Int} (h : aok r 4 i) : cl (r + tqo r + 3 * i.toNat) 4 := by
  obtain ⟨h1, h2, h3, h4⟩ := h
  have hl : tshl.length = 691 := by decide +kernel
  rw [tsh_def] at h2 h4
  have g := cql_at (k := 0) (j := r) cql_all (by omega) (by omega)
  unfold cqk at g
  rw [h2] at g
  have g2 := List.all_eq_true.mp g i.toNat (List.mem_range.mpr (by omega))
  rw [Bool.and_eq_true, Nat.zero_add] at g2
  refine ⟨?_, Nat.le_of_ble_eq_true g2.2⟩
  rw [tsh_def]
  exact Nat.eq_of_beq_eq_true g2.1
theorem w64_LR (x : Int) : LR (w64 x) := by unfold LR w64; omega
theorem w32_IR (x : Int) : IR (w32 x) := by unfold IR w32; omega
theorem fsf_of {a f : Nat} {w : Nat × Int × Int} (h : fsf a f = w) (hw : w.1 ≠ 9) : a < 14 ∧ f < 17 ∧ fsp a f = w := by
  unfold fsf at h
  cases hb : Nat.blt a 14 && Nat.blt f 17 with
  | true =>
    rw [hb] at h
    rw [Bool.and_eq_true] at hb
    exact ⟨Nat.le_of_ble_eq_true hb.1, Nat.le_of_ble_eq_true hb.2, h⟩
  | false =>
    rw [hb] at h
    subst h
    exact absurd rfl hw
/-- what a field gives -/
theorem gf_sound {M : tM} {r a f kd : Nat} {lo hi : Int} (hC : CI M) (h : cl r a) (hq : fsf a f = (kd, lo, hi)) :
    (kd = 0 → ∃ x, tfdc true r a f (M r (f : Nat)) = .inl x ∧ lo ≤ x ∧ x ≤ hi) ∧ (kd = 1 → ∃ x, tfdc true r a f (M r (f : Nat)) = .inr (.inl x) ∧ LR x) ∧ (kd = 2 → ∃ q, tfdc true r a f (M r (f : Nat)) = .inr (.inr (.inl q)) ∧ cl q lo.toNat) ∧ (kd = 4 → ∃ q, tfdc true r a f (M r (f : Nat)) = .inr (.inr (.inl q)) ∧ cl q lo.toNat ∧ (hi = 1 → 80 ≤ q ∧ q ≤ 82)) := by
  have hc := hC.1 r (f : Nat) h.2 (by omega)
  rw [h.1, Int.toNat_natCast] at hc
  unfold cok at hc
  refine ⟨fun e => ?_, fun e => ?_, fun e => ?_, fun e => ?_⟩
  · subst e
    obtain ⟨ha, hf, hp⟩ := fsf_of hq (show (0 : Nat) ≠ 9 by decide)
    have g := gok_of ha hf
    unfold gok at g
    rw [hp] at g hc
    have g : (Nat.beq (tfk a f) 0 || (Nat.beq (tfk a f) 3 && (decide (lo = 0) && decide (hi = 1)))) = true := g
    refine ⟨M r (f : Nat), ?_, hc⟩
    unfold tfdc
    rw [Bool.or_eq_true, Bool.and_eq_true] at g
    have hne : tcv a f r (M r (f : Nat)) = tcv a f r (M r (f : Nat)) := rfl
    rcases g with g | ⟨g, -⟩
    · rw [Nat.eq_of_beq_eq_true g]; rfl
    · rw [Nat.eq_of_beq_eq_true g]; rfl
  · subst e
    obtain ⟨ha, hf, hp⟩ := fsf_of hq (show (1 : Nat) ≠ 9 by decide)
    have g := gok_of ha hf
    unfold gok at g
    rw [hp] at g
    refine ⟨w64 (M r (f : Nat)), ?_, w64_LR _⟩
    unfold tfdc
    rw [Nat.eq_of_beq_eq_true g]
    rfl
  · subst e
    obtain ⟨ha, hf, hp⟩ := fsf_of hq (show (2 : Nat) ≠ 9 by decide)
    have g := gok_of ha hf
    unfold gok at g
    rw [hp] at g hc
    have g : (Nat.beq (tfk a f) 2 && !tcn a f) = true := g
    rw [Bool.and_eq_true, Bool.not_eq_true'] at g
    refine ⟨(M r (f : Nat)).toNat, ?_, hc⟩
    unfold tfdc tcv
    rw [Nat.eq_of_beq_eq_true g.1, g.2]
    rfl
  · subst e
    obtain ⟨ha, hf, hp⟩ := fsf_of hq (show (4 : Nat) ≠ 9 by decide)
    have g := gok_of ha hf
    unfold gok at g
    rw [hp] at g
    have g : (Nat.beq (tfk a f) 2 && tcn a f) = true := g
    rw [Bool.and_eq_true] at g
    refine ⟨tcf a f r, ?_, (cst_of h ha hf hp).1, (cst_of h ha hf hp).2⟩
    unfold tfdc tcv
    rw [Nat.eq_of_beq_eq_true g.1, g.2]
    rfl
theorem tsh_0 : tsh 0 = 13 := by rw [tsh_def]; rfl
theorem tsh_78u : tsh 78 = 2 := by rw [tsh_def]; rfl
theorem prt_f {b : Nat} {r a f : Nat} (hb : b < 2 ∨ (b = 3 ∧ a = 3) ∨ (b = 6 ∧ (a = 3 → 80 ≤ r ∧ r ≤ 82))) (h : cl r a) (h1 : a = 13 → f ≠ 0) (h2 : a = 8 → f = 7 → b = 0) (h3 : a < 14) (h4 : a = 2 → f ≠ 5 := by omega) : ¬ prt b r (f : Nat) := by
  obtain ⟨hr, hl⟩ := h
  intro q
  rcases q with (q | ⟨q, q2⟩ | ⟨q, q2 | ⟨q2, q3⟩⟩) | q | q | ⟨q, q2⟩
  · omega
  · subst q
    rw [tsh_0] at hr
    exact h1 hr.symm (by omega)
  · omega
  · have := h2 (by omega) (by omega)
    omega
  · rcases hb with hb | ⟨hb, ha⟩ | hb
    · omega
    · exact q.2.2 hb (by rw [hr, ha])
    · omega
  · rcases hb with hb | hb | hb
    · omega
    · omega
    · exact q.2.2 (hb.2 (by rw [← hr]; exact q.2.1))
  · subst q
    rw [tsh_78u] at hr
    exact h4 hr.symm (by omega)
theorem prt_a {b : Nat} {r t : Nat} {i : Int} (hb : b < 2 ∨ b = 6) (h : aok r t i) (ht : t ≠ 9) (h2 : tsh r = 26 → b = 0) : ¬ prt b r i := by
  obtain ⟨h1, h3, -⟩ := h
  intro q
  rcases q with (q | ⟨q, q2⟩ | ⟨q, q2 | ⟨q2, q3⟩⟩) | q | q | ⟨q, q2⟩
  · omega
  · subst q
    rw [tsh_0] at h3
    exact ht h3.symm
  · have := h2 q2
    omega
  · rw [q2] at h3
    exact ht h3.symm
  · omega
  · rw [q.2.1] at h3
    exact ht h3.symm
  · subst q
    rw [tsh_78u] at h3
    exact ht h3.symm
theorem akd_ob {a : Nat} (h : a < 14) : akd a = 9 := by
  have hh : ∀ a, a < 14 → akd a = 9 := by decide
  exact hh a h
theorem gk_of {M : tM} {r f : Nat} : ∀ {G : GL}, gE G M → gk G r f (M r (f : Nat)) := by
  intro G
  induction G with
  | nil => exact fun _ => trivial
  | cons g t ih => exact fun h => ⟨fun e1 e2 => by rw [← e1, ← e2]; exact h.1.2, ih h.2⟩
theorem gE_put {M : tM} {r f : Nat} {x : Int} : ∀ {G : GL}, gE G M → gE (gd f G) (tU M r (f : Nat) x) := by
  intro G
  induction G with
  | nil => exact fun _ => trivial
  | cons g t ih =>
    intro h
    unfold gd
    split
    · exact ih h.2
    · rename_i hf
      exact ⟨⟨h.1.1, (tU_ni (by omega)).trans h.1.2⟩, ih h.2⟩
theorem gE_arr {M : tM} {r : Nat} {i x : Int} (ha : akd (tsh r) ≠ 9) : ∀ {G : GL}, gE G M → gE G (tU M r i x) := by
  intro G
  induction G with
  | nil => exact fun _ => trivial
  | cons g t ih =>
    intro h
    exact ⟨⟨h.1.1, (tU_nk (fun q => ha (by rw [← q]; exact h.1.1))).trans h.1.2⟩, ih h.2⟩
theorem pf_sound {b : Nat} {M M0 : tM} {r a f kd : Nat} {lo hi x : Int} (hC : CI M) (hE : pE b M0 M) (h : cl r a) (hq : fsf a f = (kd, lo, hi)) (h9 : kd ≠ 9) (hb : b < 2 ∨ (b = 3 ∧ a = 3) ∨ (b = 6 ∧ (a = 3 → 80 ≤ r ∧ r ≤ 82))) (h1 : a = 13 → f ≠ 0) (h2 : a = 8 → f = 7 → b = 0) (h5 : a = 2 → f ≠ 5) (hv : (kd = 0 → lo ≤ x ∧ x ≤ hi) ∧ (kd = 2 → cl x.toNat lo.toNat)) : CI (tU M r (f : Nat) x) ∧ pE b M0 (tU M r (f : Nat) x) := by
  obtain ⟨ha, hf, hp⟩ := fsf_of hq h9
  refine ⟨CI_put hC h.1 (fun _ => ?_) (by omega), pE_tr hE (pE_put (prt_f hb h h1 h2 ha h5))⟩
  rw [Int.toNat_natCast]
  unfold cok
  rw [hp]
  match kd, hv with
  | 0, hv => exact hv.1 rfl
  | 1, _ => trivial
  | 2, hv => exact hv.2 rfl
  | 3, _ => trivial
  | k + 4, _ => trivial
theorem pf_kind {a f kd : Nat} {lo hi : Int} (hq : fsf a f = (kd, lo, hi)) (h9 : kd ≠ 9) : gok a f = true ∧ fsp a f = (kd, lo, hi) := by
  obtain ⟨ha, hf, hp⟩ := fsf_of hq h9
  exact ⟨gok_of ha hf, hp⟩
