/-! THE START'S WORLD, as the memory tells it. -/
section START0
noncomputable def mzv (c : sC_s) (j : Nat) : Nat := cond (Nat.blt j c.2.2.1) (Prod.snd (α := Nat) (β := Nat) (tget c.2.2.2.1 c.2.2.2.2 j)) 0
noncomputable def M0 : tM := fun k i => ((mzv (tget 10 sW1.2.2 k) i.toNat : Nat) : Int)
def fck (kd r : Nat) (v : sV) : Bool := match kd with
  | 1 => Nat.beq v.1 1
  | 2 => cond (Nat.beq v.1 2) (Nat.beq r v.2) false
  | _ => Nat.beq v.1 0
theorem cI_z (n : Nat) : cI n = Int32.ofInt (n : Int) := by
  show Int32.ofBitVec (BitVec.ofNat 32 n) = Int32.ofBitVec (BitVec.ofInt 32 (n : Int))
  rw [BitVec.ofInt_natCast]
theorem cL_z (n : Nat) : cL n = Int64.ofInt (n : Int) := by
  show Int64.ofBitVec (BitVec.ofNat 64 n) = Int64.ofBitVec (BitVec.ofInt 64 (n : Int))
  rw [BitVec.ofInt_natCast]
theorem fck_0 {e : sE} {v : sV} (h : Nat.beq v.1 0 = true) : cv e v = .inl (Int32.ofInt (v.2 : Int)) := by
  obtain ⟨a, b⟩ := v
  have h : a = 0 := Nat.eq_of_beq_eq_true h
  subst h
  show (Sum.inl (cI b) : bV) = _
  rw [cI_z]
theorem fck_1 {e : sE} {v : sV} (h : Nat.beq v.1 1 = true) : cv e v = .inr (.inl (Int64.ofInt (v.2 : Int))) := by
  obtain ⟨a, b⟩ := v
  have h : a = 1 := Nat.eq_of_beq_eq_true h
  subst h
  show (Sum.inr (Sum.inl (cL b)) : bV) = _
  rw [cL_z]
theorem fck_2 {e : sE} {v : sV} {r : Nat} (h : cond (Nat.beq v.1 2) (Nat.beq r v.2) false = true) : cv e v = .inr (.inr (.inl r)) ∧ cq v = some r := by
  obtain ⟨a, b⟩ := v
  have h9 : cond (Nat.beq a 2) (Nat.beq r b) false = true := h
  rcases cond_two h9 with ⟨g1, g2⟩ | ⟨-, g2⟩
  · have e1 : a = 2 := Nat.eq_of_beq_eq_true g1
    have e2 : r = b := Nat.eq_of_beq_eq_true g2
    rw [e1, e2]
    exact ⟨rfl, rfl⟩
  · cases g2
theorem fck_ok {e : sE} {kd r : Nat} {v : sV} (h : fck kd r v = true) : cv e v = tdn (tfv kd r (v.2 : Int)) := by
  match kd, h with
  | 1, h => exact fck_1 h
  | 2, h => exact (fck_2 h).1
  | 0, h => exact fck_0 h
  | n + 3, h => exact fck_0 h
noncomputable def cck (k t : Nat) (c : sC_s) : Bool := match tyk t with
  | (0, ci, len) => cond (Nat.beq c.1 0) (cond (Nat.beq c.2.1 ci) (cond (Nat.beq c.2.2.1 len) ((List.range len).all (fun j => fck (tfk ci j) (tcv ci j k ((mzv c j : Nat) : Int)) (tget c.2.2.2.1 c.2.2.2.2 j))) false) false) false
  | (1, ty, len) => cond (Nat.beq c.1 1) (cond (Nat.beq c.2.1 ty) (cond (Nat.beq c.2.2.1 len) ((List.range len).all (fun j => Nat.beq (Prod.fst (α := Nat) (β := Nat) (tget c.2.2.2.1 c.2.2.2.2 j)) 0)) false) false) false
  | (2, _, len) => cond (Nat.beq c.1 2) (cond (Nat.beq c.2.2.1 len) ((List.range len).all (fun j => Nat.beq (Prod.fst (α := Nat) (β := Nat) (tget c.2.2.2.1 c.2.2.2.2 j)) 1)) false) false
  | (3, ty, len) => cond (Nat.beq c.1 3) (cond (Nat.beq c.2.1 ty) (cond (Nat.beq c.2.2.1 len) ((List.range len).all (fun j => fck 2 (tel ty k (j : Nat) ((mzv c j : Nat) : Int)) (tget c.2.2.2.1 c.2.2.2.2 j))) false) false) false
  | _ => false
theorem cond_three {a b : Bool} (h : cond a b false = true) : a = true ∧ b = true := by
  rcases cond_two h with ⟨g, h⟩ | ⟨-, h⟩
  · exact ⟨g, h⟩
  · cases h
theorem mzv_lt {c : sC_s} {j : Nat} (h : j < c.2.2.1) : mzv c j = Prod.snd (α := Nat) (β := Nat) (tget c.2.2.2.1 c.2.2.2.2 j) := by
  unfold mzv
  rw [show Nat.blt j c.2.2.1 = true from blt_ye h]
  rfl
theorem fck_0c {e : sE} {v : sV} (h : Nat.beq v.1 0 = true) : ci e v = Int32.ofInt (v.2 : Int) := by
  obtain ⟨a, b⟩ := v
  have e1 : a = 0 := Nat.eq_of_beq_eq_true h
  rw [e1]
  exact cI_z b
theorem fck_1c {e : sE} {v : sV} (h : Nat.beq v.1 1 = true) : cl_s e v = Int64.ofInt (v.2 : Int) := by
  obtain ⟨a, b⟩ := v
  have e1 : a = 1 := Nat.eq_of_beq_eq_true h
  rw [e1]
  exact cL_z b
theorem cck_ok {e : sE} {k t : Nat} {c : sC_s} (h : cck k t c = true) : cc e c = tcell k t (fun i => ((mzv c i.toNat : Nat) : Int)) := by
  obtain ⟨kd, ty0, n0, d, T⟩ := c
  unfold cck at h
  split at h
  · rename_i ci len ht
    obtain ⟨g1, h1⟩ := cond_three h
    obtain ⟨g2, h2⟩ := cond_three h1
    obtain ⟨g3, h3⟩ := cond_three h2
    have e1 : kd = 0 := Nat.eq_of_beq_eq_true g1
    have e2 : ty0 = ci := Nat.eq_of_beq_eq_true g2
    have e3 : n0 = len := Nat.eq_of_beq_eq_true g3
    clear h g2 h1 h2 g1 g3
    subst e1
    subst e2
    subst e3
    unfold tcell
    rw [ht]
    refine congrArg (fun l => (.inl (ty0, l) : bC)) (List.map_congr_left (fun j hj => ?_))
    have h4 := List.all_eq_true.mp h3 j hj
    have hj : j < n0 := List.mem_range.mp hj
    have h5 := mzv_lt (c := (0, ty0, n0, ⟨d, T⟩)) hj
    have h6 := fck_ok (e := e) h4
    show cv e (tget d T j) = tdn (tfv (tfk ty0 j) (tcv ty0 j k ((mzv (0, ty0, n0, ⟨d, T⟩) j : Nat) : Int)) ((mzv (0, ty0, n0, ⟨d, T⟩) j : Nat) : Int))
    rw [show cv e (tget d T j) = _ from h6, h5]
  · rename_i ty len ht
    obtain ⟨g1, h1⟩ := cond_three h
    obtain ⟨g2, h2⟩ := cond_three h1
    obtain ⟨g3, h3⟩ := cond_three h2
    have e1 : kd = 1 := Nat.eq_of_beq_eq_true g1
    have e2 : ty0 = ty := Nat.eq_of_beq_eq_true g2
    have e3 : n0 = len := Nat.eq_of_beq_eq_true g3
    clear h g2 h1 h2 g1 g3
    subst e1
    subst e2
    subst e3
    unfold tcell
    rw [ht]
    refine congrArg (fun l => (.inr (.inl (ty0, l)) : bC)) (List.map_congr_left (fun j hj => ?_))
    have h4 := List.all_eq_true.mp h3 j hj
    have hj : j < n0 := List.mem_range.mp hj
    have h5 := mzv_lt (c := (1, ty0, n0, ⟨d, T⟩)) hj
    have h6 := fck_0 (e := e) h4
    show ci e (tget d T j) = Int32.ofInt ((mzv (1, ty0, n0, ⟨d, T⟩) j : Nat) : Int)
    rw [h5]
    exact fck_0c h4
  · rename_i ty len ht
    obtain ⟨g1, h1⟩ := cond_three h
    obtain ⟨g3, h3⟩ := cond_three h1
    have e1 : kd = 2 := Nat.eq_of_beq_eq_true g1
    have e3 : n0 = len := Nat.eq_of_beq_eq_true g3
    clear h h1 g1 g3
    subst e1
    subst e3
    unfold tcell
    rw [ht]
    refine congrArg (fun l => (.inr (.inr (.inl l)) : bC)) (List.map_congr_left (fun j hj => ?_))
    have h4 := List.all_eq_true.mp h3 j hj
    have hj : j < n0 := List.mem_range.mp hj
    have h5 := mzv_lt (c := (2, ty0, n0, ⟨d, T⟩)) hj
    show cl_s e (tget d T j) = Int64.ofInt ((mzv (2, ty0, n0, ⟨d, T⟩) j : Nat) : Int)
    rw [h5]
    exact fck_1c h4
  · rename_i ty len ht
    obtain ⟨g1, h1⟩ := cond_three h
    obtain ⟨g2, h2⟩ := cond_three h1
    obtain ⟨g3, h3⟩ := cond_three h2
    have e1 : kd = 3 := Nat.eq_of_beq_eq_true g1
    have e2 : ty0 = ty := Nat.eq_of_beq_eq_true g2
    have e3 : n0 = len := Nat.eq_of_beq_eq_true g3
    clear h g2 h1 h2 g1 g3
    subst e1
    subst e2
    subst e3
    unfold tcell
    rw [ht]
    refine congrArg (fun l => (.inr (.inr (.inr (ty0, l))) : bC)) (List.map_congr_left (fun j hj => ?_))
    have h4 := List.all_eq_true.mp h3 j hj
    have hj : j < n0 := List.mem_range.mp hj
    have h5 := mzv_lt (c := (3, ty0, n0, ⟨d, T⟩)) hj
    show cq (tget d T j) = some (tel ty0 k ((j : Nat) : Int) ((mzv (3, ty0, n0, ⟨d, T⟩) j : Nat) : Int))
    exact (fck_2 (e := e) h4).2
  · cases h
end START0
