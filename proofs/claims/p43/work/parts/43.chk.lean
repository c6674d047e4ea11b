/-! What an instruction wants is enough. -/
def tlen (i : Instr) : Nat := match i with
  | .iconst _ | .lconst _ | .iload_n _ | .lload_n _ | .aload_n _ | .istore_n _ | .lstore_n _ | .astore_n _ => 1
  | .bipush _ | .ldc _ | .iload _ | .lload _ | .aload _ | .istore _ | .lstore _ | .astore _ => 2
  | .sipush _ | .ldc2_w _ | .iinc _ _ | .ifCond _ _ | .if_icmp _ _ | .getfield _ | .putfield _ | .getstatic _ | .invokestatic _ | .invokevirtual _ => 3
  | _ => 1
def tfko (kd : Nat) (t : FieldType) : Bool := match kd, t with
  | 0, .int => true
  | 1, .long => true
  | 2, .object _ => true
  | 2, .array _ => true
  | 3, .boolean => true
  | 4, .char => true
  | _, _ => false
def trko (rk : Nat) (t : Option FieldType) : Bool := match rk, t with
  | 0, some .int => true
  | 3, some .boolean => true
  | 4, some .char => true
  | 1, some .long => true
  | 2, some (.object _) => true
  | 2, some (.array _) => true
  | 9, none => true
  | _, _ => false
noncomputable def tchk (rk mi pc : Nat) (o : bO) : Bool := match o.1 with
  | .bipush x => decide (-128 ≤ x) && decide (x < 128)
  | .sipush x => decide (-32768 ≤ x) && decide (x < 32768)
  | .istore_n i => decide ((i : Nat) < (bmeth mi).2.2.1)
  | .istore i => decide (i < (bmeth mi).2.2.1)
  | .lstore_n i => decide ((i : Nat) + 1 < (bmeth mi).2.2.1)
  | .lstore i => decide (i + 1 < (bmeth mi).2.2.1)
  | .astore_n i => decide ((i : Nat) < (bmeth mi).2.2.1)
  | .astore i => decide (i < (bmeth mi).2.2.1)
  | .iinc i _ => decide (i < (bmeth mi).2.2.1)
  | .getfield _ => decide (tyk o.2.2.1 = (0, o.2.2.1, (tyk o.2.2.1).2.2)) && (decide (o.2.2.2.1 < (tyk o.2.2.1).2.2) && decide (o.2.2.1 ≠ 0))
  | .putfield _ => decide (tyk o.2.2.1 = (0, o.2.2.1, (tyk o.2.2.1).2.2)) && (decide (o.2.2.2.1 < (tyk o.2.2.1).2.2) && (decide (o.2.2.1 ≠ 0) && (tfko (tfk o.2.2.1 o.2.2.2.1) ((bty o.2.2.1).getD o.2.2.2.1 .byte) && !(Nat.beq (tfk o.2.2.1 o.2.2.2.1) 2 && tcn o.2.2.1 o.2.2.2.1))))
  | .new _ => (match (bmeth mi).2.2.2.2 with | [] => true | _ => false)
  | .ireturn | .lreturn | .areturn | .return_ => trko rk (bmeth mi).2.2.2.1
  | .lookupswitch df ps => decide (0 ≤ (pc : Int) + df) && ps.toList.all (fun q => decide (0 ≤ (pc : Int) + q.2))
  | _ => true
theorem ofI_bound {x : Int} (h : -2147483648 ≤ x ∧ x < 2147483648) : (Int32.ofInt x).toInt = x := Int32.toInt_ofInt_of_le h.1 h.2
theorem ofL_bound {x : Int} (h : -9223372036854775808 ≤ x ∧ x < 9223372036854775808) : (Int64.ofInt x).toInt = x := Int64.toInt_ofInt_of_le h.1 h.2
theorem ofI_inj {x y : Int} (h : (x - y) % 4294967296 = 0) : Int32.ofInt x = Int32.ofInt y := by
  apply Int32.toInt_inj.mp
  rw [Int32.toInt_ofInt, Int32.toInt_ofInt]
  unfold Int.bmod
  have e : x % ((Int32.size : Nat) : Int) = y % ((Int32.size : Nat) : Int) := by show x % 4294967296 = y % 4294967296; omega
  rw [e]
theorem ofL_inj {x y : Int} (h : (x - y) % 18446744073709551616 = 0) : Int64.ofInt x = Int64.ofInt y := by
  apply Int64.toInt_inj.mp
  rw [Int64.toInt_ofInt, Int64.toInt_ofInt]
  unfold Int.bmod
  have e : x % ((Int64.size : Nat) : Int) = y % ((Int64.size : Nat) : Int) := by show x % 18446744073709551616 = y % 18446744073709551616; omega
  rw [e]
theorem ofI_w (x : Int) : Int32.ofInt (w32 x) = Int32.ofInt x := ofI_inj (by unfold w32; omega)
theorem ofL_w (x : Int) : Int64.ofInt (w64 x) = Int64.ofInt x := ofL_inj (by unfold w64; omega)
theorem ofL_tw (c : Bool) (x : Int) : Int64.ofInt (tw c x) = Int64.ofInt x := by
  cases c
  · rfl
  · exact ofL_w x
theorem tbin {i : Int} {n : Nat} (h : 0 ≤ i ∧ i < n) (hn : n < 2147483648) : bin (Int32.ofInt i) n = true ∧ (Int32.ofInt i).toNatClampNeg = i.toNat := by
  have h1 := ofI_bound (x := i) ⟨by omega, by omega⟩
  have h2 : (Int32.ofInt i).toNatClampNeg = i.toNat := by
    show (Int32.ofInt i).toInt.toNat = _
    rw [h1]
  refine ⟨?_, h2⟩
  unfold bin
  rw [h2]
  have h3 : ¬ Int32.ofInt i < 0 := by
    intro h4
    have h5 := Int32.lt_iff_toInt_lt.mp h4
    have h6 : (0 : Int32).toInt = 0 := rfl
    omega
  rw [decide_eq_true h3, decide_eq_true (show i.toNat < n by omega)]
  rfl
theorem tcm_ok {cd : ClassFile.Cond} {x y : Int} (hx : -2147483648 ≤ x ∧ x < 2147483648) (hy : -2147483648 ≤ y ∧ y < 2147483648) : (bcmp cd (Int32.ofInt x) (Int32.ofInt y) = true) ↔ tcm cd x y := by
  have e1 := ofI_bound hx
  have e2 := ofI_bound hy
  have q : Int32.ofInt x = Int32.ofInt y ↔ x = y := ⟨fun h => by rw [← e1, ← e2, h], fun h => by rw [h]⟩
  have l : Int32.ofInt x < Int32.ofInt y ↔ x < y := by rw [Int32.lt_iff_toInt_lt, e1, e2]
  have l2 : Int32.ofInt y < Int32.ofInt x ↔ y < x := by rw [Int32.lt_iff_toInt_lt, e1, e2]
  have g : Int32.ofInt y ≤ Int32.ofInt x ↔ y ≤ x := by rw [Int32.le_iff_toInt_le, e1, e2]
  have g2 : Int32.ofInt x ≤ Int32.ofInt y ↔ x ≤ y := by rw [Int32.le_iff_toInt_le, e1, e2]
  cases cd
  · exact decide_eq_true_iff.trans q
  · exact decide_eq_true_iff.trans (not_congr q)
  · exact decide_eq_true_iff.trans l
  · exact decide_eq_true_iff.trans g
  · exact decide_eq_true_iff.trans l2
  · exact decide_eq_true_iff.trans g2
theorem tdn_fdc (c : Bool) (k a b : Nat) (x : Int) : tdn (tfdc c k a b x) = tdn (tfd k a b x) := by
  unfold tfdc tfd
  generalize tfk a b = t
  match t with
  | 0 => rfl
  | 1 =>
    show Sum.inr (Sum.inl (Int64.ofInt (tw c x))) = _
    rw [ofL_tw]
    rfl
  | 2 => rfl
  | t + 3 => rfl
theorem tfd_put {a b k : Nat} {v : tV} (h : tpk (tfk a b) v) (h2 : tfk a b = 2 → tcn a b = false) : tfd k a b (tnm v) = v := by
  unfold tfd tcv
  generalize tfk a b = t at h h2
  match t, v, h with
  | 0, .inl _, _ => rfl
  | 1, .inr (.inl _), _ => rfl
  | 2, .inr (.inr (.inl _)), _ => rw [h2 rfl]; rfl
  | 3, .inl x, _ => rfl
  | 4, .inl x, _ => rfl
theorem bok01 {x : Int} (h : 0 ≤ x ∧ x ≤ 1) : bokf .boolean (.inl (Int32.ofInt x)) = true := by
  have h2 : x = 0 ∨ x = 1 := by omega
  rcases h2 with rfl | rfl <;> decide
theorem nar_c {x : Int} (h : 0 ≤ x ∧ x ≤ 65535) : vp_nar .char (Int32.ofInt x) = Int32.ofInt x := by
  show (Int32.ofInt x).toUInt32.toUInt16.toUInt32.toInt32 = _
  have e : (Int32.ofInt x).toUInt32.toUInt16.toUInt32 = (Int32.ofInt x).toUInt32 := by
    apply UInt32.toNat_inj.mp
    rw [UInt16.toNat_toUInt32, UInt32.toNat_toUInt16]
    have h3 : ((Int32.ofInt x).toUInt32.toNat : Int) = x := by
      have h4 := ofI_bound (x := x) ⟨by omega, by omega⟩
      have h5 : (Int32.ofInt x).toBitVec.toInt = x := h4
      rw [BitVec.toInt_eq_toNat_cond] at h5
      have h6 : (Int32.ofInt x).toUInt32.toNat = (Int32.ofInt x).toBitVec.toNat := rfl
      have h7 := (Int32.ofInt x).toBitVec.isLt
      split at h5 <;> omega
    omega
  rw [e]
  rfl
theorem bokc {x : Int} (h : 0 ≤ x ∧ x ≤ 65535) : bokf .char (.inl (Int32.ofInt x)) = true := by
  have e := b_nar .char (Int32.ofInt x) (Or.inr (Or.inl rfl))
  rw [nar_c h] at e
  have e2 : fits .char (.int (Int32.ofInt x)) = true := by
    have e3 := ofI_bound (x := x) ⟨by omega, by omega⟩
    show (decide (0 ≤ Int32.ofInt x) && decide (Int32.ofInt x ≤ 65535)) = true
    rw [decide_eq_true (Int32.le_iff_toInt_le.mpr (by rw [e3]; exact h.1)), decide_eq_true (Int32.le_iff_toInt_le.mpr (by rw [e3]; exact h.2))]
    rfl
  show (decide (narrow .char (.int (Int32.ofInt x)) = .int (Int32.ofInt x)) && fits .char (.int (Int32.ofInt x))) = true
  rw [e, decide_eq_true rfl, e2]
  rfl
theorem tpv_bok {kd : Nat} {t : FieldType} {v : tV} (h : tpk kd v) (h2 : tfko kd t = true) : bokf t (tdn v) = true := by
  match kd, v, h with
  | 0, .inl _, _ => cases t <;> first | (cases h2; done) | rfl
  | 1, .inr (.inl _), _ => cases t <;> first | (cases h2; done) | rfl
  | 2, .inr (.inr (.inl _)), _ => cases t <;> first | (cases h2; done) | rfl
  | 3, .inl x, h => cases t <;> first | (cases h2; done) | exact bok01 h
  | 4, .inl x, h => cases t <;> first | (cases h2; done) | exact bokc h
theorem trg_bok {rk : Nat} {t : Option FieldType} {x : Int} (h : trg rk x) (h2 : trko rk t = true) (h9 : rk = 0 ∨ rk = 3 ∨ rk = 4) : ∃ u, t = some u ∧ bokf u (.inl (Int32.ofInt x)) = true := by
  rcases h9 with rfl | rfl | rfl
  · cases t with
    | none => cases h2
    | some u => exact ⟨u, rfl, by cases u <;> first | (cases h2; done) | rfl⟩
  · cases t with
    | none => cases h2
    | some u => exact ⟨u, rfl, by cases u <;> first | (cases h2; done) | exact bok01 h⟩
  · cases t with
    | none => cases h2
    | some u => exact ⟨u, rfl, by cases u <;> first | (cases h2; done) | exact bokc h⟩
