/-! What an instruction wants is enough. -/
def tlen (i : Instr) : Nat := match i with
  | .iconst _ | .lconst _ | .iload_n _ | .lload_n _ | .aload_n _ | .istore_n _ | .lstore_n _ | .astore_n _ => 1
  | .bipush _ | .ldc _ | .iload _ | .lload _ | .aload _ | .istore _ | .lstore _ | .astore _ => 2
  | .sipush _ | .ldc2_w _ | .iinc _ _ | .ifCond _ _ | .if_icmp _ _ | .getfield _ | .putfield _ | .getstatic _ | .invokestatic _ | .invokevirtual _ => 3
  | _ => 1
def tfko (kd : Nat) (t : FieldType) : Bool := match kd, t with
  | 0, .int => true
  | 1, .long => true
  | 2, .object _ => true
  | 2, .array _ => true
  | 3, .boolean => true
  | 4, .char => true
  | _, _ => false
def trko (rk : Nat) (t : Option FieldType) : Bool := match rk, t with
  | 0, some .int => true
  | 3, some .boolean => true
  | 4, some .char => true
  | 1, some .long => true
  | 2, some (.object _) => true
  | 2, some (.array _) => true
  | 9, none => true
  | _, _ => false
noncomputable def tchk (rk mi pc : Nat) (o : bO) : Bool := match o.1 with
  | .bipush x => decide (-128 ≤ x) && decide (x < 128)
  | .sipush x => decide (-32768 ≤ x) && decide (x < 32768)
  | .istore_n i => decide ((i : Nat) < (bmeth mi).2.2.1)
  | .istore i => decide (i < (bmeth mi).2.2.1)
  | .lstore_n i => decide ((i : Nat) + 1 < (bmeth mi).2.2.1)
  | .lstore i => decide (i + 1 < (bmeth mi).2.2.1)
  | .astore_n i => decide ((i : Nat) < (bmeth mi).2.2.1)
  | .astore i => decide (i < (bmeth mi).2.2.1)
  | .iinc i _ => decide (i < (bmeth mi).2.2.1)
  | .getfield _ => decide (tyk o.2.2.1 = (0, o.2.2.1, (tyk o.2.2.1).2.2)) && (decide (o.2.2.2.1 < (tyk o.2.2.1).2.2) && decide (o.2.2.1 ≠ 0))
  | .putfield _ => decide (tyk o.2.2.1 = (0, o.2.2.1, (tyk o.2.2.1).2.2)) && (decide (o.2.2.2.1 < (tyk o.2.2.1).2.2) && (decide (o.2.2.1 ≠ 0) && (tfko (tfk o.2.2.1 o.2.2.2.1) ((bty o.2.2.1).getD o.2.2.2.1 .byte) && !(Nat.beq (tfk o.2.2.1 o.2.2.2.1) 2 && tcn o.2.2.1 o.2.2.2.1))))
  | .new _ => (match (bmeth mi).2.2.2.2 with | [] => true | _ => false)
  | .ireturn | .lreturn | .areturn | .return_ => trko rk (bmeth mi).2.2.2.1
  | .lookupswitch df ps => decide (0 ≤ (pc : Int) + df) && ps.toList.all (fun q => decide (0 ≤ (pc : Int) + q.2))
  | _ => true
theorem ofI_bound {x : Int} (h : -2147483648 ≤ x ∧ x < 2147483648) : (Int32.ofInt x).toInt = x := sorry
theorem ofL_bound {x : Int} (h : -9223372036854775808 ≤ x ∧ x < 9223372036854775808) : (Int64.ofInt x).toInt = x := sorry
theorem ofI_inj {x y : Int} (h : (x - y) % 4294967296 = 0) : Int32.ofInt x = Int32.ofInt y := sorry
theorem ofL_inj {x y : Int} (h : (x - y) % 18446744073709551616 = 0) : Int64.ofInt x = Int64.ofInt y := sorry
theorem ofI_w (x : Int) : Int32.ofInt (w32 x) = Int32.ofInt x := sorry
theorem ofL_w (x : Int) : Int64.ofInt (w64 x) = Int64.ofInt x := sorry
theorem ofL_tw (c : Bool) (x : Int) : Int64.ofInt (tw c x) = Int64.ofInt x := sorry
theorem tbin {i : Int} {n : Nat} (h : 0 ≤ i ∧ i < n) (hn : n < 2147483648) : bin (Int32.ofInt i) n = true ∧ (Int32.ofInt i).toNatClampNeg = i.toNat := sorry
theorem tcm_ok {cd : ClassFile.Cond} {x y : Int} (hx : -2147483648 ≤ x ∧ x < 2147483648) (hy : -2147483648 ≤ y ∧ y < 2147483648) : (bcmp cd (Int32.ofInt x) (Int32.ofInt y) = true) ↔ tcm cd x y := sorry
theorem tdn_fdc (c : Bool) (k a b : Nat) (x : Int) : tdn (tfdc c k a b x) = tdn (tfd k a b x) := sorry
theorem tfd_put {a b k : Nat} {v : tV} (h : tpk (tfk a b) v) (h2 : tfk a b = 2 → tcn a b = false) : tfd k a b (tnm v) = v := sorry
theorem bok01 {x : Int} (h : 0 ≤ x ∧ x ≤ 1) : bokf .boolean (.inl (Int32.ofInt x)) = true := sorry
theorem nar_c {x : Int} (h : 0 ≤ x ∧ x ≤ 65535) : vp_nar .char (Int32.ofInt x) = Int32.ofInt x := sorry
theorem bokc {x : Int} (h : 0 ≤ x ∧ x ≤ 65535) : bokf .char (.inl (Int32.ofInt x)) = true := sorry
theorem tpv_bok {kd : Nat} {t : FieldType} {v : tV} (h : tpk kd v) (h2 : tfko kd t = true) : bokf t (tdn v) = true := sorry
theorem trg_bok {rk : Nat} {t : Option FieldType} {x : Int} (h : trg rk x) (h2 : trko rk t = true) (h9 : rk = 0 ∨ rk = 3 ∨ rk = 4) : ∃ u, t = some u ∧ bokf u (.inl (Int32.ofInt x)) = true := sorry
