/-! All rules; the run of a frame on top of others, for the kernel; it says what the reader does. -/
section EXEC2
variable {scr : List Int32}
theorem i64c (n : Nat) : Int64.ofNat n = cL (uL (Int64.ofNat n)) := (cbL_u _).symm
theorem comp_ok {ret : Option FieldType} {he : Bool} {nL pc nL2 : Nat} {o : bO} (h : (comp ret he nL pc nL2 o).1 = 0) : hO scr nL pc o (comp ret he nL pc nL2 o).2.1 := by
  obtain ⟨ins, ln, a, b, v⟩ := o
  cases ins with
  | iconst n => exact hpush_ok (x := .inl (Int32.ofInt n)) (fun lv st w => rfl) (fun e => by rw [cv_0, cbI_u])
  | bipush n => exact hpush_ok (x := .inl (Int8.ofInt n).toInt32) (fun lv st w => rfl) (fun e => by rw [cv_0, cbI_u])
  | sipush n => exact hpush_ok (x := .inl (Int16.ofInt n).toInt32) (fun lv st w => rfl) (fun e => by rw [cv_0, cbI_u])
  | ldc n => exact hpush_ok (x := .inl (Int32.ofInt v)) (fun lv st w => rfl) (fun e => by rw [cv_0, cbI_u])
  | lconst n => exact hpush_ok (x := .inr (.inl (Int64.ofNat n))) (fun lv st w => rfl) (fun e => by rw [cv_1, cbL_u])
  | ldc2_w n => exact hpush_ok (x := .inr (.inl (Int64.ofInt v))) (fun lv st w => rfl) (fun e => by rw [cv_1, cbL_u])
  | iload_n k => exact hld0_ok (k := 0) (n := 1) (i := k) (fun lv st w => rfl) (by decide)
  | iload i => exact hld0_ok (k := 0) (n := 2) (i := i) (fun lv st w => rfl) (by decide)
  | lload_n k => exact hld0_ok (k := 1) (n := 1) (i := k) (fun lv st w => rfl) (by decide)
  | lload i => exact hld0_ok (k := 1) (n := 2) (i := i) (fun lv st w => rfl) (by decide)
  | aload_n k => exact hld0_ok (k := 2) (n := 1) (i := k) (fun lv st w => rfl) (by decide)
  | aload i => exact hld0_ok (k := 2) (n := 2) (i := i) (fun lv st w => rfl) (by decide)
  | istore_n k => exact hst1_ok (k := 0) (n := 1) (i := k) (fun lv st w => rfl) (Or.inl rfl)
  | istore i => exact hst1_ok (k := 0) (n := 2) (i := i) (fun lv st w => rfl) (Or.inl rfl)
  | lstore_n k => exact hst2_ok (n := 1) (i := k) (fun lv st w => rfl)
  | lstore i => exact hst2_ok (n := 2) (i := i) (fun lv st w => rfl)
  | astore_n k => exact hst1_ok (k := 2) (n := 1) (i := k) (fun lv st w => rfl) (Or.inr rfl)
  | astore i => exact hst1_ok (k := 2) (n := 2) (i := i) (fun lv st w => rfl) (Or.inr rfl)
  | iinc i n => exact hinc_ok (fun lv st w => rfl)
  | iadd => exact hi2_ok (scr := scr) (nL := nL) (pc := pc) (o := (.iadd, ln, a, b, v)) (f := fun x y => some (aI x y)) (F := fun x y => some (x + y)) (fun lv st w => rfl) (fun a b z h => by cases h; rw [cbI_add])
  | isub => exact hi2_ok (scr := scr) (nL := nL) (pc := pc) (o := (.isub, ln, a, b, v)) (f := fun x y => some (sI x y)) (F := fun x y => some (x - y)) (fun lv st w => rfl) (fun a b z h => by cases h; rw [cbI_sub])
  | imul => exact hi2_ok (scr := scr) (nL := nL) (pc := pc) (o := (.imul, ln, a, b, v)) (f := fun x y => some (mI x y)) (F := fun x y => some (x * y)) (fun lv st w => rfl) (fun a b z h => by cases h; rw [cbI_mul])
  | iand => exact hor_ok (hi2_ok (F := fun x y => some (x &&& y)) (fun lv st w => rfl) (fun a b z h => by cases h; rw [cbI_and])) (handv_ok (fun lv st w => rfl))
  | ior => exact hi2_ok (scr := scr) (nL := nL) (pc := pc) (o := (.ior, ln, a, b, v)) (f := fun x y => some ((x % 4294967296) ||| (y % 4294967296))) (F := fun x y => some (x ||| y)) (fun lv st w => rfl) (fun a b z h => by cases h; rw [cbI_or])
  | idiv => exact hi2_ok (F := fun x y => if y = 0 then none else some (x / y)) (fun lv st w => rfl) (fun a b z h => by
      rcases cond_two h with ⟨-, h⟩ | ⟨g, h⟩
      · cases h
      · cases h
        rw [if_neg (fun hz => by
          have h1 : (cI b).toBitVec.toNat = 0 := by rw [hz]; rfl
          rw [cbI_n] at h1
          rw [h1] at g
          cases g), cbI_div])
  | irem => exact hi2_ok (F := fun x y => if y = 0 then none else some (x - x / y * y)) (fun lv st w => rfl) (fun a b z h => by
      rcases cond_two h with ⟨-, h⟩ | ⟨g, h⟩
      · cases h
      · cases h
        rw [if_neg (fun hz => by
          have h1 : (cI b).toBitVec.toNat = 0 := by rw [hz]; rfl
          rw [cbI_n] at h1
          rw [h1] at g
          cases g), cbI_div, cbI_mul, cbI_sub])
  | ineg => exact hi1_ok (F := fun x => .inl (-x)) (fun lv st w => rfl) (fun e a => by rw [cbI_neg]; rfl)
  | ladd => exact hl2_ok (scr := scr) (nL := nL) (pc := pc) (o := (.ladd, ln, a, b, v)) (f := fun x y => some (aL x y)) (F := fun x y => some (.inr (.inl (x + y)))) (fun lv st w => rfl) (fun a b z h => by cases h; rw [cbL_add])
  | lsub => exact hl2_ok (scr := scr) (nL := nL) (pc := pc) (o := (.lsub, ln, a, b, v)) (f := fun x y => some (sL x y)) (F := fun x y => some (.inr (.inl (x - y)))) (fun lv st w => rfl) (fun a b z h => by cases h; rw [cbL_sub])
  | lmul => exact hl2_ok (scr := scr) (nL := nL) (pc := pc) (o := (.lmul, ln, a, b, v)) (f := fun x y => some (mL x y)) (F := fun x y => some (.inr (.inl (x * y)))) (fun lv st w => rfl) (fun a b z h => by cases h; rw [cbL_mul])
  | land => exact hor_ok (hl2_ok (F := fun x y => some (.inr (.inl (x &&& y)))) (fun lv st w => rfl) (fun a b z h => by cases h; rw [cbL_and])) (hlandv_ok (fun lv st w => rfl))
  | lor => exact hor_ok (hl2_ok (F := fun x y => some (.inr (.inl (x ||| y)))) (fun lv st w => rfl) (fun a b z h => by cases h; rw [cbL_or])) (hlorv_ok (fun lv st w => rfl))
  | lxor => exact hl2_ok (scr := scr) (nL := nL) (pc := pc) (o := (.lxor, ln, a, b, v)) (f := fun x y => some ((x % 18446744073709551616) ^^^ (y % 18446744073709551616))) (F := fun x y => some (.inr (.inl (x ^^^ y)))) (fun lv st w => rfl) (fun a b z h => by cases h; rw [cbL_xor])
  | ldiv => exact hl2_ok (F := fun x y => if y = 0 then none else some (.inr (.inl (x / y)))) (fun lv st w => rfl) (fun a b z h => by
      rcases cond_two h with ⟨-, h⟩ | ⟨g, h⟩
      · cases h
      · cases h
        rw [if_neg (fun hz => by
          have h1 : (cL b).toBitVec.toNat = 0 := by rw [hz]; rfl
          rw [cbL_n] at h1
          rw [h1] at g
          cases g), cbL_div])
  | lrem => exact hl2_ok (F := fun x y => if y = 0 then none else some (.inr (.inl (x - x / y * y)))) (fun lv st w => rfl) (fun a b z h => by
      rcases cond_two h with ⟨-, h⟩ | ⟨g, h⟩
      · cases h
      · cases h
        rw [if_neg (fun hz => by
          have h1 : (cL b).toBitVec.toNat = 0 := by rw [hz]; rfl
          rw [cbL_n] at h1
          rw [h1] at g
          cases g), cbL_div, cbL_mul, cbL_sub])
  | lcmp => exact hlcmp_ok (fun lv st w => rfl)
  | lneg => exact hl1_ok (F := fun x => .inr (.inl (-x))) (fun lv st w => rfl) (fun e a => by rw [cbL_neg]; rfl)
  | l2i => exact hl1_ok (F := fun x => .inl x.toInt32) (fun lv st w => rfl) (fun e a => by rw [cbI_l2i, cv_0, cbI_mod])
  | i2l => exact hor_ok (hi1_ok (F := fun x => .inr (.inl x.toInt64)) (fun lv st w => rfl) (fun e a => by rw [cbL_i2l, cv_1, cbL_mod])) (hi2lv_ok (fun lv st w => rfl))
  | i2c => exact hor_ok (hi1_ok (F := fun x => .inl (x.toUInt32 % 65536).toInt32) (fun lv st w => rfl) (fun e a => by rw [cbI_i2c]; rfl)) (hi2cv_ok (fun lv st w => rfl))
  | lshl => exact hshlv_ok (fun lv st w => rfl)
  | dup => exact hdup_ok (fun lv st w => rfl)
  | pop => exact hpop_ok (fun lv st w => rfl)
  | dup2 => exact hdup2_ok (fun lv st w => rfl)
  | pop2 => exact hpop2_ok (fun lv st w => rfl)
  | goto n =>
    intro e C lv st w q hR hC h1
    cases h1
    rfl
  | ifCond c n => exact hjf_ok (fun lv st w => rfl)
  | if_icmp c n => exact hjc_ok (fun lv st w => rfl)
  | getfield n => exact hgf_ok (fun lv st w => rfl)
  | putfield n => exact hpf_ok (fun lv st w => rfl)
  | iaload => exact hld_ok (fun lv st w => rfl)
  | caload => exact hld_ok (fun lv st w => rfl)
  | baload => exact hld_ok (fun lv st w => rfl)
  | laload => exact hld_ok (fun lv st w => rfl)
  | aaload => exact hld_ok (fun lv st w => rfl)
  | iastore => exact hst_ok (fun lv st w => rfl)
  | castore => exact hst_ok (fun lv st w => rfl)
  | bastore => exact hst_ok (fun lv st w => rfl)
  | lastore => exact hst_ok (fun lv st w => rfl)
  | aastore => exact hast_ok (fun lv st w => rfl)
  | arraylength => exact halen_ok (fun lv st w => rfl)
  | getstatic n => exact hpush_ok (x := .inr (.inr (.inr (some a)))) (fun lv st w => rfl) (fun e => rfl)
  | new n =>
    by_cases h0 : v = 0
    · subst h0
      exact hnew_ok (fun lv st w => rfl)
    · have E : comp ret he nL pc nL2 (.new n, ln, a, b, v) = if v = 1 ∧ he = true then (5, fun _ _ _ _ => none, fno, a, n, 0, 0) else (9, fun _ _ _ _ => none, fno, 0, 0, 0, 0) := if_neg h0
      rw [E] at h
      split at h <;> cases h
  | newarray n => exact hnwa_ok (fun lv st w => rfl)
  | anewarray n => exact hnwq_ok (fun lv st w => rfl)
  | lookupswitch d ps =>
    refine hor_ok (hsw_ok (fun lv x r w t ht => ?_)) (hswd_ok (fun lv st w => rfl))
    unfold glw at ht
    split at ht
    · rename_i h0
      cases ht
      exact if_pos h0
    · cases ht
  | tableswitch d lo hi offs =>
    refine hsw_ok (fun lv x r w t ht => ?_)
    show btsw pc d lo hi offs lv (.inl x :: r) w = _
    unfold gtw at ht
    unfold btsw
    simp only []
    split at ht
    · rename_i h0
      rw [if_pos h0]
      split at ht
      · rename_i h1
        cases ht
        exact if_pos h1
      · cases ht
    · rename_i h0
      rw [if_neg h0]
      split at ht
      · rename_i off hoff
        rw [hoff]
        simp only []
        split at ht
        · rename_i h1
          cases ht
          exact if_pos h1
        · cases ht
      · cases ht
  | invokespecial n =>
    by_cases h1 : v = 1
    · subst h1
      exact hobj_ok (fun lv st w => rfl)
    · have E : comp ret he nL pc nL2 (.invokespecial n, ln, a, b, v) = if v = 0 then (3, fun _ _ _ _ => none, fno, a, b, nL2, v) else (9, fun _ _ _ _ => none, fno, 0, 0, 0, 0) := if_neg h1
      rw [E] at h
      split at h <;> cases h
  | ireturn =>
    exfalso
    revert h
    show ¬ (match ret with
      | some t => (match kf t with
        | 0 => ((4, fun _ _ _ _ => none, fno, 0, 0, 0, 0) : sO)
        | 2 => (4, fun _ _ _ _ => none, fno, 2, 0, 0, 0)
        | 3 => (4, fun _ _ _ _ => none, fno, 3, 0, 0, 0)
        | _ => (9, fun _ _ _ _ => none, fno, 0, 0, 0, 0))
      | none => (9, fun _ _ _ _ => none, fno, 0, 0, 0, 0)).1 = 0
    cases ret with
    | none => intro h; cases h
    | some t => cases t <;> (intro h; cases h)
  | lreturn =>
    exfalso
    revert h
    cases ret with
    | none => intro h; cases h
    | some t => cases t <;> (intro h; cases h)
  | areturn =>
    exfalso
    revert h
    cases ret with
    | none => intro h; cases h
    | some t => cases t <;> (intro h; cases h)
  | return_ =>
    exfalso
    revert h
    cases ret with
    | none => intro h; cases h
    | some t => intro h; cases h
  | _ => cases h
end EXEC2
