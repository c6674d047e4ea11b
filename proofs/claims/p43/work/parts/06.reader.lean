/-! THE READER: the code read in big steps over a list of cells (this file); what it reads, the machine does (next file). -/
abbrev bV : Type := Int32 ⊕ Int64 ⊕ Nat ⊕ Option Nat
abbrev bC : Type := (Nat × List bV) ⊕ (Nat × List Int32) ⊕ List Int64 ⊕ (Nat × List (Option Nat))
abbrev bW : Type := List bC × Nat
abbrev bO : Type := Instr × Nat × Nat × Nat × Int
/-- the handlers of a throw: rows of the table with the name behind -/
abbrev bH : Type := List ((Nat × Nat × Nat × Nat) × String)
abbrev bM : Type := MethodName × ByteArray × Nat × Option FieldType × bH
abbrev bR : Type := Option bV ⊕ String
def bvc (v : bV) : Nat := match v with | .inr (.inl _) => 2 | _ => 1
def bvv (K : KE) (v : bV) : Value := match v with
  | .inl x => .int x
  | .inr (.inl x) => .long x
  | .inr (.inr (.inl k)) => .ref (K.B + k)
  | .inr (.inr (.inr none)) => .null
  | .inr (.inr (.inr (some j))) => .ref (K.X j)
theorem bvc_v (K : KE) (v : bV) : (bvv K v).category = bvc v := by
  rcases v with x | x | k | _ | j <;> rfl
def bce (K : KE) (c : bC) : va_E := match c with
  | .inl (ci, fs) => .inr (ci, fs.map (bvv K))
  | .inr (.inl (t, xs)) => .inl (K.cy t, xs.length, .inl (fun j => xs.getD j 0))
  | .inr (.inr (.inl xs)) => .inl (K.cy 2, xs.length, .inr (.inl (fun j => xs.getD j 0)))
  | .inr (.inr (.inr (t, xs))) => .inl (K.cy t, xs.length, .inr (.inr (.inr (.inr (fun j => (xs.getD j none).map (fun k => K.B + k))))))
def bcs (c : bC) : Nat := match c with
  | .inl (_, fs) => fs.length
  | .inr (.inl (_, xs)) => xs.length
  | .inr (.inr (.inl xs)) => xs.length
  | .inr (.inr (.inr (_, xs))) => xs.length
def bsz (cs : List bC) : Nat := (cs.map bcs).sum
def bct (K : KE) (cs : List bC) : Nat → va_E := fun k => match cs[k]? with
  | some c => bce K c
  | none => .inr (0, [])
theorem bct_at {K : KE} {cs : List bC} {r : Nat} {c : bC} (h : cs[r]? = some c) : bct K cs r = bce K c := by
  unfold bct; rw [h]
theorem bct_set {K : KE} {cs : List bC} {r : Nat} {c : bC} (h : r < cs.length) : bct K (cs.set r c) = bw_up (bct K cs) r (bce K c) := by
  funext k
  by_cases hk : k = r
  · subst hk
    rw [bw_eq]
    exact bct_at (by simp [h])
  · rw [bw_ne hk]
    unfold bct
    rw [List.getElem?_set_ne (fun q => hk q.symm)]
theorem bct_push {K : KE} {cs : List bC} {c : bC} : bct K (cs ++ [c]) = bw_up (bct K cs) cs.length (bce K c) := by
  funext k
  by_cases hk : k = cs.length
  · subst hk
    rw [bw_eq]
    exact bct_at (by simp)
  · rw [bw_ne hk]
    unfold bct
    by_cases h2 : k < cs.length
    · rw [List.getElem?_append_left h2]
    · rw [List.getElem?_eq_none (by simp; omega), List.getElem?_eq_none (by omega)]
theorem bsz_push (cs : List bC) (c : bC) : bsz (cs ++ [c]) = bsz cs + bcs c := by simp [bsz]
theorem bsz_set {cs : List bC} {r : Nat} {c c' : bC} (h : cs[r]? = some c') (hc : bcs c = bcs c') : bsz (cs.set r c) = bsz cs := by
  induction cs generalizing r with
  | nil => cases h
  | cons a t ih =>
    cases r with
    | zero => cases h; simp [bsz, hc]
    | succ r => have h1 := ih (r := r) h; simp only [bsz, List.map_set] at h1; simp [bsz, h1]
def bty (ci : Nat) : List FieldType := match ci with
  | 2 => (List.range 6).map tyX0
  | 3 => (List.range 2).map tyX1
  | 4 => (List.range 2).map tyX2
  | 5 => (List.range 13).map tyX3
  | 6 => (List.range 2).map tyX4
  | 7 => (List.range 12).map tyX5
  | 8 => (List.range 8).map tyX6
  | 9 => (List.range 4).map tyX7
  | 10 => (List.range 13).map tyX8
  | 11 => (List.range 7).map tyX9
  | 12 => (List.range 2).map tyX10
  | 13 => (List.range 17).map tyX11
  | 14 => (List.range 43).map tyX12
  | _ => []
def bdf (t : FieldType) : bV := match t with
  | .long => .inr (.inl 0)
  | .object _ => .inr (.inr (.inr none))
  | .array _ => .inr (.inr (.inr none))
  | _ => .inl 0
def bokf (t : FieldType) (v : bV) : Bool := match t, v with
  | .int, .inl _ => true
  | .long, .inr (.inl _) => true
  | .boolean, .inl x => decide (narrow .boolean (.int x) = .int x) && fits .boolean (.int x)
  | .char, .inl x => decide (narrow .char (.int x) = .int x) && fits .char (.int x)
  | .object _, .inr (.inr _) => true
  | .array _, .inr (.inr _) => true
  | _, _ => false
def bcmp (c : ClassFile.Cond) (x y : Int32) : Bool := match c with
  | .eq => decide (x = y)
  | .ne => decide (x ≠ y)
  | .lt => decide (x < y)
  | .ge => decide (x ≥ y)
  | .gt => decide (x > y)
  | .le => decide (x ≤ y)
def bin (i : Int32) (n : Nat) : Bool := decide (¬ i < 0) && decide (i.toNatClampNeg < n)
def blk (lv : List (Nat × bV)) (i : Nat) : Option bV := match lv with
  | [] => none
  | q :: t => if q.1 = i then some q.2 else blk t i
def bst1 (lv : List (Nat × bV)) (i : Nat) (v : bV) : List (Nat × bV) := (i, v) :: lv.filter (fun q => !(q.1 == i) && !(q.1 + 1 == i && bvc q.2 == 2))
def bst2 (lv : List (Nat × bV)) (i : Nat) (v : bV) : List (Nat × bV) := (i, v) :: lv.filter (fun q => !(q.1 == i) && (!(q.1 == i + 1) && !(q.1 + 1 == i && bvc q.2 == 2)))
abbrev bF : Type := Nat × List (Nat × bV) × List bV × bW
/-- an array cell, in the world or outside -/
def barr (E : Nat → bC) (w : bW) (v : bV) : Option bC := match v with
  | .inr (.inr (.inl r)) => w.1[r]?
  | .inr (.inr (.inr (some j))) => some (E j)
  | _ => none
def bload (i : Int32) (t : Nat) (c : Option bC) : Option bV := match c with
  | some (.inr (.inl (t', xs))) => if t' = t ∧ (t = 0 ∨ t = 1 ∨ t = 3) ∧ bin i xs.length = true then some (.inl (xs.getD i.toNatClampNeg 0)) else none
  | some (.inr (.inr (.inl xs))) => if t = 2 ∧ bin i xs.length = true then some (.inr (.inl (xs.getD i.toNatClampNeg 0))) else none
  | some (.inr (.inr (.inr (t', xs)))) => if t = 4 ∧ (t' = 4 ∨ t' = 5) ∧ bin i xs.length = true then some (match xs.getD i.toNatClampNeg none with | none => .inr (.inr (.inr none)) | some k => .inr (.inr (.inl k))) else none
  | _ => none
def bld (E : Nat → bC) (pc t : Nat) (lv : List (Nat × bV)) (st : List bV) (w : bW) : Option bF := match st with
  | .inl i :: a :: r => match bload i t (barr E w a) with
    | some v => some (pc + 1, lv, v :: r, w)
    | none => none
  | _ => none
def bast (pc t : Nat) (lv : List (Nat × bV)) (st : List bV) (w : bW) : Option bF := match st with
  | .inl x :: .inl i :: .inr (.inr (.inl r)) :: rest => match w.1[r]? with
    | some (.inr (.inl (t', xs))) => if t' = t ∧ bin i xs.length = true then some (pc + 1, lv, rest, (w.1.set r (.inr (.inl (t, xs.set i.toNatClampNeg (vp_nar (if t = 0 then .char else if t = 3 then .boolean else .int) x)))), w.2)) else none
    | _ => none
  | _ => none
def blast (pc : Nat) (lv : List (Nat × bV)) (st : List bV) (w : bW) : Option bF := match st with
  | .inr (.inl x) :: .inl i :: .inr (.inr (.inl r)) :: rest => match w.1[r]? with
    | some (.inr (.inr (.inl xs))) => if bin i xs.length = true then some (pc + 1, lv, rest, (w.1.set r (.inr (.inr (.inl (xs.set i.toNatClampNeg x)))), w.2)) else none
    | _ => none
  | _ => none
def bcls (t : Nat) : Nat := if t = 4 then 4 else 7
def baast (pc : Nat) (lv : List (Nat × bV)) (st : List bV) (w : bW) : Option bF := match st with
  | .inr (.inr (.inl v)) :: .inl i :: .inr (.inr (.inl r)) :: rest => match w.1[r]?, w.1[v]? with
    | some (.inr (.inr (.inr (t, xs)))), some (.inl (ci, _)) => if (t = 4 ∨ t = 5) ∧ ci = bcls t ∧ bin i xs.length = true then some (pc + 1, lv, rest, (w.1.set r (.inr (.inr (.inr (t, xs.set i.toNatClampNeg (some v))))), w.2)) else none
    | _, _ => none
  | _ => none
def blen (c : bC) : Option Nat := match c with
  | .inr (.inl (t, xs)) => if t = 0 ∨ t = 1 ∨ t = 3 then some xs.length else none
  | .inr (.inr (.inl xs)) => some xs.length
  | .inr (.inr (.inr (t, xs))) => if t = 4 ∨ t = 5 then some xs.length else none
  | _ => none
def bi1 (pc : Nat) (lv : List (Nat × bV)) (st : List bV) (w : bW) (f : Int32 → bV) : Option bF := match st with
  | .inl x :: r => some (pc + 1, lv, f x :: r, w)
  | _ => none
def bi2 (pc : Nat) (lv : List (Nat × bV)) (st : List bV) (w : bW) (f : Int32 → Int32 → Option Int32) : Option bF := match st with
  | .inl y :: .inl x :: r => match f x y with
    | some v => some (pc + 1, lv, .inl v :: r, w)
    | none => none
  | _ => none
def bl1 (pc : Nat) (lv : List (Nat × bV)) (st : List bV) (w : bW) (f : Int64 → bV) : Option bF := match st with
  | .inr (.inl x) :: r => some (pc + 1, lv, f x :: r, w)
  | _ => none
def bl2 (pc : Nat) (lv : List (Nat × bV)) (st : List bV) (w : bW) (f : Int64 → Int64 → Option bV) : Option bF := match st with
  | .inr (.inl y) :: .inr (.inl x) :: r => match f x y with
    | some v => some (pc + 1, lv, v :: r, w)
    | none => none
  | _ => none
def bls (pc : Nat) (lv : List (Nat × bV)) (st : List bV) (w : bW) (f : Int64 → Int32 → Int64) : Option bF := match st with
  | .inl y :: .inr (.inl x) :: r => some (pc + 1, lv, .inr (.inl (f x y)) :: r, w)
  | _ => none
def bldl (k : Nat) (pc n i : Nat) (lv : List (Nat × bV)) (st : List bV) (w : bW) : Option bF := match k, blk lv i with
  | 0, some (.inl x) => some (pc + n, lv, .inl x :: st, w)
  | 1, some (.inr (.inl x)) => some (pc + n, lv, .inr (.inl x) :: st, w)
  | 2, some (.inr (.inr (.inl x))) => some (pc + n, lv, .inr (.inr (.inl x)) :: st, w)
  | 2, some (.inr (.inr (.inr (some x)))) => some (pc + n, lv, .inr (.inr (.inr (some x))) :: st, w)
  | _, _ => none
/-- the locals' number nL bounds what is stored -/
def bstl (k nL : Nat) (pc n i : Nat) (lv : List (Nat × bV)) (st : List bV) (w : bW) : Option bF := match k, st with
  | 0, .inl x :: r => if i < nL then some (pc + n, bst1 lv i (.inl x), r, w) else none
  | 1, .inr (.inl x) :: r => if i + 1 < nL then some (pc + n, bst2 lv i (.inr (.inl x)), r, w) else none
  | 2, .inr (.inr (.inl x)) :: r => if i < nL then some (pc + n, bst1 lv i (.inr (.inr (.inl x))), r, w) else none
  | _, _ => none
def binc (nL pc i : Nat) (n : Int) (lv : List (Nat × bV)) (st : List bV) (w : bW) : Option bF := match blk lv i with
  | some (.inl x) => if i < nL then some (pc + 3, bst1 lv i (.inl (x + Int32.ofInt n)), st, w) else none
  | _ => none
def bdup (pc : Nat) (lv : List (Nat × bV)) (st : List bV) (w : bW) : Option bF := match st with
  | v :: r => if bvc v = 1 then some (pc + 1, lv, v :: v :: r, w) else none
  | _ => none
def bpop (pc : Nat) (lv : List (Nat × bV)) (st : List bV) (w : bW) : Option bF := match st with
  | v :: r => if bvc v = 1 then some (pc + 1, lv, r, w) else none
  | _ => none
def bdup2 (pc : Nat) (lv : List (Nat × bV)) (st : List bV) (w : bW) : Option bF := match st with
  | v :: r => if bvc v = 2 then some (pc + 1, lv, v :: v :: r, w) else (match r with
    | u :: r => if bvc v = 1 ∧ bvc u = 1 then some (pc + 1, lv, v :: u :: v :: u :: r, w) else none
    | _ => none)
  | _ => none
def bpop2 (pc : Nat) (lv : List (Nat × bV)) (st : List bV) (w : bW) : Option bF := match st with
  | v :: r => if bvc v = 2 then some (pc + 1, lv, r, w) else none
  | _ => none
def bjf (cd : ClassFile.Cond) (pc a : Nat) (lv : List (Nat × bV)) (st : List bV) (w : bW) : Option bF := match st with
  | .inl x :: r => some (if bcmp cd x 0 = true then a else pc + 3, lv, r, w)
  | _ => none
def bjc (cd : ClassFile.Cond) (pc a : Nat) (lv : List (Nat × bV)) (st : List bV) (w : bW) : Option bF := match st with
  | .inl y :: .inl x :: r => some (if bcmp cd x y = true then a else pc + 3, lv, r, w)
  | _ => none
def bgf (pc a b : Nat) (lv : List (Nat × bV)) (st : List bV) (w : bW) : Option bF := match st with
  | .inr (.inr (.inl r)) :: rest => match w.1[r]? with
    | some (.inl (ci, fs)) => if ci = a then (match fs[b]? with
      | some v => some (pc + 3, lv, v :: rest, w)
      | none => none) else none
    | _ => none
  | _ => none
def bpf (pc a b : Nat) (lv : List (Nat × bV)) (st : List bV) (w : bW) : Option bF := match st with
  | v :: .inr (.inr (.inl r)) :: rest => match w.1[r]? with
    | some (.inl (ci, fs)) => if ci = a ∧ b < fs.length ∧ bokf ((bty a).getD b .byte) v = true then some (pc + 3, lv, rest, (w.1.set r (.inl (ci, fs.set b v)), w.2)) else none
    | _ => none
  | _ => none
def balen (E : Nat → bC) (pc : Nat) (lv : List (Nat × bV)) (st : List bV) (w : bW) : Option bF := match st with
  | a :: r => match barr E w a with
    | some c => (match blen c with
      | some n => some (pc + 1, lv, .inl (Int32.ofNat n) :: r, w)
      | none => none)
    | none => none
  | _ => none
def bnew (pc a : Nat) (v : Int) (lv : List (Nat × bV)) (st : List bV) (w : bW) : Option bF :=
  if w.2 = 0 ∧ v = 0 then some (pc + 3, lv, .inr (.inr (.inl w.1.length)) :: st, (w.1 ++ [.inl (a, (bty a).map bdf)], w.2)) else none
def bnwa (pc a : Nat) (lv : List (Nat × bV)) (st : List bV) (w : bW) : Option bF := match st with
  | .inl n :: r => if w.2 = 0 ∧ ¬ n < 0 ∧ n.toNatClampNeg * 8 ≤ 536870912 then some (pc + 2, lv, .inr (.inr (.inl w.1.length)) :: r, (w.1 ++ [if a = 2 then .inr (.inr (.inl (List.replicate n.toNatClampNeg 0))) else .inr (.inl (a, List.replicate n.toNatClampNeg 0))], w.2)) else none
  | _ => none
def bnwq (pc a : Nat) (lv : List (Nat × bV)) (st : List bV) (w : bW) : Option bF := match st with
  | .inl n :: r => if w.2 = 0 ∧ ¬ n < 0 ∧ n.toNatClampNeg * 8 ≤ 536870912 then some (pc + 3, lv, .inr (.inr (.inl w.1.length)) :: r, (w.1 ++ [.inr (.inr (.inr (a, List.replicate n.toNatClampNeg none)))], w.2)) else none
  | _ => none
def bobj (pc : Nat) (v : Int) (lv : List (Nat × bV)) (st : List bV) (w : bW) : Option bF := match st with
  | .inr (.inr (.inl _)) :: r => if v = 1 ∧ (r.map bvc).sum ≤ 8 then some (pc + 3, lv, r, w) else none
  | _ => none
def blsw (pc : Nat) (d : Int) (ps : List (Int × Int)) (lv : List (Nat × bV)) (st : List bV) (w : bW) : Option bF := match st with
  | .inl x :: r => if 0 ≤ (pc : Int) + Op.lookupswitch.offset ps d x.toInt then some (((pc : Int) + Op.lookupswitch.offset ps d x.toInt).toNat, lv, r, w) else none
  | _ => none
def btsw (pc : Nat) (d lo hi : Int) (offs : Array Int) (lv : List (Nat × bV)) (st : List bV) (w : bW) : Option bF := match st with
  | .inl x :: r => if x.toInt < lo ∨ hi < x.toInt then (if 0 ≤ (pc : Int) + d then some (((pc : Int) + d).toNat, lv, r, w) else none) else (match offs[(x.toInt - lo).toNat]? with
    | some off => if 0 ≤ (pc : Int) + off then some (((pc : Int) + off).toNat, lv, r, w) else none
    | none => none)
  | _ => none
def bstep (E : Nat → bC) (nL : Nat) (o : bO) (pc : Nat) (lv : List (Nat × bV)) (st : List bV) (w : bW) : Option bF := match o.1 with
  | .iconst n => some (pc + 1, lv, .inl (Int32.ofInt n) :: st, w)
  | .bipush n => some (pc + 2, lv, .inl (Int8.ofInt n).toInt32 :: st, w)
  | .sipush n => some (pc + 3, lv, .inl (Int16.ofInt n).toInt32 :: st, w)
  | .ldc _ => some (pc + 2, lv, .inl (Int32.ofInt o.2.2.2.2) :: st, w)
  | .lconst n => some (pc + 1, lv, .inr (.inl (Int64.ofNat n)) :: st, w)
  | .ldc2_w _ => some (pc + 3, lv, .inr (.inl (Int64.ofInt o.2.2.2.2)) :: st, w)
  | .iload_n k => bldl 0 pc 1 k lv st w
  | .iload i => bldl 0 pc 2 i lv st w
  | .lload_n k => bldl 1 pc 1 k lv st w
  | .lload i => bldl 1 pc 2 i lv st w
  | .aload_n k => bldl 2 pc 1 k lv st w
  | .aload i => bldl 2 pc 2 i lv st w
  | .istore_n k => bstl 0 nL pc 1 k lv st w
  | .istore i => bstl 0 nL pc 2 i lv st w
  | .lstore_n k => bstl 1 nL pc 1 k lv st w
  | .lstore i => bstl 1 nL pc 2 i lv st w
  | .astore_n k => bstl 2 nL pc 1 k lv st w
  | .astore i => bstl 2 nL pc 2 i lv st w
  | .iinc i n => binc nL pc i n lv st w
  | .iadd => bi2 pc lv st w (fun x y => some (x + y))
  | .isub => bi2 pc lv st w (fun x y => some (x - y))
  | .imul => bi2 pc lv st w (fun x y => some (x * y))
  | .iand => bi2 pc lv st w (fun x y => some (x &&& y))
  | .ior => bi2 pc lv st w (fun x y => some (x ||| y))
  | .idiv => bi2 pc lv st w (fun x y => if y = 0 then none else some (x / y))
  | .irem => bi2 pc lv st w (fun x y => if y = 0 then none else some (x - x / y * y))
  | .ineg => bi1 pc lv st w (fun x => .inl (-x))
  | .ladd => bl2 pc lv st w (fun x y => some (.inr (.inl (x + y))))
  | .lsub => bl2 pc lv st w (fun x y => some (.inr (.inl (x - y))))
  | .lmul => bl2 pc lv st w (fun x y => some (.inr (.inl (x * y))))
  | .land => bl2 pc lv st w (fun x y => some (.inr (.inl (x &&& y))))
  | .lor => bl2 pc lv st w (fun x y => some (.inr (.inl (x ||| y))))
  | .lxor => bl2 pc lv st w (fun x y => some (.inr (.inl (x ^^^ y))))
  | .ldiv => bl2 pc lv st w (fun x y => if y = 0 then none else some (.inr (.inl (x / y))))
  | .lrem => bl2 pc lv st w (fun x y => if y = 0 then none else some (.inr (.inl (x - x / y * y))))
  | .lcmp => bl2 pc lv st w (fun x y => some (.inl (lg_cmp x y)))
  | .lneg => bl1 pc lv st w (fun x => .inr (.inl (-x)))
  | .l2i => bl1 pc lv st w (fun x => .inl x.toInt32)
  | .i2l => bi1 pc lv st w (fun x => .inr (.inl x.toInt64))
  | .i2c => bi1 pc lv st w (fun x => .inl (x.toUInt32 % 65536).toInt32)
  | .lshl => bls pc lv st w (fun x y => x <<< (y.toInt64 &&& 63))
  | .lshr => bls pc lv st w (fun x y => x >>> (y.toInt64 &&& 63))
  | .dup => bdup pc lv st w
  | .pop => bpop pc lv st w
  | .dup2 => bdup2 pc lv st w
  | .pop2 => bpop2 pc lv st w
  | .goto _ => some (o.2.2.1, lv, st, w)
  | .ifCond c _ => bjf c pc o.2.2.1 lv st w
  | .if_icmp c _ => bjc c pc o.2.2.1 lv st w
  | .getfield _ => bgf pc o.2.2.1 o.2.2.2.1 lv st w
  | .putfield _ => bpf pc o.2.2.1 o.2.2.2.1 lv st w
  | .iaload => bld E pc 1 lv st w
  | .caload => bld E pc 0 lv st w
  | .baload => bld E pc 3 lv st w
  | .laload => bld E pc 2 lv st w
  | .aaload => bld E pc 4 lv st w
  | .iastore => bast pc 1 lv st w
  | .castore => bast pc 0 lv st w
  | .bastore => bast pc 3 lv st w
  | .lastore => blast pc lv st w
  | .aastore => baast pc lv st w
  | .arraylength => balen E pc lv st w
  | .getstatic _ => some (pc + 3, lv, .inr (.inr (.inr (some o.2.2.1))) :: st, w)
  | .new _ => bnew pc o.2.2.1 o.2.2.2.2 lv st w
  | .newarray _ => bnwa pc o.2.2.1 lv st w
  | .anewarray _ => bnwq pc o.2.2.1 lv st w
  | .invokespecial _ => bobj pc o.2.2.2.2 lv st w
  | .lookupswitch d ps => blsw pc d ps.toList lv st w
  | .tableswitch d lo hi offs => btsw pc d lo hi offs lv st w
  | _ => none
def bret (o : bO) (ret : Option FieldType) (st : List bV) : Option (Option bV) := match o.1, ret, st with
  | .ireturn, some t, [.inl x] => if bokf t (.inl x) = true then some (some (.inl x)) else none
  | .lreturn, some .long, [.inr (.inl x)] => some (some (.inr (.inl x)))
  | .areturn, some (.object _), [.inr (.inr q)] => some (some (.inr (.inr q)))
  | .areturn, some (.array _), [.inr (.inr q)] => some (some (.inr (.inr q)))
  | .return_, none, [] => some none
  | _, _, _ => none
/-- a call: the method, what it is called with, what stays -/
def bcal (o : bO) (st : List bV) (w : bW) : Option (Nat × List bV × List bV) := match o.1 with
  | .invokestatic _ => if o.2.2.2.1 ≤ st.length ∧ ((st.drop o.2.2.2.1).map bvc).sum ≤ 8 then some (o.2.2.1, (st.take o.2.2.2.1).reverse, st.drop o.2.2.2.1) else none
  | .invokevirtual _ => match st.drop o.2.2.2.1 with
    | .inr (.inr (.inl r)) :: rest => (match w.1[r]? with
      | some (.inl (ci, _)) => if (ci : Int) = o.2.2.2.2 ∧ (rest.map bvc).sum ≤ 8 then some (o.2.2.1, .inr (.inr (.inl r)) :: (st.take o.2.2.2.1).reverse, rest) else none
      | _ => none)
    | _ => none
  | .invokespecial _ => match st.drop o.2.2.2.1 with
    | .inr (.inr (.inl r)) :: rest => if o.2.2.2.2 = 0 ∧ (rest.map bvc).sum ≤ 8 then some (o.2.2.1, .inr (.inr (.inl r)) :: (st.take o.2.2.2.1).reverse, rest) else none
    | _ => none
  | _ => none
def blva (i : Nat) (vs : List bV) : List (Nat × bV) := match vs with
  | [] => []
  | v :: t => (i, v) :: blva (i + bvc v) t
abbrev bP : Type := (Nat → Nat → Option bO) × (Nat → bM) × (Nat → bC) × (String → String → Option Bool) × (Nat → String × List String)
abbrev bEx : Type := Nat → Nat → Nat → List (Nat × bV) → List bV → bW → bR → bW → Prop
def bhand (H : bH) (pc : Nat) (E : String) (ok : String → String → Option Bool) : Option Nat := match H with
  | [] => none
  | (q, nm) :: t => if q.1 ≤ pc ∧ pc < q.2.1 then (match ok E nm with
    | some true => some q.2.2.1
    | some false => bhand t pc E ok
    | none => none) else bhand t pc E ok
/-- what a handler does first: it puts the throw into a local -/
def bastk (i : Instr) : Option (Nat × Nat) := match i with
  | .astore_n k => some (k, 1)
  | .astore k => some (k, 2)
  | _ => none
def blvx (lv : List (Nat × bV)) (i : Nat) : List (Nat × bV) := lv.filter (fun q => !(q.1 == i) && !(q.1 + 1 == i && bvc q.2 == 2))
/-- a callee that may throw: no constructor, no nest mate's static method -/
def bnsp (o : bO) : Bool := match o.1 with
  | .invokespecial _ => false
  | .invokestatic _ => decide (o.2.2.2.2 = 0)
  | _ => true
/-- closed under the rules of reading -/
def bClosed (P : bP) (R : bEx) : Prop :=
  (∀ (d mi pc : Nat) (lv : List (Nat × bV)) (st : List bV) (w : bW) (o : bO) (q : bF) (r : bR) (w2 : bW), P.1 mi pc = some o → bstep P.2.2.1 (P.2.1 mi).2.2.1 o pc lv st w = some q → R d mi q.1 q.2.1 q.2.2.1 q.2.2.2 r w2 → R d mi pc lv st w r w2) ∧
  (∀ (d mi pc : Nat) (lv : List (Nat × bV)) (st : List bV) (w : bW) (o : bO) (v : Option bV), P.1 mi pc = some o → bret o (P.2.1 mi).2.2.2.1 st = some v → R d mi pc lv st w (.inl v) w) ∧
  (∀ (d mi pc : Nat) (lv : List (Nat × bV)) (st : List bV) (w : bW) (o : bO) (q : Nat × List bV × List bV) (v : Option bV) (w1 : bW) (r : bR) (w2 : bW), P.1 mi pc = some o → bcal o st w = some q → (q.2.1.map bvc).sum ≤ (P.2.1 q.1).2.2.1 → R d q.1 0 (blva 0 q.2.1) [] w (.inl v) w1 → R (d + 1) mi (pc + 3) lv (v.toList ++ q.2.2) w1 r w2 → R (d + 1) mi pc lv st w r w2) ∧
  (∀ (d mi pc : Nat) (lv : List (Nat × bV)) (st : List bV) (w : bW) (o : bO) (q : Nat × List bV × List bV) (x : String) (w1 : bW), P.1 mi pc = some o → bcal o st w = some q → (q.2.1.map bvc).sum ≤ (P.2.1 q.1).2.2.1 → R d q.1 0 (blva 0 q.2.1) [] w (.inr x) w1 → (P.2.1 mi).2.2.2.2 = [] → bnsp o = true → R (d + 1) mi pc lv st w (.inr x) w1) ∧
  (∀ (d mi pc : Nat) (lv : List (Nat × bV)) (st : List bV) (w : bW) (o : bO) (q : Nat × List bV × List bV) (x : String) (w1 : bW) (hp : Nat) (o2 : bO) (ik : Nat × Nat) (r : bR) (w2 : bW), P.1 mi pc = some o → bcal o st w = some q → (q.2.1.map bvc).sum ≤ (P.2.1 q.1).2.2.1 → R d q.1 0 (blva 0 q.2.1) [] w (.inr x) w1 → bhand (P.2.1 mi).2.2.2.2 pc x P.2.2.2.1 = some hp → P.1 mi hp = some o2 → bnsp o = true → bastk o2.1 = some ik → ik.1 < (P.2.1 mi).2.2.1 → R (d + 1) mi (hp + ik.2) (blvx lv ik.1) [] w1 r w2 → R (d + 1) mi pc lv st w r w2) ∧
  (∀ (d mi pc : Nat) (lv : List (Nat × bV)) (w : bW) (o : bO) (ix : Nat), P.1 mi pc = some o → o.1 = .new ix → o.2.2.2.2 = 1 → (P.2.1 mi).2.2.2.2 = [] → R d mi pc lv [] w (.inr (P.2.2.2.2 o.2.2.1).1) (w.1, w.2 + 1))
/-- the least such -/
def bX (P : bP) : bEx := fun d mi pc lv st w r w2 => ∀ R : bEx, bClosed P R → R d mi pc lv st w r w2
