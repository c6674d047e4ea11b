/-! What a step leaves of the world's size. -/
section BMONO
variable {pc nL : Nat} {E : Nat → bC} {lv : List (Nat × bV)} {st : List bV} {w : bW}
def bmo (w w2 : bW) : Prop := w2.2 = w.2 ∧ w.1.length ≤ w2.1.length ∧ bsz w.1 ≤ bsz w2.1
theorem bmo_r (w : bW) : bmo w w := ⟨rfl, Nat.le_refl _, Nat.le_refl _⟩
theorem bmo_set {w : bW} {r : Nat} {c c0 : bC} (h : w.1[r]? = some c0) (hc : bcs c = bcs c0) : bmo w (w.1.set r c, w.2) := ⟨rfl, by simp, by rw [bsz_set h hc]; exact Nat.le_refl _⟩
theorem bmo_push {w : bW} {c : bC} : bmo w (w.1 ++ [c], w.2) := ⟨rfl, by simp, by rw [bsz_push]; exact Nat.le_add_right _ _⟩
theorem bstep_mo {o : bO} {q : bF} (h : bstep E nL o pc lv st w = some q) : bmo w q.2.2.2 := by
  obtain ⟨ins, ln, a, b, v⟩ := o
  cases ins with
  | iconst n =>
    cases h
    exact bmo_r w
  | bipush n =>
    cases h
    exact bmo_r w
  | sipush n =>
    cases h
    exact bmo_r w
  | ldc ix =>
    cases h
    exact bmo_r w
  | ldc2_w ix =>
    cases h
    exact bmo_r w
  | lconst n =>
    cases h
    exact bmo_r w
  | iload_n i =>
    obtain ⟨x, hk, rfl⟩ := bldl0_inv h
    exact bmo_r w
  | iload i =>
    obtain ⟨x, hk, rfl⟩ := bldl0_inv h
    exact bmo_r w
  | lload_n i =>
    obtain ⟨x, hk, rfl⟩ := bldl1_inv h
    exact bmo_r w
  | lload i =>
    obtain ⟨x, hk, rfl⟩ := bldl1_inv h
    exact bmo_r w
  | aload_n i =>
    rcases bldl2_inv h with ⟨x, hk, rfl⟩ | ⟨x, hk, rfl⟩
    · exact bmo_r w
    · exact bmo_r w
  | aload i =>
    rcases bldl2_inv h with ⟨x, hk, rfl⟩ | ⟨x, hk, rfl⟩
    · exact bmo_r w
    · exact bmo_r w
  | istore_n i =>
    obtain ⟨x, r, rfl, hi, rfl⟩ := bstl0_inv h
    exact bmo_r w
  | istore i =>
    obtain ⟨x, r, rfl, hi, rfl⟩ := bstl0_inv h
    exact bmo_r w
  | lstore_n i =>
    obtain ⟨x, r, rfl, hi, rfl⟩ := bstl1_inv h
    exact bmo_r w
  | lstore i =>
    obtain ⟨x, r, rfl, hi, rfl⟩ := bstl1_inv h
    exact bmo_r w
  | astore_n i =>
    obtain ⟨x, r, rfl, hi, rfl⟩ := bstl2_inv h
    exact bmo_r w
  | astore i =>
    obtain ⟨x, r, rfl, hi, rfl⟩ := bstl2_inv h
    exact bmo_r w
  | iinc i n =>
    obtain ⟨x, hk, hi, rfl⟩ := binc_inv h
    exact bmo_r w
  | iadd =>
    have h : bi2 pc lv st w (fun x y => some (x + y)) = some q := h
    obtain ⟨x, y, v, r, rfl, hf, rfl⟩ := bi2_inv h
    exact bmo_r w
  | isub =>
    have h : bi2 pc lv st w (fun x y => some (x - y)) = some q := h
    obtain ⟨x, y, v, r, rfl, hf, rfl⟩ := bi2_inv h
    exact bmo_r w
  | imul =>
    have h : bi2 pc lv st w (fun x y => some (x * y)) = some q := h
    obtain ⟨x, y, v, r, rfl, hf, rfl⟩ := bi2_inv h
    exact bmo_r w
  | iand =>
    have h : bi2 pc lv st w (fun x y => some (x &&& y)) = some q := h
    obtain ⟨x, y, v, r, rfl, hf, rfl⟩ := bi2_inv h
    exact bmo_r w
  | ior =>
    have h : bi2 pc lv st w (fun x y => some (x ||| y)) = some q := h
    obtain ⟨x, y, v, r, rfl, hf, rfl⟩ := bi2_inv h
    exact bmo_r w
  | idiv =>
    have h : bi2 pc lv st w (fun x y => if y = 0 then none else some (x / y)) = some q := h
    obtain ⟨x, y, v, r, rfl, hf, rfl⟩ := bi2_inv h
    exact bmo_r w
  | irem =>
    have h : bi2 pc lv st w (fun x y => if y = 0 then none else some (x - x / y * y)) = some q := h
    obtain ⟨x, y, v, r, rfl, hf, rfl⟩ := bi2_inv h
    exact bmo_r w
  | ineg =>
    have h : bi1 pc lv st w (fun x => .inl (-x)) = some q := h
    obtain ⟨x, r, rfl, rfl⟩ := bi1_inv h
    exact bmo_r w
  | ladd =>
    have h : bl2 pc lv st w (fun x y => some (.inr (.inl (x + y)))) = some q := h
    obtain ⟨x, y, v, r, rfl, hf, rfl⟩ := bl2_inv h
    exact bmo_r w
  | lsub =>
    have h : bl2 pc lv st w (fun x y => some (.inr (.inl (x - y)))) = some q := h
    obtain ⟨x, y, v, r, rfl, hf, rfl⟩ := bl2_inv h
    exact bmo_r w
  | lmul =>
    have h : bl2 pc lv st w (fun x y => some (.inr (.inl (x * y)))) = some q := h
    obtain ⟨x, y, v, r, rfl, hf, rfl⟩ := bl2_inv h
    exact bmo_r w
  | land =>
    have h : bl2 pc lv st w (fun x y => some (.inr (.inl (x &&& y)))) = some q := h
    obtain ⟨x, y, v, r, rfl, hf, rfl⟩ := bl2_inv h
    exact bmo_r w
  | lor =>
    have h : bl2 pc lv st w (fun x y => some (.inr (.inl (x ||| y)))) = some q := h
    obtain ⟨x, y, v, r, rfl, hf, rfl⟩ := bl2_inv h
    exact bmo_r w
  | lxor =>
    have h : bl2 pc lv st w (fun x y => some (.inr (.inl (x ^^^ y)))) = some q := h
    obtain ⟨x, y, v, r, rfl, hf, rfl⟩ := bl2_inv h
    exact bmo_r w
  | ldiv =>
    have h : bl2 pc lv st w (fun x y => if y = 0 then none else some (.inr (.inl (x / y)))) = some q := h
    obtain ⟨x, y, v, r, rfl, hf, rfl⟩ := bl2_inv h
    exact bmo_r w
  | lrem =>
    have h : bl2 pc lv st w (fun x y => if y = 0 then none else some (.inr (.inl (x - x / y * y)))) = some q := h
    obtain ⟨x, y, v, r, rfl, hf, rfl⟩ := bl2_inv h
    exact bmo_r w
  | lcmp =>
    have h : bl2 pc lv st w (fun x y => some (.inl (lg_cmp x y))) = some q := h
    obtain ⟨x, y, v, r, rfl, hf, rfl⟩ := bl2_inv h
    exact bmo_r w
  | lneg =>
    have h : bl1 pc lv st w (fun x => .inr (.inl (-x))) = some q := h
    obtain ⟨x, r, rfl, rfl⟩ := bl1_inv h
    exact bmo_r w
  | l2i =>
    have h : bl1 pc lv st w (fun x => .inl x.toInt32) = some q := h
    obtain ⟨x, r, rfl, rfl⟩ := bl1_inv h
    exact bmo_r w
  | i2l =>
    have h : bi1 pc lv st w (fun x => .inr (.inl x.toInt64)) = some q := h
    obtain ⟨x, r, rfl, rfl⟩ := bi1_inv h
    exact bmo_r w
  | i2c =>
    have h : bi1 pc lv st w (fun x => .inl (x.toUInt32 % 65536).toInt32) = some q := h
    obtain ⟨x, r, rfl, rfl⟩ := bi1_inv h
    exact bmo_r w
  | lshl =>
    have h : bls pc lv st w (fun x y => x <<< (y.toInt64 &&& 63)) = some q := h
    obtain ⟨x, y, r, rfl, rfl⟩ := bls_inv h
    exact bmo_r w
  | lshr =>
    have h : bls pc lv st w (fun x y => x >>> (y.toInt64 &&& 63)) = some q := h
    obtain ⟨x, y, r, rfl, rfl⟩ := bls_inv h
    exact bmo_r w
  | goto off =>
    cases h
    exact bmo_r w
  | ifCond cd off =>
    obtain ⟨x, r, rfl, rfl⟩ := bjf_inv h
    exact bmo_r w
  | if_icmp cd off =>
    obtain ⟨x, y, r, rfl, rfl⟩ := bjc_inv h
    exact bmo_r w
  | iaload =>
    obtain ⟨i, a, v, r, -, -, rfl⟩ := bld_inv h
    exact bmo_r w
  | caload =>
    obtain ⟨i, a, v, r, -, -, rfl⟩ := bld_inv h
    exact bmo_r w
  | baload =>
    obtain ⟨i, a, v, r, -, -, rfl⟩ := bld_inv h
    exact bmo_r w
  | laload =>
    obtain ⟨i, a, v, r, -, -, rfl⟩ := bld_inv h
    exact bmo_r w
  | aaload =>
    obtain ⟨i, a, v, r, -, -, rfl⟩ := bld_inv h
    exact bmo_r w
  | iastore =>
    obtain ⟨x, i, r, rest, xs, rfl, h1, h2, rfl⟩ := bast_inv h
    exact bmo_set h1 (by simp [bcs])
  | castore =>
    obtain ⟨x, i, r, rest, xs, rfl, h1, h2, rfl⟩ := bast_inv h
    exact bmo_set h1 (by simp [bcs])
  | bastore =>
    obtain ⟨x, i, r, rest, xs, rfl, h1, h2, rfl⟩ := bast_inv h
    exact bmo_set h1 (by simp [bcs])
  | lastore =>
    obtain ⟨x, i, r, rest, xs, rfl, h1, h2, rfl⟩ := blast_inv h
    exact bmo_set h1 (by simp [bcs])
  | aastore =>
    obtain ⟨v, i, r, rest, t, ci, xs, fs, rfl, h1, h2, h3, h4, h5, rfl⟩ := baast_inv h
    exact bmo_set h1 (by simp [bcs])
  | dup =>
    obtain ⟨v, r, rfl, h1, rfl⟩ := bdup_inv h
    exact bmo_r w
  | pop =>
    obtain ⟨v, r, rfl, h1, rfl⟩ := bpop_inv h
    exact bmo_r w
  | dup2 =>
    rcases bdup2_inv h with ⟨v, r, rfl, h1, rfl⟩ | ⟨v, u, r, rfl, h1, h2, rfl⟩
    · exact bmo_r w
    · exact bmo_r w
  | pop2 =>
    obtain ⟨v, r, rfl, h1, rfl⟩ := bpop2_inv h
    exact bmo_r w
  | getfield ix =>
    obtain ⟨r, rest, fs, v, rfl, h1, h2, rfl⟩ := bgf_inv h
    exact bmo_r w
  | putfield ix =>
    obtain ⟨r, v, rest, fs, rfl, h1, h2, h3, rfl⟩ := bpf_inv h
    exact bmo_set h1 (by simp [bcs])
  | arraylength =>
    obtain ⟨a, r, c1, n, rfl, h1, h2, rfl⟩ := balen_inv h
    exact bmo_r w
  | getstatic ix =>
    cases h
    exact bmo_r w
  | new ix =>
    obtain ⟨h0, h1, rfl⟩ := bnew_inv h
    exact bmo_push
  | newarray ty =>
    obtain ⟨n, r, rfl, h0, h1, h2, rfl⟩ := bnwa_inv h
    exact bmo_push
  | anewarray ix =>
    obtain ⟨n, r, rfl, h0, h1, h2, rfl⟩ := bnwq_inv h
    exact bmo_push
  | invokespecial ix =>
    obtain ⟨x, r, rfl, h1, h2, rfl⟩ := bobj_inv h
    exact bmo_r w
  | lookupswitch d ps =>
    obtain ⟨x, r, rfl, h1, rfl⟩ := blsw_inv h
    exact bmo_r w
  | tableswitch d lo hi offs =>
    obtain ⟨x, r, off, rfl, h1, h2, rfl⟩ := btsw_inv h
    exact bmo_r w
  | _ => cases h
end BMONO
