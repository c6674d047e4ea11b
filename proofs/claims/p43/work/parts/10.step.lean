/-! THE STEP: every instruction that the reader reads. -/
section BSTEPS
variable {p : Program} {l : Launch} {e : Env} {R : Room} {s : State} {m : MethodId} {args : Array Value} {below : List Frame} {meth : Method} {c : Code} {H : Heap} {locs : List Loc} {cells slots : Nat} {Q : State → Prop}
variable {cc : ByteArray} {pc nL : Nat} {own : String} {ls : Array Slot} {K : KE} {E : Nat → bC} {lv : List (Nat × bV)} {st rest : List bV} {w : bW}
theorem bs_stl (C0 : CallFix p m c cc nL s args bw_G own) (hw : bS K.D K.B w.1.length (bct K w.1) s H locs) (hz : w.2 = 0 → H.size = K.B + w.1.length) {lv' : List (Nat × bV)} {pc' : Nat} (k : bCont p l e R s m args below meth c cells slots Q K nL w (pc', lv', rest, w)) : ∀ ls' : Array Slot, lv_has ls' nL (bvl K lv') → W p l e R s m args below meth c H locs cells slots Q (F0 m pc' ls' (rest.map (bvv K))) :=
  fun ls' h => k H locs ls' cells slots hw hz h rfl rfl
theorem bs_jf (C0 : CallFix p m c cc nL s args bw_G own) {cd : ClassFile.Cond} {off : Int} {tgt : Nat} {x : Int32} (hd : decode cc pc = .ok (.ifCond cd off, 3)) (ht : (pc : Int) + off = (tgt : Int)) {rs : List Value} (k : W p l e R s m args below meth c H locs cells slots Q (F0 m (if bcmp cd x 0 = true then tgt else pc + 3) ls rs)) : W p l e R s m args below meth c H locs cells slots Q (F0 m pc ls (.int x :: rs)) := by
  cases cd <;> simp only [bcmp, decide_eq_true_eq] at k
  · exact lv_if_eq C0.1 C0.2.1 hd ht (fun h => by rw [if_pos h] at k; exact k) (fun h => by rw [if_neg h] at k; exact k)
  · exact lv_if_ne C0.1 C0.2.1 hd ht (fun h => by rw [if_pos h] at k; exact k) (fun h => by rw [if_neg (fun q => q h)] at k; exact k)
  · exact lv_if_lt C0.1 C0.2.1 hd ht (fun h => by rw [if_pos h] at k; exact k) (fun h => by rw [if_neg h] at k; exact k)
  · exact lv_if_ge C0.1 C0.2.1 hd ht (fun h => by rw [if_pos h] at k; exact k) (fun h => by rw [if_neg h] at k; exact k)
  · exact lv_if_gt C0.1 C0.2.1 hd ht (fun h => by rw [if_pos h] at k; exact k) (fun h => by rw [if_neg h] at k; exact k)
  · exact lv_if_le C0.1 C0.2.1 hd ht (fun h => by rw [if_pos h] at k; exact k) (fun h => by rw [if_neg h] at k; exact k)
theorem bs_jc (C0 : CallFix p m c cc nL s args bw_G own) {cd : ClassFile.Cond} {off : Int} {tgt : Nat} {x y : Int32} (hd : decode cc pc = .ok (.if_icmp cd off, 3)) (ht : (pc : Int) + off = (tgt : Int)) {rs : List Value} (k : W p l e R s m args below meth c H locs cells slots Q (F0 m (if bcmp cd x y = true then tgt else pc + 3) ls rs)) : W p l e R s m args below meth c H locs cells slots Q (F0 m pc ls (.int y :: .int x :: rs)) := by
  cases cd <;> simp only [bcmp, decide_eq_true_eq] at k
  · exact lv_icmp_eq C0.1 C0.2.1 hd ht (fun h => by rw [if_pos h] at k; exact k) (fun h => by rw [if_neg h] at k; exact k)
  · exact lv_icmp_ne C0.1 C0.2.1 hd ht (fun h => by rw [if_pos h] at k; exact k) (fun h => by rw [if_neg (fun q => q h)] at k; exact k)
  · exact lv_icmp_lt C0.1 C0.2.1 hd ht (fun h => by rw [if_pos h] at k; exact k) (fun h => by rw [if_neg h] at k; exact k)
  · exact lv_icmp_ge C0.1 C0.2.1 hd ht (fun h => by rw [if_pos h] at k; exact k) (fun h => by rw [if_neg h] at k; exact k)
  · exact lv_icmp_gt C0.1 C0.2.1 hd ht (fun h => by rw [if_pos h] at k; exact k) (fun h => by rw [if_neg h] at k; exact k)
  · exact lv_icmp_le C0.1 C0.2.1 hd ht (fun h => by rw [if_pos h] at k; exact k) (fun h => by rw [if_neg h] at k; exact k)
theorem binc_inv {i : Nat} {n : Int} {q : bF} (h : binc nL pc i n lv st w = some q) : ∃ x : Int32, blk lv i = some (.inl x) ∧ i < nL ∧ (pc + 3, bst1 lv i (.inl (x + Int32.ofInt n)), st, w) = q := by
  unfold binc at h
  split at h
  · split at h
    · exact ⟨_, by assumption, by assumption, Option.some.inj h⟩
    · cases h
  · cases h
theorem bdup_inv {q : bF} (h : bdup pc lv st w = some q) : ∃ (v : bV) (r : List bV), st = v :: r ∧ bvc v = 1 ∧ (pc + 1, lv, v :: v :: r, w) = q := by
  unfold bdup at h
  split at h
  · split at h
    · exact ⟨_, _, rfl, by assumption, Option.some.inj h⟩
    · cases h
  · cases h
theorem bpop_inv {q : bF} (h : bpop pc lv st w = some q) : ∃ (v : bV) (r : List bV), st = v :: r ∧ bvc v = 1 ∧ (pc + 1, lv, r, w) = q := by
  unfold bpop at h
  split at h
  · split at h
    · exact ⟨_, _, rfl, by assumption, Option.some.inj h⟩
    · cases h
  · cases h
theorem bdup2_inv {q : bF} (h : bdup2 pc lv st w = some q) : (∃ (v : bV) (r : List bV), st = v :: r ∧ bvc v = 2 ∧ (pc + 1, lv, v :: v :: r, w) = q) ∨ ∃ (v u : bV) (r : List bV), st = v :: u :: r ∧ bvc v = 1 ∧ bvc u = 1 ∧ (pc + 1, lv, v :: u :: v :: u :: r, w) = q := by
  unfold bdup2 at h
  split at h
  · split at h
    · exact Or.inl ⟨_, _, rfl, by assumption, Option.some.inj h⟩
    · split at h
      · split at h
        · rename_i h9
          exact Or.inr ⟨_, _, _, rfl, h9.1, h9.2, Option.some.inj h⟩
        · cases h
      · cases h
  · cases h
theorem bpop2_inv {q : bF} (h : bpop2 pc lv st w = some q) : ∃ (v : bV) (r : List bV), st = v :: r ∧ bvc v = 2 ∧ (pc + 1, lv, r, w) = q := by
  unfold bpop2 at h
  split at h
  · split at h
    · exact ⟨_, _, rfl, by assumption, Option.some.inj h⟩
    · cases h
  · cases h
theorem bjf_inv {cd : ClassFile.Cond} {a : Nat} {q : bF} (h : bjf cd pc a lv st w = some q) : ∃ (x : Int32) (r : List bV), st = .inl x :: r ∧ (if bcmp cd x 0 = true then a else pc + 3, lv, r, w) = q := by
  unfold bjf at h
  split at h
  · exact ⟨_, _, rfl, Option.some.inj h⟩
  · cases h
theorem bjc_inv {cd : ClassFile.Cond} {a : Nat} {q : bF} (h : bjc cd pc a lv st w = some q) : ∃ (x y : Int32) (r : List bV), st = .inl y :: .inl x :: r ∧ (if bcmp cd x y = true then a else pc + 3, lv, r, w) = q := by
  unfold bjc at h
  split at h
  · exact ⟨_, _, _, rfl, Option.some.inj h⟩
  · cases h
theorem bgf_inv {a b : Nat} {q : bF} (h : bgf pc a b lv st w = some q) : ∃ (r : Nat) (rest fs : List bV) (v : bV), st = .inr (.inr (.inl r)) :: rest ∧ w.1[r]? = some (.inl (a, fs)) ∧ fs[b]? = some v ∧ (pc + 3, lv, v :: rest, w) = q := by
  unfold bgf at h
  split at h
  · split at h
    · split at h
      · rename_i hci
        subst hci
        split at h
        · exact ⟨_, _, _, _, rfl, by assumption, by assumption, Option.some.inj h⟩
        · cases h
      · cases h
    · cases h
  · cases h
theorem bpf_inv {a b : Nat} {q : bF} (h : bpf pc a b lv st w = some q) : ∃ (r : Nat) (v : bV) (rest fs : List bV), st = v :: .inr (.inr (.inl r)) :: rest ∧ w.1[r]? = some (.inl (a, fs)) ∧ b < fs.length ∧ bokf ((bty a).getD b .byte) v = true ∧ (pc + 3, lv, rest, (w.1.set r (.inl (a, fs.set b v)), w.2)) = q := by
  unfold bpf at h
  split at h
  · split at h
    · split at h
      · rename_i hci
        obtain ⟨rfl, h1, h2⟩ := hci
        exact ⟨_, _, _, _, rfl, by assumption, h1, h2, Option.some.inj h⟩
      · cases h
    · cases h
  · cases h
theorem balen_inv {q : bF} (h : balen E pc lv st w = some q) : ∃ (a : bV) (r : List bV) (c1 : bC) (n : Nat), st = a :: r ∧ barr E w a = some c1 ∧ blen c1 = some n ∧ (pc + 1, lv, .inl (Int32.ofNat n) :: r, w) = q := by
  unfold balen at h
  split at h
  · split at h
    · split at h
      · exact ⟨_, _, _, _, rfl, by assumption, by assumption, Option.some.inj h⟩
      · cases h
    · cases h
  · cases h
theorem bnwa_inv {a : Nat} {q : bF} (h : bnwa pc a lv st w = some q) : ∃ (n : Int32) (r : List bV), st = .inl n :: r ∧ w.2 = 0 ∧ ¬ n < 0 ∧ n.toNatClampNeg * 8 ≤ 536870912 ∧ (pc + 2, lv, .inr (.inr (.inl w.1.length)) :: r, (w.1 ++ [if a = 2 then .inr (.inr (.inl (List.replicate n.toNatClampNeg 0))) else .inr (.inl (a, List.replicate n.toNatClampNeg 0))], w.2)) = q := by
  unfold bnwa at h
  split at h
  · split at h
    · rename_i h9
      exact ⟨_, _, rfl, h9.1, h9.2.1, h9.2.2, Option.some.inj h⟩
    · cases h
  · cases h
theorem bnwq_inv {a : Nat} {q : bF} (h : bnwq pc a lv st w = some q) : ∃ (n : Int32) (r : List bV), st = .inl n :: r ∧ w.2 = 0 ∧ ¬ n < 0 ∧ n.toNatClampNeg * 8 ≤ 536870912 ∧ (pc + 3, lv, .inr (.inr (.inl w.1.length)) :: r, (w.1 ++ [.inr (.inr (.inr (a, List.replicate n.toNatClampNeg none)))], w.2)) = q := by
  unfold bnwq at h
  split at h
  · split at h
    · rename_i h9
      exact ⟨_, _, rfl, h9.1, h9.2.1, h9.2.2, Option.some.inj h⟩
    · cases h
  · cases h
theorem bnew_inv {a : Nat} {v : Int} {q : bF} (h : bnew pc a v lv st w = some q) : w.2 = 0 ∧ v = 0 ∧ (pc + 3, lv, .inr (.inr (.inl w.1.length)) :: st, (w.1 ++ [.inl (a, (bty a).map bdf)], w.2)) = q := by
  unfold bnew at h
  split at h
  · rename_i h9
    exact ⟨h9.1, h9.2, Option.some.inj h⟩
  · cases h
theorem bobj_inv {v : Int} {q : bF} (h : bobj pc v lv st w = some q) : ∃ (x : Nat) (r : List bV), st = .inr (.inr (.inl x)) :: r ∧ v = 1 ∧ (r.map bvc).sum ≤ 8 ∧ (pc + 3, lv, r, w) = q := by
  unfold bobj at h
  split at h
  · split at h
    · rename_i h9
      exact ⟨_, _, rfl, h9.1, h9.2, Option.some.inj h⟩
    · cases h
  · cases h
theorem blsw_inv {d : Int} {ps : List (Int × Int)} {q : bF} (h : blsw pc d ps lv st w = some q) : ∃ (x : Int32) (r : List bV), st = .inl x :: r ∧ 0 ≤ (pc : Int) + Op.lookupswitch.offset ps d x.toInt ∧ (((pc : Int) + Op.lookupswitch.offset ps d x.toInt).toNat, lv, r, w) = q := by
  unfold blsw at h
  split at h
  · split at h
    · exact ⟨_, _, rfl, by assumption, Option.some.inj h⟩
    · cases h
  · cases h
theorem btsw_inv {d lo hi : Int} {offs : Array Int} {q : bF} (h : btsw pc d lo hi offs lv st w = some q) : ∃ (x : Int32) (r : List bV) (off : Int), st = .inl x :: r ∧ 0 ≤ (pc : Int) + off ∧ (((x.toInt < lo ∨ hi < x.toInt) ∧ off = d) ∨ (¬ (x.toInt < lo ∨ hi < x.toInt) ∧ offs[(x.toInt - lo).toNat]? = some off)) ∧ (((pc : Int) + off).toNat, lv, r, w) = q := by
  unfold btsw at h
  split at h
  · split at h
    · split at h
      · exact ⟨_, _, _, rfl, by assumption, Or.inl ⟨by assumption, rfl⟩, Option.some.inj h⟩
      · cases h
    · split at h
      · split at h
        · exact ⟨_, _, _, rfl, by assumption, Or.inr ⟨by assumption, by assumption⟩, Option.some.inj h⟩
        · cases h
      · cases h
  · cases h
theorem bast_inv {t : Nat} {q : bF} (h : bast pc t lv st w = some q) : ∃ (x i : Int32) (r : Nat) (rest : List bV) (xs : List Int32), st = .inl x :: .inl i :: .inr (.inr (.inl r)) :: rest ∧ w.1[r]? = some (.inr (.inl (t, xs))) ∧ bin i xs.length = true ∧ (pc + 1, lv, rest, (w.1.set r (.inr (.inl (t, xs.set i.toNatClampNeg (vp_nar (if t = 0 then .char else if t = 3 then .boolean else .int) x)))), w.2)) = q := by
  unfold bast at h
  split at h
  · split at h
    · split at h
      · rename_i h9
        obtain ⟨rfl, h9⟩ := h9
        exact ⟨_, _, _, _, _, rfl, by assumption, h9, Option.some.inj h⟩
      · cases h
    · cases h
  · cases h
theorem blast_inv {q : bF} (h : blast pc lv st w = some q) : ∃ (x : Int64) (i : Int32) (r : Nat) (rest : List bV) (xs : List Int64), st = .inr (.inl x) :: .inl i :: .inr (.inr (.inl r)) :: rest ∧ w.1[r]? = some (.inr (.inr (.inl xs))) ∧ bin i xs.length = true ∧ (pc + 1, lv, rest, (w.1.set r (.inr (.inr (.inl (xs.set i.toNatClampNeg x)))), w.2)) = q := by
  unfold blast at h
  split at h
  · split at h
    · split at h
      · exact ⟨_, _, _, _, _, rfl, by assumption, by assumption, Option.some.inj h⟩
      · cases h
    · cases h
  · cases h
theorem baast_inv {q : bF} (h : baast pc lv st w = some q) : ∃ (v : Nat) (i : Int32) (r : Nat) (rest : List bV) (t ci : Nat) (xs : List (Option Nat)) (fs : List bV), st = .inr (.inr (.inl v)) :: .inl i :: .inr (.inr (.inl r)) :: rest ∧ w.1[r]? = some (.inr (.inr (.inr (t, xs)))) ∧ w.1[v]? = some (.inl (ci, fs)) ∧ (t = 4 ∨ t = 5) ∧ ci = bcls t ∧ bin i xs.length = true ∧ (pc + 1, lv, rest, (w.1.set r (.inr (.inr (.inr (t, xs.set i.toNatClampNeg (some v))))), w.2)) = q := by
  unfold baast at h
  split at h
  · split at h
    · split at h
      · rename_i h9
        exact ⟨_, _, _, _, _, _, _, _, rfl, by assumption, by assumption, h9.1, h9.2.1, h9.2.2, Option.some.inj h⟩
      · cases h
    · cases h
  · cases h
theorem bstep_snd (Cls : bClsOk) (hE : bEok K E) (C0 : CallFix p m c cc nL s args bw_G own) (hb : bK K s) (hw : bS K.D K.B w.1.length (bct K w.1) s H locs) (hz : w.2 = 0 → H.size = K.B + w.1.length) (hl : lv_has ls nL (bvl K lv)) (hRf : 16 ≤ R.frames) (hRl : 400 ≤ R.locals) {o : bO} {nm : String} (hnm : meth.name = nm) (ok1 : bOkD cc pc o) (ok2 : bOkX own nm pc o) {q : bF} (h : bstep E nL o pc lv st w = some q)
    (hcs : cells + q.2.2.2.1.length ≤ R.cells + w.1.length) (hsl : slots + bsz q.2.2.2.1 ≤ R.slots + bsz w.1) (k : bCont p l e R s m args below meth c cells slots Q K nL w q) : W p l e R s m args below meth c H locs cells slots Q (F0 m pc ls (st.map (bvv K))) := by
  obtain ⟨ins, ln, a, b, v⟩ := o
  have hx := C0.1
  have hcb := C0.2.1
  cases ins with
  | iconst n =>
    have hd : decode cc pc = .ok (.iconst n, 1) := ok1
    cases h
    exact lv_iconst hx hcb hd rfl (bp hw hz hl k)
  | bipush n =>
    have hd : decode cc pc = .ok (.bipush n, 2) := ok1
    cases h
    exact lv_bipush hx hcb hd rfl (bp hw hz hl k)
  | sipush n =>
    have hd : decode cc pc = .ok (.sipush n, 3) := ok1
    cases h
    exact lv_sipush hx hcb hd rfl (bp hw hz hl k)
  | ldc ix =>
    have hd : decode cc pc = .ok (.ldc ix, 2) := ok1
    cases h
    exact lv_ldc hx hcb C0.2.2.2.1 (C0.2.2.2.2 _ ok2) hd (bp hw hz hl k)
  | ldc2_w ix =>
    have hd : decode cc pc = .ok (.ldc2_w ix, 3) := ok1
    cases h
    exact lv_ldc2 hx hcb C0.2.2.2.1 (C0.2.2.2.2 _ ok2) hd (bp hw hz hl k)
  | lconst n =>
    have hd : decode cc pc = .ok (.lconst n, 1) := ok1
    cases h
    exact lv_lconst hx hcb hd rfl (bp hw hz hl k)
  | iload_n i =>
    have hd : decode cc pc = .ok (.iload_n i, 1) := ok1
    obtain ⟨x, hk, rfl⟩ := bldl0_inv h
    exact lv_iload_n hx hcb hd rfl (blk_has hl hk) (bp hw hz hl k)
  | iload i =>
    have hd : decode cc pc = .ok (.iload i, 2) := ok1
    obtain ⟨x, hk, rfl⟩ := bldl0_inv h
    exact lv_iload hx hcb hd (blk_has hl hk) (bp hw hz hl k)
  | lload_n i =>
    have hd : decode cc pc = .ok (.lload_n i, 1) := ok1
    obtain ⟨x, hk, rfl⟩ := bldl1_inv h
    exact lv_lload_n hx hcb hd rfl (blk_has hl hk) (bp hw hz hl k)
  | lload i =>
    have hd : decode cc pc = .ok (.lload i, 2) := ok1
    obtain ⟨x, hk, rfl⟩ := bldl1_inv h
    exact lv_lload hx hcb hd (blk_has hl hk) (bp hw hz hl k)
  | aload_n i =>
    have hd : decode cc pc = .ok (.aload_n i, 1) := ok1
    rcases bldl2_inv h with ⟨x, hk, rfl⟩ | ⟨x, hk, rfl⟩
    · exact lv_aload_n hx hcb hd rfl (blk_has hl hk) (bp hw hz hl k)
    · exact lv_aload_n hx hcb hd rfl (blk_has hl hk) (bp hw hz hl k)
  | aload i =>
    have hd : decode cc pc = .ok (.aload i, 2) := ok1
    rcases bldl2_inv h with ⟨x, hk, rfl⟩ | ⟨x, hk, rfl⟩
    · exact lv_aload hx hcb hd (blk_has hl hk) (bp hw hz hl k)
    · exact lv_aload hx hcb hd (blk_has hl hk) (bp hw hz hl k)
  | istore_n i =>
    have hd : decode cc pc = .ok (.istore_n i, 1) := ok1
    obtain ⟨x, r, rfl, hi, rfl⟩ := bstl0_inv h
    exact lv_istore_n hx hcb hd rfl hl hi (bst1_v K lv i (.inl x)) (bs_stl C0 hw hz k)
  | istore i =>
    have hd : decode cc pc = .ok (.istore i, 2) := ok1
    obtain ⟨x, r, rfl, hi, rfl⟩ := bstl0_inv h
    exact lv_istore hx hcb hd hl hi (bst1_v K lv i (.inl x)) (bs_stl C0 hw hz k)
  | lstore_n i =>
    have hd : decode cc pc = .ok (.lstore_n i, 1) := ok1
    obtain ⟨x, r, rfl, hi, rfl⟩ := bstl1_inv h
    exact lv_lstore_n hx hcb hd rfl hl hi (bst2_v K lv i (.inr (.inl x))) (bs_stl C0 hw hz k)
  | lstore i =>
    have hd : decode cc pc = .ok (.lstore i, 2) := ok1
    obtain ⟨x, r, rfl, hi, rfl⟩ := bstl1_inv h
    exact lv_lstore hx hcb hd hl hi (bst2_v K lv i (.inr (.inl x))) (bs_stl C0 hw hz k)
  | astore_n i =>
    have hd : decode cc pc = .ok (.astore_n i, 1) := ok1
    obtain ⟨x, r, rfl, hi, rfl⟩ := bstl2_inv h
    exact lv_astore_n hx hcb hd rfl hl hi (bst1_v K lv i (.inr (.inr (.inl x)))) (bs_stl C0 hw hz k)
  | astore i =>
    have hd : decode cc pc = .ok (.astore i, 2) := ok1
    obtain ⟨x, r, rfl, hi, rfl⟩ := bstl2_inv h
    exact lv_astore hx hcb hd hl hi (bst1_v K lv i (.inr (.inr (.inl x)))) (bs_stl C0 hw hz k)
  | iinc i n =>
    have hd : decode cc pc = .ok (.iinc i n, 3) := ok1
    obtain ⟨x, hk, hi, rfl⟩ := binc_inv h
    obtain ⟨j, hj⟩ := List.getElem?_of_mem (show (i, bvv K (.inl x)) ∈ bvl K lv from List.mem_map.mpr ⟨_, blk_in hk, rfl⟩)
    exact lv_iinc hx hcb hd hl hj rfl hi (bst1_v K lv i (.inl (x + Int32.ofInt n))) (bs_stl C0 hw hz k)
  | iadd =>
    have hd : decode cc pc = .ok (.iadd, 1) := ok1
    have h : bi2 pc lv st w (fun x y => some (x + y)) = some q := h
    obtain ⟨x, y, v, r, rfl, hf, rfl⟩ := bi2_inv h
    cases hf
    exact lv_iadd hx hcb hd (bp hw hz hl k)
  | isub =>
    have hd : decode cc pc = .ok (.isub, 1) := ok1
    have h : bi2 pc lv st w (fun x y => some (x - y)) = some q := h
    obtain ⟨x, y, v, r, rfl, hf, rfl⟩ := bi2_inv h
    cases hf
    exact lv_isub hx hcb hd (bp hw hz hl k)
  | imul =>
    have hd : decode cc pc = .ok (.imul, 1) := ok1
    have h : bi2 pc lv st w (fun x y => some (x * y)) = some q := h
    obtain ⟨x, y, v, r, rfl, hf, rfl⟩ := bi2_inv h
    cases hf
    exact lv_imul hx hcb hd (bp hw hz hl k)
  | iand =>
    have hd : decode cc pc = .ok (.iand, 1) := ok1
    have h : bi2 pc lv st w (fun x y => some (x &&& y)) = some q := h
    obtain ⟨x, y, v, r, rfl, hf, rfl⟩ := bi2_inv h
    cases hf
    exact lv_iand hx hcb hd (bp hw hz hl k)
  | ior =>
    have hd : decode cc pc = .ok (.ior, 1) := ok1
    have h : bi2 pc lv st w (fun x y => some (x ||| y)) = some q := h
    obtain ⟨x, y, v, r, rfl, hf, rfl⟩ := bi2_inv h
    cases hf
    exact lv_ior hx hcb hd (bp hw hz hl k)
  | idiv =>
    have hd : decode cc pc = .ok (.idiv, 1) := ok1
    have h : bi2 pc lv st w (fun x y => if y = 0 then none else some (x / y)) = some q := h
    obtain ⟨x, y, v, r, rfl, hf, rfl⟩ := bi2_inv h
    split at hf
    · cases hf
    · rename_i h0
      cases hf
      exact lv_idiv hx hcb hd h0 (bp hw hz hl k)
  | irem =>
    have hd : decode cc pc = .ok (.irem, 1) := ok1
    have h : bi2 pc lv st w (fun x y => if y = 0 then none else some (x - x / y * y)) = some q := h
    obtain ⟨x, y, v, r, rfl, hf, rfl⟩ := bi2_inv h
    split at hf
    · cases hf
    · rename_i h0
      cases hf
      exact lv_irem hx hcb hd h0 (bp hw hz hl k)
  | ineg =>
    have hd : decode cc pc = .ok (.ineg, 1) := ok1
    have h : bi1 pc lv st w (fun x => .inl (-x)) = some q := h
    obtain ⟨x, r, rfl, rfl⟩ := bi1_inv h
    exact lv_ineg hx hcb hd (bp hw hz hl k)
  | ladd =>
    have hd : decode cc pc = .ok (.ladd, 1) := ok1
    have h : bl2 pc lv st w (fun x y => some (.inr (.inl (x + y)))) = some q := h
    obtain ⟨x, y, v, r, rfl, hf, rfl⟩ := bl2_inv h
    cases hf
    exact lv_ladd hx hcb hd (bp hw hz hl k)
  | lsub =>
    have hd : decode cc pc = .ok (.lsub, 1) := ok1
    have h : bl2 pc lv st w (fun x y => some (.inr (.inl (x - y)))) = some q := h
    obtain ⟨x, y, v, r, rfl, hf, rfl⟩ := bl2_inv h
    cases hf
    exact lv_lsub hx hcb hd (bp hw hz hl k)
  | lmul =>
    have hd : decode cc pc = .ok (.lmul, 1) := ok1
    have h : bl2 pc lv st w (fun x y => some (.inr (.inl (x * y)))) = some q := h
    obtain ⟨x, y, v, r, rfl, hf, rfl⟩ := bl2_inv h
    cases hf
    exact lv_lmul hx hcb hd (bp hw hz hl k)
  | land =>
    have hd : decode cc pc = .ok (.land, 1) := ok1
    have h : bl2 pc lv st w (fun x y => some (.inr (.inl (x &&& y)))) = some q := h
    obtain ⟨x, y, v, r, rfl, hf, rfl⟩ := bl2_inv h
    cases hf
    exact lv_land hx hcb hd (bp hw hz hl k)
  | lor =>
    have hd : decode cc pc = .ok (.lor, 1) := ok1
    have h : bl2 pc lv st w (fun x y => some (.inr (.inl (x ||| y)))) = some q := h
    obtain ⟨x, y, v, r, rfl, hf, rfl⟩ := bl2_inv h
    cases hf
    exact lv_lor hx hcb hd (bp hw hz hl k)
  | lxor =>
    have hd : decode cc pc = .ok (.lxor, 1) := ok1
    have h : bl2 pc lv st w (fun x y => some (.inr (.inl (x ^^^ y)))) = some q := h
    obtain ⟨x, y, v, r, rfl, hf, rfl⟩ := bl2_inv h
    cases hf
    exact lv_lxor hx hcb hd (bp hw hz hl k)
  | ldiv =>
    have hd : decode cc pc = .ok (.ldiv, 1) := ok1
    have h : bl2 pc lv st w (fun x y => if y = 0 then none else some (.inr (.inl (x / y)))) = some q := h
    obtain ⟨x, y, v, r, rfl, hf, rfl⟩ := bl2_inv h
    split at hf
    · cases hf
    · rename_i h0
      cases hf
      exact lv_ldiv hx hcb hd h0 (bp hw hz hl k)
  | lrem =>
    have hd : decode cc pc = .ok (.lrem, 1) := ok1
    have h : bl2 pc lv st w (fun x y => if y = 0 then none else some (.inr (.inl (x - x / y * y)))) = some q := h
    obtain ⟨x, y, v, r, rfl, hf, rfl⟩ := bl2_inv h
    split at hf
    · cases hf
    · rename_i h0
      cases hf
      exact lv_lrem hx hcb hd h0 (bp hw hz hl k)
  | lcmp =>
    have hd : decode cc pc = .ok (.lcmp, 1) := ok1
    have h : bl2 pc lv st w (fun x y => some (.inl (lg_cmp x y))) = some q := h
    obtain ⟨x, y, v, r, rfl, hf, rfl⟩ := bl2_inv h
    cases hf
    exact W.lcmp hx hcb hd (bp hw hz hl k)
  | lneg =>
    have hd : decode cc pc = .ok (.lneg, 1) := ok1
    have h : bl1 pc lv st w (fun x => .inr (.inl (-x))) = some q := h
    obtain ⟨x, r, rfl, rfl⟩ := bl1_inv h
    exact lv_lneg hx hcb hd (bp hw hz hl k)
  | l2i =>
    have hd : decode cc pc = .ok (.l2i, 1) := ok1
    have h : bl1 pc lv st w (fun x => .inl x.toInt32) = some q := h
    obtain ⟨x, r, rfl, rfl⟩ := bl1_inv h
    exact lv_l2i hx hcb hd rfl (bp hw hz hl k)
  | i2l =>
    have hd : decode cc pc = .ok (.i2l, 1) := ok1
    have h : bi1 pc lv st w (fun x => .inr (.inl x.toInt64)) = some q := h
    obtain ⟨x, r, rfl, rfl⟩ := bi1_inv h
    exact lv_i2l hx hcb hd rfl (bp hw hz hl k)
  | i2c =>
    have hd : decode cc pc = .ok (.i2c, 1) := ok1
    have h : bi1 pc lv st w (fun x => .inl (x.toUInt32 % 65536).toInt32) = some q := h
    obtain ⟨x, r, rfl, rfl⟩ := bi1_inv h
    exact lv_i2c hx hcb hd rfl (bp hw hz hl k)
  | lshl =>
    have hd : decode cc pc = .ok (.lshl, 1) := ok1
    have h : bls pc lv st w (fun x y => x <<< (y.toInt64 &&& 63)) = some q := h
    obtain ⟨x, y, r, rfl, rfl⟩ := bls_inv h
    exact lv_lshl hx hcb hd rfl (bp hw hz hl k)
  | lshr =>
    have hd : decode cc pc = .ok (.lshr, 1) := ok1
    have h : bls pc lv st w (fun x y => x >>> (y.toInt64 &&& 63)) = some q := h
    obtain ⟨x, y, r, rfl, rfl⟩ := bls_inv h
    exact lv_lshr hx hcb hd rfl (bp hw hz hl k)
  | goto off =>
    have hd : decode cc pc = .ok (.goto off, 3) := ok1
    cases h
    exact lv_goto hx hcb hd ok2 (bp hw hz hl k)
  | ifCond cd off =>
    have hd : decode cc pc = .ok (.ifCond cd off, 3) := ok1
    obtain ⟨x, r, rfl, rfl⟩ := bjf_inv h
    exact bs_jf C0 hd ok2 (bp hw hz hl k)
  | if_icmp cd off =>
    have hd : decode cc pc = .ok (.if_icmp cd off, 3) := ok1
    obtain ⟨x, y, r, rfl, rfl⟩ := bjc_inv h
    exact bs_jc C0 hd ok2 (bp hw hz hl k)
  | iaload => exact bs_load hE C0 hb hw hz hl h (Or.inl ⟨rfl, ok1⟩) k
  | caload => exact bs_load hE C0 hb hw hz hl h (Or.inr (Or.inl ⟨rfl, ok1⟩)) k
  | baload => exact bs_load hE C0 hb hw hz hl h (Or.inr (Or.inr (Or.inl ⟨rfl, ok1⟩))) k
  | laload => exact bs_load hE C0 hb hw hz hl h (Or.inr (Or.inr (Or.inr (Or.inl ⟨rfl, ok1⟩)))) k
  | aaload => exact bs_load hE C0 hb hw hz hl h (Or.inr (Or.inr (Or.inr (Or.inr ⟨rfl, ok1⟩)))) k
  | iastore =>
    obtain ⟨x, i, r, rest, xs, rfl, h1, h2, rfl⟩ := bast_inv h
    exact bs_ist C0 hb hw hz hl h1 h2 (Or.inl ⟨rfl, ok1⟩) k
  | castore =>
    obtain ⟨x, i, r, rest, xs, rfl, h1, h2, rfl⟩ := bast_inv h
    exact bs_ist C0 hb hw hz hl h1 h2 (Or.inr (Or.inl ⟨rfl, ok1⟩)) k
  | bastore =>
    obtain ⟨x, i, r, rest, xs, rfl, h1, h2, rfl⟩ := bast_inv h
    exact bs_ist C0 hb hw hz hl h1 h2 (Or.inr (Or.inr ⟨rfl, ok1⟩)) k
  | lastore =>
    obtain ⟨x, i, r, rest, xs, rfl, h1, h2, rfl⟩ := blast_inv h
    exact bs_lst C0 hb hw hz hl h1 h2 ok1 k
  | aastore =>
    obtain ⟨v, i, r, rest, t, ci, xs, fs, rfl, h1, h2, h3, h4, h5, rfl⟩ := baast_inv h
    exact bs_ast C0 hb hw hz hl h1 h2 h3 h4 h5 ok1 k
  | dup =>
    obtain ⟨v, r, rfl, h1, rfl⟩ := bdup_inv h
    exact lv_dup hx hcb ok1 ((bvc_v K v).trans h1) (bp hw hz hl k)
  | pop =>
    obtain ⟨v, r, rfl, h1, rfl⟩ := bpop_inv h
    exact lv_pop hx hcb ok1 ((bvc_v K v).trans h1) (bp hw hz hl k)
  | dup2 =>
    rcases bdup2_inv h with ⟨v, r, rfl, h1, rfl⟩ | ⟨v, u, r, rfl, h1, h2, rfl⟩
    · exact lv_dup2_2 hx hcb ok1 ((bvc_v K v).trans h1) (bp hw hz hl k)
    · exact lv_dup2_11 hx hcb ok1 ((bvc_v K v).trans h1) ((bvc_v K u).trans h2) (bp hw hz hl k)
  | pop2 =>
    obtain ⟨v, r, rfl, h1, rfl⟩ := bpop2_inv h
    exact lv_pop2_2 hx hcb ok1 ((bvc_v K v).trans h1) (bp hw hz hl k)
  | getfield ix =>
    obtain ⟨r, rest, fs, v, rfl, h1, h2, rfl⟩ := bgf_inv h
    obtain ⟨g1, C, T, N, g2, g3, g4⟩ := ok2
    exact bs_get Cls C0 hb hw hz hl h1 h2 g1 g2 g3 g4 ok1 k
  | putfield ix =>
    obtain ⟨r, v, rest, fs, rfl, h1, h2, h3, rfl⟩ := bpf_inv h
    obtain ⟨g1, C, T, N, g2, g3, g4, g5⟩ := ok2
    exact bs_put Cls C0 hb hw hz hl h1 h2 h3 g1 g2 g3 g4 (by rw [hnm]; exact g5) ok1 k
  | arraylength =>
    obtain ⟨a, r, c1, n, rfl, h1, h2, rfl⟩ := balen_inv h
    exact bs_alen hE C0 hb hw hz hl h1 h2 ok1 k
  | getstatic ix =>
    cases h
    exact bs_gst hE C0 hb hw hz hl ok2 ok1 k
  | new ix =>
    obtain ⟨h0, h1, rfl⟩ := bnew_inv h
    obtain ⟨g1, C, T, N, g2, g3, g4, g5, g6⟩ := ok2 h1
    refine bs_new Cls C0 hb hw hz hl h0 g1 g2 g4 g5 g6 ?_ ?_ ok1 k
    · simp only [List.length_append, List.length_cons, List.length_nil] at hcs; omega
    · have h9 : slots + bsz (w.1 ++ [.inl (a, (bty a).map bdf)]) ≤ R.slots + bsz w.1 := hsl
      rw [bsz_push] at h9
      simp only [bcs, List.length_map] at h9
      show slots + (bty a).length ≤ R.slots
      omega
  | newarray ty =>
    obtain ⟨n, r, rfl, h0, h1, h2, rfl⟩ := bnwa_inv h
    refine bs_nwa C0 hb hw hz hl h0 h1 h2 ok2.1 ok2.2 ?_ ?_ ok1 k
    · simp only [List.length_append, List.length_cons, List.length_nil] at hcs; omega
    · rw [bsz_push] at hsl
      split at hsl <;> simp only [bcs, List.length_replicate] at hsl <;> omega
  | anewarray ix =>
    obtain ⟨n, r, rfl, h0, h1, h2, rfl⟩ := bnwq_inv h
    refine bs_nwq C0 hb hw hz hl h0 h1 h2 ok2 ?_ ?_ ok1 k
    · simp only [List.length_append, List.length_cons, List.length_nil] at hcs; omega
    · rw [bsz_push] at hsl; simp only [bcs, List.length_replicate] at hsl; omega
  | invokespecial ix =>
    obtain ⟨x, r, rfl, h1, h2, rfl⟩ := bobj_inv h
    exact bs_obj C0 hw hz hl (ok2 h1) (by omega) (by omega) ok1 k
  | lookupswitch d ps =>
    obtain ⟨x, r, rfl, h1, rfl⟩ := blsw_inv h
    exact lv_lookup hx hcb ok1.1 ok1.2 rfl (by show _ = ((Int.toNat _ : Nat) : Int); omega) (bp hw hz hl k)
  | tableswitch d lo hi offs =>
    obtain ⟨x, r, off, rfl, h1, h2, rfl⟩ := btsw_inv h
    rcases h2 with ⟨h2, rfl⟩ | ⟨h2, h3⟩
    · exact lv_tableOut hx hcb ok1 h2 (by show _ = ((Int.toNat _ : Nat) : Int); omega) (bp hw hz hl k)
    · exact lv_tableIn hx hcb ok1 (fun q => h2 (Or.inl q)) (fun q => h2 (Or.inr q)) h3 (by show _ = ((Int.toNat _ : Nat) : Int); omega) (bp hw hz hl k)
  | _ => cases h
end BSTEPS
