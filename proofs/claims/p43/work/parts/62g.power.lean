/-! THE MACHINE on a power of doubles. -/
section DBL7
variable {p : Program} {l : Launch} {e : Env} {R : Room} {s : State} {m : MethodId} {args : Array Value} {below : List Frame} {meth : Method} {c : Code} {H : Heap} {locs : List Loc} {cells slots : Nat} {Q : State → Prop}
theorem pow_lv {ls : Array Slot} {nL : Nat} {lv : List (Nat × Value)} (h : lv_has ls nL lv) {i : Nat} {v : Value} (q : (i, v) ∈ lv) : ls[i]? = some (.val v) := h.2.2 (i, v) q
theorem i32_s (i : Nat) : Int32.ofNat i + Int32.ofInt 1 = Int32.ofNat (i + 1) := by
  rw [Int32.ofNat_add]
  rfl
theorem pow_loop (hx : p.tables.exec = Jvm.exec) (hcb : c.code = cX8_powerOf) {b : UInt64} {k : Nat} (hk : k < 2147483648) : ∀ (n i : Nat) (r : UInt64) (ls : Array Slot), i + n = k → lv_has ls 6 [(5, .int (Int32.ofNat i)), (3, .double r), (2, .int (Int32.ofNat k)), (0, .double b)] → PJd (dat b) (dat r) → (∀ ls' : Array Slot, W p l e R s m args below meth c H locs cells slots Q (F0 m 22 ls' [.double (pwN b n r)])) → W p l e R s m args below meth c H locs cells slots Q (F0 m 5 ls []) := by
  intro n
  induction n with
  | zero =>
    intro i r ls hi hl hp kk
    refine lv_iload hx hcb (i := 5) (x := Int32.ofNat i) (by decide +kernel) (pow_lv hl (by simp)) ?_
    refine lv_iload_n hx hcb (k := 2) (i := 2) (x := Int32.ofNat k) (by decide +kernel) rfl (pow_lv hl (by simp)) ?_
    refine lv_icmp_ge hx hcb (off := 13) (tgt := 21) (by decide +kernel) (by decide) (fun h => ?_) (fun h => absurd ?_ h)
    · exact lv_dload_n hx hcb (k := 3) (i := 3) (x := r) (by decide +kernel) rfl (pow_lv hl (by simp)) (kk ls)
    · subst hi
      exact Int32.le_refl _
  | succ n ih =>
    intro i r ls hi hl hp kk
    refine lv_iload hx hcb (i := 5) (x := Int32.ofNat i) (by decide +kernel) (pow_lv hl (by simp)) ?_
    refine lv_iload_n hx hcb (k := 2) (i := 2) (x := Int32.ofNat k) (by decide +kernel) rfl (pow_lv hl (by simp)) ?_
    refine lv_icmp_ge hx hcb (off := 13) (tgt := 21) (by decide +kernel) (by decide) (fun h => absurd h ?_) (fun h => ?_)
    · intro h
      have h2 := Int32.le_iff_toInt_le.mp h
      rw [Int32.toInt_ofNat_of_lt (by omega), Int32.toInt_ofNat_of_lt (by omega)] at h2
      omega
    refine lv_dload_n hx hcb (k := 3) (i := 3) (x := r) (by decide +kernel) rfl (pow_lv hl (by simp)) ?_
    refine lv_dload_n hx hcb (k := 0) (i := 0) (x := b) (by decide +kernel) rfl (pow_lv hl (by simp)) ?_
    have hp2 := PJd_s hp
    refine lv_dmul hx hcb (by decide +kernel) (dat_vf hp2.2.1) ?_
    refine lv_dstore_n hx hcb (k := 3) (i := 3) (by decide +kernel) rfl hl (by decide) rfl (fun ls1 hl1 => ?_)
    refine lv_iinc hx hcb (k := 1) (by decide +kernel) hl1 rfl (i32_s i) (by decide) rfl (fun ls2 hl2 => ?_)
    refine lv_goto hx hcb (off := -13) (tgt := 5) (by decide +kernel) (by decide) ?_
    exact ih (i + 1) _ ls2 (by omega) hl2 hp2 kk
end DBL7
