/-! THE MACHINE on a power of doubles: the method. -/
section DBL8
theorem pow_met {l : Launch} {b : UInt64} {k : Nat} {free : Addr → Prop} {H0 : Heap} (hk : 1 ≤ k ∧ k < 2147483648) (hb : dat b ≠ .nan) : Met l yX8_powerOf (Jvm.Cond.code yX8_powerOf cX8_powerOf 6 (some .double) :: bw_G) ({ frames := 16, cells := 0, slots := 0, locals := 400 }) (fun a st => a = #[.double b, .int (Int32.ofNat k)] ∧ st.heap = H0) (va_Qd (fun r (_ : Unit) => r = pwN b (k - 1) b) (fun _ t => t.heap = H0) (fun _ => False)) 0 0 free := by
  refine Met.ofW (cc := cX8_powerOf) (maxL := 6) (ret := some .double) (by decide +kernel) rfl ?_
  intro p e s m args below meth c s₁ B hml hP
  obtain ⟨rfl, hH0⟩ := hP
  have hx := B.exec
  have hcb := B.bytes
  have hl := lv_entry [.double b, .int (Int32.ofNat k)] (n := 6) (Nat.le_of_ble_eq_true rfl)
  rw [lg_entry_eq]
  have hl : lv_has _ 6 [(0, .double b), (2, .int (Int32.ofNat k))] := hl
  have hlk := B.notSynchronized
  refine lv_dload_n hx hcb (k := 0) (i := 0) (x := b) (by decide +kernel) rfl (pow_lv hl (by simp)) ?_
  refine lv_dstore_n hx hcb (k := 3) (i := 3) (lv' := [(3, .double b), (0, .double b), (2, .int (Int32.ofNat k))]) (by decide +kernel) rfl hl (by decide) rfl (fun ls1 hl1 => ?_)
  refine lv_iconst hx hcb (n := 1) (v := Int32.ofNat 1) (by decide +kernel) rfl ?_
  refine lv_istore hx hcb (i := 5) (lv' := [(5, .int (Int32.ofNat 1)), (3, .double b), (0, .double b), (2, .int (Int32.ofNat k))]) (by decide +kernel) hl1 (by decide) rfl (fun ls2 hl2 => ?_)
  refine pow_loop hx hcb hk.2 (k - 1) 1 b ls2 (by omega) ⟨hl2.1, hl2.2.1, fun q hq => hl2.2.2 q ?_⟩ (PJd_0 hb) (fun ls3 => ?_)
  · simp only [List.mem_cons, List.not_mem_nil, or_false] at hq ⊢
    rcases hq with h | h | h | h
    · exact Or.inl h
    · exact Or.inr (Or.inl h)
    · exact Or.inr (Or.inr (Or.inr h))
    · exact Or.inr (Or.inr (Or.inl h))
  · exact W.dret hx hcb B.returns (fun t ht _ => ⟨⟨_, (), rfl, rfl, ht.trans hH0⟩, by unfold va_F; rw [ht]; exact ⟨Nat.le_refl _, fun _ _ _ => rfl⟩⟩) (fun q hq => by cases hq) (by decide +kernel) hlk
end DBL8
