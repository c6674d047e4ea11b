/-! THE MACHINE on a guessed root: its call of the power. -/
section DBL9
variable {p : Program} {l : Launch} {e : Env} {R : Room} {s : State} {m : MethodId} {args : Array Value} {below : List Frame} {meth : Method} {c : Code} {H H0 : Heap} {locs : List Loc} {cells slots : Nat} {Q : State → Prop} {A0 : Nat → Prop}
theorem pow_call {K : KE} {scr : List Int32} (A : bAll K (bPr scr)) {pc : Nat} {b : UInt64} {k : Nat} {ls : Array Slot} {lv : List (Nat × Value)} {rest : List Value} (ho : bop 2564 pc = some (.invokestatic 175, 4023, 2566, 2, 0)) (C0 : CallFix p m c cX8_guessRoot 7 s args bw_G RX8) (hRf : 17 ≤ R.frames) (hRl : 425 ≤ R.locals) (hl : lv_has ls 7 lv) (hk : 1 ≤ k ∧ k < 2147483648) (hb : dat b ≠ .nan) (hc : cells ≤ R.cells) (hs : slots ≤ R.slots) (hrest : (rest.map fun v => v.category).sum ≤ 8) (hS : va_S A0 H0 H locs)
    (kk : ∀ locs1 : List Loc, va_S A0 H0 H locs1 → W p l e R s m args below meth c H locs1 cells slots Q (F0 m (pc + 3) ls (.double (pwN b (k - 1) b) :: rest))) : W p l e R s m args below meth c H locs cells slots Q (F0 m pc ls (.int (Int32.ofNat k) :: .double b :: rest)) := by
  obtain ⟨b1, -, b3, -⟩ := A.2.2.1 2564 pc _ ho
  have hd : decode cX8_guessRoot pc = .ok (.invokestatic 175, 3) := b1
  obtain ⟨c1, c2, c3, c4, c5, c6, ch⟩ := b3
  have c4 : Jvm.Cond.methodLink RX8 175 yX8_powerOf ∈ bw_G := by
    rcases c4 with ⟨c4, _⟩ | ⟨_, hv, _⟩
    · exact c4
    · exact absurd rfl hv
  have c5 : Jvm.Cond.static yX8_powerOf ∈ bw_G := c5
  have c6 : Jvm.Cond.initialized yX8_powerOf.cls ∈ bw_G := c6
  have ch : Jvm.Cond.code yX8_powerOf cX8_powerOf 6 (some .double) ∈ bw_G := ch
  have hG : GoodIn bw_G (va_wsS RX8 175 yX8_powerOf (Jvm.Cond.code yX8_powerOf cX8_powerOf 6 (some .double) :: bw_G)) := fun w' hw' => bgood (by
    rcases List.mem_append.mp hw' with h5 | h5
    · simp only [List.mem_cons, List.not_mem_nil, or_false] at h5
      rcases h5 with rfl | rfl | rfl
      · exact c4
      · exact c5
      · exact c6
    · rcases List.mem_cons.mp h5 with rfl | h6
      · exact ch
      · exact h6)
  refine va_calld (A0 := A0) (va_runS C0 (pow_met (free := fun _ => False) (H0 := H) hk hb) (va_cwS (bytes := cX8_powerOf) (maxL := 6) (ret := some .double) 2 C0.2.2.2.2 hG rfl rfl rfl ⟨c1, c2, c3⟩ ⟨by show 16 + 1 ≤ _; omega, by show 8 + (6 + 11) + 400 ≤ _; omega⟩) ⟨fun _ _ _ _ q => q, fun U hU _ => ⟨rfl, hU⟩⟩ rfl (As := [.double b, .int (Int32.ofNat k)]) rfl hl.1 rfl (lv_room hrest) hd ⟨by omega, by omega⟩) hS (fun q _ h => h.elim) (fun q h => h.elim) (fun r u t H1 locs1 ht hvm hr hB hz hk1 hS1 => ?_)
  have e1 : H1 = H := ht.symm.trans hB
  subst e1
  have e2 : r = pwN b (k - 1) b := hr
  subst e2
  exact kk locs1 hS1
end DBL9
