/-! THE MACHINE on a guessed root: the method. -/
section DBL13
variable {l : Launch}
theorem nws_N {m k z : UInt64} {j : Nat} : ∀ (n : Nat) (g : UInt64), nwOK m k z j n g → dat g ≠ .nan → dat (nws m k z j n g) ≠ .nan := by
  intro n
  induction n with
  | zero => intro g _ h; exact h
  | succ n ih => intro g h _; exact ih _ h.2 h.1.2.2.2.2
theorem g_snd {K : KE} {scr : List Int32} (A : bAll K (bPr scr)) {d k r : Nat} {a b : Int64} {w : bW} {lv : List (Nat × bV)} (hk : 2 ≤ k ∧ k ≤ 9) (hr : w.1[r]? = some (.inl (3, [.inr (.inl a), .inr (.inl b)]))) (h0 : blk lv 0 = some (.inr (.inr (.inl r)))) (h1 : blk lv 1 = some (.inl (Int32.ofNat k))) : bSnd l K (bPr scr) (d + 4) 2564 0 lv [] w (.inl (some (.inr (.inl (gval k a b))))) w := by
  refine ⟨Nat.le_refl _, Nat.le_refl _, Nat.le_refl _, ⟨_, (show bop 2564 0 = some (.aload_n 0, 0, 0, 0, 0) by decide +kernel)⟩, ?_⟩
  intro p e R s m args below meth c H locs cells slots ls w0 mc ms C0 hb hw hz hret hnm hlk htab hRf hRl hRc hRs hc hsl hmc hms hl
  have e1 : mc = cells := by omega
  have e2 : ms = slots := by omega
  subst e1
  subst e2
  have C0 : CallFix p m c cX8_guessRoot 7 s args bw_G RX8 := C0
  have hl : lv_has ls 7 (bvl K lv) := hl
  have hl0 : lv_has ls 7 [(0, .ref (K.B + r)), (1, .int (Int32.ofNat k))] := ⟨hl.1, hl.2.1, fun q hq => by
    simp only [List.mem_cons, List.not_mem_nil, or_false] at hq
    rcases hq with rfl | rfl
    · exact blk_has hl h0
    · exact blk_has hl h1⟩
  have r1 : 17 ≤ R.frames := Nat.le_trans (by omega) hRf
  have r2 : 425 ≤ R.locals := Nat.le_trans (Nat.le_trans (by decide) (Nat.add_le_add_left (Nat.mul_le_mul_left 100 (Nat.le_add_left 4 d)) 400)) hRl
  have hx := C0.1
  have hcb := C0.2.1
  have hg0 : dat (gs0 k (szd a b)) ≠ .nan := gha_N _ _ (gdo_N _ _ one_fin)
  have hg1 : dat (gdo (szd a b) (k - 1) 64 4607182418800017408) ≠ .nan := gdo_N _ _ one_fin
  have hN := guess_N (w := a) (p := b) hk
  refine g_head A C0 hb hw (List.getElem?_eq_some_iff.mp hr).1 (w := a) (q := b) (k := k) (bct_at hr) hl0 (fun ls1 hl1 => ?_)
  refine g_loop1 A C0 r1 r2 (by omega) hRc hRs 64 0 _ ls1 locs (by omega) hw.2 one_fin hl1 (fun ls2 locs2 hS2 hl2 => ?_)
  refine lv_iconst hx hcb (n := 0) (v := Int32.ofNat 0) (by decide +kernel) rfl ?_
  refine lv_istore hx hcb (i := 6) (lv' := [(6, .int (Int32.ofNat 0)), (4, .double (gdo (szd a b) (k - 1) 64 4607182418800017408)), (2, .double (szd a b)), (1, .int (Int32.ofNat k)), (0, .ref (K.B + r))]) (by decide +kernel) hl2 (by decide) rfl (fun ls3 hl3 => ?_)
  refine g_loop2 A C0 r1 r2 (by omega) hRc hRs 64 0 _ ls3 locs2 (by omega) hS2 hg1 hl3 (fun ls4 locs4 hS4 hl4 => ?_)
  refine lv_iconst hx hcb (n := 0) (v := Int32.ofNat 0) (by decide +kernel) rfl ?_
  refine lv_istore hx hcb (i := 6) (lv' := [(6, .int (Int32.ofNat 0)), (4, .double (gs0 k (szd a b))), (2, .double (szd a b)), (1, .int (Int32.ofNat k)), (0, .ref (K.B + r))]) (by decide +kernel) hl4 (by decide) rfl (fun ls5 hl5 => ?_)
  refine g_loop3 A C0 r1 r2 (by omega) hRc hRs 10 0 _ ls5 locs4 (by omega) hS4 hN hl5 (fun ls6 locs6 hS6 hl6 => ?_)
  refine lv_dload hx hcb (i := 4) (by decide +kernel) (pow_lv hl6 (List.mem_cons_self ..)) ?_
  refine lv_ldc2d hx hcb C0.2.2.2.1 (C0.2.2.2.2 _ cT_in) (by decide +kernel) ?_
  refine lv_dmul hx hcb (by decide +kernel) (dat_vf (mulR_N ten_fin (by decide) (nws_N _ _ hN hg0))) ?_
  refine lv_d2l hx hcb (by decide +kernel) ?_
  have hw6 : bS K.D K.B w.1.length (bct K w.1) s H locs6 := ⟨hw.1, hS6⟩
  have fin : ∀ t : State, t.heap = H → bTop K w t ∧ va_F (bA K.B) s t := fun t ht => ⟨⟨by rw [ht]; exact hw6.1, fun h => by rw [ht]; exact hz h⟩, hw6.2.F ht⟩
  exact vx_ret (W.lret (v := gval k a b) hx hcb hret (fun t ht hW => ⟨⟨_, rfl, rfl⟩, fin t ht⟩) hw6.2.2.2 (by decide +kernel))
end DBL13
