/-! THE MACHINE on recipes: nextSign, from its end on. -/
section SGN2
theorem sgn_snd {l : Launch} {K : KE} {scr : List Int32} (_ : bAll K (bPr scr)) {d j : Nat} {x : Int32} {w : bW} {lv : List (Nat × bV)} (hj : 4 ≤ j ∧ j < 16) (h0 : 0 ≤ x.toInt) (h1 : blk lv 1 = some (.inr (.inr (.inr (some j))))) (h2 : blk lv 2 = some (.inl x)) : bSnd l K (bPr scr) (d + 4) 2059 27 lv [] w (.inl (some (.inl (sgJ j x)))) w := by
  refine ⟨Nat.le_refl _, Nat.le_refl _, Nat.le_refl _, ⟨_, (show bop 2059 27 = some (.iload_n 2, 0, 0, 0, 0) by decide +kernel)⟩, ?_⟩
  intro p e R s m args below meth c H locs cells slots ls w0 mc ms C0 hb hw hz hret hnm hlk htab hRf hRl hRc hRs hc hsl hmc hms hl
  have e1 : mc = cells := by omega
  have e2 : ms = slots := by omega
  subst e1
  subst e2
  have C0 : CallFix p m c cX6_nextSign 3 s args bw_G RX6 := C0
  have hl : lv_has ls 3 (bvl K lv) := hl
  have l1 : ls[1]? = some (.val (.ref (K.X j))) := blk_has hl h1
  have l2 : ls[2]? = some (.val (.int x)) := blk_has hl h2
  have hx := C0.1
  have hcb := C0.2.1
  obtain ⟨hq, hq1⟩ := sg_at ⟨j, hj.2⟩ hj.1
  obtain ⟨b1, b2, rs⟩ := hb.2.2.2.2.1.2
  obtain ⟨-, g2, g3, v, g4, g5⟩ := rs _ hq
  rw [hq1] at g2 g3 g4
  have hF : SFt (bA K.B) (K.X j) v (sgB j) s := ⟨b1, b2.1, g2, g3, g4, g5⟩
  have h3 := g2
  have fin : ∀ (locs2 : List Loc), va_S (bA K.B) s.heap H locs2 → ∀ t : State, t.heap = H → bTop K w t ∧ va_F (bA K.B) s t := fun locs2 hS t ht => ⟨⟨by rw [ht]; exact hw.1, fun h => by rw [ht]; exact hz h⟩, hS.F ht⟩
  have hN := sgJ_in (j := j) h0 hj.2
  show W p l e R s m args below meth c H locs mc ms _ (F0 m 27 ls [])
  refine lv_iload_n hx hcb (k := 2) (i := 2) (x := x) (by decide +kernel) rfl l2 ?_
  refine lv_aload_n hx hcb (k := 1) (i := 1) (x := K.X j) (by decide +kernel) rfl l1 ?_
  refine va_calli (A0 := bA K.B) (va_runV C0 (len_met (free := fun _ => False) (H0 := H) (A := bA K.B) (q := K.X j) (v := v) (bs := sgB j)) (cwV (C := yJ0_length_8abf5.cls) (bytes := cJ0_length_8abf5) (maxL := 1) (ret := some .int) 0 C0.2.2.2.2 gd_len rfl rfl rfl ⟨rfl, by decide, by decide, by decide +kernel⟩ ⟨by show 4 + 1 ≤ _; omega, by show 8 + (1 + 11) + 60 ≤ _; omega⟩) ⟨fun _ U g mk q => ⟨q.1, q.2.1, q.2.2.calling g mk _⟩, (by obtain ⟨cell, a1, a2, a3, -⟩ := h3.kept hw.2.2.1; exact ⟨cell, a1, a2, a3⟩), fun U hU hW => ⟨rfl, hU, hF.to (fun a g1 g2 => by rw [hU]; exact hw.2.2.1 a g1 g2) hW.alike⟩⟩ rfl (As := []) rfl hl.1 rfl (lv_room (by show (1 : Nat) ≤ 8; decide)) (show decode cX6_nextSign 29 = .ok (.invokevirtual 160, 3) by decide +kernel) ⟨by omega, by omega⟩) hw.2 (fun q _ h => h.elim) (fun q h => h.elim) (fun r u t H1 locs1 ht hvm hr hB hz1 hk1 hS1 => ?_)
  have e1 : H1 = H := ht.symm.trans hB
  subst e1
  have e2 : r = Int32.ofNat (sgB j).length := hr
  subst e2
  refine lv_icmp_ge hx hcb (off := 11) (tgt := 43) (by decide +kernel) (by decide) (fun h => ?_) (fun h => ?_)
  · have hn : ¬ x < Int32.ofNat (sgB j).length := fun z => by
      rw [Int32.lt_iff_toInt_lt] at z
      have h := Int32.le_iff_toInt_le.mp h
      omega
    have ej : sgJ j x = 0 := if_neg hn
    refine lv_iconst hx hcb (n := 0) (v := 0) (by decide +kernel) rfl ?_
    rw [ej]
    exact vx_ret (W.zret (v := 0) hx hcb hret (by decide) (fun t ht hW => ⟨⟨_, rfl, rfl⟩, fin locs1 hS1 t ht⟩) hS1.2.2 (by decide +kernel))
  have hn : x < Int32.ofNat (sgB j).length := Int32.lt_iff_toInt_lt.mpr (by
    rcases Int.lt_or_le x.toInt (Int32.ofNat (sgB j).length).toInt with z | z
    · exact z
    · exact absurd (Int32.le_iff_toInt_le.mpr z) h)
  have ej : sgJ j x = (sgB j).getD x.toNatClampNeg 0 := if_pos hn
  obtain ⟨n1, n2⟩ := sgn_n h0 hj.2 hn
  have hlen : (sgB j).length ≤ 9 := (sg_b ⟨j, hj.2⟩).1
  have hb3 := (sg_b ⟨j, hj.2⟩).2 ⟨x.toNatClampNeg, by omega⟩
  have hnar : narrow .char (.int (sgJ j x)) = .int (sgJ j x) := sg_nar hN.1
  have hx0 : ¬ x < 0 := fun z => by
    have z := Int32.lt_iff_toInt_lt.mp z
    have z : x.toInt < 0 := z
    omega
  refine lv_aload_n hx hcb (k := 1) (i := 1) (x := K.X j) (by decide +kernel) rfl l1 ?_
  refine lv_iload_n hx hcb (k := 2) (i := 2) (x := x) (by decide +kernel) rfl l2 ?_
  refine va_calli (A0 := bA K.B) (va_runV C0 (chr_met (free := fun _ => False) (H0 := H1) (A := bA K.B) (q := K.X j) (v := v) (bs := sgB j) (k := x) (x := sgJ j x) hx0 hn n1 ej.symm (by rw [ej]; exact hb3.2) hnar) (cwV (C := yJ0_charAt_5068e.cls) (bytes := cJ0_charAt_5068e) (maxL := 2) (ret := some .char) 1 C0.2.2.2.2 gd_chr rfl rfl rfl ⟨rfl, by decide, by decide, by decide +kernel⟩ ⟨by show 8 + 1 ≤ _; omega, by show 8 + (2 + 11) + 140 ≤ _; omega⟩) ⟨fun _ U g mk q => ⟨q.1, q.2.1, q.2.2.calling g mk _⟩, (by obtain ⟨cell, a1, a2, a3, -⟩ := h3.kept hw.2.2.1; exact ⟨cell, a1, a2, a3⟩), fun U hU hW => ⟨rfl, hU, hF.to (fun a g1 g2 => by rw [hU]; exact hw.2.2.1 a g1 g2) hW.alike⟩⟩ rfl (As := [.int x]) rfl hl.1 rfl (lv_room (by decide)) (show decode cX6_nextSign 37 = .ok (.invokevirtual 166, 3) by decide +kernel) ⟨by omega, by omega⟩) hS1 (fun q _ h => h.elim) (fun q h => h.elim) (fun r u t H2 locs2 ht hvm hr hB hz2 hk2 hS2 => ?_)
  have e1 : H2 = H1 := ht.symm.trans hB
  subst e1
  have e2 : r = sgJ j x := hr
  subst e2
  refine lv_goto hx hcb (off := 4) (tgt := 44) (by decide +kernel) (by decide) ?_
  exact vx_ret (W.zret (v := sgJ j x) hx hcb hret hnar (fun t ht hW => ⟨⟨_, rfl, rfl⟩, fin locs2 hS2 t ht⟩) hS2.2.2 (by decide +kernel))
end SGN2
