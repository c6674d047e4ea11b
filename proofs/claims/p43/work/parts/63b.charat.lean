/-! THE MACHINE on a recipe's text: length, charAt. -/
section STR2
theorem len_met {l : Launch} {A : Nat → Prop} {q v : Nat} {bs : List Int32} {H0 : Heap} {free : Addr → Prop} : Met l yJ0_length_8abf5 (bwh yJ0_length_8abf5 cJ0_length_8abf5 1 (some .int)) ({ frames := 4, cells := 0, slots := 0, locals := 60 }) (fun a st => a = #[.ref q] ∧ st.heap = H0 ∧ SFt A q v bs st) (va_Qi (fun r (_ : Unit) => r = Int32.ofNat bs.length) (fun _ t => t.heap = H0) (fun _ => False)) 0 0 free := by
  refine Met.ofW (cc := cJ0_length_8abf5) (maxL := 1) (ret := (some .int)) (by decide +kernel) rfl ?_
  intro p e s m args below meth c s₁ B hml hP
  obtain ⟨rfl, hH0, hF⟩ := hP
  obtain ⟨h1, h2, h3, h4, h5, h6⟩ := id hF
  have hx := B.exec
  have hcb := B.bytes
  have hts := atoms_spec (ws := bwh yJ0_length_8abf5 cJ0_length_8abf5 1 (some .int)) B.pre
  have hown : s.vm.findClass RJ0 = some m.cls := findClass_of_methodNamed B.named
  have hl := lv_entry [.ref q] (n := 1) (Nat.le_of_ble_eq_true rfl)
  rw [lg_entry_eq]
  have hl : lv_has _ 1 [(0, .ref q)] := hl
  have hlk := B.notSynchronized
  have hS : va_S A s.heap s.heap [] := va_S.rf
  have hS0 : va_S (fun _ => False) s.heap s.heap [] := va_S.rf
  have C0 : CallFix p m c cJ0_length_8abf5 1 s ([.ref q] : List Value).toArray bw_G RJ0 := ⟨hx, hcb, hml, hown, fun w hw => hts w (List.mem_cons_of_mem _ hw)⟩
  refine lv_aload_n hx hcb (k := 0) (i := 0) (x := q) (by decide +kernel) rfl (pow_lv hl (by simp)) ?_
  refine va_getX (own := RJ0) (ref := "java/lang/String") (index := 9) (N := 1) (v := fun _ => .ref v) (ad := fun _ => q) (i := 0) hx hcb (fun _ _ => h5) (by decide) hS hown (C0.2.2.2.2 _ vl_in) (fun _ h => h) (by decide +kernel) ?_
  refine va_tlen hx hcb h6 hS rfl (by decide +kernel) ?_
  refine lv_aload_n hx hcb (k := 0) (i := 0) (x := q) (by decide +kernel) rfl (pow_lv hl (by simp)) ?_
  refine va_calli (A0 := fun _ => False) (va_runV C0 (coder_met (free := fun _ => False) (H0 := s.heap) (A := A) (q := q) (v := v) (bs := bs)) (cwV (C := yJ0_coder_7d493.cls) (bytes := cJ0_coder_7d493) (maxL := 1) (ret := some .byte) 0 C0.2.2.2.2 gd_coder rfl rfl rfl ⟨rfl, by decide, by decide, by decide +kernel⟩ ⟨by show 2 + 1 ≤ 4; decide, by show 8 + (1 + 11) + 20 ≤ 60; decide⟩) ⟨fun _ U g mk q => ⟨q.1, q.2.1, q.2.2.calling g mk _⟩, (by obtain ⟨cell, a1, a2, a3, -⟩ := h3; exact ⟨cell, a1, a2, a3⟩), fun U hU hW => ⟨rfl, hU, hF.to (fun a _ _ => by rw [hU]) hW.alike⟩⟩ rfl (As := []) rfl hl.1 rfl (lv_room (by show (1 : Nat) ≤ 8; decide)) (show decode cJ0_length_8abf5 6 = .ok (.invokevirtual 335, 3) by decide +kernel) ⟨Nat.le_refl 0, Nat.le_refl 0⟩) hS0 (fun q _ h => h.elim) (fun q h => h.elim) (fun r u t H1 locs1 ht hvm hr hB hz hk1 hS1 => ?_)
  have e1 : H1 = s.heap := ht.symm.trans hB
  subst e1
  have e2 : r = 0 := hr
  subst e2
  refine lv_ishr hx hcb (by decide +kernel) ?_
  rw [show ((0 : Int32) &&& 31) = 0 by decide, Int32.shiftRight_zero]
  exact W.iret (v := Int32.ofNat bs.length) hx hcb B.returns (fun t ht _ => ⟨⟨_, (), rfl, rfl, ht.trans hH0⟩, by unfold va_F; rw [ht]; exact ⟨Nat.le_refl _, fun _ _ _ => rfl⟩⟩) (fun q hq => (hS1.2.2 q hq).elim) (by decide +kernel) hlk
theorem l1_met {l : Launch} {A : Nat → Prop} {q v : Nat} {bs : List Int32} {k : Int32} {x : Int32} {H0 : Heap} {free : Addr → Prop} (hk : ¬ k < 0) (hn : k < Int32.ofNat bs.length) (hn2 : k.toNatClampNeg < bs.length) (hx1 : bs.getD k.toNatClampNeg 0 = x) (hx2 : ((x &&& 255).toUInt32 % 65536).toInt32 = x) (hx3 : narrow .char (.int x) = .int x) : Met l yJ1_charAt_3b067 (bwh yJ1_charAt_3b067 cJ1_charAt_3b067 2 (some .char)) ({ frames := 6, cells := 0, slots := 0, locals := 100 }) (fun a st => a = #[.ref v, .int k] ∧ st.heap = H0 ∧ SFt A q v bs st) (va_Qi (fun r (_ : Unit) => r = x) (fun _ t => t.heap = H0) (fun _ => False)) 0 0 free := by
  refine Met.ofW (cc := cJ1_charAt_3b067) (maxL := 2) (ret := (some .char)) (by decide +kernel) rfl ?_
  intro p e s m args below meth c s₁ B hml hP
  obtain ⟨rfl, hH0, hF⟩ := hP
  obtain ⟨h1, h2, h3, h4, h5, h6⟩ := id hF
  have hx := B.exec
  have hcb := B.bytes
  have hts := atoms_spec (ws := bwh yJ1_charAt_3b067 cJ1_charAt_3b067 2 (some .char)) B.pre
  have hown : s.vm.findClass RJ1 = some m.cls := findClass_of_methodNamed B.named
  have hl := lv_entry [.ref v, .int k] (n := 2) (Nat.le_of_ble_eq_true rfl)
  rw [lg_entry_eq]
  have hl : lv_has _ 2 [(0, .ref v), (1, .int k)] := hl
  have hlk := B.notSynchronized
  have hS : va_S A s.heap s.heap [] := va_S.rf
  have hS0 : va_S (fun _ => False) s.heap s.heap [] := va_S.rf
  have C0 : CallFix p m c cJ1_charAt_3b067 2 s ([.ref v, .int k] : List Value).toArray bw_G RJ1 := ⟨hx, hcb, hml, hown, fun w hw => hts w (List.mem_cons_of_mem _ hw)⟩
  refine lv_iload_n hx hcb (k := 1) (i := 1) (x := k) (by decide +kernel) rfl (pow_lv hl (by simp)) ?_
  refine lv_aload_n hx hcb (k := 0) (i := 0) (x := v) (by decide +kernel) rfl (pow_lv hl (by simp)) ?_
  refine va_tlen hx hcb h6 hS rfl (by decide +kernel) ?_
  refine va_callv (A0 := fun _ => False) (va_runS C0 (chk_met (free := fun _ => False) (H0 := s.heap) (A := A) hk hn) (va_cwS (bytes := cJ0_checkIndex_df160) (maxL := 2) (ret := none) 2 C0.2.2.2.2 gd_chk rfl rfl rfl ⟨by decide, by decide, by decide +kernel⟩ ⟨by show 4 + 1 ≤ 6; decide, by show 8 + (2 + 11) + 60 ≤ 100; decide⟩) ⟨fun _ U g mk q => ⟨q.1, q.2.1, va_Zq.moved (u := U) (U := U.calling g mk _) (Vm.Alike.refl U.vm) q.2.2⟩, fun U hU hW => ⟨rfl, hU, (hF.to (fun a _ _ => by rw [hU]) hW.alike).2.1⟩⟩ rfl (As := [.int k, .int (Int32.ofNat bs.length)]) rfl hl.1 rfl (lv_room (by decide)) (show decode cJ1_charAt_3b067 3 = .ok (.invokestatic 9, 3) by decide +kernel) ⟨Nat.le_refl 0, Nat.le_refl 0⟩) hS0 (fun q _ h => h.elim) (fun q h => h.elim) (fun u t H1 locs1 ht hvm hr hB hz hk1 hS1 => ?_)
  have e1 : H1 = s.heap := ht.symm.trans hB
  subst e1
  refine lv_aload_n hx hcb (k := 0) (i := 0) (x := v) (by decide +kernel) rfl (pow_lv hl (by simp)) ?_
  refine lv_iload_n hx hcb (k := 1) (i := 1) (x := k) (by decide +kernel) rfl (pow_lv hl (by simp)) ?_
  refine va_tb hx hcb h6 (vS_w hS1) (show vp_in k bs.length from fun z => z.elim hk (fun z => absurd hn2 (Nat.not_lt.mpr z))) (congrArg Value.int hx1) (by decide +kernel) ?_
  refine lv_sipush hx hcb (n := 255) (v := 255) (by decide +kernel) (by decide) ?_
  refine lv_iand hx hcb (by decide +kernel) ?_
  refine lv_i2c hx hcb (v := x) (by decide +kernel) hx2 ?_
  exact W.zret (v := x) hx hcb B.returns hx3 (fun t ht _ => ⟨⟨x, (), rfl, rfl, ht.trans hH0⟩, by unfold va_F; rw [ht]; exact ⟨Nat.le_refl _, fun _ _ _ => rfl⟩⟩) (fun q hq => (hS1.2.2 q hq).elim) (by decide +kernel) hlk
theorem chr_met {l : Launch} {A : Nat → Prop} {q v : Nat} {bs : List Int32} {k : Int32} {x : Int32} {H0 : Heap} {free : Addr → Prop} (hk : ¬ k < 0) (hn : k < Int32.ofNat bs.length) (hn2 : k.toNatClampNeg < bs.length) (hx1 : bs.getD k.toNatClampNeg 0 = x) (hx2 : ((x &&& 255).toUInt32 % 65536).toInt32 = x) (hx3 : narrow .char (.int x) = .int x) : Met l yJ0_charAt_5068e (bwh yJ0_charAt_5068e cJ0_charAt_5068e 2 (some .char)) ({ frames := 8, cells := 0, slots := 0, locals := 140 }) (fun a st => a = #[.ref q, .int k] ∧ st.heap = H0 ∧ SFt A q v bs st) (va_Qi (fun r (_ : Unit) => r = x) (fun _ t => t.heap = H0) (fun _ => False)) 0 0 free := by
  refine Met.ofW (cc := cJ0_charAt_5068e) (maxL := 2) (ret := (some .char)) (by decide +kernel) rfl ?_
  intro p e s m args below meth c s₁ B hml hP
  obtain ⟨rfl, hH0, hF⟩ := hP
  obtain ⟨h1, h2, h3, h4, h5, h6⟩ := id hF
  have hx := B.exec
  have hcb := B.bytes
  have hts := atoms_spec (ws := bwh yJ0_charAt_5068e cJ0_charAt_5068e 2 (some .char)) B.pre
  have hown : s.vm.findClass RJ0 = some m.cls := findClass_of_methodNamed B.named
  have hl := lv_entry [.ref q, .int k] (n := 2) (Nat.le_of_ble_eq_true rfl)
  rw [lg_entry_eq]
  have hl : lv_has _ 2 [(0, .ref q), (1, .int k)] := hl
  have hlk := B.notSynchronized
  have hS : va_S A s.heap s.heap [] := va_S.rf
  have hS0 : va_S (fun _ => False) s.heap s.heap [] := va_S.rf
  have C0 : CallFix p m c cJ0_charAt_5068e 2 s ([.ref q, .int k] : List Value).toArray bw_G RJ0 := ⟨hx, hcb, hml, hown, fun w hw => hts w (List.mem_cons_of_mem _ hw)⟩
  refine lv_aload_n hx hcb (k := 0) (i := 0) (x := q) (by decide +kernel) rfl (pow_lv hl (by simp)) ?_
  refine va_calli (A0 := fun _ => False) (va_runV C0 (latin_met (free := fun _ => False) (H0 := s.heap) (A := A) (q := q) (v := v) (bs := bs)) (cwV (C := yJ0_isLatin1_aae02.cls) (bytes := cJ0_isLatin1_aae02) (maxL := 1) (ret := some .boolean) 0 C0.2.2.2.2 gd_latin rfl rfl rfl ⟨rfl, by decide, by decide, by decide +kernel⟩ ⟨by show 2 + 1 ≤ 8; decide, by show 8 + (1 + 11) + 20 ≤ 140; decide⟩) ⟨fun _ U g mk q => ⟨q.1, q.2.1, q.2.2.calling g mk _⟩, (by obtain ⟨cell, a1, a2, a3, -⟩ := h3; exact ⟨cell, a1, a2, a3⟩), fun U hU hW => ⟨rfl, hU, hF.to (fun a _ _ => by rw [hU]) hW.alike⟩⟩ rfl (As := []) rfl hl.1 rfl (lv_room (by decide)) (show decode cJ0_charAt_5068e 1 = .ok (.invokevirtual 492, 3) by decide +kernel) ⟨Nat.le_refl 0, Nat.le_refl 0⟩) hS0 (fun q _ h => h.elim) (fun q h => h.elim) (fun r u t H1 locs1 ht hvm hr hB hz hk1 hS1 => ?_)
  have e1 : H1 = s.heap := ht.symm.trans hB
  subst e1
  have e2 : r = 1 := hr
  subst e2
  refine lv_if_eq hx hcb (off := 12) (tgt := 16) (by decide +kernel) (by decide) (fun h => absurd h (by decide)) (fun _ => ?_)
  refine lv_aload_n hx hcb (k := 0) (i := 0) (x := q) (by decide +kernel) rfl (pow_lv hl (by simp)) ?_
  refine va_getX (own := RJ0) (ref := "java/lang/String") (index := 9) (N := 1) (v := fun _ => .ref v) (ad := fun _ => q) (i := 0) hx hcb (fun _ _ => h5) (by decide) (vS_w hS1) hown (C0.2.2.2.2 _ vl_in) (fun _ h => h) (by decide +kernel) ?_
  refine lv_iload_n hx hcb (k := 1) (i := 1) (x := k) (by decide +kernel) rfl (pow_lv hl (by simp)) ?_
  refine va_calli (A0 := fun _ => False) (va_runS C0 (l1_met (free := fun _ => False) (H0 := s.heap) (A := A) (q := q) (v := v) (bs := bs) hk hn hn2 hx1 hx2 hx3) (va_cwS (bytes := cJ1_charAt_3b067) (maxL := 2) (ret := some .char) 2 C0.2.2.2.2 gd_l1 rfl rfl rfl ⟨by decide, by decide, by decide +kernel⟩ ⟨by show 6 + 1 ≤ 8; decide, by show 8 + (2 + 11) + 100 ≤ 140; decide⟩) ⟨fun _ U g mk q => ⟨q.1, q.2.1, q.2.2.calling g mk _⟩, fun U hU hW => ⟨rfl, hU, hF.to (fun a _ _ => by rw [hU]) hW.alike⟩⟩ rfl (As := [.ref v, .int k]) rfl hl.1 rfl (lv_room (by decide)) (show decode cJ0_charAt_5068e 12 = .ok (.invokestatic 495, 3) by decide +kernel) ⟨Nat.le_refl 0, Nat.le_refl 0⟩) hS1 (fun q _ h => h.elim) (fun q h => h.elim) (fun r u t H2 locs2 ht hvm hr hB hz hk1 hS2 => ?_)
  have e1 : H2 = s.heap := ht.symm.trans hB
  subst e1
  have e2 : r = x := hr
  subst e2
  exact W.zret (v := r) hx hcb B.returns hx3 (fun t ht _ => ⟨⟨_, (), rfl, rfl, ht.trans hH0⟩, by unfold va_F; rw [ht]; exact ⟨Nat.le_refl _, fun _ _ _ => rfl⟩⟩) (fun q hq => (hS2.2.2 q hq).elim) (by decide +kernel) hlk
end STR2
