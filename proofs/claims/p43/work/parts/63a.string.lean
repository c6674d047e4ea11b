/-! THE MACHINE on a recipe's text: String's own methods. -/
section STR
/-- a text: at q, its bytes bs at v -/
def SFt (A : Nat → Prop) (q v : Nat) (bs : List Int32) (U : State) : Prop :=
  va_Z "java/lang/String" "COMPACT_STRINGS" "Z" (.int 1) A U U.heap ∧ va_Zq "jdk/internal/util/Preconditions" "SIOOBE_FORMATTER" "Ljava/util/function/BiFunction;" A U U.heap ∧ va_O "java/lang/String" q A U U.heap ∧ va_OF "java/lang/String" "coder" "B" (.int 0) q A U U.heap ∧ va_OF "java/lang/String" "value" "[B" (.ref v) q A U U.heap ∧ va_T .byte v bs.length (fun j => .int (bs.getD j 0)) A U U.heap
theorem SFt.to {A : Nat → Prop} {q v : Nat} {bs : List Int32} {s U : State} (h : SFt A q v bs s) (hq : ∀ a : Nat, a < s.heap.size → ¬ A a → U.heap[a]? = s.heap[a]?) (hW : s.vm.Alike U.vm) : SFt A q v bs U :=
  ⟨va_Z.moved hW (h.1.kept hq), va_Zq.moved hW (h.2.1.kept hq), va_O.moved hW (h.2.2.1.kept hq), va_OF.moved hW (h.2.2.2.1.kept hq), va_OF.moved hW (h.2.2.2.2.1.kept hq), va_T.moved hW (h.2.2.2.2.2.kept hq)⟩
theorem SFt.calling {A : Nat → Prop} {q v : Nat} {bs : List Int32} {U : State} (g : JFrame) (mk : MethodId) (a : Array Value) (h : SFt A q v bs U) : SFt A q v bs (U.calling g mk a) :=
  have hv := Vm.Alike.refl U.vm
  ⟨va_Z.moved (u := U) (U := U.calling g mk a) hv h.1, va_Zq.moved (u := U) (U := U.calling g mk a) hv h.2.1, va_O.moved (u := U) (U := U.calling g mk a) hv h.2.2.1, va_OF.moved (u := U) (U := U.calling g mk a) hv h.2.2.2.1, va_OF.moved (u := U) (U := U.calling g mk a) hv h.2.2.2.2.1, va_T.moved (u := U) (U := U.calling g mk a) hv h.2.2.2.2.2⟩
theorem vS_w {A : Nat → Prop} {H0 H : Heap} {locs : List Loc} (h : va_S (fun _ => False) H0 H locs) : va_S A H0 H locs := ⟨h.1, fun q g1 _ => h.2.1 q g1 (fun z => z), fun q hq => (h.2.2 q hq).elim⟩
theorem cs_in : Jvm.Cond.fieldLink RJ0 38 "java/lang/String" "COMPACT_STRINGS" "Z" ∈ bw_G := bw_in (by decide +kernel) rfl
theorem cd_in : Jvm.Cond.fieldLink RJ0 15 "java/lang/String" "coder" "B" ∈ bw_G := bw_in (by decide +kernel) rfl
theorem vl_in : Jvm.Cond.fieldLink RJ0 9 "java/lang/String" "value" "[B" ∈ bw_G := bw_in (by decide +kernel) rfl
theorem sf_in : Jvm.Cond.fieldLink RJ0 1053 "jdk/internal/util/Preconditions" "SIOOBE_FORMATTER" "Ljava/util/function/BiFunction;" ∈ bw_G := bw_in (by decide +kernel) rfl
abbrev bwh (y : MethodName) (cc : ByteArray) (n : Nat) (t : Option FieldType) : List Cond := Jvm.Cond.code y cc n t :: bw_G
theorem cdr_V (own : String) (ix : Nat) (y : MethodName) (cc : ByteArray) (n : Nat) (t : Option FieldType) (h1 : Jvm.Cond.methodLink own ix y ∈ bw_G) (h2 : Jvm.Cond.instanceMethod y ∈ bw_G) (h3 : Jvm.Cond.selects y.cls y y ∈ bw_G) (h4 : Jvm.Cond.initialized y.cls ∈ bw_G) (h5 : Jvm.Cond.code y cc n t ∈ bw_G) : GoodIn bw_G (wsV own ix y.cls y (bwh y cc n t)) := fun w' hw' => bgood (by
  rcases List.mem_append.mp hw' with h7 | h7
  · simp only [List.mem_cons, List.not_mem_nil, or_false] at h7
    rcases h7 with rfl | rfl | rfl | rfl
    · exact h1
    · exact h2
    · exact h3
    · exact h4
  · rcases List.mem_cons.mp h7 with rfl | h8
    · exact h5
    · exact h8)
theorem cdr_S (own : String) (ix : Nat) (y : MethodName) (cc : ByteArray) (n : Nat) (t : Option FieldType) (h1 : Jvm.Cond.methodLink own ix y ∈ bw_G) (h2 : Jvm.Cond.static y ∈ bw_G) (h4 : Jvm.Cond.initialized y.cls ∈ bw_G) (h5 : Jvm.Cond.code y cc n t ∈ bw_G) : GoodIn bw_G (va_wsS own ix y (bwh y cc n t)) := fun w' hw' => bgood (by
  rcases List.mem_append.mp hw' with h7 | h7
  · simp only [List.mem_cons, List.not_mem_nil, or_false] at h7
    rcases h7 with rfl | rfl | rfl
    · exact h1
    · exact h2
    · exact h4
  · rcases List.mem_cons.mp h7 with rfl | h8
    · exact h5
    · exact h8)
theorem gd_coder : GoodIn bw_G (wsV RJ0 335 yJ0_coder_7d493.cls yJ0_coder_7d493 (bwh yJ0_coder_7d493 cJ0_coder_7d493 1 (some .byte))) := cdr_V _ _ _ _ _ _ (bw_in (by decide +kernel) rfl) (bw_in (by decide +kernel) rfl) (bw_in (by decide +kernel) rfl) (bw_in (by decide +kernel) rfl) (bw_in (by decide +kernel) rfl)
theorem gd_latin : GoodIn bw_G (wsV RJ0 492 yJ0_isLatin1_aae02.cls yJ0_isLatin1_aae02 (bwh yJ0_isLatin1_aae02 cJ0_isLatin1_aae02 1 (some .boolean))) := cdr_V _ _ _ _ _ _ (bw_in (by decide +kernel) rfl) (bw_in (by decide +kernel) rfl) (bw_in (by decide +kernel) rfl) (bw_in (by decide +kernel) rfl) (bw_in (by decide +kernel) rfl)
theorem gd_l1 : GoodIn bw_G (va_wsS RJ0 495 yJ1_charAt_3b067 (bwh yJ1_charAt_3b067 cJ1_charAt_3b067 2 (some .char))) := cdr_S _ _ _ _ _ _ (bw_in (by decide +kernel) rfl) (bw_in (by decide +kernel) rfl) (bw_in (by decide +kernel) rfl) (bw_in (by decide +kernel) rfl)
theorem gd_chk : GoodIn bw_G (va_wsS RJ1 9 yJ0_checkIndex_df160 (bwh yJ0_checkIndex_df160 cJ0_checkIndex_df160 2 none)) := cdr_S _ _ _ _ _ _ (bw_in (by decide +kernel) rfl) (bw_in (by decide +kernel) rfl) (bw_in (by decide +kernel) rfl) (bw_in (by decide +kernel) rfl)
theorem gd_pre : GoodIn bw_G (va_wsS RJ0 1059 yJ3_checkIndex_8e157 (bwh yJ3_checkIndex_8e157 cJ3_checkIndex_8e157 3 (some .int))) := cdr_S _ _ _ _ _ _ (bw_in (by decide +kernel) rfl) (bw_in (by decide +kernel) rfl) (bw_in (by decide +kernel) rfl) (bw_in (by decide +kernel) rfl)
theorem gd_len : GoodIn bw_G (wsV RX6 160 yJ0_length_8abf5.cls yJ0_length_8abf5 (bwh yJ0_length_8abf5 cJ0_length_8abf5 1 (some .int))) := cdr_V _ _ _ _ _ _ (bw_in (by decide +kernel) rfl) (bw_in (by decide +kernel) rfl) (bw_in (by decide +kernel) rfl) (bw_in (by decide +kernel) rfl) (bw_in (by decide +kernel) rfl)
theorem gd_chr : GoodIn bw_G (wsV RX6 166 yJ0_charAt_5068e.cls yJ0_charAt_5068e (bwh yJ0_charAt_5068e cJ0_charAt_5068e 2 (some .char))) := cdr_V _ _ _ _ _ _ (bw_in (by decide +kernel) rfl) (bw_in (by decide +kernel) rfl) (bw_in (by decide +kernel) rfl) (bw_in (by decide +kernel) rfl) (bw_in (by decide +kernel) rfl)
theorem coder_met {l : Launch} {A : Nat → Prop} {q v : Nat} {bs : List Int32} {H0 : Heap} {free : Addr → Prop} : Met l yJ0_coder_7d493 (bwh yJ0_coder_7d493 cJ0_coder_7d493 1 (some .byte)) ({ frames := 2, cells := 0, slots := 0, locals := 20 }) (fun a st => a = #[.ref q] ∧ st.heap = H0 ∧ SFt A q v bs st) (va_Qi (fun r (_ : Unit) => r = 0) (fun _ t => t.heap = H0) (fun _ => False)) 0 0 free := by
  refine Met.ofW (cc := cJ0_coder_7d493) (maxL := 1) (ret := (some .byte)) (by decide +kernel) rfl ?_
  intro p e s m args below meth c s₁ B hml hP
  obtain ⟨rfl, hH0, h1, h2, h3, h4, h5, h6⟩ := hP
  have hx := B.exec
  have hcb := B.bytes
  have hts := atoms_spec (ws := bwh yJ0_coder_7d493 cJ0_coder_7d493 1 (some .byte)) B.pre
  have hown : s.vm.findClass RJ0 = some m.cls := findClass_of_methodNamed B.named
  have hl := lv_entry [.ref q] (n := 1) (Nat.le_of_ble_eq_true rfl)
  rw [lg_entry_eq]
  have hl : lv_has _ 1 [(0, .ref q)] := hl
  have hlk := B.notSynchronized
  have hS : va_S A s.heap s.heap [] := va_S.rf
  have hS0 : va_S (fun _ => False) s.heap s.heap [] := va_S.rf
  have C0 : CallFix p m c cJ0_coder_7d493 1 s ([.ref q] : List Value).toArray bw_G RJ0 := ⟨hx, hcb, hml, hown, fun w hw => hts w (List.mem_cons_of_mem _ hw)⟩
  refine va_gets (own := RJ0) (ref := "java/lang/String") (index := 38) hx hcb h1 hS hown (C0.2.2.2.2 _ cs_in) (fun _ h => h) (by decide +kernel) ?_
  refine lv_if_eq hx hcb (off := 10) (tgt := 13) (by decide +kernel) (by decide) (fun h => absurd h (by decide)) (fun _ => ?_)
  refine lv_aload_n hx hcb (k := 0) (i := 0) (x := q) (by decide +kernel) rfl (pow_lv hl (by simp)) ?_
  refine va_getX (own := RJ0) (ref := "java/lang/String") (index := 15) (N := 1) (v := fun _ => .int 0) (ad := fun _ => q) (i := 0) hx hcb (fun _ _ => h4) (by decide) hS hown (C0.2.2.2.2 _ cd_in) (fun _ h => h) (by decide +kernel) ?_
  refine lv_goto hx hcb (off := 4) (tgt := 14) (by decide +kernel) (by decide) ?_
  exact W.zret (v := 0) hx hcb B.returns (by decide) (fun t ht _ => ⟨⟨0, (), rfl, rfl, ht.trans hH0⟩, by unfold va_F; rw [ht]; exact ⟨Nat.le_refl _, fun _ _ _ => rfl⟩⟩) (fun q hq => by cases hq) (by decide +kernel) hlk
theorem latin_met {l : Launch} {A : Nat → Prop} {q v : Nat} {bs : List Int32} {H0 : Heap} {free : Addr → Prop} : Met l yJ0_isLatin1_aae02 (bwh yJ0_isLatin1_aae02 cJ0_isLatin1_aae02 1 (some .boolean)) ({ frames := 2, cells := 0, slots := 0, locals := 20 }) (fun a st => a = #[.ref q] ∧ st.heap = H0 ∧ SFt A q v bs st) (va_Qi (fun r (_ : Unit) => r = 1) (fun _ t => t.heap = H0) (fun _ => False)) 0 0 free := by
  refine Met.ofW (cc := cJ0_isLatin1_aae02) (maxL := 1) (ret := (some .boolean)) (by decide +kernel) rfl ?_
  intro p e s m args below meth c s₁ B hml hP
  obtain ⟨rfl, hH0, h1, h2, h3, h4, h5, h6⟩ := hP
  have hx := B.exec
  have hcb := B.bytes
  have hts := atoms_spec (ws := bwh yJ0_isLatin1_aae02 cJ0_isLatin1_aae02 1 (some .boolean)) B.pre
  have hown : s.vm.findClass RJ0 = some m.cls := findClass_of_methodNamed B.named
  have hl := lv_entry [.ref q] (n := 1) (Nat.le_of_ble_eq_true rfl)
  rw [lg_entry_eq]
  have hl : lv_has _ 1 [(0, .ref q)] := hl
  have hlk := B.notSynchronized
  have hS : va_S A s.heap s.heap [] := va_S.rf
  have hS0 : va_S (fun _ => False) s.heap s.heap [] := va_S.rf
  have C0 : CallFix p m c cJ0_isLatin1_aae02 1 s ([.ref q] : List Value).toArray bw_G RJ0 := ⟨hx, hcb, hml, hown, fun w hw => hts w (List.mem_cons_of_mem _ hw)⟩
  refine va_gets (own := RJ0) (ref := "java/lang/String") (index := 38) hx hcb h1 hS hown (C0.2.2.2.2 _ cs_in) (fun _ h => h) (by decide +kernel) ?_
  refine lv_if_eq hx hcb (off := 14) (tgt := 17) (by decide +kernel) (by decide) (fun h => absurd h (by decide)) (fun _ => ?_)
  refine lv_aload_n hx hcb (k := 0) (i := 0) (x := q) (by decide +kernel) rfl (pow_lv hl (by simp)) ?_
  refine va_getX (own := RJ0) (ref := "java/lang/String") (index := 15) (N := 1) (v := fun _ => .int 0) (ad := fun _ => q) (i := 0) hx hcb (fun _ _ => h4) (by decide) hS hown (C0.2.2.2.2 _ cd_in) (fun _ h => h) (by decide +kernel) ?_
  refine lv_if_ne hx hcb (off := 7) (tgt := 17) (by decide +kernel) (by decide) (fun h => absurd rfl h) (fun _ => ?_)
  refine lv_iconst hx hcb (n := 1) (v := 1) (by decide +kernel) rfl ?_
  refine lv_goto hx hcb (off := 4) (tgt := 18) (by decide +kernel) (by decide) ?_
  exact W.zret (v := 1) hx hcb B.returns (by decide) (fun t ht _ => ⟨⟨1, (), rfl, rfl, ht.trans hH0⟩, by unfold va_F; rw [ht]; exact ⟨Nat.le_refl _, fun _ _ _ => rfl⟩⟩) (fun q hq => by cases hq) (by decide +kernel) hlk
theorem pre_met {l : Launch} {k n : Int32} {x : Value} {H0 : Heap} {free : Addr → Prop} (hk : ¬ k < 0) (hn : k < n) (hv : x = .null ∨ ∃ t, x = .ref t) : Met l yJ3_checkIndex_8e157 (bwh yJ3_checkIndex_8e157 cJ3_checkIndex_8e157 3 (some .int)) ({ frames := 2, cells := 0, slots := 0, locals := 20 }) (fun a st => a = #[.int k, .int n, x] ∧ st.heap = H0) (va_Qi (fun r (_ : Unit) => r = k) (fun _ t => t.heap = H0) (fun _ => False)) 0 0 free := by
  refine Met.ofW (cc := cJ3_checkIndex_8e157) (maxL := 3) (ret := (some .int)) (by decide +kernel) rfl ?_
  intro p e s m args below meth c s₁ B hml hP
  obtain ⟨rfl, hH0⟩ := hP
  rcases hv with rfl | ⟨t0, rfl⟩
  · have hx := B.exec
    have hcb := B.bytes
    have hl := lv_entry [.int k, .int n, .null] (n := 3) (Nat.le_of_ble_eq_true rfl)
    rw [lg_entry_eq]
    have hl : lv_has _ 3 [(0, .int k), (1, .int n), (2, .null)] := hl
    have hlk := B.notSynchronized
    refine lv_iload_n hx hcb (k := 0) (i := 0) (x := k) (by decide +kernel) rfl (pow_lv hl (by simp)) ?_
    refine lv_if_lt hx hcb (off := 8) (tgt := 9) (by decide +kernel) (by decide) (fun h => absurd h hk) (fun _ => ?_)
    refine lv_iload_n hx hcb (k := 0) (i := 0) (x := k) (by decide +kernel) rfl (pow_lv hl (by simp)) ?_
    refine lv_iload_n hx hcb (k := 1) (i := 1) (x := n) (by decide +kernel) rfl (pow_lv hl (by simp)) ?_
    refine lv_icmp_lt hx hcb (off := 10) (tgt := 16) (by decide +kernel) (by decide) (fun _ => ?_) (fun h => absurd hn h)
    refine lv_iload_n hx hcb (k := 0) (i := 0) (x := k) (by decide +kernel) rfl (pow_lv hl (by simp)) ?_
    exact W.iret (v := k) hx hcb B.returns (fun t ht _ => ⟨⟨k, (), rfl, rfl, ht.trans hH0⟩, by unfold va_F; rw [ht]; exact ⟨Nat.le_refl _, fun _ _ _ => rfl⟩⟩) (fun q hq => by cases hq) (by decide +kernel) hlk
  · have hx := B.exec
    have hcb := B.bytes
    have hl := lv_entry [.int k, .int n, .ref t0] (n := 3) (Nat.le_of_ble_eq_true rfl)
    rw [lg_entry_eq]
    have hl : lv_has _ 3 [(0, .int k), (1, .int n), (2, .ref t0)] := hl
    have hlk := B.notSynchronized
    refine lv_iload_n hx hcb (k := 0) (i := 0) (x := k) (by decide +kernel) rfl (pow_lv hl (by simp)) ?_
    refine lv_if_lt hx hcb (off := 8) (tgt := 9) (by decide +kernel) (by decide) (fun h => absurd h hk) (fun _ => ?_)
    refine lv_iload_n hx hcb (k := 0) (i := 0) (x := k) (by decide +kernel) rfl (pow_lv hl (by simp)) ?_
    refine lv_iload_n hx hcb (k := 1) (i := 1) (x := n) (by decide +kernel) rfl (pow_lv hl (by simp)) ?_
    refine lv_icmp_lt hx hcb (off := 10) (tgt := 16) (by decide +kernel) (by decide) (fun _ => ?_) (fun h => absurd hn h)
    refine lv_iload_n hx hcb (k := 0) (i := 0) (x := k) (by decide +kernel) rfl (pow_lv hl (by simp)) ?_
    exact W.iret (v := k) hx hcb B.returns (fun t ht _ => ⟨⟨k, (), rfl, rfl, ht.trans hH0⟩, by unfold va_F; rw [ht]; exact ⟨Nat.le_refl _, fun _ _ _ => rfl⟩⟩) (fun q hq => by cases hq) (by decide +kernel) hlk
theorem chk_met {l : Launch} {A : Nat → Prop} {k n : Int32} {H0 : Heap} {free : Addr → Prop} (hk : ¬ k < 0) (hn : k < n) : Met l yJ0_checkIndex_df160 (bwh yJ0_checkIndex_df160 cJ0_checkIndex_df160 2 none) ({ frames := 4, cells := 0, slots := 0, locals := 60 }) (fun a st => a = #[.int k, .int n] ∧ st.heap = H0 ∧ va_Zq "jdk/internal/util/Preconditions" "SIOOBE_FORMATTER" "Ljava/util/function/BiFunction;" A st st.heap) (va_Qv (fun (_ : Unit) => True) (fun _ t => t.heap = H0) (fun _ => False)) 0 0 free := by
  refine Met.ofW (cc := cJ0_checkIndex_df160) (maxL := 2) (ret := none) (by decide +kernel) rfl ?_
  intro p e s m args below meth c s₁ B hml hP
  obtain ⟨rfl, hH0, h2⟩ := hP
  have hx := B.exec
  have hcb := B.bytes
  have hts := atoms_spec (ws := bwh yJ0_checkIndex_df160 cJ0_checkIndex_df160 2 none) B.pre
  have hown : s.vm.findClass RJ0 = some m.cls := findClass_of_methodNamed B.named
  have hl := lv_entry [.int k, .int n] (n := 2) (Nat.le_of_ble_eq_true rfl)
  rw [lg_entry_eq]
  have hl : lv_has _ 2 [(0, .int k), (1, .int n)] := hl
  have hlk := B.notSynchronized
  have hS : va_S A s.heap s.heap [] := va_S.rf
  have hS0 : va_S (fun _ => False) s.heap s.heap [] := va_S.rf
  have C0 : CallFix p m c cJ0_checkIndex_df160 2 s ([.int k, .int n] : List Value).toArray bw_G RJ0 := ⟨hx, hcb, hml, hown, fun w hw => hts w (List.mem_cons_of_mem _ hw)⟩
  obtain ⟨x, hv, hz0⟩ : ∃ x : Value, (x = .null ∨ ∃ t, x = .ref t) ∧ va_Z "jdk/internal/util/Preconditions" "SIOOBE_FORMATTER" "Ljava/util/function/BiFunction;" x A s s.heap := by
    rcases h2 with h2 | ⟨t, h2⟩
    · exact ⟨_, Or.inl rfl, h2⟩
    · exact ⟨_, Or.inr ⟨t, rfl⟩, h2⟩
  refine lv_iload_n hx hcb (k := 0) (i := 0) (x := k) (by decide +kernel) rfl (pow_lv hl (by simp)) ?_
  refine lv_iload_n hx hcb (k := 1) (i := 1) (x := n) (by decide +kernel) rfl (pow_lv hl (by simp)) ?_
  refine va_gets (own := RJ0) (ref := "jdk/internal/util/Preconditions") (index := 1053) hx hcb hz0 hS hown (C0.2.2.2.2 _ sf_in) (fun _ h => h) (by decide +kernel) ?_
  refine va_calli (A0 := fun _ => False) (va_runS C0 (pre_met (free := fun _ => False) (H0 := s.heap) hk hn hv) (va_cwS (bytes := cJ3_checkIndex_8e157) (maxL := 3) (ret := some .int) 3 C0.2.2.2.2 gd_pre rfl rfl rfl ⟨by decide, by decide, by decide +kernel⟩ ⟨by show 2 + 1 ≤ 4; decide, by show 8 + (3 + 11) + 20 ≤ 60; decide⟩) ⟨fun _ _ _ _ q => q, fun U hU _ => ⟨rfl, hU⟩⟩ rfl (As := [.int k, .int n, x]) rfl hl.1 rfl (lv_room (by decide)) (show decode cJ0_checkIndex_df160 5 = .ok (.invokestatic 1059, 3) by decide +kernel) ⟨Nat.le_refl 0, Nat.le_refl 0⟩) hS0 (fun q _ h => h.elim) (fun q h => h.elim) (fun r u t H1 locs1 ht hvm hr hB hz hk1 hS1 => ?_)
  have e1 : H1 = s.heap := ht.symm.trans hB
  subst e1
  refine lv_pop hx hcb (by decide +kernel) rfl ?_
  exact W.vret hx hcb B.returns (fun t ht _ => ⟨⟨(), rfl, trivial, ht.trans hH0⟩, by unfold va_F; rw [ht]; exact ⟨Nat.le_refl _, fun _ _ _ => rfl⟩⟩) (fun q hq => (hS1.2.2 q hq).elim) (by decide +kernel) hlk
end STR
