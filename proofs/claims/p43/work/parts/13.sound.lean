/-! WHAT IS READ, THE MACHINE DOES: calls. -/
theorem bcast_use {K : KE} {s : State} {args : Array Value} {x n : String} (hb : bK K s) (h : x = n ∧ x ∈ bwC) : (Jvm.Cond.castable x n).before args s = true := by
  obtain ⟨rfl, h⟩ := h
  exact (hb.2.2.2.2.2.2.2.2.2.2.2.2 x h).use rfl
section BCALLS
variable {l : Launch} {K : KE} {P : bP}
theorem bgood {w : Jvm.Cond} (h : w ∈ bw_G) : w ∈ bw_G ∧ ((w.onTables && w.keeps) = true ∨ ∃ ty, w = .arrayClass ty) := ⟨h, good_of_word (bw_Gok w h)⟩
theorem b_sl (as : List bV) : (lg_sl (as.map (bvv K))).length = (as.map bvc).sum := by
  induction as with
  | nil => rfl
  | cons v t ih =>
    simp only [lg_sl, List.map_cons, List.flatMap_cons, List.length_append, List.sum_cons, bvc_v] at ih ⊢
    rw [ih]
    rcases v with x | x | k | _ | j <;> simp [bvc]
theorem b_args (as : List bV) : ∀ i : Nat, lv_args i (as.map (bvv K)) = bvl K (blva i as) := by
  induction as with
  | nil => intro i; rfl
  | cons v t ih =>
    intro i
    simp only [List.map_cons, lv_args, blva, bvl, bvc_v]
    have h : (if bvc v = 2 then i + 2 else i + 1) = i + bvc v := by
      rcases v with x | x | k | _ | j <;> rfl
    rw [h, ih]
theorem bHead_nil {M : bM} (h : M.2.2.2.2 = []) : bHead M = .code M.1 M.2.1 M.2.2.1 M.2.2.2.1 := by
  unfold bHead; rw [h]
theorem bHead_cons {M : bM} (h : M.2.2.2.2 ≠ []) : bHead M = .codeWith M.1 M.2.1 M.2.2.1 M.2.2.2.1 (M.2.2.2.2.map (fun x => x.1)) := by
  unfold bHead
  split
  · rename_i h1; exact absurd h1 h
  · rename_i q t h1; rw [h1]
theorem b_ofWF {y : MethodName} {ws ws' : List Jvm.Cond} {rm : Room} {Pc : Array Value → State → Prop} {Qc : Array Value → State → Outcome → State → Prop} {XC : String → State → State → Prop} {mc ms : Nat} {free : Addr → Prop} {cc : ByteArray} {maxL : Nat} {ret : Option FieldType}
    (hy : plainFor y = true) (hw : ws = Jvm.Cond.code y cc maxL ret :: ws')
    (body : ∀ p e s m args below meth c s₁, BodyLoose p l y (headSpec ws rm) cc maxL ret e s m args below meth c s₁ → c.maxLocals = maxL → (∀ x ∈ c.exceptionTable.toList, False) → Pc args s →
      W p l e (headSpec ws rm).room s m args below meth c s.heap [] 0 0 (vx_MQ below Qc XC args s mc ms free) (entryFrame m args maxL)) : vx_Met l y ws rm Pc Qc XC mc ms free := by
  refine MetFree.of_bodySF (code := cc) (maxLocals := maxL) (ret := ret) hy ?_ ?_
  · intro args s m h hn
    obtain ⟨meth, c, h1, h2, h3, h4, h5, h6, -, -⟩ := Cond.code_spec hn (atoms_spec (ws := ws) h _ (by rw [hw]; exact List.mem_cons_self))
    exact ⟨meth, c, h1, h2, h3, h4, h5, h6⟩
  · intro p e s m args below meth c s₁ B hml hP _
    have hh0 : s₁.heap = s.heap := by rw [B.state]; rfl
    have ht : ∀ x ∈ c.exceptionTable.toList, False := by
      obtain ⟨meth9, c9, h1, h2, -, -, -, -, h7, -⟩ := Cond.code_spec B.named (atoms_spec (ws := ws) B.pre _ (by rw [hw]; exact List.mem_cons_self))
      cases Option.some.inj (h1.symm.trans B.method)
      cases Option.some.inj (h2.symm.trans (Stand.of_body B).code)
      intro x hx
      rw [Array.isEmpty_iff.mp h7] at hx
      cases hx
    obtain ⟨t, a1, o, b1, b2, b3⟩ := body p e s m args below meth c s₁ B hml ht hP s₁ hh0 (Stand.of_body B)
    exact ⟨t, o, a1, b1, b2, b3⟩
theorem b_ofWHF {y : MethodName} {ws ws' : List Jvm.Cond} {rm : Room} {Pc : Array Value → State → Prop} {Qc : Array Value → State → Outcome → State → Prop} {XC : String → State → State → Prop} {mc ms : Nat} {free : Addr → Prop} {cc : ByteArray} {maxL : Nat} {ret : Option FieldType} {hh : List (Nat × Nat × Nat × Nat)}
    (hy : plainFor y = true) (hw : ws = Jvm.Cond.codeWith y cc maxL ret hh :: ws')
    (body : ∀ p e s m args below meth c s₁, BodyLoose p l y (headSpec ws rm) cc maxL ret e s m args below meth c s₁ → c.maxLocals = maxL → Pc args s →
      W p l e (headSpec ws rm).room s m args below meth c s.heap [] 0 0 (vx_MQ below Qc XC args s mc ms free) (entryFrame m args maxL)) : vx_Met l y ws rm Pc Qc XC mc ms free := by
  refine MetFree.of_bodySF (code := cc) (maxLocals := maxL) (ret := ret) hy ?_ ?_
  · intro args s m h hn
    obtain ⟨m9, meth, c, hn9, h1, h2, h3, h4, -, h5, h6, -⟩ := Cond.codeWith_spec (atoms_spec (ws := ws) h _ (by rw [hw]; exact List.mem_cons_self))
    cases hn.symm.trans hn9
    exact ⟨meth, c, h1, h2, h3, h4, h5, h6⟩
  · intro p e s m args below meth c s₁ B hml hP _
    have hh0 : s₁.heap = s.heap := by rw [B.state]; rfl
    obtain ⟨t, a1, o, b1, b2, b3⟩ := body p e s m args below meth c s₁ B hml hP s₁ hh0 (Stand.of_body B)
    exact ⟨t, o, a1, b1, b2, b3⟩
theorem bmet (A : bAll K P) {d mj : Nat} {as : List bV} {w w2 : bW} {r : bR} (h : bSnd l K P d mj 0 (blva 0 as) [] w r w2) (hlen : (as.map bvc).sum ≤ (P.2.1 mj).2.2.1) {mc ms : Nat} (hmc : mc + w.1.length + w.2 = w2.1.length + w2.2) (hms : ms + bsz w.1 + 6 * w.2 = bsz w2.1 + 6 * w2.2) :
    vx_Met l (P.2.1 mj).1 (bHead (P.2.1 mj) :: bw_G) ({ frames := d + 16, cells := mc, slots := ms, locals := 400 + 100 * d }) (bPc K w.1.length (bct K w.1) (decide (w.2 = 0)) (as.map (bvv K))) (bQc K r w2) (bXC K r w2) mc ms (bA K.B) := by
  obtain ⟨-, -, -, ⟨o, ho⟩, h⟩ := h
  obtain ⟨a1, a2, a3, a4, a5, a6⟩ := A
  obtain ⟨b1, b2, b3, b4, b5, b6⟩ := a3 mj 0 o ho
  have go : ∀ (p : Program) (e : Env) (s : State) (m : MethodId) (args : Array Value) (below : List Frame) (meth : Method) (c : Code) (s₁ : State), BodyLoose p l (P.2.1 mj).1 (headSpec (bHead (P.2.1 mj) :: bw_G) { frames := d + 16, cells := mc, slots := ms, locals := 400 + 100 * d }) (P.2.1 mj).2.1 (P.2.1 mj).2.2.1 (P.2.1 mj).2.2.2.1 e s m args below meth c s₁ → c.maxLocals = (P.2.1 mj).2.2.1 → c.exceptionTable.toList = tableOf ((P.2.1 mj).2.2.2.2.map (fun x => x.1)) → bPc K w.1.length (bct K w.1) (decide (w.2 = 0)) (as.map (bvv K)) args s →
      W p l e (headSpec (bHead (P.2.1 mj) :: bw_G) { frames := d + 16, cells := mc, slots := ms, locals := 400 + 100 * d }).room s m args below meth c s.heap [] 0 0 (vx_MQ below (bQc K r w2) (bXC K r w2) args s mc ms (bA K.B)) (entryFrame m args (P.2.1 mj).2.2.1) := by
    intro p e s m args below meth c s₁ B hml htab hv
    obtain ⟨rfl, hbw, hK, hsz⟩ := hv
    have hl := lv_entry (as.map (bvv K)) (n := (P.2.1 mj).2.2.1) (by rw [b_sl]; exact hlen)
    rw [lg_entry_eq]
    rw [b_args] at hl
    exact h p e _ s m _ below meth c s.heap [] 0 0 _ w mc ms ⟨B.exec, B.bytes, hml, findClass_of_methodNamed B.named, fun w' hw' => atoms_spec (ws := bHead (P.2.1 mj) :: bw_G) B.pre w' (List.mem_cons_of_mem _ hw')⟩ hK ⟨hbw, va_S.rf⟩ (fun h0 => hsz (by simp [h0])) B.returns (name_of_methodNamed B.named B.method).1 B.notSynchronized htab (Nat.le_refl _) (Nat.le_refl _) (Nat.le_refl _) (Nat.le_refl _) (by omega) (by omega) hmc hms hl
  by_cases hH : (P.2.1 mj).2.2.2.2 = []
  · refine b_ofWF (cc := (P.2.1 mj).2.1) (maxL := (P.2.1 mj).2.2.1) (ret := (P.2.1 mj).2.2.2.1) b6 (by rw [bHead_nil hH]) ?_
    intro p e s m args below meth c s₁ B hml ht hv
    refine go p e s m args below meth c s₁ B hml ?_ hv
    rw [hH]
    exact List.eq_nil_iff_forall_not_mem.mpr fun x hx => ht x hx
  · refine b_ofWHF (cc := (P.2.1 mj).2.1) (maxL := (P.2.1 mj).2.2.1) (ret := (P.2.1 mj).2.2.2.1) (hh := (P.2.1 mj).2.2.2.2.map (fun x => x.1)) b6 (by rw [bHead_cons hH]) ?_
    intro p e s m args below meth c s₁ B hml hv
    refine go p e s m args below meth c s₁ B hml ?_ hv
    have h9 := atoms_spec (ws := bHead (P.2.1 mj) :: bw_G) B.pre _ List.mem_cons_self
    rw [bHead_cons hH] at h9
    exact vx_table (x := (P.2.1 mj).1) B h9
section BRUN
variable {p : Program} {e : Env} {R : Room} {s : State} {m : MethodId} {args : Array Value} {below : List Frame} {meth : Method} {c : Code} {H : Heap} {locs : List Loc} {cells slots mc ms : Nat} {Q : State → Prop} {cc : ByteArray} {pc nL : Nat} {own : String} {ls : Array Slot} {st : List bV} {w w1 : bW} {r : bR}
theorem bcal_inv {o : bO} {q : Nat × List bV × List bV} (h : bcal o st w = some q) : q.1 = o.2.2.1 ∧ o.2.2.2.1 ≤ st.length ∧ (q.2.2.map bvc).sum ≤ 8 ∧ ((∃ ix, o.1 = .invokestatic ix ∧ q.2.1 = (st.take o.2.2.2.1).reverse ∧ q.2.2 = st.drop o.2.2.2.1) ∨ (∃ (k : Nat), q.2.1 = .inr (.inr (.inl k)) :: (st.take o.2.2.2.1).reverse ∧ st.drop o.2.2.2.1 = .inr (.inr (.inl k)) :: q.2.2 ∧ ((∃ (ix ci : Nat) (fs : List bV), o.1 = .invokevirtual ix ∧ w.1[k]? = some (.inl (ci, fs)) ∧ (ci : Int) = o.2.2.2.2) ∨ (∃ ix, o.1 = .invokespecial ix ∧ o.2.2.2.2 = 0)))) := by
  have hd : ∀ (n : Nat) (x : bV) (t : List bV), st.drop n = x :: t → n ≤ st.length := fun n x t h1 => by
    have h2 := congrArg List.length h1
    simp only [List.length_drop, List.length_cons] at h2
    omega
  unfold bcal at h
  split at h
  · rename_i ix hix
    split at h
    · rename_i h1
      cases h
      exact ⟨rfl, h1.1, h1.2, Or.inl ⟨_, hix, rfl, rfl⟩⟩
    · cases h
  · rename_i ix hix
    split at h
    · rename_i h3
      split at h
      · rename_i h4
        split at h
        · rename_i h1
          cases h
          exact ⟨rfl, hd _ _ _ h3, h1.2, Or.inr ⟨_, rfl, h3, Or.inl ⟨_, _, _, hix, h4, h1.1⟩⟩⟩
        · cases h
      · cases h
    · cases h
  · rename_i ix hix
    split at h
    · rename_i h3
      split at h
      · rename_i h1
        cases h
        exact ⟨rfl, hd _ _ _ h3, h1.2, Or.inr ⟨_, rfl, h3, Or.inr ⟨_, hix, h1.1⟩⟩⟩
      · cases h
    · cases h
  · cases h
theorem b_cat (xs : List bV) : ((xs.map (bvv K)).map fun v => v.category).sum = (xs.map bvc).sum := by
  rw [List.map_map]
  congr 1
  exact List.map_congr_left fun v _ => bvc_v K v
theorem bmetR {y : MethodName} {ws : List Jvm.Cond} {rm : Room} {Pc : Array Value → State → Prop} {v : Option bV} {w2 : bW} {free : Addr → Prop} (hM : vx_Met l y ws rm Pc (bQc K (.inl v) w2) (bXC K (.inl v) w2) mc ms free) : Met l y ws rm Pc (bQc K (.inl v) w2) mc ms free := by
  intro p e a b c s m args below f ap hP k
  obtain ⟨n, o, h1, h2, h3, h4⟩ := hM p e a b c s m args below f ap hP k
  refine ⟨n, o, h1, h2, h3, ?_⟩
  rcases h4 with h4 | ⟨q, _, x, ce, L, ⟨h5, _⟩, _⟩
  · exact h4
  · cases h5
theorem brun (A : bAll K P) {o : bO} {d : Nat} (b1 : bOkD cc pc o) (b3 : bOkC P own o) (C0 : CallFix p m c cc nL s args bw_G own) (hb : bK K s) (hw : bS K.D K.B w.1.length (bct K w.1) s H locs) (hz : w.2 = 0 → H.size = K.B + w.1.length) {lv : List (Nat × Value)} (hl : lv_has ls nL lv) (hRf : d + 17 ≤ R.frames) (hRl : 500 + 100 * d ≤ R.locals)
    {q : Nat × List bV × List bV} (hq : bcal o st w = some q) (hlen : (q.2.1.map bvc).sum ≤ (P.2.1 q.1).2.2.1) (h : bSnd l K P d q.1 0 (blva 0 q.2.1) [] w r w1) (hmc : mc + w.1.length + w.2 = w1.1.length + w1.2) (hms : ms + bsz w.1 + 6 * w.2 = bsz w1.1 + 6 * w1.2) (hc : cells + mc ≤ R.cells) (hs : slots + ms ≤ R.slots) (hsp : bnsp o = true ∨ ∃ v, r = .inl v) :
    vx_Run p l e R s m args below meth c H locs cells slots mc ms (F0 m pc ls (st.map (bvv K))) (q.2.2.map (bvv K)) (bQc K r w1 (q.2.1.map (bvv K)).toArray) (bXC K r w1) (bA K.B) := by
  have hM := bmet A h hlen hmc hms
  have hmax : (P.2.1 q.1).2.2.1 ≤ 80 := by
    obtain ⟨-, -, -, ⟨o', ho'⟩, -⟩ := h
    exact (A.2.2.1 _ _ _ ho').2.2.2.2.1
  have hws : bHead (P.2.1 q.1) ∈ bw_G → ∀ w' ∈ bHead (P.2.1 q.1) :: bw_G, w' ∈ bw_G := fun hhead w' hw' => (List.mem_cons.mp hw').elim (fun h => by rw [h]; exact hhead) (fun h => h)
  have hpre : ∀ U : State, U.heap = H → s.WarmedH U.vm → bPc K w.1.length (bct K w.1) (decide (w.2 = 0)) (q.2.1.map (bvv K)) (q.2.1.map (bvv K)).toArray U := fun U hU hW =>
    ⟨rfl, by rw [hU]; exact hw.1, hb.to hw.2 hU hW, fun h0 => by rw [hU]; exact hz (of_decide_eq_true h0)⟩
  obtain ⟨e0, e1, e2, e3⟩ := bcal_inv hq
  obtain ⟨ins, ln, a, b, v⟩ := o
  have f0 : q.1 = a := e0
  have f1 : b ≤ st.length := e1
  have hcat : 2 * (F0 m pc ls (st.map (bvv K))).monitorRoom + ((q.2.2.map (bvv K)).map fun v => v.category).sum ≤ 8 := by
    exact lv_room (by rw [b_cat]; exact e2)
  have hrev : (((st.take b).reverse).map (bvv K)).reverse = (st.take b).map (bvv K) := by rw [← List.map_reverse, List.reverse_reverse]
  have hlenb : (((st.take b).reverse).map (bvv K)).length = b := by simp; omega
  rcases e3 with ⟨ix, h1, h2, h3⟩ | ⟨k, h2, h3, h4⟩
  · have h1 : ins = .invokestatic ix := h1
    subst h1
    have hd : decode cc pc = .ok (.invokestatic ix, 3) := b1
    obtain ⟨c1, c2, c3, c4, c5, c6, ch⟩ := b3
    simp only [] at c1 c2 c3 c4 c5 c6 ch
    rw [← f0] at c1 c2 c3 c4 c5 c6 ch
    have hst : st.map (bvv K) = (q.2.1.map (bvv K)).reverse ++ q.2.2.map (bvv K) := by
      rw [h2, h3]
      show _ = (((st.take b).reverse).map (bvv K)).reverse ++ (st.drop b).map (bvv K)
      rw [hrev, ← List.map_append, List.take_append_drop]
    have hn : (q.2.1.map (bvv K)).length = b := by rw [h2]; exact hlenb
    rcases c4 with ⟨c4, hv0⟩ | ⟨⟨host, c4⟩, hv0, hH⟩
    · have hG : GoodIn bw_G (va_wsS own ix (P.2.1 q.1).1 (bHead (P.2.1 q.1) :: bw_G)) := fun w' hw' => bgood (by
        rcases List.mem_append.mp hw' with h5 | h5
        · simp only [List.mem_cons, List.not_mem_nil, or_false] at h5
          rcases h5 with rfl | rfl | rfl
          · exact c4
          · exact c5
          · exact c6
        · exact hws ch w' h5)
      by_cases hH : (P.2.1 q.1).2.2.2.2 = []
      · exact vx_runS C0 hM (va_cwS (bytes := (P.2.1 q.1).2.1) (maxL := (P.2.1 q.1).2.2.1) (ret := (P.2.1 q.1).2.2.2.1) b C0.2.2.2.2 hG (by rw [bHead_nil hH]) rfl rfl ⟨c1, c2, c3⟩ ⟨by show d + 16 + 1 ≤ _; omega, by show 8 + (_ + 11) + (400 + 100 * d) ≤ _; omega⟩) ⟨bPc.blind, hpre⟩ rfl hn hl.1 hst hcat hd ⟨hc, hs⟩
      · exact vx_runSX C0 hM (vx_cwSW (bytes := (P.2.1 q.1).2.1) (maxL := (P.2.1 q.1).2.2.1) (ret := (P.2.1 q.1).2.2.2.1) (hh := (P.2.1 q.1).2.2.2.2.map (fun x => x.1)) b C0.2.2.2.2 hG (by rw [bHead_cons hH]) rfl rfl ⟨c1, c2, c3⟩ ⟨by show d + 16 + 1 ≤ _; omega, by show 8 + (_ + 11) + (400 + 100 * d) ≤ _; omega⟩) ⟨bPc.blind, hpre⟩ rfl hn hl.1 hst hcat hd ⟨hc, hs⟩
    · have hv9 : v ≠ 0 := hv0
      obtain ⟨v', hv'⟩ : ∃ v', r = .inl v' := hsp.resolve_left (fun h => hv9 (of_decide_eq_true h))
      subst hv'
      have hG : GoodIn bw_G (bHead (P.2.1 q.1) :: bw_G) := fun w' hw' => bgood (hws ch w' hw')
      have hr : va_Run p l e R s m args below meth c H locs cells slots mc ms (F0 m pc ls (st.map (bvv K))) (q.2.2.map (bvv K)) (bQc K (.inl v') w1 (q.2.1.map (bvv K)).toArray) (bA K.B) :=
        va_runSN C0 (bmetR hM) ⟨va_cnB (bytes := (P.2.1 q.1).2.1) (maxL := (P.2.1 q.1).2.2.1) (ret := (P.2.1 q.1).2.2.2.1) b C0.2.2.2.2 hG (by rw [bHead_nil hH]) rfl rfl (hb.2.2.2.2.2.2.2.2.2.2.2.1 _ c4) (C0.2.2.2.2 _ c6) ⟨c1, c2, c3⟩ ⟨by show d + 16 + 1 ≤ _; omega, by show 8 + (_ + 11) + (400 + 100 * d) ≤ _; omega⟩, C0.2.2.2.2 _ c5, trivial⟩ ⟨bPc.blind, hpre⟩ rfl hn hl.1 hst hcat hd ⟨hc, hs⟩
      exact fun T hT X => Or.inl (hr T hT X)
  · have hst : st.map (bvv K) = (((st.take b).reverse).map (bvv K)).reverse ++ .ref (K.B + k) :: q.2.2.map (bvv K) := by
      have h3 : st.drop b = .inr (.inr (.inl k)) :: q.2.2 := h3
      rw [hrev]
      show _ = (st.take b).map (bvv K) ++ ((.inr (.inr (.inl k)) :: q.2.2 : List bV).map (bvv K))
      rw [← h3, ← List.map_append, List.take_append_drop]
    have hargs : q.2.1.map (bvv K) = .ref (K.B + k) :: ((st.take b).reverse).map (bvv K) := by rw [h2]; rfl
    rw [hargs] at hM hpre ⊢
    rcases h4 with ⟨ix, ci, fs, h1, h5, h6⟩ | ⟨ix, h1, h5⟩
    · have h1 : ins = .invokevirtual ix := h1
      subst h1
      have hd : decode cc pc = .ok (.invokevirtual ix, 3) := b1
      obtain ⟨c1, c2, c3, ⟨T, N, c4⟩, c5, c6, c7, c8, c9, ch⟩ := b3
      simp only [] at c1 c2 c3 c4 c5 c6 c7 c8 c9 ch h6
      rw [← h6] at c4
      rw [← f0] at c1 c2 c3 c4 c5 c6 c7 c8 c9 ch
      have hG : GoodIn bw_G (wsV own ix (P.2.1 q.1).1.cls (P.2.1 q.1).1 (bHead (P.2.1 q.1) :: bw_G)) := fun w' hw' => bgood (by
        rcases List.mem_append.mp hw' with h7 | h7
        · simp only [List.mem_cons, List.not_mem_nil, or_false] at h7
          rcases h7 with rfl | rfl | rfl | rfl
          · exact c5
          · exact c6
          · exact c7
          · exact c8
        · exact hws ch w' h7)
      have hk0 : k < w.1.length := (List.getElem?_eq_some_iff.mp h5).1
      exact vx_runV C0 hM (cwV (bytes := (P.2.1 q.1).2.1) (maxL := (P.2.1 q.1).2.2.1) (ret := (P.2.1 q.1).2.2.2.1) b C0.2.2.2.2 hG (by rw [bHead_nil c9]) rfl rfl ⟨rfl, c1, c2, c3⟩ ⟨by show d + 16 + 1 ≤ _; omega, by show 8 + (_ + 11) + (400 + 100 * d) ≤ _; omega⟩) ⟨bPc.blind, va_recv hb.1 (hw.1.sing hk0 (bct_at h5)) c4 (q0 := 0) rfl, hpre⟩ rfl hlenb hl.1 hst hcat hd ⟨hc, hs⟩
    · have h1 : ins = .invokespecial ix := h1
      subst h1
      have hd : decode cc pc = .ok (.invokespecial ix, 3) := b1
      obtain ⟨c0, cr, c1, c2, c3, c5, c6, c8, c9, ch⟩ := b3 h5
      simp only [] at c0 cr c1 c2 c3 c5 c6 c8 c9 ch
      rw [← f0] at c0 cr c1 c2 c3 c5 c6 c8 c9 ch
      obtain ⟨v', hv'⟩ : ∃ v', r = .inl v' := hsp.resolve_left (fun h => Bool.false_ne_true h)
      subst hv'
      have hG : GoodIn bw_G (bHead (P.2.1 q.1) :: bw_G) := fun w' hw' => bgood (hws ch w' hw')
      have hr : va_Run p l e R s m args below meth c H locs cells slots mc ms (F0 m pc ls (st.map (bvv K))) (q.2.2.map (bvv K)) (bQc K (.inl v') w1 (Value.ref (K.B + k) :: ((st.take b).reverse).map (bvv K)).toArray) (bA K.B) :=
        va_runI C0 (bmetR hM) (cwI (bytes := (P.2.1 q.1).2.1) (maxL := (P.2.1 q.1).2.2.1) b C0.2.2.2.2 hG (by rw [bHead_nil c9, cr]) rfl rfl (C0.2.2.2.2 _ c8) (C0.2.2.2.2 _ c5) (C0.2.2.2.2 _ c6) c0 ⟨c1, c2, c3⟩ ⟨by show d + 16 + 1 ≤ _; omega, by show 8 + (_ + 11) + (400 + 100 * d) ≤ _; omega⟩) ⟨bPc.blind, hpre⟩ rfl hlenb hl.1 hst hcat hd ⟨hc, hs⟩
      exact fun T hT X => Or.inl (hr T hT X)
/-- behind a call: it has returned, or thrown -/
theorem bafter (hw : bS K.D K.B w.1.length (bct K w.1) s H locs) {st0 rest' : List Value} {av : Array Value}
    (hr : vx_Run p l e R s m args below meth c H locs cells slots mc ms (F0 m pc ls st0) rest' (bQc K r w1 av) (bXC K r w1) (bA K.B))
    (kr : ∀ (v : Option bV) (H1 : Heap) (locs1 : List Loc), r = .inl v → bS K.D K.B w1.1.length (bct K w1.1) s H1 locs1 → (w1.2 = 0 → H1.size = K.B + w1.1.length) → W p l e R s m args below meth c H1 locs1 (cells + mc) (slots + ms) Q (F0 m (pc + 3) ls ((v.map (bvv K)).toList ++ rest')))
    (kx : ∀ (x : String) (a : Addr) (ce : Cell) (H1 : Heap) (locs1 : List Loc), r = .inr x → bS K.D K.B w1.1.length (bct K w1.1) s H1 locs1 → (w1.2 = 0 → H1.size = K.B + w1.1.length) → H1[a]? = some ce → ce.vm = .none → s.vm.findClass x = some ce.cls → vx_W p l e R s m args below meth c H1 locs1 (cells + mc) (slots + ms) Q (F0 m pc ls rest') a) :
    W p l e R s m args below meth c H locs cells slots Q (F0 m pc ls st0) := by
  intro T hT X
  rcases hr T hT X with ⟨v, st₀, t, T', L, h0, X', hL, e1, e2, ⟨⟨v', hv', ho⟩, hb, hF⟩, st⟩ | ⟨q, st₀, t, T', L, x, ce, h0, X', hL, e1, e2, ⟨hx, hb, hF⟩, hce, hcv, hcl, st⟩
  · obtain ⟨k1, k2, k3⟩ := vx_keep h0 e1 hw.2 (fun _ _ h => h) (fun _ h => h) hL hF
    cases ho
    obtain ⟨t2, g1, g2⟩ := kr v' T'.heap (locs ++ L) hv' ⟨by rw [e1]; exact hb.1, k3⟩ (fun h => by rw [e1]; exact hb.2 h) T' rfl X'
    exact ⟨t2, st t2 g1, g2⟩
  · obtain ⟨k1, k2, k3⟩ := vx_keep h0 e1 hw.2 (fun _ _ h => h) (fun _ h => h) hL hF
    obtain ⟨t2, g1, g2⟩ := kx x q ce T'.heap (locs ++ L) hx ⟨by rw [e1]; exact hb.1, k3⟩ (fun h => by rw [e1]; exact hb.2 h) (by rw [e1]; exact hce) hcv hcl T' rfl X'
    exact ⟨t2, st.trans g1, g2⟩
end BRUN
theorem bsnd_call (A : bAll K P) (d mi pc : Nat) (lv : List (Nat × bV)) (st : List bV) (w : bW) (o : bO) (q : Nat × List bV × List bV) (v : Option bV) (w1 : bW) (r : bR) (w2 : bW) (ho : P.1 mi pc = some o) (hq : bcal o st w = some q) (hlen : (q.2.1.map bvc).sum ≤ (P.2.1 q.1).2.2.1) (h1 : bSnd l K P d q.1 0 (blva 0 q.2.1) [] w (.inl v) w1) (h2 : bSnd l K P (d + 1) mi (pc + 3) lv (v.toList ++ q.2.2) w1 r w2) : bSnd l K P (d + 1) mi pc lv st w r w2 := by
  obtain ⟨b1, b2, b3, b4, b5, b6⟩ := A.2.2.1 mi pc o ho
  have h1' := h1
  obtain ⟨i1, i2, i3, -, -⟩ := h1'
  obtain ⟨j1, j2, j3, -, ih⟩ := h2
  refine ⟨Nat.le_trans i1 j1, Nat.le_trans i2 j2, Nat.le_trans i3 j3, ⟨o, ho⟩, ?_⟩
  intro p e R s m args below meth c H locs cells slots ls w0 mc ms C0 hb hw hz hret hnm hlk htab hRf hRl hRc hRs hc hsl hmc hms hl
  have g1 : (w1.1.length - w.1.length) + (w1.2 - w.2) + w.1.length + w.2 = w1.1.length + w1.2 := by omega
  have g2 : (bsz w1.1 - bsz w.1) + 6 * (w1.2 - w.2) + bsz w.1 + 6 * w.2 = bsz w1.1 + 6 * w1.2 := by omega
  refine bafter hw (brun A b1 b3 C0 hb hw hz hl (by omega) (by omega) hq hlen h1 g1 g2 (by omega) (by omega) (Or.inr ⟨v, rfl⟩)) ?_ ?_
  · intro v' H1 locs1 hv' hw1 hz1
    cases hv'
    have e9 : (v.map (bvv K)).toList ++ q.2.2.map (bvv K) = (v.toList ++ q.2.2).map (bvv K) := by cases v <;> rfl
    rw [e9]
    exact ih p e R s m args below meth c H1 locs1 _ _ ls w0 mc ms C0 hb hw1 hz1 hret hnm hlk htab hRf hRl hRc hRs (by omega) (by omega) hmc hms hl
  · intro x a ce H1 locs1 hx
    cases hx
theorem bsnd_callO (A : bAll K P) (d mi pc : Nat) (lv : List (Nat × bV)) (st : List bV) (w : bW) (o : bO) (q : Nat × List bV × List bV) (x : String) (w1 : bW) (ho : P.1 mi pc = some o) (hq : bcal o st w = some q) (hlen : (q.2.1.map bvc).sum ≤ (P.2.1 q.1).2.2.1) (h1 : bSnd l K P d q.1 0 (blva 0 q.2.1) [] w (.inr x) w1) (hH : (P.2.1 mi).2.2.2.2 = []) (hsp : bnsp o = true) : bSnd l K P (d + 1) mi pc lv st w (.inr x) w1 := by
  obtain ⟨b1, b2, b3, b4, b5, b6⟩ := A.2.2.1 mi pc o ho
  have h1' := h1
  obtain ⟨i1, i2, i3, -, -⟩ := h1'
  refine ⟨i1, i2, i3, ⟨o, ho⟩, ?_⟩
  intro p e R s m args below meth c H locs cells slots ls w0 mc ms C0 hb hw hz hret hnm hlk htab hRf hRl hRc hRs hc hsl hmc hms hl
  have g1 : (w1.1.length - w.1.length) + (w1.2 - w.2) + w.1.length + w.2 = w1.1.length + w1.2 := by omega
  have g2 : (bsz w1.1 - bsz w.1) + 6 * (w1.2 - w.2) + bsz w.1 + 6 * w.2 = bsz w1.1 + 6 * w1.2 := by omega
  refine bafter hw (brun A b1 b3 C0 hb hw hz hl (by omega) (by omega) hq hlen h1 g1 g2 (by omega) (by omega) (Or.inl hsp)) ?_ ?_
  · intro v' H1 locs1 hv'
    cases hv'
  · intro x' a ce H1 locs1 hx hw1 hz1 g3 g4 g5
    cases hx
    refine vx_out (fun z hz' => ?_) hlk g3 g4 g5 (fun t ht _ => ⟨rfl, ⟨by rw [ht]; exact hw1.1, fun h => by rw [ht]; exact hz1 h⟩, hw1.2.F ht⟩) hw1.2.2.2 (by omega) (by omega)
    rw [htab, hH] at hz'
    cases hz'
theorem bhand_inv {M : bH} {pc : Nat} {x : String} {ok : String → String → Option Bool} {hp : Nat} (h : bhand M pc x ok = some hp) : ∃ (pre suf : bH) (z : (Nat × Nat × Nat × Nat) × String), M = pre ++ z :: suf ∧ z.1.1 ≤ pc ∧ pc < z.1.2.1 ∧ z.1.2.2.1 = hp ∧ ok x z.2 = some true ∧ ∀ y ∈ pre, ¬ (y.1.1 ≤ pc ∧ pc < y.1.2.1) ∨ ok x y.2 = some false := by
  induction M with
  | nil => cases h
  | cons z t ih =>
    obtain ⟨q, nm⟩ := z
    unfold bhand at h
    split at h
    · rename_i hcov
      split at h
      · rename_i hk
        exact ⟨[], t, (q, nm), rfl, hcov.1, hcov.2, Option.some.inj h, hk, fun y hy => by cases hy⟩
      · rename_i hk
        obtain ⟨pre, suf, z, g1, g2, g3, g4, g5, g6⟩ := ih h
        refine ⟨(q, nm) :: pre, suf, z, by rw [g1]; rfl, g2, g3, g4, g5, fun y hy => ?_⟩
        rcases List.mem_cons.mp hy with rfl | hy
        · exact Or.inr hk
        · exact g6 y hy
      · cases h
    · rename_i hcov
      obtain ⟨pre, suf, z, g1, g2, g3, g4, g5, g6⟩ := ih h
      refine ⟨(q, nm) :: pre, suf, z, by rw [g1]; rfl, g2, g3, g4, g5, fun y hy => ?_⟩
      rcases List.mem_cons.mp hy with rfl | hy
      · exact Or.inl hcov
      · exact g6 y hy
theorem bsnd_catch (A : bAll K P) (d mi pc : Nat) (lv : List (Nat × bV)) (st : List bV) (w : bW) (o : bO) (q : Nat × List bV × List bV) (x : String) (w1 : bW) (hp : Nat) (o2 : bO) (ik : Nat × Nat) (r : bR) (w2 : bW) (ho : P.1 mi pc = some o) (hq : bcal o st w = some q) (hlen : (q.2.1.map bvc).sum ≤ (P.2.1 q.1).2.2.1) (h1 : bSnd l K P d q.1 0 (blva 0 q.2.1) [] w (.inr x) w1) (hh : bhand (P.2.1 mi).2.2.2.2 pc x P.2.2.2.1 = some hp) (ho2 : P.1 mi hp = some o2) (hsp : bnsp o = true) (hk : bastk o2.1 = some ik) (hik : ik.1 < (P.2.1 mi).2.2.1) (h2 : bSnd l K P (d + 1) mi (hp + ik.2) (blvx lv ik.1) [] w1 r w2) : bSnd l K P (d + 1) mi pc lv st w r w2 := by
  obtain ⟨b1, b2, b3, b4, b5, b6⟩ := A.2.2.1 mi pc o ho
  have h1' := h1
  obtain ⟨i1, i2, i3, -, -⟩ := h1'
  obtain ⟨j1, j2, j3, -, ih⟩ := h2
  refine ⟨Nat.le_trans i1 j1, Nat.le_trans i2 j2, Nat.le_trans i3 j3, ⟨o, ho⟩, ?_⟩
  intro p e R s m args below meth c H locs cells slots ls w0 mc ms C0 hb hw hz hret hnm hlk htab hRf hRl hRc hRs hc hsl hmc hms hl
  have g1 : (w1.1.length - w.1.length) + (w1.2 - w.2) + w.1.length + w.2 = w1.1.length + w1.2 := by omega
  have g2 : (bsz w1.1 - bsz w.1) + 6 * (w1.2 - w.2) + bsz w.1 + 6 * w.2 = bsz w1.1 + 6 * w1.2 := by omega
  refine bafter hw (brun A b1 b3 C0 hb hw hz hl (by omega) (by omega) hq hlen h1 g1 g2 (by omega) (by omega) (Or.inl hsp)) ?_ ?_
  · intro v' H1 locs1 hv'
    cases hv'
  · intro x' a ce H1 locs1 hx hw1 hz1 g3 g4 g5
    cases hx
    obtain ⟨pre, suf, z, f1, f2, f3, f4, f5, f6⟩ := bhand_inv hh
    have hmem : ∀ y : (Nat × Nat × Nat × Nat) × String, y ∈ pre ++ z :: suf → y.1.2.2.2 ≠ 0 ∧ Jvm.Cond.classLink (P.2.1 mi).1.cls y.1.2.2.2 y.2 ∈ bw_G := fun y hy => A.2.2.2.1 mi y (by rw [f1]; exact hy)
    have hz9 := hmem z (by simp)
    refine vx_catch C0.2.2.2.1 (tableOf (pre.map (fun x => x.1))) ⟨z.1.1, z.1.2.1, z.1.2.2.1, z.1.2.2.2⟩ (tableOf (suf.map (fun x => x.1))) ?_ ?_ ?_ hz9.1 (C0.2.2.2.2 _ hz9.2) (bcast_use hb (A.2.2.2.2.1 _ _ f5)) g3 g4 g5 ?_
    · rw [htab, f1]
      simp [tableOf]
    · intro y hy
      simp only [tableOf, List.map_map, List.mem_map] at hy
      obtain ⟨y0, hy0, rfl⟩ := hy
      rcases f6 y0 hy0 with h9 | h9
      · refine Or.inl ?_
        simp only [Function.comp, covers, Bool.and_eq_false_iff, decide_eq_false_iff_not]
        by_cases h8 : y0.1.1 ≤ pc
        · exact Or.inr fun h7 => h9 ⟨h8, h7⟩
        · exact Or.inl h8
      · have h8 := hmem y0 (List.mem_append_left _ hy0)
        exact Or.inr ⟨h8.1, y0.2, C0.2.2.2.2 _ h8.2, hb.2.2.2.2.2.2.2.1 _ (A.2.2.2.2.2 _ _ h9)⟩
    · simp only [covers, Bool.and_eq_true, decide_eq_true_eq]
      exact ⟨f2, f3⟩
    · obtain ⟨e1, e2, -⟩ := A.2.2.1 mi hp o2 ho2
      have hfil : ∀ ls' : Array Slot, lv_has ls' (P.2.1 mi).2.2.1 ((ik.1, Value.ref a) :: (bvl K lv).filter (fun q => !(q.1 == ik.1) && !(q.1 + 1 == ik.1 && q.2.category == 2))) → lv_has ls' (P.2.1 mi).2.2.1 (bvl K (blvx lv ik.1)) := fun ls' h9 => by
        refine ⟨h9.1, h9.2.1, fun q hq => h9.2.2 q (List.mem_cons_of_mem _ ?_)⟩
        have h8 : (bvl K lv).filter (fun q => !(q.1 == ik.1) && !(q.1 + 1 == ik.1 && q.2.category == 2)) = bvl K (blvx lv ik.1) := by
          simp only [blvx, bvl, List.filter_map, Function.comp_def, bvc_v]
        rw [h8]
        exact hq
      have fin : ∀ ls' : Array Slot, lv_has ls' (P.2.1 mi).2.2.1 ((ik.1, Value.ref a) :: (bvl K lv).filter (fun q => !(q.1 == ik.1) && !(q.1 + 1 == ik.1 && q.2.category == 2))) → W p l e R s m args below meth c H1 locs1 (cells + (w1.1.length - w.1.length + (w1.2 - w.2))) (slots + (bsz w1.1 - bsz w.1 + 6 * (w1.2 - w.2))) (vx_MQ below (bQc K r w2) (bXC K r w2) args s mc ms (bA K.B)) (F0 m (hp + ik.2) ls' ([] : List Value)) := fun ls' h9 =>
        ih p e R s m args below meth c H1 locs1 _ _ ls' w0 mc ms C0 hb hw1 hz1 hret hnm hlk htab hRf hRl hRc hRs (by omega) (by omega) hmc hms (hfil ls' h9)
      show W _ _ _ _ _ _ _ _ _ _ _ _ _ _ _ (F0 m z.1.2.2.1 ls [.ref a])
      rw [f4]
      obtain ⟨ins2, ln2, a2, b2', v2⟩ := o2
      cases ins2 with
      | astore_n k =>
        cases hk
        exact lv_astore_n C0.1 C0.2.1 e1 rfl hl hik rfl fin
      | astore k =>
        cases hk
        exact lv_astore C0.1 C0.2.1 e1 hl hik rfl fin
      | _ => cases hk
/-- what is read, the machine does -/
theorem bsound (hst : l.stackTraces = false) (A : bAll K P) : bClosed P (bSnd l K P) :=
  ⟨bsnd_step A, bsnd_ret A, bsnd_call A, bsnd_callO A, bsnd_catch A, bsnd_thr hst A⟩
end BCALLS
