/-! WHAT IS READ, THE MACHINE DOES: calls. -/
theorem bcast_use {K : KE} {s : State} {args : Array Value} {x n : String} (hb : bK K s) (h : x = n ∧ x ∈ bwC) : (Jvm.Cond.castable x n).before args s = true := sorry
section BCALLS
variable {l : Launch} {K : KE} {P : bP}
theorem bgood {w : Jvm.Cond} (h : w ∈ bw_G) : w ∈ bw_G ∧ ((w.onTables && w.keeps) = true ∨ ∃ ty, w = .arrayClass ty) := sorry
theorem b_sl (as : List bV) : (lg_sl (as.map (bvv K))).length = (as.map bvc).sum := sorry
theorem b_args (as : List bV) : ∀ i : Nat, lv_args i (as.map (bvv K)) = bvl K (blva i as) := sorry
theorem bHead_nil {M : bM} (h : M.2.2.2.2 = []) : bHead M = .code M.1 M.2.1 M.2.2.1 M.2.2.2.1 := sorry
theorem bHead_cons {M : bM} (h : M.2.2.2.2 ≠ []) : bHead M = .codeWith M.1 M.2.1 M.2.2.1 M.2.2.2.1 (M.2.2.2.2.map (fun x => x.1)) := sorry
theorem b_ofWF {y : MethodName} {ws ws' : List Jvm.Cond} {rm : Room} {Pc : Array Value → State → Prop} {Qc : Array Value → State → Outcome → State → Prop} {XC : String → State → State → Prop} {mc ms : Nat} {free : Addr → Prop} {cc : ByteArray} {maxL : Nat} {ret : Option FieldType}
    (hy : plainFor y = true) (hw : ws = Jvm.Cond.code y cc maxL ret :: ws')
    (body : ∀ p e s m args below meth c s₁, BodyLoose p l y (headSpec ws rm) cc maxL ret e s m args below meth c s₁ → c.maxLocals = maxL → (∀ x ∈ c.exceptionTable.toList, False) → Pc args s →
      W p l e (headSpec ws rm).room s m args below meth c s.heap [] 0 0 (vx_MQ below Qc XC args s mc ms free) (entryFrame m args maxL)) : vx_Met l y ws rm Pc Qc XC mc ms free := sorry
theorem b_ofWHF {y : MethodName} {ws ws' : List Jvm.Cond} {rm : Room} {Pc : Array Value → State → Prop} {Qc : Array Value → State → Outcome → State → Prop} {XC : String → State → State → Prop} {mc ms : Nat} {free : Addr → Prop} {cc : ByteArray} {maxL : Nat} {ret : Option FieldType} {hh : List (Nat × Nat × Nat × Nat)}
    (hy : plainFor y = true) (hw : ws = Jvm.Cond.codeWith y cc maxL ret hh :: ws')
    (body : ∀ p e s m args below meth c s₁, BodyLoose p l y (headSpec ws rm) cc maxL ret e s m args below meth c s₁ → c.maxLocals = maxL → Pc args s →
      W p l e (headSpec ws rm).room s m args below meth c s.heap [] 0 0 (vx_MQ below Qc XC args s mc ms free) (entryFrame m args maxL)) : vx_Met l y ws rm Pc Qc XC mc ms free := sorry
theorem bmet (A : bAll K P) {d mj : Nat} {as : List bV} {w w2 : bW} {r : bR} (h : bSnd l K P d mj 0 (blva 0 as) [] w r w2) (hlen : (as.map bvc).sum ≤ (P.2.1 mj).2.2.1) {mc ms : Nat} (hmc : mc + w.1.length + w.2 = w2.1.length + w2.2) (hms : ms + bsz w.1 + 6 * w.2 = bsz w2.1 + 6 * w2.2) :
    vx_Met l (P.2.1 mj).1 (bHead (P.2.1 mj) :: bw_G) ({ frames := d + 16, cells := mc, slots := ms, locals := 400 + 100 * d }) (bPc K w.1.length (bct K w.1) (decide (w.2 = 0)) (as.map (bvv K))) (bQc K r w2) (bXC K r w2) mc ms (bA K.B) := sorry
section BRUN
variable {p : Program} {e : Env} {R : Room} {s : State} {m : MethodId} {args : Array Value} {below : List Frame} {meth : Method} {c : Code} {H : Heap} {locs : List Loc} {cells slots mc ms : Nat} {Q : State → Prop} {cc : ByteArray} {pc nL : Nat} {own : String} {ls : Array Slot} {st : List bV} {w w1 : bW} {r : bR}
theorem bcal_inv {o : bO} {q : Nat × List bV × List bV} (h : bcal o st w = some q) : q.1 = o.2.2.1 ∧ o.2.2.2.1 ≤ st.length ∧ (q.2.2.map bvc).sum ≤ 8 ∧ ((∃ ix, o.1 = .invokestatic ix ∧ q.2.1 = (st.take o.2.2.2.1).reverse ∧ q.2.2 = st.drop o.2.2.2.1) ∨ (∃ (k : Nat), q.2.1 = .inr (.inr (.inl k)) :: (st.take o.2.2.2.1).reverse ∧ st.drop o.2.2.2.1 = .inr (.inr (.inl k)) :: q.2.2 ∧ ((∃ (ix ci : Nat) (fs : List bV), o.1 = .invokevirtual ix ∧ w.1[k]? = some (.inl (ci, fs)) ∧ (ci : Int) = o.2.2.2.2) ∨ (∃ ix, o.1 = .invokespecial ix ∧ o.2.2.2.2 = 0)))) := sorry
theorem b_cat (xs : List bV) : ((xs.map (bvv K)).map fun v => v.category).sum = (xs.map bvc).sum := sorry
theorem bmetR {y : MethodName} {ws : List Jvm.Cond} {rm : Room} {Pc : Array Value → State → Prop} {v : Option bV} {w2 : bW} {free : Addr → Prop} (hM : vx_Met l y ws rm Pc (bQc K (.inl v) w2) (bXC K (.inl v) w2) mc ms free) : Met l y ws rm Pc (bQc K (.inl v) w2) mc ms free := sorry
theorem brun (A : bAll K P) {o : bO} {d : Nat} (b1 : bOkD cc pc o) (b3 : bOkC P own o) (C0 : CallFix p m c cc nL s args bw_G own) (hb : bK K s) (hw : bS K.D K.B w.1.length (bct K w.1) s H locs) (hz : w.2 = 0 → H.size = K.B + w.1.length) {lv : List (Nat × Value)} (hl : lv_has ls nL lv) (hRf : d + 17 ≤ R.frames) (hRl : 500 + 100 * d ≤ R.locals)
    {q : Nat × List bV × List bV} (hq : bcal o st w = some q) (hlen : (q.2.1.map bvc).sum ≤ (P.2.1 q.1).2.2.1) (h : bSnd l K P d q.1 0 (blva 0 q.2.1) [] w r w1) (hmc : mc + w.1.length + w.2 = w1.1.length + w1.2) (hms : ms + bsz w.1 + 6 * w.2 = bsz w1.1 + 6 * w1.2) (hc : cells + mc ≤ R.cells) (hs : slots + ms ≤ R.slots) (hsp : bnsp o = true ∨ ∃ v, r = .inl v) :
    vx_Run p l e R s m args below meth c H locs cells slots mc ms (F0 m pc ls (st.map (bvv K))) (q.2.2.map (bvv K)) (bQc K r w1 (q.2.1.map (bvv K)).toArray) (bXC K r w1) (bA K.B) := sorry
/-- behind a call: it has returned, or thrown -/
theorem bafter (hw : bS K.D K.B w.1.length (bct K w.1) s H locs) {st0 rest' : List Value} {av : Array Value}
    (hr : vx_Run p l e R s m args below meth c H locs cells slots mc ms (F0 m pc ls st0) rest' (bQc K r w1 av) (bXC K r w1) (bA K.B))
    (kr : ∀ (v : Option bV) (H1 : Heap) (locs1 : List Loc), r = .inl v → bS K.D K.B w1.1.length (bct K w1.1) s H1 locs1 → (w1.2 = 0 → H1.size = K.B + w1.1.length) → W p l e R s m args below meth c H1 locs1 (cells + mc) (slots + ms) Q (F0 m (pc + 3) ls ((v.map (bvv K)).toList ++ rest')))
    (kx : ∀ (x : String) (a : Addr) (ce : Cell) (H1 : Heap) (locs1 : List Loc), r = .inr x → bS K.D K.B w1.1.length (bct K w1.1) s H1 locs1 → (w1.2 = 0 → H1.size = K.B + w1.1.length) → H1[a]? = some ce → ce.vm = .none → s.vm.findClass x = some ce.cls → vx_W p l e R s m args below meth c H1 locs1 (cells + mc) (slots + ms) Q (F0 m pc ls rest') a) :
    W p l e R s m args below meth c H locs cells slots Q (F0 m pc ls st0) := sorry
end BRUN
theorem bsnd_call (A : bAll K P) (d mi pc : Nat) (lv : List (Nat × bV)) (st : List bV) (w : bW) (o : bO) (q : Nat × List bV × List bV) (v : Option bV) (w1 : bW) (r : bR) (w2 : bW) (ho : P.1 mi pc = some o) (hq : bcal o st w = some q) (hlen : (q.2.1.map bvc).sum ≤ (P.2.1 q.1).2.2.1) (h1 : bSnd l K P d q.1 0 (blva 0 q.2.1) [] w (.inl v) w1) (h2 : bSnd l K P (d + 1) mi (pc + 3) lv (v.toList ++ q.2.2) w1 r w2) : bSnd l K P (d + 1) mi pc lv st w r w2 := sorry
theorem bsnd_callO (A : bAll K P) (d mi pc : Nat) (lv : List (Nat × bV)) (st : List bV) (w : bW) (o : bO) (q : Nat × List bV × List bV) (x : String) (w1 : bW) (ho : P.1 mi pc = some o) (hq : bcal o st w = some q) (hlen : (q.2.1.map bvc).sum ≤ (P.2.1 q.1).2.2.1) (h1 : bSnd l K P d q.1 0 (blva 0 q.2.1) [] w (.inr x) w1) (hH : (P.2.1 mi).2.2.2.2 = []) (hsp : bnsp o = true) : bSnd l K P (d + 1) mi pc lv st w (.inr x) w1 := sorry
theorem bhand_inv {M : bH} {pc : Nat} {x : String} {ok : String → String → Option Bool} {hp : Nat} (h : bhand M pc x ok = some hp) : ∃ (pre suf : bH) (z : (Nat × Nat × Nat × Nat) × String), M = pre ++ z :: suf ∧ z.1.1 ≤ pc ∧ pc < z.1.2.1 ∧ z.1.2.2.1 = hp ∧ ok x z.2 = some true ∧ ∀ y ∈ pre, ¬ (y.1.1 ≤ pc ∧ pc < y.1.2.1) ∨ ok x y.2 = some false := sorry
theorem bsnd_catch (A : bAll K P) (d mi pc : Nat) (lv : List (Nat × bV)) (st : List bV) (w : bW) (o : bO) (q : Nat × List bV × List bV) (x : String) (w1 : bW) (hp : Nat) (o2 : bO) (ik : Nat × Nat) (r : bR) (w2 : bW) (ho : P.1 mi pc = some o) (hq : bcal o st w = some q) (hlen : (q.2.1.map bvc).sum ≤ (P.2.1 q.1).2.2.1) (h1 : bSnd l K P d q.1 0 (blva 0 q.2.1) [] w (.inr x) w1) (hh : bhand (P.2.1 mi).2.2.2.2 pc x P.2.2.2.1 = some hp) (ho2 : P.1 mi hp = some o2) (hsp : bnsp o = true) (hk : bastk o2.1 = some ik) (hik : ik.1 < (P.2.1 mi).2.2.1) (h2 : bSnd l K P (d + 1) mi (hp + ik.2) (blvx lv ik.1) [] w1 r w2) : bSnd l K P (d + 1) mi pc lv st w r w2 := sorry
/-- what is read, the machine does -/
theorem bsound (hst : l.stackTraces = false) (A : bAll K P) : bClosed P (bSnd l K P) := sorry
end BCALLS
