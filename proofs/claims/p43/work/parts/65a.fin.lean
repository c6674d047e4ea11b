/-! THE LAW'S END out of one reading (head: the skeleton's). -/
/-! THE CLAIM OUT OF ONE WALK OF THE LAW'S BODY. Your part is whole_start (and what it stands on); all else here is the same for every law, but numbers. -/
def R_law : String := "BoxedvalueLaw"
def lw_P (b : Addr) (xs : List Int32) (args : Array Value) (s : State) : Prop := args = #[.ref b] ∧ s.IntsAt b xs ∧ xs.length ≤ 3072 ∧ (Jvm.Cond.and given_1 narrow_1).before args s = true
/-- what a walk over the start with the record d0 says of its end, said of the start itself -/
theorem lw_closed {s t : State} {o : Outcome} {d0 : Drawn} {L : List Loc} {k n : Nat} (hd0 : s.drawn.sameBut d0 lw_cs) (hv : ∃ v, o = .returned v) (hW : (s.setDrawn d0).WarmedH t.vm) (hs : (s.setDrawn d0).sameButNew ({ t with vm := s.vm } : State) L k n) : State.butDraws s t lw_cs (fun t1 => Framed s o t1 L k n) := by
  have h2 : t.drawn = d0 := congrArg State.drawn hs.1
  refine ⟨⟨hv, hW, State.sameButNew.setDrawn hs s.drawn⟩, ?_, by decide⟩
  rw [h2]
  exact hd0
def lw_Q (_ : Array Value) (s : State) (o : Outcome) (t : State) : Prop := o = .returned (some (.int 1)) ∧ State.butDraws s t lw_cs (fun t1 => Framed s o t1 [] 603072 7211114)
def lw_Z (below : List Frame) (a : Array Value) (s : State) : State → Prop := fun t => ∃ o, t.status = .running ∧ Ended t below o ∧ lw_Q a s o t
/-- the law's own end, with 1 on the stack, nothing written that was there before, its room as the claim has it; d0: the record of draws at this point (at the entry s.drawn: begin with 'refine W.base ?_' and 'have hd0 := Drawn.sameBut.refl s.drawn lw_cs') -/
theorem lw_ret {p : Program} {l : Launch} {e : Env} {s : State} {m : MethodId} {below : List Frame} {meth : Method} {c : Code} {b : Nat} {d0 : Drawn} (hd0 : s.drawn.sameBut d0 lw_cs) (hx : p.tables.exec = Jvm.exec) (hb : c.code = code) (hr : meth.sig.returnType = ret) (hlocks : meth.locks = false) {pc : Nat} {H : Heap} {ls : Array Slot} (hdg : decode code pc = .ok (.ireturn, 1)) : W p l e room_1 (s.setDrawn d0) m #[Value.ref b] below meth c H [] 603072 7211114 (lw_Z below #[Value.ref b] s) (F0 m pc ls [.int 1]) := by
  intro T hT X
  obtain ⟨fs, hret, hrun, hended, hW, hframe⟩ := X.leave (v := some (.int 1)) (hlocks := hlocks) (fun h => by rw [hr] at h; cases h)
  have hmeth' : T.vm.method? m = some meth := X.method'
  refine ⟨T.setFrames fs, ?_, .returned (some (.int 1)), hrun, hended, rfl, lw_closed hd0 ⟨_, rfl⟩ hW hframe⟩
  jvm_step X.here [X.here.top, hx, hb, hdg, hmeth', hr, ret, narrow_b1]
  (try refine ⟨rfl, ?_⟩); (try refine ⟨rfl, ?_⟩)
  first | (intro acts; rw [hret _ acts rfl rfl rfl]) | rw [hret _ _ rfl rfl rfl]
  exact Steps.refl _
/-- what holds at the law's entry: the machine, the code, the tables' words (any of lw_tbl by 'hts w (by decide +kernel)'), the script of L ints xs at the cell b, what the Statement gives of the start (any of its parts by flat_of_before) -/
def lw_At (p : Program) (s : State) (m : MethodId) (meth : Method) (c : Code) (b L : Nat) (xs : Nat → Int32) : Prop :=
  p.tables.exec = Jvm.exec ∧ c.code = code ∧ meth.sig.returnType = ret ∧ c.maxLocals = 7 ∧ s.vm.findClass R_law = some m.cls ∧ (∀ w ∈ lw_tbl, w.before #[Value.ref b] s = true) ∧ va_X b L xs s s.heap ∧ b < s.heap.size ∧ meth.locks = false ∧ (Jvm.Cond.and given_1 narrow_1).before #[Value.ref b] s = true
theorem bmeth_law : bmeth 3853 = (yL_law, cL_law, 7, some .boolean, []) := rfl
theorem bfinish {p : Program} {e : Env} {s : State} {m : MethodId} {below : List Frame} {meth : Method} {c : Code} (l : Launch) (hflags : l.flags = flags0) {b L : Nat} {xs : Nat → Int32} (hL : L ≤ 3072) (C0 : lw_At p s m meth c b L xs) (hname : meth.name = "law") (htab : c.exceptionTable.toList = []) {w2 : bW} {d : Nat}
    (hX : bX_s (bPr ((List.range L).map xs)) d 3853 0 [(0, .inr (.inr (.inr (some 1))))] [] ([], 0) (.inl (some (.inl 1))) w2) (hd : d ≤ 500) (hc : w2.1.length + w2.2 ≤ 603072) (hs : bsz w2.1 + 6 * w2.2 ≤ 7211114) :
    W p l e room_1 s m #[Value.ref b] below meth c s.heap [] 0 0 (lw_Z below #[Value.ref b] s) (entryFrame m ([Value.ref b] : List Value).toArray 7) := by
  obtain ⟨hx, hcb, hret, hml, hown, hts, hXs, hbl, hlk, hgv⟩ := C0
  have hst : l.stackTraces = false := by unfold Launch.stackTraces; rw [hflags]; decide +kernel
  have hfl : ∀ w ∈ flatC narrow_1, w.before #[Value.ref b] s = true := fun w hw => flat_of_before _ hgv w (by show w ∈ flatC given_1 ++ flatC narrow_1; exact List.mem_append_right _ hw)
  obtain ⟨K, hB, hX1, hstr, hnc, hK, hE⟩ := bstart_K (by omega) hts hfl hXs hbl
  have A := ball_ok hE hstr hnc
  have hsnd := hX _ ⟨bsound hst A, fun d mi pc lv st w v h => eT_snd A d mi pc lv st w v h⟩
  obtain ⟨-, -, -, -, hsnd⟩ := hsnd
  have e9 : (bPr ((List.range L).map xs)).2.1 3853 = (yL_law, cL_law, 7, some .boolean, []) := bmeth_law
  rw [e9] at hsnd
  have hl := lv_entry ([.ref b]) (n := 7) (Nat.le_of_ble_eq_true rfl)
  rw [lg_entry_eq]
  have hl : lv_has (lg_sl [Value.ref b] ++ List.replicate (7 - (lg_sl [Value.ref b]).length) Slot.unset).toArray 7 (bvl K [(0, .inr (.inr (.inr (some 1))))]) := by
    show lv_has _ 7 [(0, Value.ref (K.X 1))]
    rw [hX1]
    exact hl
  have key := hsnd p e room_1 s m #[Value.ref b] below meth c s.heap [] 0 0 _ ([], 0) (w2.1.length + w2.2) (bsz w2.1 + 6 * w2.2) ⟨hx, hcb, hml, hown, fun w hw => hts w (List.mem_filter.mp hw).1⟩ hK ⟨⟨by rw [hB]; exact Nat.le_refl _, fun k hk => absurd hk (Nat.not_lt_zero _)⟩, va_S.rf⟩ (fun _ => hB.symm) hret hname hlk htab (by show d + 16 ≤ 2048; omega) (by show 400 + 100 * d ≤ 94400; omega) hc hs rfl rfl rfl rfl hl
  intro T hT X
  obtain ⟨t, h1, o, h2, h3, h4⟩ := key T hT X
  refine ⟨t, h1, o, h2, h3, ?_⟩
  rcases h4 with ⟨⟨⟨v, hv, ho⟩, -, -⟩, L', ⟨f1, f2, f3⟩, hf⟩ | ⟨q, -, x, ce, L', ⟨h5, -⟩, -⟩
  · cases hv
    refine ⟨ho, ?_⟩
    have f4 : s.sameButNew ({ t with vm := s.vm } : State) [] 603072 7211114 := (State.sameButNew.drop_fresh (L := []) (J := L') f3 (fun z hz => by have := hf z hz; rw [hB] at this; exact this)).mono hc hs
    have hd0 := Drawn.sameBut.refl s.drawn lw_cs
    exact lw_closed (d0 := s.drawn) hd0 f1 f2 f4
  · cases h5
