/-! ALL SCRIPTS of at most 6 ints. -/
theorem p1_sixA {scr : List Int32} (hl : scr.length = 6) {k : Nat} (hk : bsI (scr.getD 0 0 &&& 63) = 9223372036854775808 + k) (h : sexec pfin znv 6000 (sC6 k) 20 3853 23 sLv1 [] sW1 [] = true) : ∃ e, sR scr e ∧ pRun scr pF e sP1 :=
  ⟨senv scr, senv_R (by omega), p_end (senv_R (by omega)) (sC6_ok hl hk) 6000 h⟩
theorem p1_six {scr : List Int32} (hl : scr.length = 6) : ∃ e, sR scr e ∧ pRun scr pF e sP1 := by
  have h63 := bsI_63 (scr.getD 0 0)
  obtain ⟨k, hk⟩ : ∃ k, bsI (scr.getD 0 0 &&& 63) = 9223372036854775808 + k := ⟨bsI (scr.getD 0 0 &&& 63) - 9223372036854775808, by omega⟩
  have hk6 : k < 64 := by omega
  match k, hk6, hk with
  | 0, _, hk => exact p1_sixA hl hk case0
  | 1, _, hk => exact p1_sixA hl hk case1
  | 2, _, hk => exact p1_sixA hl hk case2
  | 3, _, hk => exact p1_sixA hl hk case3
  | 4, _, hk => exact p1_sixA hl hk case4
  | 5, _, hk => exact p1_case5 hl hk
  | 6, _, hk => exact p1_sixA hl hk case6
  | 7, _, hk => exact p1_case7 hl hk
  | 8, _, hk => exact p1_sixA hl hk case8
  | 9, _, hk => exact p1_sixA hl hk case9
  | 10, _, hk => exact p1_sixA hl hk case10
  | 11, _, hk => exact p1_sixA hl hk case11
  | 12, _, hk => exact p1_sixA hl hk case12
  | 13, _, hk => exact p1_sixA hl hk case13
  | 14, _, hk => exact p1_sixA hl hk case14
  | 15, _, hk => exact p1_sixA hl hk case15
  | 16, _, hk => exact p1_sixA hl hk case16
  | 17, _, hk => exact p1_sixA hl hk case17
  | 18, _, hk => exact p1_sixA hl hk case18
  | 19, _, hk => exact p1_sixA hl hk case19
  | 20, _, hk => exact p1_sixA hl hk case20
  | 21, _, hk => exact p1_sixA hl hk case21
  | 22, _, hk => exact p1_sixA hl hk case22
  | 23, _, hk => exact p1_sixA hl hk case23
  | 24, _, hk => exact p1_sixA hl hk case24
  | 25, _, hk => exact p1_sixA hl hk case25
  | 26, _, hk => exact p1_sixA hl hk case26
  | 27, _, hk => exact p1_sixA hl hk case27
  | 28, _, hk => exact p1_sixA hl hk case28
  | 29, _, hk => exact p1_sixA hl hk case29
  | 30, _, hk => exact p1_sixA hl hk case30
  | 31, _, hk => exact p1_sixA hl hk case31
  | 32, _, hk => exact p1_sixA hl hk case32
  | 33, _, hk => exact p1_sixA hl hk case33
  | 34, _, hk => exact p1_sixA hl hk case34
  | 35, _, hk => exact p1_sixA hl hk case35
  | 36, _, hk => exact p1_sixA hl hk case36
  | 37, _, hk => exact p1_sixA hl hk case37
  | 38, _, hk => exact p1_sixA hl hk case38
  | 39, _, hk => exact p1_sixA hl hk case39
  | 40, _, hk => exact p1_sixA hl hk case40
  | 41, _, hk => exact p1_sixA hl hk case41
  | 42, _, hk => exact p1_sixA hl hk case42
  | 43, _, hk => exact p1_sixA hl hk case43
  | 44, _, hk => exact p1_sixA hl hk case44
  | 45, _, hk => exact p1_sixA hl hk case45
  | 46, _, hk => exact p1_sixA hl hk case46
  | 47, _, hk => exact p1_sixA hl hk case47
  | 48, _, hk => exact p1_sixA hl hk case48
  | 49, _, hk => exact p1_sixA hl hk case49
  | 50, _, hk => exact p1_sixA hl hk case50
  | 51, _, hk => exact p1_sixA hl hk case51
  | 52, _, hk => exact p1_sixA hl hk case52
  | 53, _, hk => exact p1_sixA hl hk case53
  | 54, _, hk => exact p1_sixA hl hk case54
  | 55, _, hk => exact p1_sixA hl hk case55
  | 56, _, hk => exact p1_sixA hl hk case56
  | 57, _, hk => exact p1_sixA hl hk case57
  | 58, _, hk => exact p1_sixA hl hk case58
  | 59, _, hk => exact p1_sixA hl hk case59
  | 60, _, hk => exact p1_sixA hl hk case60
  | 61, _, hk => exact p1_sixA hl hk case61
  | 62, _, hk => exact p1_sixA hl hk case62
  | 63, _, hk => exact p1_sixA hl hk case63
  | k + 64, h, _ => omega
theorem p1_head2 {scr : List Int32} {e : sE} (hR : sR scr e) (k : pRun scr pF e sP1) : pRun scr pF e sP0 := p_stage hR cok_nil _ stage1 k
theorem p1_all {scr : List Int32} (hl : scr.length ≤ 6) : ∃ w2 : bW, bX (bPr scr) 20 3853 0 [(0, .inr (.inr (.inr (some 1))))] [] ([], 0) (.inl (some (.inl 1))) w2 ∧ w2.1.length + w2.2 ≤ 600000 ∧ bsz w2.1 + 6 * w2.2 ≤ 7000000 := by
  have h : ∃ e, pRun scr pF e sP0 := by
    rcases Nat.lt_or_ge scr.length 6 with h1 | h1
    · exact ⟨_, p1_short h1⟩
    · obtain ⟨e, hR, k⟩ := p1_six (scr := scr) (by omega)
      exact ⟨e, p1_head2 hR k⟩
  obtain ⟨e, q, w', h1, h2, h3, h4⟩ := h
  subst h2
  exact ⟨w', h1, h3, h4⟩
theorem whole_start {p : Program} {e : Env} {s : State} {m : MethodId} {below : List Frame} {meth : Method} {c : Code} (l : Launch) (hflags : l.flags = flags0) {b L : Nat} {xs : Nat → Int32} (hL : L ≤ 6) (C0 : lw_At p s m meth c b L xs) (hname : meth.name = "law") (htab : c.exceptionTable.toList = []) :
    W p l e room_1 s m #[Value.ref b] below meth c s.heap [] 0 0 (lw_Z below #[Value.ref b] s) (entryFrame m ([Value.ref b] : List Value).toArray 7) := by
  obtain ⟨w2, h1, h2, h3⟩ := p1_all (scr := (List.range L).map xs) (by rw [List.length_map, List.length_range]; exact hL)
  exact bfinish l hflags hL C0 hname htab h1 (by decide) (by omega) (by omega)
set_option maxHeartbeats 4000000 in
theorem lw_walk (l : Launch) (hflags : l.flags = flags0) (b : Addr) (xs : List Int32) : MetFree l x (headSpec (Jvm.Cond.code x code maxLocals ret :: tables_1) room_1) (lw_P b xs) (fun _ _ _ _ _ => True) lw_Q := by
  refine MetFree.of_bodyS (code := code) (maxLocals := maxLocals) (ret := ret) (by decide) ?_ ?_
  · intro args s m h hn
    obtain ⟨meth, c, h1, h2, h3, h4, h5, h6, -, -⟩ := Cond.code_spec hn (atoms_spec (ws := Jvm.Cond.code x code maxLocals ret :: tables_1) h _ List.mem_cons_self)
    exact ⟨meth, c, h1, h2, h3, h4, h5, h6⟩
  · intro p e s m args below meth c s₁ B hml0 hP _
    obtain ⟨rfl, hx, hbd, hgv⟩ := hP
    obtain ⟨scr, harrAt, hlist, hof, hsmall⟩ := hx
    obtain ⟨hcb, hkn, -, -⟩ := State.arrayAt?_spec harrAt
    have hown : s.vm.findClass R_law = some m.cls := findClass_of_methodNamed B.named
    have hts0 : ∀ c ∈ (Jvm.Cond.code x code maxLocals ret :: tables_1), c.before #[Value.ref b] s = true := atoms_spec (ws := Jvm.Cond.code x code maxLocals ret :: tables_1) B.pre
    have hts : ∀ w ∈ lw_tbl, w.before #[Value.ref b] s = true := k2_hts_sels lw_privs (fun w hw => hts0 w (List.mem_cons_of_mem _ hw)) lw_privs_ok
    have hml : c.maxLocals = 7 := B.maxLocals_eq (hts0 _ List.mem_cons_self)
    have htab9 : c.exceptionTable.toList = [] := by
      obtain ⟨meth9, c9, q1, q2, -, -, -, -, q7, -⟩ := Cond.code_spec B.named (hts0 _ List.mem_cons_self)
      cases Option.some.inj (q1.symm.trans B.method)
      cases Option.some.inj (q2.symm.trans (Stand.of_body B).code)
      rw [Array.isEmpty_iff.mp q7]
    have X₀ : Stand p l e room_1 s m #[Value.ref b] below meth c s₁ [] 0 0 := Stand.of_body B
    have hh0 : s₁.heap = s.heap := by rw [B.state]; rfl
    have hsz : scr.slots.size = xs.length := by rw [← Array.length_toList, hlist, List.length_map]
    have hval : ∀ j : Nat, j < xs.length → scr.slots[j]? = some (.int (xs.getD j 0)) := fun j hj => by
      rw [← Array.getElem?_toList, hlist]
      simp [hj]
    have hbl : b < s.heap.size := (Array.getElem?_eq_some_iff.mp hcb).1
    have hX : va_X b xs.length (fun j => xs.getD j 0) s s.heap := ⟨scr, hcb, hof, hkn, hsz, hval⟩
    have K : W p l e room_1 s m #[Value.ref b] below meth c s₁.heap [] 0 0 (lw_Z below #[Value.ref b] s) (entryFrame m ([Value.ref b] : List Value).toArray 7) := by
      rw [hh0]
      exact whole_start l hflags hbd ⟨B.exec, B.bytes, B.returns, hml, hown, hts, hX, hbl, B.notSynchronized, hgv⟩ (name_of_methodNamed B.named B.method).1 htab9
    obtain ⟨t, a1, o, b1, b2, b3⟩ := K s₁ rfl X₀
    exact ⟨t, o, a1, b1, b2, b3⟩
theorem lw_pre_spec {args : Array Value} {s : State} (h : (Jvm.Cond.and given_1 narrow_1).before args s = true) (hr : rest_1_c.before args s = true) : ∃ (b : Addr) (xs : List Int32), lw_P b xs args s := by
  have hs := flat_of_before _ h
  have hq := flat_of_before _ hr
  have hc : (Cond.count 1).before args s = true := hs _ (by decide +kernel)
  have harr : (Cond.arrayOf (.arg 0) .int).before args s = true := hs _ (by decide +kernel)
  have hle : (Cond.le (.length (.arg 0)) (.int 6)).before args s = true := hs _ (by decide +kernel)
  have hlen : (Cond.isInt (.length (.arg 0))).before args s = true := hq _ (by decide +kernel)
  have hall : (Cond.all (.arg 0) (.isInt (.elem (.arg 0) (.index 0)))).before args s = true := hq _ (by decide +kernel)
  obtain ⟨b, xs, hb, hx⟩ := State.ints_of_pre rfl harr hlen hall
  have hsm : xs.length < 2 ^ 31 := hx.choose_spec.2.2.2
  have hev : (Term.length (.arg 0)).eval args s none [] s = some (.int xs.length.toInt32) := hx.length_eval hb
  have hv := Cond.le_ints hev (show (Term.int 6).eval args s none [] s = some (.int 6) from rfl)
  have hd : xs.length.toInt32 ≤ 6 := by
    simpa [Cond.before, Cond.holds, hv] using hle
  have hN : xs.length ≤ 6 := (Int32.ofNat_le_ofNat hsm (by decide)).mp (show Int32.ofNat xs.length ≤ Int32.ofNat 6 from hd)
  exact ⟨b, xs, Cond.one_arg hc (show args[0]? = some (.ref b) from hb), hx, hN, h⟩
theorem lw_comes (l : Launch) (hflags : l.flags = flags0) : Comes l x (Jvm.Cond.code x code maxLocals ret :: tables_1) room_1 (fun tb e args s => Calls_1 tb e args s ∧ rest_1 tb e args s ∧ Pre_1 tb e args s)
    (fun _ _ args s o t => lw_Q args s o t) := by
  intro p e ha hc hk s m args below hf hfit hheap happ hpre
  obtain ⟨b, xs, hP⟩ := lw_pre_spec hpre.2.2 hpre.2.1
  obtain ⟨k, o, h1, h2, h3, hQ⟩ := lw_walk l hflags b xs p e ha hc hk s m args below hf ((Spec.applies_iff_loose hf).mp happ).1 hP trivial
  exact ⟨k, o, h1, h2, h3, hQ⟩
theorem lw_frame {s t : State} {o : Outcome} {args : Array Value} (h : State.butDraws s t lw_cs (fun t1 => Framed s o t1 [] 600006 7302072)) :
    State.butDraws s t [Jvm.Choice.named "NaN.bits"] (fun t1 => Framed s o t1 (fieldLocs frame_1_writes args s ++ arrayLocs frame_1_arrays args s ++ staticLocs frame_1_statics s) 600006 7302072) := h
theorem lw_limb (L : Cond) (hL : ∀ (args : Array Value) (s t : State), L.after args s (.returned (some (.int 1))) t = true) :
    ArmFor flags0 classFile x code maxLocals ret World_1 tables_1 room_1 Calls_1 rest_1 Pre_1
      (fun tb e a s o t => postC L tb e a s o t ∧ State.butDraws s t [Jvm.Choice.named "NaN.bits"] (fun t1 => Framed s o t1 (fieldLocs frame_1_writes a s ++ arrayLocs frame_1_arrays a s ++ staticLocs frame_1_statics s) 600006 7302072)) := by
  intro l hflags _ _ p e ha hc hk s m args below hf hfit hheap happ hpre
  obtain ⟨k, o, h1, h2, h3, rfl, hF⟩ := lw_comes l hflags p e ha hc hk s m args below hf hfit hheap happ hpre
  exact ⟨k, _, h1, h2, h3, hL args s _, lw_frame hF⟩
theorem i_vc : Claimed_1_1 ∧ Claimed_1_2 := ⟨lw_limb limb_1_1 (fun args s t => by simp [limb_1_1, Cond.after, Cond.holds, Cond.value]), lw_limb limb_1_2 (fun args s t => Cond.after_iff.mpr (by
  first | (rw [show limb_1_2 = Cond.eq .result (.int 1) from rfl, Cond.eq_ints (x := 1) (y := 1) rfl rfl]; simp; done) | (simp [limb_1_2, Cond.value, Term.eval]; done)))⟩
