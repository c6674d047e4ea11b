/-! ROWS over the world: an instruction each. C0: machine and method; hw: world and frame. -/
theorem bK.calling {K : KE} {U : State} (g : JFrame) (mk : MethodId) (a : Array Value) (h : bK K U) : bK K (U.calling g mk a) := by
  obtain ⟨h1, h2, h4, h5, h6, h7, h8, h9, h10, h11, h12, h13, h14⟩ := h
  have hv := Vm.Alike.refl U.vm
  refine ⟨va_K.moved (u := U) (U := U.calling g mk a) hv h1, fun j q hj => ⟨va_T.moved (u := U) (U := U.calling g mk a) hv (h2 j q hj).1, fun f hf => va_Z.moved (u := U) (U := U.calling g mk a) hv ((h2 j q hj).2 f hf)⟩, vx_Zq.moved (u := U) (U := U.calling g mk a) hv h4, vx_Zq.moved (u := U) (U := U.calling g mk a) hv h5, ⟨fun q hq => ?_, ?_⟩, va_AO.moved (u := U) (U := U.calling g mk a) hv h7, va_AO.moved (u := U) (U := U.calling g mk a) hv h8, fun q hq => va_Nc.moved (u := U) (U := U.calling g mk a) hv (h9 q hq), h10, fun x hx => va_Nw.same (u := U) (U := U.calling g mk a) rfl rfl (h11 x hx), fun q hq => va_Nw.same (u := U) (U := U.calling g mk a) rfl rfl (h12 q hq), fun q hq => va_Nw.same (u := U) (U := U.calling g mk a) rfl rfl (h13 q hq), fun x hx => va_Nw.same (u := U) (U := U.calling g mk a) rfl rfl (h14 x hx)⟩
  · obtain ⟨sa, h⟩ := h6.1 q hq
    exact ⟨sa, vk_R.same (u := U) (U := U.calling g mk a) rfl h⟩
  · obtain ⟨r1, r2, r3⟩ := h6.2
    refine ⟨va_Z.moved (u := U) (U := U.calling g mk a) hv r1, vx_Zq.moved (u := U) (U := U.calling g mk a) hv r2, fun q hm => ?_⟩
    obtain ⟨g1, g2, g3, v, g4, g5⟩ := r3 q hm
    exact ⟨vk_R.same (u := U) (U := U.calling g mk a) rfl g1, va_O.moved (u := U) (U := U.calling g mk a) hv g2, va_OF.moved (u := U) (U := U.calling g mk a) hv g3, v, va_OF.moved (u := U) (U := U.calling g mk a) hv g4, va_T.moved (u := U) (U := U.calling g mk a) hv g5⟩
theorem bPc.blind {K : KE} {n : Nat} {ct : Nat → va_E} {ex : Bool} {av : List Value} : FrameBlind (bPc K n ct ex av) := fun _ _ g mk q => ⟨q.1, q.2.1, q.2.2.1.calling g mk _, q.2.2.2⟩
section BR
variable {p : Program} {l : Launch} {e : Env} {R : Room} {s : State} {m : MethodId} {args : Array Value} {below : List Frame} {meth : Method} {c : Code} {H : Heap} {locs : List Loc} {cells slots : Nat} {Q : State → Prop}
variable {cc : ByteArray} {pc nL : Nat} {own : String} {ls : Array Slot} {rest : List Value} {K : KE} {n : Nat} {ct : Nat → va_E}
theorem br_get (C0 : CallFix p m c cc nL s args bw_G own) (hb : bK K s) (hw : bS K.D K.B n ct s H locs) {r : Nat} (hr : r < n) {ci : Nat} {fs : List Value} (he : ct r = .inr (ci, fs)) {C : String} {T : u_T} {N : Nat} (hc : vwCl[ci]? = some (C, T, N)) (hin : ∀ w ∈ u_ws C T N, w ∈ bw_G) (k : Nat) (hk : k < N) {index : Nat} (hlink : Cond.fieldLink own index (T k).1 (T k).2.1 (T k).2.2.1 ∈ bw_G) {v : Value} (hv : fs[k]? = some v) (hdg : decode cc pc = .ok (.getfield index, 3))
    (kk : W p l e R s m args below meth c H locs cells slots Q (F0 m (pc + 3) ls (v :: rest))) : W p l e R s m args below meth c H locs cells slots Q (F0 m pc ls (.ref (K.B + r) :: rest)) := by
  obtain ⟨hx, hcb, hml, hown, hts⟩ := C0
  exact va_get (ws := [(K.B + r, .inr (ci, fs))]) hx hcb hts hin hown hb.1 (hw.1.sing hr he) 0 rfl hc k hk (hts _ hlink) (fun _ h => h) hv hdg kk
theorem br_put (C0 : CallFix p m c cc nL s args bw_G own) (hb : bK K s) (hw : bS K.D K.B n ct s H locs) {r : Nat} (hr : r < n) {ci : Nat} {fs : List Value} (he : ct r = .inr (ci, fs)) {C : String} {T : u_T} {N : Nat} (hc : vwCl[ci]? = some (C, T, N)) (hin : ∀ w ∈ u_ws C T N, w ∈ bw_G) (ty0 : Nat → FieldType) (hty : ∀ k, k < N → parseFieldDescriptor (T k).2.2.1 = some (ty0 k)) (hnm : ∀ a, a < N → ∀ b, b < N → a ≠ b → (T a).2.1 ≠ (T b).2.1) (k : Nat) (hk : k < N) {index : Nat} (hlink : Cond.fieldLink own index (T k).1 (T k).2.1 (T k).2.2.1 ∈ bw_G) (hfin : (T k).2.2.2 = false ∨ ((T k).2.2.2 = true ∧ meth.name = "<init>" ∧ (T k).1 = own)) {v : Value} (hn : narrow (ty0 k) v = v) (hfit : fits (ty0 k) v = true) (hl : k < fs.length) (hdg : decode cc pc = .ok (.putfield index, 3))
    (kk : ∀ (H1 : Heap) (locs1 : List Loc), H1.size = H.size → bS K.D K.B n (bw_up ct r (.inr (ci, fs.set k v))) s H1 locs1 → W p l e R s m args below meth c H1 locs1 cells slots Q (F0 m (pc + 3) ls rest)) : W p l e R s m args below meth c H locs cells slots Q (F0 m pc ls (v :: .ref (K.B + r) :: rest)) := by
  obtain ⟨hx, hcb, hml, hown, hts⟩ := C0
  have hK := hb.1
  have hap := va_apart (own := own) hts hin ty0 hty hnm hK hc
  obtain ⟨r', h1, cell, q1, q2, q3, q4⟩ := (hw.1.sing hr he) 0 _ rfl
  have hr' : r' = (C, T, N) := Option.some.inj (h1.symm.trans hc)
  subst hr'
  obtain ⟨hS, hfc, kC, hkC, hkind⟩ := hK.1 ci _ hc
  obtain ⟨cf, kf, fi, f, hi, hsl⟩ := hS k hk
  have hlay := hts _ (hin _ (u_in_lay hk))
  unfold u_lay at hlay
  have hst' := (u_facts hfc hkC (u_lays hts hin hk) hi).1
  rcases hfin with hfin | ⟨hfin, hname, hdecl⟩
  · rw [if_neg (by rw [hfin]; decide)] at hlay
    have h6 := u_store hfc hkC hkind hlay hi (hty k hk) hn hfit
    refine W.putK hx hcb (f := f) ⟨hown, hts _ hlink, ⟨_, _, _, hi⟩, hst'⟩ (by rw [q2]; exact h6) q1 q3 (by rw [hsl]; exact k2_hasslot (q4 k hk)) rfl rfl hdg fun H' e1 e2 e3 => ?_
    rw [hsl] at e1 ⊢
    exact kk H' _ e2 (hw.put (.inr (ci, fs.set k v)) ⟨_, hc, t_OB.to (V := updV (vp_V fs) k v) ⟨_, e1, q2, q3, t_set q4 hap hk v⟩ (fun j _ => vp_updV_set hl v j)⟩ e2 e3)
  · rw [if_pos hfin] at hlay
    have hcf : m.cls = cf := by
      obtain ⟨_, _, c', _, _, _, -, -, hf', -, -, -, hown2, -⟩ := Cond.laysFinal_spec hlay
      have e1 : c' = cf := by have := hi.symm.trans hf'; simp at this; exact this.1.symm
      rw [hdecl] at hown2
      rw [← e1]; exact Option.some.inj (hown.symm.trans hown2)
    have h6 := u_fits hfc hkC hkind (Or.inr hlay) hi (hty k hk) hn hfit
    refine W.putFinK hx hcb hown (hts _ hlink) hi hst' hcf hname (by rw [q2]; exact h6) q1 q3 (by rw [hsl]; exact k2_hasslot (q4 k hk)) rfl rfl hdg fun H' e1 e2 e3 => ?_
    rw [hsl] at e1 ⊢
    exact kk H' _ e2 (hw.put (.inr (ci, fs.set k v)) ⟨_, hc, t_OB.to (V := updV (vp_V fs) k v) ⟨_, e1, q2, q3, t_set q4 hap hk v⟩ (fun j _ => vp_updV_set hl v j)⟩ e2 e3)
theorem br_new (C0 : CallFix p m c cc nL s args bw_G own) (hb : bK K s) (hB : K.B ≤ s.heap.size) (hw : bS K.D K.B n ct s H locs) (hz : H.size = K.B + n) {ci : Nat} {C : String} {T : u_T} {N : Nat} (hc : vwCl[ci]? = some (C, T, N)) (hin : ∀ w ∈ u_ws C T N, w ∈ bw_G) (ty : Nat → FieldType) (hty : ∀ k, k < N → parseFieldDescriptor (T k).2.2.1 = some (ty k)) {index : Nat} (hcl : Cond.classLink own index C ∈ bw_G) (hinst : Cond.instantiable C N ∈ bw_G) (hini : Cond.initialized C ∈ bw_G)
    {fs : List Value} (hfs : ∀ j, j < N → defaultValue (ty j) = vp_V fs j) (hcells : cells + 1 ≤ R.cells) (hslots : slots + N ≤ R.slots) (hdg : decode cc pc = .ok (.new index, 3))
    (kk : ∀ (H1 : Heap), H1.size = K.B + (n + 1) → bS K.D K.B (n + 1) (bw_up ct n (.inr (ci, fs))) s H1 locs → W p l e R s m args below meth c H1 locs (cells + 1) (slots + N) Q (F0 m (pc + 3) ls (.ref (K.B + n) :: rest))) : W p l e R s m args below meth c H locs cells slots Q (F0 m pc ls rest) := by
  obtain ⟨hx, hcb, hml, hown, hts⟩ := C0
  have hKn := hb.1.1 ci _ hc
  refine W.newcK hx hcb hown (hts _ hcl) (hts _ hinst) (hts _ hini) rfl hdg hcells hslots hKn.2.1 hz fun H1 kC hkC e1 z1 o1 => ?_
  have o2 : ∀ q : Nat, q < H.size → H1[q]? = H[q]? := fun q hq => o1 q (by rw [← hz]; exact hq)
  refine kk H1 z1 ⟨hw.1.push hz _ ⟨_, hc, (u_born ty hts hin hKn hkC e1 hty).to hfs⟩ (by rw [z1, hz]) o2, ?_⟩
  exact ⟨Nat.le_trans hw.2.1 (by omega), fun x h1 h2 => (o2 x (Nat.lt_of_lt_of_le h1 hw.2.1)).trans (hw.2.2.1 x h1 h2), hw.2.2.2⟩
theorem br_newa (C0 : CallFix p m c cc nL s args bw_G own) (hb : bK K s) (hw : bS K.D K.B n ct s H locs) (hz : H.size = K.B + n) {atype : ArrayType} {ty : FieldType} (hty : newarray.typeOf atype = ty) (harr : Cond.arrayClass ty ∈ bw_G) (t0 : Nat) {cA : ClassId} (ht : (b_tys K.cy)[t0]? = some (cA, ty)) (hno : ∀ U cB, va_RA U cB ty → U.vm.findClass ("[" ++ ty.toString) = some cB)
    {k : Int32} {N' : Nat} {a0 : vp_A} (ha : vp_cell cA a0 = arrV cA N' (fun _ => defaultValue ty)) (hn : ¬ k < 0) (hN : k.toNatClampNeg = N') (hbytes : N' * componentBytes ty ≤ 536870912) (hcells : cells + 1 ≤ R.cells) (hslots : slots + N' ≤ R.slots) (hdg : decode cc pc = .ok (.newarray atype, 2))
    (kk : ∀ (H1 : Heap), H1.size = K.B + (n + 1) → bS K.D K.B (n + 1) (bw_up ct n (.inl (cA, a0))) s H1 locs → W p l e R s m args below meth c H1 locs (cells + 1) (slots + N') Q (F0 m (pc + 2) ls (.ref (K.B + n) :: rest))) : W p l e R s m args below meth c H locs cells slots Q (F0 m pc ls (.int k :: rest)) := by
  obtain ⟨hx, hcb, hml, hown, hts⟩ := C0
  subst hty
  refine va_newaK hx hcb (hts _ harr) rfl hdg rfl hn hN hbytes hcells hslots hz fun H1 cB e1 z1 o1 hAr hNm => ?_
  have hAB : cB = cA := Option.some.inj (hNm.symm.trans (hno _ _ (hb.1.2 t0 _ ht).2))
  subst hAB
  have o2 : ∀ q : Nat, q < H.size → H1[q]? = H[q]? := fun q hq => o1 q (by rw [← hz]; exact hq)
  refine kk H1 z1 ⟨hw.1.push hz _ (show H1[K.B + n]? = some (vp_cell cB a0) by rw [ha]; exact e1) (by rw [z1, hz]) o2, ?_⟩
  exact ⟨Nat.le_trans hw.2.1 (by omega), fun x h1 h2 => (o2 x (Nat.lt_of_lt_of_le h1 hw.2.1)).trans (hw.2.2.1 x h1 h2), hw.2.2.2⟩
theorem br_newq (C0 : CallFix p m c cc nL s args bw_G own) (hb : bK K s) (hw : bS K.D K.B n ct s H locs) (hz : H.size = K.B + n) {C : String} {index : Nat} (hcl : Cond.classLink own index C ∈ bw_G) (hover : va_AO C s) (t0 : Nat) {cA : ClassId} (ht : (b_tys K.cy)[t0]? = some (cA, .object C))
    {k : Int32} {N' : Nat} (hn : ¬ k < 0) (hN : k.toNatClampNeg = N') (hbytes : N' * 4 ≤ 536870912) (hcells : cells + 1 ≤ R.cells) (hslots : slots + N' ≤ R.slots) (hdg : decode cc pc = .ok (.anewarray index, 3))
    (kk : ∀ (H1 : Heap), H1.size = K.B + (n + 1) → bS K.D K.B (n + 1) (bw_up ct n (.inl (cA, N', .inr (.inr (.inr (.inr (fun _ => none))))))) s H1 locs → W p l e R s m args below meth c H1 locs (cells + 1) (slots + N') Q (F0 m (pc + 3) ls (.ref (K.B + n) :: rest))) : W p l e R s m args below meth c H locs cells slots Q (F0 m pc ls (.int k :: rest)) := by
  obtain ⟨hx, hcb, hml, hown, hts⟩ := C0
  subst hN
  refine W.anew hx hcb hown (hts _ hcl) (va_AO.use hover) rfl hdg rfl hn hbytes hcells hslots fun cB kA comp f1 f2 f3 f4 => ?_
  obtain ⟨_, _, _, _, _, f5⟩ := (hb.1.2 t0 _ ht).2
  have hAB : cB = cA := Option.some.inj (f1.symm.trans f5)
  subst hAB
  generalize hH1 : H.push ({ cls := cB, slots := Array.replicate k.toNatClampNeg .null, vm := .none } : Cell) = H1
  have z1 : H1.size = H.size + 1 := by rw [← hH1, Array.size_push]
  have e1 : H1[H.size]? = some (arrV cB k.toNatClampNeg (fun _ => .null)) := by rw [← hH1, Array.getElem?_push_size, ← arrV_new]
  have o1 : ∀ q : Nat, q < H.size → H1[q]? = H[q]? := fun q hq => by rw [← hH1, Array.getElem?_push, if_neg (Nat.ne_of_lt hq)]
  rw [hz]
  refine kk H1 (by rw [z1, hz]; rfl) ⟨hw.1.push hz _ (show H1[K.B + n]? = some (vp_cell cB _) by rw [vp_cell_q, ← hz]; exact e1) z1 o1, ?_⟩
  exact ⟨Nat.le_trans hw.2.1 (by omega), fun x h1 h2 => (o1 x (Nat.lt_of_lt_of_le h1 hw.2.1)).trans (hw.2.2.1 x h1 h2), hw.2.2.2⟩
theorem br_iald (C0 : CallFix p m c cc nL s args bw_G own) (hb : bK K s) (hw : bS K.D K.B n ct s H locs) {r : Nat} (hr : r < n) {N : Nat} {f : Nat → Int32} (he : ct r = .inl (K.cy 1, N, .inl f)) {i : Int32} (hin : vp_in i N) (hdg : decode cc pc = .ok (.iaload, 1))
    (kk : W p l e R s m args below meth c H locs cells slots Q (F0 m (pc + 1) ls (.int (f i.toNatClampNeg) :: rest))) : W p l e R s m args below meth c H locs cells slots Q (F0 m pc ls (.int i :: .ref (K.B + r) :: rest)) :=
  va_iald C0.1 C0.2.1 hb.1 (hw.1.sing hr he) 0 1 rfl rfl hin hdg kk
theorem br_cald (C0 : CallFix p m c cc nL s args bw_G own) (hb : bK K s) (hw : bS K.D K.B n ct s H locs) {r : Nat} (hr : r < n) {N : Nat} {f : Nat → Int32} (he : ct r = .inl (K.cy 0, N, .inl f)) {i : Int32} (hin : vp_in i N) (hdg : decode cc pc = .ok (.caload, 1))
    (kk : W p l e R s m args below meth c H locs cells slots Q (F0 m (pc + 1) ls (.int (f i.toNatClampNeg) :: rest))) : W p l e R s m args below meth c H locs cells slots Q (F0 m pc ls (.int i :: .ref (K.B + r) :: rest)) :=
  va_cald C0.1 C0.2.1 hb.1 (hw.1.sing hr he) 0 0 rfl rfl hin hdg kk
theorem br_zald (C0 : CallFix p m c cc nL s args bw_G own) (hb : bK K s) (hw : bS K.D K.B n ct s H locs) {r : Nat} (hr : r < n) {N : Nat} {f : Nat → Int32} (he : ct r = .inl (K.cy 3, N, .inl f)) {i : Int32} (hin : vp_in i N) (hdg : decode cc pc = .ok (.baload, 1))
    (kk : W p l e R s m args below meth c H locs cells slots Q (F0 m (pc + 1) ls (.int (f i.toNatClampNeg) :: rest))) : W p l e R s m args below meth c H locs cells slots Q (F0 m pc ls (.int i :: .ref (K.B + r) :: rest)) :=
  va_zald C0.1 C0.2.1 hb.1 (hw.1.sing hr he) 0 3 rfl rfl hin hdg kk
theorem br_lald (C0 : CallFix p m c cc nL s args bw_G own) (hb : bK K s) (hw : bS K.D K.B n ct s H locs) {r : Nat} (hr : r < n) {N : Nat} {f : Nat → Int64} (he : ct r = .inl (K.cy 2, N, .inr (.inl f))) {i : Int32} (hin : vp_in i N) (hdg : decode cc pc = .ok (.laload, 1))
    (kk : W p l e R s m args below meth c H locs cells slots Q (F0 m (pc + 1) ls (.long (f i.toNatClampNeg) :: rest))) : W p l e R s m args below meth c H locs cells slots Q (F0 m pc ls (.int i :: .ref (K.B + r) :: rest)) :=
  va_lald C0.1 C0.2.1 hb.1 (hw.1.sing hr he) 0 2 rfl rfl hin hdg kk
theorem br_aald (C0 : CallFix p m c cc nL s args bw_G own) (hb : bK K s) (hw : bS K.D K.B n ct s H locs) {r : Nat} (hr : r < n) (t0 : Nat) {cA : ClassId} {C : String} (ht : (b_tys K.cy)[t0]? = some (cA, .object C)) {N : Nat} {f : Nat → Option Nat} (he : ct r = .inl (cA, N, .inr (.inr (.inr (.inr f))))) {i : Int32} (hin : vp_in i N) {v : Value} (hv : va_rf (f i.toNatClampNeg) = v) (hdg : decode cc pc = .ok (.aaload, 1))
    (kk : W p l e R s m args below meth c H locs cells slots Q (F0 m (pc + 1) ls (v :: rest))) : W p l e R s m args below meth c H locs cells slots Q (F0 m pc ls (.int i :: .ref (K.B + r) :: rest)) := by
  subst hv
  exact va_aldq C0.1 C0.2.1 hb.1 (hw.1.sing hr he) 0 t0 rfl ht hin hdg kk
theorem br_alen (C0 : CallFix p m c cc nL s args bw_G own) (hb : bK K s) (hw : bS K.D K.B n ct s H locs) {r : Nat} (hr : r < n) (t0 : Nat) {cA : ClassId} {ty : FieldType} (ht : (b_tys K.cy)[t0]? = some (cA, ty)) {x : vp_A} (he : ct r = .inl (cA, x)) {v : Int32} (hv : Int32.ofNat x.1 = v) (hdg : decode cc pc = .ok (.arraylength, 1))
    (kk : W p l e R s m args below meth c H locs cells slots Q (F0 m (pc + 1) ls (.int v :: rest))) : W p l e R s m args below meth c H locs cells slots Q (F0 m pc ls (.ref (K.B + r) :: rest)) :=
  va_alen C0.1 C0.2.1 hb.1 (hw.1.sing hr he) 0 t0 rfl ht hv hdg kk
end BR
