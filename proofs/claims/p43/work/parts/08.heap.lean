/-! A step that reads or writes a cell. -/
section BHEAP
variable {p : Program} {l : Launch} {e : Env} {R : Room} {s : State} {m : MethodId} {args : Array Value} {below : List Frame} {meth : Method} {c : Code} {H : Heap} {locs : List Loc} {cells slots : Nat} {Q : State → Prop}
variable {cc : ByteArray} {pc nL : Nat} {own : String} {ls : Array Slot} {K : KE} {E : Nat → bC} {lv : List (Nat × bV)} {rest : List bV} {w : bW}
theorem bs_get (Cls : bClsOk) (C0 : CallFix p m c cc nL s args bw_G own) (hb : bK K s) (hw : bS K.D K.B w.1.length (bct K w.1) s H locs) (hz : w.2 = 0 → H.size = K.B + w.1.length) (hl : lv_has ls nL (bvl K lv)) {r ci b ix : Nat} {fs : List bV} {v : bV} (hr : w.1[r]? = some (.inl (ci, fs))) (hv : fs[b]? = some v) (h2 : 2 ≤ ci) {C : String} {T : u_T} {N : Nat} (hc : vwCl[ci]? = some (C, T, N)) (hbN : b < N) (hlink : Jvm.Cond.fieldLink own ix (T b).1 (T b).2.1 (T b).2.2.1 ∈ bw_G)
    (hd : decode cc pc = .ok (.getfield ix, 3)) (k : bCont p l e R s m args below meth c cells slots Q K nL w (pc + 3, lv, v :: rest, w)) : W p l e R s m args below meth c H locs cells slots Q (F0 m pc ls ((.inr (.inr (.inl r)) :: rest : List bV).map (bvv K))) := by
  obtain ⟨c1, c2, c3, c4, c5⟩ := Cls ci C T N hc h2
  exact br_get C0 hb hw (List.getElem?_eq_some_iff.mp hr).1 (bct_at hr) hc c3 b hbN hlink (v := bvv K v) (by rw [List.getElem?_map, hv]; rfl) hd (bp hw hz hl k)
theorem bs_put (Cls : bClsOk) (C0 : CallFix p m c cc nL s args bw_G own) (hb : bK K s) (hw : bS K.D K.B w.1.length (bct K w.1) s H locs) (hz : w.2 = 0 → H.size = K.B + w.1.length) (hl : lv_has ls nL (bvl K lv)) {r ci b ix : Nat} {fs : List bV} {v : bV} (hr : w.1[r]? = some (.inl (ci, fs))) (hbf : b < fs.length) (hok : bokf ((bty ci).getD b .byte) v = true) (h2 : 2 ≤ ci) {C : String} {T : u_T} {N : Nat} (hc : vwCl[ci]? = some (C, T, N)) (hbN : b < N) (hlink : Jvm.Cond.fieldLink own ix (T b).1 (T b).2.1 (T b).2.2.1 ∈ bw_G) (hfin : (T b).2.2.2 = false ∨ ((T b).2.2.2 = true ∧ meth.name = "<init>" ∧ (T b).1 = own))
    (hd : decode cc pc = .ok (.putfield ix, 3)) (k : bCont p l e R s m args below meth c cells slots Q K nL w (pc + 3, lv, rest, (w.1.set r (.inl (ci, fs.set b v)), w.2))) : W p l e R s m args below meth c H locs cells slots Q (F0 m pc ls ((v :: .inr (.inr (.inl r)) :: rest : List bV).map (bvv K))) := by
  obtain ⟨c1, c2, c3, c4, c5⟩ := Cls ci C T N hc h2
  have hr0 : r < w.1.length := (List.getElem?_eq_some_iff.mp hr).1
  refine br_put C0 hb hw hr0 (bct_at hr) hc c3 (fun k => (bty ci).getD k .byte) c2 c4 b hbN hlink hfin (v := bvv K v) (bokf_v hok).1 (bokf_v hok).2 (by rw [List.length_map]; exact hbf) hd fun H1 locs1 z1 hw1 => ?_
  refine k H1 locs1 ls cells slots ?_ (fun h => by rw [z1]; exact (hz h).trans (by simp)) hl (by simp) (by simp only []; rw [bsz_set hr (by simp [bcs])])
  have h9 : bw_up (bct K w.1) r (.inr (ci, (fs.map (bvv K)).set b (bvv K v))) = bct K (w.1.set r (.inl (ci, fs.set b v))) := by
    rw [bct_set hr0]
    show _ = bw_up _ r (.inr (ci, (fs.set b v).map (bvv K)))
    rw [List.map_set]
  simp only [List.length_set]
  rw [← h9]
  exact hw1
theorem bs_new (Cls : bClsOk) (C0 : CallFix p m c cc nL s args bw_G own) (hb : bK K s) (hw : bS K.D K.B w.1.length (bct K w.1) s H locs) (hz : w.2 = 0 → H.size = K.B + w.1.length) (hl : lv_has ls nL (bvl K lv)) {ci ix : Nat} (h0 : w.2 = 0) (h2 : 2 ≤ ci) {C : String} {T : u_T} {N : Nat} (hc : vwCl[ci]? = some (C, T, N)) (hcl : Jvm.Cond.classLink own ix C ∈ bw_G) (hinst : Jvm.Cond.instantiable C N ∈ bw_G) (hini : Jvm.Cond.initialized C ∈ bw_G)
    (hcells : cells + 1 ≤ R.cells) (hslots : slots + (bty ci).length ≤ R.slots)
    (hd : decode cc pc = .ok (.new ix, 3)) (k : bCont p l e R s m args below meth c cells slots Q K nL w (pc + 3, lv, .inr (.inr (.inl w.1.length)) :: rest, (w.1 ++ [.inl (ci, (bty ci).map bdf)], w.2))) : W p l e R s m args below meth c H locs cells slots Q (F0 m pc ls (rest.map (bvv K))) := by
  obtain ⟨c1, c2, c3, c4, c5⟩ := Cls ci C T N hc h2
  refine br_new C0 hb hb.2.2.2.2.2.2.2.2.1 hw (hz h0) hc c3 (fun k => (bty ci).getD k .byte) c2 hcl hinst hini (fs := ((bty ci).map bdf).map (bvv K)) (fun j hj => ?_) hcells (by rw [c1]; exact hslots) hd fun H1 z1 hw1 => ?_
  · rw [bdf_v (K := K) (c5 j hj)]
    show _ = List.getD _ _ _
    have hj' : j < (bty ci).length := by rw [← c1]; exact hj
    simp [List.getD_eq_getElem?_getD, hj']
  · refine k H1 locs ls (cells + 1) (slots + N) ?_ (fun _ => by rw [z1]; simp) hl (by simp; omega) (by simp only []; rw [bsz_push, c1]; simp [bcs]; omega)
    simp only [List.length_append, List.length_cons, List.length_nil]
    rw [bct_push]
    exact hw1
theorem bs_st (hw : bS K.D K.B w.1.length (bct K w.1) s H locs) (hz : w.2 = 0 → H.size = K.B + w.1.length) (hl : lv_has ls nL (bvl K lv)) {r j pc' : Nat} {c1 c0 : bC} (hr : w.1[r]? = some c0) (hcs : bcs c1 = bcs c0) {H1 : Heap} (h1 : va_at K.D vwCl (K.B + r, bce K c1) H1) (z : H1.size = H.size) (hq : ∀ q : Nat, q ≠ K.B + r → H1[q]? = H[q]?)
    (k : bCont p l e R s m args below meth c cells slots Q K nL w (pc', lv, rest, (w.1.set r c1, w.2))) : W p l e R s m args below meth c H1 (locs ++ [⟨K.B + r, j⟩]) cells slots Q (F0 m pc' ls (rest.map (bvv K))) := by
  have hr0 : r < w.1.length := (List.getElem?_eq_some_iff.mp hr).1
  exact k H1 _ ls cells slots (hw.set hr0 h1 z hq) (fun h => by rw [z]; exact (hz h).trans (by simp)) hl (by simp) (by simp only []; rw [bsz_set hr hcs])
theorem b_upi {xs : List Int32} {i : Nat} {y : Int32} (h : i < xs.length) : updV (fun j => Value.int (xs.getD j 0)) i (.int y) = fun j => Value.int ((xs.set i y).getD j 0) := by
  funext j
  rw [b_getD_set h]
  unfold updV
  by_cases hj : j = i
  · rw [if_pos hj, if_pos hj]
  · rw [if_neg hj, if_neg hj]
theorem b_upl {xs : List Int64} {i : Nat} {y : Int64} (h : i < xs.length) : updV (fun j => Value.long (xs.getD j 0)) i (.long y) = fun j => Value.long ((xs.set i y).getD j 0) := by
  funext j
  rw [b_getD_set h]
  unfold updV
  by_cases hj : j = i
  · rw [if_pos hj, if_pos hj]
  · rw [if_neg hj, if_neg hj]
theorem b_upq {B : Nat} {xs : List (Option Nat)} {i y : Nat} (h : i < xs.length) : updV (fun j => va_rf ((xs.getD j none).map (fun k => B + k))) i (.ref (B + y)) = fun j => va_rf (((xs.set i (some y)).getD j none).map (fun k => B + k)) := by
  funext j
  rw [b_getD_set h]
  unfold updV
  by_cases hj : j = i
  · rw [if_pos hj, if_pos hj]; rfl
  · rw [if_neg hj, if_neg hj]
theorem b_nar (t : FieldType) (x : Int32) (h : t = .int ∨ t = .char ∨ t = .boolean) : narrow t (.int x) = .int (vp_nar t x) := by
  rcases h with rfl | rfl | rfl <;> rfl
theorem bs_ist (C0 : CallFix p m c cc nL s args bw_G own) (hb : bK K s) (hw : bS K.D K.B w.1.length (bct K w.1) s H locs) (hz : w.2 = 0 → H.size = K.B + w.1.length) (hl : lv_has ls nL (bvl K lv)) {r t : Nat} {xs : List Int32} {i x : Int32} (hr : w.1[r]? = some (.inr (.inl (t, xs)))) (hi : bin i xs.length = true)
    (hd : (t = 1 ∧ decode cc pc = .ok (.iastore, 1)) ∨ (t = 0 ∧ decode cc pc = .ok (.castore, 1)) ∨ (t = 3 ∧ decode cc pc = .ok (.bastore, 1))) (k : bCont p l e R s m args below meth c cells slots Q K nL w (pc + 1, lv, rest, (w.1.set r (.inr (.inl (t, xs.set i.toNatClampNeg (vp_nar (if t = 0 then .char else if t = 3 then .boolean else .int) x)))), w.2))) : W p l e R s m args below meth c H locs cells slots Q (F0 m pc ls ((.inl x :: .inl i :: .inr (.inr (.inl r)) :: rest : List bV).map (bvv K))) := by
  obtain ⟨hx, hcb, hml, hown, hts⟩ := C0
  have hcell : H[K.B + r]? = some (arrV (K.cy t) xs.length (fun j => .int (xs.getD j 0))) := bat hw.1 hr
  have hin : ¬ (i < 0 ∨ (arrV (K.cy t) xs.length (fun j => Value.int (xs.getD j 0))).slots.size ≤ i.toNatClampNeg) := by rw [arrV_size]; exact (bin_of hi).1
  have hlt := (bin_of hi).2
  have fin : ∀ (H1 : Heap) (y : Int32), H1[K.B + r]? = some ((arrV (K.cy t) xs.length (fun j => .int (xs.getD j 0))).setSlot i.toNatClampNeg (.int y)) → va_at K.D vwCl (K.B + r, bce K (.inr (.inl (t, xs.set i.toNatClampNeg y)))) H1 := by
    intro H1 y e1
    show H1[K.B + r]? = some (arrV (K.cy t) (xs.set i.toNatClampNeg y).length (fun j => .int ((xs.set i.toNatClampNeg y).getD j 0)))
    rw [e1, arrV_store, b_upi hlt, List.length_set]
  rcases hd with ⟨rfl, hd⟩ | ⟨rfl, hd⟩ | ⟨rfl, hd⟩
  · exact W.iast hx hcb hcell ((hb.1.2 1 _ rfl).1 xs.length (fun j => .int (xs.getD j 0))) (fun q => by cases q) hin rfl rfl hd fun H1 e z oq => bs_st hw hz hl hr (by simp [bcs]) (fin H1 _ e) z oq k
  · exact W.cast hx hcb hcell ((hb.1.2 0 _ rfl).1 xs.length (fun j => .int (xs.getD j 0))) (fun q => by cases q) hin rfl rfl hd fun H1 e z oq => bs_st hw hz hl hr (by simp [bcs]) (fin H1 _ (by rw [e]; rfl)) z oq k
  · exact W.zast hx hcb hcell ((hb.1.2 3 _ rfl).1 xs.length (fun j => .int (xs.getD j 0))) (fun q => by cases q) hin rfl rfl hd fun H1 e z oq => bs_st hw hz hl hr (by simp [bcs]) (fin H1 _ (by rw [e]; rfl)) z oq k
theorem bs_lst (C0 : CallFix p m c cc nL s args bw_G own) (hb : bK K s) (hw : bS K.D K.B w.1.length (bct K w.1) s H locs) (hz : w.2 = 0 → H.size = K.B + w.1.length) (hl : lv_has ls nL (bvl K lv)) {r : Nat} {xs : List Int64} {i : Int32} {x : Int64} (hr : w.1[r]? = some (.inr (.inr (.inl xs)))) (hi : bin i xs.length = true)
    (hd : decode cc pc = .ok (.lastore, 1)) (k : bCont p l e R s m args below meth c cells slots Q K nL w (pc + 1, lv, rest, (w.1.set r (.inr (.inr (.inl (xs.set i.toNatClampNeg x)))), w.2))) : W p l e R s m args below meth c H locs cells slots Q (F0 m pc ls ((.inr (.inl x) :: .inl i :: .inr (.inr (.inl r)) :: rest : List bV).map (bvv K))) := by
  obtain ⟨hx, hcb, hml, hown, hts⟩ := C0
  have hcell : H[K.B + r]? = some (arrV (K.cy 2) xs.length (fun j => .long (xs.getD j 0))) := bat hw.1 hr
  have hlt := (bin_of hi).2
  refine W.last hx hcb hcell ((hb.1.2 2 _ rfl).1 xs.length (fun j => .long (xs.getD j 0))) (fun q => by cases q) (by rw [arrV_size]; exact (bin_of hi).1) rfl rfl hd fun H1 e z oq => bs_st hw hz hl hr (by simp [bcs]) ?_ z oq k
  show H1[K.B + r]? = some (arrV (K.cy 2) (xs.set i.toNatClampNeg x).length (fun j => .long ((xs.set i.toNatClampNeg x).getD j 0)))
  rw [e, arrV_store, b_upl hlt, List.length_set]
theorem bs_ast (C0 : CallFix p m c cc nL s args bw_G own) (hb : bK K s) (hw : bS K.D K.B w.1.length (bct K w.1) s H locs) (hz : w.2 = 0 → H.size = K.B + w.1.length) (hl : lv_has ls nL (bvl K lv)) {r v t ci : Nat} {xs : List (Option Nat)} {fs : List bV} {i : Int32} (hr : w.1[r]? = some (.inr (.inr (.inr (t, xs))))) (hv : w.1[v]? = some (.inl (ci, fs))) (ht : t = 4 ∨ t = 5) (hc : ci = bcls t) (hi : bin i xs.length = true)
    (hd : decode cc pc = .ok (.aastore, 1)) (k : bCont p l e R s m args below meth c cells slots Q K nL w (pc + 1, lv, rest, (w.1.set r (.inr (.inr (.inr (t, xs.set i.toNatClampNeg (some v))))), w.2))) : W p l e R s m args below meth c H locs cells slots Q (F0 m pc ls ((.inr (.inr (.inl v)) :: .inl i :: .inr (.inr (.inl r)) :: rest : List bV).map (bvv K))) := by
  obtain ⟨hx, hcb, hml, hown, hts⟩ := C0
  have hcell : H[K.B + r]? = some (arrV (K.cy t) xs.length (fun j => va_rf ((xs.getD j none).map (fun k => K.B + k)))) := bat hw.1 hr
  have hlt := (bin_of hi).2
  have h0 : ¬ i < 0 := fun q => (bin_of hi).1 (Or.inl q)
  obtain ⟨r', hr', cellV, g1, g2, g3, -⟩ := bat hw.1 hv
  have ht' : ∃ q : vw_C, vwCl[ci]? = some q ∧ (b_tys K.cy)[t]? = some (K.cy t, .object q.1) := by
    subst hc
    rcases ht with rfl | rfl
    · exact ⟨_, rfl, rfl⟩
    · exact ⟨_, rfl, rfl⟩
  obtain ⟨q, hq1, hq2⟩ := ht'
  have hcls := (hb.1.1 ci q hq1).2
  obtain ⟨kA, comp, k1, k2, k3, -⟩ := (hb.1.2 t _ hq2).2
  have hcomp : comp = K.D.1 ci := Option.some.inj (k3.symm.trans hcls.1)
  subst hcomp
  obtain ⟨kC, hkC, -⟩ := hcls.2
  refine W.aast hx hcb hcell (fun q h => by cases h) (fun h => by cases h) k1 k2 rfl hkC ⟨h0, by show _ < (arrV _ _ _).slots.size; rw [arrV_size]; exact hlt⟩ g1 (fun q h => by rw [g3] at h; cases h) (by rw [g2]; exact hkC) (by rw [g2]; exact va_assign hcls) rfl rfl hd fun H1 e z oq => bs_st hw hz hl hr (by simp [bcs]) ?_ z oq k
  show H1[K.B + r]? = some (arrV (K.cy t) (xs.set i.toNatClampNeg (some v)).length (fun j => va_rf (((xs.set i.toNatClampNeg (some v)).getD j none).map (fun k => K.B + k))))
  rw [e, arrV_store, b_upq hlt, List.length_set]
end BHEAP
