/-! Steps that make arrays, read them, and the rest. -/
section BMORE
variable {p : Program} {l : Launch} {e : Env} {R : Room} {s : State} {m : MethodId} {args : Array Value} {below : List Frame} {meth : Method} {c : Code} {H : Heap} {locs : List Loc} {cells slots : Nat} {Q : State → Prop}
variable {cc : ByteArray} {pc nL : Nat} {own : String} {ls : Array Slot} {K : KE} {E : Nat → bC} {lv : List (Nat × bV)} {st rest : List bV} {w : bW}
theorem b_rep {α : Type} (n j : Nat) (d : α) : (List.replicate n d).getD j d = d := by
  simp only [List.getD_eq_getElem?_getD, List.getElem?_replicate]
  by_cases h : j < n
  · rw [if_pos h]; rfl
  · rw [if_neg h]; rfl
theorem bs_nw1 (C0 : CallFix p m c cc nL s args bw_G own) (hb : bK K s) (hw : bS K.D K.B w.1.length (bct K w.1) s H locs) (hz : w.2 = 0 → H.size = K.B + w.1.length) (hl : lv_has ls nL (bvl K lv)) {c1 : bC} {n : Nat} (hcs : bcs c1 = n) {H1 : Heap} {pc' : Nat} (z1 : H1.size = K.B + (w.1.length + 1)) (hw1 : bS K.D K.B (w.1.length + 1) (bw_up (bct K w.1) w.1.length (bce K c1)) s H1 locs)
    (k : bCont p l e R s m args below meth c cells slots Q K nL w (pc', lv, .inr (.inr (.inl w.1.length)) :: rest, (w.1 ++ [c1], w.2))) : W p l e R s m args below meth c H1 locs (cells + 1) (slots + n) Q (F0 m pc' ls (.ref (K.B + w.1.length) :: rest.map (bvv K))) := by
  refine k H1 locs ls (cells + 1) (slots + n) ?_ (fun _ => by rw [z1]; simp) hl (by simp; omega) (by simp only []; rw [bsz_push, hcs]; omega)
  simp only [List.length_append, List.length_cons, List.length_nil]
  rw [bct_push]
  exact hw1
theorem bs_nwa (C0 : CallFix p m c cc nL s args bw_G own) (hb : bK K s) (hw : bS K.D K.B w.1.length (bct K w.1) s H locs) (hz : w.2 = 0 → H.size = K.B + w.1.length) (hl : lv_has ls nL (bvl K lv)) (h0 : w.2 = 0) {n : Int32} {t : Nat} {ty : ArrayType} (hn : ¬ n < 0) (hN : n.toNatClampNeg * 8 ≤ 536870912) (harr : Jvm.Cond.arrayClass (newarray.typeOf ty) ∈ bw_G) (hty : (ty = .char ∧ t = 0) ∨ (ty = .int ∧ t = 1) ∨ (ty = .long ∧ t = 2) ∨ (ty = .boolean ∧ t = 3))
    (hcells : cells + 1 ≤ R.cells) (hslots : slots + n.toNatClampNeg ≤ R.slots)
    (hd : decode cc pc = .ok (.newarray ty, 2)) (k : bCont p l e R s m args below meth c cells slots Q K nL w (pc + 2, lv, .inr (.inr (.inl w.1.length)) :: rest, (w.1 ++ [if t = 2 then .inr (.inr (.inl (List.replicate n.toNatClampNeg 0))) else .inr (.inl (t, List.replicate n.toNatClampNeg 0))], w.2))) : W p l e R s m args below meth c H locs cells slots Q (F0 m pc ls ((.inl n :: rest : List bV).map (bvv K))) := by
  have hf : (fun j => (List.replicate n.toNatClampNeg (0 : Int32)).getD j 0) = fun _ => (0 : Int32) := by funext j; exact b_rep _ _ _
  have hg : (fun j => (List.replicate n.toNatClampNeg (0 : Int64)).getD j 0) = fun _ => (0 : Int64) := by funext j; exact b_rep _ _ _
  have e1 : ∀ t : Nat, bce K (.inr (.inl (t, List.replicate n.toNatClampNeg 0))) = .inl (K.cy t, n.toNatClampNeg, .inl (fun _ => 0)) := by
    intro t
    show Sum.inl (K.cy t, (List.replicate n.toNatClampNeg (0 : Int32)).length, Sum.inl _) = _
    rw [hf, List.length_replicate]
  have e2 : bce K (.inr (.inr (.inl (List.replicate n.toNatClampNeg 0)))) = .inl (K.cy 2, n.toNatClampNeg, .inr (.inl (fun _ => 0))) := by
    show Sum.inl (K.cy 2, (List.replicate n.toNatClampNeg (0 : Int64)).length, Sum.inr (Sum.inl _)) = _
    rw [hg, List.length_replicate]
  rcases hty with ⟨rfl, rfl⟩ | ⟨rfl, rfl⟩ | ⟨rfl, rfl⟩ | ⟨rfl, rfl⟩
  · exact br_newa C0 hb hw (hz h0) (ty := .char) rfl harr 0 rfl (fun U cB h => h) (a0 := (n.toNatClampNeg, .inl (fun _ => 0))) rfl hn rfl (by show _ * 2 ≤ _; omega) hcells hslots hd fun H1 z1 hw1 => bs_nw1 C0 hb hw hz hl (by simp [bcs]) z1 (by rw [if_neg (by decide), e1]; exact hw1) k
  · exact br_newa C0 hb hw (hz h0) (ty := .int) rfl harr 1 rfl (fun U cB h => h) (a0 := (n.toNatClampNeg, .inl (fun _ => 0))) rfl hn rfl (by show _ * 4 ≤ _; omega) hcells hslots hd fun H1 z1 hw1 => bs_nw1 C0 hb hw hz hl (by simp [bcs]) z1 (by rw [if_neg (by decide), e1]; exact hw1) k
  · exact br_newa C0 hb hw (hz h0) (ty := .long) rfl harr 2 rfl (fun U cB h => h) (a0 := (n.toNatClampNeg, .inr (.inl (fun _ => 0)))) rfl hn rfl (by show _ * 8 ≤ _; omega) hcells hslots hd fun H1 z1 hw1 => bs_nw1 C0 hb hw hz hl (by simp [bcs]) z1 (by rw [if_pos rfl, e2]; exact hw1) k
  · exact br_newa C0 hb hw (hz h0) (ty := .boolean) rfl harr 3 rfl (fun U cB h => h) (a0 := (n.toNatClampNeg, .inl (fun _ => 0))) rfl hn rfl (by show _ * 1 ≤ _; omega) hcells hslots hd fun H1 z1 hw1 => bs_nw1 C0 hb hw hz hl (by simp [bcs]) z1 (by rw [if_neg (by decide), e1]; exact hw1) k
theorem bs_nwq (C0 : CallFix p m c cc nL s args bw_G own) (hb : bK K s) (hw : bS K.D K.B w.1.length (bct K w.1) s H locs) (hz : w.2 = 0 → H.size = K.B + w.1.length) (hl : lv_has ls nL (bvl K lv)) (h0 : w.2 = 0) {n : Int32} {t ix : Nat} (hn : ¬ n < 0) (hN : n.toNatClampNeg * 8 ≤ 536870912) (hty : (Jvm.Cond.classLink own ix "Boxedvalue$Box" ∈ bw_G ∧ t = 4) ∨ (Jvm.Cond.classLink own ix "Boxedvalue$Formula" ∈ bw_G ∧ t = 5))
    (hcells : cells + 1 ≤ R.cells) (hslots : slots + n.toNatClampNeg ≤ R.slots)
    (hd : decode cc pc = .ok (.anewarray ix, 3)) (k : bCont p l e R s m args below meth c cells slots Q K nL w (pc + 3, lv, .inr (.inr (.inl w.1.length)) :: rest, (w.1 ++ [.inr (.inr (.inr (t, List.replicate n.toNatClampNeg none)))], w.2))) : W p l e R s m args below meth c H locs cells slots Q (F0 m pc ls ((.inl n :: rest : List bV).map (bvv K))) := by
  have e1 : ∀ t : Nat, bce K (.inr (.inr (.inr (t, List.replicate n.toNatClampNeg none)))) = .inl (K.cy t, n.toNatClampNeg, .inr (.inr (.inr (.inr (fun _ => none))))) := by
    intro t
    show Sum.inl (K.cy t, (List.replicate n.toNatClampNeg (none : Option Nat)).length, Sum.inr (Sum.inr (Sum.inr (Sum.inr (fun j => ((List.replicate n.toNatClampNeg none).getD j none).map (fun k => K.B + k)))))) = _
    rw [List.length_replicate]
    have h9 : (fun j => ((List.replicate n.toNatClampNeg (none : Option Nat)).getD j none).map (fun k => K.B + k)) = fun _ => none := by
      funext j; rw [b_rep]; rfl
    rw [h9]
  rcases hty with ⟨h1, rfl⟩ | ⟨h1, rfl⟩
  · exact br_newq C0 hb hw (hz h0) h1 hb.2.2.2.2.2.1 4 rfl hn rfl (by omega) hcells hslots hd fun H1 z1 hw1 => bs_nw1 C0 hb hw hz hl (by simp [bcs]) z1 (by rw [e1]; exact hw1) k
  · exact br_newq C0 hb hw (hz h0) h1 hb.2.2.2.2.2.2.1 5 rfl hn rfl (by omega) hcells hslots hd fun H1 z1 hw1 => bs_nw1 C0 hb hw hz hl (by simp [bcs]) z1 (by rw [e1]; exact hw1) k
theorem bld_inv {t : Nat} {q : bF} (h : bld E pc t lv st w = some q) : ∃ (i : Int32) (a v : bV) (r : List bV), st = .inl i :: a :: r ∧ bload i t (barr E w a) = some v ∧ (pc + 1, lv, v :: r, w) = q := by
  unfold bld at h
  split at h
  · split at h
    · rename_i v hv
      exact ⟨_, _, v, _, rfl, hv, Option.some.inj h⟩
    · cases h
  · cases h
theorem bload_inv {i : Int32} {t : Nat} {co : Option bC} {v : bV} (h : bload i t co = some v) : (∃ xs : List Int32, co = some (.inr (.inl (t, xs))) ∧ (t = 0 ∨ t = 1 ∨ t = 3) ∧ bin i xs.length = true ∧ v = .inl (xs.getD i.toNatClampNeg 0)) ∨ (∃ xs : List Int64, t = 2 ∧ co = some (.inr (.inr (.inl xs))) ∧ bin i xs.length = true ∧ v = .inr (.inl (xs.getD i.toNatClampNeg 0))) ∨
    (∃ (t' : Nat) (xs : List (Option Nat)), t = 4 ∧ co = some (.inr (.inr (.inr (t', xs)))) ∧ (t' = 4 ∨ t' = 5) ∧ bin i xs.length = true ∧ bvv K v = va_rf ((xs.getD i.toNatClampNeg none).map (fun k => K.B + k))) := by
  unfold bload at h
  split at h
  · split at h
    · rename_i h1
      obtain ⟨rfl, h0, h1⟩ := h1
      exact Or.inl ⟨_, rfl, h0, h1, (Option.some.inj h).symm⟩
    · cases h
  · split at h
    · rename_i h1
      exact Or.inr (Or.inl ⟨_, h1.1, rfl, h1.2, (Option.some.inj h).symm⟩)
    · cases h
  · split at h
    · rename_i t' xs h1
      refine Or.inr (Or.inr ⟨t', xs, h1.1, rfl, h1.2.1, h1.2.2, ?_⟩)
      have h2 := Option.some.inj h
      rw [← h2]
      cases xs.getD i.toNatClampNeg none <;> rfl
    · cases h
  · cases h
theorem barr_inv {a : bV} {c1 : bC} (h : barr E w a = some c1) : (∃ r : Nat, a = .inr (.inr (.inl r)) ∧ w.1[r]? = some c1) ∨ ∃ j : Nat, a = .inr (.inr (.inr (some j))) ∧ E j = c1 := by
  unfold barr at h
  split at h
  · exact Or.inl ⟨_, rfl, h⟩
  · exact Or.inr ⟨_, rfl, Option.some.inj h⟩
  · cases h
theorem bs_load (hE : bEok K E) (C0 : CallFix p m c cc nL s args bw_G own) (hb : bK K s) (hw : bS K.D K.B w.1.length (bct K w.1) s H locs) (hz : w.2 = 0 → H.size = K.B + w.1.length) (hl : lv_has ls nL (bvl K lv)) {t : Nat} {q : bF} (h : bld E pc t lv st w = some q)
    (hd : (t = 1 ∧ decode cc pc = .ok (.iaload, 1)) ∨ (t = 0 ∧ decode cc pc = .ok (.caload, 1)) ∨ (t = 3 ∧ decode cc pc = .ok (.baload, 1)) ∨ (t = 2 ∧ decode cc pc = .ok (.laload, 1)) ∨ (t = 4 ∧ decode cc pc = .ok (.aaload, 1))) (k : bCont p l e R s m args below meth c cells slots Q K nL w q) : W p l e R s m args below meth c H locs cells slots Q (F0 m pc ls (st.map (bvv K))) := by
  obtain ⟨i, a, v, r, rfl, hv, rfl⟩ := bld_inv h
  have kk := bp hw hz hl k
  cases hco : barr E w a with
  | none => rw [hco] at hv; cases hv
  | some c1 =>
    rw [hco] at hv
    rcases barr_inv hco with ⟨r0, rfl, hr⟩ | ⟨j, rfl, hj⟩
    · have hr0 : r0 < w.1.length := (List.getElem?_eq_some_iff.mp hr).1
      have he := bct_at (K := K) hr
      rcases bload_inv (K := K) hv with ⟨xs, h1, h0, h2, rfl⟩ | ⟨xs, rfl, h1, h2, rfl⟩ | ⟨t', xs, rfl, h1, h0, h2, h3⟩
      · cases h1
        rcases hd with ⟨rfl, hd⟩ | ⟨rfl, hd⟩ | ⟨rfl, hd⟩ | ⟨rfl, hd⟩ | ⟨rfl, hd⟩
        · exact br_iald C0 hb hw hr0 (N := xs.length) (f := fun j => xs.getD j 0) he (bin_of h2).1 hd kk
        · exact br_cald C0 hb hw hr0 (N := xs.length) (f := fun j => xs.getD j 0) he (bin_of h2).1 hd kk
        · exact br_zald C0 hb hw hr0 (N := xs.length) (f := fun j => xs.getD j 0) he (bin_of h2).1 hd kk
        · omega
        · omega
      · cases h1
        rcases hd with ⟨h9, hd⟩ | ⟨h9, hd⟩ | ⟨h9, hd⟩ | ⟨-, hd⟩ | ⟨h9, hd⟩ <;> first | omega | exact br_lald C0 hb hw hr0 (N := xs.length) (f := fun j => xs.getD j 0) he (bin_of h2).1 hd kk
      · cases h1
        have ht : ∃ C : String, (b_tys K.cy)[t']? = some (K.cy t', .object C) := by
          rcases h0 with rfl | rfl
          · exact ⟨_, rfl⟩
          · exact ⟨_, rfl⟩
        obtain ⟨C, ht⟩ := ht
        rcases hd with ⟨h9, hd⟩ | ⟨h9, hd⟩ | ⟨h9, hd⟩ | ⟨h9, hd⟩ | ⟨-, hd⟩ <;> first | omega | exact br_aald C0 hb hw hr0 t' ht (N := xs.length) (f := fun j => (xs.getD j none).map (fun k => K.B + k)) he (bin_of h2).1 h3.symm hd kk
    · obtain ⟨e1, e2, e3, e4⟩ := hE j
      rcases bload_inv (K := K) hv with ⟨xs, h1, h0, h2, rfl⟩ | ⟨xs, rfl, h1, h2, rfl⟩ | ⟨t', xs, rfl, h1, h0, h2, h3⟩
      · cases h1
        obtain ⟨rfl, f, nm, hj1, hf⟩ := e1 _ _ hj
        rcases hd with ⟨-, hd⟩ | ⟨h9, hd⟩ | ⟨h9, hd⟩ | ⟨h9, hd⟩ | ⟨h9, hd⟩ <;> first | omega | exact va_ti C0.1 C0.2.1 (hb.2.1 j _ hj1).1 hw.2 (bin_of h2).1 (hf _ (bin_of h2).2) hd kk
      · cases h1
        obtain ⟨f, nm, hj1, hf⟩ := e2 _ hj
        rcases hd with ⟨h9, hd⟩ | ⟨h9, hd⟩ | ⟨h9, hd⟩ | ⟨-, hd⟩ | ⟨h9, hd⟩ <;> first | omega | exact va_tl C0.1 C0.2.1 (hb.2.1 j _ hj1).1 hw.2 (bin_of h2).1 (hf _ (bin_of h2).2) hd kk
      · cases h1
        exact absurd hj (e4 _ _)
theorem bs_alen (hE : bEok K E) (C0 : CallFix p m c cc nL s args bw_G own) (hb : bK K s) (hw : bS K.D K.B w.1.length (bct K w.1) s H locs) (hz : w.2 = 0 → H.size = K.B + w.1.length) (hl : lv_has ls nL (bvl K lv)) {a : bV} {c1 : bC} {n : Nat} (h : barr E w a = some c1) (hn : blen c1 = some n)
    (hd : decode cc pc = .ok (.arraylength, 1)) (k : bCont p l e R s m args below meth c cells slots Q K nL w (pc + 1, lv, .inl (Int32.ofNat n) :: rest, w)) : W p l e R s m args below meth c H locs cells slots Q (F0 m pc ls ((a :: rest : List bV).map (bvv K))) := by
  have kk := bp hw hz hl k
  rcases barr_inv h with ⟨r0, rfl, hr⟩ | ⟨j, rfl, rfl⟩
  · have hr0 : r0 < w.1.length := (List.getElem?_eq_some_iff.mp hr).1
    have he := bct_at (K := K) hr
    rcases c1 with ⟨ci, fs⟩ | ⟨t, xs⟩ | xs | ⟨t, xs⟩
    · cases hn
    · have hn : (if t = 0 ∨ t = 1 ∨ t = 3 then some xs.length else none) = some n := hn
      split at hn
      · rename_i h7
        cases hn
        rcases h7 with rfl | rfl | rfl
        · exact br_alen C0 hb hw hr0 0 rfl he rfl hd kk
        · exact br_alen C0 hb hw hr0 1 rfl he rfl hd kk
        · exact br_alen C0 hb hw hr0 3 rfl he rfl hd kk
      · cases hn
    · cases hn
      exact br_alen C0 hb hw hr0 2 rfl he rfl hd kk
    · have hn : (if t = 4 ∨ t = 5 then some xs.length else none) = some n := hn
      split at hn
      · rename_i h7
        cases hn
        rcases h7 with rfl | rfl
        · exact br_alen C0 hb hw hr0 4 rfl he rfl hd kk
        · exact br_alen C0 hb hw hr0 5 rfl he rfl hd kk
      · cases hn
  · obtain ⟨e1, e2, e3, e4⟩ := hE j
    cases hj : E j with
    | inl q => rw [hj] at hn; cases hn
    | inr q =>
      rw [hj] at hn
      rcases q with ⟨t, xs⟩ | xs | ⟨t, xs⟩
      · obtain ⟨rfl, f, nm, hj1, hf⟩ := e1 _ _ hj
        have hn : (if 1 = 0 ∨ 1 = 1 ∨ 1 = 3 then some xs.length else none) = some n := hn
        rw [if_pos (by decide)] at hn
        cases hn
        exact va_tlen C0.1 C0.2.1 (hb.2.1 j _ hj1).1 hw.2 rfl hd kk
      · obtain ⟨f, nm, hj1, hf⟩ := e2 _ hj
        cases hn
        exact va_tlen C0.1 C0.2.1 (hb.2.1 j _ hj1).1 hw.2 rfl hd kk
      · exact absurd hj (e4 _ _)
theorem bs_gst (hE : bEok K E) (C0 : CallFix p m c cc nL s args bw_G own) (hb : bK K s) (hw : bS K.D K.B w.1.length (bct K w.1) s H locs) (hz : w.2 = 0 → H.size = K.B + w.1.length) (hl : lv_has ls nL (bvl K lv)) {a ix : Nat} (ok : ∃ f : String × String × String, bsf a = some f ∧ (Jvm.Cond.fieldLink own ix f.1 f.2.1 f.2.2 ∈ bw_G ∨ ∃ host : String, (own, ix, f.1, f.2.1, f.2.2, host) ∈ bwN))
    (hd : decode cc pc = .ok (.getstatic ix, 3)) (k : bCont p l e R s m args below meth c cells slots Q K nL w (pc + 3, lv, .inr (.inr (.inr (some a))) :: st, w)) : W p l e R s m args below meth c H locs cells slots Q (F0 m pc ls (st.map (bvv K))) := by
  have kk := bp hw hz hl k
  obtain ⟨f, hf, hlink⟩ := ok
  obtain ⟨q, hq, hqf⟩ := (hE a).2.2.1 f hf
  have hZ := (hb.2.1 a q hq).2 f hqf
  rcases hlink with hlink | ⟨host, hlink⟩
  · exact va_gets C0.1 C0.2.1 hZ hw.2 C0.2.2.2.1 (C0.2.2.2.2 _ hlink) (fun _ h => h) hd kk
  · exact va_getsN C0.1 C0.2.1 hZ hw.2 C0.2.2.2.1 ((hb.2.2.2.2.2.2.2.2.2.2.1 _ hlink).use rfl) (fun _ h => h) hd kk
theorem bs_obj (C0 : CallFix p m c cc nL s args bw_G own) (hw : bS K.D K.B w.1.length (bct K w.1) s H locs) (hz : w.2 = 0 → H.size = K.B + w.1.length) (hl : lv_has ls nL (bvl K lv)) {r ix : Nat} (h1 : Jvm.Cond.methodLink own ix Lib.objectInit ∈ bw_G ∧ Jvm.Cond.instanceMethod Lib.objectInit ∈ bw_G ∧ Jvm.Cond.code Lib.objectInit ⟨#[0xb1]⟩ 1 none ∈ bw_G) (hfr : 1 ≤ R.frames) (hlo : (rest.map bvc).sum + 12 ≤ R.locals)
    (hd : decode cc pc = .ok (.invokespecial ix, 3)) (k : bCont p l e R s m args below meth c cells slots Q K nL w (pc + 3, lv, rest, w)) : W p l e R s m args below meth c H locs cells slots Q (F0 m pc ls ((.inr (.inr (.inl r)) :: rest : List bV).map (bvv K))) := by
  have kk := bp hw hz hl k
  have hc : (rest.map bvc).sum = ((rest.map (bvv K)).map fun v => v.category).sum := by
    rw [List.map_map]
    congr 1
    apply List.map_congr_left
    intro v _
    exact (bvc_v K v).symm
  exact W.objInit C0.1 C0.2.1 C0.2.2.2.1 (C0.2.2.2.2 _ h1.1) (C0.2.2.2.2 _ h1.2.1) (C0.2.2.2.2 _ h1.2.2) rfl (by rw [C0.2.2.1]; exact hl.1) rfl hd hfr (by rw [hc] at hlo; show 2 * 0 + _ + 12 ≤ _; omega) kk
end BMORE
