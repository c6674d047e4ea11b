/-! THE LAW: calls that may throw, caught. -/
theorem tblk_p {e : tE} {c : Bool} {rk d mi pe pc i : Nat} {Q : tR → tM → Nat → Prop} {L : tL} {st : List tV} {M : tM} {n : Nat} {Bs : List (List (Nat × bO))} {B P : List (Nat × bO)} (hl : tcode mi = Bs.flatten) (hs : ksort (tcode mi) = true) (hi : Bs[i]? = some B) (j k : Nat) (hp : (B.drop j).take k = P) (hc : bchn rk mi pe pc P = true) (h : wB e c rk d mi pe P L st M n Q) : tT e d mi pc L st M n Q := by
  subst hp
  refine wB_ok _ (fun p hp => ?_) hc h
  refine bfind_of (l := tcode mi) hs (x := p.2) ?_
  rw [hl]
  exact List.mem_flatten.mpr ⟨B, List.mem_of_getElem? hi, List.mem_of_mem_drop (List.mem_of_mem_take hp)⟩
theorem tblk_o {mi pc i j : Nat} {o : bO} {Bs : List (List (Nat × bO))} {B : List (Nat × bO)} (hl : tcode mi = Bs.flatten) (hs : ksort (tcode mi) = true) (hi : Bs[i]? = some B) (hj : B[j]? = some (pc, o)) : bop mi pc = some o := by
  refine bfind_of (l := tcode mi) hs (x := o) ?_
  rw [hl]
  exact List.mem_flatten.mpr ⟨B, List.mem_of_getElem? hi, List.mem_of_getElem? hj⟩
theorem tT_catch {e : tE} {d' mi pc a r : Nat} {ix j b : Nat} {v : Int} {st rest : List tV} {L : tL} {M : tM} {n : Nat} {Q Qc : tR → tM → Nat → Prop} (ho : bop mi pc = some (.invokevirtual ix, j, a, b, v)) (hr : st.drop b = .inr (.inr (.inl r)) :: rest) (h1 : (tyk (tsh r)).1 = 0) (h9 : (tsh r : Int) = v) (h2 : tfr rest = true) (hC : tC e d' a (.inr (.inr (.inl r)) :: (st.take b).reverse) M n Qc)
    (k1 : ∀ v M' n', Qc (.inl v) M' n' → tT e (d' + 1) mi (pc + 3) L (v.toList ++ rest) M' n' Q)
    (k2 : ∀ x M' n', Qc (.inr x) M' n' → ∃ hp o2 k w, bhand (bmeth mi).2.2.2.2 pc x bcok = some hp ∧ bop mi hp = some o2 ∧ bastk o2.1 = some (k, w) ∧ k < (bmeth mi).2.2.1 ∧ tT e (d' + 1) mi (hp + w) [] [] M' n' Q) : tT e (d' + 1) mi pc L st M n Q := by
  intro hscr
  obtain ⟨hf, hT⟩ := hC
  obtain ⟨q, M', n', g1, g2⟩ := hT hscr
  have h0 : tsh r ≠ 0 := fun e => by rw [e] at h1; revert h1; decide
  have hg := two_get (M := M) (n := n) (k := r) rfl h0
  rw [tcell_0 h1] at hg
  have hy : (tyk (tsh r)).2.1 = tsh r := tyk_ob _ h1
  have hd : (st.map tdn).drop b = .inr (.inr (.inl r)) :: rest.map tdn := by rw [← List.map_drop, hr]; rfl
  have hq : bcal (.invokevirtual ix, j, a, b, v) (st.map tdn) (two M n) = some (a, (.inr (.inr (.inl r)) :: (st.take b).reverse : List tV).map tdn, rest.map tdn) := by
    rw [bcal_iv hd hg (by rw [hy]; exact h9) (by rw [tcat_sum]; exact of_decide_eq_true h2), ← List.map_take, ← List.map_reverse]
    rfl
  have hf2 : (((.inr (.inr (.inl r)) :: (st.take b).reverse : List tV).map tdn).map bvc).sum ≤ (bmeth a).2.2.1 := by
    rw [tcat_sum]
    exact of_decide_eq_true hf
  have hc := g2 (blva 0 ((.inr (.inr (.inl r)) :: (st.take b).reverse : List tV).map tdn)) (fun i v hv => by have := tla_ok (.inr (.inr (.inl r)) :: (st.take b).reverse) 0 i v hv; rwa [Nat.zero_add] at this)
  rcases q with v | x
  · obtain ⟨r2, M2, n2, s1, s2⟩ := k1 _ _ _ g1 hscr
    refine ⟨r2, M2, n2, s1, fun lv hl => ?_⟩
    refine y_call ho hq hf2 hc ?_
    show bY e (d' + 1) mi (pc + 3) lv ((v.map tdn).toList ++ rest.map tdn) _ _ _
    rw [map_toList]
    exact s2 lv hl
  · obtain ⟨hp, o2, k, w, t1, t2, t3, t4, t5⟩ := k2 _ _ _ g1
    obtain ⟨r2, M2, n2, s1, s2⟩ := t5 hscr
    refine ⟨r2, M2, n2, s1, fun lv hl => ?_⟩
    refine y_catch ho hq hf2 hc t1 t2 rfl t3 t4 ?_
    exact s2 _ (fun i u hu => by cases hu)
/-- what a call of the class may change -/
def WE (M M' : tM) : Prop := ∀ (k : Nat) (i : Int), (664 ≤ k ∧ k ≠ 690) ∨ (k = 0 ∧ i = 0) ∨ (k = 78 ∧ i = 5) → M' k i = M k i
theorem WE_refl {M : tM} : WE M M := fun _ _ _ => rfl
theorem WE_tr {M M1 M2 : tM} (h1 : WE M M1) (h2 : WE M1 M2) : WE M M2 := fun k i h => (h2 k i h).trans (h1 k i h)
theorem WE_p {M M' : tM} (h : pE 0 M M') : WE M M' := fun k i q => h k i (by rcases q with q | q | q; exact Or.inl (Or.inl q.1); exact Or.inl (Or.inr (Or.inl q)); exact Or.inr (Or.inr (Or.inr q)))
theorem WE_690 {M : tM} {i v : Int} : WE M (tU M 690 i v) := fun k j q => tU_nk (by omega)
theorem CI_690 {M : tM} {i v : Int} (h : CI M) : CI (tU M 690 i v) := ⟨fun k j hk hj => by
  rw [tU_nk (by omega)]
  exact h.1 k j hk hj, FA_same h.2 (fun k j hk _ => tU_nk (by omega))⟩
theorem UN_690 {M : tM} {i v : Int} (h : UN M) : UN (tU M 690 i v) := by
  unfold UN
  rw [tU_nk (by decide), tU_nk (by decide)]
  exact h
theorem CK_690 {M : tM} {i v : Int} (h : CK M) : CK (tU M 690 i v) := ⟨CI_690 h.1, KW_g h.2 (UN_690 (CK_U h)) (RO_u h.2.1.1.2 (tU_nk (by decide)) (tU_nk (by decide))) (fun k i g => tU_nk (by unfold KPC at g; omega))⟩
theorem UN_we {M M' : tM} (h : UN M) (w : WE M M') : UN M' := by
  unfold UN
  rw [w 78 5 (Or.inr (Or.inr ⟨rfl, rfl⟩)), w 0 0 (Or.inr (Or.inl ⟨rfl, rfl⟩))]
  exact h
theorem un_rg {M : tM} (h : UN M) : 1 ≤ M 78 5 ∧ M 78 5 ≤ 10000000000 := by
  have h1 : M 78 5 = un (M 0 0) := h
  have h2 := un_pos (M 0 0)
  have h3 := un_le (M 0 0)
  omega
def WQ (n : Nat) (M : tM) : tR → tM → Nat → Prop := fun v M' n' => (∃ z, v = .inl (some (.inl z))) ∧ (n ≤ n' ∧ n' ≤ n + 1) ∧ CK M' ∧ WE M M'
theorem sh0a : (tyk (tsh 0)).1 = 0 := by rw [tsh_0]; rfl
theorem sh0b : (tsh 0 : Int) = 13 := by rw [tsh_0]; rfl
theorem tsw_690 : tsh 690 = 41 := by rw [tsh_def]; decide +kernel
theorem tyw_41 : tyk 41 = (2, 2, 1) := rfl
theorem tcw_1 : ((1 : Nat) : Int) = 1 := rfl
