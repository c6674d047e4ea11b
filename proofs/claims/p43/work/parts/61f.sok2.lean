/-! The rules on cells say what the reader does. -/
section SOK2
variable {scr : List Int32} {nL pc : Nat} {o : bO}
theorem cbI_idx {a n : Nat} (h : a < 2147483648) (hn : a < n) : bin (cI a) n = true ∧ (cI a).toNatClampNeg = a := by
  have h1 := tI_n (cI a)
  rw [cbI_n, Nat.mod_eq_of_lt (by omega)] at h1
  rw [if_pos (by omega)] at h1
  have h2 : (cI a).toNatClampNeg = a := by
    show (cI a).toInt.toNat = a
    rw [h1]; rfl
  refine ⟨?_, h2⟩
  unfold bin
  rw [h2]
  have h3 : ¬ cI a < 0 := by
    intro h4
    have h5 := Int32.lt_iff_toInt_lt.mp h4
    have h6 : (0 : Int32).toInt = 0 := rfl
    omega
  rw [decide_eq_true h3, decide_eq_true hn]
  rfl
theorem bgf_eq {pc a b r : Nat} {lv : List (Nat × bV)} {rest fs : List bV} {w : bW} {v : bV} (h1 : w.1[r]? = some (.inl (a, fs))) (h2 : fs[b]? = some v) : bgf pc a b lv (.inr (.inr (.inl r)) :: rest) w = some (pc + 3, lv, v :: rest, w) := by
  unfold bgf
  simp only [h1, h2, ↓reduceIte]
theorem bpf_eq {pc a b r : Nat} {lv : List (Nat × bV)} {rest fs : List bV} {w : bW} {v : bV} (h1 : w.1[r]? = some (.inl (a, fs))) (h2 : b < fs.length) (h3 : bokf ((bty a).getD b .byte) v = true) : bpf pc a b lv (v :: .inr (.inr (.inl r)) :: rest) w = some (pc + 3, lv, rest, (w.1.set r (.inl (a, fs.set b v)), w.2)) := by
  unfold bpf
  simp only [h1]
  exact if_pos ⟨trivial, h2, h3⟩
theorem hgf_ok {a b : Nat} (hb : ∀ lv st w, bstep (bE scr) nL o pc lv st w = bgf pc a b lv st w) : hO scr nL pc o (hgf (pc + 3) a b) := by
  intro e C lv st w q hR hC h1
  unfold hgf at h1
  split at h1
  · rename_i x r
    obtain ⟨g1, h1⟩ := cond_none h1
    obtain ⟨g2, h1⟩ := cond_none h1
    split at h1
    rename_i k ty n d t hT
    obtain ⟨g3, h1⟩ := cond_none h1
    obtain ⟨g4, h1⟩ := cond_none h1
    obtain ⟨g5, h1⟩ := cond_none h1
    cases h1
    have := beq_t g3
    subst this
    have := beq_t g4
    subst this
    rw [hb]
    show bgf pc ty b (cvs e lv) (cv e x :: cs e r) (cw e w) = some (pc + 3, cvs e lv, cv e (tget d t b) :: cs e r, cw e w)
    rw [cv_r (beq_t g1)]
    exact bgf_eq (fs := tlst (cv e) d n t) (by rw [cw_get (blt_t g2), hT]; rfl) (tlst_get (blt_t g5))
  · cases h1
theorem okf_ok {e : sE} {C : sK_s} (hC : cok_s e C) {t : FieldType} {v : sV} (h : okf C (kf t) v = true) : bokf t (cv e v) = true := by
  cases t with
  | int => rw [cv_i (beq_t h)]; rfl
  | long => rw [cv_l (beq_t h)]; rfl
  | boolean =>
    have h : (match sri C v with | some a => Nat.blt a 2 | none => false) = true := h
    split at h
    · rename_i a ha
      rw [sri_ok hC ha]
      have h := blt_t h
      have h2 : a = 0 ∨ a = 1 := by omega
      rcases h2 with rfl | rfl <;> decide
    · cases h
  | char =>
    have h : (match siv C v with | some p => cond (Nat.ble 9223372036854775808 p.1) (Nat.ble p.2 9223372036854841343) false | none => false) = true := h
    split at h
    · rename_i p hp
      obtain ⟨X, hX, x1, x2⟩ := siv_ok hC hp
      rcases cond_two h with ⟨g1, g2⟩ | ⟨-, g⟩
      · have g1 := ble_t g1
        have g2 := ble_t g2
        rw [hX]
        have hx := bsI_i X
        have e0 : cI (bsI X - 9223372036854775808) = cI (bsI X) := by
          have e9 : (bsI X - 9223372036854775808) % 4294967296 = bsI X % 4294967296 := by omega
          rw [← cbI_mod (bsI X - 9223372036854775808), ← cbI_mod (bsI X), e9]
        have e1 : X = cI (bsI X - 9223372036854775808) := by rw [e0, cbI_bs]
        have hy : bsI X - 9223372036854775808 < 65536 := by omega
        generalize bsI X - 9223372036854775808 = z at e1 hy
        subst e1
        have h3 : narrow .char (.int (cI z)) = .int (cI z) := by
          show Value.int (cI z).toUInt32.toUInt16.toUInt32.toInt32 = _
          have h4 := cbI_char z
          have h5 : vp_nar .char (cI z) = (cI z).toUInt32.toUInt16.toUInt32.toInt32 := rfl
          rw [← h5, h4, Nat.mod_eq_of_lt hy]
        have h6 : fits .char (.int (cI z)) = true := by
          have h7 := bsI_i (cI z)
          show (decide (0 ≤ cI z) && decide (cI z ≤ 65535)) = true
          rw [bsI_c] at h7
          unfold bI at h7
          rw [blt_ye (by omega : z % 4294967296 < 2147483648)] at h7
          have h7 : ((z % 4294967296 + 9223372036854775808 : Nat) : Int) = (cI z).toInt + 9223372036854775808 := h7
          have h8 : (0 : Int32).toInt = 0 := rfl
          have h9 : (65535 : Int32).toInt = 65535 := rfl
          rw [decide_eq_true (show 0 ≤ cI z from Int32.le_iff_toInt_le.mpr (by omega)), decide_eq_true (show cI z ≤ 65535 from Int32.le_iff_toInt_le.mpr (by omega))]
          rfl
        show (decide (narrow .char (.int (cI z)) = .int (cI z)) && fits .char (.int (cI z))) = true
        rw [decide_eq_true h3, h6]
        rfl
      · cases g
    · cases h
  | object n =>
    obtain ⟨q, hq⟩ := cv_o (e := e) (ble_t h)
    rw [hq]; rfl
  | array u =>
    obtain ⟨q, hq⟩ := cv_o (e := e) (ble_t h)
    rw [hq]; rfl
  | byte => cases h
  | short => cases h
  | float => cases h
  | double => cases h
theorem hpf_ok {a b : Nat} (hb : ∀ lv st w, bstep (bE scr) nL o pc lv st w = bpf pc a b lv st w) : hO scr nL pc o (hpf (pc + 3) a b (kf ((bty a).getD b .byte))) := by
  intro e C lv st w q hR hC h1
  unfold hpf at h1
  split at h1
  · rename_i v x r
    obtain ⟨g1, h1⟩ := cond_none h1
    obtain ⟨g2, h1⟩ := cond_none h1
    obtain ⟨m, th, T⟩ := w
    have h1 : (match tget 10 T x.2 with
      | (k, ty, n, ⟨d, t⟩) => cond (Nat.beq k 0) (cond (Nat.beq ty a) (cond (Nat.blt b n) (cond (Nat.ble n (2 ^ d)) (cond (Nat.ble m 1024) (cond (okf C (kf ((bty a).getD b .byte)) v) (some ((pc + 3, lv, r, (m, th, tset 10 T x.2 (k, ty, n, ⟨d, tset d t b v⟩))) : sF)) none) none) none) none) none) none) = some q := h1
    split at h1
    rename_i k ty n d t hT
    obtain ⟨g3, h1⟩ := cond_none h1
    obtain ⟨g4, h1⟩ := cond_none h1
    obtain ⟨g5, h1⟩ := cond_none h1
    obtain ⟨g6, h1⟩ := cond_none h1
    obtain ⟨g7, h1⟩ := cond_none h1
    obtain ⟨g8, h1⟩ := cond_none h1
    cases h1
    have := beq_t g3
    subst this
    have := beq_t g4
    subst this
    have g2 : x.2 < m := blt_t g2
    rw [hb]
    show bpf pc ty b (cvs e lv) (cv e v :: cv e x :: cs e r) (cw e (m, th, T)) = some (pc + 3, cvs e lv, cs e r, cw e (m, th, tset 10 T x.2 (0, ty, n, ⟨d, tset d t b v⟩)))
    rw [cv_r (beq_t g1), cw_set g2 (ble_t g7)]
    rw [bpf_eq (fs := tlst (cv e) d n t) (by rw [cw_get (w := (m, th, T)) g2, hT]; rfl) (by rw [tlst_len]; exact blt_t g5) (okf_ok hC g8)]
    rw [← tlst_set (blt_t g5) (ble_t g6)]
    rfl
  · cases h1
theorem cq_2 {k : Nat} : cq (2, k) = some k := rfl
/-- an array's place -/
theorem selt_ok {e : sE} {t k ty n d i : Nat} {T : Tr sV d} {v : sV} (h : selt t k ty (tget d T i) = some v) (hi : i < n) (h31 : i < 2147483648) : bload (cI i) t (some (cc e (k, ty, n, ⟨d, T⟩))) = some (cv e v) := by
  have hx := cbI_idx h31 hi
  have I : ∀ t' : Nat, (t' = 0 ∨ t' = 1 ∨ t' = 3) → k = 1 → ty = t' → (tget d T i).1 % 4 = 0 → v = tget d T i → bload (cI i) t' (some (cc e (k, ty, n, ⟨d, T⟩))) = some (cv e v) := by
    intro t' h3 hk hty hm hv
    subst hk hty hv
    show (if ty = ty ∧ (ty = 0 ∨ ty = 1 ∨ ty = 3) ∧ bin (cI i) (tlst (ci e) d n T).length = true then (some (Sum.inl ((tlst (ci e) d n T).getD (cI i).toNatClampNeg 0)) : Option bV) else none) = _
    rw [if_pos ⟨rfl, h3, by rw [tlst_len]; exact hx.1⟩, hx.2, tlst_getD hi, cv_i hm]
  match t, h with
  | 2, h =>
    obtain ⟨g1, h⟩ := cond_none h
    obtain ⟨g2, h⟩ := cond_none h
    cases h
    have := beq_t g1
    subst this
    show (if 2 = 2 ∧ bin (cI i) (tlst (cl_s e) d n T).length = true then (some (Sum.inr (Sum.inl ((tlst (cl_s e) d n T).getD (cI i).toNatClampNeg 0))) : Option bV) else none) = _
    rw [if_pos ⟨rfl, by rw [tlst_len]; exact hx.1⟩, hx.2, tlst_getD hi, cv_l (beq_t g2)]
  | 4, h =>
    obtain ⟨g1, h⟩ := cond_none h
    have := beq_t g1
    subst this
    have J : (ty = 4 ∨ ty = 5) → some (cond (Nat.beq (tget d T i).1 2) (tget d T i) (3, 0)) = some v → bload (cI i) 4 (some (cc e (3, ty, n, ⟨d, T⟩))) = some (cv e v) := by
      intro hty hv
      cases hv
      show (if 4 = 4 ∧ (ty = 4 ∨ ty = 5) ∧ bin (cI i) (tlst cq d n T).length = true then (some (match (tlst cq d n T).getD (cI i).toNatClampNeg none with | none => (Sum.inr (Sum.inr (Sum.inr none)) : bV) | some k => (Sum.inr (Sum.inr (Sum.inl k)) : bV)) : Option bV) else none) = _
      rw [if_pos ⟨rfl, hty, by rw [tlst_len]; exact hx.1⟩, hx.2, tlst_getD hi]
      generalize tget d T i = u
      obtain ⟨a, b⟩ := u
      cases g : Nat.beq a 2 with
      | true =>
        have := beq_t g
        subst this
        rfl
      | false =>
        have h9 : cq (a, b) = none := by
          unfold cq
          split
          · rename_i h8
            have h8 : a = 2 := h8
            rw [h8] at g
            cases g
          · rfl
        rw [h9]
        rfl
    rcases cond_two h with ⟨g2, h⟩ | ⟨-, h⟩
    · exact J (Or.inl (beq_t g2)) h
    · obtain ⟨g2, h⟩ := cond_none h
      exact J (Or.inr (beq_t g2)) h
  | 0, h =>
    obtain ⟨g1, h⟩ := cond_none h
    obtain ⟨g2, h⟩ := cond_none h
    obtain ⟨g3, h⟩ := cond_none h
    cases h
    exact I 0 (Or.inl rfl) (beq_t g1) (beq_t g2) (beq_t g3) rfl
  | 1, h =>
    obtain ⟨g1, h⟩ := cond_none h
    obtain ⟨g2, h⟩ := cond_none h
    obtain ⟨g3, h⟩ := cond_none h
    cases h
    exact I 1 (Or.inr (Or.inl rfl)) (beq_t g1) (beq_t g2) (beq_t g3) rfl
  | 3, h =>
    obtain ⟨g1, h⟩ := cond_none h
    obtain ⟨g2, h⟩ := cond_none h
    obtain ⟨g3, h⟩ := cond_none h
    cases h
    exact I 3 (Or.inr (Or.inr rfl)) (beq_t g1) (beq_t g2) (beq_t g3) rfl
  | t + 5, h =>
    obtain ⟨g1, h⟩ := cond_none h
    obtain ⟨g2, h⟩ := cond_none h
    obtain ⟨g3, h⟩ := cond_none h
    cases h
theorem bld_eq {E : Nat → bC} {pc t : Nat} {lv : List (Nat × bV)} {r : List bV} {w : bW} {i : Int32} {a v : bV} (h : bload i t (barr E w a) = some v) : bld E pc t lv (.inl i :: a :: r) w = some (pc + 1, lv, v :: r, w) := by
  unfold bld
  simp only [h]
theorem sext_ok {e : sE} {C : sK_s} (hR : sR scr e) (hC : cok_s e C) {j i t : Nat} {v : sV} (h : sext C j i t = some v) (h31 : i < 2147483648) : bload (cI i) t (some (bE scr j)) = some (cv e v) := by
  match j, h with
  | 0, h =>
    obtain ⟨g1, h⟩ := cond_none h
    obtain ⟨g2, h⟩ := cond_none h
    cases h
    have := beq_t g1
    subst this
    have hx := cbI_idx h31 (show i < bTENS.length from blt_t g2)
    show (if 2 = 2 ∧ bin (cI i) bTENS.length = true then (some (Sum.inr (Sum.inl (bTENS.getD (cI i).toNatClampNeg 0))) : Option bV) else none) = _
    rw [if_pos ⟨rfl, hx.1⟩, hx.2, cv_1, cbL_u]
  | 1, h =>
    obtain ⟨g1, h⟩ := cond_none h
    obtain ⟨g2, h⟩ := cond_none h
    obtain ⟨g3, h⟩ := cond_none h
    cases h
    have := beq_t g1
    subst this
    have g2 := blt_t g2
    have g3 := blt_t g3
    have hl : i < scr.length := by
      have h1 := (hC 13).1
      rw [hR.2.2.2.2.1] at h1
      have h2 := bsI_i (Int32.ofNat scr.length)
      have h3 : (Int32.ofNat scr.length).toInt = scr.length := Int32.toInt_ofNat_of_lt hR.1
      omega
    have hx := cbI_idx h31 hl
    show (if 1 = 1 ∧ (1 = 0 ∨ 1 = 1 ∨ 1 = 3) ∧ bin (cI i) scr.length = true then (some (Sum.inl (scr.getD (cI i).toNatClampNeg 0)) : Option bV) else none) = _
    rw [if_pos ⟨rfl, Or.inr (Or.inl rfl), hx.1⟩, hx.2, cv_4, hR.2.1 i g2]
  | 2, h =>
    obtain ⟨g1, h⟩ := cond_none h
    obtain ⟨g2, h⟩ := cond_none h
    cases h
    have := beq_t g1
    subst this
    have hx := cbI_idx h31 (show i < bLOGS.length from blt_t g2)
    show (if 1 = 1 ∧ (1 = 0 ∨ 1 = 1 ∨ 1 = 3) ∧ bin (cI i) bLOGS.length = true then (some (Sum.inl (bLOGS.getD (cI i).toNatClampNeg 0)) : Option bV) else none) = _
    rw [if_pos ⟨rfl, Or.inr (Or.inl rfl), hx.1⟩, hx.2, cv_0, cbI_u]
  | 3, h =>
    obtain ⟨g1, h⟩ := cond_none h
    obtain ⟨g2, h⟩ := cond_none h
    cases h
    have := beq_t g1
    subst this
    have hx := cbI_idx h31 (show i < bARCS.length from blt_t g2)
    show (if 1 = 1 ∧ (1 = 0 ∨ 1 = 1 ∨ 1 = 3) ∧ bin (cI i) bARCS.length = true then (some (Sum.inl (bARCS.getD (cI i).toNatClampNeg 0)) : Option bV) else none) = _
    rw [if_pos ⟨rfl, Or.inr (Or.inl rfl), hx.1⟩, hx.2, cv_0, cbI_u]
  | j + 4, h => cases h
theorem hld_ok {t : Nat} (hb : ∀ lv st w, bstep (bE scr) nL o pc lv st w = bld (bE scr) pc t lv st w) : hO scr nL pc o (hld (pc + 1) t) := by
  intro e C lv st w q hR hC h1
  unfold hld at h1
  split at h1
  · rename_i i a r
    split at h1
    · cases h1
    · rename_i i' hi
      obtain ⟨g0, h1⟩ := cond_none h1
      have g0 := blt_t g0
      rw [hb]
      show bld (bE scr) pc t (cvs e lv) (cv e i :: cv e a :: cs e r) (cw e w) = _
      rw [sri_ok hC hi]
      rcases cond_two h1 with ⟨g1, h1⟩ | ⟨-, h1⟩
      · obtain ⟨g2, h1⟩ := cond_none h1
        split at h1
        rename_i k ty n d T hT
        obtain ⟨g3, h1⟩ := cond_none h1
        split at h1
        · rename_i v hv
          cases h1
          have h5 : barr (bE scr) (cw e w) (cv e a) = some (cc e (k, ty, n, ⟨d, T⟩)) := by
            rw [cv_r (beq_t g1)]
            show (cw e w).1[a.2]? = _
            rw [cw_get (blt_t g2), hT]
          refine (bld_eq (v := cv e v) ?_).trans rfl
          rw [h5]
          exact selt_ok hv (blt_t g3) g0
        · cases h1
      · obtain ⟨g1, h1⟩ := cond_none h1
        split at h1
        · cases h1
        · rename_i j hj
          split at h1
          · rename_i v hv
            cases h1
            have h5 : barr (bE scr) (cw e w) (cv e a) = some (bE scr j) := by
              rw [cv_x (beq_t g1), hj]
              rfl
            refine (bld_eq (v := cv e v) ?_).trans rfl
            rw [h5]
            exact sext_ok hR hC hv g0
          · cases h1
  · cases h1
theorem bast_eq {pc t r : Nat} {lv : List (Nat × bV)} {rest : List bV} {w : bW} {x i : Int32} {xs : List Int32} (h1 : w.1[r]? = some (.inr (.inl (t, xs)))) (h2 : bin i xs.length = true) :
    bast pc t lv (.inl x :: .inl i :: .inr (.inr (.inl r)) :: rest) w = some (pc + 1, lv, rest, (w.1.set r (.inr (.inl (t, xs.set i.toNatClampNeg (vp_nar (if t = 0 then .char else if t = 3 then .boolean else .int) x)))), w.2)) := by
  unfold bast
  simp only [h1]
  exact if_pos ⟨trivial, h2⟩
theorem blast_eq {pc r : Nat} {lv : List (Nat × bV)} {rest : List bV} {w : bW} {x : Int64} {i : Int32} {xs : List Int64} (h1 : w.1[r]? = some (.inr (.inr (.inl xs)))) (h2 : bin i xs.length = true) :
    blast pc lv (.inr (.inl x) :: .inl i :: .inr (.inr (.inl r)) :: rest) w = some (pc + 1, lv, rest, (w.1.set r (.inr (.inr (.inl (xs.set i.toNatClampNeg x)))), w.2)) := by
  unfold blast
  simp only [h1]
  exact if_pos h2
theorem baast_eq {pc r v t ci : Nat} {lv : List (Nat × bV)} {rest fs : List bV} {w : bW} {i : Int32} {xs : List (Option Nat)} (h1 : w.1[r]? = some (.inr (.inr (.inr (t, xs))))) (h2 : w.1[v]? = some (.inl (ci, fs))) (h3 : t = 4 ∨ t = 5) (h4 : ci = bcls t) (h5 : bin i xs.length = true) :
    baast pc lv (.inr (.inr (.inl v)) :: .inl i :: .inr (.inr (.inl r)) :: rest) w = some (pc + 1, lv, rest, (w.1.set r (.inr (.inr (.inr (t, xs.set i.toNatClampNeg (some v))))), w.2)) := by
  unfold baast
  simp only [h1, h2]
  exact if_pos ⟨h3, h4, h5⟩
/-- an int put into an array of ints -/
theorem hst_i {e : sE} {t k ty n d i : Nat} {T : Tr sV d} {v v' : sV} {x : Int32} (hk : k = 1) (hty : ty = t) (hv : cv e v = .inl x) (hn : ci e v' = vp_nar (if t = 0 then .char else if t = 3 then .boolean else .int) x)
    {m th r pc : Nat} {W : Tr sC_s 10} {lv : List (Nat × bV)} {rest : List bV} (hr : r < m) (hm : m ≤ 1024) (hT : tget 10 W r = (k, ty, n, ⟨d, T⟩)) (hi : i < n) (h31 : i < 2147483648) (hd : n ≤ 2 ^ d) :
    bast pc t lv (cv e v :: .inl (cI i) :: .inr (.inr (.inl r)) :: rest) (cw e (m, th, W)) = some (pc + 1, lv, rest, cw e (m, th, tset 10 W r (k, ty, n, ⟨d, tset d T i v'⟩))) := by
  subst hk hty
  have hx := cbI_idx h31 hi
  rw [hv, cw_set hr hm, bast_eq (xs := tlst (ci e) d n T) (by rw [cw_get (w := (m, th, W)) hr, hT]; rfl) (by rw [tlst_len]; exact hx.1), hx.2, ← hn, ← tlst_set hi hd]
  rfl
theorem hst_ok {t : Nat} (hb : ∀ lv st w, bstep (bE scr) nL o pc lv st w = if t = 2 then blast pc lv st w else bast pc t lv st w) : hO scr nL pc o (hst (pc + 1) t) := by
  intro e C lv st w q hR hC h1
  unfold hst at h1
  split at h1
  · rename_i v i x r
    split at h1
    · cases h1
    · rename_i i' hi
      obtain ⟨g0, h1⟩ := cond_none h1
      obtain ⟨g1, h1⟩ := cond_none h1
      obtain ⟨g2, h1⟩ := cond_none h1
      obtain ⟨m, th, W⟩ := w
      have h1 : (match tget 10 W x.2 with
        | (k, ty, n, ⟨d, u⟩) => cond (Nat.blt i' n) (cond (Nat.ble n (2 ^ d)) (cond (Nat.ble m 1024) (match sput C t k ty v with
          | some v => some ((pc + 1, lv, r, (m, th, tset 10 W x.2 (k, ty, n, ⟨d, tset d u i' v⟩))) : sF)
          | none => none) none) none) none) = some q := h1
      split at h1
      rename_i k ty n d T hT
      obtain ⟨g3, h1⟩ := cond_none h1
      obtain ⟨g4, h1⟩ := cond_none h1
      obtain ⟨g5, h1⟩ := cond_none h1
      have g0 := blt_t g0
      have g2 : x.2 < m := blt_t g2
      have g3 := blt_t g3
      have g4 := ble_t g4
      have g5 := ble_t g5
      split at h1
      · rename_i v' hv'
        cases h1
        rw [hb]
        show (if t = 2 then blast pc (cvs e lv) (cv e v :: cv e i :: cv e x :: cs e r) (cw e (m, th, W)) else bast pc t (cvs e lv) (cv e v :: cv e i :: cv e x :: cs e r) (cw e (m, th, W))) = some (pc + 1, cvs e lv, cs e r, cw e (m, th, tset 10 W x.2 (k, ty, n, ⟨d, tset d T i' v'⟩)))
        rw [cv_r (beq_t g1), sri_ok hC hi]
        match t, hv' with
        | 0, hv' =>
          obtain ⟨f1, hv'⟩ := cond_none hv'
          obtain ⟨f2, hv'⟩ := cond_none hv'
          rw [if_neg (by decide)]
          split at hv'
          · rename_i a ha
            rw [frc_eq] at hv'
            cases hv'
            exact hst_i (beq_t f1) (beq_t f2) (sri_ok hC ha) (by rw [if_pos rfl, cbI_char]; rfl) g2 g5 hT g3 g0 g4
          · split at hv'
            · rename_i p hp
              obtain ⟨f3, hv'⟩ := cond_none hv'
              obtain ⟨f4, hv'⟩ := cond_none hv'
              cases hv'
              obtain ⟨X, hX, x1, x2⟩ := siv_ok hC hp
              have f3 := ble_t f3
              have f4 := ble_t f4
              have e0 : cI (bsI X % 65536) = X := by
                have e9 : bsI X % 65536 % 4294967296 = bsI X % 4294967296 := by omega
                rw [← cbI_mod, e9, cbI_mod, cbI_bs]
              have e1 : vp_nar .char X = X := by
                have e2 := cbI_char (bsI X)
                rw [cbI_bs] at e2
                rw [e2, e0]
              refine hst_i (beq_t f1) (beq_t f2) hX ?_ g2 g5 hT g3 g0 g4
              rw [if_pos rfl, e1]
              have hm : v.1 % 4 = 0 := by
                obtain ⟨a, b⟩ := v
                rcases cond_some hp with ⟨g, -⟩ | ⟨-, hp⟩
                · have g : a = 0 := beq_t g
                  subst g; exact (by decide : 0 % 4 = 0)
                · obtain ⟨g, -⟩ := cond_none hp
                  have g : a = 4 := beq_t g
                  subst g; exact (by decide : 4 % 4 = 0)
              rw [cv_i hm] at hX
              exact Sum.inl.inj hX
            · cases hv'
        | 1, hv' =>
          obtain ⟨f1, hv'⟩ := cond_none hv'
          obtain ⟨f2, hv'⟩ := cond_none hv'
          obtain ⟨f3, hv'⟩ := cond_none hv'
          cases hv'
          rw [if_neg (by decide)]
          exact hst_i (beq_t f1) (beq_t f2) (cv_i (beq_t f3)) rfl g2 g5 hT g3 g0 g4
        | 2, hv' =>
          obtain ⟨f1, hv'⟩ := cond_none hv'
          obtain ⟨f3, hv'⟩ := cond_none hv'
          cases hv'
          rw [if_pos rfl]
          have f1 := beq_t f1
          subst f1
          have hx := cbI_idx g0 g3
          rw [cv_l (beq_t f3), cw_set g2 g5, blast_eq (xs := tlst (cl_s e) d n T) (by rw [cw_get (w := (m, th, W)) g2, hT]; rfl) (by rw [tlst_len]; exact hx.1), hx.2, ← tlst_set g3 g4]
          rfl
        | 3, hv' =>
          obtain ⟨f1, hv'⟩ := cond_none hv'
          obtain ⟨f2, hv'⟩ := cond_none hv'
          rw [if_neg (by decide)]
          split at hv'
          · rename_i a ha
            obtain ⟨f3, hv'⟩ := cond_none hv'
            cases hv'
            exact hst_i (beq_t f1) (beq_t f2) (sri_ok hC ha) (by rw [if_neg (by decide), if_pos rfl, cbI_bool _ (blt_t f3)]; rfl) g2 g5 hT g3 g0 g4
          · cases hv'
        | t + 4, hv' => cases hv'
      · cases h1
  · cases h1
theorem hast_ok (hb : ∀ lv st w, bstep (bE scr) nL o pc lv st w = baast pc lv st w) : hO scr nL pc o (hast (pc + 1)) := by
  intro e C lv st w q hR hC h1
  unfold hast at h1
  split at h1
  · rename_i v i x r
    split at h1
    · cases h1
    · rename_i i' hi
      obtain ⟨g0, h1⟩ := cond_none h1
      obtain ⟨g1, h1⟩ := cond_none h1
      obtain ⟨g2, h1⟩ := cond_none h1
      obtain ⟨g3, h1⟩ := cond_none h1
      obtain ⟨g4, h1⟩ := cond_none h1
      obtain ⟨m, th, W⟩ := w
      have g0 := blt_t g0
      have g3 : x.2 < m := blt_t g3
      have g4 : v.2 < m := blt_t g4
      have h1 : (match tget 10 W x.2 with
        | (k, ty, n, ⟨d, u⟩) => cond (Nat.beq k 3) (cond (Nat.blt i' n) (cond (Nat.ble n (2 ^ d)) (cond (Nat.ble m 1024) (match tget 10 W v.2 with
          | (k2, ci2, _, _) => cond (Nat.beq k2 0) (cond (cond (Nat.beq ty 4) (Nat.beq ci2 4) (cond (Nat.beq ty 5) (Nat.beq ci2 7) false)) (some ((pc + 1, lv, r, (m, th, tset 10 W x.2 (k, ty, n, ⟨d, tset d u i' v⟩))) : sF)) none) none) none) none) none) none) = some q := h1
      split at h1
      rename_i k ty n d T hT
      obtain ⟨g5, h1⟩ := cond_none h1
      obtain ⟨g6, h1⟩ := cond_none h1
      obtain ⟨g7, h1⟩ := cond_none h1
      obtain ⟨g8, h1⟩ := cond_none h1
      have g5 := beq_t g5
      subst g5
      have g6 := blt_t g6
      have g7 := ble_t g7
      have g8 := ble_t g8
      split at h1
      rename_i k2 ci2 n2 u2 hT2
      obtain ⟨g9, h1⟩ := cond_none h1
      obtain ⟨f1, h1⟩ := cond_none h1
      cases h1
      have g9 := beq_t g9
      subst g9
      have hx := cbI_idx g0 g6
      have hc : (ty = 4 ∨ ty = 5) ∧ ci2 = bcls ty := by
        rcases cond_two f1 with ⟨f2, f3⟩ | ⟨-, f1⟩
        · have f2 := beq_t f2
          subst f2
          exact ⟨Or.inl rfl, beq_t f3⟩
        · rcases cond_two f1 with ⟨f2, f3⟩ | ⟨-, f1⟩
          · have f2 := beq_t f2
            subst f2
            exact ⟨Or.inr rfl, beq_t f3⟩
          · cases f1
      rw [hb]
      show baast pc (cvs e lv) (cv e v :: cv e i :: cv e x :: cs e r) (cw e (m, th, W)) = some (pc + 1, cvs e lv, cs e r, cw e (m, th, tset 10 W x.2 (3, ty, n, ⟨d, tset d T i' v⟩)))
      rw [cv_r (beq_t g1), cv_r (beq_t g2), sri_ok hC hi, cw_set g3 g8, baast_eq (xs := tlst cq d n T) (ci := ci2) (by rw [cw_get (w := (m, th, W)) g3, hT]; rfl) (by rw [cw_get (w := (m, th, W)) g4, hT2]; rfl) hc.1 hc.2 (by rw [tlst_len]; exact hx.1), hx.2]
      have hq : cq v = some v.2 := by
        obtain ⟨a, b⟩ := v
        have g2 : a = 2 := beq_t g2
        subst g2
        rfl
      rw [← hq, ← tlst_set g6 g7]
      rfl
  · cases h1
theorem balen_eq {E : Nat → bC} {pc n : Nat} {lv : List (Nat × bV)} {r : List bV} {w : bW} {a : bV} {c : bC} (h1 : barr E w a = some c) (h2 : blen c = some n) : balen E pc lv (a :: r) w = some (pc + 1, lv, .inl (Int32.ofNat n) :: r, w) := by
  unfold balen
  simp only [h1, h2]
theorem halen_ok (hb : ∀ lv st w, bstep (bE scr) nL o pc lv st w = balen (bE scr) pc lv st w) : hO scr nL pc o (halen (pc + 1)) := by
  intro e C lv st w q hR hC h1
  unfold halen at h1
  split at h1
  · rename_i a r
    rw [hb]
    show balen (bE scr) pc (cvs e lv) (cv e a :: cs e r) (cw e w) = _
    rcases cond_two h1 with ⟨g1, h1⟩ | ⟨-, h1⟩
    · obtain ⟨g2, h1⟩ := cond_none h1
      split at h1
      rename_i k ty n T hT
      split at h1
      · rename_i n' hn
        cases h1
        refine (balen_eq (n := n') (c := cc e (k, ty, n, T)) ?_ ?_).trans rfl
        · rw [cv_r (beq_t g1)]
          show (cw e w).1[a.2]? = _
          rw [cw_get (blt_t g2), hT]
        · obtain ⟨d, T⟩ := T
          match k, hn with
          | 1, hn =>
            show (if ty = 0 ∨ ty = 1 ∨ ty = 3 then some (tlst (ci e) d n T).length else none) = _
            rw [tlst_len]
            rcases cond_some hn with ⟨f, rfl⟩ | ⟨-, hn⟩
            · exact if_pos (Or.inl (beq_t f))
            · rcases cond_some hn with ⟨f, rfl⟩ | ⟨-, hn⟩
              · exact if_pos (Or.inr (Or.inl (beq_t f)))
              · obtain ⟨f, hn⟩ := cond_none hn
                cases hn
                exact if_pos (Or.inr (Or.inr (beq_t f)))
          | 2, hn =>
            cases hn
            show some (tlst (cl_s e) d n T).length = _
            rw [tlst_len]
          | 3, hn =>
            show (if ty = 4 ∨ ty = 5 then some (tlst cq d n T).length else none) = _
            rw [tlst_len]
            rcases cond_some hn with ⟨f, rfl⟩ | ⟨-, hn⟩
            · exact if_pos (Or.inl (beq_t f))
            · obtain ⟨f, hn⟩ := cond_none hn
              cases hn
              exact if_pos (Or.inr (beq_t f))
          | 0, hn => cases hn
          | k + 4, hn => cases hn
      · cases h1
    · obtain ⟨g1, h1⟩ := cond_none h1
      split at h1
      · rename_i hj
        cases h1
        refine (balen_eq (n := 19) (c := bE scr 0) ?_ rfl).trans rfl
        rw [cv_x (beq_t g1), hj]
        rfl
      · rename_i hj
        cases h1
        refine (balen_eq (n := scr.length) (c := bE scr 1) ?_ rfl).trans ?_
        · rw [cv_x (beq_t g1), hj]
          rfl
        · show _ = some (pc + 1, cvs e lv, cv e (4, 13) :: cs e r, cw e w)
          rw [cv_4, hR.2.2.2.2.1]
      · rename_i hj
        cases h1
        refine (balen_eq (n := 54) (c := bE scr 2) ?_ rfl).trans rfl
        rw [cv_x (beq_t g1), hj]
        rfl
      · rename_i hj
        cases h1
        refine (balen_eq (n := 54) (c := bE scr 3) ?_ rfl).trans rfl
        rw [cv_x (beq_t g1), hj]
        rfl
      · cases h1
  · cases h1
end SOK2
