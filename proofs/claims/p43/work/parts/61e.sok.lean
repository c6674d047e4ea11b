/-! The rules say what the reader does. -/
def sR (scr : List Int32) (e : sE) : Prop := scr.length < 2147483648 ∧ (∀ j, j < 6 → e.1 j = scr.getD j 0) ∧ (∀ j, j < 6 → e.1 (j + 6) = ((e.1 j).toUInt32 % 65536).toInt32) ∧ e.1 12 = e.1 0 &&& 63 ∧ e.1 13 = Int32.ofNat scr.length ∧
  e.2.1 0 = (e.1 2).toInt64 <<< ((cI 32).toInt64 &&& 63) ∧ e.2.1 1 = (e.1 3).toInt64 &&& cL 4294967295 ∧ e.2.1 2 = e.2.1 0 ||| e.2.1 1
abbrev hO (scr : List Int32) (nL pc : Nat) (o : bO) (f : sH) : Prop := hOk scr (sR scr) nL pc o f
section SOK
variable {scr : List Int32} {nL pc : Nat} {o : bO}
theorem cw_get {e : sE} {w : sW} {r : Nat} (h : r < w.1) : (cw e w).1[r]? = some (cc e (tget 10 w.2.2 r)) := tlst_get h
theorem cw_set {e : sE} {m th r : Nat} {T : Tr sC_s 10} {c : sC_s} (h : r < m) (hm : m ≤ 1024) : cw e (m, th, tset 10 T r c) = ((cw e (m, th, T)).1.set r (cc e c), th) := by
  show (tlst (cc e) 10 m (tset 10 T r c), th) = ((tlst (cc e) 10 m T).set r (cc e c), th)
  rw [tlst_set h (by simpa using hm)]
theorem cw_push {e : sE} {m th : Nat} {T : Tr sC_s 10} {c : sC_s} (hm : m < 1024) : cw e (m + 1, th, tset 10 T m c) = ((cw e (m, th, T)).1 ++ [cc e c], th) := by
  show (tlst (cc e) 10 (m + 1) (tset 10 T m c), th) = (tlst (cc e) 10 m T ++ [cc e c], th)
  rw [tlst_push (by simpa using hm)]
theorem bi2_eq {pc : Nat} {lv : List (Nat × bV)} {r : List bV} {w : bW} {F : Int32 → Int32 → Option Int32} {x y v : Int32} (h : F x y = some v) : bi2 pc lv (.inl y :: .inl x :: r) w F = some (pc + 1, lv, .inl v :: r, w) := by
  unfold bi2
  simp only [h]
theorem bl2_eq {pc : Nat} {lv : List (Nat × bV)} {r : List bV} {w : bW} {F : Int64 → Int64 → Option bV} {x y : Int64} {v : bV} (h : F x y = some v) : bl2 pc lv (.inr (.inl y) :: .inr (.inl x) :: r) w F = some (pc + 1, lv, v :: r, w) := by
  unfold bl2
  simp only [h]
theorem bjf_eq {cd : ClassFile.Cond} {pc a : Nat} {lv : List (Nat × bV)} {r : List bV} {w : bW} {x : Int32} {b : Bool} (h : bcmp cd x 0 = b) : bjf cd pc a lv (.inl x :: r) w = some (cond b a (pc + 3), lv, r, w) := by
  unfold bjf
  simp only [h]
  cases b <;> rfl
theorem bjc_eq {cd : ClassFile.Cond} {pc a : Nat} {lv : List (Nat × bV)} {r : List bV} {w : bW} {x y : Int32} {b : Bool} (h : bcmp cd x y = b) : bjc cd pc a lv (.inl y :: .inl x :: r) w = some (cond b a (pc + 3), lv, r, w) := by
  unfold bjc
  simp only [h]
  cases b <;> rfl
theorem hpush_ok {nx : Nat} {v : sV} {x : bV} (hb : ∀ lv st w, bstep (bE scr) nL o pc lv st w = some (nx, lv, x :: st, w)) (hv : ∀ e, cv e v = x) : hO scr nL pc o (hpush nx v) := by
  intro e C lv st w q hR hC h1
  cases h1
  rw [hb, ← hv e]
  rfl
theorem hld0_ok {k n i : Nat} (hb : ∀ lv st w, bstep (bE scr) nL o pc lv st w = bldl k pc n i lv st w) (hk : k < 3) : hO scr nL pc o (hld0 k (pc + n) i) := by
  intro e C lv st w q hR hC h1
  unfold hld0 at h1
  split at h1
  · cases h1
  · rename_i v hv
    obtain ⟨g, h1⟩ := cond_none h1
    cases h1
    rw [hb]
    have h2 := slk_ok (e := e) hv
    unfold bldl
    rw [h2]
    show _ = some (pc + n, cvs e lv, cv e v :: cs e st, cw e w)
    match k, hk, g with
    | 0, _, g => rw [cv_i (beq_t g)]; rfl
    | 1, _, g => rw [cv_l (beq_t g)]; rfl
    | 2, _, g =>
      rcases cond_two g with ⟨g1, -⟩ | ⟨-, g⟩
      · rw [cv_r (beq_t g1)]; rfl
      · rcases cond_two g with ⟨g1, g2⟩ | ⟨-, g⟩
        · have h3 := blt_t g2
          rw [cv_x (beq_t g1)]
          obtain ⟨t, m⟩ := v
          cases m with
          | zero => exact absurd h3 (Nat.lt_irrefl _)
          | succ m => rfl
        · cases g
theorem hst1_ok {k n i : Nat} (hb : ∀ lv st w, bstep (bE scr) nL o pc lv st w = bstl k nL pc n i lv st w) (hk : k = 0 ∨ k = 2) : hO scr nL pc o (hst1 k (pc + n) i nL) := by
  intro e C lv st w q hR hC h1
  unfold hst1 at h1
  split at h1
  · cases h1
  · rename_i v r
    obtain ⟨g, h1⟩ := cond_none h1
    obtain ⟨g2, h1⟩ := cond_none h1
    cases h1
    rw [hb]
    show bstl k nL pc n i (cvs e lv) (cv e v :: cs e r) (cw e w) = some (pc + n, cvs e ((i, v) :: sfl1 lv i), cs e r, cw e w)
    rw [sst1_ok]
    rcases hk with rfl | rfl
    · rw [cv_i (beq_t g)]
      exact if_pos (blt_t g2)
    · rw [cv_r (beq_t g)]
      exact if_pos (blt_t g2)
theorem hst2_ok {n i : Nat} (hb : ∀ lv st w, bstep (bE scr) nL o pc lv st w = bstl 1 nL pc n i lv st w) : hO scr nL pc o (hst2 (pc + n) i nL) := by
  intro e C lv st w q hR hC h1
  unfold hst2 at h1
  split at h1
  · cases h1
  · rename_i v r
    obtain ⟨g, h1⟩ := cond_none h1
    obtain ⟨g2, h1⟩ := cond_none h1
    cases h1
    rw [hb]
    show bstl 1 nL pc n i (cvs e lv) (cv e v :: cs e r) (cw e w) = some (pc + n, cvs e ((i, v) :: sfl2 lv i), cs e r, cw e w)
    rw [sst2_ok, cv_l (beq_t g)]
    exact if_pos (blt_t g2)
theorem hinc_ok {i : Nat} {n : Int} (hb : ∀ lv st w, bstep (bE scr) nL o pc lv st w = binc nL pc i n lv st w) : hO scr nL pc o (hinc (pc + 3) i (uI (Int32.ofInt n)) nL) := by
  intro e C lv st w q hR hC h1
  unfold hinc at h1
  split at h1
  · cases h1
  · rename_i v hv
    split at h1
    · cases h1
    · rename_i a ha
      obtain ⟨g, h1⟩ := cond_none h1
      rw [frc_eq] at h1
      cases h1
      rw [hb]
      have h2 := slk_ok (e := e) hv
      show _ = some (pc + 3, cvs e ((i, (0, aI a (uI (Int32.ofInt n)))) :: sfl1 lv i), cs e st, cw e w)
      rw [sst1_ok, cv_0, ← cbI_add, cbI_u]
      unfold binc
      rw [h2, sri_ok hC ha]
      exact if_pos (blt_t g)
theorem hi2_ok {f : Nat → Nat → Option Nat} {F : Int32 → Int32 → Option Int32} (hb : ∀ lv st w, bstep (bE scr) nL o pc lv st w = bi2 pc lv st w F) (hf : ∀ a b z, f a b = some z → F (cI a) (cI b) = some (cI z)) : hO scr nL pc o (hi2 (pc + 1) f) := by
  intro e C lv st w q hR hC h1
  unfold hi2 at h1
  split at h1
  · rename_i y x r
    split at h1
    · cases h1
    · rename_i b hy
      split at h1
      · cases h1
      · rename_i a hx
        split at h1
        · cases h1
        · rename_i z hz
          rw [frc_eq] at h1
          cases h1
          rw [hb]
          show bi2 pc (cvs e lv) (cv e y :: cv e x :: cs e r) (cw e w) F = some (pc + 1, cvs e lv, .inl (cI z) :: cs e r, cw e w)
          rw [sri_ok hC hy, sri_ok hC hx]
          exact bi2_eq (hf a b z hz)
  · cases h1
theorem hl2_ok {f : Nat → Nat → Option Nat} {F : Int64 → Int64 → Option bV} (hb : ∀ lv st w, bstep (bE scr) nL o pc lv st w = bl2 pc lv st w F) (hf : ∀ a b z, f a b = some z → F (cL a) (cL b) = some (.inr (.inl (cL z)))) : hO scr nL pc o (hl2 (pc + 1) f) := by
  intro e C lv st w q hR hC h1
  unfold hl2 at h1
  split at h1
  · rename_i y x r
    split at h1
    · cases h1
    · rename_i b hy
      split at h1
      · cases h1
      · rename_i a hx
        split at h1
        · cases h1
        · rename_i z hz
          rw [frc_eq] at h1
          cases h1
          rw [hb]
          show bl2 pc (cvs e lv) (cv e y :: cv e x :: cs e r) (cw e w) F = some (pc + 1, cvs e lv, .inr (.inl (cL z)) :: cs e r, cw e w)
          rw [srl_ok hC hy, srl_ok hC hx]
          exact bl2_eq (hf a b z hz)
  · cases h1
theorem hi1_ok {k : Nat} {f : Nat → Nat} {F : Int32 → bV} (hb : ∀ lv st w, bstep (bE scr) nL o pc lv st w = bi1 pc lv st w F) (hf : ∀ e a, F (cI a) = cv e (k, f a)) : hO scr nL pc o (hi1 (pc + 1) k f) := by
  intro e C lv st w q hR hC h1
  unfold hi1 at h1
  split at h1
  · rename_i x r
    split at h1
    · cases h1
    · rename_i a hx
      rw [frc_eq] at h1
      cases h1
      rw [hb]
      show bi1 pc (cvs e lv) (cv e x :: cs e r) (cw e w) F = some (pc + 1, cvs e lv, cv e (k, f a) :: cs e r, cw e w)
      rw [sri_ok hC hx, ← hf e a]
      rfl
  · cases h1
theorem hl1_ok {k : Nat} {f : Nat → Nat} {F : Int64 → bV} (hb : ∀ lv st w, bstep (bE scr) nL o pc lv st w = bl1 pc lv st w F) (hf : ∀ e a, F (cL a) = cv e (k, f a)) : hO scr nL pc o (hl1 (pc + 1) k f) := by
  intro e C lv st w q hR hC h1
  unfold hl1 at h1
  split at h1
  · rename_i x r
    split at h1
    · cases h1
    · rename_i a hx
      rw [frc_eq] at h1
      cases h1
      rw [hb]
      show bl1 pc (cvs e lv) (cv e x :: cs e r) (cw e w) F = some (pc + 1, cvs e lv, cv e (k, f a) :: cs e r, cw e w)
      rw [srl_ok hC hx, ← hf e a]
      rfl
  · cases h1
theorem hor_ok {f g : sH} (hf : hO scr nL pc o f) (hg : hO scr nL pc o g) : hO scr nL pc o (hor f g) := by
  intro e C lv st w q hR hC h1
  unfold hor at h1
  split at h1
  · rename_i z hz
    cases h1
    exact hf e C lv st w _ hR hC hz
  · exact hg e C lv st w q hR hC h1
theorem hi2lv_ok (hb : ∀ lv st w, bstep (bE scr) nL o pc lv st w = bi1 pc lv st w (fun x => .inr (.inl x.toInt64))) : hO scr nL pc o (hi2lv (pc + 1)) := by
  intro e C lv st w q hR hC h1
  unfold hi2lv at h1
  split at h1
  · rename_i x r
    obtain ⟨g, h1⟩ := cond_none h1
    cases h1
    obtain ⟨t, n⟩ := x
    have := beq_t g
    subst this
    rw [hb]
    show bi1 pc (cvs e lv) (cv e (4, n) :: cs e r) (cw e w) _ = some (pc + 1, cvs e lv, cv e (5, n) :: cs e r, cw e w)
    rw [cv_4, cv_5]
    rfl
  · cases h1
theorem hi2cv_ok (hb : ∀ lv st w, bstep (bE scr) nL o pc lv st w = bi1 pc lv st w (fun x => .inl (x.toUInt32 % 65536).toInt32)) : hO scr nL pc o (hi2cv (pc + 1)) := by
  intro e C lv st w q hR hC h1
  unfold hi2cv at h1
  split at h1
  · rename_i x r
    obtain ⟨g, h1⟩ := cond_none h1
    obtain ⟨g2, h1⟩ := cond_none h1
    cases h1
    obtain ⟨t, n⟩ := x
    have := beq_t g
    subst this
    rw [hb]
    show bi1 pc (cvs e lv) (cv e (4, n) :: cs e r) (cw e w) _ = some (pc + 1, cvs e lv, cv e (4, n + 6) :: cs e r, cw e w)
    rw [cv_4, cv_4, hR.2.2.1 n (blt_t g2)]
    rfl
  · cases h1
theorem handv_ok (hb : ∀ lv st w, bstep (bE scr) nL o pc lv st w = bi2 pc lv st w (fun x y => some (x &&& y))) : hO scr nL pc o (handv (pc + 1)) := by
  intro e C lv st w q hR hC h1
  unfold handv at h1
  split at h1
  · rename_i y x r
    obtain ⟨g, h1⟩ := cond_none h1
    obtain ⟨g2, h1⟩ := cond_none h1
    obtain ⟨g3, h1⟩ := cond_none h1
    obtain ⟨g4, h1⟩ := cond_none h1
    cases h1
    obtain ⟨t, n⟩ := x
    obtain ⟨t1, n1⟩ := y
    have := beq_t g
    subst this
    have := beq_t g2
    subst this
    have := beq_t g3
    subst this
    have := beq_t g4
    subst this
    rw [hb]
    show _ = some (pc + 1, cvs e lv, .inl (e.1 12) :: cs e r, cw e w)
    rw [hR.2.2.2.1]
    rfl
  · cases h1
theorem hshlv_ok (hb : ∀ lv st w, bstep (bE scr) nL o pc lv st w = bls pc lv st w (fun x y => x <<< (y.toInt64 &&& 63))) : hO scr nL pc o (hshlv (pc + 1)) := by
  intro e C lv st w q hR hC h1
  unfold hshlv at h1
  split at h1
  · rename_i y x r
    obtain ⟨g, h1⟩ := cond_none h1
    obtain ⟨g2, h1⟩ := cond_none h1
    obtain ⟨g3, h1⟩ := cond_none h1
    obtain ⟨g4, h1⟩ := cond_none h1
    cases h1
    obtain ⟨t, n⟩ := x
    obtain ⟨t1, n1⟩ := y
    have := beq_t g
    subst this
    have := beq_t g2
    subst this
    have := beq_t g3
    subst this
    have := beq_t g4
    subst this
    rw [hb]
    show _ = some (pc + 1, cvs e lv, .inr (.inl (e.2.1 0)) :: cs e r, cw e w)
    rw [hR.2.2.2.2.2.1]
    rfl
  · cases h1
theorem hlandv_ok (hb : ∀ lv st w, bstep (bE scr) nL o pc lv st w = bl2 pc lv st w (fun x y => some (.inr (.inl (x &&& y))))) : hO scr nL pc o (hlandv (pc + 1)) := by
  intro e C lv st w q hR hC h1
  unfold hlandv at h1
  split at h1
  · rename_i y x r
    obtain ⟨g, h1⟩ := cond_none h1
    obtain ⟨g2, h1⟩ := cond_none h1
    obtain ⟨g3, h1⟩ := cond_none h1
    obtain ⟨g4, h1⟩ := cond_none h1
    cases h1
    obtain ⟨t, n⟩ := x
    obtain ⟨t1, n1⟩ := y
    have := beq_t g
    subst this
    have := beq_t g2
    subst this
    have := beq_t g3
    subst this
    have := beq_t g4
    subst this
    rw [hb]
    show _ = some (pc + 1, cvs e lv, .inr (.inl (e.2.1 1)) :: cs e r, cw e w)
    rw [hR.2.2.2.2.2.2.1]
    rfl
  · cases h1
theorem hlorv_ok (hb : ∀ lv st w, bstep (bE scr) nL o pc lv st w = bl2 pc lv st w (fun x y => some (.inr (.inl (x ||| y))))) : hO scr nL pc o (hlorv (pc + 1)) := by
  intro e C lv st w q hR hC h1
  unfold hlorv at h1
  split at h1
  · rename_i y x r
    obtain ⟨g, h1⟩ := cond_none h1
    obtain ⟨g2, h1⟩ := cond_none h1
    obtain ⟨g3, h1⟩ := cond_none h1
    obtain ⟨g4, h1⟩ := cond_none h1
    cases h1
    obtain ⟨t, n⟩ := x
    obtain ⟨t1, n1⟩ := y
    have := beq_t g
    subst this
    have := beq_t g2
    subst this
    have := beq_t g3
    subst this
    have := beq_t g4
    subst this
    rw [hb]
    show _ = some (pc + 1, cvs e lv, .inr (.inl (e.2.1 2)) :: cs e r, cw e w)
    rw [hR.2.2.2.2.2.2.2]
    rfl
  · cases h1
theorem hlcmp_ok (hb : ∀ lv st w, bstep (bE scr) nL o pc lv st w = bl2 pc lv st w (fun x y => some (.inl (lg_cmp x y)))) : hO scr nL pc o (hlcmp (pc + 1)) := by
  intro e C lv st w q hR hC h1
  unfold hlcmp at h1
  split at h1
  · rename_i y x r
    split at h1
    · rename_i p q' hp hq
      obtain ⟨X, hX, x1, x2⟩ := sil_ok hC hp
      obtain ⟨Y, hY, y1, y2⟩ := sil_ok hC hq
      rw [hb]
      have E : bl2 pc (cvs e lv) (cs e (y :: x :: r)) (cw e w) (fun x y => some (.inl (lg_cmp x y))) = some (pc + 1, cvs e lv, .inl (lg_cmp X Y) :: cs e r, cw e w) := by
        show bl2 pc (cvs e lv) (cv e y :: cv e x :: cs e r) (cw e w) _ = _
        rw [hX, hY]
        rfl
      rw [E]
      rcases cond_two h1 with ⟨g, h1⟩ | ⟨-, h1⟩
      · cases h1
        have g := blt_t g
        have hn : ¬ X > Y := fun h => by have := bsL_lt.mp h; omega
        have he : ¬ X = Y := fun h => by have := bsL_inj.mp h; omega
        show some (pc + 1, cvs e lv, Sum.inl (lg_cmp X Y) :: cs e r, cw e w) = some (pc + 1, cvs e lv, .inl (cI 4294967295) :: cs e r, cw e w)
        unfold lg_cmp
        rw [if_neg hn, if_neg he]
        rfl
      · rcases cond_two h1 with ⟨g, h1⟩ | ⟨-, h1⟩
        · cases h1
          have g := blt_t g
          have hn : X > Y := bsL_lt.mpr (by omega)
          show some (pc + 1, cvs e lv, Sum.inl (lg_cmp X Y) :: cs e r, cw e w) = some (pc + 1, cvs e lv, .inl (cI 1) :: cs e r, cw e w)
          unfold lg_cmp
          rw [if_pos hn]
          rfl
        · rcases cond_two h1 with ⟨g, h1⟩ | ⟨-, h1⟩
          · cases h1
            have g3 : scEq p.1 p.2 q'.1 q'.2 = some true := by
              revert g
              cases scEq p.1 p.2 q'.1 q'.2 with
              | none => intro g; cases g
              | some b => cases b with
                | false => intro g; cases g
                | true => intro _; rfl
            have g4 := of_decide_eq_true (scEq_ok ⟨x1, x2⟩ ⟨y1, y2⟩ g3)
            have he : X = Y := bsL_inj.mpr g4
            have hn : ¬ X > Y := fun h => by have := bsL_lt.mp h; omega
            show some (pc + 1, cvs e lv, Sum.inl (lg_cmp X Y) :: cs e r, cw e w) = some (pc + 1, cvs e lv, .inl (cI 0) :: cs e r, cw e w)
            unfold lg_cmp
            rw [if_neg hn, if_pos he]
            rfl
          · obtain ⟨g, h1⟩ := cond_none h1
            obtain ⟨g2, h1⟩ := cond_none h1
            obtain ⟨g3, h1⟩ := cond_none h1
            cases h1
            obtain ⟨t, n⟩ := x
            obtain ⟨t1, n1⟩ := y
            have := beq_t g
            subst this
            have := beq_t g2
            subst this
            have g3 : n < 64 := blt_t g3
            rw [cv_5] at hX
            rw [cv_1] at hY
            cases hX
            cases hY
            show _ = some (pc + 1, cvs e lv, cv e (8, n1 * 64 + n) :: cs e r, cw e w)
            rw [cv_8, show (n1 * 64 + n) % 64 = n by omega, show (n1 * 64 + n) / 64 = n1 by omega]
    · cases h1
  · cases h1
theorem hdup_ok (hb : ∀ lv st w, bstep (bE scr) nL o pc lv st w = bdup pc lv st w) : hO scr nL pc o (hdup (pc + 1)) := by
  intro e C lv st w q hR hC h1
  unfold hdup at h1
  split at h1
  · rename_i v r
    rcases cond_two h1 with ⟨g, h1⟩ | ⟨g, h1⟩
    · cases h1
    · cases h1
      rw [hb]
      have h2 : bvc (cv e v) = 1 := by
        rw [bvc_cv, if_neg (fun h => by rw [h] at g; cases g)]
      exact if_pos h2
  · cases h1
theorem hpop_ok (hb : ∀ lv st w, bstep (bE scr) nL o pc lv st w = bpop pc lv st w) : hO scr nL pc o (hpop (pc + 1)) := by
  intro e C lv st w q hR hC h1
  unfold hpop at h1
  split at h1
  · rename_i v r
    rcases cond_two h1 with ⟨g, h1⟩ | ⟨g, h1⟩
    · cases h1
    · cases h1
      rw [hb]
      have h2 : bvc (cv e v) = 1 := by
        rw [bvc_cv, if_neg (fun h => by rw [h] at g; cases g)]
      exact if_pos h2
  · cases h1
theorem hdup2_ok (hb : ∀ lv st w, bstep (bE scr) nL o pc lv st w = bdup2 pc lv st w) : hO scr nL pc o (hdup2 (pc + 1)) := by
  intro e C lv st w q hR hC h1
  unfold hdup2 at h1
  split at h1
  · rename_i v r
    rcases cond_two h1 with ⟨g, h1⟩ | ⟨g, h1⟩
    · cases h1
      rw [hb]
      have h2 : bvc (cv e v) = 2 := by rw [bvc_cv, if_pos (beq_t g)]
      exact if_pos h2
    · have h2 : bvc (cv e v) = 1 := by
        rw [bvc_cv, if_neg (fun h => by rw [h] at g; cases g)]
      cases r with
      | nil => cases h1
      | cons u r' =>
        have h1 : cond (Nat.beq (u.1 % 4) 1) none (some (pc + 1, lv, v :: u :: v :: u :: r', w)) = some q := h1
        rcases cond_two h1 with ⟨g3, h1⟩ | ⟨g3, h1⟩
        · cases h1
        · cases h1
          have h3 : bvc (cv e u) = 1 := by
            rw [bvc_cv, if_neg (fun h => by rw [h] at g3; cases g3)]
          rw [hb]
          show (if bvc (cv e v) = 2 then _ else (if bvc (cv e v) = 1 ∧ bvc (cv e u) = 1 then _ else _)) = _
          rw [if_neg (by rw [h2]; decide), if_pos ⟨h2, h3⟩]
          rfl
  · cases h1
theorem hpop2_ok (hb : ∀ lv st w, bstep (bE scr) nL o pc lv st w = bpop2 pc lv st w) : hO scr nL pc o (hpop2 (pc + 1)) := by
  intro e C lv st w q hR hC h1
  unfold hpop2 at h1
  split at h1
  · rename_i v r
    obtain ⟨g, h1⟩ := cond_none h1
    cases h1
    rw [hb]
    have h2 : bvc (cv e v) = 2 := by rw [bvc_cv, if_pos (beq_t g)]
    exact if_pos h2
  · cases h1
theorem hjf_ok {cd : ClassFile.Cond} {a : Nat} (hb : ∀ lv st w, bstep (bE scr) nL o pc lv st w = bjf cd pc a lv st w) : hO scr nL pc o (hjf cd (pc + 3) a) := by
  intro e C lv st w q hR hC h1
  unfold hjf at h1
  split at h1
  · rename_i x r
    split at h1
    · rename_i b hb2
      cases h1
      rw [hb]
      have E : ∃ X, cv e x = .inl X ∧ bcmp cd X 0 = b := by
        rcases cond_two hb2 with ⟨g, h2⟩ | ⟨g, h2⟩
        · obtain ⟨t, n⟩ := x
          have := beq_t g
          subst this
          refine ⟨_, cv_8, ?_⟩
          refine lgc_ok (by rw [bsL_i2l]; exact hC _) ?_ h2
          rw [bsL_c]
          exact ⟨Nat.le_refl _, Nat.le_refl _⟩
        · split at h2
          · rename_i p hp
            obtain ⟨X, hX, x1, x2⟩ := siv_ok hC hp
            exact ⟨X, hX, scmp_ok ⟨x1, x2⟩ (by decide) h2⟩
          · cases h2
      obtain ⟨X, hX, hc⟩ := E
      show bjf cd pc a (cvs e lv) (cv e x :: cs e r) (cw e w) = some (cond b a (pc + 3), cvs e lv, cs e r, cw e w)
      rw [hX]
      exact bjf_eq hc
    · cases h1
  · cases h1
theorem hjc_ok {cd : ClassFile.Cond} {a : Nat} (hb : ∀ lv st w, bstep (bE scr) nL o pc lv st w = bjc cd pc a lv st w) : hO scr nL pc o (hjc cd (pc + 3) a) := by
  intro e C lv st w q hR hC h1
  unfold hjc at h1
  split at h1
  · rename_i y x r
    split at h1
    · rename_i p q' hp hq
      split at h1
      · rename_i b hb2
        cases h1
        rw [hb]
        obtain ⟨X, hX, x1, x2⟩ := siv_ok hC hp
        obtain ⟨Y, hY, y1, y2⟩ := siv_ok hC hq
        show bjc cd pc a (cvs e lv) (cv e y :: cv e x :: cs e r) (cw e w) = some (cond b a (pc + 3), cvs e lv, cs e r, cw e w)
        rw [hX, hY]
        exact bjc_eq (scmp_ok ⟨x1, x2⟩ ⟨y1, y2⟩ hb2)
      · cases h1
    · cases h1
  · cases h1
end SOK
