/-! THE RUN, for the kernel. -/
abbrev sFr : Type := Nat × Nat × Nat × List (Nat × sV) × List sV
def cfs (e : sE) (fs : List sFr) : List bFr := fs.map (fun f => (f.1, f.2.1, f.2.2.1, cvs e f.2.2.2.1, cs e f.2.2.2.2))
noncomputable def sfetch (mi pc : Nat) : Option sO := match bop mi pc with
  | none => none
  | some o => some (comp (bmeth mi).2.2.2.1 (bmeth mi).2.2.2.2.isEmpty (bmeth mi).2.2.1 pc (bmeth o.2.2.1).2.2.1 o)
def ssp (n : Nat) (st acc : List sV) : Option (List sV × List sV) := match n with
  | 0 => some (acc, st)
  | n + 1 => match st with
    | [] => none
    | v :: r => ssp n r (v :: acc)
theorem ssp_ok : ∀ {n : Nat} {st acc a b : List sV}, ssp n st acc = some (a, b) → n ≤ st.length ∧ a = (st.take n).reverse ++ acc ∧ b = st.drop n := by
  intro n
  induction n with
  | zero => intro st acc a b h; cases h; exact ⟨Nat.zero_le _, rfl, rfl⟩
  | succ n ih =>
    intro st acc a b h
    cases st with
    | nil => cases h
    | cons v r =>
      obtain ⟨h1, h2, h3⟩ := ih h
      refine ⟨by simp only [List.length_cons]; omega, ?_, h3⟩
      rw [h2]
      simp
def slva (i : Nat) (vs : List sV) : List (Nat × sV) := match vs with
  | [] => []
  | v :: t => (i, v) :: slva (i + cond (Nat.beq (v.1 % 4) 1) 2 1) t
theorem bvc_cond {e : sE} {v : sV} : bvc (cv e v) = cond (Nat.beq (v.1 % 4) 1) 2 1 := by
  rw [bvc_cv]
  by_cases h : v.1 % 4 = 1
  · rw [if_pos h, h]; rfl
  · rw [if_neg h, nbeq_n h]; rfl
theorem slva_ok {e : sE} {vs : List sV} : ∀ {i : Nat}, cvs e (slva i vs) = blva i (cs e vs) := by
  induction vs with
  | nil => intro i; rfl
  | cons v t ih =>
    intro i
    show (i, cv e v) :: cvs e (slva (i + cond (Nat.beq (v.1 % 4) 1) 2 1) t) = (i, cv e v) :: blva (i + bvc (cv e v)) (cs e t)
    rw [ih, bvc_cond]
noncomputable def sunw (fs : List sFr) (x : String) : Option (sFr × List sFr) := match fs with
  | [] => none
  | f :: r => match bop f.2.1 f.2.2.1 with
    | none => none
    | some o => cond (bnsp o) (cond ((bmeth f.2.1).2.2.2.2.isEmpty) (sunw r x) (match bhand (bmeth f.2.1).2.2.2.2 f.2.2.1 x bcok with
      | none => none
      | some hp => match bop f.2.1 hp with
        | none => none
        | some o2 => match bastk o2.1 with
          | none => none
          | some ik => cond (Nat.blt ik.1 (bmeth f.2.1).2.2.1) (some ((f.1, f.2.1, hp + ik.2, sfl1 f.2.2.2.1 ik.1, []), r)) none)) none
def sret (C : sK_s) (rk : Nat) (st : List sV) : Option (Option sV) := match rk with
  | 5 => (match st with | [] => some none | _ => none)
  | rk => (match st with | [v] => cond (okf C rk v) (some (some v)) none | _ => none)
def scov (lo hi : Nat) (l : List (Nat × Nat)) : Bool := match l with
  | [] => Nat.blt hi lo
  | q :: t => cond (Nat.ble q.1 lo) (scov (q.2 + 1) hi t) false
theorem scov_ok {hi x : Nat} {l : List (Nat × Nat)} : ∀ {lo : Nat}, scov lo hi l = true → lo ≤ x → x ≤ hi → ∃ q ∈ l, q.1 ≤ x ∧ x ≤ q.2 := by
  induction l with
  | nil => intro lo h h1 h2; have := blt_t h; omega
  | cons q t ih =>
    intro lo h h1 h2
    rcases cond_two h with ⟨g, h⟩ | ⟨-, h⟩
    · have g := ble_t g
      by_cases hx : x ≤ q.2
      · exact ⟨q, List.mem_cons_self, by omega, hx⟩
      · obtain ⟨q', m, h3⟩ := ih h (by omega) h2
        exact ⟨q', List.mem_cons_of_mem _ m, h3⟩
    · cases h
abbrev sG : Type := sK_s → Nat → Nat → Nat → List (Nat × sV) → List sV → sW → List sFr → Bool
noncomputable def scl (ih : sG) (C : sK_s) (d mi pc : Nat) (lv : List (Nat × sV)) (w : sW) (fs : List sFr) (code a n : Nat) (v : Int) (args rest : List sV) : Bool := match code with
  | 1 => cond (Nat.ble (ssum rest) 8) (cond (Nat.ble (ssum args) n) (ih C d a 0 (slva 0 args) [] w ((d + 1, mi, pc, lv, rest) :: fs)) false) false
  | 2 => (match rest with
    | [] => false
    | x :: rest => cond (Nat.beq x.1 2) (cond (Nat.blt x.2 w.1) (match tget 10 w.2.2 x.2 with
      | (k, ty, _, _) => cond (Nat.beq k 0) (cond (decide ((ty : Int) = v)) (cond (Nat.ble (ssum rest) 8) (cond (Nat.ble (ssum (x :: args)) n) (ih C d a 0 (slva 0 (x :: args)) [] w ((d + 1, mi, pc, lv, rest) :: fs)) false) false) false) false) false) false)
  | 3 => (match rest with
    | [] => false
    | x :: rest => cond (Nat.beq x.1 2) (cond (Nat.ble (ssum rest) 8) (cond (Nat.ble (ssum (x :: args)) n) (ih C d a 0 (slva 0 (x :: args)) [] w ((d + 1, mi, pc, lv, rest) :: fs)) false) false) false)
  | _ => false
noncomputable def sbody (fin : sK_s → Option sV → sW → Bool) (ih : sG) : sG := fun C d mi pc lv st w fs => frc pc (fun pc => match sfetch mi pc with
  | none => false
  | some (code, f, g, a, b, n, v) => match code with
    | 0 => (match f C lv st w with
      | some (pc', lv', st', w') => ih C d mi pc' lv' st' w' fs
      | none => (match g C st with
        | none => false
        | some (j, l) => cond (scov (sget C j).1 (sget C j).2 l) (l.all (fun q => ih ((j, q.1, q.2) :: C) d mi pc lv st w fs)) false))
    | 4 => (match sret C a st with
      | none => false
      | some z => (match fs with
        | [] => fin C z w
        | f :: fs => ih C f.1 f.2.1 (f.2.2.1 + 3) f.2.2.2.1 (z.toList ++ f.2.2.2.2) w fs))
    | 5 => (match st with
      | [] => (match sunw fs (bexx a).1 with
        | none => false
        | some (f, fs) => ih C f.1 f.2.1 f.2.2.1 f.2.2.2.1 f.2.2.2.2 (w.1, w.2.1 + 1, w.2.2) fs)
      | _ => false)
    | code => (match d with
      | 0 => false
      | d + 1 => (match ssp b st [] with
        | none => false
        | some (args, rest) => scl ih C d mi pc lv w fs code a n v args rest)))
noncomputable def sexec (fin : sK_s → Option sV → sW → Bool) (z : sG) (n : Nat) : sG := Nat.rec (motive := fun _ => sG) z (fun _ ih => sbody fin ih) n
section RUN2
variable {scr : List Int32} {F : bR → bW → Prop} {e : sE}
theorem comp_call {ret : Option FieldType} {he : Bool} {nL pc nL2 c a b n : Nat} {v : Int} {f : sH} {g : sX} {o : bO} (h : comp ret he nL pc nL2 o = (c, f, g, a, b, n, v)) (h0 : c ≠ 0) (h4 : c ≠ 4) (h5 : c ≠ 5) (h9 : c ≠ 9) :
    n = nL2 ∧ a = o.2.2.1 ∧ b = o.2.2.2.1 ∧ v = o.2.2.2.2 ∧ ((c = 1 ∧ ∃ ix, o.1 = .invokestatic ix) ∨ (c = 2 ∧ ∃ ix, o.1 = .invokevirtual ix) ∨ (c = 3 ∧ v = 0 ∧ ∃ ix, o.1 = .invokespecial ix)) := by
  obtain ⟨ins, ln, a', b', v'⟩ := o
  cases ins with
  | invokestatic ix => cases h; exact ⟨rfl, rfl, rfl, rfl, Or.inl ⟨rfl, _, rfl⟩⟩
  | invokevirtual ix => cases h; exact ⟨rfl, rfl, rfl, rfl, Or.inr (Or.inl ⟨rfl, _, rfl⟩)⟩
  | invokespecial ix =>
    have h : (if v' = 1 then (0, hobj (pc + 3), fno, 0, 0, 0, 0) else if v' = 0 then (3, fun _ _ _ _ => none, fno, a', b', nL2, v') else (9, fun _ _ _ _ => none, fno, 0, 0, 0, 0) : sO) = (c, f, g, a, b, n, v) := h
    split at h
    · cases h; exact absurd rfl h0
    · split at h
      · rename_i hv
        cases h
        exact ⟨rfl, rfl, rfl, rfl, Or.inr (Or.inr ⟨rfl, hv, _, rfl⟩)⟩
      · cases h; exact absurd rfl h9
  | new ix =>
    have h : (if v' = 0 then (0, hnew (pc + 3) a', fno, 0, 0, 0, 0) else if v' = 1 ∧ he = true then (5, fun _ _ _ _ => none, fno, a', ix, 0, 0) else (9, fun _ _ _ _ => none, fno, 0, 0, 0, 0) : sO) = (c, f, g, a, b, n, v) := h
    split at h
    · cases h; exact absurd rfl h0
    · split at h
      · cases h; exact absurd rfl h5
      · cases h; exact absurd rfl h9
  | ireturn =>
    cases ret with
    | none => cases h; exact absurd rfl h9
    | some t => cases t <;> (cases h; first | exact absurd rfl h9 | exact absurd rfl h4)
  | lreturn =>
    cases ret with
    | none => cases h; exact absurd rfl h9
    | some t => cases t <;> (cases h; first | exact absurd rfl h9 | exact absurd rfl h4)
  | areturn =>
    cases ret with
    | none => cases h; exact absurd rfl h9
    | some t => cases t <;> (cases h; first | exact absurd rfl h9 | exact absurd rfl h4)
  | return_ =>
    cases ret with
    | none => cases h; exact absurd rfl h4
    | some t => cases h; exact absurd rfl h9
  | _ => cases h; first | exact absurd rfl h0 | exact absurd rfl h9
theorem comp_thr {ret : Option FieldType} {he : Bool} {nL pc nL2 a b n : Nat} {v : Int} {f : sH} {g : sX} {o : bO} (h : comp ret he nL pc nL2 o = (5, f, g, a, b, n, v)) : a = o.2.2.1 ∧ he = true ∧ o.2.2.2.2 = 1 ∧ ∃ ix, o.1 = .new ix := by
  obtain ⟨ins, ln, a', b', v'⟩ := o
  cases ins with
  | invokespecial ix =>
    have h : (if v' = 1 then (0, hobj (pc + 3), fno, 0, 0, 0, 0) else if v' = 0 then (3, fun _ _ _ _ => none, fno, a', b', nL2, v') else (9, fun _ _ _ _ => none, fno, 0, 0, 0, 0) : sO) = (5, f, g, a, b, n, v) := h
    split at h
    · cases h
    · split at h <;> cases h
  | new ix =>
    have h : (if v' = 0 then (0, hnew (pc + 3) a', fno, 0, 0, 0, 0) else if v' = 1 ∧ he = true then (5, fun _ _ _ _ => none, fno, a', ix, 0, 0) else (9, fun _ _ _ _ => none, fno, 0, 0, 0, 0) : sO) = (5, f, g, a, b, n, v) := h
    split at h
    · cases h
    · split at h
      · rename_i hv
        cases h
        exact ⟨rfl, hv.2, hv.1, _, rfl⟩
      · cases h
  | ireturn =>
    cases ret with
    | none => cases h
    | some t => cases t <;> cases h
  | lreturn =>
    cases ret with
    | none => cases h
    | some t => cases t <;> cases h
  | areturn =>
    cases ret with
    | none => cases h
    | some t => cases t <;> cases h
  | return_ =>
    cases ret with
    | none => cases h
    | some t => cases h
  | _ => cases h
theorem bokf_i {t : FieldType} {v : bV} (h : bokf t v = true) (hk : kf t = 0 ∨ kf t = 2 ∨ kf t = 3) : ∃ x, v = .inl x := by
  rcases v with x | x | q
  · exact ⟨x, rfl⟩
  · cases t <;> first | (cases h; done) | (rcases hk with hk | hk | hk <;> cases hk)
  · cases t <;> first | (cases h; done) | (rcases hk with hk | hk | hk <;> cases hk)
theorem sret_inv {C : sK_s} {rk : Nat} {st : List sV} {z : Option sV} (h : sret C rk st = some z) (hk : rk ≠ 5) : ∃ v, st = [v] ∧ z = some v ∧ okf C rk v = true := by
  unfold sret at h
  split at h
  · exact absurd rfl hk
  · split at h
    · obtain ⟨g, h⟩ := cond_none h
      cases h
      exact ⟨_, rfl, rfl, g⟩
    · cases h
theorem comp_ret {C : sK_s} (hC : cok_s e C) {ret : Option FieldType} {he : Bool} {nL pc nL2 a b n : Nat} {v : Int} {f : sH} {g : sX} {o : bO} {st : List sV} {z : Option sV} (h : comp ret he nL pc nL2 o = (4, f, g, a, b, n, v)) (hz : sret C a st = some z) : bret o ret (cs e st) = some (z.map (cv e)) := by
  obtain ⟨ins, ln, a', b', v'⟩ := o
  have RI : ∀ t : FieldType, ret = some t → (kf t = 0 ∨ kf t = 2 ∨ kf t = 3) → a = kf t → bret (.ireturn, ln, a', b', v') ret (cs e st) = some (z.map (cv e)) := by
    intro t ht hk ha
    subst ha
    obtain ⟨u, rfl, rfl, hu⟩ := sret_inv hz (by rcases hk with hk | hk | hk <;> rw [hk] <;> decide)
    have h1 := okf_ok (e := e) hC hu
    obtain ⟨x, hx⟩ := bokf_i h1 hk
    rw [ht]
    show bret (.ireturn, ln, a', b', v') (some t) [cv e u] = some (some (cv e u))
    rw [hx] at h1 ⊢
    exact if_pos h1
  cases ins with
  | invokespecial ix =>
    have h : (if v' = 1 then (0, hobj (pc + 3), fno, 0, 0, 0, 0) else if v' = 0 then (3, fun _ _ _ _ => none, fno, a', b', nL2, v') else (9, fun _ _ _ _ => none, fno, 0, 0, 0, 0) : sO) = (4, f, g, a, b, n, v) := h
    split at h
    · cases h
    · split at h <;> cases h
  | new ix =>
    have h : (if v' = 0 then (0, hnew (pc + 3) a', fno, 0, 0, 0, 0) else if v' = 1 ∧ he = true then (5, fun _ _ _ _ => none, fno, a', ix, 0, 0) else (9, fun _ _ _ _ => none, fno, 0, 0, 0, 0) : sO) = (4, f, g, a, b, n, v) := h
    split at h
    · cases h
    · split at h <;> cases h
  | ireturn =>
    cases ret with
    | none => cases h
    | some t =>
      cases t with
      | int => cases h; exact RI .int rfl (Or.inl rfl) rfl
      | boolean => cases h; exact RI .boolean rfl (Or.inr (Or.inl rfl)) rfl
      | char => cases h; exact RI .char rfl (Or.inr (Or.inr rfl)) rfl
      | _ => cases h
  | lreturn =>
    cases ret with
    | none => cases h
    | some t =>
      cases t with
      | long =>
        cases h
        obtain ⟨u, rfl, rfl, hu⟩ := sret_inv hz (by decide)
        show bret (.lreturn, ln, a', b', v') (some .long) [cv e u] = some (some (cv e u))
        rw [cv_l (beq_t hu)]
        rfl
      | _ => cases h
  | areturn =>
    cases ret with
    | none => cases h
    | some t =>
      cases t with
      | object nm =>
        cases h
        obtain ⟨u, rfl, rfl, hu⟩ := sret_inv hz (by decide)
        show bret (.areturn, ln, a', b', v') (some (.object nm)) [cv e u] = some (some (cv e u))
        obtain ⟨q, hq⟩ := cv_o (e := e) (ble_t hu)
        rw [hq]
        rfl
      | array nm =>
        cases h
        obtain ⟨u, rfl, rfl, hu⟩ := sret_inv hz (by decide)
        show bret (.areturn, ln, a', b', v') (some (.array nm)) [cv e u] = some (some (cv e u))
        obtain ⟨q, hq⟩ := cv_o (e := e) (ble_t hu)
        rw [hq]
        rfl
      | _ => cases h
  | return_ =>
    cases ret with
    | none =>
      cases h
      cases st with
      | nil => cases hz; rfl
      | cons u r => cases hz
    | some t => cases h
  | _ => cases h
theorem sunw_ok {x : String} {w : bW} {f : sFr} : ∀ {fs fs' : List sFr}, sunw fs x = some (f, fs') → bRun (bPr scr) F f.1 f.2.1 f.2.2.1 (cvs e f.2.2.2.1) (cs e f.2.2.2.2) w (cfs e fs') → bRet (bPr scr) F (cfs e fs) (.inr x) w := by
  intro fs
  induction fs with
  | nil => intro fs' h; cases h
  | cons g r ih =>
    intro fs' h k
    unfold sunw at h
    split at h
    · cases h
    · rename_i o ho
      obtain ⟨hn, h⟩ := cond_none h
      rcases cond_two h with ⟨g1, h⟩ | ⟨-, h⟩
      · exact Or.inl ⟨⟨List.isEmpty_iff.mp g1, o, ho, hn⟩, ih h k⟩
      · split at h
        · cases h
        · rename_i hp hh
          split at h
          · cases h
          · rename_i o2 ho2
            split at h
            · cases h
            · rename_i ik hik
              obtain ⟨g2, h⟩ := cond_none h
              cases h
              obtain ⟨q, w', k1, k2⟩ := k
              refine Or.inr ⟨o, o2, hp, ik, ho, hh, ho2, hn, hik, blt_t g2, q, w', ?_, k2⟩
              have k1 : bX_s (bPr scr) g.1 g.2.1 (hp + ik.2) (cvs e (sfl1 g.2.2.2.1 ik.1)) [] w q w' := k1
              rw [sfl1_ok] at k1
              exact k1
theorem scl_ok (hR : sR scr e) {ih : sG} (hih : ∀ C d mi pc lv st w fs, cok_s e C → ih C d mi pc lv st w fs = true → bRun (bPr scr) F d mi pc (cvs e lv) (cs e st) (cw e w) (cfs e fs))
    {C : sK_s} (hC : cok_s e C) {d mi pc code a b n : Nat} {lv : List (Nat × sV)} {st : List sV} {w : sW} {fs : List sFr} {v : Int} {args rest : List sV} {o : bO} (ho : bop mi pc = some o) (hs : ssp b st [] = some (args, rest))
    (ha : a = o.2.2.1) (hb : b = o.2.2.2.1) (hv : v = o.2.2.2.2) (hn : n = (bmeth o.2.2.1).2.2.1) (hk : (code = 1 ∧ ∃ ix, o.1 = .invokestatic ix) ∨ (code = 2 ∧ ∃ ix, o.1 = .invokevirtual ix) ∨ (code = 3 ∧ v = 0 ∧ ∃ ix, o.1 = .invokespecial ix))
    (h : scl ih C d mi pc lv w fs code a n v args rest = true) : bRun (bPr scr) F (d + 1) mi pc (cvs e lv) (cs e st) (cw e w) (cfs e fs) := by
  obtain ⟨ins, ln, a', b', v'⟩ := o
  obtain ⟨s1, s2, s3⟩ := ssp_ok hs
  have ha : a = a' := ha
  have hb : b = b' := hb
  have hv : v = v' := hv
  have hn : n = (bmeth a').2.2.1 := hn
  subst ha hb hv hn
  rw [List.append_nil] at s2
  have e1 : (cs e st).take b = cs e (st.take b) := (List.map_take).symm
  have e2 : (cs e st).drop b = cs e rest := by rw [s3]; exact (List.map_drop).symm
  have e3 : ((cs e st).take b).reverse = cs e args := by rw [e1, s2]; exact (List.map_reverse).symm
  rcases hk with ⟨rfl, ix, hi⟩ | ⟨rfl, ix, hi⟩ | ⟨rfl, hv0, ix, hi⟩
  · have hi : ins = .invokestatic ix := hi
    subst hi
    have h : cond (Nat.ble (ssum rest) 8) (cond (Nat.ble (ssum args) (bmeth a).2.2.1) (ih C d a 0 (slva 0 args) [] w ((d + 1, mi, pc, lv, rest) :: fs)) false) false = true := h
    rcases cond_two h with ⟨g1, h⟩ | ⟨-, h⟩
    · rcases cond_two h with ⟨g2, h⟩ | ⟨-, h⟩
      · refine run_call (P := bPr scr) (q := (a, cs e args, cs e rest)) ho ?_ (by show _ ≤ (bmeth a).2.2.1; rw [ssum_ok]; exact ble_t g2) ?_
        · show (if b ≤ (cs e st).length ∧ (((cs e st).drop b).map bvc).sum ≤ 8 then some (a, ((cs e st).take b).reverse, (cs e st).drop b) else none) = _
          rw [e2, e3, if_pos ⟨by show b ≤ (st.map (cv e)).length; rw [List.length_map]; exact s1, by rw [ssum_ok]; exact ble_t g1⟩]
        · have k := hih _ _ _ _ _ _ _ _ hC h
          rw [slva_ok] at k
          exact k
      · cases h
    · cases h
  · have hi : ins = .invokevirtual ix := hi
    subst hi
    cases rest with
    | nil => cases h
    | cons x rest =>
      have h : cond (Nat.beq x.1 2) (cond (Nat.blt x.2 w.1) (match tget 10 w.2.2 x.2 with
        | (k, ty, _, _) => cond (Nat.beq k 0) (cond (decide ((ty : Int) = v)) (cond (Nat.ble (ssum rest) 8) (cond (Nat.ble (ssum (x :: args)) (bmeth a).2.2.1) (ih C d a 0 (slva 0 (x :: args)) [] w ((d + 1, mi, pc, lv, rest) :: fs)) false) false) false) false) false) false = true := h
      rcases cond_two h with ⟨g1, h⟩ | ⟨-, h⟩
      · rcases cond_two h with ⟨g2, h⟩ | ⟨-, h⟩
        · split at h
          rename_i k ty n T hT
          rcases cond_two h with ⟨g3, h⟩ | ⟨-, h⟩
          · rcases cond_two h with ⟨g4, h⟩ | ⟨-, h⟩
            · rcases cond_two h with ⟨g5, h⟩ | ⟨-, h⟩
              · rcases cond_two h with ⟨g6, h⟩ | ⟨-, h⟩
                · refine run_call (P := bPr scr) (q := (a, cs e (x :: args), cs e rest)) ho ?_ (by show _ ≤ (bmeth a).2.2.1; rw [ssum_ok]; exact ble_t g6) ?_
                  · show (match (cs e st).drop b with
                      | .inr (.inr (.inl r)) :: rest => (match (cw e w).1[r]? with
                        | some (.inl (ci, _)) => if (ci : Int) = v ∧ (rest.map bvc).sum ≤ 8 then some (a, .inr (.inr (.inl r)) :: ((cs e st).take b).reverse, rest) else none
                        | _ => none)
                      | _ => none) = some (a, cv e x :: cs e args, cs e rest)
                    have e4 : cs e (x :: rest) = .inr (.inr (.inl x.2)) :: cs e rest := by
                      show cv e x :: cs e rest = _
                      rw [cv_r (beq_t g1)]
                    have g3 := beq_t g3
                    subst g3
                    obtain ⟨d', T⟩ := T
                    have e5 : (cw e w).1[x.2]? = some (.inl (ty, tlst (cv e) d' n T)) := by rw [cw_get (blt_t g2), hT]; rfl
                    rw [e2, e3, e4, cv_r (beq_t g1)]
                    simp only [e5]
                    exact if_pos ⟨of_decide_eq_true g4, by rw [ssum_ok]; exact ble_t g5⟩
                  · have k := hih _ _ _ _ _ _ _ _ hC h
                    rw [slva_ok] at k
                    exact k
                · cases h
              · cases h
            · cases h
          · cases h
        · cases h
      · cases h
  · have hi : ins = .invokespecial ix := hi
    subst hi
    subst hv0
    cases rest with
    | nil => cases h
    | cons x rest =>
      have h : cond (Nat.beq x.1 2) (cond (Nat.ble (ssum rest) 8) (cond (Nat.ble (ssum (x :: args)) (bmeth a).2.2.1) (ih C d a 0 (slva 0 (x :: args)) [] w ((d + 1, mi, pc, lv, rest) :: fs)) false) false) false = true := h
      rcases cond_two h with ⟨g1, h⟩ | ⟨-, h⟩
      · rcases cond_two h with ⟨g5, h⟩ | ⟨-, h⟩
        · rcases cond_two h with ⟨g6, h⟩ | ⟨-, h⟩
          · refine run_call (P := bPr scr) (q := (a, cs e (x :: args), cs e rest)) ho ?_ (by show _ ≤ (bmeth a).2.2.1; rw [ssum_ok]; exact ble_t g6) ?_
            · show (match (cs e st).drop b with
                | .inr (.inr (.inl r)) :: rest => if (0 : Int) = 0 ∧ (rest.map bvc).sum ≤ 8 then some (a, .inr (.inr (.inl r)) :: ((cs e st).take b).reverse, rest) else none
                | _ => none) = some (a, cv e x :: cs e args, cs e rest)
              have e4 : cs e (x :: rest) = .inr (.inr (.inl x.2)) :: cs e rest := by
                show cv e x :: cs e rest = _
                rw [cv_r (beq_t g1)]
              rw [e2, e3, e4, cv_r (beq_t g1)]
              exact if_pos ⟨rfl, by rw [ssum_ok]; exact ble_t g5⟩
            · have k := hih _ _ _ _ _ _ _ _ hC h
              rw [slva_ok] at k
              exact k
          · cases h
        · cases h
      · cases h
theorem sbody_ok (hR : sR scr e) {fin : sK_s → Option sV → sW → Bool} {ih : sG} (hfin : ∀ C z w, cok_s e C → fin C z w = true → F (.inl (z.map (cv e))) (cw e w))
    (hih : ∀ C d mi pc lv st w fs, cok_s e C → ih C d mi pc lv st w fs = true → bRun (bPr scr) F d mi pc (cvs e lv) (cs e st) (cw e w) (cfs e fs)) :
    ∀ C d mi pc lv st w fs, cok_s e C → sbody fin ih C d mi pc lv st w fs = true → bRun (bPr scr) F d mi pc (cvs e lv) (cs e st) (cw e w) (cfs e fs) := by
  intro C d mi pc lv st w fs hC h
  unfold sbody at h
  rw [frc_eq] at h
  split at h
  · cases h
  · rename_i code f g a b n v hop
    unfold sfetch at hop
    split at hop
    · cases hop
    · rename_i o ho
      have hop := Option.some.inj hop
      split at h
      · have h0 : (comp (bmeth mi).2.2.2.1 (bmeth mi).2.2.2.2.isEmpty (bmeth mi).2.2.1 pc (bmeth o.2.2.1).2.2.1 o).1 = 0 := by rw [hop]
        have hstep := comp_ok (scr := scr) h0
        rw [hop] at hstep
        split at h
        · rename_i pc' lv' st' w' hq
          exact run_step (P := bPr scr) (q := cF e (pc', lv', st', w')) ho (hstep e C lv st w _ hR hC hq) (hih _ _ _ _ _ _ _ _ hC h)
        · split at h
          · cases h
          · rename_i j l hj
            rcases cond_two h with ⟨g1, h⟩ | ⟨-, h⟩
            · obtain ⟨q, hq, q1, q2⟩ := scov_ok g1 (hC j).1 (hC j).2
              exact hih _ _ _ _ _ _ _ _ (cok_cons hC q1 q2) (List.all_eq_true.mp h q hq)
            · cases h
      · split at h
        · cases h
        · rename_i z hz
          refine run_ret (P := bPr scr) ho (comp_ret hC hop hz) ?_
          split at h
          · exact hfin C z w hC h
          · rename_i f' fs'
            have k := hih _ _ _ _ _ _ _ _ hC h
            obtain ⟨q, w', k1, k2⟩ := k
            refine ⟨q, w', ?_, k2⟩
            have E : cs e (z.toList ++ f'.2.2.2.2) = (z.map (cv e)).toList ++ cs e f'.2.2.2.2 := by cases z <;> rfl
            rw [E] at k1
            exact k1
      · split at h
        · split at h
          · cases h
          · rename_i f' fs' hu
            obtain ⟨t1, t2, t3, ix, t4⟩ := comp_thr hop
            subst t1
            exact run_thr (P := bPr scr) (w := cw e w) ho t4 t3 (List.isEmpty_iff.mp t2) rfl (sunw_ok hu (hih _ _ _ _ _ _ _ _ hC h))
        · cases h
      · rename_i n0 n4 n5
        split at h
        · cases h
        · rename_i d'
          split at h
          · cases h
          · rename_i args rest hs
            by_cases n9 : code = 9
            · subst n9
              cases h
            · obtain ⟨c1, c2, c3, c4, c5⟩ := comp_call hop n0 n4 n5 n9
              exact scl_ok hR hih hC ho hs c2 c3 c4 c1 c5 h
theorem sexec_ok (hR : sR scr e) {fin : sK_s → Option sV → sW → Bool} {z : sG} (hfin : ∀ C z w, cok_s e C → fin C z w = true → F (.inl (z.map (cv e))) (cw e w))
    (hz : ∀ C d mi pc lv st w fs, cok_s e C → z C d mi pc lv st w fs = true → bRun (bPr scr) F d mi pc (cvs e lv) (cs e st) (cw e w) (cfs e fs)) (n : Nat) :
    ∀ C d mi pc lv st w fs, cok_s e C → sexec fin z n C d mi pc lv st w fs = true → bRun (bPr scr) F d mi pc (cvs e lv) (cs e st) (cw e w) (cfs e fs) := by
  induction n with
  | zero => exact hz
  | succ n ih => exact sbody_ok hR hfin ih
end RUN2
