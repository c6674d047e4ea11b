/-! SLOPES: one act; the frames. -/
/-- what an act does to the stack's height -/
def efA (a : Int) : Int := if a = 35 ∨ a = 112 ∨ a = 69 ∨ a = 120 ∨ a = 121 then 1 else if a = 43 ∨ a = 45 ∨ a = 42 ∨ a = 47 then -1 else 0
theorem AR_e {u a num : Int} {s m m' : Nat} {X Y : Int × Int} {B B' : Nat → Int × Int} (ha : AOK a num s m) (h : AR u X Y a num s m B m' B') : (m' : Int) = (m : Int) + efA a := by
  unfold efA
  by_cases h0 : a = 35 ∨ a = 112 ∨ a = 69 ∨ a = 120 ∨ a = 121
  · rw [if_pos h0]
    have := AR_0 h0 h
    omega
  · rw [if_neg h0]
    by_cases h1 : a = 43 ∨ a = 45 ∨ a = 42 ∨ a = 47
    · rw [if_pos h1]
      have := AR_p h1 h
      unfold AOK at ha
      have hOO : OOK a s → a = 94 ∨ a = 114 ∨ a = 101 ∨ a = 108 ∨ a = 97 := fun q => by unfold OOK at q; omega
      rcases ha with q | q | q | q | q | ⟨_, q⟩ | ⟨q, _⟩
      · omega
      · omega
      · omega
      · omega
      · omega
      · omega
      · rcases q with q | q | q
        · omega
        · omega
        · have := hOO q
          omega
    · rw [if_neg h1]
      have h2 : a = 126 ∨ a = 98 ∨ OOK a s := by
        unfold AOK at ha
        rcases ha with q | q | q | q | q | ⟨q, _⟩ | ⟨q, _⟩
        · omega
        · omega
        · omega
        · omega
        · omega
        · omega
        · exact q
      have := AR_1 h2 h
      omega
/-- what following a slope changes -/
def SLF (M N : tM) : Prop := ((CI N ∧ pE 0 M N) ∧ RO N) ∧ (∀ (k : Nat) (i : Int), (k < 77 ∨ 498 < k) → N k i = M k i) ∧ N 77 3 = M 77 3 ∧ N 77 4 = M 77 4
theorem SLF_tr {M N P : tM} (h : SLF M N) (g : SLF N P) : SLF M P := ⟨⟨⟨g.1.1.1, pE_tr h.1.1.2 g.1.1.2⟩, g.1.2⟩, fun k i q => (g.2.1 k i q).trans (h.2.1 k i q), g.2.2.1.trans h.2.2.1, g.2.2.2.trans h.2.2.2⟩
theorem SLF_m {M N : tM} (f : MKF 0 M N) (ro : RO N) : SLF M N := ⟨⟨f.1, ro⟩, fun k i q => f.2.2 k i (by omega), f.2.1 3 (by decide), f.2.1 4 (by decide)⟩
theorem KA_sl {M N : tM} (h : KW M) (f : SLF M N) : KA M N := KA_f h f.1.1.1 f.1.1.2 f.1.2 (fun k i g => f.2.1 k i (by unfold KPC at g; omega))
theorem AIM_s {x y : Nat} {X Y : Int × Int} {M N : tM} (h : AIM M x y X Y) (hx : (x + 2 < 77 ∨ 498 < x) ∧ (y + 2 < 77 ∨ 498 < y)) (f : SLF M N) : AIM N x y X Y := by
  obtain ⟨⟨a1, a2, a3⟩, ⟨b1, b2, b3⟩, ⟨c1, c2⟩, ⟨d1, d2⟩⟩ := h
  exact ⟨⟨f.2.2.1.trans a1, a2, a3⟩, ⟨f.2.2.2.trans b1, b2, b3⟩, ⟨BX_f c1 (fun j => f.2.1 _ _ (by omega)) (fun j => f.2.1 _ _ (by omega)), c2⟩, ⟨BX_f d1 (fun j => f.2.1 _ _ (by omega)) (fun j => f.2.1 _ _ (by omega)), d2⟩⟩
/-- the frames that wait -/
def FRS (rq : Nat → Nat) (c : Nat) (N : tM) : Nat → Int → Prop
  | 0, h => h = 0
  | D + 1, h => ∃ (nd p : Nat) (h0 : Int), FRS rq c N D h0 ∧ (N 497 (D : Int) = (nd : Int) ∧ nd < c) ∧ N 498 (D : Int) = ((p + 1 : Nat) : Int) ∧ p < rl (rq nd) ∧ efS (sgV (rq nd) p) = 1 ∧ h = h0 + rh (rq nd) p
theorem FRS_s {rq : Nat → Nat} {c D : Nat} {N : tM} {h : Int} : FRS rq c N (D + 1) h = (∃ (nd p : Nat) (h0 : Int), FRS rq c N D h0 ∧ (N 497 (D : Int) = (nd : Int) ∧ nd < c) ∧ N 498 (D : Int) = ((p + 1 : Nat) : Int) ∧ p < rl (rq nd) ∧ efS (sgV (rq nd) p) = 1 ∧ h = h0 + rh (rq nd) p) := rfl
theorem FRS_u {rq : Nat → Nat} {c : Nat} {N N1 : tM} : ∀ (D : Nat) (h : Int), (∀ k : Nat, k < D → N1 497 (k : Int) = N 497 (k : Int) ∧ N1 498 (k : Int) = N 498 (k : Int)) → FRS rq c N D h → FRS rq c N1 D h := by
  intro D
  induction D with
  | zero =>
    intro h _ g
    exact g
  | succ D ih =>
    intro h q g
    obtain ⟨nd, p, h0, g1, g2, g3, g4⟩ := g
    exact ⟨nd, p, h0, ih h0 (fun k hk => q k (by omega)) g1, ⟨(q D (by omega)).1.trans g2.1, g2.2⟩, (q D (by omega)).2.trans g3, g4⟩
theorem FRS_0 {rq : Nat → Nat} {c : Nat} {N : tM} (hq : ∀ k : Nat, 4 ≤ rq k ∧ rq k < 16) : ∀ (D : Nat) (h : Int), FRS rq c N D h → 0 ≤ h := by
  intro D
  induction D with
  | zero =>
    intro h g
    have g : h = 0 := g
    omega
  | succ D ih =>
    intro h g
    obtain ⟨nd, p, h0, g1, _, _, g4, _, g6⟩ := g
    have a := ih h0 g1
    have b := rh_r (p := p) (hq nd) (by omega)
    omega
section HAND
variable {e : tE} {d n : Nat} {M : tM}
/-- an act, wherever the stack stands -/
theorem v_mk {a num : Int} {s m x y : Nat} {X Y : Int × Int} {B : Nat → Int × Int} (ha : AOK a num s m) (hm : m ≤ 128) (hs : SK M m B) (hA : AIM M x y X Y) (hu : UU (M 78 5)) (he : EVr e) (hro : RO M) (hC : CI M) (hd : 7 ≤ d) : tC e d 2055 [.inr (.inr (.inl 77)), .inl a, .inr (.inl num), .inl (s : Int)] M n (tQi n (fun z M' => (0 ≤ z ∧ z ≤ 2) ∧ (MKF 0 M M' ∧ RO M') ∧ (z = 0 → ∃ (m' : Nat) (B' : Nat → Int × Int), (m' ≤ 128 ∧ (m' : Int) = (m : Int) + efA a) ∧ SK M' m' B'))) := by
  rcases Nat.lt_or_ge m 128 with g | g
  · refine tC_mono (z_make (b := 0) ha g hs (fun _ => ⟨hA.1, hA.2.2.1⟩) (fun _ => ⟨hA.2.1, hA.2.2.2⟩) hu he hro (by decide) hC hd) ?_
    rintro v M' n' ⟨z, q1, rfl, f1, f2, f3, f4⟩
    refine ⟨z, q1, rfl, f1, ⟨f4, f3⟩, fun q => ?_⟩
    obtain ⟨m', B', g1, g2⟩ := f2 q
    have e1 := AR_e ha g1
    refine ⟨m', B', ⟨?_, e1⟩, g2⟩
    unfold efA at e1
    split at e1
    · omega
    · split at e1 <;> omega
  · have hm0 := hs.1
    refine tst_X6_make ?_
    refine tb_X6_make_0 (c := false) ?_
    simp only [kb_X6_make_0, w_ald_0, w_gf_8_2, tw_f, w_si, w_ic_lt, w_ic, w_ire, trg, true_and, and_true, Nat.reduceAdd, Nat.reduceSub, eq_self, tsh_77, tsh_112, tyk_25, tel_4, tqo_112, tyk_8, tcq_8, tsh_78, tyk_2, tcq_2, tyk_4, tcq_4, hm0]
    repeat refine And.intro (by omega) ?_
    exact fun _ => ⟨_, rfl, rfl, by decide, ⟨MKF_refl hC, hro⟩, fun q => absurd q (by decide)⟩
end HAND
