/-! THE CLASS: signs that wait, and what is released. -/
def SQm (n : Nat) (P : Int → tM → Prop) : tR → Nat → tM → Prop := fun r n' M' => ∃ x, r = .inl (some (.inl x)) ∧ n' = n ∧ P x M'
section MCALL
variable {e : tE} {b : Nat} {M0 : tM} {d mi a D n : Nat} {o : bO} {vs rest : List tV} {G : GL} {L : tL} {R : tR → Nat → tM → Prop} {k : GL → tL → List tV → Nat → Prop}
/-- a call that leaves all, and what it tells of a field -/
theorem sm_i {P : Int → Int → Prop} {rr f : Nat} (h : ∀ d', D ≤ d' → sP e 2 d' a vs n (fun _ => True) (fun _ => SQm n (fun x M => P x (M rr (f : Nat))))) (hd : D + 1 ≤ d) (hr : akd (tsh rr) = 9) (hk : ∀ x c, P x c → k ((rr, f, c) :: G) L (.inl x :: rest) n) : scall e b M0 d mi a o vs rest G L n R k :=
  ⟨d - 1, by omega, 2, _, _, Or.inr (Or.inl rfl), h (d - 1) (by omega), fun _ _ _ _ => trivial, fun M M' v n' _ _ hg _ hp q => by obtain ⟨x, q1, rfl, q2⟩ := q; cases q1; rw [pE_2 hp] at q2; exact ⟨(rr, f, M rr (f : Nat)) :: G, by rw [pE_2 hp]; exact ⟨⟨hr, rfl⟩, hg⟩, hk x _ q2⟩, fun M M' v n' _ _ _ _ q => by obtain ⟨x, q1, q2⟩ := q; cases q1⟩
/-- a call that wants something of the memory -/
theorem sw_n {P : Prop} {Pre : tM → Prop} (h : ∀ d', D ≤ d' → sP e b d' a vs n Pre (fun _ r n' _ => SQn n P r n')) (hd : D + 1 ≤ d) (hp : ∀ M, CI M → pE b M0 M → gE G M → Pre M) (hk : P → k [] L rest n) : scall e b M0 d mi a o vs rest G L n R k :=
  ⟨d - 1, by omega, b, _, _, Or.inl rfl, h (d - 1) (by omega), hp, fun M M' v n' _ _ _ _ _ q => by obtain ⟨q1, rfl, q2⟩ := q; cases q1; exact ⟨[], trivial, hk q2⟩, fun M M' v n' _ _ _ _ q => by obtain ⟨q1, q2⟩ := q; cases q1⟩
theorem sw_i {P : Int → Prop} {Pre : tM → Prop} (h : ∀ d', D ≤ d' → sP e b d' a vs n Pre (fun _ r n' _ => SQi n P r n')) (hd : D + 1 ≤ d) (hp : ∀ M, CI M → pE b M0 M → gE G M → Pre M) (hk : ∀ x, P x → k [] L (.inl x :: rest) n) : scall e b M0 d mi a o vs rest G L n R k :=
  ⟨d - 1, by omega, b, _, _, Or.inl rfl, h (d - 1) (by omega), hp, fun M M' v n' _ _ _ _ _ q => by obtain ⟨x, q1, rfl, q2⟩ := q; cases q1; exact ⟨[], trivial, hk x q2⟩, fun M M' v n' _ _ _ _ q => by obtain ⟨x, q1, q2⟩ := q; cases q1⟩
/-- a call, and what it tells of a field -/
theorem sf_n {P : Int → Prop} {rr f : Nat} (h : ∀ d', D ≤ d' → sP e b d' a vs n (fun _ => True) (fun _ r n' M' => r = .inl none ∧ n' = n ∧ P (M' rr (f : Nat)))) (hd : D + 1 ≤ d) (hr : akd (tsh rr) = 9) (hk : ∀ c, P c → k [(rr, f, c)] L rest n) : scall e b M0 d mi a o vs rest G L n R k :=
  ⟨d - 1, by omega, b, _, _, Or.inl rfl, h (d - 1) (by omega), fun _ _ _ _ => trivial, fun M M' v n' _ _ hg _ hp q => by obtain ⟨q1, rfl, q2⟩ := q; cases q1; exact ⟨[(rr, f, M' rr (f : Nat))], ⟨⟨hr, rfl⟩, trivial⟩, hk _ q2⟩, fun M M' v n' _ _ _ _ q => by obtain ⟨q1, q2⟩ := q; cases q1⟩
theorem sp_m {Q : Int → tM → Prop} (h : ∀ d', D ≤ d' → sP e 2 d' a vs n (fun _ => True) (fun _ => SQm n (fun x M => (0 ≤ x ∧ x ≤ 65535) ∧ Q x M))) (hd : D + 1 ≤ d) (hk : ∀ x, (0 ≤ x ∧ x ≤ 65535) → k G L (.inl x :: rest) n) : scall e b M0 d mi a o vs rest G L n R k :=
  ⟨d - 1, by omega, 2, _, _, Or.inr (Or.inl rfl), h (d - 1) (by omega), fun _ _ _ _ => trivial, fun M M' v n' _ _ hg _ hp q => by obtain ⟨x, q1, rfl, q2, q3⟩ := q; cases q1; exact ⟨G, by rw [pE_2 hp]; exact hg, hk x q2⟩, fun M M' v n' _ _ _ _ q => by obtain ⟨x, q1, q2⟩ := q; cases q1⟩
/-- a call that leaves a field -/
theorem sk_n {rr f : Nat} {c : Int} (h : ∀ d', D ≤ d' → sP e b d' a vs n (fun _ => True) (fun M r n' M' => r = .inl none ∧ n' = n ∧ M' rr (f : Nat) = M rr (f : Nat))) (hd : D + 1 ≤ d) (hr : akd (tsh rr) = 9) (hg : ∀ M, gE G M → M rr (f : Nat) = c) (hk : k [(rr, f, c)] L rest n) : scall e b M0 d mi a o vs rest G L n R k :=
  ⟨d - 1, by omega, b, _, _, Or.inl rfl, h (d - 1) (by omega), fun _ _ _ _ => trivial, fun M M' v n' _ _ hg0 _ hp q => by obtain ⟨q1, rfl, q2⟩ := q; cases q1; exact ⟨[(rr, f, c)], ⟨⟨hr, q2.trans (hg M hg0)⟩, trivial⟩, hk⟩, fun M M' v n' _ _ _ _ q => by obtain ⟨q1, q2⟩ := q; cases q1⟩
end MCALL
section HAND
variable {e : tE} {b d n : Nat}
theorem k_X5_lastHeld {r : Nat} (h0 : cl r 7) (hd : 0 ≤ d) : sP e b d 1800 [.inr (.inr (.inl r))] n (fun _ => True) (fun _ => SQm n (fun x M => (fun (x c : Int) => (0 ≤ x ∧ x ≤ 65535) ∧ (x ≠ 0 → 1 ≤ c)) x (M r ((8 : Nat) : Int)))) := by
  refine sKP (fun M h => tst_X5_lastHeld h) (fun M0 hC0 _ => ⟨[], trivial, ?_⟩)
  have n22 : ∀ is0 c : Int, (0 ≤ is0 ∧ is0 ≤ 65535) → (is0 ≠ 0 → 1 ≤ c) → sT e b M0 d 1800 22 [(r, 8, c)] [some (.inr (.inr (.inl r)))] [.inl is0] n (SQm n (fun x M => (fun (x c : Int) => (0 ≤ x ∧ x ≤ 65535) ∧ (x ≠ 0 → 1 ≤ c)) x (M r ((8 : Nat) : Int)))) := by
    intro is0 c h1 h2
    refine sblk (hv := false) kbl_X5_lastHeld kbs_X5_lastHeld (pc := 22) (pe := 23) (rk := 4) (i := 2) rfl (by decide +kernel) ?_
    simp only [kb_X5_lastHeld_22, s_ire, trg, LR, IR, true_and, and_true, Nat.reduceAdd, Nat.reduceSub, eq_self]
    refine ⟨by omega, fun M _ _ hg => ⟨_, rfl, rfl, h1, fun h => ?_⟩⟩
    have q : M r ((8 : Nat) : Int) = c := hg.1.2
    rw [q]
    exact h2 h
  refine sblk (hv := false) kbl_X5_lastHeld kbs_X5_lastHeld (pc := 0) (pe := 21) (rk := 4) (i := 0) rfl (by decide +kernel) ?_
  simp only [kb_X5_lastHeld_0, s_ald_0, s_gf_7_8, s_if_le, s_gf_7_7, s_ic, s_isub, s_ca, s_goto, LR, IR, true_and, and_true, Nat.reduceAdd, Nat.reduceSub, eq_self]
  refine ⟨h0, fun x h g k => ?_⟩
  refine ⟨by omega, fun h3 => ?_, fun h3 => ?_⟩
  · refine sblk (hv := false) kbl_X5_lastHeld kbs_X5_lastHeld (pc := 21) (pe := 22) (rk := 4) (i := 1) rfl (by decide +kernel) ?_
    simp only [kb_X5_lastHeld_21, s_ic, s_nil, LR, IR, true_and, and_true, Nat.reduceAdd, Nat.reduceSub, eq_self]
    exact sT_g (G' := [(r, 8, _)]) (fun M hg => ⟨hg.1, trivial⟩) (n22 _ _ (by omega) (by omega))
  refine ⟨h0, fun q hq => ?_⟩
  refine ⟨h0, fun x2 h2 g2 k2 => ?_⟩
  simp (disch := decide) only [gk, gd, eq_self, true_imp_iff, false_imp_iff, and_true, true_and, Nat.reduceEqDiff, reduceIte, reduceCtorEq, ne_eq, not_false_eq_true] at k2
  refine ⟨aok_15 hq (by omega), fun x4 g4 => ?_⟩
  have h4 := arg_15 hq g4
  exact sT_g (G' := [(r, 8, _)]) (fun M hg => ⟨hg.1, trivial⟩) (n22 _ _ (by omega) (by omega))
theorem k_X5_releaseProducts {r : Nat} (h0 : cl r 7) (hb : b = 0) (hd : 2 ≤ d) : sC e b d 1805 [.inr (.inr (.inl r))] n (SQn n True) := by
  refine sK (fun M h => tst_X5_releaseProducts h) (fun M0 => ?_)
  have ha : akd (tsh r) = 9 := by rw [h0.1]; rfl
  have n36 : ∀ i1 : Int, sT e b M0 d 1805 36 [] [some (.inr (.inr (.inl r))), some (.inl i1)] [] n (fun r n' _ => SQn n True r n') := by
    intro i1
    refine sblk (hv := false) kbl_X5_releaseProducts kbs_X5_releaseProducts (pc := 36) (pe := 37) (rk := 9) (i := 3) rfl (by decide +kernel) ?_
    simp only [kb_X5_releaseProducts_36, s_re, LR, IR, true_and, and_true, Nat.reduceAdd, Nat.reduceSub, eq_self]
    exact fun _ _ _ _ => ⟨rfl, rfl, trivial⟩
  have n2 : ∀ (fu : Nat) (i1 : Int), 60 - i1 + 1 ≤ (fu : Int) → (0 ≤ i1 ∧ i1 ≤ 60) → sT e b M0 d 1805 2 [] [some (.inr (.inr (.inl r))), some (.inl i1)] [] n (fun r n' _ => SQn n True r n') := by
    intro fu
    induction fu with
    | zero => intro i1 hm h1; exfalso; omega
    | succ fu ih =>
      intro i1 hm h1
      have n26 : ∀ c : Int, 1 ≤ c → i1 ≤ 59 → sT e b M0 d 1805 26 [(r, 8, c)] [some (.inr (.inr (.inl r))), some (.inl i1)] [] n (fun r n' _ => SQn n True r n') := by
        intro c hc h2
        refine sblk (hv := false) kbl_X5_releaseProducts kbs_X5_releaseProducts (pc := 26) (pe := 36) (rk := 9) (i := 2) rfl (by decide +kernel) ?_
        simp only [kb_X5_releaseProducts_26, s_ald_0, s_iv0, tfr_0, tfr_1, tfr_2, tfr_3, tfr_4, s_inc1, tkl_n, tkl_i, tkl_l, tkl_r, s_goto, LR, IR, true_and, and_true, Nat.reduceAdd, Nat.reduceSub, eq_self]
        refine ⟨vok_of (s := 7) h0 rfl, ?_⟩
        refine sw_n (D := 1) (fun d' hd' => k_X5_release h0 hb hd') (by omega) (fun M _ _ hg => ?_) ?_
        · have q : M r ((8 : Nat) : Int) = c := hg.1.2
          omega
        intro _
        try simp only [s_ald_0, s_iv0, tfr_0, tfr_1, tfr_2, tfr_3, tfr_4, s_inc1, tkl_n, tkl_i, tkl_l, tkl_r, s_goto, LR, IR, true_and, and_true, Nat.reduceAdd, Nat.reduceSub, eq_self]
        exact ih _ (by omega) (by omega)
      refine sblk (hv := false) kbl_X5_releaseProducts kbs_X5_releaseProducts (pc := 2) (pe := 26) (rk := 9) (i := 1) rfl (by decide +kernel) ?_
      simp only [kb_X5_releaseProducts_2, s_ild_1, s_bi, s_ic_ge, s_ald_0, s_iv0, tfr_0, tfr_1, tfr_2, tfr_3, tfr_4, s_ic_eq, s_ic_ne, s_nil, LR, IR, true_and, and_true, Nat.reduceAdd, Nat.reduceSub, eq_self]
      refine ⟨by omega, fun h2 => ?_, fun h2 => ?_⟩
      · exact n36 _
      refine ⟨vok_of (s := 7) h0 rfl, ?_⟩
      refine sm_i (P := fun x c => (0 ≤ x ∧ x ≤ 65535) ∧ (x ≠ 0 → 1 ≤ c)) (rr := r) (f := 8) (D := 0) (fun d' hd' => k_X5_lastHeld h0 hd') (by omega) ha ?_
      intro x c h3
      try simp only [s_ild_1, s_bi, s_ic_ge, s_ald_0, s_iv0, tfr_0, tfr_1, tfr_2, tfr_3, tfr_4, s_ic_eq, s_ic_ne, s_nil, LR, IR, true_and, and_true, Nat.reduceAdd, Nat.reduceSub, eq_self]
      refine ⟨by omega, fun h4 => ?_, fun h4 => ?_⟩
      · exact n26 _ (by omega) (by omega)
      refine ⟨vok_of (s := 7) h0 rfl, ?_⟩
      refine sm_i (P := fun x c => (0 ≤ x ∧ x ≤ 65535) ∧ (x ≠ 0 → 1 ≤ c)) (rr := r) (f := 8) (D := 0) (fun d' hd' => k_X5_lastHeld h0 hd') (by omega) ha ?_
      intro x2 c2 h5
      try simp only [s_ild_1, s_bi, s_ic_ge, s_ald_0, s_iv0, tfr_0, tfr_1, tfr_2, tfr_3, tfr_4, s_ic_eq, s_ic_ne, s_nil, LR, IR, true_and, and_true, Nat.reduceAdd, Nat.reduceSub, eq_self]
      refine ⟨by omega, fun h6 => ?_, fun h6 => ?_⟩
      · exact sT_w (n36 _)
      exact sT_g (G' := [(r, 8, _)]) (fun M hg => ⟨hg.1, trivial⟩) (n26 _ (by omega) (by omega))
  refine sblk (hv := false) kbl_X5_releaseProducts kbs_X5_releaseProducts (pc := 0) (pe := 2) (rk := 9) (i := 0) rfl (by decide +kernel) ?_
  simp only [kb_X5_releaseProducts_0, s_ic, s_ist_1, tkl_n, tkl_i, tkl_l, tkl_r, s_nil, LR, IR, true_and, and_true, Nat.reduceAdd, Nat.reduceSub, eq_self]
  exact n2 100 _ (by omega) (by omega)
theorem k_X5_releaseSums {r : Nat} (h0 : cl r 7) (hb : b = 0) (hd : 2 ≤ d) : sC e b d 1806 [.inr (.inr (.inl r))] n (SQn n True) := by
  refine sK (fun M h => tst_X5_releaseSums h) (fun M0 => ?_)
  have ha : akd (tsh r) = 9 := by rw [h0.1]; rfl
  have n36 : ∀ i1 : Int, sT e b M0 d 1806 36 [] [some (.inr (.inr (.inl r))), some (.inl i1)] [] n (fun r n' _ => SQn n True r n') := by
    intro i1
    refine sblk (hv := false) kbl_X5_releaseSums kbs_X5_releaseSums (pc := 36) (pe := 37) (rk := 9) (i := 3) rfl (by decide +kernel) ?_
    simp only [kb_X5_releaseSums_36, s_re, LR, IR, true_and, and_true, Nat.reduceAdd, Nat.reduceSub, eq_self]
    exact fun _ _ _ _ => ⟨rfl, rfl, trivial⟩
  have n2 : ∀ (fu : Nat) (i1 : Int), 60 - i1 + 1 ≤ (fu : Int) → (0 ≤ i1 ∧ i1 ≤ 60) → sT e b M0 d 1806 2 [] [some (.inr (.inr (.inl r))), some (.inl i1)] [] n (fun r n' _ => SQn n True r n') := by
    intro fu
    induction fu with
    | zero => intro i1 hm h1; exfalso; omega
    | succ fu ih =>
      intro i1 hm h1
      have n26 : ∀ c : Int, 1 ≤ c → i1 ≤ 59 → sT e b M0 d 1806 26 [(r, 8, c)] [some (.inr (.inr (.inl r))), some (.inl i1)] [] n (fun r n' _ => SQn n True r n') := by
        intro c hc h2
        refine sblk (hv := false) kbl_X5_releaseSums kbs_X5_releaseSums (pc := 26) (pe := 36) (rk := 9) (i := 2) rfl (by decide +kernel) ?_
        simp only [kb_X5_releaseSums_26, s_ald_0, s_iv0, tfr_0, tfr_1, tfr_2, tfr_3, tfr_4, s_inc1, tkl_n, tkl_i, tkl_l, tkl_r, s_goto, LR, IR, true_and, and_true, Nat.reduceAdd, Nat.reduceSub, eq_self]
        refine ⟨vok_of (s := 7) h0 rfl, ?_⟩
        refine sw_n (D := 1) (fun d' hd' => k_X5_release h0 hb hd') (by omega) (fun M _ _ hg => ?_) ?_
        · have q : M r ((8 : Nat) : Int) = c := hg.1.2
          omega
        intro _
        try simp only [s_ald_0, s_iv0, tfr_0, tfr_1, tfr_2, tfr_3, tfr_4, s_inc1, tkl_n, tkl_i, tkl_l, tkl_r, s_goto, LR, IR, true_and, and_true, Nat.reduceAdd, Nat.reduceSub, eq_self]
        exact ih _ (by omega) (by omega)
      refine sblk (hv := false) kbl_X5_releaseSums kbs_X5_releaseSums (pc := 2) (pe := 26) (rk := 9) (i := 1) rfl (by decide +kernel) ?_
      simp only [kb_X5_releaseSums_2, s_ild_1, s_bi, s_ic_ge, s_ald_0, s_iv0, tfr_0, tfr_1, tfr_2, tfr_3, tfr_4, s_ic_eq, s_ic_ne, s_nil, LR, IR, true_and, and_true, Nat.reduceAdd, Nat.reduceSub, eq_self]
      refine ⟨by omega, fun h2 => ?_, fun h2 => ?_⟩
      · exact n36 _
      refine ⟨vok_of (s := 7) h0 rfl, ?_⟩
      refine sm_i (P := fun x c => (0 ≤ x ∧ x ≤ 65535) ∧ (x ≠ 0 → 1 ≤ c)) (rr := r) (f := 8) (D := 0) (fun d' hd' => k_X5_lastHeld h0 hd') (by omega) ha ?_
      intro x c h3
      try simp only [s_ild_1, s_bi, s_ic_ge, s_ald_0, s_iv0, tfr_0, tfr_1, tfr_2, tfr_3, tfr_4, s_ic_eq, s_ic_ne, s_nil, LR, IR, true_and, and_true, Nat.reduceAdd, Nat.reduceSub, eq_self]
      refine ⟨by omega, fun h4 => ?_, fun h4 => ?_⟩
      · exact n26 _ (by omega) (by omega)
      refine ⟨vok_of (s := 7) h0 rfl, ?_⟩
      refine sm_i (P := fun x c => (0 ≤ x ∧ x ≤ 65535) ∧ (x ≠ 0 → 1 ≤ c)) (rr := r) (f := 8) (D := 0) (fun d' hd' => k_X5_lastHeld h0 hd') (by omega) ha ?_
      intro x2 c2 h5
      try simp only [s_ild_1, s_bi, s_ic_ge, s_ald_0, s_iv0, tfr_0, tfr_1, tfr_2, tfr_3, tfr_4, s_ic_eq, s_ic_ne, s_nil, LR, IR, true_and, and_true, Nat.reduceAdd, Nat.reduceSub, eq_self]
      refine ⟨by omega, fun h6 => ?_, fun h6 => ?_⟩
      · exact sT_w (n36 _)
      exact sT_g (G' := [(r, 8, _)]) (fun M hg => ⟨hg.1, trivial⟩) (n26 _ (by omega) (by omega))
  refine sblk (hv := false) kbl_X5_releaseSums kbs_X5_releaseSums (pc := 0) (pe := 2) (rk := 9) (i := 0) rfl (by decide +kernel) ?_
  simp only [kb_X5_releaseSums_0, s_ic, s_ist_1, tkl_n, tkl_i, tkl_l, tkl_r, s_nil, LR, IR, true_and, and_true, Nat.reduceAdd, Nat.reduceSub, eq_self]
  exact n2 100 _ (by omega) (by omega)
theorem k_X5_closeAtom {r : Nat} (h0 : cl r 7) (hb : b = 0) (hd : 2 ≤ d) : sC e b d 1795 [.inr (.inr (.inl r))] n (SQn n True) := by
  refine sK (fun M h => tst_X5_closeAtom h) (fun M0 => ?_)
  have ha : akd (tsh r) = 9 := by rw [h0.1]; rfl
  have n28 : ∀ i1 : Int, sT e b M0 d 1795 28 [] [some (.inr (.inr (.inl r))), some (.inl i1)] [] n (fun r n' _ => SQn n True r n') := by
    intro i1
    refine sblk (hv := false) kbl_X5_closeAtom kbs_X5_closeAtom (pc := 28) (pe := 39) (rk := 9) (i := 2) rfl (by decide +kernel) ?_
    simp only [kb_X5_closeAtom_28, s_ald_0, s_ic, s_pf_7_10, s_pf_7_11, s_re, LR, IR, true_and, and_true, Nat.reduceAdd, Nat.reduceSub, eq_self]
    refine ⟨by omega, h0, by omega, ?_⟩
    refine ⟨by omega, h0, by omega, ?_⟩
    exact fun _ _ _ _ => ⟨rfl, rfl, trivial⟩
  have n2 : ∀ (fu : Nat) (i1 : Int), 60 - i1 + 1 ≤ (fu : Int) → (0 ≤ i1 ∧ i1 ≤ 60) → sT e b M0 d 1795 2 [] [some (.inr (.inr (.inl r))), some (.inl i1)] [] n (fun r n' _ => SQn n True r n') := by
    intro fu
    induction fu with
    | zero => intro i1 hm h1; exfalso; omega
    | succ fu ih =>
      intro i1 hm h1
      refine sblk (hv := false) kbl_X5_closeAtom kbs_X5_closeAtom (pc := 2) (pe := 28) (rk := 9) (i := 1) rfl (by decide +kernel) ?_
      simp only [kb_X5_closeAtom_2, s_ild_1, s_bi, s_ic_ge, s_ald_0, s_iv0, tfr_0, tfr_1, tfr_2, tfr_3, tfr_4, s_is1, s_if_eq, s_inc1, tkl_n, tkl_i, tkl_l, tkl_r, s_goto, LR, IR, true_and, and_true, Nat.reduceAdd, Nat.reduceSub, eq_self]
      refine ⟨by omega, fun h2 => ?_, fun h2 => ?_⟩
      · exact n28 _
      refine ⟨vok_of (s := 7) h0 rfl, ?_⟩
      refine sm_i (P := fun x c => (0 ≤ x ∧ x ≤ 65535) ∧ (x ≠ 0 → 1 ≤ c)) (rr := r) (f := 8) (D := 0) (fun d' hd' => k_X5_lastHeld h0 hd') (by omega) ha ?_
      intro x c h3
      try simp only [s_ild_1, s_bi, s_ic_ge, s_ald_0, s_iv0, tfr_0, tfr_1, tfr_2, tfr_3, tfr_4, s_is1, s_if_eq, s_inc1, tkl_n, tkl_i, tkl_l, tkl_r, s_goto, LR, IR, true_and, and_true, Nat.reduceAdd, Nat.reduceSub, eq_self]
      refine sp_i (D := 0) (fun d' hd' => k_X5_isAhead h3.1 hd') (by omega) ?_
      intro z h4
      try simp only [s_ild_1, s_bi, s_ic_ge, s_ald_0, s_iv0, tfr_0, tfr_1, tfr_2, tfr_3, tfr_4, s_is1, s_if_eq, s_inc1, tkl_n, tkl_i, tkl_l, tkl_r, s_goto, LR, IR, true_and, and_true, Nat.reduceAdd, Nat.reduceSub, eq_self]
      refine ⟨by omega, fun h5 => ?_, fun h5 => ?_⟩
      · exact sT_w (n28 _)
      have hc := h3.2 (h4.2 h5)
      refine ⟨vok_of (s := 7) h0 rfl, ?_⟩
      refine sw_n (D := 1) (fun d' hd' => k_X5_release h0 hb hd') (by omega) (fun M _ _ hg => ?_) ?_
      · have q : M r ((8 : Nat) : Int) = c := hg.1.2
        omega
      intro _
      try simp only [s_ild_1, s_bi, s_ic_ge, s_ald_0, s_iv0, tfr_0, tfr_1, tfr_2, tfr_3, tfr_4, s_is1, s_if_eq, s_inc1, tkl_n, tkl_i, tkl_l, tkl_r, s_goto, LR, IR, true_and, and_true, Nat.reduceAdd, Nat.reduceSub, eq_self]
      exact ih _ (by omega) (by omega)
  refine sblk (hv := false) kbl_X5_closeAtom kbs_X5_closeAtom (pc := 0) (pe := 2) (rk := 9) (i := 0) rfl (by decide +kernel) ?_
  simp only [kb_X5_closeAtom_0, s_ic, s_ist_1, tkl_n, tkl_i, tkl_l, tkl_r, s_nil, LR, IR, true_and, and_true, Nat.reduceAdd, Nat.reduceSub, eq_self]
  exact n2 100 _ (by omega) (by omega)
theorem k_X5_takesClosing {r : Nat} (h0 : cl r 7) (hb : b = 0) (hd : 3 ≤ d) : sC e b d 1811 [.inr (.inr (.inl r))] n (SQi n (fun z => (0 ≤ z ∧ z ≤ 1))) := by
  refine sK (fun M h => tst_X5_takesClosing h) (fun M0 => ?_)
  have ha : akd (tsh r) = 9 := by rw [h0.1]; rfl
  refine sblk (hv := false) kbl_X5_takesClosing kbs_X5_takesClosing (pc := 0) (pe := 19) (rk := 3) (i := 0) rfl (by decide +kernel) ?_
  simp only [kb_X5_takesClosing_0, s_ald_0, s_iv0, tfr_0, tfr_1, tfr_2, tfr_3, tfr_4, s_bi, s_ic_eq, s_ic, s_ire, trg, LR, IR, true_and, and_true, Nat.reduceAdd, Nat.reduceSub, eq_self]
  refine ⟨vok_of (s := 7) h0 rfl, ?_⟩
  refine sc_n (D := 2) (fun d' hd' => k_X5_releaseProducts h0 hb hd') (by omega) ?_
  intro _
  try simp only [s_ald_0, s_iv0, tfr_0, tfr_1, tfr_2, tfr_3, tfr_4, s_bi, s_ic_eq, s_ic, s_ire, trg, LR, IR, true_and, and_true, Nat.reduceAdd, Nat.reduceSub, eq_self]
  refine ⟨vok_of (s := 7) h0 rfl, ?_⟩
  refine sc_n (D := 2) (fun d' hd' => k_X5_releaseSums h0 hb hd') (by omega) ?_
  intro _
  try simp only [s_ald_0, s_iv0, tfr_0, tfr_1, tfr_2, tfr_3, tfr_4, s_bi, s_ic_eq, s_ic, s_ire, trg, LR, IR, true_and, and_true, Nat.reduceAdd, Nat.reduceSub, eq_self]
  refine ⟨vok_of (s := 7) h0 rfl, ?_⟩
  refine sm_i (P := fun x c => (0 ≤ x ∧ x ≤ 65535) ∧ (x ≠ 0 → 1 ≤ c)) (rr := r) (f := 8) (D := 0) (fun d' hd' => k_X5_lastHeld h0 hd') (by omega) ha ?_
  intro x c h3
  try simp only [s_ald_0, s_iv0, tfr_0, tfr_1, tfr_2, tfr_3, tfr_4, s_bi, s_ic_eq, s_ic, s_ire, trg, LR, IR, true_and, and_true, Nat.reduceAdd, Nat.reduceSub, eq_self]
  refine ⟨by omega, fun h5 => ?_, fun h5 => ?_⟩
  · refine sblk (hv := true) kbl_X5_takesClosing kbs_X5_takesClosing (pc := 19) (pe := 45) (rk := 3) (i := 1) rfl (by decide +kernel) ?_
    simp only [kb_X5_takesClosing_19, s_ald_0, s_dupi, s_dupr, s_gf_7_8, s_ic, h_isub, s_pf_7_8, s_gf_7_9, h_iadd, s_pf_7_9, s_iv0, tfr_0, tfr_1, tfr_2, tfr_3, tfr_4, s_ire, trg, LR, IR, true_and, and_true, Nat.reduceAdd, Nat.reduceSub, eq_self]
    refine ⟨h0, fun x5 h6 g6 k6 => ?_⟩
    simp (disch := decide) only [gk, gd, eq_self, true_imp_iff, false_imp_iff, and_true, true_and, Nat.reduceEqDiff, reduceIte, reduceCtorEq, ne_eq, not_false_eq_true] at k6
    intro x7 h7 g7
    refine ⟨by omega, h0, by omega, ?_⟩
    refine ⟨h0, fun x8 h8 g8 k8 => ?_⟩
    intro x9 h9 g9
    refine ⟨by omega, h0, by omega, ?_⟩
    refine ⟨vok_of (s := 7) h0 rfl, ?_⟩
    refine sc_n (D := 2) (fun d' hd' => k_X5_closeAtom h0 hb hd') (by omega) ?_
    intro _
    try simp only [s_ald_0, s_dupi, s_dupr, s_gf_7_8, s_ic, h_isub, s_pf_7_8, s_gf_7_9, h_iadd, s_pf_7_9, s_iv0, tfr_0, tfr_1, tfr_2, tfr_3, tfr_4, s_ire, trg, LR, IR, true_and, and_true, Nat.reduceAdd, Nat.reduceSub, eq_self]
    exact ⟨by omega, fun _ _ _ _ => ⟨_, rfl, rfl, by omega⟩⟩
  exact ⟨by omega, fun _ _ _ _ => ⟨_, rfl, rfl, by omega⟩⟩
end HAND
