/-! THE MODEL: bounds told from rows. -/
def rU (S : Int → Prop) (M M' : tM) : Prop := (∀ (k : Nat) (i : Int), k ≠ 665 → k ≠ 666 → ¬ (k = 664 ∧ (i = 4 ∨ i = 5)) → M' k i = M k i) ∧ (∀ r : Int, ¬ S r → M' 666 r = M 666 r) ∧ (∀ r j : Int, ¬ S r → 0 ≤ j → j < 64 → M' 665 (64 * r + j) = M 665 (64 * r + j))
theorem rU_refl {S : Int → Prop} {M : tM} : rU S M M := ⟨fun _ _ _ _ _ => rfl, fun _ _ => rfl, fun _ _ _ _ _ => rfl⟩
theorem rU_tr {S : Int → Prop} {M M1 M2 : tM} (h1 : rU S M M1) (h2 : rU S M1 M2) : rU S M M2 :=
  ⟨fun k i a b c => (h2.1 k i a b c).trans (h1.1 k i a b c), fun r a => (h2.2.1 r a).trans (h1.2.1 r a), fun r j a b c => (h2.2.2 r j a b c).trans (h1.2.2 r j a b c)⟩
theorem rU_mono {S S' : Int → Prop} {M M' : tM} (h : rU S M M') (hs : ∀ r, S r → S' r) : rU S' M M' :=
  ⟨h.1, fun r a => h.2.1 r (fun q => a (hs r q)), fun r j a b c => h.2.2 r j (fun q => a (hs r q)) b c⟩
theorem rU_r {S : Int → Prop} {M M' : tM} (h : rE S M M') : rU S M M' := ⟨fun k i a b _ => h.1 k i a b, h.2.1, h.2.2⟩
theorem rU_rm {S S' : Int → Prop} {M M' : tM} (h : rE S M M') (hs : ∀ r, S r → S' r) : rU S' M M' := rU_r (rE_mono h hs)
theorem rU_u {S : Int → Prop} {M M' : tM} (h : uE M M') : rU S M M' :=
  ⟨fun k i a b c => h k i c, fun r _ => h 666 r (fun q => absurd q.1 (by decide)), fun r j _ _ _ => h 665 _ (fun q => absurd q.1 (by decide))⟩
theorem Dr_U {S : Int → Prop} {M M' : tM} {r : Int} {m x : Nat} (h : Dr M r m x) (he : rU S M M') (hs : ¬ S r) : Dr M' r m x :=
  ⟨(he.2.1 r hs).trans h.1, h.2.1, h.2.2.1, fun i hi => (he.2.2 r i hs (by omega) (by have := h.2.1; omega)).trans (h.2.2.2 i hi)⟩
theorem Vr_U {S : Int → Prop} {M M' : tM} {r : Int} {x : Nat} (h : Vr M r x) (he : rU S M M') (hs : ¬ S r) : Vr M' r x := by
  obtain ⟨m, h1, h2⟩ := h
  exact ⟨m, Dr_U h1 he hs, h2⟩
theorem rU_d {S : Int → Prop} {M M' : tM} (h : rU S M M') : M' 664 2 = M 664 2 := h.1 664 2 (by decide) (by decide) (by decide)
theorem rE_d {S : Int → Prop} {M M' : tM} (h : rE S M M') : M' 664 2 = M 664 2 := h.1 664 2 (by decide) (by decide)
theorem uE_d {M M' : tM} (h : uE M M') : M' 664 2 = M 664 2 := h 664 2 (by decide)
section MODEL
variable {e : tE} {d n : Nat} {M : tM}
theorem c_size {row u l : Int} (hr : 0 ≤ row ∧ row < 15) (hl : 0 ≤ l ∧ l < 1000000000) (hu : -4000000000000000000 ≤ u ∧ u ≤ 4000000000000000000) (hd : 2 ≤ d) : tC e d 3708 [.inr (.inr (.inl 664)), .inl row, .inr (.inl u), .inr (.inl l)] M n (tQn n (fun M' => Vr M' row (u * 1000000000 + l).natAbs ∧ rE (fun r => r = row) M M')) := by
  have fin : ∀ M' : tM, Vr M' row (u * 1000000000 + l).natAbs → rE (fun r => r = row) M M' → tT e d 3708 50 [some (.inr (.inr (.inl 664))), some (.inl row), some (.inr (.inl u)), none, some (.inr (.inl l)), none] [] M' n (tQn n (fun M' => Vr M' row (u * 1000000000 + l).natAbs ∧ rE (fun r => r = row) M M')) := by
    intro M' h1 h2
    refine tb_X12_size_50 (c := false) ?_
    simp only [kb_X12_size_50, w_re, true_and, and_true, Nat.reduceAdd, Nat.reduceSub, eq_self]
    exact ⟨rfl, rfl, h1, h2⟩
  refine tst_X12_size ?_
  refine tb_X12_size_0 (c := false) ?_
  simp only [kb_X12_size_0, w_lld_2, w_lc0, w_lcmp, ne_eq, tlc_r, tlc_eq, tlc_lt, tlc_ge, tlc_gt, tlc_le, w_if_lt, w_ald_0, w_ild_1, w_lld4, w_iv3, tfr_0, tfr_1, tfr_2, tfr_3, tfr_4, w_goto, true_and, and_true, Nat.reduceAdd, Nat.reduceSub, eq_self, tshm_14, tshm_31, tshm_32, tykm_31, tykm_32, tykm_14, tci_14, tci_15, tci_960]
  refine ⟨by omega, fun h => ?_, fun h => ?_⟩
  · refine tb_X12_size_17 (c := false) ?_
    simp only [kb_X12_size_17, w_lld4, w_lc0, w_lcmp, ne_eq, tlc_r, tlc_eq, tlc_lt, tlc_ge, tlc_gt, tlc_le, w_if_ne, w_ald_0, w_ild_1, w_lld_2, w_lneg, tw_f, w_iv3, tfr_0, tfr_1, tfr_2, tfr_3, tfr_4, w_goto, true_and, and_true, Nat.reduceAdd, Nat.reduceSub, eq_self, tshm_14, tshm_31, tshm_32, tykm_31, tykm_32, tykm_14, tci_14, tci_15, tci_960]
    refine ⟨by omega, fun h2 => ?_, fun h2 => ?_⟩
    · refine tb_X12_size_35 (c := false) ?_
      simp only [kb_X12_size_35, w_ald_0, w_ild_1, w_lld_2, w_lneg, tw_f, w_lc1, w_lsub, w_ld2, w_lld4, w_iv3, tfr_0, tfr_1, tfr_2, tfr_3, tfr_4, w_nil, true_and, and_true, Nat.reduceAdd, Nat.reduceSub, eq_self, tshm_14, tshm_31, tshm_32, tykm_31, tykm_32, tykm_14, tci_14, tci_15, tci_960]
      obtain ⟨a, ha⟩ : ∃ a : Nat, -u - 1 = (a : Int) := ⟨(-u - 1).toNat, by omega⟩
      obtain ⟨b, hb⟩ : ∃ b : Nat, 1000000000 - l = (b : Int) := ⟨(1000000000 - l).toNat, by omega⟩
      rw [ha, hb]
      refine tc_n (D := 1) (fun d' hd' => c_sets (u := a) (l := b) hr (by omega) (by omega) hd') (by omega) ?_
      rintro M' ⟨q1, q2⟩
      try simp only [kb_X12_size_35, w_ald_0, w_ild_1, w_lld_2, w_lneg, tw_f, w_lc1, w_lsub, w_ld2, w_lld4, w_iv3, tfr_0, tfr_1, tfr_2, tfr_3, tfr_4, w_nil, true_and, and_true, Nat.reduceAdd, Nat.reduceSub, eq_self, tshm_14, tshm_31, tshm_32, tykm_31, tykm_32, tykm_14, tci_14, tci_15, tci_960]
      refine fin M' ?_ q2
      rw [show (u * 1000000000 + l).natAbs = a * 1000000000 + b by omega]
      exact q1
    · obtain ⟨a, ha⟩ : ∃ a : Nat, -u = (a : Int) := ⟨(-u).toNat, by omega⟩
      rw [ha]
      refine tc_n (D := 1) (fun d' hd' => c_sets (u := a) (l := 0) hr (by omega) (by omega) hd') (by omega) ?_
      rintro M' ⟨q1, q2⟩
      try simp only [kb_X12_size_17, w_lld4, w_lc0, w_lcmp, ne_eq, tlc_r, tlc_eq, tlc_lt, tlc_ge, tlc_gt, tlc_le, w_if_ne, w_ald_0, w_ild_1, w_lld_2, w_lneg, tw_f, w_iv3, tfr_0, tfr_1, tfr_2, tfr_3, tfr_4, w_goto, true_and, and_true, Nat.reduceAdd, Nat.reduceSub, eq_self, tshm_14, tshm_31, tshm_32, tykm_31, tykm_32, tykm_14, tci_14, tci_15, tci_960]
      refine fin M' ?_ q2
      rw [show (u * 1000000000 + l).natAbs = a * 1000000000 + 0 by omega]
      exact q1
  · obtain ⟨a, ha⟩ : ∃ a : Nat, u = (a : Int) := ⟨u.toNat, by omega⟩
    obtain ⟨b, hb⟩ : ∃ b : Nat, l = (b : Int) := ⟨l.toNat, by omega⟩
    rw [ha, hb] at fin ⊢
    refine tc_n (D := 1) (fun d' hd' => c_sets (u := a) (l := b) hr (by omega) (by omega) hd') (by omega) ?_
    rintro M' ⟨q1, q2⟩
    try simp only [kb_X12_size_0, w_lld_2, w_lc0, w_lcmp, ne_eq, tlc_r, tlc_eq, tlc_lt, tlc_ge, tlc_gt, tlc_le, w_if_lt, w_ald_0, w_ild_1, w_lld4, w_iv3, tfr_0, tfr_1, tfr_2, tfr_3, tfr_4, w_goto, true_and, and_true, Nat.reduceAdd, Nat.reduceSub, eq_self, tshm_14, tshm_31, tshm_32, tykm_31, tykm_32, tykm_14, tci_14, tci_15, tci_960]
    refine fin M' ?_ q2
    rw [show ((a : Int) * 1000000000 + (b : Int)).natAbs = a * 1000000000 + b by omega]
    exact q1
theorem rnd_near {up U z : Int} (hU : 0 < U) : z - U < rnd up U z ∧ rnd up U z < z + U := by
  have h1 := Int.emod_nonneg z (show U ≠ 0 by omega)
  have h2 := Int.emod_lt_of_pos z hU
  unfold rnd flo cei
  split
  · omega
  · split <;> omega
theorem c_adds {u l v k up : Int} {D : Nat} (hdg : M 664 2 = (D : Int)) (hD : D ≤ 10) (hl : 0 ≤ l ∧ l < 1000000000) (hk : 0 ≤ k ∧ k < 1000000000) (hu : -100000000000000 ≤ u ∧ u ≤ 100000000000000) (hv : -100000000000000 ≤ v ∧ v ≤ 100000000000000) (hup : up = 0 ∨ up = 1) (hd : 2 ≤ d) :
    tC e d 3587 [.inr (.inr (.inl 664)), .inr (.inl u), .inr (.inl l), .inr (.inl v), .inr (.inl k), .inl up] M n (tQi n (fun z M' => (z = 1 ∧ ¬ far (zb M') ∨ z = 0 ∧ far (zb M')) ∧ zb M' = rnd up (tn (10 - D) : Nat) (u * 1000000000 + l + (v * 1000000000 + k)) ∧ cb M' ∧ uE M M')) := by
  have n49 : ∀ M1 : tM, uE M M1 → zb M1 = u * 1000000000 + l + (v * 1000000000 + k) → cb M1 → tT e d 3587 49 [some (.inr (.inr (.inl 664))), some (.inr (.inl u)), none, some (.inr (.inl l)), none, some (.inr (.inl v)), none, some (.inr (.inl k)), none, some (.inl up)] [] M1 n (tQi n (fun z M' => (z = 1 ∧ ¬ far (zb M') ∨ z = 0 ∧ far (zb M')) ∧ zb M' = rnd up (tn (10 - D) : Nat) (u * 1000000000 + l + (v * 1000000000 + k)) ∧ cb M' ∧ uE M M')) := by
    intro M1 h1 h2 h3
    have h4 : M1 664 2 = (D : Int) := (uE_d h1).trans hdg
    refine tb_X12_adds_49 (c := false) ?_
    simp only [kb_X12_adds_49, w_ald_0, w_gf_14_2, tw_f, w_ild9, w_iv2, tfr_0, tfr_1, tfr_2, tfr_3, tfr_4, w_iv0, w_if_ne, w_ic, w_goto, true_and, and_true, Nat.reduceAdd, Nat.reduceSub, eq_self, tshm_14, tshm_31, tshm_32, tykm_31, tykm_32, tykm_14, tci_14, tci_15, tci_960]
    rw [h4]
    refine tc_n (D := 1) (fun d' hd' => c_rounds (m := D) (up := up) hD hup h3 (by omega) hd') (by omega) ?_
    rintro M2 ⟨q1, q2, q3⟩
    try simp only [kb_X12_adds_49, w_ald_0, w_gf_14_2, tw_f, w_ild9, w_iv2, tfr_0, tfr_1, tfr_2, tfr_3, tfr_4, w_iv0, w_if_ne, w_ic, w_goto, true_and, and_true, Nat.reduceAdd, Nat.reduceSub, eq_self, tshm_14, tshm_31, tshm_32, tykm_31, tykm_32, tykm_14, tci_14, tci_15, tci_960]
    rw [h2] at q1
    refine tc_i (D := 0) (fun d' _ => c_isTooGreat q2) (by omega) ?_
    rintro z M3 ⟨q4, rfl⟩
    try simp only [kb_X12_adds_49, w_ald_0, w_gf_14_2, tw_f, w_ild9, w_iv2, tfr_0, tfr_1, tfr_2, tfr_3, tfr_4, w_iv0, w_if_ne, w_ic, w_goto, true_and, and_true, Nat.reduceAdd, Nat.reduceSub, eq_self, tshm_14, tshm_31, tshm_32, tykm_31, tykm_32, tykm_14, tci_14, tci_15, tci_960]
    refine ⟨by omega, fun h => ?_, fun h => ?_⟩
    · refine tb_X12_adds_70 (c := false) ?_
      simp only [kb_X12_adds_70, w_ic, w_nil, true_and, and_true, Nat.reduceAdd, Nat.reduceSub, eq_self]
      refine tb_X12_adds_71 (c := false) ?_
      simp only [kb_X12_adds_71, w_ire, trg, true_and, and_true, Nat.reduceAdd, Nat.reduceSub, eq_self]
      exact ⟨by omega, _, rfl, rfl, Or.inr ⟨rfl, by rcases q4 with ⟨-, q4⟩ | ⟨q5, -⟩; exact q4; omega⟩, q1, q2, uE_tr h1 q3⟩
    · refine tb_X12_adds_71 (c := false) ?_
      simp only [kb_X12_adds_71, w_ire, trg, true_and, and_true, Nat.reduceAdd, Nat.reduceSub, eq_self]
      exact ⟨by omega, _, rfl, rfl, Or.inl ⟨rfl, by rcases q4 with ⟨q5, -⟩ | ⟨-, q4⟩; omega; exact q4⟩, q1, q2, uE_tr h1 q3⟩
  refine tst_X12_adds ?_
  refine tb_X12_adds_0 (c := false) ?_
  simp only [kb_X12_adds_0, w_ald_0, w_lld_1, w_lld5, w_ladd, tw_f, w_pf_14_4, w_lld_3, w_lld7, w_pf_14_5, w_gf_14_5, w_ld2, w_lcmp, ne_eq, tlc_r, tlc_eq, tlc_lt, tlc_ge, tlc_gt, tlc_le, w_if_lt, w_dupi, w_dupr, w_lsub, w_gf_14_4, w_lc1, w_nil, true_and, and_true, Nat.reduceAdd, Nat.reduceSub, eq_self, tshm_14, tshm_31, tshm_32, tykm_31, tykm_32, tykm_14, tci_14, tci_15, tci_960, u5_5,u5_4,u4_4,u4_5]
  refine ⟨by omega, fun h => n49 _ (uE_tr uE_4 uE_5) ?_ ?_, fun h => n49 _ (uE_tr (uE_tr (uE_tr uE_4 uE_5) uE_5) uE_4) ?_ ?_⟩
  · unfold zb
    rw [u5_5, u5_4, u4_4]
    omega
  · unfold cb
    rw [u5_5, u5_4, u4_4]
    omega
  · unfold zb
    rw [u4_4, u4_5, u5_5]
    omega
  · unfold cb
    rw [u4_4, u4_5, u5_5]
    omega
/-- what a row tells: so many units, one more if something is behind it and it goes outward -/
def tlu (t : Nat) (hm ib up : Int) : Nat := t + (if hm = 1 ∧ up ≠ ib then 1 else 0)
theorem c_tells {row hm ib up : Int} {t D : Nat} (hr : 0 ≤ row ∧ row < 14) (hV : Vr M row t) (hdg : M 664 2 = (D : Int)) (hD : D ≤ 10) (hhm : hm = 0 ∨ hm = 1) (hib : ib = 0 ∨ ib = 1) (hup : up = 0 ∨ up = 1) (hs : (t + 1) * tn 10 < pw 60) (hd : 3 ≤ d) :
    tC e d 3719 [.inr (.inr (.inl 664)), .inl row, .inl hm, .inl ib, .inl up] M n (tQi n (fun z M' => (z = 1 ∧ tlu t hm ib up * tn (10 - D) < 10000000000000000000000 ∧ zb M' = (if ib = 1 then -((tlu t hm ib up * tn (10 - D) : Nat) : Int) else ((tlu t hm ib up * tn (10 - D) : Nat) : Int)) ∧ cb M' ∨ z = 0 ∧ 10000000000000000000000 ≤ tlu t hm ib up * tn (10 - D)) ∧ rU (fun r => r = row ∨ r = 4 ∨ r = 14) M M')) := by
  generalize hT : tlu t hm ib up = t'
  have ht' : t' ≤ t + 1 := by rw [← hT]; unfold tlu; split <;> omega
  have hs1 : t' * tn 10 < pw 60 := Nat.lt_of_le_of_lt (Nat.mul_le_mul_right _ ht') hs
  have hs2 : t' * tn (10 - D) < pw 60 := Nat.lt_of_le_of_lt (Nat.mul_le_mul_left _ (tn_mono (by omega))) hs1
  have h62 : pw 60 < pw 62 := pw_lt (by decide)
  have hs3 : t + 1 < pw 62 := by
    have := Nat.le_mul_of_pos_right (t + 1) (tn_pos 10)
    omega
  -- the row TRIAL
  have n36 : ∀ M1 : tM, rU (fun r => r = row ∨ r = 4 ∨ r = 14) M M1 → Vr M1 4 t' → tT e d 3719 36 [some (.inr (.inr (.inl 664))), some (.inl row), some (.inl hm), some (.inl ib), some (.inl up), none] [] M1 n (tQi n (fun z M' => (z = 1 ∧ t' * tn (10 - D) < 10000000000000000000000 ∧ zb M' = (if ib = 1 then -((t' * tn (10 - D) : Nat) : Int) else ((t' * tn (10 - D) : Nat) : Int)) ∧ cb M' ∨ z = 0 ∧ 10000000000000000000000 ≤ t' * tn (10 - D)) ∧ rU (fun r => r = row ∨ r = 4 ∨ r = 14) M M')) := by
    intro M1 hE hV1
    have h4 : M1 664 2 = (D : Int) := (rU_d hE).trans hdg
    refine tb_X12_tells_36 (c := false) ?_
    simp only [kb_X12_tells_36, w_ald_0, w_ic, w_bi, w_gf_14_2, tw_f, w_isub, w_iv2, tfr_0, tfr_1, tfr_2, tfr_3, tfr_4, w_ist5, tkl_n, tkl_i, tkl_l, tkl_r, w_gf_14_1, w_ia, w_iax, w_ic_le, w_ire, trg, true_and, and_true, Nat.reduceAdd, Nat.reduceSub, eq_self, tshm_14, tshm_31, tshm_32, tykm_31, tykm_32, tykm_14, tci_14, tci_15, tci_960]
    rw [h4, show (10 : Int) - (D : Int) = ((10 - D : Nat) : Int) by omega]
    refine tc_i (D := 2) (fun d' hd' => c_tens (a := 4) (b := 10 - D) (by omega) hV1 (by omega) (by omega) hd') (by omega) ?_
    rintro z M2 ⟨rfl, q1, q2⟩
    try simp only [kb_X12_tells_36, w_ald_0, w_ic, w_bi, w_gf_14_2, tw_f, w_isub, w_iv2, tfr_0, tfr_1, tfr_2, tfr_3, tfr_4, w_ist5, tkl_n, tkl_i, tkl_l, tkl_r, w_gf_14_1, w_ia, w_iax, w_ic_le, w_ire, trg, true_and, and_true, Nat.reduceAdd, Nat.reduceSub, eq_self, tshm_14, tshm_31, tshm_32, tykm_31, tykm_32, tykm_14, tci_14, tci_15, tci_960]
    have hE2 := rU_tr hE (rU_rm q2 (fun r hr => Or.inr (Or.inl hr)))
    generalize hx : t' * tn (10 - D) = x at *
    obtain ⟨m, p1, p2⟩ := q1
    have p3 := p1.1
    have p4 := p1.2.1
    have p5 := p1.2.2.1
    refine ⟨by omega, by omega, fun h => ?_, fun h => ?_⟩
    · refine tb_X12_tells_62 (c := false) ?_
      simp only [kb_X12_tells_62, w_ald_0, w_ic, w_iv2, tfr_0, tfr_1, tfr_2, tfr_3, tfr_4, w_pf_14_5, w_ld2, w_lmul, tw_f, w_ladd, w_pf_14_4, w_gf_14_4, w_lcmp, ne_eq, tlc_r, tlc_eq, tlc_lt, tlc_ge, tlc_gt, tlc_le, w_if_lt, w_ire, trg, true_and, and_true, Nat.reduceAdd, Nat.reduceSub, eq_self, tshm_14, tshm_31, tshm_32, tykm_31, tykm_32, tykm_14, tci_14, tci_15, tci_960]
      refine tc_l (D := 0) (fun d' _ => c_limb (row := 4) (k := 0) (by omega) p1 (by omega)) (by omega) ?_
      rintro _ _ ⟨rfl, rfl⟩
      try simp only [kb_X12_tells_62, w_ald_0, w_ic, w_iv2, tfr_0, tfr_1, tfr_2, tfr_3, tfr_4, w_pf_14_5, w_ld2, w_lmul, tw_f, w_ladd, w_pf_14_4, w_gf_14_4, w_lcmp, ne_eq, tlc_r, tlc_eq, tlc_lt, tlc_ge, tlc_gt, tlc_le, w_if_lt, w_ire, trg, true_and, and_true, Nat.reduceAdd, Nat.reduceSub, eq_self, tshm_14, tshm_31, tshm_32, tykm_31, tykm_32, tykm_14, tci_14, tci_15, tci_960]
      have p1' : Dr (tU M2 664 5 ((dg x 0 : Nat) : Int)) 4 m x := Dr_U p1 (rU_u (S := fun _ => False) uE_5) (fun q => q)
      refine tc_l (D := 0) (fun d' _ => c_limb (row := 4) (k := 1) (by omega) p1' (by omega)) (by omega) ?_
      rintro _ _ ⟨rfl, rfl⟩
      try simp only [kb_X12_tells_62, w_ald_0, w_ic, w_iv2, tfr_0, tfr_1, tfr_2, tfr_3, tfr_4, w_pf_14_5, w_ld2, w_lmul, tw_f, w_ladd, w_pf_14_4, w_gf_14_4, w_lcmp, ne_eq, tlc_r, tlc_eq, tlc_lt, tlc_ge, tlc_gt, tlc_le, w_if_lt, w_ire, trg, true_and, and_true, Nat.reduceAdd, Nat.reduceSub, eq_self, tshm_14, tshm_31, tshm_32, tykm_31, tykm_32, tykm_14, tci_14, tci_15, tci_960]
      refine tc_l (D := 0) (fun d' _ => c_limb (row := 4) (k := 2) (by omega) p1' (by omega)) (by omega) ?_
      rintro _ _ ⟨rfl, rfl⟩
      try simp only [kb_X12_tells_62, w_ald_0, w_ic, w_iv2, tfr_0, tfr_1, tfr_2, tfr_3, tfr_4, w_pf_14_5, w_ld2, w_lmul, tw_f, w_ladd, w_pf_14_4, w_gf_14_4, w_lcmp, ne_eq, tlc_r, tlc_eq, tlc_lt, tlc_ge, tlc_gt, tlc_le, w_if_lt, w_ire, trg, true_and, and_true, Nat.reduceAdd, Nat.reduceSub, eq_self, tshm_14, tshm_31, tshm_32, tykm_31, tykm_32, tykm_14, tci_14, tci_15, tci_960, u4_4]
      have g0 := dg_lt x 0
      have g1 := dg_lt x 1
      have g2 := dg_lt x 2
      have hx3 : x < pw 3 := Nat.lt_of_lt_of_le p5 (pw_mono (by omega))
      have e0 : dg x 0 = x % 1000000000 := by rw [dg_def, pw_0, Nat.div_one]
      have e1 : dg x 1 = x / 1000000000 % 1000000000 := by rw [dg_def, pw_1]
      have e2 : dg x 2 = x / 1000000000000000000 % 1000000000 := by rw [dg_def, pw_2]
      rw [pw_3] at hx3
      have hsum : (((dg x 1 : Nat) : Int) + ((dg x 2 : Nat) : Int) * 1000000000) * 1000000000 + ((dg x 0 : Nat) : Int) = (x : Int) := by
        rw [e0, e1, e2]
        omega
      have hz3 : zb (tU (tU M2 664 5 ((dg x 0 : Nat) : Int)) 664 4 (((dg x 1 : Nat) : Int) + ((dg x 2 : Nat) : Int) * 1000000000)) = (x : Int) := by
        unfold zb
        rw [u4_4, u4_5, u5_5]
        exact hsum
      have hE3 : rU (fun r => r = row ∨ r = 4 ∨ r = 14) M (tU (tU M2 664 5 ((dg x 0 : Nat) : Int)) 664 4 (((dg x 1 : Nat) : Int) + ((dg x 2 : Nat) : Int) * 1000000000)) := rU_tr hE2 (rU_u (uE_tr uE_5 uE_4))
      refine ⟨by omega, fun h3 => ?_, fun h3 => ?_⟩
      · have n114 : ∀ M4 : tM, rU (fun r => r = row ∨ r = 4 ∨ r = 14) M M4 → zb M4 = (if ib = 1 then -((x : Nat) : Int) else ((x : Nat) : Int)) → cb M4 → tT e d 3719 114 [some (.inr (.inr (.inl 664))), some (.inl row), some (.inl hm), some (.inl ib), some (.inl up), some (.inl 0)] [] M4 n (tQi n (fun z M' => (z = 1 ∧ x < 10000000000000000000000 ∧ zb M' = (if ib = 1 then -((x : Nat) : Int) else ((x : Nat) : Int)) ∧ cb M' ∨ z = 0 ∧ 10000000000000000000000 ≤ x) ∧ rU (fun r => r = row ∨ r = 4 ∨ r = 14) M M')) := by
          intro M4 w1 w2 w3
          have hnf : ¬ far (zb M4) := by
            rw [w2]
            unfold far
            split <;> omega
          refine tb_X12_tells_114 (c := false) ?_
          simp only [kb_X12_tells_114, w_ald_0, w_iv0, tfr_0, tfr_1, tfr_2, tfr_3, tfr_4, w_if_ne, w_ic, w_goto, true_and, and_true, Nat.reduceAdd, Nat.reduceSub, eq_self, tshm_14, tshm_31, tshm_32, tykm_31, tykm_32, tykm_14, tci_14, tci_15, tci_960]
          refine tc_i (D := 0) (fun d' _ => c_isTooGreat w3) (by omega) ?_
          rintro z M5 ⟨q4, rfl⟩
          try simp only [kb_X12_tells_114, w_ald_0, w_iv0, tfr_0, tfr_1, tfr_2, tfr_3, tfr_4, w_if_ne, w_ic, w_goto, true_and, and_true, Nat.reduceAdd, Nat.reduceSub, eq_self, tshm_14, tshm_31, tshm_32, tykm_31, tykm_32, tykm_14, tci_14, tci_15, tci_960]
          refine ⟨by omega, fun h => ?_, fun h => ?_⟩
          · exact absurd h (by rcases q4 with ⟨-, q4⟩ | ⟨q4, -⟩; exact absurd q4 hnf; omega)
          · refine tb_X12_tells_126 (c := false) ?_
            simp only [kb_X12_tells_126, w_ire, trg, true_and, and_true, Nat.reduceAdd, Nat.reduceSub, eq_self]
            exact ⟨by omega, _, rfl, rfl, Or.inl ⟨rfl, by omega, w2, w3⟩, w1⟩
        refine tb_X12_tells_106 (c := false) ?_
        simp only [kb_X12_tells_106, w_ild_3, w_if_eq, w_ald_0, w_iv0, tfr_0, tfr_1, tfr_2, tfr_3, tfr_4, w_nil, true_and, and_true, Nat.reduceAdd, Nat.reduceSub, eq_self, tshm_14, tshm_31, tshm_32, tykm_31, tykm_32, tykm_14, tci_14, tci_15, tci_960]
        refine ⟨by omega, fun h4 => ?_, fun h4 => ?_⟩
        · refine n114 _ hE3 ?_ ?_
          · rw [hz3, if_neg (by omega)]
          · unfold cb
            rw [u4_4, u4_5, u5_5]
            omega
        · have hc3 : cb (tU (tU M2 664 5 ((dg x 0 : Nat) : Int)) 664 4 (((dg x 1 : Nat) : Int) + ((dg x 2 : Nat) : Int) * 1000000000)) := by
            unfold cb
            rw [u4_4, u4_5, u5_5]
            omega
          refine tc_n (D := 0) (fun d' _ => c_turns hc3 (by rw [hz3]; omega)) (by omega) ?_
          rintro M4 ⟨w1, w2, w3⟩
          rw [hz3] at w1
          try simp only [kb_X12_tells_106, w_ild_3, w_if_eq, w_ald_0, w_iv0, tfr_0, tfr_1, tfr_2, tfr_3, tfr_4, w_nil, true_and, and_true, Nat.reduceAdd, Nat.reduceSub, eq_self, tshm_14, tshm_31, tshm_32, tykm_31, tykm_32, tykm_14, tci_14, tci_15, tci_960]
          refine n114 M4 (rU_tr hE3 (rU_u w3)) ?_ w2
          rw [w1, if_pos (by omega)]
      · exact ⟨by omega, _, rfl, rfl, Or.inr ⟨rfl, by omega⟩, hE3⟩
    · refine ⟨by omega, _, rfl, rfl, Or.inr ⟨rfl, ?_⟩, hE2⟩
      have hx3 := pw_half p2 (by omega)
      have : pw 3 ≤ x := Nat.le_trans (pw_mono (by omega)) hx3
      rw [pw_3] at this
      omega
  have n25 : ∀ M1 : tM, rU (fun r => r = row ∨ r = 4 ∨ r = 14) M M1 → Vr M1 row t' → tT e d 3719 25 [some (.inr (.inr (.inl 664))), some (.inl row), some (.inl hm), some (.inl ib), some (.inl up), none] [] M1 n (tQi n (fun z M' => (z = 1 ∧ t' * tn (10 - D) < 10000000000000000000000 ∧ zb M' = (if ib = 1 then -((t' * tn (10 - D) : Nat) : Int) else ((t' * tn (10 - D) : Nat) : Int)) ∧ cb M' ∨ z = 0 ∧ 10000000000000000000000 ≤ t' * tn (10 - D)) ∧ rU (fun r => r = row ∨ r = 4 ∨ r = 14) M M')) := by
    intro M1 hE hV1
    refine tb_X12_tells_25 (c := false) ?_
    simp only [kb_X12_tells_25, w_ild_1, w_ic, w_ic_eq, w_ald_0, w_iv2, tfr_0, tfr_1, tfr_2, tfr_3, tfr_4, w_nil, true_and, and_true, Nat.reduceAdd, Nat.reduceSub, eq_self, tshm_14, tshm_31, tshm_32, tykm_31, tykm_32, tykm_14, tci_14, tci_15, tci_960]
    refine ⟨by omega, fun h => ?_, fun h => ?_⟩
    · subst h
      exact n36 M1 hE hV1
    · refine tc_n (D := 1) (fun d' hd' => c_copies (a := row) (b := 4) (by omega) (by omega) h hV1 hd') (by omega) ?_
      rintro M2 ⟨q1, q2⟩
      try simp only [kb_X12_tells_25, w_ild_1, w_ic, w_ic_eq, w_ald_0, w_iv2, tfr_0, tfr_1, tfr_2, tfr_3, tfr_4, w_nil, true_and, and_true, Nat.reduceAdd, Nat.reduceSub, eq_self, tshm_14, tshm_31, tshm_32, tykm_31, tykm_32, tykm_14, tci_14, tci_15, tci_960]
      exact n36 M2 (rU_tr hE (rU_rm q2 (fun r hr => Or.inr (Or.inl hr)))) q1
  refine tst_X12_tells ?_
  refine tb_X12_tells_0 (c := false) ?_
  simp only [kb_X12_tells_0, w_ald_0, w_bi, w_lc0, w_lc1, w_iv3, tfr_0, tfr_1, tfr_2, tfr_3, tfr_4, w_ild_2, w_if_eq, w_ild4, w_ild_3, w_ic_eq, w_ild_1, w_iv2, w_nil, true_and, and_true, Nat.reduceAdd, Nat.reduceSub, eq_self, tshm_14, tshm_31, tshm_32, tykm_31, tykm_32, tykm_14, tci_14, tci_15, tci_960]
  refine tc_n (D := 1) (fun d' hd' => c_sets (row := 14) (u := 0) (l := 1) (by omega) (by omega) (by omega) hd') (by omega) ?_
  rintro M1 ⟨q1, q2⟩
  try simp only [kb_X12_tells_0, w_ald_0, w_bi, w_lc0, w_lc1, w_iv3, tfr_0, tfr_1, tfr_2, tfr_3, tfr_4, w_ild_2, w_if_eq, w_ild4, w_ild_3, w_ic_eq, w_ild_1, w_iv2, w_nil, true_and, and_true, Nat.reduceAdd, Nat.reduceSub, eq_self, tshm_14, tshm_31, tshm_32, tykm_31, tykm_32, tykm_14, tci_14, tci_15, tci_960]
  have hE1 : rU (fun r => r = row ∨ r = 4 ∨ r = 14) M M1 := rU_rm q2 (fun r hr => Or.inr (Or.inr hr))
  have hV1 : Vr M1 row t := Vr_E hV q2 (by omega)
  refine ⟨by omega, fun h => ?_, fun h => ⟨by omega, fun h2 => ?_, fun h2 => ?_⟩⟩
  · have : t' = t := by rw [← hT]; unfold tlu; rw [if_neg (by omega)]; rfl
    rw [this] at n25 ⊢
    exact n25 M1 hE1 hV1
  · have : t' = t := by rw [← hT]; unfold tlu; rw [if_neg (by omega)]; rfl
    rw [this] at n25 ⊢
    exact n25 M1 hE1 hV1
  · have : t' = t + 1 := by rw [← hT]; unfold tlu; rw [if_pos (by omega)]
    rw [this] at n25 ⊢
    refine tc_n (D := 1) (fun d' hd' => c_plus (a := row) (b := 14) (by omega) (by omega) (by omega) hV1 q1 (by omega) hd') (by omega) ?_
    rintro M2 ⟨q3, q4⟩
    try simp only [kb_X12_tells_0, w_ald_0, w_bi, w_lc0, w_lc1, w_iv3, tfr_0, tfr_1, tfr_2, tfr_3, tfr_4, w_ild_2, w_if_eq, w_ild4, w_ild_3, w_ic_eq, w_ild_1, w_iv2, w_nil, true_and, and_true, Nat.reduceAdd, Nat.reduceSub, eq_self, tshm_14, tshm_31, tshm_32, tykm_31, tykm_32, tykm_14, tci_14, tci_15, tci_960]
    exact n25 M2 (rU_tr hE1 (rU_rm q4 (fun r hr => Or.inl hr))) q3
end MODEL
