/-! THE MODEL: bounds: whole numbers of ten-thousand-millionths, in two longs. -/
def cmpz (x y : Int) : Int := if x < y then -1 else if x = y then 0 else 1
theorem cmpz_r (x y : Int) : -1 ≤ cmpz x y ∧ cmpz x y ≤ 1 := by
  unfold cmpz
  split
  · omega
  · split <;> omega
theorem cmpz_lt (x y : Int) : (cmpz x y < 0) ↔ x < y := by
  unfold cmpz
  split
  · omega
  · split <;> omega
theorem cmpz_le (x y : Int) : (cmpz x y ≤ 0) ↔ x ≤ y := by
  unfold cmpz
  split
  · omega
  · split <;> omega
theorem cmpz_gt (x y : Int) : (0 < cmpz x y) ↔ y < x := by
  unfold cmpz
  split
  · omega
  · split <;> omega
theorem cmpz_ge (x y : Int) : (0 ≤ cmpz x y) ↔ y ≤ x := by
  unfold cmpz
  split
  · omega
  · split <;> omega
theorem cmpz_eq (x y : Int) : (cmpz x y = 0) ↔ x = y := by
  unfold cmpz
  split
  · omega
  · split <;> omega
/-- the bound that is being worked on -/
def zb (M : tM) : Int := M 664 4 * 1000000000 + M 664 5
def cb (M : tM) : Prop := (0 ≤ M 664 5 ∧ M 664 5 < 1000000000) ∧ (-4000000000000000 ≤ M 664 4 ∧ M 664 4 ≤ 4000000000000000)
def uE (M M' : tM) : Prop := ∀ (k : Nat) (i : Int), ¬ (k = 664 ∧ (i = 4 ∨ i = 5)) → M' k i = M k i
theorem uE_refl {M : tM} : uE M M := fun _ _ _ => rfl
theorem uE_tr {M M1 M2 : tM} (h1 : uE M M1) (h2 : uE M1 M2) : uE M M2 := fun k i h => (h2 k i h).trans (h1 k i h)
theorem uE_4 {M : tM} {v : Int} : uE M (tU M 664 4 v) := fun k i h => if_neg (fun q => h ⟨q.1, Or.inl q.2⟩)
theorem uE_5 {M : tM} {v : Int} : uE M (tU M 664 5 v) := fun k i h => if_neg (fun q => h ⟨q.1, Or.inr q.2⟩)
def flo (U z : Int) : Int := z - z % U
def cei (U z : Int) : Int := if z % U = 0 then z else z - z % U + U
def rnd (up U z : Int) : Int := if up = 0 then flo U z else cei U z
def far (z : Int) : Prop := 10000000000000000000000 ≤ z ∨ z ≤ -10000000000000000000000
theorem u4_4 (M : tM) (v : Int) : tU M 664 4 v 664 4 = v := tU_eq ..
theorem u5_5 (M : tM) (v : Int) : tU M 664 5 v 664 5 = v := tU_eq ..
theorem u4_5 (M : tM) (v : Int) : tU M 664 4 v 664 5 = M 664 5 := tU_ni (by decide)
theorem u5_4 (M : tM) (v : Int) : tU M 664 5 v 664 4 = M 664 4 := tU_ni (by decide)
theorem u4_2 (M : tM) (v : Int) : tU M 664 4 v 664 2 = M 664 2 := tU_ni (by decide)
theorem u5_2 (M : tM) (v : Int) : tU M 664 5 v 664 2 = M 664 2 := tU_ni (by decide)
section MODEL
variable {e : tE} {d n : Nat} {M : tM}
theorem c_order {u l v k : Int} (hl : 0 ≤ l ∧ l < 1000000000) (hk : 0 ≤ k ∧ k < 1000000000) (hu : -4000000000000000000 ≤ u ∧ u ≤ 4000000000000000000) (hv : -4000000000000000000 ≤ v ∧ v ≤ 4000000000000000000) : tC e d 3671 [.inr (.inl u), .inr (.inl l), .inr (.inl v), .inr (.inl k)] M n (tQi n (fun z M' => z = cmpz (u * 1000000000 + l) (v * 1000000000 + k) ∧ M = M')) := by
  have fin : ∀ z : Int, z = cmpz (u * 1000000000 + l) (v * 1000000000 + k) → tT e d 3671 45 [some (.inr (.inl u)), none, some (.inr (.inl l)), none, some (.inr (.inl v)), none, some (.inr (.inl k)), none] [.inl z] M n (tQi n (fun z M' => z = cmpz (u * 1000000000 + l) (v * 1000000000 + k) ∧ M = M')) := by
    intro z hz
    refine tb_X12_order_45 (c := false) ?_
    simp only [kb_X12_order_45, w_ire, trg, true_and, and_true, Nat.reduceAdd, Nat.reduceSub, eq_self]
    exact ⟨_, rfl, rfl, hz, rfl⟩
  refine tst_X12_order ?_
  refine tb_X12_order_0 (c := false) ?_
  simp only [kb_X12_order_0, w_lld_0, w_lld4, w_lcmp, ne_eq, tlc_r, tlc_eq, tlc_lt, tlc_ge, tlc_gt, tlc_le, w_if_eq, w_if_ge, w_ic, w_goto, true_and, and_true, Nat.reduceAdd, Nat.reduceSub, eq_self]
  refine ⟨by omega, fun h => ?_, fun h => ⟨by omega, fun h2 => ?_, fun h2 => ?_⟩⟩
  · refine tb_X12_order_22 (c := false) ?_
    simp only [kb_X12_order_22, w_lld_2, w_lld6, w_lcmp, ne_eq, tlc_r, tlc_eq, tlc_lt, tlc_ge, tlc_gt, tlc_le, w_if_ge, w_ic, w_goto, true_and, and_true, Nat.reduceAdd, Nat.reduceSub, eq_self]
    refine ⟨by omega, fun h2 => ?_, fun h2 => ?_⟩
    · refine tb_X12_order_33 (c := false) ?_
      simp only [kb_X12_order_33, w_lld_2, w_lld6, w_lcmp, ne_eq, tlc_r, tlc_eq, tlc_lt, tlc_ge, tlc_gt, tlc_le, w_if_le, w_ic, w_goto, true_and, and_true, Nat.reduceAdd, Nat.reduceSub, eq_self]
      refine ⟨by omega, fun h3 => ?_, fun h3 => ?_⟩
      · refine tb_X12_order_44 (c := false) ?_
        simp only [kb_X12_order_44, w_ic, w_nil, true_and, and_true, Nat.reduceAdd, Nat.reduceSub, eq_self]
        exact fin 0 ((cmpz_eq _ _).mpr (by omega)).symm
      · exact fin 1 (by have h4 := cmpz_r (u * 1000000000 + l) (v * 1000000000 + k); have h5 := (cmpz_gt (u * 1000000000 + l) (v * 1000000000 + k)).mpr (by omega); omega)
    · exact fin (-1) (by have h4 := cmpz_r (u * 1000000000 + l) (v * 1000000000 + k); have h5 := (cmpz_lt (u * 1000000000 + l) (v * 1000000000 + k)).mpr (by omega); omega)
  · refine tb_X12_order_18 (c := false) ?_
    simp only [kb_X12_order_18, w_ic, w_goto, true_and, and_true, Nat.reduceAdd, Nat.reduceSub, eq_self]
    exact fin 1 (by have h4 := cmpz_r (u * 1000000000 + l) (v * 1000000000 + k); have h5 := (cmpz_gt (u * 1000000000 + l) (v * 1000000000 + k)).mpr (by omega); omega)
  · exact fin (-1) (by have h4 := cmpz_r (u * 1000000000 + l) (v * 1000000000 + k); have h5 := (cmpz_lt (u * 1000000000 + l) (v * 1000000000 + k)).mpr (by omega); omega)
theorem c_modulo {v b : Int} (hv : -4000000000000000000 ≤ v ∧ v ≤ 4000000000000000000) (hb : 0 < b ∧ b ≤ 4000000000000000000) : tC e d 3656 [.inr (.inl v), .inr (.inl b)] M n (tQl n (fun z M' => z = v % b ∧ M = M')) := by
  have h1 := @Int.tmod_eq_emod v b
  have h2 := Int.emod_nonneg v (show b ≠ 0 by omega)
  have h3 := Int.emod_lt_of_pos v hb.1
  have fin : ∀ z : Int, z = v % b → tT e d 3656 21 [some (.inr (.inl v)), none, some (.inr (.inl b)), none, some (.inr (.inl (v.tmod b))), none] [.inr (.inl z)] M n (tQl n (fun z M' => z = v % b ∧ M = M')) := by
    intro z hz
    refine tb_X12_modulo_21 (c := false) ?_
    simp only [kb_X12_modulo_21, w_lre, true_and, and_true, Nat.reduceAdd, Nat.reduceSub, eq_self]
    exact ⟨_, rfl, rfl, hz, rfl⟩
  have h4 : (b.natAbs : Int) = b := by omega
  have h5 : v.tmod b = v % b ∨ v.tmod b = v % b - b ∧ ¬ (b ∣ v) := by
    rw [h1]
    split
    · left
      omega
    · right
      rename_i h6
      exact ⟨by omega, fun q => h6 (Or.inr q)⟩
  refine tst_X12_modulo ?_
  refine tb_X12_modulo_0 (c := false) ?_
  simp only [kb_X12_modulo_0, w_lld_0, w_lld_2, w_lrem, w_lst4, tkl_n, tkl_i, tkl_l, tkl_r, w_lld4, w_lc0, w_lcmp, ne_eq, tlc_r, tlc_eq, tlc_lt, tlc_ge, tlc_gt, tlc_le, w_if_ge, w_ladd, tw_f, w_goto, true_and, and_true, Nat.reduceAdd, Nat.reduceSub, eq_self]
  refine ⟨by omega, by omega, fun h => ?_, fun h => ?_⟩
  · refine tb_X12_modulo_19 (c := false) ?_
    simp only [kb_X12_modulo_19, w_lld4, w_nil, true_and, and_true, Nat.reduceAdd, Nat.reduceSub, eq_self]
    exact fin _ (by omega)
  · exact fin _ (by omega)
theorem c_in {v a b : Int} (hv : -9223372036854775808 ≤ v ∧ v < 9223372036854775808) (ha : -9223372036854775808 ≤ a ∧ a < 9223372036854775808) (hb : -9223372036854775808 ≤ b ∧ b < 9223372036854775808) : tC e d 3626 [.inr (.inl v), .inr (.inl a), .inr (.inl b)] M n (tQi n (fun z M' => (z = 1 ∧ (a ≤ v ∧ v ≤ b) ∨ z = 0 ∧ ¬ (a ≤ v ∧ v ≤ b)) ∧ M = M')) := by
  refine tst_X12_in ?_
  refine tb_X12_in_0 (c := false) ?_
  simp only [kb_X12_in_0, w_lld_0, w_lld_2, w_lcmp, ne_eq, tlc_r, tlc_eq, tlc_lt, tlc_ge, tlc_gt, tlc_le, w_if_lt, w_lld4, w_if_gt, w_ic, w_goto, true_and, and_true, Nat.reduceAdd, Nat.reduceSub, eq_self]
  refine ⟨by omega, fun h => ?_, fun h => ⟨by omega, fun h => ?_, fun h => ?_⟩⟩
  · refine tb_X12_in_17 (c := false) ?_
    simp only [kb_X12_in_17, w_ic, w_nil, true_and, and_true, Nat.reduceAdd, Nat.reduceSub, eq_self]
    refine tb_X12_in_18 (c := false) ?_
    simp only [kb_X12_in_18, w_ire, trg, true_and, and_true, Nat.reduceAdd, Nat.reduceSub, eq_self]
    exact ⟨by omega, _, rfl, rfl, by omega, rfl⟩
  · refine tb_X12_in_17 (c := false) ?_
    simp only [kb_X12_in_17, w_ic, w_nil, true_and, and_true, Nat.reduceAdd, Nat.reduceSub, eq_self]
    refine tb_X12_in_18 (c := false) ?_
    simp only [kb_X12_in_18, w_ire, trg, true_and, and_true, Nat.reduceAdd, Nat.reduceSub, eq_self]
    exact ⟨by omega, _, rfl, rfl, by omega, rfl⟩
  · refine tb_X12_in_18 (c := false) ?_
    simp only [kb_X12_in_18, w_ire, trg, true_and, and_true, Nat.reduceAdd, Nat.reduceSub, eq_self]
    exact ⟨by omega, _, rfl, rfl, by omega, rfl⟩
theorem c_isTooGreat (hc : cb M) : tC e d 3636 [.inr (.inr (.inl 664))] M n (tQi n (fun z M' => (z = 1 ∧ far (zb M) ∨ z = 0 ∧ ¬ far (zb M)) ∧ M = M')) := by
  obtain ⟨h1, h2⟩ := hc
  have fin : ∀ z : Int, (z = 1 ∧ far (zb M) ∨ z = 0 ∧ ¬ far (zb M)) → tT e d 3636 47 [some (.inr (.inr (.inl 664)))] [.inl z] M n (tQi n (fun z M' => (z = 1 ∧ far (zb M) ∨ z = 0 ∧ ¬ far (zb M)) ∧ M = M')) := by
    intro z hz
    refine tb_X12_isTooGreat_47 (c := false) ?_
    simp only [kb_X12_isTooGreat_47, w_ire, trg, true_and, and_true, Nat.reduceAdd, Nat.reduceSub, eq_self]
    exact ⟨by omega, _, rfl, rfl, hz, rfl⟩
  have f1 : far (zb M) → tT e d 3636 42 [some (.inr (.inr (.inl 664)))] [] M n (tQi n (fun z M' => (z = 1 ∧ far (zb M) ∨ z = 0 ∧ ¬ far (zb M)) ∧ M = M')) := by
    intro hf
    refine tb_X12_isTooGreat_42 (c := false) ?_
    simp only [kb_X12_isTooGreat_42, w_ic, w_goto, true_and, and_true, Nat.reduceAdd, Nat.reduceSub, eq_self]
    exact fin 1 (Or.inl ⟨rfl, hf⟩)
  have f0 : ¬ far (zb M) → tT e d 3636 46 [some (.inr (.inr (.inl 664)))] [] M n (tQi n (fun z M' => (z = 1 ∧ far (zb M) ∨ z = 0 ∧ ¬ far (zb M)) ∧ M = M')) := by
    intro hf
    refine tb_X12_isTooGreat_46 (c := false) ?_
    simp only [kb_X12_isTooGreat_46, w_ic, w_nil, true_and, and_true, Nat.reduceAdd, Nat.reduceSub, eq_self]
    exact fin 0 (Or.inr ⟨rfl, hf⟩)
  refine tst_X12_isTooGreat ?_
  refine tb_X12_isTooGreat_0 (c := false) ?_
  simp only [kb_X12_isTooGreat_0, w_ald_0, w_gf_14_4, tw_f, w_ld2, w_lcmp, ne_eq, tlc_r, tlc_eq, tlc_lt, tlc_ge, tlc_gt, tlc_le, w_if_ge, w_if_lt, w_if_ne, w_gf_14_5, w_lc0, w_nil, true_and, and_true, Nat.reduceAdd, Nat.reduceSub, eq_self, tshm_14, tshm_31, tshm_32, tykm_31, tykm_32, tykm_14, tci_14, tci_15, tci_960]
  refine ⟨by omega, fun h => f1 ?_, fun h => ⟨by omega, fun h3 => f1 ?_, fun h3 => ⟨by omega, fun h4 => f0 ?_, fun h4 => ⟨by omega, fun h5 => f0 ?_, fun h5 => ?_⟩⟩⟩⟩
  · unfold far zb
    omega
  · unfold far zb
    omega
  · unfold far zb
    omega
  · unfold far zb
    omega
  · refine tb_X12_isTooGreat_42 (c := false) ?_
    simp only [kb_X12_isTooGreat_42, w_ic, w_goto, true_and, and_true, Nat.reduceAdd, Nat.reduceSub, eq_self]
    exact fin 1 (Or.inl ⟨rfl, by unfold far zb; omega⟩)
theorem c_turns (hc : cb M) (hz : -1000000000000000000000000 ≤ zb M ∧ zb M ≤ 1000000000000000000000000) : tC e d 3727 [.inr (.inr (.inl 664))] M n (tQn n (fun M' => zb M' = -zb M ∧ cb M' ∧ uE M M')) := by
  obtain ⟨h1, h2⟩ := hc
  have n50 : ∀ (u v : Int), u * 1000000000 + v = - zb M → 0 ≤ v → v < 1000000000 → tT e d 3727 50 [some (.inr (.inr (.inl 664)))] [.inr (.inl v), .inr (.inr (.inl 664))] (tU M 664 4 u) n (tQn n (fun M' => zb M' = -zb M ∧ cb M' ∧ uE M M')) := by
    intro u v h3 h4 h5
    refine tb_X12_turns_50 (c := false) ?_
    simp only [kb_X12_turns_50, w_pf_14_5, w_re, true_and, and_true, Nat.reduceAdd, Nat.reduceSub, eq_self, tshm_14, tshm_31, tshm_32, tykm_31, tykm_32, tykm_14, tci_14, tci_15, tci_960]
    refine ⟨rfl, rfl, ?_, ?_, uE_tr uE_4 uE_5⟩
    · unfold zb
      rw [u5_5, u5_4, u4_4]
      exact h3
    · unfold cb
      unfold zb at h3 hz
      rw [u5_5, u5_4, u4_4]
      omega
  have n25 : ∀ (u v : Int), u * 1000000000 + v = - zb M → 0 ≤ v → v < 1000000000 → (M 664 5 = 0 → v = 0) → (M 664 5 ≠ 0 → v = 1000000000 - M 664 5) → tT e d 3727 25 [some (.inr (.inr (.inl 664)))] [.inr (.inl u), .inr (.inr (.inl 664))] M n (tQn n (fun M' => zb M' = -zb M ∧ cb M' ∧ uE M M')) := by
    intro u v h3 h4 h5 h6 h7
    refine tb_X12_turns_25 (c := false) ?_
    simp only [kb_X12_turns_25, w_pf_14_4, w_ald_0, w_gf_14_5, tw_f, w_lc0, w_lcmp, ne_eq, tlc_r, tlc_eq, tlc_lt, tlc_ge, tlc_gt, tlc_le, w_if_ne, w_goto, true_and, and_true, Nat.reduceAdd, Nat.reduceSub, eq_self, tshm_14, tshm_31, tshm_32, tykm_31, tykm_32, tykm_14, tci_14, tci_15, tci_960, u4_5]
    refine ⟨by omega, fun h => ?_, fun h => ?_⟩
    · refine tb_X12_turns_42 (c := false) ?_
      simp only [kb_X12_turns_42, w_ld2, w_ald_0, w_gf_14_5, tw_f, w_lsub, w_nil, true_and, and_true, Nat.reduceAdd, Nat.reduceSub, eq_self, tshm_14, tshm_31, tshm_32, tykm_31, tykm_32, tykm_14, tci_14, tci_15, tci_960, u4_5]
      rw [← h7 h]
      exact n50 u v h3 h4 h5
    · have h8 := h6 (by omega)
      rw [← h8]
      exact n50 u v h3 h4 h5
  refine tst_X12_turns ?_
  refine tb_X12_turns_0 (c := false) ?_
  simp only [kb_X12_turns_0, w_ald_0, w_gf_14_5, tw_f, w_lc0, w_lcmp, ne_eq, tlc_r, tlc_eq, tlc_lt, tlc_ge, tlc_gt, tlc_le, w_if_ne, w_gf_14_4, w_lneg, w_goto, true_and, and_true, Nat.reduceAdd, Nat.reduceSub, eq_self, tshm_14, tshm_31, tshm_32, tykm_31, tykm_32, tykm_14, tci_14, tci_15, tci_960]
  refine ⟨by omega, fun h => ?_, fun h => ?_⟩
  · refine tb_X12_turns_18 (c := false) ?_
    simp only [kb_X12_turns_18, w_ald_0, w_gf_14_4, tw_f, w_lneg, w_lc1, w_lsub, w_nil, true_and, and_true, Nat.reduceAdd, Nat.reduceSub, eq_self, tshm_14, tshm_31, tshm_32, tykm_31, tykm_32, tykm_14, tci_14, tci_15, tci_960]
    exact n25 _ (1000000000 - M 664 5) (by unfold zb; omega) (by omega) (by omega) (by omega) (by omega)
  · exact n25 _ 0 (by unfold zb; omega) (by omega) (by omega) (by omega) (by omega)
theorem tn_dvd {a b : Nat} (h : a ≤ b) : ((tn a : Nat) : Int) ∣ ((tn b : Nat) : Int) := by
  obtain ⟨c, rfl⟩ : ∃ c, b = a + c := ⟨b - a, by omega⟩
  rw [tn_add, Int.natCast_mul]
  exact Int.dvd_mul_right ..
theorem emod_low {u l U N : Int} (h : U ∣ N) : (u * N + l) % U = l % U := by
  obtain ⟨c, rfl⟩ := h
  rw [Int.mul_comm U c, ← Int.mul_assoc, Int.add_comm, Int.add_mul_emod_self_right]
theorem tn_10 : tn 10 = 10000000000 := (tn_def 10).trans (by decide)
theorem tn_le9 {k : Nat} (h : k ≤ 9) : tn k ≤ 1000000000 := by
  have := tn_mono h
  rwa [tn_9] at this
/-- to so many digits, down or up -/
theorem c_rounds {m : Nat} {up : Int} (hm : m ≤ 10) (hup : up = 0 ∨ up = 1) (hc : cb M) (hz : -1000000000000000000000000 ≤ zb M ∧ zb M ≤ 1000000000000000000000000) (hd : 1 ≤ d) : tC e d 3697 [.inr (.inr (.inl 664)), .inl (m : Int), .inl up] M n (tQn n (fun M' => zb M' = rnd up (tn (10 - m) : Nat) (zb M) ∧ cb M' ∧ uE M M')) := by
  obtain ⟨h1, h2⟩ := hc
  have hz0 := hz
  unfold zb at hz0
  refine tst_X12_rounds ?_
  rcases Nat.eq_zero_or_pos m with h0 | h0
  · subst h0
    have hU : ((tn (10 - 0) : Nat) : Int) = 10000000000 := by rw [show 10 - 0 = 10 from rfl, tn_10]; rfl
    rw [hU]
    have hzm : zb M % 10000000000 = M 664 4 % 10 * 1000000000 + M 664 5 := by
      unfold zb
      omega
    have n103 : ∀ c : Int, (c = 0 ∧ (up = 0 ∨ zb M % 10000000000 = 0) ∨ c = 10 ∧ up = 1 ∧ zb M % 10000000000 ≠ 0) → tT e d 3697 103 [some (.inr (.inr (.inl 664))), some (.inl ((0 : Nat) : Int)), some (.inl up), some (.inr (.inl 1000000000)), none, some (.inr (.inl (M 664 4 % 10 * 1000000000 + M 664 5))), none] [.inr (.inl c), .inr (.inl (M 664 4 - M 664 4 % 10)), .inr (.inr (.inl 664))] (tU (tU M 664 4 (M 664 4 - M 664 4 % 10)) 664 5 0) n (tQn n (fun M' => zb M' = rnd up 10000000000 (zb M) ∧ cb M' ∧ uE M M')) := by
      intro c hc
      refine tb_X12_rounds_103 (c := false) ?_
      simp only [kb_X12_rounds_103, w_ladd, tw_f, w_pf_14_4, w_re, true_and, and_true, Nat.reduceAdd, Nat.reduceSub, eq_self, tshm_14, tshm_31, tshm_32, tykm_31, tykm_32, tykm_14, tci_14, tci_15, tci_960]
      refine ⟨rfl, rfl, ?_, ?_, uE_tr (uE_tr uE_4 uE_5) uE_4⟩
      · have e1 : zb (tU (tU (tU M 664 4 (M 664 4 - M 664 4 % 10)) 664 5 0) 664 4 (M 664 4 - M 664 4 % 10 + c)) = (M 664 4 - M 664 4 % 10 + c) * 1000000000 := by
          unfold zb
          rw [u4_4, u4_5, u5_5]
          omega
        rw [e1]
        unfold rnd flo cei
        rw [hzm] at hc ⊢
        rcases hc with ⟨rfl, hc⟩ | ⟨rfl, rfl, hc⟩
        · rcases hc with rfl | hc
          · rw [if_pos rfl]
            unfold zb
            omega
          · split
            · unfold zb
              omega
            · unfold zb
              omega
        · rw [if_neg (by decide), if_neg hc]
          unfold zb
          omega
      · unfold cb
        rw [u4_4, u4_5, u5_5]
        omega
    have n102 : (up = 0 ∨ zb M % 10000000000 = 0) → tT e d 3697 102 [some (.inr (.inr (.inl 664))), some (.inl ((0 : Nat) : Int)), some (.inl up), some (.inr (.inl 1000000000)), none, some (.inr (.inl (M 664 4 % 10 * 1000000000 + M 664 5))), none] [.inr (.inl (M 664 4 - M 664 4 % 10)), .inr (.inr (.inl 664))] (tU (tU M 664 4 (M 664 4 - M 664 4 % 10)) 664 5 0) n (tQn n (fun M' => zb M' = rnd up 10000000000 (zb M) ∧ cb M' ∧ uE M M')) := by
      intro hc
      refine tb_X12_rounds_102 (c := false) ?_
      simp only [kb_X12_rounds_102, w_lc0, w_nil, true_and, and_true, Nat.reduceAdd, Nat.reduceSub, eq_self]
      exact n103 0 (Or.inl ⟨rfl, hc⟩)
    refine tb_X12_rounds_0 (c := false) ?_
    simp only [kb_X12_rounds_0, w_ild_1, w_if_ne, w_ld2, w_goto, true_and, and_true, Nat.reduceAdd, Nat.reduceSub, eq_self]
    refine ⟨by omega, fun h => by omega, fun _ => ?_⟩
    refine tb_X12_rounds_17 (c := false) ?_
    simp only [kb_X12_rounds_17, w_lst_3, tkl_n, tkl_i, tkl_l, tkl_r, w_ild_1, w_if_ne, w_ald_0, w_gf_14_4, tw_f, w_ld2, w_is2, tfr_0, tfr_1, tfr_2, tfr_3, tfr_4, w_lmul, w_gf_14_5, w_ladd, w_goto, true_and, and_true, Nat.reduceAdd, Nat.reduceSub, eq_self, tshm_14, tshm_31, tshm_32, tykm_31, tykm_32, tykm_14, tci_14, tci_15, tci_960]
    refine ⟨by omega, fun h => by omega, fun _ => ?_⟩
    refine tc_l (D := 0) (fun d' _ => c_modulo (v := M 664 4) (b := 10) (by omega) (by omega)) (by omega) ?_
    rintro _ _ ⟨rfl, rfl⟩
    simp only [kb_X12_rounds_17, w_lst_3, tkl_n, tkl_i, tkl_l, tkl_r, w_ild_1, w_if_ne, w_ald_0, w_gf_14_4, tw_f, w_ld2, w_is2, tfr_0, tfr_1, tfr_2, tfr_3, tfr_4, w_lmul, w_gf_14_5, w_ladd, w_goto, true_and, and_true, Nat.reduceAdd, Nat.reduceSub, eq_self, tshm_14, tshm_31, tshm_32, tykm_31, tykm_32, tykm_14, tci_14, tci_15, tci_960]
    refine tb_X12_rounds_50 (c := false) ?_
    simp only [kb_X12_rounds_50, w_lst5, tkl_n, tkl_i, tkl_l, tkl_r, w_ild_1, w_if_ne, w_ald_0, w_dupi, w_dupr, w_gf_14_4, tw_f, w_ld2, w_is2, tfr_0, tfr_1, tfr_2, tfr_3, tfr_4, w_lsub, w_pf_14_4, w_lc0, w_pf_14_5, w_ild_2, w_if_eq, w_lld5, w_lcmp, ne_eq, tlc_r, tlc_eq, tlc_lt, tlc_ge, tlc_gt, tlc_le, w_if_le, w_goto, true_and, and_true, Nat.reduceAdd, Nat.reduceSub, eq_self, tshm_14, tshm_31, tshm_32, tykm_31, tykm_32, tykm_14, tci_14, tci_15, tci_960]
    refine ⟨by omega, fun h => by omega, fun _ => ?_⟩
    refine tc_l (D := 0) (fun d' _ => c_modulo (v := M 664 4) (b := 10) (by omega) (by omega)) (by omega) ?_
    rintro _ _ ⟨rfl, rfl⟩
    simp only [kb_X12_rounds_50, w_lst5, tkl_n, tkl_i, tkl_l, tkl_r, w_ild_1, w_if_ne, w_ald_0, w_dupi, w_dupr, w_gf_14_4, tw_f, w_ld2, w_is2, tfr_0, tfr_1, tfr_2, tfr_3, tfr_4, w_lsub, w_pf_14_4, w_lc0, w_pf_14_5, w_ild_2, w_if_eq, w_lld5, w_lcmp, ne_eq, tlc_r, tlc_eq, tlc_lt, tlc_ge, tlc_gt, tlc_le, w_if_le, w_goto, true_and, and_true, Nat.reduceAdd, Nat.reduceSub, eq_self, tshm_14, tshm_31, tshm_32, tykm_31, tykm_32, tykm_14, tci_14, tci_15, tci_960, u5_4,u4_4]
    refine ⟨by omega, fun h => n102 (Or.inl h), fun h => ⟨by omega, fun h3 => n102 (Or.inr (by rw [hzm]; omega)), fun h3 => n103 10 (Or.inr ⟨rfl, by omega, by rw [hzm]; omega⟩)⟩⟩
  · have hU1 := tn_pos (10 - m)
    have hU2 := tn_le9 (show 10 - m ≤ 9 by omega)
    have hdv : ((tn (10 - m) : Nat) : Int) ∣ 1000000000 := by
      have := tn_dvd (show 10 - m ≤ 9 by omega)
      rwa [tn_9] at this
    obtain ⟨w, hw⟩ := hdv
    generalize hUU : ((tn (10 - m) : Nat) : Int) = U at *
    have hUp : 0 < U := by omega
    have hUl : U ≤ 1000000000 := by omega
    have hzm : zb M % U = M 664 5 % U := emod_low ⟨w, hw⟩
    have hm1 := Int.emod_nonneg (M 664 5) (show U ≠ 0 by omega)
    have hm2 := Int.emod_lt_of_pos (M 664 5) hUp
    have hm3 : M 664 5 % U ≤ M 664 5 := by
      have h9 := Int.emod_add_mul_ediv (M 664 5) U
      have h10 : 0 ≤ U * (M 664 5 / U) := Int.mul_nonneg (by omega) (Int.ediv_nonneg h1.1 (by omega))
      omega
    have hq : M 664 5 - M 664 5 % U + U ≤ 1000000000 := by
      have h9 := Int.emod_add_mul_ediv (M 664 5) U
      have h10 : M 664 5 - M 664 5 % U = U * (M 664 5 / U) := by omega
      rw [h10, hw]
      have h11 : M 664 5 / U < w := by
        refine Int.ediv_lt_of_lt_mul hUp ?_
        rw [Int.mul_comm, ← hw]
        exact h1.2
      have h12 : U * (M 664 5 / U + 1) ≤ U * w := Int.mul_le_mul_of_nonneg_left (by omega) (by omega)
      rw [Int.mul_add, Int.mul_one] at h12
      exact h12
    generalize hr : M 664 5 % U = r at *
    have n140 : ∀ c : Int, (c = 0 ∧ (up = 0 ∨ r = 0) ∨ c = U ∧ up = 1 ∧ r ≠ 0) → tT e d 3697 140 [some (.inr (.inr (.inl 664))), some (.inl (m : Int)), some (.inl up), some (.inr (.inl U)), none, some (.inr (.inl r)), none] [.inr (.inl c), .inr (.inl (M 664 5 - r)), .inr (.inr (.inl 664))] (tU M 664 5 (M 664 5 - r)) n (tQn n (fun M' => zb M' = rnd up U (zb M) ∧ cb M' ∧ uE M M')) := by
      intro c hc
      have hres : zb M - r + c = rnd up U (zb M) := by
        unfold rnd flo cei
        rw [hzm]
        rcases hc with ⟨rfl, hc⟩ | ⟨rfl, rfl, hc⟩
        · rcases hc with rfl | hc
          · rw [if_pos rfl]
            omega
          · split
            · omega
            · omega
        · rw [if_neg (by decide), if_neg hc]
      have fin : ∀ M2 : tM, uE M M2 → zb M2 = zb M - r + c → 0 ≤ M2 664 5 → M2 664 5 < 1000000000 → tT e d 3697 177 [some (.inr (.inr (.inl 664))), some (.inl (m : Int)), some (.inl up), some (.inr (.inl U)), none, some (.inr (.inl r)), none] [] M2 n (tQn n (fun M' => zb M' = rnd up U (zb M) ∧ cb M' ∧ uE M M')) := by
        intro M2 q1 q2 q3 q4
        refine tb_X12_rounds_177 (c := false) ?_
        simp only [kb_X12_rounds_177, w_re, true_and, and_true, Nat.reduceAdd, Nat.reduceSub, eq_self]
        refine ⟨rfl, rfl, q2.trans hres, ⟨⟨q3, q4⟩, ?_⟩, q1⟩
        unfold zb at q2
        omega
      refine tb_X12_rounds_140 (c := false) ?_
      simp only [kb_X12_rounds_140, w_ladd, tw_f, w_pf_14_5, w_ald_0, w_gf_14_5, w_ld2, w_lcmp, ne_eq, tlc_r, tlc_eq, tlc_lt, tlc_ge, tlc_gt, tlc_le, w_if_lt, w_dupi, w_dupr, w_lsub, w_gf_14_4, w_lc1, w_pf_14_4, w_nil, true_and, and_true, Nat.reduceAdd, Nat.reduceSub, eq_self, tshm_14, tshm_31, tshm_32, tykm_31, tykm_32, tykm_14, tci_14, tci_15, tci_960, u5_5,u5_4,u4_4,u4_5]
      refine ⟨by omega, fun h => fin _ (uE_tr uE_5 uE_5) ?_ ?_ ?_, fun h => fin _ (uE_tr (uE_tr (uE_tr uE_5 uE_5) uE_5) uE_4) ?_ ?_ ?_⟩
      · unfold zb
        rw [u5_5, u5_4, u5_4]
        omega
      · rw [u5_5]
        omega
      · rw [u5_5]
        omega
      · unfold zb
        rw [u4_4, u4_5, u5_5]
        omega
      · rw [u4_5, u5_5]
        omega
      · rw [u4_5, u5_5]
        omega
    have n139 : (up = 0 ∨ r = 0) → tT e d 3697 139 [some (.inr (.inr (.inl 664))), some (.inl (m : Int)), some (.inl up), some (.inr (.inl U)), none, some (.inr (.inl r)), none] [.inr (.inl (M 664 5 - r)), .inr (.inr (.inl 664))] (tU M 664 5 (M 664 5 - r)) n (tQn n (fun M' => zb M' = rnd up U (zb M) ∧ cb M' ∧ uE M M')) := by
      intro hc
      refine tb_X12_rounds_139 (c := false) ?_
      simp only [kb_X12_rounds_139, w_lc0, w_nil, true_and, and_true, Nat.reduceAdd, Nat.reduceSub, eq_self]
      exact n140 0 (Or.inl ⟨rfl, hc⟩)
    have htm : (M 664 5).tmod U = r := by
      rw [Int.tmod_eq_emod_of_nonneg h1.1, hr]
    refine tb_X12_rounds_0 (c := false) ?_
    simp only [kb_X12_rounds_0, w_ild_1, w_if_ne, w_ld2, w_goto, true_and, and_true, Nat.reduceAdd, Nat.reduceSub, eq_self]
    refine ⟨by omega, fun _ => ?_, fun h => by omega⟩
    refine tb_X12_rounds_10 (c := false) ?_
    simp only [kb_X12_rounds_10, w_bi, w_ild_1, w_isub, w_is1, tfr_0, tfr_1, tfr_2, tfr_3, tfr_4, w_nil, true_and, and_true, Nat.reduceAdd, Nat.reduceSub, eq_self]
    rw [show (10 : Int) - (m : Int) = ((10 - m : Nat) : Int) by omega]
    refine tc_l (D := 0) (fun d' _ => c_ten (k := 10 - m) (by omega)) (by omega) ?_
    rintro _ _ ⟨rfl, rfl⟩
    rw [hUU]
    refine tb_X12_rounds_17 (c := false) ?_
    simp only [kb_X12_rounds_17, w_lst_3, tkl_n, tkl_i, tkl_l, tkl_r, w_ild_1, w_if_ne, w_ald_0, w_gf_14_4, tw_f, w_ld2, w_is2, tfr_0, tfr_1, tfr_2, tfr_3, tfr_4, w_lmul, w_gf_14_5, w_ladd, w_goto, true_and, and_true, Nat.reduceAdd, Nat.reduceSub, eq_self, tshm_14, tshm_31, tshm_32, tykm_31, tykm_32, tykm_14, tci_14, tci_15, tci_960]
    refine ⟨by omega, fun _ => ?_, fun h => by omega⟩
    refine tb_X12_rounds_44 (c := false) ?_
    simp only [kb_X12_rounds_44, w_ald_0, w_gf_14_5, tw_f, w_lld_3, w_lrem, w_nil, true_and, and_true, Nat.reduceAdd, Nat.reduceSub, eq_self, tshm_14, tshm_31, tshm_32, tykm_31, tykm_32, tykm_14, tci_14, tci_15, tci_960]
    rw [htm]
    refine ⟨by omega, ?_⟩
    refine tb_X12_rounds_50 (c := false) ?_
    simp only [kb_X12_rounds_50, w_lst5, tkl_n, tkl_i, tkl_l, tkl_r, w_ild_1, w_if_ne, w_ald_0, w_dupi, w_dupr, w_gf_14_4, tw_f, w_ld2, w_is2, tfr_0, tfr_1, tfr_2, tfr_3, tfr_4, w_lsub, w_pf_14_4, w_lc0, w_pf_14_5, w_ild_2, w_if_eq, w_lld5, w_lcmp, ne_eq, tlc_r, tlc_eq, tlc_lt, tlc_ge, tlc_gt, tlc_le, w_if_le, w_goto, true_and, and_true, Nat.reduceAdd, Nat.reduceSub, eq_self, tshm_14, tshm_31, tshm_32, tykm_31, tykm_32, tykm_14, tci_14, tci_15, tci_960]
    refine ⟨by omega, fun _ => ?_, fun h => by omega⟩
    refine tb_X12_rounds_108 (c := false) ?_
    simp only [kb_X12_rounds_108, w_ald_0, w_dupi, w_dupr, w_gf_14_5, tw_f, w_lld5, w_lsub, w_pf_14_5, w_ild_2, w_if_eq, w_lc0, w_lcmp, ne_eq, tlc_r, tlc_eq, tlc_lt, tlc_ge, tlc_gt, tlc_le, w_if_le, w_lld_3, w_goto, true_and, and_true, Nat.reduceAdd, Nat.reduceSub, eq_self, tshm_14, tshm_31, tshm_32, tykm_31, tykm_32, tykm_14, tci_14, tci_15, tci_960, u5_5]
    refine ⟨by omega, fun h => n139 (Or.inl h), fun h => ⟨by omega, fun h3 => n139 (Or.inr (by omega)), fun h3 => n140 U (Or.inr ⟨rfl, by omega, by omega⟩)⟩⟩
end MODEL
