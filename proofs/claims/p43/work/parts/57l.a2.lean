/-! THE CLASS BY VALUES: numbers with a rest, boxes, sums. -/
theorem up_eq {V u x : Int} (hu : UU u) (hx : 0 ≤ x ∧ x ≤ 1) : V + gup u (V % 10000000000) x = -dnv u (-V - x) := by
  have hu1 := hu.1
  have g := (rd_eq (V := V) (p := V % 10000000000) (q := V / 10000000000) (show 0 < u by omega) (by omega) hu.2).2
  have h := Int.emod_add_mul_ediv V u
  have m1 := Int.emod_nonneg V (show u ≠ 0 by omega)
  have m2 := Int.emod_lt_of_pos V (show 0 < u by omega)
  unfold gup dnv
  rw [g]
  split
  · rename_i q
    have k := (Int.ediv_emod_unique (a := -V - x) (r := 0) (q := -(V / u)) (show 0 < u by omega)).mpr ⟨by rw [Int.mul_neg]; omega, by omega, by omega⟩
    rw [k.1, Int.neg_mul, Int.mul_comm (V / u) u]
    omega
  · rename_i q
    have k := (Int.ediv_emod_unique (a := -V - x) (r := u - V % u - x) (q := -(V / u) - 1) (show 0 < u by omega)).mpr ⟨by rw [Int.mul_sub, Int.mul_neg, Int.mul_one]; omega, by omega, by omega⟩
    rw [k.1, Int.sub_mul, Int.neg_mul, Int.one_mul, Int.mul_comm (V / u) u]
    omega
/-- a number: twice its floor, and one more if there is more of it; told down and up -/
def dn (u t : Int) : Int := dnv u (t / 2)
def up (u t : Int) : Int := -dn u (-t)
theorem up_t {u t : Int} : up u t = -dnv u (-(t / 2) - t % 2) := by
  unfold up dn
  congr 2
  omega
/-- the reckoner has it -/
def RN (M : tM) (t : Int) : Prop := BB M 80 (t / 2) ∧ M 79 1 = t % 2
theorem dnv_le {u v w : Int} (hu : 0 < u) (h : v ≤ w) : dnv u v ≤ dnv u w := Int.mul_le_mul_of_nonneg_right (Int.ediv_le_ediv hu h) (Int.le_of_lt hu)
theorem dnv_r {u v : Int} (hu : 0 < u) : dnv u v ≤ v ∧ v < dnv u v + u := by
  have h := Int.emod_add_mul_ediv v u
  have m1 := Int.emod_nonneg v (Int.ne_of_gt hu)
  have m2 := Int.emod_lt_of_pos v hu
  unfold dnv
  rw [Int.mul_comm]
  omega
theorem dn_le {u s t : Int} (hu : 0 < u) (h : s ≤ t) : dn u s ≤ dn u t := dnv_le hu (by omega)
theorem up_le {u s t : Int} (hu : 0 < u) (h : s ≤ t) : up u s ≤ up u t := by
  have := dn_le hu (show -t ≤ -s by omega)
  unfold up
  omega
theorem dn_up {u t : Int} (hu : 0 < u) : dn u t ≤ up u t := by
  have h1 := dnv_r (v := t / 2) hu
  have h2 := dnv_r (v := (-t) / 2) hu
  unfold up dn
  omega
theorem dnv_m {u v q : Int} (hu : 0 < u) (h : q * u ≤ v) : q * u ≤ dnv u v := by
  unfold dnv
  exact Int.mul_le_mul_of_nonneg_right (Int.le_ediv_of_mul_le hu h) (Int.le_of_lt hu)
/-- with a finer unit a number is told within -/
theorem dnv_fine {u w v : Int} (hu : 0 < u) (hw : 0 < w) (hd : w ∣ u) : dnv u v ≤ dnv w v := by
  obtain ⟨k, hk⟩ := hd
  have h := (dnv_r (v := v) hu).1
  have e : dnv u v = (v / u * k) * w := by unfold dnv; rw [hk, Int.mul_assoc, Int.mul_comm k w]
  rw [e] at h ⊢
  exact dnv_m hw h
theorem dn_fine {u w t : Int} (hu : 0 < u) (hw : 0 < w) (hd : w ∣ u) : dn u t ≤ dn w t ∧ up w t ≤ up u t := by
  have h1 := dnv_fine (v := t / 2) hu hw hd
  have h2 := dnv_fine (v := (-t) / 2) hu hw hd
  unfold up dn
  omega
/-- the bounds of a box -/
def BX (M : tM) (r : Nat) (lo hi : Int) : Prop := BB M (r + 1) lo ∧ BB M (r + 2) hi
/-- only a box changes -/
def BE (b : Nat) (M M' : tM) (r : Nat) : Prop := (CI M' ∧ pE b M M') ∧ ∀ (k : Nat) (i : Int), k ≠ r + 1 → k ≠ r + 2 → M' k i = M k i
theorem BE_refl {b r : Nat} {M : tM} (hC : CI M) : BE b M M r := ⟨⟨hC, pE_refl⟩, fun _ _ _ _ => rfl⟩
theorem BE_tr {b r : Nat} {M M1 M2 : tM} (h1 : BE b M M1 r) (h2 : BE b M1 M2 r) : BE b M M2 r := ⟨⟨h2.1.1, pE_tr h1.1.2 h2.1.2⟩, fun k i a c => (h2.2 k i a c).trans (h1.2 k i a c)⟩
theorem BE_1 {b r : Nat} {M M1 : tM} (h : BD b M M1 (r + 1)) : BE b M M1 r := ⟨⟨h.1, h.2.1⟩, fun k i a _ => h.2.2 k i a⟩
theorem BE_2 {b r : Nat} {M M1 : tM} (h : BD b M M1 (r + 2)) : BE b M M1 r := ⟨⟨h.1, h.2.1⟩, fun k i _ a => h.2.2 k i a⟩
/-- boxes don't overlap -/
theorem bx_ne {r s : Nat} (hr : cl r 4) (hs : cl s 4) : r + 1 ≠ s + 2 ∧ r + 2 ≠ s + 1 := by
  have a1 := (bxl_1 hr).1
  have a2 := (bxl_1 hs).1
  refine ⟨fun q => ?_, fun q => ?_⟩
  · have e : r = s + 1 := by omega
    have := hr.1
    rw [e, a2] at this
    cases this
  · have e : s = r + 1 := by omega
    have := hs.1
    rw [e, a1] at this
    cases this
theorem BX_u {M M' : tM} {r s : Nat} {lo hi : Int} (h : BX M s lo hi) (hr : cl r 4) (hs : cl s 4) (hn : r ≠ s) (f : ∀ (k : Nat) (i : Int), k ≠ r + 1 → k ≠ r + 2 → M' k i = M k i) : BX M' s lo hi := by
  have g := bx_ne hr hs
  exact ⟨BB_u h.1 (fun i => f _ _ (by omega) (by omega)), BB_u h.2 (fun i => f _ _ (by omega) (by omega))⟩
theorem BX_f {M M' : tM} {s : Nat} {lo hi : Int} (h : BX M s lo hi) (f1 : ∀ i, M' (s + 1) i = M (s + 1) i) (f2 : ∀ i, M' (s + 2) i = M (s + 2) i) : BX M' s lo hi := ⟨BB_u h.1 f1, BB_u h.2 f2⟩
section HAND
variable {e : tE} {b d n : Nat} {M : tM}
theorem y_roundUp {r : Nat} {u v x : Int} (h0 : cl r 3) (hv : BB M r v) (rv : RV v) (hu : UU u) (hx : 0 ≤ x ∧ x ≤ 1) (hb : HB b r) (hC : CI M) : tC e d 779 [.inr (.inr (.inl r)), .inr (.inl u), .inl x] M n (tQn n (fun M' => BB M' r (-dnv u (-v - x)) ∧ BD b M M' r)) := by
  have a := BB_r hv rv
  obtain ⟨v1, v2⟩ := hv
  refine tC_mono (x_roundUp (b := b) h0 hu.1 hx a.2 hb hC) ?_
  rintro w M' n' ⟨q1, q2, ⟨q3, q4⟩, q5⟩
  refine ⟨q1, q2, ?_, q5⟩
  have g := up_eq (V := v) hu hx
  rw [v2] at q3
  rw [← g]
  exact ⟨by omega, by omega⟩
theorem y_tellDown {x1 : Nat} {u t : Int} (h1 : cl x1 3) (hR : RN M t) (rt : RV t) (hu : UU u) (hb : HB b x1) (hC : CI M) (hd : 1 ≤ d) : tC e d 2575 [.inr (.inr (.inl 79)), .inr (.inr (.inl x1)), .inr (.inl u)] M n (tQn n (fun M' => BB M' x1 (dn u t) ∧ BD b M M' x1)) := by
  have hx1 := h1.1
  have r2 : RV (t / 2) := by unfold RV at rt ⊢; omega
  refine tst_X8_tellDown ?_
  refine tb_X8_tellDown_0 (c := false) ?_
  simp only [kb_X8_tellDown_0, w_ald_1, w_ald_0, w_gf_10_0, tw_f, w_iv1, tfr_0, tfr_1, tfr_2, tfr_3, tfr_4, w_lld_2, w_re, true_and, and_true, Nat.reduceAdd, Nat.reduceSub, eq_self, tsh_79, tyk_10, tsh_80, tyk_3, tcq_10, tcq_3, hx1]
  refine tc_n (D := 0) (fun d' hd' => y_copy (b := b) h1 cl_80 hR.1 hb hC) (by omega) ?_
  rintro M1 ⟨q1, q2⟩
  try simp only [kb_X8_tellDown_0, w_ald_1, w_ald_0, w_gf_10_0, tw_f, w_iv1, tfr_0, tfr_1, tfr_2, tfr_3, tfr_4, w_lld_2, w_re, true_and, and_true, Nat.reduceAdd, Nat.reduceSub, eq_self, tsh_79, tyk_10, tsh_80, tyk_3, tcq_10, tcq_3, hx1]
  refine tc_n (D := 0) (fun d' hd' => y_roundDown (b := b) h1 q1 r2 hu hb q2.1) (by omega) ?_
  rintro M2 ⟨q3, q4⟩
  try simp only [kb_X8_tellDown_0, w_ald_1, w_ald_0, w_gf_10_0, tw_f, w_iv1, tfr_0, tfr_1, tfr_2, tfr_3, tfr_4, w_lld_2, w_re, true_and, and_true, Nat.reduceAdd, Nat.reduceSub, eq_self, tsh_79, tyk_10, tsh_80, tyk_3, tcq_10, tcq_3, hx1]
  exact ⟨rfl, rfl, q3, BD_tr q2 q4⟩
theorem y_tellUp {x1 : Nat} {u t : Int} (h1 : cl x1 3) (hR : RN M t) (rt : RV t) (hu : UU u) (hb : HB b x1) (hC : CI M) (hd : 1 ≤ d) : tC e d 2576 [.inr (.inr (.inl 79)), .inr (.inr (.inl x1)), .inr (.inl u)] M n (tQn n (fun M' => BB M' x1 (up u t) ∧ BD b M M' x1)) := by
  have hx1 := h1.1
  have h79 : x1 ≠ 79 := fun q => by rw [q, tsh_79] at hx1; cases hx1
  have r2 : RV (t / 2) := by unfold RV at rt ⊢; omega
  refine tst_X8_tellUp ?_
  refine tb_X8_tellUp_0 (c := false) ?_
  simp only [kb_X8_tellUp_0, w_ald_1, w_ald_0, w_gf_10_0, tw_f, w_iv1, tfr_0, tfr_1, tfr_2, tfr_3, tfr_4, w_lld_2, w_gf_10_1, w_iv2, w_re, true_and, and_true, Nat.reduceAdd, Nat.reduceSub, eq_self, tsh_79, tyk_10, tsh_80, tyk_3, tcq_10, tcq_3, hx1]
  refine tc_n (D := 0) (fun d' hd' => y_copy (b := b) h1 cl_80 hR.1 hb hC) (by omega) ?_
  rintro M1 ⟨q1, q2⟩
  try simp only [kb_X8_tellUp_0, w_ald_1, w_ald_0, w_gf_10_0, tw_f, w_iv1, tfr_0, tfr_1, tfr_2, tfr_3, tfr_4, w_lld_2, w_gf_10_1, w_iv2, w_re, true_and, and_true, Nat.reduceAdd, Nat.reduceSub, eq_self, tsh_79, tyk_10, tsh_80, tyk_3, tcq_10, tcq_3, hx1]
  have e79 : M1 79 1 = t % 2 := (q2.2.2 79 1 (Ne.symm h79)).trans hR.2
  rw [e79]
  refine tc_n (D := 0) (fun d' hd' => y_roundUp (b := b) h1 q1 r2 hu (by omega) hb q2.1) (by omega) ?_
  rintro M2 ⟨q3, q4⟩
  try simp only [kb_X8_tellUp_0, w_ald_1, w_ald_0, w_gf_10_0, tw_f, w_iv1, tfr_0, tfr_1, tfr_2, tfr_3, tfr_4, w_lld_2, w_gf_10_1, w_iv2, w_re, true_and, and_true, Nat.reduceAdd, Nat.reduceSub, eq_self, tsh_79, tyk_10, tsh_80, tyk_3, tcq_10, tcq_3, hx1]
  rw [← up_t] at q3
  exact ⟨rfl, rfl, q3, BD_tr q2 q4⟩
theorem RN_a {M : tM} {w p x : Int} (h1 : M 80 0 = w) (h2 : M 80 1 = p) (h3 : M 79 1 = x) (hp : 0 ≤ p ∧ p < 10000000000) (hx : 0 ≤ x ∧ x ≤ 1) : RN M (2 * (w * 10000000000 + p) + x) := by
  unfold RN BB
  omega
theorem y_rturn {t : Int} (hR : RN M t) (rt : RV t) (hb : b < 2) (hC : CI M) (hd : 1 ≤ d) : tC e d 2579 [.inr (.inr (.inl 79))] M n (tQn n (fun M' => RN M' (-t) ∧ BD b M M' 80)) := by
  have r2 : RV (t / 2) := by unfold RV at rt ⊢; omega
  have r3 : RV (-(t / 2)) := by unfold RV at rt ⊢; omega
  refine tst_X8_turn ?_
  refine tb_X8_turn_0 (c := false) ?_
  simp only [kb_X8_turn_0, w_ald_0, w_gf_10_0, tw_f, w_iv0, tfr_0, tfr_1, tfr_2, tfr_3, tfr_4, w_gf_10_1, w_if_eq, w_ld2, w_iv1, w_nil, true_and, and_true, Nat.reduceAdd, Nat.reduceSub, eq_self, tsh_79, tyk_10, tsh_80, tyk_3, tcq_10, tcq_3]
  refine tc_n (D := 0) (fun d' hd' => y_turn (b := b) cl_80 hR.1 r2 (Or.inl hb) hC) (by omega) ?_
  rintro M1 ⟨q1, q2⟩
  try simp only [kb_X8_turn_0, w_ald_0, w_gf_10_0, tw_f, w_iv0, tfr_0, tfr_1, tfr_2, tfr_3, tfr_4, w_gf_10_1, w_if_eq, w_ld2, w_iv1, w_nil, true_and, and_true, Nat.reduceAdd, Nat.reduceSub, eq_self, tsh_79, tyk_10, tsh_80, tyk_3, tcq_10, tcq_3]
  have e79 : M1 79 1 = t % 2 := (q2.2.2 79 1 (by decide)).trans hR.2
  rw [e79]
  refine ⟨by omega, fun h => ?_, fun h => ?_⟩
  · refine tb_X8_turn_24 (c := false) ?_
    simp only [kb_X8_turn_24, w_re, true_and, and_true, Nat.reduceAdd, Nat.reduceSub, eq_self]
    refine ⟨rfl, rfl, ⟨?_, ?_⟩, q2⟩
    · rw [show -t / 2 = -(t / 2) by omega]
      exact q1
    · rw [e79]
      omega
  refine tc_n (D := 0) (fun d' hd' => y_shift (b := b) cl_80 q1 r3 (by omega) (Or.inl hb) q2.1) (by omega) ?_
  rintro M2 ⟨q3, q4⟩
  try simp only [kb_X8_turn_0, w_ald_0, w_gf_10_0, tw_f, w_iv0, tfr_0, tfr_1, tfr_2, tfr_3, tfr_4, w_gf_10_1, w_if_eq, w_ld2, w_iv1, w_nil, true_and, and_true, Nat.reduceAdd, Nat.reduceSub, eq_self, tsh_79, tyk_10, tsh_80, tyk_3, tcq_10, tcq_3]
  refine tb_X8_turn_24 (c := false) ?_
  simp only [kb_X8_turn_24, w_re, true_and, and_true, Nat.reduceAdd, Nat.reduceSub, eq_self]
  refine ⟨rfl, rfl, ⟨?_, ?_⟩, BD_tr q2 q4⟩
  · rw [show -t / 2 = -(t / 2) + -1 by omega]
    exact q3
  · rw [q4.2.2 79 1 (by decide), e79]
    omega
theorem y_dropSign {r : Nat} {v : Int} (h0 : cl r 3) (hv : BB M r v) (rv : RV v) (hb : HB b r) (hC : CI M) (hd : 1 ≤ d) : tC e d 2563 [.inr (.inr (.inl r))] M n (tQi n (fun z M' => ((z = 1 ∧ v < 0 ∧ BB M' r (-v)) ∨ (z = 0 ∧ ¬ v < 0 ∧ BB M' r v)) ∧ BD b M M' r)) := by
  have hr := h0.1
  refine tst_X8_dropSign ?_
  refine tb_X8_dropSign_0 (c := false) ?_
  simp only [kb_X8_dropSign_0, w_ald_0, w_iv0, tfr_0, tfr_1, tfr_2, tfr_3, tfr_4, w_ist_1, tkl_n, tkl_i, tkl_l, tkl_r, w_ild_1, w_if_eq, w_nil, true_and, and_true, Nat.reduceAdd, Nat.reduceSub, eq_self, tyk_3, tcq_3, hr]
  refine tc_i (D := 0) (fun d' hd' => y_isNegative h0 hv rv) (by omega) ?_
  rintro z M1 ⟨q, rfl⟩
  try simp only [kb_X8_dropSign_0, w_ald_0, w_iv0, tfr_0, tfr_1, tfr_2, tfr_3, tfr_4, w_ist_1, tkl_n, tkl_i, tkl_l, tkl_r, w_ild_1, w_if_eq, w_nil, true_and, and_true, Nat.reduceAdd, Nat.reduceSub, eq_self, tyk_3, tcq_3, hr]
  have n13' : ∀ (M2 : tM) (w : Option tV), ((z = 1 ∧ v < 0 ∧ BB M2 r (-v)) ∨ (z = 0 ∧ ¬ v < 0 ∧ BB M2 r v)) → BD b M1 M2 r → tT e d 2563 13 [w, some (.inl (z))] [] M2 n (tQi n (fun z M' => ((z = 1 ∧ v < 0 ∧ BB M' r (-v)) ∨ (z = 0 ∧ ¬ v < 0 ∧ BB M' r v)) ∧ BD b M1 M' r)) := by
    intro M2 w g1 g2
    refine tb_X8_dropSign_13 (c := false) ?_
    simp only [kb_X8_dropSign_13, w_ild_1, w_ire, trg, true_and, and_true, Nat.reduceAdd, Nat.reduceSub, eq_self]
    exact ⟨by omega, _, rfl, rfl, g1, g2⟩
  refine ⟨by omega, fun h => ?_, fun h => ?_⟩
  · exact n13' _ _ (Or.inr ⟨h, by omega, hv⟩) (BD_refl hC)
  refine tc_n (D := 0) (fun d' hd' => y_turn (b := b) h0 hv rv hb hC) (by omega) ?_
  rintro M2 ⟨g1, g2⟩
  try simp only [kb_X8_dropSign_0, w_ald_0, w_iv0, tfr_0, tfr_1, tfr_2, tfr_3, tfr_4, w_ist_1, tkl_n, tkl_i, tkl_l, tkl_r, w_ild_1, w_if_eq, w_nil, true_and, and_true, Nat.reduceAdd, Nat.reduceSub, eq_self, tyk_3, tcq_3, hr]
  exact n13' _ _ (Or.inl ⟨by omega, by omega, g1⟩) g2
theorem z_copy {r x1 : Nat} {lo hi : Int} (h0 : cl r 4) (h1 : cl x1 4) (hv : BX M x1 lo hi) (hb : b < 2) (hC : CI M) (hd : 1 ≤ d) : tC e d 1026 [.inr (.inr (.inl r)), .inr (.inr (.inl x1))] M n (tQn n (fun M' => BX M' r lo hi ∧ BE b M M' r)) := by
  have hr := h0.1
  have hx := h1.1
  have hm1 := (bxl_1 h0).1
  have hm2 := (bxl_2 h0).1
  have hx1 := (bxl_1 h1).1
  have hx2 := (bxl_2 h1).1
  have g := bx_ne h0 h1
  refine tst_X2_copy ?_
  refine tb_X2_copy_0 (c := false) ?_
  simp only [kb_X2_copy_0, w_ald_0, w_gf_4_0, tw_f, w_ald_1, w_iv1, tfr_0, tfr_1, tfr_2, tfr_3, tfr_4, w_gf_4_1, w_re, true_and, and_true, Nat.reduceAdd, Nat.reduceSub, eq_self, tyk_4, tcq_4, tyk_3, tcq_3, hr, hx, hm1, hm2, hx1, hx2]
  refine tc_n (D := 0) (fun d' hd' => y_copy (b := b) (bxl_1 h0) (bxl_1 h1) hv.1 (Or.inl hb) hC) (by omega) ?_
  rintro M1 ⟨q0, q1⟩
  try simp only [kb_X2_copy_0, w_ald_0, w_gf_4_0, tw_f, w_ald_1, w_iv1, tfr_0, tfr_1, tfr_2, tfr_3, tfr_4, w_gf_4_1, w_re, true_and, and_true, Nat.reduceAdd, Nat.reduceSub, eq_self, tyk_4, tcq_4, tyk_3, tcq_3, hr, hx, hm1, hm2, hx1, hx2]
  refine tc_n (D := 0) (fun d' hd' => y_copy (b := b) (bxl_2 h0) (bxl_2 h1) (BB_u hv.2 (fun i => q1.2.2 _ _ (by omega))) (Or.inl hb) q1.1) (by omega) ?_
  rintro M2 ⟨q2, q3⟩
  try simp only [kb_X2_copy_0, w_ald_0, w_gf_4_0, tw_f, w_ald_1, w_iv1, tfr_0, tfr_1, tfr_2, tfr_3, tfr_4, w_gf_4_1, w_re, true_and, and_true, Nat.reduceAdd, Nat.reduceSub, eq_self, tyk_4, tcq_4, tyk_3, tcq_3, hr, hx, hm1, hm2, hx1, hx2]
  exact ⟨rfl, rfl, ⟨BB_u q0 (fun i => q3.2.2 _ _ (by omega)), q2⟩, BE_tr (BE_1 q1) (BE_2 q3)⟩
theorem z_between {r x1 x2 : Nat} {v w : Int} (h0 : cl r 4) (h1 : cl x1 3) (h2 : cl x2 3) (hv : BB M x1 v) (hw : BB M x2 w) (hn : x2 ≠ r + 1) (hb : b < 2) (hC : CI M) (hd : 1 ≤ d) : tC e d 1025 [.inr (.inr (.inl r)), .inr (.inr (.inl x1)), .inr (.inr (.inl x2))] M n (tQn n (fun M' => BX M' r v w ∧ BE b M M' r)) := by
  have hr := h0.1
  have hm1 := (bxl_1 h0).1
  have hm2 := (bxl_2 h0).1
  refine tst_X2_between ?_
  refine tb_X2_between_0 (c := false) ?_
  simp only [kb_X2_between_0, w_ald_0, w_gf_4_0, tw_f, w_ald_1, w_iv1, tfr_0, tfr_1, tfr_2, tfr_3, tfr_4, w_gf_4_1, w_ald_2, w_re, true_and, and_true, Nat.reduceAdd, Nat.reduceSub, eq_self, tyk_4, tcq_4, tyk_3, tcq_3, hr, hm1, hm2]
  refine tc_n (D := 0) (fun d' hd' => y_copy (b := b) (bxl_1 h0) h1 hv (Or.inl hb) hC) (by omega) ?_
  rintro M1 ⟨q0, q1⟩
  try simp only [kb_X2_between_0, w_ald_0, w_gf_4_0, tw_f, w_ald_1, w_iv1, tfr_0, tfr_1, tfr_2, tfr_3, tfr_4, w_gf_4_1, w_ald_2, w_re, true_and, and_true, Nat.reduceAdd, Nat.reduceSub, eq_self, tyk_4, tcq_4, tyk_3, tcq_3, hr, hm1, hm2]
  refine tc_n (D := 0) (fun d' hd' => y_copy (b := b) (bxl_2 h0) h2 (BB_u hw (fun i => q1.2.2 _ _ hn)) (Or.inl hb) q1.1) (by omega) ?_
  rintro M2 ⟨q2, q3⟩
  try simp only [kb_X2_between_0, w_ald_0, w_gf_4_0, tw_f, w_ald_1, w_iv1, tfr_0, tfr_1, tfr_2, tfr_3, tfr_4, w_gf_4_1, w_ald_2, w_re, true_and, and_true, Nat.reduceAdd, Nat.reduceSub, eq_self, tyk_4, tcq_4, tyk_3, tcq_3, hr, hm1, hm2]
  exact ⟨rfl, rfl, ⟨BB_u q0 (fun i => q3.2.2 _ _ (by omega)), q2⟩, BE_tr (BE_1 q1) (BE_2 q3)⟩
theorem z_isSingle {r : Nat} {lo hi : Int} (h0 : cl r 4) (hv : BX M r lo hi) (r1 : RV lo) (r2 : RV hi) (hd : 2 ≤ d) : tC e d 1031 [.inr (.inr (.inl r))] M n (tQi n (fun z M' => ((z = 1 ∧ lo = hi) ∨ (z = 0 ∧ ¬ lo = hi)) ∧ M' = M)) := by
  have a := BB_r hv.1 r1
  have b := BB_r hv.2 r2
  obtain ⟨⟨v1, v2⟩, w1, w2⟩ := hv
  refine tC_mono (x_isSingle h0 ⟨⟨a.1, b.1⟩, by omega⟩ hd) ?_
  rintro w M' n' ⟨z, q1, q2, q3, q4⟩
  exact ⟨z, q1, q2, by omega, q4⟩
theorem z_holdsZero {r : Nat} {lo hi : Int} (h0 : cl r 4) (hv : BX M r lo hi) (r1 : RV lo) (r2 : RV hi) (hd : 1 ≤ d) : tC e d 1030 [.inr (.inr (.inl r))] M n (tQi n (fun z M' => ((z = 1 ∧ (lo ≤ 0 ∧ 0 ≤ hi)) ∨ (z = 0 ∧ ¬ (lo ≤ 0 ∧ 0 ≤ hi))) ∧ M' = M)) := by
  have hr := h0.1
  have hm1 := (bxl_1 h0).1
  have hm2 := (bxl_2 h0).1
  refine tst_X2_holdsZero ?_
  have n25 : ∀ z : Int, ((z = 1 ∧ (lo ≤ 0 ∧ 0 ≤ hi)) ∨ (z = 0 ∧ ¬ (lo ≤ 0 ∧ 0 ≤ hi))) → tT e d 1030 25 [some (.inr (.inr (.inl (r))))] [.inl z] M n (tQi n (fun z M' => ((z = 1 ∧ (lo ≤ 0 ∧ 0 ≤ hi)) ∨ (z = 0 ∧ ¬ (lo ≤ 0 ∧ 0 ≤ hi))) ∧ M' = M)) := by
    intro z hz
    refine tb_X2_holdsZero_25 (c := false) ?_
    simp only [kb_X2_holdsZero_25, w_ire, trg, true_and, and_true, Nat.reduceAdd, Nat.reduceSub, eq_self]
    exact ⟨by omega, _, rfl, rfl, hz, rfl⟩
  have n24 : ¬ (lo ≤ 0 ∧ 0 ≤ hi) → tT e d 1030 24 [some (.inr (.inr (.inl (r))))] [] M n (tQi n (fun z M' => ((z = 1 ∧ (lo ≤ 0 ∧ 0 ≤ hi)) ∨ (z = 0 ∧ ¬ (lo ≤ 0 ∧ 0 ≤ hi))) ∧ M' = M)) := by
    intro h
    refine tb_X2_holdsZero_24 (c := false) ?_
    simp only [kb_X2_holdsZero_24, w_ic, w_nil, true_and, and_true, Nat.reduceAdd, Nat.reduceSub, eq_self]
    exact n25 0 (Or.inr ⟨rfl, h⟩)
  refine tb_X2_holdsZero_0 (c := false) ?_
  simp only [kb_X2_holdsZero_0, w_ald_0, w_gf_4_0, tw_f, w_iv0, tfr_0, tfr_1, tfr_2, tfr_3, tfr_4, w_if_ne, w_gf_4_1, w_ic, w_goto, true_and, and_true, Nat.reduceAdd, Nat.reduceSub, eq_self, tyk_4, tcq_4, tyk_3, tcq_3, hr, hm1, hm2]
  refine tc_i (D := 0) (fun d' hd' => y_isPositive (bxl_1 h0) hv.1 r1) (by omega) ?_
  rintro z M1 ⟨q, rfl⟩
  try simp only [kb_X2_holdsZero_0, w_ald_0, w_gf_4_0, tw_f, w_iv0, tfr_0, tfr_1, tfr_2, tfr_3, tfr_4, w_if_ne, w_gf_4_1, w_ic, w_goto, true_and, and_true, Nat.reduceAdd, Nat.reduceSub, eq_self, tyk_4, tcq_4, tyk_3, tcq_3, hr, hm1, hm2]
  refine ⟨by omega, fun h => n24 (by omega), fun h => ?_⟩
  refine tc_i (D := 0) (fun d' hd' => y_isNegative (bxl_2 h0) hv.2 r2) (by omega) ?_
  rintro z2 M2 ⟨q2, rfl⟩
  try simp only [kb_X2_holdsZero_0, w_ald_0, w_gf_4_0, tw_f, w_iv0, tfr_0, tfr_1, tfr_2, tfr_3, tfr_4, w_if_ne, w_gf_4_1, w_ic, w_goto, true_and, and_true, Nat.reduceAdd, Nat.reduceSub, eq_self, tyk_4, tcq_4, tyk_3, tcq_3, hr, hm1, hm2]
  exact ⟨by omega, fun h2 => n24 (by omega), fun h2 => n25 1 (by omega)⟩
theorem z_liesIn {r x1 : Nat} {lo hi l2 h2 : Int} (h0 : cl r 4) (h1 : cl x1 4) (hv : BX M r lo hi) (hw : BX M x1 l2 h2) (r1 : RV lo ∧ RV hi) (r2 : RV l2 ∧ RV h2) (hd : 1 ≤ d) : tC e d 1033 [.inr (.inr (.inl r)), .inr (.inr (.inl x1))] M n (tQi n (fun z M' => ((z = 1 ∧ (l2 ≤ lo ∧ hi ≤ h2)) ∨ (z = 0 ∧ ¬ (l2 ≤ lo ∧ hi ≤ h2))) ∧ M' = M)) := by
  have hr := h0.1
  have hm1 := (bxl_1 h0).1
  have hm2 := (bxl_2 h0).1
  have hx := h1.1
  have hx1 := (bxl_1 h1).1
  have hx2 := (bxl_2 h1).1
  refine tst_X2_liesIn ?_
  have n33 : ∀ z : Int, ((z = 1 ∧ (l2 ≤ lo ∧ hi ≤ h2)) ∨ (z = 0 ∧ ¬ (l2 ≤ lo ∧ hi ≤ h2))) → tT e d 1033 33 [some (.inr (.inr (.inl (r)))), some (.inr (.inr (.inl (x1))))] [.inl z] M n (tQi n (fun z M' => ((z = 1 ∧ (l2 ≤ lo ∧ hi ≤ h2)) ∨ (z = 0 ∧ ¬ (l2 ≤ lo ∧ hi ≤ h2))) ∧ M' = M)) := by
    intro z hz
    refine tb_X2_liesIn_33 (c := false) ?_
    simp only [kb_X2_liesIn_33, w_ire, trg, true_and, and_true, Nat.reduceAdd, Nat.reduceSub, eq_self]
    exact ⟨by omega, _, rfl, rfl, hz, rfl⟩
  have n32 : ¬ (l2 ≤ lo ∧ hi ≤ h2) → tT e d 1033 32 [some (.inr (.inr (.inl (r)))), some (.inr (.inr (.inl (x1))))] [] M n (tQi n (fun z M' => ((z = 1 ∧ (l2 ≤ lo ∧ hi ≤ h2)) ∨ (z = 0 ∧ ¬ (l2 ≤ lo ∧ hi ≤ h2))) ∧ M' = M)) := by
    intro h
    refine tb_X2_liesIn_32 (c := false) ?_
    simp only [kb_X2_liesIn_32, w_ic, w_nil, true_and, and_true, Nat.reduceAdd, Nat.reduceSub, eq_self]
    exact n33 0 (Or.inr ⟨rfl, h⟩)
  refine tb_X2_liesIn_0 (c := false) ?_
  simp only [kb_X2_liesIn_0, w_ald_0, w_gf_4_0, tw_f, w_ald_1, w_iv1, tfr_0, tfr_1, tfr_2, tfr_3, tfr_4, w_if_ne, w_gf_4_1, w_ic, w_goto, true_and, and_true, Nat.reduceAdd, Nat.reduceSub, eq_self, tyk_4, tcq_4, tyk_3, tcq_3, hr, hm1, hm2, hx, hx1, hx2]
  refine tc_i (D := 0) (fun d' hd' => y_isBelow (bxl_1 h0) (bxl_1 h1) hv.1 hw.1 r1.1 r2.1) (by omega) ?_
  rintro z M1 ⟨q, rfl⟩
  try simp only [kb_X2_liesIn_0, w_ald_0, w_gf_4_0, tw_f, w_ald_1, w_iv1, tfr_0, tfr_1, tfr_2, tfr_3, tfr_4, w_if_ne, w_gf_4_1, w_ic, w_goto, true_and, and_true, Nat.reduceAdd, Nat.reduceSub, eq_self, tyk_4, tcq_4, tyk_3, tcq_3, hr, hm1, hm2, hx, hx1, hx2]
  refine ⟨by omega, fun h => n32 (by omega), fun h => ?_⟩
  refine tc_i (D := 0) (fun d' hd' => y_isBelow (bxl_2 h1) (bxl_2 h0) hw.2 hv.2 r2.2 r1.2) (by omega) ?_
  rintro z2 M2 ⟨q2, rfl⟩
  try simp only [kb_X2_liesIn_0, w_ald_0, w_gf_4_0, tw_f, w_ald_1, w_iv1, tfr_0, tfr_1, tfr_2, tfr_3, tfr_4, w_if_ne, w_gf_4_1, w_ic, w_goto, true_and, and_true, Nat.reduceAdd, Nat.reduceSub, eq_self, tyk_4, tcq_4, tyk_3, tcq_3, hr, hm1, hm2, hx, hx1, hx2]
  exact ⟨by omega, fun h2 => n32 (by omega), fun h2 => n33 1 (by omega)⟩
theorem z_tooGreat {r : Nat} {lo hi : Int} (h0 : cl r 4) (hv : BX M r lo hi) (r1 : RV lo) (r2 : RV hi) (hd : 1 ≤ d) : tC e d 1032 [.inr (.inr (.inl r))] M n (tQi n (fun z M' => ((z = 1 ∧ (FZ lo ∨ FZ hi)) ∨ (z = 0 ∧ ¬ (FZ lo ∨ FZ hi))) ∧ M' = M)) := by
  have a := BB_r hv.1 r1
  have b := BB_r hv.2 r2
  have k1 := tgb_FZ a.2
  have k2 := tgb_FZ b.2
  obtain ⟨⟨v1, v2⟩, w1, w2⟩ := hv
  rw [show M (r + 1) 0 * 10000000000 + M (r + 1) 1 = lo by omega] at k1
  rw [show M (r + 2) 0 * 10000000000 + M (r + 2) 1 = hi by omega] at k2
  refine tC_mono (x_bTooGreat h0 ⟨a.1, b.1⟩ ⟨a.2, b.2⟩ hd) ?_
  rintro w M' n' ⟨z, q1, q2, q3, q4⟩
  rw [k1, k2] at q3
  exact ⟨z, q1, q2, q3, q4⟩
theorem z_turn {r : Nat} {lo hi : Int} (h0 : cl r 4) (hv : BX M r lo hi) (r1 : RV lo) (r2 : RV hi) (hb : b < 2) (hC : CI M) (hd : 1 ≤ d) : tC e d 1036 [.inr (.inr (.inl r))] M n (tQn n (fun M' => BX M' r (-hi) (-lo) ∧ BE b M M' r)) := by
  have hr := h0.1
  have hm1 := (bxl_1 h0).1
  have hm2 := (bxl_2 h0).1
  have a := BB_r hv.1 r1
  have e0 := hv.1.1
  have e1 := hv.1.2
  refine tst_X2_turn ?_
  refine tb_X2_turn_0 (c := false) ?_
  simp only [kb_X2_turn_0, w_ald_0, w_gf_4_0, tw_f, w_gf_3_0, w_lst_1, tkl_n, tkl_i, tkl_l, tkl_r, w_gf_3_1, w_lst_3, w_gf_4_1, w_iv1, tfr_0, tfr_1, tfr_2, tfr_3, tfr_4, w_iv0, w_lld_1, w_lld_3, w_iv2, w_re, true_and, and_true, Nat.reduceAdd, Nat.reduceSub, eq_self, tyk_4, tcq_4, tyk_3, tcq_3, hr, hm1, hm2]
  rw [e0, e1]
  refine tc_n (D := 0) (fun d' hd' => y_copy (b := b) (bxl_1 h0) (bxl_2 h0) hv.2 (Or.inl hb) hC) (by omega) ?_
  rintro M1 ⟨q0, q1⟩
  try simp only [kb_X2_turn_0, w_ald_0, w_gf_4_0, tw_f, w_gf_3_0, w_lst_1, tkl_n, tkl_i, tkl_l, tkl_r, w_gf_3_1, w_lst_3, w_gf_4_1, w_iv1, tfr_0, tfr_1, tfr_2, tfr_3, tfr_4, w_iv0, w_lld_1, w_lld_3, w_iv2, w_re, true_and, and_true, Nat.reduceAdd, Nat.reduceSub, eq_self, tyk_4, tcq_4, tyk_3, tcq_3, hr, hm1, hm2]
  refine tc_n (D := 0) (fun d' hd' => y_turn (b := b) (bxl_1 h0) q0 r2 (Or.inl hb) q1.1) (by omega) ?_
  rintro M2 ⟨q2, q3⟩
  try simp only [kb_X2_turn_0, w_ald_0, w_gf_4_0, tw_f, w_gf_3_0, w_lst_1, tkl_n, tkl_i, tkl_l, tkl_r, w_gf_3_1, w_lst_3, w_gf_4_1, w_iv1, tfr_0, tfr_1, tfr_2, tfr_3, tfr_4, w_iv0, w_lld_1, w_lld_3, w_iv2, w_re, true_and, and_true, Nat.reduceAdd, Nat.reduceSub, eq_self, tyk_4, tcq_4, tyk_3, tcq_3, hr, hm1, hm2]
  refine tc_n (D := 0) (fun d' hd' => y_assign (b := b) (bxl_2 h0) (by omega) (Or.inl hb) q3.1) (by omega) ?_
  rintro M3 ⟨q4, q5⟩
  try simp only [kb_X2_turn_0, w_ald_0, w_gf_4_0, tw_f, w_gf_3_0, w_lst_1, tkl_n, tkl_i, tkl_l, tkl_r, w_gf_3_1, w_lst_3, w_gf_4_1, w_iv1, tfr_0, tfr_1, tfr_2, tfr_3, tfr_4, w_iv0, w_lld_1, w_lld_3, w_iv2, w_re, true_and, and_true, Nat.reduceAdd, Nat.reduceSub, eq_self, tyk_4, tcq_4, tyk_3, tcq_3, hr, hm1, hm2]
  rw [show lo / 10000000000 * 10000000000 + lo % 10000000000 = lo by omega] at q4
  refine tc_n (D := 0) (fun d' hd' => y_turn (b := b) (bxl_2 h0) q4 r1 (Or.inl hb) q5.1) (by omega) ?_
  rintro M4 ⟨q6, q7⟩
  try simp only [kb_X2_turn_0, w_ald_0, w_gf_4_0, tw_f, w_gf_3_0, w_lst_1, tkl_n, tkl_i, tkl_l, tkl_r, w_gf_3_1, w_lst_3, w_gf_4_1, w_iv1, tfr_0, tfr_1, tfr_2, tfr_3, tfr_4, w_iv0, w_lld_1, w_lld_3, w_iv2, w_re, true_and, and_true, Nat.reduceAdd, Nat.reduceSub, eq_self, tyk_4, tcq_4, tyk_3, tcq_3, hr, hm1, hm2]
  exact ⟨rfl, rfl, ⟨BB_u (BB_u q2 (fun i => q5.2.2 _ _ (by omega))) (fun i => q7.2.2 _ _ (by omega)), q6⟩, BE_tr (BE_1 q1) (BE_tr (BE_1 q3) (BE_tr (BE_2 q5) (BE_2 q7)))⟩
end HAND
