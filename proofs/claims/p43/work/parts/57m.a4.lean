/-! THE CLASS BY VALUES: rows of five digits a place. -/
/-- what the first places of a row are worth -/
noncomputable def SV (M : tM) (r : Nat) : Nat → Int
  | 0 => 0
  | k + 1 => SV M r k + M r (k : Nat) * TT (5 * k)
theorem SV_s (M : tM) (r k : Nat) : SV M r (k + 1) = SV M r k + M r (k : Nat) * TT (5 * k) := rfl
theorem SV_u {M M' : tM} {r : Nat} : ∀ {k : Nat}, (∀ j : Nat, j < k → M' r (j : Nat) = M r (j : Nat)) → SV M' r k = SV M r k := by
  intro k
  induction k with
  | zero => intro _; rfl
  | succ k ih =>
    intro h
    rw [SV_s, SV_s, h k (by omega), ih (fun j q => h j (by omega))]
theorem SV_set {M : tM} {r j : Nat} {v : Int} : ∀ {k : Nat}, j < k → SV (tU M r (j : Nat) v) r k = SV M r k + (v - M r (j : Nat)) * TT (5 * j) := by
  intro k
  induction k with
  | zero => intro h; exact absurd h (Nat.not_lt_zero j)
  | succ k ih =>
    intro h
    rw [SV_s, SV_s]
    by_cases hj : j = k
    · subst hj
      rw [tU_eq, SV_u (M := M) (fun i q => tU_ni (by omega)), Int.sub_mul]
      omega
    · rw [ih (by omega), tU_ni (by omega)]
      omega
/-- a row of digits -/
def RD (M : tM) (r k : Nat) (N : Int) : Prop := (∀ j : Nat, j < k → 0 ≤ M r (j : Nat) ∧ M r (j : Nat) < 100000) ∧ SV M r k = N
theorem RD_u {M M' : tM} {r k : Nat} {N : Int} (h : RD M r k N) (e : ∀ i, M' r i = M r i) : RD M' r k N := ⟨fun j q => by rw [e]; exact h.1 j q, (SV_u (fun j _ => e _)).trans h.2⟩
theorem TT_5 : TT 5 = 100000 := by
  unfold TT
  rw [tn_def]
  rfl
theorem TT_5s (k : Nat) : TT (5 * (k + 1)) = TT (5 * k) * 100000 := by rw [show 5 * (k + 1) = 5 * k + 5 by omega, TT_add, TT_5]
theorem SV_r {M : tM} {r : Nat} : ∀ {k : Nat}, (∀ j : Nat, j < k → 0 ≤ M r (j : Nat) ∧ M r (j : Nat) < 100000) → 0 ≤ SV M r k ∧ SV M r k < TT (5 * k) := by
  intro k
  induction k with
  | zero =>
    intro _
    exact ⟨Int.le_refl _, TT_pos _⟩
  | succ k ih =>
    intro h
    have g := ih (fun j q => h j (by omega))
    have hk := h k (by omega)
    have t := TT_pos (5 * k)
    have p1 := Int.mul_nonneg hk.1 (Int.le_of_lt t)
    have p2 : M r (k : Nat) * TT (5 * k) ≤ 99999 * TT (5 * k) := Int.mul_le_mul_of_nonneg_right (by omega) (Int.le_of_lt t)
    rw [SV_s, TT_5s]
    omega
section HAND
variable {e : tE} {b d n : Nat} {M : tM}
theorem tsh_83 : tsh 83 = 21 := by rw [tsh_def]; decide +kernel
theorem tsh_84 : tsh 84 = 21 := by rw [tsh_def]; decide +kernel
theorem tsh_85 : tsh 85 = 22 := by rw [tsh_def]; decide +kernel
theorem tyk_21 : tyk 21 = (2, 2, 32) := rfl
theorem tyk_22 : tyk 22 = (2, 2, 5) := rfl
theorem tcq_32 : ((32 : Nat) : Int) = 32 := rfl
theorem tcq_5 : ((5 : Nat) : Int) = 5 := rfl
theorem nat_n (k : Nat) : ((k : Nat) : Int).toNat = k := Int.toNat_natCast k
/-- the two rows of the reckoner -/
def RC (M : tM) (a c : Nat) : Prop := ((a = 83 ∧ c = 84) ∨ (a = 84 ∧ c = 83)) ∧ M 79 4 = (a : Int) ∧ M 79 5 = (c : Int)
theorem RC_t {M : tM} {a c : Nat} (h : RC M a c) : tsh a = 21 ∧ tsh c = 21 ∧ a ≠ c ∧ (a ≠ 79 ∧ c ≠ 79) ∧ (a ≠ 85 ∧ c ≠ 85) := by
  rcases h.1 with ⟨rfl, rfl⟩ | ⟨rfl, rfl⟩
  · exact ⟨tsh_83, tsh_84, by decide, by decide, by decide⟩
  · exact ⟨tsh_84, tsh_83, by decide, by decide, by decide⟩
/-- a place of a row changes -/
theorem row_put {M : tM} {c : Nat} {i v : Int} (hb : b < 2) (hC : CI M) (h : c = 83 ∨ c = 84) (hi : 0 ≤ i ∧ i < 32) : CI (tU M c i v) ∧ pE b M (tU M c i v) := by
  have ht : tsh c = 21 := by rcases h with rfl | rfl; exact tsh_83; exact tsh_84
  exact ⟨CI_put hC ht (fun _ => trivial), pE_put (prt_a (t := 2) (Or.inl hb) ⟨by omega, by rw [ht]; rfl, hi.1, by rw [ht]; show _ < (32 : Int); exact hi.2⟩ (by decide) (fun q => by rw [ht] at q; cases q))⟩
theorem fac_put {M : tM} {i v : Int} (hb : b < 2) (hC : CI M) (hi : 0 ≤ i ∧ i < 5) : CI (tU M 85 i v) ∧ pE b M (tU M 85 i v) := by
  exact ⟨CI_put hC tsh_85 (fun _ => trivial), pE_put (prt_a (t := 2) (Or.inl hb) ⟨by omega, by rw [tsh_85]; rfl, hi.1, by rw [tsh_85]; show _ < (5 : Int); exact hi.2⟩ (by decide) (fun q => by rw [tsh_85] at q; cases q))⟩
/-- only one cell changes -/
def CE (b : Nat) (M M' : tM) (r : Nat) : Prop := (CI M' ∧ pE b M M') ∧ ∀ (k : Nat) (i : Int), k ≠ r → M' k i = M k i
theorem CE_refl {r : Nat} {M : tM} (hC : CI M) : CE b M M r := ⟨⟨hC, pE_refl⟩, fun _ _ _ => rfl⟩
theorem CE_tr {r : Nat} {M M1 M2 : tM} (h1 : CE b M M1 r) (h2 : CE b M1 M2 r) : CE b M M2 r := ⟨⟨h2.1.1, pE_tr h1.1.2 h2.1.2⟩, fun k i a => (h2.2 k i a).trans (h1.2 k i a)⟩
theorem CE_row {M : tM} {c : Nat} {i v : Int} (hb : b < 2) (hC : CI M) (h : c = 83 ∨ c = 84) (hi : 0 ≤ i ∧ i < 32) : CE b M (tU M c i v) c := ⟨row_put hb hC h hi, fun _ _ q => tU_nk q⟩
theorem CE_fac {M : tM} {i v : Int} (hb : b < 2) (hC : CI M) (hi : 0 ≤ i ∧ i < 5) : CE b M (tU M 85 i v) 85 := ⟨fac_put hb hC hi, fun _ _ q => tU_nk q⟩
/-- a bound spread over five places -/
theorem spr_v {x : Int} (hx : 0 ≤ x ∧ x < 100000000000000000000000) : x % 10000000000 % 100000 + x % 10000000000 / 100000 * 100000 + x / 10000000000 % 100000 * 10000000000 + x / 10000000000 / 100000 % 100000 * 1000000000000000 + x / 10000000000 / 100000 / 100000 * 100000000000000000000 = x := by omega
theorem TT_v : TT 0 = 1 ∧ TT 15 = 1000000000000000 ∧ TT 20 = 100000000000000000000 := by
  unfold TT
  rw [tn_def, tn_def, tn_def]
  exact ⟨rfl, rfl, rfl⟩
theorem SV_5 {M : tM} {r : Nat} : SV M r 5 = M r 0 + M r 1 * 100000 + M r 2 * 10000000000 + M r 3 * 1000000000000000 + M r 4 * 100000000000000000000 := by
  have h : SV M r 5 = ((((0 + M r 0 * TT 0) + M r 1 * TT 5) + M r 2 * TT 10) + M r 3 * TT 15) + M r 4 * TT 20 := rfl
  rw [h, TT_v.1, TT_5, TT_10, TT_v.2.1, TT_v.2.2]
  omega
theorem y_spread {x1 c : Nat} {v : Int} (h1 : cl x1 3) (hv : BB M x1 v) (rv : 0 ≤ v ∧ v < 100000000000000000000000) (hc : c = 83 ∨ c = 84) (hb : b < 2) (hC : CI M) : tC e d 2571 [.inr (.inr (.inl x1)), .inr (.inr (.inl c))] M n (tQn n (fun M' => RD M' c 5 v ∧ CE b M M' c)) := by
  have hx := h1.1
  have hc1 : tsh c = 21 := by rcases hc with rfl | rfl; exact tsh_83; exact tsh_84
  have hne : x1 ≠ c := fun q => by rw [q, hc1] at hx; cases hx
  obtain ⟨v1, v2⟩ := hv
  refine tst_X8_spread ?_
  have td : ∀ y : Int, 0 ≤ y → y.tdiv 100000 = y / 100000 ∧ y.tmod 100000 = y % 100000 := fun y h => ⟨Int.tdiv_eq_ediv_of_nonneg h, Int.tmod_eq_emod_of_nonneg h⟩
  refine tb_X8_spread_0 (c := false) ?_
  simp only [kb_X8_spread_0, w_ald_1, w_ic, w_ald_0, w_gf_3_1, tw_f, w_ld2, w_lrem, w_las, w_ldiv, w_gf_3_0, w_re, true_and, and_true, Nat.reduceAdd, Nat.reduceSub, eq_self, tyk_3, tyk_21, tyk_22, tcq_32, tcq_5, hx, hc1]
  simp only [tU_nk hne, v1, v2]
  rw [(td (v % 10000000000) (by omega)).1, (td (v % 10000000000) (by omega)).2, (td (v / 10000000000) (by omega)).1, (td (v / 10000000000) (by omega)).2, (td (v / 10000000000 / 100000) (by omega)).1, (td (v / 10000000000 / 100000) (by omega)).2]
  have k0 := CE_row (i := 0) (v := v % 10000000000 % 100000) hb hC hc (by decide)
  have k1 := CE_tr k0 (CE_row (i := 1) (v := v % 10000000000 / 100000) hb k0.1.1 hc (by decide))
  have k2 := CE_tr k1 (CE_row (i := 2) (v := v / 10000000000 % 100000) hb k1.1.1 hc (by decide))
  have k3 := CE_tr k2 (CE_row (i := 3) (v := v / 10000000000 / 100000 % 100000) hb k2.1.1 hc (by decide))
  have k4 := CE_tr k3 (CE_row (i := 4) (v := v / 10000000000 / 100000 / 100000) hb k3.1.1 hc (by decide))
  have e4 : tU (tU (tU (tU (tU M c 0 (v % 10000000000 % 100000)) c 1 (v % 10000000000 / 100000)) c 2 (v / 10000000000 % 100000)) c 3 (v / 10000000000 / 100000 % 100000)) c 4 (v / 10000000000 / 100000 / 100000) c 4 = v / 10000000000 / 100000 / 100000 := tU_eq ..
  have e3 : tU (tU (tU (tU (tU M c 0 (v % 10000000000 % 100000)) c 1 (v % 10000000000 / 100000)) c 2 (v / 10000000000 % 100000)) c 3 (v / 10000000000 / 100000 % 100000)) c 4 (v / 10000000000 / 100000 / 100000) c 3 = v / 10000000000 / 100000 % 100000 := (tU_ni (by decide)).trans (tU_eq ..)
  have e2 : tU (tU (tU (tU (tU M c 0 (v % 10000000000 % 100000)) c 1 (v % 10000000000 / 100000)) c 2 (v / 10000000000 % 100000)) c 3 (v / 10000000000 / 100000 % 100000)) c 4 (v / 10000000000 / 100000 / 100000) c 2 = v / 10000000000 % 100000 := (tU_ni (by decide)).trans ((tU_ni (by decide)).trans (tU_eq ..))
  have e1 : tU (tU (tU (tU (tU M c 0 (v % 10000000000 % 100000)) c 1 (v % 10000000000 / 100000)) c 2 (v / 10000000000 % 100000)) c 3 (v / 10000000000 / 100000 % 100000)) c 4 (v / 10000000000 / 100000 / 100000) c 1 = v % 10000000000 / 100000 := (tU_ni (by decide)).trans ((tU_ni (by decide)).trans ((tU_ni (by decide)).trans (tU_eq ..)))
  have e0 : tU (tU (tU (tU (tU M c 0 (v % 10000000000 % 100000)) c 1 (v % 10000000000 / 100000)) c 2 (v / 10000000000 % 100000)) c 3 (v / 10000000000 / 100000 % 100000)) c 4 (v / 10000000000 / 100000 / 100000) c 0 = v % 10000000000 % 100000 := (tU_ni (by decide)).trans ((tU_ni (by decide)).trans ((tU_ni (by decide)).trans ((tU_ni (by decide)).trans (tU_eq ..))))
  refine ⟨by omega, by omega, by omega, by omega, by omega, by omega, by omega, by omega, by omega, by omega, by omega, by omega, rfl, rfl, ⟨fun j hj => ?_, ?_⟩, k4⟩
  · rcases (show j = 0 ∨ j = 1 ∨ j = 2 ∨ j = 3 ∨ j = 4 by omega) with rfl | rfl | rfl | rfl | rfl
    · rw [show ((0 : Nat) : Int) = 0 from rfl, e0]; omega
    · rw [show ((1 : Nat) : Int) = 1 from rfl, e1]; omega
    · rw [show ((2 : Nat) : Int) = 2 from rfl, e2]; omega
    · rw [show ((3 : Nat) : Int) = 3 from rfl, e3]; omega
    · rw [show ((4 : Nat) : Int) = 4 from rfl, e4]; omega
  · rw [SV_5, e0, e1, e2, e3, e4]
    exact spr_v rv
theorem y_spreadF {x1 : Nat} {v : Int} (h1 : cl x1 3) (hv : BB M x1 v) (rv : 0 ≤ v ∧ v < 100000000000000000000000) (hb : b < 2) (hC : CI M) : tC e d 2571 [.inr (.inr (.inl x1)), .inr (.inr (.inl 85))] M n (tQn n (fun M' => RD M' 85 5 v ∧ CE b M M' 85)) := by
  have hx := h1.1
  have hc1 : tsh 85 = 22 := tsh_85
  have hne : x1 ≠ 85 := fun q => by rw [q, hc1] at hx; cases hx
  obtain ⟨v1, v2⟩ := hv
  refine tst_X8_spread ?_
  have td : ∀ y : Int, 0 ≤ y → y.tdiv 100000 = y / 100000 ∧ y.tmod 100000 = y % 100000 := fun y h => ⟨Int.tdiv_eq_ediv_of_nonneg h, Int.tmod_eq_emod_of_nonneg h⟩
  refine tb_X8_spread_0 (c := false) ?_
  simp only [kb_X8_spread_0, w_ald_1, w_ic, w_ald_0, w_gf_3_1, tw_f, w_ld2, w_lrem, w_las, w_ldiv, w_gf_3_0, w_re, true_and, and_true, Nat.reduceAdd, Nat.reduceSub, eq_self, tyk_3, tyk_21, tyk_22, tcq_32, tcq_5, hx, hc1]
  simp only [tU_nk hne, v1, v2]
  rw [(td (v % 10000000000) (by omega)).1, (td (v % 10000000000) (by omega)).2, (td (v / 10000000000) (by omega)).1, (td (v / 10000000000) (by omega)).2, (td (v / 10000000000 / 100000) (by omega)).1, (td (v / 10000000000 / 100000) (by omega)).2]
  have k0 := CE_fac (i := 0) (v := v % 10000000000 % 100000) hb hC (by decide)
  have k1 := CE_tr k0 (CE_fac (i := 1) (v := v % 10000000000 / 100000) hb k0.1.1 (by decide))
  have k2 := CE_tr k1 (CE_fac (i := 2) (v := v / 10000000000 % 100000) hb k1.1.1 (by decide))
  have k3 := CE_tr k2 (CE_fac (i := 3) (v := v / 10000000000 / 100000 % 100000) hb k2.1.1 (by decide))
  have k4 := CE_tr k3 (CE_fac (i := 4) (v := v / 10000000000 / 100000 / 100000) hb k3.1.1 (by decide))
  have e4 : tU (tU (tU (tU (tU M 85 0 (v % 10000000000 % 100000)) 85 1 (v % 10000000000 / 100000)) 85 2 (v / 10000000000 % 100000)) 85 3 (v / 10000000000 / 100000 % 100000)) 85 4 (v / 10000000000 / 100000 / 100000) 85 4 = v / 10000000000 / 100000 / 100000 := tU_eq ..
  have e3 : tU (tU (tU (tU (tU M 85 0 (v % 10000000000 % 100000)) 85 1 (v % 10000000000 / 100000)) 85 2 (v / 10000000000 % 100000)) 85 3 (v / 10000000000 / 100000 % 100000)) 85 4 (v / 10000000000 / 100000 / 100000) 85 3 = v / 10000000000 / 100000 % 100000 := (tU_ni (by decide)).trans (tU_eq ..)
  have e2 : tU (tU (tU (tU (tU M 85 0 (v % 10000000000 % 100000)) 85 1 (v % 10000000000 / 100000)) 85 2 (v / 10000000000 % 100000)) 85 3 (v / 10000000000 / 100000 % 100000)) 85 4 (v / 10000000000 / 100000 / 100000) 85 2 = v / 10000000000 % 100000 := (tU_ni (by decide)).trans ((tU_ni (by decide)).trans (tU_eq ..))
  have e1 : tU (tU (tU (tU (tU M 85 0 (v % 10000000000 % 100000)) 85 1 (v % 10000000000 / 100000)) 85 2 (v / 10000000000 % 100000)) 85 3 (v / 10000000000 / 100000 % 100000)) 85 4 (v / 10000000000 / 100000 / 100000) 85 1 = v % 10000000000 / 100000 := (tU_ni (by decide)).trans ((tU_ni (by decide)).trans ((tU_ni (by decide)).trans (tU_eq ..)))
  have e0 : tU (tU (tU (tU (tU M 85 0 (v % 10000000000 % 100000)) 85 1 (v % 10000000000 / 100000)) 85 2 (v / 10000000000 % 100000)) 85 3 (v / 10000000000 / 100000 % 100000)) 85 4 (v / 10000000000 / 100000 / 100000) 85 0 = v % 10000000000 % 100000 := (tU_ni (by decide)).trans ((tU_ni (by decide)).trans ((tU_ni (by decide)).trans ((tU_ni (by decide)).trans (tU_eq ..))))
  refine ⟨by omega, by omega, by omega, by omega, by omega, by omega, by omega, by omega, by omega, by omega, by omega, by omega, rfl, rfl, ⟨fun j hj => ?_, ?_⟩, k4⟩
  · rcases (show j = 0 ∨ j = 1 ∨ j = 2 ∨ j = 3 ∨ j = 4 by omega) with rfl | rfl | rfl | rfl | rfl
    · rw [show ((0 : Nat) : Int) = 0 from rfl, e0]; omega
    · rw [show ((1 : Nat) : Int) = 1 from rfl, e1]; omega
    · rw [show ((2 : Nat) : Int) = 2 from rfl, e2]; omega
    · rw [show ((3 : Nat) : Int) = 3 from rfl, e3]; omega
    · rw [show ((4 : Nat) : Int) = 4 from rfl, e4]; omega
  · rw [SV_5, e0, e1, e2, e3, e4]
    exact spr_v rv
end HAND
