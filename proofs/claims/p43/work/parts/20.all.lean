/-! ALL THAT IS OWED of the code; the law's end out of one reading. -/
theorem bdk2 : ∀ k, k < 6 → bdok (tyX0 k) = true := by decide +kernel
theorem bdk3 : ∀ k, k < 2 → bdok (tyX1 k) = true := by decide +kernel
theorem bdk4 : ∀ k, k < 2 → bdok (tyX2 k) = true := by decide +kernel
theorem bdk5 : ∀ k, k < 13 → bdok (tyX3 k) = true := by decide +kernel
theorem bdk6 : ∀ k, k < 2 → bdok (tyX4 k) = true := by decide +kernel
theorem bdk7 : ∀ k, k < 12 → bdok (tyX5 k) = true := by decide +kernel
theorem bdk8 : ∀ k, k < 8 → bdok (tyX6 k) = true := by decide +kernel
theorem bdk9 : ∀ k, k < 4 → bdok (tyX7 k) = true := by decide +kernel
theorem bdk10 : ∀ k, k < 13 → bdok (tyX8 k) = true := by decide +kernel
theorem bdk11 : ∀ k, k < 7 → bdok (tyX9 k) = true := by decide +kernel
theorem bdk12 : ∀ k, k < 2 → bdok (tyX10 k) = true := by decide +kernel
theorem bdk13 : ∀ k, k < 17 → bdok (tyX11 k) = true := by decide +kernel
theorem bdk14 : ∀ k, k < 43 → bdok (tyX12 k) = true := by decide +kernel
theorem b_rng {α : Type} {f : Nat → α} {n k : Nat} {d : α} (h : k < n) : ((List.range n).map f).getD k d = f k := by
  simp [List.getD_eq_getElem?_getD, h]
theorem b_lay (C : String) (T : u_T) (N : Nat) (h : ∀ w ∈ u_ws C T N, w ∈ lw_tbl) : ∀ w ∈ u_ws C T N, w ∈ bw_G := by
  intro w hw
  refine bw_in (h w hw) ?_
  obtain ⟨k, -, rfl⟩ := List.mem_map.mp hw
  unfold u_lay
  split <;> rfl
theorem bcls_ok : bClsOk := by
  intro ci C T N h h2
  match ci, h with
  | 0, h => omega
  | 1, h => omega
  | 2, h =>
    cases h
    exact ⟨rfl, fun k hk => by rw [show (bty 2).getD k .byte = tyX0 k from b_rng hk]; exact tyX0_ok k hk, b_lay _ _ _ bstart_in2, nmX0, fun k hk => by rw [show (bty 2).getD k .byte = tyX0 k from b_rng hk]; exact bdk2 k hk⟩
  | 3, h =>
    cases h
    exact ⟨rfl, fun k hk => by rw [show (bty 3).getD k .byte = tyX1 k from b_rng hk]; exact tyX1_ok k hk, b_lay _ _ _ bstart_in3, nmX1, fun k hk => by rw [show (bty 3).getD k .byte = tyX1 k from b_rng hk]; exact bdk3 k hk⟩
  | 4, h =>
    cases h
    exact ⟨rfl, fun k hk => by rw [show (bty 4).getD k .byte = tyX2 k from b_rng hk]; exact tyX2_ok k hk, b_lay _ _ _ bstart_in4, nmX2, fun k hk => by rw [show (bty 4).getD k .byte = tyX2 k from b_rng hk]; exact bdk4 k hk⟩
  | 5, h =>
    cases h
    exact ⟨rfl, fun k hk => by rw [show (bty 5).getD k .byte = tyX3 k from b_rng hk]; exact tyX3_ok k hk, b_lay _ _ _ bstart_in5, nmX3, fun k hk => by rw [show (bty 5).getD k .byte = tyX3 k from b_rng hk]; exact bdk5 k hk⟩
  | 6, h =>
    cases h
    exact ⟨rfl, fun k hk => by rw [show (bty 6).getD k .byte = tyX4 k from b_rng hk]; exact tyX4_ok k hk, b_lay _ _ _ bstart_in6, nmX4, fun k hk => by rw [show (bty 6).getD k .byte = tyX4 k from b_rng hk]; exact bdk6 k hk⟩
  | 7, h =>
    cases h
    exact ⟨rfl, fun k hk => by rw [show (bty 7).getD k .byte = tyX5 k from b_rng hk]; exact tyX5_ok k hk, b_lay _ _ _ bstart_in7, nmX5, fun k hk => by rw [show (bty 7).getD k .byte = tyX5 k from b_rng hk]; exact bdk7 k hk⟩
  | 8, h =>
    cases h
    exact ⟨rfl, fun k hk => by rw [show (bty 8).getD k .byte = tyX6 k from b_rng hk]; exact tyX6_ok k hk, b_lay _ _ _ bstart_in8, nmX6, fun k hk => by rw [show (bty 8).getD k .byte = tyX6 k from b_rng hk]; exact bdk8 k hk⟩
  | 9, h =>
    cases h
    exact ⟨rfl, fun k hk => by rw [show (bty 9).getD k .byte = tyX7 k from b_rng hk]; exact tyX7_ok k hk, b_lay _ _ _ bstart_in9, nmX7, fun k hk => by rw [show (bty 9).getD k .byte = tyX7 k from b_rng hk]; exact bdk9 k hk⟩
  | 10, h =>
    cases h
    exact ⟨rfl, fun k hk => by rw [show (bty 10).getD k .byte = tyX8 k from b_rng hk]; exact tyX8_ok k hk, b_lay _ _ _ bstart_in10, nmX8, fun k hk => by rw [show (bty 10).getD k .byte = tyX8 k from b_rng hk]; exact bdk10 k hk⟩
  | 11, h =>
    cases h
    exact ⟨rfl, fun k hk => by rw [show (bty 11).getD k .byte = tyX9 k from b_rng hk]; exact tyX9_ok k hk, b_lay _ _ _ bstart_in11, nmX9, fun k hk => by rw [show (bty 11).getD k .byte = tyX9 k from b_rng hk]; exact bdk11 k hk⟩
  | 12, h =>
    cases h
    exact ⟨rfl, fun k hk => by rw [show (bty 12).getD k .byte = tyX10 k from b_rng hk]; exact tyX10_ok k hk, b_lay _ _ _ bstart_in12, nmX10, fun k hk => by rw [show (bty 12).getD k .byte = tyX10 k from b_rng hk]; exact bdk12 k hk⟩
  | 13, h =>
    cases h
    exact ⟨rfl, fun k hk => by rw [show (bty 13).getD k .byte = tyX11 k from b_rng hk]; exact tyX11_ok k hk, b_lay _ _ _ bstart_in13, nmX11, fun k hk => by rw [show (bty 13).getD k .byte = tyX11 k from b_rng hk]; exact bdk13 k hk⟩
  | 14, h =>
    cases h
    exact ⟨rfl, fun k hk => by rw [show (bty 14).getD k .byte = tyX12 k from b_rng hk]; exact tyX12_ok k hk, b_lay _ _ _ bstart_in14, nmX12, fun k hk => by rw [show (bty 14).getD k .byte = tyX12 k from b_rng hk]; exact bdk14 k hk⟩
  | ci + 15, h => simp [vwCl] at h
theorem bfind_mem {l : List (Nat × bO)} {pc : Nat} {x : bO} (h : bfind l pc = some x) : (pc, x) ∈ l := by
  induction l with
  | nil => cases h
  | cons q t ih =>
    unfold bfind at h
    split at h
    · rename_i hq
      cases h
      subst hq
      exact List.mem_cons_self
    · exact List.mem_cons_of_mem _ (ih h)
theorem bAllOk_get {ok : bM → List (Nat × bO) → Prop} : ∀ {L : List (List (Nat × bO))} {Ms : List bM}, bAllOk ok L Ms → ∀ {k : Nat} {l : List (Nat × bO)}, L[k]? = some l → ∃ m, Ms[k]? = some m ∧ ok m l := by
  intro L
  induction L with
  | nil => intro Ms h k l hk; cases hk
  | cons a t ih =>
    intro Ms h k l hk
    cases Ms with
    | nil => exact h.elim
    | cons m u =>
      cases k with
      | zero => cases hk; exact ⟨m, rfl, h.1⟩
      | succ k => exact ih h.2 hk
theorem bk_all (c : Nat) : bAllOk (fun y l => bchk3 y l = true) (bkcs c) (bmcs c) := by
  match c with
  | 2 => exact bkA_2
  | 3 => exact bkA_3
  | 4 => exact bkA_4
  | 5 => exact bkA_5
  | 6 => exact bkA_6
  | 7 => exact bkA_7
  | 8 => exact bkA_8
  | 9 => exact bkA_9
  | 10 => exact bkA_10
  | 11 => exact bkA_11
  | 12 => exact bkA_12
  | 13 => exact bkA_13
  | 14 => exact bkA_14
  | 15 => exact bkA_15
  | 16 => exact bkA_16
  | 17 => exact bkA_17
  | 0 => exact trivial
  | 1 => exact trivial
  | c + 18 => exact trivial
theorem bop_in {mi pc : Nat} {x : bO} (h : bop mi pc = some x) : bchk2 (bmeth mi) (pc, x) = true ∧ (bmeth mi).2.2.1 ≤ 80 ∧ plainFor (bmeth mi).1 = true := by
  unfold bop at h
  have h1 := bfind_mem h
  cases hl : (bkcs (mi / 256))[mi % 256]? with
  | none =>
    rw [List.getD_eq_getElem?_getD, hl] at h1
    cases h1
  | some l =>
    rw [List.getD_eq_getElem?_getD, hl] at h1
    obtain ⟨m, hm, hok⟩ := bAllOk_get (bk_all (mi / 256)) hl
    have e : bmeth mi = m := by unfold bmeth; rw [List.getD_eq_getElem?_getD, hm]; rfl
    rw [e]
    have hok : bchk3 m l = true := hok
    unfold bchk3 at hok
    simp only [Bool.and_eq_true, decide_eq_true_eq] at hok
    exact ⟨List.all_eq_true.mp hok.2 _ h1, hok.1.1, hok.1.2⟩
theorem bmjs_len {a c : Nat} (h : (bmjs a).1 ≠ 0) (hc : a / 256 = c) : a % 256 < (bjcs c).length := by
  subst hc
  refine Nat.lt_of_not_le fun h9 => h ?_
  unfold bmjs
  rw [List.getD_eq_getElem?_getD, List.getElem?_eq_none h9]
  rfl
theorem bM_all (a : Nat) (h : (bmjs a).1 ≠ 0) : bchkM bmeth bmjs a = true ∧ bHead (bmeth a) ∈ bw_G := by
  have hl := bmjs_len h rfl
  have ha : a = 256 * (a / 256) + a % 256 := (Nat.div_add_mod a 256).symm
  generalize a / 256 = c at hl ha
  generalize a % 256 = k at hl ha
  subst ha
  match c, hl with
  | 2, hl =>
    obtain ⟨g1, g2⟩ := bkMA_2 k hl h
    refine ⟨g1, ?_⟩
    have e : bmeth (512 + k) = bm_2 k := by
      have hk : k < 256 := Nat.lt_trans hl (by decide +kernel)
      unfold bmeth bm_2
      rw [show (512 + k) / 256 = 2 by omega, show (512 + k) % 256 = k by omega]
      rfl
    rw [show 256 * 2 + k = 512 + k from rfl, e]
    exact g2
  | 3, hl =>
    obtain ⟨g1, g2⟩ := bkMA_3 k hl h
    refine ⟨g1, ?_⟩
    have e : bmeth (768 + k) = bm_3 k := by
      have hk : k < 256 := Nat.lt_trans hl (by decide +kernel)
      unfold bmeth bm_3
      rw [show (768 + k) / 256 = 3 by omega, show (768 + k) % 256 = k by omega]
      rfl
    rw [show 256 * 3 + k = 768 + k from rfl, e]
    exact g2
  | 4, hl =>
    obtain ⟨g1, g2⟩ := bkMA_4 k hl h
    refine ⟨g1, ?_⟩
    have e : bmeth (1024 + k) = bm_4 k := by
      have hk : k < 256 := Nat.lt_trans hl (by decide +kernel)
      unfold bmeth bm_4
      rw [show (1024 + k) / 256 = 4 by omega, show (1024 + k) % 256 = k by omega]
      rfl
    rw [show 256 * 4 + k = 1024 + k from rfl, e]
    exact g2
  | 5, hl =>
    obtain ⟨g1, g2⟩ := bkMA_5 k hl h
    refine ⟨g1, ?_⟩
    have e : bmeth (1280 + k) = bm_5 k := by
      have hk : k < 256 := Nat.lt_trans hl (by decide +kernel)
      unfold bmeth bm_5
      rw [show (1280 + k) / 256 = 5 by omega, show (1280 + k) % 256 = k by omega]
      rfl
    rw [show 256 * 5 + k = 1280 + k from rfl, e]
    exact g2
  | 6, hl =>
    obtain ⟨g1, g2⟩ := bkMA_6 k hl h
    refine ⟨g1, ?_⟩
    have e : bmeth (1536 + k) = bm_6 k := by
      have hk : k < 256 := Nat.lt_trans hl (by decide +kernel)
      unfold bmeth bm_6
      rw [show (1536 + k) / 256 = 6 by omega, show (1536 + k) % 256 = k by omega]
      rfl
    rw [show 256 * 6 + k = 1536 + k from rfl, e]
    exact g2
  | 7, hl =>
    obtain ⟨g1, g2⟩ := bkMA_7 k hl h
    refine ⟨g1, ?_⟩
    have e : bmeth (1792 + k) = bm_7 k := by
      have hk : k < 256 := Nat.lt_trans hl (by decide +kernel)
      unfold bmeth bm_7
      rw [show (1792 + k) / 256 = 7 by omega, show (1792 + k) % 256 = k by omega]
      rfl
    rw [show 256 * 7 + k = 1792 + k from rfl, e]
    exact g2
  | 8, hl =>
    obtain ⟨g1, g2⟩ := bkMA_8 k hl h
    refine ⟨g1, ?_⟩
    have e : bmeth (2048 + k) = bm_8 k := by
      have hk : k < 256 := Nat.lt_trans hl (by decide +kernel)
      unfold bmeth bm_8
      rw [show (2048 + k) / 256 = 8 by omega, show (2048 + k) % 256 = k by omega]
      rfl
    rw [show 256 * 8 + k = 2048 + k from rfl, e]
    exact g2
  | 9, hl =>
    obtain ⟨g1, g2⟩ := bkMA_9 k hl h
    refine ⟨g1, ?_⟩
    have e : bmeth (2304 + k) = bm_9 k := by
      have hk : k < 256 := Nat.lt_trans hl (by decide +kernel)
      unfold bmeth bm_9
      rw [show (2304 + k) / 256 = 9 by omega, show (2304 + k) % 256 = k by omega]
      rfl
    rw [show 256 * 9 + k = 2304 + k from rfl, e]
    exact g2
  | 10, hl =>
    obtain ⟨g1, g2⟩ := bkMA_10 k hl h
    refine ⟨g1, ?_⟩
    have e : bmeth (2560 + k) = bm_10 k := by
      have hk : k < 256 := Nat.lt_trans hl (by decide +kernel)
      unfold bmeth bm_10
      rw [show (2560 + k) / 256 = 10 by omega, show (2560 + k) % 256 = k by omega]
      rfl
    rw [show 256 * 10 + k = 2560 + k from rfl, e]
    exact g2
  | 11, hl =>
    obtain ⟨g1, g2⟩ := bkMA_11 k hl h
    refine ⟨g1, ?_⟩
    have e : bmeth (2816 + k) = bm_11 k := by
      have hk : k < 256 := Nat.lt_trans hl (by decide +kernel)
      unfold bmeth bm_11
      rw [show (2816 + k) / 256 = 11 by omega, show (2816 + k) % 256 = k by omega]
      rfl
    rw [show 256 * 11 + k = 2816 + k from rfl, e]
    exact g2
  | 12, hl =>
    obtain ⟨g1, g2⟩ := bkMA_12 k hl h
    refine ⟨g1, ?_⟩
    have e : bmeth (3072 + k) = bm_12 k := by
      have hk : k < 256 := Nat.lt_trans hl (by decide +kernel)
      unfold bmeth bm_12
      rw [show (3072 + k) / 256 = 12 by omega, show (3072 + k) % 256 = k by omega]
      rfl
    rw [show 256 * 12 + k = 3072 + k from rfl, e]
    exact g2
  | 13, hl =>
    obtain ⟨g1, g2⟩ := bkMA_13 k hl h
    refine ⟨g1, ?_⟩
    have e : bmeth (3328 + k) = bm_13 k := by
      have hk : k < 256 := Nat.lt_trans hl (by decide +kernel)
      unfold bmeth bm_13
      rw [show (3328 + k) / 256 = 13 by omega, show (3328 + k) % 256 = k by omega]
      rfl
    rw [show 256 * 13 + k = 3328 + k from rfl, e]
    exact g2
  | 14, hl =>
    obtain ⟨g1, g2⟩ := bkMA_14 k hl h
    refine ⟨g1, ?_⟩
    have e : bmeth (3584 + k) = bm_14 k := by
      have hk : k < 256 := Nat.lt_trans hl (by decide +kernel)
      unfold bmeth bm_14
      rw [show (3584 + k) / 256 = 14 by omega, show (3584 + k) % 256 = k by omega]
      rfl
    rw [show 256 * 14 + k = 3584 + k from rfl, e]
    exact g2
  | 15, hl =>
    obtain ⟨g1, g2⟩ := bkMA_15 k hl h
    refine ⟨g1, ?_⟩
    have e : bmeth (3840 + k) = bm_15 k := by
      have hk : k < 256 := Nat.lt_trans hl (by decide +kernel)
      unfold bmeth bm_15
      rw [show (3840 + k) / 256 = 15 by omega, show (3840 + k) % 256 = k by omega]
      rfl
    rw [show 256 * 15 + k = 3840 + k from rfl, e]
    exact g2
  | 16, hl =>
    obtain ⟨g1, g2⟩ := bkMA_16 k hl h
    refine ⟨g1, ?_⟩
    have e : bmeth (4096 + k) = bm_16 k := by
      have hk : k < 256 := Nat.lt_trans hl (by decide +kernel)
      unfold bmeth bm_16
      rw [show (4096 + k) / 256 = 16 by omega, show (4096 + k) % 256 = k by omega]
      rfl
    rw [show 256 * 16 + k = 4096 + k from rfl, e]
    exact g2
  | 17, hl =>
    obtain ⟨g1, g2⟩ := bkMA_17 k hl h
    refine ⟨g1, ?_⟩
    have e : bmeth (4352 + k) = bm_17 k := by
      have hk : k < 256 := Nat.lt_trans hl (by decide +kernel)
      unfold bmeth bm_17
      rw [show (4352 + k) / 256 = 17 by omega, show (4352 + k) % 256 = k by omega]
      rfl
    rw [show 256 * 17 + k = 4352 + k from rfl, e]
    exact g2
  | 0, hl => exact absurd hl (Nat.not_lt_zero _)
  | 1, hl => exact absurd hl (Nat.not_lt_zero _)
  | c + 18, hl => exact absurd hl (Nat.not_lt_zero _)
def bxI (a : Nat) : Nat := match a with | 3 => 13 | _ => 7
def bxR (a : Nat) : ByteArray := match a with | 3 => ⟨#[0x2a, 0x2b, 0xb7, 0x00, 0x0d, 0xb1]⟩ | _ => Bundle.six
theorem bx_rx (a : Nat) (ha : a < 6) : bRx (bxI a) (bxR a) := by
  match a, ha with
  | 0, _ => exact ⟨by decide +kernel, by decide +kernel, by decide +kernel, by decide +kernel⟩
  | 1, _ => exact ⟨by decide +kernel, by decide +kernel, by decide +kernel, by decide +kernel⟩
  | 2, _ => exact ⟨by decide +kernel, by decide +kernel, by decide +kernel, by decide +kernel⟩
  | 3, _ => exact ⟨by decide +kernel, by decide +kernel, by decide +kernel, by decide +kernel⟩
  | 4, _ => exact ⟨by decide +kernel, by decide +kernel, by decide +kernel, by decide +kernel⟩
  | 5, _ => exact ⟨by decide +kernel, by decide +kernel, by decide +kernel, by decide +kernel⟩
  | a + 6, h => omega
theorem bx_0 : ((Jvm.Cond.classLink "Boxedvalue" (bexx 0).2.2.1 (bexx 0).1 :: Jvm.Cond.initialized (bexx 0).1 :: bAt "Boxedvalue" (bexx 0).2.2.2 (bexx 0).1 (bxI 0) (bxR 0) (bexx 0).2.1).all (fun w => (decide (w ∈ lw_tbl) && goodWord w) || bwD.any (fun x => decide (w = .declares x)) || bwC.any (fun x => decide (w = .castable x x)))) = true := by decide +kernel
theorem bx_1 : ((Jvm.Cond.classLink "Boxedvalue" (bexx 1).2.2.1 (bexx 1).1 :: Jvm.Cond.initialized (bexx 1).1 :: bAt "Boxedvalue" (bexx 1).2.2.2 (bexx 1).1 (bxI 1) (bxR 1) (bexx 1).2.1).all (fun w => (decide (w ∈ lw_tbl) && goodWord w) || bwD.any (fun x => decide (w = .declares x)) || bwC.any (fun x => decide (w = .castable x x)))) = true := by decide +kernel
theorem bx_2 : ((Jvm.Cond.classLink "Boxedvalue" (bexx 2).2.2.1 (bexx 2).1 :: Jvm.Cond.initialized (bexx 2).1 :: bAt "Boxedvalue" (bexx 2).2.2.2 (bexx 2).1 (bxI 2) (bxR 2) (bexx 2).2.1).all (fun w => (decide (w ∈ lw_tbl) && goodWord w) || bwD.any (fun x => decide (w = .declares x)) || bwC.any (fun x => decide (w = .castable x x)))) = true := by decide +kernel
theorem bx_3 : ((Jvm.Cond.classLink "Boxedvalue" (bexx 3).2.2.1 (bexx 3).1 :: Jvm.Cond.initialized (bexx 3).1 :: bAt "Boxedvalue" (bexx 3).2.2.2 (bexx 3).1 (bxI 3) (bxR 3) (bexx 3).2.1).all (fun w => (decide (w ∈ lw_tbl) && goodWord w) || bwD.any (fun x => decide (w = .declares x)) || bwC.any (fun x => decide (w = .castable x x)))) = true := by decide +kernel
theorem bx_4 : ((Jvm.Cond.classLink "Boxedvalue" (bexx 4).2.2.1 (bexx 4).1 :: Jvm.Cond.initialized (bexx 4).1 :: bAt "Boxedvalue" (bexx 4).2.2.2 (bexx 4).1 (bxI 4) (bxR 4) (bexx 4).2.1).all (fun w => (decide (w ∈ lw_tbl) && goodWord w) || bwD.any (fun x => decide (w = .declares x)) || bwC.any (fun x => decide (w = .castable x x)))) = true := by decide +kernel
theorem bx_5 : ((Jvm.Cond.classLink "Boxedvalue" (bexx 5).2.2.1 (bexx 5).1 :: Jvm.Cond.initialized (bexx 5).1 :: bAt "Boxedvalue" (bexx 5).2.2.2 (bexx 5).1 (bxI 5) (bxR 5) (bexx 5).2.1).all (fun w => (decide (w ∈ lw_tbl) && goodWord w) || bwD.any (fun x => decide (w = .declares x)) || bwC.any (fun x => decide (w = .castable x x)))) = true := by decide +kernel
theorem bx_all (a : Nat) (ha : a < 6) : ∃ (ix : Nat) (rx : ByteArray), bRx ix rx ∧ Bundle.fit (bexx a).1 = true ∧ (∀ n ∈ (bexx a).2.1, Bundle.fit n = true) ∧ (bexx a).2.1.length ≤ 8 ∧ ∀ w ∈ Jvm.Cond.classLink "Boxedvalue" (bexx a).2.2.1 (bexx a).1 :: Jvm.Cond.initialized (bexx a).1 :: bAt "Boxedvalue" (bexx a).2.2.2 (bexx a).1 ix rx (bexx a).2.1, w ∈ bw_G ∨ (∃ x ∈ bwD, w = .declares x) ∨ ∃ x ∈ bwC, w = .castable x x := by
  have go : ∀ {L : List Jvm.Cond}, L.all (fun w => (decide (w ∈ lw_tbl) && goodWord w) || bwD.any (fun x => decide (w = .declares x)) || bwC.any (fun x => decide (w = .castable x x))) = true → ∀ w ∈ L, w ∈ bw_G ∨ (∃ x ∈ bwD, w = .declares x) ∨ ∃ x ∈ bwC, w = .castable x x := by
    intro L hL w hw
    have h1 := List.all_eq_true.mp hL w hw
    simp only [Bool.or_eq_true, Bool.and_eq_true, decide_eq_true_eq, List.any_eq_true] at h1
    rcases h1 with (h1 | ⟨x, hx, h1⟩) | ⟨x, hx, h1⟩
    · exact Or.inl (bw_in h1.1 h1.2)
    · exact Or.inr (Or.inl ⟨x, hx, h1⟩)
    · exact Or.inr (Or.inr ⟨x, hx, h1⟩)
  match a, ha with
  | 0, _ => exact ⟨bxI 0, bxR 0, bx_rx 0 (by decide), by decide +kernel, by decide +kernel, by decide +kernel, go bx_0⟩
  | 1, _ => exact ⟨bxI 1, bxR 1, bx_rx 1 (by decide), by decide +kernel, by decide +kernel, by decide +kernel, go bx_1⟩
  | 2, _ => exact ⟨bxI 2, bxR 2, bx_rx 2 (by decide), by decide +kernel, by decide +kernel, by decide +kernel, go bx_2⟩
  | 3, _ => exact ⟨bxI 3, bxR 3, bx_rx 3 (by decide), by decide +kernel, by decide +kernel, by decide +kernel, go bx_3⟩
  | 4, _ => exact ⟨bxI 4, bxR 4, bx_rx 4 (by decide), by decide +kernel, by decide +kernel, by decide +kernel, go bx_4⟩
  | 5, _ => exact ⟨bxI 5, bxR 5, bx_rx 5 (by decide), by decide +kernel, by decide +kernel, by decide +kernel, go bx_5⟩
  | a + 6, h => omega
theorem bhh_2 : (bmc_2.all (fun m => m.2.2.2.2.all (fun q => decide (q.1.2.2.2 ≠ 0) && (decide (Jvm.Cond.classLink m.1.cls q.1.2.2.2 q.2 ∈ lw_tbl) && goodWord (.classLink m.1.cls q.1.2.2.2 q.2))))) = true := by decide +kernel
theorem bhh_3 : (bmc_3.all (fun m => m.2.2.2.2.all (fun q => decide (q.1.2.2.2 ≠ 0) && (decide (Jvm.Cond.classLink m.1.cls q.1.2.2.2 q.2 ∈ lw_tbl) && goodWord (.classLink m.1.cls q.1.2.2.2 q.2))))) = true := by decide +kernel
theorem bhh_4 : (bmc_4.all (fun m => m.2.2.2.2.all (fun q => decide (q.1.2.2.2 ≠ 0) && (decide (Jvm.Cond.classLink m.1.cls q.1.2.2.2 q.2 ∈ lw_tbl) && goodWord (.classLink m.1.cls q.1.2.2.2 q.2))))) = true := by decide +kernel
theorem bhh_5 : (bmc_5.all (fun m => m.2.2.2.2.all (fun q => decide (q.1.2.2.2 ≠ 0) && (decide (Jvm.Cond.classLink m.1.cls q.1.2.2.2 q.2 ∈ lw_tbl) && goodWord (.classLink m.1.cls q.1.2.2.2 q.2))))) = true := by decide +kernel
theorem bhh_6 : (bmc_6.all (fun m => m.2.2.2.2.all (fun q => decide (q.1.2.2.2 ≠ 0) && (decide (Jvm.Cond.classLink m.1.cls q.1.2.2.2 q.2 ∈ lw_tbl) && goodWord (.classLink m.1.cls q.1.2.2.2 q.2))))) = true := by decide +kernel
theorem bhh_7 : (bmc_7.all (fun m => m.2.2.2.2.all (fun q => decide (q.1.2.2.2 ≠ 0) && (decide (Jvm.Cond.classLink m.1.cls q.1.2.2.2 q.2 ∈ lw_tbl) && goodWord (.classLink m.1.cls q.1.2.2.2 q.2))))) = true := by decide +kernel
theorem bhh_8 : (bmc_8.all (fun m => m.2.2.2.2.all (fun q => decide (q.1.2.2.2 ≠ 0) && (decide (Jvm.Cond.classLink m.1.cls q.1.2.2.2 q.2 ∈ lw_tbl) && goodWord (.classLink m.1.cls q.1.2.2.2 q.2))))) = true := by decide +kernel
theorem bhh_9 : (bmc_9.all (fun m => m.2.2.2.2.all (fun q => decide (q.1.2.2.2 ≠ 0) && (decide (Jvm.Cond.classLink m.1.cls q.1.2.2.2 q.2 ∈ lw_tbl) && goodWord (.classLink m.1.cls q.1.2.2.2 q.2))))) = true := by decide +kernel
theorem bhh_10 : (bmc_10.all (fun m => m.2.2.2.2.all (fun q => decide (q.1.2.2.2 ≠ 0) && (decide (Jvm.Cond.classLink m.1.cls q.1.2.2.2 q.2 ∈ lw_tbl) && goodWord (.classLink m.1.cls q.1.2.2.2 q.2))))) = true := by decide +kernel
theorem bhh_11 : (bmc_11.all (fun m => m.2.2.2.2.all (fun q => decide (q.1.2.2.2 ≠ 0) && (decide (Jvm.Cond.classLink m.1.cls q.1.2.2.2 q.2 ∈ lw_tbl) && goodWord (.classLink m.1.cls q.1.2.2.2 q.2))))) = true := by decide +kernel
theorem bhh_12 : (bmc_12.all (fun m => m.2.2.2.2.all (fun q => decide (q.1.2.2.2 ≠ 0) && (decide (Jvm.Cond.classLink m.1.cls q.1.2.2.2 q.2 ∈ lw_tbl) && goodWord (.classLink m.1.cls q.1.2.2.2 q.2))))) = true := by decide +kernel
theorem bhh_13 : (bmc_13.all (fun m => m.2.2.2.2.all (fun q => decide (q.1.2.2.2 ≠ 0) && (decide (Jvm.Cond.classLink m.1.cls q.1.2.2.2 q.2 ∈ lw_tbl) && goodWord (.classLink m.1.cls q.1.2.2.2 q.2))))) = true := by decide +kernel
theorem bhh_14 : (bmc_14.all (fun m => m.2.2.2.2.all (fun q => decide (q.1.2.2.2 ≠ 0) && (decide (Jvm.Cond.classLink m.1.cls q.1.2.2.2 q.2 ∈ lw_tbl) && goodWord (.classLink m.1.cls q.1.2.2.2 q.2))))) = true := by decide +kernel
theorem bhh_15 : (bmc_15.all (fun m => m.2.2.2.2.all (fun q => decide (q.1.2.2.2 ≠ 0) && (decide (Jvm.Cond.classLink m.1.cls q.1.2.2.2 q.2 ∈ lw_tbl) && goodWord (.classLink m.1.cls q.1.2.2.2 q.2))))) = true := by decide +kernel
theorem bhh_16 : (bmc_16.all (fun m => m.2.2.2.2.all (fun q => decide (q.1.2.2.2 ≠ 0) && (decide (Jvm.Cond.classLink m.1.cls q.1.2.2.2 q.2 ∈ lw_tbl) && goodWord (.classLink m.1.cls q.1.2.2.2 q.2))))) = true := by decide +kernel
theorem bhh_17 : (bmc_17.all (fun m => m.2.2.2.2.all (fun q => decide (q.1.2.2.2 ≠ 0) && (decide (Jvm.Cond.classLink m.1.cls q.1.2.2.2 q.2 ∈ lw_tbl) && goodWord (.classLink m.1.cls q.1.2.2.2 q.2))))) = true := by decide +kernel
theorem bhh_all (mi : Nat) (q : (Nat × Nat × Nat × Nat) × String) (h : q ∈ (bmeth mi).2.2.2.2) : q.1.2.2.2 ≠ 0 ∧ Jvm.Cond.classLink (bmeth mi).1.cls q.1.2.2.2 q.2 ∈ bw_G := by
  have go : ∀ {L : List bM}, L.all (fun m => m.2.2.2.2.all (fun q => decide (q.1.2.2.2 ≠ 0) && (decide (Jvm.Cond.classLink m.1.cls q.1.2.2.2 q.2 ∈ lw_tbl) && goodWord (.classLink m.1.cls q.1.2.2.2 q.2)))) = true → ∀ m ∈ L, ∀ q ∈ m.2.2.2.2, q.1.2.2.2 ≠ 0 ∧ Jvm.Cond.classLink m.1.cls q.1.2.2.2 q.2 ∈ bw_G := by
    intro L hL m hm q hq
    have h1 := List.all_eq_true.mp (List.all_eq_true.mp hL m hm) q hq
    simp only [Bool.and_eq_true, decide_eq_true_eq] at h1
    exact ⟨h1.1, bw_in h1.2.1 h1.2.2⟩
  cases hm : (bmcs (mi / 256))[mi % 256]? with
  | none =>
    have e : bmeth mi = bnoM := by unfold bmeth; rw [List.getD_eq_getElem?_getD, hm]; rfl
    rw [e] at h
    cases h
  | some m =>
    have e : bmeth mi = m := by unfold bmeth; rw [List.getD_eq_getElem?_getD, hm]; rfl
    rw [e] at h ⊢
    have hmem : m ∈ bmcs (mi / 256) := List.mem_of_getElem? hm
    generalize mi / 256 = c at hmem
    match c, hmem with
    | 2, hmem => exact go bhh_2 m hmem q h
    | 3, hmem => exact go bhh_3 m hmem q h
    | 4, hmem => exact go bhh_4 m hmem q h
    | 5, hmem => exact go bhh_5 m hmem q h
    | 6, hmem => exact go bhh_6 m hmem q h
    | 7, hmem => exact go bhh_7 m hmem q h
    | 8, hmem => exact go bhh_8 m hmem q h
    | 9, hmem => exact go bhh_9 m hmem q h
    | 10, hmem => exact go bhh_10 m hmem q h
    | 11, hmem => exact go bhh_11 m hmem q h
    | 12, hmem => exact go bhh_12 m hmem q h
    | 13, hmem => exact go bhh_13 m hmem q h
    | 14, hmem => exact go bhh_14 m hmem q h
    | 15, hmem => exact go bhh_15 m hmem q h
    | 16, hmem => exact go bhh_16 m hmem q h
    | 17, hmem => exact go bhh_17 m hmem q h
    | 0, hmem => cases hmem
    | 1, hmem => cases hmem
    | c + 18, hmem => cases hmem
theorem bobj_ok : Jvm.Cond.instanceMethod Lib.objectInit ∈ bw_G ∧ Jvm.Cond.code Lib.objectInit ⟨#[0xb1]⟩ 1 none ∈ bw_G := ⟨bw_in (by decide +kernel) rfl, bw_in (by decide +kernel) rfl⟩
theorem ball_ok {K : KE} {scr : List Int32} (hE : bEok K (bE scr)) (hs : K.str = bstr) (hn : K.nc = bncs) : bAll K (bPr scr) := by
  refine ⟨bcls_ok, hE, ?_, bhh_all, ?_, ?_⟩
  · intro mi pc x hx
    obtain ⟨h1, h2, h3⟩ := bop_in hx
    unfold bchk2 bchk1 at h1
    simp only [Bool.and_eq_true] at h1
    obtain ⟨⟨⟨g1, g2⟩, g3⟩, g4⟩ := h1
    exact ⟨bchkD_ok g1, bchkX_ok bobj_ok g2, bchkC_ok (P := bPr scr) (mj := bmjs) (fun a h => (bM_all a h).1) (fun a h => (bM_all a h).2) g3, bchkT_ok (P := bPr scr) (fun a => rfl) hs bx_all g4, h2, h3⟩
  · intro x n h
    have h : (if x ∈ bexs ∧ n ∈ bexs then some (decide (x = n)) else none) = some true := h
    split at h
    · rename_i hx
      have e : x = n := of_decide_eq_true (Option.some.inj h)
      subst e
      exact ⟨rfl, hx.1⟩
    · cases h
  · intro x n h
    have h : (if x ∈ bexs ∧ n ∈ bexs then some (decide (x = n)) else none) = some false := h
    split at h
    · rename_i hx
      have e : x ≠ n := of_decide_eq_false (Option.some.inj h)
      rw [hn]
      exact List.mem_flatMap.mpr ⟨x, hx.1, List.mem_map.mpr ⟨n, List.mem_filter.mpr ⟨hx.2, by simp [e]⟩, rfl⟩⟩
    · cases h
